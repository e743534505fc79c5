def f_X0_clear (I : z_I) (c : Nat) : z_I :=
  z_lt (z2 I c 10 (0 : Int32)) fun I1 =>
  z_lt (z2 I1 c 11 (0 : Int32)) fun I2 =>
  z_lt (z2 I2 c 12 (0 : Int32)) fun I3 =>
  z_lt (z2 I3 c 13 (0 : Int32)) fun I4 =>
  z_lt (z2 I4 c 14 (8 : Int32)) fun I5 =>
  z_lt (z2 I5 c 15 (0 : Int32)) fun I6 =>
  z_lt (z2 I6 c 16 (0 : Int32)) fun I7 =>
  I7
def f_X0_copyFrom (I : z_I) (L : z_L) (c : Nat) (p0 : Nat) : z_I × z_L :=
  z_lt (zr I (c + 1) (va_cpy (I (p0 + 1)) (I (c + 1)) 0 0 6)) fun I1 =>
  z_lt (zr I1 (c + 2) (va_cpy (I1 (p0 + 2)) (I1 (c + 2)) 0 0 6)) fun I2 =>
  z_lt (zr I2 (c + 3) (va_cpy (I2 (p0 + 3)) (I2 (c + 3)) 0 0 8)) fun I3 =>
  z_lt (zr I3 (c + 4) (va_cpy (I3 (p0 + 4)) (I3 (c + 4)) 0 0 7)) fun I4 =>
  z_lt (zr I4 (c + 5) (va_cpy (I4 (p0 + 5)) (I4 (c + 5)) 0 0 7)) fun I5 =>
  z_lt (zr I5 (c + 6) (va_cpy (I5 (p0 + 6)) (I5 (c + 6)) 0 0 7)) fun I6 =>
  z_lt (zr L (c + 7) (va_cpy (L (p0 + 7)) (L (c + 7)) 0 0 7)) fun L7 =>
  z_lt (zr I6 (c + 8) (va_cpy (I6 (p0 + 8)) (I6 (c + 8)) 0 0 4)) fun I8 =>
  z_lt (zr I8 (c + 9) (va_cpy (I8 (p0 + 9)) (I8 (c + 9)) 0 0 4)) fun I9 =>
  z_lt (zr L7 (c + 10) (va_cpy (L7 (p0 + 10)) (L7 (c + 10)) 0 0 4)) fun L10 =>
  z_lt (z2 I9 c 10 (I9 p0 10)) fun I11 =>
  z_lt (z2 I11 c 11 (I11 p0 11)) fun I12 =>
  z_lt (z2 I12 c 12 (I12 p0 12)) fun I13 =>
  z_lt (z2 I13 c 13 (I13 p0 13)) fun I14 =>
  z_lt (z2 I14 c 14 (I14 p0 14)) fun I15 =>
  z_lt (z2 I15 c 15 (I15 p0 15)) fun I16 =>
  z_lt (z2 I16 c 16 (I16 p0 16)) fun I17 =>
  (I17, L10)
def f_X0_hasBed (I : z_I) (c : Nat) (p0 : Int32) : Bool :=
  if p0 < 0 then
    false
  else
    if (I c 10) ≤ p0 then
      false
    else
      true
def f_X0_hasCase (I : z_I) (c : Nat) (p0 : Int32) : Bool :=
  if p0 < 0 then
    false
  else
    if (I c 11) ≤ p0 then
      false
    else
      true
def f_X0_setOfAll (I : z_I) (c : Nat) : Int32 :=
  (((1 : Int32) <<< ((I c 11) &&& 31)) - (1 : Int32))
def f_X0_hasCases (I : z_I) (c : Nat) (p0 : Int32) : Bool :=
  if (p0 &&& ((f_X0_setOfAll I c) ^^^ (-1 : Int32))) = 0 then
    true
  else
    false
def f_X0_hasClaim (I : z_I) (c : Nat) (p0 : Int32) : Bool :=
  if p0 < 0 then
    false
  else
    if (I c 12) ≤ p0 then
      false
    else
      true
def f_X0_hasScholar (I : z_I) (c : Nat) (p0 : Int32) : Bool :=
  if p0 < 0 then
    false
  else
    if (I c 13) ≤ p0 then
      false
    else
      true
def f_X0_isMade (I : z_I) (c : Nat) (p0 : Int32) : Bool :=
  if ((I c 16) &&& ((1 : Int32) <<< (p0 &&& 31))) = 0 then
    false
  else
    true
def g_X0_sumOf_4 (p0 : Nat) (p0n : Nat) (v1 : Int32) (I : z_I)  : Nat → Int32 → Int32 → Option (Int32)
  | 0, _, _ => none
  | n + 1, v2, v3 =>
    if v1 ≤ v3 then
      some v2
    else
      if zin v3 p0n = true then
        g_X0_sumOf_4 p0 p0n v1 I  n (v2 + (I p0 (v3).toNatClampNeg)) (v3 + (1 : Int32))
      else none
def f_X0_sumOf (I : z_I) (p0 p0n : Nat) (p1 : Int32) : Option (Int32) :=
  g_X0_sumOf_4 p0 p0n p1 I z_fuel (0 : Int32) (0 : Int32)
def f_X0_allCrocuses (I : z_I) (c : Nat) : Option (Int32) :=
  (f_X0_sumOf I (c + 1) 6 (I c 10)).bind fun q1 =>
    some q1
def f_X0_allShams (I : z_I) (c : Nat) : Option (Int32) :=
  (f_X0_sumOf I (c + 2) 6 (I c 10)).bind fun q1 =>
    some q1
def f_X0_allGold (I : z_I) (c : Nat) : Option (Int32) :=
  (f_X0_sumOf I (c + 9) 4 (I c 13)).bind fun q1 =>
    some q1
def g_X0_weightOf_4 (c : Nat) (v1 : Int32) (I : z_I)  : Nat → Int32 → Int32 → Option (Int32)
  | 0, _, _ => none
  | n + 1, v2, v3 =>
    if (I c 11) ≤ v3 then
      some v2
    else
      if (v1 &&& ((1 : Int32) <<< (v3 &&& 31))) = 0 then
        g_X0_weightOf_4 c v1 I  n v2 (v3 + (1 : Int32))
      else
        if zin v3 8 = true then
          g_X0_weightOf_4 c v1 I  n (v2 + (I (c + 3) (v3).toNatClampNeg)) (v3 + (1 : Int32))
        else none
def f_X0_weightOf (I : z_I) (c : Nat) (p0 : Int32) : Option (Int32) :=
  g_X0_weightOf_4 c p0 I z_fuel (0 : Int32) (0 : Int32)
def g_X0_heaviestOf_7 (c : Nat) (v1 : Int32) (I : z_I)  : Nat → Int32 → Int32 → Int32 → Option (Int32)
  | 0, _, _, _ => none
  | n + 1, v2, v3, v4 =>
    if (I c 11) ≤ v4 then
      some v2
    else
      if (v1 &&& ((1 : Int32) <<< (v4 &&& 31))) = 0 then
        g_X0_heaviestOf_7 c v1 I  n v2 v3 (v4 + (1 : Int32))
      else
        if zin v4 8 = true then
          if (I (c + 3) (v4).toNatClampNeg) ≤ v3 then
            g_X0_heaviestOf_7 c v1 I  n v2 v3 (v4 + (1 : Int32))
          else
            g_X0_heaviestOf_7 c v1 I  n v4 (I (c + 3) (v4).toNatClampNeg) (v4 + (1 : Int32))
        else none
def f_X0_heaviestOf (I : z_I) (c : Nat) (p0 : Int32) : Option (Int32) :=
  g_X0_heaviestOf_7 c p0 I z_fuel (-1 : Int32) (0 : Int32) (0 : Int32)
def f_X0_addBed (I : z_I) (c : Nat) (p0 : Int32) (p1 : Int32) : Option (z_I) :=
  if zin (I c 10) 6 = true then
    z_lt (z2 I (c + 1) ((I c 10)).toNatClampNeg p0) fun I2 =>
    z_lt (z2 I2 (c + 2) ((I c 10)).toNatClampNeg p1) fun I4 =>
    z_lt (z2 I4 c 10 ((I c 10) + (1 : Int32))) fun I5 =>
    some I5
  else none
def f_X0_addCase (I : z_I) (c : Nat) (p0 : Int32) : Option (z_I) :=
  if zin (I c 11) 8 = true then
    z_lt (z2 I (c + 3) ((I c 11)).toNatClampNeg p0) fun I2 =>
    z_lt (z2 I2 c 11 ((I c 11) + (1 : Int32))) fun I3 =>
    some I3
  else none
def f_X0_addClaim (I : z_I) (L : z_L) (c : Nat) (p0 : Int64) (p1 : Int32) (p2 : Int32) (p3 : Int32) : Option (z_I × z_L) :=
  if zin (I c 12) 7 = true then
    z_lt (z2 L (c + 7) ((I c 12)).toNatClampNeg p0) fun L2 =>
    z_lt (z2 I (c + 4) ((I c 12)).toNatClampNeg p1) fun I4 =>
    z_lt (z2 I4 (c + 5) ((I c 12)).toNatClampNeg p2) fun I6 =>
    z_lt (z2 I6 (c + 6) ((I c 12)).toNatClampNeg p3) fun I8 =>
    z_lt (z2 I8 c 12 ((I c 12) + (1 : Int32))) fun I9 =>
    some (I9, L2)
  else none
def f_X0_addScholar (I : z_I) (L : z_L) (c : Nat) (p0 : Int64) (p1 : Int32) (p2 : Int32) : Option (z_I × z_L) :=
  if zin (I c 13) 4 = true then
    z_lt (z2 L (c + 10) ((I c 13)).toNatClampNeg p0) fun L2 =>
    z_lt (z2 I (c + 8) ((I c 13)).toNatClampNeg p1) fun I4 =>
    z_lt (z2 I4 (c + 9) ((I c 13)).toNatClampNeg p2) fun I6 =>
    z_lt (z2 I6 c 13 ((I c 13) + (1 : Int32))) fun I7 =>
    some (I7, L2)
  else none
def g_X0_partUnder_12 (c : Nat) (v1 : Int32) (v2 : Int32) (I : z_I)  : Nat → Int32 → Int32 → Option (Int32)
  | 0, _, _ => none
  | n + 1, v3, v4 =>
    if (I c 12) ≤ v4 then
      some v3
    else
      if (v1 &&& ((1 : Int32) <<< (v4 &&& 31))) = 0 then
        g_X0_partUnder_12 c v1 v2 I  n v3 (v4 + (1 : Int32))
      else
        if zin v4 7 = true then
          if ((I (c + 6) (v4).toNatClampNeg) &&& ((1 : Int32) <<< (v2 &&& 31))) = 0 then
            z_lt (v3 &&& ((I (c + 6) (v4).toNatClampNeg) ^^^ (-1 : Int32))) fun w4 =>
            g_X0_partUnder_12 c v1 v2 I  n w4 (v4 + (1 : Int32))
          else
            g_X0_partUnder_12 c v1 v2 I  n (v3 &&& (I (c + 6) (v4).toNatClampNeg)) (v4 + (1 : Int32))
        else none
def f_X0_partUnder (I : z_I) (c : Nat) (p0 : Int32) (p1 : Int32) : Option (Int32) :=
  z_lt (((1 : Int32) <<< ((I c 11) &&& 31)) - (1 : Int32)) fun w1 =>
  g_X0_partUnder_12 c p0 p1 I z_fuel w1 (0 : Int32)
def g_X0_countParts_6 (c : Nat) (I : z_I)  : Nat → Int32 → Int32 → Int32 → Option (Int32)
  | 0, _, _, _ => none
  | n + 1, v1, v2, v3 =>
    if (I c 11) ≤ v3 then
      some v1
    else
      if (v2 &&& ((1 : Int32) <<< (v3 &&& 31))) = 0 then
        (f_X0_partUnder I c (I c 16) v3).bind fun q1 =>
          g_X0_countParts_6 c I  n (v1 + (1 : Int32)) (v2 ||| q1) (v3 + (1 : Int32))
      else
        g_X0_countParts_6 c I  n v1 v2 (v3 + (1 : Int32))
def f_X0_countParts (I : z_I) (c : Nat) : Option (Int32) :=
  g_X0_countParts_6 c I z_fuel (0 : Int32) (0 : Int32) (0 : Int32)
def f_J6_bitCount_0f7a4  (p0 : Int32) : Int32 :=
  z_lt (p0 - (((p0).toUInt32 >>> (((1 : Int32)).toUInt32 &&& Int32.toUInt32 31)).toInt32 &&& (1431655765 : Int32))) fun w1 =>
  z_lt ((w1 &&& (858993459 : Int32)) + (((w1).toUInt32 >>> (((2 : Int32)).toUInt32 &&& Int32.toUInt32 31)).toInt32 &&& (858993459 : Int32))) fun w2 =>
  z_lt ((w2 + ((w2).toUInt32 >>> (((4 : Int32)).toUInt32 &&& Int32.toUInt32 31)).toInt32) &&& (252645135 : Int32)) fun w3 =>
  z_lt (w3 + ((w3).toUInt32 >>> (((8 : Int32)).toUInt32 &&& Int32.toUInt32 31)).toInt32) fun w4 =>
  z_lt (w4 + ((w4).toUInt32 >>> (((16 : Int32)).toUInt32 &&& Int32.toUInt32 31)).toInt32) fun w5 =>
  (w5 &&& (63 : Int32))
def g_X0_yieldUnder_18 (c : Nat) (v1 : Int32) (v2 : Int32) (I : z_I)  : Nat → Int32 → Int32 → Int32 → Option (Int32)
  | 0, _, _, _ => none
  | n + 1, v3, v4, v5 =>
    if (I c 11) ≤ v5 then
      some ((3 : Int32) * v3)
    else
      if (v4 &&& ((1 : Int32) <<< (v5 &&& 31))) = 0 then
        (f_X0_partUnder I c v1 v5).bind fun q1 =>
          if zin v2 7 = true then
            z_lt (f_J6_bitCount_0f7a4 (q1 &&& (I (c + 6) (v2).toNatClampNeg))) fun w4 =>
            z_lt (v3 + (z_min w4 ((f_J6_bitCount_0f7a4 q1) - w4))) fun w5 =>
            g_X0_yieldUnder_18 c v1 v2 I  n w5 (v4 ||| q1) (v5 + (1 : Int32))
          else none
      else
        g_X0_yieldUnder_18 c v1 v2 I  n v3 v4 (v5 + (1 : Int32))
def f_X0_yieldUnder (I : z_I) (c : Nat) (p0 : Int32) (p1 : Int32) : Option (Int32) :=
  if (p0 &&& ((1 : Int32) <<< (p1 &&& 31))) = 0 then
    g_X0_yieldUnder_18 c p0 p1 I z_fuel (0 : Int32) (0 : Int32) (0 : Int32)
  else
    some (0 : Int32)
def g_X0_partedBy_5 (c : Nat) (v1 : Int32) (v2 : Int32) (I : z_I)  : Nat → Int32 → Int32 → Option (Int32)
  | 0, _, _ => none
  | n + 1, v3, v4 =>
    if (I c 12) ≤ v4 then
      some v3
    else
      if zin v4 7 = true then
        if (((I (c + 6) (v4).toNatClampNeg) >>> (v1 &&& 31)) &&& (1 : Int32)) = (((I (c + 6) (v4).toNatClampNeg) >>> (v2 &&& 31)) &&& (1 : Int32)) then
          g_X0_partedBy_5 c v1 v2 I  n v3 (v4 + (1 : Int32))
        else
          g_X0_partedBy_5 c v1 v2 I  n (v3 ||| ((1 : Int32) <<< (v4 &&& 31))) (v4 + (1 : Int32))
      else none
def f_X0_partedBy (I : z_I) (c : Nat) (p0 : Int32) (p1 : Int32) : Option (Int32) :=
  g_X0_partedBy_5 c p0 p1 I z_fuel (0 : Int32) (0 : Int32)
def g_X0_isPartedWhole_2 (c : Nat) (v1 : Int32) (v2 : Int32) (I : z_I)  : Nat → Int32 → Option (Bool)
  | 0, _ => none
  | n + 1, v3 =>
    if (I c 11) ≤ v3 then
      some true
    else
      (f_X0_partUnder I c v2 v3).bind fun q1 =>
        if (v1 &&& ((1 : Int32) <<< (v3 &&& 31))) = 0 then
          g_X0_isPartedWhole_2 c v1 v2 I  n (v3 + (1 : Int32))
        else
          if (q1 &&& v1) = ((1 : Int32) <<< (v3 &&& 31)) then
            g_X0_isPartedWhole_2 c v1 v2 I  n (v3 + (1 : Int32))
          else
            some false
def f_X0_isPartedWhole (I : z_I) (c : Nat) (p0 : Int32) (p1 : Int32) : Option (Bool) :=
  g_X0_isPartedWhole_2 c p0 p1 I z_fuel (0 : Int32)
def f_X0_putForward (I : z_I) (c : Nat) (p0 : Int32) : Option (Int32 × z_I) :=
  (f_X0_yieldUnder I c (I c 16) p0).bind fun q1 =>
    if zin p0 7 = true then
      z_lt (z2 I c 16 ((I c 16) ||| ((1 : Int32) <<< (p0 &&& 31)))) fun I4 =>
      if zin (I (c + 4) (p0).toNatClampNeg) 6 = true then
        z_lt (z2 I4 (c + 1) ((I (c + 4) (p0).toNatClampNeg)).toNatClampNeg (z_min (9999 : Int32) ((I (c + 1) ((I (c + 4) (p0).toNatClampNeg)).toNatClampNeg) + q1))) fun I7 =>
        some (q1, I7)
      else none
    else none
def f_X0_harvest (I : z_I) (c : Nat) (p0 : Int32) : Option (Int32 × z_I) :=
  if zin p0 4 = true then
    if zin (I (c + 8) (p0).toNatClampNeg) 6 = true then
      z_lt (I (c + 1) ((I (c + 8) (p0).toNatClampNeg)).toNatClampNeg) fun w3 =>
      z_lt (z2 I (c + 1) ((I (c + 8) (p0).toNatClampNeg)).toNatClampNeg (0 : Int32)) fun I5 =>
      z_lt (z2 I5 (c + 9) (p0).toNatClampNeg (z_min (9999 : Int32) ((I (c + 9) (p0).toNatClampNeg) + w3))) fun I8 =>
      some (w3, I8)
    else none
  else none
def g_X0_passNights_26 (c : Nat) (v1 : Int32)  : Nat → Int32 → z_I → Option (Bool × z_I)
  | 0, _, _ => none
  | n + 1, v2, I =>
    if (I c 10) ≤ v2 then
      some (true, I)
    else
      if zin v2 6 = true then
        z_lt (z2 I (c + 1) (v2).toNatClampNeg ((I (c + 1) (v2).toNatClampNeg) - (z_min v1 (I (c + 1) (v2).toNatClampNeg)))) fun I5 =>
        z_lt (z2 I5 (c + 2) (v2).toNatClampNeg (z_min (99 : Int32) ((I (c + 2) (v2).toNatClampNeg) + (z_min v1 (I (c + 1) (v2).toNatClampNeg))))) fun I8 =>
        g_X0_passNights_26 c v1  n (v2 + (1 : Int32)) I8
      else none
def f_X0_passNights (I : z_I) (c : Nat) (p0 : Int32) : Option (Bool × z_I) :=
  if ((I c 15) + p0) ≤ (9999 : Int32) then
    z_lt (z2 I c 15 ((I c 15) + p0)) fun I1 =>
    g_X0_passNights_26 c p0 z_fuel (0 : Int32) I1
  else
    some (false, I)
def g_X0_reapedWithin_14 (c : Nat) (v1 : Int32) (v2 : Int32) (v4 : Int32) (I : z_I) (k84 : Int32 → Option (Int32)) : Nat → Int32 → Int32 → Option (Int32)
  | 0, _, _ => none
  | n + 1, v3, v5 =>
    if (I c 10) ≤ v5 then
      k84 v3
    else
      if v2 < (((v1 - v4) + (v5 - v1)) + (z_min (v1 - v4) (v5 - v1))) then
        g_X0_reapedWithin_14 c v1 v2 v4 I k84 n v3 (v5 + (1 : Int32))
      else
        (f_X0_sumOf I (c + 1) 6 (v5 + (1 : Int32))).bind fun q1 =>
          (f_X0_sumOf I (c + 1) 6 v4).bind fun q3 =>
            g_X0_reapedWithin_14 c v1 v2 v4 I k84 n (z_max v3 (q1 - q3)) (v5 + (1 : Int32))
def g_X0_reapedWithin_5 (c : Nat) (v1 : Int32) (v2 : Int32) (I : z_I)  : Nat → Int32 → Int32 → Option (Int32)
  | 0, _, _ => none
  | n + 1, v3, v4 =>
    if v1 < v4 then
      some v3
    else
      g_X0_reapedWithin_14 c v1 v2 v4 I
        (fun v3_5 =>
          g_X0_reapedWithin_5 c v1 v2 I  n v3_5 (v4 + (1 : Int32))) z_fuel v3 v1
def f_X0_reapedWithin (I : z_I) (c : Nat) (p0 : Int32) (p1 : Int32) : Option (Int32) :=
  g_X0_reapedWithin_5 c p0 p1 I z_fuel (0 : Int32) (0 : Int32)
def g_X7_scanWord_5  (k85 : z_I → z_L → Option (z_I × z_L)) : Nat → z_I → z_L → Option (z_I × z_L)
  | 0, _, _ => none
  | n + 1, I, L =>
    if (I 39 2) ≤ (I 39 4) then
      k85 I L
    else
      if zin (I 39 4) 900 = true then
        if (I 2 ((I 39 4)).toNatClampNeg) < (97 : Int32) then
          k85 I L
        else
          if (122 : Int32) < (I 2 ((I 39 4)).toNatClampNeg) then
            k85 I L
          else
            z_lt (z2 L 39 8 (((L 39 8) * (27 : Int64)) + ((((I 2 ((I 39 4)).toNatClampNeg) - (97 : Int32)) + (1 : Int32)).toInt64))) fun L5 =>
            z_lt (z2 I 39 4 ((I 39 4) + (1 : Int32))) fun I6 =>
            g_X7_scanWord_5  k85 n I6 L5
      else none
def g_X7_scanWord_112 (L : z_L)  : Nat → Int32 → z_I → Option (z_I × z_L)
  | 0, _, _ => none
  | n + 1, v1, I =>
    if (23 : Int32) ≤ v1 then
      some (I, L)
    else
      if zin v1 23 = true then
        if (L 40 (v1).toNatClampNeg) = (L 39 8) then
          z_lt (z2 I 39 5 (2 : Int32)) fun I11 =>
          z_lt (z2 I11 39 6 v1) fun I12 =>
          g_X7_scanWord_112 L  n (v1 + (1 : Int32)) I12
        else
          g_X7_scanWord_112 L  n (v1 + (1 : Int32)) I
      else none
def f_X7_scanWord (I : z_I) (L : z_L)  : Option (z_I × z_L) :=
  z_lt (z2 L 39 8 (0 : Int64)) fun L1 =>
  g_X7_scanWord_5 
    (fun I_7 L_8 =>
      if ((I_7 39 4) - (I_7 39 3)) ≤ (8 : Int32) then
        z_lt (z2 I_7 39 5 (3 : Int32)) fun I9 =>
        g_X7_scanWord_112 L_8 z_fuel (0 : Int32) I9
      else
        z_lt (z2 I_7 39 5 (4 : Int32)) fun I13 =>
        some (I13, L_8)) z_fuel I L1
def g_X7_scanNumber_5  (k81 : z_I → Option (z_I)) : Nat → z_I → Option (z_I)
  | 0, _ => none
  | n + 1, I =>
    if (I 39 2) ≤ (I 39 4) then
      k81 I
    else
      if zin (I 39 4) 900 = true then
        if (I 2 ((I 39 4)).toNatClampNeg) < (48 : Int32) then
          k81 I
        else
          if (57 : Int32) < (I 2 ((I 39 4)).toNatClampNeg) then
            k81 I
          else
            z_lt (z2 I 39 7 ((((I 39 7) * (10 : Int32)) + (I 2 ((I 39 4)).toNatClampNeg)) - (48 : Int32))) fun I5 =>
            z_lt (z2 I5 39 4 ((I 39 4) + (1 : Int32))) fun I6 =>
            g_X7_scanNumber_5  k81 n I6
      else none
def f_X7_scanNumber (I : z_I)  : Option (z_I) :=
  z_lt (z2 I 39 7 (0 : Int32)) fun I1 =>
  g_X7_scanNumber_5 
    (fun I_7 =>
      if ((I_7 39 4) - (I_7 39 3)) ≤ (4 : Int32) then
        z_lt (z2 I_7 39 5 (5 : Int32)) fun I8 =>
        some I8
      else
        z_lt (z2 I_7 39 5 (1 : Int32)) fun I9 =>
        some I9) z_fuel I1
def f_X7_scanSign (I : z_I) (p0 : Int32) : z_I :=
  z_lt (z2 I 39 7 p0) fun I1 =>
  if p0 = (59 : Int32) then
    z_lt (z2 I1 39 5 (6 : Int32)) fun I2 =>
    z_lt (z2 I2 39 4 ((I 39 3) + (1 : Int32))) fun I3 =>
    I3
  else
    if p0 = (60 : Int32) then
      z_lt (z2 I1 39 5 (6 : Int32)) fun I4 =>
      z_lt (z2 I4 39 4 ((I 39 3) + (1 : Int32))) fun I5 =>
      I5
    else
      if p0 = (62 : Int32) then
        z_lt (z2 I1 39 5 (6 : Int32)) fun I6 =>
        z_lt (z2 I6 39 4 ((I 39 3) + (1 : Int32))) fun I7 =>
        I7
      else
        if p0 = (61 : Int32) then
          z_lt (z2 I1 39 5 (6 : Int32)) fun I8 =>
          z_lt (z2 I8 39 4 ((I 39 3) + (1 : Int32))) fun I9 =>
          I9
        else
          z_lt (z2 I1 39 5 (1 : Int32)) fun I10 =>
          z_lt (z2 I10 39 4 ((I 39 3) + (1 : Int32))) fun I11 =>
          I11
def g_X7_move_8 (L : z_L) (k60 : z_I → Option (z_I × z_L)) : Nat → z_I → Option (z_I × z_L)
  | 0, _ => none
  | n + 1, I =>
    if (I 39 2) ≤ (I 39 3) then
      k60 I
    else
      if zin (I 39 3) 900 = true then
        if (I 2 ((I 39 3)).toNatClampNeg) = (10 : Int32) then
          z_lt (z2 I 39 3 ((I 39 3) + (1 : Int32))) fun I3 =>
          g_X7_move_8 L k60 n I3
        else
          if (I 2 ((I 39 3)).toNatClampNeg) = (32 : Int32) then
            z_lt (z2 I 39 3 ((I 39 3) + (1 : Int32))) fun I5 =>
            g_X7_move_8 L k60 n I5
          else
            k60 I
      else none
def f_X7_move (I : z_I) (L : z_L)  : Option (z_I × z_L) :=
  z_lt (z2 I 39 3 (I 39 4)) fun I1 =>
  g_X7_move_8 L
    (fun I_6 =>
      z_lt (z2 I_6 39 4 (I_6 39 3)) fun I7 =>
      if (I_6 39 2) ≤ (I_6 39 3) then
        if (I_6 39 3) < (I_6 39 2) then
          some ((f_X7_scanSign I7 (0 : Int32)), L)
        else
          z_lt (z2 I7 39 5 (0 : Int32)) fun I8 =>
          some (I8, L)
      else
        if zin (I_6 39 3) 900 = true then
          if (I_6 39 3) < (I_6 39 2) then
            if (I_6 2 ((I_6 39 3)).toNatClampNeg) < (97 : Int32) then
              if (I_6 2 ((I_6 39 3)).toNatClampNeg) < (48 : Int32) then
                some ((f_X7_scanSign I7 (I_6 2 ((I_6 39 3)).toNatClampNeg)), L)
              else
                if (57 : Int32) < (I_6 2 ((I_6 39 3)).toNatClampNeg) then
                  some ((f_X7_scanSign I7 (I_6 2 ((I_6 39 3)).toNatClampNeg)), L)
                else
                  (f_X7_scanNumber I7).bind fun q10 =>
                    some (q10, L)
            else
              if (122 : Int32) < (I_6 2 ((I_6 39 3)).toNatClampNeg) then
                if (I_6 2 ((I_6 39 3)).toNatClampNeg) < (48 : Int32) then
                  some ((f_X7_scanSign I7 (I_6 2 ((I_6 39 3)).toNatClampNeg)), L)
                else
                  if (57 : Int32) < (I_6 2 ((I_6 39 3)).toNatClampNeg) then
                    some ((f_X7_scanSign I7 (I_6 2 ((I_6 39 3)).toNatClampNeg)), L)
                  else
                    (f_X7_scanNumber I7).bind fun q12 =>
                      some (q12, L)
              else
                (f_X7_scanWord I7 L).bind fun q14 =>
                  some (q14.1, q14.2)
          else
            z_lt (z2 I7 39 5 (0 : Int32)) fun I16 =>
            some (I16, L)
        else none) z_fuel I1
def f_X7_open (I : z_I) (L : z_L) (p0 : Int32) : Option (z_I × z_L) :=
  z_lt (z2 I 39 2 (z_min p0 (900 : Int32))) fun I1 =>
  z_lt (z2 I1 39 4 (0 : Int32)) fun I2 =>
  z_lt (z2 I2 39 11 (0 : Int32)) fun I3 =>
  z_lt (z2 I3 39 12 (-1 : Int32)) fun I4 =>
  (f_X7_move I4 L).bind fun q5 =>
    some (q5.1, q5.2)
def f_X7_isOver (I : z_I)  : Bool :=
  if (I 39 5) = 0 then
    true
  else
    false
def f_X7_keywordHere (I : z_I)  : Int32 :=
  if (I 39 5) = (2 : Int32) then
    (I 39 6)
  else
    (-1 : Int32)
def f_X7_fail (I : z_I) (p0 : Int32) : Bool × z_I :=
  if (I 39 5) = (1 : Int32) then
    z_lt (z2 I 39 11 (1 : Int32)) fun I1 =>
    z_lt (z2 I1 39 12 (I 39 3)) fun I2 =>
    (false, I2)
  else
    z_lt (z2 I 39 11 p0) fun I3 =>
    z_lt (z2 I3 39 12 (I 39 3)) fun I4 =>
    (false, I4)
def f_X7_takeNumber (I : z_I) (L : z_L) (p0 : Int32) (p1 : Int32) : Option (Bool × z_I × z_L) :=
  if (I 39 5) = (5 : Int32) then
    if (I 39 7) < p0 then
      some ((f_X7_fail I (4 : Int32)).1, (f_X7_fail I (4 : Int32)).2, L)
    else
      if (I 39 7) ≤ p1 then
        z_lt (z2 I 39 9 (I 39 7)) fun I1 =>
        (f_X7_move I1 L).bind fun q2 =>
          some (true, q2.1, q2.2)
      else
        some ((f_X7_fail I (4 : Int32)).1, (f_X7_fail I (4 : Int32)).2, L)
  else
    some ((f_X7_fail I (2 : Int32)).1, (f_X7_fail I (2 : Int32)).2, L)
def f_X7_takeSemicolon (I : z_I) (L : z_L)  : Option (Bool × z_I × z_L) :=
  if (I 39 5) = (6 : Int32) then
    if (I 39 7) = (59 : Int32) then
      (f_X7_move I L).bind fun q1 =>
        some (true, q1.1, q1.2)
    else
      some ((f_X7_fail I (2 : Int32)).1, (f_X7_fail I (2 : Int32)).2, L)
  else
    some ((f_X7_fail I (2 : Int32)).1, (f_X7_fail I (2 : Int32)).2, L)
def f_X1_takeOdds (I : z_I) (L : z_L)  : Option (Bool × z_I × z_L) :=
  if (zn (I 41 3)) = true then
    some ((f_X7_fail I (5 : Int32)).1, (f_X7_fail I (5 : Int32)).2, L)
  else
    z_lt (z2 I 41 3 (zb true)) fun I1 =>
    (f_X7_move I1 L).bind fun q2 =>
      (f_X7_takeNumber q2.1 q2.2 (0 : Int32) (16 : Int32)).bind fun q4 =>
        if q4.1 = true then
          z_lt (z2 q4.2.1 22 14 (q4.2.1 39 9)) fun I6 =>
          (f_X7_takeSemicolon I6 q4.2.2).bind fun q7 =>
            some (q7.1, q7.2.1, q7.2.2)
        else
          some (false, q4.2.1, q4.2.2)
def f_X7_isAt (I : z_I) (p0 : Int32) : Bool :=
  if (I 39 5) = (2 : Int32) then
    if (I 39 6) = p0 then
      true
    else
      false
  else
    false
def f_X7_takeNumberBehind (I : z_I) (L : z_L) (p0 : Int32) (p1 : Int32) (p2 : Int32) (p3 : Int32) : Option (Bool × z_I × z_L) :=
  if (f_X7_isAt I p0) = true then
    (f_X7_move I L).bind fun q1 =>
      (f_X7_takeNumber q1.1 q1.2 p1 p2).bind fun q3 =>
        some (q3.1, q3.2.1, q3.2.2)
  else
    z_lt (z2 I 39 9 p3) fun I5 =>
    some (true, I5, L)
def f_X1_takeBed (I : z_I) (L : z_L)  : Option (Bool × z_I × z_L) :=
  if (I 22 10) < (6 : Int32) then
    (f_X7_move I L).bind fun q1 =>
      (f_X7_takeNumberBehind q1.1 q1.2 (2 : Int32) (0 : Int32) (99 : Int32) (0 : Int32)).bind fun q3 =>
        if q3.1 = true then
          (f_X7_takeNumberBehind q3.2.1 q3.2.2 (3 : Int32) (0 : Int32) (99 : Int32) (0 : Int32)).bind fun q5 =>
            if q5.1 = true then
              (f_X0_addBed q5.2.1 22 (q3.2.1 39 9) (q5.2.1 39 9)).bind fun q7 =>
                (f_X7_takeSemicolon q7 q5.2.2).bind fun q9 =>
                  some (q9.1, q9.2.1, q9.2.2)
            else
              some (false, q5.2.1, q5.2.2)
        else
          some (false, q3.2.1, q3.2.2)
  else
    some ((f_X7_fail I (6 : Int32)).1, (f_X7_fail I (6 : Int32)).2, L)
def f_X7_isName (I : z_I)  : Bool :=
  if (I 39 5) = (3 : Int32) then
    true
  else
    false
def g_X10_indexOfName_3 (p0 : Nat) (p0n : Nat) (v1 : Int32) (v2 : Int64) (L : z_L)  : Nat → Int32 → Option (Int32)
  | 0, _ => none
  | n + 1, v4 =>
    if v1 ≤ v4 then
      some (-1 : Int32)
    else
      if zin v4 p0n = true then
        if (L p0 (v4).toNatClampNeg) = v2 then
          some v4
        else
          g_X10_indexOfName_3 p0 p0n v1 v2 L  n (v4 + (1 : Int32))
      else none
def f_X10_indexOfName (L : z_L) (p0 p0n : Nat) (p1 : Int32) (p2 : Int64) : Option (Int32) :=
  g_X10_indexOfName_3 p0 p0n p1 p2 L z_fuel (0 : Int32)
def f_X1_takeNewName (I : z_I) (L : z_L)  : Option (Bool × z_I × z_L) :=
  if (f_X7_isName I) = true then
    z_lt (z2 L 41 4 (L 39 8)) fun L1 =>
    (f_X10_indexOfName L1 42 8 (I 22 11) (L 39 8)).bind fun q2 =>
      if q2 = (-1 : Int32) then
        (f_X10_indexOfName L1 29 7 (I 22 12) (L 39 8)).bind fun q4 =>
          if q4 = (-1 : Int32) then
            (f_X10_indexOfName L1 32 4 (I 22 13) (L 39 8)).bind fun q6 =>
              if q6 = (-1 : Int32) then
                (f_X7_move I L1).bind fun q8 =>
                  some (true, q8.1, q8.2)
              else
                some ((f_X7_fail I (3 : Int32)).1, (f_X7_fail I (3 : Int32)).2, L1)
          else
            some ((f_X7_fail I (3 : Int32)).1, (f_X7_fail I (3 : Int32)).2, L1)
      else
        some ((f_X7_fail I (3 : Int32)).1, (f_X7_fail I (3 : Int32)).2, L1)
  else
    some ((f_X7_fail I (2 : Int32)).1, (f_X7_fail I (2 : Int32)).2, L)
def f_X7_takeKeyword (I : z_I) (L : z_L) (p0 : Int32) : Option (Bool × z_I × z_L) :=
  if (f_X7_isAt I p0) = true then
    (f_X7_move I L).bind fun q1 =>
      some (true, q1.1, q1.2)
  else
    some ((f_X7_fail I (2 : Int32)).1, (f_X7_fail I (2 : Int32)).2, L)
def f_X1_takeCase (I : z_I) (L : z_L)  : Option (Bool × z_I × z_L) :=
  if (I 22 11) < (8 : Int32) then
    (f_X7_move I L).bind fun q1 =>
      (f_X1_takeNewName q1.1 q1.2).bind fun q3 =>
        if q3.1 = true then
          (f_X7_takeKeyword q3.2.1 q3.2.2 (5 : Int32)).bind fun q5 =>
            if q5.1 = true then
              (f_X7_takeNumber q5.2.1 q5.2.2 (1 : Int32) (20 : Int32)).bind fun q7 =>
                if q7.1 = true then
                  if zin (q7.2.1 22 11) 8 = true then
                    z_lt (z2 q7.2.2 42 ((q7.2.1 22 11)).toNatClampNeg (q7.2.2 41 4)) fun L10 =>
                    (f_X0_addCase q7.2.1 22 (q7.2.1 39 9)).bind fun q11 =>
                      (f_X7_takeSemicolon q11 L10).bind fun q13 =>
                        some (q13.1, q13.2.1, q13.2.2)
                  else none
                else
                  some (false, q7.2.1, q7.2.2)
            else
              some (false, q5.2.1, q5.2.2)
        else
          some (false, q3.2.1, q3.2.2)
  else
    some ((f_X7_fail I (6 : Int32)).1, (f_X7_fail I (6 : Int32)).2, L)
def g_X1_takeTruths_2 (v1 : Int32)  : Nat → Int32 → z_I → z_L → Option (Bool × z_I × z_L)
  | 0, _, _, _ => none
  | n + 1, v2, I, L =>
    if (8 : Int32) < v2 then
      some ((f_X7_fail I (2 : Int32)).1, (f_X7_fail I (2 : Int32)).2, L)
    else
      if (f_X7_isName I) = true then
        (f_X10_indexOfName L 42 8 (I 22 11) (L 39 8)).bind fun q1 =>
          if q1 = (-1 : Int32) then
            some ((f_X7_fail I (3 : Int32)).1, (f_X7_fail I (3 : Int32)).2, L)
          else
            if zin v1 7 = true then
              if ((I 28 (v1).toNatClampNeg) &&& ((1 : Int32) <<< (q1 &&& 31))) = 0 then
                z_lt (z2 I 28 (v1).toNatClampNeg ((I 28 (v1).toNatClampNeg) ||| ((1 : Int32) <<< (q1 &&& 31)))) fun I6 =>
                (f_X7_move I6 L).bind fun q7 =>
                  g_X1_takeTruths_2 v1  n (v2 + (1 : Int32)) q7.1 q7.2
              else
                some ((f_X7_fail I (5 : Int32)).1, (f_X7_fail I (5 : Int32)).2, L)
            else none
      else
        (f_X7_takeSemicolon I L).bind fun q9 =>
          some (q9.1, q9.2.1, q9.2.2)
def f_X1_takeTruths (I : z_I) (L : z_L) (p0 : Int32) : Option (Bool × z_I × z_L) :=
  g_X1_takeTruths_2 p0 z_fuel (0 : Int32) I L
def f_X1_takeClaim (I : z_I) (L : z_L)  : Option (Bool × z_I × z_L) :=
  if (I 22 12) < (7 : Int32) then
    (f_X7_move I L).bind fun q1 =>
      (f_X1_takeNewName q1.1 q1.2).bind fun q3 =>
        if q3.1 = true then
          (f_X7_takeKeyword q3.2.1 q3.2.2 (7 : Int32)).bind fun q5 =>
            if q5.1 = true then
              (f_X7_takeNumber q5.2.1 q5.2.2 (0 : Int32) ((q5.2.1 22 10) - (1 : Int32))).bind fun q7 =>
                if q7.1 = true then
                  (f_X7_takeNumberBehind q7.2.1 q7.2.2 (8 : Int32) (1 : Int32) (9 : Int32) (1 : Int32)).bind fun q9 =>
                    if q9.1 = true then
                      (f_X0_addClaim q9.2.1 q9.2.2 22 (q9.2.2 41 4) (q7.2.1 39 9) (q9.2.1 39 9) (0 : Int32)).bind fun q11 =>
                        (f_X7_takeKeyword q11.1 q11.2 (9 : Int32)).bind fun q13 =>
                          if q13.1 = true then
                            (f_X1_takeTruths q13.2.1 q13.2.2 ((q13.2.1 22 12) - (1 : Int32))).bind fun q15 =>
                              if q15.1 = true then
                                some (true, q15.2.1, q15.2.2)
                              else
                                some (false, q15.2.1, q15.2.2)
                          else
                            some (false, q13.2.1, q13.2.2)
                    else
                      some (false, q9.2.1, q9.2.2)
                else
                  some (false, q7.2.1, q7.2.2)
            else
              some (false, q5.2.1, q5.2.2)
        else
          some (false, q3.2.1, q3.2.2)
  else
    some ((f_X7_fail I (6 : Int32)).1, (f_X7_fail I (6 : Int32)).2, L)
def f_X1_takeScholar (I : z_I) (L : z_L)  : Option (Bool × z_I × z_L) :=
  if (I 22 13) < (4 : Int32) then
    (f_X7_move I L).bind fun q1 =>
      (f_X1_takeNewName q1.1 q1.2).bind fun q3 =>
        if q3.1 = true then
          (f_X7_takeKeyword q3.2.1 q3.2.2 (7 : Int32)).bind fun q5 =>
            if q5.1 = true then
              (f_X7_takeNumber q5.2.1 q5.2.2 (0 : Int32) ((q5.2.1 22 10) - (1 : Int32))).bind fun q7 =>
                if q7.1 = true then
                  (f_X7_takeNumberBehind q7.2.1 q7.2.2 (11 : Int32) (0 : Int32) (999 : Int32) (0 : Int32)).bind fun q9 =>
                    if q9.1 = true then
                      (f_X0_addScholar q9.2.1 q9.2.2 22 (q9.2.2 41 4) (q7.2.1 39 9) (q9.2.1 39 9)).bind fun q11 =>
                        (f_X7_takeSemicolon q11.1 q11.2).bind fun q13 =>
                          some (q13.1, q13.2.1, q13.2.2)
                    else
                      some (false, q9.2.1, q9.2.2)
                else
                  some (false, q7.2.1, q7.2.2)
            else
              some (false, q5.2.1, q5.2.2)
        else
          some (false, q3.2.1, q3.2.2)
  else
    some ((f_X7_fail I (6 : Int32)).1, (f_X7_fail I (6 : Int32)).2, L)
def g_X1_takeText_22 (v1 : Int32)  : Nat → Int32 → z_I → z_L → Option (Bool × z_I × z_L)
  | 0, _, _, _ => none
  | n + 1, v2, I, L =>
    if v1 < v2 then
      some ((f_X7_fail I (2 : Int32)).1, (f_X7_fail I (2 : Int32)).2, L)
    else
      if (f_X7_isOver I) = true then
        some (true, I, L)
      else
        if (f_X7_keywordHere I) = (0) then
          (f_X1_takeOdds I L).bind fun q4 =>
            if q4.1 = true then
              g_X1_takeText_22 v1  n (v2 + (1 : Int32)) q4.2.1 q4.2.2
            else
              some (false, q4.2.1, q4.2.2)
        else
          if (f_X7_keywordHere I) = (1) then
            (f_X1_takeBed I L).bind fun q7 =>
              if q7.1 = true then
                g_X1_takeText_22 v1  n (v2 + (1 : Int32)) q7.2.1 q7.2.2
              else
                some (false, q7.2.1, q7.2.2)
          else
            if (f_X7_keywordHere I) = (2) then
              if (f_X7_fail I (2 : Int32)).1 = true then
                g_X1_takeText_22 v1  n (v2 + (1 : Int32)) (f_X7_fail I (2 : Int32)).2 L
              else
                some (false, (f_X7_fail I (2 : Int32)).2, L)
            else
              if (f_X7_keywordHere I) = (3) then
                if (f_X7_fail I (2 : Int32)).1 = true then
                  g_X1_takeText_22 v1  n (v2 + (1 : Int32)) (f_X7_fail I (2 : Int32)).2 L
                else
                  some (false, (f_X7_fail I (2 : Int32)).2, L)
              else
                if (f_X7_keywordHere I) = (4) then
                  (f_X1_takeCase I L).bind fun q12 =>
                    if q12.1 = true then
                      g_X1_takeText_22 v1  n (v2 + (1 : Int32)) q12.2.1 q12.2.2
                    else
                      some (false, q12.2.1, q12.2.2)
                else
                  if (f_X7_keywordHere I) = (5) then
                    if (f_X7_fail I (2 : Int32)).1 = true then
                      g_X1_takeText_22 v1  n (v2 + (1 : Int32)) (f_X7_fail I (2 : Int32)).2 L
                    else
                      some (false, (f_X7_fail I (2 : Int32)).2, L)
                  else
                    if (f_X7_keywordHere I) = (6) then
                      (f_X1_takeClaim I L).bind fun q16 =>
                        if q16.1 = true then
                          g_X1_takeText_22 v1  n (v2 + (1 : Int32)) q16.2.1 q16.2.2
                        else
                          some (false, q16.2.1, q16.2.2)
                    else
                      if (f_X7_keywordHere I) = (7) then
                        if (f_X7_fail I (2 : Int32)).1 = true then
                          g_X1_takeText_22 v1  n (v2 + (1 : Int32)) (f_X7_fail I (2 : Int32)).2 L
                        else
                          some (false, (f_X7_fail I (2 : Int32)).2, L)
                      else
                        if (f_X7_keywordHere I) = (8) then
                          if (f_X7_fail I (2 : Int32)).1 = true then
                            g_X1_takeText_22 v1  n (v2 + (1 : Int32)) (f_X7_fail I (2 : Int32)).2 L
                          else
                            some (false, (f_X7_fail I (2 : Int32)).2, L)
                        else
                          if (f_X7_keywordHere I) = (9) then
                            if (f_X7_fail I (2 : Int32)).1 = true then
                              g_X1_takeText_22 v1  n (v2 + (1 : Int32)) (f_X7_fail I (2 : Int32)).2 L
                            else
                              some (false, (f_X7_fail I (2 : Int32)).2, L)
                          else
                            if (f_X7_keywordHere I) = (10) then
                              (f_X1_takeScholar I L).bind fun q22 =>
                                if q22.1 = true then
                                  g_X1_takeText_22 v1  n (v2 + (1 : Int32)) q22.2.1 q22.2.2
                                else
                                  some (false, q22.2.1, q22.2.2)
                            else
                              if (f_X7_fail I (2 : Int32)).1 = true then
                                g_X1_takeText_22 v1  n (v2 + (1 : Int32)) (f_X7_fail I (2 : Int32)).2 L
                              else
                                some (false, (f_X7_fail I (2 : Int32)).2, L)
def f_X1_takeText (I : z_I) (L : z_L) (p0 : Int32) : Option (Bool × z_I × z_L) :=
  z_lt (z2 (f_X0_clear I 22) 41 3 (zb false)) fun I1 =>
  (f_X7_open I1 L p0).bind fun q2 =>
    g_X1_takeText_22 p0 z_fuel (0 : Int32) q2.1 q2.2
def f_X2_claimsMore (I : z_I) (p0 : Int32) : Int32 :=
  if (p0 &&& (I 3 16)) = (I 3 16) then
    (f_J6_bitCount_0f7a4 (p0 &&& ((I 3 16) ^^^ (-1 : Int32))))
  else
    (-1 : Int32)
def f_X10_isWithin  (p0 : Int32) (p1 : Int32) (p2 : Int32) : Bool :=
  if p0 < p1 then
    false
  else
    if p2 < p0 then
      false
    else
      true
def f_X2_indexOf  (p0 : Int32) (p1 : Int32) : Int32 :=
  ((p0 * (128 : Int32)) + p1)
def g_X2_prepare_47 (v1 : Int32) (v2 : Int32) (k84 : z_I → Option (z_I)) : Nat → Int32 → z_I → Option (z_I)
  | 0, _, _ => none
  | n + 1, v3, I =>
    if (I 3 12) ≤ v3 then
      k84 I
    else
      (f_X0_yieldUnder I 3 v2 v3).bind fun q3 =>
        if zin ((v2 * (7 : Int32)) + v3) 896 = true then
          z_lt (z2 I 52 (((v2 * (7 : Int32)) + v3)).toNatClampNeg q3) fun I6 =>
          g_X2_prepare_47 v1 v2 k84 n (v3 + (1 : Int32)) I6
        else none
def g_X2_prepare_8 (v1 : Int32)  : Nat → Int32 → z_I → Option (z_I)
  | 0, _, _ => none
  | n + 1, v2, I =>
    if ((1 : Int32) <<< ((I 3 12) &&& 31)) ≤ v2 then
      some I
    else
      if (f_X10_isWithin (f_X2_claimsMore I v2) (0 : Int32) v1) = true then
        if zin (f_X2_indexOf (0 : Int32) v2) 640 = true then
          z_lt (z2 I 53 ((f_X2_indexOf (0 : Int32) v2)).toNatClampNeg (0 : Int32)) fun I2 =>
          g_X2_prepare_47 v1 v2
            (fun I_7 =>
              g_X2_prepare_8 v1  n (v2 + (1 : Int32)) I_7) z_fuel (0 : Int32) I2
        else none
      else
        g_X2_prepare_8 v1  n (v2 + (1 : Int32)) I
def f_X2_prepare (I : z_I) (p0 : Int32) : Option (z_I) :=
  g_X2_prepare_8 p0 z_fuel (I 3 16) I
def f_X2_worthOf (I : z_I) (p0 : Int32) (p1 : Int32) (p2 : Int32) (p3 : Int32) : Option (Int32) :=
  if zin (f_X2_indexOf (p1 - (1 : Int32)) (p2 ||| ((1 : Int32) <<< (p0 &&& 31)))) 640 = true then
    z_lt (I 53 ((f_X2_indexOf (p1 - (1 : Int32)) (p2 ||| ((1 : Int32) <<< (p0 &&& 31))))).toNatClampNeg) fun w2 =>
    if zin ((p2 * (7 : Int32)) + p0) 896 = true then
      some ((I 52 (((p2 * (7 : Int32)) + p0)).toNatClampNeg) + (p3 * w2))
    else none
  else none
def g_X2_bestFrom_6 (v1 : Int32) (v2 : Int32) (v4 : Int32) (I : z_I)  : Nat → Int32 → Int32 → Option (Int32)
  | 0, _, _ => none
  | n + 1, v5, v6 =>
    if (I 3 12) ≤ v6 then
      some v5
    else
      if (v2 &&& ((1 : Int32) <<< (v6 &&& 31))) = 0 then
        (f_X2_worthOf I v6 v1 v2 v4).bind fun q1 =>
          g_X2_bestFrom_6 v1 v2 v4 I  n (z_max v5 q1) (v6 + (1 : Int32))
      else
        g_X2_bestFrom_6 v1 v2 v4 I  n v5 (v6 + (1 : Int32))
def f_X2_bestFrom (I : z_I) (p0 : Int32) (p1 : Int32) (p2 : Int32) (p3 : Int32) : Option (Int32) :=
  g_X2_bestFrom_6 p0 p1 p3 I z_fuel p2 (0 : Int32)
def g_X2_lookAlone_20 (v1 : Int32) (v2 : Int32) (k72 : z_I → Option (z_I)) : Nat → Int32 → z_I → Option (z_I)
  | 0, _, _ => none
  | n + 1, v3, I =>
    if ((1 : Int32) <<< ((I 3 12) &&& 31)) ≤ v3 then
      k72 I
    else
      if (f_X10_isWithin (f_X2_claimsMore I v3) (0 : Int32) (v1 - v2)) = true then
        (f_X2_bestFrom I v2 v3 (0 : Int32) (1 : Int32)).bind fun q3 =>
          if zin (f_X2_indexOf v2 v3) 640 = true then
            z_lt (z2 I 53 ((f_X2_indexOf v2 v3)).toNatClampNeg q3) fun I6 =>
            g_X2_lookAlone_20 v1 v2 k72 n (v3 + (1 : Int32)) I6
          else none
      else
        g_X2_lookAlone_20 v1 v2 k72 n (v3 + (1 : Int32)) I
def g_X2_lookAlone_7 (v1 : Int32)  : Nat → Int32 → z_I → Option (z_I)
  | 0, _, _ => none
  | n + 1, v2, I =>
    if v1 < v2 then
      some I
    else
      g_X2_lookAlone_20 v1 v2
        (fun I_7 =>
          g_X2_lookAlone_7 v1  n (v2 + (1 : Int32)) I_7) z_fuel (I 3 16) I
def f_X2_lookAlone (I : z_I) (p0 : Int32) : Option (z_I) :=
  (f_X2_prepare I p0).bind fun q1 =>
    g_X2_lookAlone_7 p0 z_fuel (1 : Int32) q1
def g_X2_lookByTurns_20 (v1 : Int32) (v2 : Int32) (k88 : z_I → Option (z_I)) : Nat → Int32 → z_I → Option (z_I)
  | 0, _, _ => none
  | n + 1, v3, I =>
    if ((1 : Int32) <<< ((I 3 12) &&& 31)) ≤ v3 then
      k88 I
    else
      if (f_X10_isWithin (f_X2_claimsMore I v3) (0 : Int32) (v1 - v2)) = true then
        if zin (f_X2_indexOf (v2 - (1 : Int32)) v3) 640 = true then
          z_lt (-(I 53 ((f_X2_indexOf (v2 - (1 : Int32)) v3)).toNatClampNeg)) fun w4 =>
          (f_X2_bestFrom I v2 v3 w4 (-1 : Int32)).bind fun q5 =>
            if zin (f_X2_indexOf v2 v3) 640 = true then
              z_lt (z2 I 53 ((f_X2_indexOf v2 v3)).toNatClampNeg q5) fun I8 =>
              g_X2_lookByTurns_20 v1 v2 k88 n (v3 + (1 : Int32)) I8
            else none
        else none
      else
        g_X2_lookByTurns_20 v1 v2 k88 n (v3 + (1 : Int32)) I
def g_X2_lookByTurns_7 (v1 : Int32)  : Nat → Int32 → z_I → Option (z_I)
  | 0, _, _ => none
  | n + 1, v2, I =>
    if v1 < v2 then
      some I
    else
      g_X2_lookByTurns_20 v1 v2
        (fun I_9 =>
          g_X2_lookByTurns_7 v1  n (v2 + (1 : Int32)) I_9) z_fuel (I 3 16) I
def f_X2_lookByTurns (I : z_I) (p0 : Int32) : Option (z_I) :=
  (f_X2_prepare I p0).bind fun q1 =>
    g_X2_lookByTurns_7 p0 z_fuel (1 : Int32) q1
def f_X2_bestBy (I : z_I) (p0 : Int32) : Option (Int32) :=
  if zin (f_X2_indexOf p0 (I 3 16)) 640 = true then
    some (I 53 ((f_X2_indexOf p0 (I 3 16))).toNatClampNeg)
  else none
def g_X2_firstFor_3 (v1 : Int32) (v2 : Int32) (v3 : Int32) (v4 : Int32) (I : z_I)  : Nat → Int32 → Option (Int32)
  | 0, _ => none
  | n + 1, v5 =>
    if (I 3 12) ≤ v5 then
      some (-1 : Int32)
    else
      if (v3 &&& ((1 : Int32) <<< (v5 &&& 31))) = 0 then
        (f_X2_worthOf I v5 v2 v3 v4).bind fun q1 =>
          if q1 = v1 then
            some v5
          else
            g_X2_firstFor_3 v1 v2 v3 v4 I  n (v5 + (1 : Int32))
      else
        g_X2_firstFor_3 v1 v2 v3 v4 I  n (v5 + (1 : Int32))
def f_X2_firstFor (I : z_I) (p0 : Int32) (p1 : Int32) (p2 : Int32) (p3 : Int32) : Option (Int32) :=
  g_X2_firstFor_3 p0 p1 p2 p3 I z_fuel (0 : Int32)
def g_X2_rowAt_11 (v1 : Int32) (v2 : Int32) (I : z_I)  : Nat → Int32 → Int32 → Option (Int32)
  | 0, _, _ => none
  | n + 1, v3, v4 =>
    if v1 ≤ v4 then
      some (-1 : Int32)
    else
      if zin (f_X2_indexOf (v1 - v4) v3) 640 = true then
        z_lt (I 53 ((f_X2_indexOf (v1 - v4) v3)).toNatClampNeg) fun w2 =>
        if w2 = 0 then
          some (-1 : Int32)
        else
          (f_X2_firstFor I w2 (v1 - v4) v3 (1 : Int32)).bind fun q3 =>
            if q3 = (-1 : Int32) then
              some q3
            else
              if v4 = v2 then
                some q3
              else
                g_X2_rowAt_11 v1 v2 I  n (v3 ||| ((1 : Int32) <<< (q3 &&& 31))) (v4 + (1 : Int32))
      else none
def f_X2_rowAt (I : z_I) (p0 : Int32) (p1 : Int32) : Option (Int32) :=
  g_X2_rowAt_11 p0 p1 I z_fuel (I 3 16) (0 : Int32)
def f_X2_openingOf (I : z_I) (p0 : Int32) : Option (Int32) :=
  (f_X2_bestBy I p0).bind fun q1 =>
    (f_X2_firstFor I q1 p0 (I 3 16) (-1 : Int32)).bind fun q3 =>
      some q3
def g_X3_commonDivisor_9   : Nat → Int64 → Int64 → Int32 → Option (Int64)
  | 0, _, _, _ => none
  | n + 1, v4, v6, v8 =>
    if (200 : Int32) ≤ v8 then
      some v4
    else
      if v6 = (0 : Int64) then
        some v4
      else
        if ¬ v6 = 0 then
          g_X3_commonDivisor_9   n v6 (v4 - v4 / v6 * v6) (v8 + (1 : Int32))
        else none
def f_X3_commonDivisor  (p0 : Int64) (p1 : Int64) : Option (Int64) :=
  g_X3_commonDivisor_9  z_fuel p0 p1 (0 : Int32)
def f_X3_tell (L : z_L) (p0 : Int64) (p1 : Int64) : Option (z_L) :=
  (f_X3_commonDivisor p0 p1).bind fun q1 =>
    if q1 ≤ (0 : Int64) then
      some L
    else
      if ¬ q1 = 0 then
        z_lt (z2 L 54 0 (p0 / q1)) fun L4 =>
        if ¬ q1 = 0 then
          z_lt (z2 L4 54 1 (p1 / q1)) fun L6 =>
          some L6
        else none
      else none
def f_X4_behindEnd (I : z_I) (p0 : Int32) : Option (Int32 × z_I) :=
  if zin p0 60 = true then
    if zin (I 19 (p0).toNatClampNeg) 60 = true then
      if (I 15 ((I 19 (p0).toNatClampNeg)).toNatClampNeg) = (20 : Int32) then
        z_lt (z2 I 47 ((I 19 (p0).toNatClampNeg)).toNatClampNeg ((I 47 ((I 19 (p0).toNatClampNeg)).toNatClampNeg) - (1 : Int32))) fun I5 =>
        if (I5 47 ((I 19 (p0).toNatClampNeg)).toNatClampNeg) ≤ 0 then
          some ((p0 + (1 : Int32)), I5)
        else
          some (((I 19 (p0).toNatClampNeg) + (1 : Int32)), I5)
      else
        some ((p0 + (1 : Int32)), I)
    else none
  else none
def f_X4_tryClaim (I : z_I) (p0 : Int32) : Option (z_I) :=
  if z_isct (((I 45 5)).toNatClampNeg) = true then
    if (f_X0_isMade I (((I 45 5)).toNatClampNeg) p0) = true then
      z_lt (z2 I 45 7 ((I 45 7) + (1 : Int32))) fun I2 =>
      some I2
    else
      (f_X0_putForward I (((I 45 5)).toNatClampNeg) p0).bind fun q4 =>
        z_lt (z2 q4.2 45 8 ((I 45 8) + q4.1)) fun I6 =>
        some I6
  else none
def f_X4_tryBed (I : z_I) (p0 : Int32) (p1 : Int32) : Option (z_I) :=
  if z_isct (((I 45 5)).toNatClampNeg) = true then
    if zin p0 4 = true then
      if (I ((((I 45 5)).toNatClampNeg) + 8) (p0).toNatClampNeg) = p1 then
        z_lt (z2 I 45 7 ((I 45 7) + (1 : Int32))) fun I3 =>
        some I3
      else
        z_lt (z2 I ((((I 45 5)).toNatClampNeg) + 8) (p0).toNatClampNeg p1) fun I6 =>
        some I6
    else none
  else none
def f_X4_tryHarvest (I : z_I) (p0 : Int32) : Option (z_I) :=
  if z_isct (((I 45 5)).toNatClampNeg) = true then
    (f_X0_harvest I (((I 45 5)).toNatClampNeg) p0).bind fun q2 =>
      z_lt (z2 q2.2 45 9 ((q2.2 45 9) + q2.1)) fun I4 =>
      if q2.1 = 0 then
        z_lt (z2 I4 45 7 ((q2.2 45 7) + (1 : Int32))) fun I5 =>
        some I5
      else
        some I4
  else none
def f_X4_tryNights (I : z_I) (p0 : Int32) : Option (z_I) :=
  if z_isct (((I 45 5)).toNatClampNeg) = true then
    (f_X0_passNights I (((I 45 5)).toNatClampNeg) p0).bind fun q2 =>
      if q2.1 = true then
        z_lt (z2 q2.2 45 10 ((q2.2 45 10) + p0)) fun I4 =>
        some I4
      else
        z_lt (z2 q2.2 45 7 ((q2.2 45 7) + (1 : Int32))) fun I5 =>
        some I5
  else none
def f_X4_tryForgetting (I : z_I)  : Option (z_I) :=
  if z_isct (((I 45 5)).toNatClampNeg) = true then
    if (I (((I 45 5)).toNatClampNeg) 16) = 0 then
      z_lt (z2 I 45 7 ((I 45 7) + (1 : Int32))) fun I2 =>
      z_lt (z2 I2 (((I 45 5)).toNatClampNeg) 16 (0 : Int32)) fun I4 =>
      some I4
    else
      z_lt (z2 I (((I 45 5)).toNatClampNeg) 16 (0 : Int32)) fun I6 =>
      some I6
  else none
def f_X4_draw (I : z_I) (p0 : Int32) : Option (Int32 × z_I) :=
  z_lt (z2 I 45 6 ((((I 45 6) * (3229 : Int32)) + (11453 : Int32)) - (((I 45 6) * (3229 : Int32)) + (11453 : Int32)) / (65536 : Int32) * (65536 : Int32))) fun I1 =>
  if p0 ≤ 0 then
    some ((0 : Int32), I1)
  else
    if ¬ p0 = 0 then
      some (((((((I 45 6) * (3229 : Int32)) + (11453 : Int32)) - (((I 45 6) * (3229 : Int32)) + (11453 : Int32)) / (65536 : Int32) * (65536 : Int32)) / (8 : Int32)) - (((((I 45 6) * (3229 : Int32)) + (11453 : Int32)) - (((I 45 6) * (3229 : Int32)) + (11453 : Int32)) / (65536 : Int32) * (65536 : Int32)) / (8 : Int32)) / p0 * p0), I1)
    else none
def f_X4_tryAny (I : z_I)  : Option (z_I) :=
  if z_isct (((I 45 5)).toNatClampNeg) = true then
    if (I (((I 45 5)).toNatClampNeg) 12) = 0 then
      z_lt (z2 I 45 7 ((I 45 7) + (1 : Int32))) fun I2 =>
      some I2
    else
      if (I (((I 45 5)).toNatClampNeg) 13) = 0 then
        z_lt (z2 I 45 7 ((I 45 7) + (1 : Int32))) fun I4 =>
        some I4
      else
        (f_X4_draw I (I (((I 45 5)).toNatClampNeg) 12)).bind fun q6 =>
          if z_isct (((q6.2 45 5)).toNatClampNeg) = true then
            (f_X4_draw q6.2 (q6.2 (((q6.2 45 5)).toNatClampNeg) 13)).bind fun q9 =>
              (f_X4_draw q9.2 (16 : Int32)).bind fun q11 =>
                if z_isct (((q11.2 45 5)).toNatClampNeg) = true then
                  if (q11.2 (((q11.2 45 5)).toNatClampNeg) 14) ≤ q11.1 then
                    (f_X4_tryHarvest q11.2 q9.1).bind fun q14 =>
                      some q14
                  else
                    (f_X4_tryClaim q11.2 q6.1).bind fun q16 =>
                      some q16
                else none
          else none
  else none
def f_X4_act (I : z_I) (p0 : Int32) : Option (z_I) :=
  if zin p0 60 = true then
    if (I 15 (p0).toNatClampNeg) = (12) then
      (f_X4_tryClaim I (I 16 (p0).toNatClampNeg)).bind fun q4 =>
        some q4
    else
      if (I 15 (p0).toNatClampNeg) = (13) then
        (f_X4_tryBed I (I 16 (p0).toNatClampNeg) (I 18 (p0).toNatClampNeg)).bind fun q7 =>
          some q7
      else
        if (I 15 (p0).toNatClampNeg) = (14) then
          (f_X4_tryHarvest I (I 16 (p0).toNatClampNeg)).bind fun q10 =>
            some q10
        else
          if (I 15 (p0).toNatClampNeg) = (15) then
            (f_X4_tryNights I (I 18 (p0).toNatClampNeg)).bind fun q13 =>
              some q13
          else
            if (I 15 (p0).toNatClampNeg) = (16) then
              (f_X4_tryForgetting I).bind fun q16 =>
                some q16
            else
              if (I 15 (p0).toNatClampNeg) = (17) then
                (f_X4_tryAny I).bind fun q19 =>
                  some q19
              else
                some I
  else none
def f_X4_compares (I : z_I) (p0 : Int32) (p1 : Int32) : Option (Bool) :=
  if zin p1 60 = true then
    if (I 17 (p1).toNatClampNeg) = (60) then
      if (I 18 (p1).toNatClampNeg) ≤ p0 then
        some false
      else
        some true
    else
      if (I 17 (p1).toNatClampNeg) = (62) then
        if p0 ≤ (I 18 (p1).toNatClampNeg) then
          some false
        else
          some true
      else
        if p0 = (I 18 (p1).toNatClampNeg) then
          some true
        else
          some false
  else none
def f_X4_holds (I : z_I) (p0 : Int32) : Option (Bool) :=
  if zin p0 60 = true then
    if (I 15 (p0).toNatClampNeg) = (2) then
      if z_isct (((I 45 5)).toNatClampNeg) = true then
        if zin (I 16 (p0).toNatClampNeg) 6 = true then
          (f_X4_compares I (I ((((I 45 5)).toNatClampNeg) + 1) ((I 16 (p0).toNatClampNeg)).toNatClampNeg) p0).bind fun q5 =>
            some q5
        else none
      else none
    else
      if (I 15 (p0).toNatClampNeg) = (19) then
        if z_isct (((I 45 5)).toNatClampNeg) = true then
          some (f_X0_isMade I (((I 45 5)).toNatClampNeg) (I 16 (p0).toNatClampNeg))
        else none
      else
        if z_isct (((I 45 5)).toNatClampNeg) = true then
          if zin (I 16 (p0).toNatClampNeg) 4 = true then
            (f_X4_compares I (I ((((I 45 5)).toNatClampNeg) + 9) ((I 16 (p0).toNatClampNeg)).toNatClampNeg) p0).bind fun q12 =>
              some q12
          else none
        else none
  else none
def f_X4_behindStep (I : z_I) (p0 : Int32) : Option (Int32 × z_I) :=
  if zin p0 60 = true then
    if (I 15 (p0).toNatClampNeg) = (2) then
      (f_X4_holds I p0).bind fun q2 =>
        if q2 = true then
          some ((p0 + (1 : Int32)), I)
        else
          some (((I 19 (p0).toNatClampNeg) + (1 : Int32)), I)
    else
      if (I 15 (p0).toNatClampNeg) = (11) then
        (f_X4_holds I p0).bind fun q6 =>
          if q6 = true then
            some ((p0 + (1 : Int32)), I)
          else
            some (((I 19 (p0).toNatClampNeg) + (1 : Int32)), I)
      else
        if (I 15 (p0).toNatClampNeg) = (19) then
          (f_X4_holds I p0).bind fun q10 =>
            if q10 = true then
              some ((p0 + (1 : Int32)), I)
            else
              some (((I 19 (p0).toNatClampNeg) + (1 : Int32)), I)
        else
          if (I 15 (p0).toNatClampNeg) = (20) then
            z_lt (z2 I 47 (p0).toNatClampNeg (I 18 (p0).toNatClampNeg)) fun I16 =>
            some ((p0 + (1 : Int32)), I16)
          else
            if (I 15 (p0).toNatClampNeg) = (22) then
              some ((I 14 6), I)
            else
              some ((p0 + (1 : Int32)), I)
  else none
def g_X4_pass_45 (p0 : Nat)   : Nat → Int32 → Int32 → z_I → Option (z_I)
  | 0, _, _, _ => none
  | n + 1, v3, v4, I =>
    if (100000 : Int32) ≤ v4 then
      some I
    else
      if (I 14 6) ≤ v3 then
        some I
      else
        if zin v3 60 = true then
          if (I 15 (v3).toNatClampNeg) = (21 : Int32) then
            (f_X4_behindEnd I v3).bind fun q10 =>
              g_X4_pass_45 p0  n q10.1 (v4 + (1 : Int32)) q10.2
          else
            if (300 : Int32) ≤ (I 45 2) then
              z_lt (z2 I 45 11 (zb true)) fun I12 =>
              some I12
            else
              z_lt (z2 I 45 2 ((I 45 2) + (1 : Int32))) fun I13 =>
              (f_X4_act I13 v3).bind fun q14 =>
                (f_X4_behindStep q14 v3).bind fun q16 =>
                  g_X4_pass_45 p0  n q16.1 (v4 + (1 : Int32)) q16.2
        else none
def f_X4_pass (I : z_I) (p0 : Nat) (p1 : Int32) : Option (z_I) :=
  z_lt (z2 I 45 5 (Int32.ofNat p0)) fun I1 =>
  z_lt (z2 I1 45 6 p1) fun I2 =>
  z_lt (z2 I2 45 2 (0 : Int32)) fun I3 =>
  z_lt (z2 I3 45 7 (0 : Int32)) fun I4 =>
  z_lt (z2 I4 45 8 (0 : Int32)) fun I5 =>
  z_lt (z2 I5 45 9 (0 : Int32)) fun I6 =>
  z_lt (z2 I6 45 10 (0 : Int32)) fun I7 =>
  z_lt (z2 I7 45 11 (zb false)) fun I8 =>
  g_X4_pass_45 p0 z_fuel (0 : Int32) (0 : Int32) I8
def f_X4_keepNumbers (I : z_I)  : z_I :=
  z_lt (z2 I 46 0 (I 45 7)) fun I2 =>
  z_lt (z2 I2 46 1 (I 45 8)) fun I4 =>
  z_lt (z2 I4 46 2 (I 45 9)) fun I6 =>
  z_lt (z2 I6 46 3 (I 45 10)) fun I8 =>
  if (zn (I 45 11)) = true then
    z_lt (z2 I8 46 4 (1 : Int32)) fun I10 =>
    z_lt (z2 I10 45 1 (zb true)) fun I11 =>
    I11
  else
    z_lt (z2 I8 46 4 (0 : Int32)) fun I13 =>
    z_lt (z2 I13 45 1 (zb true)) fun I14 =>
    I14
def f_X5_clear (I : z_I) (t : Nat) : z_I :=
  z_lt (z2 I t 5 (zb false)) fun I1 =>
  z_lt (z2 I1 t 6 (0 : Int32)) fun I2 =>
  z_lt (z2 I2 t 7 (0 : Int32)) fun I3 =>
  I3
def f_X5_copyFrom (I : z_I) (t : Nat) (p0 : Nat) : z_I :=
  z_lt (zr I (t + 1) (va_cpy (I (p0 + 1)) (I (t + 1)) 0 0 60)) fun I1 =>
  z_lt (zr I1 (t + 2) (va_cpy (I1 (p0 + 2)) (I1 (t + 2)) 0 0 60)) fun I2 =>
  z_lt (zr I2 (t + 3) (va_cpy (I2 (p0 + 3)) (I2 (t + 3)) 0 0 60)) fun I3 =>
  z_lt (zr I3 (t + 4) (va_cpy (I3 (p0 + 4)) (I3 (t + 4)) 0 0 60)) fun I4 =>
  z_lt (zr I4 (t + 5) (va_cpy (I4 (p0 + 5)) (I4 (t + 5)) 0 0 60)) fun I5 =>
  z_lt (z2 I5 t 5 (zb (zn (I5 p0 5)))) fun I6 =>
  z_lt (z2 I6 t 6 (I6 p0 6)) fun I7 =>
  z_lt (z2 I7 t 7 (I7 p0 7)) fun I8 =>
  I8
def f_X6_addEntry (I : z_I) (p0 : Int32) : Option (Int32 × z_I) :=
  if zin (I 33 6) 60 = true then
    z_lt (z2 I 34 ((I 33 6)).toNatClampNeg p0) fun I2 =>
    z_lt (z2 I2 33 6 ((I 33 6) + (1 : Int32))) fun I3 =>
    some ((I 33 6), I3)
  else none
def f_X6_takeEnd (I : z_I) (L : z_L)  : Option (Bool × z_I × z_L) :=
  if (I 43 4) = 0 then
    some ((f_X7_fail I (2 : Int32)).1, (f_X7_fail I (2 : Int32)).2, L)
  else
    z_lt (z2 I 43 4 ((I 43 4) - (1 : Int32))) fun I1 =>
    if zin ((I 43 4) - (1 : Int32)) 3 = true then
      z_lt (I 44 (((I 43 4) - (1 : Int32))).toNatClampNeg) fun w3 =>
      (f_X6_addEntry I1 (21 : Int32)).bind fun q4 =>
        if zin w3 60 = true then
          z_lt (z2 q4.2 38 (w3).toNatClampNeg q4.1) fun I7 =>
          if zin q4.1 60 = true then
            z_lt (z2 I7 38 (q4.1).toNatClampNeg w3) fun I9 =>
            (f_X7_move I9 L).bind fun q10 =>
              (f_X7_takeSemicolon q10.1 q10.2).bind fun q12 =>
                some (q12.1, q12.2.1, q12.2.2)
          else none
        else none
    else none
def f_X6_canBegin (I : z_I) (p0 : Int32) : Bool × z_I :=
  if p0 < (12 : Int32) then
    ((f_X7_fail I (2 : Int32)).1, (f_X7_fail I (2 : Int32)).2)
  else
    if (22 : Int32) < p0 then
      ((f_X7_fail I (2 : Int32)).1, (f_X7_fail I (2 : Int32)).2)
    else
      if p0 = (19 : Int32) then
        ((f_X7_fail I (2 : Int32)).1, (f_X7_fail I (2 : Int32)).2)
      else
        if (I 33 7) < (30 : Int32) then
          if p0 = (18 : Int32) then
            if (I 43 4) < (3 : Int32) then
              (true, I)
            else
              ((f_X7_fail I (7 : Int32)).1, (f_X7_fail I (7 : Int32)).2)
          else
            if p0 = (20 : Int32) then
              if (I 43 4) < (3 : Int32) then
                (true, I)
              else
                ((f_X7_fail I (7 : Int32)).1, (f_X7_fail I (7 : Int32)).2)
            else
              (true, I)
        else
          ((f_X7_fail I (6 : Int32)).1, (f_X7_fail I (6 : Int32)).2)
def f_X6_begin (I : z_I) (L : z_L) (p0 : Int32) : Option (Int32 × z_I × z_L) :=
  (f_X6_addEntry I p0).bind fun q1 =>
    z_lt (z2 q1.2 33 7 ((q1.2 33 7) + (1 : Int32))) fun I3 =>
    if p0 = (18 : Int32) then
      if zin (q1.2 43 4) 3 = true then
        z_lt (z2 I3 44 ((q1.2 43 4)).toNatClampNeg q1.1) fun I5 =>
        z_lt (z2 I5 43 4 ((q1.2 43 4) + (1 : Int32))) fun I6 =>
        (f_X7_move I6 L).bind fun q7 =>
          some (q1.1, q7.1, q7.2)
      else none
    else
      if p0 = (20 : Int32) then
        if zin (q1.2 43 4) 3 = true then
          z_lt (z2 I3 44 ((q1.2 43 4)).toNatClampNeg q1.1) fun I10 =>
          z_lt (z2 I10 43 4 ((q1.2 43 4) + (1 : Int32))) fun I11 =>
          (f_X7_move I11 L).bind fun q12 =>
            some (q1.1, q12.1, q12.2)
        else none
      else
        (f_X7_move I3 L).bind fun q14 =>
          some (q1.1, q14.1, q14.2)
def f_X6_takeName (I : z_I) (L : z_L) (p0 : Int32) (p1 p1n : Nat) (p2 : Int32) : Option (Bool × z_I × z_L) :=
  if (f_X7_isName I) = true then
    (f_X10_indexOfName L p1 p1n p2 (L 39 8)).bind fun q1 =>
      if q1 = (-1 : Int32) then
        some ((f_X7_fail I (3 : Int32)).1, (f_X7_fail I (3 : Int32)).2, L)
      else
        if zin p0 60 = true then
          z_lt (z2 I 35 (p0).toNatClampNeg q1) fun I4 =>
          (f_X7_move I4 L).bind fun q5 =>
            some (true, q5.1, q5.2)
        else none
  else
    some ((f_X7_fail I (2 : Int32)).1, (f_X7_fail I (2 : Int32)).2, L)
def f_X6_takeNumber (I : z_I) (L : z_L) (p0 : Int32) (p1 : Int32) (p2 : Int32) : Option (Bool × z_I × z_L) :=
  (f_X7_takeNumber I L p1 p2).bind fun q1 =>
    if q1.1 = true then
      if zin p0 60 = true then
        z_lt (z2 q1.2.1 37 (p0).toNatClampNeg (q1.2.1 39 9)) fun I4 =>
        some (q1.1, I4, q1.2.2)
      else none
    else
      if zin p0 60 = true then
        z_lt (z2 q1.2.1 37 (p0).toNatClampNeg (0 : Int32)) fun I6 =>
        some (q1.1, I6, q1.2.2)
      else none
def f_X6_takeBedNumber (I : z_I) (L : z_L) (p0 : Int32) : Option (Bool × z_I × z_L) :=
  (f_X7_takeNumber I L (0 : Int32) ((I 3 10) - (1 : Int32))).bind fun q1 =>
    if q1.1 = true then
      if zin p0 60 = true then
        z_lt (z2 q1.2.1 35 (p0).toNatClampNeg (q1.2.1 39 9)) fun I4 =>
        some (q1.1, I4, q1.2.2)
      else none
    else
      if zin p0 60 = true then
        z_lt (z2 q1.2.1 35 (p0).toNatClampNeg (0 : Int32)) fun I6 =>
        some (q1.1, I6, q1.2.2)
      else none
def f_X7_takeComparing (I : z_I) (L : z_L)  : Option (Bool × z_I × z_L) :=
  if (I 39 5) = (6 : Int32) then
    if (I 39 7) = (59 : Int32) then
      some ((f_X7_fail I (2 : Int32)).1, (f_X7_fail I (2 : Int32)).2, L)
    else
      z_lt (z2 I 39 10 (I 39 7)) fun I1 =>
      (f_X7_move I1 L).bind fun q2 =>
        some (true, q2.1, q2.2)
  else
    some ((f_X7_fail I (2 : Int32)).1, (f_X7_fail I (2 : Int32)).2, L)
def f_X6_takeTest (I : z_I) (L : z_L) (p0 : Int32) : Option (Bool × z_I × z_L) :=
  if (f_X7_keywordHere I) = (19 : Int32) then
    if zin p0 60 = true then
      z_lt (z2 I 34 (p0).toNatClampNeg (f_X7_keywordHere I)) fun I2 =>
      (f_X7_move I2 L).bind fun q3 =>
        if (f_X7_keywordHere I) = (19 : Int32) then
          (f_X6_takeName q3.1 q3.2 p0 10 7 (q3.1 3 12)).bind fun q5 =>
            some (q5.1, q5.2.1, q5.2.2)
        else
          if (f_X7_keywordHere I) = (2 : Int32) then
            (f_X6_takeBedNumber q3.1 q3.2 p0).bind fun q7 =>
              if q7.1 = true then
                (f_X7_takeComparing q7.2.1 q7.2.2).bind fun q9 =>
                  if q9.1 = true then
                    z_lt (z2 q9.2.1 36 (p0).toNatClampNeg (q9.2.1 39 10)) fun I12 =>
                    (f_X6_takeNumber I12 q9.2.2 p0 (0 : Int32) (9999 : Int32)).bind fun q13 =>
                      some (q13.1, q13.2.1, q13.2.2)
                  else
                    some (false, q9.2.1, q9.2.2)
              else
                some (false, q7.2.1, q7.2.2)
          else
            (f_X6_takeName q3.1 q3.2 p0 13 4 (q3.1 3 13)).bind fun q15 =>
              if q15.1 = true then
                (f_X7_takeComparing q15.2.1 q15.2.2).bind fun q17 =>
                  if q17.1 = true then
                    z_lt (z2 q17.2.1 36 (p0).toNatClampNeg (q17.2.1 39 10)) fun I20 =>
                    (f_X6_takeNumber I20 q17.2.2 p0 (0 : Int32) (9999 : Int32)).bind fun q21 =>
                      some (q21.1, q21.2.1, q21.2.2)
                  else
                    some (false, q17.2.1, q17.2.2)
              else
                some (false, q15.2.1, q15.2.2)
    else none
  else
    if (f_X7_keywordHere I) = (2 : Int32) then
      if zin p0 60 = true then
        z_lt (z2 I 34 (p0).toNatClampNeg (f_X7_keywordHere I)) fun I24 =>
        (f_X7_move I24 L).bind fun q25 =>
          if (f_X7_keywordHere I) = (19 : Int32) then
            (f_X6_takeName q25.1 q25.2 p0 10 7 (q25.1 3 12)).bind fun q27 =>
              some (q27.1, q27.2.1, q27.2.2)
          else
            if (f_X7_keywordHere I) = (2 : Int32) then
              (f_X6_takeBedNumber q25.1 q25.2 p0).bind fun q29 =>
                if q29.1 = true then
                  (f_X7_takeComparing q29.2.1 q29.2.2).bind fun q31 =>
                    if q31.1 = true then
                      z_lt (z2 q31.2.1 36 (p0).toNatClampNeg (q31.2.1 39 10)) fun I34 =>
                      (f_X6_takeNumber I34 q31.2.2 p0 (0 : Int32) (9999 : Int32)).bind fun q35 =>
                        some (q35.1, q35.2.1, q35.2.2)
                    else
                      some (false, q31.2.1, q31.2.2)
                else
                  some (false, q29.2.1, q29.2.2)
            else
              (f_X6_takeName q25.1 q25.2 p0 13 4 (q25.1 3 13)).bind fun q37 =>
                if q37.1 = true then
                  (f_X7_takeComparing q37.2.1 q37.2.2).bind fun q39 =>
                    if q39.1 = true then
                      z_lt (z2 q39.2.1 36 (p0).toNatClampNeg (q39.2.1 39 10)) fun I42 =>
                      (f_X6_takeNumber I42 q39.2.2 p0 (0 : Int32) (9999 : Int32)).bind fun q43 =>
                        some (q43.1, q43.2.1, q43.2.2)
                    else
                      some (false, q39.2.1, q39.2.2)
                else
                  some (false, q37.2.1, q37.2.2)
      else none
    else
      if (f_X7_keywordHere I) = (11 : Int32) then
        if zin p0 60 = true then
          z_lt (z2 I 34 (p0).toNatClampNeg (f_X7_keywordHere I)) fun I46 =>
          (f_X7_move I46 L).bind fun q47 =>
            if (f_X7_keywordHere I) = (19 : Int32) then
              (f_X6_takeName q47.1 q47.2 p0 10 7 (q47.1 3 12)).bind fun q49 =>
                some (q49.1, q49.2.1, q49.2.2)
            else
              if (f_X7_keywordHere I) = (2 : Int32) then
                (f_X6_takeBedNumber q47.1 q47.2 p0).bind fun q51 =>
                  if q51.1 = true then
                    (f_X7_takeComparing q51.2.1 q51.2.2).bind fun q53 =>
                      if q53.1 = true then
                        z_lt (z2 q53.2.1 36 (p0).toNatClampNeg (q53.2.1 39 10)) fun I56 =>
                        (f_X6_takeNumber I56 q53.2.2 p0 (0 : Int32) (9999 : Int32)).bind fun q57 =>
                          some (q57.1, q57.2.1, q57.2.2)
                      else
                        some (false, q53.2.1, q53.2.2)
                  else
                    some (false, q51.2.1, q51.2.2)
              else
                (f_X6_takeName q47.1 q47.2 p0 13 4 (q47.1 3 13)).bind fun q59 =>
                  if q59.1 = true then
                    (f_X7_takeComparing q59.2.1 q59.2.2).bind fun q61 =>
                      if q61.1 = true then
                        z_lt (z2 q61.2.1 36 (p0).toNatClampNeg (q61.2.1 39 10)) fun I64 =>
                        (f_X6_takeNumber I64 q61.2.2 p0 (0 : Int32) (9999 : Int32)).bind fun q65 =>
                          some (q65.1, q65.2.1, q65.2.2)
                      else
                        some (false, q61.2.1, q61.2.2)
                  else
                    some (false, q59.2.1, q59.2.2)
        else none
      else
        some ((f_X7_fail I (2 : Int32)).1, (f_X7_fail I (2 : Int32)).2, L)
def f_X6_takeStep (I : z_I) (L : z_L)  : Option (Bool × z_I × z_L) :=
  if (f_X6_canBegin I (f_X7_keywordHere I)).1 = true then
    (f_X6_begin (f_X6_canBegin I (f_X7_keywordHere I)).2 L (f_X7_keywordHere I)).bind fun q1 =>
      if (f_X7_keywordHere I) = (12) then
        (f_X6_takeName q1.2.1 q1.2.2 q1.1 10 7 (q1.2.1 3 12)).bind fun q3 =>
          if q3.1 = true then
            (f_X7_takeSemicolon q3.2.1 q3.2.2).bind fun q5 =>
              if q5.1 = true then
                some (true, q5.2.1, q5.2.2)
              else
                some (false, q5.2.1, q5.2.2)
          else
            some (false, q3.2.1, q3.2.2)
      else
        if (f_X7_keywordHere I) = (13) then
          (f_X6_takeName q1.2.1 q1.2.2 q1.1 13 4 (q1.2.1 3 13)).bind fun q8 =>
            if q8.1 = true then
              (f_X6_takeNumber q8.2.1 q8.2.2 q1.1 (0 : Int32) ((q8.2.1 3 10) - (1 : Int32))).bind fun q10 =>
                if q10.1 = true then
                  (f_X7_takeSemicolon q10.2.1 q10.2.2).bind fun q12 =>
                    if q12.1 = true then
                      some (true, q12.2.1, q12.2.2)
                    else
                      some (false, q12.2.1, q12.2.2)
                else
                  some (false, q10.2.1, q10.2.2)
            else
              some (false, q8.2.1, q8.2.2)
        else
          if (f_X7_keywordHere I) = (14) then
            (f_X6_takeName q1.2.1 q1.2.2 q1.1 13 4 (q1.2.1 3 13)).bind fun q15 =>
              if q15.1 = true then
                (f_X7_takeSemicolon q15.2.1 q15.2.2).bind fun q17 =>
                  if q17.1 = true then
                    some (true, q17.2.1, q17.2.2)
                  else
                    some (false, q17.2.1, q17.2.2)
              else
                some (false, q15.2.1, q15.2.2)
          else
            if (f_X7_keywordHere I) = (15) then
              (f_X6_takeNumber q1.2.1 q1.2.2 q1.1 (1 : Int32) (40 : Int32)).bind fun q20 =>
                if q20.1 = true then
                  (f_X7_takeSemicolon q20.2.1 q20.2.2).bind fun q22 =>
                    if q22.1 = true then
                      some (true, q22.2.1, q22.2.2)
                    else
                      some (false, q22.2.1, q22.2.2)
                else
                  some (false, q20.2.1, q20.2.2)
            else
              if (f_X7_keywordHere I) = (16) then
                (f_X7_takeSemicolon q1.2.1 q1.2.2).bind fun q25 =>
                  if q25.1 = true then
                    some (true, q25.2.1, q25.2.2)
                  else
                    some (false, q25.2.1, q25.2.2)
              else
                if (f_X7_keywordHere I) = (17) then
                  (f_X7_takeSemicolon q1.2.1 q1.2.2).bind fun q28 =>
                    if q28.1 = true then
                      some (true, q28.2.1, q28.2.2)
                    else
                      some (false, q28.2.1, q28.2.2)
                else
                  if (f_X7_keywordHere I) = (18) then
                    (f_X6_takeTest q1.2.1 q1.2.2 q1.1).bind fun q31 =>
                      if q31.1 = true then
                        (f_X7_takeSemicolon q31.2.1 q31.2.2).bind fun q33 =>
                          if q33.1 = true then
                            some (true, q33.2.1, q33.2.2)
                          else
                            some (false, q33.2.1, q33.2.2)
                      else
                        some (false, q31.2.1, q31.2.2)
                  else
                    if (f_X7_keywordHere I) = (19) then
                      (f_X7_takeSemicolon q1.2.1 q1.2.2).bind fun q36 =>
                        if q36.1 = true then
                          some (true, q36.2.1, q36.2.2)
                        else
                          some (false, q36.2.1, q36.2.2)
                    else
                      if (f_X7_keywordHere I) = (20) then
                        (f_X6_takeNumber q1.2.1 q1.2.2 q1.1 (1 : Int32) (99 : Int32)).bind fun q39 =>
                          if q39.1 = true then
                            (f_X7_takeSemicolon q39.2.1 q39.2.2).bind fun q41 =>
                              if q41.1 = true then
                                some (true, q41.2.1, q41.2.2)
                              else
                                some (false, q41.2.1, q41.2.2)
                          else
                            some (false, q39.2.1, q39.2.2)
                      else
                        (f_X7_takeSemicolon q1.2.1 q1.2.2).bind fun q44 =>
                          if q44.1 = true then
                            some (true, q44.2.1, q44.2.2)
                          else
                            some (false, q44.2.1, q44.2.2)
  else
    some (false, (f_X6_canBegin I (f_X7_keywordHere I)).2, L)
def g_X6_takeText_30 (v1 : Int32) (k81 : z_I → z_L → Option (Bool × z_I × z_L)) : Nat → Int32 → z_I → z_L → Option (Bool × z_I × z_L)
  | 0, _, _, _ => none
  | n + 1, v2, I, L =>
    if v1 < v2 then
      k81 I L
    else
      if (f_X7_isOver I) = true then
        k81 I L
      else
        if (f_X7_isAt I (21 : Int32)) = true then
          (f_X6_takeEnd I L).bind fun q5 =>
            if q5.1 = true then
              g_X6_takeText_30 v1 k81 n (v2 + (1 : Int32)) q5.2.1 q5.2.2
            else
              some (false, q5.2.1, q5.2.2)
        else
          (f_X6_takeStep I L).bind fun q7 =>
            if q7.1 = true then
              g_X6_takeText_30 v1 k81 n (v2 + (1 : Int32)) q7.2.1 q7.2.2
            else
              some (false, q7.2.1, q7.2.2)
def f_X6_takeText (I : z_I) (L : z_L) (p0 : Int32) : Option (Bool × z_I × z_L) :=
  z_lt (z2 (f_X5_clear I 33) 33 5 (zb true)) fun I1 =>
  z_lt (z2 I1 43 4 (0 : Int32)) fun I2 =>
  (f_X7_open I2 L p0).bind fun q3 =>
    g_X6_takeText_30 p0
      (fun I_9 L_10 =>
        if (I_9 43 4) = 0 then
          some (true, I_9, L_10)
        else
          some ((f_X7_fail I_9 (2 : Int32)).1, (f_X7_fail I_9 (2 : Int32)).2, L_10)) z_fuel (0 : Int32) q3.1 q3.2
def g_J7_fill_d0a16_6 (p0 : Nat) (p0n : Nat) (v1 : Int64) (v4 : Int32)  : Nat → Int32 → z_L → Option (z_L)
  | 0, _, _ => none
  | n + 1, v3, L =>
    if v4 ≤ v3 then
      some L
    else
      if zin v3 p0n = true then
        z_lt (z2 L p0 (v3).toNatClampNeg v1) fun L2 =>
        g_J7_fill_d0a16_6 p0 p0n v1 v4  n (v3 + (1 : Int32)) L2
      else none
def f_J7_fill_d0a16 (L : z_L) (p0 p0n : Nat) (p1 : Int64) : Option (z_L) :=
  g_J7_fill_d0a16_6 p0 p0n p1 (Int32.ofNat p0n) z_fuel (0 : Int32) L
def f_X8_lay (I : z_I) (L : z_L) (y : Nat) (p0 : Int32) (p1 : Int32) : Option (z_I × z_L) :=
  z_lt (z2 I y 1 (zb true)) fun I1 =>
  z_lt (z2 I1 y 2 p0) fun I2 =>
  z_lt (z2 I2 y 3 p1) fun I3 =>
  (f_J7_fill_d0a16 L (y + 1) 60 (0 : Int64)).bind fun q4 =>
    some (I3, q4)
def f_X8_spans (I : z_I) (y : Nat) (p0 : Int32) (p1 : Int32) : Bool :=
  if p0 < 0 then
    false
  else
    if p1 < 0 then
      false
    else
      if ((I y 3) - p1) < p0 then
        false
      else
        true
def f_X8_put (I : z_I) (L : z_L) (y : Nat) (p0 : Int32) (p1 : Int64) : Option (z_L) :=
  if (I y 2) = (0) then
    if zin p0 60 = true then
      z_lt (z2 L (y + 1) (p0).toNatClampNeg (((p1.toInt32).toInt8.toInt32).toInt64)) fun L2 =>
      some L2
    else none
  else
    if (I y 2) = (1) then
      if zin p0 60 = true then
        z_lt (z2 L (y + 1) (p0).toNatClampNeg (((p1.toInt32).toInt16.toInt32).toInt64)) fun L5 =>
        some L5
      else none
    else
      if (I y 2) = (2) then
        if zin p0 60 = true then
          z_lt (z2 L (y + 1) (p0).toNatClampNeg ((p1.toInt32).toInt64)) fun L8 =>
          some L8
        else none
      else
        if zin p0 60 = true then
          z_lt (z2 L (y + 1) (p0).toNatClampNeg p1) fun L11 =>
          some L11
        else none
def g_X9_growOne_38 (v1 : Int32) (v2 : Bool) (v3 : Int32)  : Nat → Int32 → z_I → Option (z_I)
  | 0, _, _ => none
  | n + 1, v4, I =>
    if (I 3 12) ≤ v4 then
      some I
    else
      if zin v4 7 = true then
        z_lt (v1 &&& ((I 9 (v4).toNatClampNeg) ^^^ (-1 : Int32))) fun w9 =>
        if (v1 &&& (I 9 (v4).toNatClampNeg)) = 0 then
          g_X9_growOne_38 v1 v2 v3  n (v4 + (1 : Int32)) I
        else
          if w9 = 0 then
            g_X9_growOne_38 v1 v2 v3  n (v4 + (1 : Int32)) I
          else
            if zin (v1 &&& (I 9 (v4).toNatClampNeg)) 256 = true then
              if (I 49 ((v1 &&& (I 9 (v4).toNatClampNeg))).toNatClampNeg) = (-1 : Int32) then
                g_X9_growOne_38 v1 v2 v3  n (v4 + (1 : Int32)) I
              else
                if zin w9 256 = true then
                  if (I 49 (w9).toNatClampNeg) = (-1 : Int32) then
                    g_X9_growOne_38 v1 v2 v3  n (v4 + (1 : Int32)) I
                  else
                    if v2 = true then
                      z_lt ((((I 8 (v4).toNatClampNeg) * v3) + (I 49 ((v1 &&& (I 9 (v4).toNatClampNeg))).toNatClampNeg)) + (I 49 (w9).toNatClampNeg)) fun w15 =>
                      if zin v1 256 = true then
                        if (I 49 (v1).toNatClampNeg) = (-1 : Int32) then
                          z_lt (z2 I 49 (v1).toNatClampNeg w15) fun I18 =>
                          z_lt (z2 I18 50 (v1).toNatClampNeg v4) fun I20 =>
                          g_X9_growOne_38 v1 v2 v3  n (v4 + (1 : Int32)) I20
                        else
                          if (I 49 (v1).toNatClampNeg) ≤ w15 then
                            g_X9_growOne_38 v1 v2 v3  n (v4 + (1 : Int32)) I
                          else
                            z_lt (z2 I 49 (v1).toNatClampNeg w15) fun I23 =>
                            z_lt (z2 I23 50 (v1).toNatClampNeg v4) fun I25 =>
                            g_X9_growOne_38 v1 v2 v3  n (v4 + (1 : Int32)) I25
                      else none
                    else
                      z_lt ((1 : Int32) + (z_max (I 49 ((v1 &&& (I 9 (v4).toNatClampNeg))).toNatClampNeg) (I 49 (w9).toNatClampNeg))) fun w28 =>
                      if zin v1 256 = true then
                        if (I 49 (v1).toNatClampNeg) = (-1 : Int32) then
                          z_lt (z2 I 49 (v1).toNatClampNeg w28) fun I31 =>
                          z_lt (z2 I31 50 (v1).toNatClampNeg v4) fun I33 =>
                          g_X9_growOne_38 v1 v2 v3  n (v4 + (1 : Int32)) I33
                        else
                          if (I 49 (v1).toNatClampNeg) ≤ w28 then
                            g_X9_growOne_38 v1 v2 v3  n (v4 + (1 : Int32)) I
                          else
                            z_lt (z2 I 49 (v1).toNatClampNeg w28) fun I36 =>
                            z_lt (z2 I36 50 (v1).toNatClampNeg v4) fun I38 =>
                            g_X9_growOne_38 v1 v2 v3  n (v4 + (1 : Int32)) I38
                      else none
                else none
            else none
      else none
def f_X9_growOne (I : z_I) (p0 : Int32) (p1 : Bool) : Option (z_I) :=
  if (f_J6_bitCount_0f7a4 p0) = (1 : Int32) then
    if zin p0 256 = true then
      z_lt (z2 I 49 (p0).toNatClampNeg (0 : Int32)) fun I2 =>
      z_lt (z2 I2 50 (p0).toNatClampNeg (-1 : Int32)) fun I4 =>
      (f_X0_weightOf I4 3 p0).bind fun q5 =>
        g_X9_growOne_38 p0 p1 q5 z_fuel (0 : Int32) I4
    else none
  else
    if zin p0 256 = true then
      z_lt (z2 I 49 (p0).toNatClampNeg (-1 : Int32)) fun I40 =>
      z_lt (z2 I40 50 (p0).toNatClampNeg (-1 : Int32)) fun I42 =>
      (f_X0_weightOf I42 3 p0).bind fun q43 =>
        g_X9_growOne_38 p0 p1 q43 z_fuel (0 : Int32) I42
    else none
def g_X9_grow_2 (v1 : Int32) (v2 : Bool)  : Nat → Int32 → z_I → Option (z_I)
  | 0, _, _ => none
  | n + 1, v3, I =>
    if v1 < v3 then
      some I
    else
      if (v3 &&& (v1 ^^^ (-1 : Int32))) = 0 then
        (f_X9_growOne I v3 v2).bind fun q1 =>
          g_X9_grow_2 v1 v2  n (v3 + (1 : Int32)) q1
      else
        g_X9_grow_2 v1 v2  n (v3 + (1 : Int32)) I
def f_X9_grow (I : z_I) (p0 : Int32) (p1 : Bool) : Option (z_I) :=
  g_X9_grow_2 p0 p1 z_fuel (1 : Int32) I
def f_X10_status (I : z_I)  : Int32 :=
  (I 0 15)
def f_X10_top (L : z_L)  : Int64 :=
  (L 54 0)
def f_X10_bottom (L : z_L)  : Int64 :=
  (L 54 1)
def f_X10_isTray  (p0 : Int32) : Bool :=
  (f_X10_isWithin p0 (0 : Int32) (3 : Int32))
def f_X10_deny (I : z_I) (p0 : Int32) : Bool × z_I :=
  z_lt (z2 I 0 15 p0) fun I1 =>
  (false, I1)
def f_X10_grant (I : z_I)  : Bool × z_I :=
  z_lt (z2 I 0 15 (0 : Int32)) fun I1 =>
  (true, I1)
def f_X10_tray (I : z_I) (L : z_L) (p0 : Int32) (p1 : Int32) (p2 : Int32) : Option (Bool × z_I × z_L) :=
  if (f_X10_isTray p0) = true then
    if (f_X10_isWithin p1 (0 : Int32) (3 : Int32)) = true then
      if (f_X10_isWithin p2 (0 : Int32) (60 : Int32)) = true then
        if zin p0 4 = true then
          (f_X8_lay I L ([55, 57, 59, 61].getD (p0).toNatClampNeg 0) p1 p2).bind fun q2 =>
            some ((f_X10_grant q2.1).1, (f_X10_grant q2.1).2, q2.2)
        else none
      else
        some ((f_X10_deny I (1 : Int32)).1, (f_X10_deny I (1 : Int32)).2, L)
    else
      some ((f_X10_deny I (1 : Int32)).1, (f_X10_deny I (1 : Int32)).2, L)
  else
    some ((f_X10_deny I (1 : Int32)).1, (f_X10_deny I (1 : Int32)).2, L)
def f_X10_hindranceAt (I : z_I) (p0 : Int32) (p1 : Int32) : Option (Int32) :=
  if (f_X10_isTray p0) = true then
    if zin p0 4 = true then
      if (zn (I ([55, 57, 59, 61].getD (p0).toNatClampNeg 0) 1)) = true then
        if (f_X10_isWithin p1 (0 : Int32) ((I ([55, 57, 59, 61].getD (p0).toNatClampNeg 0) 3) - (1 : Int32))) = true then
          some (0 : Int32)
        else
          some (3 : Int32)
      else
        some (2 : Int32)
    else none
  else
    some (1 : Int32)
def f_X10_write (I : z_I) (L : z_L) (p0 : Int32) (p1 : Int32) (p2 : Int64) : Option (Bool × z_I × z_L) :=
  (f_X10_hindranceAt I p0 p1).bind fun q1 =>
    if q1 = 0 then
      if zin p0 4 = true then
        (f_X8_put I L ([55, 57, 59, 61].getD (p0).toNatClampNeg 0) p1 p2).bind fun q4 =>
          some ((f_X10_grant I).1, (f_X10_grant I).2, q4)
      else none
    else
      some ((f_X10_deny I q1).1, (f_X10_deny I q1).2, L)
def f_X10_refuse (I : z_I) (p0 : Int32) : Int32 × z_I :=
  z_lt (z2 I 0 15 p0) fun I1 =>
  ((-1 : Int32), I1)
def f_X10_read (I : z_I) (L : z_L) (p0 : Int32) (p1 : Int32) : Option (Int64 × z_I) :=
  (f_X10_hindranceAt I p0 p1).bind fun q1 =>
    if q1 = 0 then
      z_lt (z2 I 0 15 (0 : Int32)) fun I3 =>
      if zin p0 4 = true then
        if zin p1 60 = true then
          some ((L (([55, 57, 59, 61].getD (p0).toNatClampNeg 0) + 1) (p1).toNatClampNeg), I3)
        else none
      else none
    else
      some (((f_X10_refuse I q1).1.toInt64), (f_X10_refuse I q1).2)
def f_X10_pour (I : z_I) (L : z_L) (p0 : Int32) (p1 : Int32) (p2 : Int32) (p3 : Int32) (p4 : Int32) : Option (Bool × z_I × z_L) :=
  if (f_X10_isTray p0) = true then
    if (f_X10_isTray p2) = true then
      if p1 < 0 then
        some ((f_X10_deny I (1 : Int32)).1, (f_X10_deny I (1 : Int32)).2, L)
      else
        if p3 < 0 then
          some ((f_X10_deny I (1 : Int32)).1, (f_X10_deny I (1 : Int32)).2, L)
        else
          if 0 ≤ p4 then
            if zin p0 4 = true then
              if zin p2 4 = true then
                if (zn (I ([55, 57, 59, 61].getD (p0).toNatClampNeg 0) 1)) = true then
                  if (zn (I ([55, 57, 59, 61].getD (p2).toNatClampNeg 0) 1)) = true then
                    if (I ([55, 57, 59, 61].getD (p0).toNatClampNeg 0) 2) = (I ([55, 57, 59, 61].getD (p2).toNatClampNeg 0) 2) then
                      if (f_X8_spans I ([55, 57, 59, 61].getD (p0).toNatClampNeg 0) p1 p4) = true then
                        if (f_X8_spans I ([55, 57, 59, 61].getD (p2).toNatClampNeg 0) p3 p4) = true then
                          if ¬ p1 < 0 ∧ ¬ p3 < 0 ∧ ¬ p4 < 0 ∧ (p1).toNatClampNeg + (p4).toNatClampNeg ≤ 60 ∧ (p3).toNatClampNeg + (p4).toNatClampNeg ≤ 60 then
                            z_lt (zr L (([55, 57, 59, 61].getD (p2).toNatClampNeg 0) + 1) (va_cpy (L (([55, 57, 59, 61].getD (p0).toNatClampNeg 0) + 1)) (L (([55, 57, 59, 61].getD (p2).toNatClampNeg 0) + 1)) (p1).toNatClampNeg (p3).toNatClampNeg (p4).toNatClampNeg)) fun L4 =>
                            some ((f_X10_grant I).1, (f_X10_grant I).2, L4)
                          else none
                        else
                          some ((f_X10_deny I (3 : Int32)).1, (f_X10_deny I (3 : Int32)).2, L)
                      else
                        some ((f_X10_deny I (3 : Int32)).1, (f_X10_deny I (3 : Int32)).2, L)
                    else
                      some ((f_X10_deny I (8 : Int32)).1, (f_X10_deny I (8 : Int32)).2, L)
                  else
                    some ((f_X10_deny I (2 : Int32)).1, (f_X10_deny I (2 : Int32)).2, L)
                else
                  some ((f_X10_deny I (2 : Int32)).1, (f_X10_deny I (2 : Int32)).2, L)
              else none
            else none
          else
            some ((f_X10_deny I (1 : Int32)).1, (f_X10_deny I (1 : Int32)).2, L)
    else
      some ((f_X10_deny I (1 : Int32)).1, (f_X10_deny I (1 : Int32)).2, L)
  else
    some ((f_X10_deny I (1 : Int32)).1, (f_X10_deny I (1 : Int32)).2, L)
def g_X10_putOnTape_3 (v1 : Int32)  : Nat → Int32 → z_I → Option (z_I)
  | 0, _, _ => none
  | n + 1, v2, I =>
    if v2 < 0 then
      some I
    else
      if zin (I 0 18) 900 = true then
        z_lt (z2 I 2 ((I 0 18)).toNatClampNeg (vp_nar .byte (((v1).toUInt32 >>> ((v2).toUInt32 &&& Int32.toUInt32 31)).toInt32.toInt8.toInt32))) fun I2 =>
        z_lt (z2 I2 0 18 ((I 0 18) + (1 : Int32))) fun I3 =>
        g_X10_putOnTape_3 v1  n (v2 + (-8 : Int32)) I3
      else none
def f_X10_putOnTape (I : z_I) (p0 : Int32) : Option (z_I) :=
  g_X10_putOnTape_3 p0 z_fuel (24 : Int32) I
def f_X10_feed (I : z_I) (p0 : Int32) (p1 : Int32) (p2 : Int32) (p3 : Int32) (p4 : Int32) : Option (Int32 × z_I) :=
  if ((I 0 18) + (20 : Int32)) ≤ (900 : Int32) then
    (f_X10_putOnTape I p0).bind fun q1 =>
      (f_X10_putOnTape q1 p1).bind fun q3 =>
        (f_X10_putOnTape q3 p2).bind fun q5 =>
          (f_X10_putOnTape q5 p3).bind fun q7 =>
            (f_X10_putOnTape q7 p4).bind fun q9 =>
              some ((q9 0 18), q9)
  else
    some ((-1 : Int32), I)
def f_X10_endText (I : z_I) (p0 : Bool) : z_I :=
  z_lt (z2 I 0 18 (0 : Int32)) fun I1 =>
  if p0 = true then
    z_lt (z2 I1 0 16 (0 : Int32)) fun I2 =>
    if p0 = true then
      z_lt (z2 I2 0 17 (-1 : Int32)) fun I3 =>
      I3
    else
      z_lt (z2 I2 0 17 (I 39 12)) fun I4 =>
      I4
  else
    z_lt (z2 I1 0 16 (I 39 11)) fun I5 =>
    if p0 = true then
      z_lt (z2 I5 0 17 (-1 : Int32)) fun I6 =>
      I6
    else
      z_lt (z2 I5 0 17 (I 39 12)) fun I7 =>
      I7
def f_X10_give (I : z_I) (p0 : Int32) : Int32 × z_I :=
  z_lt (z2 I 0 15 (0 : Int32)) fun I1 =>
  (p0, I1)
def f_X10_court (I : z_I) (L : z_L) (p0 : Int32) : Option (Int32 × z_I × z_L) :=
  if (f_X10_isWithin p0 (0 : Int32) (I 0 18)) = true then
    (f_X1_takeText I L p0).bind fun q1 =>
      if q1.1 = true then
        some ((f_X10_give (f_X5_clear (f_X0_copyFrom (f_X10_endText q1.2.1 q1.1) q1.2.2 3 22).1 14) ((f_X5_clear (f_X0_copyFrom (f_X10_endText q1.2.1 q1.1) q1.2.2 3 22).1 14) 3 12)).1, (f_X10_give (f_X5_clear (f_X0_copyFrom (f_X10_endText q1.2.1 q1.1) q1.2.2 3 22).1 14) ((f_X5_clear (f_X0_copyFrom (f_X10_endText q1.2.1 q1.1) q1.2.2 3 22).1 14) 3 12)).2, (f_X0_copyFrom (f_X10_endText q1.2.1 q1.1) q1.2.2 3 22).2)
      else
        some ((f_X10_refuse (f_X10_endText q1.2.1 q1.1) (9 : Int32)).1, (f_X10_refuse (f_X10_endText q1.2.1 q1.1) (9 : Int32)).2, q1.2.2)
  else
    some ((f_X10_refuse I (1 : Int32)).1, (f_X10_refuse I (1 : Int32)).2, L)
def f_X10_terms (I : z_I) (L : z_L) (p0 : Int32) : Option (Int32 × z_I × z_L) :=
  if (f_X10_isWithin p0 (0 : Int32) (I 0 18)) = true then
    if p0 ≤ (300 : Int32) then
      (f_X6_takeText I L p0).bind fun q1 =>
        if q1.1 = true then
          some ((f_X10_give (f_X5_copyFrom (f_X10_endText q1.2.1 q1.1) 14 33) ((f_X5_copyFrom (f_X10_endText q1.2.1 q1.1) 14 33) 14 7)).1, (f_X10_give (f_X5_copyFrom (f_X10_endText q1.2.1 q1.1) 14 33) ((f_X5_copyFrom (f_X10_endText q1.2.1 q1.1) 14 33) 14 7)).2, q1.2.2)
        else
          some ((f_X10_refuse (f_X10_endText q1.2.1 q1.1) (9 : Int32)).1, (f_X10_refuse (f_X10_endText q1.2.1 q1.1) (9 : Int32)).2, q1.2.2)
    else
      some ((f_X10_refuse I (1 : Int32)).1, (f_X10_refuse I (1 : Int32)).2, L)
  else
    some ((f_X10_refuse I (1 : Int32)).1, (f_X10_refuse I (1 : Int32)).2, L)
def f_X10_fault (I : z_I) (p0 : Int32) : Int32 :=
  if p0 = 0 then
    (I 0 16)
  else
    if p0 = (1 : Int32) then
      (I 0 17)
    else
      (-1 : Int32)
def f_X10_told (I : z_I) (p0 : Int32) : Option (Int32 × z_I) :=
  if p0 = (0) then
    some ((f_X10_give I (I 3 10)).1, (f_X10_give I (I 3 10)).2)
  else
    if p0 = (1) then
      some ((f_X10_give I (I 3 11)).1, (f_X10_give I (I 3 11)).2)
    else
      if p0 = (2) then
        some ((f_X10_give I (I 3 12)).1, (f_X10_give I (I 3 12)).2)
      else
        if p0 = (3) then
          some ((f_X10_give I (I 3 13)).1, (f_X10_give I (I 3 13)).2)
        else
          if p0 = (4) then
            some ((f_X10_give I (I 3 14)).1, (f_X10_give I (I 3 14)).2)
          else
            if p0 = (5) then
              some ((f_X10_give I (I 3 15)).1, (f_X10_give I (I 3 15)).2)
            else
              if p0 = (6) then
                some ((f_X10_give I (I 3 16)).1, (f_X10_give I (I 3 16)).2)
              else
                if p0 = (7) then
                  (f_X0_allCrocuses I 3).bind fun q8 =>
                    some ((f_X10_give I q8).1, (f_X10_give I q8).2)
                else
                  if p0 = (8) then
                    (f_X0_allShams I 3).bind fun q11 =>
                      some ((f_X10_give I q11).1, (f_X10_give I q11).2)
                  else
                    if p0 = (9) then
                      (f_X0_allGold I 3).bind fun q14 =>
                        some ((f_X10_give I q14).1, (f_X10_give I q14).2)
                    else
                      if p0 = (10) then
                        (f_X0_countParts I 3).bind fun q17 =>
                          some ((f_X10_give I q17).1, (f_X10_give I q17).2)
                      else
                        some ((f_X10_refuse I (1 : Int32)).1, (f_X10_refuse I (1 : Int32)).2)
def f_X10_bed (I : z_I) (p0 : Int32) (p1 : Int32) : Option (Int32 × z_I) :=
  if (f_X0_hasBed I 3 p0) = true then
    if p1 = (0) then
      if zin p0 6 = true then
        some ((f_X10_give I (I 4 (p0).toNatClampNeg)).1, (f_X10_give I (I 4 (p0).toNatClampNeg)).2)
      else none
    else
      if p1 = (1) then
        if zin p0 6 = true then
          some ((f_X10_give I (I 5 (p0).toNatClampNeg)).1, (f_X10_give I (I 5 (p0).toNatClampNeg)).2)
        else none
      else
        some ((f_X10_refuse I (1 : Int32)).1, (f_X10_refuse I (1 : Int32)).2)
  else
    some ((f_X10_refuse I (1 : Int32)).1, (f_X10_refuse I (1 : Int32)).2)
def f_X10_weight (I : z_I) (p0 : Int32) : Option (Int32 × z_I) :=
  if (f_X0_hasCase I 3 p0) = true then
    if zin p0 8 = true then
      some ((f_X10_give I (I 6 (p0).toNatClampNeg)).1, (f_X10_give I (I 6 (p0).toNatClampNeg)).2)
    else none
  else
    some ((f_X10_refuse I (1 : Int32)).1, (f_X10_refuse I (1 : Int32)).2)
def f_X10_claim (I : z_I) (p0 : Int32) (p1 : Int32) : Option (Int32 × z_I) :=
  if (f_X0_hasClaim I 3 p0) = true then
    if p1 = (0) then
      if zin p0 7 = true then
        some ((f_X10_give I (I 7 (p0).toNatClampNeg)).1, (f_X10_give I (I 7 (p0).toNatClampNeg)).2)
      else none
    else
      if p1 = (1) then
        if zin p0 7 = true then
          some ((f_X10_give I (I 8 (p0).toNatClampNeg)).1, (f_X10_give I (I 8 (p0).toNatClampNeg)).2)
        else none
      else
        if p1 = (2) then
          if zin p0 7 = true then
            some ((f_X10_give I (I 9 (p0).toNatClampNeg)).1, (f_X10_give I (I 9 (p0).toNatClampNeg)).2)
          else none
        else
          if p1 = (3) then
            (f_X0_yieldUnder I 3 (I 3 16) p0).bind fun q7 =>
              some ((f_X10_give I q7).1, (f_X10_give I q7).2)
          else
            some ((f_X10_refuse I (1 : Int32)).1, (f_X10_refuse I (1 : Int32)).2)
  else
    some ((f_X10_refuse I (1 : Int32)).1, (f_X10_refuse I (1 : Int32)).2)
def f_X10_scholar (I : z_I) (p0 : Int32) (p1 : Int32) : Option (Int32 × z_I) :=
  if (f_X0_hasScholar I 3 p0) = true then
    if p1 = (0) then
      if zin p0 4 = true then
        some ((f_X10_give I (I 11 (p0).toNatClampNeg)).1, (f_X10_give I (I 11 (p0).toNatClampNeg)).2)
      else none
    else
      if p1 = (1) then
        if zin p0 4 = true then
          some ((f_X10_give I (I 12 (p0).toNatClampNeg)).1, (f_X10_give I (I 12 (p0).toNatClampNeg)).2)
        else none
      else
        some ((f_X10_refuse I (1 : Int32)).1, (f_X10_refuse I (1 : Int32)).2)
  else
    some ((f_X10_refuse I (1 : Int32)).1, (f_X10_refuse I (1 : Int32)).2)
def f_X10_make (I : z_I) (p0 : Int32) : Option (Int32 × z_I) :=
  if (f_X0_hasClaim I 3 p0) = true then
    if (f_X0_isMade I 3 p0) = true then
      some ((f_X10_refuse I (7 : Int32)).1, (f_X10_refuse I (7 : Int32)).2)
    else
      (f_X0_putForward I 3 p0).bind fun q1 =>
        some ((f_X10_give q1.2 q1.1).1, (f_X10_give q1.2 q1.1).2)
  else
    some ((f_X10_refuse I (1 : Int32)).1, (f_X10_refuse I (1 : Int32)).2)
def f_X10_recant (I : z_I) (p0 : Int32) : Int32 × z_I :=
  if (f_X0_hasClaim I 3 p0) = true then
    if (f_X0_isMade I 3 p0) = true then
      z_lt (z2 I 3 16 ((I 3 16) &&& (((1 : Int32) <<< (p0 &&& 31)) ^^^ (-1 : Int32)))) fun I1 =>
      ((f_X10_give I1 (f_J6_bitCount_0f7a4 ((I 3 16) &&& (((1 : Int32) <<< (p0 &&& 31)) ^^^ (-1 : Int32))))).1, (f_X10_give I1 (f_J6_bitCount_0f7a4 ((I 3 16) &&& (((1 : Int32) <<< (p0 &&& 31)) ^^^ (-1 : Int32))))).2)
    else
      ((f_X10_refuse I (7 : Int32)).1, (f_X10_refuse I (7 : Int32)).2)
  else
    ((f_X10_refuse I (1 : Int32)).1, (f_X10_refuse I (1 : Int32)).2)
def f_X10_forget (I : z_I)  : Int32 × z_I :=
  if (f_J6_bitCount_0f7a4 (I 3 16)) = 0 then
    ((f_X10_refuse I (7 : Int32)).1, (f_X10_refuse I (7 : Int32)).2)
  else
    z_lt (z2 I 3 16 (0 : Int32)) fun I1 =>
    ((f_X10_give I1 (f_J6_bitCount_0f7a4 (I 3 16))).1, (f_X10_give I1 (f_J6_bitCount_0f7a4 (I 3 16))).2)
def f_X10_walk (I : z_I) (p0 : Int32) (p1 : Int32) : Option (Int32 × z_I) :=
  if (f_X0_hasScholar I 3 p0) = true then
    if (f_X0_hasBed I 3 p1) = true then
      if zin p0 4 = true then
        if (z_abs ((I 11 (p0).toNatClampNeg) - p1)) = 0 then
          some ((f_X10_refuse I (7 : Int32)).1, (f_X10_refuse I (7 : Int32)).2)
        else
          z_lt (z2 I 11 (p0).toNatClampNeg p1) fun I3 =>
          some ((f_X10_give I3 (z_abs ((I 11 (p0).toNatClampNeg) - p1))).1, (f_X10_give I3 (z_abs ((I 11 (p0).toNatClampNeg) - p1))).2)
      else none
    else
      some ((f_X10_refuse I (1 : Int32)).1, (f_X10_refuse I (1 : Int32)).2)
  else
    some ((f_X10_refuse I (1 : Int32)).1, (f_X10_refuse I (1 : Int32)).2)
def f_X10_pick (I : z_I) (p0 : Int32) : Option (Int32 × z_I) :=
  if (f_X0_hasScholar I 3 p0) = true then
    (f_X0_harvest I 3 p0).bind fun q1 =>
      if q1.1 = 0 then
        some ((f_X10_refuse q1.2 (7 : Int32)).1, (f_X10_refuse q1.2 (7 : Int32)).2)
      else
        some ((f_X10_give q1.2 q1.1).1, (f_X10_give q1.2 q1.1).2)
  else
    some ((f_X10_refuse I (1 : Int32)).1, (f_X10_refuse I (1 : Int32)).2)
def f_X10_night (I : z_I) (p0 : Int32) : Option (Int32 × z_I) :=
  if (f_X10_isWithin p0 (1 : Int32) (99 : Int32)) = true then
    (f_X0_passNights I 3 p0).bind fun q1 =>
      if q1.1 = true then
        (f_X0_allCrocuses q1.2 3).bind fun q3 =>
          some ((f_X10_give q1.2 q3).1, (f_X10_give q1.2 q3).2)
      else
        some ((f_X10_refuse q1.2 (4 : Int32)).1, (f_X10_refuse q1.2 (4 : Int32)).2)
  else
    some ((f_X10_refuse I (1 : Int32)).1, (f_X10_refuse I (1 : Int32)).2)
def f_X10_weed (I : z_I) (p0 : Int32) : Option (Int32 × z_I) :=
  if (f_X0_hasBed I 3 p0) = true then
    if zin p0 6 = true then
      if (I 5 (p0).toNatClampNeg) = 0 then
        some ((f_X10_refuse I (7 : Int32)).1, (f_X10_refuse I (7 : Int32)).2)
      else
        z_lt (z2 I 5 (p0).toNatClampNeg (0 : Int32)) fun I3 =>
        some ((f_X10_give I3 (I 5 (p0).toNatClampNeg)).1, (f_X10_give I3 (I 5 (p0).toNatClampNeg)).2)
    else none
  else
    some ((f_X10_refuse I (1 : Int32)).1, (f_X10_refuse I (1 : Int32)).2)
def f_X10_teach (I : z_I) (p0 : Int32) (p1 : Int32) (p2 : Bool) : Option (Bool × z_I) :=
  if (f_X0_hasClaim I 3 p0) = true then
    if (f_X0_hasCase I 3 p1) = true then
      if zin p0 7 = true then
        if ((I 9 (p0).toNatClampNeg) &&& ((1 : Int32) <<< (p1 &&& 31))) = 0 then
          if (0 : Int32) = (zb p2) then
            some ((f_X10_deny I (7 : Int32)).1, (f_X10_deny I (7 : Int32)).2)
          else
            z_lt (z2 I 9 (p0).toNatClampNeg ((I 9 (p0).toNatClampNeg) ^^^ ((1 : Int32) <<< (p1 &&& 31)))) fun I4 =>
            some ((f_X10_grant I4).1, (f_X10_grant I4).2)
        else
          if (1 : Int32) = (zb p2) then
            some ((f_X10_deny I (7 : Int32)).1, (f_X10_deny I (7 : Int32)).2)
          else
            z_lt (z2 I 9 (p0).toNatClampNeg ((I 9 (p0).toNatClampNeg) ^^^ ((1 : Int32) <<< (p1 &&& 31)))) fun I7 =>
            some ((f_X10_grant I7).1, (f_X10_grant I7).2)
      else none
    else
      some ((f_X10_deny I (1 : Int32)).1, (f_X10_deny I (1 : Int32)).2)
  else
    some ((f_X10_deny I (1 : Int32)).1, (f_X10_deny I (1 : Int32)).2)
def f_X10_weigh (I : z_I) (p0 : Int32) (p1 : Int32) : Option (Int32 × z_I) :=
  if (f_X0_hasCase I 3 p0) = true then
    if (f_X10_isWithin p1 (1 : Int32) (20 : Int32)) = true then
      if zin p0 8 = true then
        z_lt (z2 I 6 (p0).toNatClampNeg p1) fun I3 =>
        some ((f_X10_give I3 (I 6 (p0).toNatClampNeg)).1, (f_X10_give I3 (I 6 (p0).toNatClampNeg)).2)
      else none
    else
      some ((f_X10_refuse I (1 : Int32)).1, (f_X10_refuse I (1 : Int32)).2)
  else
    some ((f_X10_refuse I (1 : Int32)).1, (f_X10_refuse I (1 : Int32)).2)
def f_X10_think (I : z_I) (L : z_L) (p0 : Int32) (p1 : Int32) (p2 : Int32) : Option (Int32 × z_I × z_L) :=
  if (f_X0_hasCases I 3 p0) = true then
    if (f_X0_hasBed I 3 p1) = true then
      if (f_X10_isWithin p2 (1 : Int32) (9 : Int32)) = true then
        if (I 3 12) < (7 : Int32) then
          (f_X0_addClaim I L 3 (0 : Int64) p1 p2 p0).bind fun q1 =>
            some ((f_X10_give q1.1 ((q1.1 3 12) - (1 : Int32))).1, (f_X10_give q1.1 ((q1.1 3 12) - (1 : Int32))).2, q1.2)
        else
          some ((f_X10_refuse I (4 : Int32)).1, (f_X10_refuse I (4 : Int32)).2, L)
      else
        some ((f_X10_refuse I (1 : Int32)).1, (f_X10_refuse I (1 : Int32)).2, L)
    else
      some ((f_X10_refuse I (1 : Int32)).1, (f_X10_refuse I (1 : Int32)).2, L)
  else
    some ((f_X10_refuse I (1 : Int32)).1, (f_X10_refuse I (1 : Int32)).2, L)
def f_X10_rule (I : z_I) (p0 : Int32) : Bool × z_I :=
  if (f_X10_isWithin p0 (0 : Int32) (16 : Int32)) = true then
    z_lt (z2 I 3 14 p0) fun I1 =>
    ((f_X10_grant I1).1, (f_X10_grant I1).2)
  else
    ((f_X10_deny I (1 : Int32)).1, (f_X10_deny I (1 : Int32)).2)
def f_X10_partOf (I : z_I) (p0 : Int32) : Option (Int32 × z_I) :=
  if (f_X0_hasCase I 3 p0) = true then
    (f_X0_partUnder I 3 (I 3 16) p0).bind fun q1 =>
      some ((f_X10_give I q1).1, (f_X10_give I q1).2)
  else
    some ((f_X10_refuse I (1 : Int32)).1, (f_X10_refuse I (1 : Int32)).2)
def g_X10_couples_4 (I : z_I)  : Nat → Int32 → Int32 → Option (Int32 × z_I)
  | 0, _, _ => none
  | n + 1, v1, v2 =>
    if (I 3 11) ≤ v2 then
      some ((f_X10_give I (v1 / (2 : Int32))).1, (f_X10_give I (v1 / (2 : Int32))).2)
    else
      (f_X0_partUnder I 3 (I 3 16) v2).bind fun q1 =>
        z_lt (v1 + ((f_J6_bitCount_0f7a4 q1) - (1 : Int32))) fun w3 =>
        g_X10_couples_4 I  n w3 (v2 + (1 : Int32))
def f_X10_couples (I : z_I)  : Option (Int32 × z_I) :=
  g_X10_couples_4 I z_fuel (0 : Int32) (0 : Int32)
def f_X10_parting (I : z_I) (p0 : Int32) (p1 : Int32) : Option (Int32 × z_I) :=
  if (f_X0_hasCase I 3 p0) = true then
    if (f_X0_hasCase I 3 p1) = true then
      if p0 = p1 then
        some ((f_X10_refuse I (1 : Int32)).1, (f_X10_refuse I (1 : Int32)).2)
      else
        (f_X0_partedBy I 3 p0 p1).bind fun q1 =>
          some ((f_X10_give I q1).1, (f_X10_give I q1).2)
    else
      some ((f_X10_refuse I (1 : Int32)).1, (f_X10_refuse I (1 : Int32)).2)
  else
    some ((f_X10_refuse I (1 : Int32)).1, (f_X10_refuse I (1 : Int32)).2)
def g_X10_barren_4 (I : z_I)  : Nat → Int32 → Int32 → Option (Int32 × z_I)
  | 0, _, _ => none
  | n + 1, v1, v2 =>
    if (I 3 12) ≤ v2 then
      some ((f_X10_give I v1).1, (f_X10_give I v1).2)
    else
      if (f_X0_isMade I 3 v2) = true then
        g_X10_barren_4 I  n v1 (v2 + (1 : Int32))
      else
        (f_X0_yieldUnder I 3 (I 3 16) v2).bind fun q1 =>
          if q1 = 0 then
            g_X10_barren_4 I  n (v1 ||| ((1 : Int32) <<< (v2 &&& 31))) (v2 + (1 : Int32))
          else
            g_X10_barren_4 I  n v1 (v2 + (1 : Int32))
def f_X10_barren (I : z_I)  : Option (Int32 × z_I) :=
  g_X10_barren_4 I z_fuel (0 : Int32) (0 : Int32)
def f_X10_most (I : z_I) (p0 : Int32) : Option (Int32 × z_I) :=
  if (f_X10_isWithin p0 (0 : Int32) (3 : Int32)) = true then
    (f_X2_lookAlone I p0).bind fun q1 =>
      (f_X2_bestBy q1 p0).bind fun q3 =>
        some ((f_X10_give q1 q3).1, (f_X10_give q1 q3).2)
  else
    some ((f_X10_refuse I (1 : Int32)).1, (f_X10_refuse I (1 : Int32)).2)
def f_X10_giveIfAny (I : z_I) (p0 : Int32) : Int32 × z_I :=
  if p0 = (-1 : Int32) then
    ((f_X10_refuse I (6 : Int32)).1, (f_X10_refuse I (6 : Int32)).2)
  else
    ((f_X10_give I p0).1, (f_X10_give I p0).2)
def f_X10_first (I : z_I) (p0 : Int32) (p1 : Int32) : Option (Int32 × z_I) :=
  if (f_X10_isWithin p0 (0 : Int32) (3 : Int32)) = true then
    if 0 ≤ p1 then
      (f_X2_lookAlone I p0).bind fun q1 =>
        (f_X2_rowAt q1 p0 p1).bind fun q3 =>
          some ((f_X10_giveIfAny q1 q3).1, (f_X10_giveIfAny q1 q3).2)
    else
      some ((f_X10_refuse I (1 : Int32)).1, (f_X10_refuse I (1 : Int32)).2)
  else
    some ((f_X10_refuse I (1 : Int32)).1, (f_X10_refuse I (1 : Int32)).2)
def g_X10_fewestThatPart_8 (v1 : Int32) (I : z_I)  : Nat → Int32 → Int32 → Int32 → Option (Int32)
  | 0, _, _, _ => none
  | n + 1, v2, v3, v4 =>
    if ((1 : Int32) <<< ((I 3 12) &&& 31)) ≤ v4 then
      some v2
    else
      if v3 ≤ (f_J6_bitCount_0f7a4 v4) then
        g_X10_fewestThatPart_8 v1 I  n v2 v3 (v4 + (1 : Int32))
      else
        (f_X0_isPartedWhole I 3 v1 v4).bind fun q1 =>
          if q1 = true then
            g_X10_fewestThatPart_8 v1 I  n v4 (f_J6_bitCount_0f7a4 v4) (v4 + (1 : Int32))
          else
            g_X10_fewestThatPart_8 v1 I  n v2 v3 (v4 + (1 : Int32))
def f_X10_fewestThatPart (I : z_I) (p0 : Int32) : Option (Int32) :=
  g_X10_fewestThatPart_8 p0 I z_fuel (-1 : Int32) (8 : Int32) (0 : Int32)
def f_X10_fewest (I : z_I) (p0 : Int32) : Option (Int32 × z_I) :=
  if (f_X0_hasCases I 3 p0) = true then
    (f_X10_fewestThatPart I p0).bind fun q1 =>
      if q1 = (-1 : Int32) then
        some ((f_X10_refuse I (6 : Int32)).1, (f_X10_refuse I (6 : Int32)).2)
      else
        some ((f_X10_give I (f_J6_bitCount_0f7a4 q1)).1, (f_X10_give I (f_J6_bitCount_0f7a4 q1)).2)
  else
    some ((f_X10_refuse I (1 : Int32)).1, (f_X10_refuse I (1 : Int32)).2)
def f_X10_fewestSet (I : z_I) (p0 : Int32) : Option (Int32 × z_I) :=
  if (f_X0_hasCases I 3 p0) = true then
    (f_X10_fewestThatPart I p0).bind fun q1 =>
      some ((f_X10_giveIfAny I q1).1, (f_X10_giveIfAny I q1).2)
  else
    some ((f_X10_refuse I (1 : Int32)).1, (f_X10_refuse I (1 : Int32)).2)
def f_X10_isSetOfSome (I : z_I) (p0 : Int32) : Bool :=
  if p0 = 0 then
    false
  else
    if (f_X0_hasCases I 3 p0) = true then
      true
    else
      false
def f_X10_deep (I : z_I) (p0 : Int32) : Option (Int32 × z_I) :=
  if (f_X10_isSetOfSome I p0) = true then
    (f_X9_grow I p0 false).bind fun q1 =>
      if zin p0 256 = true then
        some ((f_X10_giveIfAny q1 (q1 49 (p0).toNatClampNeg)).1, (f_X10_giveIfAny q1 (q1 49 (p0).toNatClampNeg)).2)
      else none
  else
    some ((f_X10_refuse I (1 : Int32)).1, (f_X10_refuse I (1 : Int32)).2)
def f_X10_askDeep (I : z_I) (p0 : Int32) : Option (Int32 × z_I) :=
  if (f_X10_isSetOfSome I p0) = true then
    (f_X9_grow I p0 false).bind fun q1 =>
      if zin p0 256 = true then
        some ((f_X10_giveIfAny q1 (q1 50 (p0).toNatClampNeg)).1, (f_X10_giveIfAny q1 (q1 50 (p0).toNatClampNeg)).2)
      else none
  else
    some ((f_X10_refuse I (1 : Int32)).1, (f_X10_refuse I (1 : Int32)).2)
def f_X10_dear (I : z_I) (p0 : Int32) : Option (Int32 × z_I) :=
  if (f_X10_isSetOfSome I p0) = true then
    (f_X9_grow I p0 true).bind fun q1 =>
      if zin p0 256 = true then
        some ((f_X10_giveIfAny q1 (q1 49 (p0).toNatClampNeg)).1, (f_X10_giveIfAny q1 (q1 49 (p0).toNatClampNeg)).2)
      else none
  else
    some ((f_X10_refuse I (1 : Int32)).1, (f_X10_refuse I (1 : Int32)).2)
def f_X10_askDear (I : z_I) (p0 : Int32) : Option (Int32 × z_I) :=
  if (f_X10_isSetOfSome I p0) = true then
    (f_X9_grow I p0 true).bind fun q1 =>
      if zin p0 256 = true then
        some ((f_X10_giveIfAny q1 (q1 50 (p0).toNatClampNeg)).1, (f_X10_giveIfAny q1 (q1 50 (p0).toNatClampNeg)).2)
      else none
  else
    some ((f_X10_refuse I (1 : Int32)).1, (f_X10_refuse I (1 : Int32)).2)
def g_X10_hindranceToFit_51 (r3 : Nat) (v2 : Int32) (I : z_I) (L : z_L)  : Nat → Int32 → Option (Int32)
  | 0, _ => none
  | n + 1, v4 =>
    if v2 ≤ v4 then
      some (0 : Int32)
    else
      if zin ((2 : Int32) * v4) 60 = true then
        z_lt (L (r3 + 1) (((2 : Int32) * v4)).toNatClampNeg) fun w3 =>
        if zin (((2 : Int32) * v4) + (1 : Int32)) 60 = true then
          z_lt (L (r3 + 1) ((((2 : Int32) * v4) + (1 : Int32))).toNatClampNeg) fun w5 =>
          if w3 < (0 : Int64) then
            some (5 : Int32)
          else
            if ((I 3 12).toInt64) ≤ w3 then
              some (5 : Int32)
            else
              if w5 < (0 : Int64) then
                some (5 : Int32)
              else
                if w5 ≤ (1 : Int64) then
                  g_X10_hindranceToFit_51 r3 v2 I L  n (v4 + (1 : Int32))
                else
                  some (5 : Int32)
        else none
      else none
def f_X10_hindranceToFit (I : z_I) (L : z_L) (p0 : Int32) (p1 : Int32) : Option (Int32) :=
  if (f_X10_isTray p0) = true then
    if (f_X10_isWithin p1 (0 : Int32) (20 : Int32)) = true then
      if zin p0 4 = true then
        if (zn (I ([55, 57, 59, 61].getD (p0).toNatClampNeg 0) 1)) = true then
          if (f_X8_spans I ([55, 57, 59, 61].getD (p0).toNatClampNeg 0) (0 : Int32) ((2 : Int32) * p1)) = true then
            g_X10_hindranceToFit_51 ([55, 57, 59, 61].getD (p0).toNatClampNeg 0) p1 I L z_fuel (0 : Int32)
          else
            some (3 : Int32)
        else
          some (2 : Int32)
      else none
    else
      some (1 : Int32)
  else
    some (1 : Int32)
def g_X10_fitting_11 (p0 : Nat) (v2 : Int32) (I : z_I) (L : z_L)  : Nat → Int32 → Int32 → Option (Int32)
  | 0, _, _ => none
  | n + 1, v3, v4 =>
    if v2 ≤ v4 then
      some v3
    else
      if zin ((2 : Int32) * v4) 60 = true then
        if zin ((L (p0 + 1) (((2 : Int32) * v4)).toNatClampNeg).toInt32) 7 = true then
          z_lt (I 9 (((L (p0 + 1) (((2 : Int32) * v4)).toNatClampNeg).toInt32)).toNatClampNeg) fun w3 =>
          if zin (((2 : Int32) * v4) + (1 : Int32)) 60 = true then
            if (L (p0 + 1) ((((2 : Int32) * v4) + (1 : Int32))).toNatClampNeg) = (1 : Int64) then
              g_X10_fitting_11 p0 v2 I L  n (v3 &&& w3) (v4 + (1 : Int32))
            else
              g_X10_fitting_11 p0 v2 I L  n (v3 &&& (w3 ^^^ (-1 : Int32))) (v4 + (1 : Int32))
          else none
        else none
      else none
def f_X10_fitting (I : z_I) (L : z_L) (p0 : Nat) (p1 : Int32) : Option (Int32) :=
  g_X10_fitting_11 p0 p1 I L z_fuel (f_X0_setOfAll I 3) (0 : Int32)
def f_X10_fits (I : z_I) (L : z_L) (p0 : Int32) (p1 : Int32) : Option (Int32 × z_I) :=
  (f_X10_hindranceToFit I L p0 p1).bind fun q1 =>
    if q1 = 0 then
      if zin p0 4 = true then
        (f_X10_fitting I L ([55, 57, 59, 61].getD (p0).toNatClampNeg 0) p1).bind fun q4 =>
          some ((f_X10_give I q4).1, (f_X10_give I q4).2)
      else none
    else
      some ((f_X10_refuse I q1).1, (f_X10_refuse I q1).2)
def f_X10_likely (I : z_I) (L : z_L) (p0 : Int32) (p1 : Int32) : Option (Int32 × z_I) :=
  (f_X10_hindranceToFit I L p0 p1).bind fun q1 =>
    if q1 = 0 then
      if zin p0 4 = true then
        (f_X10_fitting I L ([55, 57, 59, 61].getD (p0).toNatClampNeg 0) p1).bind fun q4 =>
          (f_X0_heaviestOf I 3 q4).bind fun q6 =>
            some ((f_X10_giveIfAny I q6).1, (f_X10_giveIfAny I q6).2)
      else none
    else
      some ((f_X10_refuse I q1).1, (f_X10_refuse I q1).2)
def f_X10_oddsThat (I : z_I) (L : z_L) (p0 : Int32) (p1 : Int32) (p2 : Int32) : Option (Bool × z_I × z_L) :=
  if (f_X0_hasCase I 3 p2) = true then
    (f_X10_hindranceToFit I L p0 p1).bind fun q1 =>
      if q1 = 0 then
        if zin p0 4 = true then
          (f_X10_fitting I L ([55, 57, 59, 61].getD (p0).toNatClampNeg 0) p1).bind fun q4 =>
            if q4 = 0 then
              some ((f_X10_deny I (6 : Int32)).1, (f_X10_deny I (6 : Int32)).2, L)
            else
              (f_X0_weightOf I 3 (q4 &&& ((1 : Int32) <<< (p2 &&& 31)))).bind fun q6 =>
                (f_X0_weightOf I 3 q4).bind fun q8 =>
                  (f_X3_tell L (q6.toInt64) (q8.toInt64)).bind fun q10 =>
                    some ((f_X10_grant I).1, (f_X10_grant I).2, q10)
        else none
      else
        some ((f_X10_deny I q1).1, (f_X10_deny I q1).2, L)
  else
    some ((f_X10_deny I (1 : Int32)).1, (f_X10_deny I (1 : Int32)).2, L)
def g_X10_bestParting_13 (v1 : Int32) (v2 : Int32) (I : z_I)  : Nat → Int32 → Int32 → Int32 → Option (Int32)
  | 0, _, _, _ => none
  | n + 1, v3, v4, v5 =>
    if (I 3 12) ≤ v5 then
      some v3
    else
      if zin v5 7 = true then
        z_lt (f_J6_bitCount_0f7a4 (v1 &&& (I 9 (v5).toNatClampNeg))) fun w2 =>
        if v4 ≤ (z_max w2 (v2 - w2)) then
          g_X10_bestParting_13 v1 v2 I  n v3 v4 (v5 + (1 : Int32))
        else
          g_X10_bestParting_13 v1 v2 I  n v5 (z_max w2 (v2 - w2)) (v5 + (1 : Int32))
      else none
def f_X10_bestParting (I : z_I) (p0 : Int32) : Option (Int32) :=
  g_X10_bestParting_13 p0 (f_J6_bitCount_0f7a4 p0) I z_fuel (-1 : Int32) (f_J6_bitCount_0f7a4 p0) (0 : Int32)
def f_X10_next (I : z_I) (L : z_L) (p0 : Int32) (p1 : Int32) : Option (Int32 × z_I) :=
  (f_X10_hindranceToFit I L p0 p1).bind fun q1 =>
    if q1 = 0 then
      if zin p0 4 = true then
        (f_X10_fitting I L ([55, 57, 59, 61].getD (p0).toNatClampNeg 0) p1).bind fun q4 =>
          (f_X10_bestParting I q4).bind fun q6 =>
            some ((f_X10_giveIfAny I q6).1, (f_X10_giveIfAny I q6).2)
      else none
    else
      some ((f_X10_refuse I q1).1, (f_X10_refuse I q1).2)
def f_X10_gather (I : z_I) (p0 : Int32) (p1 : Int32) : Option (Int32 × z_I) :=
  if (f_X0_hasScholar I 3 p0) = true then
    if (f_X10_isWithin p1 (0 : Int32) (12 : Int32)) = true then
      if zin p0 4 = true then
        (f_X0_reapedWithin I 3 (I 11 (p0).toNatClampNeg) p1).bind fun q2 =>
          some ((f_X10_give I q2).1, (f_X10_give I q2).2)
      else none
    else
      some ((f_X10_refuse I (1 : Int32)).1, (f_X10_refuse I (1 : Int32)).2)
  else
    some ((f_X10_refuse I (1 : Int32)).1, (f_X10_refuse I (1 : Int32)).2)
def g_X10_brisk_51 (v2 : Int32) (v3 : Int32) (v4 : Int32) (I : z_I)  : Nat → Int32 → Option (Int32 × z_I)
  | 0, _ => none
  | n + 1, v5 =>
    if v2 ≤ v5 then
      some ((f_X10_give I v5).1, (f_X10_give I v5).2)
    else
      (f_X0_reapedWithin I 3 v3 v5).bind fun q4 =>
        if v4 ≤ q4 then
          some ((f_X10_give I v5).1, (f_X10_give I v5).2)
        else
          g_X10_brisk_51 v2 v3 v4 I  n (v5 + (1 : Int32))
def f_X10_brisk (I : z_I) (p0 : Int32) (p1 : Int32) : Option (Int32 × z_I) :=
  if (f_X0_hasScholar I 3 p0) = true then
    if (f_X10_isWithin p1 (0 : Int32) (12 : Int32)) = true then
      if zin p0 4 = true then
        (f_X0_reapedWithin I 3 (I 11 (p0).toNatClampNeg) p1).bind fun q2 =>
          g_X10_brisk_51 p1 (I 11 (p0).toNatClampNeg) q2 I z_fuel (0 : Int32)
      else none
    else
      some ((f_X10_refuse I (1 : Int32)).1, (f_X10_refuse I (1 : Int32)).2)
  else
    some ((f_X10_refuse I (1 : Int32)).1, (f_X10_refuse I (1 : Int32)).2)
def f_X10_game (I : z_I) (p0 : Int32) : Option (Int32 × z_I) :=
  if (f_X10_isWithin p0 (0 : Int32) (4 : Int32)) = true then
    (f_X2_lookByTurns I p0).bind fun q1 =>
      (f_X2_bestBy q1 p0).bind fun q3 =>
        some ((f_X10_give q1 q3).1, (f_X10_give q1 q3).2)
  else
    some ((f_X10_refuse I (1 : Int32)).1, (f_X10_refuse I (1 : Int32)).2)
def f_X10_moveOf (I : z_I) (p0 : Int32) : Option (Int32 × z_I) :=
  if (f_X10_isWithin p0 (1 : Int32) (4 : Int32)) = true then
    (f_X2_lookByTurns I p0).bind fun q1 =>
      (f_X2_openingOf q1 p0).bind fun q3 =>
        some ((f_X10_giveIfAny q1 q3).1, (f_X10_giveIfAny q1 q3).2)
  else
    some ((f_X10_refuse I (1 : Int32)).1, (f_X10_refuse I (1 : Int32)).2)
def g_X10_waysToTake_5 (v0 : Int32) (v1 : Int32)  : Nat → Int64 → Int32 → Option (Int64)
  | 0, _, _ => none
  | n + 1, v2, v4 =>
    if v1 ≤ v4 then
      some v2
    else
      if ¬ ((v4 + (1 : Int32)).toInt64) = 0 then
        z_lt ((v2 * ((v0 - v4).toInt64)) / ((v4 + (1 : Int32)).toInt64)) fun w2 =>
        g_X10_waysToTake_5 v0 v1  n w2 (v4 + (1 : Int32))
      else none
def f_X10_waysToTake  (p0 : Int32) (p1 : Int32) : Option (Int64) :=
  g_X10_waysToTake_5 p0 p1 z_fuel (1 : Int64) (0 : Int32)
def g_X10_blind_79 (v2 : Int32) (v4 : Int32) (v5 : Int32) (I : z_I) (L : z_L) (k113 : Int64 → Option (Bool × z_I × z_L)) : Nat → Int64 → Int32 → Option (Bool × z_I × z_L)
  | 0, _, _ => none
  | n + 1, v6, v8 =>
    if v2 < v8 then
      k113 v6
    else
      (f_X10_waysToTake v4 v8).bind fun q3 =>
        (f_X10_waysToTake v5 (v2 - v8)).bind fun q5 =>
          g_X10_blind_79 v2 v4 v5 I L k113 n (v6 + (q3 * q5)) (v8 + (1 : Int32))
def f_X10_blind (I : z_I) (L : z_L) (p0 : Int32) (p1 : Int32) (p2 : Int32) : Option (Bool × z_I × z_L) :=
  if (f_X0_hasBed I 3 p0) = true then
    if (f_X10_isWithin p1 (0 : Int32) (4 : Int32)) = true then
      if (f_X10_isWithin p2 (0 : Int32) (4 : Int32)) = true then
        if zin p0 6 = true then
          if p1 ≤ ((I 4 (p0).toNatClampNeg) + (I 5 (p0).toNatClampNeg)) then
            g_X10_blind_79 p1 (I 4 (p0).toNatClampNeg) (I 5 (p0).toNatClampNeg) I L
              (fun v6_7 =>
                (f_X10_waysToTake ((I 4 (p0).toNatClampNeg) + (I 5 (p0).toNatClampNeg)) p1).bind fun q8 =>
                  (f_X3_tell L v6_7 q8).bind fun q10 =>
                    some ((f_X10_grant I).1, (f_X10_grant I).2, q10)) z_fuel (0 : Int64) p2
          else
            some ((f_X10_deny I (6 : Int32)).1, (f_X10_deny I (6 : Int32)).2, L)
        else none
      else
        some ((f_X10_deny I (1 : Int32)).1, (f_X10_deny I (1 : Int32)).2, L)
    else
      some ((f_X10_deny I (1 : Int32)).1, (f_X10_deny I (1 : Int32)).2, L)
  else
    some ((f_X10_deny I (1 : Int32)).1, (f_X10_deny I (1 : Int32)).2, L)
def f_X10_share (I : z_I) (L : z_L) (p0 : Int32) : Option (Bool × z_I × z_L) :=
  if (f_X0_hasScholar I 3 p0) = true then
    (f_X0_allGold I 3).bind fun q1 =>
      if q1 = 0 then
        some ((f_X10_deny I (6 : Int32)).1, (f_X10_deny I (6 : Int32)).2, L)
      else
        if zin p0 4 = true then
          (f_X3_tell L ((I 12 (p0).toNatClampNeg).toInt64) (q1.toInt64)).bind fun q4 =>
            some ((f_X10_grant I).1, (f_X10_grant I).2, q4)
        else none
  else
    some ((f_X10_deny I (1 : Int32)).1, (f_X10_deny I (1 : Int32)).2, L)
def g_X10_copyBeds_59 (v1 : Int32) (I : z_I)  : Nat → Int32 → z_L → Option (Int32 × z_I × z_L)
  | 0, _, _ => none
  | n + 1, v2, L =>
    if (I 3 10) ≤ v2 then
      some ((f_X10_give I (I 3 10)).1, (f_X10_give I (I 3 10)).2, L)
    else
      if zin v1 4 = true then
        if zin v2 6 = true then
          (f_X8_put I L ([55, 57, 59, 61].getD (v1).toNatClampNeg 0) v2 ((I 4 (v2).toNatClampNeg).toInt64)).bind fun q5 =>
            g_X10_copyBeds_59 v1 I  n (v2 + (1 : Int32)) q5
        else none
      else none
def f_X10_copyBeds (I : z_I) (L : z_L) (p0 : Int32) : Option (Int32 × z_I × z_L) :=
  if (f_X10_isTray p0) = true then
    if zin p0 4 = true then
      if (zn (I ([55, 57, 59, 61].getD (p0).toNatClampNeg 0) 1)) = true then
        if (f_X8_spans I ([55, 57, 59, 61].getD (p0).toNatClampNeg 0) (0 : Int32) (I 3 10)) = true then
          g_X10_copyBeds_59 p0 I z_fuel (0 : Int32) L
        else
          some ((f_X10_refuse I (3 : Int32)).1, (f_X10_refuse I (3 : Int32)).2, L)
      else
        some ((f_X10_refuse I (2 : Int32)).1, (f_X10_refuse I (2 : Int32)).2, L)
    else none
  else
    some ((f_X10_refuse I (1 : Int32)).1, (f_X10_refuse I (1 : Int32)).2, L)
def f_X10_live (I : z_I) (p0 : Int32) : Option (Int32 × z_I) :=
  if (f_X10_isWithin p0 (0 : Int32) (9999 : Int32)) = true then
    if (zn (I 14 5)) = true then
      (f_X4_pass I 3 p0).bind fun q1 =>
        some ((f_X10_give (f_X4_keepNumbers q1) ((f_X4_keepNumbers q1) 45 2)).1, (f_X10_give (f_X4_keepNumbers q1) ((f_X4_keepNumbers q1) 45 2)).2)
    else
      some ((f_X10_refuse I (6 : Int32)).1, (f_X10_refuse I (6 : Int32)).2)
  else
    some ((f_X10_refuse I (1 : Int32)).1, (f_X10_refuse I (1 : Int32)).2)
def f_X10_lived (I : z_I) (p0 : Int32) : Option (Int32 × z_I) :=
  if (f_X10_isWithin p0 (0 : Int32) (4 : Int32)) = true then
    if (zn (I 45 1)) = true then
      if zin p0 5 = true then
        some ((f_X10_give I (I 46 (p0).toNatClampNeg)).1, (f_X10_give I (I 46 (p0).toNatClampNeg)).2)
      else none
    else
      some ((f_X10_refuse I (6 : Int32)).1, (f_X10_refuse I (6 : Int32)).2)
  else
    some ((f_X10_refuse I (1 : Int32)).1, (f_X10_refuse I (1 : Int32)).2)
def g_X10_mean_60 (v1 : Int32) (v2 : Int32) (k109 : Int64 → z_I → z_L → Option (Bool × z_I × z_L)) : Nat → Int64 → Int32 → z_I → z_L → Option (Bool × z_I × z_L)
  | 0, _, _, _, _ => none
  | n + 1, v3, v5, I, L =>
    if v2 ≤ v5 then
      k109 v3 I L
    else
      (f_X4_pass (f_X0_copyFrom I L 22 3).1 22 (v1 + v5)).bind fun q1 =>
        (f_X0_allGold q1 22).bind fun q3 =>
          g_X10_mean_60 v1 v2 k109 n (v3 + (q3.toInt64)) (v5 + (1 : Int32)) q1 (f_X0_copyFrom I L 22 3).2
def f_X10_mean (I : z_I) (L : z_L) (p0 : Int32) (p1 : Int32) : Option (Bool × z_I × z_L) :=
  if (f_X10_isWithin p0 (0 : Int32) (9999 : Int32)) = true then
    if (f_X10_isWithin p1 (1 : Int32) (20 : Int32)) = true then
      if ((p0 + p1) - (1 : Int32)) ≤ (9999 : Int32) then
        if (zn (I 14 5)) = true then
          g_X10_mean_60 p0 p1
            (fun v3_5 I_6 L_7 =>
              (f_X3_tell L_7 v3_5 (p1.toInt64)).bind fun q8 =>
                some ((f_X10_grant I_6).1, (f_X10_grant I_6).2, q8)) z_fuel (0 : Int64) (0 : Int32) I L
        else
          some ((f_X10_deny I (6 : Int32)).1, (f_X10_deny I (6 : Int32)).2, L)
      else
        some ((f_X10_deny I (1 : Int32)).1, (f_X10_deny I (1 : Int32)).2, L)
    else
      some ((f_X10_deny I (1 : Int32)).1, (f_X10_deny I (1 : Int32)).2, L)
  else
    some ((f_X10_deny I (1 : Int32)).1, (f_X10_deny I (1 : Int32)).2, L)
def f_X10_mark (I : z_I) (L : z_L)  : Option (Int32 × z_I × z_L) :=
  if (I 0 19) < (3 : Int32) then
    if zin (I 0 19) 3 = true then
      if zin ((f_X0_copyFrom I L ([63, 80, 97].getD ((I 0 19)).toNatClampNeg 0) 3).1 0 19) 3 = true then
        z_lt (z2 (f_X5_copyFrom (f_X0_copyFrom I L ([63, 80, 97].getD ((I 0 19)).toNatClampNeg 0) 3).1 ([74, 91, 108].getD (((f_X0_copyFrom I L ([63, 80, 97].getD ((I 0 19)).toNatClampNeg 0) 3).1 0 19)).toNatClampNeg 0) 14) 0 19 (((f_X5_copyFrom (f_X0_copyFrom I L ([63, 80, 97].getD ((I 0 19)).toNatClampNeg 0) 3).1 ([74, 91, 108].getD (((f_X0_copyFrom I L ([63, 80, 97].getD ((I 0 19)).toNatClampNeg 0) 3).1 0 19)).toNatClampNeg 0) 14) 0 19) + (1 : Int32))) fun I3 =>
        some ((f_X10_give I3 (((f_X5_copyFrom (f_X0_copyFrom I L ([63, 80, 97].getD ((I 0 19)).toNatClampNeg 0) 3).1 ([74, 91, 108].getD (((f_X0_copyFrom I L ([63, 80, 97].getD ((I 0 19)).toNatClampNeg 0) 3).1 0 19)).toNatClampNeg 0) 14) 0 19) + (1 : Int32))).1, (f_X10_give I3 (((f_X5_copyFrom (f_X0_copyFrom I L ([63, 80, 97].getD ((I 0 19)).toNatClampNeg 0) 3).1 ([74, 91, 108].getD (((f_X0_copyFrom I L ([63, 80, 97].getD ((I 0 19)).toNatClampNeg 0) 3).1 0 19)).toNatClampNeg 0) 14) 0 19) + (1 : Int32))).2, (f_X0_copyFrom I L ([63, 80, 97].getD ((I 0 19)).toNatClampNeg 0) 3).2)
      else none
    else none
  else
    some ((f_X10_refuse I (4 : Int32)).1, (f_X10_refuse I (4 : Int32)).2, L)
def f_X10_undo (I : z_I) (L : z_L)  : Option (Int32 × z_I × z_L) :=
  if (I 0 19) = 0 then
    some ((f_X10_refuse I (6 : Int32)).1, (f_X10_refuse I (6 : Int32)).2, L)
  else
    z_lt (z2 I 0 19 ((I 0 19) - (1 : Int32))) fun I1 =>
    if zin ((I 0 19) - (1 : Int32)) 3 = true then
      if zin ((f_X0_copyFrom I1 L 3 ([63, 80, 97].getD (((I 0 19) - (1 : Int32))).toNatClampNeg 0)).1 0 19) 3 = true then
        some ((f_X10_give (f_X5_copyFrom (f_X0_copyFrom I1 L 3 ([63, 80, 97].getD (((I 0 19) - (1 : Int32))).toNatClampNeg 0)).1 14 ([74, 91, 108].getD (((f_X0_copyFrom I1 L 3 ([63, 80, 97].getD (((I 0 19) - (1 : Int32))).toNatClampNeg 0)).1 0 19)).toNatClampNeg 0)) ((f_X5_copyFrom (f_X0_copyFrom I1 L 3 ([63, 80, 97].getD (((I 0 19) - (1 : Int32))).toNatClampNeg 0)).1 14 ([74, 91, 108].getD (((f_X0_copyFrom I1 L 3 ([63, 80, 97].getD (((I 0 19) - (1 : Int32))).toNatClampNeg 0)).1 0 19)).toNatClampNeg 0)) 0 19)).1, (f_X10_give (f_X5_copyFrom (f_X0_copyFrom I1 L 3 ([63, 80, 97].getD (((I 0 19) - (1 : Int32))).toNatClampNeg 0)).1 14 ([74, 91, 108].getD (((f_X0_copyFrom I1 L 3 ([63, 80, 97].getD (((I 0 19) - (1 : Int32))).toNatClampNeg 0)).1 0 19)).toNatClampNeg 0)) ((f_X5_copyFrom (f_X0_copyFrom I1 L 3 ([63, 80, 97].getD (((I 0 19) - (1 : Int32))).toNatClampNeg 0)).1 14 ([74, 91, 108].getD (((f_X0_copyFrom I1 L 3 ([63, 80, 97].getD (((I 0 19) - (1 : Int32))).toNatClampNeg 0)).1 0 19)).toNatClampNeg 0)) 0 19)).2, (f_X0_copyFrom I1 L 3 ([63, 80, 97].getD (((I 0 19) - (1 : Int32))).toNatClampNeg 0)).2)
      else none
    else none

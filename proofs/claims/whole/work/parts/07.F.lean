def F_X8_at (r0 : Nat) (x1 : Int32) (σ : x_Hp) : Option (Int32 × x_Hp) :=
  if x1 < 0 then
    some ((0 : Int32), σ)
  else
    if (Int32.ofNat (x_ln TX r0)) ≤ x1 then
      some ((0 : Int32), σ)
    else
      x_gd (x_inb x1 (x_ln TX r0)) <|
      some (σ.1 r0 (x_ix x1), σ)
def F_X0_giveTo (o : Nat) (r1 : Nat) (x2 : Int32) (σ : x_Hp) : Option (Unit × x_Hp) :=
  x_pt (x_pI σ r1 9 x2) fun σ1 =>
  x_pt (x_pI σ1 r1 4 (0 : Int32)) fun σ2 =>
  x_b (F_X8_at (x_rf TX (x_rf TX o 0) 9) x2 σ2) fun v3 σ3 =>
  x_pt (x_pI σ3 r1 5 v3) fun σ4 =>
  x_b (F_X8_at (x_rf TX (x_rf TX o 0) 10) x2 σ4) fun v5 σ5 =>
  x_pt (x_pI σ5 r1 6 v5) fun σ6 =>
  x_b (F_X8_at (x_rf TX (x_rf TX o 0) 11) x2 σ6) fun v7 σ7 =>
  x_pt (x_pI σ7 r1 7 v7) fun σ8 =>
  if x2 < 0 then
    some ((), σ8)
  else
    x_pt (x_pI σ8 r1 19 ((σ8.1 r1 19) ||| ((1 : Int32) <<< (x2 &&& 31)))) fun σ9 =>
    some ((), σ9)
def F_X0_begin_149 (s0 : Int32) (s1 : Nat) (s2 : Nat) (σ : x_Hp) : Option (Unit × x_Hp) :=
  x_b (F_X0_giveTo s2 s1 s0 σ) fun _ σ17 =>
  some ((), σ17)
def F_X0_begin_109 : Nat → Nat → Nat → Int32 → x_Hp → Option (Unit × x_Hp)
  | 0, _, _, _, _ => none
  | n + 1, o, r1, x2, σ =>
  if (Int32.ofNat (x_ln TX (x_rf TX r1 20))) ≤ x2 then
    if (σ.1 (x_rf TX o 0) 7) ≤ 0 then
      F_X0_begin_149 (-2 : Int32) r1 o σ
    else
      F_X0_begin_149 (0 : Int32) r1 o σ
  else
    x_gd (x_inb x2 (x_ln TX (x_rf TX r1 20))) <|
    x_pt (x_pI σ (x_rf TX r1 20) (x_ix x2) (0 : Int32)) fun σ16 =>
    (F_X0_begin_109 n) o r1 (x2 + (1 : Int32)) σ16
def F_X0_begin (o : Nat) (r1 : Nat) (σ : x_Hp) : Option (Unit × x_Hp) :=
  x_pt (x_pI σ r1 0 (σ.1 (x_rf TX o 0) 0)) fun σ1 =>
  x_pt (x_pI σ1 r1 1 (σ1.1 (x_rf TX o 0) 1)) fun σ2 =>
  x_pt (x_pI σ2 r1 2 (σ2.1 (x_rf TX o 0) 2)) fun σ3 =>
  x_pt (x_pI σ3 r1 3 (σ3.1 (x_rf TX o 0) 3)) fun σ4 =>
  x_pt (x_pI σ4 r1 16 (σ4.1 (x_rf TX o 0) 6)) fun σ5 =>
  x_pt (x_pI σ5 r1 8 (0 : Int32)) fun σ6 =>
  x_pt (x_pI σ6 r1 10 (-2 : Int32)) fun σ7 =>
  x_pt (x_pI σ7 r1 11 (-2 : Int32)) fun σ8 =>
  x_pt (x_pI σ8 r1 12 (0 : Int32)) fun σ9 =>
  x_pt (x_pI σ9 r1 13 (0 : Int32)) fun σ10 =>
  x_pt (x_pI σ10 r1 14 (0 : Int32)) fun σ11 =>
  x_pt (x_pI σ11 r1 15 (0 : Int32)) fun σ12 =>
  x_pt (x_pI σ12 r1 17 (0 : Int32)) fun σ13 =>
  x_pt (x_pI σ13 r1 18 (0 : Int32)) fun σ14 =>
  x_pt (x_pI σ14 r1 19 (0 : Int32)) fun σ15 =>
  F_X0_begin_109 x_fuel o r1 (0 : Int32) σ15
def F_X1_join_44 (o : Nat) (x2 : Int32) (x3 : Int32) (σ : x_Hp) : Option (Int32 × x_Hp) :=
  if x3 = 0 then
    x_pt (x_pI σ o 7 (1 : Int32)) fun σ1 =>
    some ((0 : Int32), σ1)
  else
    x_gd (!decide (x3 = 0)) <|
    some (x2 / x3, σ)
def F_X1_join (o : Nat) (x1 : Int32) (x2 : Int32) (x3 : Int32) (σ : x_Hp) : Option (Int32 × x_Hp) :=
  if x1 = (42 : Int32) then
    some (x2 * x3, σ)
  else
  if x1 = (43 : Int32) then
    some (x2 + x3, σ)
  else
  if x1 = (44 : Int32) then
    F_X1_join_44 o x2 x3 σ
  else
  if x1 = (45 : Int32) then
    some (x2 - x3, σ)
  else
  F_X1_join_44 o x2 x3 σ
def F_X5_look (o : Nat) (x1 : Int32) (σ : x_Hp) : Option (Int32 × x_Hp) :=
  if x1 = (0 : Int32) then
    some (σ.1 o 0, σ)
  else
  if x1 = (1 : Int32) then
    some (σ.1 o 1, σ)
  else
  if x1 = (2 : Int32) then
    some (σ.1 o 2, σ)
  else
  if x1 = (3 : Int32) then
    some (σ.1 o 3, σ)
  else
  if x1 = (4 : Int32) then
    some (σ.1 o 4, σ)
  else
  if x1 = (5 : Int32) then
    some (σ.1 o 5, σ)
  else
  if x1 = (6 : Int32) then
    some (σ.1 o 6, σ)
  else
  if x1 = (7 : Int32) then
    some (σ.1 o 7, σ)
  else
  some (σ.1 o 8, σ)
def F_X8_put (r0 : Nat) (x1 : Int32) (x2 : Int32) (σ : x_Hp) : Option (Unit × x_Hp) :=
  if x1 < 0 then
    some ((), σ)
  else
    if (Int32.ofNat (x_ln TX r0)) ≤ x1 then
      some ((), σ)
    else
      x_gd (x_inb x1 (x_ln TX r0)) <|
      x_pt (x_pI σ r0 (x_ix x1) x2) fun σ1 =>
      some ((), σ1)
def F_X1_value_150 (o : Nat) (σ : x_Hp) : Option (Int32 × x_Hp) :=
  x_b (F_X8_at (x_rf TX o 6) (0 : Int32) σ) fun v8 σ8 =>
  some (v8, σ8)
def F_X1_value_144 (k24 : Nat → Nat → Int32 → Int32 → Int32 → x_Hp → Option (Int32 × x_Hp)) (o : Nat) (r2 : Nat) (x3 : Int32) (x4 : Int32) (x5 : Int32) (σ : x_Hp) : Option (Int32 × x_Hp) :=
  k24 o r2 x3 x4 (x5 + (1 : Int32)) σ
def F_X1_value_91 (k24 : Nat → Nat → Int32 → Int32 → Int32 → x_Hp → Option (Int32 × x_Hp)) (o : Nat) (r2 : Nat) (x3 : Int32) (x4 : Int32) (x5 : Int32) (s0 : Int32) (s1 : Int32) (s2 : Nat) (σ : x_Hp) : Option (Int32 × x_Hp) :=
  x_b (F_X8_put s2 s1 s0 σ) fun _ σ9 =>
  F_X1_value_144 k24 o r2 x3 (x4 + (1 : Int32)) x5 σ9
def F_X1_value_24 : Nat → Nat → Nat → Int32 → Int32 → Int32 → x_Hp → Option (Int32 × x_Hp)
  | 0, _, _, _, _, _, _ => none
  | n + 1, o, r2, x3, x4, x5, σ =>
  if x5 < 0 then
    F_X1_value_150 o σ
  else
    if x3 ≤ x5 then
      F_X1_value_150 o σ
    else
      if (Int32.ofNat (x_ln TX (x_rf TX o 0))) ≤ x5 then
        F_X1_value_150 o σ
      else
        x_gd (x_inb x5 (x_ln TX (x_rf TX o 0))) <|
        if (20000 : Int32) ≤ (σ.1 (x_rf TX o 0) (x_ix x5)) then
          x_b (F_X8_at (x_rf TX o 6) ((x4 + (-1 : Int32)) - (1 : Int32)) σ) fun v3 σ3 =>
          x_b (F_X8_at (x_rf TX o 6) (x4 + (-1 : Int32)) σ3) fun v4 σ4 =>
          x_b (F_X1_join o ((σ.1 (x_rf TX o 0) (x_ix x5)) - (20000 : Int32)) v3 v4 σ4) fun v5 σ5 =>
          x_b (F_X8_put (x_rf TX o 6) ((x4 + (-1 : Int32)) - (1 : Int32)) v5 σ5) fun _ σ6 =>
          F_X1_value_144 (F_X1_value_24 n) o r2 x3 (x4 + (-1 : Int32)) x5 σ6
        else
          if (10000 : Int32) ≤ (σ.1 (x_rf TX o 0) (x_ix x5)) then
            x_b (F_X5_look r2 ((σ.1 (x_rf TX o 0) (x_ix x5)) - (10000 : Int32)) σ) fun v7 σ7 =>
            F_X1_value_91 (F_X1_value_24 n) o r2 x3 x4 x5 v7 x4 (x_rf TX o 6) σ7
          else
            F_X1_value_91 (F_X1_value_24 n) o r2 x3 x4 x5 (σ.1 (x_rf TX o 0) (x_ix x5)) x4 (x_rf TX o 6) σ
def F_X1_value (o : Nat) (x1 : Int32) (r2 : Nat) (σ : x_Hp) : Option (Int32 × x_Hp) :=
  x_b (F_X8_at (x_rf TX o 2) (x1 + (1 : Int32)) σ) fun v1 σ1 =>
  x_b (F_X8_at (x_rf TX o 2) x1 σ1) fun v2 σ2 =>
  F_X1_value_24 x_fuel o r2 v1 (0 : Int32) v2 σ2
def F_X8_within (x0 : Int32) (x1 : Int32) (x2 : Int32) (σ : x_Hp) : Option (Int32 × x_Hp) :=
  some (if x1 < (if x0 < x2 then x0 else x2) then (if x0 < x2 then x0 else x2) else x1, σ)
def F_X1_tells_148 (x1 : Int32) (s0 : Int32) (σ : x_Hp) : Option (Int32 × x_Hp) :=
  x_b (F_X8_within s0 (x_sv_LEAST_TOLD x1) (x_sv_MOST_TOLD_BY x1) σ) fun v8 σ8 =>
  some (v8, σ8)
def F_X1_tells_135 (o : Nat) (x1 : Int32) (x5 : Int32) (σ : x_Hp) : Option (Int32 × x_Hp) :=
  if (σ.1 o 7) = 0 then
    F_X1_tells_148 x1 x5 σ
  else
    F_X1_tells_148 x1 (0 : Int32) σ
def F_X1_tells_114 (o : Nat) (x1 : Int32) (r2 : Nat) (x4 : Int32) (x5 : Int32) (x6 : Int32) (σ : x_Hp) : Option (Int32 × x_Hp) :=
  if x6 = 0 then
    if (σ.1 o 7) = 0 then
      x_b (F_X1_value o x4 r2 σ) fun v6 σ6 =>
      F_X1_tells_135 o x1 v6 σ6
    else
      F_X1_tells_135 o x1 x5 σ
  else
    F_X1_tells_135 o x1 x5 σ
def F_X1_tells_108 (k34 : Nat → Int32 → Nat → Int32 → Int32 → Int32 → Int32 → x_Hp → Option (Int32 × x_Hp)) (o : Nat) (x1 : Int32) (r2 : Nat) (x3 : Int32) (x4 : Int32) (x5 : Int32) (x6 : Int32) (σ : x_Hp) : Option (Int32 × x_Hp) :=
  k34 o x1 r2 (x3 + (3 : Int32)) x4 x5 x6 σ
def F_X1_tells_79 (k34 : Nat → Int32 → Nat → Int32 → Int32 → Int32 → Int32 → x_Hp → Option (Int32 × x_Hp)) (o : Nat) (x1 : Int32) (r2 : Nat) (x3 : Int32) (x4 : Int32) (x5 : Int32) (x6 : Int32) (x7 : Int32) (s0 : Int32) (σ : x_Hp) : Option (Int32 × x_Hp) :=
  if (σ.1 o 7) = 0 then
    if s0 ≤ x7 then
      F_X1_tells_108 k34 o x1 r2 x3 x4 x5 x6 σ
    else
      x_b (F_X1_value o (x3 + (2 : Int32)) r2 σ) fun v7 σ7 =>
      F_X1_tells_108 k34 o x1 r2 x3 x4 v7 (1 : Int32) σ7
  else
    F_X1_tells_108 k34 o x1 r2 x3 x4 x5 x6 σ
def F_X1_tells_34 : Nat → Nat → Int32 → Nat → Int32 → Int32 → Int32 → Int32 → x_Hp → Option (Int32 × x_Hp)
  | 0, _, _, _, _, _, _, _, _ => none
  | n + 1, o, x1, r2, x3, x4, x5, x6, σ =>
  if x4 ≤ x3 then
    F_X1_tells_114 o x1 r2 x4 x5 x6 σ
  else
    if x6 = 0 then
      if (σ.1 o 7) = 0 then
        x_b (F_X1_value o x3 r2 σ) fun v4 σ4 =>
        if (σ4.1 o 7) = 0 then
          x_b (F_X1_value o (x3 + (1 : Int32)) r2 σ4) fun v5 σ5 =>
          F_X1_tells_79 (F_X1_tells_34 n) o x1 r2 x3 x4 x5 x6 v4 v5 σ5
        else
          F_X1_tells_79 (F_X1_tells_34 n) o x1 r2 x3 x4 x5 x6 v4 (0 : Int32) σ4
      else
        F_X1_tells_114 o x1 r2 x4 x5 x6 σ
    else
      F_X1_tells_114 o x1 r2 x4 x5 x6 σ
def F_X1_tells (o : Nat) (x1 : Int32) (r2 : Nat) (σ : x_Hp) : Option (Int32 × x_Hp) :=
  x_pt (x_pI σ o 7 (0 : Int32)) fun σ1 =>
  x_b (F_X8_at (x_rf TX o 4) x1 σ1) fun v2 σ2 =>
  x_b (F_X8_at (x_rf TX o 5) x1 σ2) fun v3 σ3 =>
  F_X1_tells_34 x_fuel o x1 r2 v2 (v2 + ((3 : Int32) * v3)) (0 : Int32) (0 : Int32) σ3
def F_X5_tallyMore (o : Nat) (x1 : Int32) (x2 : Int32) (σ : x_Hp) : Option (Unit × x_Hp) :=
  if (((σ.1 o 9) * (7 : Int32)) + x1) < 0 then
    some ((), σ)
  else
    if (Int32.ofNat (x_ln TX (x_rf TX o 20))) ≤ (((σ.1 o 9) * (7 : Int32)) + x1) then
      some ((), σ)
    else
      x_gd (x_inb (((σ.1 o 9) * (7 : Int32)) + x1) (x_ln TX (x_rf TX o 20))) <|
      x_gd (x_inb (((σ.1 o 9) * (7 : Int32)) + x1) (x_ln TX (x_rf TX o 20))) <|
      x_pt (x_pI σ (x_rf TX o 20) (x_ix (((σ.1 o 9) * (7 : Int32)) + x1)) ((σ.1 (x_rf TX o 20) (x_ix (((σ.1 o 9) * (7 : Int32)) + x1))) + x2)) fun σ1 =>
      some ((), σ1)
def F_X0_stepAsleep (o : Nat) (r1 : Nat) (σ : x_Hp) : Option (Unit × x_Hp) :=
  x_b (F_X1_tells (x_rf TX (x_rf TX o 0) 14) (0 : Int32) r1 σ) fun v1 σ1 =>
  x_b (F_X8_within ((σ.1 r1 0) + v1) (0 : Int32) (99 : Int32) σ1) fun v2 σ2 =>
  x_pt (x_pI σ2 r1 0 v2) fun σ3 =>
  x_b (F_X5_tallyMore r1 (3 : Int32) (1 : Int32) σ3) fun _ σ4 =>
  x_pt (x_pI σ4 r1 12 (0 : Int32)) fun σ5 =>
  x_pt (x_pI σ5 r1 13 ((σ5.1 r1 13) - (1 : Int32))) fun σ6 =>
  if (σ6.1 r1 13) = 0 then
    x_pt (x_pI σ6 r1 1 (0 : Int32)) fun σ7 =>
    x_pt (x_pI σ7 r1 4 (0 : Int32)) fun σ8 =>
    some ((), σ8)
  else
    some ((), σ6)
def F_X0_fallAsleep (o : Nat) (r1 : Nat) (σ : x_Hp) : Option (Unit × x_Hp) :=
  x_pt (x_pI σ r1 13 (60 : Int32)) fun σ1 =>
  x_pt (x_pI σ1 r1 17 ((σ1.1 r1 17) + (1 : Int32))) fun σ2 =>
  some ((), σ2)
def F_X0_lot (x0 : Int32) (x1 : Int32) (x2 : Int32) (σ : x_Hp) : Option (Int32 × x_Hp) :=
  if x0 = 0 then
    some ((0 : Int32), σ)
  else
    x_gd (!decide (x0 = 0)) <|
    some (((((((((((x1 ^^^ (37 : Int32)) * (1103515245 : Int32)) + (12345 : Int32)) ^^^ (((((x1 ^^^ (37 : Int32)) * (1103515245 : Int32)) + (12345 : Int32)).toUInt32 >>> ((15 : Int32).toUInt32 &&& Int32.toUInt32 31)).toInt32)) ^^^ x2) * (1103515245 : Int32)) + (12345 : Int32)) ^^^ (((((((((x1 ^^^ (37 : Int32)) * (1103515245 : Int32)) + (12345 : Int32)) ^^^ (((((x1 ^^^ (37 : Int32)) * (1103515245 : Int32)) + (12345 : Int32)).toUInt32 >>> ((15 : Int32).toUInt32 &&& Int32.toUInt32 31)).toInt32)) ^^^ x2) * (1103515245 : Int32)) + (12345 : Int32)).toUInt32 >>> ((15 : Int32).toUInt32 &&& Int32.toUInt32 31)).toInt32)).toUInt32 >>> ((1 : Int32).toUInt32 &&& Int32.toUInt32 31)).toInt32) - ((((((((((x1 ^^^ (37 : Int32)) * (1103515245 : Int32)) + (12345 : Int32)) ^^^ (((((x1 ^^^ (37 : Int32)) * (1103515245 : Int32)) + (12345 : Int32)).toUInt32 >>> ((15 : Int32).toUInt32 &&& Int32.toUInt32 31)).toInt32)) ^^^ x2) * (1103515245 : Int32)) + (12345 : Int32)) ^^^ (((((((((x1 ^^^ (37 : Int32)) * (1103515245 : Int32)) + (12345 : Int32)) ^^^ (((((x1 ^^^ (37 : Int32)) * (1103515245 : Int32)) + (12345 : Int32)).toUInt32 >>> ((15 : Int32).toUInt32 &&& Int32.toUInt32 31)).toInt32)) ^^^ x2) * (1103515245 : Int32)) + (12345 : Int32)).toUInt32 >>> ((15 : Int32).toUInt32 &&& Int32.toUInt32 31)).toInt32)).toUInt32 >>> ((1 : Int32).toUInt32 &&& Int32.toUInt32 31)).toInt32) / x0 * x0, σ)
def F_X0_spit (o : Nat) (r1 : Nat) (σ : x_Hp) : Option (Unit × x_Hp) :=
  x_pt (x_pI σ r1 3 (0 : Int32)) fun σ1 =>
  x_b (F_X5_tallyMore r1 (6 : Int32) (1 : Int32) σ1) fun _ σ2 =>
  if (σ2.1 r1 14) = 0 then
    x_b (F_X8_at (x_rf TX (x_rf TX o 0) 12) (σ2.1 r1 9) σ2) fun v3 σ3 =>
    x_b (F_X5_tallyMore r1 (4 : Int32) v3 σ3) fun _ σ4 =>
    some ((), σ4)
  else
    some ((), σ2)
def F_X0_stepAwake_217 (o : Nat) (r1 : Nat) (σ : x_Hp) : Option (Unit × x_Hp) :=
  x_b (F_X1_tells (x_rf TX (x_rf TX o 0) 14) (5 : Int32) r1 σ) fun v22 σ22 =>
  if v22 ≤ 0 then
    some ((), σ22)
  else
    x_b (F_X0_fallAsleep o r1 σ22) fun _ σ23 =>
    some ((), σ23)
def F_X0_stepAwake_183 (o : Nat) (r1 : Nat) (σ : x_Hp) : Option (Unit × x_Hp) :=
  x_b (F_X0_lot (100 : Int32) (σ.1 r1 16) (σ.1 r1 15) σ) fun v19 σ19 =>
  x_b (F_X1_tells (x_rf TX (x_rf TX o 0) 14) (6 : Int32) r1 σ19) fun v20 σ20 =>
  if v20 ≤ v19 then
    F_X0_stepAwake_217 o r1 σ20
  else
    x_b (F_X0_spit o r1 σ20) fun _ σ21 =>
    F_X0_stepAwake_217 o r1 σ21
def F_X0_stepAwake (o : Nat) (r1 : Nat) (σ : x_Hp) : Option (Unit × x_Hp) :=
  x_b (F_X1_tells (x_rf TX (x_rf TX o 0) 14) (0 : Int32) r1 σ) fun v1 σ1 =>
  x_b (F_X1_tells (x_rf TX (x_rf TX o 0) 14) (1 : Int32) r1 σ1) fun v2 σ2 =>
  x_b (F_X1_tells (x_rf TX (x_rf TX o 0) 14) (2 : Int32) r1 σ2) fun v3 σ3 =>
  x_b (F_X1_tells (x_rf TX (x_rf TX o 0) 14) (3 : Int32) r1 σ3) fun v4 σ4 =>
  x_b (F_X8_within ((σ4.1 r1 0) + v1) (0 : Int32) (99 : Int32) σ4) fun v5 σ5 =>
  x_pt (x_pI σ5 r1 0 v5) fun σ6 =>
  x_b (F_X8_within ((σ6.1 r1 1) + v2) (0 : Int32) (99 : Int32) σ6) fun v7 σ7 =>
  x_pt (x_pI σ7 r1 1 v7) fun σ8 =>
  x_b (F_X8_within ((σ8.1 r1 2) + v3) (0 : Int32) (99 : Int32) σ8) fun v9 σ9 =>
  x_pt (x_pI σ9 r1 2 v9) fun σ10 =>
  x_b (F_X8_within ((σ10.1 r1 3) + v4) (0 : Int32) (99 : Int32) σ10) fun v11 σ11 =>
  x_pt (x_pI σ11 r1 3 v11) fun σ12 =>
  x_pt (x_pI σ12 r1 4 ((σ12.1 r1 4) + (1 : Int32))) fun σ13 =>
  x_b (F_X1_tells (x_rf TX (x_rf TX o 0) 14) (4 : Int32) r1 σ13) fun v14 σ14 =>
  x_pt (x_pI σ14 r1 12 v14) fun σ15 =>
  x_b (F_X5_tallyMore r1 (0 : Int32) (1 : Int32) σ15) fun _ σ16 =>
  x_b (F_X5_tallyMore r1 (1 : Int32) (σ16.1 r1 12) σ16) fun _ σ17 =>
  if (σ17.1 r1 12) = 0 then
    if (σ17.1 r1 2) < (50 : Int32) then
      F_X0_stepAwake_183 o r1 σ17
    else
      x_b (F_X5_tallyMore r1 (2 : Int32) (1 : Int32) σ17) fun _ σ18 =>
      F_X0_stepAwake_183 o r1 σ18
  else
    F_X0_stepAwake_183 o r1 σ17
def F_X0_step_30 (r1 : Nat) (σ : x_Hp) : Option (Unit × x_Hp) :=
  x_pt (x_pI σ r1 15 ((σ.1 r1 15) + (1 : Int32))) fun σ3 =>
  some ((), σ3)
def F_X0_step (o : Nat) (r1 : Nat) (σ : x_Hp) : Option (Unit × x_Hp) :=
  if (σ.1 (x_rf TX o 0) 7) ≤ 0 then
    F_X0_step_30 r1 σ
  else
    if (σ.1 r1 13) ≤ 0 then
      x_b (F_X0_stepAwake o r1 σ) fun _ σ1 =>
      F_X0_step_30 r1 σ1
    else
      x_b (F_X0_stepAsleep o r1 σ) fun _ σ2 =>
      F_X0_step_30 r1 σ2
def F_X0_giveOver_37 (o : Nat) (r1 : Nat) (x2 : Int32) (σ : x_Hp) : Option (Unit × x_Hp) :=
  x_pt (x_pI σ r1 11 (σ.1 r1 10)) fun σ2 =>
  x_pt (x_pI σ2 r1 10 (σ2.1 r1 9)) fun σ3 =>
  x_pt (x_pI σ3 r1 18 ((σ3.1 r1 18) + (1 : Int32))) fun σ4 =>
  x_b (F_X0_giveTo o r1 x2 σ4) fun _ σ5 =>
  some ((), σ5)
def F_X0_giveOver (o : Nat) (r1 : Nat) (x2 : Int32) (σ : x_Hp) : Option (Unit × x_Hp) :=
  if x2 = (σ.1 r1 10) then
    F_X0_giveOver_37 o r1 x2 σ
  else
    if x2 = (σ.1 r1 11) then
      F_X0_giveOver_37 o r1 x2 σ
    else
      x_pt (x_pI σ r1 2 (if ((σ.1 r1 2) + (σ.1 (x_rf TX o 0) 4)) < (99 : Int32) then ((σ.1 r1 2) + (σ.1 (x_rf TX o 0) 4)) else (99 : Int32))) fun σ1 =>
      F_X0_giveOver_37 o r1 x2 σ1
def F_X0_feedNow (o : Nat) (r1 : Nat) (σ : x_Hp) : Option (Unit × x_Hp) :=
  x_pt (x_pI σ r1 0 (0 : Int32)) fun σ1 =>
  x_pt (x_pI σ1 r1 3 (if ((σ1.1 r1 3) + (σ1.1 (x_rf TX o 0) 5)) < (99 : Int32) then ((σ1.1 r1 3) + (σ1.1 (x_rf TX o 0) 5)) else (99 : Int32))) fun σ2 =>
  some ((), σ2)
def F_X0_goOn_2 : Nat → Nat → Nat → Int32 → Int32 → x_Hp → Option (Unit × x_Hp)
  | 0, _, _, _, _, _ => none
  | n + 1, o, r1, x2, x3, σ =>
  if x2 ≤ x3 then
    some ((), σ)
  else
    x_b (F_X0_step o r1 σ) fun _ σ1 =>
    (F_X0_goOn_2 n) o r1 x2 (x3 + (1 : Int32)) σ1
def F_X0_goOn (o : Nat) (r1 : Nat) (x2 : Int32) (σ : x_Hp) : Option (Unit × x_Hp) :=
  F_X0_goOn_2 x_fuel o r1 x2 (0 : Int32) σ
def F_X5_tallied (o : Nat) (x1 : Int32) (x2 : Int32) (σ : x_Hp) : Option (Int32 × x_Hp) :=
  x_b (F_X8_at (x_rf TX o 20) ((x1 * (7 : Int32)) + x2) σ) fun v1 σ1 =>
  some (v1, σ1)
def F_X5_allTallied_4 : Nat → Nat → Int32 → Int32 → Int32 → x_Hp → Option (Int32 × x_Hp)
  | 0, _, _, _, _, _ => none
  | n + 1, o, x1, x2, x3, σ =>
  if (6 : Int32) ≤ x3 then
    some (x2, σ)
  else
    x_b (F_X5_tallied o x3 x1 σ) fun v1 σ1 =>
    (F_X5_allTallied_4 n) o x1 (x2 + v1) (x3 + (1 : Int32)) σ1
def F_X5_allTallied (o : Nat) (x1 : Int32) (σ : x_Hp) : Option (Int32 × x_Hp) :=
  F_X5_allTallied_4 x_fuel o x1 (0 : Int32) (0 : Int32) σ
def F_X0_cried_9 : Nat → Nat → Nat → Int32 → Int32 → Int32 → x_Hp → Option (Int32 × x_Hp)
  | 0, _, _, _, _, _, _ => none
  | n + 1, o, r1, x2, x3, x4, σ =>
  if x2 ≤ x4 then
    x_b (F_X5_allTallied r1 (1 : Int32) σ) fun v2 σ2 =>
    some (v2 - x3, σ2)
  else
    x_b (F_X0_step o r1 σ) fun _ σ3 =>
    (F_X0_cried_9 n) o r1 x2 x3 (x4 + (1 : Int32)) σ3
def F_X0_cried (o : Nat) (r1 : Nat) (x2 : Int32) (σ : x_Hp) : Option (Int32 × x_Hp) :=
  x_b (F_X5_allTallied r1 (1 : Int32) σ) fun v1 σ1 =>
  F_X0_cried_9 x_fuel o r1 x2 v1 (0 : Int32) σ1
def F_X0_keep_51 (k20 : Nat → Nat → Int32 → Int32 → Int32 → x_Hp → Option (Unit × x_Hp)) (o : Nat) (r1 : Nat) (x3 : Int32) (x4 : Int32) (x5 : Int32) (σ : x_Hp) : Option (Unit × x_Hp) :=
  x_b (F_X0_step o r1 σ) fun _ σ2 =>
  k20 o r1 x3 x4 (x5 + (1 : Int32)) σ2
def F_X0_keep_41 (k20 : Nat → Nat → Int32 → Int32 → Int32 → x_Hp → Option (Unit × x_Hp)) (o : Nat) (r1 : Nat) (x3 : Int32) (x4 : Int32) (x5 : Int32) (σ : x_Hp) : Option (Unit × x_Hp) :=
  if (σ.1 r1 13) = 0 then
    F_X0_keep_51 k20 o r1 x3 (x4 + (-1 : Int32)) x5 σ
  else
    F_X0_keep_51 k20 o r1 x3 x4 x5 σ
def F_X0_keep_20 : Nat → Nat → Nat → Int32 → Int32 → Int32 → x_Hp → Option (Unit × x_Hp)
  | 0, _, _, _, _, _, _ => none
  | n + 1, o, r1, x3, x4, x5, σ =>
  if (x3 * (61 : Int32)) ≤ x5 then
    some ((), σ)
  else
    if 0 < x4 then
      F_X0_keep_41 (F_X0_keep_20 n) o r1 x3 x4 x5 σ
    else
      if (σ.1 r1 13) ≤ 0 then
        some ((), σ)
      else
        F_X0_keep_41 (F_X0_keep_20 n) o r1 x3 x4 x5 σ
def F_X0_keep_14 (o : Nat) (r1 : Nat) (x3 : Int32) (σ : x_Hp) : Option (Unit × x_Hp) :=
  F_X0_keep_20 x_fuel o r1 x3 x3 (0 : Int32) σ
def F_X0_keep (o : Nat) (r1 : Nat) (x2 : Int32) (x3 : Int32) (σ : x_Hp) : Option (Unit × x_Hp) :=
  if (σ.1 r1 9) = x2 then
    F_X0_keep_14 o r1 x3 σ
  else
    x_b (F_X0_giveOver o r1 x2 σ) fun _ σ1 =>
    F_X0_keep_14 o r1 x3 σ1
def F_X0_behind (o : Nat) (x1 : Int32) (σ : x_Hp) : Option (Int32 × x_Hp) :=
  if (σ.1 (x_rf TX o 0) 7) ≤ (x1 + (1 : Int32)) then
    some ((0 : Int32), σ)
  else
    some (x1 + (1 : Int32), σ)
def F_X0_fewest_51 (k7 : Nat → Nat → Int32 → Int32 → x_Hp → Option (Int32 × x_Hp)) (o : Nat) (r1 : Nat) (x2 : Int32) (x3 : Int32) (σ : x_Hp) : Option (Int32 × x_Hp) :=
  k7 o r1 x2 (x3 + (1 : Int32)) σ
def F_X0_fewest_49 (k7 : Nat → Nat → Int32 → Int32 → x_Hp → Option (Int32 × x_Hp)) (o : Nat) (r1 : Nat) (x3 : Int32) (σ : x_Hp) : Option (Int32 × x_Hp) :=
  F_X0_fewest_51 k7 o r1 x3 x3 σ
def F_X0_fewest_7 : Nat → Nat → Nat → Int32 → Int32 → x_Hp → Option (Int32 × x_Hp)
  | 0, _, _, _, _, _ => none
  | n + 1, o, r1, x2, x3, σ =>
  if (σ.1 (x_rf TX o 0) 7) ≤ x3 then
    some (x2, σ)
  else
    if x3 = (σ.1 r1 9) then
      F_X0_fewest_51 (F_X0_fewest_7 n) o r1 x2 x3 σ
    else
      if x2 = (σ.1 r1 9) then
        F_X0_fewest_49 (F_X0_fewest_7 n) o r1 x3 σ
      else
        x_b (F_X5_tallied r1 x3 (0 : Int32) σ) fun v1 σ1 =>
        x_b (F_X5_tallied r1 x2 (0 : Int32) σ1) fun v2 σ2 =>
        if v2 ≤ v1 then
          F_X0_fewest_51 (F_X0_fewest_7 n) o r1 x2 x3 σ2
        else
          F_X0_fewest_49 (F_X0_fewest_7 n) o r1 x3 σ2
def F_X0_fewest (o : Nat) (r1 : Nat) (σ : x_Hp) : Option (Int32 × x_Hp) :=
  F_X0_fewest_7 x_fuel o r1 (σ.1 r1 9) (0 : Int32) σ
def F_X0_goByRule_97 (k3 : Nat → Nat → Int32 → Int32 → Int32 → Int32 → x_Hp → Option (Unit × x_Hp)) (o : Nat) (r1 : Nat) (x2 : Int32) (x3 : Int32) (x4 : Int32) (x5 : Int32) (σ : x_Hp) : Option (Unit × x_Hp) :=
  x_b (F_X0_step o r1 σ) fun _ σ1 =>
  k3 o r1 x2 x3 x4 (x5 + (1 : Int32)) σ1
def F_X0_goByRule_81 (k3 : Nat → Nat → Int32 → Int32 → Int32 → Int32 → x_Hp → Option (Unit × x_Hp)) (o : Nat) (r1 : Nat) (x2 : Int32) (x3 : Int32) (x4 : Int32) (x5 : Int32) (x6 : Int32) (σ : x_Hp) : Option (Unit × x_Hp) :=
  if x6 = (σ.1 r1 9) then
    F_X0_goByRule_97 k3 o r1 x2 x3 x4 x5 σ
  else
    x_b (F_X0_giveOver o r1 x6 σ) fun _ σ4 =>
    F_X0_goByRule_97 k3 o r1 x2 x3 x4 x5 σ4
def F_X0_goByRule_61 (k3 : Nat → Nat → Int32 → Int32 → Int32 → Int32 → x_Hp → Option (Unit × x_Hp)) (o : Nat) (r1 : Nat) (x2 : Int32) (x3 : Int32) (x4 : Int32) (x5 : Int32) (x6 : Int32) (σ : x_Hp) : Option (Unit × x_Hp) :=
  if x2 = (2 : Int32) then
    if (σ.1 r1 4) < x3 then
      F_X0_goByRule_81 k3 o r1 x2 x3 x4 x5 x6 σ
    else
      x_b (F_X0_fewest o r1 σ) fun v3 σ3 =>
      F_X0_goByRule_81 k3 o r1 x2 x3 x4 x5 v3 σ3
  else
    F_X0_goByRule_81 k3 o r1 x2 x3 x4 x5 x6 σ
def F_X0_goByRule_48 (k3 : Nat → Nat → Int32 → Int32 → Int32 → Int32 → x_Hp → Option (Unit × x_Hp)) (o : Nat) (r1 : Nat) (x2 : Int32) (x3 : Int32) (x4 : Int32) (x5 : Int32) (σ : x_Hp) : Option (Unit × x_Hp) :=
  x_b (F_X0_behind o (σ.1 r1 9) σ) fun v2 σ2 =>
  F_X0_goByRule_81 k3 o r1 x2 x3 x4 x5 v2 σ2
def F_X0_goByRule_35 (k3 : Nat → Nat → Int32 → Int32 → Int32 → Int32 → x_Hp → Option (Unit × x_Hp)) (o : Nat) (r1 : Nat) (x2 : Int32) (x3 : Int32) (x4 : Int32) (x5 : Int32) (x6 : Int32) (σ : x_Hp) : Option (Unit × x_Hp) :=
  if x2 = (1 : Int32) then
    if (σ.1 r1 12) < x3 then
      F_X0_goByRule_61 k3 o r1 x2 x3 x4 x5 x6 σ
    else
      F_X0_goByRule_48 k3 o r1 x2 x3 x4 x5 σ
  else
    F_X0_goByRule_61 k3 o r1 x2 x3 x4 x5 x6 σ
def F_X0_goByRule_3 : Nat → Nat → Nat → Int32 → Int32 → Int32 → Int32 → x_Hp → Option (Unit × x_Hp)
  | 0, _, _, _, _, _, _, _ => none
  | n + 1, o, r1, x2, x3, x4, x5, σ =>
  if x4 ≤ x5 then
    some ((), σ)
  else
    if (σ.1 r1 13) = 0 then
      if x2 = 0 then
        if x3 ≤ (σ.1 r1 4) then
          F_X0_goByRule_48 (F_X0_goByRule_3 n) o r1 x2 x3 x4 x5 σ
        else
          F_X0_goByRule_35 (F_X0_goByRule_3 n) o r1 x2 x3 x4 x5 (σ.1 r1 9) σ
      else
        F_X0_goByRule_35 (F_X0_goByRule_3 n) o r1 x2 x3 x4 x5 (σ.1 r1 9) σ
    else
      F_X0_goByRule_97 (F_X0_goByRule_3 n) o r1 x2 x3 x4 x5 σ
def F_X0_goByRule (o : Nat) (r1 : Nat) (x2 : Int32) (x3 : Int32) (x4 : Int32) (σ : x_Hp) : Option (Unit × x_Hp) :=
  F_X0_goByRule_3 x_fuel o r1 x2 x3 x4 (0 : Int32) σ
def F_X1_addStep (o : Nat) (x1 : Int32) (σ : x_Hp) : Option (Unit × x_Hp) :=
  x_b (F_X8_put (x_rf TX o 0) (σ.1 o 1) x1 σ) fun _ σ1 =>
  x_pt (x_pI σ1 o 1 ((σ1.1 o 1) + (1 : Int32))) fun σ2 =>
  some ((), σ2)
def F_X1_beginLaw (o : Nat) (x1 : Int32) (σ : x_Hp) : Option (Unit × x_Hp) :=
  x_b (F_X8_put (x_rf TX o 4) x1 (σ.1 o 3) σ) fun _ σ1 =>
  x_b (F_X8_put (x_rf TX o 5) x1 (0 : Int32) σ1) fun _ σ2 =>
  some ((), σ2)
def F_X1_endPiece (o : Nat) (σ : x_Hp) : Option (Unit × x_Hp) :=
  x_pt (x_pI σ o 3 ((σ.1 o 3) + (1 : Int32))) fun σ1 =>
  x_b (F_X8_put (x_rf TX o 2) (σ1.1 o 3) (σ1.1 o 1) σ1) fun _ σ2 =>
  some ((), σ2)
def F_X1_begin_38 (k12 : Nat → Int32 → x_Hp → Option (Unit × x_Hp)) (o : Nat) (x1 : Int32) (s0 : Int32) (s1 : Nat) (σ : x_Hp) : Option (Unit × x_Hp) :=
  x_b (F_X1_addStep s1 s0 σ) fun _ σ4 =>
  x_b (F_X1_endPiece o σ4) fun _ σ5 =>
  k12 o (x1 + (1 : Int32)) σ5
def F_X1_begin_33 (k12 : Nat → Int32 → x_Hp → Option (Unit × x_Hp)) (o : Nat) (x1 : Int32) (s0 : Nat) (σ : x_Hp) : Option (Unit × x_Hp) :=
  F_X1_begin_38 k12 o x1 (1 : Int32) s0 σ
def F_X1_begin_12 : Nat → Nat → Int32 → x_Hp → Option (Unit × x_Hp)
  | 0, _, _, _ => none
  | n + 1, o, x1, σ =>
  if (7 : Int32) ≤ x1 then
    some ((), σ)
  else
    x_b (F_X1_beginLaw o x1 σ) fun _ σ3 =>
    if x1 = 0 then
      F_X1_begin_33 (F_X1_begin_12 n) o x1 o σ3
    else
      if x1 = (1 : Int32) then
        F_X1_begin_33 (F_X1_begin_12 n) o x1 o σ3
      else
        F_X1_begin_38 (F_X1_begin_12 n) o x1 (0 : Int32) o σ3
def F_X1_begin (o : Nat) (σ : x_Hp) : Option (Unit × x_Hp) :=
  x_pt (x_pI σ o 1 (0 : Int32)) fun σ1 =>
  x_pt (x_pI σ1 o 3 (0 : Int32)) fun σ2 =>
  F_X1_begin_12 x_fuel o (0 : Int32) σ2
def F_X1_addIf (o : Nat) (x1 : Int32) (σ : x_Hp) : Option (Unit × x_Hp) :=
  x_b (F_X8_at (x_rf TX o 5) x1 σ) fun v1 σ1 =>
  x_b (F_X8_put (x_rf TX o 5) x1 (v1 + (1 : Int32)) σ1) fun _ σ2 =>
  some ((), σ2)
def F_X8_copy_11 : Nat → Nat → Nat → Int32 → x_Hp → Option (Unit × x_Hp)
  | 0, _, _, _, _ => none
  | n + 1, r0, r1, x2, σ =>
  if (Int32.ofNat (x_ln TX r0)) ≤ x2 then
    some ((), σ)
  else
    if (Int32.ofNat (x_ln TX r1)) ≤ x2 then
      some ((), σ)
    else
      x_gd (x_inb x2 (x_ln TX r0)) <|
      x_gd (x_inb x2 (x_ln TX r1)) <|
      x_pt (x_pI σ r1 (x_ix x2) (σ.1 r0 (x_ix x2))) fun σ1 =>
      (F_X8_copy_11 n) r0 r1 (x2 + (1 : Int32)) σ1
def F_X8_copy (r0 : Nat) (r1 : Nat) (σ : x_Hp) : Option (Unit × x_Hp) :=
  F_X8_copy_11 x_fuel r0 r1 (0 : Int32) σ
def F_X1_takeFrom (o : Nat) (r1 : Nat) (σ : x_Hp) : Option (Unit × x_Hp) :=
  x_b (F_X8_copy (x_rf TX r1 0) (x_rf TX o 0) σ) fun _ σ1 =>
  x_pt (x_pI σ1 o 1 (σ1.1 r1 1)) fun σ2 =>
  x_b (F_X8_copy (x_rf TX r1 2) (x_rf TX o 2) σ2) fun _ σ3 =>
  x_pt (x_pI σ3 o 3 (σ3.1 r1 3)) fun σ4 =>
  x_b (F_X8_copy (x_rf TX r1 4) (x_rf TX o 4) σ4) fun _ σ5 =>
  x_b (F_X8_copy (x_rf TX r1 5) (x_rf TX o 5) σ5) fun _ σ6 =>
  some ((), σ6)
def F_X2_begin (o : Nat) (σ : x_Hp) : Option (Unit × x_Hp) :=
  x_pt (x_pI σ o 2 (0 : Int32)) fun σ1 =>
  x_pt (x_pI σ1 o 0 (0 : Int32)) fun σ2 =>
  x_pt (x_pI σ2 o 1 (0 : Int32)) fun σ3 =>
  some ((), σ3)
def F_X2_offer_15 (o : Nat) (x1 : Int32) (x2 : Int32) (σ : x_Hp) : Option (Unit × x_Hp) :=
  x_pt (x_pI σ o 2 (1 : Int32)) fun σ1 =>
  x_pt (x_pI σ1 o 0 x1) fun σ2 =>
  x_pt (x_pI σ2 o 1 x2) fun σ3 =>
  some ((), σ3)
def F_X2_offer (o : Nat) (x1 : Int32) (x2 : Int32) (σ : x_Hp) : Option (Unit × x_Hp) :=
  if (σ.1 o 2) = 0 then
    F_X2_offer_15 o x1 x2 σ
  else
    if (σ.1 o 1) ≤ x2 then
      some ((), σ)
    else
      F_X2_offer_15 o x1 x2 σ
def F_X2_pick (o : Nat) (x1 : Int32) (σ : x_Hp) : Option (Int32 × x_Hp) :=
  if x1 = 0 then
    some (σ.1 o 0, σ)
  else
    some (σ.1 o 1, σ)
def F_X3_row (o : Nat) (x1 : Int32) (σ : x_Hp) : Option (Nat × x_Hp) :=
  if x1 < 0 then
    some (x_rf TX o 3, σ)
  else
    if (Int32.ofNat (x_ln TX (x_rf TX o 1))) ≤ x1 then
      some (x_rf TX o 3, σ)
    else
      x_gd (x_inb x1 (x_ln TX (x_rf TX o 1))) <|
      some (x_rf TX (x_rf TX o 1) (x_ix x1), σ)
def F_X5_takeFrom (o : Nat) (r1 : Nat) (σ : x_Hp) : Option (Unit × x_Hp) :=
  x_pt (x_pI σ o 0 (σ.1 r1 0)) fun σ1 =>
  x_pt (x_pI σ1 o 1 (σ1.1 r1 1)) fun σ2 =>
  x_pt (x_pI σ2 o 2 (σ2.1 r1 2)) fun σ3 =>
  x_pt (x_pI σ3 o 3 (σ3.1 r1 3)) fun σ4 =>
  x_pt (x_pI σ4 o 4 (σ4.1 r1 4)) fun σ5 =>
  x_pt (x_pI σ5 o 5 (σ5.1 r1 5)) fun σ6 =>
  x_pt (x_pI σ6 o 6 (σ6.1 r1 6)) fun σ7 =>
  x_pt (x_pI σ7 o 7 (σ7.1 r1 7)) fun σ8 =>
  x_pt (x_pI σ8 o 8 (σ8.1 r1 8)) fun σ9 =>
  x_pt (x_pI σ9 o 9 (σ9.1 r1 9)) fun σ10 =>
  x_pt (x_pI σ10 o 10 (σ10.1 r1 10)) fun σ11 =>
  x_pt (x_pI σ11 o 11 (σ11.1 r1 11)) fun σ12 =>
  x_pt (x_pI σ12 o 12 (σ12.1 r1 12)) fun σ13 =>
  x_pt (x_pI σ13 o 13 (σ13.1 r1 13)) fun σ14 =>
  x_pt (x_pI σ14 o 14 (σ14.1 r1 14)) fun σ15 =>
  x_pt (x_pI σ15 o 15 (σ15.1 r1 15)) fun σ16 =>
  x_pt (x_pI σ16 o 16 (σ16.1 r1 16)) fun σ17 =>
  x_pt (x_pI σ17 o 17 (σ17.1 r1 17)) fun σ18 =>
  x_pt (x_pI σ18 o 18 (σ18.1 r1 18)) fun σ19 =>
  x_pt (x_pI σ19 o 19 (σ19.1 r1 19)) fun σ20 =>
  x_b (F_X8_copy (x_rf TX r1 20) (x_rf TX o 20) σ20) fun _ σ21 =>
  some ((), σ21)
def F_X3_begin_21 : Nat → Nat → Int32 → x_Hp → Option (Unit × x_Hp)
  | 0, _, _, _ => none
  | n + 1, o, x2, σ =>
  if (6 : Int32) ≤ x2 then
    x_b (F_X2_begin (x_rf TX o 7) σ) fun _ σ4 =>
    x_b (F_X2_begin (x_rf TX o 8) σ4) fun _ σ5 =>
    x_pt (x_pI σ5 o 9 (0 : Int32)) fun σ6 =>
    some ((), σ6)
  else
    x_b (F_X8_put (x_rf TX o 4) x2 x2 σ) fun _ σ7 =>
    x_b (F_X8_put (x_rf TX o 6) x2 (0 : Int32) σ7) fun _ σ8 =>
    (F_X3_begin_21 n) o (x2 + (1 : Int32)) σ8
def F_X3_begin (o : Nat) (r1 : Nat) (σ : x_Hp) : Option (Unit × x_Hp) :=
  x_b (F_X3_row o (0 : Int32) σ) fun v1 σ1 =>
  x_b (F_X5_takeFrom v1 r1 σ1) fun _ σ2 =>
  x_b (F_X8_put (x_rf TX o 2) (0 : Int32) (-2 : Int32) σ2) fun _ σ3 =>
  F_X3_begin_21 x_fuel o (0 : Int32) σ3
def F_X3_change (o : Nat) (x1 : Int32) (x2 : Int32) (σ : x_Hp) : Option (Unit × x_Hp) :=
  x_b (F_X8_at (x_rf TX o 4) x1 σ) fun v1 σ1 =>
  x_b (F_X8_at (x_rf TX o 4) x2 σ1) fun v2 σ2 =>
  x_b (F_X8_put (x_rf TX o 4) x1 v2 σ2) fun _ σ3 =>
  x_b (F_X8_put (x_rf TX o 4) x2 v1 σ3) fun _ σ4 =>
  some ((), σ4)
def F_X3_follow_102 : Nat → Nat → Int32 → Int32 → Int32 → x_Hp → Option (Int32 × x_Hp)
  | 0, _, _, _, _, _ => none
  | n + 1, o, x2, x4, x5, σ =>
  if x5 ≤ x4 then
    some (x2, σ)
  else
    x_b (F_X3_change o x4 x5 σ) fun _ σ6 =>
    (F_X3_follow_102 n) o x2 (x4 + (1 : Int32)) (x5 + (-1 : Int32)) σ6
def F_X3_follow_86 (o : Nat) (x1 : Int32) (x2 : Int32) (x3 : Int32) (σ : x_Hp) : Option (Int32 × x_Hp) :=
  x_b (F_X3_change o x2 x3 σ) fun _ σ5 =>
  F_X3_follow_102 x_fuel o x2 (x2 + (1 : Int32)) (x1 - (1 : Int32)) σ5
def F_X3_follow_56 : Nat → Nat → Int32 → Int32 → Int32 → x_Hp → Option (Int32 × x_Hp)
  | 0, _, _, _, _, _ => none
  | n + 1, o, x1, x2, x3, σ =>
  if x3 ≤ x2 then
    F_X3_follow_86 o x1 x2 x3 σ
  else
    x_b (F_X8_at (x_rf TX o 4) x3 σ) fun v3 σ3 =>
    x_b (F_X8_at (x_rf TX o 4) x2 σ3) fun v4 σ4 =>
    if v4 ≤ v3 then
      F_X3_follow_86 o x1 x2 x3 σ4
    else
      (F_X3_follow_56 n) o x1 x2 (x3 + (-1 : Int32)) σ4
def F_X3_follow_46 (o : Nat) (x1 : Int32) (x2 : Int32) (σ : x_Hp) : Option (Int32 × x_Hp) :=
  if 0 ≤ x2 then
    F_X3_follow_56 x_fuel o x1 x2 (x1 - (1 : Int32)) σ
  else
    some ((-1 : Int32), σ)
def F_X3_follow_15 : Nat → Nat → Int32 → Int32 → x_Hp → Option (Int32 × x_Hp)
  | 0, _, _, _, _ => none
  | n + 1, o, x1, x2, σ =>
  if x2 < 0 then
    F_X3_follow_46 o x1 x2 σ
  else
    x_b (F_X8_at (x_rf TX o 4) x2 σ) fun v1 σ1 =>
    x_b (F_X8_at (x_rf TX o 4) (x2 + (1 : Int32)) σ1) fun v2 σ2 =>
    if v1 ≤ v2 then
      F_X3_follow_46 o x1 x2 σ2
    else
      (F_X3_follow_15 n) o x1 (x2 + (-1 : Int32)) σ2
def F_X3_follow (o : Nat) (σ : x_Hp) : Option (Int32 × x_Hp) :=
  F_X3_follow_15 x_fuel o (σ.1 (x_rf TX (x_rf TX o 0) 0) 7) ((σ.1 (x_rf TX (x_rf TX o 0) 0) 7) - (2 : Int32)) σ
def F_X3_share (o : Nat) (x1 : Int32) (x2 : Int32) (σ : x_Hp) : Option (Int32 × x_Hp) :=
  x_b (F_X3_row o (σ.1 (x_rf TX (x_rf TX o 0) 0) 7) σ) fun v1 σ1 =>
  x_b (F_X5_tallied v1 x1 x2 σ1) fun v2 σ2 =>
  x_b (F_X3_row o (0 : Int32) σ2) fun v3 σ3 =>
  x_b (F_X5_tallied v3 x1 x2 σ3) fun v4 σ4 =>
  some (v2 - v4, σ4)
def F_X3_weigh_203 (o : Nat) (x1 : Int32) (σ : x_Hp) : Option (Unit × x_Hp) :=
  x_b (F_X2_offer (x_rf TX o 7) (0 : Int32) x1 σ) fun _ σ13 =>
  some ((), σ13)
def F_X3_weigh_192 (o : Nat) (x1 : Int32) (σ : x_Hp) : Option (Unit × x_Hp) :=
  x_b (F_X8_copy (x_rf TX o 4) (x_rf TX o 5) σ) fun _ σ12 =>
  F_X3_weigh_203 o x1 σ12
def F_X3_weigh_72 (k17 : Nat → Int32 → Int32 → Int32 → Int32 → Int32 → x_Hp → Option (Unit × x_Hp)) (o : Nat) (x1 : Int32) (x3 : Int32) (x4 : Int32) (x5 : Int32) (x7 : Int32) (s0 : Int32) (σ : x_Hp) : Option (Unit × x_Hp) :=
  k17 o x1 s0 (if x3 < x7 then x7 else x3) (if x7 < x4 then x7 else x4) (x5 + (1 : Int32)) σ
def F_X3_weigh_17 : Nat → Nat → Int32 → Int32 → Int32 → Int32 → Int32 → x_Hp → Option (Unit × x_Hp)
  | 0, _, _, _, _, _, _, _ => none
  | n + 1, o, x1, x2, x3, x4, x5, σ =>
  if (σ.1 (x_rf TX (x_rf TX o 0) 0) 7) ≤ x5 then
    x_b (F_X8_at (x_rf TX o 6) x2 σ) fun v2 σ2 =>
    x_b (F_X8_put (x_rf TX o 6) x2 (v2 + (1 : Int32)) σ2) fun _ σ3 =>
    x_b (F_X8_at (x_rf TX o 2) (σ3.1 (x_rf TX (x_rf TX o 0) 0) 7) σ3) fun v4 σ4 =>
    x_b (F_X8_at (x_rf TX (x_rf TX (x_rf TX o 0) 0) 13) v4 σ4) fun v5 σ5 =>
    x_pt (x_pI σ5 o 9 ((σ3.1 o 9) + v5)) fun σ6 =>
    x_b (F_X8_at (x_rf TX o 4) (0 : Int32) σ6) fun v7 σ7 =>
    x_b (F_X2_offer (x_rf TX o 8) v7 (x3 - x4) σ7) fun _ σ8 =>
    if (σ8.1 (x_rf TX o 7) 2) = 0 then
      F_X3_weigh_192 o x1 σ8
    else
      if (σ8.1 (x_rf TX o 7) 1) ≤ x1 then
        F_X3_weigh_203 o x1 σ8
      else
        F_X3_weigh_192 o x1 σ8
  else
    x_b (F_X3_share o x5 (1 : Int32) σ) fun v9 σ9 =>
    x_b (F_X3_share o x5 (2 : Int32) σ9) fun v10 σ10 =>
    x_b (F_X3_share o x2 (1 : Int32) σ10) fun v11 σ11 =>
    if v11 ≤ v9 then
      F_X3_weigh_72 (F_X3_weigh_17 n) o (x1 + v9) x3 x4 x5 v10 x2 σ11
    else
      F_X3_weigh_72 (F_X3_weigh_17 n) o (x1 + v9) x3 x4 x5 v10 x5 σ11
def F_X3_weigh (o : Nat) (σ : x_Hp) : Option (Unit × x_Hp) :=
  x_b (F_X3_share o (0 : Int32) (2 : Int32) σ) fun v1 σ1 =>
  F_X3_weigh_17 x_fuel o (0 : Int32) (0 : Int32) v1 v1 (0 : Int32) σ1
def F_X3_search_164 (k38 : Nat → Int32 → Int32 → Int32 → x_Hp → Option (Unit × x_Hp)) (k55 : Nat → Int32 → Int32 → Int32 → x_Hp → Option (Unit × x_Hp)) (o : Nat) (x2 : Int32) (x5 : Int32) (x6 : Int32) (s0 : Int32) (s1 : Int32) (s2 : Nat) (σ : x_Hp) : Option (Unit × x_Hp) :=
  x_b (F_X8_put s2 s1 s0 σ) fun _ σ12 =>
  k55 o x2 x5 (x6 + (1 : Int32)) σ12
def F_X3_search_162 (k38 : Nat → Int32 → Int32 → Int32 → x_Hp → Option (Unit × x_Hp)) (k55 : Nat → Int32 → Int32 → Int32 → x_Hp → Option (Unit × x_Hp)) (o : Nat) (x2 : Int32) (x5 : Int32) (x6 : Int32) (x10 : Int32) (s0 : Int32) (s1 : Nat) (σ : x_Hp) : Option (Unit × x_Hp) :=
  F_X3_search_164 k38 k55 o x2 x5 x6 x10 s0 s1 σ
def F_X3_search_55 (k38 : Nat → Int32 → Int32 → Int32 → x_Hp → Option (Unit × x_Hp)) : Nat → Nat → Int32 → Int32 → Int32 → x_Hp → Option (Unit × x_Hp)
  | 0, _, _, _, _, _ => none
  | n + 1, o, x2, x5, x6, σ =>
  if (σ.1 (x_rf TX (x_rf TX o 0) 0) 7) ≤ x6 then
    x_b (F_X3_weigh o σ) fun _ σ4 =>
    x_b (F_X3_follow o σ4) fun v5 σ5 =>
    k38 o x2 v5 (x5 + (1 : Int32)) σ5
  else
    x_b (F_X3_row o (x6 + (1 : Int32)) σ) fun v6 σ6 =>
    x_b (F_X3_row o x6 σ6) fun v7 σ7 =>
    x_b (F_X5_takeFrom v6 v7 σ7) fun _ σ8 =>
    x_b (F_X8_at (x_rf TX o 4) x6 σ8) fun v9 σ9 =>
    x_b (F_X0_keep (x_rf TX o 0) v6 v9 x2 σ9) fun _ σ10 =>
    x_b (F_X8_at (x_rf TX o 2) x6 σ10) fun v11 σ11 =>
    if v11 = (-2 : Int32) then
      if (σ11.1 v6 17) ≤ (σ8.1 v6 17) then
        F_X3_search_162 k38 (F_X3_search_55 k38 n) o x2 x5 x6 v11 (x6 + (1 : Int32)) (x_rf TX o 2) σ11
      else
        F_X3_search_164 k38 (F_X3_search_55 k38 n) o x2 x5 x6 v9 (x6 + (1 : Int32)) (x_rf TX o 2) σ11
    else
      F_X3_search_162 k38 (F_X3_search_55 k38 n) o x2 x5 x6 v11 (x6 + (1 : Int32)) (x_rf TX o 2) σ11
def F_X3_search_38 : Nat → Nat → Int32 → Int32 → Int32 → x_Hp → Option (Unit × x_Hp)
  | 0, _, _, _, _, _ => none
  | n + 1, o, x2, x4, x5, σ =>
  if (720 : Int32) ≤ x5 then
    some ((), σ)
  else
    if x4 < 0 then
      some ((), σ)
    else
      F_X3_search_55 (F_X3_search_38 n) x_fuel o x2 x5 x4 σ
def F_X3_search_17 (o : Nat) (r1 : Nat) (x2 : Int32) (x3 : Int32) (σ : x_Hp) : Option (Unit × x_Hp) :=
  x_pt (x_pI σ o 10 x2) fun σ1 =>
  x_pt (x_pI σ1 o 11 x3) fun σ2 =>
  x_b (F_X3_begin o r1 σ2) fun _ σ3 =>
  F_X3_search_38 x_fuel o x2 (0 : Int32) (0 : Int32) σ3
def F_X3_search (o : Nat) (r1 : Nat) (x2 : Int32) (x3 : Int32) (σ : x_Hp) : Option (Unit × x_Hp) :=
  if x2 = (σ.1 o 10) then
    if x3 = (σ.1 o 11) then
      some ((), σ)
    else
      F_X3_search_17 o r1 x2 x3 σ
  else
    F_X3_search_17 o r1 x2 x3 σ
def F_X4_addFour_53 (k3 : Nat → Int32 → Int32 → x_Hp → Option (Unit × x_Hp)) (o : Nat) (x1 : Int32) (x2 : Int32) (σ : x_Hp) : Option (Unit × x_Hp) :=
  k3 o x1 (x2 + (-8 : Int32)) σ
def F_X4_addFour_3 : Nat → Nat → Int32 → Int32 → x_Hp → Option (Unit × x_Hp)
  | 0, _, _, _, _ => none
  | n + 1, o, x1, x2, σ =>
  if x2 < 0 then
    some ((), σ)
  else
    if (σ.1 o 1) < 0 then
      F_X4_addFour_53 (F_X4_addFour_3 n) o x1 x2 σ
    else
      if (Int32.ofNat (x_ln TX (x_rf TX o 0))) ≤ (σ.1 o 1) then
        F_X4_addFour_53 (F_X4_addFour_3 n) o x1 x2 σ
      else
        x_gd (x_inb (σ.1 o 1) (x_ln TX (x_rf TX o 0))) <|
        x_pt (x_pI σ (x_rf TX o 0) (x_ix (σ.1 o 1)) (vp_nar .char (((((x1.toUInt32 >>> (x2.toUInt32 &&& Int32.toUInt32 31)).toInt32) &&& (255 : Int32)).toUInt32 % 65536).toInt32))) fun σ1 =>
        x_pt (x_pI σ1 o 1 ((σ1.1 o 1) + (1 : Int32))) fun σ2 =>
        F_X4_addFour_53 (F_X4_addFour_3 n) o x1 x2 σ2
def F_X4_addFour (o : Nat) (x1 : Int32) (σ : x_Hp) : Option (Unit × x_Hp) :=
  F_X4_addFour_3 x_fuel o x1 (24 : Int32) σ
def F_X4_addBytes (o : Nat) (x1 : Int32) (x2 : Int32) (x3 : Int32) (x4 : Int32) (x5 : Int32) (σ : x_Hp) : Option (Int32 × x_Hp) :=
  if ((σ.1 o 1) + (20 : Int32)) ≤ (2000 : Int32) then
    x_b (F_X4_addFour o x1 σ) fun _ σ1 =>
    x_b (F_X4_addFour o x2 σ1) fun _ σ2 =>
    x_b (F_X4_addFour o x3 σ2) fun _ σ3 =>
    x_b (F_X4_addFour o x4 σ3) fun _ σ4 =>
    x_b (F_X4_addFour o x5 σ4) fun _ σ5 =>
    some (σ5.1 o 1, σ5)
  else
    some ((-1 : Int32), σ)
def F_X4_dropBytes (o : Nat) (x1 : Int32) (σ : x_Hp) : Option (Int32 × x_Hp) :=
  if x1 < 0 then
    some ((-1 : Int32), σ)
  else
    if x1 ≤ (σ.1 o 1) then
      x_pt (x_pI σ o 1 ((σ.1 o 1) - x1)) fun σ1 =>
      some (σ1.1 o 1, σ1)
    else
      some ((-1 : Int32), σ)
def F_X4_byteAt (o : Nat) (x1 : Int32) (σ : x_Hp) : Option (Int32 × x_Hp) :=
  if x1 < 0 then
    x_gd (x_isc (0 : Int32)) <|
    some ((0 : Int32), σ)
  else
    if (Int32.ofNat (x_ln TX (x_rf TX o 0))) ≤ x1 then
      x_gd (x_isc (0 : Int32)) <|
      some ((0 : Int32), σ)
    else
      x_gd (x_inb x1 (x_ln TX (x_rf TX o 0))) <|
      x_gd (x_isc (σ.1 (x_rf TX o 0) (x_ix x1))) <|
      some (σ.1 (x_rf TX o 0) (x_ix x1), σ)
def F_X4_kind (o : Nat) (σ : x_Hp) : Option (Int32 × x_Hp) :=
  x_b (F_X8_at (x_rf TX o 2) (σ.1 o 6) σ) fun v1 σ1 =>
  some (v1, σ1)
def F_X4_addRow_54 (o : Nat) (σ : x_Hp) : Option (Unit × x_Hp) :=
  x_pt (x_pI σ o 5 ((σ.1 o 5) + (1 : Int32))) fun σ4 =>
  some ((), σ4)
def F_X4_addRow (o : Nat) (x1 : Int32) (y2 : Int64) (x4 : Int32) (σ : x_Hp) : Option (Unit × x_Hp) :=
  x_b (F_X8_put (x_rf TX o 2) (σ.1 o 5) x1 σ) fun _ σ1 =>
  x_b (F_X8_put (x_rf TX o 4) (σ1.1 o 5) x4 σ1) fun _ σ2 =>
  if (σ2.1 o 5) < 0 then
    F_X4_addRow_54 o σ2
  else
    if (Int32.ofNat (x_ln TX (x_rf TX o 3))) ≤ (σ2.1 o 5) then
      F_X4_addRow_54 o σ2
    else
      x_gd (x_inb (σ2.1 o 5) (x_ln TX (x_rf TX o 3))) <|
      x_pt (x_pL σ2 (x_rf TX o 3) (x_ix (σ2.1 o 5)) y2) fun σ3 =>
      F_X4_addRow_54 o σ3
def F_X4_nameAt_5 : Nat → Nat → Int32 → Int64 → Int32 → x_Hp → Option (Int64 × x_Hp)
  | 0, _, _, _, _, _ => none
  | n + 1, o, x2, y3, x5, σ =>
  if x2 ≤ x5 then
    some (y3, σ)
  else
    x_b (F_X4_byteAt o x5 σ) fun v1 σ1 =>
    (F_X4_nameAt_5 n) o x2 ((y3 * (27 : Int64)) + (((v1 - (97 : Int32)) + (1 : Int32)).toInt64)) (x5 + (1 : Int32)) σ1
def F_X4_nameAt (o : Nat) (x1 : Int32) (x2 : Int32) (σ : x_Hp) : Option (Int64 × x_Hp) :=
  F_X4_nameAt_5 x_fuel o x2 (0 : Int64) x1 σ
def F_X4_wordAt_98 (k2 : Nat → Int32 → Int32 → Int32 → x_Hp → Option (Int32 × x_Hp)) (o : Nat) (x1 : Int32) (x2 : Int32) (x3 : Int32) (x4 : Int32) (σ : x_Hp) : Option (Int32 × x_Hp) :=
  if x4 = 0 then
    k2 o x1 x2 (x3 + (1 : Int32)) σ
  else
    some (x3, σ)
def F_X4_wordAt_90 (k2 : Nat → Int32 → Int32 → Int32 → x_Hp → Option (Int32 × x_Hp)) (k14 : Nat → Int32 → Int32 → Int32 → Int32 → Int32 → x_Hp → Option (Int32 × x_Hp)) (o : Nat) (x1 : Int32) (x2 : Int32) (x3 : Int32) (x5 : Int32) (s0 : Int32) (σ : x_Hp) : Option (Int32 × x_Hp) :=
  k14 o x1 x2 x3 s0 (x5 + (1 : Int32)) σ
def F_X4_wordAt_89 (k2 : Nat → Int32 → Int32 → Int32 → x_Hp → Option (Int32 × x_Hp)) (k14 : Nat → Int32 → Int32 → Int32 → Int32 → Int32 → x_Hp → Option (Int32 × x_Hp)) (o : Nat) (x1 : Int32) (x2 : Int32) (x3 : Int32) (x5 : Int32) (σ : x_Hp) : Option (Int32 × x_Hp) :=
  F_X4_wordAt_90 k2 k14 o x1 x2 x3 x5 (0 : Int32) σ
def F_X4_wordAt_56 (k2 : Nat → Int32 → Int32 → Int32 → x_Hp → Option (Int32 × x_Hp)) (k14 : Nat → Int32 → Int32 → Int32 → Int32 → Int32 → x_Hp → Option (Int32 × x_Hp)) (o : Nat) (x1 : Int32) (x2 : Int32) (x3 : Int32) (x5 : Int32) (x6 : Int32) (s0 : Int32) (σ : x_Hp) : Option (Int32 × x_Hp) :=
  if x6 < 0 then
    F_X4_wordAt_89 k2 k14 o x1 x2 x3 x5 σ
  else
    if (200 : Int32) ≤ x6 then
      F_X4_wordAt_89 k2 k14 o x1 x2 x3 x5 σ
    else
      x_gd (x_inb x6 200) <|
      if (x_wch x6) = s0 then
        F_X4_wordAt_90 k2 k14 o x1 x2 x3 x5 (1 : Int32) σ
      else
        F_X4_wordAt_89 k2 k14 o x1 x2 x3 x5 σ
def F_X4_wordAt_14 (k2 : Nat → Int32 → Int32 → Int32 → x_Hp → Option (Int32 × x_Hp)) : Nat → Nat → Int32 → Int32 → Int32 → Int32 → Int32 → x_Hp → Option (Int32 × x_Hp)
  | 0, _, _, _, _, _, _, _ => none
  | n + 1, o, x1, x2, x3, x4, x5, σ =>
  if (8 : Int32) ≤ x5 then
    F_X4_wordAt_98 k2 o x1 x2 x3 x4 σ
  else
    if x4 = 0 then
      F_X4_wordAt_98 k2 o x1 x2 x3 x4 σ
    else
      if x2 ≤ (x1 + x5) then
        F_X4_wordAt_56 k2 (F_X4_wordAt_14 k2 n) o x1 x2 x3 x5 ((x3 * (8 : Int32)) + x5) (32 : Int32) σ
      else
        x_b (F_X4_byteAt o (x1 + x5) σ) fun v1 σ1 =>
        F_X4_wordAt_56 k2 (F_X4_wordAt_14 k2 n) o x1 x2 x3 x5 ((x3 * (8 : Int32)) + x5) v1 σ1
def F_X4_wordAt_2 : Nat → Nat → Int32 → Int32 → Int32 → x_Hp → Option (Int32 × x_Hp)
  | 0, _, _, _, _, _ => none
  | n + 1, o, x1, x2, x3, σ =>
  if (24 : Int32) < x3 then
    some ((-1 : Int32), σ)
  else
    F_X4_wordAt_14 (F_X4_wordAt_2 n) x_fuel o x1 x2 x3 (1 : Int32) (0 : Int32) σ
def F_X4_wordAt (o : Nat) (x1 : Int32) (x2 : Int32) (σ : x_Hp) : Option (Int32 × x_Hp) :=
  F_X4_wordAt_2 x_fuel o x1 x2 (0 : Int32) σ
def F_X4_addWord_36 (o : Nat) (x1 : Int32) (x2 : Int32) (s0 : Int32) (s1 : Nat) (σ : x_Hp) : Option (Unit × x_Hp) :=
  x_b (F_X4_nameAt o x1 x2 σ) fun v3 σ3 =>
  x_b (F_X4_addRow s1 s0 v3 x1 σ3) fun _ σ4 =>
  some ((), σ4)
def F_X4_addWord (o : Nat) (x1 : Int32) (x2 : Int32) (σ : x_Hp) : Option (Unit × x_Hp) :=
  if (x2 - x1) ≤ (8 : Int32) then
    x_b (F_X4_wordAt o x1 x2 σ) fun v1 σ1 =>
    if v1 = (-1 : Int32) then
      F_X4_addWord_36 o x1 x2 (30 : Int32) o σ1
    else
      F_X4_addWord_36 o x1 x2 v1 o σ1
  else
    x_b (F_X4_addRow o (33 : Int32) (0 : Int64) x1 σ) fun _ σ2 =>
    some ((), σ2)
def F_X4_isDigit (x0 : Int32) (σ : x_Hp) : Option (Int32 × x_Hp) :=
  if x0 < (48 : Int32) then
    some ((0 : Int32), σ)
  else
    if (57 : Int32) < x0 then
      some ((0 : Int32), σ)
    else
      some ((1 : Int32), σ)
def F_X4_isLetter (x0 : Int32) (σ : x_Hp) : Option (Int32 × x_Hp) :=
  if x0 < (97 : Int32) then
    some ((0 : Int32), σ)
  else
    if (122 : Int32) < x0 then
      some ((0 : Int32), σ)
    else
      some ((1 : Int32), σ)
def F_X4_isSign (x0 : Int32) (σ : x_Hp) : Option (Int32 × x_Hp) :=
  if x0 = (43 : Int32) then
    some ((1 : Int32), σ)
  else
    if x0 = (45 : Int32) then
      some ((1 : Int32), σ)
    else
      if x0 = (42 : Int32) then
        some ((1 : Int32), σ)
      else
        if x0 = (47 : Int32) then
          some ((1 : Int32), σ)
        else
          some ((0 : Int32), σ)
def F_X4_numberAt_5 : Nat → Nat → Int32 → Int32 → Int32 → x_Hp → Option (Int32 × x_Hp)
  | 0, _, _, _, _, _ => none
  | n + 1, o, x2, x3, x4, σ =>
  if x2 ≤ x4 then
    some (x3, σ)
  else
    x_b (F_X4_byteAt o x4 σ) fun v1 σ1 =>
    (F_X4_numberAt_5 n) o x2 ((x3 * (10 : Int32)) + (v1 - (48 : Int32))) (x4 + (1 : Int32)) σ1
def F_X4_numberAt (o : Nat) (x1 : Int32) (x2 : Int32) (σ : x_Hp) : Option (Int32 × x_Hp) :=
  F_X4_numberAt_5 x_fuel o x2 (0 : Int32) x1 σ
def F_X4_addToken_114 (x1 : Int32) (s0 : Int32) (s1 : Nat) (σ : x_Hp) : Option (Unit × x_Hp) :=
  x_b (F_X4_addRow s1 s0 (0 : Int64) x1 σ) fun _ σ8 =>
  some ((), σ8)
def F_X4_addToken_100 (o : Nat) (x1 : Int32) (x3 : Int32) (s0 : Int32) (σ : x_Hp) : Option (Unit × x_Hp) :=
  if s0 = 0 then
    F_X4_addToken_114 x1 (33 : Int32) o σ
  else
    F_X4_addToken_114 x1 x3 o σ
def F_X4_addToken_95 (o : Nat) (x1 : Int32) (x3 : Int32) (σ : x_Hp) : Option (Unit × x_Hp) :=
  F_X4_addToken_100 o x1 x3 (1 : Int32) σ
def F_X4_addToken_44 (o : Nat) (x1 : Int32) (x2 : Int32) (s0 : Int32) (s1 : Nat) (σ : x_Hp) : Option (Unit × x_Hp) :=
  x_b (F_X4_numberAt o x1 x2 σ) fun v6 σ6 =>
  x_b (F_X4_addRow s1 s0 v6.toInt64 x1 σ6) fun _ σ7 =>
  some ((), σ7)
def F_X4_addToken (o : Nat) (x1 : Int32) (x2 : Int32) (σ : x_Hp) : Option (Unit × x_Hp) :=
  x_b (F_X4_byteAt o x1 σ) fun v1 σ1 =>
  x_b (F_X4_isLetter v1 σ1) fun v2 σ2 =>
  if v2 = 0 then
    x_b (F_X4_isDigit v1 σ2) fun v3 σ3 =>
    if v3 = 0 then
      x_b (F_X4_isSign v1 σ3) fun v4 σ4 =>
      if v4 = 0 then
        if v1 = (59 : Int32) then
          F_X4_addToken_95 o x1 v1 σ4
        else
          if v1 = (61 : Int32) then
            F_X4_addToken_95 o x1 v1 σ4
          else
            if v1 = (60 : Int32) then
              F_X4_addToken_95 o x1 v1 σ4
            else
              if v1 = (40 : Int32) then
                F_X4_addToken_95 o x1 v1 σ4
              else
                if v1 = (41 : Int32) then
                  F_X4_addToken_95 o x1 v1 σ4
                else
                  F_X4_addToken_100 o x1 v1 (0 : Int32) σ4
      else
        F_X4_addToken_95 o x1 v1 σ4
    else
      if (4 : Int32) < (x2 - x1) then
        F_X4_addToken_44 o x1 x2 (33 : Int32) o σ3
      else
        F_X4_addToken_44 o x1 x2 (31 : Int32) o σ3
  else
    x_b (F_X4_addWord o x1 x2 σ2) fun _ σ5 =>
    some ((), σ5)
def F_X4_endOfRun_64 (k23 : Nat → Int32 → Int32 → Int32 → x_Hp → Option (Int32 × x_Hp)) (o : Nat) (x2 : Int32) (x3 : Int32) (x4 : Int32) (σ : x_Hp) : Option (Int32 × x_Hp) :=
  k23 o x2 x3 (x4 + (1 : Int32)) σ
def F_X4_endOfRun_48 (k23 : Nat → Int32 → Int32 → Int32 → x_Hp → Option (Int32 × x_Hp)) (o : Nat) (x2 : Int32) (x3 : Int32) (x4 : Int32) (σ : x_Hp) : Option (Int32 × x_Hp) :=
  if x3 = 0 then
    some (x4, σ)
  else
    x_b (F_X4_byteAt o x4 σ) fun v7 σ7 =>
    x_b (F_X4_isDigit v7 σ7) fun v8 σ8 =>
    if v8 = 0 then
      some (x4, σ8)
    else
      F_X4_endOfRun_64 k23 o x2 x3 x4 σ8
def F_X4_endOfRun_23 : Nat → Nat → Int32 → Int32 → Int32 → x_Hp → Option (Int32 × x_Hp)
  | 0, _, _, _, _, _ => none
  | n + 1, o, x2, x3, x4, σ =>
  if (σ.1 o 1) ≤ x4 then
    some (x4, σ)
  else
    if x2 = 0 then
      F_X4_endOfRun_48 (F_X4_endOfRun_23 n) o x2 x3 x4 σ
    else
      x_b (F_X4_byteAt o x4 σ) fun v5 σ5 =>
      x_b (F_X4_isLetter v5 σ5) fun v6 σ6 =>
      if v6 = 0 then
        F_X4_endOfRun_48 (F_X4_endOfRun_23 n) o x2 x3 x4 σ6
      else
        F_X4_endOfRun_64 (F_X4_endOfRun_23 n) o x2 x3 x4 σ6
def F_X4_endOfRun (o : Nat) (x1 : Int32) (σ : x_Hp) : Option (Int32 × x_Hp) :=
  x_b (F_X4_byteAt o x1 σ) fun v1 σ1 =>
  x_b (F_X4_isLetter v1 σ1) fun v2 σ2 =>
  x_b (F_X4_byteAt o x1 σ2) fun v3 σ3 =>
  x_b (F_X4_isDigit v3 σ3) fun v4 σ4 =>
  F_X4_endOfRun_23 x_fuel o v2 v4 (x1 + (1 : Int32)) σ4
def F_X4_isBlank (x0 : Int32) (σ : x_Hp) : Option (Int32 × x_Hp) :=
  if x0 = (9 : Int32) then
    some ((1 : Int32), σ)
  else
    if x0 = (10 : Int32) then
      some ((1 : Int32), σ)
    else
      if x0 = (13 : Int32) then
        some ((1 : Int32), σ)
      else
        if x0 = (32 : Int32) then
          some ((1 : Int32), σ)
        else
          some ((0 : Int32), σ)
def F_X4_scan_63 (o : Nat) (σ : x_Hp) : Option (Unit × x_Hp) :=
  x_b (F_X4_addRow o (32 : Int32) (0 : Int64) (σ.1 o 1) σ) fun _ σ6 =>
  some ((), σ6)
def F_X4_scan_57 (k9 : Nat → Int32 → Int32 → x_Hp → Option (Unit × x_Hp)) (o : Nat) (x1 : Int32) (x2 : Int32) (σ : x_Hp) : Option (Unit × x_Hp) :=
  k9 o x1 (x2 + (1 : Int32)) σ
def F_X4_scan_9 : Nat → Nat → Int32 → Int32 → x_Hp → Option (Unit × x_Hp)
  | 0, _, _, _, _ => none
  | n + 1, o, x1, x2, σ =>
  if (σ.1 o 1) ≤ x2 then
    F_X4_scan_63 o σ
  else
    if (400 : Int32) < (σ.1 o 5) then
      F_X4_scan_63 o σ
    else
      x_b (F_X4_byteAt o x2 σ) fun v2 σ2 =>
      if x2 < x1 then
        F_X4_scan_57 (F_X4_scan_9 n) o x1 x2 σ2
      else
        x_b (F_X4_isBlank v2 σ2) fun v3 σ3 =>
        if v3 = 0 then
          x_b (F_X4_endOfRun o x2 σ3) fun v4 σ4 =>
          x_b (F_X4_addToken o x2 v4 σ4) fun _ σ5 =>
          F_X4_scan_57 (F_X4_scan_9 n) o v4 x2 σ5
        else
          F_X4_scan_57 (F_X4_scan_9 n) o x1 x2 σ3
def F_X4_scan (o : Nat) (σ : x_Hp) : Option (Unit × x_Hp) :=
  x_pt (x_pI σ o 5 (0 : Int32)) fun σ1 =>
  F_X4_scan_9 x_fuel o (0 : Int32) (0 : Int32) σ1
def F_X4_fail_41 (s0 : Int32) (s1 : Nat) (σ : x_Hp) : Option (Int32 × x_Hp) :=
  x_pt (x_pI σ s1 11 s0) fun σ2 =>
  some ((0 : Int32), σ2)
def F_X4_fail_37 (o : Nat) (s0 : Nat) (σ : x_Hp) : Option (Int32 × x_Hp) :=
  F_X4_fail_41 (σ.1 o 1) s0 σ
def F_X4_fail (o : Nat) (x1 : Int32) (σ : x_Hp) : Option (Int32 × x_Hp) :=
  x_pt (x_pI σ o 10 x1) fun σ1 =>
  if (σ1.1 o 6) < 0 then
    F_X4_fail_37 o o σ1
  else
    if (Int32.ofNat (x_ln TX (x_rf TX o 4))) ≤ (σ1.1 o 6) then
      F_X4_fail_37 o o σ1
    else
      x_gd (x_inb (σ1.1 o 6) (x_ln TX (x_rf TX o 4))) <|
      F_X4_fail_41 (σ1.1 (x_rf TX o 4) (x_ix (σ1.1 o 6))) o σ1
def F_X4_note (o : Nat) (x1 : Int32) (σ : x_Hp) : Option (Unit × x_Hp) :=
  if (σ.1 o 10) = 0 then
    x_b (F_X4_fail o x1 σ) fun v1 σ1 =>
    some ((), σ1)
  else
    some ((), σ)
def F_X4_take (o : Nat) (σ : x_Hp) : Option (Int32 × x_Hp) :=
  if (σ.1 o 6) < (400 : Int32) then
    x_pt (x_pI σ o 6 ((σ.1 o 6) + (1 : Int32))) fun σ1 =>
    some ((1 : Int32), σ1)
  else
    x_b (F_X4_fail o (2 : Int32) σ) fun v2 σ2 =>
    x_gd (x_isz v2) <|
    some (v2, σ2)
def F_X4_take_ (o : Nat) (x1 : Int32) (σ : x_Hp) : Option (Int32 × x_Hp) :=
  x_b (F_X4_kind o σ) fun v1 σ1 =>
  if v1 = x1 then
    x_b (F_X4_take o σ1) fun v3 σ3 =>
    x_gd (x_isz v3) <|
    some (v3, σ3)
  else
    x_b (F_X4_fail o (1 : Int32) σ1) fun v2 σ2 =>
    x_gd (x_isz v2) <|
    some (v2, σ2)
def F_X4_worth (o : Nat) (σ : x_Hp) : Option (Int64 × x_Hp) :=
  if (σ.1 o 6) < 0 then
    some ((0 : Int64), σ)
  else
    if (Int32.ofNat (x_ln TX (x_rf TX o 3))) ≤ (σ.1 o 6) then
      some ((0 : Int64), σ)
    else
      x_gd (x_inb (σ.1 o 6) (x_ln TX (x_rf TX o 3))) <|
      some (σ.2 (x_rf TX o 3) (x_ix (σ.1 o 6)), σ)
def F_X4_takeNumbers_36 (k3 : Nat → Int32 → Int32 → Int32 → x_Hp → Option (Int32 × x_Hp)) (o : Nat) (x2 : Int32) (x3 : Int32) (x4 : Int32) (x5 : Int32) (σ : x_Hp) : Option (Int32 × x_Hp) :=
  x_b (F_X8_put (x_rf TX o 7) x4 x5 σ) fun _ σ4 =>
  x_b (F_X4_take_ o (31 : Int32) σ4) fun v5 σ5 =>
  if v5 = 0 then
    some ((0 : Int32), σ5)
  else
    k3 o x2 x3 (x4 + (1 : Int32)) σ5
def F_X4_takeNumbers_3 : Nat → Nat → Int32 → Int32 → Int32 → x_Hp → Option (Int32 × x_Hp)
  | 0, _, _, _, _, _ => none
  | n + 1, o, x2, x3, x4, σ =>
  if x2 ≤ x4 then
    some ((1 : Int32), σ)
  else
    x_b (F_X4_worth o σ) fun v1 σ1 =>
    x_b (F_X4_kind o σ1) fun v2 σ2 =>
    if v2 = (31 : Int32) then
      if v1.toInt32 ≤ x3 then
        F_X4_takeNumbers_36 (F_X4_takeNumbers_3 n) o x2 x3 x4 v1.toInt32 σ2
      else
        x_b (F_X4_note o (5 : Int32) σ2) fun _ σ3 =>
        F_X4_takeNumbers_36 (F_X4_takeNumbers_3 n) o x2 x3 x4 v1.toInt32 σ3
    else
      F_X4_takeNumbers_36 (F_X4_takeNumbers_3 n) o x2 x3 x4 v1.toInt32 σ2
def F_X4_takeNumbers (o : Nat) (x1 : Int32) (x2 : Int32) (x3 : Int32) (σ : x_Hp) : Option (Int32 × x_Hp) :=
  F_X4_takeNumbers_3 x_fuel o x2 x3 x1 σ
def F_X6_knows_2 : Nat → Nat → Int64 → Int32 → x_Hp → Option (Int32 × x_Hp)
  | 0, _, _, _, _ => none
  | n + 1, o, y1, x3, σ =>
  if (σ.1 o 7) ≤ x3 then
    some ((0 : Int32), σ)
  else
    if (Int32.ofNat (x_ln TX (x_rf TX o 8))) ≤ x3 then
      some ((0 : Int32), σ)
    else
      x_gd (x_inb x3 (x_ln TX (x_rf TX o 8))) <|
      if (lg_cmp (σ.2 (x_rf TX o 8) (x_ix x3)) y1) = 0 then
        some ((1 : Int32), σ)
      else
        (F_X6_knows_2 n) o y1 (x3 + (1 : Int32)) σ
def F_X6_knows (o : Nat) (y1 : Int64) (σ : x_Hp) : Option (Int32 × x_Hp) :=
  F_X6_knows_2 x_fuel o y1 (0 : Int32) σ
def F_X6_tellAunt_111 (o : Nat) (s0 : Int32) (s1 : Int32) (s2 : Nat) (σ : x_Hp) : Option (Unit × x_Hp) :=
  x_b (F_X8_put s2 s1 s0 σ) fun _ σ10 =>
  x_pt (x_pI σ10 o 7 ((σ10.1 o 7) + (1 : Int32))) fun σ11 =>
  some ((), σ11)
def F_X6_tellAunt_29 (o : Nat) (r3 : Nat) (x4 : Int32) (σ : x_Hp) : Option (Unit × x_Hp) :=
  x_b (F_X8_at r3 (0 : Int32) σ) fun v2 σ2 =>
  x_b (F_X8_put (x_rf TX o 9) (σ.1 o 7) v2 σ2) fun _ σ3 =>
  x_b (F_X8_at r3 (1 : Int32) σ3) fun v4 σ4 =>
  x_b (F_X8_put (x_rf TX o 10) (σ3.1 o 7) v4 σ4) fun _ σ5 =>
  x_b (F_X8_at r3 (2 : Int32) σ5) fun v6 σ6 =>
  x_b (F_X8_put (x_rf TX o 11) (σ5.1 o 7) v6 σ6) fun _ σ7 =>
  x_b (F_X8_at r3 (3 : Int32) σ7) fun v8 σ8 =>
  x_b (F_X8_put (x_rf TX o 12) (σ7.1 o 7) v8 σ8) fun _ σ9 =>
  if x4 = 0 then
    F_X6_tellAunt_111 o (0 : Int32) (σ9.1 o 7) (x_rf TX o 13) σ9
  else
    F_X6_tellAunt_111 o (1 : Int32) (σ9.1 o 7) (x_rf TX o 13) σ9
def F_X6_tellAunt (o : Nat) (y1 : Int64) (r3 : Nat) (x4 : Int32) (σ : x_Hp) : Option (Unit × x_Hp) :=
  if (σ.1 o 7) < 0 then
    F_X6_tellAunt_29 o r3 x4 σ
  else
    if (Int32.ofNat (x_ln TX (x_rf TX o 8))) ≤ (σ.1 o 7) then
      F_X6_tellAunt_29 o r3 x4 σ
    else
      x_gd (x_inb (σ.1 o 7) (x_ln TX (x_rf TX o 8))) <|
      x_pt (x_pL σ (x_rf TX o 8) (x_ix (σ.1 o 7)) y1) fun σ1 =>
      F_X6_tellAunt_29 o r3 x4 σ1
def F_X4_tellAunt_118 (o : Nat) (y1 : Int64) (x3 : Int32) (σ : x_Hp) : Option (Int32 × x_Hp) :=
  x_b (F_X6_tellAunt (x_rf TX o 12) y1 (x_rf TX o 7) x3 σ) fun _ σ12 =>
  x_b (F_X4_take_ o (59 : Int32) σ12) fun v13 σ13 =>
  x_gd (x_isz v13) <|
  some (v13, σ13)
def F_X4_tellAunt_104 (o : Nat) (y1 : Int64) (s0 : Int32) (σ : x_Hp) : Option (Int32 × x_Hp) :=
  if s0 = 0 then
    F_X4_tellAunt_118 o y1 s0 σ
  else
    x_b (F_X4_take o σ) fun v11 σ11 =>
    if v11 = 0 then
      some ((0 : Int32), σ11)
    else
      F_X4_tellAunt_118 o y1 s0 σ11
def F_X4_tellAunt_57 (o : Nat) (y1 : Int64) (σ : x_Hp) : Option (Int32 × x_Hp) :=
  x_b (F_X4_take_ o (30 : Int32) σ) fun v7 σ7 =>
  if v7 = 0 then
    some ((0 : Int32), σ7)
  else
    x_b (F_X4_takeNumbers o (0 : Int32) (3 : Int32) (9 : Int32) σ7) fun v8 σ8 =>
    if v8 = 0 then
      some ((0 : Int32), σ8)
    else
      x_b (F_X4_takeNumbers o (3 : Int32) (4 : Int32) (99 : Int32) σ8) fun v9 σ9 =>
      if v9 = 0 then
        some ((0 : Int32), σ9)
      else
        x_b (F_X4_kind o σ9) fun v10 σ10 =>
        if v10 = (12 : Int32) then
          F_X4_tellAunt_104 o y1 (1 : Int32) σ10
        else
          F_X4_tellAunt_104 o y1 (0 : Int32) σ10
def F_X4_tellAunt (o : Nat) (σ : x_Hp) : Option (Int32 × x_Hp) :=
  if (σ.1 (x_rf TX o 12) 7) < (6 : Int32) then
    x_b (F_X4_take o σ) fun v1 σ1 =>
    if v1 = 0 then
      some ((0 : Int32), σ1)
    else
      x_b (F_X4_worth o σ1) fun v2 σ2 =>
      x_b (F_X4_kind o σ2) fun v3 σ3 =>
      if v3 = (30 : Int32) then
        x_b (F_X6_knows (x_rf TX o 12) v2 σ3) fun v4 σ4 =>
        if v4 = 0 then
          F_X4_tellAunt_57 o v2 σ4
        else
          x_b (F_X4_note o (3 : Int32) σ4) fun _ σ5 =>
          F_X4_tellAunt_57 o v2 σ5
      else
        F_X4_tellAunt_57 o v2 σ3
  else
    x_b (F_X4_fail o (2 : Int32) σ) fun v6 σ6 =>
    x_gd (x_isz v6) <|
    some (v6, σ6)
def F_X6_tellBaby (o : Nat) (x1 : Int32) (x2 : Int32) (x3 : Int32) (x4 : Int32) (σ : x_Hp) : Option (Unit × x_Hp) :=
  x_pt (x_pI σ o 0 x1) fun σ1 =>
  x_pt (x_pI σ1 o 1 x2) fun σ2 =>
  x_pt (x_pI σ2 o 2 x3) fun σ3 =>
  x_pt (x_pI σ3 o 3 x4) fun σ4 =>
  some ((), σ4)
def F_X4_tellBaby_32 (o : Nat) (s0 : Int32) (σ : x_Hp) : Option (Int32 × x_Hp) :=
  x_b (F_X8_at (x_rf TX o 7) (0 : Int32) σ) fun v4 σ4 =>
  x_b (F_X8_at (x_rf TX o 7) (1 : Int32) σ4) fun v5 σ5 =>
  x_b (F_X8_at (x_rf TX o 7) (2 : Int32) σ5) fun v6 σ6 =>
  x_b (F_X8_at (x_rf TX o 7) (3 : Int32) σ6) fun v7 σ7 =>
  x_b (F_X6_tellBaby (x_rf TX o 12) v4 v5 v6 v7 σ7) fun _ σ8 =>
  x_gd (x_isz s0) <|
  some (s0, σ8)
def F_X4_tellBaby_31 (o : Nat) (σ : x_Hp) : Option (Int32 × x_Hp) :=
  F_X4_tellBaby_32 o (0 : Int32) σ
def F_X4_tellBaby (o : Nat) (σ : x_Hp) : Option (Int32 × x_Hp) :=
  x_b (F_X4_take o σ) fun v1 σ1 =>
  if v1 = 0 then
    F_X4_tellBaby_31 o σ1
  else
    x_b (F_X4_takeNumbers o (0 : Int32) (4 : Int32) (99 : Int32) σ1) fun v2 σ2 =>
    if v2 = 0 then
      F_X4_tellBaby_31 o σ2
    else
      x_b (F_X4_take_ o (59 : Int32) σ2) fun v3 σ3 =>
      if v3 = 0 then
        F_X4_tellBaby_31 o σ3
      else
        F_X4_tellBaby_32 o (1 : Int32) σ3
def F_X4_addUnit (o : Nat) (x1 : Int32) (σ : x_Hp) : Option (Int32 × x_Hp) :=
  if x1 = (31 : Int32) then
    x_b (F_X4_worth o σ) fun v2 σ2 =>
    x_b (F_X1_addStep (x_rf TX (x_rf TX o 12) 14) v2.toInt32 σ2) fun _ σ3 =>
    some ((1 : Int32), σ3)
  else
    if x1 < (16 : Int32) then
      some ((0 : Int32), σ)
    else
      if (24 : Int32) < x1 then
        some ((0 : Int32), σ)
      else
        x_b (F_X1_addStep (x_rf TX (x_rf TX o 12) 14) (((10000 : Int32) + x1) - (16 : Int32)) σ) fun _ σ1 =>
        some ((1 : Int32), σ1)
def F_X4_addWaiting (o : Nat) (x1 : Int32) (σ : x_Hp) : Option (Unit × x_Hp) :=
  x_b (F_X8_put (x_rf TX o 8) (σ.1 o 9) x1 σ) fun _ σ1 =>
  x_pt (x_pI σ1 o 9 ((σ1.1 o 9) + (1 : Int32))) fun σ2 =>
  some ((), σ2)
def F_X4_rank (x0 : Int32) (σ : x_Hp) : Option (Int32 × x_Hp) :=
  if x0 = (40 : Int32) then
    some ((0 : Int32), σ)
  else
    if x0 = (42 : Int32) then
      some ((2 : Int32), σ)
    else
      if x0 = (47 : Int32) then
        some ((2 : Int32), σ)
      else
        some ((1 : Int32), σ)
def F_X4_endWaiting_0 : Nat → Nat → Int32 → x_Hp → Option (Unit × x_Hp)
  | 0, _, _, _ => none
  | n + 1, o, x1, σ =>
  if (σ.1 o 9) ≤ 0 then
    some ((), σ)
  else
    x_b (F_X8_at (x_rf TX o 8) ((σ.1 o 9) - (1 : Int32)) σ) fun v1 σ1 =>
    x_b (F_X4_rank v1 σ1) fun v2 σ2 =>
    if v2 < x1 then
      some ((), σ2)
    else
      x_pt (x_pI σ2 o 9 ((σ2.1 o 9) - (1 : Int32))) fun σ3 =>
      x_b (F_X8_at (x_rf TX o 8) (σ3.1 o 9) σ3) fun v4 σ4 =>
      x_b (F_X1_addStep (x_rf TX (x_rf TX o 12) 14) ((20000 : Int32) + v4) σ4) fun _ σ5 =>
      (F_X4_endWaiting_0 n) o x1 σ5
def F_X4_endWaiting (o : Nat) (x1 : Int32) (σ : x_Hp) : Option (Unit × x_Hp) :=
  F_X4_endWaiting_0 x_fuel o x1 σ
def F_X4_takePiece_184 (o : Nat) (σ : x_Hp) : Option (Int32 × x_Hp) :=
  x_b (F_X4_fail o (1 : Int32) σ) fun v16 σ16 =>
  x_gd (x_isz v16) <|
  some (v16, σ16)
def F_X4_takePiece_190 (k15 : Nat → Int32 → Int32 → Int32 → Int32 → Int32 → x_Hp → Option (Int32 × x_Hp)) (o : Nat) (x1 : Int32) (x2 : Int32) (x3 : Int32) (x4 : Int32) (x5 : Int32) (σ : x_Hp) : Option (Int32 × x_Hp) :=
  x_b (F_X4_take o σ) fun v13 σ13 =>
  if v13 = 0 then
    some ((0 : Int32), σ13)
  else
    k15 o x1 x2 x3 x4 (x5 + (1 : Int32)) σ13
def F_X4_takePiece_153 (k15 : Nat → Int32 → Int32 → Int32 → Int32 → Int32 → x_Hp → Option (Int32 × x_Hp)) (o : Nat) (x1 : Int32) (x2 : Int32) (x3 : Int32) (x5 : Int32) (x6 : Int32) (σ : x_Hp) : Option (Int32 × x_Hp) :=
  if x2 = 0 then
    if x6 = x1 then
      x_b (F_X4_endWaiting o (1 : Int32) σ) fun _ σ14 =>
      x_b (F_X1_endPiece (x_rf TX (x_rf TX o 12) 14) σ14) fun _ σ15 =>
      F_X4_takePiece_190 k15 o x1 x2 x3 (0 : Int32) x5 σ15
    else
      F_X4_takePiece_184 o σ
  else
    F_X4_takePiece_184 o σ
def F_X4_takePiece_69 (k15 : Nat → Int32 → Int32 → Int32 → Int32 → Int32 → x_Hp → Option (Int32 × x_Hp)) (o : Nat) (x1 : Int32) (x2 : Int32) (x3 : Int32) (x4 : Int32) (x5 : Int32) (x6 : Int32) (σ : x_Hp) : Option (Int32 × x_Hp) :=
  if x3 = 0 then
    x_b (F_X4_isSign x6 σ) fun v5 σ5 =>
    if v5 = 0 then
      if x6 = (41 : Int32) then
        if x2 ≤ 0 then
          F_X4_takePiece_153 k15 o x1 x2 x3 x5 x6 σ5
        else
          x_b (F_X4_endWaiting o (1 : Int32) σ5) fun _ σ6 =>
          x_pt (x_pI σ6 o 9 ((σ6.1 o 9) - (1 : Int32))) fun σ7 =>
          F_X4_takePiece_190 k15 o x1 (x2 + (-1 : Int32)) x3 x4 x5 σ7
      else
        F_X4_takePiece_153 k15 o x1 x2 x3 x5 x6 σ5
    else
      x_b (F_X4_rank x6 σ5) fun v8 σ8 =>
      x_b (F_X4_endWaiting o v8 σ8) fun _ σ9 =>
      x_b (F_X4_addWaiting o x6 σ9) fun _ σ10 =>
      F_X4_takePiece_190 k15 o x1 x2 (1 : Int32) x4 x5 σ10
  else
    x_b (F_X4_addUnit o x6 σ) fun v11 σ11 =>
    if v11 = 0 then
      x_b (F_X4_fail o (1 : Int32) σ11) fun v12 σ12 =>
      x_gd (x_isz v12) <|
      some (v12, σ12)
    else
      F_X4_takePiece_190 k15 o x1 x2 (0 : Int32) x4 x5 σ11
def F_X4_takePiece_15 : Nat → Nat → Int32 → Int32 → Int32 → Int32 → Int32 → x_Hp → Option (Int32 × x_Hp)
  | 0, _, _, _, _, _, _, _ => none
  | n + 1, o, x1, x2, x3, x4, x5, σ =>
  if (400 : Int32) < x5 then
    if x4 = 0 then
      some ((1 : Int32), σ)
    else
      some ((0 : Int32), σ)
  else
    if x4 = 0 then
      if x4 = 0 then
        some ((1 : Int32), σ)
      else
        some ((0 : Int32), σ)
    else
      x_b (F_X4_kind o σ) fun v2 σ2 =>
      if x3 = 0 then
        F_X4_takePiece_69 (F_X4_takePiece_15 n) o x1 x2 x3 x4 x5 v2 σ2
      else
        if v2 = (40 : Int32) then
          if x2 < (6 : Int32) then
            x_b (F_X4_addWaiting o v2 σ2) fun _ σ3 =>
            F_X4_takePiece_190 (F_X4_takePiece_15 n) o x1 (x2 + (1 : Int32)) x3 x4 x5 σ3
          else
            x_b (F_X4_fail o (2 : Int32) σ2) fun v4 σ4 =>
            x_gd (x_isz v4) <|
            some (v4, σ4)
        else
          F_X4_takePiece_69 (F_X4_takePiece_15 n) o x1 x2 x3 x4 x5 v2 σ2
def F_X4_takePiece (o : Nat) (x1 : Int32) (σ : x_Hp) : Option (Int32 × x_Hp) :=
  x_pt (x_pI σ o 9 (0 : Int32)) fun σ1 =>
  F_X4_takePiece_15 x_fuel o x1 (0 : Int32) (1 : Int32) (1 : Int32) (0 : Int32) σ1
def F_X4_tellLaw_109 (o : Nat) (σ : x_Hp) : Option (Int32 × x_Hp) :=
  x_b (F_X4_takePiece o (59 : Int32) σ) fun v11 σ11 =>
  x_gd (x_isz v11) <|
  some (v11, σ11)
def F_X4_tellLaw_31 : Nat → Nat → Int32 → Int32 → x_Hp → Option (Int32 × x_Hp)
  | 0, _, _, _, _ => none
  | n + 1, o, x1, x2, σ =>
  if (4 : Int32) < x2 then
    F_X4_tellLaw_109 o σ
  else
    x_b (F_X4_kind o σ) fun v4 σ4 =>
    if v4 = (13 : Int32) then
      if x2 = (4 : Int32) then
        x_b (F_X4_fail o (2 : Int32) σ4) fun v10 σ10 =>
        x_gd (x_isz v10) <|
        some (v10, σ10)
      else
        x_b (F_X4_take o σ4) fun v5 σ5 =>
        if v5 = 0 then
          some ((0 : Int32), σ5)
        else
          x_b (F_X4_takePiece o (60 : Int32) σ5) fun v6 σ6 =>
          if v6 = 0 then
            some ((0 : Int32), σ6)
          else
            x_b (F_X4_takePiece o (14 : Int32) σ6) fun v7 σ7 =>
            if v7 = 0 then
              some ((0 : Int32), σ7)
            else
              x_b (F_X4_takePiece o (15 : Int32) σ7) fun v8 σ8 =>
              if v8 = 0 then
                some ((0 : Int32), σ8)
              else
                x_b (F_X1_addIf (x_rf TX (x_rf TX o 12) 14) x1 σ8) fun _ σ9 =>
                (F_X4_tellLaw_31 n) o x1 (x2 + (1 : Int32)) σ9
    else
      F_X4_tellLaw_109 o σ4
def F_X4_tellLaw (o : Nat) (x1 : Int32) (σ : x_Hp) : Option (Int32 × x_Hp) :=
  x_b (F_X4_take o σ) fun v1 σ1 =>
  if v1 = 0 then
    some ((0 : Int32), σ1)
  else
    x_b (F_X4_take_ o (61 : Int32) σ1) fun v2 σ2 =>
    if v2 = 0 then
      some ((0 : Int32), σ2)
    else
      x_b (F_X1_beginLaw (x_rf TX (x_rf TX o 12) 14) x1 σ2) fun _ σ3 =>
      F_X4_tellLaw_31 x_fuel o x1 (0 : Int32) σ3
def F_X4_tellNumber_83 (o : Nat) (σ : x_Hp) : Option (Int32 × x_Hp) :=
  x_b (F_X4_take_ o (59 : Int32) σ) fun v7 σ7 =>
  x_gd (x_isz v7) <|
  some (v7, σ7)
def F_X4_tellNumber_24 (o : Nat) (x1 : Int32) (s0 : Int32) (s1 : Int32) (s2 : Int32) (s3 : Nat) (σ : x_Hp) : Option (Int32 × x_Hp) :=
  x_b (F_X4_takeNumbers s3 s2 s1 s0 σ) fun v2 σ2 =>
  if v2 = 0 then
    some ((0 : Int32), σ2)
  else
    x_b (F_X8_at (x_rf TX o 7) (0 : Int32) σ2) fun v3 σ3 =>
    if x1 = (9 : Int32) then
      x_pt (x_pI σ3 (x_rf TX o 12) 4 v3) fun σ6 =>
      F_X4_tellNumber_83 o σ6
    else
      if x1 = (10 : Int32) then
        x_pt (x_pI σ3 (x_rf TX o 12) 5 v3) fun σ5 =>
        F_X4_tellNumber_83 o σ5
      else
        x_pt (x_pI σ3 (x_rf TX o 12) 6 v3) fun σ4 =>
        F_X4_tellNumber_83 o σ4
def F_X4_tellNumber (o : Nat) (x1 : Int32) (σ : x_Hp) : Option (Int32 × x_Hp) :=
  x_b (F_X4_take o σ) fun v1 σ1 =>
  if v1 = 0 then
    some ((0 : Int32), σ1)
  else
    if x1 = (11 : Int32) then
      F_X4_tellNumber_24 o x1 (9999 : Int32) (1 : Int32) (0 : Int32) o σ1
    else
      F_X4_tellNumber_24 o x1 (99 : Int32) (1 : Int32) (0 : Int32) o σ1
def F_X4_tellOne_61 (o : Nat) (x1 : Int32) (σ : x_Hp) : Option (Int32 × x_Hp) :=
  x_b (F_X4_tellNumber o x1 σ) fun v6 σ6 =>
  x_gd (x_isz v6) <|
  some (v6, σ6)
def F_X4_tellOne_43 (o : Nat) (x1 : Int32) (σ : x_Hp) : Option (Int32 × x_Hp) :=
  if x1 = (9 : Int32) then
    F_X4_tellOne_61 o x1 σ
  else
    if x1 = (10 : Int32) then
      F_X4_tellOne_61 o x1 σ
    else
      if x1 = (11 : Int32) then
        F_X4_tellOne_61 o x1 σ
      else
        x_b (F_X4_fail o (1 : Int32) σ) fun v5 σ5 =>
        x_gd (x_isz v5) <|
        some (v5, σ5)
def F_X4_tellOne (o : Nat) (σ : x_Hp) : Option (Int32 × x_Hp) :=
  x_b (F_X4_kind o σ) fun v1 σ1 =>
  if v1 = (1 : Int32) then
    x_b (F_X4_tellAunt o σ1) fun v4 σ4 =>
    x_gd (x_isz v4) <|
    some (v4, σ4)
  else
    if v1 = 0 then
      x_b (F_X4_tellBaby o σ1) fun v3 σ3 =>
      x_gd (x_isz v3) <|
      some (v3, σ3)
    else
      if v1 < (2 : Int32) then
        F_X4_tellOne_43 o v1 σ1
      else
        if (9 : Int32) ≤ v1 then
          F_X4_tellOne_43 o v1 σ1
        else
          x_b (F_X4_tellLaw o (v1 - (2 : Int32)) σ1) fun v2 σ2 =>
          x_gd (x_isz v2) <|
          some (v2, σ2)
def F_X6_begin (o : Nat) (σ : x_Hp) : Option (Unit × x_Hp) :=
  x_b (F_X6_tellBaby o (0 : Int32) (0 : Int32) (0 : Int32) (0 : Int32) σ) fun _ σ1 =>
  x_pt (x_pI σ1 o 4 (20 : Int32)) fun σ2 =>
  x_pt (x_pI σ2 o 5 (30 : Int32)) fun σ3 =>
  x_pt (x_pI σ3 o 6 (0 : Int32)) fun σ4 =>
  x_pt (x_pI σ4 o 7 (0 : Int32)) fun σ5 =>
  x_b (F_X1_begin (x_rf TX o 14) σ5) fun _ σ6 =>
  some ((), σ6)
def F_X4_readTape_61 (o : Nat) (σ : x_Hp) : Option (Int32 × x_Hp) :=
  x_pt (x_pI σ o 1 (0 : Int32)) fun σ8 =>
  some (σ8.1 o 10, σ8)
def F_X4_readTape_30 : Nat → Nat → Int32 → Int32 → x_Hp → Option (Int32 × x_Hp)
  | 0, _, _, _, _ => none
  | n + 1, o, x1, x2, σ =>
  if (400 : Int32) < x2 then
    F_X4_readTape_61 o σ
  else
    if x1 = 0 then
      F_X4_readTape_61 o σ
    else
      x_b (F_X4_kind o σ) fun v6 σ6 =>
      if v6 = (32 : Int32) then
        F_X4_readTape_61 o σ6
      else
        x_b (F_X4_tellOne o σ6) fun v7 σ7 =>
        (F_X4_readTape_30 n) o v7 (x2 + (1 : Int32)) σ7
def F_X4_readTape (o : Nat) (σ : x_Hp) : Option (Int32 × x_Hp) :=
  x_pt (x_pI σ o 10 (0 : Int32)) fun σ1 =>
  x_pt (x_pI σ1 o 11 (-1 : Int32)) fun σ2 =>
  x_b (F_X6_begin (x_rf TX o 12) σ2) fun _ σ3 =>
  x_b (F_X4_scan o σ3) fun _ σ4 =>
  x_pt (x_pI σ4 o 6 (0 : Int32)) fun σ5 =>
  F_X4_readTape_30 x_fuel o (1 : Int32) (0 : Int32) σ5
def F_X6_takeFrom (o : Nat) (r1 : Nat) (σ : x_Hp) : Option (Unit × x_Hp) :=
  x_b (F_X6_tellBaby o (σ.1 r1 0) (σ.1 r1 1) (σ.1 r1 2) (σ.1 r1 3) σ) fun _ σ1 =>
  x_pt (x_pI σ1 o 4 (σ1.1 r1 4)) fun σ2 =>
  x_pt (x_pI σ2 o 5 (σ2.1 r1 5)) fun σ3 =>
  x_pt (x_pI σ3 o 6 (σ3.1 r1 6)) fun σ4 =>
  x_pt (x_pI σ4 o 7 (σ4.1 r1 7)) fun σ5 =>
  x_b (F_X8_copy (x_rf TX r1 9) (x_rf TX o 9) σ5) fun _ σ6 =>
  x_b (F_X8_copy (x_rf TX r1 10) (x_rf TX o 10) σ6) fun _ σ7 =>
  x_b (F_X8_copy (x_rf TX r1 11) (x_rf TX o 11) σ7) fun _ σ8 =>
  x_b (F_X8_copy (x_rf TX r1 12) (x_rf TX o 12) σ8) fun _ σ9 =>
  x_b (F_X8_copy (x_rf TX r1 13) (x_rf TX o 13) σ9) fun _ σ10 =>
  x_b (F_X1_takeFrom (x_rf TX o 14) (x_rf TX r1 14) σ10) fun _ σ11 =>
  some ((), σ11)
def F_X7_begin (o : Nat) (σ : x_Hp) : Option (Unit × x_Hp) :=
  x_pt (x_pI σ o 1 (0 : Int32)) fun σ1 =>
  x_pt (x_pI σ1 o 2 (0 : Int32)) fun σ2 =>
  x_pt (x_pI σ2 o 3 ((σ2.1 o 3) + (1 : Int32))) fun σ3 =>
  some ((), σ3)
def F_X7_note_76 (o : Nat) (s0 : Int32) (s1 : Nat) (σ : x_Hp) : Option (Unit × x_Hp) :=
  x_pt (x_pI σ s1 2 s0) fun σ5 =>
  x_pt (x_pI σ5 o 1 (if ((σ5.1 o 1) + (1 : Int32)) < (50 : Int32) then ((σ5.1 o 1) + (1 : Int32)) else (50 : Int32))) fun σ6 =>
  some ((), σ6)
def F_X7_note_54 (o : Nat) (σ : x_Hp) : Option (Unit × x_Hp) :=
  if (50 : Int32) ≤ ((σ.1 o 2) + (1 : Int32)) then
    F_X7_note_76 o (0 : Int32) o σ
  else
    F_X7_note_76 o ((σ.1 o 2) + (1 : Int32)) o σ
def F_X7_note (o : Nat) (r1 : Nat) (σ : x_Hp) : Option (Unit × x_Hp) :=
  x_pt (x_pI σ o 3 ((σ.1 o 3) + (1 : Int32))) fun σ1 =>
  if (σ1.1 o 2) < 0 then
    F_X7_note_54 o σ1
  else
    if (Int32.ofNat (x_ln TX (x_rf TX o 0))) ≤ (σ1.1 o 2) then
      F_X7_note_54 o σ1
    else
      x_gd (x_inb (σ1.1 o 2) (x_ln TX (x_rf TX o 0))) <|
      x_gd (x_inb (σ1.1 o 2) (x_ln TX (x_rf TX o 0))) <|
      x_b (F_X5_takeFrom (x_rf TX (x_rf TX o 0) (x_ix (σ1.1 o 2))) r1 σ1) fun _ σ4 =>
      F_X7_note_54 o σ4
def F_X7_giveBack_48 (o : Nat) (r1 : Nat) (s0 : Int32) (s1 : Nat) (σ : x_Hp) : Option (Int32 × x_Hp) :=
  x_pt (x_pI σ s1 2 s0) fun σ3 =>
  if (σ3.1 o 2) < 0 then
    some ((1 : Int32), σ3)
  else
    if (Int32.ofNat (x_ln TX (x_rf TX o 0))) ≤ (σ3.1 o 2) then
      some ((1 : Int32), σ3)
    else
      x_gd (x_inb (σ3.1 o 2) (x_ln TX (x_rf TX o 0))) <|
      x_b (F_X5_takeFrom r1 (x_rf TX (x_rf TX o 0) (x_ix (σ3.1 o 2))) σ3) fun _ σ5 =>
      some ((1 : Int32), σ5)
def F_X7_giveBack (o : Nat) (r1 : Nat) (σ : x_Hp) : Option (Int32 × x_Hp) :=
  if (σ.1 o 1) = 0 then
    some ((0 : Int32), σ)
  else
    x_pt (x_pI σ o 1 ((σ.1 o 1) - (1 : Int32))) fun σ1 =>
    x_pt (x_pI σ1 o 3 ((σ1.1 o 3) + (1 : Int32))) fun σ2 =>
    if (σ2.1 o 2) ≤ 0 then
      F_X7_giveBack_48 o r1 (49 : Int32) o σ2
    else
      F_X7_giveBack_48 o r1 ((σ2.1 o 2) - (1 : Int32)) o σ2
def F_X8_between (x0 : Int32) (x1 : Int32) (x2 : Int32) (σ : x_Hp) : Option (Int32 × x_Hp) :=
  if x0 < x1 then
    some ((0 : Int32), σ)
  else
    if x2 < x0 then
      some ((0 : Int32), σ)
    else
      some ((1 : Int32), σ)
def F_X8_feed (o : Nat) (x1 : Int32) (x2 : Int32) (x3 : Int32) (x4 : Int32) (x5 : Int32) (σ : x_Hp) : Option (Int32 × x_Hp) :=
  x_b (F_X4_addBytes (x_rf TX o 1) x1 x2 x3 x4 x5 σ) fun v1 σ1 =>
  some (v1, σ1)
def F_X8_back (o : Nat) (x1 : Int32) (σ : x_Hp) : Option (Int32 × x_Hp) :=
  x_b (F_X4_dropBytes (x_rf TX o 1) x1 σ) fun v1 σ1 =>
  some (v1, σ1)
def F_X8_read_51 : Nat → Nat → Int32 → Int32 → x_Hp → Option (Int32 × x_Hp)
  | 0, _, _, _, _ => none
  | n + 1, o, x1, x2, σ =>
  if (3 : Int32) ≤ x2 then
    some (x1, σ)
  else
    x_b (F_X8_put (x_rf TX o 7) x2 (0 : Int32) σ) fun _ σ6 =>
    (F_X8_read_51 n) o x1 (x2 + (1 : Int32)) σ6
def F_X8_read (o : Nat) (σ : x_Hp) : Option (Int32 × x_Hp) :=
  x_b (F_X4_readTape (x_rf TX o 1) σ) fun v1 σ1 =>
  if v1 = 0 then
    x_b (F_X6_takeFrom (x_rf TX o 0) (x_rf TX (x_rf TX o 1) 12) σ1) fun _ σ2 =>
    x_b (F_X0_begin (x_rf TX o 2) (x_rf TX o 3) σ2) fun _ σ3 =>
    x_b (F_X7_begin (x_rf TX o 5) σ3) fun _ σ4 =>
    x_pt (x_pI σ4 o 13 (0 : Int32)) fun σ5 =>
    F_X8_read_51 x_fuel o v1 (0 : Int32) σ5
  else
    some (v1, σ1)
def F_X8_place (o : Nat) (σ : x_Hp) : Option (Int32 × x_Hp) :=
  some (σ.1 (x_rf TX o 1) 11, σ)
def F_X8_now (o : Nat) (x1 : Int32) (σ : x_Hp) : Option (Int32 × x_Hp) :=
  if x1 = (0 : Int32) then
    some (σ.1 (x_rf TX o 3) 0, σ)
  else
  if x1 = (1 : Int32) then
    some (σ.1 (x_rf TX o 3) 1, σ)
  else
  if x1 = (2 : Int32) then
    some (σ.1 (x_rf TX o 3) 2, σ)
  else
  if x1 = (3 : Int32) then
    some (σ.1 (x_rf TX o 3) 3, σ)
  else
  if x1 = (4 : Int32) then
    some (σ.1 (x_rf TX o 3) 9, σ)
  else
  if x1 = (5 : Int32) then
    some (σ.1 (x_rf TX o 3) 4, σ)
  else
  if x1 = (6 : Int32) then
    some (σ.1 (x_rf TX o 3) 12, σ)
  else
  if x1 = (7 : Int32) then
    some (σ.1 (x_rf TX o 3) 13, σ)
  else
  if x1 = (8 : Int32) then
    some (σ.1 (x_rf TX o 3) 14, σ)
  else
  if x1 = (9 : Int32) then
    some (σ.1 (x_rf TX o 3) 8, σ)
  else
  if x1 = (10 : Int32) then
    some (σ.1 (x_rf TX o 3) 10, σ)
  else
  if x1 = (11 : Int32) then
    some (σ.1 (x_rf TX o 3) 11, σ)
  else
  some ((-1 : Int32), σ)
def F_X8_isAunt (o : Nat) (x1 : Int32) (σ : x_Hp) : Option (Int32 × x_Hp) :=
  if x1 < 0 then
    some ((0 : Int32), σ)
  else
    if (σ.1 (x_rf TX o 0) 7) ≤ x1 then
      some ((0 : Int32), σ)
    else
      some ((1 : Int32), σ)
def F_X8_asleepOrAlone (o : Nat) (σ : x_Hp) : Option (Int32 × x_Hp) :=
  if 0 < (σ.1 (x_rf TX o 3) 13) then
    some ((1 : Int32), σ)
  else
    if (σ.1 (x_rf TX o 0) 7) = 0 then
      some ((1 : Int32), σ)
    else
      some ((0 : Int32), σ)
def F_X8_aunt (o : Nat) (x1 : Int32) (x2 : Int32) (σ : x_Hp) : Option (Int32 × x_Hp) :=
  x_b (F_X8_isAunt o x1 σ) fun v1 σ1 =>
  if v1 = 0 then
    some ((-1 : Int32), σ1)
  else
    x_b (F_X8_between x2 (0 : Int32) (6 : Int32) σ1) fun v2 σ2 =>
    if v2 = 0 then
      some ((-1 : Int32), σ2)
    else
      if x2 = (5 : Int32) then
        x_b (F_X8_at (x_rf TX (x_rf TX o 0) 9) x1 σ2) fun v4 σ4 =>
        some (v4, σ4)
      else
        x_b (F_X5_tallied (x_rf TX o 3) x1 x2 σ2) fun v3 σ3 =>
        some (v3, σ3)
def F_X8_law (o : Nat) (x1 : Int32) (σ : x_Hp) : Option (Int32 × x_Hp) :=
  x_b (F_X8_between x1 (0 : Int32) (6 : Int32) σ) fun v1 σ1 =>
  if v1 = 0 then
    some ((-10000 : Int32), σ1)
  else
    if (σ1.1 (x_rf TX o 0) 7) = 0 then
      some ((-10000 : Int32), σ1)
    else
      x_b (F_X1_tells (x_rf TX (x_rf TX o 0) 14) x1 (x_rf TX o 3) σ1) fun v2 σ2 =>
      some (v2, σ2)
def F_X8_minutes (o : Nat) (x1 : Int32) (σ : x_Hp) : Option (Int32 × x_Hp) :=
  x_b (F_X8_between x1 (0 : Int32) (240 : Int32) σ) fun v1 σ1 =>
  if v1 = 0 then
    some ((-1 : Int32), σ1)
  else
    if x1 ≤ 0 then
      some (σ1.1 (x_rf TX o 3) 15, σ1)
    else
      x_b (F_X7_note (x_rf TX o 5) (x_rf TX o 3) σ1) fun _ σ2 =>
      x_b (F_X0_goOn (x_rf TX o 2) (x_rf TX o 3) x1 σ2) fun _ σ3 =>
      some (σ3.1 (x_rf TX o 3) 15, σ3)
def F_X8_hand (o : Nat) (x1 : Int32) (σ : x_Hp) : Option (Int32 × x_Hp) :=
  x_b (F_X8_isAunt o x1 σ) fun v1 σ1 =>
  if v1 = 0 then
    some ((0 : Int32), σ1)
  else
    if x1 = (σ1.1 (x_rf TX o 3) 9) then
      some ((0 : Int32), σ1)
    else
      if (σ1.1 (x_rf TX o 3) 13) ≤ 0 then
        x_b (F_X7_note (x_rf TX o 5) (x_rf TX o 3) σ1) fun _ σ2 =>
        x_b (F_X0_giveOver (x_rf TX o 2) (x_rf TX o 3) x1 σ2) fun _ σ3 =>
        some ((1 : Int32), σ3)
      else
        some ((0 : Int32), σ1)
def F_X8_nurse (o : Nat) (σ : x_Hp) : Option (Int32 × x_Hp) :=
  x_b (F_X8_asleepOrAlone o σ) fun v1 σ1 =>
  if v1 = 0 then
    x_b (F_X7_note (x_rf TX o 5) (x_rf TX o 3) σ1) fun _ σ2 =>
    x_b (F_X0_feedNow (x_rf TX o 2) (x_rf TX o 3) σ2) fun _ σ3 =>
    some ((1 : Int32), σ3)
  else
    some ((0 : Int32), σ1)
def F_X8_lay (o : Nat) (σ : x_Hp) : Option (Int32 × x_Hp) :=
  x_b (F_X8_asleepOrAlone o σ) fun v1 σ1 =>
  if v1 = 0 then
    x_b (F_X7_note (x_rf TX o 5) (x_rf TX o 3) σ1) fun _ σ2 =>
    x_b (F_X0_fallAsleep (x_rf TX o 2) (x_rf TX o 3) σ2) fun _ σ3 =>
    some ((1 : Int32), σ3)
  else
    some ((0 : Int32), σ1)
def F_X8_cloth_41 (x2 : Int32) (s0 : Int32) (s1 : Nat) (σ : x_Hp) : Option (Int32 × x_Hp) :=
  x_pt (x_pI σ s1 14 s0) fun σ2 =>
  x_gd (x_isz x2) <|
  some (x2, σ2)
def F_X8_cloth_16 (o : Nat) (x1 : Int32) (s0 : Int32) (σ : x_Hp) : Option (Int32 × x_Hp) :=
  x_b (F_X7_note (x_rf TX o 5) (x_rf TX o 3) σ) fun _ σ1 =>
  if x1 = 0 then
    F_X8_cloth_41 s0 (0 : Int32) (x_rf TX o 3) σ1
  else
    F_X8_cloth_41 s0 (1 : Int32) (x_rf TX o 3) σ1
def F_X8_cloth (o : Nat) (x1 : Int32) (σ : x_Hp) : Option (Int32 × x_Hp) :=
  if (σ.1 (x_rf TX o 3) 14) = (1 : Int32) then
    F_X8_cloth_16 o x1 (1 : Int32) σ
  else
    F_X8_cloth_16 o x1 (0 : Int32) σ
def F_X8_mother_41 (x2 : Int32) (s0 : Int32) (s1 : Nat) (σ : x_Hp) : Option (Int32 × x_Hp) :=
  x_pt (x_pI σ s1 8 s0) fun σ2 =>
  x_gd (x_isz x2) <|
  some (x2, σ2)
def F_X8_mother_16 (o : Nat) (x1 : Int32) (s0 : Int32) (σ : x_Hp) : Option (Int32 × x_Hp) :=
  x_b (F_X7_note (x_rf TX o 5) (x_rf TX o 3) σ) fun _ σ1 =>
  if x1 = 0 then
    F_X8_mother_41 s0 (0 : Int32) (x_rf TX o 3) σ1
  else
    F_X8_mother_41 s0 (1 : Int32) (x_rf TX o 3) σ1
def F_X8_mother (o : Nat) (x1 : Int32) (σ : x_Hp) : Option (Int32 × x_Hp) :=
  if (σ.1 (x_rf TX o 3) 8) = (1 : Int32) then
    F_X8_mother_16 o x1 (1 : Int32) σ
  else
    F_X8_mother_16 o x1 (0 : Int32) σ
def F_X8_undo (o : Nat) (σ : x_Hp) : Option (Int32 × x_Hp) :=
  x_b (F_X7_giveBack (x_rf TX o 5) (x_rf TX o 3) σ) fun v1 σ1 =>
  x_gd (x_isz v1) <|
  some (v1, σ1)
def F_X8_crying (o : Nat) (x1 : Int32) (σ : x_Hp) : Option (Int32 × x_Hp) :=
  x_b (F_X8_between x1 (0 : Int32) (240 : Int32) σ) fun v1 σ1 =>
  if v1 = 0 then
    some ((-1 : Int32), σ1)
  else
    x_b (F_X5_takeFrom (x_rf TX o 4) (x_rf TX o 3) σ1) fun _ σ2 =>
    x_b (F_X0_cried (x_rf TX o 2) (x_rf TX o 4) x1 σ2) fun v3 σ3 =>
    some (v3, σ3)
def F_X8_next_119 (k54 : Nat → Int32 → Int32 → Int32 → x_Hp → Option (Int32 × x_Hp)) (o : Nat) (x1 : Int32) (x2 : Int32) (x3 : Int32) (σ : x_Hp) : Option (Int32 × x_Hp) :=
  k54 o x1 x2 (x3 + (1 : Int32)) σ
def F_X8_next_54 : Nat → Nat → Int32 → Int32 → Int32 → x_Hp → Option (Int32 × x_Hp)
  | 0, _, _, _, _, _ => none
  | n + 1, o, x1, x2, x3, σ =>
  if (σ.1 (x_rf TX o 0) 7) ≤ x3 then
    x_b (F_X2_pick (x_rf TX o 9) x2 σ) fun v4 σ4 =>
    some (v4, σ4)
  else
    if x3 = (σ.1 (x_rf TX o 3) 9) then
      F_X8_next_119 (F_X8_next_54 n) o x1 x2 x3 σ
    else
      x_b (F_X5_takeFrom (x_rf TX o 4) (x_rf TX o 3) σ) fun _ σ5 =>
      x_b (F_X0_giveOver (x_rf TX o 2) (x_rf TX o 4) x3 σ5) fun _ σ6 =>
      x_b (F_X0_cried (x_rf TX o 2) (x_rf TX o 4) x1 σ6) fun v7 σ7 =>
      x_b (F_X2_offer (x_rf TX o 9) x3 v7 σ7) fun _ σ8 =>
      F_X8_next_119 (F_X8_next_54 n) o x1 x2 x3 σ8
def F_X8_next (o : Nat) (x1 : Int32) (x2 : Int32) (σ : x_Hp) : Option (Int32 × x_Hp) :=
  x_b (F_X8_between x1 (1 : Int32) (120 : Int32) σ) fun v1 σ1 =>
  if v1 = 0 then
    some ((-1 : Int32), σ1)
  else
    x_b (F_X8_between x2 (0 : Int32) (1 : Int32) σ1) fun v2 σ2 =>
    if v2 = 0 then
      some ((-1 : Int32), σ2)
    else
      if 0 < (σ2.1 (x_rf TX o 3) 13) then
        some ((-2 : Int32), σ2)
      else
        if (2 : Int32) ≤ (σ2.1 (x_rf TX o 0) 7) then
          x_b (F_X2_begin (x_rf TX o 9) σ2) fun _ σ3 =>
          F_X8_next_54 x_fuel o x1 x2 (0 : Int32) σ3
        else
          some ((-2 : Int32), σ2)
def F_X8_order (o : Nat) (x1 : Int32) (σ : x_Hp) : Option (Int32 × x_Hp) :=
  x_b (F_X8_between x1 (1 : Int32) (10 : Int32) σ) fun v1 σ1 =>
  if v1 = 0 then
    some ((-1 : Int32), σ1)
  else
    x_b (F_X8_asleepOrAlone o σ1) fun v2 σ2 =>
    if v2 = 0 then
      x_b (F_X3_search (x_rf TX o 8) (x_rf TX o 3) x1 (σ2.1 (x_rf TX o 5) 3) σ2) fun _ σ3 =>
      some (σ3.1 (x_rf TX (x_rf TX o 8) 7) 1, σ3)
    else
      some ((-2 : Int32), σ2)
def F_X8_orderAt (o : Nat) (x1 : Int32) (x2 : Int32) (σ : x_Hp) : Option (Int32 × x_Hp) :=
  x_b (F_X8_between x1 (1 : Int32) (10 : Int32) σ) fun v1 σ1 =>
  if v1 = 0 then
    some ((-1 : Int32), σ1)
  else
    if 0 ≤ x2 then
      x_b (F_X8_asleepOrAlone o σ1) fun v2 σ2 =>
      if v2 = 0 then
        if x2 < (σ2.1 (x_rf TX o 0) 7) then
          x_b (F_X3_search (x_rf TX o 8) (x_rf TX o 3) x1 (σ2.1 (x_rf TX o 5) 3) σ2) fun _ σ3 =>
          x_b (F_X8_at (x_rf TX (x_rf TX o 8) 5) x2 σ3) fun v4 σ4 =>
          some (v4, σ4)
        else
          some ((-1 : Int32), σ2)
      else
        some ((-2 : Int32), σ2)
    else
      some ((-1 : Int32), σ1)
def F_X8_sitters (o : Nat) (x1 : Int32) (σ : x_Hp) : Option (Int32 × x_Hp) :=
  x_b (F_X8_between x1 (1 : Int32) (10 : Int32) σ) fun v1 σ1 =>
  if v1 = 0 then
    some ((-1 : Int32), σ1)
  else
    x_b (F_X8_asleepOrAlone o σ1) fun v2 σ2 =>
    if v2 = 0 then
      x_b (F_X3_search (x_rf TX o 8) (x_rf TX o 3) x1 (σ2.1 (x_rf TX o 5) 3) σ2) fun _ σ3 =>
      some (σ3.1 (x_rf TX o 8) 9, σ3)
    else
      some ((-2 : Int32), σ2)
def F_X8_luck (o : Nat) (x1 : Int32) (x2 : Int32) (σ : x_Hp) : Option (Int32 × x_Hp) :=
  x_b (F_X8_isAunt o x1 σ) fun v1 σ1 =>
  if v1 = 0 then
    some ((-1 : Int32), σ1)
  else
    x_b (F_X8_between x2 (1 : Int32) (10 : Int32) σ1) fun v2 σ2 =>
    if v2 = 0 then
      some ((-1 : Int32), σ2)
    else
      x_b (F_X8_asleepOrAlone o σ2) fun v3 σ3 =>
      if v3 = 0 then
        x_b (F_X3_search (x_rf TX o 8) (x_rf TX o 3) x2 (σ3.1 (x_rf TX o 5) 3) σ3) fun _ σ4 =>
        x_b (F_X8_at (x_rf TX (x_rf TX o 8) 6) x1 σ4) fun v5 σ5 =>
        some (v5, σ5)
      else
        some ((-2 : Int32), σ3)
def F_X8_grant (o : Nat) (x1 : Int32) (σ : x_Hp) : Option (Unit × x_Hp) :=
  if x1 = (1 : Int32) then
    x_b (F_X0_feedNow (x_rf TX o 2) (x_rf TX o 4) σ) fun _ σ4 =>
    some ((), σ4)
  else
    if x1 = (2 : Int32) then
      x_b (F_X0_fallAsleep (x_rf TX o 2) (x_rf TX o 4) σ) fun _ σ3 =>
      some ((), σ3)
    else
      if x1 = (3 : Int32) then
        x_pt (x_pI σ (x_rf TX o 4) 8 ((1 : Int32) - (σ.1 (x_rf TX o 4) 8))) fun σ2 =>
        some ((), σ2)
      else
        if x1 < (4 : Int32) then
          some ((), σ)
        else
          x_b (F_X0_giveOver (x_rf TX o 2) (x_rf TX o 4) (x1 - (4 : Int32)) σ) fun _ σ1 =>
          some ((), σ1)
def F_X8_wants_102 (k40 : Nat → Int32 → Int32 → Int32 → x_Hp → Option (Int32 × x_Hp)) (o : Nat) (x1 : Int32) (x2 : Int32) (x3 : Int32) (σ : x_Hp) : Option (Int32 × x_Hp) :=
  k40 o x1 x2 (x3 + (1 : Int32)) σ
def F_X8_wants_40 : Nat → Nat → Int32 → Int32 → Int32 → x_Hp → Option (Int32 × x_Hp)
  | 0, _, _, _, _, _ => none
  | n + 1, o, x1, x2, x3, σ =>
  if ((4 : Int32) + (σ.1 (x_rf TX o 0) 7)) ≤ x3 then
    x_b (F_X2_pick (x_rf TX o 9) x2 σ) fun v5 σ5 =>
    some (v5, σ5)
  else
    if (x3 - (4 : Int32)) = (σ.1 (x_rf TX o 3) 9) then
      F_X8_wants_102 (F_X8_wants_40 n) o x1 x2 x3 σ
    else
      x_b (F_X5_takeFrom (x_rf TX o 4) (x_rf TX o 3) σ) fun _ σ6 =>
      x_b (F_X8_grant o x3 σ6) fun _ σ7 =>
      x_b (F_X0_cried (x_rf TX o 2) (x_rf TX o 4) x1 σ7) fun v8 σ8 =>
      x_b (F_X2_offer (x_rf TX o 9) x3 v8 σ8) fun _ σ9 =>
      F_X8_wants_102 (F_X8_wants_40 n) o x1 x2 x3 σ9
def F_X8_wants (o : Nat) (x1 : Int32) (x2 : Int32) (σ : x_Hp) : Option (Int32 × x_Hp) :=
  x_b (F_X8_between x1 (1 : Int32) (120 : Int32) σ) fun v1 σ1 =>
  if v1 = 0 then
    some ((-1 : Int32), σ1)
  else
    x_b (F_X8_between x2 (0 : Int32) (1 : Int32) σ1) fun v2 σ2 =>
    if v2 = 0 then
      some ((-1 : Int32), σ2)
    else
      x_b (F_X8_asleepOrAlone o σ2) fun v3 σ3 =>
      if v3 = 0 then
        x_b (F_X2_begin (x_rf TX o 9) σ3) fun _ σ4 =>
        F_X8_wants_40 x_fuel o x1 x2 (0 : Int32) σ4
      else
        some ((-2 : Int32), σ3)
def F_X8_criedInSight (o : Nat) (x1 : Int32) (x2 : Int32) (σ : x_Hp) : Option (Int32 × x_Hp) :=
  x_b (F_X5_takeFrom (x_rf TX o 4) (x_rf TX o 3) σ) fun _ σ1 =>
  x_pt (x_pI σ1 (x_rf TX o 4) 8 (1 : Int32)) fun σ2 =>
  x_b (F_X0_cried (x_rf TX o 2) (x_rf TX o 4) x1 σ2) fun v3 σ3 =>
  x_pt (x_pI σ3 (x_rf TX o 4) 8 (0 : Int32)) fun σ4 =>
  x_b (F_X0_cried (x_rf TX o 2) (x_rf TX o 4) (x2 - x1) σ4) fun v5 σ5 =>
  some (v3 + v5, σ5)
def F_X8_moment (o : Nat) (x1 : Int32) (σ : x_Hp) : Option (Int32 × x_Hp) :=
  x_b (F_X8_between x1 (1 : Int32) (120 : Int32) σ) fun v1 σ1 =>
  if v1 = 0 then
    some ((-100000 : Int32), σ1)
  else
    x_b (F_X8_criedInSight o (1 : Int32) x1 σ1) fun v2 σ2 =>
    x_b (F_X8_criedInSight o (0 : Int32) x1 σ2) fun v3 σ3 =>
    some (v2 - v3, σ3)
def F_X8_beat_93 (k52 : Nat → Int32 → Int32 → Int32 → Int32 → x_Hp → Option (Int32 × x_Hp)) (o : Nat) (x1 : Int32) (x2 : Int32) (x3 : Int32) (x4 : Int32) (σ : x_Hp) : Option (Int32 × x_Hp) :=
  x_pt (x_pI σ (x_rf TX o 4) 5 x4) fun σ8 =>
  x_b (F_X0_cried (x_rf TX o 2) (x_rf TX o 4) x2 σ8) fun v9 σ9 =>
  x_b (F_X2_offer (x_rf TX o 9) x4 v9 σ9) fun _ σ10 =>
  k52 o x1 x2 x3 (x4 + (1 : Int32)) σ10
def F_X8_beat_52 : Nat → Nat → Int32 → Int32 → Int32 → Int32 → x_Hp → Option (Int32 × x_Hp)
  | 0, _, _, _, _, _, _ => none
  | n + 1, o, x1, x2, x3, x4, σ =>
  if (9 : Int32) < x4 then
    x_b (F_X2_pick (x_rf TX o 9) x3 σ) fun v5 σ5 =>
    some (v5, σ5)
  else
    x_b (F_X5_takeFrom (x_rf TX o 4) (x_rf TX o 3) σ) fun _ σ6 =>
    if x1 = (σ6.1 (x_rf TX o 4) 9) then
      F_X8_beat_93 (F_X8_beat_52 n) o x1 x2 x3 x4 σ6
    else
      x_b (F_X0_giveOver (x_rf TX o 2) (x_rf TX o 4) x1 σ6) fun _ σ7 =>
      F_X8_beat_93 (F_X8_beat_52 n) o x1 x2 x3 x4 σ7
def F_X8_beat (o : Nat) (x1 : Int32) (x2 : Int32) (x3 : Int32) (σ : x_Hp) : Option (Int32 × x_Hp) :=
  x_b (F_X8_isAunt o x1 σ) fun v1 σ1 =>
  if v1 = 0 then
    some ((-1 : Int32), σ1)
  else
    x_b (F_X8_between x2 (1 : Int32) (120 : Int32) σ1) fun v2 σ2 =>
    if v2 = 0 then
      some ((-1 : Int32), σ2)
    else
      x_b (F_X8_between x3 (0 : Int32) (1 : Int32) σ2) fun v3 σ3 =>
      if v3 = 0 then
        some ((-1 : Int32), σ3)
      else
        if (σ3.1 (x_rf TX o 3) 13) ≤ 0 then
          x_b (F_X2_begin (x_rf TX o 9) σ3) fun _ σ4 =>
          F_X8_beat_52 x_fuel o x1 x2 x3 (0 : Int32) σ4
        else
          some ((-2 : Int32), σ3)
def F_X8_round_101 (o : Nat) (s0 : Int32) (σ : x_Hp) : Option (Int32 × x_Hp) :=
  x_b (F_X5_allTallied (x_rf TX o 4) s0 σ) fun v7 σ7 =>
  x_b (F_X5_allTallied (x_rf TX o 3) s0 σ7) fun v8 σ8 =>
  some (v7 - v8, σ8)
def F_X8_round (o : Nat) (x1 : Int32) (x2 : Int32) (x3 : Int32) (x4 : Int32) (σ : x_Hp) : Option (Int32 × x_Hp) :=
  x_b (F_X8_between x1 (0 : Int32) (3 : Int32) σ) fun v1 σ1 =>
  if v1 = 0 then
    some ((-1 : Int32), σ1)
  else
    x_b (F_X8_between x2 (1 : Int32) (20 : Int32) σ1) fun v2 σ2 =>
    if v2 = 0 then
      some ((-1 : Int32), σ2)
    else
      x_b (F_X8_between x3 (1 : Int32) (240 : Int32) σ2) fun v3 σ3 =>
      if v3 = 0 then
        some ((-1 : Int32), σ3)
      else
        x_b (F_X8_between x4 (0 : Int32) (2 : Int32) σ3) fun v4 σ4 =>
        if v4 = 0 then
          some ((-1 : Int32), σ4)
        else
          if (σ4.1 (x_rf TX o 0) 7) = 0 then
            some ((-1 : Int32), σ4)
          else
            x_b (F_X5_takeFrom (x_rf TX o 4) (x_rf TX o 3) σ4) fun _ σ5 =>
            x_b (F_X0_goByRule (x_rf TX o 2) (x_rf TX o 4) x1 x2 x3 σ5) fun _ σ6 =>
            if x4 = (2 : Int32) then
              some (σ6.1 (x_rf TX o 4) 9, σ6)
            else
              if x4 = 0 then
                F_X8_round_101 o (1 : Int32) σ6
              else
                F_X8_round_101 o (2 : Int32) σ6
def F_X8_fairest (o : Nat) (x1 : Int32) (x2 : Int32) (σ : x_Hp) : Option (Int32 × x_Hp) :=
  x_b (F_X8_between x1 (1 : Int32) (10 : Int32) σ) fun v1 σ1 =>
  if v1 = 0 then
    some ((-1 : Int32), σ1)
  else
    x_b (F_X8_between x2 (0 : Int32) (1 : Int32) σ1) fun v2 σ2 =>
    if v2 = 0 then
      some ((-1 : Int32), σ2)
    else
      x_b (F_X8_asleepOrAlone o σ2) fun v3 σ3 =>
      if v3 = 0 then
        x_b (F_X3_search (x_rf TX o 8) (x_rf TX o 3) x1 (σ3.1 (x_rf TX o 5) 3) σ3) fun _ σ4 =>
        if x2 = 0 then
          some (σ4.1 (x_rf TX (x_rf TX o 8) 8) 1, σ4)
        else
          some (σ4.1 (x_rf TX (x_rf TX o 8) 8) 0, σ4)
      else
        some ((-2 : Int32), σ3)
def F_X8_leftOut_97 (k40 : Nat → Int32 → Int32 → Int32 → x_Hp → Option (Int32 × x_Hp)) (k65 : Nat → Int32 → Int32 → Int32 → Int32 → x_Hp → Option (Int32 × x_Hp)) (o : Nat) (x1 : Int32) (x2 : Int32) (x3 : Int32) (x4 : Int32) (σ : x_Hp) : Option (Int32 × x_Hp) :=
  k65 o x1 x2 x3 (x4 + (1 : Int32)) σ
def F_X8_leftOut_65 (k40 : Nat → Int32 → Int32 → Int32 → x_Hp → Option (Int32 × x_Hp)) : Nat → Nat → Int32 → Int32 → Int32 → Int32 → x_Hp → Option (Int32 × x_Hp)
  | 0, _, _, _, _, _, _ => none
  | n + 1, o, x1, x2, x3, x4, σ =>
  if (σ.1 (x_rf TX o 0) 7) ≤ x4 then
    x_b (F_X5_allTallied (x_rf TX o 4) (1 : Int32) σ) fun v7 σ7 =>
    x_b (F_X5_allTallied (x_rf TX o 3) (1 : Int32) σ7) fun v8 σ8 =>
    x_b (F_X2_offer (x_rf TX o 9) x3 (v7 - v8) σ8) fun _ σ9 =>
    k40 o x1 x2 (x3 + (1 : Int32)) σ9
  else
    if x4 = x3 then
      F_X8_leftOut_97 k40 (F_X8_leftOut_65 k40 n) o x1 x2 x3 x4 σ
    else
      x_b (F_X0_keep (x_rf TX o 2) (x_rf TX o 4) x4 x1 σ) fun _ σ10 =>
      F_X8_leftOut_97 k40 (F_X8_leftOut_65 k40 n) o x1 x2 x3 x4 σ10
def F_X8_leftOut_40 : Nat → Nat → Int32 → Int32 → Int32 → x_Hp → Option (Int32 × x_Hp)
  | 0, _, _, _, _, _ => none
  | n + 1, o, x1, x2, x3, σ =>
  if (σ.1 (x_rf TX o 0) 7) ≤ x3 then
    x_b (F_X2_pick (x_rf TX o 9) x2 σ) fun v5 σ5 =>
    some (v5, σ5)
  else
    x_b (F_X5_takeFrom (x_rf TX o 4) (x_rf TX o 3) σ) fun _ σ6 =>
    F_X8_leftOut_65 (F_X8_leftOut_40 n) x_fuel o x1 x2 x3 (0 : Int32) σ6
def F_X8_leftOut (o : Nat) (x1 : Int32) (x2 : Int32) (σ : x_Hp) : Option (Int32 × x_Hp) :=
  x_b (F_X8_between x1 (1 : Int32) (10 : Int32) σ) fun v1 σ1 =>
  if v1 = 0 then
    some ((-1 : Int32), σ1)
  else
    x_b (F_X8_between x2 (0 : Int32) (1 : Int32) σ1) fun v2 σ2 =>
    if v2 = 0 then
      some ((-1 : Int32), σ2)
    else
      x_b (F_X8_asleepOrAlone o σ2) fun v3 σ3 =>
      if v3 = 0 then
        x_b (F_X2_begin (x_rf TX o 9) σ3) fun _ σ4 =>
        F_X8_leftOut_40 x_fuel o x1 x2 (0 : Int32) σ4
      else
        some ((-2 : Int32), σ3)
def F_X8_bestRound_48 (k40 : Nat → Int32 → Int32 → Int32 → x_Hp → Option (Int32 × x_Hp)) : Nat → Nat → Int32 → Int32 → Int32 → Int32 → x_Hp → Option (Int32 × x_Hp)
  | 0, _, _, _, _, _, _ => none
  | n + 1, o, x1, x2, x3, x4, σ =>
  if (20 : Int32) < x4 then
    k40 o x1 x2 (x3 + (1 : Int32)) σ
  else
    x_b (F_X5_takeFrom (x_rf TX o 4) (x_rf TX o 3) σ) fun _ σ5 =>
    x_b (F_X0_goByRule (x_rf TX o 2) (x_rf TX o 4) x3 x4 x1 σ5) fun _ σ6 =>
    x_b (F_X5_allTallied (x_rf TX o 4) (1 : Int32) σ6) fun v7 σ7 =>
    x_b (F_X5_allTallied (x_rf TX o 3) (1 : Int32) σ7) fun v8 σ8 =>
    x_b (F_X2_offer (x_rf TX o 9) (((100 : Int32) * x3) + x4) (v7 - v8) σ8) fun _ σ9 =>
    (F_X8_bestRound_48 k40 n) o x1 x2 x3 (x4 + (1 : Int32)) σ9
def F_X8_bestRound_40 : Nat → Nat → Int32 → Int32 → Int32 → x_Hp → Option (Int32 × x_Hp)
  | 0, _, _, _, _, _ => none
  | n + 1, o, x1, x2, x3, σ =>
  if (4 : Int32) ≤ x3 then
    x_b (F_X2_pick (x_rf TX o 9) x2 σ) fun v4 σ4 =>
    some (v4, σ4)
  else
    F_X8_bestRound_48 (F_X8_bestRound_40 n) x_fuel o x1 x2 x3 (1 : Int32) σ
def F_X8_bestRound (o : Nat) (x1 : Int32) (x2 : Int32) (σ : x_Hp) : Option (Int32 × x_Hp) :=
  x_b (F_X8_between x1 (1 : Int32) (120 : Int32) σ) fun v1 σ1 =>
  if v1 = 0 then
    some ((-1 : Int32), σ1)
  else
    x_b (F_X8_between x2 (0 : Int32) (1 : Int32) σ1) fun v2 σ2 =>
    if v2 = 0 then
      some ((-1 : Int32), σ2)
    else
      if (σ2.1 (x_rf TX o 0) 7) = 0 then
        some ((-1 : Int32), σ2)
      else
        x_b (F_X2_begin (x_rf TX o 9) σ2) fun _ σ3 =>
        F_X8_bestRound_40 x_fuel o x1 x2 (0 : Int32) σ3
def F_X8_feedAt_116 (k40 : Nat → Int32 → Int32 → Int32 → x_Hp → Option (Int32 × x_Hp)) (o : Nat) (x1 : Int32) (x2 : Int32) (x3 : Int32) (σ : x_Hp) : Option (Int32 × x_Hp) :=
  k40 o x1 x2 (x3 + (1 : Int32)) σ
def F_X8_feedAt_40 : Nat → Nat → Int32 → Int32 → Int32 → x_Hp → Option (Int32 × x_Hp)
  | 0, _, _, _, _, _ => none
  | n + 1, o, x1, x2, x3, σ =>
  if x1 ≤ x3 then
    x_b (F_X2_pick (x_rf TX o 9) x2 σ) fun v5 σ5 =>
    some (v5, σ5)
  else
    x_b (F_X5_takeFrom (x_rf TX o 4) (x_rf TX o 3) σ) fun _ σ6 =>
    x_b (F_X0_cried (x_rf TX o 2) (x_rf TX o 4) x3 σ6) fun v7 σ7 =>
    if (σ7.1 (x_rf TX o 4) 13) = 0 then
      x_b (F_X0_feedNow (x_rf TX o 2) (x_rf TX o 4) σ7) fun _ σ8 =>
      x_b (F_X0_cried (x_rf TX o 2) (x_rf TX o 4) (x1 - x3) σ8) fun v9 σ9 =>
      x_b (F_X2_offer (x_rf TX o 9) x3 (v7 + v9) σ9) fun _ σ10 =>
      F_X8_feedAt_116 (F_X8_feedAt_40 n) o x1 x2 x3 σ10
    else
      F_X8_feedAt_116 (F_X8_feedAt_40 n) o x1 x2 x3 σ7
def F_X8_feedAt (o : Nat) (x1 : Int32) (x2 : Int32) (σ : x_Hp) : Option (Int32 × x_Hp) :=
  x_b (F_X8_between x1 (1 : Int32) (60 : Int32) σ) fun v1 σ1 =>
  if v1 = 0 then
    some ((-1 : Int32), σ1)
  else
    x_b (F_X8_between x2 (0 : Int32) (1 : Int32) σ1) fun v2 σ2 =>
    if v2 = 0 then
      some ((-1 : Int32), σ2)
    else
      x_b (F_X8_asleepOrAlone o σ2) fun v3 σ3 =>
      if v3 = 0 then
        x_b (F_X2_begin (x_rf TX o 9) σ3) fun _ σ4 =>
        F_X8_feedAt_40 x_fuel o x1 x2 (0 : Int32) σ4
      else
        some ((-2 : Int32), σ3)
def F_X8_inSight_30 : Nat → Nat → Int32 → Int32 → Int32 → x_Hp → Option (Int32 × x_Hp)
  | 0, _, _, _, _, _ => none
  | n + 1, o, x1, x2, x3, σ =>
  if x1 < x3 then
    x_b (F_X2_pick (x_rf TX o 9) x2 σ) fun v4 σ4 =>
    some (v4, σ4)
  else
    x_b (F_X8_criedInSight o x3 x1 σ) fun v5 σ5 =>
    x_b (F_X2_offer (x_rf TX o 9) x3 v5 σ5) fun _ σ6 =>
    (F_X8_inSight_30 n) o x1 x2 (x3 + (1 : Int32)) σ6
def F_X8_inSight (o : Nat) (x1 : Int32) (x2 : Int32) (σ : x_Hp) : Option (Int32 × x_Hp) :=
  x_b (F_X8_between x1 (1 : Int32) (60 : Int32) σ) fun v1 σ1 =>
  if v1 = 0 then
    some ((-1 : Int32), σ1)
  else
    x_b (F_X8_between x2 (0 : Int32) (1 : Int32) σ1) fun v2 σ2 =>
    if v2 = 0 then
      some ((-1 : Int32), σ2)
    else
      x_b (F_X2_begin (x_rf TX o 9) σ2) fun _ σ3 =>
      F_X8_inSight_30 x_fuel o x1 x2 (0 : Int32) σ3
def F_X8_peak_81 (k41 : Nat → Int32 → Int32 → Int32 → Int32 → Int32 → x_Hp → Option (Int32 × x_Hp)) (o : Nat) (x1 : Int32) (x2 : Int32) (x3 : Int32) (x4 : Int32) (x5 : Int32) (σ : x_Hp) : Option (Int32 × x_Hp) :=
  k41 o x1 x2 x3 x4 (x5 + (1 : Int32)) σ
def F_X8_peak_41 : Nat → Nat → Int32 → Int32 → Int32 → Int32 → Int32 → x_Hp → Option (Int32 × x_Hp)
  | 0, _, _, _, _, _, _, _ => none
  | n + 1, o, x1, x2, x3, x4, x5, σ =>
  if x1 ≤ x5 then
    if x2 = 0 then
      some (x3, σ)
    else
      some (x4, σ)
  else
    x_b (F_X0_step (x_rf TX o 2) (x_rf TX o 4) σ) fun _ σ4 =>
    if (σ4.1 (x_rf TX o 4) 12) ≤ x3 then
      F_X8_peak_81 (F_X8_peak_41 n) o x1 x2 x3 x4 x5 σ4
    else
      F_X8_peak_81 (F_X8_peak_41 n) o x1 x2 (σ4.1 (x_rf TX o 4) 12) x5 x5 σ4
def F_X8_peak (o : Nat) (x1 : Int32) (x2 : Int32) (σ : x_Hp) : Option (Int32 × x_Hp) :=
  x_b (F_X8_between x1 (1 : Int32) (240 : Int32) σ) fun v1 σ1 =>
  if v1 = 0 then
    some ((-1 : Int32), σ1)
  else
    x_b (F_X8_between x2 (0 : Int32) (1 : Int32) σ1) fun v2 σ2 =>
    if v2 = 0 then
      some ((-1 : Int32), σ2)
    else
      x_b (F_X5_takeFrom (x_rf TX o 4) (x_rf TX o 3) σ2) fun _ σ3 =>
      F_X8_peak_41 x_fuel o x1 x2 (-1 : Int32) (0 : Int32) (0 : Int32) σ3
def F_X8_merry_22 : Nat → Nat → Int32 → Int32 → x_Hp → Option (Int32 × x_Hp)
  | 0, _, _, _, _ => none
  | n + 1, o, x1, x2, σ =>
  if (240 : Int32) < x2 then
    some ((-2 : Int32), σ)
  else
    x_b (F_X0_step (x_rf TX o 2) (x_rf TX o 4) σ) fun _ σ3 =>
    x_b (F_X5_allTallied (x_rf TX o 4) (2 : Int32) σ3) fun v4 σ4 =>
    if v4 ≤ x1 then
      (F_X8_merry_22 n) o x1 (x2 + (1 : Int32)) σ4
    else
      some (x2, σ4)
def F_X8_merry (o : Nat) (σ : x_Hp) : Option (Int32 × x_Hp) :=
  x_b (F_X5_takeFrom (x_rf TX o 4) (x_rf TX o 3) σ) fun _ σ1 =>
  x_b (F_X5_allTallied (x_rf TX o 3) (2 : Int32) σ1) fun v2 σ2 =>
  F_X8_merry_22 x_fuel o v2 (1 : Int32) σ2
def F_X8_isAtRest_2 : Nat → Nat → Int32 → Int32 → x_Hp → Option (Int32 × x_Hp)
  | 0, _, _, _, _ => none
  | n + 1, o, x1, x2, σ =>
  if (σ.1 (x_rf TX o 0) 7) ≤ x2 then
    some ((1 : Int32), σ)
  else
    x_b (F_X8_at (x_rf TX o 10) (((x1 ^^^ ((1 : Int32) <<< (x2 &&& 31))) * (6 : Int32)) + x2) σ) fun v1 σ1 =>
    x_b (F_X8_at (x_rf TX o 10) ((x1 * (6 : Int32)) + x2) σ1) fun v2 σ2 =>
    if v1 ≤ v2 then
      (F_X8_isAtRest_2 n) o x1 (x2 + (1 : Int32)) σ2
    else
      some ((0 : Int32), σ2)
def F_X8_isAtRest (o : Nat) (x1 : Int32) (σ : x_Hp) : Option (Int32 × x_Hp) :=
  F_X8_isAtRest_2 x_fuel o x1 (0 : Int32) σ
def F_X8_laughInSet_59 (k22 : Nat → Int32 → Int32 → Int32 → Int32 → x_Hp → Option (Unit × x_Hp)) (o : Nat) (x1 : Int32) (x2 : Int32) (x3 : Int32) (x4 : Int32) (s0 : Int32) (s1 : Int32) (s2 : Nat) (s3 : Nat) (σ : x_Hp) : Option (Unit × x_Hp) :=
  x_b (F_X0_keep s3 s2 s1 s0 σ) fun _ σ2 =>
  x_b (F_X5_tallied (x_rf TX o 4) x3 (2 : Int32) σ2) fun v3 σ3 =>
  x_b (F_X5_tallied (x_rf TX o 3) x3 (2 : Int32) σ3) fun v4 σ4 =>
  x_b (F_X8_put (x_rf TX o 10) ((x1 * (6 : Int32)) + x3) (v3 - v4) σ4) fun _ σ5 =>
  x_b (F_X0_behind (x_rf TX o 2) x3 σ5) fun v6 σ6 =>
  k22 o x1 x2 v6 (x4 + (1 : Int32)) σ6
def F_X8_laughInSet_22 : Nat → Nat → Int32 → Int32 → Int32 → Int32 → x_Hp → Option (Unit × x_Hp)
  | 0, _, _, _, _, _, _ => none
  | n + 1, o, x1, x2, x3, x4, σ =>
  if (σ.1 (x_rf TX o 0) 7) ≤ x4 then
    some ((), σ)
  else
    if ((x1 >>> (x3 &&& 31)) &&& (1 : Int32)) = (1 : Int32) then
      F_X8_laughInSet_59 (F_X8_laughInSet_22 n) o x1 x2 x3 x4 ((2 : Int32) * x2) x3 (x_rf TX o 4) (x_rf TX o 2) σ
    else
      F_X8_laughInSet_59 (F_X8_laughInSet_22 n) o x1 x2 x3 x4 x2 x3 (x_rf TX o 4) (x_rf TX o 2) σ
def F_X8_laughInSet (o : Nat) (x1 : Int32) (x2 : Int32) (σ : x_Hp) : Option (Unit × x_Hp) :=
  x_b (F_X5_takeFrom (x_rf TX o 4) (x_rf TX o 3) σ) fun _ σ1 =>
  F_X8_laughInSet_22 x_fuel o x1 x2 (σ1.1 (x_rf TX o 3) 9) (0 : Int32) σ1
def F_X8_rests_92 (k65 : Nat → Int32 → Int32 → Int32 → Int32 → x_Hp → Option (Int32 × x_Hp)) (o : Nat) (x2 : Int32) (x3 : Int32) (x4 : Int32) (x5 : Int32) (σ : x_Hp) : Option (Int32 × x_Hp) :=
  k65 o x2 x3 x4 (x5 + (1 : Int32)) σ
def F_X8_rests_65 : Nat → Nat → Int32 → Int32 → Int32 → Int32 → x_Hp → Option (Int32 × x_Hp)
  | 0, _, _, _, _, _, _ => none
  | n + 1, o, x2, x3, x4, x5, σ =>
  if x3 ≤ x5 then
    if x2 = (-1 : Int32) then
      some (x4, σ)
    else
      some ((-1 : Int32), σ)
  else
    x_b (F_X8_isAtRest o x5 σ) fun v4 σ4 =>
    if v4 = 0 then
      F_X8_rests_92 (F_X8_rests_65 n) o x2 x3 x4 x5 σ4
    else
      if x4 = x2 then
        some (x5, σ4)
      else
        F_X8_rests_92 (F_X8_rests_65 n) o x2 x3 (x4 + (1 : Int32)) x5 σ4
def F_X8_rests_40 : Nat → Nat → Int32 → Int32 → Int32 → Int32 → x_Hp → Option (Int32 × x_Hp)
  | 0, _, _, _, _, _, _ => none
  | n + 1, o, x1, x2, x3, x4, σ =>
  if x3 ≤ x4 then
    F_X8_rests_65 x_fuel o x2 x3 (0 : Int32) (0 : Int32) σ
  else
    x_b (F_X8_laughInSet o x4 x1 σ) fun _ σ3 =>
    (F_X8_rests_40 n) o x1 x2 x3 (x4 + (1 : Int32)) σ3
def F_X8_rests (o : Nat) (x1 : Int32) (x2 : Int32) (σ : x_Hp) : Option (Int32 × x_Hp) :=
  x_b (F_X8_between x1 (1 : Int32) (10 : Int32) σ) fun v1 σ1 =>
  if v1 = 0 then
    some ((-1 : Int32), σ1)
  else
    if (-1 : Int32) ≤ x2 then
      x_b (F_X8_asleepOrAlone o σ1) fun v2 σ2 =>
      if v2 = 0 then
        F_X8_rests_40 x_fuel o x1 x2 ((1 : Int32) <<< ((σ2.1 (x_rf TX o 0) 7) &&& 31)) (0 : Int32) σ2
      else
        some ((-2 : Int32), σ2)
    else
      some ((-1 : Int32), σ1)
def F_X8_silk_27 : Nat → Nat → Int32 → Int32 → Int32 → Int32 → x_Hp → Option (Int32 × x_Hp)
  | 0, _, _, _, _, _, _ => none
  | n + 1, o, x1, x2, x3, x4, σ =>
  if x2 ≤ x4 then
    some (x3, σ)
  else
    x_b (F_X5_takeFrom (x_rf TX o 4) (x_rf TX o 3) σ) fun _ σ3 =>
    x_pt (x_pI σ3 (x_rf TX o 4) 16 ((σ3.1 (x_rf TX o 0) 6) + x4)) fun σ4 =>
    x_b (F_X0_goOn (x_rf TX o 2) (x_rf TX o 4) x1 σ4) fun _ σ5 =>
    x_b (F_X5_allTallied (x_rf TX o 4) (4 : Int32) σ5) fun v6 σ6 =>
    x_b (F_X5_allTallied (x_rf TX o 3) (4 : Int32) σ6) fun v7 σ7 =>
    (F_X8_silk_27 n) o x1 x2 (x3 + (v6 - v7)) (x4 + (1 : Int32)) σ7
def F_X8_silk (o : Nat) (x1 : Int32) (x2 : Int32) (σ : x_Hp) : Option (Int32 × x_Hp) :=
  x_b (F_X8_between x1 (0 : Int32) (120 : Int32) σ) fun v1 σ1 =>
  if v1 = 0 then
    some ((-1 : Int32), σ1)
  else
    x_b (F_X8_between x2 (1 : Int32) (20 : Int32) σ1) fun v2 σ2 =>
    if v2 = 0 then
      some ((-1 : Int32), σ2)
    else
      F_X8_silk_27 x_fuel o x1 x2 (0 : Int32) (0 : Int32) σ2
def F_X8_commonDivisor_2 : Nat → Int32 → Int32 → Int32 → x_Hp → Option (Int32 × x_Hp)
  | 0, _, _, _, _ => none
  | n + 1, x0, x1, x2, σ =>
  if (100 : Int32) ≤ x2 then
    some (x0, σ)
  else
    if x1 = 0 then
      some (x0, σ)
    else
      x_gd (!decide (x1 = 0)) <|
      (F_X8_commonDivisor_2 n) x1 (x0 - x0 / x1 * x1) (x2 + (1 : Int32)) σ
def F_X8_commonDivisor (x0 : Int32) (x1 : Int32) (σ : x_Hp) : Option (Int32 × x_Hp) :=
  F_X8_commonDivisor_2 x_fuel x0 x1 (0 : Int32) σ
def F_X8_likes (o : Nat) (x1 : Int32) (x2 : Int32) (σ : x_Hp) : Option (Int32 × x_Hp) :=
  x_b (F_X8_isAunt o x1 σ) fun v1 σ1 =>
  if v1 = 0 then
    some ((-1 : Int32), σ1)
  else
    x_b (F_X5_tallied (x_rf TX o 3) x1 (0 : Int32) σ1) fun v2 σ2 =>
    if v2 = 0 then
      some ((-2 : Int32), σ2)
    else
      x_b (F_X5_tallied (x_rf TX o 3) x1 (1 : Int32) σ2) fun v3 σ3 =>
      x_b (F_X8_commonDivisor v2 v3 σ3) fun v4 σ4 =>
      if v4 = 0 then
        some ((-2 : Int32), σ4)
      else
        if x2 = 0 then
          x_gd (!decide (v4 = 0)) <|
          some (v3 / v4, σ4)
        else
          x_gd (!decide (v4 = 0)) <|
          some (v2 / v4, σ4)
def F_X8_sleeps_13 : Nat → Nat → Int32 → x_Hp → Option (Int32 × x_Hp)
  | 0, _, _, _ => none
  | n + 1, o, x1, σ =>
  if (240 : Int32) ≤ x1 then
    if (σ.1 (x_rf TX o 4) 13) ≤ 0 then
      some ((-2 : Int32), σ)
    else
      some ((240 : Int32), σ)
  else
    if (σ.1 (x_rf TX o 4) 13) ≤ 0 then
      x_b (F_X0_step (x_rf TX o 2) (x_rf TX o 4) σ) fun _ σ2 =>
      (F_X8_sleeps_13 n) o (x1 + (1 : Int32)) σ2
    else
      some (x1, σ)
def F_X8_sleeps (o : Nat) (σ : x_Hp) : Option (Int32 × x_Hp) :=
  x_b (F_X5_takeFrom (x_rf TX o 4) (x_rf TX o 3) σ) fun _ σ1 =>
  F_X8_sleeps_13 x_fuel o (0 : Int32) σ1
def F_X8_tell (o : Nat) (x1 : Int32) (x2 : Int32) (σ : x_Hp) : Option (Int32 × x_Hp) :=
  x_b (F_X8_between x1 (0 : Int32) (59 : Int32) σ) fun v1 σ1 =>
  if v1 = 0 then
    some ((-1 : Int32), σ1)
  else
    x_b (F_X8_between x2 (0 : Int32) (99 : Int32) σ1) fun v2 σ2 =>
    if v2 = 0 then
      some ((-1 : Int32), σ2)
    else
      if (σ2.1 o 13) < (20 : Int32) then
        x_b (F_X8_put (x_rf TX o 11) (σ2.1 o 13) x1 σ2) fun _ σ3 =>
        x_b (F_X8_put (x_rf TX o 12) (σ3.1 o 13) x2 σ3) fun _ σ4 =>
        x_pt (x_pI σ4 o 13 ((σ4.1 o 13) + (1 : Int32))) fun σ5 =>
        some ((σ5.1 o 13) - (1 : Int32), σ5)
      else
        some ((-1 : Int32), σ2)
def F_X8_forget (o : Nat) (σ : x_Hp) : Option (Int32 × x_Hp) :=
  x_pt (x_pI σ o 13 (0 : Int32)) fun σ1 =>
  some (σ.1 o 13, σ1)
def F_X8_criesAsTold_81 (k21 : Nat → Int32 → Int32 → x_Hp → Option (Int32 × x_Hp)) (k41 : Nat → Int32 → Int32 → Int32 → x_Hp → Option (Int32 × x_Hp)) (o : Nat) (x2 : Int32) (x3 : Int32) (x4 : Int32) (σ : x_Hp) : Option (Int32 × x_Hp) :=
  k41 o x2 x3 (x4 + (1 : Int32)) σ
def F_X8_criesAsTold_41 (k21 : Nat → Int32 → Int32 → x_Hp → Option (Int32 × x_Hp)) : Nat → Nat → Int32 → Int32 → Int32 → x_Hp → Option (Int32 × x_Hp)
  | 0, _, _, _, _, _ => none
  | n + 1, o, x2, x3, x4, σ =>
  if x2 ≤ x4 then
    k21 o x2 (x3 + (1 : Int32)) σ
  else
    x_b (F_X8_at (x_rf TX o 11) x4 σ) fun v4 σ4 =>
    if v4 = x3 then
      x_b (F_X8_at (x_rf TX o 12) x4 σ4) fun v5 σ5 =>
      if v5 = (σ5.1 (x_rf TX o 4) 12) then
        F_X8_criesAsTold_81 k21 (F_X8_criesAsTold_41 k21 n) o x2 x3 x4 σ5
      else
        some ((0 : Int32), σ5)
    else
      F_X8_criesAsTold_81 k21 (F_X8_criesAsTold_41 k21 n) o x2 x3 x4 σ4
def F_X8_criesAsTold_21 : Nat → Nat → Int32 → Int32 → x_Hp → Option (Int32 × x_Hp)
  | 0, _, _, _, _ => none
  | n + 1, o, x2, x3, σ =>
  if (60 : Int32) ≤ x3 then
    some ((1 : Int32), σ)
  else
    x_b (F_X0_step (x_rf TX o 2) (x_rf TX o 4) σ) fun _ σ3 =>
    F_X8_criesAsTold_41 (F_X8_criesAsTold_21 n) x_fuel o x2 x3 (0 : Int32) σ3
def F_X8_criesAsTold (o : Nat) (x1 : Int32) (x2 : Int32) (σ : x_Hp) : Option (Int32 × x_Hp) :=
  x_b (F_X0_begin (x_rf TX o 2) (x_rf TX o 4) σ) fun _ σ1 =>
  x_pt (x_pI σ1 (x_rf TX o 4) 0 x1) fun σ2 =>
  F_X8_criesAsTold_21 x_fuel o x2 (0 : Int32) σ2
def F_X8_fed_52 (k24 : Nat → Int32 → Int32 → Int32 → Int32 → x_Hp → Option (Int32 × x_Hp)) (o : Nat) (x1 : Int32) (x2 : Int32) (x3 : Int32) (x4 : Int32) (σ : x_Hp) : Option (Int32 × x_Hp) :=
  k24 o x1 x2 x3 (x4 + (1 : Int32)) σ
def F_X8_fed_24 : Nat → Nat → Int32 → Int32 → Int32 → Int32 → x_Hp → Option (Int32 × x_Hp)
  | 0, _, _, _, _, _, _ => none
  | n + 1, o, x1, x2, x3, x4, σ =>
  if (99 : Int32) < x4 then
    if x2 = (-1 : Int32) then
      some (x3, σ)
    else
      some ((-1 : Int32), σ)
  else
    x_b (F_X8_criesAsTold o x4 x1 σ) fun v2 σ2 =>
    if v2 = 0 then
      F_X8_fed_52 (F_X8_fed_24 n) o x1 x2 x3 x4 σ2
    else
      if x3 = x2 then
        some (x4, σ2)
      else
        F_X8_fed_52 (F_X8_fed_24 n) o x1 x2 (x3 + (1 : Int32)) x4 σ2
def F_X8_fed (o : Nat) (x1 : Int32) (x2 : Int32) (σ : x_Hp) : Option (Int32 × x_Hp) :=
  x_b (F_X8_between x1 (0 : Int32) (σ.1 o 13) σ) fun v1 σ1 =>
  if v1 = 0 then
    some ((-1 : Int32), σ1)
  else
    if (-1 : Int32) ≤ x2 then
      F_X8_fed_24 x_fuel o x1 x2 (0 : Int32) (0 : Int32) σ1
    else
      some ((-1 : Int32), σ1)
def F_X8_hold (o : Nat) (x1 : Int32) (σ : x_Hp) : Option (Int32 × x_Hp) :=
  if x1 < 0 then
    some ((0 : Int32), σ)
  else
    if (Int32.ofNat (x_ln TX (x_rf TX o 6))) ≤ x1 then
      some ((0 : Int32), σ)
    else
      x_gd (x_inb x1 (x_ln TX (x_rf TX o 6))) <|
      x_gd (x_inb x1 (x_ln TX (x_rf TX o 6))) <|
      x_b (F_X5_takeFrom (x_rf TX (x_rf TX o 6) (x_ix x1)) (x_rf TX o 3) σ) fun _ σ3 =>
      x_b (F_X8_put (x_rf TX o 7) x1 (1 : Int32) σ3) fun _ σ4 =>
      some ((1 : Int32), σ4)
def F_X8_restore (o : Nat) (x1 : Int32) (σ : x_Hp) : Option (Int32 × x_Hp) :=
  if x1 < 0 then
    some ((0 : Int32), σ)
  else
    if (Int32.ofNat (x_ln TX (x_rf TX o 6))) ≤ x1 then
      some ((0 : Int32), σ)
    else
      x_b (F_X8_at (x_rf TX o 7) x1 σ) fun v1 σ1 =>
      if v1 = 0 then
        some ((0 : Int32), σ1)
      else
        x_gd (x_inb x1 (x_ln TX (x_rf TX o 6))) <|
        x_b (F_X5_takeFrom (x_rf TX o 3) (x_rf TX (x_rf TX o 6) (x_ix x1)) σ1) fun _ σ3 =>
        x_b (F_X7_begin (x_rf TX o 5) σ3) fun _ σ4 =>
        some ((1 : Int32), σ4)
def F_X8_count (o : Nat) (x1 : Int32) (σ : x_Hp) : Option (Int32 × x_Hp) :=
  if x1 = (0 : Int32) then
    some (σ.1 (x_rf TX o 0) 7, σ)
  else
  if x1 = (1 : Int32) then
    some (σ.1 (x_rf TX o 3) 15, σ)
  else
  if x1 = (2 : Int32) then
    x_b (F_X5_allTallied (x_rf TX o 3) (1 : Int32) σ) fun v1 σ1 =>
    some (v1, σ1)
  else
  if x1 = (3 : Int32) then
    x_b (F_X5_allTallied (x_rf TX o 3) (2 : Int32) σ) fun v2 σ2 =>
    some (v2, σ2)
  else
  if x1 = (4 : Int32) then
    x_b (F_X5_allTallied (x_rf TX o 3) (4 : Int32) σ) fun v3 σ3 =>
    some (v3, σ3)
  else
  if x1 = (5 : Int32) then
    some (σ.1 (x_rf TX o 3) 17, σ)
  else
  if x1 = (6 : Int32) then
    some (σ.1 (x_rf TX o 3) 18, σ)
  else
  if x1 = (7 : Int32) then
    some (σ.1 (x_rf TX o 1) 1, σ)
  else
  if x1 = (8 : Int32) then
    some (σ.1 (x_rf TX o 5) 1, σ)
  else
  if x1 = (9 : Int32) then
    some (σ.1 o 13, σ)
  else
  if x1 = (10 : Int32) then
    x_b (F_X8_at (x_rf TX o 7) (0 : Int32) σ) fun v4 σ4 =>
    x_b (F_X8_at (x_rf TX o 7) (1 : Int32) σ4) fun v5 σ5 =>
    x_b (F_X8_at (x_rf TX o 7) (2 : Int32) σ5) fun v6 σ6 =>
    some ((v4 + v5) + v6, σ6)
  else
  if x1 = (11 : Int32) then
    some (σ.1 (x_rf TX o 0) 4, σ)
  else
  if x1 = (12 : Int32) then
    some (σ.1 (x_rf TX o 0) 5, σ)
  else
  if x1 = (13 : Int32) then
    some (σ.1 (x_rf TX o 3) 19, σ)
  else
  some ((-1 : Int32), σ)
def F_X9_put_3 : Nat → Nat → Int32 → Int32 → x_Hp → Option (Unit × x_Hp)
  | 0, _, _, _, _ => none
  | n + 1, o, x1, x2, σ =>
  if x2 < 0 then
    some ((), σ)
  else
    x_gd (x_inb (σ.1 o 2) (x_ln TM (x_rf TM o 1))) <|
    x_pt (x_pI σ (x_rf TM o 1) (x_ix (σ.1 o 2)) (vp_nar .byte ((x1 >>> (x2 &&& 31)).toInt8.toInt32))) fun σ1 =>
    x_pt (x_pI σ1 o 2 ((σ1.1 o 2) + (1 : Int32))) fun σ2 =>
    (F_X9_put_3 n) o x1 (x2 + (-8 : Int32)) σ2
def F_X9_put (o : Nat) (x1 : Int32) (σ : x_Hp) : Option (Unit × x_Hp) :=
  F_X9_put_3 x_fuel o x1 (24 : Int32) σ
def F_X9_feed (o : Nat) (x1 : Int32) (x2 : Int32) (x3 : Int32) (x4 : Int32) (x5 : Int32) (σ : x_Hp) : Option (Int32 × x_Hp) :=
  if ((σ.1 o 2) + (20 : Int32)) ≤ (2000 : Int32) then
    x_b (F_X9_put o x1 σ) fun _ σ1 =>
    x_b (F_X9_put o x2 σ1) fun _ σ2 =>
    x_b (F_X9_put o x3 σ2) fun _ σ3 =>
    x_b (F_X9_put o x4 σ3) fun _ σ4 =>
    x_b (F_X9_put o x5 σ4) fun _ σ5 =>
    some (σ5.1 o 2, σ5)
  else
    some ((-1 : Int32), σ)
def F_X9_back (o : Nat) (x1 : Int32) (σ : x_Hp) : Option (Int32 × x_Hp) :=
  if x1 < 0 then
    some ((-1 : Int32), σ)
  else
    if x1 ≤ (σ.1 o 2) then
      x_pt (x_pI σ o 2 ((σ.1 o 2) - x1)) fun σ1 =>
      some (σ1.1 o 2, σ1)
    else
      some ((-1 : Int32), σ)
def F_X9_byteAt (o : Nat) (x1 : Int32) (σ : x_Hp) : Option (Int32 × x_Hp) :=
  if (σ.1 o 4) ≤ x1 then
    some ((0 : Int32), σ)
  else
    x_gd (x_inb x1 (x_ln TM (x_rf TM o 3))) <|
    some ((σ.1 (x_rf TM o 3) (x_ix x1)) &&& (255 : Int32), σ)
def F_X9_isDigit (x0 : Int32) (σ : x_Hp) : Option (Int32 × x_Hp) :=
  if x0 < (48 : Int32) then
    some ((0 : Int32), σ)
  else
    if (57 : Int32) < x0 then
      some ((0 : Int32), σ)
    else
      some ((1 : Int32), σ)
def F_X9_isLetter (x0 : Int32) (σ : x_Hp) : Option (Int32 × x_Hp) :=
  if x0 < (97 : Int32) then
    some ((0 : Int32), σ)
  else
    if (122 : Int32) < x0 then
      some ((0 : Int32), σ)
    else
      some ((1 : Int32), σ)
def F_X9_appends (y0 : Int64) (x2 : Int32) (σ : x_Hp) : Option (Int64 × x_Hp) :=
  if x2 = 0 then
    some (y0, σ)
  else
    some (((27 : Int64) * y0) + (((x2 - (97 : Int32)) + (1 : Int32)).toInt64), σ)
def F_X9_word (x0 : Int32) (x1 : Int32) (x2 : Int32) (x3 : Int32) (x4 : Int32) (x5 : Int32) (x6 : Int32) (σ : x_Hp) : Option (Int64 × x_Hp) :=
  x_b (F_X9_appends (0 : Int64) x0 σ) fun v1 σ1 =>
  x_b (F_X9_appends v1 x1 σ1) fun v2 σ2 =>
  x_b (F_X9_appends v2 x2 σ2) fun v3 σ3 =>
  x_b (F_X9_appends v3 x3 σ3) fun v4 σ4 =>
  x_b (F_X9_appends v4 x4 σ4) fun v5 σ5 =>
  x_b (F_X9_appends v5 x5 σ5) fun v6 σ6 =>
  x_b (F_X9_appends v6 x6 σ6) fun v7 σ7 =>
  some (v7, σ7)
def F_X9_token (o : Nat) (x1 : Int32) (x2 : Int32) (x3 : Int32) (y4 : Int64) (σ : x_Hp) : Option (Unit × x_Hp) :=
  x_gd (x_inb (σ.1 o 10) (x_ln TM (x_rf TM o 5))) <|
  x_pt (x_pI σ (x_rf TM o 5) (x_ix (σ.1 o 10)) x1) fun σ1 =>
  x_gd (x_inb (σ1.1 o 10) (x_ln TM (x_rf TM o 6))) <|
  x_pt (x_pI σ1 (x_rf TM o 6) (x_ix (σ1.1 o 10)) x2) fun σ2 =>
  x_gd (x_inb (σ2.1 o 10) (x_ln TM (x_rf TM o 7))) <|
  x_pt (x_pI σ2 (x_rf TM o 7) (x_ix (σ2.1 o 10)) x3) fun σ3 =>
  x_gd (x_inb (σ3.1 o 10) (x_ln TM (x_rf TM o 8))) <|
  x_pt (x_pL σ3 (x_rf TM o 8) (x_ix (σ3.1 o 10)) y4) fun σ4 =>
  x_pt (x_pI σ4 o 10 ((σ4.1 o 10) + (1 : Int32))) fun σ5 =>
  some ((), σ5)
def F_X9_sign_95 (o : Nat) (x1 : Int32) (x4 : Int32) (σ : x_Hp) : Option (Int32 × x_Hp) :=
  x_b (F_X9_token o x4 x1 (0 : Int32) (0 : Int64) σ) fun _ σ1 =>
  some ((1 : Int32), σ1)
def F_X9_sign_85 (o : Nat) (x1 : Int32) (x2 : Int32) (x4 : Int32) (σ : x_Hp) : Option (Int32 × x_Hp) :=
  if x2 = (60 : Int32) then
    F_X9_sign_95 o x1 (13 : Int32) σ
  else
    F_X9_sign_95 o x1 x4 σ
def F_X9_sign_75 (o : Nat) (x1 : Int32) (x2 : Int32) (x4 : Int32) (σ : x_Hp) : Option (Int32 × x_Hp) :=
  if x2 = (47 : Int32) then
    F_X9_sign_85 o x1 x2 (15 : Int32) σ
  else
    F_X9_sign_85 o x1 x2 x4 σ
def F_X9_sign_65 (o : Nat) (x1 : Int32) (x2 : Int32) (x4 : Int32) (σ : x_Hp) : Option (Int32 × x_Hp) :=
  if x2 = (42 : Int32) then
    F_X9_sign_75 o x1 x2 (10 : Int32) σ
  else
    F_X9_sign_75 o x1 x2 x4 σ
def F_X9_sign_55 (o : Nat) (x1 : Int32) (x2 : Int32) (x4 : Int32) (σ : x_Hp) : Option (Int32 × x_Hp) :=
  if x2 = (45 : Int32) then
    F_X9_sign_65 o x1 x2 (9 : Int32) σ
  else
    F_X9_sign_65 o x1 x2 x4 σ
def F_X9_sign_43 (o : Nat) (x1 : Int32) (x2 : Int32) (s0 : Int32) (σ : x_Hp) : Option (Int32 × x_Hp) :=
  if x2 = (43 : Int32) then
    F_X9_sign_55 o x1 x2 (8 : Int32) σ
  else
    F_X9_sign_55 o x1 x2 s0 σ
def F_X9_sign (o : Nat) (x1 : Int32) (x2 : Int32) (x3 : Int32) (σ : x_Hp) : Option (Int32 × x_Hp) :=
  if x2 = (59 : Int32) then
    F_X9_sign_43 o x1 x2 (4 : Int32) σ
  else
    if x2 = (61 : Int32) then
      F_X9_sign_43 o x1 x2 (5 : Int32) σ
    else
      if x2 = (40 : Int32) then
        F_X9_sign_43 o x1 x2 (6 : Int32) σ
      else
        if x2 = (41 : Int32) then
          F_X9_sign_43 o x1 x2 (7 : Int32) σ
        else
          F_X9_sign_43 o x1 x2 (3 : Int32) σ
def F_X9_cut_291 (k7 : Nat → Int32 → x_Hp → Option (Unit × x_Hp)) (o : Nat) (x1 : Int32) (σ : x_Hp) : Option (Unit × x_Hp) :=
  k7 o x1 σ
def F_X9_cut_67 (k7 : Nat → Int32 → x_Hp → Option (Unit × x_Hp)) (o : Nat) (x1 : Int32) (σ : x_Hp) : Option (Unit × x_Hp) :=
  F_X9_cut_291 k7 o (x1 + (1 : Int32)) σ
def F_X9_cut_261 (k7 : Nat → Int32 → x_Hp → Option (Unit × x_Hp)) (o : Nat) (x1 : Int32) (x3 : Int32) (x4 : Int32) (s0 : Int32) (s1 : Nat) (σ : x_Hp) : Option (Unit × x_Hp) :=
  x_b (F_X9_token s1 s0 x1 x4 (0 : Int64) σ) fun _ σ15 =>
  F_X9_cut_291 k7 o (x1 + x3) σ15
def F_X9_cut_244 (k7 : Nat → Int32 → x_Hp → Option (Unit × x_Hp)) (k208 : Nat → Int32 → Int32 → Int32 → x_Hp → Option (Unit × x_Hp)) (o : Nat) (x1 : Int32) (x3 : Int32) (x4 : Int32) (σ : x_Hp) : Option (Unit × x_Hp) :=
  k208 o x1 (x3 + (1 : Int32)) x4 σ
def F_X9_cut_208 (k7 : Nat → Int32 → x_Hp → Option (Unit × x_Hp)) : Nat → Nat → Int32 → Int32 → Int32 → x_Hp → Option (Unit × x_Hp)
  | 0, _, _, _, _, _ => none
  | n + 1, o, x1, x3, x4, σ =>
  x_b (F_X9_byteAt o (x1 + x3) σ) fun v8 σ8 =>
  x_b (F_X9_isDigit v8 σ8) fun v9 σ9 =>
  if v9 = 0 then
    if x3 ≤ (4 : Int32) then
      F_X9_cut_261 k7 o x1 x3 x4 (2 : Int32) o σ9
    else
      F_X9_cut_261 k7 o x1 x3 x4 (3 : Int32) o σ9
  else
    if (4 : Int32) ≤ x3 then
      F_X9_cut_244 k7 (F_X9_cut_208 k7 n) o x1 x3 x4 σ9
    else
      x_b (F_X9_byteAt o (x1 + x3) σ9) fun v10 σ10 =>
      F_X9_cut_244 k7 (F_X9_cut_208 k7 n) o x1 x3 ((((10 : Int32) * x4) + v10) - (48 : Int32)) σ10
def F_X9_cut_179 (k7 : Nat → Int32 → x_Hp → Option (Unit × x_Hp)) (o : Nat) (x1 : Int32) (x3 : Int32) (y4 : Int64) (x6 : Int32) (σ : x_Hp) : Option (Unit × x_Hp) :=
  x_b (F_X9_token o x6 x1 (0 : Int32) y4 σ) fun _ σ16 =>
  F_X9_cut_291 k7 o (x1 + x3) σ16
def F_X9_cut_173 (k7 : Nat → Int32 → x_Hp → Option (Unit × x_Hp)) (k146 : Nat → Int32 → Int32 → Int64 → Int32 → Int32 → x_Hp → Option (Unit × x_Hp)) (o : Nat) (x1 : Int32) (x3 : Int32) (y4 : Int64) (x6 : Int32) (x7 : Int32) (σ : x_Hp) : Option (Unit × x_Hp) :=
  k146 o x1 x3 y4 x6 (x7 + (1 : Int32)) σ
def F_X9_cut_146 (k7 : Nat → Int32 → x_Hp → Option (Unit × x_Hp)) : Nat → Nat → Int32 → Int32 → Int64 → Int32 → Int32 → x_Hp → Option (Unit × x_Hp)
  | 0, _, _, _, _, _, _, _ => none
  | n + 1, o, x1, x3, y4, x6, x7, σ =>
  if (25 : Int32) ≤ x7 then
    F_X9_cut_179 k7 o x1 x3 y4 x6 σ
  else
    x_gd (x_inb x7 (x_ln TM (x_rf TM o 9))) <|
    if (lg_cmp (σ.2 (x_rf TM o 9) (x_ix x7)) y4) = 0 then
      F_X9_cut_173 k7 (F_X9_cut_146 k7 n) o x1 x3 y4 ((20 : Int32) + x7) x7 σ
    else
      F_X9_cut_173 k7 (F_X9_cut_146 k7 n) o x1 x3 y4 x6 x7 σ
def F_X9_cut_135 (k7 : Nat → Int32 → x_Hp → Option (Unit × x_Hp)) (o : Nat) (x1 : Int32) (x3 : Int32) (y4 : Int64) (s0 : Int32) (σ : x_Hp) : Option (Unit × x_Hp) :=
  if (7 : Int32) < x3 then
    F_X9_cut_179 k7 o x1 x3 y4 s0 σ
  else
    F_X9_cut_146 k7 x_fuel o x1 x3 y4 s0 (0 : Int32) σ
def F_X9_cut_118 (k7 : Nat → Int32 → x_Hp → Option (Unit × x_Hp)) (k85 : Nat → Int32 → Int32 → Int64 → x_Hp → Option (Unit × x_Hp)) (o : Nat) (x1 : Int32) (x3 : Int32) (y4 : Int64) (σ : x_Hp) : Option (Unit × x_Hp) :=
  k85 o x1 (x3 + (1 : Int32)) y4 σ
def F_X9_cut_85 (k7 : Nat → Int32 → x_Hp → Option (Unit × x_Hp)) : Nat → Nat → Int32 → Int32 → Int64 → x_Hp → Option (Unit × x_Hp)
  | 0, _, _, _, _, _ => none
  | n + 1, o, x1, x3, y4, σ =>
  x_b (F_X9_byteAt o (x1 + x3) σ) fun v11 σ11 =>
  x_b (F_X9_isLetter v11 σ11) fun v12 σ12 =>
  if v12 = 0 then
    if x3 ≤ (8 : Int32) then
      F_X9_cut_135 k7 o x1 x3 y4 (1 : Int32) σ12
    else
      F_X9_cut_135 k7 o x1 x3 y4 (3 : Int32) σ12
  else
    if (8 : Int32) ≤ x3 then
      F_X9_cut_118 k7 (F_X9_cut_85 k7 n) o x1 x3 y4 σ12
    else
      x_b (F_X9_byteAt o (x1 + x3) σ12) fun v13 σ13 =>
      x_b (F_X9_appends y4 v13 σ13) fun v14 σ14 =>
      F_X9_cut_118 k7 (F_X9_cut_85 k7 n) o x1 x3 v14 σ14
def F_X9_cut_7 : Nat → Nat → Int32 → x_Hp → Option (Unit × x_Hp)
  | 0, _, _, _ => none
  | n + 1, o, x1, σ =>
  if (400 : Int32) < (σ.1 o 10) then
    some ((), σ)
  else
    x_b (F_X9_byteAt o x1 σ) fun v2 σ2 =>
    if x1 < (σ2.1 o 4) then
      if v2 = (9 : Int32) then
        F_X9_cut_67 (F_X9_cut_7 n) o x1 σ2
      else
        if v2 = (10 : Int32) then
          F_X9_cut_67 (F_X9_cut_7 n) o x1 σ2
        else
          if v2 = (13 : Int32) then
            F_X9_cut_67 (F_X9_cut_7 n) o x1 σ2
          else
            if v2 = (32 : Int32) then
              F_X9_cut_67 (F_X9_cut_7 n) o x1 σ2
            else
              x_b (F_X9_isLetter v2 σ2) fun v3 σ3 =>
              if v3 = 0 then
                x_b (F_X9_isDigit v2 σ3) fun v4 σ4 =>
                if v4 = 0 then
                  x_b (F_X9_byteAt o (x1 + (1 : Int32)) σ4) fun v5 σ5 =>
                  x_b (F_X9_sign o x1 v2 v5 σ5) fun v6 σ6 =>
                  F_X9_cut_291 (F_X9_cut_7 n) o (x1 + v6) σ6
                else
                  F_X9_cut_208 (F_X9_cut_7 n) x_fuel o x1 (0 : Int32) (0 : Int32) σ4
              else
                F_X9_cut_85 (F_X9_cut_7 n) x_fuel o x1 (0 : Int32) (0 : Int64) σ3
    else
      x_b (F_X9_token o (0 : Int32) (σ2.1 o 4) (0 : Int32) (0 : Int64) σ2) fun _ σ7 =>
      some ((), σ7)
def F_X9_cut (o : Nat) (σ : x_Hp) : Option (Unit × x_Hp) :=
  x_pt (x_pI σ o 10 (0 : Int32)) fun σ1 =>
  F_X9_cut_7 x_fuel o (0 : Int32) σ1
def F_X9_is (o : Nat) (x1 : Int32) (σ : x_Hp) : Option (Int32 × x_Hp) :=
  if (σ.1 o 13) = 0 then
    x_gd (x_inb (σ.1 o 11) (x_ln TM (x_rf TM o 5))) <|
    if (σ.1 (x_rf TM o 5) (x_ix (σ.1 o 11))) = x1 then
      some ((1 : Int32), σ)
    else
      some ((0 : Int32), σ)
  else
    some ((0 : Int32), σ)
def F_X9_fail (o : Nat) (x1 : Int32) (σ : x_Hp) : Option (Unit × x_Hp) :=
  if (σ.1 o 13) ≤ 0 then
    x_pt (x_pI σ o 13 x1) fun σ1 =>
    x_gd (x_inb (σ1.1 o 11) (x_ln TM (x_rf TM o 6))) <|
    x_pt (x_pI σ1 o 14 (σ1.1 (x_rf TM o 6) (x_ix (σ1.1 o 11)))) fun σ2 =>
    some ((), σ2)
  else
    some ((), σ)
def F_X9_wrong_46 (o : Nat) (x1 : Int32) (x3 : Int32) (σ : x_Hp) : Option (Unit × x_Hp) :=
  x_pt (x_pI σ o 15 x1) fun σ1 =>
  x_pt (x_pI σ1 o 16 x3) fun σ2 =>
  some ((), σ2)
def F_X9_wrong (o : Nat) (x1 : Int32) (x2 : Int32) (σ : x_Hp) : Option (Unit × x_Hp) :=
  x_gd (x_inb x2 (x_ln TM (x_rf TM o 6))) <|
  if 0 < (σ.1 o 13) then
    some ((), σ)
  else
    if (σ.1 o 15) = 0 then
      F_X9_wrong_46 o x1 (σ.1 (x_rf TM o 6) (x_ix x2)) σ
    else
      if (σ.1 o 16) < (σ.1 (x_rf TM o 6) (x_ix x2)) then
        some ((), σ)
      else
        if (σ.1 (x_rf TM o 6) (x_ix x2)) = (σ.1 o 16) then
          if x1 < (σ.1 o 15) then
            F_X9_wrong_46 o x1 (σ.1 (x_rf TM o 6) (x_ix x2)) σ
          else
            some ((), σ)
        else
          F_X9_wrong_46 o x1 (σ.1 (x_rf TM o 6) (x_ix x2)) σ
def F_X9_goesOn (o : Nat) (σ : x_Hp) : Option (Unit × x_Hp) :=
  if (σ.1 o 11) = (400 : Int32) then
    x_b (F_X9_fail o (2 : Int32) σ) fun _ σ2 =>
    some ((), σ2)
  else
    x_pt (x_pI σ o 11 ((σ.1 o 11) + (1 : Int32))) fun σ1 =>
    some ((), σ1)
def F_X9_must (o : Nat) (x1 : Int32) (σ : x_Hp) : Option (Unit × x_Hp) :=
  x_b (F_X9_is o x1 σ) fun v1 σ1 =>
  if v1 = 0 then
    x_b (F_X9_fail o (1 : Int32) σ1) fun _ σ2 =>
    some ((), σ2)
  else
    x_b (F_X9_goesOn o σ1) fun _ σ3 =>
    some ((), σ3)
def F_X9_plain_56 : Nat → Nat → Int32 → Int32 → x_Hp → Option (Unit × x_Hp)
  | 0, _, _, _, _ => none
  | n + 1, o, x1, x2, σ =>
  if (7 : Int32) ≤ x2 then
    some ((), σ)
  else
    x_gd (x_inb (((7 : Int32) * x1) + x2) (x_ln TM (x_rf TM o 32))) <|
    x_pt (x_pI σ (x_rf TM o 32) (x_ix (((7 : Int32) * x1) + x2)) (0 : Int32)) fun σ6 =>
    x_gd (x_inb (((7 : Int32) * x1) + x2) (x_ln TM (x_rf TM o 33))) <|
    x_pt (x_pI σ6 (x_rf TM o 33) (x_ix (((7 : Int32) * x1) + x2)) (0 : Int32)) fun σ7 =>
    (F_X9_plain_56 n) o x1 (x2 + (1 : Int32)) σ7
def F_X9_plain_2 : Nat → Nat → Int32 → Int32 → x_Hp → Option (Unit × x_Hp)
  | 0, _, _, _, _ => none
  | n + 1, o, x1, x2, σ =>
  if (4 : Int32) ≤ x2 then
    x_gd (x_inb x1 (x_ln TM (x_rf TM o 23))) <|
    x_pt (x_pI σ (x_rf TM o 23) (x_ix x1) (0 : Int32)) fun σ1 =>
    x_gd (x_inb x1 (x_ln TM (x_rf TM o 29))) <|
    x_pt (x_pI σ1 (x_rf TM o 29) (x_ix x1) (20 : Int32)) fun σ2 =>
    x_gd (x_inb x1 (x_ln TM (x_rf TM o 30))) <|
    x_pt (x_pI σ2 (x_rf TM o 30) (x_ix x1) (30 : Int32)) fun σ3 =>
    x_gd (x_inb x1 (x_ln TM (x_rf TM o 31))) <|
    x_pt (x_pI σ3 (x_rf TM o 31) (x_ix x1) (0 : Int32)) fun σ4 =>
    F_X9_plain_56 x_fuel o x1 (0 : Int32) σ4
  else
    x_gd (x_inb (((4 : Int32) * x1) + x2) (x_ln TM (x_rf TM o 22))) <|
    x_pt (x_pI σ (x_rf TM o 22) (x_ix (((4 : Int32) * x1) + x2)) (0 : Int32)) fun σ5 =>
    (F_X9_plain_2 n) o x1 (x2 + (1 : Int32)) σ5
def F_X9_plain (o : Nat) (x1 : Int32) (σ : x_Hp) : Option (Unit × x_Hp) :=
  F_X9_plain_2 x_fuel o x1 (0 : Int32) σ
def F_X9_plainly (o : Nat) (σ : x_Hp) : Option (Unit × x_Hp) :=
  x_gd (x_inb (σ.1 o 18) (x_ln TM (x_rf TM o 31))) <|
  x_pt (x_pI σ o 50 (σ.1 (x_rf TM o 31) (x_ix (σ.1 o 18)))) fun σ1 =>
  x_pt (x_pI σ1 o 51 (-1 : Int32)) fun σ2 =>
  x_pt (x_pI σ2 o 52 (0 : Int32)) fun σ3 =>
  some ((), σ3)
def F_X9_begins_118 (o : Nat) (s0 : Int32) (s1 : Int32) (s2 : Nat) (σ : x_Hp) : Option (Unit × x_Hp) :=
  x_gd (x_inb s1 (x_ln TM s2)) <|
  x_pt (x_pI σ s2 (x_ix s1) s0) fun σ6 =>
  x_b (F_X9_plainly o σ6) fun _ σ7 =>
  some ((), σ7)
def F_X9_begins_76 (o : Nat) (s0 : Int32) (s1 : Int32) (s2 : Nat) (σ : x_Hp) : Option (Unit × x_Hp) :=
  x_gd (x_inb s1 (x_ln TM s2)) <|
  x_pt (x_pI σ s2 (x_ix s1) s0) fun σ3 =>
  x_gd (x_inb (10 : Int32) (x_ln TM (x_rf TM o 49))) <|
  x_pt (x_pI σ3 (x_rf TM o 49) (x_ix (10 : Int32)) (-2 : Int32)) fun σ4 =>
  x_gd (x_inb (11 : Int32) (x_ln TM (x_rf TM o 49))) <|
  x_pt (x_pI σ4 (x_rf TM o 49) (x_ix (11 : Int32)) (-2 : Int32)) fun σ5 =>
  x_gd (x_inb (σ5.1 o 18) (x_ln TM (x_rf TM o 23))) <|
  if (σ5.1 (x_rf TM o 23) (x_ix (σ5.1 o 18))) ≤ 0 then
    F_X9_begins_118 o (0 : Int32) (18 : Int32) (x_rf TM o 49) σ5
  else
    F_X9_begins_118 o (1 : Int32) (18 : Int32) (x_rf TM o 49) σ5
def F_X9_begins_23 : Nat → Nat → Int32 → x_Hp → Option (Unit × x_Hp)
  | 0, _, _, _ => none
  | n + 1, o, x1, σ =>
  if (4 : Int32) ≤ x1 then
    x_gd (x_inb (σ.1 o 18) (x_ln TM (x_rf TM o 23))) <|
    if (σ.1 (x_rf TM o 23) (x_ix (σ.1 o 18))) ≤ 0 then
      F_X9_begins_76 o (-2 : Int32) (4 : Int32) (x_rf TM o 49) σ
    else
      F_X9_begins_76 o (0 : Int32) (4 : Int32) (x_rf TM o 49) σ
  else
    x_gd (x_inb (((4 : Int32) * (σ.1 o 18)) + x1) (x_ln TM (x_rf TM o 22))) <|
    x_gd (x_inb x1 (x_ln TM (x_rf TM o 49))) <|
    x_pt (x_pI σ (x_rf TM o 49) (x_ix x1) (σ.1 (x_rf TM o 22) (x_ix (((4 : Int32) * (σ.1 o 18)) + x1)))) fun σ2 =>
    (F_X9_begins_23 n) o (x1 + (1 : Int32)) σ2
def F_X9_begins_2 : Nat → Nat → Int32 → x_Hp → Option (Unit × x_Hp)
  | 0, _, _, _ => none
  | n + 1, o, x1, σ =>
  if (60 : Int32) ≤ x1 then
    F_X9_begins_23 x_fuel o (0 : Int32) σ
  else
    x_gd (x_inb x1 (x_ln TM (x_rf TM o 49))) <|
    x_pt (x_pI σ (x_rf TM o 49) (x_ix x1) (0 : Int32)) fun σ1 =>
    (F_X9_begins_2 n) o (x1 + (1 : Int32)) σ1
def F_X9_begins (o : Nat) (σ : x_Hp) : Option (Unit × x_Hp) :=
  F_X9_begins_2 x_fuel o (0 : Int32) σ
def F_X9_keepsRow_2 : Nat → Nat → Int32 → x_Hp → Option (Unit × x_Hp)
  | 0, _, _, _ => none
  | n + 1, o, x1, σ =>
  if (60 : Int32) ≤ x1 then
    some ((), σ)
  else
    x_gd (x_inb x1 (x_ln TM (x_rf TM o 49))) <|
    x_gd (x_inb x1 (x_ln TM (x_rf TM o 48))) <|
    x_pt (x_pI σ (x_rf TM o 48) (x_ix x1) (σ.1 (x_rf TM o 49) (x_ix x1))) fun σ1 =>
    (F_X9_keepsRow_2 n) o (x1 + (1 : Int32)) σ1
def F_X9_keepsRow (o : Nat) (σ : x_Hp) : Option (Unit × x_Hp) :=
  F_X9_keepsRow_2 x_fuel o (0 : Int32) σ
def F_X9_bounded_15 (o : Nat) (x1 : Int32) (σ : x_Hp) : Option (Int32 × x_Hp) :=
  x_b (F_X9_fail o (1 : Int32) σ) fun _ σ2 =>
  some (x1, σ2)
def F_X9_bounded_51 (o : Nat) (x3 : Int32) (σ : x_Hp) : Option (Int32 × x_Hp) :=
  x_b (F_X9_goesOn o σ) fun _ σ4 =>
  some (x3, σ4)
def F_X9_bounded_42 (o : Nat) (x3 : Int32) (σ : x_Hp) : Option (Int32 × x_Hp) :=
  x_b (F_X9_wrong o (5 : Int32) (σ.1 o 11) σ) fun _ σ3 =>
  F_X9_bounded_51 o x3 σ3
def F_X9_bounded (o : Nat) (x1 : Int32) (x2 : Int32) (σ : x_Hp) : Option (Int32 × x_Hp) :=
  if 0 < (σ.1 o 13) then
    F_X9_bounded_15 o x1 σ
  else
    x_b (F_X9_is o (2 : Int32) σ) fun v1 σ1 =>
    if v1 = 0 then
      F_X9_bounded_15 o x1 σ1
    else
      x_gd (x_inb (σ1.1 o 11) (x_ln TM (x_rf TM o 7))) <|
      if (σ1.1 (x_rf TM o 7) (x_ix (σ1.1 o 11))) < x1 then
        F_X9_bounded_42 o (σ1.1 (x_rf TM o 7) (x_ix (σ1.1 o 11))) σ1
      else
        if (σ1.1 (x_rf TM o 7) (x_ix (σ1.1 o 11))) ≤ x2 then
          F_X9_bounded_51 o (σ1.1 (x_rf TM o 7) (x_ix (σ1.1 o 11))) σ1
        else
          F_X9_bounded_42 o (σ1.1 (x_rf TM o 7) (x_ix (σ1.1 o 11))) σ1
def F_X9_tellAunt_169 (o : Nat) (x2 : Int32) (σ : x_Hp) : Option (Unit × x_Hp) :=
  x_b (F_X9_must o (4 : Int32) σ) fun _ σ15 =>
  if (σ15.1 o 13) ≤ 0 then
    x_gd (x_inb x2 (x_ln TM (x_rf TM o 8))) <|
    x_gd (x_inb (σ15.1 o 20) (x_ln TM (x_rf TM o 21))) <|
    x_pt (x_pL σ15 (x_rf TM o 21) (x_ix (σ15.1 o 20)) (σ15.2 (x_rf TM o 8) (x_ix x2))) fun σ16 =>
    x_pt (x_pI σ16 o 20 ((σ16.1 o 20) + (1 : Int32))) fun σ17 =>
    x_gd (x_inb (σ17.1 o 19) (x_ln TM (x_rf TM o 23))) <|
    x_gd (x_inb (σ17.1 o 19) (x_ln TM (x_rf TM o 23))) <|
    x_pt (x_pI σ17 (x_rf TM o 23) (x_ix (σ17.1 o 19)) ((σ17.1 (x_rf TM o 23) (x_ix (σ17.1 o 19))) + (1 : Int32))) fun σ18 =>
    some ((), σ18)
  else
    some ((), σ15)
def F_X9_tellAunt_155 (o : Nat) (x1 : Int32) (x2 : Int32) (s0 : Int32) (s1 : Int32) (s2 : Nat) (σ : x_Hp) : Option (Unit × x_Hp) :=
  x_gd (x_inb s1 (x_ln TM s2)) <|
  x_pt (x_pI σ s2 (x_ix s1) (vp_nar .boolean s0)) fun σ13 =>
  x_gd (x_inb x1 (x_ln TM (x_rf TM o 28))) <|
  if (σ13.1 (x_rf TM o 28) (x_ix x1)) = 0 then
    F_X9_tellAunt_169 o x2 σ13
  else
    x_b (F_X9_goesOn o σ13) fun _ σ14 =>
    F_X9_tellAunt_169 o x2 σ14
def F_X9_tellAunt_154 (o : Nat) (x1 : Int32) (x2 : Int32) (s0 : Int32) (s1 : Nat) (σ : x_Hp) : Option (Unit × x_Hp) :=
  F_X9_tellAunt_155 o x1 x2 (0 : Int32) s0 s1 σ
def F_X9_tellAunt_77 (o : Nat) (x1 : Int32) (x2 : Int32) (σ : x_Hp) : Option (Unit × x_Hp) :=
  x_b (F_X9_bounded o (0 : Int32) (9 : Int32) σ) fun v4 σ4 =>
  x_gd (x_inb x1 (x_ln TM (x_rf TM o 24))) <|
  x_pt (x_pI σ4 (x_rf TM o 24) (x_ix x1) v4) fun σ5 =>
  x_b (F_X9_bounded o (0 : Int32) (9 : Int32) σ5) fun v6 σ6 =>
  x_gd (x_inb x1 (x_ln TM (x_rf TM o 25))) <|
  x_pt (x_pI σ6 (x_rf TM o 25) (x_ix x1) v6) fun σ7 =>
  x_b (F_X9_bounded o (0 : Int32) (9 : Int32) σ7) fun v8 σ8 =>
  x_gd (x_inb x1 (x_ln TM (x_rf TM o 26))) <|
  x_pt (x_pI σ8 (x_rf TM o 26) (x_ix x1) v8) fun σ9 =>
  x_b (F_X9_bounded o (0 : Int32) (99 : Int32) σ9) fun v10 σ10 =>
  x_gd (x_inb x1 (x_ln TM (x_rf TM o 27))) <|
  x_pt (x_pI σ10 (x_rf TM o 27) (x_ix x1) v10) fun σ11 =>
  if (σ11.1 o 13) = 0 then
    x_b (F_X9_is o (22 : Int32) σ11) fun v12 σ12 =>
    if v12 = 0 then
      F_X9_tellAunt_154 o x1 x2 x1 (x_rf TM o 28) σ12
    else
      F_X9_tellAunt_155 o x1 x2 (1 : Int32) x1 (x_rf TM o 28) σ12
  else
    F_X9_tellAunt_154 o x1 x2 x1 (x_rf TM o 28) σ11
def F_X9_tellAunt_71 (k34 : Nat → Int32 → Int32 → Int32 → x_Hp → Option (Unit × x_Hp)) (o : Nat) (x1 : Int32) (x2 : Int32) (x3 : Int32) (σ : x_Hp) : Option (Unit × x_Hp) :=
  k34 o x1 x2 (x3 + (1 : Int32)) σ
def F_X9_tellAunt_34 : Nat → Nat → Int32 → Int32 → Int32 → x_Hp → Option (Unit × x_Hp)
  | 0, _, _, _, _, _ => none
  | n + 1, o, x1, x2, x3, σ =>
  if (σ.1 o 20) ≤ x3 then
    F_X9_tellAunt_77 o x1 x2 σ
  else
    if (σ.1 o 13) = 0 then
      x_gd (x_inb x3 (x_ln TM (x_rf TM o 21))) <|
      x_gd (x_inb x2 (x_ln TM (x_rf TM o 8))) <|
      if (lg_cmp (σ.2 (x_rf TM o 21) (x_ix x3)) (σ.2 (x_rf TM o 8) (x_ix x2))) = 0 then
        x_b (F_X9_wrong o (3 : Int32) x2 σ) fun _ σ3 =>
        F_X9_tellAunt_71 (F_X9_tellAunt_34 n) o x1 x2 x3 σ3
      else
        F_X9_tellAunt_71 (F_X9_tellAunt_34 n) o x1 x2 x3 σ
    else
      F_X9_tellAunt_77 o x1 x2 σ
def F_X9_tellAunt (o : Nat) (σ : x_Hp) : Option (Unit × x_Hp) :=
  x_b (F_X9_goesOn o σ) fun _ σ1 =>
  x_gd (x_inb (σ1.1 o 19) (x_ln TM (x_rf TM o 23))) <|
  x_b (F_X9_must o (1 : Int32) σ1) fun _ σ2 =>
  F_X9_tellAunt_34 x_fuel o (((6 : Int32) * (σ1.1 o 19)) + (σ1.1 (x_rf TM o 23) (x_ix (σ1.1 o 19)))) (σ1.1 o 11) (0 : Int32) σ2
def F_X9_emit (o : Nat) (x1 : Int32) (x2 : Int32) (σ : x_Hp) : Option (Unit × x_Hp) :=
  x_gd (x_inb (σ.1 o 40) (x_ln TM (x_rf TM o 41))) <|
  x_pt (x_pI σ (x_rf TM o 41) (x_ix (σ.1 o 40)) x1) fun σ1 =>
  x_gd (x_inb (σ1.1 o 40) (x_ln TM (x_rf TM o 42))) <|
  x_pt (x_pI σ1 (x_rf TM o 42) (x_ix (σ1.1 o 40)) x2) fun σ2 =>
  x_pt (x_pI σ2 o 40 ((σ2.1 o 40) + (1 : Int32))) fun σ3 =>
  some ((), σ3)
def F_X9_comesOut_84 (k0 : Nat → Int32 → x_Hp → Option (Unit × x_Hp)) (o : Nat) (x1 : Int32) (s0 : Int32) (s1 : Nat) (σ : x_Hp) : Option (Unit × x_Hp) :=
  x_b (F_X9_emit s1 s0 (0 : Int32) σ) fun _ σ2 =>
  k0 o x1 σ2
def F_X9_comesOut_42 (k0 : Nat → Int32 → x_Hp → Option (Unit × x_Hp)) (o : Nat) (x1 : Int32) (x2 : Int32) (σ : x_Hp) : Option (Unit × x_Hp) :=
  x_pt (x_pI σ o 44 ((σ.1 o 44) - (1 : Int32))) fun σ1 =>
  if x2 = (8 : Int32) then
    F_X9_comesOut_84 k0 o x1 (2 : Int32) o σ1
  else
    if x2 = (9 : Int32) then
      F_X9_comesOut_84 k0 o x1 (3 : Int32) o σ1
    else
      if x2 = (10 : Int32) then
        F_X9_comesOut_84 k0 o x1 (4 : Int32) o σ1
      else
        F_X9_comesOut_84 k0 o x1 (5 : Int32) o σ1
def F_X9_comesOut_0 : Nat → Nat → Int32 → x_Hp → Option (Unit × x_Hp)
  | 0, _, _, _ => none
  | n + 1, o, x1, σ =>
  if (σ.1 o 44) ≤ 0 then
    some ((), σ)
  else
    x_gd (x_inb ((σ.1 o 44) - (1 : Int32)) (x_ln TM (x_rf TM o 43))) <|
    if (σ.1 (x_rf TM o 43) (x_ix ((σ.1 o 44) - (1 : Int32)))) = (6 : Int32) then
      some ((), σ)
    else
      if x1 = 0 then
        F_X9_comesOut_42 (F_X9_comesOut_0 n) o x1 (σ.1 (x_rf TM o 43) (x_ix ((σ.1 o 44) - (1 : Int32)))) σ
      else
        if (σ.1 (x_rf TM o 43) (x_ix ((σ.1 o 44) - (1 : Int32)))) = (8 : Int32) then
          some ((), σ)
        else
          if (σ.1 (x_rf TM o 43) (x_ix ((σ.1 o 44) - (1 : Int32)))) = (9 : Int32) then
            some ((), σ)
          else
            F_X9_comesOut_42 (F_X9_comesOut_0 n) o x1 (σ.1 (x_rf TM o 43) (x_ix ((σ.1 o 44) - (1 : Int32)))) σ
def F_X9_comesOut (o : Nat) (x1 : Int32) (σ : x_Hp) : Option (Unit × x_Hp) :=
  F_X9_comesOut_0 x_fuel o x1 σ
def F_X9_unit_88 (o : Nat) (σ : x_Hp) : Option (Unit × x_Hp) :=
  x_b (F_X9_fail o (1 : Int32) σ) fun _ σ6 =>
  some ((), σ6)
def F_X9_unit (o : Nat) (σ : x_Hp) : Option (Unit × x_Hp) :=
  x_b (F_X9_is o (2 : Int32) σ) fun v1 σ1 =>
  if v1 = 0 then
    if (σ1.1 o 13) = 0 then
      x_gd (x_inb (σ1.1 o 11) (x_ln TM (x_rf TM o 5))) <|
      if (σ1.1 (x_rf TM o 5) (x_ix (σ1.1 o 11))) < (36 : Int32) then
        F_X9_unit_88 o σ1
      else
        x_gd (x_inb (σ1.1 o 11) (x_ln TM (x_rf TM o 5))) <|
        if (44 : Int32) < (σ1.1 (x_rf TM o 5) (x_ix (σ1.1 o 11))) then
          F_X9_unit_88 o σ1
        else
          x_gd (x_inb (σ1.1 o 11) (x_ln TM (x_rf TM o 5))) <|
          x_b (F_X9_emit o (1 : Int32) ((σ1.1 (x_rf TM o 5) (x_ix (σ1.1 o 11))) - (36 : Int32)) σ1) fun _ σ2 =>
          x_b (F_X9_goesOn o σ2) fun _ σ3 =>
          some ((), σ3)
    else
      F_X9_unit_88 o σ1
  else
    x_gd (x_inb (σ1.1 o 11) (x_ln TM (x_rf TM o 7))) <|
    x_b (F_X9_emit o (0 : Int32) (σ1.1 (x_rf TM o 7) (x_ix (σ1.1 o 11))) σ1) fun _ σ4 =>
    x_b (F_X9_goesOn o σ4) fun _ σ5 =>
    some ((), σ5)
def F_X9_expression_234 (k12 : Nat → Int32 → Int32 → x_Hp → Option (Unit × x_Hp)) (o : Nat) (x1 : Int32) (x2 : Int32) (s0 : Int32) (s1 : Nat) (σ : x_Hp) : Option (Unit × x_Hp) :=
  x_b (F_X9_comesOut s1 s0 σ) fun _ σ21 =>
  x_gd (x_inb (σ21.1 o 11) (x_ln TM (x_rf TM o 5))) <|
  x_gd (x_inb (σ21.1 o 44) (x_ln TM (x_rf TM o 43))) <|
  x_pt (x_pI σ21 (x_rf TM o 43) (x_ix (σ21.1 o 44)) (σ21.1 (x_rf TM o 5) (x_ix (σ21.1 o 11)))) fun σ22 =>
  x_pt (x_pI σ22 o 44 ((σ22.1 o 44) + (1 : Int32))) fun σ23 =>
  x_b (F_X9_goesOn o σ23) fun _ σ24 =>
  k12 o x1 x2 σ24
def F_X9_expression_229 (k12 : Nat → Int32 → Int32 → x_Hp → Option (Unit × x_Hp)) (o : Nat) (x1 : Int32) (x2 : Int32) (s0 : Nat) (σ : x_Hp) : Option (Unit × x_Hp) :=
  F_X9_expression_234 k12 o x1 x2 (1 : Int32) s0 σ
def F_X9_expression_204 (o : Nat) (σ : x_Hp) : Option (Unit × x_Hp) :=
  x_b (F_X9_comesOut o (0 : Int32) σ) fun _ σ25 =>
  some ((), σ25)
def F_X9_expression_186 (k12 : Nat → Int32 → Int32 → x_Hp → Option (Unit × x_Hp)) (o : Nat) (x1 : Int32) (s0 : Int32) (σ : x_Hp) : Option (Unit × x_Hp) :=
  if s0 = 0 then
    if (σ.1 o 12) ≤ x1 then
      F_X9_expression_204 o σ
    else
      x_b (F_X9_fail o (1 : Int32) σ) fun _ σ20 =>
      F_X9_expression_204 o σ20
  else
    x_b (F_X9_is o (10 : Int32) σ) fun v18 σ18 =>
    if v18 = 0 then
      x_b (F_X9_is o (15 : Int32) σ18) fun v19 σ19 =>
      if v19 = 0 then
        F_X9_expression_234 k12 o x1 s0 (0 : Int32) o σ19
      else
        F_X9_expression_229 k12 o x1 s0 o σ19
    else
      F_X9_expression_229 k12 o x1 s0 o σ18
def F_X9_expression_181 (k12 : Nat → Int32 → Int32 → x_Hp → Option (Unit × x_Hp)) (o : Nat) (x1 : Int32) (σ : x_Hp) : Option (Unit × x_Hp) :=
  F_X9_expression_186 k12 o x1 (1 : Int32) σ
def F_X9_expression_145 (k12 : Nat → Int32 → Int32 → x_Hp → Option (Unit × x_Hp)) (o : Nat) (x1 : Int32) (σ : x_Hp) : Option (Unit × x_Hp) :=
  x_b (F_X9_is o (8 : Int32) σ) fun v14 σ14 =>
  if v14 = 0 then
    x_b (F_X9_is o (9 : Int32) σ14) fun v15 σ15 =>
    if v15 = 0 then
      x_b (F_X9_is o (10 : Int32) σ15) fun v16 σ16 =>
      if v16 = 0 then
        x_b (F_X9_is o (15 : Int32) σ16) fun v17 σ17 =>
        if v17 = 0 then
          F_X9_expression_186 k12 o x1 (0 : Int32) σ17
        else
          F_X9_expression_181 k12 o x1 σ17
      else
        F_X9_expression_181 k12 o x1 σ16
    else
      F_X9_expression_181 k12 o x1 σ15
  else
    F_X9_expression_181 k12 o x1 σ14
def F_X9_expression_96 (k12 : Nat → Int32 → Int32 → x_Hp → Option (Unit × x_Hp)) : Nat → Nat → Int32 → x_Hp → Option (Unit × x_Hp)
  | 0, _, _, _ => none
  | n + 1, o, x1, σ =>
  x_b (F_X9_is o (7 : Int32) σ) fun v5 σ5 =>
  if v5 = 0 then
    F_X9_expression_145 k12 o x1 σ5
  else
    if (σ5.1 o 12) ≤ x1 then
      F_X9_expression_145 k12 o x1 σ5
    else
      x_b (F_X9_comesOut o (0 : Int32) σ5) fun _ σ6 =>
      x_pt (x_pI σ6 o 44 ((σ6.1 o 44) - (1 : Int32))) fun σ7 =>
      x_pt (x_pI σ7 o 12 ((σ7.1 o 12) - (1 : Int32))) fun σ8 =>
      x_b (F_X9_goesOn o σ8) fun _ σ9 =>
      (F_X9_expression_96 k12 n) o x1 σ9
def F_X9_expression_46 (k12 : Nat → Int32 → Int32 → x_Hp → Option (Unit × x_Hp)) (k23 : Nat → Int32 → x_Hp → Option (Unit × x_Hp)) (o : Nat) (x1 : Int32) (σ : x_Hp) : Option (Unit × x_Hp) :=
  x_pt (x_pI σ o 12 ((σ.1 o 12) + (1 : Int32))) fun σ10 =>
  x_b (F_X9_goesOn o σ10) fun _ σ11 =>
  x_gd (x_inb (σ11.1 o 44) (x_ln TM (x_rf TM o 43))) <|
  x_pt (x_pI σ11 (x_rf TM o 43) (x_ix (σ11.1 o 44)) (6 : Int32)) fun σ12 =>
  x_pt (x_pI σ12 o 44 ((σ12.1 o 44) + (1 : Int32))) fun σ13 =>
  k23 o x1 σ13
def F_X9_expression_23 (k12 : Nat → Int32 → Int32 → x_Hp → Option (Unit × x_Hp)) : Nat → Nat → Int32 → x_Hp → Option (Unit × x_Hp)
  | 0, _, _, _ => none
  | n + 1, o, x1, σ =>
  x_b (F_X9_is o (6 : Int32) σ) fun v2 σ2 =>
  if v2 = 0 then
    x_b (F_X9_unit o σ2) fun _ σ3 =>
    if (σ3.1 o 13) ≤ 0 then
      F_X9_expression_96 k12 x_fuel o x1 σ3
    else
      some ((), σ3)
  else
    if (σ2.1 o 12) = (6 : Int32) then
      x_b (F_X9_fail o (2 : Int32) σ2) fun _ σ4 =>
      F_X9_expression_46 k12 (F_X9_expression_23 k12 n) o x1 σ4
    else
      F_X9_expression_46 k12 (F_X9_expression_23 k12 n) o x1 σ2
def F_X9_expression_12 : Nat → Nat → Int32 → Int32 → x_Hp → Option (Unit × x_Hp)
  | 0, _, _, _, _ => none
  | n + 1, o, x1, x2, σ =>
  if x2 = 0 then
    some ((), σ)
  else
    if (σ.1 o 13) = 0 then
      F_X9_expression_23 (F_X9_expression_12 n) x_fuel o x1 σ
    else
      some ((), σ)
def F_X9_expression (o : Nat) (σ : x_Hp) : Option (Unit × x_Hp) :=
  x_pt (x_pI σ o 44 (0 : Int32)) fun σ1 =>
  F_X9_expression_12 x_fuel o (σ1.1 o 12) (1 : Int32) σ1
def F_X9_term_24 (o : Nat) (σ : x_Hp) : Option (Unit × x_Hp) :=
  x_gd (x_inb (σ.1 o 34) (x_ln TM (x_rf TM o 39))) <|
  x_pt (x_pI σ (x_rf TM o 39) (x_ix (σ.1 o 34)) (σ.1 o 40)) fun σ3 =>
  x_pt (x_pI σ3 o 34 ((σ3.1 o 34) + (1 : Int32))) fun σ4 =>
  some ((), σ4)
def F_X9_term (o : Nat) (σ : x_Hp) : Option (Unit × x_Hp) :=
  x_gd (x_inb (σ.1 o 34) (x_ln TM (x_rf TM o 38))) <|
  x_pt (x_pI σ (x_rf TM o 38) (x_ix (σ.1 o 34)) (σ.1 o 40)) fun σ1 =>
  if (σ1.1 o 13) = 0 then
    x_b (F_X9_expression o σ1) fun _ σ2 =>
    F_X9_term_24 o σ2
  else
    F_X9_term_24 o σ1
def F_X9_tellLaw_129 (o : Nat) (x1 : Int32) (x2 : Int32) (σ : x_Hp) : Option (Unit × x_Hp) :=
  x_gd (x_inb (σ.1 o 34) (x_ln TM (x_rf TM o 35))) <|
  x_pt (x_pI σ (x_rf TM o 35) (x_ix (σ.1 o 34)) (vp_nar .boolean (0 : Int32))) fun σ4 =>
  x_b (F_X9_term o σ4) fun _ σ5 =>
  x_b (F_X9_must o (4 : Int32) σ5) fun _ σ6 =>
  if (σ6.1 o 13) ≤ 0 then
    x_gd (x_inb (((7 : Int32) * (σ6.1 o 19)) + x1) (x_ln TM (x_rf TM o 32))) <|
    x_pt (x_pI σ6 (x_rf TM o 32) (x_ix (((7 : Int32) * (σ6.1 o 19)) + x1)) x2) fun σ7 =>
    x_gd (x_inb (((7 : Int32) * (σ7.1 o 19)) + x1) (x_ln TM (x_rf TM o 33))) <|
    x_pt (x_pI σ7 (x_rf TM o 33) (x_ix (((7 : Int32) * (σ7.1 o 19)) + x1)) (σ7.1 o 34)) fun σ8 =>
    some ((), σ8)
  else
    some ((), σ6)
def F_X9_tellLaw_110 (k12 : Nat → Int32 → Int32 → Int32 → x_Hp → Option (Unit × x_Hp)) (o : Nat) (x1 : Int32) (x2 : Int32) (x3 : Int32) (σ : x_Hp) : Option (Unit × x_Hp) :=
  x_b (F_X9_must o (34 : Int32) σ) fun _ σ16 =>
  x_b (F_X9_term o σ16) fun _ σ17 =>
  x_b (F_X9_must o (35 : Int32) σ17) fun _ σ18 =>
  k12 o x1 x2 x3 σ18
def F_X9_tellLaw_38 (k12 : Nat → Int32 → Int32 → Int32 → x_Hp → Option (Unit × x_Hp)) (o : Nat) (x1 : Int32) (x2 : Int32) (x3 : Int32) (σ : x_Hp) : Option (Unit × x_Hp) :=
  if (σ.1 o 13) ≤ 0 then
    x_b (F_X9_goesOn o σ) fun _ σ9 =>
    x_gd (x_inb (σ9.1 o 34) (x_ln TM (x_rf TM o 35))) <|
    x_pt (x_pI σ9 (x_rf TM o 35) (x_ix (σ9.1 o 34)) (vp_nar .boolean (1 : Int32))) fun σ10 =>
    x_gd (x_inb (σ10.1 o 34) (x_ln TM (x_rf TM o 36))) <|
    x_pt (x_pI σ10 (x_rf TM o 36) (x_ix (σ10.1 o 34)) (σ10.1 o 40)) fun σ11 =>
    x_b (F_X9_expression o σ11) fun _ σ12 =>
    x_b (F_X9_must o (13 : Int32) σ12) fun _ σ13 =>
    x_gd (x_inb (σ13.1 o 34) (x_ln TM (x_rf TM o 37))) <|
    x_pt (x_pI σ13 (x_rf TM o 37) (x_ix (σ13.1 o 34)) (σ13.1 o 40)) fun σ14 =>
    if (σ14.1 o 13) = 0 then
      x_b (F_X9_expression o σ14) fun _ σ15 =>
      F_X9_tellLaw_110 k12 o x1 x2 (x3 + (1 : Int32)) σ15
    else
      F_X9_tellLaw_110 k12 o x1 x2 (x3 + (1 : Int32)) σ14
  else
    some ((), σ)
def F_X9_tellLaw_12 : Nat → Nat → Int32 → Int32 → Int32 → x_Hp → Option (Unit × x_Hp)
  | 0, _, _, _, _, _ => none
  | n + 1, o, x1, x2, x3, σ =>
  if (σ.1 o 13) = 0 then
    x_b (F_X9_is o (33 : Int32) σ) fun v2 σ2 =>
    if v2 = 0 then
      F_X9_tellLaw_129 o x1 x2 σ2
    else
      if x3 = (4 : Int32) then
        x_b (F_X9_fail o (2 : Int32) σ2) fun _ σ3 =>
        F_X9_tellLaw_38 (F_X9_tellLaw_12 n) o x1 x2 x3 σ3
      else
        F_X9_tellLaw_38 (F_X9_tellLaw_12 n) o x1 x2 x3 σ2
  else
    F_X9_tellLaw_129 o x1 x2 σ
def F_X9_tellLaw (o : Nat) (x1 : Int32) (σ : x_Hp) : Option (Unit × x_Hp) :=
  x_b (F_X9_must o (5 : Int32) σ) fun _ σ1 =>
  F_X9_tellLaw_12 x_fuel o x1 (σ1.1 o 34) (0 : Int32) σ1
def F_X9_tellOne_82 : Nat → Nat → Int32 → x_Hp → Option (Unit × x_Hp)
  | 0, _, _, _ => none
  | n + 1, o, x1, σ =>
  if (4 : Int32) ≤ x1 then
    x_b (F_X9_must o (4 : Int32) σ) fun _ σ15 =>
    some ((), σ15)
  else
    x_b (F_X9_bounded o (0 : Int32) (99 : Int32) σ) fun v16 σ16 =>
    x_gd (x_inb (((4 : Int32) * (σ.1 o 19)) + x1) (x_ln TM (x_rf TM o 22))) <|
    x_pt (x_pI σ16 (x_rf TM o 22) (x_ix (((4 : Int32) * (σ.1 o 19)) + x1)) v16) fun σ17 =>
    (F_X9_tellOne_82 n) o (x1 + (1 : Int32)) σ17
def F_X9_tellOne_140 (o : Nat) (σ : x_Hp) : Option (Unit × x_Hp) :=
  if (σ.1 o 13) = 0 then
    x_b (F_X9_tellAunt o σ) fun _ σ18 =>
    some ((), σ18)
  else
    some ((), σ)
def F_X9_tellOne_275 (o : Nat) (x1 : Int32) (σ : x_Hp) : Option (Unit × x_Hp) :=
  if (σ.1 o 13) ≤ 0 then
    x_b (F_X9_goesOn o σ) fun _ σ20 =>
    x_b (F_X9_tellLaw o x1 σ20) fun _ σ21 =>
    some ((), σ21)
  else
    some ((), σ)
def F_X9_tellOne_270 (o : Nat) (x1 : Int32) (σ : x_Hp) : Option (Unit × x_Hp) :=
  x_b (F_X9_fail o (1 : Int32) σ) fun _ σ19 =>
  F_X9_tellOne_275 o x1 σ19
def F_X9_tellOne_239 (o : Nat) (σ : x_Hp) : Option (Unit × x_Hp) :=
  x_gd (x_inb (σ.1 o 11) (x_ln TM (x_rf TM o 5))) <|
  if ((σ.1 (x_rf TM o 5) (x_ix (σ.1 o 11))) - (23 : Int32)) < 0 then
    F_X9_tellOne_270 o ((σ.1 (x_rf TM o 5) (x_ix (σ.1 o 11))) - (23 : Int32)) σ
  else
    x_gd (x_inb (σ.1 o 11) (x_ln TM (x_rf TM o 5))) <|
    if (σ.1 (x_rf TM o 5) (x_ix (σ.1 o 11))) ≤ (29 : Int32) then
      F_X9_tellOne_275 o ((σ.1 (x_rf TM o 5) (x_ix (σ.1 o 11))) - (23 : Int32)) σ
    else
      F_X9_tellOne_270 o ((σ.1 (x_rf TM o 5) (x_ix (σ.1 o 11))) - (23 : Int32)) σ
def F_X9_tellOne (o : Nat) (σ : x_Hp) : Option (Unit × x_Hp) :=
  x_gd (x_inb (σ.1 o 11) (x_ln TM (x_rf TM o 5))) <|
  if (σ.1 (x_rf TM o 5) (x_ix (σ.1 o 11))) = (20 : Int32) then
    x_b (F_X9_goesOn o σ) fun _ σ1 =>
    F_X9_tellOne_82 x_fuel o (0 : Int32) σ1
  else
  if (σ.1 (x_rf TM o 5) (x_ix (σ.1 o 11))) = (21 : Int32) then
    x_gd (x_inb (σ.1 o 19) (x_ln TM (x_rf TM o 23))) <|
    if (σ.1 (x_rf TM o 23) (x_ix (σ.1 o 19))) = (6 : Int32) then
      x_b (F_X9_fail o (2 : Int32) σ) fun _ σ2 =>
      F_X9_tellOne_140 o σ2
    else
      F_X9_tellOne_140 o σ
  else
  if (σ.1 (x_rf TM o 5) (x_ix (σ.1 o 11))) = (22 : Int32) then
    F_X9_tellOne_239 o σ
  else
  if (σ.1 (x_rf TM o 5) (x_ix (σ.1 o 11))) = (23 : Int32) then
    F_X9_tellOne_239 o σ
  else
  if (σ.1 (x_rf TM o 5) (x_ix (σ.1 o 11))) = (24 : Int32) then
    F_X9_tellOne_239 o σ
  else
  if (σ.1 (x_rf TM o 5) (x_ix (σ.1 o 11))) = (25 : Int32) then
    F_X9_tellOne_239 o σ
  else
  if (σ.1 (x_rf TM o 5) (x_ix (σ.1 o 11))) = (26 : Int32) then
    F_X9_tellOne_239 o σ
  else
  if (σ.1 (x_rf TM o 5) (x_ix (σ.1 o 11))) = (27 : Int32) then
    F_X9_tellOne_239 o σ
  else
  if (σ.1 (x_rf TM o 5) (x_ix (σ.1 o 11))) = (28 : Int32) then
    F_X9_tellOne_239 o σ
  else
  if (σ.1 (x_rf TM o 5) (x_ix (σ.1 o 11))) = (29 : Int32) then
    F_X9_tellOne_239 o σ
  else
  if (σ.1 (x_rf TM o 5) (x_ix (σ.1 o 11))) = (30 : Int32) then
    x_b (F_X9_goesOn o σ) fun _ σ3 =>
    x_b (F_X9_bounded o (0 : Int32) (99 : Int32) σ3) fun v4 σ4 =>
    x_gd (x_inb (σ3.1 o 19) (x_ln TM (x_rf TM o 29))) <|
    x_pt (x_pI σ4 (x_rf TM o 29) (x_ix (σ3.1 o 19)) v4) fun σ5 =>
    x_b (F_X9_must o (4 : Int32) σ5) fun _ σ6 =>
    some ((), σ6)
  else
  if (σ.1 (x_rf TM o 5) (x_ix (σ.1 o 11))) = (31 : Int32) then
    x_b (F_X9_goesOn o σ) fun _ σ7 =>
    x_b (F_X9_bounded o (0 : Int32) (99 : Int32) σ7) fun v8 σ8 =>
    x_gd (x_inb (σ7.1 o 19) (x_ln TM (x_rf TM o 30))) <|
    x_pt (x_pI σ8 (x_rf TM o 30) (x_ix (σ7.1 o 19)) v8) fun σ9 =>
    x_b (F_X9_must o (4 : Int32) σ9) fun _ σ10 =>
    some ((), σ10)
  else
  if (σ.1 (x_rf TM o 5) (x_ix (σ.1 o 11))) = (32 : Int32) then
    x_b (F_X9_goesOn o σ) fun _ σ11 =>
    x_b (F_X9_bounded o (0 : Int32) (9999 : Int32) σ11) fun v12 σ12 =>
    x_gd (x_inb (σ11.1 o 19) (x_ln TM (x_rf TM o 31))) <|
    x_pt (x_pI σ12 (x_rf TM o 31) (x_ix (σ11.1 o 19)) v12) fun σ13 =>
    x_b (F_X9_must o (4 : Int32) σ13) fun _ σ14 =>
    some ((), σ14)
  else
  F_X9_tellOne_239 o σ
def F_X9_read_219 : Nat → Nat → Int32 → x_Hp → Option (Int32 × x_Hp)
  | 0, _, _, _ => none
  | n + 1, o, x1, σ =>
  if (3 : Int32) ≤ x1 then
    some ((0 : Int32), σ)
  else
    x_gd (x_inb x1 (x_ln TM (x_rf TM o 71))) <|
    x_pt (x_pI σ (x_rf TM o 71) (x_ix x1) (vp_nar .boolean (0 : Int32))) fun σ22 =>
    (F_X9_read_219 n) o (x1 + (1 : Int32)) σ22
def F_X9_read_164 (o : Nat) (s0 : Int32) (s1 : Nat) (σ : x_Hp) : Option (Int32 × x_Hp) :=
  x_pt (x_pI σ s1 17 s0) fun σ16 =>
  if (σ16.1 o 13) ≤ 0 then
    if (σ16.1 o 15) ≤ 0 then
      x_pt (x_pI σ16 o 18 (σ16.1 o 19)) fun σ17 =>
      x_b (F_X9_begins o σ17) fun _ σ18 =>
      x_b (F_X9_keepsRow o σ18) fun _ σ19 =>
      x_pt (x_pI σ19 o 54 (0 : Int32)) fun σ20 =>
      x_pt (x_pI σ20 o 68 (0 : Int32)) fun σ21 =>
      F_X9_read_219 x_fuel o (0 : Int32) σ21
    else
      some (σ16.1 o 15, σ16)
  else
    some (σ16.1 o 13, σ16)
def F_X9_read_134 (o : Nat) (σ : x_Hp) : Option (Int32 × x_Hp) :=
  if (σ.1 o 13) ≤ 0 then
    if (σ.1 o 15) ≤ 0 then
      F_X9_read_164 o (-1 : Int32) o σ
    else
      F_X9_read_164 o (σ.1 o 16) o σ
  else
    F_X9_read_164 o (σ.1 o 14) o σ
def F_X9_read_112 : Nat → Nat → x_Hp → Option (Int32 × x_Hp)
  | 0, _, _ => none
  | n + 1, o, σ =>
  if (σ.1 o 13) = 0 then
    x_b (F_X9_is o (0 : Int32) σ) fun v14 σ14 =>
    if v14 = 0 then
      x_b (F_X9_tellOne o σ14) fun _ σ15 =>
      (F_X9_read_112 n) o σ15
    else
      F_X9_read_134 o σ14
  else
    F_X9_read_134 o σ
def F_X9_read_10 : Nat → Nat → Int32 → x_Hp → Option (Int32 × x_Hp)
  | 0, _, _, _ => none
  | n + 1, o, x1, σ =>
  if (σ.1 o 4) ≤ x1 then
    x_pt (x_pI σ o 2 (0 : Int32)) fun σ2 =>
    x_b (F_X9_cut o σ2) fun _ σ3 =>
    x_pt (x_pI σ3 o 11 (0 : Int32)) fun σ4 =>
    x_pt (x_pI σ4 o 12 (0 : Int32)) fun σ5 =>
    x_pt (x_pI σ5 o 13 (0 : Int32)) fun σ6 =>
    x_pt (x_pI σ6 o 15 (0 : Int32)) fun σ7 =>
    x_pt (x_pI σ7 o 19 ((1 : Int32) - (σ7.1 o 18))) fun σ8 =>
    x_pt (x_pI σ8 o 20 (0 : Int32)) fun σ9 =>
    x_b (F_X9_plain o (σ9.1 o 19) σ9) fun _ σ10 =>
    x_pt (x_pI σ10 o 34 ((130 : Int32) * (σ10.1 o 19))) fun σ11 =>
    x_pt (x_pI σ11 o 40 ((420 : Int32) * (σ11.1 o 19))) fun σ12 =>
    F_X9_read_112 x_fuel o σ12
  else
    x_gd (x_inb x1 (x_ln TM (x_rf TM o 1))) <|
    x_gd (x_inb x1 (x_ln TM (x_rf TM o 3))) <|
    x_pt (x_pI σ (x_rf TM o 3) (x_ix x1) (vp_nar .byte (σ.1 (x_rf TM o 1) (x_ix x1)))) fun σ13 =>
    (F_X9_read_10 n) o (x1 + (1 : Int32)) σ13
def F_X9_read (o : Nat) (σ : x_Hp) : Option (Int32 × x_Hp) :=
  x_pt (x_pI σ o 4 (σ.1 o 2)) fun σ1 =>
  F_X9_read_10 x_fuel o (0 : Int32) σ1
def F_X9_place (o : Nat) (σ : x_Hp) : Option (Int32 × x_Hp) :=
  some (σ.1 o 17, σ)
def F_X9_termOf_159 (k5 : Nat → Int32 → Int32 → Int32 → x_Hp → Option (Int32 × x_Hp)) (o : Nat) (x2 : Int32) (x3 : Int32) (x4 : Int32) (σ : x_Hp) : Option (Int32 × x_Hp) :=
  k5 o x2 x3 (x4 + (1 : Int32)) σ
def F_X9_termOf_158 (k5 : Nat → Int32 → Int32 → Int32 → x_Hp → Option (Int32 × x_Hp)) (o : Nat) (x2 : Int32) (x3 : Int32) (x4 : Int32) (s0 : Int32) (s1 : Int32) (s2 : Nat) (σ : x_Hp) : Option (Int32 × x_Hp) :=
  x_gd (x_inb s1 (x_ln TM s2)) <|
  x_pt (x_pI σ s2 (x_ix s1) s0) fun σ3 =>
  F_X9_termOf_159 k5 o x2 x3 x4 σ3
def F_X9_termOf_104 (k5 : Nat → Int32 → Int32 → Int32 → x_Hp → Option (Int32 × x_Hp)) (o : Nat) (x2 : Int32) (x3 : Int32) (x4 : Int32) (x5 : Int32) (x6 : Int32) (x7 : Int32) (σ : x_Hp) : Option (Int32 × x_Hp) :=
  if x5 = (2 : Int32) then
    F_X9_termOf_158 k5 o x2 x3 x4 (x6 + x7) (x3 - (1 : Int32)) (x_rf TM o 46) σ
  else
    if x5 = (3 : Int32) then
      F_X9_termOf_158 k5 o x2 x3 x4 (x6 - x7) (x3 - (1 : Int32)) (x_rf TM o 46) σ
    else
      if x5 = (4 : Int32) then
        F_X9_termOf_158 k5 o x2 x3 x4 (x6 * x7) (x3 - (1 : Int32)) (x_rf TM o 46) σ
      else
        x_gd (!decide (x7 = 0)) <|
        F_X9_termOf_158 k5 o x2 x3 x4 (x6 / x7) (x3 - (1 : Int32)) (x_rf TM o 46) σ
def F_X9_termOf_58 (k5 : Nat → Int32 → Int32 → Int32 → x_Hp → Option (Int32 × x_Hp)) (o : Nat) (x2 : Int32) (x3 : Int32) (x4 : Int32) (s0 : Int32) (s1 : Int32) (s2 : Nat) (σ : x_Hp) : Option (Int32 × x_Hp) :=
  x_gd (x_inb s1 (x_ln TM s2)) <|
  x_pt (x_pI σ s2 (x_ix s1) s0) fun σ2 =>
  F_X9_termOf_159 k5 o x2 (x3 + (1 : Int32)) x4 σ2
def F_X9_termOf_5 : Nat → Nat → Int32 → Int32 → Int32 → x_Hp → Option (Int32 × x_Hp)
  | 0, _, _, _, _, _ => none
  | n + 1, o, x2, x3, x4, σ =>
  if x2 ≤ x4 then
    x_gd (x_inb (0 : Int32) (x_ln TM (x_rf TM o 46))) <|
    some (σ.1 (x_rf TM o 46) (x_ix (0 : Int32)), σ)
  else
    x_gd (x_inb x4 (x_ln TM (x_rf TM o 41))) <|
    if (2 : Int32) ≤ (σ.1 (x_rf TM o 41) (x_ix x4)) then
      x_gd (x_inb ((x3 + (-1 : Int32)) - (1 : Int32)) (x_ln TM (x_rf TM o 46))) <|
      x_gd (x_inb (x3 + (-1 : Int32)) (x_ln TM (x_rf TM o 46))) <|
      if (σ.1 (x_rf TM o 41) (x_ix x4)) = (5 : Int32) then
        if (σ.1 (x_rf TM o 46) (x_ix (x3 + (-1 : Int32)))) = 0 then
          x_pt (x_pI σ o 47 (1 : Int32)) fun σ1 =>
          some ((0 : Int32), σ1)
        else
          F_X9_termOf_104 (F_X9_termOf_5 n) o x2 (x3 + (-1 : Int32)) x4 (σ.1 (x_rf TM o 41) (x_ix x4)) (σ.1 (x_rf TM o 46) (x_ix ((x3 + (-1 : Int32)) - (1 : Int32)))) (σ.1 (x_rf TM o 46) (x_ix (x3 + (-1 : Int32)))) σ
      else
        F_X9_termOf_104 (F_X9_termOf_5 n) o x2 (x3 + (-1 : Int32)) x4 (σ.1 (x_rf TM o 41) (x_ix x4)) (σ.1 (x_rf TM o 46) (x_ix ((x3 + (-1 : Int32)) - (1 : Int32)))) (σ.1 (x_rf TM o 46) (x_ix (x3 + (-1 : Int32)))) σ
    else
      if (σ.1 (x_rf TM o 41) (x_ix x4)) = 0 then
        x_gd (x_inb x4 (x_ln TM (x_rf TM o 42))) <|
        F_X9_termOf_58 (F_X9_termOf_5 n) o x2 x3 x4 (σ.1 (x_rf TM o 42) (x_ix x4)) x3 (x_rf TM o 46) σ
      else
        x_gd (x_inb x4 (x_ln TM (x_rf TM o 42))) <|
        x_gd (x_inb (σ.1 (x_rf TM o 42) (x_ix x4)) (x_ln TM (x_rf TM o 45))) <|
        F_X9_termOf_58 (F_X9_termOf_5 n) o x2 x3 x4 (σ.1 (x_rf TM o 45) (x_ix (σ.1 (x_rf TM o 42) (x_ix x4)))) x3 (x_rf TM o 46) σ
def F_X9_termOf (o : Nat) (x1 : Int32) (x2 : Int32) (σ : x_Hp) : Option (Int32 × x_Hp) :=
  F_X9_termOf_5 x_fuel o x2 (0 : Int32) x1 σ
def F_X9_in (x0 : Int32) (x1 : Int32) (x2 : Int32) (σ : x_Hp) : Option (Int32 × x_Hp) :=
  if x0 < x1 then
    some ((0 : Int32), σ)
  else
    if x2 < x0 then
      some ((0 : Int32), σ)
    else
      some ((1 : Int32), σ)
def F_X9_copies_2 : Nat → Nat → Int32 → x_Hp → Option (Unit × x_Hp)
  | 0, _, _, _ => none
  | n + 1, o, x1, σ =>
  if (60 : Int32) ≤ x1 then
    x_b (F_X9_plainly o σ) fun _ σ1 =>
    some ((), σ1)
  else
    x_gd (x_inb x1 (x_ln TM (x_rf TM o 48))) <|
    x_gd (x_inb x1 (x_ln TM (x_rf TM o 49))) <|
    x_pt (x_pI σ (x_rf TM o 49) (x_ix x1) (σ.1 (x_rf TM o 48) (x_ix x1))) fun σ2 =>
    (F_X9_copies_2 n) o (x1 + (1 : Int32)) σ2
def F_X9_copies (o : Nat) (σ : x_Hp) : Option (Unit × x_Hp) :=
  F_X9_copies_2 x_fuel o (0 : Int32) σ
def F_X9_mixed (x0 : Int32) (x1 : Int32) (σ : x_Hp) : Option (Int32 × x_Hp) :=
  some ((((x0 ^^^ x1) * (1103515245 : Int32)) + (12345 : Int32)) ^^^ (((((x0 ^^^ x1) * (1103515245 : Int32)) + (12345 : Int32)).toUInt32 >>> ((15 : Int32).toUInt32 &&& Int32.toUInt32 31)).toInt32), σ)
def F_X9_lotNow (o : Nat) (σ : x_Hp) : Option (Int32 × x_Hp) :=
  x_b (F_X9_mixed (σ.1 o 50) (37 : Int32) σ) fun v1 σ1 =>
  x_gd (x_inb (12 : Int32) (x_ln TM (x_rf TM o 49))) <|
  x_b (F_X9_mixed v1 (σ1.1 (x_rf TM o 49) (x_ix (12 : Int32))) σ1) fun v2 σ2 =>
  some (((v2.toUInt32 >>> ((1 : Int32).toUInt32 &&& Int32.toUInt32 31)).toInt32) - ((v2.toUInt32 >>> ((1 : Int32).toUInt32 &&& Int32.toUInt32 31)).toInt32) / (100 : Int32) * (100 : Int32), σ2)
def F_X9_held (x0 : Int32) (x1 : Int32) (x2 : Int32) (σ : x_Hp) : Option (Int32 × x_Hp) :=
  if x1 ≤ x0 then
    if x0 ≤ x2 then
      some (x0, σ)
    else
      some (x2, σ)
  else
    some (x1, σ)
def F_X9_tells_257 (o : Nat) (x3 : Int32) (x4 : Int32) (x7 : Int32) (σ : x_Hp) : Option (Int32 × x_Hp) :=
  x_gd (x_inb x7 (x_ln TM (x_rf TM o 38))) <|
  x_gd (x_inb x7 (x_ln TM (x_rf TM o 39))) <|
  x_b (F_X9_termOf o (σ.1 (x_rf TM o 38) (x_ix x7)) (σ.1 (x_rf TM o 39) (x_ix x7)) σ) fun v10 σ10 =>
  if (σ10.1 o 47) = 0 then
    x_b (F_X9_held v10 x3 x4 σ10) fun v11 σ11 =>
    some (v11, σ11)
  else
    some ((0 : Int32), σ10)
def F_X9_tells_176 : Nat → Nat → Int32 → Int32 → Int32 → Int32 → x_Hp → Option (Int32 × x_Hp)
  | 0, _, _, _, _, _, _ => none
  | n + 1, o, x3, x4, x5, x7, σ =>
  x_gd (x_inb x5 (x_ln TM (x_rf TM o 33))) <|
  if (σ.1 (x_rf TM o 33) (x_ix x5)) ≤ x7 then
    some ((0 : Int32), σ)
  else
    x_gd (x_inb x7 (x_ln TM (x_rf TM o 35))) <|
    if (σ.1 (x_rf TM o 35) (x_ix x7)) = 0 then
      F_X9_tells_257 o x3 x4 x7 σ
    else
      x_gd (x_inb x7 (x_ln TM (x_rf TM o 36))) <|
      x_gd (x_inb x7 (x_ln TM (x_rf TM o 37))) <|
      x_b (F_X9_termOf o (σ.1 (x_rf TM o 36) (x_ix x7)) (σ.1 (x_rf TM o 37) (x_ix x7)) σ) fun v8 σ8 =>
      x_gd (x_inb x7 (x_ln TM (x_rf TM o 37))) <|
      x_gd (x_inb x7 (x_ln TM (x_rf TM o 38))) <|
      x_b (F_X9_termOf o (σ8.1 (x_rf TM o 37) (x_ix x7)) (σ8.1 (x_rf TM o 38) (x_ix x7)) σ8) fun v9 σ9 =>
      if (σ9.1 o 47) = 0 then
        if v8 < v9 then
          F_X9_tells_257 o x3 x4 x7 σ9
        else
          (F_X9_tells_176 n) o x3 x4 x5 (x7 + (1 : Int32)) σ9
      else
        some ((0 : Int32), σ9)
def F_X9_tells_119 (o : Nat) (x3 : Int32) (x4 : Int32) (x5 : Int32) (x6 : Int32) (s0 : Int32) (s1 : Int32) (s2 : Nat) (σ : x_Hp) : Option (Int32 × x_Hp) :=
  x_gd (x_inb s1 (x_ln TM s2)) <|
  x_pt (x_pI σ s2 (x_ix s1) s0) fun σ3 =>
  x_gd (x_inb x6 (x_ln TM (x_rf TM o 25))) <|
  x_gd (x_inb (6 : Int32) (x_ln TM (x_rf TM o 45))) <|
  x_pt (x_pI σ3 (x_rf TM o 45) (x_ix (6 : Int32)) (σ3.1 (x_rf TM o 25) (x_ix x6))) fun σ4 =>
  x_gd (x_inb x6 (x_ln TM (x_rf TM o 26))) <|
  x_gd (x_inb (7 : Int32) (x_ln TM (x_rf TM o 45))) <|
  x_pt (x_pI σ4 (x_rf TM o 45) (x_ix (7 : Int32)) (σ4.1 (x_rf TM o 26) (x_ix x6))) fun σ5 =>
  x_gd (x_inb (9 : Int32) (x_ln TM (x_rf TM o 49))) <|
  x_gd (x_inb (8 : Int32) (x_ln TM (x_rf TM o 45))) <|
  x_pt (x_pI σ5 (x_rf TM o 45) (x_ix (8 : Int32)) (σ5.1 (x_rf TM o 49) (x_ix (9 : Int32)))) fun σ6 =>
  x_pt (x_pI σ6 o 47 (0 : Int32)) fun σ7 =>
  x_gd (x_inb x5 (x_ln TM (x_rf TM o 32))) <|
  F_X9_tells_176 x_fuel o x3 x4 x5 (σ7.1 (x_rf TM o 32) (x_ix x5)) σ7
def F_X9_tells_49 : Nat → Nat → Int32 → Int32 → Int32 → Int32 → Int32 → x_Hp → Option (Int32 × x_Hp)
  | 0, _, _, _, _, _, _, _ => none
  | n + 1, o, x3, x4, x5, x6, x7, σ =>
  if (4 : Int32) ≤ x7 then
    x_gd (x_inb (5 : Int32) (x_ln TM (x_rf TM o 49))) <|
    x_gd (x_inb (4 : Int32) (x_ln TM (x_rf TM o 45))) <|
    x_pt (x_pI σ (x_rf TM o 45) (x_ix (4 : Int32)) (σ.1 (x_rf TM o 49) (x_ix (5 : Int32)))) fun σ1 =>
    x_gd (x_inb (4 : Int32) (x_ln TM (x_rf TM o 49))) <|
    if (σ1.1 (x_rf TM o 49) (x_ix (4 : Int32))) = (σ1.1 o 51) then
      F_X9_tells_119 o x3 x4 x5 x6 (σ1.1 o 52) (5 : Int32) (x_rf TM o 45) σ1
    else
      x_gd (x_inb x6 (x_ln TM (x_rf TM o 24))) <|
      F_X9_tells_119 o x3 x4 x5 x6 (σ1.1 (x_rf TM o 24) (x_ix x6)) (5 : Int32) (x_rf TM o 45) σ1
  else
    x_gd (x_inb x7 (x_ln TM (x_rf TM o 49))) <|
    x_gd (x_inb x7 (x_ln TM (x_rf TM o 45))) <|
    x_pt (x_pI σ (x_rf TM o 45) (x_ix x7) (σ.1 (x_rf TM o 49) (x_ix x7))) fun σ2 =>
    (F_X9_tells_49 n) o x3 x4 x5 x6 (x7 + (1 : Int32)) σ2
def F_X9_tells (o : Nat) (x1 : Int32) (x2 : Int32) (x3 : Int32) (x4 : Int32) (σ : x_Hp) : Option (Int32 × x_Hp) :=
  x_gd (x_inb (((7 : Int32) * (σ.1 o 18)) + x1) (x_ln TM (x_rf TM o 32))) <|
  x_gd (x_inb (((7 : Int32) * (σ.1 o 18)) + x1) (x_ln TM (x_rf TM o 33))) <|
  if (σ.1 (x_rf TM o 32) (x_ix (((7 : Int32) * (σ.1 o 18)) + x1))) = (σ.1 (x_rf TM o 33) (x_ix (((7 : Int32) * (σ.1 o 18)) + x1))) then
    some (x2, σ)
  else
    x_gd (x_inb (4 : Int32) (x_ln TM (x_rf TM o 49))) <|
    F_X9_tells_49 x_fuel o x3 x4 (((7 : Int32) * (σ.1 o 18)) + x1) (((6 : Int32) * (σ.1 o 18)) + (σ.1 (x_rf TM o 49) (x_ix (4 : Int32)))) (0 : Int32) σ
def F_X9_lawNow_17 (s0 : Int32) (s1 : Int32) (s2 : Nat) (σ : x_Hp) : Option (Int32 × x_Hp) :=
  x_b (F_X9_tells s2 s1 s0 (-9 : Int32) (9 : Int32) σ) fun v4 σ4 =>
  some (v4, σ4)
def F_X9_lawNow (o : Nat) (x1 : Int32) (σ : x_Hp) : Option (Int32 × x_Hp) :=
  if (4 : Int32) ≤ x1 then
    if x1 = (4 : Int32) then
      x_b (F_X9_tells o (4 : Int32) (0 : Int32) (0 : Int32) (99 : Int32) σ) fun v3 σ3 =>
      some (v3, σ3)
    else
      if x1 = (5 : Int32) then
        x_b (F_X9_tells o (5 : Int32) (0 : Int32) (0 : Int32) (1 : Int32) σ) fun v2 σ2 =>
        some (v2, σ2)
      else
        x_b (F_X9_tells o (6 : Int32) (0 : Int32) (0 : Int32) (100 : Int32) σ) fun v1 σ1 =>
        some (v1, σ1)
  else
    if (2 : Int32) ≤ x1 then
      F_X9_lawNow_17 (0 : Int32) x1 o σ
    else
      F_X9_lawNow_17 (1 : Int32) x1 o σ
def F_X9_fallsAsleep (o : Nat) (σ : x_Hp) : Option (Unit × x_Hp) :=
  x_gd (x_inb (7 : Int32) (x_ln TM (x_rf TM o 49))) <|
  x_pt (x_pI σ (x_rf TM o 49) (x_ix (7 : Int32)) (60 : Int32)) fun σ1 =>
  x_gd (x_inb (16 : Int32) (x_ln TM (x_rf TM o 49))) <|
  x_gd (x_inb (16 : Int32) (x_ln TM (x_rf TM o 49))) <|
  x_pt (x_pI σ1 (x_rf TM o 49) (x_ix (16 : Int32)) ((σ1.1 (x_rf TM o 49) (x_ix (16 : Int32))) + (1 : Int32))) fun σ2 =>
  some ((), σ2)
def F_X9_wakeMinute_262 (o : Nat) (σ : x_Hp) : Option (Unit × x_Hp) :=
  x_b (F_X9_lawNow o (5 : Int32) σ) fun v19 σ19 =>
  if v19 ≤ 0 then
    some ((), σ19)
  else
    x_b (F_X9_fallsAsleep o σ19) fun _ σ20 =>
    some ((), σ20)
def F_X9_wakeMinute_169 (o : Nat) (x1 : Int32) (σ : x_Hp) : Option (Unit × x_Hp) :=
  x_b (F_X9_lotNow o σ) fun v13 σ13 =>
  x_b (F_X9_lawNow o (6 : Int32) σ13) fun v14 σ14 =>
  if v14 ≤ v13 then
    F_X9_wakeMinute_262 o σ14
  else
    x_gd (x_inb (3 : Int32) (x_ln TM (x_rf TM o 49))) <|
    x_pt (x_pI σ14 (x_rf TM o 49) (x_ix (3 : Int32)) (0 : Int32)) fun σ15 =>
    x_gd (x_inb ((50 : Int32) + x1) (x_ln TM (x_rf TM o 49))) <|
    x_gd (x_inb ((50 : Int32) + x1) (x_ln TM (x_rf TM o 49))) <|
    x_pt (x_pI σ15 (x_rf TM o 49) (x_ix ((50 : Int32) + x1)) ((σ15.1 (x_rf TM o 49) (x_ix ((50 : Int32) + x1))) + (1 : Int32))) fun σ16 =>
    x_gd (x_inb (8 : Int32) (x_ln TM (x_rf TM o 49))) <|
    if (σ16.1 (x_rf TM o 49) (x_ix (8 : Int32))) = 0 then
      x_gd (x_inb (15 : Int32) (x_ln TM (x_rf TM o 49))) <|
      x_gd (x_inb (((6 : Int32) * (σ16.1 o 18)) + x1) (x_ln TM (x_rf TM o 27))) <|
      x_gd (x_inb (15 : Int32) (x_ln TM (x_rf TM o 49))) <|
      x_pt (x_pI σ16 (x_rf TM o 49) (x_ix (15 : Int32)) ((σ16.1 (x_rf TM o 49) (x_ix (15 : Int32))) + (σ16.1 (x_rf TM o 27) (x_ix (((6 : Int32) * (σ16.1 o 18)) + x1))))) fun σ17 =>
      x_gd (x_inb ((44 : Int32) + x1) (x_ln TM (x_rf TM o 49))) <|
      x_gd (x_inb (((6 : Int32) * (σ17.1 o 18)) + x1) (x_ln TM (x_rf TM o 27))) <|
      x_gd (x_inb ((44 : Int32) + x1) (x_ln TM (x_rf TM o 49))) <|
      x_pt (x_pI σ17 (x_rf TM o 49) (x_ix ((44 : Int32) + x1)) ((σ17.1 (x_rf TM o 49) (x_ix ((44 : Int32) + x1))) + (σ17.1 (x_rf TM o 27) (x_ix (((6 : Int32) * (σ17.1 o 18)) + x1))))) fun σ18 =>
      F_X9_wakeMinute_262 o σ18
    else
      F_X9_wakeMinute_262 o σ16
def F_X9_wakeMinute_33 : Nat → Nat → Int32 → Int32 → x_Hp → Option (Unit × x_Hp)
  | 0, _, _, _, _ => none
  | n + 1, o, x1, x2, σ =>
  if (4 : Int32) ≤ x2 then
    x_gd (x_inb (5 : Int32) (x_ln TM (x_rf TM o 49))) <|
    x_gd (x_inb (5 : Int32) (x_ln TM (x_rf TM o 49))) <|
    x_pt (x_pI σ (x_rf TM o 49) (x_ix (5 : Int32)) ((σ.1 (x_rf TM o 49) (x_ix (5 : Int32))) + (1 : Int32))) fun σ3 =>
    x_b (F_X9_lawNow o (4 : Int32) σ3) fun v4 σ4 =>
    x_gd (x_inb (6 : Int32) (x_ln TM (x_rf TM o 49))) <|
    x_pt (x_pI σ4 (x_rf TM o 49) (x_ix (6 : Int32)) v4) fun σ5 =>
    x_gd (x_inb (13 : Int32) (x_ln TM (x_rf TM o 49))) <|
    x_gd (x_inb (13 : Int32) (x_ln TM (x_rf TM o 49))) <|
    x_pt (x_pI σ5 (x_rf TM o 49) (x_ix (13 : Int32)) ((σ5.1 (x_rf TM o 49) (x_ix (13 : Int32))) + v4)) fun σ6 =>
    x_gd (x_inb ((20 : Int32) + x1) (x_ln TM (x_rf TM o 49))) <|
    x_gd (x_inb ((20 : Int32) + x1) (x_ln TM (x_rf TM o 49))) <|
    x_pt (x_pI σ6 (x_rf TM o 49) (x_ix ((20 : Int32) + x1)) ((σ6.1 (x_rf TM o 49) (x_ix ((20 : Int32) + x1))) + (1 : Int32))) fun σ7 =>
    x_gd (x_inb ((26 : Int32) + x1) (x_ln TM (x_rf TM o 49))) <|
    x_gd (x_inb ((26 : Int32) + x1) (x_ln TM (x_rf TM o 49))) <|
    x_pt (x_pI σ7 (x_rf TM o 49) (x_ix ((26 : Int32) + x1)) ((σ7.1 (x_rf TM o 49) (x_ix ((26 : Int32) + x1))) + v4)) fun σ8 =>
    if v4 = 0 then
      x_gd (x_inb (2 : Int32) (x_ln TM (x_rf TM o 49))) <|
      if (σ8.1 (x_rf TM o 49) (x_ix (2 : Int32))) < (50 : Int32) then
        F_X9_wakeMinute_169 o x1 σ8
      else
        x_gd (x_inb (14 : Int32) (x_ln TM (x_rf TM o 49))) <|
        x_gd (x_inb (14 : Int32) (x_ln TM (x_rf TM o 49))) <|
        x_pt (x_pI σ8 (x_rf TM o 49) (x_ix (14 : Int32)) ((σ8.1 (x_rf TM o 49) (x_ix (14 : Int32))) + (1 : Int32))) fun σ9 =>
        x_gd (x_inb ((32 : Int32) + x1) (x_ln TM (x_rf TM o 49))) <|
        x_gd (x_inb ((32 : Int32) + x1) (x_ln TM (x_rf TM o 49))) <|
        x_pt (x_pI σ9 (x_rf TM o 49) (x_ix ((32 : Int32) + x1)) ((σ9.1 (x_rf TM o 49) (x_ix ((32 : Int32) + x1))) + (1 : Int32))) fun σ10 =>
        F_X9_wakeMinute_169 o x1 σ10
    else
      F_X9_wakeMinute_169 o x1 σ8
  else
    x_gd (x_inb x2 (x_ln TM (x_rf TM o 49))) <|
    x_gd (x_inb x2 (x_ln TM (x_rf TM o 53))) <|
    x_b (F_X9_held ((σ.1 (x_rf TM o 49) (x_ix x2)) + (σ.1 (x_rf TM o 53) (x_ix x2))) (0 : Int32) (99 : Int32) σ) fun v11 σ11 =>
    x_gd (x_inb x2 (x_ln TM (x_rf TM o 49))) <|
    x_pt (x_pI σ11 (x_rf TM o 49) (x_ix x2) v11) fun σ12 =>
    (F_X9_wakeMinute_33 n) o x1 (x2 + (1 : Int32)) σ12
def F_X9_wakeMinute_9 : Nat → Nat → Int32 → Int32 → x_Hp → Option (Unit × x_Hp)
  | 0, _, _, _, _ => none
  | n + 1, o, x1, x2, σ =>
  if (4 : Int32) ≤ x2 then
    F_X9_wakeMinute_33 x_fuel o x1 (0 : Int32) σ
  else
    x_b (F_X9_lawNow o x2 σ) fun v1 σ1 =>
    x_gd (x_inb x2 (x_ln TM (x_rf TM o 53))) <|
    x_pt (x_pI σ1 (x_rf TM o 53) (x_ix x2) v1) fun σ2 =>
    (F_X9_wakeMinute_9 n) o x1 (x2 + (1 : Int32)) σ2
def F_X9_wakeMinute (o : Nat) (σ : x_Hp) : Option (Unit × x_Hp) :=
  x_gd (x_inb (4 : Int32) (x_ln TM (x_rf TM o 49))) <|
  F_X9_wakeMinute_9 x_fuel o (σ.1 (x_rf TM o 49) (x_ix (4 : Int32))) (0 : Int32) σ
def F_X9_sleepMinute (o : Nat) (σ : x_Hp) : Option (Unit × x_Hp) :=
  x_gd (x_inb (0 : Int32) (x_ln TM (x_rf TM o 49))) <|
  x_b (F_X9_lawNow o (0 : Int32) σ) fun v1 σ1 =>
  x_b (F_X9_held ((σ.1 (x_rf TM o 49) (x_ix (0 : Int32))) + v1) (0 : Int32) (99 : Int32) σ1) fun v2 σ2 =>
  x_gd (x_inb (0 : Int32) (x_ln TM (x_rf TM o 49))) <|
  x_pt (x_pI σ2 (x_rf TM o 49) (x_ix (0 : Int32)) v2) fun σ3 =>
  x_gd (x_inb (4 : Int32) (x_ln TM (x_rf TM o 49))) <|
  x_gd (x_inb ((38 : Int32) + (σ3.1 (x_rf TM o 49) (x_ix (4 : Int32)))) (x_ln TM (x_rf TM o 49))) <|
  x_gd (x_inb ((38 : Int32) + (σ3.1 (x_rf TM o 49) (x_ix (4 : Int32)))) (x_ln TM (x_rf TM o 49))) <|
  x_pt (x_pI σ3 (x_rf TM o 49) (x_ix ((38 : Int32) + (σ3.1 (x_rf TM o 49) (x_ix (4 : Int32))))) ((σ3.1 (x_rf TM o 49) (x_ix ((38 : Int32) + (σ3.1 (x_rf TM o 49) (x_ix (4 : Int32)))))) + (1 : Int32))) fun σ4 =>
  x_gd (x_inb (6 : Int32) (x_ln TM (x_rf TM o 49))) <|
  x_pt (x_pI σ4 (x_rf TM o 49) (x_ix (6 : Int32)) (0 : Int32)) fun σ5 =>
  x_gd (x_inb (7 : Int32) (x_ln TM (x_rf TM o 49))) <|
  x_gd (x_inb (7 : Int32) (x_ln TM (x_rf TM o 49))) <|
  x_pt (x_pI σ5 (x_rf TM o 49) (x_ix (7 : Int32)) ((σ5.1 (x_rf TM o 49) (x_ix (7 : Int32))) - (1 : Int32))) fun σ6 =>
  x_gd (x_inb (7 : Int32) (x_ln TM (x_rf TM o 49))) <|
  if (σ6.1 (x_rf TM o 49) (x_ix (7 : Int32))) ≤ 0 then
    x_gd (x_inb (1 : Int32) (x_ln TM (x_rf TM o 49))) <|
    x_pt (x_pI σ6 (x_rf TM o 49) (x_ix (1 : Int32)) (0 : Int32)) fun σ7 =>
    x_gd (x_inb (5 : Int32) (x_ln TM (x_rf TM o 49))) <|
    x_pt (x_pI σ7 (x_rf TM o 49) (x_ix (5 : Int32)) (0 : Int32)) fun σ8 =>
    some ((), σ8)
  else
    some ((), σ6)
def F_X9_minuteGoes_30 (o : Nat) (σ : x_Hp) : Option (Unit × x_Hp) :=
  x_gd (x_inb (12 : Int32) (x_ln TM (x_rf TM o 49))) <|
  x_gd (x_inb (12 : Int32) (x_ln TM (x_rf TM o 49))) <|
  x_pt (x_pI σ (x_rf TM o 49) (x_ix (12 : Int32)) ((σ.1 (x_rf TM o 49) (x_ix (12 : Int32))) + (1 : Int32))) fun σ3 =>
  some ((), σ3)
def F_X9_minuteGoes (o : Nat) (σ : x_Hp) : Option (Unit × x_Hp) :=
  x_gd (x_inb (4 : Int32) (x_ln TM (x_rf TM o 49))) <|
  if (σ.1 (x_rf TM o 49) (x_ix (4 : Int32))) < 0 then
    F_X9_minuteGoes_30 o σ
  else
    x_gd (x_inb (7 : Int32) (x_ln TM (x_rf TM o 49))) <|
    if (σ.1 (x_rf TM o 49) (x_ix (7 : Int32))) ≤ 0 then
      x_b (F_X9_wakeMinute o σ) fun _ σ1 =>
      F_X9_minuteGoes_30 o σ1
    else
      x_b (F_X9_sleepMinute o σ) fun _ σ2 =>
      F_X9_minuteGoes_30 o σ2
def F_X9_goes_2 : Nat → Nat → Int32 → Int32 → x_Hp → Option (Unit × x_Hp)
  | 0, _, _, _, _ => none
  | n + 1, o, x1, x2, σ =>
  if x1 ≤ x2 then
    some ((), σ)
  else
    x_b (F_X9_minuteGoes o σ) fun _ σ1 =>
    (F_X9_goes_2 n) o x1 (x2 + (1 : Int32)) σ1
def F_X9_goes (o : Nat) (x1 : Int32) (σ : x_Hp) : Option (Unit × x_Hp) :=
  F_X9_goes_2 x_fuel o x1 (0 : Int32) σ
def F_X9_hands_50 (o : Nat) (x1 : Int32) (σ : x_Hp) : Option (Unit × x_Hp) :=
  x_gd (x_inb (10 : Int32) (x_ln TM (x_rf TM o 49))) <|
  x_gd (x_inb (11 : Int32) (x_ln TM (x_rf TM o 49))) <|
  x_pt (x_pI σ (x_rf TM o 49) (x_ix (11 : Int32)) (σ.1 (x_rf TM o 49) (x_ix (10 : Int32)))) fun σ3 =>
  x_gd (x_inb (4 : Int32) (x_ln TM (x_rf TM o 49))) <|
  x_gd (x_inb (10 : Int32) (x_ln TM (x_rf TM o 49))) <|
  x_pt (x_pI σ3 (x_rf TM o 49) (x_ix (10 : Int32)) (σ3.1 (x_rf TM o 49) (x_ix (4 : Int32)))) fun σ4 =>
  x_gd (x_inb (4 : Int32) (x_ln TM (x_rf TM o 49))) <|
  x_pt (x_pI σ4 (x_rf TM o 49) (x_ix (4 : Int32)) x1) fun σ5 =>
  x_gd (x_inb (5 : Int32) (x_ln TM (x_rf TM o 49))) <|
  x_pt (x_pI σ5 (x_rf TM o 49) (x_ix (5 : Int32)) (0 : Int32)) fun σ6 =>
  x_gd (x_inb (17 : Int32) (x_ln TM (x_rf TM o 49))) <|
  x_gd (x_inb (17 : Int32) (x_ln TM (x_rf TM o 49))) <|
  x_pt (x_pI σ6 (x_rf TM o 49) (x_ix (17 : Int32)) ((σ6.1 (x_rf TM o 49) (x_ix (17 : Int32))) + (1 : Int32))) fun σ7 =>
  x_gd (x_inb (18 : Int32) (x_ln TM (x_rf TM o 49))) <|
  x_gd (x_inb (18 : Int32) (x_ln TM (x_rf TM o 49))) <|
  x_pt (x_pI σ7 (x_rf TM o 49) (x_ix (18 : Int32)) ((σ7.1 (x_rf TM o 49) (x_ix (18 : Int32))) ||| ((1 : Int32) <<< (x1 &&& 31)))) fun σ8 =>
  some ((), σ8)
def F_X9_hands (o : Nat) (x1 : Int32) (σ : x_Hp) : Option (Unit × x_Hp) :=
  x_gd (x_inb (10 : Int32) (x_ln TM (x_rf TM o 49))) <|
  if x1 = (σ.1 (x_rf TM o 49) (x_ix (10 : Int32))) then
    F_X9_hands_50 o x1 σ
  else
    x_gd (x_inb (11 : Int32) (x_ln TM (x_rf TM o 49))) <|
    if x1 = (σ.1 (x_rf TM o 49) (x_ix (11 : Int32))) then
      F_X9_hands_50 o x1 σ
    else
      x_gd (x_inb (2 : Int32) (x_ln TM (x_rf TM o 49))) <|
      x_gd (x_inb (σ.1 o 18) (x_ln TM (x_rf TM o 29))) <|
      x_b (F_X9_held ((σ.1 (x_rf TM o 49) (x_ix (2 : Int32))) + (σ.1 (x_rf TM o 29) (x_ix (σ.1 o 18)))) (0 : Int32) (99 : Int32) σ) fun v1 σ1 =>
      x_gd (x_inb (2 : Int32) (x_ln TM (x_rf TM o 49))) <|
      x_pt (x_pI σ1 (x_rf TM o 49) (x_ix (2 : Int32)) v1) fun σ2 =>
      F_X9_hands_50 o x1 σ2
def F_X9_isAunt (o : Nat) (x1 : Int32) (σ : x_Hp) : Option (Int32 × x_Hp) :=
  x_gd (x_inb (σ.1 o 18) (x_ln TM (x_rf TM o 23))) <|
  x_b (F_X9_in x1 (0 : Int32) ((σ.1 (x_rf TM o 23) (x_ix (σ.1 o 18))) - (1 : Int32)) σ) fun v1 σ1 =>
  x_gd (x_isz v1) <|
  some (v1, σ1)
def F_X9_isAwake (o : Nat) (σ : x_Hp) : Option (Int32 × x_Hp) :=
  x_gd (x_inb (4 : Int32) (x_ln TM (x_rf TM o 48))) <|
  if (σ.1 (x_rf TM o 48) (x_ix (4 : Int32))) < 0 then
    some ((0 : Int32), σ)
  else
    x_gd (x_inb (7 : Int32) (x_ln TM (x_rf TM o 48))) <|
    if (σ.1 (x_rf TM o 48) (x_ix (7 : Int32))) = 0 then
      some ((1 : Int32), σ)
    else
      some ((0 : Int32), σ)
def F_X9_cries (o : Nat) (x1 : Int32) (σ : x_Hp) : Option (Int32 × x_Hp) :=
  x_gd (x_inb (13 : Int32) (x_ln TM (x_rf TM o 49))) <|
  x_b (F_X9_goes o x1 σ) fun _ σ1 =>
  x_gd (x_inb (13 : Int32) (x_ln TM (x_rf TM o 49))) <|
  some ((σ1.1 (x_rf TM o 49) (x_ix (13 : Int32))) - (σ.1 (x_rf TM o 49) (x_ix (13 : Int32))), σ1)
def F_X9_now (o : Nat) (x1 : Int32) (σ : x_Hp) : Option (Int32 × x_Hp) :=
  x_b (F_X9_in x1 (0 : Int32) (11 : Int32) σ) fun v1 σ1 =>
  if v1 = 0 then
    some ((-1 : Int32), σ1)
  else
    x_gd (x_inb x1 (x_ln TM (x_rf TM o 48))) <|
    some (σ1.1 (x_rf TM o 48) (x_ix x1), σ1)
def F_X9_aunt_52 (o : Nat) (x1 : Int32) (x2 : Int32) (σ : x_Hp) : Option (Int32 × x_Hp) :=
  x_gd (x_inb (((20 : Int32) + ((6 : Int32) * x2)) + x1) (x_ln TM (x_rf TM o 48))) <|
  some (σ.1 (x_rf TM o 48) (x_ix (((20 : Int32) + ((6 : Int32) * x2)) + x1)), σ)
def F_X9_aunt (o : Nat) (x1 : Int32) (x2 : Int32) (σ : x_Hp) : Option (Int32 × x_Hp) :=
  x_b (F_X9_isAunt o x1 σ) fun v1 σ1 =>
  if v1 = 0 then
    some ((-1 : Int32), σ1)
  else
    if x2 = (0 : Int32) then
      F_X9_aunt_52 o x1 x2 σ1
    else
    if x2 = (1 : Int32) then
      F_X9_aunt_52 o x1 x2 σ1
    else
    if x2 = (2 : Int32) then
      F_X9_aunt_52 o x1 x2 σ1
    else
    if x2 = (3 : Int32) then
      F_X9_aunt_52 o x1 x2 σ1
    else
    if x2 = (4 : Int32) then
      F_X9_aunt_52 o x1 x2 σ1
    else
    if x2 = (5 : Int32) then
      x_gd (x_inb (((6 : Int32) * (σ1.1 o 18)) + x1) (x_ln TM (x_rf TM o 24))) <|
      some (σ1.1 (x_rf TM o 24) (x_ix (((6 : Int32) * (σ1.1 o 18)) + x1)), σ1)
    else
    if x2 = (6 : Int32) then
      x_gd (x_inb ((50 : Int32) + x1) (x_ln TM (x_rf TM o 48))) <|
      some (σ1.1 (x_rf TM o 48) (x_ix ((50 : Int32) + x1)), σ1)
    else
    some ((-1 : Int32), σ1)
def F_X9_law (o : Nat) (x1 : Int32) (σ : x_Hp) : Option (Int32 × x_Hp) :=
  x_b (F_X9_in x1 (0 : Int32) (6 : Int32) σ) fun v1 σ1 =>
  if v1 = 0 then
    some ((-10000 : Int32), σ1)
  else
    x_gd (x_inb (σ1.1 o 18) (x_ln TM (x_rf TM o 23))) <|
    if (σ1.1 (x_rf TM o 23) (x_ix (σ1.1 o 18))) = 0 then
      some ((-10000 : Int32), σ1)
    else
      x_b (F_X9_copies o σ1) fun _ σ2 =>
      x_b (F_X9_lawNow o x1 σ2) fun v3 σ3 =>
      some (v3, σ3)
def F_X9_keeps_51 : Nat → Nat → Int32 → x_Hp → Option (Unit × x_Hp)
  | 0, _, _, _ => none
  | n + 1, o, x1, σ =>
  if (60 : Int32) ≤ x1 then
    x_pt (x_pI σ o 54 ((σ.1 o 54) + (1 : Int32))) fun σ3 =>
    x_b (F_X9_keepsRow o σ3) fun _ σ4 =>
    some ((), σ4)
  else
    x_gd (x_inb x1 (x_ln TM (x_rf TM o 48))) <|
    x_gd (x_inb (((60 : Int32) * (σ.1 o 54)) + x1) (x_ln TM (x_rf TM o 55))) <|
    x_pt (x_pI σ (x_rf TM o 55) (x_ix (((60 : Int32) * (σ.1 o 54)) + x1)) (σ.1 (x_rf TM o 48) (x_ix x1))) fun σ5 =>
    (F_X9_keeps_51 n) o (x1 + (1 : Int32)) σ5
def F_X9_keeps_49 (o : Nat) (σ : x_Hp) : Option (Unit × x_Hp) :=
  F_X9_keeps_51 x_fuel o (0 : Int32) σ
def F_X9_keeps_11 : Nat → Nat → Int32 → x_Hp → Option (Unit × x_Hp)
  | 0, _, _, _ => none
  | n + 1, o, x1, σ =>
  if (2940 : Int32) ≤ x1 then
    x_pt (x_pI σ o 54 ((σ.1 o 54) - (1 : Int32))) fun σ1 =>
    F_X9_keeps_49 o σ1
  else
    x_gd (x_inb (x1 + (60 : Int32)) (x_ln TM (x_rf TM o 55))) <|
    x_gd (x_inb x1 (x_ln TM (x_rf TM o 55))) <|
    x_pt (x_pI σ (x_rf TM o 55) (x_ix x1) (σ.1 (x_rf TM o 55) (x_ix (x1 + (60 : Int32))))) fun σ2 =>
    (F_X9_keeps_11 n) o (x1 + (1 : Int32)) σ2
def F_X9_keeps (o : Nat) (σ : x_Hp) : Option (Unit × x_Hp) :=
  if (σ.1 o 54) = (50 : Int32) then
    F_X9_keeps_11 x_fuel o (0 : Int32) σ
  else
    F_X9_keeps_49 o σ
def F_X9_minutes (o : Nat) (x1 : Int32) (σ : x_Hp) : Option (Int32 × x_Hp) :=
  x_b (F_X9_in x1 (0 : Int32) (240 : Int32) σ) fun v1 σ1 =>
  if v1 = 0 then
    some ((-1 : Int32), σ1)
  else
    if x1 = 0 then
      x_gd (x_inb (12 : Int32) (x_ln TM (x_rf TM o 48))) <|
      some (σ1.1 (x_rf TM o 48) (x_ix (12 : Int32)), σ1)
    else
      x_b (F_X9_copies o σ1) fun _ σ2 =>
      x_b (F_X9_goes o x1 σ2) fun _ σ3 =>
      x_b (F_X9_keeps o σ3) fun _ σ4 =>
      x_gd (x_inb (12 : Int32) (x_ln TM (x_rf TM o 48))) <|
      some (σ4.1 (x_rf TM o 48) (x_ix (12 : Int32)), σ4)
def F_X9_hand (o : Nat) (x1 : Int32) (σ : x_Hp) : Option (Int32 × x_Hp) :=
  x_b (F_X9_isAunt o x1 σ) fun v1 σ1 =>
  if v1 = 0 then
    some ((0 : Int32), σ1)
  else
    x_b (F_X9_isAwake o σ1) fun v2 σ2 =>
    if v2 = 0 then
      some ((0 : Int32), σ2)
    else
      x_gd (x_inb (4 : Int32) (x_ln TM (x_rf TM o 48))) <|
      if x1 = (σ2.1 (x_rf TM o 48) (x_ix (4 : Int32))) then
        some ((0 : Int32), σ2)
      else
        x_b (F_X9_copies o σ2) fun _ σ3 =>
        x_b (F_X9_hands o x1 σ3) fun _ σ4 =>
        x_b (F_X9_keeps o σ4) fun _ σ5 =>
        some ((1 : Int32), σ5)
def F_X9_feedsNow (o : Nat) (σ : x_Hp) : Option (Unit × x_Hp) :=
  x_gd (x_inb (0 : Int32) (x_ln TM (x_rf TM o 49))) <|
  x_pt (x_pI σ (x_rf TM o 49) (x_ix (0 : Int32)) (0 : Int32)) fun σ1 =>
  x_gd (x_inb (3 : Int32) (x_ln TM (x_rf TM o 49))) <|
  x_gd (x_inb (σ1.1 o 18) (x_ln TM (x_rf TM o 30))) <|
  x_b (F_X9_held ((σ1.1 (x_rf TM o 49) (x_ix (3 : Int32))) + (σ1.1 (x_rf TM o 30) (x_ix (σ1.1 o 18)))) (0 : Int32) (99 : Int32) σ1) fun v2 σ2 =>
  x_gd (x_inb (3 : Int32) (x_ln TM (x_rf TM o 49))) <|
  x_pt (x_pI σ2 (x_rf TM o 49) (x_ix (3 : Int32)) v2) fun σ3 =>
  some ((), σ3)
def F_X9_nurse (o : Nat) (σ : x_Hp) : Option (Int32 × x_Hp) :=
  x_b (F_X9_isAwake o σ) fun v1 σ1 =>
  if v1 = 0 then
    some ((0 : Int32), σ1)
  else
    x_b (F_X9_copies o σ1) fun _ σ2 =>
    x_b (F_X9_feedsNow o σ2) fun _ σ3 =>
    x_b (F_X9_keeps o σ3) fun _ σ4 =>
    some ((1 : Int32), σ4)
def F_X9_lay (o : Nat) (σ : x_Hp) : Option (Int32 × x_Hp) :=
  x_b (F_X9_isAwake o σ) fun v1 σ1 =>
  if v1 = 0 then
    some ((0 : Int32), σ1)
  else
    x_b (F_X9_copies o σ1) fun _ σ2 =>
    x_b (F_X9_fallsAsleep o σ2) fun _ σ3 =>
    x_b (F_X9_keeps o σ3) fun _ σ4 =>
    some ((1 : Int32), σ4)
def F_X9_turns_34 (o : Nat) (x3 : Int32) (s0 : Int32) (s1 : Int32) (s2 : Nat) (σ : x_Hp) : Option (Int32 × x_Hp) :=
  x_gd (x_inb s1 (x_ln TM s2)) <|
  x_pt (x_pI σ s2 (x_ix s1) s0) fun σ2 =>
  x_b (F_X9_keeps o σ2) fun _ σ3 =>
  x_gd (x_isz x3) <|
  some (x3, σ3)
def F_X9_turns_19 (o : Nat) (x1 : Int32) (x2 : Int32) (s0 : Int32) (σ : x_Hp) : Option (Int32 × x_Hp) :=
  if x2 = 0 then
    F_X9_turns_34 o s0 (0 : Int32) x1 (x_rf TM o 49) σ
  else
    F_X9_turns_34 o s0 (1 : Int32) x1 (x_rf TM o 49) σ
def F_X9_turns (o : Nat) (x1 : Int32) (x2 : Int32) (σ : x_Hp) : Option (Int32 × x_Hp) :=
  x_b (F_X9_copies o σ) fun _ σ1 =>
  x_gd (x_inb x1 (x_ln TM (x_rf TM o 49))) <|
  if (σ1.1 (x_rf TM o 49) (x_ix x1)) = (1 : Int32) then
    F_X9_turns_19 o x1 x2 (1 : Int32) σ1
  else
    F_X9_turns_19 o x1 x2 (0 : Int32) σ1
def F_X9_cloth (o : Nat) (x1 : Int32) (σ : x_Hp) : Option (Int32 × x_Hp) :=
  x_b (F_X9_turns o (8 : Int32) x1 σ) fun v1 σ1 =>
  x_gd (x_isz v1) <|
  some (v1, σ1)
def F_X9_mother (o : Nat) (x1 : Int32) (σ : x_Hp) : Option (Int32 × x_Hp) :=
  x_b (F_X9_turns o (9 : Int32) x1 σ) fun v1 σ1 =>
  x_gd (x_isz v1) <|
  some (v1, σ1)
def F_X9_undo_21 : Nat → Nat → Int32 → x_Hp → Option (Int32 × x_Hp)
  | 0, _, _, _ => none
  | n + 1, o, x1, σ =>
  if (60 : Int32) ≤ x1 then
    some ((1 : Int32), σ)
  else
    x_gd (x_inb (((60 : Int32) * (σ.1 o 54)) + x1) (x_ln TM (x_rf TM o 55))) <|
    x_gd (x_inb x1 (x_ln TM (x_rf TM o 48))) <|
    x_pt (x_pI σ (x_rf TM o 48) (x_ix x1) (σ.1 (x_rf TM o 55) (x_ix (((60 : Int32) * (σ.1 o 54)) + x1)))) fun σ2 =>
    (F_X9_undo_21 n) o (x1 + (1 : Int32)) σ2
def F_X9_undo (o : Nat) (σ : x_Hp) : Option (Int32 × x_Hp) :=
  if (σ.1 o 54) = 0 then
    some ((0 : Int32), σ)
  else
    x_pt (x_pI σ o 54 ((σ.1 o 54) - (1 : Int32))) fun σ1 =>
    F_X9_undo_21 x_fuel o (0 : Int32) σ1
def F_X9_crying (o : Nat) (x1 : Int32) (σ : x_Hp) : Option (Int32 × x_Hp) :=
  x_b (F_X9_in x1 (0 : Int32) (240 : Int32) σ) fun v1 σ1 =>
  if v1 = 0 then
    some ((-1 : Int32), σ1)
  else
    x_b (F_X9_copies o σ1) fun _ σ2 =>
    x_b (F_X9_cries o x1 σ2) fun v3 σ3 =>
    some (v3, σ3)
def F_X9_next_104 (k31 : Nat → Int32 → Int32 → Int32 → Int32 → Int32 → x_Hp → Option (Int32 × x_Hp)) (o : Nat) (x1 : Int32) (x2 : Int32) (x3 : Int32) (x4 : Int32) (x5 : Int32) (σ : x_Hp) : Option (Int32 × x_Hp) :=
  k31 o x1 x2 x3 x4 (x5 + (1 : Int32)) σ
def F_X9_next_97 (k31 : Nat → Int32 → Int32 → Int32 → Int32 → Int32 → x_Hp → Option (Int32 × x_Hp)) (o : Nat) (x1 : Int32) (x2 : Int32) (x5 : Int32) (x6 : Int32) (σ : x_Hp) : Option (Int32 × x_Hp) :=
  F_X9_next_104 k31 o x1 x2 x5 x6 x5 σ
def F_X9_next_31 : Nat → Nat → Int32 → Int32 → Int32 → Int32 → Int32 → x_Hp → Option (Int32 × x_Hp)
  | 0, _, _, _, _, _, _, _ => none
  | n + 1, o, x1, x2, x3, x4, x5, σ =>
  x_gd (x_inb (σ.1 o 18) (x_ln TM (x_rf TM o 23))) <|
  if (σ.1 (x_rf TM o 23) (x_ix (σ.1 o 18))) ≤ x5 then
    if x2 = 0 then
      some (x3, σ)
    else
      some (x4, σ)
  else
    x_b (F_X9_isAwake o σ) fun v3 σ3 =>
    if v3 = 0 then
      if x2 = 0 then
        some (x3, σ3)
      else
        some (x4, σ3)
    else
      x_gd (x_inb (4 : Int32) (x_ln TM (x_rf TM o 48))) <|
      if x5 = (σ3.1 (x_rf TM o 48) (x_ix (4 : Int32))) then
        F_X9_next_104 (F_X9_next_31 n) o x1 x2 x3 x4 x5 σ3
      else
        x_b (F_X9_copies o σ3) fun _ σ4 =>
        x_b (F_X9_hands o x5 σ4) fun _ σ5 =>
        x_b (F_X9_cries o x1 σ5) fun v6 σ6 =>
        if x3 < 0 then
          F_X9_next_97 (F_X9_next_31 n) o x1 x2 x5 v6 σ6
        else
          if v6 < x4 then
            F_X9_next_97 (F_X9_next_31 n) o x1 x2 x5 v6 σ6
          else
            F_X9_next_104 (F_X9_next_31 n) o x1 x2 x3 x4 x5 σ6
def F_X9_next (o : Nat) (x1 : Int32) (x2 : Int32) (σ : x_Hp) : Option (Int32 × x_Hp) :=
  x_b (F_X9_in x1 (1 : Int32) (120 : Int32) σ) fun v1 σ1 =>
  if v1 = 0 then
    some ((-1 : Int32), σ1)
  else
    x_b (F_X9_in x2 (0 : Int32) (1 : Int32) σ1) fun v2 σ2 =>
    if v2 = 0 then
      some ((-1 : Int32), σ2)
    else
      F_X9_next_31 x_fuel o x1 x2 (-2 : Int32) (-2 : Int32) (0 : Int32) σ2
def F_X9_gives_67 (k39 : Nat → Int32 → Int32 → Int32 → Int32 → x_Hp → Option (Unit × x_Hp)) (o : Nat) (x1 : Int32) (x3 : Int32) (x4 : Int32) (x5 : Int32) (σ : x_Hp) : Option (Unit × x_Hp) :=
  x_b (F_X9_minuteGoes o σ) fun _ σ5 =>
  x_gd (x_inb (7 : Int32) (x_ln TM (x_rf TM o 49))) <|
  if (σ5.1 (x_rf TM o 49) (x_ix (7 : Int32))) ≤ 0 then
    k39 o x1 x3 x4 x5 σ5
  else
    if 0 ≤ (σ5.1 o 57) then
      k39 o x1 x3 x4 x5 σ5
    else
      x_pt (x_pI σ5 o 57 x1) fun σ6 =>
      k39 o x1 x3 x4 x5 σ6
def F_X9_gives_54 (k39 : Nat → Int32 → Int32 → Int32 → Int32 → x_Hp → Option (Unit × x_Hp)) (o : Nat) (x1 : Int32) (x3 : Int32) (x4 : Int32) (x5 : Int32) (σ : x_Hp) : Option (Unit × x_Hp) :=
  x_gd (x_inb (7 : Int32) (x_ln TM (x_rf TM o 49))) <|
  if (σ.1 (x_rf TM o 49) (x_ix (7 : Int32))) = 0 then
    F_X9_gives_67 k39 o x1 x3 x4 (x5 + (-1 : Int32)) σ
  else
    F_X9_gives_67 k39 o x1 x3 x4 x5 σ
def F_X9_gives_39 : Nat → Nat → Int32 → Int32 → Int32 → Int32 → x_Hp → Option (Unit × x_Hp)
  | 0, _, _, _, _, _, _ => none
  | n + 1, o, x1, x3, x4, x5, σ =>
  if 0 < x5 then
    F_X9_gives_54 (F_X9_gives_39 n) o x1 x3 x4 x5 σ
  else
    x_gd (x_inb (7 : Int32) (x_ln TM (x_rf TM o 49))) <|
    if (σ.1 (x_rf TM o 49) (x_ix (7 : Int32))) ≤ 0 then
      x_gd (x_inb ((26 : Int32) + x1) (x_ln TM (x_rf TM o 49))) <|
      x_gd (x_inb x1 (x_ln TM (x_rf TM o 58))) <|
      x_pt (x_pI σ (x_rf TM o 58) (x_ix x1) ((σ.1 (x_rf TM o 49) (x_ix ((26 : Int32) + x1))) - x3)) fun σ2 =>
      x_gd (x_inb ((32 : Int32) + x1) (x_ln TM (x_rf TM o 49))) <|
      x_gd (x_inb x1 (x_ln TM (x_rf TM o 59))) <|
      x_pt (x_pI σ2 (x_rf TM o 59) (x_ix x1) ((σ2.1 (x_rf TM o 49) (x_ix ((32 : Int32) + x1))) - x4)) fun σ3 =>
      x_gd (x_inb x1 (x_ln TM (x_rf TM o 58))) <|
      x_pt (x_pI σ3 o 56 ((σ3.1 o 56) + (σ3.1 (x_rf TM o 58) (x_ix x1)))) fun σ4 =>
      some ((), σ4)
    else
      F_X9_gives_54 (F_X9_gives_39 n) o x1 x3 x4 x5 σ
def F_X9_gives_15 (o : Nat) (x1 : Int32) (x2 : Int32) (σ : x_Hp) : Option (Unit × x_Hp) :=
  x_gd (x_inb ((26 : Int32) + x1) (x_ln TM (x_rf TM o 49))) <|
  x_gd (x_inb ((32 : Int32) + x1) (x_ln TM (x_rf TM o 49))) <|
  F_X9_gives_39 x_fuel o x1 (σ.1 (x_rf TM o 49) (x_ix ((26 : Int32) + x1))) (σ.1 (x_rf TM o 49) (x_ix ((32 : Int32) + x1))) x2 σ
def F_X9_gives (o : Nat) (x1 : Int32) (x2 : Int32) (σ : x_Hp) : Option (Unit × x_Hp) :=
  x_gd (x_inb (4 : Int32) (x_ln TM (x_rf TM o 49))) <|
  if (σ.1 (x_rf TM o 49) (x_ix (4 : Int32))) = x1 then
    F_X9_gives_15 o x1 x2 σ
  else
    x_b (F_X9_hands o x1 σ) fun _ σ1 =>
    F_X9_gives_15 o x1 x2 σ1
def F_X9_starts (o : Nat) (σ : x_Hp) : Option (Unit × x_Hp) :=
  x_b (F_X9_copies o σ) fun _ σ1 =>
  x_pt (x_pI σ1 o 56 (0 : Int32)) fun σ2 =>
  x_pt (x_pI σ2 o 57 (-2 : Int32)) fun σ3 =>
  some ((), σ3)
def F_X9_firstOrder_2 : Nat → Nat → Int32 → x_Hp → Option (Unit × x_Hp)
  | 0, _, _, _ => none
  | n + 1, o, x1, σ =>
  if (6 : Int32) ≤ x1 then
    some ((), σ)
  else
    x_gd (x_inb x1 (x_ln TM (x_rf TM o 60))) <|
    x_pt (x_pI σ (x_rf TM o 60) (x_ix x1) x1) fun σ1 =>
    (F_X9_firstOrder_2 n) o (x1 + (1 : Int32)) σ1
def F_X9_firstOrder (o : Nat) (σ : x_Hp) : Option (Unit × x_Hp) :=
  F_X9_firstOrder_2 x_fuel o (0 : Int32) σ
def F_X9_nextOrder_110 : Nat → Nat → Int32 → Int32 → x_Hp → Option (Int32 × x_Hp)
  | 0, _, _, _, _ => none
  | n + 1, o, x5, x6, σ =>
  if x6 ≤ x5 then
    some ((1 : Int32), σ)
  else
    x_gd (x_inb x5 (x_ln TM (x_rf TM o 60))) <|
    x_gd (x_inb x6 (x_ln TM (x_rf TM o 60))) <|
    x_gd (x_inb x5 (x_ln TM (x_rf TM o 60))) <|
    x_pt (x_pI σ (x_rf TM o 60) (x_ix x5) (σ.1 (x_rf TM o 60) (x_ix x6))) fun σ3 =>
    x_gd (x_inb x6 (x_ln TM (x_rf TM o 60))) <|
    x_pt (x_pI σ3 (x_rf TM o 60) (x_ix x6) (σ.1 (x_rf TM o 60) (x_ix x5))) fun σ4 =>
    (F_X9_nextOrder_110 n) o (x5 + (1 : Int32)) (x6 + (-1 : Int32)) σ4
def F_X9_nextOrder_51 : Nat → Nat → Int32 → Int32 → Int32 → x_Hp → Option (Int32 × x_Hp)
  | 0, _, _, _, _, _ => none
  | n + 1, o, x1, x2, x3, σ =>
  x_gd (x_inb x3 (x_ln TM (x_rf TM o 60))) <|
  x_gd (x_inb x2 (x_ln TM (x_rf TM o 60))) <|
  if (σ.1 (x_rf TM o 60) (x_ix x2)) ≤ (σ.1 (x_rf TM o 60) (x_ix x3)) then
    x_gd (x_inb x2 (x_ln TM (x_rf TM o 60))) <|
    x_gd (x_inb x3 (x_ln TM (x_rf TM o 60))) <|
    x_gd (x_inb x2 (x_ln TM (x_rf TM o 60))) <|
    x_pt (x_pI σ (x_rf TM o 60) (x_ix x2) (σ.1 (x_rf TM o 60) (x_ix x3))) fun σ1 =>
    x_gd (x_inb x3 (x_ln TM (x_rf TM o 60))) <|
    x_pt (x_pI σ1 (x_rf TM o 60) (x_ix x3) (σ.1 (x_rf TM o 60) (x_ix x2))) fun σ2 =>
    F_X9_nextOrder_110 x_fuel o (x2 + (1 : Int32)) (x1 - (1 : Int32)) σ2
  else
    (F_X9_nextOrder_51 n) o x1 x2 (x3 + (-1 : Int32)) σ
def F_X9_nextOrder_41 (o : Nat) (x1 : Int32) (x2 : Int32) (σ : x_Hp) : Option (Int32 × x_Hp) :=
  if 0 ≤ x2 then
    F_X9_nextOrder_51 x_fuel o x1 x2 (x1 - (1 : Int32)) σ
  else
    some ((0 : Int32), σ)
def F_X9_nextOrder_14 : Nat → Nat → Int32 → Int32 → x_Hp → Option (Int32 × x_Hp)
  | 0, _, _, _, _ => none
  | n + 1, o, x1, x2, σ =>
  if x2 < 0 then
    F_X9_nextOrder_41 o x1 x2 σ
  else
    x_gd (x_inb x2 (x_ln TM (x_rf TM o 60))) <|
    x_gd (x_inb (x2 + (1 : Int32)) (x_ln TM (x_rf TM o 60))) <|
    if (σ.1 (x_rf TM o 60) (x_ix x2)) ≤ (σ.1 (x_rf TM o 60) (x_ix (x2 + (1 : Int32)))) then
      F_X9_nextOrder_41 o x1 x2 σ
    else
      (F_X9_nextOrder_14 n) o x1 (x2 + (-1 : Int32)) σ
def F_X9_nextOrder (o : Nat) (σ : x_Hp) : Option (Int32 × x_Hp) :=
  x_gd (x_inb (σ.1 o 18) (x_ln TM (x_rf TM o 23))) <|
  F_X9_nextOrder_14 x_fuel o (σ.1 (x_rf TM o 23) (x_ix (σ.1 o 18))) ((σ.1 (x_rf TM o 23) (x_ix (σ.1 o 18))) - (2 : Int32)) σ
def F_X9_givesAll_6 : Nat → Nat → Int32 → Int32 → x_Hp → Option (Unit × x_Hp)
  | 0, _, _, _, _ => none
  | n + 1, o, x1, x2, σ =>
  x_gd (x_inb (σ.1 o 18) (x_ln TM (x_rf TM o 23))) <|
  if (σ.1 (x_rf TM o 23) (x_ix (σ.1 o 18))) ≤ x2 then
    some ((), σ)
  else
    x_gd (x_inb x2 (x_ln TM (x_rf TM o 60))) <|
    x_b (F_X9_gives o (σ.1 (x_rf TM o 60) (x_ix x2)) x1 σ) fun _ σ2 =>
    (F_X9_givesAll_6 n) o x1 (x2 + (1 : Int32)) σ2
def F_X9_givesAll (o : Nat) (x1 : Int32) (σ : x_Hp) : Option (Unit × x_Hp) :=
  x_b (F_X9_starts o σ) fun _ σ1 =>
  F_X9_givesAll_6 x_fuel o x1 (0 : Int32) σ1
def F_X9_apartNow_58 (k11 : Nat → Int32 → Int32 → Int32 → x_Hp → Option (Int32 × x_Hp)) (o : Nat) (x1 : Int32) (x2 : Int32) (x3 : Int32) (σ : x_Hp) : Option (Int32 × x_Hp) :=
  k11 o x1 x2 (x3 + (1 : Int32)) σ
def F_X9_apartNow_41 (k11 : Nat → Int32 → Int32 → Int32 → x_Hp → Option (Int32 × x_Hp)) (o : Nat) (x1 : Int32) (x2 : Int32) (x3 : Int32) (σ : x_Hp) : Option (Int32 × x_Hp) :=
  x_gd (x_inb x3 (x_ln TM (x_rf TM o 59))) <|
  if (σ.1 (x_rf TM o 59) (x_ix x3)) ≤ x2 then
    F_X9_apartNow_58 k11 o x1 x2 x3 σ
  else
    x_gd (x_inb x3 (x_ln TM (x_rf TM o 59))) <|
    F_X9_apartNow_58 k11 o x1 (σ.1 (x_rf TM o 59) (x_ix x3)) x3 σ
def F_X9_apartNow_11 : Nat → Nat → Int32 → Int32 → Int32 → x_Hp → Option (Int32 × x_Hp)
  | 0, _, _, _, _, _ => none
  | n + 1, o, x1, x2, x3, σ =>
  x_gd (x_inb (σ.1 o 18) (x_ln TM (x_rf TM o 23))) <|
  if (σ.1 (x_rf TM o 23) (x_ix (σ.1 o 18))) ≤ x3 then
    some (x2 - x1, σ)
  else
    x_gd (x_inb x3 (x_ln TM (x_rf TM o 59))) <|
    if x1 ≤ (σ.1 (x_rf TM o 59) (x_ix x3)) then
      F_X9_apartNow_41 (F_X9_apartNow_11 n) o x1 x2 x3 σ
    else
      x_gd (x_inb x3 (x_ln TM (x_rf TM o 59))) <|
      F_X9_apartNow_41 (F_X9_apartNow_11 n) o (σ.1 (x_rf TM o 59) (x_ix x3)) x2 x3 σ
def F_X9_apartNow (o : Nat) (σ : x_Hp) : Option (Int32 × x_Hp) :=
  x_gd (x_inb (0 : Int32) (x_ln TM (x_rf TM o 59))) <|
  F_X9_apartNow_11 x_fuel o (σ.1 (x_rf TM o 59) (x_ix (0 : Int32))) (σ.1 (x_rf TM o 59) (x_ix (0 : Int32))) (1 : Int32) σ
def F_X9_luckiest_34 (k4 : Nat → Int32 → Int32 → x_Hp → Option (Int32 × x_Hp)) (o : Nat) (x1 : Int32) (x2 : Int32) (σ : x_Hp) : Option (Int32 × x_Hp) :=
  k4 o x1 (x2 + (1 : Int32)) σ
def F_X9_luckiest_4 : Nat → Nat → Int32 → Int32 → x_Hp → Option (Int32 × x_Hp)
  | 0, _, _, _, _ => none
  | n + 1, o, x1, x2, σ =>
  x_gd (x_inb (σ.1 o 18) (x_ln TM (x_rf TM o 23))) <|
  if (σ.1 (x_rf TM o 23) (x_ix (σ.1 o 18))) ≤ x2 then
    some (x1, σ)
  else
    x_gd (x_inb x2 (x_ln TM (x_rf TM o 58))) <|
    x_gd (x_inb x1 (x_ln TM (x_rf TM o 58))) <|
    if (σ.1 (x_rf TM o 58) (x_ix x1)) ≤ (σ.1 (x_rf TM o 58) (x_ix x2)) then
      F_X9_luckiest_34 (F_X9_luckiest_4 n) o x1 x2 σ
    else
      F_X9_luckiest_34 (F_X9_luckiest_4 n) o x2 x2 σ
def F_X9_luckiest (o : Nat) (σ : x_Hp) : Option (Int32 × x_Hp) :=
  F_X9_luckiest_4 x_fuel o (0 : Int32) (1 : Int32) σ
def F_X9_fillsOrders_189 (k42 : Nat → Int32 → Int32 → x_Hp → Option (Unit × x_Hp)) (o : Nat) (x1 : Int32) (σ : x_Hp) : Option (Unit × x_Hp) :=
  x_b (F_X9_nextOrder o σ) fun v16 σ16 =>
  k42 o x1 v16 σ16
def F_X9_fillsOrders_171 (k42 : Nat → Int32 → Int32 → x_Hp → Option (Unit × x_Hp)) (o : Nat) (x1 : Int32) (σ : x_Hp) : Option (Unit × x_Hp) :=
  x_b (F_X9_apartNow o σ) fun v13 σ13 =>
  x_pt (x_pI σ13 o 65 v13) fun σ14 =>
  x_gd (x_inb (0 : Int32) (x_ln TM (x_rf TM o 60))) <|
  x_pt (x_pI σ14 o 66 (σ14.1 (x_rf TM o 60) (x_ix (0 : Int32)))) fun σ15 =>
  F_X9_fillsOrders_189 k42 o x1 σ15
def F_X9_fillsOrders_140 (k42 : Nat → Int32 → Int32 → x_Hp → Option (Unit × x_Hp)) (o : Nat) (x1 : Int32) (σ : x_Hp) : Option (Unit × x_Hp) :=
  x_b (F_X9_luckiest o σ) fun v10 σ10 =>
  x_gd (x_inb v10 (x_ln TM (x_rf TM o 64))) <|
  x_gd (x_inb v10 (x_ln TM (x_rf TM o 64))) <|
  x_pt (x_pI σ10 (x_rf TM o 64) (x_ix v10) ((σ10.1 (x_rf TM o 64) (x_ix v10)) + (1 : Int32))) fun σ11 =>
  if (σ11.1 o 65) < 0 then
    F_X9_fillsOrders_171 k42 o x1 σ11
  else
    x_b (F_X9_apartNow o σ11) fun v12 σ12 =>
    if (σ12.1 o 65) ≤ v12 then
      F_X9_fillsOrders_189 k42 o x1 σ12
    else
      F_X9_fillsOrders_171 k42 o x1 σ12
def F_X9_fillsOrders_103 (k42 : Nat → Int32 → Int32 → x_Hp → Option (Unit × x_Hp)) (o : Nat) (x1 : Int32) (σ : x_Hp) : Option (Unit × x_Hp) :=
  if (σ.1 o 57) < 0 then
    F_X9_fillsOrders_140 k42 o x1 σ
  else
    x_gd (x_inb (((6 : Int32) * (σ.1 o 18)) + (σ.1 o 57)) (x_ln TM (x_rf TM o 28))) <|
    if (σ.1 (x_rf TM o 28) (x_ix (((6 : Int32) * (σ.1 o 18)) + (σ.1 o 57)))) = 0 then
      F_X9_fillsOrders_140 k42 o x1 σ
    else
      x_pt (x_pI σ o 63 ((σ.1 o 63) + (1 : Int32))) fun σ8 =>
      F_X9_fillsOrders_140 k42 o x1 σ8
def F_X9_fillsOrders_79 (k42 : Nat → Int32 → Int32 → x_Hp → Option (Unit × x_Hp)) : Nat → Nat → Int32 → Int32 → x_Hp → Option (Unit × x_Hp)
  | 0, _, _, _, _ => none
  | n + 1, o, x1, x3, σ =>
  if (6 : Int32) ≤ x3 then
    F_X9_fillsOrders_103 k42 o x1 σ
  else
    x_gd (x_inb x3 (x_ln TM (x_rf TM o 60))) <|
    x_gd (x_inb x3 (x_ln TM (x_rf TM o 62))) <|
    x_pt (x_pI σ (x_rf TM o 62) (x_ix x3) (σ.1 (x_rf TM o 60) (x_ix x3))) fun σ9 =>
    (F_X9_fillsOrders_79 k42 n) o x1 (x3 + (1 : Int32)) σ9
def F_X9_fillsOrders_69 (k42 : Nat → Int32 → Int32 → x_Hp → Option (Unit × x_Hp)) (o : Nat) (x1 : Int32) (σ : x_Hp) : Option (Unit × x_Hp) :=
  x_pt (x_pI σ o 61 (σ.1 o 56)) fun σ7 =>
  F_X9_fillsOrders_79 k42 x_fuel o x1 (0 : Int32) σ7
def F_X9_fillsOrders_42 : Nat → Nat → Int32 → Int32 → x_Hp → Option (Unit × x_Hp)
  | 0, _, _, _, _ => none
  | n + 1, o, x1, x2, σ =>
  if x2 = 0 then
    some ((), σ)
  else
    x_b (F_X9_givesAll o x1 σ) fun _ σ6 =>
    if (σ6.1 o 61) < 0 then
      F_X9_fillsOrders_69 (F_X9_fillsOrders_42 n) o x1 σ6
    else
      if (σ6.1 o 61) ≤ (σ6.1 o 56) then
        F_X9_fillsOrders_103 (F_X9_fillsOrders_42 n) o x1 σ6
      else
        F_X9_fillsOrders_69 (F_X9_fillsOrders_42 n) o x1 σ6
def F_X9_fillsOrders_21 : Nat → Nat → Int32 → Int32 → x_Hp → Option (Unit × x_Hp)
  | 0, _, _, _, _ => none
  | n + 1, o, x1, x2, σ =>
  if (6 : Int32) ≤ x2 then
    F_X9_fillsOrders_42 x_fuel o x1 (1 : Int32) σ
  else
    x_gd (x_inb x2 (x_ln TM (x_rf TM o 64))) <|
    x_pt (x_pI σ (x_rf TM o 64) (x_ix x2) (0 : Int32)) fun σ5 =>
    (F_X9_fillsOrders_21 n) o x1 (x2 + (1 : Int32)) σ5
def F_X9_fillsOrders (o : Nat) (x1 : Int32) (σ : x_Hp) : Option (Unit × x_Hp) :=
  x_b (F_X9_firstOrder o σ) fun _ σ1 =>
  x_pt (x_pI σ1 o 61 (-1 : Int32)) fun σ2 =>
  x_pt (x_pI σ2 o 65 (-1 : Int32)) fun σ3 =>
  x_pt (x_pI σ3 o 63 (0 : Int32)) fun σ4 =>
  F_X9_fillsOrders_21 x_fuel o x1 (0 : Int32) σ4
def F_X9_isShort (x0 : Int32) (σ : x_Hp) : Option (Int32 × x_Hp) :=
  x_b (F_X9_in x0 (1 : Int32) (10 : Int32) σ) fun v1 σ1 =>
  x_gd (x_isz v1) <|
  some (v1, σ1)
def F_X9_order (o : Nat) (x1 : Int32) (σ : x_Hp) : Option (Int32 × x_Hp) :=
  x_b (F_X9_isShort x1 σ) fun v1 σ1 =>
  if v1 = 0 then
    some ((-1 : Int32), σ1)
  else
    x_b (F_X9_isAwake o σ1) fun v2 σ2 =>
    if v2 = 0 then
      some ((-2 : Int32), σ2)
    else
      x_b (F_X9_fillsOrders o x1 σ2) fun _ σ3 =>
      some (σ3.1 o 61, σ3)
def F_X9_orderAt (o : Nat) (x1 : Int32) (x2 : Int32) (σ : x_Hp) : Option (Int32 × x_Hp) :=
  x_b (F_X9_isShort x1 σ) fun v1 σ1 =>
  if v1 = 0 then
    some ((-1 : Int32), σ1)
  else
    if 0 ≤ x2 then
      x_b (F_X9_isAwake o σ1) fun v2 σ2 =>
      if v2 = 0 then
        some ((-2 : Int32), σ2)
      else
        x_b (F_X9_fillsOrders o x1 σ2) fun _ σ3 =>
        x_gd (x_inb (σ3.1 o 18) (x_ln TM (x_rf TM o 23))) <|
        if (σ3.1 (x_rf TM o 23) (x_ix (σ3.1 o 18))) ≤ x2 then
          some ((-1 : Int32), σ3)
        else
          x_gd (x_inb x2 (x_ln TM (x_rf TM o 62))) <|
          some (σ3.1 (x_rf TM o 62) (x_ix x2), σ3)
    else
      some ((-1 : Int32), σ1)
def F_X9_sitters (o : Nat) (x1 : Int32) (σ : x_Hp) : Option (Int32 × x_Hp) :=
  x_b (F_X9_isShort x1 σ) fun v1 σ1 =>
  if v1 = 0 then
    some ((-1 : Int32), σ1)
  else
    x_b (F_X9_isAwake o σ1) fun v2 σ2 =>
    if v2 = 0 then
      some ((-2 : Int32), σ2)
    else
      x_b (F_X9_fillsOrders o x1 σ2) fun _ σ3 =>
      some (σ3.1 o 63, σ3)
def F_X9_luck (o : Nat) (x1 : Int32) (x2 : Int32) (σ : x_Hp) : Option (Int32 × x_Hp) :=
  x_b (F_X9_isAunt o x1 σ) fun v1 σ1 =>
  if v1 = 0 then
    some ((-1 : Int32), σ1)
  else
    x_b (F_X9_isShort x2 σ1) fun v2 σ2 =>
    if v2 = 0 then
      some ((-1 : Int32), σ2)
    else
      x_b (F_X9_isAwake o σ2) fun v3 σ3 =>
      if v3 = 0 then
        some ((-2 : Int32), σ3)
      else
        x_b (F_X9_fillsOrders o x2 σ3) fun _ σ4 =>
        x_gd (x_inb x1 (x_ln TM (x_rf TM o 64))) <|
        some (σ4.1 (x_rf TM o 64) (x_ix x1), σ4)
def F_X9_fairest (o : Nat) (x1 : Int32) (x2 : Int32) (σ : x_Hp) : Option (Int32 × x_Hp) :=
  x_b (F_X9_isShort x1 σ) fun v1 σ1 =>
  if v1 = 0 then
    some ((-1 : Int32), σ1)
  else
    x_b (F_X9_in x2 (0 : Int32) (1 : Int32) σ1) fun v2 σ2 =>
    if v2 = 0 then
      some ((-1 : Int32), σ2)
    else
      x_b (F_X9_isAwake o σ2) fun v3 σ3 =>
      if v3 = 0 then
        some ((-2 : Int32), σ3)
      else
        x_b (F_X9_fillsOrders o x1 σ3) fun _ σ4 =>
        if x2 = 0 then
          some (σ4.1 o 65, σ4)
        else
          some (σ4.1 o 66, σ4)
def F_X9_leftOut_117 (k36 : Nat → Int32 → Int32 → Int32 → Int32 → Int32 → x_Hp → Option (Int32 × x_Hp)) (o : Nat) (x1 : Int32) (x2 : Int32) (x3 : Int32) (x4 : Int32) (x5 : Int32) (σ : x_Hp) : Option (Int32 × x_Hp) :=
  k36 o x1 x2 x3 x4 (x5 + (1 : Int32)) σ
def F_X9_leftOut_108 (k36 : Nat → Int32 → Int32 → Int32 → Int32 → Int32 → x_Hp → Option (Int32 × x_Hp)) (o : Nat) (x1 : Int32) (x2 : Int32) (x5 : Int32) (σ : x_Hp) : Option (Int32 × x_Hp) :=
  F_X9_leftOut_117 k36 o x1 x2 x5 (σ.1 o 56) x5 σ
def F_X9_leftOut_85 (k36 : Nat → Int32 → Int32 → Int32 → Int32 → Int32 → x_Hp → Option (Int32 × x_Hp)) (k57 : Nat → Int32 → Int32 → Int32 → Int32 → Int32 → Int32 → x_Hp → Option (Int32 × x_Hp)) (o : Nat) (x1 : Int32) (x2 : Int32) (x3 : Int32) (x4 : Int32) (x5 : Int32) (x6 : Int32) (σ : x_Hp) : Option (Int32 × x_Hp) :=
  k57 o x1 x2 x3 x4 x5 (x6 + (1 : Int32)) σ
def F_X9_leftOut_57 (k36 : Nat → Int32 → Int32 → Int32 → Int32 → Int32 → x_Hp → Option (Int32 × x_Hp)) : Nat → Nat → Int32 → Int32 → Int32 → Int32 → Int32 → Int32 → x_Hp → Option (Int32 × x_Hp)
  | 0, _, _, _, _, _, _, _, _ => none
  | n + 1, o, x1, x2, x3, x4, x5, x6, σ =>
  x_gd (x_inb (σ.1 o 18) (x_ln TM (x_rf TM o 23))) <|
  if (σ.1 (x_rf TM o 23) (x_ix (σ.1 o 18))) ≤ x6 then
    if x4 < 0 then
      F_X9_leftOut_108 k36 o x1 x2 x5 σ
    else
      if (σ.1 o 56) < x4 then
        F_X9_leftOut_108 k36 o x1 x2 x5 σ
      else
        F_X9_leftOut_117 k36 o x1 x2 x3 x4 x5 σ
  else
    if x6 = x5 then
      F_X9_leftOut_85 k36 (F_X9_leftOut_57 k36 n) o x1 x2 x3 x4 x5 x6 σ
    else
      x_b (F_X9_gives o x6 x1 σ) fun _ σ5 =>
      F_X9_leftOut_85 k36 (F_X9_leftOut_57 k36 n) o x1 x2 x3 x4 x5 x6 σ5
def F_X9_leftOut_36 : Nat → Nat → Int32 → Int32 → Int32 → Int32 → Int32 → x_Hp → Option (Int32 × x_Hp)
  | 0, _, _, _, _, _, _, _ => none
  | n + 1, o, x1, x2, x3, x4, x5, σ =>
  x_gd (x_inb (σ.1 o 18) (x_ln TM (x_rf TM o 23))) <|
  if (σ.1 (x_rf TM o 23) (x_ix (σ.1 o 18))) ≤ x5 then
    if x2 = 0 then
      some (x3, σ)
    else
      some (x4, σ)
  else
    x_b (F_X9_starts o σ) fun _ σ4 =>
    F_X9_leftOut_57 (F_X9_leftOut_36 n) x_fuel o x1 x2 x3 x4 x5 (0 : Int32) σ4
def F_X9_leftOut (o : Nat) (x1 : Int32) (x2 : Int32) (σ : x_Hp) : Option (Int32 × x_Hp) :=
  x_b (F_X9_isShort x1 σ) fun v1 σ1 =>
  if v1 = 0 then
    some ((-1 : Int32), σ1)
  else
    x_b (F_X9_in x2 (0 : Int32) (1 : Int32) σ1) fun v2 σ2 =>
    if v2 = 0 then
      some ((-1 : Int32), σ2)
    else
      x_b (F_X9_isAwake o σ2) fun v3 σ3 =>
      if v3 = 0 then
        some ((-2 : Int32), σ3)
      else
        F_X9_leftOut_36 x_fuel o x1 x2 (0 : Int32) (-1 : Int32) (0 : Int32) σ3
def F_X9_cryIf_74 (o : Nat) (x2 : Int32) (σ : x_Hp) : Option (Int32 × x_Hp) :=
  x_b (F_X9_cries o x2 σ) fun v6 σ6 =>
  some (v6, σ6)
def F_X9_cryIf_62 (o : Nat) (x1 : Int32) (x2 : Int32) (σ : x_Hp) : Option (Int32 × x_Hp) :=
  if x1 ≤ (3 : Int32) then
    F_X9_cryIf_74 o x2 σ
  else
    x_b (F_X9_hands o (x1 - (4 : Int32)) σ) fun _ σ5 =>
    F_X9_cryIf_74 o x2 σ5
def F_X9_cryIf_43 (o : Nat) (x1 : Int32) (x2 : Int32) (σ : x_Hp) : Option (Int32 × x_Hp) :=
  if x1 ≤ (3 : Int32) then
    F_X9_cryIf_62 o x1 x2 σ
  else
    x_gd (x_inb (4 : Int32) (x_ln TM (x_rf TM o 49))) <|
    if (x1 - (4 : Int32)) = (σ.1 (x_rf TM o 49) (x_ix (4 : Int32))) then
      some ((-1 : Int32), σ)
    else
      F_X9_cryIf_62 o x1 x2 σ
def F_X9_cryIf_22 (o : Nat) (x1 : Int32) (x2 : Int32) (σ : x_Hp) : Option (Int32 × x_Hp) :=
  if x1 = (3 : Int32) then
    x_gd (x_inb (9 : Int32) (x_ln TM (x_rf TM o 49))) <|
    x_gd (x_inb (9 : Int32) (x_ln TM (x_rf TM o 49))) <|
    x_pt (x_pI σ (x_rf TM o 49) (x_ix (9 : Int32)) ((1 : Int32) - (σ.1 (x_rf TM o 49) (x_ix (9 : Int32))))) fun σ4 =>
    F_X9_cryIf_43 o x1 x2 σ4
  else
    F_X9_cryIf_43 o x1 x2 σ
def F_X9_cryIf_13 (o : Nat) (x1 : Int32) (x2 : Int32) (σ : x_Hp) : Option (Int32 × x_Hp) :=
  if x1 = (2 : Int32) then
    x_b (F_X9_fallsAsleep o σ) fun _ σ3 =>
    F_X9_cryIf_22 o x1 x2 σ3
  else
    F_X9_cryIf_22 o x1 x2 σ
def F_X9_cryIf (o : Nat) (x1 : Int32) (x2 : Int32) (σ : x_Hp) : Option (Int32 × x_Hp) :=
  x_b (F_X9_copies o σ) fun _ σ1 =>
  if x1 = (1 : Int32) then
    x_b (F_X9_feedsNow o σ1) fun _ σ2 =>
    F_X9_cryIf_13 o x1 x2 σ2
  else
    F_X9_cryIf_13 o x1 x2 σ1
def F_X9_wants_91 (k44 : Nat → Int32 → Int32 → Int32 → Int32 → Int32 → x_Hp → Option (Int32 × x_Hp)) (o : Nat) (x1 : Int32) (x2 : Int32) (x3 : Int32) (x4 : Int32) (x5 : Int32) (σ : x_Hp) : Option (Int32 × x_Hp) :=
  k44 o x1 x2 x3 x4 (x5 + (1 : Int32)) σ
def F_X9_wants_44 : Nat → Nat → Int32 → Int32 → Int32 → Int32 → Int32 → x_Hp → Option (Int32 × x_Hp)
  | 0, _, _, _, _, _, _, _ => none
  | n + 1, o, x1, x2, x3, x4, x5, σ =>
  x_gd (x_inb (σ.1 o 18) (x_ln TM (x_rf TM o 23))) <|
  if ((4 : Int32) + (σ.1 (x_rf TM o 23) (x_ix (σ.1 o 18)))) ≤ x5 then
    if x2 = 0 then
      some (x3, σ)
    else
      some (x4, σ)
  else
    x_b (F_X9_cryIf o x5 x1 σ) fun v5 σ5 =>
    if v5 < 0 then
      F_X9_wants_91 (F_X9_wants_44 n) o x1 x2 x3 x4 x5 σ5
    else
      if v5 < x4 then
        F_X9_wants_91 (F_X9_wants_44 n) o x1 x2 x5 v5 x5 σ5
      else
        F_X9_wants_91 (F_X9_wants_44 n) o x1 x2 x3 x4 x5 σ5
def F_X9_wants (o : Nat) (x1 : Int32) (x2 : Int32) (σ : x_Hp) : Option (Int32 × x_Hp) :=
  x_b (F_X9_in x1 (1 : Int32) (120 : Int32) σ) fun v1 σ1 =>
  if v1 = 0 then
    some ((-1 : Int32), σ1)
  else
    x_b (F_X9_in x2 (0 : Int32) (1 : Int32) σ1) fun v2 σ2 =>
    if v2 = 0 then
      some ((-1 : Int32), σ2)
    else
      x_b (F_X9_isAwake o σ2) fun v3 σ3 =>
      if v3 = 0 then
        some ((-2 : Int32), σ3)
      else
        x_b (F_X9_cryIf o (0 : Int32) x1 σ3) fun v4 σ4 =>
        F_X9_wants_44 x_fuel o x1 x2 (0 : Int32) v4 (1 : Int32) σ4
def F_X9_cryInSight (o : Nat) (x1 : Int32) (x2 : Int32) (σ : x_Hp) : Option (Int32 × x_Hp) :=
  x_b (F_X9_copies o σ) fun _ σ1 =>
  x_gd (x_inb (9 : Int32) (x_ln TM (x_rf TM o 49))) <|
  x_pt (x_pI σ1 (x_rf TM o 49) (x_ix (9 : Int32)) (1 : Int32)) fun σ2 =>
  x_b (F_X9_cries o x1 σ2) fun v3 σ3 =>
  x_gd (x_inb (9 : Int32) (x_ln TM (x_rf TM o 49))) <|
  x_pt (x_pI σ3 (x_rf TM o 49) (x_ix (9 : Int32)) (0 : Int32)) fun σ4 =>
  x_b (F_X9_cries o (x2 - x1) σ4) fun v5 σ5 =>
  some (v3 + v5, σ5)
def F_X9_moment (o : Nat) (x1 : Int32) (σ : x_Hp) : Option (Int32 × x_Hp) :=
  x_b (F_X9_in x1 (1 : Int32) (120 : Int32) σ) fun v1 σ1 =>
  if v1 = 0 then
    some ((-100000 : Int32), σ1)
  else
    x_b (F_X9_cryInSight o (1 : Int32) x1 σ1) fun v2 σ2 =>
    x_b (F_X9_cryInSight o (0 : Int32) x1 σ2) fun v3 σ3 =>
    some (v2 - v3, σ3)
def F_X9_inSight_66 (k29 : Nat → Int32 → Int32 → Int32 → Int32 → Int32 → x_Hp → Option (Int32 × x_Hp)) (o : Nat) (x1 : Int32) (x2 : Int32) (x3 : Int32) (x4 : Int32) (x5 : Int32) (σ : x_Hp) : Option (Int32 × x_Hp) :=
  k29 o x1 x2 x3 x4 (x5 + (1 : Int32)) σ
def F_X9_inSight_59 (k29 : Nat → Int32 → Int32 → Int32 → Int32 → Int32 → x_Hp → Option (Int32 × x_Hp)) (o : Nat) (x1 : Int32) (x2 : Int32) (x5 : Int32) (x6 : Int32) (σ : x_Hp) : Option (Int32 × x_Hp) :=
  F_X9_inSight_66 k29 o x1 x2 x5 x6 x5 σ
def F_X9_inSight_29 : Nat → Nat → Int32 → Int32 → Int32 → Int32 → Int32 → x_Hp → Option (Int32 × x_Hp)
  | 0, _, _, _, _, _, _, _ => none
  | n + 1, o, x1, x2, x3, x4, x5, σ =>
  if x1 < x5 then
    if x2 = 0 then
      some (x3, σ)
    else
      some (x4, σ)
  else
    x_b (F_X9_cryInSight o x5 x1 σ) fun v3 σ3 =>
    if x4 < 0 then
      F_X9_inSight_59 (F_X9_inSight_29 n) o x1 x2 x5 v3 σ3
    else
      if v3 < x4 then
        F_X9_inSight_59 (F_X9_inSight_29 n) o x1 x2 x5 v3 σ3
      else
        F_X9_inSight_66 (F_X9_inSight_29 n) o x1 x2 x3 x4 x5 σ3
def F_X9_inSight (o : Nat) (x1 : Int32) (x2 : Int32) (σ : x_Hp) : Option (Int32 × x_Hp) :=
  x_b (F_X9_in x1 (1 : Int32) (60 : Int32) σ) fun v1 σ1 =>
  if v1 = 0 then
    some ((-1 : Int32), σ1)
  else
    x_b (F_X9_in x2 (0 : Int32) (1 : Int32) σ1) fun v2 σ2 =>
    if v2 = 0 then
      some ((-1 : Int32), σ2)
    else
      F_X9_inSight_29 x_fuel o x1 x2 (0 : Int32) (-1 : Int32) (0 : Int32) σ2
def F_X9_beat_115 (k48 : Nat → Int32 → Int32 → Int32 → Int32 → Int32 → Int32 → x_Hp → Option (Int32 × x_Hp)) (o : Nat) (x1 : Int32) (x2 : Int32) (x3 : Int32) (x4 : Int32) (x5 : Int32) (x6 : Int32) (σ : x_Hp) : Option (Int32 × x_Hp) :=
  k48 o x1 x2 x3 x4 x5 (x6 + (1 : Int32)) σ
def F_X9_beat_107 (k48 : Nat → Int32 → Int32 → Int32 → Int32 → Int32 → Int32 → x_Hp → Option (Int32 × x_Hp)) (o : Nat) (x1 : Int32) (x2 : Int32) (x3 : Int32) (x6 : Int32) (x7 : Int32) (σ : x_Hp) : Option (Int32 × x_Hp) :=
  F_X9_beat_115 k48 o x1 x2 x3 x6 x7 x6 σ
def F_X9_beat_74 (k48 : Nat → Int32 → Int32 → Int32 → Int32 → Int32 → Int32 → x_Hp → Option (Int32 × x_Hp)) (o : Nat) (x1 : Int32) (x2 : Int32) (x3 : Int32) (x4 : Int32) (x5 : Int32) (x6 : Int32) (σ : x_Hp) : Option (Int32 × x_Hp) :=
  x_pt (x_pI σ o 51 x1) fun σ7 =>
  x_pt (x_pI σ7 o 52 x6) fun σ8 =>
  x_b (F_X9_cries o x2 σ8) fun v9 σ9 =>
  if x5 < 0 then
    F_X9_beat_107 k48 o x1 x2 x3 x6 v9 σ9
  else
    if v9 < x5 then
      F_X9_beat_107 k48 o x1 x2 x3 x6 v9 σ9
    else
      F_X9_beat_115 k48 o x1 x2 x3 x4 x5 x6 σ9
def F_X9_beat_48 : Nat → Nat → Int32 → Int32 → Int32 → Int32 → Int32 → Int32 → x_Hp → Option (Int32 × x_Hp)
  | 0, _, _, _, _, _, _, _, _ => none
  | n + 1, o, x1, x2, x3, x4, x5, x6, σ =>
  if (10 : Int32) ≤ x6 then
    if x3 = 0 then
      some (x4, σ)
    else
      some (x5, σ)
  else
    x_b (F_X9_copies o σ) fun _ σ5 =>
    x_gd (x_inb (4 : Int32) (x_ln TM (x_rf TM o 49))) <|
    if (σ5.1 (x_rf TM o 49) (x_ix (4 : Int32))) = x1 then
      F_X9_beat_74 (F_X9_beat_48 n) o x1 x2 x3 x4 x5 x6 σ5
    else
      x_b (F_X9_hands o x1 σ5) fun _ σ6 =>
      F_X9_beat_74 (F_X9_beat_48 n) o x1 x2 x3 x4 x5 x6 σ6
def F_X9_beat (o : Nat) (x1 : Int32) (x2 : Int32) (x3 : Int32) (σ : x_Hp) : Option (Int32 × x_Hp) :=
  x_b (F_X9_isAunt o x1 σ) fun v1 σ1 =>
  if v1 = 0 then
    some ((-1 : Int32), σ1)
  else
    x_b (F_X9_in x2 (1 : Int32) (120 : Int32) σ1) fun v2 σ2 =>
    if v2 = 0 then
      some ((-1 : Int32), σ2)
    else
      x_b (F_X9_in x3 (0 : Int32) (1 : Int32) σ2) fun v3 σ3 =>
      if v3 = 0 then
        some ((-1 : Int32), σ3)
      else
        x_b (F_X9_isAwake o σ3) fun v4 σ4 =>
        if v4 = 0 then
          some ((-2 : Int32), σ4)
        else
          F_X9_beat_48 x_fuel o x1 x2 x3 (0 : Int32) (-1 : Int32) (0 : Int32) σ4
def F_X9_fewestOther_54 (k4 : Nat → Int32 → Int32 → x_Hp → Option (Int32 × x_Hp)) (o : Nat) (x1 : Int32) (x2 : Int32) (σ : x_Hp) : Option (Int32 × x_Hp) :=
  k4 o x1 (x2 + (1 : Int32)) σ
def F_X9_fewestOther_52 (k4 : Nat → Int32 → Int32 → x_Hp → Option (Int32 × x_Hp)) (o : Nat) (x2 : Int32) (σ : x_Hp) : Option (Int32 × x_Hp) :=
  F_X9_fewestOther_54 k4 o x2 x2 σ
def F_X9_fewestOther_4 : Nat → Nat → Int32 → Int32 → x_Hp → Option (Int32 × x_Hp)
  | 0, _, _, _, _ => none
  | n + 1, o, x1, x2, σ =>
  x_gd (x_inb (σ.1 o 18) (x_ln TM (x_rf TM o 23))) <|
  if (σ.1 (x_rf TM o 23) (x_ix (σ.1 o 18))) ≤ x2 then
    some (x1, σ)
  else
    x_gd (x_inb (4 : Int32) (x_ln TM (x_rf TM o 49))) <|
    if x2 = (σ.1 (x_rf TM o 49) (x_ix (4 : Int32))) then
      F_X9_fewestOther_54 (F_X9_fewestOther_4 n) o x1 x2 σ
    else
      if x1 < 0 then
        F_X9_fewestOther_52 (F_X9_fewestOther_4 n) o x2 σ
      else
        x_gd (x_inb ((20 : Int32) + x2) (x_ln TM (x_rf TM o 49))) <|
        x_gd (x_inb ((20 : Int32) + x1) (x_ln TM (x_rf TM o 49))) <|
        if (σ.1 (x_rf TM o 49) (x_ix ((20 : Int32) + x1))) ≤ (σ.1 (x_rf TM o 49) (x_ix ((20 : Int32) + x2))) then
          F_X9_fewestOther_54 (F_X9_fewestOther_4 n) o x1 x2 σ
        else
          F_X9_fewestOther_52 (F_X9_fewestOther_4 n) o x2 σ
def F_X9_fewestOther (o : Nat) (σ : x_Hp) : Option (Int32 × x_Hp) :=
  F_X9_fewestOther_4 x_fuel o (-1 : Int32) (0 : Int32) σ
def F_X9_rounds_121 (k7 : Nat → Int32 → Int32 → Int32 → Int32 → x_Hp → Option (Unit × x_Hp)) (o : Nat) (x1 : Int32) (x2 : Int32) (x3 : Int32) (x4 : Int32) (σ : x_Hp) : Option (Unit × x_Hp) :=
  x_b (F_X9_minuteGoes o σ) fun _ σ3 =>
  k7 o x1 x2 x3 (x4 + (1 : Int32)) σ3
def F_X9_rounds_118 (k7 : Nat → Int32 → Int32 → Int32 → Int32 → x_Hp → Option (Unit × x_Hp)) (o : Nat) (x1 : Int32) (x2 : Int32) (x3 : Int32) (x4 : Int32) (s0 : Int32) (s1 : Nat) (σ : x_Hp) : Option (Unit × x_Hp) :=
  x_b (F_X9_hands s1 s0 σ) fun _ σ4 =>
  F_X9_rounds_121 k7 o x1 x2 x3 x4 σ4
def F_X9_rounds_57 (k7 : Nat → Int32 → Int32 → Int32 → Int32 → x_Hp → Option (Unit × x_Hp)) (o : Nat) (x1 : Int32) (x2 : Int32) (x3 : Int32) (x4 : Int32) (s0 : Int32) (σ : x_Hp) : Option (Unit × x_Hp) :=
  if s0 = 0 then
    F_X9_rounds_121 k7 o x1 x2 x3 x4 σ
  else
    x_gd (x_inb (7 : Int32) (x_ln TM (x_rf TM o 49))) <|
    if (σ.1 (x_rf TM o 49) (x_ix (7 : Int32))) = 0 then
      x_gd (x_inb (σ.1 o 18) (x_ln TM (x_rf TM o 23))) <|
      if (σ.1 (x_rf TM o 23) (x_ix (σ.1 o 18))) ≤ (1 : Int32) then
        F_X9_rounds_121 k7 o x1 x2 x3 x4 σ
      else
        if x1 = (2 : Int32) then
          x_b (F_X9_fewestOther o σ) fun v2 σ2 =>
          F_X9_rounds_118 k7 o x1 x2 x3 x4 v2 o σ2
        else
          x_gd (x_inb (4 : Int32) (x_ln TM (x_rf TM o 49))) <|
          x_gd (x_inb (σ.1 o 18) (x_ln TM (x_rf TM o 23))) <|
          x_gd (!decide ((σ.1 (x_rf TM o 23) (x_ix (σ.1 o 18))) = 0)) <|
          F_X9_rounds_118 k7 o x1 x2 x3 x4 (((σ.1 (x_rf TM o 49) (x_ix (4 : Int32))) + (1 : Int32)) - ((σ.1 (x_rf TM o 49) (x_ix (4 : Int32))) + (1 : Int32)) / (σ.1 (x_rf TM o 23) (x_ix (σ.1 o 18))) * (σ.1 (x_rf TM o 23) (x_ix (σ.1 o 18)))) o σ
    else
      F_X9_rounds_121 k7 o x1 x2 x3 x4 σ
def F_X9_rounds_56 (k7 : Nat → Int32 → Int32 → Int32 → Int32 → x_Hp → Option (Unit × x_Hp)) (o : Nat) (x1 : Int32) (x2 : Int32) (x3 : Int32) (x4 : Int32) (σ : x_Hp) : Option (Unit × x_Hp) :=
  F_X9_rounds_57 k7 o x1 x2 x3 x4 (0 : Int32) σ
def F_X9_rounds_7 : Nat → Nat → Int32 → Int32 → Int32 → Int32 → x_Hp → Option (Unit × x_Hp)
  | 0, _, _, _, _, _, _ => none
  | n + 1, o, x1, x2, x3, x4, σ =>
  if x3 ≤ x4 then
    some ((), σ)
  else
    if x1 = (1 : Int32) then
      x_gd (x_inb (6 : Int32) (x_ln TM (x_rf TM o 49))) <|
      if (σ.1 (x_rf TM o 49) (x_ix (6 : Int32))) < x2 then
        F_X9_rounds_57 (F_X9_rounds_7 n) o x1 x2 x3 x4 (0 : Int32) σ
      else
        F_X9_rounds_57 (F_X9_rounds_7 n) o x1 x2 x3 x4 (1 : Int32) σ
    else
      if x1 = (3 : Int32) then
        F_X9_rounds_56 (F_X9_rounds_7 n) o x1 x2 x3 x4 σ
      else
        x_gd (x_inb (5 : Int32) (x_ln TM (x_rf TM o 49))) <|
        if (σ.1 (x_rf TM o 49) (x_ix (5 : Int32))) < x2 then
          F_X9_rounds_56 (F_X9_rounds_7 n) o x1 x2 x3 x4 σ
        else
          F_X9_rounds_57 (F_X9_rounds_7 n) o x1 x2 x3 x4 (1 : Int32) σ
def F_X9_rounds (o : Nat) (x1 : Int32) (x2 : Int32) (x3 : Int32) (σ : x_Hp) : Option (Unit × x_Hp) :=
  x_b (F_X9_copies o σ) fun _ σ1 =>
  F_X9_rounds_7 x_fuel o x1 x2 x3 (0 : Int32) σ1
def F_X9_round (o : Nat) (x1 : Int32) (x2 : Int32) (x3 : Int32) (x4 : Int32) (σ : x_Hp) : Option (Int32 × x_Hp) :=
  x_gd (x_inb (σ.1 o 18) (x_ln TM (x_rf TM o 23))) <|
  if (σ.1 (x_rf TM o 23) (x_ix (σ.1 o 18))) = 0 then
    some ((-1 : Int32), σ)
  else
    x_b (F_X9_in x1 (0 : Int32) (3 : Int32) σ) fun v1 σ1 =>
    if v1 = 0 then
      some ((-1 : Int32), σ1)
    else
      x_b (F_X9_in x2 (1 : Int32) (20 : Int32) σ1) fun v2 σ2 =>
      if v2 = 0 then
        some ((-1 : Int32), σ2)
      else
        x_b (F_X9_in x3 (1 : Int32) (240 : Int32) σ2) fun v3 σ3 =>
        if v3 = 0 then
          some ((-1 : Int32), σ3)
        else
          x_b (F_X9_in x4 (0 : Int32) (2 : Int32) σ3) fun v4 σ4 =>
          if v4 = 0 then
            some ((-1 : Int32), σ4)
          else
            x_b (F_X9_rounds o x1 x2 x3 σ4) fun _ σ5 =>
            if x4 = 0 then
              x_gd (x_inb (13 : Int32) (x_ln TM (x_rf TM o 49))) <|
              x_gd (x_inb (13 : Int32) (x_ln TM (x_rf TM o 48))) <|
              some ((σ5.1 (x_rf TM o 49) (x_ix (13 : Int32))) - (σ5.1 (x_rf TM o 48) (x_ix (13 : Int32))), σ5)
            else
              if x4 = (1 : Int32) then
                x_gd (x_inb (14 : Int32) (x_ln TM (x_rf TM o 49))) <|
                x_gd (x_inb (14 : Int32) (x_ln TM (x_rf TM o 48))) <|
                some ((σ5.1 (x_rf TM o 49) (x_ix (14 : Int32))) - (σ5.1 (x_rf TM o 48) (x_ix (14 : Int32))), σ5)
              else
                x_gd (x_inb (4 : Int32) (x_ln TM (x_rf TM o 49))) <|
                some (σ5.1 (x_rf TM o 49) (x_ix (4 : Int32)), σ5)
def F_X9_bestRound_111 (k41 : Nat → Int32 → Int32 → Int32 → Int32 → Int32 → x_Hp → Option (Int32 × x_Hp)) (k50 : Nat → Int32 → Int32 → Int32 → Int32 → Int32 → Int32 → x_Hp → Option (Int32 × x_Hp)) (o : Nat) (x1 : Int32) (x2 : Int32) (x3 : Int32) (x4 : Int32) (x5 : Int32) (x6 : Int32) (σ : x_Hp) : Option (Int32 × x_Hp) :=
  k50 o x1 x2 x3 x4 x5 (x6 + (1 : Int32)) σ
def F_X9_bestRound_98 (k41 : Nat → Int32 → Int32 → Int32 → Int32 → Int32 → x_Hp → Option (Int32 × x_Hp)) (k50 : Nat → Int32 → Int32 → Int32 → Int32 → Int32 → Int32 → x_Hp → Option (Int32 × x_Hp)) (o : Nat) (x1 : Int32) (x2 : Int32) (x5 : Int32) (x6 : Int32) (x7 : Int32) (σ : x_Hp) : Option (Int32 × x_Hp) :=
  F_X9_bestRound_111 k41 k50 o x1 x2 (((100 : Int32) * x5) + x6) x7 x5 x6 σ
def F_X9_bestRound_50 (k41 : Nat → Int32 → Int32 → Int32 → Int32 → Int32 → x_Hp → Option (Int32 × x_Hp)) : Nat → Nat → Int32 → Int32 → Int32 → Int32 → Int32 → Int32 → x_Hp → Option (Int32 × x_Hp)
  | 0, _, _, _, _, _, _, _, _ => none
  | n + 1, o, x1, x2, x3, x4, x5, x6, σ =>
  if (20 : Int32) < x6 then
    k41 o x1 x2 x3 x4 (x5 + (1 : Int32)) σ
  else
    x_b (F_X9_rounds o x5 x6 x1 σ) fun _ σ3 =>
    x_gd (x_inb (13 : Int32) (x_ln TM (x_rf TM o 49))) <|
    x_gd (x_inb (13 : Int32) (x_ln TM (x_rf TM o 48))) <|
    if x4 < 0 then
      F_X9_bestRound_98 k41 (F_X9_bestRound_50 k41 n) o x1 x2 x5 x6 ((σ3.1 (x_rf TM o 49) (x_ix (13 : Int32))) - (σ3.1 (x_rf TM o 48) (x_ix (13 : Int32)))) σ3
    else
      if ((σ3.1 (x_rf TM o 49) (x_ix (13 : Int32))) - (σ3.1 (x_rf TM o 48) (x_ix (13 : Int32)))) < x4 then
        F_X9_bestRound_98 k41 (F_X9_bestRound_50 k41 n) o x1 x2 x5 x6 ((σ3.1 (x_rf TM o 49) (x_ix (13 : Int32))) - (σ3.1 (x_rf TM o 48) (x_ix (13 : Int32)))) σ3
      else
        F_X9_bestRound_111 k41 (F_X9_bestRound_50 k41 n) o x1 x2 x3 x4 x5 x6 σ3
def F_X9_bestRound_41 : Nat → Nat → Int32 → Int32 → Int32 → Int32 → Int32 → x_Hp → Option (Int32 × x_Hp)
  | 0, _, _, _, _, _, _, _ => none
  | n + 1, o, x1, x2, x3, x4, x5, σ =>
  if (4 : Int32) ≤ x5 then
    if x2 = 0 then
      some (x3, σ)
    else
      some (x4, σ)
  else
    F_X9_bestRound_50 (F_X9_bestRound_41 n) x_fuel o x1 x2 x3 x4 x5 (1 : Int32) σ
def F_X9_bestRound (o : Nat) (x1 : Int32) (x2 : Int32) (σ : x_Hp) : Option (Int32 × x_Hp) :=
  x_gd (x_inb (σ.1 o 18) (x_ln TM (x_rf TM o 23))) <|
  if (σ.1 (x_rf TM o 23) (x_ix (σ.1 o 18))) = 0 then
    some ((-1 : Int32), σ)
  else
    x_b (F_X9_in x1 (1 : Int32) (120 : Int32) σ) fun v1 σ1 =>
    if v1 = 0 then
      some ((-1 : Int32), σ1)
    else
      x_b (F_X9_in x2 (0 : Int32) (1 : Int32) σ1) fun v2 σ2 =>
      if v2 = 0 then
        some ((-1 : Int32), σ2)
      else
        F_X9_bestRound_41 x_fuel o x1 x2 (0 : Int32) (-1 : Int32) (0 : Int32) σ2
def F_X9_feedAt_109 (k39 : Nat → Int32 → Int32 → Int32 → Int32 → Int32 → x_Hp → Option (Int32 × x_Hp)) (o : Nat) (x1 : Int32) (x2 : Int32) (x3 : Int32) (x4 : Int32) (x5 : Int32) (σ : x_Hp) : Option (Int32 × x_Hp) :=
  k39 o x1 x2 x3 x4 (x5 + (1 : Int32)) σ
def F_X9_feedAt_102 (k39 : Nat → Int32 → Int32 → Int32 → Int32 → Int32 → x_Hp → Option (Int32 × x_Hp)) (o : Nat) (x1 : Int32) (x2 : Int32) (x5 : Int32) (x6 : Int32) (σ : x_Hp) : Option (Int32 × x_Hp) :=
  F_X9_feedAt_109 k39 o x1 x2 x5 x6 x5 σ
def F_X9_feedAt_39 : Nat → Nat → Int32 → Int32 → Int32 → Int32 → Int32 → x_Hp → Option (Int32 × x_Hp)
  | 0, _, _, _, _, _, _, _ => none
  | n + 1, o, x1, x2, x3, x4, x5, σ =>
  if x1 ≤ x5 then
    if x2 = 0 then
      some (x3, σ)
    else
      some (x4, σ)
  else
    x_b (F_X9_copies o σ) fun _ σ4 =>
    x_b (F_X9_cries o x5 σ4) fun v5 σ5 =>
    x_gd (x_inb (7 : Int32) (x_ln TM (x_rf TM o 49))) <|
    if (σ5.1 (x_rf TM o 49) (x_ix (7 : Int32))) ≤ 0 then
      x_b (F_X9_feedsNow o σ5) fun _ σ6 =>
      x_b (F_X9_cries o (x1 - x5) σ6) fun v7 σ7 =>
      if x4 < 0 then
        F_X9_feedAt_102 (F_X9_feedAt_39 n) o x1 x2 x5 (v5 + v7) σ7
      else
        if (v5 + v7) < x4 then
          F_X9_feedAt_102 (F_X9_feedAt_39 n) o x1 x2 x5 (v5 + v7) σ7
        else
          F_X9_feedAt_109 (F_X9_feedAt_39 n) o x1 x2 x3 x4 x5 σ7
    else
      F_X9_feedAt_109 (F_X9_feedAt_39 n) o x1 x2 x3 x4 x5 σ5
def F_X9_feedAt (o : Nat) (x1 : Int32) (x2 : Int32) (σ : x_Hp) : Option (Int32 × x_Hp) :=
  x_b (F_X9_in x1 (1 : Int32) (60 : Int32) σ) fun v1 σ1 =>
  if v1 = 0 then
    some ((-1 : Int32), σ1)
  else
    x_b (F_X9_in x2 (0 : Int32) (1 : Int32) σ1) fun v2 σ2 =>
    if v2 = 0 then
      some ((-1 : Int32), σ2)
    else
      x_b (F_X9_isAwake o σ2) fun v3 σ3 =>
      if v3 = 0 then
        some ((-2 : Int32), σ3)
      else
        F_X9_feedAt_39 x_fuel o x1 x2 (0 : Int32) (-1 : Int32) (0 : Int32) σ3
def F_X9_peak_64 (k34 : Nat → Int32 → Int32 → Int32 → Int32 → Int32 → x_Hp → Option (Int32 × x_Hp)) (o : Nat) (x1 : Int32) (x2 : Int32) (x3 : Int32) (x4 : Int32) (x5 : Int32) (σ : x_Hp) : Option (Int32 × x_Hp) :=
  k34 o x1 x2 x3 x4 (x5 + (1 : Int32)) σ
def F_X9_peak_34 : Nat → Nat → Int32 → Int32 → Int32 → Int32 → Int32 → x_Hp → Option (Int32 × x_Hp)
  | 0, _, _, _, _, _, _, _ => none
  | n + 1, o, x1, x2, x3, x4, x5, σ =>
  if x1 ≤ x5 then
    if x2 = 0 then
      some (x4, σ)
    else
      some (x3, σ)
  else
    x_b (F_X9_cries o (1 : Int32) σ) fun v4 σ4 =>
    if x4 < v4 then
      F_X9_peak_64 (F_X9_peak_34 n) o x1 x2 x5 v4 x5 σ4
    else
      F_X9_peak_64 (F_X9_peak_34 n) o x1 x2 x3 x4 x5 σ4
def F_X9_peak (o : Nat) (x1 : Int32) (x2 : Int32) (σ : x_Hp) : Option (Int32 × x_Hp) :=
  x_b (F_X9_in x1 (1 : Int32) (240 : Int32) σ) fun v1 σ1 =>
  if v1 = 0 then
    some ((-1 : Int32), σ1)
  else
    x_b (F_X9_in x2 (0 : Int32) (1 : Int32) σ1) fun v2 σ2 =>
    if v2 = 0 then
      some ((-1 : Int32), σ2)
    else
      x_b (F_X9_copies o σ2) fun _ σ3 =>
      F_X9_peak_34 x_fuel o x1 x2 (0 : Int32) (-1 : Int32) (0 : Int32) σ3
def F_X9_merry_6 : Nat → Nat → Int32 → x_Hp → Option (Int32 × x_Hp)
  | 0, _, _, _ => none
  | n + 1, o, x1, σ =>
  if (240 : Int32) < x1 then
    some ((-2 : Int32), σ)
  else
    x_b (F_X9_minuteGoes o σ) fun _ σ2 =>
    x_gd (x_inb (14 : Int32) (x_ln TM (x_rf TM o 49))) <|
    x_gd (x_inb (14 : Int32) (x_ln TM (x_rf TM o 48))) <|
    if (σ2.1 (x_rf TM o 49) (x_ix (14 : Int32))) ≤ (σ2.1 (x_rf TM o 48) (x_ix (14 : Int32))) then
      (F_X9_merry_6 n) o (x1 + (1 : Int32)) σ2
    else
      some (x1, σ2)
def F_X9_merry (o : Nat) (σ : x_Hp) : Option (Int32 × x_Hp) :=
  x_b (F_X9_copies o σ) fun _ σ1 =>
  F_X9_merry_6 x_fuel o (1 : Int32) σ1
def F_X9_sleeps_6 : Nat → Nat → Int32 → x_Hp → Option (Int32 × x_Hp)
  | 0, _, _, _ => none
  | n + 1, o, x1, σ =>
  if (240 : Int32) < x1 then
    some ((-2 : Int32), σ)
  else
    x_gd (x_inb (7 : Int32) (x_ln TM (x_rf TM o 49))) <|
    if (σ.1 (x_rf TM o 49) (x_ix (7 : Int32))) ≤ 0 then
      x_b (F_X9_minuteGoes o σ) fun _ σ2 =>
      (F_X9_sleeps_6 n) o (x1 + (1 : Int32)) σ2
    else
      some (x1, σ)
def F_X9_sleeps (o : Nat) (σ : x_Hp) : Option (Int32 × x_Hp) :=
  x_b (F_X9_copies o σ) fun _ σ1 =>
  F_X9_sleeps_6 x_fuel o (0 : Int32) σ1
def F_X9_fillsRests_77 (k12 : Nat → Int32 → Int32 → Int32 → x_Hp → Option (Unit × x_Hp)) : Nat → Nat → Int32 → Int32 → Int32 → Int32 → x_Hp → Option (Unit × x_Hp)
  | 0, _, _, _, _, _, _ => none
  | n + 1, o, x1, x2, x3, x4, σ =>
  if x2 ≤ x4 then
    k12 o x1 x2 (x3 + (1 : Int32)) σ
  else
    x_gd (x_inb x4 (x_ln TM (x_rf TM o 59))) <|
    x_gd (x_inb (((6 : Int32) * x3) + x4) (x_ln TM (x_rf TM o 67))) <|
    x_pt (x_pI σ (x_rf TM o 67) (x_ix (((6 : Int32) * x3) + x4)) (σ.1 (x_rf TM o 59) (x_ix x4))) fun σ2 =>
    (F_X9_fillsRests_77 k12 n) o x1 x2 x3 (x4 + (1 : Int32)) σ2
def F_X9_fillsRests_65 (k12 : Nat → Int32 → Int32 → Int32 → x_Hp → Option (Unit × x_Hp)) (k26 : Nat → Int32 → Int32 → Int32 → Int32 → x_Hp → Option (Unit × x_Hp)) (o : Nat) (x1 : Int32) (x2 : Int32) (x3 : Int32) (x4 : Int32) (s0 : Int32) (s1 : Int32) (s2 : Nat) (σ : x_Hp) : Option (Unit × x_Hp) :=
  x_b (F_X9_gives s2 s1 s0 σ) fun _ σ3 =>
  k26 o x1 x2 x3 (x4 + (1 : Int32)) σ3
def F_X9_fillsRests_26 (k12 : Nat → Int32 → Int32 → Int32 → x_Hp → Option (Unit × x_Hp)) : Nat → Nat → Int32 → Int32 → Int32 → Int32 → x_Hp → Option (Unit × x_Hp)
  | 0, _, _, _, _, _, _ => none
  | n + 1, o, x1, x2, x3, x4, σ =>
  if x2 ≤ x4 then
    F_X9_fillsRests_77 k12 x_fuel o x1 x2 x3 (0 : Int32) σ
  else
    x_gd (x_inb (4 : Int32) (x_ln TM (x_rf TM o 48))) <|
    x_gd (!decide (x2 = 0)) <|
    if ((x3 >>> ((((σ.1 (x_rf TM o 48) (x_ix (4 : Int32))) + x4) - ((σ.1 (x_rf TM o 48) (x_ix (4 : Int32))) + x4) / x2 * x2) &&& 31)) &&& (1 : Int32)) = (1 : Int32) then
      F_X9_fillsRests_65 k12 (F_X9_fillsRests_26 k12 n) o x1 x2 x3 x4 ((2 : Int32) * x1) (((σ.1 (x_rf TM o 48) (x_ix (4 : Int32))) + x4) - ((σ.1 (x_rf TM o 48) (x_ix (4 : Int32))) + x4) / x2 * x2) o σ
    else
      F_X9_fillsRests_65 k12 (F_X9_fillsRests_26 k12 n) o x1 x2 x3 x4 x1 (((σ.1 (x_rf TM o 48) (x_ix (4 : Int32))) + x4) - ((σ.1 (x_rf TM o 48) (x_ix (4 : Int32))) + x4) / x2 * x2) o σ
def F_X9_fillsRests_12 : Nat → Nat → Int32 → Int32 → Int32 → x_Hp → Option (Unit × x_Hp)
  | 0, _, _, _, _, _ => none
  | n + 1, o, x1, x2, x3, σ =>
  if ((1 : Int32) <<< (x2 &&& 31)) ≤ x3 then
    some ((), σ)
  else
    x_b (F_X9_starts o σ) fun _ σ1 =>
    F_X9_fillsRests_26 (F_X9_fillsRests_12 n) x_fuel o x1 x2 x3 (0 : Int32) σ1
def F_X9_fillsRests (o : Nat) (x1 : Int32) (σ : x_Hp) : Option (Unit × x_Hp) :=
  x_gd (x_inb (σ.1 o 18) (x_ln TM (x_rf TM o 23))) <|
  F_X9_fillsRests_12 x_fuel o x1 (σ.1 (x_rf TM o 23) (x_ix (σ.1 o 18))) (0 : Int32) σ
def F_X9_isResting_2 : Nat → Nat → Int32 → Int32 → x_Hp → Option (Int32 × x_Hp)
  | 0, _, _, _, _ => none
  | n + 1, o, x1, x2, σ =>
  x_gd (x_inb (σ.1 o 18) (x_ln TM (x_rf TM o 23))) <|
  if (σ.1 (x_rf TM o 23) (x_ix (σ.1 o 18))) ≤ x2 then
    some ((1 : Int32), σ)
  else
    x_gd (x_inb (((6 : Int32) * (x1 ^^^ ((1 : Int32) <<< (x2 &&& 31)))) + x2) (x_ln TM (x_rf TM o 67))) <|
    x_gd (x_inb (((6 : Int32) * x1) + x2) (x_ln TM (x_rf TM o 67))) <|
    if (σ.1 (x_rf TM o 67) (x_ix (((6 : Int32) * (x1 ^^^ ((1 : Int32) <<< (x2 &&& 31)))) + x2))) ≤ (σ.1 (x_rf TM o 67) (x_ix (((6 : Int32) * x1) + x2))) then
      (F_X9_isResting_2 n) o x1 (x2 + (1 : Int32)) σ
    else
      some ((0 : Int32), σ)
def F_X9_isResting (o : Nat) (x1 : Int32) (σ : x_Hp) : Option (Int32 × x_Hp) :=
  F_X9_isResting_2 x_fuel o x1 (0 : Int32) σ
def F_X9_rests_73 (k34 : Nat → Int32 → Int32 → Int32 → x_Hp → Option (Int32 × x_Hp)) (o : Nat) (x2 : Int32) (x3 : Int32) (x4 : Int32) (σ : x_Hp) : Option (Int32 × x_Hp) :=
  k34 o x2 x3 (x4 + (1 : Int32)) σ
def F_X9_rests_34 : Nat → Nat → Int32 → Int32 → Int32 → x_Hp → Option (Int32 × x_Hp)
  | 0, _, _, _, _, _ => none
  | n + 1, o, x2, x3, x4, σ =>
  x_gd (x_inb (σ.1 o 18) (x_ln TM (x_rf TM o 23))) <|
  if ((1 : Int32) <<< ((σ.1 (x_rf TM o 23) (x_ix (σ.1 o 18))) &&& 31)) ≤ x4 then
    if x2 = (-1 : Int32) then
      some (x3, σ)
    else
      some ((-1 : Int32), σ)
  else
    x_b (F_X9_isResting o x4 σ) fun v4 σ4 =>
    if v4 = 0 then
      F_X9_rests_73 (F_X9_rests_34 n) o x2 x3 x4 σ4
    else
      if x3 = x2 then
        some (x4, σ4)
      else
        F_X9_rests_73 (F_X9_rests_34 n) o x2 (x3 + (1 : Int32)) x4 σ4
def F_X9_rests (o : Nat) (x1 : Int32) (x2 : Int32) (σ : x_Hp) : Option (Int32 × x_Hp) :=
  x_b (F_X9_isShort x1 σ) fun v1 σ1 =>
  if v1 = 0 then
    some ((-1 : Int32), σ1)
  else
    if (-1 : Int32) ≤ x2 then
      x_b (F_X9_isAwake o σ1) fun v2 σ2 =>
      if v2 = 0 then
        some ((-2 : Int32), σ2)
      else
        x_b (F_X9_fillsRests o x1 σ2) fun _ σ3 =>
        F_X9_rests_34 x_fuel o x2 (0 : Int32) (0 : Int32) σ3
    else
      some ((-1 : Int32), σ1)
def F_X9_silk_27 : Nat → Nat → Int32 → Int32 → Int32 → Int32 → x_Hp → Option (Int32 × x_Hp)
  | 0, _, _, _, _, _, _ => none
  | n + 1, o, x1, x2, x3, x4, σ =>
  if x2 ≤ x4 then
    some (x3, σ)
  else
    x_b (F_X9_copies o σ) fun _ σ3 =>
    x_pt (x_pI σ3 o 50 ((σ3.1 o 50) + x4)) fun σ4 =>
    x_b (F_X9_goes o x1 σ4) fun _ σ5 =>
    x_gd (x_inb (15 : Int32) (x_ln TM (x_rf TM o 49))) <|
    x_gd (x_inb (15 : Int32) (x_ln TM (x_rf TM o 48))) <|
    (F_X9_silk_27 n) o x1 x2 (x3 + ((σ5.1 (x_rf TM o 49) (x_ix (15 : Int32))) - (σ5.1 (x_rf TM o 48) (x_ix (15 : Int32))))) (x4 + (1 : Int32)) σ5
def F_X9_silk (o : Nat) (x1 : Int32) (x2 : Int32) (σ : x_Hp) : Option (Int32 × x_Hp) :=
  x_b (F_X9_in x1 (0 : Int32) (120 : Int32) σ) fun v1 σ1 =>
  if v1 = 0 then
    some ((-1 : Int32), σ1)
  else
    x_b (F_X9_in x2 (1 : Int32) (20 : Int32) σ1) fun v2 σ2 =>
    if v2 = 0 then
      some ((-1 : Int32), σ2)
    else
      F_X9_silk_27 x_fuel o x1 x2 (0 : Int32) (0 : Int32) σ2
def F_X9_common_4 : Nat → Int32 → Int32 → x_Hp → Option (Int32 × x_Hp)
  | 0, _, _, _ => none
  | n + 1, x2, x3, σ =>
  if x3 = 0 then
    some (x2, σ)
  else
    x_gd (!decide (x3 = 0)) <|
    (F_X9_common_4 n) x3 (x2 - x2 / x3 * x3) σ
def F_X9_common (x0 : Int32) (x1 : Int32) (σ : x_Hp) : Option (Int32 × x_Hp) :=
  F_X9_common_4 x_fuel x0 x1 σ
def F_X9_likes (o : Nat) (x1 : Int32) (x2 : Int32) (σ : x_Hp) : Option (Int32 × x_Hp) :=
  x_b (F_X9_isAunt o x1 σ) fun v1 σ1 =>
  if v1 = 0 then
    some ((-1 : Int32), σ1)
  else
    x_gd (x_inb ((20 : Int32) + x1) (x_ln TM (x_rf TM o 48))) <|
    if (σ1.1 (x_rf TM o 48) (x_ix ((20 : Int32) + x1))) = 0 then
      some ((-2 : Int32), σ1)
    else
      x_gd (x_inb ((26 : Int32) + x1) (x_ln TM (x_rf TM o 48))) <|
      x_b (F_X9_common (σ1.1 (x_rf TM o 48) (x_ix ((26 : Int32) + x1))) (σ1.1 (x_rf TM o 48) (x_ix ((20 : Int32) + x1))) σ1) fun v2 σ2 =>
      if x2 = 0 then
        x_gd (x_inb ((26 : Int32) + x1) (x_ln TM (x_rf TM o 48))) <|
        x_gd (!decide (v2 = 0)) <|
        some ((σ2.1 (x_rf TM o 48) (x_ix ((26 : Int32) + x1))) / v2, σ2)
      else
        x_gd (!decide (v2 = 0)) <|
        some ((σ1.1 (x_rf TM o 48) (x_ix ((20 : Int32) + x1))) / v2, σ2)
def F_X9_tell (o : Nat) (x1 : Int32) (x2 : Int32) (σ : x_Hp) : Option (Int32 × x_Hp) :=
  if (σ.1 o 68) = (20 : Int32) then
    some ((-1 : Int32), σ)
  else
    x_b (F_X9_in x1 (0 : Int32) (59 : Int32) σ) fun v1 σ1 =>
    if v1 = 0 then
      some ((-1 : Int32), σ1)
    else
      x_b (F_X9_in x2 (0 : Int32) (99 : Int32) σ1) fun v2 σ2 =>
      if v2 = 0 then
        some ((-1 : Int32), σ2)
      else
        x_gd (x_inb (σ2.1 o 68) (x_ln TM (x_rf TM o 69))) <|
        x_pt (x_pI σ2 (x_rf TM o 69) (x_ix (σ2.1 o 68)) x1) fun σ3 =>
        x_gd (x_inb (σ3.1 o 68) (x_ln TM (x_rf TM o 70))) <|
        x_pt (x_pI σ3 (x_rf TM o 70) (x_ix (σ3.1 o 68)) x2) fun σ4 =>
        x_pt (x_pI σ4 o 68 ((σ4.1 o 68) + (1 : Int32))) fun σ5 =>
        some ((σ5.1 o 68) - (1 : Int32), σ5)
def F_X9_forget (o : Nat) (σ : x_Hp) : Option (Int32 × x_Hp) :=
  x_pt (x_pI σ o 68 (0 : Int32)) fun σ1 =>
  some (σ.1 o 68, σ1)
def F_X9_isSo_100 (k50 : Nat → Int32 → Int32 → Int32 → x_Hp → Option (Int32 × x_Hp)) (k63 : Nat → Int32 → Int32 → Int32 → Int32 → x_Hp → Option (Int32 × x_Hp)) (o : Nat) (x2 : Int32) (x3 : Int32) (x4 : Int32) (x5 : Int32) (σ : x_Hp) : Option (Int32 × x_Hp) :=
  k63 o x2 x3 x4 (x5 + (1 : Int32)) σ
def F_X9_isSo_63 (k50 : Nat → Int32 → Int32 → Int32 → x_Hp → Option (Int32 × x_Hp)) : Nat → Nat → Int32 → Int32 → Int32 → Int32 → x_Hp → Option (Int32 × x_Hp)
  | 0, _, _, _, _, _, _ => none
  | n + 1, o, x2, x3, x4, x5, σ =>
  if x2 ≤ x5 then
    k50 o x2 x3 (x4 + (1 : Int32)) σ
  else
    x_gd (x_inb x5 (x_ln TM (x_rf TM o 69))) <|
    if (σ.1 (x_rf TM o 69) (x_ix x5)) = x4 then
      x_gd (x_inb (6 : Int32) (x_ln TM (x_rf TM o 49))) <|
      x_gd (x_inb x5 (x_ln TM (x_rf TM o 70))) <|
      if (σ.1 (x_rf TM o 49) (x_ix (6 : Int32))) = (σ.1 (x_rf TM o 70) (x_ix x5)) then
        F_X9_isSo_100 k50 (F_X9_isSo_63 k50 n) o x2 x3 x4 x5 σ
      else
        some ((0 : Int32), σ)
    else
      F_X9_isSo_100 k50 (F_X9_isSo_63 k50 n) o x2 x3 x4 x5 σ
def F_X9_isSo_50 : Nat → Nat → Int32 → Int32 → Int32 → x_Hp → Option (Int32 × x_Hp)
  | 0, _, _, _, _, _ => none
  | n + 1, o, x2, x3, x4, σ =>
  if x3 < x4 then
    some ((1 : Int32), σ)
  else
    x_b (F_X9_minuteGoes o σ) fun _ σ3 =>
    F_X9_isSo_63 (F_X9_isSo_50 n) x_fuel o x2 x3 x4 (0 : Int32) σ3
def F_X9_isSo_41 (k16 : Nat → Int32 → Int32 → Int32 → x_Hp → Option (Int32 × x_Hp)) (o : Nat) (x2 : Int32) (x3 : Int32) (x4 : Int32) (σ : x_Hp) : Option (Int32 × x_Hp) :=
  k16 o x2 x3 (x4 + (1 : Int32)) σ
def F_X9_isSo_16 : Nat → Nat → Int32 → Int32 → Int32 → x_Hp → Option (Int32 × x_Hp)
  | 0, _, _, _, _, _ => none
  | n + 1, o, x2, x3, x4, σ =>
  if x2 ≤ x4 then
    F_X9_isSo_50 x_fuel o x2 x3 (0 : Int32) σ
  else
    x_gd (x_inb x4 (x_ln TM (x_rf TM o 69))) <|
    if (σ.1 (x_rf TM o 69) (x_ix x4)) ≤ x3 then
      F_X9_isSo_41 (F_X9_isSo_16 n) o x2 x3 x4 σ
    else
      x_gd (x_inb x4 (x_ln TM (x_rf TM o 69))) <|
      F_X9_isSo_41 (F_X9_isSo_16 n) o x2 (σ.1 (x_rf TM o 69) (x_ix x4)) x4 σ
def F_X9_isSo (o : Nat) (x1 : Int32) (x2 : Int32) (σ : x_Hp) : Option (Int32 × x_Hp) :=
  x_b (F_X9_begins o σ) fun _ σ1 =>
  x_gd (x_inb (0 : Int32) (x_ln TM (x_rf TM o 49))) <|
  x_pt (x_pI σ1 (x_rf TM o 49) (x_ix (0 : Int32)) x1) fun σ2 =>
  F_X9_isSo_16 x_fuel o x2 (-1 : Int32) (0 : Int32) σ2
def F_X9_fed_55 (k24 : Nat → Int32 → Int32 → Int32 → Int32 → x_Hp → Option (Int32 × x_Hp)) (o : Nat) (x1 : Int32) (x2 : Int32) (x3 : Int32) (x4 : Int32) (σ : x_Hp) : Option (Int32 × x_Hp) :=
  k24 o x1 x2 x3 (x4 + (1 : Int32)) σ
def F_X9_fed_24 : Nat → Nat → Int32 → Int32 → Int32 → Int32 → x_Hp → Option (Int32 × x_Hp)
  | 0, _, _, _, _, _, _ => none
  | n + 1, o, x1, x2, x3, x4, σ =>
  if (100 : Int32) ≤ x4 then
    if x2 = (-1 : Int32) then
      some (x3, σ)
    else
      some ((-1 : Int32), σ)
  else
    x_b (F_X9_isSo o x4 x1 σ) fun v2 σ2 =>
    if v2 = 0 then
      F_X9_fed_55 (F_X9_fed_24 n) o x1 x2 x3 x4 σ2
    else
      if x3 = x2 then
        some (x4, σ2)
      else
        F_X9_fed_55 (F_X9_fed_24 n) o x1 x2 (x3 + (1 : Int32)) x4 σ2
def F_X9_fed (o : Nat) (x1 : Int32) (x2 : Int32) (σ : x_Hp) : Option (Int32 × x_Hp) :=
  x_b (F_X9_in x1 (0 : Int32) (σ.1 o 68) σ) fun v1 σ1 =>
  if v1 = 0 then
    some ((-1 : Int32), σ1)
  else
    if (-1 : Int32) ≤ x2 then
      F_X9_fed_24 x_fuel o x1 x2 (0 : Int32) (0 : Int32) σ1
    else
      some ((-1 : Int32), σ1)
def F_X9_hold_20 : Nat → Nat → Int32 → Int32 → x_Hp → Option (Int32 × x_Hp)
  | 0, _, _, _, _ => none
  | n + 1, o, x1, x2, σ =>
  if (60 : Int32) ≤ x2 then
    some ((1 : Int32), σ)
  else
    x_gd (x_inb x2 (x_ln TM (x_rf TM o 48))) <|
    x_gd (x_inb (((60 : Int32) * x1) + x2) (x_ln TM (x_rf TM o 72))) <|
    x_pt (x_pI σ (x_rf TM o 72) (x_ix (((60 : Int32) * x1) + x2)) (σ.1 (x_rf TM o 48) (x_ix x2))) fun σ3 =>
    (F_X9_hold_20 n) o x1 (x2 + (1 : Int32)) σ3
def F_X9_hold (o : Nat) (x1 : Int32) (σ : x_Hp) : Option (Int32 × x_Hp) :=
  x_b (F_X9_in x1 (0 : Int32) (2 : Int32) σ) fun v1 σ1 =>
  if v1 = 0 then
    some ((0 : Int32), σ1)
  else
    x_gd (x_inb x1 (x_ln TM (x_rf TM o 71))) <|
    x_pt (x_pI σ1 (x_rf TM o 71) (x_ix x1) (vp_nar .boolean (1 : Int32))) fun σ2 =>
    F_X9_hold_20 x_fuel o x1 (0 : Int32) σ2
def F_X9_restore_22 : Nat → Nat → Int32 → Int32 → x_Hp → Option (Int32 × x_Hp)
  | 0, _, _, _, _ => none
  | n + 1, o, x1, x2, σ =>
  if (60 : Int32) ≤ x2 then
    x_pt (x_pI σ o 54 (0 : Int32)) fun σ2 =>
    some ((1 : Int32), σ2)
  else
    x_gd (x_inb (((60 : Int32) * x1) + x2) (x_ln TM (x_rf TM o 72))) <|
    x_gd (x_inb x2 (x_ln TM (x_rf TM o 48))) <|
    x_pt (x_pI σ (x_rf TM o 48) (x_ix x2) (σ.1 (x_rf TM o 72) (x_ix (((60 : Int32) * x1) + x2)))) fun σ3 =>
    (F_X9_restore_22 n) o x1 (x2 + (1 : Int32)) σ3
def F_X9_restore (o : Nat) (x1 : Int32) (σ : x_Hp) : Option (Int32 × x_Hp) :=
  x_b (F_X9_in x1 (0 : Int32) (2 : Int32) σ) fun v1 σ1 =>
  if v1 = 0 then
    some ((0 : Int32), σ1)
  else
    x_gd (x_inb x1 (x_ln TM (x_rf TM o 71))) <|
    if (σ1.1 (x_rf TM o 71) (x_ix x1)) = 0 then
      some ((0 : Int32), σ1)
    else
      F_X9_restore_22 x_fuel o x1 (0 : Int32) σ1
def F_X9_count_135 (o : Nat) (s0 : Int32) (s1 : Int32) (σ : x_Hp) : Option (Int32 × x_Hp) :=
  x_gd (x_inb (2 : Int32) (x_ln TM (x_rf TM o 71))) <|
  if (σ.1 (x_rf TM o 71) (x_ix (2 : Int32))) = 0 then
    some ((s1 + s0) + (0 : Int32), σ)
  else
    some ((s1 + s0) + (1 : Int32), σ)
def F_X9_count_121 (o : Nat) (s0 : Int32) (σ : x_Hp) : Option (Int32 × x_Hp) :=
  x_gd (x_inb (1 : Int32) (x_ln TM (x_rf TM o 71))) <|
  if (σ.1 (x_rf TM o 71) (x_ix (1 : Int32))) = 0 then
    F_X9_count_135 o (0 : Int32) s0 σ
  else
    F_X9_count_135 o (1 : Int32) s0 σ
def F_X9_count (o : Nat) (x1 : Int32) (σ : x_Hp) : Option (Int32 × x_Hp) :=
  if x1 = (0 : Int32) then
    x_gd (x_inb (σ.1 o 18) (x_ln TM (x_rf TM o 23))) <|
    some (σ.1 (x_rf TM o 23) (x_ix (σ.1 o 18)), σ)
  else
  if x1 = (1 : Int32) then
    x_gd (x_inb ((11 : Int32) + x1) (x_ln TM (x_rf TM o 48))) <|
    some (σ.1 (x_rf TM o 48) (x_ix ((11 : Int32) + x1)), σ)
  else
  if x1 = (2 : Int32) then
    x_gd (x_inb ((11 : Int32) + x1) (x_ln TM (x_rf TM o 48))) <|
    some (σ.1 (x_rf TM o 48) (x_ix ((11 : Int32) + x1)), σ)
  else
  if x1 = (3 : Int32) then
    x_gd (x_inb ((11 : Int32) + x1) (x_ln TM (x_rf TM o 48))) <|
    some (σ.1 (x_rf TM o 48) (x_ix ((11 : Int32) + x1)), σ)
  else
  if x1 = (4 : Int32) then
    x_gd (x_inb ((11 : Int32) + x1) (x_ln TM (x_rf TM o 48))) <|
    some (σ.1 (x_rf TM o 48) (x_ix ((11 : Int32) + x1)), σ)
  else
  if x1 = (5 : Int32) then
    x_gd (x_inb ((11 : Int32) + x1) (x_ln TM (x_rf TM o 48))) <|
    some (σ.1 (x_rf TM o 48) (x_ix ((11 : Int32) + x1)), σ)
  else
  if x1 = (6 : Int32) then
    x_gd (x_inb ((11 : Int32) + x1) (x_ln TM (x_rf TM o 48))) <|
    some (σ.1 (x_rf TM o 48) (x_ix ((11 : Int32) + x1)), σ)
  else
  if x1 = (7 : Int32) then
    some (σ.1 o 2, σ)
  else
  if x1 = (8 : Int32) then
    some (σ.1 o 54, σ)
  else
  if x1 = (9 : Int32) then
    some (σ.1 o 68, σ)
  else
  if x1 = (10 : Int32) then
    x_gd (x_inb (0 : Int32) (x_ln TM (x_rf TM o 71))) <|
    if (σ.1 (x_rf TM o 71) (x_ix (0 : Int32))) = 0 then
      F_X9_count_121 o (0 : Int32) σ
    else
      F_X9_count_121 o (1 : Int32) σ
  else
  if x1 = (11 : Int32) then
    x_gd (x_inb (σ.1 o 18) (x_ln TM (x_rf TM o 29))) <|
    some (σ.1 (x_rf TM o 29) (x_ix (σ.1 o 18)), σ)
  else
  if x1 = (12 : Int32) then
    x_gd (x_inb (σ.1 o 18) (x_ln TM (x_rf TM o 30))) <|
    some (σ.1 (x_rf TM o 30) (x_ix (σ.1 o 18)), σ)
  else
  if x1 = (13 : Int32) then
    x_gd (x_inb (18 : Int32) (x_ln TM (x_rf TM o 48))) <|
    some (σ.1 (x_rf TM o 48) (x_ix (18 : Int32)), σ)
  else
  some ((-1 : Int32), σ)

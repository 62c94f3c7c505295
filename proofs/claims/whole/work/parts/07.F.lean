def F_X8_at (r0 : Nat) (x1 : Int32) (σ : x_Hp) : Option (Int32 × x_Hp) :=
  if x1 < 0 then
    some ((0 : Int32), σ)
  else
    if (Int32.ofNat (x_ln TX r0)) ≤ x1 then
      some ((0 : Int32), σ)
    else
      x_gd (x_inb x1 (x_ln TX r0)) <|
      some (σ.1 r0 (x_ix x1), σ)
def F_X0_giveTo (o : Nat) (r1 : Nat) (x2 : Int32) (σ : x_Hp) : Option (Unit × x_Hp) :=
  x_pt (x_pI σ r1 9 x2) fun σ1 =>
  x_pt (x_pI σ1 r1 4 (0 : Int32)) fun σ2 =>
  x_b (F_X8_at (x_rf TX (x_rf TX o 0) 9) x2 σ2) fun v3 σ3 =>
  x_pt (x_pI σ3 r1 5 v3) fun σ4 =>
  x_b (F_X8_at (x_rf TX (x_rf TX o 0) 10) x2 σ4) fun v5 σ5 =>
  x_pt (x_pI σ5 r1 6 v5) fun σ6 =>
  x_b (F_X8_at (x_rf TX (x_rf TX o 0) 11) x2 σ6) fun v7 σ7 =>
  x_pt (x_pI σ7 r1 7 v7) fun σ8 =>
  if x2 < 0 then
    some ((), σ8)
  else
    x_pt (x_pI σ8 r1 19 ((σ8.1 r1 19) ||| ((1 : Int32) <<< (x2 &&& 31)))) fun σ9 =>
    some ((), σ9)
def F_X0_begin_149 (s0 : Int32) (s1 : Nat) (s2 : Nat) (σ : x_Hp) : Option (Unit × x_Hp) :=
  x_b (F_X0_giveTo s2 s1 s0 σ) fun _ σ18 =>
  some ((), σ18)
def F_X0_begin_109 : Nat → Nat → Nat → Int32 → x_Hp → Option (Unit × x_Hp)
  | 0, _, _, _, _ => none
  | n + 1, o, r1, x2, σ =>
  if (Int32.ofNat (x_ln TX (x_rf TX r1 20))) ≤ x2 then
    if (σ.1 (x_rf TX o 0) 7) ≤ 0 then
      F_X0_begin_149 (-2 : Int32) r1 o σ
    else
      F_X0_begin_149 (0 : Int32) r1 o σ
  else
    x_gd (x_inb x2 (x_ln TX (x_rf TX r1 20))) <|
    x_pt (x_pI σ (x_rf TX r1 20) (x_ix x2) (0 : Int32)) fun σ17 =>
    (F_X0_begin_109 n) o r1 (x2 + (1 : Int32)) σ17
def F_X0_begin (o : Nat) (r1 : Nat) (σ : x_Hp) : Option (Unit × x_Hp) :=
  x_pt (x_pI σ r1 0 (σ.1 (x_rf TX o 0) 0)) fun σ1 =>
  x_pt (x_pI σ1 r1 1 (σ1.1 (x_rf TX o 0) 1)) fun σ2 =>
  x_pt (x_pI σ2 r1 2 (σ2.1 (x_rf TX o 0) 2)) fun σ3 =>
  x_pt (x_pI σ3 r1 3 (σ3.1 (x_rf TX o 0) 3)) fun σ4 =>
  x_pt (x_pI σ4 r1 16 (σ4.1 (x_rf TX o 0) 6)) fun σ5 =>
  x_pt (x_pI σ5 r1 8 (0 : Int32)) fun σ6 =>
  x_pt (x_pI σ6 r1 10 (-2 : Int32)) fun σ7 =>
  x_pt (x_pI σ7 r1 11 (-2 : Int32)) fun σ8 =>
  x_pt (x_pI σ8 r1 12 (0 : Int32)) fun σ9 =>
  x_pt (x_pI σ9 r1 13 (0 : Int32)) fun σ10 =>
  x_pt (x_pI σ10 r1 14 (0 : Int32)) fun σ11 =>
  x_pt (x_pI σ11 r1 15 (0 : Int32)) fun σ12 =>
  x_pt (x_pI σ12 r1 17 (0 : Int32)) fun σ13 =>
  x_pt (x_pI σ13 r1 18 (0 : Int32)) fun σ14 =>
  x_pt (x_pI σ14 r1 19 (0 : Int32)) fun σ15 =>
  F_X0_begin_109 x_fuel o r1 (0 : Int32) σ15
def F_X1_join_44 (o : Nat) (x2 : Int32) (x3 : Int32) (σ : x_Hp) : Option (Int32 × x_Hp) :=
  if x3 = 0 then
    x_pt (x_pI σ o 7 (1 : Int32)) fun σ1 =>
    some ((0 : Int32), σ1)
  else
    x_gd (!decide (x3 = 0)) <|
    some (x2 / x3, σ)
def F_X1_join (o : Nat) (x1 : Int32) (x2 : Int32) (x3 : Int32) (σ : x_Hp) : Option (Int32 × x_Hp) :=
  if x1 = (42 : Int32) then
    some (x2 * x3, σ)
  else
  if x1 = (43 : Int32) then
    some (x2 + x3, σ)
  else
  if x1 = (44 : Int32) then
    F_X1_join_44 o x2 x3 σ
  else
  if x1 = (45 : Int32) then
    some (x2 - x3, σ)
  else
  F_X1_join_44 o x2 x3 σ
def F_X5_look (o : Nat) (x1 : Int32) (σ : x_Hp) : Option (Int32 × x_Hp) :=
  if x1 = (0 : Int32) then
    some (σ.1 o 0, σ)
  else
  if x1 = (1 : Int32) then
    some (σ.1 o 1, σ)
  else
  if x1 = (2 : Int32) then
    some (σ.1 o 2, σ)
  else
  if x1 = (3 : Int32) then
    some (σ.1 o 3, σ)
  else
  if x1 = (4 : Int32) then
    some (σ.1 o 4, σ)
  else
  if x1 = (5 : Int32) then
    some (σ.1 o 5, σ)
  else
  if x1 = (6 : Int32) then
    some (σ.1 o 6, σ)
  else
  if x1 = (7 : Int32) then
    some (σ.1 o 7, σ)
  else
  some (σ.1 o 8, σ)
def F_X8_put (r0 : Nat) (x1 : Int32) (x2 : Int32) (σ : x_Hp) : Option (Unit × x_Hp) :=
  if x1 < 0 then
    some ((), σ)
  else
    if (Int32.ofNat (x_ln TX r0)) ≤ x1 then
      some ((), σ)
    else
      x_gd (x_inb x1 (x_ln TX r0)) <|
      x_pt (x_pI σ r0 (x_ix x1) x2) fun σ2 =>
      some ((), σ2)
def F_X1_value_150 (o : Nat) (σ : x_Hp) : Option (Int32 × x_Hp) :=
  x_b (F_X8_at (x_rf TX o 6) (0 : Int32) σ) fun v9 σ9 =>
  some (v9, σ9)
def F_X1_value_144 (k24 : Nat → Nat → Int32 → Int32 → Int32 → x_Hp → Option (Int32 × x_Hp)) (o : Nat) (r2 : Nat) (x3 : Int32) (x4 : Int32) (x5 : Int32) (σ : x_Hp) : Option (Int32 × x_Hp) :=
  k24 o r2 x3 x4 (x5 + (1 : Int32)) σ
def F_X1_value_91 (k24 : Nat → Nat → Int32 → Int32 → Int32 → x_Hp → Option (Int32 × x_Hp)) (o : Nat) (r2 : Nat) (x3 : Int32) (x4 : Int32) (x5 : Int32) (s0 : Int32) (s1 : Int32) (s2 : Nat) (σ : x_Hp) : Option (Int32 × x_Hp) :=
  x_b (F_X8_put s2 s1 s0 σ) fun _ σ10 =>
  F_X1_value_144 k24 o r2 x3 (x4 + (1 : Int32)) x5 σ10
def F_X1_value_24 : Nat → Nat → Nat → Int32 → Int32 → Int32 → x_Hp → Option (Int32 × x_Hp)
  | 0, _, _, _, _, _, _ => none
  | n + 1, o, r2, x3, x4, x5, σ =>
  if x5 < 0 then
    F_X1_value_150 o σ
  else
    if x3 ≤ x5 then
      F_X1_value_150 o σ
    else
      if (Int32.ofNat (x_ln TX (x_rf TX o 0))) ≤ x5 then
        F_X1_value_150 o σ
      else
        x_gd (x_inb x5 (x_ln TX (x_rf TX o 0))) <|
        if (20000 : Int32) ≤ (σ.1 (x_rf TX o 0) (x_ix x5)) then
          x_b (F_X8_at (x_rf TX o 6) ((x4 + (-1 : Int32)) - (1 : Int32)) σ) fun v4 σ4 =>
          x_b (F_X8_at (x_rf TX o 6) (x4 + (-1 : Int32)) σ4) fun v5 σ5 =>
          x_b (F_X1_join o ((σ.1 (x_rf TX o 0) (x_ix x5)) - (20000 : Int32)) v4 v5 σ5) fun v6 σ6 =>
          x_b (F_X8_put (x_rf TX o 6) ((x4 + (-1 : Int32)) - (1 : Int32)) v6 σ6) fun _ σ7 =>
          F_X1_value_144 (F_X1_value_24 n) o r2 x3 (x4 + (-1 : Int32)) x5 σ7
        else
          if (10000 : Int32) ≤ (σ.1 (x_rf TX o 0) (x_ix x5)) then
            x_b (F_X5_look r2 ((σ.1 (x_rf TX o 0) (x_ix x5)) - (10000 : Int32)) σ) fun v8 σ8 =>
            F_X1_value_91 (F_X1_value_24 n) o r2 x3 x4 x5 v8 x4 (x_rf TX o 6) σ8
          else
            F_X1_value_91 (F_X1_value_24 n) o r2 x3 x4 x5 (σ.1 (x_rf TX o 0) (x_ix x5)) x4 (x_rf TX o 6) σ
def F_X1_value (o : Nat) (x1 : Int32) (r2 : Nat) (σ : x_Hp) : Option (Int32 × x_Hp) :=
  x_b (F_X8_at (x_rf TX o 2) (x1 + (1 : Int32)) σ) fun v1 σ1 =>
  x_b (F_X8_at (x_rf TX o 2) x1 σ1) fun v2 σ2 =>
  F_X1_value_24 x_fuel o r2 v1 (0 : Int32) v2 σ2
def F_X8_within (x0 : Int32) (x1 : Int32) (x2 : Int32) (σ : x_Hp) : Option (Int32 × x_Hp) :=
  some (if x1 < (if x0 < x2 then x0 else x2) then (if x0 < x2 then x0 else x2) else x1, σ)
def F_X1_tells_148 (x1 : Int32) (s0 : Int32) (σ : x_Hp) : Option (Int32 × x_Hp) :=
  x_b (F_X8_within s0 (x_sv_LEAST_TOLD x1) (x_sv_MOST_TOLD_BY x1) σ) fun v8 σ8 =>
  some (v8, σ8)
def F_X1_tells_135 (o : Nat) (x1 : Int32) (x5 : Int32) (σ : x_Hp) : Option (Int32 × x_Hp) :=
  if (σ.1 o 7) = 0 then
    F_X1_tells_148 x1 x5 σ
  else
    F_X1_tells_148 x1 (0 : Int32) σ
def F_X1_tells_114 (o : Nat) (x1 : Int32) (r2 : Nat) (x4 : Int32) (x5 : Int32) (x6 : Int32) (σ : x_Hp) : Option (Int32 × x_Hp) :=
  if x6 = 0 then
    if (σ.1 o 7) = 0 then
      x_b (F_X1_value o x4 r2 σ) fun v6 σ6 =>
      F_X1_tells_135 o x1 v6 σ6
    else
      F_X1_tells_135 o x1 x5 σ
  else
    F_X1_tells_135 o x1 x5 σ
def F_X1_tells_108 (k34 : Nat → Int32 → Nat → Int32 → Int32 → Int32 → Int32 → x_Hp → Option (Int32 × x_Hp)) (o : Nat) (x1 : Int32) (r2 : Nat) (x3 : Int32) (x4 : Int32) (x5 : Int32) (x6 : Int32) (σ : x_Hp) : Option (Int32 × x_Hp) :=
  k34 o x1 r2 (x3 + (3 : Int32)) x4 x5 x6 σ
def F_X1_tells_79 (k34 : Nat → Int32 → Nat → Int32 → Int32 → Int32 → Int32 → x_Hp → Option (Int32 × x_Hp)) (o : Nat) (x1 : Int32) (r2 : Nat) (x3 : Int32) (x4 : Int32) (x5 : Int32) (x6 : Int32) (x7 : Int32) (s0 : Int32) (σ : x_Hp) : Option (Int32 × x_Hp) :=
  if (σ.1 o 7) = 0 then
    if s0 ≤ x7 then
      F_X1_tells_108 k34 o x1 r2 x3 x4 x5 x6 σ
    else
      x_b (F_X1_value o (x3 + (2 : Int32)) r2 σ) fun v7 σ7 =>
      F_X1_tells_108 k34 o x1 r2 x3 x4 v7 (1 : Int32) σ7
  else
    F_X1_tells_108 k34 o x1 r2 x3 x4 x5 x6 σ
def F_X1_tells_34 : Nat → Nat → Int32 → Nat → Int32 → Int32 → Int32 → Int32 → x_Hp → Option (Int32 × x_Hp)
  | 0, _, _, _, _, _, _, _, _ => none
  | n + 1, o, x1, r2, x3, x4, x5, x6, σ =>
  if x4 ≤ x3 then
    F_X1_tells_114 o x1 r2 x4 x5 x6 σ
  else
    if x6 = 0 then
      if (σ.1 o 7) = 0 then
        x_b (F_X1_value o x3 r2 σ) fun v4 σ4 =>
        if (σ4.1 o 7) = 0 then
          x_b (F_X1_value o (x3 + (1 : Int32)) r2 σ4) fun v5 σ5 =>
          F_X1_tells_79 (F_X1_tells_34 n) o x1 r2 x3 x4 x5 x6 v4 v5 σ5
        else
          F_X1_tells_79 (F_X1_tells_34 n) o x1 r2 x3 x4 x5 x6 v4 (0 : Int32) σ4
      else
        F_X1_tells_114 o x1 r2 x4 x5 x6 σ
    else
      F_X1_tells_114 o x1 r2 x4 x5 x6 σ
def F_X1_tells (o : Nat) (x1 : Int32) (r2 : Nat) (σ : x_Hp) : Option (Int32 × x_Hp) :=
  x_pt (x_pI σ o 7 (0 : Int32)) fun σ1 =>
  x_b (F_X8_at (x_rf TX o 4) x1 σ1) fun v2 σ2 =>
  x_b (F_X8_at (x_rf TX o 5) x1 σ2) fun v3 σ3 =>
  F_X1_tells_34 x_fuel o x1 r2 v2 (v2 + ((3 : Int32) * v3)) (0 : Int32) (0 : Int32) σ3
def F_X5_tallyMore (o : Nat) (x1 : Int32) (x2 : Int32) (σ : x_Hp) : Option (Unit × x_Hp) :=
  if (((σ.1 o 9) * (7 : Int32)) + x1) < 0 then
    some ((), σ)
  else
    if (Int32.ofNat (x_ln TX (x_rf TX o 20))) ≤ (((σ.1 o 9) * (7 : Int32)) + x1) then
      some ((), σ)
    else
      x_gd (x_inb (((σ.1 o 9) * (7 : Int32)) + x1) (x_ln TX (x_rf TX o 20))) <|
      x_gd (x_inb (((σ.1 o 9) * (7 : Int32)) + x1) (x_ln TX (x_rf TX o 20))) <|
      x_pt (x_pI σ (x_rf TX o 20) (x_ix (((σ.1 o 9) * (7 : Int32)) + x1)) ((σ.1 (x_rf TX o 20) (x_ix (((σ.1 o 9) * (7 : Int32)) + x1))) + x2)) fun σ3 =>
      some ((), σ3)
def F_X0_stepAsleep (o : Nat) (r1 : Nat) (σ : x_Hp) : Option (Unit × x_Hp) :=
  x_b (F_X1_tells (x_rf TX (x_rf TX o 0) 14) (0 : Int32) r1 σ) fun v1 σ1 =>
  x_b (F_X8_within ((σ.1 r1 0) + v1) (0 : Int32) (99 : Int32) σ1) fun v2 σ2 =>
  x_pt (x_pI σ2 r1 0 v2) fun σ3 =>
  x_b (F_X5_tallyMore r1 (3 : Int32) (1 : Int32) σ3) fun _ σ4 =>
  x_pt (x_pI σ4 r1 12 (0 : Int32)) fun σ5 =>
  x_pt (x_pI σ5 r1 13 ((σ5.1 r1 13) - (1 : Int32))) fun σ6 =>
  if (σ6.1 r1 13) = 0 then
    x_pt (x_pI σ6 r1 1 (0 : Int32)) fun σ7 =>
    x_pt (x_pI σ7 r1 4 (0 : Int32)) fun σ8 =>
    some ((), σ8)
  else
    some ((), σ6)
def F_X0_fallAsleep (o : Nat) (r1 : Nat) (σ : x_Hp) : Option (Unit × x_Hp) :=
  x_pt (x_pI σ r1 13 (60 : Int32)) fun σ1 =>
  x_pt (x_pI σ1 r1 17 ((σ1.1 r1 17) + (1 : Int32))) fun σ2 =>
  some ((), σ2)
def F_X0_lot (x0 : Int32) (x1 : Int32) (x2 : Int32) (σ : x_Hp) : Option (Int32 × x_Hp) :=
  if x0 = 0 then
    some ((0 : Int32), σ)
  else
    x_gd (!decide (x0 = 0)) <|
    some (((((((((((x1 ^^^ (37 : Int32)) * (1103515245 : Int32)) + (12345 : Int32)) ^^^ (((((x1 ^^^ (37 : Int32)) * (1103515245 : Int32)) + (12345 : Int32)).toUInt32 >>> ((15 : Int32).toUInt32 &&& Int32.toUInt32 31)).toInt32)) ^^^ x2) * (1103515245 : Int32)) + (12345 : Int32)) ^^^ (((((((((x1 ^^^ (37 : Int32)) * (1103515245 : Int32)) + (12345 : Int32)) ^^^ (((((x1 ^^^ (37 : Int32)) * (1103515245 : Int32)) + (12345 : Int32)).toUInt32 >>> ((15 : Int32).toUInt32 &&& Int32.toUInt32 31)).toInt32)) ^^^ x2) * (1103515245 : Int32)) + (12345 : Int32)).toUInt32 >>> ((15 : Int32).toUInt32 &&& Int32.toUInt32 31)).toInt32)).toUInt32 >>> ((1 : Int32).toUInt32 &&& Int32.toUInt32 31)).toInt32) - ((((((((((x1 ^^^ (37 : Int32)) * (1103515245 : Int32)) + (12345 : Int32)) ^^^ (((((x1 ^^^ (37 : Int32)) * (1103515245 : Int32)) + (12345 : Int32)).toUInt32 >>> ((15 : Int32).toUInt32 &&& Int32.toUInt32 31)).toInt32)) ^^^ x2) * (1103515245 : Int32)) + (12345 : Int32)) ^^^ (((((((((x1 ^^^ (37 : Int32)) * (1103515245 : Int32)) + (12345 : Int32)) ^^^ (((((x1 ^^^ (37 : Int32)) * (1103515245 : Int32)) + (12345 : Int32)).toUInt32 >>> ((15 : Int32).toUInt32 &&& Int32.toUInt32 31)).toInt32)) ^^^ x2) * (1103515245 : Int32)) + (12345 : Int32)).toUInt32 >>> ((15 : Int32).toUInt32 &&& Int32.toUInt32 31)).toInt32)).toUInt32 >>> ((1 : Int32).toUInt32 &&& Int32.toUInt32 31)).toInt32) / x0 * x0, σ)
def F_X0_spit (o : Nat) (r1 : Nat) (σ : x_Hp) : Option (Unit × x_Hp) :=
  x_pt (x_pI σ r1 3 (0 : Int32)) fun σ1 =>
  x_b (F_X5_tallyMore r1 (6 : Int32) (1 : Int32) σ1) fun _ σ2 =>
  if (σ2.1 r1 14) = 0 then
    x_b (F_X8_at (x_rf TX (x_rf TX o 0) 12) (σ2.1 r1 9) σ2) fun v3 σ3 =>
    x_b (F_X5_tallyMore r1 (4 : Int32) v3 σ3) fun _ σ4 =>
    some ((), σ4)
  else
    some ((), σ2)
def F_X0_stepAwake_217 (o : Nat) (r1 : Nat) (σ : x_Hp) : Option (Unit × x_Hp) :=
  x_b (F_X1_tells (x_rf TX (x_rf TX o 0) 14) (5 : Int32) r1 σ) fun v22 σ22 =>
  if v22 ≤ 0 then
    some ((), σ22)
  else
    x_b (F_X0_fallAsleep o r1 σ22) fun _ σ23 =>
    some ((), σ23)
def F_X0_stepAwake_183 (o : Nat) (r1 : Nat) (σ : x_Hp) : Option (Unit × x_Hp) :=
  x_b (F_X0_lot (100 : Int32) (σ.1 r1 16) (σ.1 r1 15) σ) fun v19 σ19 =>
  x_b (F_X1_tells (x_rf TX (x_rf TX o 0) 14) (6 : Int32) r1 σ19) fun v20 σ20 =>
  if v20 ≤ v19 then
    F_X0_stepAwake_217 o r1 σ20
  else
    x_b (F_X0_spit o r1 σ20) fun _ σ21 =>
    F_X0_stepAwake_217 o r1 σ21
def F_X0_stepAwake (o : Nat) (r1 : Nat) (σ : x_Hp) : Option (Unit × x_Hp) :=
  x_b (F_X1_tells (x_rf TX (x_rf TX o 0) 14) (0 : Int32) r1 σ) fun v1 σ1 =>
  x_b (F_X1_tells (x_rf TX (x_rf TX o 0) 14) (1 : Int32) r1 σ1) fun v2 σ2 =>
  x_b (F_X1_tells (x_rf TX (x_rf TX o 0) 14) (2 : Int32) r1 σ2) fun v3 σ3 =>
  x_b (F_X1_tells (x_rf TX (x_rf TX o 0) 14) (3 : Int32) r1 σ3) fun v4 σ4 =>
  x_b (F_X8_within ((σ4.1 r1 0) + v1) (0 : Int32) (99 : Int32) σ4) fun v5 σ5 =>
  x_pt (x_pI σ5 r1 0 v5) fun σ6 =>
  x_b (F_X8_within ((σ6.1 r1 1) + v2) (0 : Int32) (99 : Int32) σ6) fun v7 σ7 =>
  x_pt (x_pI σ7 r1 1 v7) fun σ8 =>
  x_b (F_X8_within ((σ8.1 r1 2) + v3) (0 : Int32) (99 : Int32) σ8) fun v9 σ9 =>
  x_pt (x_pI σ9 r1 2 v9) fun σ10 =>
  x_b (F_X8_within ((σ10.1 r1 3) + v4) (0 : Int32) (99 : Int32) σ10) fun v11 σ11 =>
  x_pt (x_pI σ11 r1 3 v11) fun σ12 =>
  x_pt (x_pI σ12 r1 4 ((σ12.1 r1 4) + (1 : Int32))) fun σ13 =>
  x_b (F_X1_tells (x_rf TX (x_rf TX o 0) 14) (4 : Int32) r1 σ13) fun v14 σ14 =>
  x_pt (x_pI σ14 r1 12 v14) fun σ15 =>
  x_b (F_X5_tallyMore r1 (0 : Int32) (1 : Int32) σ15) fun _ σ16 =>
  x_b (F_X5_tallyMore r1 (1 : Int32) (σ16.1 r1 12) σ16) fun _ σ17 =>
  if (σ17.1 r1 12) = 0 then
    if (σ17.1 r1 2) < (50 : Int32) then
      F_X0_stepAwake_183 o r1 σ17
    else
      x_b (F_X5_tallyMore r1 (2 : Int32) (1 : Int32) σ17) fun _ σ18 =>
      F_X0_stepAwake_183 o r1 σ18
  else
    F_X0_stepAwake_183 o r1 σ17
def F_X0_step_30 (r1 : Nat) (σ : x_Hp) : Option (Unit × x_Hp) :=
  x_pt (x_pI σ r1 15 ((σ.1 r1 15) + (1 : Int32))) fun σ3 =>
  some ((), σ3)
def F_X0_step (o : Nat) (r1 : Nat) (σ : x_Hp) : Option (Unit × x_Hp) :=
  if (σ.1 (x_rf TX o 0) 7) ≤ 0 then
    F_X0_step_30 r1 σ
  else
    if (σ.1 r1 13) ≤ 0 then
      x_b (F_X0_stepAwake o r1 σ) fun _ σ1 =>
      F_X0_step_30 r1 σ1
    else
      x_b (F_X0_stepAsleep o r1 σ) fun _ σ2 =>
      F_X0_step_30 r1 σ2
def F_X0_giveOver_37 (o : Nat) (r1 : Nat) (x2 : Int32) (σ : x_Hp) : Option (Unit × x_Hp) :=
  x_pt (x_pI σ r1 11 (σ.1 r1 10)) fun σ2 =>
  x_pt (x_pI σ2 r1 10 (σ2.1 r1 9)) fun σ3 =>
  x_pt (x_pI σ3 r1 18 ((σ3.1 r1 18) + (1 : Int32))) fun σ4 =>
  x_b (F_X0_giveTo o r1 x2 σ4) fun _ σ5 =>
  some ((), σ5)
def F_X0_giveOver (o : Nat) (r1 : Nat) (x2 : Int32) (σ : x_Hp) : Option (Unit × x_Hp) :=
  if x2 = (σ.1 r1 10) then
    F_X0_giveOver_37 o r1 x2 σ
  else
    if x2 = (σ.1 r1 11) then
      F_X0_giveOver_37 o r1 x2 σ
    else
      x_pt (x_pI σ r1 2 (if ((σ.1 r1 2) + (σ.1 (x_rf TX o 0) 4)) < (99 : Int32) then ((σ.1 r1 2) + (σ.1 (x_rf TX o 0) 4)) else (99 : Int32))) fun σ1 =>
      F_X0_giveOver_37 o r1 x2 σ1
def F_X0_feedNow (o : Nat) (r1 : Nat) (σ : x_Hp) : Option (Unit × x_Hp) :=
  x_pt (x_pI σ r1 0 (0 : Int32)) fun σ1 =>
  x_pt (x_pI σ1 r1 3 (if ((σ1.1 r1 3) + (σ1.1 (x_rf TX o 0) 5)) < (99 : Int32) then ((σ1.1 r1 3) + (σ1.1 (x_rf TX o 0) 5)) else (99 : Int32))) fun σ2 =>
  some ((), σ2)
def F_X0_goOn_2 : Nat → Nat → Nat → Int32 → Int32 → x_Hp → Option (Unit × x_Hp)
  | 0, _, _, _, _, _ => none
  | n + 1, o, r1, x2, x3, σ =>
  if x2 ≤ x3 then
    some ((), σ)
  else
    x_b (F_X0_step o r1 σ) fun _ σ1 =>
    (F_X0_goOn_2 n) o r1 x2 (x3 + (1 : Int32)) σ1
def F_X0_goOn (o : Nat) (r1 : Nat) (x2 : Int32) (σ : x_Hp) : Option (Unit × x_Hp) :=
  F_X0_goOn_2 x_fuel o r1 x2 (0 : Int32) σ
def F_X5_tallied (o : Nat) (x1 : Int32) (x2 : Int32) (σ : x_Hp) : Option (Int32 × x_Hp) :=
  x_b (F_X8_at (x_rf TX o 20) ((x1 * (7 : Int32)) + x2) σ) fun v1 σ1 =>
  some (v1, σ1)
def F_X5_allTallied_4 : Nat → Nat → Int32 → Int32 → Int32 → x_Hp → Option (Int32 × x_Hp)
  | 0, _, _, _, _, _ => none
  | n + 1, o, x1, x2, x3, σ =>
  if (6 : Int32) ≤ x3 then
    some (x2, σ)
  else
    x_b (F_X5_tallied o x3 x1 σ) fun v1 σ1 =>
    (F_X5_allTallied_4 n) o x1 (x2 + v1) (x3 + (1 : Int32)) σ1
def F_X5_allTallied (o : Nat) (x1 : Int32) (σ : x_Hp) : Option (Int32 × x_Hp) :=
  F_X5_allTallied_4 x_fuel o x1 (0 : Int32) (0 : Int32) σ
def F_X0_cried_9 : Nat → Nat → Nat → Int32 → Int32 → Int32 → x_Hp → Option (Int32 × x_Hp)
  | 0, _, _, _, _, _, _ => none
  | n + 1, o, r1, x2, x3, x4, σ =>
  if x2 ≤ x4 then
    x_b (F_X5_allTallied r1 (1 : Int32) σ) fun v2 σ2 =>
    some (v2 - x3, σ2)
  else
    x_b (F_X0_step o r1 σ) fun _ σ3 =>
    (F_X0_cried_9 n) o r1 x2 x3 (x4 + (1 : Int32)) σ3
def F_X0_cried (o : Nat) (r1 : Nat) (x2 : Int32) (σ : x_Hp) : Option (Int32 × x_Hp) :=
  x_b (F_X5_allTallied r1 (1 : Int32) σ) fun v1 σ1 =>
  F_X0_cried_9 x_fuel o r1 x2 v1 (0 : Int32) σ1
def F_X0_keep_51 (k20 : Nat → Nat → Int32 → Int32 → Int32 → x_Hp → Option (Unit × x_Hp)) (o : Nat) (r1 : Nat) (x3 : Int32) (x4 : Int32) (x5 : Int32) (σ : x_Hp) : Option (Unit × x_Hp) :=
  x_b (F_X0_step o r1 σ) fun _ σ2 =>
  k20 o r1 x3 x4 (x5 + (1 : Int32)) σ2
def F_X0_keep_41 (k20 : Nat → Nat → Int32 → Int32 → Int32 → x_Hp → Option (Unit × x_Hp)) (o : Nat) (r1 : Nat) (x3 : Int32) (x4 : Int32) (x5 : Int32) (σ : x_Hp) : Option (Unit × x_Hp) :=
  if (σ.1 r1 13) = 0 then
    F_X0_keep_51 k20 o r1 x3 (x4 + (-1 : Int32)) x5 σ
  else
    F_X0_keep_51 k20 o r1 x3 x4 x5 σ
def F_X0_keep_20 : Nat → Nat → Nat → Int32 → Int32 → Int32 → x_Hp → Option (Unit × x_Hp)
  | 0, _, _, _, _, _, _ => none
  | n + 1, o, r1, x3, x4, x5, σ =>
  if (x3 * (61 : Int32)) ≤ x5 then
    some ((), σ)
  else
    if 0 < x4 then
      F_X0_keep_41 (F_X0_keep_20 n) o r1 x3 x4 x5 σ
    else
      if (σ.1 r1 13) ≤ 0 then
        some ((), σ)
      else
        F_X0_keep_41 (F_X0_keep_20 n) o r1 x3 x4 x5 σ
def F_X0_keep_14 (o : Nat) (r1 : Nat) (x3 : Int32) (σ : x_Hp) : Option (Unit × x_Hp) :=
  F_X0_keep_20 x_fuel o r1 x3 x3 (0 : Int32) σ
def F_X0_keep (o : Nat) (r1 : Nat) (x2 : Int32) (x3 : Int32) (σ : x_Hp) : Option (Unit × x_Hp) :=
  if (σ.1 r1 9) = x2 then
    F_X0_keep_14 o r1 x3 σ
  else
    x_b (F_X0_giveOver o r1 x2 σ) fun _ σ1 =>
    F_X0_keep_14 o r1 x3 σ1
def F_X0_behind (o : Nat) (x1 : Int32) (σ : x_Hp) : Option (Int32 × x_Hp) :=
  if (σ.1 (x_rf TX o 0) 7) ≤ (x1 + (1 : Int32)) then
    some ((0 : Int32), σ)
  else
    some (x1 + (1 : Int32), σ)
def F_X0_fewest_51 (k7 : Nat → Nat → Int32 → Int32 → x_Hp → Option (Int32 × x_Hp)) (o : Nat) (r1 : Nat) (x2 : Int32) (x3 : Int32) (σ : x_Hp) : Option (Int32 × x_Hp) :=
  k7 o r1 x2 (x3 + (1 : Int32)) σ
def F_X0_fewest_49 (k7 : Nat → Nat → Int32 → Int32 → x_Hp → Option (Int32 × x_Hp)) (o : Nat) (r1 : Nat) (x3 : Int32) (σ : x_Hp) : Option (Int32 × x_Hp) :=
  F_X0_fewest_51 k7 o r1 x3 x3 σ
def F_X0_fewest_7 : Nat → Nat → Nat → Int32 → Int32 → x_Hp → Option (Int32 × x_Hp)
  | 0, _, _, _, _, _ => none
  | n + 1, o, r1, x2, x3, σ =>
  if (σ.1 (x_rf TX o 0) 7) ≤ x3 then
    some (x2, σ)
  else
    if x3 = (σ.1 r1 9) then
      F_X0_fewest_51 (F_X0_fewest_7 n) o r1 x2 x3 σ
    else
      if x2 = (σ.1 r1 9) then
        F_X0_fewest_49 (F_X0_fewest_7 n) o r1 x3 σ
      else
        x_b (F_X5_tallied r1 x3 (0 : Int32) σ) fun v1 σ1 =>
        x_b (F_X5_tallied r1 x2 (0 : Int32) σ1) fun v2 σ2 =>
        if v2 ≤ v1 then
          F_X0_fewest_51 (F_X0_fewest_7 n) o r1 x2 x3 σ2
        else
          F_X0_fewest_49 (F_X0_fewest_7 n) o r1 x3 σ2
def F_X0_fewest (o : Nat) (r1 : Nat) (σ : x_Hp) : Option (Int32 × x_Hp) :=
  F_X0_fewest_7 x_fuel o r1 (σ.1 r1 9) (0 : Int32) σ
def F_X0_goByRule_97 (k3 : Nat → Nat → Int32 → Int32 → Int32 → Int32 → x_Hp → Option (Unit × x_Hp)) (o : Nat) (r1 : Nat) (x2 : Int32) (x3 : Int32) (x4 : Int32) (x5 : Int32) (σ : x_Hp) : Option (Unit × x_Hp) :=
  x_b (F_X0_step o r1 σ) fun _ σ1 =>
  k3 o r1 x2 x3 x4 (x5 + (1 : Int32)) σ1
def F_X0_goByRule_81 (k3 : Nat → Nat → Int32 → Int32 → Int32 → Int32 → x_Hp → Option (Unit × x_Hp)) (o : Nat) (r1 : Nat) (x2 : Int32) (x3 : Int32) (x4 : Int32) (x5 : Int32) (x6 : Int32) (σ : x_Hp) : Option (Unit × x_Hp) :=
  if x6 = (σ.1 r1 9) then
    F_X0_goByRule_97 k3 o r1 x2 x3 x4 x5 σ
  else
    x_b (F_X0_giveOver o r1 x6 σ) fun _ σ4 =>
    F_X0_goByRule_97 k3 o r1 x2 x3 x4 x5 σ4
def F_X0_goByRule_61 (k3 : Nat → Nat → Int32 → Int32 → Int32 → Int32 → x_Hp → Option (Unit × x_Hp)) (o : Nat) (r1 : Nat) (x2 : Int32) (x3 : Int32) (x4 : Int32) (x5 : Int32) (x6 : Int32) (σ : x_Hp) : Option (Unit × x_Hp) :=
  if x2 = (2 : Int32) then
    if (σ.1 r1 4) < x3 then
      F_X0_goByRule_81 k3 o r1 x2 x3 x4 x5 x6 σ
    else
      x_b (F_X0_fewest o r1 σ) fun v3 σ3 =>
      F_X0_goByRule_81 k3 o r1 x2 x3 x4 x5 v3 σ3
  else
    F_X0_goByRule_81 k3 o r1 x2 x3 x4 x5 x6 σ
def F_X0_goByRule_48 (k3 : Nat → Nat → Int32 → Int32 → Int32 → Int32 → x_Hp → Option (Unit × x_Hp)) (o : Nat) (r1 : Nat) (x2 : Int32) (x3 : Int32) (x4 : Int32) (x5 : Int32) (σ : x_Hp) : Option (Unit × x_Hp) :=
  x_b (F_X0_behind o (σ.1 r1 9) σ) fun v2 σ2 =>
  F_X0_goByRule_81 k3 o r1 x2 x3 x4 x5 v2 σ2
def F_X0_goByRule_35 (k3 : Nat → Nat → Int32 → Int32 → Int32 → Int32 → x_Hp → Option (Unit × x_Hp)) (o : Nat) (r1 : Nat) (x2 : Int32) (x3 : Int32) (x4 : Int32) (x5 : Int32) (x6 : Int32) (σ : x_Hp) : Option (Unit × x_Hp) :=
  if x2 = (1 : Int32) then
    if (σ.1 r1 12) < x3 then
      F_X0_goByRule_61 k3 o r1 x2 x3 x4 x5 x6 σ
    else
      F_X0_goByRule_48 k3 o r1 x2 x3 x4 x5 σ
  else
    F_X0_goByRule_61 k3 o r1 x2 x3 x4 x5 x6 σ
def F_X0_goByRule_3 : Nat → Nat → Nat → Int32 → Int32 → Int32 → Int32 → x_Hp → Option (Unit × x_Hp)
  | 0, _, _, _, _, _, _, _ => none
  | n + 1, o, r1, x2, x3, x4, x5, σ =>
  if x4 ≤ x5 then
    some ((), σ)
  else
    if (σ.1 r1 13) = 0 then
      if x2 = 0 then
        if x3 ≤ (σ.1 r1 4) then
          F_X0_goByRule_48 (F_X0_goByRule_3 n) o r1 x2 x3 x4 x5 σ
        else
          F_X0_goByRule_35 (F_X0_goByRule_3 n) o r1 x2 x3 x4 x5 (σ.1 r1 9) σ
      else
        F_X0_goByRule_35 (F_X0_goByRule_3 n) o r1 x2 x3 x4 x5 (σ.1 r1 9) σ
    else
      F_X0_goByRule_97 (F_X0_goByRule_3 n) o r1 x2 x3 x4 x5 σ
def F_X0_goByRule (o : Nat) (r1 : Nat) (x2 : Int32) (x3 : Int32) (x4 : Int32) (σ : x_Hp) : Option (Unit × x_Hp) :=
  F_X0_goByRule_3 x_fuel o r1 x2 x3 x4 (0 : Int32) σ
def F_X1_addStep (o : Nat) (x1 : Int32) (σ : x_Hp) : Option (Unit × x_Hp) :=
  x_b (F_X8_put (x_rf TX o 0) (σ.1 o 1) x1 σ) fun _ σ1 =>
  x_pt (x_pI σ1 o 1 ((σ1.1 o 1) + (1 : Int32))) fun σ2 =>
  some ((), σ2)
def F_X1_beginLaw (o : Nat) (x1 : Int32) (σ : x_Hp) : Option (Unit × x_Hp) :=
  x_b (F_X8_put (x_rf TX o 4) x1 (σ.1 o 3) σ) fun _ σ1 =>
  x_b (F_X8_put (x_rf TX o 5) x1 (0 : Int32) σ1) fun _ σ2 =>
  some ((), σ2)
def F_X1_endPiece (o : Nat) (σ : x_Hp) : Option (Unit × x_Hp) :=
  x_pt (x_pI σ o 3 ((σ.1 o 3) + (1 : Int32))) fun σ1 =>
  x_b (F_X8_put (x_rf TX o 2) (σ1.1 o 3) (σ1.1 o 1) σ1) fun _ σ2 =>
  some ((), σ2)
def F_X1_begin_38 (k12 : Nat → Int32 → x_Hp → Option (Unit × x_Hp)) (o : Nat) (x1 : Int32) (s0 : Int32) (s1 : Nat) (σ : x_Hp) : Option (Unit × x_Hp) :=
  x_b (F_X1_addStep s1 s0 σ) fun _ σ4 =>
  x_b (F_X1_endPiece o σ4) fun _ σ5 =>
  k12 o (x1 + (1 : Int32)) σ5
def F_X1_begin_33 (k12 : Nat → Int32 → x_Hp → Option (Unit × x_Hp)) (o : Nat) (x1 : Int32) (s0 : Nat) (σ : x_Hp) : Option (Unit × x_Hp) :=
  F_X1_begin_38 k12 o x1 (1 : Int32) s0 σ
def F_X1_begin_12 : Nat → Nat → Int32 → x_Hp → Option (Unit × x_Hp)
  | 0, _, _, _ => none
  | n + 1, o, x1, σ =>
  if (7 : Int32) ≤ x1 then
    some ((), σ)
  else
    x_b (F_X1_beginLaw o x1 σ) fun _ σ3 =>
    if x1 = 0 then
      F_X1_begin_33 (F_X1_begin_12 n) o x1 o σ3
    else
      if x1 = (1 : Int32) then
        F_X1_begin_33 (F_X1_begin_12 n) o x1 o σ3
      else
        F_X1_begin_38 (F_X1_begin_12 n) o x1 (0 : Int32) o σ3
def F_X1_begin (o : Nat) (σ : x_Hp) : Option (Unit × x_Hp) :=
  x_pt (x_pI σ o 1 (0 : Int32)) fun σ1 =>
  x_pt (x_pI σ1 o 3 (0 : Int32)) fun σ2 =>
  F_X1_begin_12 x_fuel o (0 : Int32) σ2
def F_X1_addIf (o : Nat) (x1 : Int32) (σ : x_Hp) : Option (Unit × x_Hp) :=
  x_b (F_X8_at (x_rf TX o 5) x1 σ) fun v1 σ1 =>
  x_b (F_X8_put (x_rf TX o 5) x1 (v1 + (1 : Int32)) σ1) fun _ σ2 =>
  some ((), σ2)
def F_X8_copy_11 : Nat → Nat → Nat → Int32 → x_Hp → Option (Unit × x_Hp)
  | 0, _, _, _, _ => none
  | n + 1, r0, r1, x2, σ =>
  if (Int32.ofNat (x_ln TX r0)) ≤ x2 then
    some ((), σ)
  else
    if (Int32.ofNat (x_ln TX r1)) ≤ x2 then
      some ((), σ)
    else
      x_gd (x_inb x2 (x_ln TX r0)) <|
      x_gd (x_inb x2 (x_ln TX r1)) <|
      x_pt (x_pI σ r1 (x_ix x2) (σ.1 r0 (x_ix x2))) fun σ3 =>
      (F_X8_copy_11 n) r0 r1 (x2 + (1 : Int32)) σ3
def F_X8_copy (r0 : Nat) (r1 : Nat) (σ : x_Hp) : Option (Unit × x_Hp) :=
  F_X8_copy_11 x_fuel r0 r1 (0 : Int32) σ
def F_X1_takeFrom (o : Nat) (r1 : Nat) (σ : x_Hp) : Option (Unit × x_Hp) :=
  x_b (F_X8_copy (x_rf TX r1 0) (x_rf TX o 0) σ) fun _ σ1 =>
  x_pt (x_pI σ1 o 1 (σ1.1 r1 1)) fun σ2 =>
  x_b (F_X8_copy (x_rf TX r1 2) (x_rf TX o 2) σ2) fun _ σ3 =>
  x_pt (x_pI σ3 o 3 (σ3.1 r1 3)) fun σ4 =>
  x_b (F_X8_copy (x_rf TX r1 4) (x_rf TX o 4) σ4) fun _ σ5 =>
  x_b (F_X8_copy (x_rf TX r1 5) (x_rf TX o 5) σ5) fun _ σ6 =>
  some ((), σ6)
def F_X2_begin (o : Nat) (σ : x_Hp) : Option (Unit × x_Hp) :=
  x_pt (x_pI σ o 2 (0 : Int32)) fun σ1 =>
  x_pt (x_pI σ1 o 0 (0 : Int32)) fun σ2 =>
  x_pt (x_pI σ2 o 1 (0 : Int32)) fun σ3 =>
  some ((), σ3)
def F_X2_offer_15 (o : Nat) (x1 : Int32) (x2 : Int32) (σ : x_Hp) : Option (Unit × x_Hp) :=
  x_pt (x_pI σ o 2 (1 : Int32)) fun σ1 =>
  x_pt (x_pI σ1 o 0 x1) fun σ2 =>
  x_pt (x_pI σ2 o 1 x2) fun σ3 =>
  some ((), σ3)
def F_X2_offer (o : Nat) (x1 : Int32) (x2 : Int32) (σ : x_Hp) : Option (Unit × x_Hp) :=
  if (σ.1 o 2) = 0 then
    F_X2_offer_15 o x1 x2 σ
  else
    if (σ.1 o 1) ≤ x2 then
      some ((), σ)
    else
      F_X2_offer_15 o x1 x2 σ
def F_X2_pick (o : Nat) (x1 : Int32) (σ : x_Hp) : Option (Int32 × x_Hp) :=
  if x1 = 0 then
    some (σ.1 o 0, σ)
  else
    some (σ.1 o 1, σ)
def F_X3_row (x1 : Int32) (σ : x_Hp) : Option (Nat × x_Hp) :=
  if x1 < 0 then
    some (146, σ)
  else
    if (7 : Int32) ≤ x1 then
      some (146, σ)
    else
      x_gd (x_inb x1 7) <|
      some (x_rf TX 144 (x_ix x1), σ)
def F_X5_takeFrom (o : Nat) (r1 : Nat) (σ : x_Hp) : Option (Unit × x_Hp) :=
  x_pt (x_pI σ o 0 (σ.1 r1 0)) fun σ1 =>
  x_pt (x_pI σ1 o 1 (σ1.1 r1 1)) fun σ2 =>
  x_pt (x_pI σ2 o 2 (σ2.1 r1 2)) fun σ3 =>
  x_pt (x_pI σ3 o 3 (σ3.1 r1 3)) fun σ4 =>
  x_pt (x_pI σ4 o 4 (σ4.1 r1 4)) fun σ5 =>
  x_pt (x_pI σ5 o 5 (σ5.1 r1 5)) fun σ6 =>
  x_pt (x_pI σ6 o 6 (σ6.1 r1 6)) fun σ7 =>
  x_pt (x_pI σ7 o 7 (σ7.1 r1 7)) fun σ8 =>
  x_pt (x_pI σ8 o 8 (σ8.1 r1 8)) fun σ9 =>
  x_pt (x_pI σ9 o 9 (σ9.1 r1 9)) fun σ10 =>
  x_pt (x_pI σ10 o 10 (σ10.1 r1 10)) fun σ11 =>
  x_pt (x_pI σ11 o 11 (σ11.1 r1 11)) fun σ12 =>
  x_pt (x_pI σ12 o 12 (σ12.1 r1 12)) fun σ13 =>
  x_pt (x_pI σ13 o 13 (σ13.1 r1 13)) fun σ14 =>
  x_pt (x_pI σ14 o 14 (σ14.1 r1 14)) fun σ15 =>
  x_pt (x_pI σ15 o 15 (σ15.1 r1 15)) fun σ16 =>
  x_pt (x_pI σ16 o 16 (σ16.1 r1 16)) fun σ17 =>
  x_pt (x_pI σ17 o 17 (σ17.1 r1 17)) fun σ18 =>
  x_pt (x_pI σ18 o 18 (σ18.1 r1 18)) fun σ19 =>
  x_pt (x_pI σ19 o 19 (σ19.1 r1 19)) fun σ20 =>
  x_b (F_X8_copy (x_rf TX r1 20) (x_rf TX o 20) σ20) fun _ σ21 =>
  some ((), σ21)
def F_X3_begin_21 : Nat → Int32 → x_Hp → Option (Unit × x_Hp)
  | 0, _, _ => none
  | n + 1, x2, σ =>
  if (6 : Int32) ≤ x2 then
    x_b (F_X2_begin 151 σ) fun _ σ4 =>
    x_b (F_X2_begin 152 σ4) fun _ σ5 =>
    x_pt (x_pI σ5 143 9 (0 : Int32)) fun σ6 =>
    some ((), σ6)
  else
    x_b (F_X8_put 148 x2 x2 σ) fun _ σ7 =>
    x_b (F_X8_put 150 x2 (0 : Int32) σ7) fun _ σ8 =>
    (F_X3_begin_21 n) (x2 + (1 : Int32)) σ8
def F_X3_begin (r1 : Nat) (σ : x_Hp) : Option (Unit × x_Hp) :=
  x_b (F_X3_row (0 : Int32) σ) fun v1 σ1 =>
  x_b (F_X5_takeFrom v1 r1 σ1) fun _ σ2 =>
  x_b (F_X8_put 145 (0 : Int32) (-2 : Int32) σ2) fun _ σ3 =>
  F_X3_begin_21 x_fuel (0 : Int32) σ3
def F_X3_change (x1 : Int32) (x2 : Int32) (σ : x_Hp) : Option (Unit × x_Hp) :=
  x_b (F_X8_at 148 x1 σ) fun v1 σ1 =>
  x_b (F_X8_at 148 x2 σ1) fun v2 σ2 =>
  x_b (F_X8_put 148 x1 v2 σ2) fun _ σ3 =>
  x_b (F_X8_put 148 x2 v1 σ3) fun _ σ4 =>
  some ((), σ4)
def F_X3_follow_102 : Nat → Int32 → Int32 → Int32 → x_Hp → Option (Int32 × x_Hp)
  | 0, _, _, _, _ => none
  | n + 1, x2, x4, x5, σ =>
  if x5 ≤ x4 then
    some (x2, σ)
  else
    x_b (F_X3_change x4 x5 σ) fun _ σ6 =>
    (F_X3_follow_102 n) x2 (x4 + (1 : Int32)) (x5 + (-1 : Int32)) σ6
def F_X3_follow_86 (x1 : Int32) (x2 : Int32) (x3 : Int32) (σ : x_Hp) : Option (Int32 × x_Hp) :=
  x_b (F_X3_change x2 x3 σ) fun _ σ5 =>
  F_X3_follow_102 x_fuel x2 (x2 + (1 : Int32)) (x1 - (1 : Int32)) σ5
def F_X3_follow_56 : Nat → Int32 → Int32 → Int32 → x_Hp → Option (Int32 × x_Hp)
  | 0, _, _, _, _ => none
  | n + 1, x1, x2, x3, σ =>
  if x3 ≤ x2 then
    F_X3_follow_86 x1 x2 x3 σ
  else
    x_b (F_X8_at 148 x3 σ) fun v3 σ3 =>
    x_b (F_X8_at 148 x2 σ3) fun v4 σ4 =>
    if v4 ≤ v3 then
      F_X3_follow_86 x1 x2 x3 σ4
    else
      (F_X3_follow_56 n) x1 x2 (x3 + (-1 : Int32)) σ4
def F_X3_follow_46 (x1 : Int32) (x2 : Int32) (σ : x_Hp) : Option (Int32 × x_Hp) :=
  if 0 ≤ x2 then
    F_X3_follow_56 x_fuel x1 x2 (x1 - (1 : Int32)) σ
  else
    some ((-1 : Int32), σ)
def F_X3_follow_15 : Nat → Int32 → Int32 → x_Hp → Option (Int32 × x_Hp)
  | 0, _, _, _ => none
  | n + 1, x1, x2, σ =>
  if x2 < 0 then
    F_X3_follow_46 x1 x2 σ
  else
    x_b (F_X8_at 148 x2 σ) fun v1 σ1 =>
    x_b (F_X8_at 148 (x2 + (1 : Int32)) σ1) fun v2 σ2 =>
    if v1 ≤ v2 then
      F_X3_follow_46 x1 x2 σ2
    else
      (F_X3_follow_15 n) x1 (x2 + (-1 : Int32)) σ2
def F_X3_follow (σ : x_Hp) : Option (Int32 × x_Hp) :=
  F_X3_follow_15 x_fuel (σ.1 1 7) ((σ.1 1 7) - (2 : Int32)) σ
def F_X3_share (x1 : Int32) (x2 : Int32) (σ : x_Hp) : Option (Int32 × x_Hp) :=
  x_b (F_X3_row (σ.1 1 7) σ) fun v1 σ1 =>
  x_b (F_X5_tallied v1 x1 x2 σ1) fun v2 σ2 =>
  x_b (F_X3_row (0 : Int32) σ2) fun v3 σ3 =>
  x_b (F_X5_tallied v3 x1 x2 σ3) fun v4 σ4 =>
  some (v2 - v4, σ4)
def F_X3_weigh_203 (x1 : Int32) (σ : x_Hp) : Option (Unit × x_Hp) :=
  x_b (F_X2_offer 151 (0 : Int32) x1 σ) fun _ σ13 =>
  some ((), σ13)
def F_X3_weigh_192 (x1 : Int32) (σ : x_Hp) : Option (Unit × x_Hp) :=
  x_b (F_X8_copy 148 149 σ) fun _ σ12 =>
  F_X3_weigh_203 x1 σ12
def F_X3_weigh_72 (k17 : Int32 → Int32 → Int32 → Int32 → Int32 → x_Hp → Option (Unit × x_Hp)) (x1 : Int32) (x3 : Int32) (x4 : Int32) (x5 : Int32) (x7 : Int32) (s0 : Int32) (σ : x_Hp) : Option (Unit × x_Hp) :=
  k17 x1 s0 (if x3 < x7 then x7 else x3) (if x7 < x4 then x7 else x4) (x5 + (1 : Int32)) σ
def F_X3_weigh_17 : Nat → Int32 → Int32 → Int32 → Int32 → Int32 → x_Hp → Option (Unit × x_Hp)
  | 0, _, _, _, _, _, _ => none
  | n + 1, x1, x2, x3, x4, x5, σ =>
  if (σ.1 1 7) ≤ x5 then
    x_b (F_X8_at 150 x2 σ) fun v2 σ2 =>
    x_b (F_X8_put 150 x2 (v2 + (1 : Int32)) σ2) fun _ σ3 =>
    x_b (F_X8_at 145 (σ3.1 1 7) σ3) fun v4 σ4 =>
    x_b (F_X8_at 7 v4 σ4) fun v5 σ5 =>
    x_pt (x_pI σ5 143 9 ((σ3.1 143 9) + v5)) fun σ6 =>
    x_b (F_X8_at 148 (0 : Int32) σ6) fun v7 σ7 =>
    x_b (F_X2_offer 152 v7 (x3 - x4) σ7) fun _ σ8 =>
    if (σ8.1 151 2) = 0 then
      F_X3_weigh_192 x1 σ8
    else
      if (σ8.1 151 1) ≤ x1 then
        F_X3_weigh_203 x1 σ8
      else
        F_X3_weigh_192 x1 σ8
  else
    x_b (F_X3_share x5 (1 : Int32) σ) fun v9 σ9 =>
    x_b (F_X3_share x5 (2 : Int32) σ9) fun v10 σ10 =>
    x_b (F_X3_share x2 (1 : Int32) σ10) fun v11 σ11 =>
    if v11 ≤ v9 then
      F_X3_weigh_72 (F_X3_weigh_17 n) (x1 + v9) x3 x4 x5 v10 x2 σ11
    else
      F_X3_weigh_72 (F_X3_weigh_17 n) (x1 + v9) x3 x4 x5 v10 x5 σ11
def F_X3_weigh (σ : x_Hp) : Option (Unit × x_Hp) :=
  x_b (F_X3_share (0 : Int32) (2 : Int32) σ) fun v1 σ1 =>
  F_X3_weigh_17 x_fuel (0 : Int32) (0 : Int32) v1 v1 (0 : Int32) σ1
def F_X3_search_164 (k38 : Int32 → Int32 → Int32 → x_Hp → Option (Unit × x_Hp)) (k55 : Int32 → Int32 → Int32 → x_Hp → Option (Unit × x_Hp)) (x2 : Int32) (x5 : Int32) (x6 : Int32) (s0 : Int32) (s1 : Int32) (σ : x_Hp) : Option (Unit × x_Hp) :=
  x_b (F_X8_put 145 s1 s0 σ) fun _ σ12 =>
  k55 x2 x5 (x6 + (1 : Int32)) σ12
def F_X3_search_162 (k38 : Int32 → Int32 → Int32 → x_Hp → Option (Unit × x_Hp)) (k55 : Int32 → Int32 → Int32 → x_Hp → Option (Unit × x_Hp)) (x2 : Int32) (x5 : Int32) (x6 : Int32) (x10 : Int32) (s0 : Int32) (σ : x_Hp) : Option (Unit × x_Hp) :=
  F_X3_search_164 k38 k55 x2 x5 x6 x10 s0 σ
def F_X3_search_55 (k38 : Int32 → Int32 → Int32 → x_Hp → Option (Unit × x_Hp)) : Nat → Int32 → Int32 → Int32 → x_Hp → Option (Unit × x_Hp)
  | 0, _, _, _, _ => none
  | n + 1, x2, x5, x6, σ =>
  if (σ.1 1 7) ≤ x6 then
    x_b (F_X3_weigh σ) fun _ σ4 =>
    x_b (F_X3_follow σ4) fun v5 σ5 =>
    k38 x2 v5 (x5 + (1 : Int32)) σ5
  else
    x_b (F_X3_row (x6 + (1 : Int32)) σ) fun v6 σ6 =>
    x_b (F_X3_row x6 σ6) fun v7 σ7 =>
    x_b (F_X5_takeFrom v6 v7 σ7) fun _ σ8 =>
    x_b (F_X8_at 148 x6 σ8) fun v9 σ9 =>
    x_b (F_X0_keep 34 v6 v9 x2 σ9) fun _ σ10 =>
    x_b (F_X8_at 145 x6 σ10) fun v11 σ11 =>
    if v11 = (-2 : Int32) then
      if (σ11.1 v6 17) ≤ (σ8.1 v6 17) then
        F_X3_search_162 k38 (F_X3_search_55 k38 n) x2 x5 x6 v11 (x6 + (1 : Int32)) σ11
      else
        F_X3_search_164 k38 (F_X3_search_55 k38 n) x2 x5 x6 v9 (x6 + (1 : Int32)) σ11
    else
      F_X3_search_162 k38 (F_X3_search_55 k38 n) x2 x5 x6 v11 (x6 + (1 : Int32)) σ11
def F_X3_search_38 : Nat → Int32 → Int32 → Int32 → x_Hp → Option (Unit × x_Hp)
  | 0, _, _, _, _ => none
  | n + 1, x2, x4, x5, σ =>
  if (720 : Int32) ≤ x5 then
    some ((), σ)
  else
    if x4 < 0 then
      some ((), σ)
    else
      F_X3_search_55 (F_X3_search_38 n) x_fuel x2 x5 x4 σ
def F_X3_search_17 (r1 : Nat) (x2 : Int32) (x3 : Int32) (σ : x_Hp) : Option (Unit × x_Hp) :=
  x_pt (x_pI σ 143 10 x2) fun σ1 =>
  x_pt (x_pI σ1 143 11 x3) fun σ2 =>
  x_b (F_X3_begin r1 σ2) fun _ σ3 =>
  F_X3_search_38 x_fuel x2 (0 : Int32) (0 : Int32) σ3
def F_X3_search (r1 : Nat) (x2 : Int32) (x3 : Int32) (σ : x_Hp) : Option (Unit × x_Hp) :=
  if x2 = (σ.1 143 10) then
    if x3 = (σ.1 143 11) then
      some ((), σ)
    else
      F_X3_search_17 r1 x2 x3 σ
  else
    F_X3_search_17 r1 x2 x3 σ
def F_X4_addFour_53 (k3 : Int32 → Int32 → x_Hp → Option (Unit × x_Hp)) (x1 : Int32) (x2 : Int32) (σ : x_Hp) : Option (Unit × x_Hp) :=
  k3 x1 (x2 + (-8 : Int32)) σ
def F_X4_addFour_3 : Nat → Int32 → Int32 → x_Hp → Option (Unit × x_Hp)
  | 0, _, _, _ => none
  | n + 1, x1, x2, σ =>
  if x2 < 0 then
    some ((), σ)
  else
    if (σ.1 14 1) < 0 then
      F_X4_addFour_53 (F_X4_addFour_3 n) x1 x2 σ
    else
      if (2000 : Int32) ≤ (σ.1 14 1) then
        F_X4_addFour_53 (F_X4_addFour_3 n) x1 x2 σ
      else
        x_gd (x_inb (σ.1 14 1) 2000) <|
        x_pt (x_pI σ 15 (x_ix (σ.1 14 1)) (vp_nar .char (((((x1.toUInt32 >>> (x2.toUInt32 &&& Int32.toUInt32 31)).toInt32) &&& (255 : Int32)).toUInt32 % 65536).toInt32))) fun σ2 =>
        x_pt (x_pI σ2 14 1 ((σ2.1 14 1) + (1 : Int32))) fun σ3 =>
        F_X4_addFour_53 (F_X4_addFour_3 n) x1 x2 σ3
def F_X4_addFour (x1 : Int32) (σ : x_Hp) : Option (Unit × x_Hp) :=
  F_X4_addFour_3 x_fuel x1 (24 : Int32) σ
def F_X4_addBytes (x1 : Int32) (x2 : Int32) (x3 : Int32) (x4 : Int32) (x5 : Int32) (σ : x_Hp) : Option (Int32 × x_Hp) :=
  if ((σ.1 14 1) + (20 : Int32)) ≤ (2000 : Int32) then
    x_b (F_X4_addFour x1 σ) fun _ σ1 =>
    x_b (F_X4_addFour x2 σ1) fun _ σ2 =>
    x_b (F_X4_addFour x3 σ2) fun _ σ3 =>
    x_b (F_X4_addFour x4 σ3) fun _ σ4 =>
    x_b (F_X4_addFour x5 σ4) fun _ σ5 =>
    some (σ5.1 14 1, σ5)
  else
    some ((-1 : Int32), σ)
def F_X4_dropBytes (x1 : Int32) (σ : x_Hp) : Option (Int32 × x_Hp) :=
  if x1 < 0 then
    some ((-1 : Int32), σ)
  else
    if x1 ≤ (σ.1 14 1) then
      x_pt (x_pI σ 14 1 ((σ.1 14 1) - x1)) fun σ1 =>
      some (σ1.1 14 1, σ1)
    else
      some ((-1 : Int32), σ)
def F_X4_byteAt (x1 : Int32) (σ : x_Hp) : Option (Int32 × x_Hp) :=
  if x1 < 0 then
    x_gd (x_isc (0 : Int32)) <|
    some ((0 : Int32), σ)
  else
    if (2000 : Int32) ≤ x1 then
      x_gd (x_isc (0 : Int32)) <|
      some ((0 : Int32), σ)
    else
      x_gd (x_inb x1 2000) <|
      x_gd (x_isc (σ.1 15 (x_ix x1))) <|
      some (σ.1 15 (x_ix x1), σ)
def F_X4_kind (σ : x_Hp) : Option (Int32 × x_Hp) :=
  x_b (F_X8_at 16 (σ.1 14 6) σ) fun v1 σ1 =>
  some (v1, σ1)
def F_X4_addRow_54 (σ : x_Hp) : Option (Unit × x_Hp) :=
  x_pt (x_pI σ 14 5 ((σ.1 14 5) + (1 : Int32))) fun σ5 =>
  some ((), σ5)
def F_X4_addRow (x1 : Int32) (y2 : Int64) (x4 : Int32) (σ : x_Hp) : Option (Unit × x_Hp) :=
  x_b (F_X8_put 16 (σ.1 14 5) x1 σ) fun _ σ1 =>
  x_b (F_X8_put 18 (σ1.1 14 5) x4 σ1) fun _ σ2 =>
  if (σ2.1 14 5) < 0 then
    F_X4_addRow_54 σ2
  else
    if (402 : Int32) ≤ (σ2.1 14 5) then
      F_X4_addRow_54 σ2
    else
      x_gd (x_inb (σ2.1 14 5) 402) <|
      x_pt (x_pL σ2 17 (x_ix (σ2.1 14 5)) y2) fun σ4 =>
      F_X4_addRow_54 σ4
def F_X4_nameAt_5 : Nat → Int32 → Int64 → Int32 → x_Hp → Option (Int64 × x_Hp)
  | 0, _, _, _, _ => none
  | n + 1, x2, y3, x5, σ =>
  if x2 ≤ x5 then
    some (y3, σ)
  else
    x_b (F_X4_byteAt x5 σ) fun v1 σ1 =>
    (F_X4_nameAt_5 n) x2 ((y3 * (27 : Int64)) + (((v1 - (97 : Int32)) + (1 : Int32)).toInt64)) (x5 + (1 : Int32)) σ1
def F_X4_nameAt (x1 : Int32) (x2 : Int32) (σ : x_Hp) : Option (Int64 × x_Hp) :=
  F_X4_nameAt_5 x_fuel x2 (0 : Int64) x1 σ
def F_X4_wordAt_98 (k2 : Int32 → Int32 → Int32 → x_Hp → Option (Int32 × x_Hp)) (x1 : Int32) (x2 : Int32) (x3 : Int32) (x4 : Int32) (σ : x_Hp) : Option (Int32 × x_Hp) :=
  if x4 = 0 then
    k2 x1 x2 (x3 + (1 : Int32)) σ
  else
    some (x3, σ)
def F_X4_wordAt_90 (k2 : Int32 → Int32 → Int32 → x_Hp → Option (Int32 × x_Hp)) (k14 : Int32 → Int32 → Int32 → Int32 → Int32 → x_Hp → Option (Int32 × x_Hp)) (x1 : Int32) (x2 : Int32) (x3 : Int32) (x5 : Int32) (s0 : Int32) (σ : x_Hp) : Option (Int32 × x_Hp) :=
  k14 x1 x2 x3 s0 (x5 + (1 : Int32)) σ
def F_X4_wordAt_89 (k2 : Int32 → Int32 → Int32 → x_Hp → Option (Int32 × x_Hp)) (k14 : Int32 → Int32 → Int32 → Int32 → Int32 → x_Hp → Option (Int32 × x_Hp)) (x1 : Int32) (x2 : Int32) (x3 : Int32) (x5 : Int32) (σ : x_Hp) : Option (Int32 × x_Hp) :=
  F_X4_wordAt_90 k2 k14 x1 x2 x3 x5 (0 : Int32) σ
def F_X4_wordAt_56 (k2 : Int32 → Int32 → Int32 → x_Hp → Option (Int32 × x_Hp)) (k14 : Int32 → Int32 → Int32 → Int32 → Int32 → x_Hp → Option (Int32 × x_Hp)) (x1 : Int32) (x2 : Int32) (x3 : Int32) (x5 : Int32) (x6 : Int32) (s0 : Int32) (σ : x_Hp) : Option (Int32 × x_Hp) :=
  if x6 < 0 then
    F_X4_wordAt_89 k2 k14 x1 x2 x3 x5 σ
  else
    if (200 : Int32) ≤ x6 then
      F_X4_wordAt_89 k2 k14 x1 x2 x3 x5 σ
    else
      x_gd (x_inb x6 200) <|
      if (x_wch x6) = s0 then
        F_X4_wordAt_90 k2 k14 x1 x2 x3 x5 (1 : Int32) σ
      else
        F_X4_wordAt_89 k2 k14 x1 x2 x3 x5 σ
def F_X4_wordAt_14 (k2 : Int32 → Int32 → Int32 → x_Hp → Option (Int32 × x_Hp)) : Nat → Int32 → Int32 → Int32 → Int32 → Int32 → x_Hp → Option (Int32 × x_Hp)
  | 0, _, _, _, _, _, _ => none
  | n + 1, x1, x2, x3, x4, x5, σ =>
  if (8 : Int32) ≤ x5 then
    F_X4_wordAt_98 k2 x1 x2 x3 x4 σ
  else
    if x4 = 0 then
      F_X4_wordAt_98 k2 x1 x2 x3 x4 σ
    else
      if x2 ≤ (x1 + x5) then
        F_X4_wordAt_56 k2 (F_X4_wordAt_14 k2 n) x1 x2 x3 x5 ((x3 * (8 : Int32)) + x5) (32 : Int32) σ
      else
        x_b (F_X4_byteAt (x1 + x5) σ) fun v1 σ1 =>
        F_X4_wordAt_56 k2 (F_X4_wordAt_14 k2 n) x1 x2 x3 x5 ((x3 * (8 : Int32)) + x5) v1 σ1
def F_X4_wordAt_2 : Nat → Int32 → Int32 → Int32 → x_Hp → Option (Int32 × x_Hp)
  | 0, _, _, _, _ => none
  | n + 1, x1, x2, x3, σ =>
  if (24 : Int32) < x3 then
    some ((-1 : Int32), σ)
  else
    F_X4_wordAt_14 (F_X4_wordAt_2 n) x_fuel x1 x2 x3 (1 : Int32) (0 : Int32) σ
def F_X4_wordAt (x1 : Int32) (x2 : Int32) (σ : x_Hp) : Option (Int32 × x_Hp) :=
  F_X4_wordAt_2 x_fuel x1 x2 (0 : Int32) σ
def F_X4_addWord_36 (x1 : Int32) (x2 : Int32) (s0 : Int32) (σ : x_Hp) : Option (Unit × x_Hp) :=
  x_b (F_X4_nameAt x1 x2 σ) fun v3 σ3 =>
  x_b (F_X4_addRow s0 v3 x1 σ3) fun _ σ4 =>
  some ((), σ4)
def F_X4_addWord (x1 : Int32) (x2 : Int32) (σ : x_Hp) : Option (Unit × x_Hp) :=
  if (x2 - x1) ≤ (8 : Int32) then
    x_b (F_X4_wordAt x1 x2 σ) fun v1 σ1 =>
    if v1 = (-1 : Int32) then
      F_X4_addWord_36 x1 x2 (30 : Int32) σ1
    else
      F_X4_addWord_36 x1 x2 v1 σ1
  else
    x_b (F_X4_addRow (33 : Int32) (0 : Int64) x1 σ) fun _ σ2 =>
    some ((), σ2)
def F_X4_isDigit (x0 : Int32) (σ : x_Hp) : Option (Int32 × x_Hp) :=
  if x0 < (48 : Int32) then
    some ((0 : Int32), σ)
  else
    if (57 : Int32) < x0 then
      some ((0 : Int32), σ)
    else
      some ((1 : Int32), σ)
def F_X4_isLetter (x0 : Int32) (σ : x_Hp) : Option (Int32 × x_Hp) :=
  if x0 < (97 : Int32) then
    some ((0 : Int32), σ)
  else
    if (122 : Int32) < x0 then
      some ((0 : Int32), σ)
    else
      some ((1 : Int32), σ)
def F_X4_isSign (x0 : Int32) (σ : x_Hp) : Option (Int32 × x_Hp) :=
  if x0 = (43 : Int32) then
    some ((1 : Int32), σ)
  else
    if x0 = (45 : Int32) then
      some ((1 : Int32), σ)
    else
      if x0 = (42 : Int32) then
        some ((1 : Int32), σ)
      else
        if x0 = (47 : Int32) then
          some ((1 : Int32), σ)
        else
          some ((0 : Int32), σ)
def F_X4_numberAt_5 : Nat → Int32 → Int32 → Int32 → x_Hp → Option (Int32 × x_Hp)
  | 0, _, _, _, _ => none
  | n + 1, x2, x3, x4, σ =>
  if x2 ≤ x4 then
    some (x3, σ)
  else
    x_b (F_X4_byteAt x4 σ) fun v1 σ1 =>
    (F_X4_numberAt_5 n) x2 ((x3 * (10 : Int32)) + (v1 - (48 : Int32))) (x4 + (1 : Int32)) σ1
def F_X4_numberAt (x1 : Int32) (x2 : Int32) (σ : x_Hp) : Option (Int32 × x_Hp) :=
  F_X4_numberAt_5 x_fuel x2 (0 : Int32) x1 σ
def F_X4_addToken_114 (x1 : Int32) (s0 : Int32) (σ : x_Hp) : Option (Unit × x_Hp) :=
  x_b (F_X4_addRow s0 (0 : Int64) x1 σ) fun _ σ8 =>
  some ((), σ8)
def F_X4_addToken_100 (x1 : Int32) (x3 : Int32) (s0 : Int32) (σ : x_Hp) : Option (Unit × x_Hp) :=
  if s0 = 0 then
    F_X4_addToken_114 x1 (33 : Int32) σ
  else
    F_X4_addToken_114 x1 x3 σ
def F_X4_addToken_95 (x1 : Int32) (x3 : Int32) (σ : x_Hp) : Option (Unit × x_Hp) :=
  F_X4_addToken_100 x1 x3 (1 : Int32) σ
def F_X4_addToken_44 (x1 : Int32) (x2 : Int32) (s0 : Int32) (σ : x_Hp) : Option (Unit × x_Hp) :=
  x_b (F_X4_numberAt x1 x2 σ) fun v6 σ6 =>
  x_b (F_X4_addRow s0 v6.toInt64 x1 σ6) fun _ σ7 =>
  some ((), σ7)
def F_X4_addToken (x1 : Int32) (x2 : Int32) (σ : x_Hp) : Option (Unit × x_Hp) :=
  x_b (F_X4_byteAt x1 σ) fun v1 σ1 =>
  x_b (F_X4_isLetter v1 σ1) fun v2 σ2 =>
  if v2 = 0 then
    x_b (F_X4_isDigit v1 σ2) fun v3 σ3 =>
    if v3 = 0 then
      x_b (F_X4_isSign v1 σ3) fun v4 σ4 =>
      if v4 = 0 then
        if v1 = (59 : Int32) then
          F_X4_addToken_95 x1 v1 σ4
        else
          if v1 = (61 : Int32) then
            F_X4_addToken_95 x1 v1 σ4
          else
            if v1 = (60 : Int32) then
              F_X4_addToken_95 x1 v1 σ4
            else
              if v1 = (40 : Int32) then
                F_X4_addToken_95 x1 v1 σ4
              else
                if v1 = (41 : Int32) then
                  F_X4_addToken_95 x1 v1 σ4
                else
                  F_X4_addToken_100 x1 v1 (0 : Int32) σ4
      else
        F_X4_addToken_95 x1 v1 σ4
    else
      if (4 : Int32) < (x2 - x1) then
        F_X4_addToken_44 x1 x2 (33 : Int32) σ3
      else
        F_X4_addToken_44 x1 x2 (31 : Int32) σ3
  else
    x_b (F_X4_addWord x1 x2 σ2) fun _ σ5 =>
    some ((), σ5)
def F_X4_endOfRun_64 (k23 : Int32 → Int32 → Int32 → x_Hp → Option (Int32 × x_Hp)) (x2 : Int32) (x3 : Int32) (x4 : Int32) (σ : x_Hp) : Option (Int32 × x_Hp) :=
  k23 x2 x3 (x4 + (1 : Int32)) σ
def F_X4_endOfRun_48 (k23 : Int32 → Int32 → Int32 → x_Hp → Option (Int32 × x_Hp)) (x2 : Int32) (x3 : Int32) (x4 : Int32) (σ : x_Hp) : Option (Int32 × x_Hp) :=
  if x3 = 0 then
    some (x4, σ)
  else
    x_b (F_X4_byteAt x4 σ) fun v7 σ7 =>
    x_b (F_X4_isDigit v7 σ7) fun v8 σ8 =>
    if v8 = 0 then
      some (x4, σ8)
    else
      F_X4_endOfRun_64 k23 x2 x3 x4 σ8
def F_X4_endOfRun_23 : Nat → Int32 → Int32 → Int32 → x_Hp → Option (Int32 × x_Hp)
  | 0, _, _, _, _ => none
  | n + 1, x2, x3, x4, σ =>
  if (σ.1 14 1) ≤ x4 then
    some (x4, σ)
  else
    if x2 = 0 then
      F_X4_endOfRun_48 (F_X4_endOfRun_23 n) x2 x3 x4 σ
    else
      x_b (F_X4_byteAt x4 σ) fun v5 σ5 =>
      x_b (F_X4_isLetter v5 σ5) fun v6 σ6 =>
      if v6 = 0 then
        F_X4_endOfRun_48 (F_X4_endOfRun_23 n) x2 x3 x4 σ6
      else
        F_X4_endOfRun_64 (F_X4_endOfRun_23 n) x2 x3 x4 σ6
def F_X4_endOfRun (x1 : Int32) (σ : x_Hp) : Option (Int32 × x_Hp) :=
  x_b (F_X4_byteAt x1 σ) fun v1 σ1 =>
  x_b (F_X4_isLetter v1 σ1) fun v2 σ2 =>
  x_b (F_X4_byteAt x1 σ2) fun v3 σ3 =>
  x_b (F_X4_isDigit v3 σ3) fun v4 σ4 =>
  F_X4_endOfRun_23 x_fuel v2 v4 (x1 + (1 : Int32)) σ4
def F_X4_isBlank (x0 : Int32) (σ : x_Hp) : Option (Int32 × x_Hp) :=
  if x0 = (9 : Int32) then
    some ((1 : Int32), σ)
  else
    if x0 = (10 : Int32) then
      some ((1 : Int32), σ)
    else
      if x0 = (13 : Int32) then
        some ((1 : Int32), σ)
      else
        if x0 = (32 : Int32) then
          some ((1 : Int32), σ)
        else
          some ((0 : Int32), σ)
def F_X4_scan_63 (σ : x_Hp) : Option (Unit × x_Hp) :=
  x_b (F_X4_addRow (32 : Int32) (0 : Int64) (σ.1 14 1) σ) fun _ σ6 =>
  some ((), σ6)
def F_X4_scan_57 (k9 : Int32 → Int32 → x_Hp → Option (Unit × x_Hp)) (x1 : Int32) (x2 : Int32) (σ : x_Hp) : Option (Unit × x_Hp) :=
  k9 x1 (x2 + (1 : Int32)) σ
def F_X4_scan_9 : Nat → Int32 → Int32 → x_Hp → Option (Unit × x_Hp)
  | 0, _, _, _ => none
  | n + 1, x1, x2, σ =>
  if (σ.1 14 1) ≤ x2 then
    F_X4_scan_63 σ
  else
    if (400 : Int32) < (σ.1 14 5) then
      F_X4_scan_63 σ
    else
      x_b (F_X4_byteAt x2 σ) fun v2 σ2 =>
      if x2 < x1 then
        F_X4_scan_57 (F_X4_scan_9 n) x1 x2 σ2
      else
        x_b (F_X4_isBlank v2 σ2) fun v3 σ3 =>
        if v3 = 0 then
          x_b (F_X4_endOfRun x2 σ3) fun v4 σ4 =>
          x_b (F_X4_addToken x2 v4 σ4) fun _ σ5 =>
          F_X4_scan_57 (F_X4_scan_9 n) v4 x2 σ5
        else
          F_X4_scan_57 (F_X4_scan_9 n) x1 x2 σ3
def F_X4_scan (σ : x_Hp) : Option (Unit × x_Hp) :=
  x_pt (x_pI σ 14 5 (0 : Int32)) fun σ1 =>
  F_X4_scan_9 x_fuel (0 : Int32) (0 : Int32) σ1
def F_X4_fail_41 (s0 : Int32) (σ : x_Hp) : Option (Int32 × x_Hp) :=
  x_pt (x_pI σ 14 11 s0) fun σ3 =>
  some ((0 : Int32), σ3)
def F_X4_fail_37 (σ : x_Hp) : Option (Int32 × x_Hp) :=
  F_X4_fail_41 (σ.1 14 1) σ
def F_X4_fail (x1 : Int32) (σ : x_Hp) : Option (Int32 × x_Hp) :=
  x_pt (x_pI σ 14 10 x1) fun σ1 =>
  if (σ1.1 14 6) < 0 then
    F_X4_fail_37 σ1
  else
    if (402 : Int32) ≤ (σ1.1 14 6) then
      F_X4_fail_37 σ1
    else
      x_gd (x_inb (σ1.1 14 6) 402) <|
      F_X4_fail_41 (σ1.1 18 (x_ix (σ1.1 14 6))) σ1
def F_X4_note (x1 : Int32) (σ : x_Hp) : Option (Unit × x_Hp) :=
  if (σ.1 14 10) = 0 then
    x_b (F_X4_fail x1 σ) fun v1 σ1 =>
    some ((), σ1)
  else
    some ((), σ)
def F_X4_take (σ : x_Hp) : Option (Int32 × x_Hp) :=
  if (σ.1 14 6) < (400 : Int32) then
    x_pt (x_pI σ 14 6 ((σ.1 14 6) + (1 : Int32))) fun σ1 =>
    some ((1 : Int32), σ1)
  else
    x_b (F_X4_fail (2 : Int32) σ) fun v2 σ2 =>
    x_gd (x_isz v2) <|
    some (v2, σ2)
def F_X4_take_ (x1 : Int32) (σ : x_Hp) : Option (Int32 × x_Hp) :=
  x_b (F_X4_kind σ) fun v1 σ1 =>
  if v1 = x1 then
    x_b (F_X4_take σ1) fun v3 σ3 =>
    x_gd (x_isz v3) <|
    some (v3, σ3)
  else
    x_b (F_X4_fail (1 : Int32) σ1) fun v2 σ2 =>
    x_gd (x_isz v2) <|
    some (v2, σ2)
def F_X4_worth (σ : x_Hp) : Option (Int64 × x_Hp) :=
  if (σ.1 14 6) < 0 then
    some ((0 : Int64), σ)
  else
    if (402 : Int32) ≤ (σ.1 14 6) then
      some ((0 : Int64), σ)
    else
      x_gd (x_inb (σ.1 14 6) 402) <|
      some (σ.2 17 (x_ix (σ.1 14 6)), σ)
def F_X4_takeNumbers_36 (k3 : Int32 → Int32 → Int32 → x_Hp → Option (Int32 × x_Hp)) (x2 : Int32) (x3 : Int32) (x4 : Int32) (x5 : Int32) (σ : x_Hp) : Option (Int32 × x_Hp) :=
  x_b (F_X8_put 19 x4 x5 σ) fun _ σ4 =>
  x_b (F_X4_take_ (31 : Int32) σ4) fun v5 σ5 =>
  if v5 = 0 then
    some ((0 : Int32), σ5)
  else
    k3 x2 x3 (x4 + (1 : Int32)) σ5
def F_X4_takeNumbers_3 : Nat → Int32 → Int32 → Int32 → x_Hp → Option (Int32 × x_Hp)
  | 0, _, _, _, _ => none
  | n + 1, x2, x3, x4, σ =>
  if x2 ≤ x4 then
    some ((1 : Int32), σ)
  else
    x_b (F_X4_worth σ) fun v1 σ1 =>
    x_b (F_X4_kind σ1) fun v2 σ2 =>
    if v2 = (31 : Int32) then
      if v1.toInt32 ≤ x3 then
        F_X4_takeNumbers_36 (F_X4_takeNumbers_3 n) x2 x3 x4 v1.toInt32 σ2
      else
        x_b (F_X4_note (5 : Int32) σ2) fun _ σ3 =>
        F_X4_takeNumbers_36 (F_X4_takeNumbers_3 n) x2 x3 x4 v1.toInt32 σ3
    else
      F_X4_takeNumbers_36 (F_X4_takeNumbers_3 n) x2 x3 x4 v1.toInt32 σ2
def F_X4_takeNumbers (x1 : Int32) (x2 : Int32) (x3 : Int32) (σ : x_Hp) : Option (Int32 × x_Hp) :=
  F_X4_takeNumbers_3 x_fuel x2 x3 x1 σ
def F_X6_knows_2 : Nat → Nat → Int64 → Int32 → x_Hp → Option (Int32 × x_Hp)
  | 0, _, _, _, _ => none
  | n + 1, o, y1, x3, σ =>
  if (σ.1 o 7) ≤ x3 then
    some ((0 : Int32), σ)
  else
    if (Int32.ofNat (x_ln TX (x_rf TX o 8))) ≤ x3 then
      some ((0 : Int32), σ)
    else
      x_gd (x_inb x3 (x_ln TX (x_rf TX o 8))) <|
      if (lg_cmp (σ.2 (x_rf TX o 8) (x_ix x3)) y1) = 0 then
        some ((1 : Int32), σ)
      else
        (F_X6_knows_2 n) o y1 (x3 + (1 : Int32)) σ
def F_X6_knows (o : Nat) (y1 : Int64) (σ : x_Hp) : Option (Int32 × x_Hp) :=
  F_X6_knows_2 x_fuel o y1 (0 : Int32) σ
def F_X6_tellAunt_111 (o : Nat) (s0 : Int32) (s1 : Int32) (s2 : Nat) (σ : x_Hp) : Option (Unit × x_Hp) :=
  x_b (F_X8_put s2 s1 s0 σ) fun _ σ11 =>
  x_pt (x_pI σ11 o 7 ((σ11.1 o 7) + (1 : Int32))) fun σ12 =>
  some ((), σ12)
def F_X6_tellAunt_29 (o : Nat) (r3 : Nat) (x4 : Int32) (σ : x_Hp) : Option (Unit × x_Hp) :=
  x_b (F_X8_at r3 (0 : Int32) σ) fun v3 σ3 =>
  x_b (F_X8_put (x_rf TX o 9) (σ.1 o 7) v3 σ3) fun _ σ4 =>
  x_b (F_X8_at r3 (1 : Int32) σ4) fun v5 σ5 =>
  x_b (F_X8_put (x_rf TX o 10) (σ4.1 o 7) v5 σ5) fun _ σ6 =>
  x_b (F_X8_at r3 (2 : Int32) σ6) fun v7 σ7 =>
  x_b (F_X8_put (x_rf TX o 11) (σ6.1 o 7) v7 σ7) fun _ σ8 =>
  x_b (F_X8_at r3 (3 : Int32) σ8) fun v9 σ9 =>
  x_b (F_X8_put (x_rf TX o 12) (σ8.1 o 7) v9 σ9) fun _ σ10 =>
  if x4 = 0 then
    F_X6_tellAunt_111 o (0 : Int32) (σ10.1 o 7) (x_rf TX o 13) σ10
  else
    F_X6_tellAunt_111 o (1 : Int32) (σ10.1 o 7) (x_rf TX o 13) σ10
def F_X6_tellAunt (o : Nat) (y1 : Int64) (r3 : Nat) (x4 : Int32) (σ : x_Hp) : Option (Unit × x_Hp) :=
  if (σ.1 o 7) < 0 then
    F_X6_tellAunt_29 o r3 x4 σ
  else
    if (Int32.ofNat (x_ln TX (x_rf TX o 8))) ≤ (σ.1 o 7) then
      F_X6_tellAunt_29 o r3 x4 σ
    else
      x_gd (x_inb (σ.1 o 7) (x_ln TX (x_rf TX o 8))) <|
      x_pt (x_pL σ (x_rf TX o 8) (x_ix (σ.1 o 7)) y1) fun σ2 =>
      F_X6_tellAunt_29 o r3 x4 σ2
def F_X4_tellAunt_118 (y1 : Int64) (x3 : Int32) (σ : x_Hp) : Option (Int32 × x_Hp) :=
  x_b (F_X6_tellAunt 21 y1 19 x3 σ) fun _ σ12 =>
  x_b (F_X4_take_ (59 : Int32) σ12) fun v13 σ13 =>
  x_gd (x_isz v13) <|
  some (v13, σ13)
def F_X4_tellAunt_104 (y1 : Int64) (s0 : Int32) (σ : x_Hp) : Option (Int32 × x_Hp) :=
  if s0 = 0 then
    F_X4_tellAunt_118 y1 s0 σ
  else
    x_b (F_X4_take σ) fun v11 σ11 =>
    if v11 = 0 then
      some ((0 : Int32), σ11)
    else
      F_X4_tellAunt_118 y1 s0 σ11
def F_X4_tellAunt_57 (y1 : Int64) (σ : x_Hp) : Option (Int32 × x_Hp) :=
  x_b (F_X4_take_ (30 : Int32) σ) fun v7 σ7 =>
  if v7 = 0 then
    some ((0 : Int32), σ7)
  else
    x_b (F_X4_takeNumbers (0 : Int32) (3 : Int32) (9 : Int32) σ7) fun v8 σ8 =>
    if v8 = 0 then
      some ((0 : Int32), σ8)
    else
      x_b (F_X4_takeNumbers (3 : Int32) (4 : Int32) (99 : Int32) σ8) fun v9 σ9 =>
      if v9 = 0 then
        some ((0 : Int32), σ9)
      else
        x_b (F_X4_kind σ9) fun v10 σ10 =>
        if v10 = (12 : Int32) then
          F_X4_tellAunt_104 y1 (1 : Int32) σ10
        else
          F_X4_tellAunt_104 y1 (0 : Int32) σ10
def F_X4_tellAunt (σ : x_Hp) : Option (Int32 × x_Hp) :=
  if (σ.1 21 7) < (6 : Int32) then
    x_b (F_X4_take σ) fun v1 σ1 =>
    if v1 = 0 then
      some ((0 : Int32), σ1)
    else
      x_b (F_X4_worth σ1) fun v2 σ2 =>
      x_b (F_X4_kind σ2) fun v3 σ3 =>
      if v3 = (30 : Int32) then
        x_b (F_X6_knows 21 v2 σ3) fun v4 σ4 =>
        if v4 = 0 then
          F_X4_tellAunt_57 v2 σ4
        else
          x_b (F_X4_note (3 : Int32) σ4) fun _ σ5 =>
          F_X4_tellAunt_57 v2 σ5
      else
        F_X4_tellAunt_57 v2 σ3
  else
    x_b (F_X4_fail (2 : Int32) σ) fun v6 σ6 =>
    x_gd (x_isz v6) <|
    some (v6, σ6)
def F_X6_tellBaby (o : Nat) (x1 : Int32) (x2 : Int32) (x3 : Int32) (x4 : Int32) (σ : x_Hp) : Option (Unit × x_Hp) :=
  x_pt (x_pI σ o 0 x1) fun σ1 =>
  x_pt (x_pI σ1 o 1 x2) fun σ2 =>
  x_pt (x_pI σ2 o 2 x3) fun σ3 =>
  x_pt (x_pI σ3 o 3 x4) fun σ4 =>
  some ((), σ4)
def F_X4_tellBaby_32 (s0 : Int32) (σ : x_Hp) : Option (Int32 × x_Hp) :=
  x_b (F_X8_at 19 (0 : Int32) σ) fun v4 σ4 =>
  x_b (F_X8_at 19 (1 : Int32) σ4) fun v5 σ5 =>
  x_b (F_X8_at 19 (2 : Int32) σ5) fun v6 σ6 =>
  x_b (F_X8_at 19 (3 : Int32) σ6) fun v7 σ7 =>
  x_b (F_X6_tellBaby 21 v4 v5 v6 v7 σ7) fun _ σ8 =>
  x_gd (x_isz s0) <|
  some (s0, σ8)
def F_X4_tellBaby_31 (σ : x_Hp) : Option (Int32 × x_Hp) :=
  F_X4_tellBaby_32 (0 : Int32) σ
def F_X4_tellBaby (σ : x_Hp) : Option (Int32 × x_Hp) :=
  x_b (F_X4_take σ) fun v1 σ1 =>
  if v1 = 0 then
    F_X4_tellBaby_31 σ1
  else
    x_b (F_X4_takeNumbers (0 : Int32) (4 : Int32) (99 : Int32) σ1) fun v2 σ2 =>
    if v2 = 0 then
      F_X4_tellBaby_31 σ2
    else
      x_b (F_X4_take_ (59 : Int32) σ2) fun v3 σ3 =>
      if v3 = 0 then
        F_X4_tellBaby_31 σ3
      else
        F_X4_tellBaby_32 (1 : Int32) σ3
def F_X4_addUnit (x1 : Int32) (σ : x_Hp) : Option (Int32 × x_Hp) :=
  if x1 = (31 : Int32) then
    x_b (F_X4_worth σ) fun v2 σ2 =>
    x_b (F_X1_addStep 28 v2.toInt32 σ2) fun _ σ3 =>
    some ((1 : Int32), σ3)
  else
    if x1 < (16 : Int32) then
      some ((0 : Int32), σ)
    else
      if (24 : Int32) < x1 then
        some ((0 : Int32), σ)
      else
        x_b (F_X1_addStep 28 (((10000 : Int32) + x1) - (16 : Int32)) σ) fun _ σ1 =>
        some ((1 : Int32), σ1)
def F_X4_addWaiting (x1 : Int32) (σ : x_Hp) : Option (Unit × x_Hp) :=
  x_b (F_X8_put 20 (σ.1 14 9) x1 σ) fun _ σ1 =>
  x_pt (x_pI σ1 14 9 ((σ1.1 14 9) + (1 : Int32))) fun σ2 =>
  some ((), σ2)
def F_X4_rank (x0 : Int32) (σ : x_Hp) : Option (Int32 × x_Hp) :=
  if x0 = (40 : Int32) then
    some ((0 : Int32), σ)
  else
    if x0 = (42 : Int32) then
      some ((2 : Int32), σ)
    else
      if x0 = (47 : Int32) then
        some ((2 : Int32), σ)
      else
        some ((1 : Int32), σ)
def F_X4_endWaiting_0 : Nat → Int32 → x_Hp → Option (Unit × x_Hp)
  | 0, _, _ => none
  | n + 1, x1, σ =>
  if (σ.1 14 9) ≤ 0 then
    some ((), σ)
  else
    x_b (F_X8_at 20 ((σ.1 14 9) - (1 : Int32)) σ) fun v1 σ1 =>
    x_b (F_X4_rank v1 σ1) fun v2 σ2 =>
    if v2 < x1 then
      some ((), σ2)
    else
      x_pt (x_pI σ2 14 9 ((σ2.1 14 9) - (1 : Int32))) fun σ3 =>
      x_b (F_X8_at 20 (σ3.1 14 9) σ3) fun v4 σ4 =>
      x_b (F_X1_addStep 28 ((20000 : Int32) + v4) σ4) fun _ σ5 =>
      (F_X4_endWaiting_0 n) x1 σ5
def F_X4_endWaiting (x1 : Int32) (σ : x_Hp) : Option (Unit × x_Hp) :=
  F_X4_endWaiting_0 x_fuel x1 σ
def F_X4_takePiece_184 (σ : x_Hp) : Option (Int32 × x_Hp) :=
  x_b (F_X4_fail (1 : Int32) σ) fun v16 σ16 =>
  x_gd (x_isz v16) <|
  some (v16, σ16)
def F_X4_takePiece_190 (k15 : Int32 → Int32 → Int32 → Int32 → Int32 → x_Hp → Option (Int32 × x_Hp)) (x1 : Int32) (x2 : Int32) (x3 : Int32) (x4 : Int32) (x5 : Int32) (σ : x_Hp) : Option (Int32 × x_Hp) :=
  x_b (F_X4_take σ) fun v13 σ13 =>
  if v13 = 0 then
    some ((0 : Int32), σ13)
  else
    k15 x1 x2 x3 x4 (x5 + (1 : Int32)) σ13
def F_X4_takePiece_153 (k15 : Int32 → Int32 → Int32 → Int32 → Int32 → x_Hp → Option (Int32 × x_Hp)) (x1 : Int32) (x2 : Int32) (x3 : Int32) (x5 : Int32) (x6 : Int32) (σ : x_Hp) : Option (Int32 × x_Hp) :=
  if x2 = 0 then
    if x6 = x1 then
      x_b (F_X4_endWaiting (1 : Int32) σ) fun _ σ14 =>
      x_b (F_X1_endPiece 28 σ14) fun _ σ15 =>
      F_X4_takePiece_190 k15 x1 x2 x3 (0 : Int32) x5 σ15
    else
      F_X4_takePiece_184 σ
  else
    F_X4_takePiece_184 σ
def F_X4_takePiece_69 (k15 : Int32 → Int32 → Int32 → Int32 → Int32 → x_Hp → Option (Int32 × x_Hp)) (x1 : Int32) (x2 : Int32) (x3 : Int32) (x4 : Int32) (x5 : Int32) (x6 : Int32) (σ : x_Hp) : Option (Int32 × x_Hp) :=
  if x3 = 0 then
    x_b (F_X4_isSign x6 σ) fun v5 σ5 =>
    if v5 = 0 then
      if x6 = (41 : Int32) then
        if x2 ≤ 0 then
          F_X4_takePiece_153 k15 x1 x2 x3 x5 x6 σ5
        else
          x_b (F_X4_endWaiting (1 : Int32) σ5) fun _ σ6 =>
          x_pt (x_pI σ6 14 9 ((σ6.1 14 9) - (1 : Int32))) fun σ7 =>
          F_X4_takePiece_190 k15 x1 (x2 + (-1 : Int32)) x3 x4 x5 σ7
      else
        F_X4_takePiece_153 k15 x1 x2 x3 x5 x6 σ5
    else
      x_b (F_X4_rank x6 σ5) fun v8 σ8 =>
      x_b (F_X4_endWaiting v8 σ8) fun _ σ9 =>
      x_b (F_X4_addWaiting x6 σ9) fun _ σ10 =>
      F_X4_takePiece_190 k15 x1 x2 (1 : Int32) x4 x5 σ10
  else
    x_b (F_X4_addUnit x6 σ) fun v11 σ11 =>
    if v11 = 0 then
      x_b (F_X4_fail (1 : Int32) σ11) fun v12 σ12 =>
      x_gd (x_isz v12) <|
      some (v12, σ12)
    else
      F_X4_takePiece_190 k15 x1 x2 (0 : Int32) x4 x5 σ11
def F_X4_takePiece_15 : Nat → Int32 → Int32 → Int32 → Int32 → Int32 → x_Hp → Option (Int32 × x_Hp)
  | 0, _, _, _, _, _, _ => none
  | n + 1, x1, x2, x3, x4, x5, σ =>
  if (400 : Int32) < x5 then
    if x4 = 0 then
      some ((1 : Int32), σ)
    else
      some ((0 : Int32), σ)
  else
    if x4 = 0 then
      if x4 = 0 then
        some ((1 : Int32), σ)
      else
        some ((0 : Int32), σ)
    else
      x_b (F_X4_kind σ) fun v2 σ2 =>
      if x3 = 0 then
        F_X4_takePiece_69 (F_X4_takePiece_15 n) x1 x2 x3 x4 x5 v2 σ2
      else
        if v2 = (40 : Int32) then
          if x2 < (6 : Int32) then
            x_b (F_X4_addWaiting v2 σ2) fun _ σ3 =>
            F_X4_takePiece_190 (F_X4_takePiece_15 n) x1 (x2 + (1 : Int32)) x3 x4 x5 σ3
          else
            x_b (F_X4_fail (2 : Int32) σ2) fun v4 σ4 =>
            x_gd (x_isz v4) <|
            some (v4, σ4)
        else
          F_X4_takePiece_69 (F_X4_takePiece_15 n) x1 x2 x3 x4 x5 v2 σ2
def F_X4_takePiece (x1 : Int32) (σ : x_Hp) : Option (Int32 × x_Hp) :=
  x_pt (x_pI σ 14 9 (0 : Int32)) fun σ1 =>
  F_X4_takePiece_15 x_fuel x1 (0 : Int32) (1 : Int32) (1 : Int32) (0 : Int32) σ1
def F_X4_tellLaw_109 (σ : x_Hp) : Option (Int32 × x_Hp) :=
  x_b (F_X4_takePiece (59 : Int32) σ) fun v11 σ11 =>
  x_gd (x_isz v11) <|
  some (v11, σ11)
def F_X4_tellLaw_31 : Nat → Int32 → Int32 → x_Hp → Option (Int32 × x_Hp)
  | 0, _, _, _ => none
  | n + 1, x1, x2, σ =>
  if (4 : Int32) < x2 then
    F_X4_tellLaw_109 σ
  else
    x_b (F_X4_kind σ) fun v4 σ4 =>
    if v4 = (13 : Int32) then
      if x2 = (4 : Int32) then
        x_b (F_X4_fail (2 : Int32) σ4) fun v10 σ10 =>
        x_gd (x_isz v10) <|
        some (v10, σ10)
      else
        x_b (F_X4_take σ4) fun v5 σ5 =>
        if v5 = 0 then
          some ((0 : Int32), σ5)
        else
          x_b (F_X4_takePiece (60 : Int32) σ5) fun v6 σ6 =>
          if v6 = 0 then
            some ((0 : Int32), σ6)
          else
            x_b (F_X4_takePiece (14 : Int32) σ6) fun v7 σ7 =>
            if v7 = 0 then
              some ((0 : Int32), σ7)
            else
              x_b (F_X4_takePiece (15 : Int32) σ7) fun v8 σ8 =>
              if v8 = 0 then
                some ((0 : Int32), σ8)
              else
                x_b (F_X1_addIf 28 x1 σ8) fun _ σ9 =>
                (F_X4_tellLaw_31 n) x1 (x2 + (1 : Int32)) σ9
    else
      F_X4_tellLaw_109 σ4
def F_X4_tellLaw (x1 : Int32) (σ : x_Hp) : Option (Int32 × x_Hp) :=
  x_b (F_X4_take σ) fun v1 σ1 =>
  if v1 = 0 then
    some ((0 : Int32), σ1)
  else
    x_b (F_X4_take_ (61 : Int32) σ1) fun v2 σ2 =>
    if v2 = 0 then
      some ((0 : Int32), σ2)
    else
      x_b (F_X1_beginLaw 28 x1 σ2) fun _ σ3 =>
      F_X4_tellLaw_31 x_fuel x1 (0 : Int32) σ3
def F_X4_tellNumber_83 (σ : x_Hp) : Option (Int32 × x_Hp) :=
  x_b (F_X4_take_ (59 : Int32) σ) fun v7 σ7 =>
  x_gd (x_isz v7) <|
  some (v7, σ7)
def F_X4_tellNumber_24 (x1 : Int32) (s0 : Int32) (s1 : Int32) (s2 : Int32) (σ : x_Hp) : Option (Int32 × x_Hp) :=
  x_b (F_X4_takeNumbers s2 s1 s0 σ) fun v2 σ2 =>
  if v2 = 0 then
    some ((0 : Int32), σ2)
  else
    x_b (F_X8_at 19 (0 : Int32) σ2) fun v3 σ3 =>
    if x1 = (9 : Int32) then
      x_pt (x_pI σ3 21 4 v3) fun σ6 =>
      F_X4_tellNumber_83 σ6
    else
      if x1 = (10 : Int32) then
        x_pt (x_pI σ3 21 5 v3) fun σ5 =>
        F_X4_tellNumber_83 σ5
      else
        x_pt (x_pI σ3 21 6 v3) fun σ4 =>
        F_X4_tellNumber_83 σ4
def F_X4_tellNumber (x1 : Int32) (σ : x_Hp) : Option (Int32 × x_Hp) :=
  x_b (F_X4_take σ) fun v1 σ1 =>
  if v1 = 0 then
    some ((0 : Int32), σ1)
  else
    if x1 = (11 : Int32) then
      F_X4_tellNumber_24 x1 (9999 : Int32) (1 : Int32) (0 : Int32) σ1
    else
      F_X4_tellNumber_24 x1 (99 : Int32) (1 : Int32) (0 : Int32) σ1
def F_X4_tellOne_61 (x1 : Int32) (σ : x_Hp) : Option (Int32 × x_Hp) :=
  x_b (F_X4_tellNumber x1 σ) fun v6 σ6 =>
  x_gd (x_isz v6) <|
  some (v6, σ6)
def F_X4_tellOne_43 (x1 : Int32) (σ : x_Hp) : Option (Int32 × x_Hp) :=
  if x1 = (9 : Int32) then
    F_X4_tellOne_61 x1 σ
  else
    if x1 = (10 : Int32) then
      F_X4_tellOne_61 x1 σ
    else
      if x1 = (11 : Int32) then
        F_X4_tellOne_61 x1 σ
      else
        x_b (F_X4_fail (1 : Int32) σ) fun v5 σ5 =>
        x_gd (x_isz v5) <|
        some (v5, σ5)
def F_X4_tellOne (σ : x_Hp) : Option (Int32 × x_Hp) :=
  x_b (F_X4_kind σ) fun v1 σ1 =>
  if v1 = (1 : Int32) then
    x_b (F_X4_tellAunt σ1) fun v4 σ4 =>
    x_gd (x_isz v4) <|
    some (v4, σ4)
  else
    if v1 = 0 then
      x_b (F_X4_tellBaby σ1) fun v3 σ3 =>
      x_gd (x_isz v3) <|
      some (v3, σ3)
    else
      if v1 < (2 : Int32) then
        F_X4_tellOne_43 v1 σ1
      else
        if (9 : Int32) ≤ v1 then
          F_X4_tellOne_43 v1 σ1
        else
          x_b (F_X4_tellLaw (v1 - (2 : Int32)) σ1) fun v2 σ2 =>
          x_gd (x_isz v2) <|
          some (v2, σ2)
def F_X6_begin (o : Nat) (σ : x_Hp) : Option (Unit × x_Hp) :=
  x_b (F_X6_tellBaby o (0 : Int32) (0 : Int32) (0 : Int32) (0 : Int32) σ) fun _ σ1 =>
  x_pt (x_pI σ1 o 4 (20 : Int32)) fun σ2 =>
  x_pt (x_pI σ2 o 5 (30 : Int32)) fun σ3 =>
  x_pt (x_pI σ3 o 6 (0 : Int32)) fun σ4 =>
  x_pt (x_pI σ4 o 7 (0 : Int32)) fun σ5 =>
  x_b (F_X1_begin (x_rf TX o 14) σ5) fun _ σ6 =>
  some ((), σ6)
def F_X4_readTape_61 (σ : x_Hp) : Option (Int32 × x_Hp) :=
  x_pt (x_pI σ 14 1 (0 : Int32)) fun σ8 =>
  some (σ8.1 14 10, σ8)
def F_X4_readTape_30 : Nat → Int32 → Int32 → x_Hp → Option (Int32 × x_Hp)
  | 0, _, _, _ => none
  | n + 1, x1, x2, σ =>
  if (400 : Int32) < x2 then
    F_X4_readTape_61 σ
  else
    if x1 = 0 then
      F_X4_readTape_61 σ
    else
      x_b (F_X4_kind σ) fun v6 σ6 =>
      if v6 = (32 : Int32) then
        F_X4_readTape_61 σ6
      else
        x_b (F_X4_tellOne σ6) fun v7 σ7 =>
        (F_X4_readTape_30 n) v7 (x2 + (1 : Int32)) σ7
def F_X4_readTape (σ : x_Hp) : Option (Int32 × x_Hp) :=
  x_pt (x_pI σ 14 10 (0 : Int32)) fun σ1 =>
  x_pt (x_pI σ1 14 11 (-1 : Int32)) fun σ2 =>
  x_b (F_X6_begin 21 σ2) fun _ σ3 =>
  x_b (F_X4_scan σ3) fun _ σ4 =>
  x_pt (x_pI σ4 14 6 (0 : Int32)) fun σ5 =>
  F_X4_readTape_30 x_fuel (1 : Int32) (0 : Int32) σ5
def F_X6_takeFrom (o : Nat) (r1 : Nat) (σ : x_Hp) : Option (Unit × x_Hp) :=
  x_b (F_X6_tellBaby o (σ.1 r1 0) (σ.1 r1 1) (σ.1 r1 2) (σ.1 r1 3) σ) fun _ σ1 =>
  x_pt (x_pI σ1 o 4 (σ1.1 r1 4)) fun σ2 =>
  x_pt (x_pI σ2 o 5 (σ2.1 r1 5)) fun σ3 =>
  x_pt (x_pI σ3 o 6 (σ3.1 r1 6)) fun σ4 =>
  x_pt (x_pI σ4 o 7 (σ4.1 r1 7)) fun σ5 =>
  x_b (F_X8_copy (x_rf TX r1 9) (x_rf TX o 9) σ5) fun _ σ6 =>
  x_b (F_X8_copy (x_rf TX r1 10) (x_rf TX o 10) σ6) fun _ σ7 =>
  x_b (F_X8_copy (x_rf TX r1 11) (x_rf TX o 11) σ7) fun _ σ8 =>
  x_b (F_X8_copy (x_rf TX r1 12) (x_rf TX o 12) σ8) fun _ σ9 =>
  x_b (F_X8_copy (x_rf TX r1 13) (x_rf TX o 13) σ9) fun _ σ10 =>
  x_b (F_X1_takeFrom (x_rf TX o 14) (x_rf TX r1 14) σ10) fun _ σ11 =>
  some ((), σ11)
def F_X7_begin (σ : x_Hp) : Option (Unit × x_Hp) :=
  x_pt (x_pI σ 39 1 (0 : Int32)) fun σ1 =>
  x_pt (x_pI σ1 39 2 (0 : Int32)) fun σ2 =>
  x_pt (x_pI σ2 39 3 ((σ2.1 39 3) + (1 : Int32))) fun σ3 =>
  some ((), σ3)
def F_X7_note_76 (s0 : Int32) (σ : x_Hp) : Option (Unit × x_Hp) :=
  x_pt (x_pI σ 39 2 s0) fun σ5 =>
  x_pt (x_pI σ5 39 1 (if ((σ5.1 39 1) + (1 : Int32)) < (50 : Int32) then ((σ5.1 39 1) + (1 : Int32)) else (50 : Int32))) fun σ6 =>
  some ((), σ6)
def F_X7_note_54 (σ : x_Hp) : Option (Unit × x_Hp) :=
  if (50 : Int32) ≤ ((σ.1 39 2) + (1 : Int32)) then
    F_X7_note_76 (0 : Int32) σ
  else
    F_X7_note_76 ((σ.1 39 2) + (1 : Int32)) σ
def F_X7_note (r1 : Nat) (σ : x_Hp) : Option (Unit × x_Hp) :=
  x_pt (x_pI σ 39 3 ((σ.1 39 3) + (1 : Int32))) fun σ1 =>
  if (σ1.1 39 2) < 0 then
    F_X7_note_54 σ1
  else
    if (50 : Int32) ≤ (σ1.1 39 2) then
      F_X7_note_54 σ1
    else
      x_gd (x_inb (σ1.1 39 2) 50) <|
      x_gd (x_inb (σ1.1 39 2) 50) <|
      x_b (F_X5_takeFrom (x_rf TX 40 (x_ix (σ1.1 39 2))) r1 σ1) fun _ σ4 =>
      F_X7_note_54 σ4
def F_X7_giveBack_48 (r1 : Nat) (s0 : Int32) (σ : x_Hp) : Option (Int32 × x_Hp) :=
  x_pt (x_pI σ 39 2 s0) fun σ3 =>
  if (σ3.1 39 2) < 0 then
    some ((1 : Int32), σ3)
  else
    if (50 : Int32) ≤ (σ3.1 39 2) then
      some ((1 : Int32), σ3)
    else
      x_gd (x_inb (σ3.1 39 2) 50) <|
      x_b (F_X5_takeFrom r1 (x_rf TX 40 (x_ix (σ3.1 39 2))) σ3) fun _ σ5 =>
      some ((1 : Int32), σ5)
def F_X7_giveBack (r1 : Nat) (σ : x_Hp) : Option (Int32 × x_Hp) :=
  if (σ.1 39 1) = 0 then
    some ((0 : Int32), σ)
  else
    x_pt (x_pI σ 39 1 ((σ.1 39 1) - (1 : Int32))) fun σ1 =>
    x_pt (x_pI σ1 39 3 ((σ1.1 39 3) + (1 : Int32))) fun σ2 =>
    if (σ2.1 39 2) ≤ 0 then
      F_X7_giveBack_48 r1 (49 : Int32) σ2
    else
      F_X7_giveBack_48 r1 ((σ2.1 39 2) - (1 : Int32)) σ2
def F_X8_between (x0 : Int32) (x1 : Int32) (x2 : Int32) (σ : x_Hp) : Option (Int32 × x_Hp) :=
  if x0 < x1 then
    some ((0 : Int32), σ)
  else
    if x2 < x0 then
      some ((0 : Int32), σ)
    else
      some ((1 : Int32), σ)
def F_X8_feed (x1 : Int32) (x2 : Int32) (x3 : Int32) (x4 : Int32) (x5 : Int32) (σ : x_Hp) : Option (Int32 × x_Hp) :=
  x_b (F_X4_addBytes x1 x2 x3 x4 x5 σ) fun v1 σ1 =>
  some (v1, σ1)
def F_X8_back (x1 : Int32) (σ : x_Hp) : Option (Int32 × x_Hp) :=
  x_b (F_X4_dropBytes x1 σ) fun v1 σ1 =>
  some (v1, σ1)
def F_X8_read_51 : Nat → Int32 → Int32 → x_Hp → Option (Int32 × x_Hp)
  | 0, _, _, _ => none
  | n + 1, x1, x2, σ =>
  if (3 : Int32) ≤ x2 then
    some (x1, σ)
  else
    x_b (F_X8_put 142 x2 (0 : Int32) σ) fun _ σ6 =>
    (F_X8_read_51 n) x1 (x2 + (1 : Int32)) σ6
def F_X8_read (σ : x_Hp) : Option (Int32 × x_Hp) :=
  x_b (F_X4_readTape σ) fun v1 σ1 =>
  if v1 = 0 then
    x_b (F_X6_takeFrom 1 21 σ1) fun _ σ2 =>
    x_b (F_X0_begin 34 35 σ2) fun _ σ3 =>
    x_b (F_X7_begin σ3) fun _ σ4 =>
    x_pt (x_pI σ4 0 13 (0 : Int32)) fun σ5 =>
    F_X8_read_51 x_fuel v1 (0 : Int32) σ5
  else
    some (v1, σ1)
def F_X8_place (σ : x_Hp) : Option (Int32 × x_Hp) :=
  some (σ.1 14 11, σ)
def F_X8_now (x1 : Int32) (σ : x_Hp) : Option (Int32 × x_Hp) :=
  if x1 = (0 : Int32) then
    some (σ.1 35 0, σ)
  else
  if x1 = (1 : Int32) then
    some (σ.1 35 1, σ)
  else
  if x1 = (2 : Int32) then
    some (σ.1 35 2, σ)
  else
  if x1 = (3 : Int32) then
    some (σ.1 35 3, σ)
  else
  if x1 = (4 : Int32) then
    some (σ.1 35 9, σ)
  else
  if x1 = (5 : Int32) then
    some (σ.1 35 4, σ)
  else
  if x1 = (6 : Int32) then
    some (σ.1 35 12, σ)
  else
  if x1 = (7 : Int32) then
    some (σ.1 35 13, σ)
  else
  if x1 = (8 : Int32) then
    some (σ.1 35 14, σ)
  else
  if x1 = (9 : Int32) then
    some (σ.1 35 8, σ)
  else
  if x1 = (10 : Int32) then
    some (σ.1 35 10, σ)
  else
  if x1 = (11 : Int32) then
    some (σ.1 35 11, σ)
  else
  some ((-1 : Int32), σ)
def F_X8_isAunt (x1 : Int32) (σ : x_Hp) : Option (Int32 × x_Hp) :=
  if x1 < 0 then
    some ((0 : Int32), σ)
  else
    if (σ.1 1 7) ≤ x1 then
      some ((0 : Int32), σ)
    else
      some ((1 : Int32), σ)
def F_X8_asleepOrAlone (σ : x_Hp) : Option (Int32 × x_Hp) :=
  if 0 < (σ.1 35 13) then
    some ((1 : Int32), σ)
  else
    if (σ.1 1 7) = 0 then
      some ((1 : Int32), σ)
    else
      some ((0 : Int32), σ)
def F_X8_aunt (x1 : Int32) (x2 : Int32) (σ : x_Hp) : Option (Int32 × x_Hp) :=
  x_b (F_X8_isAunt x1 σ) fun v1 σ1 =>
  if v1 = 0 then
    some ((-1 : Int32), σ1)
  else
    x_b (F_X8_between x2 (0 : Int32) (6 : Int32) σ1) fun v2 σ2 =>
    if v2 = 0 then
      some ((-1 : Int32), σ2)
    else
      if x2 = (5 : Int32) then
        x_b (F_X8_at 3 x1 σ2) fun v4 σ4 =>
        some (v4, σ4)
      else
        x_b (F_X5_tallied 35 x1 x2 σ2) fun v3 σ3 =>
        some (v3, σ3)
def F_X8_law (x1 : Int32) (σ : x_Hp) : Option (Int32 × x_Hp) :=
  x_b (F_X8_between x1 (0 : Int32) (6 : Int32) σ) fun v1 σ1 =>
  if v1 = 0 then
    some ((-10000 : Int32), σ1)
  else
    if (σ1.1 1 7) = 0 then
      some ((-10000 : Int32), σ1)
    else
      x_b (F_X1_tells 8 x1 35 σ1) fun v2 σ2 =>
      some (v2, σ2)
def F_X8_minutes (x1 : Int32) (σ : x_Hp) : Option (Int32 × x_Hp) :=
  x_b (F_X8_between x1 (0 : Int32) (240 : Int32) σ) fun v1 σ1 =>
  if v1 = 0 then
    some ((-1 : Int32), σ1)
  else
    if x1 ≤ 0 then
      some (σ1.1 35 15, σ1)
    else
      x_b (F_X7_note 35 σ1) fun _ σ2 =>
      x_b (F_X0_goOn 34 35 x1 σ2) fun _ σ3 =>
      some (σ3.1 35 15, σ3)
def F_X8_hand (x1 : Int32) (σ : x_Hp) : Option (Int32 × x_Hp) :=
  x_b (F_X8_isAunt x1 σ) fun v1 σ1 =>
  if v1 = 0 then
    some ((0 : Int32), σ1)
  else
    if x1 = (σ1.1 35 9) then
      some ((0 : Int32), σ1)
    else
      if (σ1.1 35 13) ≤ 0 then
        x_b (F_X7_note 35 σ1) fun _ σ2 =>
        x_b (F_X0_giveOver 34 35 x1 σ2) fun _ σ3 =>
        some ((1 : Int32), σ3)
      else
        some ((0 : Int32), σ1)
def F_X8_nurse (σ : x_Hp) : Option (Int32 × x_Hp) :=
  x_b (F_X8_asleepOrAlone σ) fun v1 σ1 =>
  if v1 = 0 then
    x_b (F_X7_note 35 σ1) fun _ σ2 =>
    x_b (F_X0_feedNow 34 35 σ2) fun _ σ3 =>
    some ((1 : Int32), σ3)
  else
    some ((0 : Int32), σ1)
def F_X8_lay (σ : x_Hp) : Option (Int32 × x_Hp) :=
  x_b (F_X8_asleepOrAlone σ) fun v1 σ1 =>
  if v1 = 0 then
    x_b (F_X7_note 35 σ1) fun _ σ2 =>
    x_b (F_X0_fallAsleep 34 35 σ2) fun _ σ3 =>
    some ((1 : Int32), σ3)
  else
    some ((0 : Int32), σ1)
def F_X8_cloth_41 (x2 : Int32) (s0 : Int32) (σ : x_Hp) : Option (Int32 × x_Hp) :=
  x_pt (x_pI σ 35 14 s0) fun σ2 =>
  x_gd (x_isz x2) <|
  some (x2, σ2)
def F_X8_cloth_16 (x1 : Int32) (s0 : Int32) (σ : x_Hp) : Option (Int32 × x_Hp) :=
  x_b (F_X7_note 35 σ) fun _ σ1 =>
  if x1 = 0 then
    F_X8_cloth_41 s0 (0 : Int32) σ1
  else
    F_X8_cloth_41 s0 (1 : Int32) σ1
def F_X8_cloth (x1 : Int32) (σ : x_Hp) : Option (Int32 × x_Hp) :=
  if (σ.1 35 14) = (1 : Int32) then
    F_X8_cloth_16 x1 (1 : Int32) σ
  else
    F_X8_cloth_16 x1 (0 : Int32) σ
def F_X8_mother_41 (x2 : Int32) (s0 : Int32) (σ : x_Hp) : Option (Int32 × x_Hp) :=
  x_pt (x_pI σ 35 8 s0) fun σ2 =>
  x_gd (x_isz x2) <|
  some (x2, σ2)
def F_X8_mother_16 (x1 : Int32) (s0 : Int32) (σ : x_Hp) : Option (Int32 × x_Hp) :=
  x_b (F_X7_note 35 σ) fun _ σ1 =>
  if x1 = 0 then
    F_X8_mother_41 s0 (0 : Int32) σ1
  else
    F_X8_mother_41 s0 (1 : Int32) σ1
def F_X8_mother (x1 : Int32) (σ : x_Hp) : Option (Int32 × x_Hp) :=
  if (σ.1 35 8) = (1 : Int32) then
    F_X8_mother_16 x1 (1 : Int32) σ
  else
    F_X8_mother_16 x1 (0 : Int32) σ
def F_X8_undo (σ : x_Hp) : Option (Int32 × x_Hp) :=
  x_b (F_X7_giveBack 35 σ) fun v1 σ1 =>
  x_gd (x_isz v1) <|
  some (v1, σ1)
def F_X8_crying (x1 : Int32) (σ : x_Hp) : Option (Int32 × x_Hp) :=
  x_b (F_X8_between x1 (0 : Int32) (240 : Int32) σ) fun v1 σ1 =>
  if v1 = 0 then
    some ((-1 : Int32), σ1)
  else
    x_b (F_X5_takeFrom 37 35 σ1) fun _ σ2 =>
    x_b (F_X0_cried 34 37 x1 σ2) fun v3 σ3 =>
    some (v3, σ3)
def F_X8_next_119 (k54 : Int32 → Int32 → Int32 → x_Hp → Option (Int32 × x_Hp)) (x1 : Int32) (x2 : Int32) (x3 : Int32) (σ : x_Hp) : Option (Int32 × x_Hp) :=
  k54 x1 x2 (x3 + (1 : Int32)) σ
def F_X8_next_54 : Nat → Int32 → Int32 → Int32 → x_Hp → Option (Int32 × x_Hp)
  | 0, _, _, _, _ => none
  | n + 1, x1, x2, x3, σ =>
  if (σ.1 1 7) ≤ x3 then
    x_b (F_X2_pick 167 x2 σ) fun v4 σ4 =>
    some (v4, σ4)
  else
    if x3 = (σ.1 35 9) then
      F_X8_next_119 (F_X8_next_54 n) x1 x2 x3 σ
    else
      x_b (F_X5_takeFrom 37 35 σ) fun _ σ5 =>
      x_b (F_X0_giveOver 34 37 x3 σ5) fun _ σ6 =>
      x_b (F_X0_cried 34 37 x1 σ6) fun v7 σ7 =>
      x_b (F_X2_offer 167 x3 v7 σ7) fun _ σ8 =>
      F_X8_next_119 (F_X8_next_54 n) x1 x2 x3 σ8
def F_X8_next (x1 : Int32) (x2 : Int32) (σ : x_Hp) : Option (Int32 × x_Hp) :=
  x_b (F_X8_between x1 (1 : Int32) (120 : Int32) σ) fun v1 σ1 =>
  if v1 = 0 then
    some ((-1 : Int32), σ1)
  else
    x_b (F_X8_between x2 (0 : Int32) (1 : Int32) σ1) fun v2 σ2 =>
    if v2 = 0 then
      some ((-1 : Int32), σ2)
    else
      if 0 < (σ2.1 35 13) then
        some ((-2 : Int32), σ2)
      else
        if (2 : Int32) ≤ (σ2.1 1 7) then
          x_b (F_X2_begin 167 σ2) fun _ σ3 =>
          F_X8_next_54 x_fuel x1 x2 (0 : Int32) σ3
        else
          some ((-2 : Int32), σ2)
def F_X8_order (x1 : Int32) (σ : x_Hp) : Option (Int32 × x_Hp) :=
  x_b (F_X8_between x1 (1 : Int32) (10 : Int32) σ) fun v1 σ1 =>
  if v1 = 0 then
    some ((-1 : Int32), σ1)
  else
    x_b (F_X8_asleepOrAlone σ1) fun v2 σ2 =>
    if v2 = 0 then
      x_b (F_X3_search 35 x1 (σ2.1 39 3) σ2) fun _ σ3 =>
      some (σ3.1 151 1, σ3)
    else
      some ((-2 : Int32), σ2)
def F_X8_orderAt (x1 : Int32) (x2 : Int32) (σ : x_Hp) : Option (Int32 × x_Hp) :=
  x_b (F_X8_between x1 (1 : Int32) (10 : Int32) σ) fun v1 σ1 =>
  if v1 = 0 then
    some ((-1 : Int32), σ1)
  else
    if 0 ≤ x2 then
      x_b (F_X8_asleepOrAlone σ1) fun v2 σ2 =>
      if v2 = 0 then
        if x2 < (σ2.1 1 7) then
          x_b (F_X3_search 35 x1 (σ2.1 39 3) σ2) fun _ σ3 =>
          x_b (F_X8_at 149 x2 σ3) fun v4 σ4 =>
          some (v4, σ4)
        else
          some ((-1 : Int32), σ2)
      else
        some ((-2 : Int32), σ2)
    else
      some ((-1 : Int32), σ1)
def F_X8_sitters (x1 : Int32) (σ : x_Hp) : Option (Int32 × x_Hp) :=
  x_b (F_X8_between x1 (1 : Int32) (10 : Int32) σ) fun v1 σ1 =>
  if v1 = 0 then
    some ((-1 : Int32), σ1)
  else
    x_b (F_X8_asleepOrAlone σ1) fun v2 σ2 =>
    if v2 = 0 then
      x_b (F_X3_search 35 x1 (σ2.1 39 3) σ2) fun _ σ3 =>
      some (σ3.1 143 9, σ3)
    else
      some ((-2 : Int32), σ2)
def F_X8_luck (x1 : Int32) (x2 : Int32) (σ : x_Hp) : Option (Int32 × x_Hp) :=
  x_b (F_X8_isAunt x1 σ) fun v1 σ1 =>
  if v1 = 0 then
    some ((-1 : Int32), σ1)
  else
    x_b (F_X8_between x2 (1 : Int32) (10 : Int32) σ1) fun v2 σ2 =>
    if v2 = 0 then
      some ((-1 : Int32), σ2)
    else
      x_b (F_X8_asleepOrAlone σ2) fun v3 σ3 =>
      if v3 = 0 then
        x_b (F_X3_search 35 x2 (σ3.1 39 3) σ3) fun _ σ4 =>
        x_b (F_X8_at 150 x1 σ4) fun v5 σ5 =>
        some (v5, σ5)
      else
        some ((-2 : Int32), σ3)
def F_X8_grant (x1 : Int32) (σ : x_Hp) : Option (Unit × x_Hp) :=
  if x1 = (1 : Int32) then
    x_b (F_X0_feedNow 34 37 σ) fun _ σ4 =>
    some ((), σ4)
  else
    if x1 = (2 : Int32) then
      x_b (F_X0_fallAsleep 34 37 σ) fun _ σ3 =>
      some ((), σ3)
    else
      if x1 = (3 : Int32) then
        x_pt (x_pI σ 37 8 ((1 : Int32) - (σ.1 37 8))) fun σ2 =>
        some ((), σ2)
      else
        if x1 < (4 : Int32) then
          some ((), σ)
        else
          x_b (F_X0_giveOver 34 37 (x1 - (4 : Int32)) σ) fun _ σ1 =>
          some ((), σ1)
def F_X8_wants_102 (k40 : Int32 → Int32 → Int32 → x_Hp → Option (Int32 × x_Hp)) (x1 : Int32) (x2 : Int32) (x3 : Int32) (σ : x_Hp) : Option (Int32 × x_Hp) :=
  k40 x1 x2 (x3 + (1 : Int32)) σ
def F_X8_wants_40 : Nat → Int32 → Int32 → Int32 → x_Hp → Option (Int32 × x_Hp)
  | 0, _, _, _, _ => none
  | n + 1, x1, x2, x3, σ =>
  if ((4 : Int32) + (σ.1 1 7)) ≤ x3 then
    x_b (F_X2_pick 167 x2 σ) fun v5 σ5 =>
    some (v5, σ5)
  else
    if (x3 - (4 : Int32)) = (σ.1 35 9) then
      F_X8_wants_102 (F_X8_wants_40 n) x1 x2 x3 σ
    else
      x_b (F_X5_takeFrom 37 35 σ) fun _ σ6 =>
      x_b (F_X8_grant x3 σ6) fun _ σ7 =>
      x_b (F_X0_cried 34 37 x1 σ7) fun v8 σ8 =>
      x_b (F_X2_offer 167 x3 v8 σ8) fun _ σ9 =>
      F_X8_wants_102 (F_X8_wants_40 n) x1 x2 x3 σ9
def F_X8_wants (x1 : Int32) (x2 : Int32) (σ : x_Hp) : Option (Int32 × x_Hp) :=
  x_b (F_X8_between x1 (1 : Int32) (120 : Int32) σ) fun v1 σ1 =>
  if v1 = 0 then
    some ((-1 : Int32), σ1)
  else
    x_b (F_X8_between x2 (0 : Int32) (1 : Int32) σ1) fun v2 σ2 =>
    if v2 = 0 then
      some ((-1 : Int32), σ2)
    else
      x_b (F_X8_asleepOrAlone σ2) fun v3 σ3 =>
      if v3 = 0 then
        x_b (F_X2_begin 167 σ3) fun _ σ4 =>
        F_X8_wants_40 x_fuel x1 x2 (0 : Int32) σ4
      else
        some ((-2 : Int32), σ3)
def F_X8_criedInSight (x1 : Int32) (x2 : Int32) (σ : x_Hp) : Option (Int32 × x_Hp) :=
  x_b (F_X5_takeFrom 37 35 σ) fun _ σ1 =>
  x_pt (x_pI σ1 37 8 (1 : Int32)) fun σ2 =>
  x_b (F_X0_cried 34 37 x1 σ2) fun v3 σ3 =>
  x_pt (x_pI σ3 37 8 (0 : Int32)) fun σ4 =>
  x_b (F_X0_cried 34 37 (x2 - x1) σ4) fun v5 σ5 =>
  some (v3 + v5, σ5)
def F_X8_moment (x1 : Int32) (σ : x_Hp) : Option (Int32 × x_Hp) :=
  x_b (F_X8_between x1 (1 : Int32) (120 : Int32) σ) fun v1 σ1 =>
  if v1 = 0 then
    some ((-100000 : Int32), σ1)
  else
    x_b (F_X8_criedInSight (1 : Int32) x1 σ1) fun v2 σ2 =>
    x_b (F_X8_criedInSight (0 : Int32) x1 σ2) fun v3 σ3 =>
    some (v2 - v3, σ3)
def F_X8_beat_93 (k52 : Int32 → Int32 → Int32 → Int32 → x_Hp → Option (Int32 × x_Hp)) (x1 : Int32) (x2 : Int32) (x3 : Int32) (x4 : Int32) (σ : x_Hp) : Option (Int32 × x_Hp) :=
  x_pt (x_pI σ 37 5 x4) fun σ8 =>
  x_b (F_X0_cried 34 37 x2 σ8) fun v9 σ9 =>
  x_b (F_X2_offer 167 x4 v9 σ9) fun _ σ10 =>
  k52 x1 x2 x3 (x4 + (1 : Int32)) σ10
def F_X8_beat_52 : Nat → Int32 → Int32 → Int32 → Int32 → x_Hp → Option (Int32 × x_Hp)
  | 0, _, _, _, _, _ => none
  | n + 1, x1, x2, x3, x4, σ =>
  if (9 : Int32) < x4 then
    x_b (F_X2_pick 167 x3 σ) fun v5 σ5 =>
    some (v5, σ5)
  else
    x_b (F_X5_takeFrom 37 35 σ) fun _ σ6 =>
    if x1 = (σ6.1 37 9) then
      F_X8_beat_93 (F_X8_beat_52 n) x1 x2 x3 x4 σ6
    else
      x_b (F_X0_giveOver 34 37 x1 σ6) fun _ σ7 =>
      F_X8_beat_93 (F_X8_beat_52 n) x1 x2 x3 x4 σ7
def F_X8_beat (x1 : Int32) (x2 : Int32) (x3 : Int32) (σ : x_Hp) : Option (Int32 × x_Hp) :=
  x_b (F_X8_isAunt x1 σ) fun v1 σ1 =>
  if v1 = 0 then
    some ((-1 : Int32), σ1)
  else
    x_b (F_X8_between x2 (1 : Int32) (120 : Int32) σ1) fun v2 σ2 =>
    if v2 = 0 then
      some ((-1 : Int32), σ2)
    else
      x_b (F_X8_between x3 (0 : Int32) (1 : Int32) σ2) fun v3 σ3 =>
      if v3 = 0 then
        some ((-1 : Int32), σ3)
      else
        if (σ3.1 35 13) ≤ 0 then
          x_b (F_X2_begin 167 σ3) fun _ σ4 =>
          F_X8_beat_52 x_fuel x1 x2 x3 (0 : Int32) σ4
        else
          some ((-2 : Int32), σ3)
def F_X8_round_101 (s0 : Int32) (σ : x_Hp) : Option (Int32 × x_Hp) :=
  x_b (F_X5_allTallied 37 s0 σ) fun v7 σ7 =>
  x_b (F_X5_allTallied 35 s0 σ7) fun v8 σ8 =>
  some (v7 - v8, σ8)
def F_X8_round (x1 : Int32) (x2 : Int32) (x3 : Int32) (x4 : Int32) (σ : x_Hp) : Option (Int32 × x_Hp) :=
  x_b (F_X8_between x1 (0 : Int32) (3 : Int32) σ) fun v1 σ1 =>
  if v1 = 0 then
    some ((-1 : Int32), σ1)
  else
    x_b (F_X8_between x2 (1 : Int32) (20 : Int32) σ1) fun v2 σ2 =>
    if v2 = 0 then
      some ((-1 : Int32), σ2)
    else
      x_b (F_X8_between x3 (1 : Int32) (240 : Int32) σ2) fun v3 σ3 =>
      if v3 = 0 then
        some ((-1 : Int32), σ3)
      else
        x_b (F_X8_between x4 (0 : Int32) (2 : Int32) σ3) fun v4 σ4 =>
        if v4 = 0 then
          some ((-1 : Int32), σ4)
        else
          if (σ4.1 1 7) = 0 then
            some ((-1 : Int32), σ4)
          else
            x_b (F_X5_takeFrom 37 35 σ4) fun _ σ5 =>
            x_b (F_X0_goByRule 34 37 x1 x2 x3 σ5) fun _ σ6 =>
            if x4 = (2 : Int32) then
              some (σ6.1 37 9, σ6)
            else
              if x4 = 0 then
                F_X8_round_101 (1 : Int32) σ6
              else
                F_X8_round_101 (2 : Int32) σ6
def F_X8_fairest (x1 : Int32) (x2 : Int32) (σ : x_Hp) : Option (Int32 × x_Hp) :=
  x_b (F_X8_between x1 (1 : Int32) (10 : Int32) σ) fun v1 σ1 =>
  if v1 = 0 then
    some ((-1 : Int32), σ1)
  else
    x_b (F_X8_between x2 (0 : Int32) (1 : Int32) σ1) fun v2 σ2 =>
    if v2 = 0 then
      some ((-1 : Int32), σ2)
    else
      x_b (F_X8_asleepOrAlone σ2) fun v3 σ3 =>
      if v3 = 0 then
        x_b (F_X3_search 35 x1 (σ3.1 39 3) σ3) fun _ σ4 =>
        if x2 = 0 then
          some (σ4.1 152 1, σ4)
        else
          some (σ4.1 152 0, σ4)
      else
        some ((-2 : Int32), σ3)
def F_X8_leftOut_97 (k40 : Int32 → Int32 → Int32 → x_Hp → Option (Int32 × x_Hp)) (k65 : Int32 → Int32 → Int32 → Int32 → x_Hp → Option (Int32 × x_Hp)) (x1 : Int32) (x2 : Int32) (x3 : Int32) (x4 : Int32) (σ : x_Hp) : Option (Int32 × x_Hp) :=
  k65 x1 x2 x3 (x4 + (1 : Int32)) σ
def F_X8_leftOut_65 (k40 : Int32 → Int32 → Int32 → x_Hp → Option (Int32 × x_Hp)) : Nat → Int32 → Int32 → Int32 → Int32 → x_Hp → Option (Int32 × x_Hp)
  | 0, _, _, _, _, _ => none
  | n + 1, x1, x2, x3, x4, σ =>
  if (σ.1 1 7) ≤ x4 then
    x_b (F_X5_allTallied 37 (1 : Int32) σ) fun v7 σ7 =>
    x_b (F_X5_allTallied 35 (1 : Int32) σ7) fun v8 σ8 =>
    x_b (F_X2_offer 167 x3 (v7 - v8) σ8) fun _ σ9 =>
    k40 x1 x2 (x3 + (1 : Int32)) σ9
  else
    if x4 = x3 then
      F_X8_leftOut_97 k40 (F_X8_leftOut_65 k40 n) x1 x2 x3 x4 σ
    else
      x_b (F_X0_keep 34 37 x4 x1 σ) fun _ σ10 =>
      F_X8_leftOut_97 k40 (F_X8_leftOut_65 k40 n) x1 x2 x3 x4 σ10
def F_X8_leftOut_40 : Nat → Int32 → Int32 → Int32 → x_Hp → Option (Int32 × x_Hp)
  | 0, _, _, _, _ => none
  | n + 1, x1, x2, x3, σ =>
  if (σ.1 1 7) ≤ x3 then
    x_b (F_X2_pick 167 x2 σ) fun v5 σ5 =>
    some (v5, σ5)
  else
    x_b (F_X5_takeFrom 37 35 σ) fun _ σ6 =>
    F_X8_leftOut_65 (F_X8_leftOut_40 n) x_fuel x1 x2 x3 (0 : Int32) σ6
def F_X8_leftOut (x1 : Int32) (x2 : Int32) (σ : x_Hp) : Option (Int32 × x_Hp) :=
  x_b (F_X8_between x1 (1 : Int32) (10 : Int32) σ) fun v1 σ1 =>
  if v1 = 0 then
    some ((-1 : Int32), σ1)
  else
    x_b (F_X8_between x2 (0 : Int32) (1 : Int32) σ1) fun v2 σ2 =>
    if v2 = 0 then
      some ((-1 : Int32), σ2)
    else
      x_b (F_X8_asleepOrAlone σ2) fun v3 σ3 =>
      if v3 = 0 then
        x_b (F_X2_begin 167 σ3) fun _ σ4 =>
        F_X8_leftOut_40 x_fuel x1 x2 (0 : Int32) σ4
      else
        some ((-2 : Int32), σ3)
def F_X8_bestRound_48 (k40 : Int32 → Int32 → Int32 → x_Hp → Option (Int32 × x_Hp)) : Nat → Int32 → Int32 → Int32 → Int32 → x_Hp → Option (Int32 × x_Hp)
  | 0, _, _, _, _, _ => none
  | n + 1, x1, x2, x3, x4, σ =>
  if (20 : Int32) < x4 then
    k40 x1 x2 (x3 + (1 : Int32)) σ
  else
    x_b (F_X5_takeFrom 37 35 σ) fun _ σ5 =>
    x_b (F_X0_goByRule 34 37 x3 x4 x1 σ5) fun _ σ6 =>
    x_b (F_X5_allTallied 37 (1 : Int32) σ6) fun v7 σ7 =>
    x_b (F_X5_allTallied 35 (1 : Int32) σ7) fun v8 σ8 =>
    x_b (F_X2_offer 167 (((100 : Int32) * x3) + x4) (v7 - v8) σ8) fun _ σ9 =>
    (F_X8_bestRound_48 k40 n) x1 x2 x3 (x4 + (1 : Int32)) σ9
def F_X8_bestRound_40 : Nat → Int32 → Int32 → Int32 → x_Hp → Option (Int32 × x_Hp)
  | 0, _, _, _, _ => none
  | n + 1, x1, x2, x3, σ =>
  if (4 : Int32) ≤ x3 then
    x_b (F_X2_pick 167 x2 σ) fun v4 σ4 =>
    some (v4, σ4)
  else
    F_X8_bestRound_48 (F_X8_bestRound_40 n) x_fuel x1 x2 x3 (1 : Int32) σ
def F_X8_bestRound (x1 : Int32) (x2 : Int32) (σ : x_Hp) : Option (Int32 × x_Hp) :=
  x_b (F_X8_between x1 (1 : Int32) (120 : Int32) σ) fun v1 σ1 =>
  if v1 = 0 then
    some ((-1 : Int32), σ1)
  else
    x_b (F_X8_between x2 (0 : Int32) (1 : Int32) σ1) fun v2 σ2 =>
    if v2 = 0 then
      some ((-1 : Int32), σ2)
    else
      if (σ2.1 1 7) = 0 then
        some ((-1 : Int32), σ2)
      else
        x_b (F_X2_begin 167 σ2) fun _ σ3 =>
        F_X8_bestRound_40 x_fuel x1 x2 (0 : Int32) σ3
def F_X8_feedAt_116 (k40 : Int32 → Int32 → Int32 → x_Hp → Option (Int32 × x_Hp)) (x1 : Int32) (x2 : Int32) (x3 : Int32) (σ : x_Hp) : Option (Int32 × x_Hp) :=
  k40 x1 x2 (x3 + (1 : Int32)) σ
def F_X8_feedAt_40 : Nat → Int32 → Int32 → Int32 → x_Hp → Option (Int32 × x_Hp)
  | 0, _, _, _, _ => none
  | n + 1, x1, x2, x3, σ =>
  if x1 ≤ x3 then
    x_b (F_X2_pick 167 x2 σ) fun v5 σ5 =>
    some (v5, σ5)
  else
    x_b (F_X5_takeFrom 37 35 σ) fun _ σ6 =>
    x_b (F_X0_cried 34 37 x3 σ6) fun v7 σ7 =>
    if (σ7.1 37 13) = 0 then
      x_b (F_X0_feedNow 34 37 σ7) fun _ σ8 =>
      x_b (F_X0_cried 34 37 (x1 - x3) σ8) fun v9 σ9 =>
      x_b (F_X2_offer 167 x3 (v7 + v9) σ9) fun _ σ10 =>
      F_X8_feedAt_116 (F_X8_feedAt_40 n) x1 x2 x3 σ10
    else
      F_X8_feedAt_116 (F_X8_feedAt_40 n) x1 x2 x3 σ7
def F_X8_feedAt (x1 : Int32) (x2 : Int32) (σ : x_Hp) : Option (Int32 × x_Hp) :=
  x_b (F_X8_between x1 (1 : Int32) (60 : Int32) σ) fun v1 σ1 =>
  if v1 = 0 then
    some ((-1 : Int32), σ1)
  else
    x_b (F_X8_between x2 (0 : Int32) (1 : Int32) σ1) fun v2 σ2 =>
    if v2 = 0 then
      some ((-1 : Int32), σ2)
    else
      x_b (F_X8_asleepOrAlone σ2) fun v3 σ3 =>
      if v3 = 0 then
        x_b (F_X2_begin 167 σ3) fun _ σ4 =>
        F_X8_feedAt_40 x_fuel x1 x2 (0 : Int32) σ4
      else
        some ((-2 : Int32), σ3)
def F_X8_inSight_30 : Nat → Int32 → Int32 → Int32 → x_Hp → Option (Int32 × x_Hp)
  | 0, _, _, _, _ => none
  | n + 1, x1, x2, x3, σ =>
  if x1 < x3 then
    x_b (F_X2_pick 167 x2 σ) fun v4 σ4 =>
    some (v4, σ4)
  else
    x_b (F_X8_criedInSight x3 x1 σ) fun v5 σ5 =>
    x_b (F_X2_offer 167 x3 v5 σ5) fun _ σ6 =>
    (F_X8_inSight_30 n) x1 x2 (x3 + (1 : Int32)) σ6
def F_X8_inSight (x1 : Int32) (x2 : Int32) (σ : x_Hp) : Option (Int32 × x_Hp) :=
  x_b (F_X8_between x1 (1 : Int32) (60 : Int32) σ) fun v1 σ1 =>
  if v1 = 0 then
    some ((-1 : Int32), σ1)
  else
    x_b (F_X8_between x2 (0 : Int32) (1 : Int32) σ1) fun v2 σ2 =>
    if v2 = 0 then
      some ((-1 : Int32), σ2)
    else
      x_b (F_X2_begin 167 σ2) fun _ σ3 =>
      F_X8_inSight_30 x_fuel x1 x2 (0 : Int32) σ3
def F_X8_peak_81 (k41 : Int32 → Int32 → Int32 → Int32 → Int32 → x_Hp → Option (Int32 × x_Hp)) (x1 : Int32) (x2 : Int32) (x3 : Int32) (x4 : Int32) (x5 : Int32) (σ : x_Hp) : Option (Int32 × x_Hp) :=
  k41 x1 x2 x3 x4 (x5 + (1 : Int32)) σ
def F_X8_peak_41 : Nat → Int32 → Int32 → Int32 → Int32 → Int32 → x_Hp → Option (Int32 × x_Hp)
  | 0, _, _, _, _, _, _ => none
  | n + 1, x1, x2, x3, x4, x5, σ =>
  if x1 ≤ x5 then
    if x2 = 0 then
      some (x3, σ)
    else
      some (x4, σ)
  else
    x_b (F_X0_step 34 37 σ) fun _ σ4 =>
    if (σ4.1 37 12) ≤ x3 then
      F_X8_peak_81 (F_X8_peak_41 n) x1 x2 x3 x4 x5 σ4
    else
      F_X8_peak_81 (F_X8_peak_41 n) x1 x2 (σ4.1 37 12) x5 x5 σ4
def F_X8_peak (x1 : Int32) (x2 : Int32) (σ : x_Hp) : Option (Int32 × x_Hp) :=
  x_b (F_X8_between x1 (1 : Int32) (240 : Int32) σ) fun v1 σ1 =>
  if v1 = 0 then
    some ((-1 : Int32), σ1)
  else
    x_b (F_X8_between x2 (0 : Int32) (1 : Int32) σ1) fun v2 σ2 =>
    if v2 = 0 then
      some ((-1 : Int32), σ2)
    else
      x_b (F_X5_takeFrom 37 35 σ2) fun _ σ3 =>
      F_X8_peak_41 x_fuel x1 x2 (-1 : Int32) (0 : Int32) (0 : Int32) σ3
def F_X8_merry_22 : Nat → Int32 → Int32 → x_Hp → Option (Int32 × x_Hp)
  | 0, _, _, _ => none
  | n + 1, x1, x2, σ =>
  if (240 : Int32) < x2 then
    some ((-2 : Int32), σ)
  else
    x_b (F_X0_step 34 37 σ) fun _ σ3 =>
    x_b (F_X5_allTallied 37 (2 : Int32) σ3) fun v4 σ4 =>
    if v4 ≤ x1 then
      (F_X8_merry_22 n) x1 (x2 + (1 : Int32)) σ4
    else
      some (x2, σ4)
def F_X8_merry (σ : x_Hp) : Option (Int32 × x_Hp) :=
  x_b (F_X5_takeFrom 37 35 σ) fun _ σ1 =>
  x_b (F_X5_allTallied 35 (2 : Int32) σ1) fun v2 σ2 =>
  F_X8_merry_22 x_fuel v2 (1 : Int32) σ2
def F_X8_isAtRest_2 : Nat → Int32 → Int32 → x_Hp → Option (Int32 × x_Hp)
  | 0, _, _, _ => none
  | n + 1, x1, x2, σ =>
  if (σ.1 1 7) ≤ x2 then
    some ((1 : Int32), σ)
  else
    x_b (F_X8_at 168 (((x1 ^^^ ((1 : Int32) <<< (x2 &&& 31))) * (6 : Int32)) + x2) σ) fun v1 σ1 =>
    x_b (F_X8_at 168 ((x1 * (6 : Int32)) + x2) σ1) fun v2 σ2 =>
    if v1 ≤ v2 then
      (F_X8_isAtRest_2 n) x1 (x2 + (1 : Int32)) σ2
    else
      some ((0 : Int32), σ2)
def F_X8_isAtRest (x1 : Int32) (σ : x_Hp) : Option (Int32 × x_Hp) :=
  F_X8_isAtRest_2 x_fuel x1 (0 : Int32) σ
def F_X8_laughInSet_59 (k22 : Int32 → Int32 → Int32 → Int32 → x_Hp → Option (Unit × x_Hp)) (x1 : Int32) (x2 : Int32) (x3 : Int32) (x4 : Int32) (s0 : Int32) (s1 : Int32) (σ : x_Hp) : Option (Unit × x_Hp) :=
  x_b (F_X0_keep 34 37 s1 s0 σ) fun _ σ2 =>
  x_b (F_X5_tallied 37 x3 (2 : Int32) σ2) fun v3 σ3 =>
  x_b (F_X5_tallied 35 x3 (2 : Int32) σ3) fun v4 σ4 =>
  x_b (F_X8_put 168 ((x1 * (6 : Int32)) + x3) (v3 - v4) σ4) fun _ σ5 =>
  x_b (F_X0_behind 34 x3 σ5) fun v6 σ6 =>
  k22 x1 x2 v6 (x4 + (1 : Int32)) σ6
def F_X8_laughInSet_22 : Nat → Int32 → Int32 → Int32 → Int32 → x_Hp → Option (Unit × x_Hp)
  | 0, _, _, _, _, _ => none
  | n + 1, x1, x2, x3, x4, σ =>
  if (σ.1 1 7) ≤ x4 then
    some ((), σ)
  else
    if ((x1 >>> (x3 &&& 31)) &&& (1 : Int32)) = (1 : Int32) then
      F_X8_laughInSet_59 (F_X8_laughInSet_22 n) x1 x2 x3 x4 ((2 : Int32) * x2) x3 σ
    else
      F_X8_laughInSet_59 (F_X8_laughInSet_22 n) x1 x2 x3 x4 x2 x3 σ
def F_X8_laughInSet (x1 : Int32) (x2 : Int32) (σ : x_Hp) : Option (Unit × x_Hp) :=
  x_b (F_X5_takeFrom 37 35 σ) fun _ σ1 =>
  F_X8_laughInSet_22 x_fuel x1 x2 (σ1.1 35 9) (0 : Int32) σ1
def F_X8_rests_92 (k65 : Int32 → Int32 → Int32 → Int32 → x_Hp → Option (Int32 × x_Hp)) (x2 : Int32) (x3 : Int32) (x4 : Int32) (x5 : Int32) (σ : x_Hp) : Option (Int32 × x_Hp) :=
  k65 x2 x3 x4 (x5 + (1 : Int32)) σ
def F_X8_rests_65 : Nat → Int32 → Int32 → Int32 → Int32 → x_Hp → Option (Int32 × x_Hp)
  | 0, _, _, _, _, _ => none
  | n + 1, x2, x3, x4, x5, σ =>
  if x3 ≤ x5 then
    if x2 = (-1 : Int32) then
      some (x4, σ)
    else
      some ((-1 : Int32), σ)
  else
    x_b (F_X8_isAtRest x5 σ) fun v4 σ4 =>
    if v4 = 0 then
      F_X8_rests_92 (F_X8_rests_65 n) x2 x3 x4 x5 σ4
    else
      if x4 = x2 then
        some (x5, σ4)
      else
        F_X8_rests_92 (F_X8_rests_65 n) x2 x3 (x4 + (1 : Int32)) x5 σ4
def F_X8_rests_40 : Nat → Int32 → Int32 → Int32 → Int32 → x_Hp → Option (Int32 × x_Hp)
  | 0, _, _, _, _, _ => none
  | n + 1, x1, x2, x3, x4, σ =>
  if x3 ≤ x4 then
    F_X8_rests_65 x_fuel x2 x3 (0 : Int32) (0 : Int32) σ
  else
    x_b (F_X8_laughInSet x4 x1 σ) fun _ σ3 =>
    (F_X8_rests_40 n) x1 x2 x3 (x4 + (1 : Int32)) σ3
def F_X8_rests (x1 : Int32) (x2 : Int32) (σ : x_Hp) : Option (Int32 × x_Hp) :=
  x_b (F_X8_between x1 (1 : Int32) (10 : Int32) σ) fun v1 σ1 =>
  if v1 = 0 then
    some ((-1 : Int32), σ1)
  else
    if (-1 : Int32) ≤ x2 then
      x_b (F_X8_asleepOrAlone σ1) fun v2 σ2 =>
      if v2 = 0 then
        F_X8_rests_40 x_fuel x1 x2 ((1 : Int32) <<< ((σ2.1 1 7) &&& 31)) (0 : Int32) σ2
      else
        some ((-2 : Int32), σ2)
    else
      some ((-1 : Int32), σ1)
def F_X8_silk_27 : Nat → Int32 → Int32 → Int32 → Int32 → x_Hp → Option (Int32 × x_Hp)
  | 0, _, _, _, _, _ => none
  | n + 1, x1, x2, x3, x4, σ =>
  if x2 ≤ x4 then
    some (x3, σ)
  else
    x_b (F_X5_takeFrom 37 35 σ) fun _ σ3 =>
    x_pt (x_pI σ3 37 16 ((σ3.1 1 6) + x4)) fun σ4 =>
    x_b (F_X0_goOn 34 37 x1 σ4) fun _ σ5 =>
    x_b (F_X5_allTallied 37 (4 : Int32) σ5) fun v6 σ6 =>
    x_b (F_X5_allTallied 35 (4 : Int32) σ6) fun v7 σ7 =>
    (F_X8_silk_27 n) x1 x2 (x3 + (v6 - v7)) (x4 + (1 : Int32)) σ7
def F_X8_silk (x1 : Int32) (x2 : Int32) (σ : x_Hp) : Option (Int32 × x_Hp) :=
  x_b (F_X8_between x1 (0 : Int32) (120 : Int32) σ) fun v1 σ1 =>
  if v1 = 0 then
    some ((-1 : Int32), σ1)
  else
    x_b (F_X8_between x2 (1 : Int32) (20 : Int32) σ1) fun v2 σ2 =>
    if v2 = 0 then
      some ((-1 : Int32), σ2)
    else
      F_X8_silk_27 x_fuel x1 x2 (0 : Int32) (0 : Int32) σ2
def F_X8_commonDivisor_2 : Nat → Int32 → Int32 → Int32 → x_Hp → Option (Int32 × x_Hp)
  | 0, _, _, _, _ => none
  | n + 1, x0, x1, x2, σ =>
  if (100 : Int32) ≤ x2 then
    some (x0, σ)
  else
    if x1 = 0 then
      some (x0, σ)
    else
      x_gd (!decide (x1 = 0)) <|
      (F_X8_commonDivisor_2 n) x1 (x0 - x0 / x1 * x1) (x2 + (1 : Int32)) σ
def F_X8_commonDivisor (x0 : Int32) (x1 : Int32) (σ : x_Hp) : Option (Int32 × x_Hp) :=
  F_X8_commonDivisor_2 x_fuel x0 x1 (0 : Int32) σ
def F_X8_likes (x1 : Int32) (x2 : Int32) (σ : x_Hp) : Option (Int32 × x_Hp) :=
  x_b (F_X8_isAunt x1 σ) fun v1 σ1 =>
  if v1 = 0 then
    some ((-1 : Int32), σ1)
  else
    x_b (F_X5_tallied 35 x1 (0 : Int32) σ1) fun v2 σ2 =>
    if v2 = 0 then
      some ((-2 : Int32), σ2)
    else
      x_b (F_X5_tallied 35 x1 (1 : Int32) σ2) fun v3 σ3 =>
      x_b (F_X8_commonDivisor v2 v3 σ3) fun v4 σ4 =>
      if v4 = 0 then
        some ((-2 : Int32), σ4)
      else
        if x2 = 0 then
          x_gd (!decide (v4 = 0)) <|
          some (v3 / v4, σ4)
        else
          x_gd (!decide (v4 = 0)) <|
          some (v2 / v4, σ4)
def F_X8_sleeps_13 : Nat → Int32 → x_Hp → Option (Int32 × x_Hp)
  | 0, _, _ => none
  | n + 1, x1, σ =>
  if (240 : Int32) ≤ x1 then
    if (σ.1 37 13) ≤ 0 then
      some ((-2 : Int32), σ)
    else
      some ((240 : Int32), σ)
  else
    if (σ.1 37 13) ≤ 0 then
      x_b (F_X0_step 34 37 σ) fun _ σ2 =>
      (F_X8_sleeps_13 n) (x1 + (1 : Int32)) σ2
    else
      some (x1, σ)
def F_X8_sleeps (σ : x_Hp) : Option (Int32 × x_Hp) :=
  x_b (F_X5_takeFrom 37 35 σ) fun _ σ1 =>
  F_X8_sleeps_13 x_fuel (0 : Int32) σ1
def F_X8_tell (x1 : Int32) (x2 : Int32) (σ : x_Hp) : Option (Int32 × x_Hp) :=
  x_b (F_X8_between x1 (0 : Int32) (59 : Int32) σ) fun v1 σ1 =>
  if v1 = 0 then
    some ((-1 : Int32), σ1)
  else
    x_b (F_X8_between x2 (0 : Int32) (99 : Int32) σ1) fun v2 σ2 =>
    if v2 = 0 then
      some ((-1 : Int32), σ2)
    else
      if (σ2.1 0 13) < (20 : Int32) then
        x_b (F_X8_put 169 (σ2.1 0 13) x1 σ2) fun _ σ3 =>
        x_b (F_X8_put 170 (σ3.1 0 13) x2 σ3) fun _ σ4 =>
        x_pt (x_pI σ4 0 13 ((σ4.1 0 13) + (1 : Int32))) fun σ5 =>
        some ((σ5.1 0 13) - (1 : Int32), σ5)
      else
        some ((-1 : Int32), σ2)
def F_X8_forget (σ : x_Hp) : Option (Int32 × x_Hp) :=
  x_pt (x_pI σ 0 13 (0 : Int32)) fun σ1 =>
  some (σ.1 0 13, σ1)
def F_X8_criesAsTold_81 (k21 : Int32 → Int32 → x_Hp → Option (Int32 × x_Hp)) (k41 : Int32 → Int32 → Int32 → x_Hp → Option (Int32 × x_Hp)) (x2 : Int32) (x3 : Int32) (x4 : Int32) (σ : x_Hp) : Option (Int32 × x_Hp) :=
  k41 x2 x3 (x4 + (1 : Int32)) σ
def F_X8_criesAsTold_41 (k21 : Int32 → Int32 → x_Hp → Option (Int32 × x_Hp)) : Nat → Int32 → Int32 → Int32 → x_Hp → Option (Int32 × x_Hp)
  | 0, _, _, _, _ => none
  | n + 1, x2, x3, x4, σ =>
  if x2 ≤ x4 then
    k21 x2 (x3 + (1 : Int32)) σ
  else
    x_b (F_X8_at 169 x4 σ) fun v4 σ4 =>
    if v4 = x3 then
      x_b (F_X8_at 170 x4 σ4) fun v5 σ5 =>
      if v5 = (σ5.1 37 12) then
        F_X8_criesAsTold_81 k21 (F_X8_criesAsTold_41 k21 n) x2 x3 x4 σ5
      else
        some ((0 : Int32), σ5)
    else
      F_X8_criesAsTold_81 k21 (F_X8_criesAsTold_41 k21 n) x2 x3 x4 σ4
def F_X8_criesAsTold_21 : Nat → Int32 → Int32 → x_Hp → Option (Int32 × x_Hp)
  | 0, _, _, _ => none
  | n + 1, x2, x3, σ =>
  if (60 : Int32) ≤ x3 then
    some ((1 : Int32), σ)
  else
    x_b (F_X0_step 34 37 σ) fun _ σ3 =>
    F_X8_criesAsTold_41 (F_X8_criesAsTold_21 n) x_fuel x2 x3 (0 : Int32) σ3
def F_X8_criesAsTold (x1 : Int32) (x2 : Int32) (σ : x_Hp) : Option (Int32 × x_Hp) :=
  x_b (F_X0_begin 34 37 σ) fun _ σ1 =>
  x_pt (x_pI σ1 37 0 x1) fun σ2 =>
  F_X8_criesAsTold_21 x_fuel x2 (0 : Int32) σ2
def F_X8_fed_52 (k24 : Int32 → Int32 → Int32 → Int32 → x_Hp → Option (Int32 × x_Hp)) (x1 : Int32) (x2 : Int32) (x3 : Int32) (x4 : Int32) (σ : x_Hp) : Option (Int32 × x_Hp) :=
  k24 x1 x2 x3 (x4 + (1 : Int32)) σ
def F_X8_fed_24 : Nat → Int32 → Int32 → Int32 → Int32 → x_Hp → Option (Int32 × x_Hp)
  | 0, _, _, _, _, _ => none
  | n + 1, x1, x2, x3, x4, σ =>
  if (99 : Int32) < x4 then
    if x2 = (-1 : Int32) then
      some (x3, σ)
    else
      some ((-1 : Int32), σ)
  else
    x_b (F_X8_criesAsTold x4 x1 σ) fun v2 σ2 =>
    if v2 = 0 then
      F_X8_fed_52 (F_X8_fed_24 n) x1 x2 x3 x4 σ2
    else
      if x3 = x2 then
        some (x4, σ2)
      else
        F_X8_fed_52 (F_X8_fed_24 n) x1 x2 (x3 + (1 : Int32)) x4 σ2
def F_X8_fed (x1 : Int32) (x2 : Int32) (σ : x_Hp) : Option (Int32 × x_Hp) :=
  x_b (F_X8_between x1 (0 : Int32) (σ.1 0 13) σ) fun v1 σ1 =>
  if v1 = 0 then
    some ((-1 : Int32), σ1)
  else
    if (-1 : Int32) ≤ x2 then
      F_X8_fed_24 x_fuel x1 x2 (0 : Int32) (0 : Int32) σ1
    else
      some ((-1 : Int32), σ1)
def F_X8_hold (x1 : Int32) (σ : x_Hp) : Option (Int32 × x_Hp) :=
  if x1 < 0 then
    some ((0 : Int32), σ)
  else
    if (3 : Int32) ≤ x1 then
      some ((0 : Int32), σ)
    else
      x_gd (x_inb x1 3) <|
      x_gd (x_inb x1 3) <|
      x_b (F_X5_takeFrom (x_rf TX 141 (x_ix x1)) 35 σ) fun _ σ3 =>
      x_b (F_X8_put 142 x1 (1 : Int32) σ3) fun _ σ4 =>
      some ((1 : Int32), σ4)
def F_X8_restore (x1 : Int32) (σ : x_Hp) : Option (Int32 × x_Hp) :=
  if x1 < 0 then
    some ((0 : Int32), σ)
  else
    if (3 : Int32) ≤ x1 then
      some ((0 : Int32), σ)
    else
      x_b (F_X8_at 142 x1 σ) fun v1 σ1 =>
      if v1 = 0 then
        some ((0 : Int32), σ1)
      else
        x_gd (x_inb x1 3) <|
        x_b (F_X5_takeFrom 35 (x_rf TX 141 (x_ix x1)) σ1) fun _ σ3 =>
        x_b (F_X7_begin σ3) fun _ σ4 =>
        some ((1 : Int32), σ4)
def F_X8_count (x1 : Int32) (σ : x_Hp) : Option (Int32 × x_Hp) :=
  if x1 = (0 : Int32) then
    some (σ.1 1 7, σ)
  else
  if x1 = (1 : Int32) then
    some (σ.1 35 15, σ)
  else
  if x1 = (2 : Int32) then
    x_b (F_X5_allTallied 35 (1 : Int32) σ) fun v1 σ1 =>
    some (v1, σ1)
  else
  if x1 = (3 : Int32) then
    x_b (F_X5_allTallied 35 (2 : Int32) σ) fun v2 σ2 =>
    some (v2, σ2)
  else
  if x1 = (4 : Int32) then
    x_b (F_X5_allTallied 35 (4 : Int32) σ) fun v3 σ3 =>
    some (v3, σ3)
  else
  if x1 = (5 : Int32) then
    some (σ.1 35 17, σ)
  else
  if x1 = (6 : Int32) then
    some (σ.1 35 18, σ)
  else
  if x1 = (7 : Int32) then
    some (σ.1 14 1, σ)
  else
  if x1 = (8 : Int32) then
    some (σ.1 39 1, σ)
  else
  if x1 = (9 : Int32) then
    some (σ.1 0 13, σ)
  else
  if x1 = (10 : Int32) then
    x_b (F_X8_at 142 (0 : Int32) σ) fun v4 σ4 =>
    x_b (F_X8_at 142 (1 : Int32) σ4) fun v5 σ5 =>
    x_b (F_X8_at 142 (2 : Int32) σ5) fun v6 σ6 =>
    some ((v4 + v5) + v6, σ6)
  else
  if x1 = (11 : Int32) then
    some (σ.1 1 4, σ)
  else
  if x1 = (12 : Int32) then
    some (σ.1 1 5, σ)
  else
  if x1 = (13 : Int32) then
    some (σ.1 35 19, σ)
  else
  some ((-1 : Int32), σ)
def F_X9_put_3 : Nat → Int32 → Int32 → x_Hp → Option (Unit × x_Hp)
  | 0, _, _, _ => none
  | n + 1, x1, x2, σ =>
  if x2 < 0 then
    some ((), σ)
  else
    x_gd (x_inb (σ.1 0 2) 2000) <|
    x_pt (x_pI σ 1 (x_ix (σ.1 0 2)) (vp_nar .byte ((x1 >>> (x2 &&& 31)).toInt8.toInt32))) fun σ2 =>
    x_pt (x_pI σ2 0 2 ((σ2.1 0 2) + (1 : Int32))) fun σ3 =>
    (F_X9_put_3 n) x1 (x2 + (-8 : Int32)) σ3
def F_X9_put (x1 : Int32) (σ : x_Hp) : Option (Unit × x_Hp) :=
  F_X9_put_3 x_fuel x1 (24 : Int32) σ
def F_X9_feed (x1 : Int32) (x2 : Int32) (x3 : Int32) (x4 : Int32) (x5 : Int32) (σ : x_Hp) : Option (Int32 × x_Hp) :=
  if ((σ.1 0 2) + (20 : Int32)) ≤ (2000 : Int32) then
    x_b (F_X9_put x1 σ) fun _ σ1 =>
    x_b (F_X9_put x2 σ1) fun _ σ2 =>
    x_b (F_X9_put x3 σ2) fun _ σ3 =>
    x_b (F_X9_put x4 σ3) fun _ σ4 =>
    x_b (F_X9_put x5 σ4) fun _ σ5 =>
    some (σ5.1 0 2, σ5)
  else
    some ((-1 : Int32), σ)
def F_X9_back (x1 : Int32) (σ : x_Hp) : Option (Int32 × x_Hp) :=
  if x1 < 0 then
    some ((-1 : Int32), σ)
  else
    if x1 ≤ (σ.1 0 2) then
      x_pt (x_pI σ 0 2 ((σ.1 0 2) - x1)) fun σ1 =>
      some (σ1.1 0 2, σ1)
    else
      some ((-1 : Int32), σ)
def F_X9_byteAt (x1 : Int32) (σ : x_Hp) : Option (Int32 × x_Hp) :=
  if (σ.1 0 4) ≤ x1 then
    some ((0 : Int32), σ)
  else
    x_gd (x_inb x1 2000) <|
    some ((σ.1 2 (x_ix x1)) &&& (255 : Int32), σ)
def F_X9_isDigit (x0 : Int32) (σ : x_Hp) : Option (Int32 × x_Hp) :=
  if x0 < (48 : Int32) then
    some ((0 : Int32), σ)
  else
    if (57 : Int32) < x0 then
      some ((0 : Int32), σ)
    else
      some ((1 : Int32), σ)
def F_X9_isLetter (x0 : Int32) (σ : x_Hp) : Option (Int32 × x_Hp) :=
  if x0 < (97 : Int32) then
    some ((0 : Int32), σ)
  else
    if (122 : Int32) < x0 then
      some ((0 : Int32), σ)
    else
      some ((1 : Int32), σ)
def F_X9_appends (y0 : Int64) (x2 : Int32) (σ : x_Hp) : Option (Int64 × x_Hp) :=
  if x2 = 0 then
    some (y0, σ)
  else
    some (((27 : Int64) * y0) + (((x2 - (97 : Int32)) + (1 : Int32)).toInt64), σ)
def F_X9_word (x0 : Int32) (x1 : Int32) (x2 : Int32) (x3 : Int32) (x4 : Int32) (x5 : Int32) (x6 : Int32) (σ : x_Hp) : Option (Int64 × x_Hp) :=
  x_b (F_X9_appends (0 : Int64) x0 σ) fun v1 σ1 =>
  x_b (F_X9_appends v1 x1 σ1) fun v2 σ2 =>
  x_b (F_X9_appends v2 x2 σ2) fun v3 σ3 =>
  x_b (F_X9_appends v3 x3 σ3) fun v4 σ4 =>
  x_b (F_X9_appends v4 x4 σ4) fun v5 σ5 =>
  x_b (F_X9_appends v5 x5 σ5) fun v6 σ6 =>
  x_b (F_X9_appends v6 x6 σ6) fun v7 σ7 =>
  some (v7, σ7)
def F_X9_token (x1 : Int32) (x2 : Int32) (x3 : Int32) (y4 : Int64) (σ : x_Hp) : Option (Unit × x_Hp) :=
  x_gd (x_inb (σ.1 0 10) 403) <|
  x_pt (x_pI σ 3 (x_ix (σ.1 0 10)) x1) fun σ2 =>
  x_gd (x_inb (σ2.1 0 10) 403) <|
  x_pt (x_pI σ2 4 (x_ix (σ2.1 0 10)) x2) fun σ4 =>
  x_gd (x_inb (σ4.1 0 10) 403) <|
  x_pt (x_pI σ4 5 (x_ix (σ4.1 0 10)) x3) fun σ6 =>
  x_gd (x_inb (σ6.1 0 10) 403) <|
  x_pt (x_pL σ6 6 (x_ix (σ6.1 0 10)) y4) fun σ8 =>
  x_pt (x_pI σ8 0 10 ((σ8.1 0 10) + (1 : Int32))) fun σ9 =>
  some ((), σ9)
def F_X9_sign_95 (x1 : Int32) (x4 : Int32) (σ : x_Hp) : Option (Int32 × x_Hp) :=
  x_b (F_X9_token x4 x1 (0 : Int32) (0 : Int64) σ) fun _ σ1 =>
  some ((1 : Int32), σ1)
def F_X9_sign_85 (x1 : Int32) (x2 : Int32) (x4 : Int32) (σ : x_Hp) : Option (Int32 × x_Hp) :=
  if x2 = (60 : Int32) then
    F_X9_sign_95 x1 (13 : Int32) σ
  else
    F_X9_sign_95 x1 x4 σ
def F_X9_sign_75 (x1 : Int32) (x2 : Int32) (x4 : Int32) (σ : x_Hp) : Option (Int32 × x_Hp) :=
  if x2 = (47 : Int32) then
    F_X9_sign_85 x1 x2 (15 : Int32) σ
  else
    F_X9_sign_85 x1 x2 x4 σ
def F_X9_sign_65 (x1 : Int32) (x2 : Int32) (x4 : Int32) (σ : x_Hp) : Option (Int32 × x_Hp) :=
  if x2 = (42 : Int32) then
    F_X9_sign_75 x1 x2 (10 : Int32) σ
  else
    F_X9_sign_75 x1 x2 x4 σ
def F_X9_sign_55 (x1 : Int32) (x2 : Int32) (x4 : Int32) (σ : x_Hp) : Option (Int32 × x_Hp) :=
  if x2 = (45 : Int32) then
    F_X9_sign_65 x1 x2 (9 : Int32) σ
  else
    F_X9_sign_65 x1 x2 x4 σ
def F_X9_sign_43 (x1 : Int32) (x2 : Int32) (s0 : Int32) (σ : x_Hp) : Option (Int32 × x_Hp) :=
  if x2 = (43 : Int32) then
    F_X9_sign_55 x1 x2 (8 : Int32) σ
  else
    F_X9_sign_55 x1 x2 s0 σ
def F_X9_sign (x1 : Int32) (x2 : Int32) (x3 : Int32) (σ : x_Hp) : Option (Int32 × x_Hp) :=
  if x2 = (59 : Int32) then
    F_X9_sign_43 x1 x2 (4 : Int32) σ
  else
    if x2 = (61 : Int32) then
      F_X9_sign_43 x1 x2 (5 : Int32) σ
    else
      if x2 = (40 : Int32) then
        F_X9_sign_43 x1 x2 (6 : Int32) σ
      else
        if x2 = (41 : Int32) then
          F_X9_sign_43 x1 x2 (7 : Int32) σ
        else
          F_X9_sign_43 x1 x2 (3 : Int32) σ
def F_X9_cut_291 (k7 : Int32 → x_Hp → Option (Unit × x_Hp)) (x1 : Int32) (σ : x_Hp) : Option (Unit × x_Hp) :=
  k7 x1 σ
def F_X9_cut_67 (k7 : Int32 → x_Hp → Option (Unit × x_Hp)) (x1 : Int32) (σ : x_Hp) : Option (Unit × x_Hp) :=
  F_X9_cut_291 k7 (x1 + (1 : Int32)) σ
def F_X9_cut_261 (k7 : Int32 → x_Hp → Option (Unit × x_Hp)) (x1 : Int32) (x3 : Int32) (x4 : Int32) (s0 : Int32) (σ : x_Hp) : Option (Unit × x_Hp) :=
  x_b (F_X9_token s0 x1 x4 (0 : Int64) σ) fun _ σ15 =>
  F_X9_cut_291 k7 (x1 + x3) σ15
def F_X9_cut_244 (k7 : Int32 → x_Hp → Option (Unit × x_Hp)) (k208 : Int32 → Int32 → Int32 → x_Hp → Option (Unit × x_Hp)) (x1 : Int32) (x3 : Int32) (x4 : Int32) (σ : x_Hp) : Option (Unit × x_Hp) :=
  k208 x1 (x3 + (1 : Int32)) x4 σ
def F_X9_cut_208 (k7 : Int32 → x_Hp → Option (Unit × x_Hp)) : Nat → Int32 → Int32 → Int32 → x_Hp → Option (Unit × x_Hp)
  | 0, _, _, _, _ => none
  | n + 1, x1, x3, x4, σ =>
  x_b (F_X9_byteAt (x1 + x3) σ) fun v8 σ8 =>
  x_b (F_X9_isDigit v8 σ8) fun v9 σ9 =>
  if v9 = 0 then
    if x3 ≤ (4 : Int32) then
      F_X9_cut_261 k7 x1 x3 x4 (2 : Int32) σ9
    else
      F_X9_cut_261 k7 x1 x3 x4 (3 : Int32) σ9
  else
    if (4 : Int32) ≤ x3 then
      F_X9_cut_244 k7 (F_X9_cut_208 k7 n) x1 x3 x4 σ9
    else
      x_b (F_X9_byteAt (x1 + x3) σ9) fun v10 σ10 =>
      F_X9_cut_244 k7 (F_X9_cut_208 k7 n) x1 x3 ((((10 : Int32) * x4) + v10) - (48 : Int32)) σ10
def F_X9_cut_179 (k7 : Int32 → x_Hp → Option (Unit × x_Hp)) (x1 : Int32) (x3 : Int32) (y4 : Int64) (x6 : Int32) (σ : x_Hp) : Option (Unit × x_Hp) :=
  x_b (F_X9_token x6 x1 (0 : Int32) y4 σ) fun _ σ16 =>
  F_X9_cut_291 k7 (x1 + x3) σ16
def F_X9_cut_173 (k7 : Int32 → x_Hp → Option (Unit × x_Hp)) (k146 : Int32 → Int32 → Int64 → Int32 → Int32 → x_Hp → Option (Unit × x_Hp)) (x1 : Int32) (x3 : Int32) (y4 : Int64) (x6 : Int32) (x7 : Int32) (σ : x_Hp) : Option (Unit × x_Hp) :=
  k146 x1 x3 y4 x6 (x7 + (1 : Int32)) σ
def F_X9_cut_146 (k7 : Int32 → x_Hp → Option (Unit × x_Hp)) : Nat → Int32 → Int32 → Int64 → Int32 → Int32 → x_Hp → Option (Unit × x_Hp)
  | 0, _, _, _, _, _, _ => none
  | n + 1, x1, x3, y4, x6, x7, σ =>
  if (25 : Int32) ≤ x7 then
    F_X9_cut_179 k7 x1 x3 y4 x6 σ
  else
    x_gd (x_inb x7 25) <|
    if (lg_cmp (σ.2 7 (x_ix x7)) y4) = 0 then
      F_X9_cut_173 k7 (F_X9_cut_146 k7 n) x1 x3 y4 ((20 : Int32) + x7) x7 σ
    else
      F_X9_cut_173 k7 (F_X9_cut_146 k7 n) x1 x3 y4 x6 x7 σ
def F_X9_cut_135 (k7 : Int32 → x_Hp → Option (Unit × x_Hp)) (x1 : Int32) (x3 : Int32) (y4 : Int64) (s0 : Int32) (σ : x_Hp) : Option (Unit × x_Hp) :=
  if (7 : Int32) < x3 then
    F_X9_cut_179 k7 x1 x3 y4 s0 σ
  else
    F_X9_cut_146 k7 x_fuel x1 x3 y4 s0 (0 : Int32) σ
def F_X9_cut_118 (k7 : Int32 → x_Hp → Option (Unit × x_Hp)) (k85 : Int32 → Int32 → Int64 → x_Hp → Option (Unit × x_Hp)) (x1 : Int32) (x3 : Int32) (y4 : Int64) (σ : x_Hp) : Option (Unit × x_Hp) :=
  k85 x1 (x3 + (1 : Int32)) y4 σ
def F_X9_cut_85 (k7 : Int32 → x_Hp → Option (Unit × x_Hp)) : Nat → Int32 → Int32 → Int64 → x_Hp → Option (Unit × x_Hp)
  | 0, _, _, _, _ => none
  | n + 1, x1, x3, y4, σ =>
  x_b (F_X9_byteAt (x1 + x3) σ) fun v11 σ11 =>
  x_b (F_X9_isLetter v11 σ11) fun v12 σ12 =>
  if v12 = 0 then
    if x3 ≤ (8 : Int32) then
      F_X9_cut_135 k7 x1 x3 y4 (1 : Int32) σ12
    else
      F_X9_cut_135 k7 x1 x3 y4 (3 : Int32) σ12
  else
    if (8 : Int32) ≤ x3 then
      F_X9_cut_118 k7 (F_X9_cut_85 k7 n) x1 x3 y4 σ12
    else
      x_b (F_X9_byteAt (x1 + x3) σ12) fun v13 σ13 =>
      x_b (F_X9_appends y4 v13 σ13) fun v14 σ14 =>
      F_X9_cut_118 k7 (F_X9_cut_85 k7 n) x1 x3 v14 σ14
def F_X9_cut_7 : Nat → Int32 → x_Hp → Option (Unit × x_Hp)
  | 0, _, _ => none
  | n + 1, x1, σ =>
  if (400 : Int32) < (σ.1 0 10) then
    some ((), σ)
  else
    x_b (F_X9_byteAt x1 σ) fun v2 σ2 =>
    if x1 < (σ2.1 0 4) then
      if v2 = (9 : Int32) then
        F_X9_cut_67 (F_X9_cut_7 n) x1 σ2
      else
        if v2 = (10 : Int32) then
          F_X9_cut_67 (F_X9_cut_7 n) x1 σ2
        else
          if v2 = (13 : Int32) then
            F_X9_cut_67 (F_X9_cut_7 n) x1 σ2
          else
            if v2 = (32 : Int32) then
              F_X9_cut_67 (F_X9_cut_7 n) x1 σ2
            else
              x_b (F_X9_isLetter v2 σ2) fun v3 σ3 =>
              if v3 = 0 then
                x_b (F_X9_isDigit v2 σ3) fun v4 σ4 =>
                if v4 = 0 then
                  x_b (F_X9_byteAt (x1 + (1 : Int32)) σ4) fun v5 σ5 =>
                  x_b (F_X9_sign x1 v2 v5 σ5) fun v6 σ6 =>
                  F_X9_cut_291 (F_X9_cut_7 n) (x1 + v6) σ6
                else
                  F_X9_cut_208 (F_X9_cut_7 n) x_fuel x1 (0 : Int32) (0 : Int32) σ4
              else
                F_X9_cut_85 (F_X9_cut_7 n) x_fuel x1 (0 : Int32) (0 : Int64) σ3
    else
      x_b (F_X9_token (0 : Int32) (σ2.1 0 4) (0 : Int32) (0 : Int64) σ2) fun _ σ7 =>
      some ((), σ7)
def F_X9_cut (σ : x_Hp) : Option (Unit × x_Hp) :=
  x_pt (x_pI σ 0 10 (0 : Int32)) fun σ1 =>
  F_X9_cut_7 x_fuel (0 : Int32) σ1
def F_X9_is (x1 : Int32) (σ : x_Hp) : Option (Int32 × x_Hp) :=
  if (σ.1 0 13) = 0 then
    x_gd (x_inb (σ.1 0 11) 403) <|
    if (σ.1 3 (x_ix (σ.1 0 11))) = x1 then
      some ((1 : Int32), σ)
    else
      some ((0 : Int32), σ)
  else
    some ((0 : Int32), σ)
def F_X9_fail (x1 : Int32) (σ : x_Hp) : Option (Unit × x_Hp) :=
  if (σ.1 0 13) ≤ 0 then
    x_pt (x_pI σ 0 13 x1) fun σ1 =>
    x_gd (x_inb (σ1.1 0 11) 403) <|
    x_pt (x_pI σ1 0 14 (σ1.1 4 (x_ix (σ1.1 0 11)))) fun σ3 =>
    some ((), σ3)
  else
    some ((), σ)
def F_X9_wrong_46 (x1 : Int32) (x3 : Int32) (σ : x_Hp) : Option (Unit × x_Hp) :=
  x_pt (x_pI σ 0 15 x1) fun σ2 =>
  x_pt (x_pI σ2 0 16 x3) fun σ3 =>
  some ((), σ3)
def F_X9_wrong (x1 : Int32) (x2 : Int32) (σ : x_Hp) : Option (Unit × x_Hp) :=
  x_gd (x_inb x2 403) <|
  if 0 < (σ.1 0 13) then
    some ((), σ)
  else
    if (σ.1 0 15) = 0 then
      F_X9_wrong_46 x1 (σ.1 4 (x_ix x2)) σ
    else
      if (σ.1 0 16) < (σ.1 4 (x_ix x2)) then
        some ((), σ)
      else
        if (σ.1 4 (x_ix x2)) = (σ.1 0 16) then
          if x1 < (σ.1 0 15) then
            F_X9_wrong_46 x1 (σ.1 4 (x_ix x2)) σ
          else
            some ((), σ)
        else
          F_X9_wrong_46 x1 (σ.1 4 (x_ix x2)) σ
def F_X9_goesOn (σ : x_Hp) : Option (Unit × x_Hp) :=
  if (σ.1 0 11) = (400 : Int32) then
    x_b (F_X9_fail (2 : Int32) σ) fun _ σ2 =>
    some ((), σ2)
  else
    x_pt (x_pI σ 0 11 ((σ.1 0 11) + (1 : Int32))) fun σ1 =>
    some ((), σ1)
def F_X9_must (x1 : Int32) (σ : x_Hp) : Option (Unit × x_Hp) :=
  x_b (F_X9_is x1 σ) fun v1 σ1 =>
  if v1 = 0 then
    x_b (F_X9_fail (1 : Int32) σ1) fun _ σ2 =>
    some ((), σ2)
  else
    x_b (F_X9_goesOn σ1) fun _ σ3 =>
    some ((), σ3)
def F_X9_plain_56 : Nat → Int32 → Int32 → x_Hp → Option (Unit × x_Hp)
  | 0, _, _, _ => none
  | n + 1, x1, x2, σ =>
  if (7 : Int32) ≤ x2 then
    some ((), σ)
  else
    x_gd (x_inb (((7 : Int32) * x1) + x2) 14) <|
    x_pt (x_pI σ 19 (x_ix (((7 : Int32) * x1) + x2)) (0 : Int32)) fun σ12 =>
    x_gd (x_inb (((7 : Int32) * x1) + x2) 14) <|
    x_pt (x_pI σ12 20 (x_ix (((7 : Int32) * x1) + x2)) (0 : Int32)) fun σ14 =>
    (F_X9_plain_56 n) x1 (x2 + (1 : Int32)) σ14
def F_X9_plain_2 : Nat → Int32 → Int32 → x_Hp → Option (Unit × x_Hp)
  | 0, _, _, _ => none
  | n + 1, x1, x2, σ =>
  if (4 : Int32) ≤ x2 then
    x_gd (x_inb x1 2) <|
    x_pt (x_pI σ 10 (x_ix x1) (0 : Int32)) fun σ2 =>
    x_gd (x_inb x1 2) <|
    x_pt (x_pI σ2 16 (x_ix x1) (20 : Int32)) fun σ4 =>
    x_gd (x_inb x1 2) <|
    x_pt (x_pI σ4 17 (x_ix x1) (30 : Int32)) fun σ6 =>
    x_gd (x_inb x1 2) <|
    x_pt (x_pI σ6 18 (x_ix x1) (0 : Int32)) fun σ8 =>
    F_X9_plain_56 x_fuel x1 (0 : Int32) σ8
  else
    x_gd (x_inb (((4 : Int32) * x1) + x2) 8) <|
    x_pt (x_pI σ 9 (x_ix (((4 : Int32) * x1) + x2)) (0 : Int32)) fun σ10 =>
    (F_X9_plain_2 n) x1 (x2 + (1 : Int32)) σ10
def F_X9_plain (x1 : Int32) (σ : x_Hp) : Option (Unit × x_Hp) :=
  F_X9_plain_2 x_fuel x1 (0 : Int32) σ
def F_X9_plainly (σ : x_Hp) : Option (Unit × x_Hp) :=
  x_gd (x_inb (σ.1 0 18) 2) <|
  x_pt (x_pI σ 0 50 (σ.1 18 (x_ix (σ.1 0 18)))) fun σ2 =>
  x_pt (x_pI σ2 0 51 (-1 : Int32)) fun σ3 =>
  x_pt (x_pI σ3 0 52 (0 : Int32)) fun σ4 =>
  some ((), σ4)
def F_X9_begins_118 (s0 : Int32) (s1 : Int32) (σ : x_Hp) : Option (Unit × x_Hp) :=
  x_gd (x_inb s1 60) <|
  x_pt (x_pI σ 32 (x_ix s1) s0) fun σ13 =>
  x_b (F_X9_plainly σ13) fun _ σ14 =>
  some ((), σ14)
def F_X9_begins_76 (s0 : Int32) (s1 : Int32) (σ : x_Hp) : Option (Unit × x_Hp) :=
  x_gd (x_inb s1 60) <|
  x_pt (x_pI σ 32 (x_ix s1) s0) fun σ8 =>
  x_pt (x_pI σ8 32 10 (-2 : Int32)) fun σ9 =>
  x_pt (x_pI σ9 32 11 (-2 : Int32)) fun σ10 =>
  x_gd (x_inb (σ10.1 0 18) 2) <|
  if (σ10.1 10 (x_ix (σ10.1 0 18))) ≤ 0 then
    F_X9_begins_118 (0 : Int32) (18 : Int32) σ10
  else
    F_X9_begins_118 (1 : Int32) (18 : Int32) σ10
def F_X9_begins_23 : Nat → Int32 → x_Hp → Option (Unit × x_Hp)
  | 0, _, _ => none
  | n + 1, x1, σ =>
  if (4 : Int32) ≤ x1 then
    x_gd (x_inb (σ.1 0 18) 2) <|
    if (σ.1 10 (x_ix (σ.1 0 18))) ≤ 0 then
      F_X9_begins_76 (-2 : Int32) (4 : Int32) σ
    else
      F_X9_begins_76 (0 : Int32) (4 : Int32) σ
  else
    x_gd (x_inb (((4 : Int32) * (σ.1 0 18)) + x1) 8) <|
    x_gd (x_inb x1 60) <|
    x_pt (x_pI σ 32 (x_ix x1) (σ.1 9 (x_ix (((4 : Int32) * (σ.1 0 18)) + x1)))) fun σ6 =>
    (F_X9_begins_23 n) (x1 + (1 : Int32)) σ6
def F_X9_begins_2 : Nat → Int32 → x_Hp → Option (Unit × x_Hp)
  | 0, _, _ => none
  | n + 1, x1, σ =>
  if (60 : Int32) ≤ x1 then
    F_X9_begins_23 x_fuel (0 : Int32) σ
  else
    x_gd (x_inb x1 60) <|
    x_pt (x_pI σ 32 (x_ix x1) (0 : Int32)) fun σ2 =>
    (F_X9_begins_2 n) (x1 + (1 : Int32)) σ2
def F_X9_begins (σ : x_Hp) : Option (Unit × x_Hp) :=
  F_X9_begins_2 x_fuel (0 : Int32) σ
def F_X9_keepsRow_2 : Nat → Int32 → x_Hp → Option (Unit × x_Hp)
  | 0, _, _ => none
  | n + 1, x1, σ =>
  if (60 : Int32) ≤ x1 then
    some ((), σ)
  else
    x_gd (x_inb x1 60) <|
    x_gd (x_inb x1 60) <|
    x_pt (x_pI σ 31 (x_ix x1) (σ.1 32 (x_ix x1))) fun σ3 =>
    (F_X9_keepsRow_2 n) (x1 + (1 : Int32)) σ3
def F_X9_keepsRow (σ : x_Hp) : Option (Unit × x_Hp) :=
  F_X9_keepsRow_2 x_fuel (0 : Int32) σ
def F_X9_bounded_15 (x1 : Int32) (σ : x_Hp) : Option (Int32 × x_Hp) :=
  x_b (F_X9_fail (1 : Int32) σ) fun _ σ3 =>
  some (x1, σ3)
def F_X9_bounded_51 (x3 : Int32) (σ : x_Hp) : Option (Int32 × x_Hp) :=
  x_b (F_X9_goesOn σ) fun _ σ5 =>
  some (x3, σ5)
def F_X9_bounded_42 (x3 : Int32) (σ : x_Hp) : Option (Int32 × x_Hp) :=
  x_b (F_X9_wrong (5 : Int32) (σ.1 0 11) σ) fun _ σ4 =>
  F_X9_bounded_51 x3 σ4
def F_X9_bounded (x1 : Int32) (x2 : Int32) (σ : x_Hp) : Option (Int32 × x_Hp) :=
  if 0 < (σ.1 0 13) then
    F_X9_bounded_15 x1 σ
  else
    x_b (F_X9_is (2 : Int32) σ) fun v1 σ1 =>
    if v1 = 0 then
      F_X9_bounded_15 x1 σ1
    else
      x_gd (x_inb (σ1.1 0 11) 403) <|
      if (σ1.1 5 (x_ix (σ1.1 0 11))) < x1 then
        F_X9_bounded_42 (σ1.1 5 (x_ix (σ1.1 0 11))) σ1
      else
        if (σ1.1 5 (x_ix (σ1.1 0 11))) ≤ x2 then
          F_X9_bounded_51 (σ1.1 5 (x_ix (σ1.1 0 11))) σ1
        else
          F_X9_bounded_42 (σ1.1 5 (x_ix (σ1.1 0 11))) σ1
def F_X9_tellAunt_169 (x2 : Int32) (σ : x_Hp) : Option (Unit × x_Hp) :=
  x_b (F_X9_must (4 : Int32) σ) fun _ σ24 =>
  if (σ24.1 0 13) ≤ 0 then
    x_gd (x_inb x2 403) <|
    x_gd (x_inb (σ24.1 0 20) 6) <|
    x_pt (x_pL σ24 8 (x_ix (σ24.1 0 20)) (σ24.2 6 (x_ix x2))) fun σ27 =>
    x_pt (x_pI σ27 0 20 ((σ27.1 0 20) + (1 : Int32))) fun σ28 =>
    x_gd (x_inb (σ28.1 0 19) 2) <|
    x_gd (x_inb (σ28.1 0 19) 2) <|
    x_pt (x_pI σ28 10 (x_ix (σ28.1 0 19)) ((σ28.1 10 (x_ix (σ28.1 0 19))) + (1 : Int32))) fun σ31 =>
    some ((), σ31)
  else
    some ((), σ24)
def F_X9_tellAunt_155 (x1 : Int32) (x2 : Int32) (s0 : Int32) (s1 : Int32) (σ : x_Hp) : Option (Unit × x_Hp) :=
  x_gd (x_inb s1 12) <|
  x_pt (x_pI σ 15 (x_ix s1) (vp_nar .boolean s0)) fun σ21 =>
  x_gd (x_inb x1 12) <|
  if (σ21.1 15 (x_ix x1)) = 0 then
    F_X9_tellAunt_169 x2 σ21
  else
    x_b (F_X9_goesOn σ21) fun _ σ23 =>
    F_X9_tellAunt_169 x2 σ23
def F_X9_tellAunt_154 (x1 : Int32) (x2 : Int32) (s0 : Int32) (σ : x_Hp) : Option (Unit × x_Hp) :=
  F_X9_tellAunt_155 x1 x2 (0 : Int32) s0 σ
def F_X9_tellAunt_77 (x1 : Int32) (x2 : Int32) (σ : x_Hp) : Option (Unit × x_Hp) :=
  x_b (F_X9_bounded (0 : Int32) (9 : Int32) σ) fun v7 σ7 =>
  x_gd (x_inb x1 12) <|
  x_pt (x_pI σ7 11 (x_ix x1) v7) fun σ9 =>
  x_b (F_X9_bounded (0 : Int32) (9 : Int32) σ9) fun v10 σ10 =>
  x_gd (x_inb x1 12) <|
  x_pt (x_pI σ10 12 (x_ix x1) v10) fun σ12 =>
  x_b (F_X9_bounded (0 : Int32) (9 : Int32) σ12) fun v13 σ13 =>
  x_gd (x_inb x1 12) <|
  x_pt (x_pI σ13 13 (x_ix x1) v13) fun σ15 =>
  x_b (F_X9_bounded (0 : Int32) (99 : Int32) σ15) fun v16 σ16 =>
  x_gd (x_inb x1 12) <|
  x_pt (x_pI σ16 14 (x_ix x1) v16) fun σ18 =>
  if (σ18.1 0 13) = 0 then
    x_b (F_X9_is (22 : Int32) σ18) fun v19 σ19 =>
    if v19 = 0 then
      F_X9_tellAunt_154 x1 x2 x1 σ19
    else
      F_X9_tellAunt_155 x1 x2 (1 : Int32) x1 σ19
  else
    F_X9_tellAunt_154 x1 x2 x1 σ18
def F_X9_tellAunt_71 (k34 : Int32 → Int32 → Int32 → x_Hp → Option (Unit × x_Hp)) (x1 : Int32) (x2 : Int32) (x3 : Int32) (σ : x_Hp) : Option (Unit × x_Hp) :=
  k34 x1 x2 (x3 + (1 : Int32)) σ
def F_X9_tellAunt_34 : Nat → Int32 → Int32 → Int32 → x_Hp → Option (Unit × x_Hp)
  | 0, _, _, _, _ => none
  | n + 1, x1, x2, x3, σ =>
  if (σ.1 0 20) ≤ x3 then
    F_X9_tellAunt_77 x1 x2 σ
  else
    if (σ.1 0 13) = 0 then
      x_gd (x_inb x3 6) <|
      x_gd (x_inb x2 403) <|
      if (lg_cmp (σ.2 8 (x_ix x3)) (σ.2 6 (x_ix x2))) = 0 then
        x_b (F_X9_wrong (3 : Int32) x2 σ) fun _ σ6 =>
        F_X9_tellAunt_71 (F_X9_tellAunt_34 n) x1 x2 x3 σ6
      else
        F_X9_tellAunt_71 (F_X9_tellAunt_34 n) x1 x2 x3 σ
    else
      F_X9_tellAunt_77 x1 x2 σ
def F_X9_tellAunt (σ : x_Hp) : Option (Unit × x_Hp) :=
  x_b (F_X9_goesOn σ) fun _ σ1 =>
  x_gd (x_inb (σ1.1 0 19) 2) <|
  x_b (F_X9_must (1 : Int32) σ1) fun _ σ3 =>
  F_X9_tellAunt_34 x_fuel (((6 : Int32) * (σ1.1 0 19)) + (σ1.1 10 (x_ix (σ1.1 0 19)))) (σ1.1 0 11) (0 : Int32) σ3
def F_X9_emit (x1 : Int32) (x2 : Int32) (σ : x_Hp) : Option (Unit × x_Hp) :=
  x_gd (x_inb (σ.1 0 40) 840) <|
  x_pt (x_pI σ 26 (x_ix (σ.1 0 40)) x1) fun σ2 =>
  x_gd (x_inb (σ2.1 0 40) 840) <|
  x_pt (x_pI σ2 27 (x_ix (σ2.1 0 40)) x2) fun σ4 =>
  x_pt (x_pI σ4 0 40 ((σ4.1 0 40) + (1 : Int32))) fun σ5 =>
  some ((), σ5)
def F_X9_comesOut_84 (k0 : Int32 → x_Hp → Option (Unit × x_Hp)) (x1 : Int32) (s0 : Int32) (σ : x_Hp) : Option (Unit × x_Hp) :=
  x_b (F_X9_emit s0 (0 : Int32) σ) fun _ σ3 =>
  k0 x1 σ3
def F_X9_comesOut_42 (k0 : Int32 → x_Hp → Option (Unit × x_Hp)) (x1 : Int32) (x2 : Int32) (σ : x_Hp) : Option (Unit × x_Hp) :=
  x_pt (x_pI σ 0 44 ((σ.1 0 44) - (1 : Int32))) fun σ2 =>
  if x2 = (8 : Int32) then
    F_X9_comesOut_84 k0 x1 (2 : Int32) σ2
  else
    if x2 = (9 : Int32) then
      F_X9_comesOut_84 k0 x1 (3 : Int32) σ2
    else
      if x2 = (10 : Int32) then
        F_X9_comesOut_84 k0 x1 (4 : Int32) σ2
      else
        F_X9_comesOut_84 k0 x1 (5 : Int32) σ2
def F_X9_comesOut_0 : Nat → Int32 → x_Hp → Option (Unit × x_Hp)
  | 0, _, _ => none
  | n + 1, x1, σ =>
  if (σ.1 0 44) ≤ 0 then
    some ((), σ)
  else
    x_gd (x_inb ((σ.1 0 44) - (1 : Int32)) 64) <|
    if (σ.1 28 (x_ix ((σ.1 0 44) - (1 : Int32)))) = (6 : Int32) then
      some ((), σ)
    else
      if x1 = 0 then
        F_X9_comesOut_42 (F_X9_comesOut_0 n) x1 (σ.1 28 (x_ix ((σ.1 0 44) - (1 : Int32)))) σ
      else
        if (σ.1 28 (x_ix ((σ.1 0 44) - (1 : Int32)))) = (8 : Int32) then
          some ((), σ)
        else
          if (σ.1 28 (x_ix ((σ.1 0 44) - (1 : Int32)))) = (9 : Int32) then
            some ((), σ)
          else
            F_X9_comesOut_42 (F_X9_comesOut_0 n) x1 (σ.1 28 (x_ix ((σ.1 0 44) - (1 : Int32)))) σ
def F_X9_comesOut (x1 : Int32) (σ : x_Hp) : Option (Unit × x_Hp) :=
  F_X9_comesOut_0 x_fuel x1 σ
def F_X9_unit_88 (σ : x_Hp) : Option (Unit × x_Hp) :=
  x_b (F_X9_fail (1 : Int32) σ) fun _ σ10 =>
  some ((), σ10)
def F_X9_unit (σ : x_Hp) : Option (Unit × x_Hp) :=
  x_b (F_X9_is (2 : Int32) σ) fun v1 σ1 =>
  if v1 = 0 then
    if (σ1.1 0 13) = 0 then
      x_gd (x_inb (σ1.1 0 11) 403) <|
      if (σ1.1 3 (x_ix (σ1.1 0 11))) < (36 : Int32) then
        F_X9_unit_88 σ1
      else
        x_gd (x_inb (σ1.1 0 11) 403) <|
        if (44 : Int32) < (σ1.1 3 (x_ix (σ1.1 0 11))) then
          F_X9_unit_88 σ1
        else
          x_gd (x_inb (σ1.1 0 11) 403) <|
          x_b (F_X9_emit (1 : Int32) ((σ1.1 3 (x_ix (σ1.1 0 11))) - (36 : Int32)) σ1) fun _ σ5 =>
          x_b (F_X9_goesOn σ5) fun _ σ6 =>
          some ((), σ6)
    else
      F_X9_unit_88 σ1
  else
    x_gd (x_inb (σ1.1 0 11) 403) <|
    x_b (F_X9_emit (0 : Int32) (σ1.1 5 (x_ix (σ1.1 0 11))) σ1) fun _ σ8 =>
    x_b (F_X9_goesOn σ8) fun _ σ9 =>
    some ((), σ9)
def F_X9_expression_234 (k12 : Int32 → Int32 → x_Hp → Option (Unit × x_Hp)) (x1 : Int32) (x2 : Int32) (s0 : Int32) (σ : x_Hp) : Option (Unit × x_Hp) :=
  x_b (F_X9_comesOut s0 σ) fun _ σ22 =>
  x_gd (x_inb (σ22.1 0 11) 403) <|
  x_gd (x_inb (σ22.1 0 44) 64) <|
  x_pt (x_pI σ22 28 (x_ix (σ22.1 0 44)) (σ22.1 3 (x_ix (σ22.1 0 11)))) fun σ25 =>
  x_pt (x_pI σ25 0 44 ((σ25.1 0 44) + (1 : Int32))) fun σ26 =>
  x_b (F_X9_goesOn σ26) fun _ σ27 =>
  k12 x1 x2 σ27
def F_X9_expression_229 (k12 : Int32 → Int32 → x_Hp → Option (Unit × x_Hp)) (x1 : Int32) (x2 : Int32) (σ : x_Hp) : Option (Unit × x_Hp) :=
  F_X9_expression_234 k12 x1 x2 (1 : Int32) σ
def F_X9_expression_204 (σ : x_Hp) : Option (Unit × x_Hp) :=
  x_b (F_X9_comesOut (0 : Int32) σ) fun _ σ28 =>
  some ((), σ28)
def F_X9_expression_186 (k12 : Int32 → Int32 → x_Hp → Option (Unit × x_Hp)) (x1 : Int32) (s0 : Int32) (σ : x_Hp) : Option (Unit × x_Hp) :=
  if s0 = 0 then
    if (σ.1 0 12) ≤ x1 then
      F_X9_expression_204 σ
    else
      x_b (F_X9_fail (1 : Int32) σ) fun _ σ21 =>
      F_X9_expression_204 σ21
  else
    x_b (F_X9_is (10 : Int32) σ) fun v19 σ19 =>
    if v19 = 0 then
      x_b (F_X9_is (15 : Int32) σ19) fun v20 σ20 =>
      if v20 = 0 then
        F_X9_expression_234 k12 x1 s0 (0 : Int32) σ20
      else
        F_X9_expression_229 k12 x1 s0 σ20
    else
      F_X9_expression_229 k12 x1 s0 σ19
def F_X9_expression_181 (k12 : Int32 → Int32 → x_Hp → Option (Unit × x_Hp)) (x1 : Int32) (σ : x_Hp) : Option (Unit × x_Hp) :=
  F_X9_expression_186 k12 x1 (1 : Int32) σ
def F_X9_expression_145 (k12 : Int32 → Int32 → x_Hp → Option (Unit × x_Hp)) (x1 : Int32) (σ : x_Hp) : Option (Unit × x_Hp) :=
  x_b (F_X9_is (8 : Int32) σ) fun v15 σ15 =>
  if v15 = 0 then
    x_b (F_X9_is (9 : Int32) σ15) fun v16 σ16 =>
    if v16 = 0 then
      x_b (F_X9_is (10 : Int32) σ16) fun v17 σ17 =>
      if v17 = 0 then
        x_b (F_X9_is (15 : Int32) σ17) fun v18 σ18 =>
        if v18 = 0 then
          F_X9_expression_186 k12 x1 (0 : Int32) σ18
        else
          F_X9_expression_181 k12 x1 σ18
      else
        F_X9_expression_181 k12 x1 σ17
    else
      F_X9_expression_181 k12 x1 σ16
  else
    F_X9_expression_181 k12 x1 σ15
def F_X9_expression_96 (k12 : Int32 → Int32 → x_Hp → Option (Unit × x_Hp)) : Nat → Int32 → x_Hp → Option (Unit × x_Hp)
  | 0, _, _ => none
  | n + 1, x1, σ =>
  x_b (F_X9_is (7 : Int32) σ) fun v5 σ5 =>
  if v5 = 0 then
    F_X9_expression_145 k12 x1 σ5
  else
    if (σ5.1 0 12) ≤ x1 then
      F_X9_expression_145 k12 x1 σ5
    else
      x_b (F_X9_comesOut (0 : Int32) σ5) fun _ σ6 =>
      x_pt (x_pI σ6 0 44 ((σ6.1 0 44) - (1 : Int32))) fun σ7 =>
      x_pt (x_pI σ7 0 12 ((σ7.1 0 12) - (1 : Int32))) fun σ8 =>
      x_b (F_X9_goesOn σ8) fun _ σ9 =>
      (F_X9_expression_96 k12 n) x1 σ9
def F_X9_expression_46 (k12 : Int32 → Int32 → x_Hp → Option (Unit × x_Hp)) (k23 : Int32 → x_Hp → Option (Unit × x_Hp)) (x1 : Int32) (σ : x_Hp) : Option (Unit × x_Hp) :=
  x_pt (x_pI σ 0 12 ((σ.1 0 12) + (1 : Int32))) fun σ10 =>
  x_b (F_X9_goesOn σ10) fun _ σ11 =>
  x_gd (x_inb (σ11.1 0 44) 64) <|
  x_pt (x_pI σ11 28 (x_ix (σ11.1 0 44)) (6 : Int32)) fun σ13 =>
  x_pt (x_pI σ13 0 44 ((σ13.1 0 44) + (1 : Int32))) fun σ14 =>
  k23 x1 σ14
def F_X9_expression_23 (k12 : Int32 → Int32 → x_Hp → Option (Unit × x_Hp)) : Nat → Int32 → x_Hp → Option (Unit × x_Hp)
  | 0, _, _ => none
  | n + 1, x1, σ =>
  x_b (F_X9_is (6 : Int32) σ) fun v2 σ2 =>
  if v2 = 0 then
    x_b (F_X9_unit σ2) fun _ σ3 =>
    if (σ3.1 0 13) ≤ 0 then
      F_X9_expression_96 k12 x_fuel x1 σ3
    else
      some ((), σ3)
  else
    if (σ2.1 0 12) = (6 : Int32) then
      x_b (F_X9_fail (2 : Int32) σ2) fun _ σ4 =>
      F_X9_expression_46 k12 (F_X9_expression_23 k12 n) x1 σ4
    else
      F_X9_expression_46 k12 (F_X9_expression_23 k12 n) x1 σ2
def F_X9_expression_12 : Nat → Int32 → Int32 → x_Hp → Option (Unit × x_Hp)
  | 0, _, _, _ => none
  | n + 1, x1, x2, σ =>
  if x2 = 0 then
    some ((), σ)
  else
    if (σ.1 0 13) = 0 then
      F_X9_expression_23 (F_X9_expression_12 n) x_fuel x1 σ
    else
      some ((), σ)
def F_X9_expression (σ : x_Hp) : Option (Unit × x_Hp) :=
  x_pt (x_pI σ 0 44 (0 : Int32)) fun σ1 =>
  F_X9_expression_12 x_fuel (σ1.1 0 12) (1 : Int32) σ1
def F_X9_term_24 (σ : x_Hp) : Option (Unit × x_Hp) :=
  x_gd (x_inb (σ.1 0 34) 260) <|
  x_pt (x_pI σ 25 (x_ix (σ.1 0 34)) (σ.1 0 40)) fun σ5 =>
  x_pt (x_pI σ5 0 34 ((σ5.1 0 34) + (1 : Int32))) fun σ6 =>
  some ((), σ6)
def F_X9_term (σ : x_Hp) : Option (Unit × x_Hp) :=
  x_gd (x_inb (σ.1 0 34) 260) <|
  x_pt (x_pI σ 24 (x_ix (σ.1 0 34)) (σ.1 0 40)) fun σ2 =>
  if (σ2.1 0 13) = 0 then
    x_b (F_X9_expression σ2) fun _ σ3 =>
    F_X9_term_24 σ3
  else
    F_X9_term_24 σ2
def F_X9_tellLaw_129 (x1 : Int32) (x2 : Int32) (σ : x_Hp) : Option (Unit × x_Hp) :=
  x_gd (x_inb (σ.1 0 34) 260) <|
  x_pt (x_pI σ 21 (x_ix (σ.1 0 34)) (vp_nar .boolean (0 : Int32))) fun σ5 =>
  x_b (F_X9_term σ5) fun _ σ6 =>
  x_b (F_X9_must (4 : Int32) σ6) fun _ σ7 =>
  if (σ7.1 0 13) ≤ 0 then
    x_gd (x_inb (((7 : Int32) * (σ7.1 0 19)) + x1) 14) <|
    x_pt (x_pI σ7 19 (x_ix (((7 : Int32) * (σ7.1 0 19)) + x1)) x2) fun σ9 =>
    x_gd (x_inb (((7 : Int32) * (σ9.1 0 19)) + x1) 14) <|
    x_pt (x_pI σ9 20 (x_ix (((7 : Int32) * (σ9.1 0 19)) + x1)) (σ9.1 0 34)) fun σ11 =>
    some ((), σ11)
  else
    some ((), σ7)
def F_X9_tellLaw_110 (k12 : Int32 → Int32 → Int32 → x_Hp → Option (Unit × x_Hp)) (x1 : Int32) (x2 : Int32) (x3 : Int32) (σ : x_Hp) : Option (Unit × x_Hp) :=
  x_b (F_X9_must (34 : Int32) σ) fun _ σ22 =>
  x_b (F_X9_term σ22) fun _ σ23 =>
  x_b (F_X9_must (35 : Int32) σ23) fun _ σ24 =>
  k12 x1 x2 x3 σ24
def F_X9_tellLaw_38 (k12 : Int32 → Int32 → Int32 → x_Hp → Option (Unit × x_Hp)) (x1 : Int32) (x2 : Int32) (x3 : Int32) (σ : x_Hp) : Option (Unit × x_Hp) :=
  if (σ.1 0 13) ≤ 0 then
    x_b (F_X9_goesOn σ) fun _ σ12 =>
    x_gd (x_inb (σ12.1 0 34) 260) <|
    x_pt (x_pI σ12 21 (x_ix (σ12.1 0 34)) (vp_nar .boolean (1 : Int32))) fun σ14 =>
    x_gd (x_inb (σ14.1 0 34) 260) <|
    x_pt (x_pI σ14 22 (x_ix (σ14.1 0 34)) (σ14.1 0 40)) fun σ16 =>
    x_b (F_X9_expression σ16) fun _ σ17 =>
    x_b (F_X9_must (13 : Int32) σ17) fun _ σ18 =>
    x_gd (x_inb (σ18.1 0 34) 260) <|
    x_pt (x_pI σ18 23 (x_ix (σ18.1 0 34)) (σ18.1 0 40)) fun σ20 =>
    if (σ20.1 0 13) = 0 then
      x_b (F_X9_expression σ20) fun _ σ21 =>
      F_X9_tellLaw_110 k12 x1 x2 (x3 + (1 : Int32)) σ21
    else
      F_X9_tellLaw_110 k12 x1 x2 (x3 + (1 : Int32)) σ20
  else
    some ((), σ)
def F_X9_tellLaw_12 : Nat → Int32 → Int32 → Int32 → x_Hp → Option (Unit × x_Hp)
  | 0, _, _, _, _ => none
  | n + 1, x1, x2, x3, σ =>
  if (σ.1 0 13) = 0 then
    x_b (F_X9_is (33 : Int32) σ) fun v2 σ2 =>
    if v2 = 0 then
      F_X9_tellLaw_129 x1 x2 σ2
    else
      if x3 = (4 : Int32) then
        x_b (F_X9_fail (2 : Int32) σ2) fun _ σ3 =>
        F_X9_tellLaw_38 (F_X9_tellLaw_12 n) x1 x2 x3 σ3
      else
        F_X9_tellLaw_38 (F_X9_tellLaw_12 n) x1 x2 x3 σ2
  else
    F_X9_tellLaw_129 x1 x2 σ
def F_X9_tellLaw (x1 : Int32) (σ : x_Hp) : Option (Unit × x_Hp) :=
  x_b (F_X9_must (5 : Int32) σ) fun _ σ1 =>
  F_X9_tellLaw_12 x_fuel x1 (σ1.1 0 34) (0 : Int32) σ1
def F_X9_tellOne_82 : Nat → Int32 → x_Hp → Option (Unit × x_Hp)
  | 0, _, _ => none
  | n + 1, x1, σ =>
  if (4 : Int32) ≤ x1 then
    x_b (F_X9_must (4 : Int32) σ) fun _ σ20 =>
    some ((), σ20)
  else
    x_b (F_X9_bounded (0 : Int32) (99 : Int32) σ) fun v21 σ21 =>
    x_gd (x_inb (((4 : Int32) * (σ.1 0 19)) + x1) 8) <|
    x_pt (x_pI σ21 9 (x_ix (((4 : Int32) * (σ.1 0 19)) + x1)) v21) fun σ23 =>
    (F_X9_tellOne_82 n) (x1 + (1 : Int32)) σ23
def F_X9_tellOne_140 (σ : x_Hp) : Option (Unit × x_Hp) :=
  if (σ.1 0 13) = 0 then
    x_b (F_X9_tellAunt σ) fun _ σ24 =>
    some ((), σ24)
  else
    some ((), σ)
def F_X9_tellOne_275 (x1 : Int32) (σ : x_Hp) : Option (Unit × x_Hp) :=
  if (σ.1 0 13) ≤ 0 then
    x_b (F_X9_goesOn σ) fun _ σ28 =>
    x_b (F_X9_tellLaw x1 σ28) fun _ σ29 =>
    some ((), σ29)
  else
    some ((), σ)
def F_X9_tellOne_270 (x1 : Int32) (σ : x_Hp) : Option (Unit × x_Hp) :=
  x_b (F_X9_fail (1 : Int32) σ) fun _ σ27 =>
  F_X9_tellOne_275 x1 σ27
def F_X9_tellOne_239 (σ : x_Hp) : Option (Unit × x_Hp) :=
  x_gd (x_inb (σ.1 0 11) 403) <|
  if ((σ.1 3 (x_ix (σ.1 0 11))) - (23 : Int32)) < 0 then
    F_X9_tellOne_270 ((σ.1 3 (x_ix (σ.1 0 11))) - (23 : Int32)) σ
  else
    x_gd (x_inb (σ.1 0 11) 403) <|
    if (σ.1 3 (x_ix (σ.1 0 11))) ≤ (29 : Int32) then
      F_X9_tellOne_275 ((σ.1 3 (x_ix (σ.1 0 11))) - (23 : Int32)) σ
    else
      F_X9_tellOne_270 ((σ.1 3 (x_ix (σ.1 0 11))) - (23 : Int32)) σ
def F_X9_tellOne (σ : x_Hp) : Option (Unit × x_Hp) :=
  x_gd (x_inb (σ.1 0 11) 403) <|
  if (σ.1 3 (x_ix (σ.1 0 11))) = (20 : Int32) then
    x_b (F_X9_goesOn σ) fun _ σ2 =>
    F_X9_tellOne_82 x_fuel (0 : Int32) σ2
  else
  if (σ.1 3 (x_ix (σ.1 0 11))) = (21 : Int32) then
    x_gd (x_inb (σ.1 0 19) 2) <|
    if (σ.1 10 (x_ix (σ.1 0 19))) = (6 : Int32) then
      x_b (F_X9_fail (2 : Int32) σ) fun _ σ4 =>
      F_X9_tellOne_140 σ4
    else
      F_X9_tellOne_140 σ
  else
  if (σ.1 3 (x_ix (σ.1 0 11))) = (22 : Int32) then
    F_X9_tellOne_239 σ
  else
  if (σ.1 3 (x_ix (σ.1 0 11))) = (23 : Int32) then
    F_X9_tellOne_239 σ
  else
  if (σ.1 3 (x_ix (σ.1 0 11))) = (24 : Int32) then
    F_X9_tellOne_239 σ
  else
  if (σ.1 3 (x_ix (σ.1 0 11))) = (25 : Int32) then
    F_X9_tellOne_239 σ
  else
  if (σ.1 3 (x_ix (σ.1 0 11))) = (26 : Int32) then
    F_X9_tellOne_239 σ
  else
  if (σ.1 3 (x_ix (σ.1 0 11))) = (27 : Int32) then
    F_X9_tellOne_239 σ
  else
  if (σ.1 3 (x_ix (σ.1 0 11))) = (28 : Int32) then
    F_X9_tellOne_239 σ
  else
  if (σ.1 3 (x_ix (σ.1 0 11))) = (29 : Int32) then
    F_X9_tellOne_239 σ
  else
  if (σ.1 3 (x_ix (σ.1 0 11))) = (30 : Int32) then
    x_b (F_X9_goesOn σ) fun _ σ5 =>
    x_b (F_X9_bounded (0 : Int32) (99 : Int32) σ5) fun v6 σ6 =>
    x_gd (x_inb (σ5.1 0 19) 2) <|
    x_pt (x_pI σ6 16 (x_ix (σ5.1 0 19)) v6) fun σ8 =>
    x_b (F_X9_must (4 : Int32) σ8) fun _ σ9 =>
    some ((), σ9)
  else
  if (σ.1 3 (x_ix (σ.1 0 11))) = (31 : Int32) then
    x_b (F_X9_goesOn σ) fun _ σ10 =>
    x_b (F_X9_bounded (0 : Int32) (99 : Int32) σ10) fun v11 σ11 =>
    x_gd (x_inb (σ10.1 0 19) 2) <|
    x_pt (x_pI σ11 17 (x_ix (σ10.1 0 19)) v11) fun σ13 =>
    x_b (F_X9_must (4 : Int32) σ13) fun _ σ14 =>
    some ((), σ14)
  else
  if (σ.1 3 (x_ix (σ.1 0 11))) = (32 : Int32) then
    x_b (F_X9_goesOn σ) fun _ σ15 =>
    x_b (F_X9_bounded (0 : Int32) (9999 : Int32) σ15) fun v16 σ16 =>
    x_gd (x_inb (σ15.1 0 19) 2) <|
    x_pt (x_pI σ16 18 (x_ix (σ15.1 0 19)) v16) fun σ18 =>
    x_b (F_X9_must (4 : Int32) σ18) fun _ σ19 =>
    some ((), σ19)
  else
  F_X9_tellOne_239 σ
def F_X9_read_219 : Nat → Int32 → x_Hp → Option (Int32 × x_Hp)
  | 0, _, _ => none
  | n + 1, x1, σ =>
  if (3 : Int32) ≤ x1 then
    some ((0 : Int32), σ)
  else
    x_gd (x_inb x1 3) <|
    x_pt (x_pI σ 43 (x_ix x1) (vp_nar .boolean (0 : Int32))) fun σ25 =>
    (F_X9_read_219 n) (x1 + (1 : Int32)) σ25
def F_X9_read_164 (s0 : Int32) (σ : x_Hp) : Option (Int32 × x_Hp) :=
  x_pt (x_pI σ 0 17 s0) fun σ18 =>
  if (σ18.1 0 13) ≤ 0 then
    if (σ18.1 0 15) ≤ 0 then
      x_pt (x_pI σ18 0 18 (σ18.1 0 19)) fun σ19 =>
      x_b (F_X9_begins σ19) fun _ σ20 =>
      x_b (F_X9_keepsRow σ20) fun _ σ21 =>
      x_pt (x_pI σ21 0 54 (0 : Int32)) fun σ22 =>
      x_pt (x_pI σ22 0 68 (0 : Int32)) fun σ23 =>
      F_X9_read_219 x_fuel (0 : Int32) σ23
    else
      some (σ18.1 0 15, σ18)
  else
    some (σ18.1 0 13, σ18)
def F_X9_read_134 (σ : x_Hp) : Option (Int32 × x_Hp) :=
  if (σ.1 0 13) ≤ 0 then
    if (σ.1 0 15) ≤ 0 then
      F_X9_read_164 (-1 : Int32) σ
    else
      F_X9_read_164 (σ.1 0 16) σ
  else
    F_X9_read_164 (σ.1 0 14) σ
def F_X9_read_112 : Nat → x_Hp → Option (Int32 × x_Hp)
  | 0, _ => none
  | n + 1, σ =>
  if (σ.1 0 13) = 0 then
    x_b (F_X9_is (0 : Int32) σ) fun v16 σ16 =>
    if v16 = 0 then
      x_b (F_X9_tellOne σ16) fun _ σ17 =>
      (F_X9_read_112 n) σ17
    else
      F_X9_read_134 σ16
  else
    F_X9_read_134 σ
def F_X9_read_10 : Nat → Int32 → x_Hp → Option (Int32 × x_Hp)
  | 0, _, _ => none
  | n + 1, x1, σ =>
  if (σ.1 0 4) ≤ x1 then
    x_pt (x_pI σ 0 2 (0 : Int32)) fun σ2 =>
    x_b (F_X9_cut σ2) fun _ σ3 =>
    x_pt (x_pI σ3 0 11 (0 : Int32)) fun σ4 =>
    x_pt (x_pI σ4 0 12 (0 : Int32)) fun σ5 =>
    x_pt (x_pI σ5 0 13 (0 : Int32)) fun σ6 =>
    x_pt (x_pI σ6 0 15 (0 : Int32)) fun σ7 =>
    x_pt (x_pI σ7 0 19 ((1 : Int32) - (σ7.1 0 18))) fun σ8 =>
    x_pt (x_pI σ8 0 20 (0 : Int32)) fun σ9 =>
    x_b (F_X9_plain (σ9.1 0 19) σ9) fun _ σ10 =>
    x_pt (x_pI σ10 0 34 ((130 : Int32) * (σ10.1 0 19))) fun σ11 =>
    x_pt (x_pI σ11 0 40 ((420 : Int32) * (σ11.1 0 19))) fun σ12 =>
    F_X9_read_112 x_fuel σ12
  else
    x_gd (x_inb x1 2000) <|
    x_gd (x_inb x1 2000) <|
    x_pt (x_pI σ 2 (x_ix x1) (vp_nar .byte (σ.1 1 (x_ix x1)))) fun σ15 =>
    (F_X9_read_10 n) (x1 + (1 : Int32)) σ15
def F_X9_read (σ : x_Hp) : Option (Int32 × x_Hp) :=
  x_pt (x_pI σ 0 4 (σ.1 0 2)) fun σ1 =>
  F_X9_read_10 x_fuel (0 : Int32) σ1
def F_X9_place (σ : x_Hp) : Option (Int32 × x_Hp) :=
  some (σ.1 0 17, σ)
def F_X9_termOf_159 (k5 : Int32 → Int32 → Int32 → x_Hp → Option (Int32 × x_Hp)) (x2 : Int32) (x3 : Int32) (x4 : Int32) (σ : x_Hp) : Option (Int32 × x_Hp) :=
  k5 x2 x3 (x4 + (1 : Int32)) σ
def F_X9_termOf_158 (k5 : Int32 → Int32 → Int32 → x_Hp → Option (Int32 × x_Hp)) (x2 : Int32) (x3 : Int32) (x4 : Int32) (s0 : Int32) (s1 : Int32) (σ : x_Hp) : Option (Int32 × x_Hp) :=
  x_gd (x_inb s1 400) <|
  x_pt (x_pI σ 30 (x_ix s1) s0) fun σ11 =>
  F_X9_termOf_159 k5 x2 x3 x4 σ11
def F_X9_termOf_104 (k5 : Int32 → Int32 → Int32 → x_Hp → Option (Int32 × x_Hp)) (x2 : Int32) (x3 : Int32) (x4 : Int32) (x5 : Int32) (x6 : Int32) (x7 : Int32) (σ : x_Hp) : Option (Int32 × x_Hp) :=
  if x5 = (2 : Int32) then
    F_X9_termOf_158 k5 x2 x3 x4 (x6 + x7) (x3 - (1 : Int32)) σ
  else
    if x5 = (3 : Int32) then
      F_X9_termOf_158 k5 x2 x3 x4 (x6 - x7) (x3 - (1 : Int32)) σ
    else
      if x5 = (4 : Int32) then
        F_X9_termOf_158 k5 x2 x3 x4 (x6 * x7) (x3 - (1 : Int32)) σ
      else
        x_gd (!decide (x7 = 0)) <|
        F_X9_termOf_158 k5 x2 x3 x4 (x6 / x7) (x3 - (1 : Int32)) σ
def F_X9_termOf_58 (k5 : Int32 → Int32 → Int32 → x_Hp → Option (Int32 × x_Hp)) (x2 : Int32) (x3 : Int32) (x4 : Int32) (s0 : Int32) (s1 : Int32) (σ : x_Hp) : Option (Int32 × x_Hp) :=
  x_gd (x_inb s1 400) <|
  x_pt (x_pI σ 30 (x_ix s1) s0) fun σ9 =>
  F_X9_termOf_159 k5 x2 (x3 + (1 : Int32)) x4 σ9
def F_X9_termOf_5 : Nat → Int32 → Int32 → Int32 → x_Hp → Option (Int32 × x_Hp)
  | 0, _, _, _, _ => none
  | n + 1, x2, x3, x4, σ =>
  if x2 ≤ x4 then
    some (σ.1 30 0, σ)
  else
    x_gd (x_inb x4 840) <|
    if (2 : Int32) ≤ (σ.1 26 (x_ix x4)) then
      x_gd (x_inb ((x3 + (-1 : Int32)) - (1 : Int32)) 400) <|
      x_gd (x_inb (x3 + (-1 : Int32)) 400) <|
      if (σ.1 26 (x_ix x4)) = (5 : Int32) then
        if (σ.1 30 (x_ix (x3 + (-1 : Int32)))) = 0 then
          x_pt (x_pI σ 0 47 (1 : Int32)) fun σ4 =>
          some ((0 : Int32), σ4)
        else
          F_X9_termOf_104 (F_X9_termOf_5 n) x2 (x3 + (-1 : Int32)) x4 (σ.1 26 (x_ix x4)) (σ.1 30 (x_ix ((x3 + (-1 : Int32)) - (1 : Int32)))) (σ.1 30 (x_ix (x3 + (-1 : Int32)))) σ
      else
        F_X9_termOf_104 (F_X9_termOf_5 n) x2 (x3 + (-1 : Int32)) x4 (σ.1 26 (x_ix x4)) (σ.1 30 (x_ix ((x3 + (-1 : Int32)) - (1 : Int32)))) (σ.1 30 (x_ix (x3 + (-1 : Int32)))) σ
    else
      if (σ.1 26 (x_ix x4)) = 0 then
        x_gd (x_inb x4 840) <|
        F_X9_termOf_58 (F_X9_termOf_5 n) x2 x3 x4 (σ.1 27 (x_ix x4)) x3 σ
      else
        x_gd (x_inb x4 840) <|
        x_gd (x_inb (σ.1 27 (x_ix x4)) 9) <|
        F_X9_termOf_58 (F_X9_termOf_5 n) x2 x3 x4 (σ.1 29 (x_ix (σ.1 27 (x_ix x4)))) x3 σ
def F_X9_termOf (x1 : Int32) (x2 : Int32) (σ : x_Hp) : Option (Int32 × x_Hp) :=
  F_X9_termOf_5 x_fuel x2 (0 : Int32) x1 σ
def F_X9_in (x0 : Int32) (x1 : Int32) (x2 : Int32) (σ : x_Hp) : Option (Int32 × x_Hp) :=
  if x0 < x1 then
    some ((0 : Int32), σ)
  else
    if x2 < x0 then
      some ((0 : Int32), σ)
    else
      some ((1 : Int32), σ)
def F_X9_copies_2 : Nat → Int32 → x_Hp → Option (Unit × x_Hp)
  | 0, _, _ => none
  | n + 1, x1, σ =>
  if (60 : Int32) ≤ x1 then
    x_b (F_X9_plainly σ) fun _ σ1 =>
    some ((), σ1)
  else
    x_gd (x_inb x1 60) <|
    x_gd (x_inb x1 60) <|
    x_pt (x_pI σ 32 (x_ix x1) (σ.1 31 (x_ix x1))) fun σ4 =>
    (F_X9_copies_2 n) (x1 + (1 : Int32)) σ4
def F_X9_copies (σ : x_Hp) : Option (Unit × x_Hp) :=
  F_X9_copies_2 x_fuel (0 : Int32) σ
def F_X9_mixed (x0 : Int32) (x1 : Int32) (σ : x_Hp) : Option (Int32 × x_Hp) :=
  some ((((x0 ^^^ x1) * (1103515245 : Int32)) + (12345 : Int32)) ^^^ (((((x0 ^^^ x1) * (1103515245 : Int32)) + (12345 : Int32)).toUInt32 >>> ((15 : Int32).toUInt32 &&& Int32.toUInt32 31)).toInt32), σ)
def F_X9_lotNow (σ : x_Hp) : Option (Int32 × x_Hp) :=
  x_b (F_X9_mixed (σ.1 0 50) (37 : Int32) σ) fun v1 σ1 =>
  x_b (F_X9_mixed v1 (σ1.1 32 12) σ1) fun v2 σ2 =>
  some (((v2.toUInt32 >>> ((1 : Int32).toUInt32 &&& Int32.toUInt32 31)).toInt32) - ((v2.toUInt32 >>> ((1 : Int32).toUInt32 &&& Int32.toUInt32 31)).toInt32) / (100 : Int32) * (100 : Int32), σ2)
def F_X9_held (x0 : Int32) (x1 : Int32) (x2 : Int32) (σ : x_Hp) : Option (Int32 × x_Hp) :=
  if x1 ≤ x0 then
    if x0 ≤ x2 then
      some (x0, σ)
    else
      some (x2, σ)
  else
    some (x1, σ)
def F_X9_tells_257 (x3 : Int32) (x4 : Int32) (x7 : Int32) (σ : x_Hp) : Option (Int32 × x_Hp) :=
  x_gd (x_inb x7 260) <|
  x_gd (x_inb x7 260) <|
  x_b (F_X9_termOf (σ.1 24 (x_ix x7)) (σ.1 25 (x_ix x7)) σ) fun v27 σ27 =>
  if (σ27.1 0 47) = 0 then
    x_b (F_X9_held v27 x3 x4 σ27) fun v28 σ28 =>
    some (v28, σ28)
  else
    some ((0 : Int32), σ27)
def F_X9_tells_176 : Nat → Int32 → Int32 → Int32 → Int32 → x_Hp → Option (Int32 × x_Hp)
  | 0, _, _, _, _, _ => none
  | n + 1, x3, x4, x5, x7, σ =>
  x_gd (x_inb x5 14) <|
  if (σ.1 20 (x_ix x5)) ≤ x7 then
    some ((0 : Int32), σ)
  else
    x_gd (x_inb x7 260) <|
    if (σ.1 21 (x_ix x7)) = 0 then
      F_X9_tells_257 x3 x4 x7 σ
    else
      x_gd (x_inb x7 260) <|
      x_gd (x_inb x7 260) <|
      x_b (F_X9_termOf (σ.1 22 (x_ix x7)) (σ.1 23 (x_ix x7)) σ) fun v21 σ21 =>
      x_gd (x_inb x7 260) <|
      x_gd (x_inb x7 260) <|
      x_b (F_X9_termOf (σ21.1 23 (x_ix x7)) (σ21.1 24 (x_ix x7)) σ21) fun v24 σ24 =>
      if (σ24.1 0 47) = 0 then
        if v21 < v24 then
          F_X9_tells_257 x3 x4 x7 σ24
        else
          (F_X9_tells_176 n) x3 x4 x5 (x7 + (1 : Int32)) σ24
      else
        some ((0 : Int32), σ24)
def F_X9_tells_119 (x3 : Int32) (x4 : Int32) (x5 : Int32) (x6 : Int32) (s0 : Int32) (s1 : Int32) (σ : x_Hp) : Option (Int32 × x_Hp) :=
  x_gd (x_inb s1 9) <|
  x_pt (x_pI σ 29 (x_ix s1) s0) fun σ9 =>
  x_gd (x_inb x6 12) <|
  x_pt (x_pI σ9 29 6 (σ9.1 12 (x_ix x6))) fun σ11 =>
  x_gd (x_inb x6 12) <|
  x_pt (x_pI σ11 29 7 (σ11.1 13 (x_ix x6))) fun σ13 =>
  x_pt (x_pI σ13 29 8 (σ13.1 32 9)) fun σ14 =>
  x_pt (x_pI σ14 0 47 (0 : Int32)) fun σ15 =>
  x_gd (x_inb x5 14) <|
  F_X9_tells_176 x_fuel x3 x4 x5 (σ15.1 19 (x_ix x5)) σ15
def F_X9_tells_49 : Nat → Int32 → Int32 → Int32 → Int32 → Int32 → x_Hp → Option (Int32 × x_Hp)
  | 0, _, _, _, _, _, _ => none
  | n + 1, x3, x4, x5, x6, x7, σ =>
  if (4 : Int32) ≤ x7 then
    x_pt (x_pI σ 29 4 (σ.1 32 5)) fun σ3 =>
    if (σ3.1 32 4) = (σ3.1 0 51) then
      F_X9_tells_119 x3 x4 x5 x6 (σ3.1 0 52) (5 : Int32) σ3
    else
      x_gd (x_inb x6 12) <|
      F_X9_tells_119 x3 x4 x5 x6 (σ3.1 11 (x_ix x6)) (5 : Int32) σ3
  else
    x_gd (x_inb x7 60) <|
    x_gd (x_inb x7 9) <|
    x_pt (x_pI σ 29 (x_ix x7) (σ.1 32 (x_ix x7))) fun σ7 =>
    (F_X9_tells_49 n) x3 x4 x5 x6 (x7 + (1 : Int32)) σ7
def F_X9_tells (x1 : Int32) (x2 : Int32) (x3 : Int32) (x4 : Int32) (σ : x_Hp) : Option (Int32 × x_Hp) :=
  x_gd (x_inb (((7 : Int32) * (σ.1 0 18)) + x1) 14) <|
  x_gd (x_inb (((7 : Int32) * (σ.1 0 18)) + x1) 14) <|
  if (σ.1 19 (x_ix (((7 : Int32) * (σ.1 0 18)) + x1))) = (σ.1 20 (x_ix (((7 : Int32) * (σ.1 0 18)) + x1))) then
    some (x2, σ)
  else
    F_X9_tells_49 x_fuel x3 x4 (((7 : Int32) * (σ.1 0 18)) + x1) (((6 : Int32) * (σ.1 0 18)) + (σ.1 32 4)) (0 : Int32) σ
def F_X9_lawNow_17 (s0 : Int32) (s1 : Int32) (σ : x_Hp) : Option (Int32 × x_Hp) :=
  x_b (F_X9_tells s1 s0 (-9 : Int32) (9 : Int32) σ) fun v4 σ4 =>
  some (v4, σ4)
def F_X9_lawNow (x1 : Int32) (σ : x_Hp) : Option (Int32 × x_Hp) :=
  if (4 : Int32) ≤ x1 then
    if x1 = (4 : Int32) then
      x_b (F_X9_tells (4 : Int32) (0 : Int32) (0 : Int32) (99 : Int32) σ) fun v3 σ3 =>
      some (v3, σ3)
    else
      if x1 = (5 : Int32) then
        x_b (F_X9_tells (5 : Int32) (0 : Int32) (0 : Int32) (1 : Int32) σ) fun v2 σ2 =>
        some (v2, σ2)
      else
        x_b (F_X9_tells (6 : Int32) (0 : Int32) (0 : Int32) (100 : Int32) σ) fun v1 σ1 =>
        some (v1, σ1)
  else
    if (2 : Int32) ≤ x1 then
      F_X9_lawNow_17 (0 : Int32) x1 σ
    else
      F_X9_lawNow_17 (1 : Int32) x1 σ
def F_X9_fallsAsleep (σ : x_Hp) : Option (Unit × x_Hp) :=
  x_pt (x_pI σ 32 7 (60 : Int32)) fun σ1 =>
  x_pt (x_pI σ1 32 16 ((σ1.1 32 16) + (1 : Int32))) fun σ2 =>
  some ((), σ2)
def F_X9_wakeMinute_262 (σ : x_Hp) : Option (Unit × x_Hp) :=
  x_b (F_X9_lawNow (5 : Int32) σ) fun v35 σ35 =>
  if v35 ≤ 0 then
    some ((), σ35)
  else
    x_b (F_X9_fallsAsleep σ35) fun _ σ36 =>
    some ((), σ36)
def F_X9_wakeMinute_169 (x1 : Int32) (σ : x_Hp) : Option (Unit × x_Hp) :=
  x_b (F_X9_lotNow σ) fun v23 σ23 =>
  x_b (F_X9_lawNow (6 : Int32) σ23) fun v24 σ24 =>
  if v24 ≤ v23 then
    F_X9_wakeMinute_262 σ24
  else
    x_pt (x_pI σ24 32 3 (0 : Int32)) fun σ25 =>
    x_gd (x_inb ((50 : Int32) + x1) 60) <|
    x_gd (x_inb ((50 : Int32) + x1) 60) <|
    x_pt (x_pI σ25 32 (x_ix ((50 : Int32) + x1)) ((σ25.1 32 (x_ix ((50 : Int32) + x1))) + (1 : Int32))) fun σ28 =>
    if (σ28.1 32 8) = 0 then
      x_gd (x_inb (((6 : Int32) * (σ28.1 0 18)) + x1) 12) <|
      x_pt (x_pI σ28 32 15 ((σ28.1 32 15) + (σ28.1 14 (x_ix (((6 : Int32) * (σ28.1 0 18)) + x1))))) fun σ30 =>
      x_gd (x_inb ((44 : Int32) + x1) 60) <|
      x_gd (x_inb (((6 : Int32) * (σ30.1 0 18)) + x1) 12) <|
      x_gd (x_inb ((44 : Int32) + x1) 60) <|
      x_pt (x_pI σ30 32 (x_ix ((44 : Int32) + x1)) ((σ30.1 32 (x_ix ((44 : Int32) + x1))) + (σ30.1 14 (x_ix (((6 : Int32) * (σ30.1 0 18)) + x1))))) fun σ34 =>
      F_X9_wakeMinute_262 σ34
    else
      F_X9_wakeMinute_262 σ28
def F_X9_wakeMinute_33 : Nat → Int32 → Int32 → x_Hp → Option (Unit × x_Hp)
  | 0, _, _, _ => none
  | n + 1, x1, x2, σ =>
  if (4 : Int32) ≤ x2 then
    x_pt (x_pI σ 32 5 ((σ.1 32 5) + (1 : Int32))) fun σ4 =>
    x_b (F_X9_lawNow (4 : Int32) σ4) fun v5 σ5 =>
    x_pt (x_pI σ5 32 6 v5) fun σ6 =>
    x_pt (x_pI σ6 32 13 ((σ6.1 32 13) + v5)) fun σ7 =>
    x_gd (x_inb ((20 : Int32) + x1) 60) <|
    x_gd (x_inb ((20 : Int32) + x1) 60) <|
    x_pt (x_pI σ7 32 (x_ix ((20 : Int32) + x1)) ((σ7.1 32 (x_ix ((20 : Int32) + x1))) + (1 : Int32))) fun σ10 =>
    x_gd (x_inb ((26 : Int32) + x1) 60) <|
    x_gd (x_inb ((26 : Int32) + x1) 60) <|
    x_pt (x_pI σ10 32 (x_ix ((26 : Int32) + x1)) ((σ10.1 32 (x_ix ((26 : Int32) + x1))) + v5)) fun σ13 =>
    if v5 = 0 then
      if (σ13.1 32 2) < (50 : Int32) then
        F_X9_wakeMinute_169 x1 σ13
      else
        x_pt (x_pI σ13 32 14 ((σ13.1 32 14) + (1 : Int32))) fun σ14 =>
        x_gd (x_inb ((32 : Int32) + x1) 60) <|
        x_gd (x_inb ((32 : Int32) + x1) 60) <|
        x_pt (x_pI σ14 32 (x_ix ((32 : Int32) + x1)) ((σ14.1 32 (x_ix ((32 : Int32) + x1))) + (1 : Int32))) fun σ17 =>
        F_X9_wakeMinute_169 x1 σ17
    else
      F_X9_wakeMinute_169 x1 σ13
  else
    x_gd (x_inb x2 60) <|
    x_gd (x_inb x2 4) <|
    x_b (F_X9_held ((σ.1 32 (x_ix x2)) + (σ.1 33 (x_ix x2))) (0 : Int32) (99 : Int32) σ) fun v20 σ20 =>
    x_gd (x_inb x2 60) <|
    x_pt (x_pI σ20 32 (x_ix x2) v20) fun σ22 =>
    (F_X9_wakeMinute_33 n) x1 (x2 + (1 : Int32)) σ22
def F_X9_wakeMinute_9 : Nat → Int32 → Int32 → x_Hp → Option (Unit × x_Hp)
  | 0, _, _, _ => none
  | n + 1, x1, x2, σ =>
  if (4 : Int32) ≤ x2 then
    F_X9_wakeMinute_33 x_fuel x1 (0 : Int32) σ
  else
    x_b (F_X9_lawNow x2 σ) fun v1 σ1 =>
    x_gd (x_inb x2 4) <|
    x_pt (x_pI σ1 33 (x_ix x2) v1) fun σ3 =>
    (F_X9_wakeMinute_9 n) x1 (x2 + (1 : Int32)) σ3
def F_X9_wakeMinute (σ : x_Hp) : Option (Unit × x_Hp) :=
  F_X9_wakeMinute_9 x_fuel (σ.1 32 4) (0 : Int32) σ
def F_X9_sleepMinute (σ : x_Hp) : Option (Unit × x_Hp) :=
  x_b (F_X9_lawNow (0 : Int32) σ) fun v1 σ1 =>
  x_b (F_X9_held ((σ.1 32 0) + v1) (0 : Int32) (99 : Int32) σ1) fun v2 σ2 =>
  x_pt (x_pI σ2 32 0 v2) fun σ3 =>
  x_gd (x_inb ((38 : Int32) + (σ3.1 32 4)) 60) <|
  x_gd (x_inb ((38 : Int32) + (σ3.1 32 4)) 60) <|
  x_pt (x_pI σ3 32 (x_ix ((38 : Int32) + (σ3.1 32 4))) ((σ3.1 32 (x_ix ((38 : Int32) + (σ3.1 32 4)))) + (1 : Int32))) fun σ6 =>
  x_pt (x_pI σ6 32 6 (0 : Int32)) fun σ7 =>
  x_pt (x_pI σ7 32 7 ((σ7.1 32 7) - (1 : Int32))) fun σ8 =>
  if (σ8.1 32 7) ≤ 0 then
    x_pt (x_pI σ8 32 1 (0 : Int32)) fun σ9 =>
    x_pt (x_pI σ9 32 5 (0 : Int32)) fun σ10 =>
    some ((), σ10)
  else
    some ((), σ8)
def F_X9_minuteGoes_30 (σ : x_Hp) : Option (Unit × x_Hp) :=
  x_pt (x_pI σ 32 12 ((σ.1 32 12) + (1 : Int32))) fun σ3 =>
  some ((), σ3)
def F_X9_minuteGoes (σ : x_Hp) : Option (Unit × x_Hp) :=
  if (σ.1 32 4) < 0 then
    F_X9_minuteGoes_30 σ
  else
    if (σ.1 32 7) ≤ 0 then
      x_b (F_X9_wakeMinute σ) fun _ σ1 =>
      F_X9_minuteGoes_30 σ1
    else
      x_b (F_X9_sleepMinute σ) fun _ σ2 =>
      F_X9_minuteGoes_30 σ2
def F_X9_goes_2 : Nat → Int32 → Int32 → x_Hp → Option (Unit × x_Hp)
  | 0, _, _, _ => none
  | n + 1, x1, x2, σ =>
  if x1 ≤ x2 then
    some ((), σ)
  else
    x_b (F_X9_minuteGoes σ) fun _ σ1 =>
    (F_X9_goes_2 n) x1 (x2 + (1 : Int32)) σ1
def F_X9_goes (x1 : Int32) (σ : x_Hp) : Option (Unit × x_Hp) :=
  F_X9_goes_2 x_fuel x1 (0 : Int32) σ
def F_X9_hands_50 (x1 : Int32) (σ : x_Hp) : Option (Unit × x_Hp) :=
  x_pt (x_pI σ 32 11 (σ.1 32 10)) fun σ4 =>
  x_pt (x_pI σ4 32 10 (σ4.1 32 4)) fun σ5 =>
  x_pt (x_pI σ5 32 4 x1) fun σ6 =>
  x_pt (x_pI σ6 32 5 (0 : Int32)) fun σ7 =>
  x_pt (x_pI σ7 32 17 ((σ7.1 32 17) + (1 : Int32))) fun σ8 =>
  x_pt (x_pI σ8 32 18 ((σ8.1 32 18) ||| ((1 : Int32) <<< (x1 &&& 31)))) fun σ9 =>
  some ((), σ9)
def F_X9_hands (x1 : Int32) (σ : x_Hp) : Option (Unit × x_Hp) :=
  if x1 = (σ.1 32 10) then
    F_X9_hands_50 x1 σ
  else
    if x1 = (σ.1 32 11) then
      F_X9_hands_50 x1 σ
    else
      x_gd (x_inb (σ.1 0 18) 2) <|
      x_b (F_X9_held ((σ.1 32 2) + (σ.1 16 (x_ix (σ.1 0 18)))) (0 : Int32) (99 : Int32) σ) fun v2 σ2 =>
      x_pt (x_pI σ2 32 2 v2) fun σ3 =>
      F_X9_hands_50 x1 σ3
def F_X9_isAunt (x1 : Int32) (σ : x_Hp) : Option (Int32 × x_Hp) :=
  x_gd (x_inb (σ.1 0 18) 2) <|
  x_b (F_X9_in x1 (0 : Int32) ((σ.1 10 (x_ix (σ.1 0 18))) - (1 : Int32)) σ) fun v2 σ2 =>
  x_gd (x_isz v2) <|
  some (v2, σ2)
def F_X9_isAwake (σ : x_Hp) : Option (Int32 × x_Hp) :=
  if (σ.1 31 4) < 0 then
    some ((0 : Int32), σ)
  else
    if (σ.1 31 7) = 0 then
      some ((1 : Int32), σ)
    else
      some ((0 : Int32), σ)
def F_X9_cries (x1 : Int32) (σ : x_Hp) : Option (Int32 × x_Hp) :=
  x_b (F_X9_goes x1 σ) fun _ σ1 =>
  some ((σ1.1 32 13) - (σ.1 32 13), σ1)
def F_X9_now (x1 : Int32) (σ : x_Hp) : Option (Int32 × x_Hp) :=
  x_b (F_X9_in x1 (0 : Int32) (11 : Int32) σ) fun v1 σ1 =>
  if v1 = 0 then
    some ((-1 : Int32), σ1)
  else
    x_gd (x_inb x1 60) <|
    some (σ1.1 31 (x_ix x1), σ1)
def F_X9_aunt_52 (x1 : Int32) (x2 : Int32) (σ : x_Hp) : Option (Int32 × x_Hp) :=
  x_gd (x_inb (((20 : Int32) + ((6 : Int32) * x2)) + x1) 60) <|
  some (σ.1 31 (x_ix (((20 : Int32) + ((6 : Int32) * x2)) + x1)), σ)
def F_X9_aunt (x1 : Int32) (x2 : Int32) (σ : x_Hp) : Option (Int32 × x_Hp) :=
  x_b (F_X9_isAunt x1 σ) fun v1 σ1 =>
  if v1 = 0 then
    some ((-1 : Int32), σ1)
  else
    if x2 = (0 : Int32) then
      F_X9_aunt_52 x1 x2 σ1
    else
    if x2 = (1 : Int32) then
      F_X9_aunt_52 x1 x2 σ1
    else
    if x2 = (2 : Int32) then
      F_X9_aunt_52 x1 x2 σ1
    else
    if x2 = (3 : Int32) then
      F_X9_aunt_52 x1 x2 σ1
    else
    if x2 = (4 : Int32) then
      F_X9_aunt_52 x1 x2 σ1
    else
    if x2 = (5 : Int32) then
      x_gd (x_inb (((6 : Int32) * (σ1.1 0 18)) + x1) 12) <|
      some (σ1.1 11 (x_ix (((6 : Int32) * (σ1.1 0 18)) + x1)), σ1)
    else
    if x2 = (6 : Int32) then
      x_gd (x_inb ((50 : Int32) + x1) 60) <|
      some (σ1.1 31 (x_ix ((50 : Int32) + x1)), σ1)
    else
    some ((-1 : Int32), σ1)
def F_X9_law (x1 : Int32) (σ : x_Hp) : Option (Int32 × x_Hp) :=
  x_b (F_X9_in x1 (0 : Int32) (6 : Int32) σ) fun v1 σ1 =>
  if v1 = 0 then
    some ((-10000 : Int32), σ1)
  else
    x_gd (x_inb (σ1.1 0 18) 2) <|
    if (σ1.1 10 (x_ix (σ1.1 0 18))) = 0 then
      some ((-10000 : Int32), σ1)
    else
      x_b (F_X9_copies σ1) fun _ σ3 =>
      x_b (F_X9_lawNow x1 σ3) fun v4 σ4 =>
      some (v4, σ4)
def F_X9_keeps_51 : Nat → Int32 → x_Hp → Option (Unit × x_Hp)
  | 0, _, _ => none
  | n + 1, x1, σ =>
  if (60 : Int32) ≤ x1 then
    x_pt (x_pI σ 0 54 ((σ.1 0 54) + (1 : Int32))) fun σ5 =>
    x_b (F_X9_keepsRow σ5) fun _ σ6 =>
    some ((), σ6)
  else
    x_gd (x_inb x1 60) <|
    x_gd (x_inb (((60 : Int32) * (σ.1 0 54)) + x1) 3000) <|
    x_pt (x_pI σ 34 (x_ix (((60 : Int32) * (σ.1 0 54)) + x1)) (σ.1 31 (x_ix x1))) fun σ9 =>
    (F_X9_keeps_51 n) (x1 + (1 : Int32)) σ9
def F_X9_keeps_49 (σ : x_Hp) : Option (Unit × x_Hp) :=
  F_X9_keeps_51 x_fuel (0 : Int32) σ
def F_X9_keeps_11 : Nat → Int32 → x_Hp → Option (Unit × x_Hp)
  | 0, _, _ => none
  | n + 1, x1, σ =>
  if (2940 : Int32) ≤ x1 then
    x_pt (x_pI σ 0 54 ((σ.1 0 54) - (1 : Int32))) fun σ1 =>
    F_X9_keeps_49 σ1
  else
    x_gd (x_inb (x1 + (60 : Int32)) 3000) <|
    x_gd (x_inb x1 3000) <|
    x_pt (x_pI σ 34 (x_ix x1) (σ.1 34 (x_ix (x1 + (60 : Int32))))) fun σ4 =>
    (F_X9_keeps_11 n) (x1 + (1 : Int32)) σ4
def F_X9_keeps (σ : x_Hp) : Option (Unit × x_Hp) :=
  if (σ.1 0 54) = (50 : Int32) then
    F_X9_keeps_11 x_fuel (0 : Int32) σ
  else
    F_X9_keeps_49 σ
def F_X9_minutes (x1 : Int32) (σ : x_Hp) : Option (Int32 × x_Hp) :=
  x_b (F_X9_in x1 (0 : Int32) (240 : Int32) σ) fun v1 σ1 =>
  if v1 = 0 then
    some ((-1 : Int32), σ1)
  else
    if x1 = 0 then
      some (σ1.1 31 12, σ1)
    else
      x_b (F_X9_copies σ1) fun _ σ2 =>
      x_b (F_X9_goes x1 σ2) fun _ σ3 =>
      x_b (F_X9_keeps σ3) fun _ σ4 =>
      some (σ4.1 31 12, σ4)
def F_X9_hand (x1 : Int32) (σ : x_Hp) : Option (Int32 × x_Hp) :=
  x_b (F_X9_isAunt x1 σ) fun v1 σ1 =>
  if v1 = 0 then
    some ((0 : Int32), σ1)
  else
    x_b (F_X9_isAwake σ1) fun v2 σ2 =>
    if v2 = 0 then
      some ((0 : Int32), σ2)
    else
      if x1 = (σ2.1 31 4) then
        some ((0 : Int32), σ2)
      else
        x_b (F_X9_copies σ2) fun _ σ3 =>
        x_b (F_X9_hands x1 σ3) fun _ σ4 =>
        x_b (F_X9_keeps σ4) fun _ σ5 =>
        some ((1 : Int32), σ5)
def F_X9_feedsNow (σ : x_Hp) : Option (Unit × x_Hp) :=
  x_pt (x_pI σ 32 0 (0 : Int32)) fun σ1 =>
  x_gd (x_inb (σ1.1 0 18) 2) <|
  x_b (F_X9_held ((σ1.1 32 3) + (σ1.1 17 (x_ix (σ1.1 0 18)))) (0 : Int32) (99 : Int32) σ1) fun v3 σ3 =>
  x_pt (x_pI σ3 32 3 v3) fun σ4 =>
  some ((), σ4)
def F_X9_nurse (σ : x_Hp) : Option (Int32 × x_Hp) :=
  x_b (F_X9_isAwake σ) fun v1 σ1 =>
  if v1 = 0 then
    some ((0 : Int32), σ1)
  else
    x_b (F_X9_copies σ1) fun _ σ2 =>
    x_b (F_X9_feedsNow σ2) fun _ σ3 =>
    x_b (F_X9_keeps σ3) fun _ σ4 =>
    some ((1 : Int32), σ4)
def F_X9_lay (σ : x_Hp) : Option (Int32 × x_Hp) :=
  x_b (F_X9_isAwake σ) fun v1 σ1 =>
  if v1 = 0 then
    some ((0 : Int32), σ1)
  else
    x_b (F_X9_copies σ1) fun _ σ2 =>
    x_b (F_X9_fallsAsleep σ2) fun _ σ3 =>
    x_b (F_X9_keeps σ3) fun _ σ4 =>
    some ((1 : Int32), σ4)
def F_X9_turns_34 (x3 : Int32) (s0 : Int32) (s1 : Int32) (σ : x_Hp) : Option (Int32 × x_Hp) :=
  x_gd (x_inb s1 60) <|
  x_pt (x_pI σ 32 (x_ix s1) s0) fun σ4 =>
  x_b (F_X9_keeps σ4) fun _ σ5 =>
  x_gd (x_isz x3) <|
  some (x3, σ5)
def F_X9_turns_19 (x1 : Int32) (x2 : Int32) (s0 : Int32) (σ : x_Hp) : Option (Int32 × x_Hp) :=
  if x2 = 0 then
    F_X9_turns_34 s0 (0 : Int32) x1 σ
  else
    F_X9_turns_34 s0 (1 : Int32) x1 σ
def F_X9_turns (x1 : Int32) (x2 : Int32) (σ : x_Hp) : Option (Int32 × x_Hp) :=
  x_b (F_X9_copies σ) fun _ σ1 =>
  x_gd (x_inb x1 60) <|
  if (σ1.1 32 (x_ix x1)) = (1 : Int32) then
    F_X9_turns_19 x1 x2 (1 : Int32) σ1
  else
    F_X9_turns_19 x1 x2 (0 : Int32) σ1
def F_X9_cloth (x1 : Int32) (σ : x_Hp) : Option (Int32 × x_Hp) :=
  x_b (F_X9_turns (8 : Int32) x1 σ) fun v1 σ1 =>
  x_gd (x_isz v1) <|
  some (v1, σ1)
def F_X9_mother (x1 : Int32) (σ : x_Hp) : Option (Int32 × x_Hp) :=
  x_b (F_X9_turns (9 : Int32) x1 σ) fun v1 σ1 =>
  x_gd (x_isz v1) <|
  some (v1, σ1)
def F_X9_undo_21 : Nat → Int32 → x_Hp → Option (Int32 × x_Hp)
  | 0, _, _ => none
  | n + 1, x1, σ =>
  if (60 : Int32) ≤ x1 then
    some ((1 : Int32), σ)
  else
    x_gd (x_inb (((60 : Int32) * (σ.1 0 54)) + x1) 3000) <|
    x_gd (x_inb x1 60) <|
    x_pt (x_pI σ 31 (x_ix x1) (σ.1 34 (x_ix (((60 : Int32) * (σ.1 0 54)) + x1)))) fun σ4 =>
    (F_X9_undo_21 n) (x1 + (1 : Int32)) σ4
def F_X9_undo (σ : x_Hp) : Option (Int32 × x_Hp) :=
  if (σ.1 0 54) = 0 then
    some ((0 : Int32), σ)
  else
    x_pt (x_pI σ 0 54 ((σ.1 0 54) - (1 : Int32))) fun σ1 =>
    F_X9_undo_21 x_fuel (0 : Int32) σ1
def F_X9_crying (x1 : Int32) (σ : x_Hp) : Option (Int32 × x_Hp) :=
  x_b (F_X9_in x1 (0 : Int32) (240 : Int32) σ) fun v1 σ1 =>
  if v1 = 0 then
    some ((-1 : Int32), σ1)
  else
    x_b (F_X9_copies σ1) fun _ σ2 =>
    x_b (F_X9_cries x1 σ2) fun v3 σ3 =>
    some (v3, σ3)
def F_X9_next_104 (k31 : Int32 → Int32 → Int32 → Int32 → Int32 → x_Hp → Option (Int32 × x_Hp)) (x1 : Int32) (x2 : Int32) (x3 : Int32) (x4 : Int32) (x5 : Int32) (σ : x_Hp) : Option (Int32 × x_Hp) :=
  k31 x1 x2 x3 x4 (x5 + (1 : Int32)) σ
def F_X9_next_97 (k31 : Int32 → Int32 → Int32 → Int32 → Int32 → x_Hp → Option (Int32 × x_Hp)) (x1 : Int32) (x2 : Int32) (x5 : Int32) (x6 : Int32) (σ : x_Hp) : Option (Int32 × x_Hp) :=
  F_X9_next_104 k31 x1 x2 x5 x6 x5 σ
def F_X9_next_31 : Nat → Int32 → Int32 → Int32 → Int32 → Int32 → x_Hp → Option (Int32 × x_Hp)
  | 0, _, _, _, _, _, _ => none
  | n + 1, x1, x2, x3, x4, x5, σ =>
  x_gd (x_inb (σ.1 0 18) 2) <|
  if (σ.1 10 (x_ix (σ.1 0 18))) ≤ x5 then
    if x2 = 0 then
      some (x3, σ)
    else
      some (x4, σ)
  else
    x_b (F_X9_isAwake σ) fun v4 σ4 =>
    if v4 = 0 then
      if x2 = 0 then
        some (x3, σ4)
      else
        some (x4, σ4)
    else
      if x5 = (σ4.1 31 4) then
        F_X9_next_104 (F_X9_next_31 n) x1 x2 x3 x4 x5 σ4
      else
        x_b (F_X9_copies σ4) fun _ σ5 =>
        x_b (F_X9_hands x5 σ5) fun _ σ6 =>
        x_b (F_X9_cries x1 σ6) fun v7 σ7 =>
        if x3 < 0 then
          F_X9_next_97 (F_X9_next_31 n) x1 x2 x5 v7 σ7
        else
          if v7 < x4 then
            F_X9_next_97 (F_X9_next_31 n) x1 x2 x5 v7 σ7
          else
            F_X9_next_104 (F_X9_next_31 n) x1 x2 x3 x4 x5 σ7
def F_X9_next (x1 : Int32) (x2 : Int32) (σ : x_Hp) : Option (Int32 × x_Hp) :=
  x_b (F_X9_in x1 (1 : Int32) (120 : Int32) σ) fun v1 σ1 =>
  if v1 = 0 then
    some ((-1 : Int32), σ1)
  else
    x_b (F_X9_in x2 (0 : Int32) (1 : Int32) σ1) fun v2 σ2 =>
    if v2 = 0 then
      some ((-1 : Int32), σ2)
    else
      F_X9_next_31 x_fuel x1 x2 (-2 : Int32) (-2 : Int32) (0 : Int32) σ2
def F_X9_gives_67 (k39 : Int32 → Int32 → Int32 → Int32 → x_Hp → Option (Unit × x_Hp)) (x1 : Int32) (x3 : Int32) (x4 : Int32) (x5 : Int32) (σ : x_Hp) : Option (Unit × x_Hp) :=
  x_b (F_X9_minuteGoes σ) fun _ σ12 =>
  if (σ12.1 32 7) ≤ 0 then
    k39 x1 x3 x4 x5 σ12
  else
    if 0 ≤ (σ12.1 0 57) then
      k39 x1 x3 x4 x5 σ12
    else
      x_pt (x_pI σ12 0 57 x1) fun σ13 =>
      k39 x1 x3 x4 x5 σ13
def F_X9_gives_54 (k39 : Int32 → Int32 → Int32 → Int32 → x_Hp → Option (Unit × x_Hp)) (x1 : Int32) (x3 : Int32) (x4 : Int32) (x5 : Int32) (σ : x_Hp) : Option (Unit × x_Hp) :=
  if (σ.1 32 7) = 0 then
    F_X9_gives_67 k39 x1 x3 x4 (x5 + (-1 : Int32)) σ
  else
    F_X9_gives_67 k39 x1 x3 x4 x5 σ
def F_X9_gives_39 : Nat → Int32 → Int32 → Int32 → Int32 → x_Hp → Option (Unit × x_Hp)
  | 0, _, _, _, _, _ => none
  | n + 1, x1, x3, x4, x5, σ =>
  if 0 < x5 then
    F_X9_gives_54 (F_X9_gives_39 n) x1 x3 x4 x5 σ
  else
    if (σ.1 32 7) ≤ 0 then
      x_gd (x_inb ((26 : Int32) + x1) 60) <|
      x_gd (x_inb x1 6) <|
      x_pt (x_pI σ 35 (x_ix x1) ((σ.1 32 (x_ix ((26 : Int32) + x1))) - x3)) fun σ6 =>
      x_gd (x_inb ((32 : Int32) + x1) 60) <|
      x_gd (x_inb x1 6) <|
      x_pt (x_pI σ6 36 (x_ix x1) ((σ6.1 32 (x_ix ((32 : Int32) + x1))) - x4)) fun σ9 =>
      x_gd (x_inb x1 6) <|
      x_pt (x_pI σ9 0 56 ((σ9.1 0 56) + (σ9.1 35 (x_ix x1)))) fun σ11 =>
      some ((), σ11)
    else
      F_X9_gives_54 (F_X9_gives_39 n) x1 x3 x4 x5 σ
def F_X9_gives_15 (x1 : Int32) (x2 : Int32) (σ : x_Hp) : Option (Unit × x_Hp) :=
  x_gd (x_inb ((26 : Int32) + x1) 60) <|
  x_gd (x_inb ((32 : Int32) + x1) 60) <|
  F_X9_gives_39 x_fuel x1 (σ.1 32 (x_ix ((26 : Int32) + x1))) (σ.1 32 (x_ix ((32 : Int32) + x1))) x2 σ
def F_X9_gives (x1 : Int32) (x2 : Int32) (σ : x_Hp) : Option (Unit × x_Hp) :=
  if (σ.1 32 4) = x1 then
    F_X9_gives_15 x1 x2 σ
  else
    x_b (F_X9_hands x1 σ) fun _ σ1 =>
    F_X9_gives_15 x1 x2 σ1
def F_X9_starts (σ : x_Hp) : Option (Unit × x_Hp) :=
  x_b (F_X9_copies σ) fun _ σ1 =>
  x_pt (x_pI σ1 0 56 (0 : Int32)) fun σ2 =>
  x_pt (x_pI σ2 0 57 (-2 : Int32)) fun σ3 =>
  some ((), σ3)
def F_X9_firstOrder_2 : Nat → Int32 → x_Hp → Option (Unit × x_Hp)
  | 0, _, _ => none
  | n + 1, x1, σ =>
  if (6 : Int32) ≤ x1 then
    some ((), σ)
  else
    x_gd (x_inb x1 6) <|
    x_pt (x_pI σ 37 (x_ix x1) x1) fun σ2 =>
    (F_X9_firstOrder_2 n) (x1 + (1 : Int32)) σ2
def F_X9_firstOrder (σ : x_Hp) : Option (Unit × x_Hp) :=
  F_X9_firstOrder_2 x_fuel (0 : Int32) σ
def F_X9_nextOrder_110 : Nat → Int32 → Int32 → x_Hp → Option (Int32 × x_Hp)
  | 0, _, _, _ => none
  | n + 1, x5, x6, σ =>
  if x6 ≤ x5 then
    some ((1 : Int32), σ)
  else
    x_gd (x_inb x5 6) <|
    x_gd (x_inb x6 6) <|
    x_gd (x_inb x5 6) <|
    x_pt (x_pI σ 37 (x_ix x5) (σ.1 37 (x_ix x6))) fun σ15 =>
    x_gd (x_inb x6 6) <|
    x_pt (x_pI σ15 37 (x_ix x6) (σ.1 37 (x_ix x5))) fun σ17 =>
    (F_X9_nextOrder_110 n) (x5 + (1 : Int32)) (x6 + (-1 : Int32)) σ17
def F_X9_nextOrder_51 : Nat → Int32 → Int32 → Int32 → x_Hp → Option (Int32 × x_Hp)
  | 0, _, _, _, _ => none
  | n + 1, x1, x2, x3, σ =>
  x_gd (x_inb x3 6) <|
  x_gd (x_inb x2 6) <|
  if (σ.1 37 (x_ix x2)) ≤ (σ.1 37 (x_ix x3)) then
    x_gd (x_inb x2 6) <|
    x_gd (x_inb x3 6) <|
    x_gd (x_inb x2 6) <|
    x_pt (x_pI σ 37 (x_ix x2) (σ.1 37 (x_ix x3))) fun σ9 =>
    x_gd (x_inb x3 6) <|
    x_pt (x_pI σ9 37 (x_ix x3) (σ.1 37 (x_ix x2))) fun σ11 =>
    F_X9_nextOrder_110 x_fuel (x2 + (1 : Int32)) (x1 - (1 : Int32)) σ11
  else
    (F_X9_nextOrder_51 n) x1 x2 (x3 + (-1 : Int32)) σ
def F_X9_nextOrder_41 (x1 : Int32) (x2 : Int32) (σ : x_Hp) : Option (Int32 × x_Hp) :=
  if 0 ≤ x2 then
    F_X9_nextOrder_51 x_fuel x1 x2 (x1 - (1 : Int32)) σ
  else
    some ((0 : Int32), σ)
def F_X9_nextOrder_14 : Nat → Int32 → Int32 → x_Hp → Option (Int32 × x_Hp)
  | 0, _, _, _ => none
  | n + 1, x1, x2, σ =>
  if x2 < 0 then
    F_X9_nextOrder_41 x1 x2 σ
  else
    x_gd (x_inb x2 6) <|
    x_gd (x_inb (x2 + (1 : Int32)) 6) <|
    if (σ.1 37 (x_ix x2)) ≤ (σ.1 37 (x_ix (x2 + (1 : Int32)))) then
      F_X9_nextOrder_41 x1 x2 σ
    else
      (F_X9_nextOrder_14 n) x1 (x2 + (-1 : Int32)) σ
def F_X9_nextOrder (σ : x_Hp) : Option (Int32 × x_Hp) :=
  x_gd (x_inb (σ.1 0 18) 2) <|
  F_X9_nextOrder_14 x_fuel (σ.1 10 (x_ix (σ.1 0 18))) ((σ.1 10 (x_ix (σ.1 0 18))) - (2 : Int32)) σ
def F_X9_givesAll_6 : Nat → Int32 → Int32 → x_Hp → Option (Unit × x_Hp)
  | 0, _, _, _ => none
  | n + 1, x1, x2, σ =>
  x_gd (x_inb (σ.1 0 18) 2) <|
  if (σ.1 10 (x_ix (σ.1 0 18))) ≤ x2 then
    some ((), σ)
  else
    x_gd (x_inb x2 6) <|
    x_b (F_X9_gives (σ.1 37 (x_ix x2)) x1 σ) fun _ σ4 =>
    (F_X9_givesAll_6 n) x1 (x2 + (1 : Int32)) σ4
def F_X9_givesAll (x1 : Int32) (σ : x_Hp) : Option (Unit × x_Hp) :=
  x_b (F_X9_starts σ) fun _ σ1 =>
  F_X9_givesAll_6 x_fuel x1 (0 : Int32) σ1
def F_X9_apartNow_58 (k11 : Int32 → Int32 → Int32 → x_Hp → Option (Int32 × x_Hp)) (x1 : Int32) (x2 : Int32) (x3 : Int32) (σ : x_Hp) : Option (Int32 × x_Hp) :=
  k11 x1 x2 (x3 + (1 : Int32)) σ
def F_X9_apartNow_41 (k11 : Int32 → Int32 → Int32 → x_Hp → Option (Int32 × x_Hp)) (x1 : Int32) (x2 : Int32) (x3 : Int32) (σ : x_Hp) : Option (Int32 × x_Hp) :=
  x_gd (x_inb x3 6) <|
  if (σ.1 36 (x_ix x3)) ≤ x2 then
    F_X9_apartNow_58 k11 x1 x2 x3 σ
  else
    x_gd (x_inb x3 6) <|
    F_X9_apartNow_58 k11 x1 (σ.1 36 (x_ix x3)) x3 σ
def F_X9_apartNow_11 : Nat → Int32 → Int32 → Int32 → x_Hp → Option (Int32 × x_Hp)
  | 0, _, _, _, _ => none
  | n + 1, x1, x2, x3, σ =>
  x_gd (x_inb (σ.1 0 18) 2) <|
  if (σ.1 10 (x_ix (σ.1 0 18))) ≤ x3 then
    some (x2 - x1, σ)
  else
    x_gd (x_inb x3 6) <|
    if x1 ≤ (σ.1 36 (x_ix x3)) then
      F_X9_apartNow_41 (F_X9_apartNow_11 n) x1 x2 x3 σ
    else
      x_gd (x_inb x3 6) <|
      F_X9_apartNow_41 (F_X9_apartNow_11 n) (σ.1 36 (x_ix x3)) x2 x3 σ
def F_X9_apartNow (σ : x_Hp) : Option (Int32 × x_Hp) :=
  F_X9_apartNow_11 x_fuel (σ.1 36 0) (σ.1 36 0) (1 : Int32) σ
def F_X9_luckiest_34 (k4 : Int32 → Int32 → x_Hp → Option (Int32 × x_Hp)) (x1 : Int32) (x2 : Int32) (σ : x_Hp) : Option (Int32 × x_Hp) :=
  k4 x1 (x2 + (1 : Int32)) σ
def F_X9_luckiest_4 : Nat → Int32 → Int32 → x_Hp → Option (Int32 × x_Hp)
  | 0, _, _, _ => none
  | n + 1, x1, x2, σ =>
  x_gd (x_inb (σ.1 0 18) 2) <|
  if (σ.1 10 (x_ix (σ.1 0 18))) ≤ x2 then
    some (x1, σ)
  else
    x_gd (x_inb x2 6) <|
    x_gd (x_inb x1 6) <|
    if (σ.1 35 (x_ix x1)) ≤ (σ.1 35 (x_ix x2)) then
      F_X9_luckiest_34 (F_X9_luckiest_4 n) x1 x2 σ
    else
      F_X9_luckiest_34 (F_X9_luckiest_4 n) x2 x2 σ
def F_X9_luckiest (σ : x_Hp) : Option (Int32 × x_Hp) :=
  F_X9_luckiest_4 x_fuel (0 : Int32) (1 : Int32) σ
def F_X9_fillsOrders_189 (k42 : Int32 → Int32 → x_Hp → Option (Unit × x_Hp)) (x1 : Int32) (σ : x_Hp) : Option (Unit × x_Hp) :=
  x_b (F_X9_nextOrder σ) fun v22 σ22 =>
  k42 x1 v22 σ22
def F_X9_fillsOrders_171 (k42 : Int32 → Int32 → x_Hp → Option (Unit × x_Hp)) (x1 : Int32) (σ : x_Hp) : Option (Unit × x_Hp) :=
  x_b (F_X9_apartNow σ) fun v19 σ19 =>
  x_pt (x_pI σ19 0 65 v19) fun σ20 =>
  x_pt (x_pI σ20 0 66 (σ20.1 37 0)) fun σ21 =>
  F_X9_fillsOrders_189 k42 x1 σ21
def F_X9_fillsOrders_140 (k42 : Int32 → Int32 → x_Hp → Option (Unit × x_Hp)) (x1 : Int32) (σ : x_Hp) : Option (Unit × x_Hp) :=
  x_b (F_X9_luckiest σ) fun v14 σ14 =>
  x_gd (x_inb v14 6) <|
  x_gd (x_inb v14 6) <|
  x_pt (x_pI σ14 39 (x_ix v14) ((σ14.1 39 (x_ix v14)) + (1 : Int32))) fun σ17 =>
  if (σ17.1 0 65) < 0 then
    F_X9_fillsOrders_171 k42 x1 σ17
  else
    x_b (F_X9_apartNow σ17) fun v18 σ18 =>
    if (σ18.1 0 65) ≤ v18 then
      F_X9_fillsOrders_189 k42 x1 σ18
    else
      F_X9_fillsOrders_171 k42 x1 σ18
def F_X9_fillsOrders_103 (k42 : Int32 → Int32 → x_Hp → Option (Unit × x_Hp)) (x1 : Int32) (σ : x_Hp) : Option (Unit × x_Hp) :=
  if (σ.1 0 57) < 0 then
    F_X9_fillsOrders_140 k42 x1 σ
  else
    x_gd (x_inb (((6 : Int32) * (σ.1 0 18)) + (σ.1 0 57)) 12) <|
    if (σ.1 15 (x_ix (((6 : Int32) * (σ.1 0 18)) + (σ.1 0 57)))) = 0 then
      F_X9_fillsOrders_140 k42 x1 σ
    else
      x_pt (x_pI σ 0 63 ((σ.1 0 63) + (1 : Int32))) fun σ10 =>
      F_X9_fillsOrders_140 k42 x1 σ10
def F_X9_fillsOrders_79 (k42 : Int32 → Int32 → x_Hp → Option (Unit × x_Hp)) : Nat → Int32 → Int32 → x_Hp → Option (Unit × x_Hp)
  | 0, _, _, _ => none
  | n + 1, x1, x3, σ =>
  if (6 : Int32) ≤ x3 then
    F_X9_fillsOrders_103 k42 x1 σ
  else
    x_gd (x_inb x3 6) <|
    x_gd (x_inb x3 6) <|
    x_pt (x_pI σ 38 (x_ix x3) (σ.1 37 (x_ix x3))) fun σ13 =>
    (F_X9_fillsOrders_79 k42 n) x1 (x3 + (1 : Int32)) σ13
def F_X9_fillsOrders_69 (k42 : Int32 → Int32 → x_Hp → Option (Unit × x_Hp)) (x1 : Int32) (σ : x_Hp) : Option (Unit × x_Hp) :=
  x_pt (x_pI σ 0 61 (σ.1 0 56)) fun σ8 =>
  F_X9_fillsOrders_79 k42 x_fuel x1 (0 : Int32) σ8
def F_X9_fillsOrders_42 : Nat → Int32 → Int32 → x_Hp → Option (Unit × x_Hp)
  | 0, _, _, _ => none
  | n + 1, x1, x2, σ =>
  if x2 = 0 then
    some ((), σ)
  else
    x_b (F_X9_givesAll x1 σ) fun _ σ7 =>
    if (σ7.1 0 61) < 0 then
      F_X9_fillsOrders_69 (F_X9_fillsOrders_42 n) x1 σ7
    else
      if (σ7.1 0 61) ≤ (σ7.1 0 56) then
        F_X9_fillsOrders_103 (F_X9_fillsOrders_42 n) x1 σ7
      else
        F_X9_fillsOrders_69 (F_X9_fillsOrders_42 n) x1 σ7
def F_X9_fillsOrders_21 : Nat → Int32 → Int32 → x_Hp → Option (Unit × x_Hp)
  | 0, _, _, _ => none
  | n + 1, x1, x2, σ =>
  if (6 : Int32) ≤ x2 then
    F_X9_fillsOrders_42 x_fuel x1 (1 : Int32) σ
  else
    x_gd (x_inb x2 6) <|
    x_pt (x_pI σ 39 (x_ix x2) (0 : Int32)) fun σ6 =>
    (F_X9_fillsOrders_21 n) x1 (x2 + (1 : Int32)) σ6
def F_X9_fillsOrders (x1 : Int32) (σ : x_Hp) : Option (Unit × x_Hp) :=
  x_b (F_X9_firstOrder σ) fun _ σ1 =>
  x_pt (x_pI σ1 0 61 (-1 : Int32)) fun σ2 =>
  x_pt (x_pI σ2 0 65 (-1 : Int32)) fun σ3 =>
  x_pt (x_pI σ3 0 63 (0 : Int32)) fun σ4 =>
  F_X9_fillsOrders_21 x_fuel x1 (0 : Int32) σ4
def F_X9_isShort (x0 : Int32) (σ : x_Hp) : Option (Int32 × x_Hp) :=
  x_b (F_X9_in x0 (1 : Int32) (10 : Int32) σ) fun v1 σ1 =>
  x_gd (x_isz v1) <|
  some (v1, σ1)
def F_X9_order (x1 : Int32) (σ : x_Hp) : Option (Int32 × x_Hp) :=
  x_b (F_X9_isShort x1 σ) fun v1 σ1 =>
  if v1 = 0 then
    some ((-1 : Int32), σ1)
  else
    x_b (F_X9_isAwake σ1) fun v2 σ2 =>
    if v2 = 0 then
      some ((-2 : Int32), σ2)
    else
      x_b (F_X9_fillsOrders x1 σ2) fun _ σ3 =>
      some (σ3.1 0 61, σ3)
def F_X9_orderAt (x1 : Int32) (x2 : Int32) (σ : x_Hp) : Option (Int32 × x_Hp) :=
  x_b (F_X9_isShort x1 σ) fun v1 σ1 =>
  if v1 = 0 then
    some ((-1 : Int32), σ1)
  else
    if 0 ≤ x2 then
      x_b (F_X9_isAwake σ1) fun v2 σ2 =>
      if v2 = 0 then
        some ((-2 : Int32), σ2)
      else
        x_b (F_X9_fillsOrders x1 σ2) fun _ σ3 =>
        x_gd (x_inb (σ3.1 0 18) 2) <|
        if (σ3.1 10 (x_ix (σ3.1 0 18))) ≤ x2 then
          some ((-1 : Int32), σ3)
        else
          x_gd (x_inb x2 6) <|
          some (σ3.1 38 (x_ix x2), σ3)
    else
      some ((-1 : Int32), σ1)
def F_X9_sitters (x1 : Int32) (σ : x_Hp) : Option (Int32 × x_Hp) :=
  x_b (F_X9_isShort x1 σ) fun v1 σ1 =>
  if v1 = 0 then
    some ((-1 : Int32), σ1)
  else
    x_b (F_X9_isAwake σ1) fun v2 σ2 =>
    if v2 = 0 then
      some ((-2 : Int32), σ2)
    else
      x_b (F_X9_fillsOrders x1 σ2) fun _ σ3 =>
      some (σ3.1 0 63, σ3)
def F_X9_luck (x1 : Int32) (x2 : Int32) (σ : x_Hp) : Option (Int32 × x_Hp) :=
  x_b (F_X9_isAunt x1 σ) fun v1 σ1 =>
  if v1 = 0 then
    some ((-1 : Int32), σ1)
  else
    x_b (F_X9_isShort x2 σ1) fun v2 σ2 =>
    if v2 = 0 then
      some ((-1 : Int32), σ2)
    else
      x_b (F_X9_isAwake σ2) fun v3 σ3 =>
      if v3 = 0 then
        some ((-2 : Int32), σ3)
      else
        x_b (F_X9_fillsOrders x2 σ3) fun _ σ4 =>
        x_gd (x_inb x1 6) <|
        some (σ4.1 39 (x_ix x1), σ4)
def F_X9_fairest (x1 : Int32) (x2 : Int32) (σ : x_Hp) : Option (Int32 × x_Hp) :=
  x_b (F_X9_isShort x1 σ) fun v1 σ1 =>
  if v1 = 0 then
    some ((-1 : Int32), σ1)
  else
    x_b (F_X9_in x2 (0 : Int32) (1 : Int32) σ1) fun v2 σ2 =>
    if v2 = 0 then
      some ((-1 : Int32), σ2)
    else
      x_b (F_X9_isAwake σ2) fun v3 σ3 =>
      if v3 = 0 then
        some ((-2 : Int32), σ3)
      else
        x_b (F_X9_fillsOrders x1 σ3) fun _ σ4 =>
        if x2 = 0 then
          some (σ4.1 0 65, σ4)
        else
          some (σ4.1 0 66, σ4)
def F_X9_leftOut_117 (k36 : Int32 → Int32 → Int32 → Int32 → Int32 → x_Hp → Option (Int32 × x_Hp)) (x1 : Int32) (x2 : Int32) (x3 : Int32) (x4 : Int32) (x5 : Int32) (σ : x_Hp) : Option (Int32 × x_Hp) :=
  k36 x1 x2 x3 x4 (x5 + (1 : Int32)) σ
def F_X9_leftOut_108 (k36 : Int32 → Int32 → Int32 → Int32 → Int32 → x_Hp → Option (Int32 × x_Hp)) (x1 : Int32) (x2 : Int32) (x5 : Int32) (σ : x_Hp) : Option (Int32 × x_Hp) :=
  F_X9_leftOut_117 k36 x1 x2 x5 (σ.1 0 56) x5 σ
def F_X9_leftOut_85 (k36 : Int32 → Int32 → Int32 → Int32 → Int32 → x_Hp → Option (Int32 × x_Hp)) (k57 : Int32 → Int32 → Int32 → Int32 → Int32 → Int32 → x_Hp → Option (Int32 × x_Hp)) (x1 : Int32) (x2 : Int32) (x3 : Int32) (x4 : Int32) (x5 : Int32) (x6 : Int32) (σ : x_Hp) : Option (Int32 × x_Hp) :=
  k57 x1 x2 x3 x4 x5 (x6 + (1 : Int32)) σ
def F_X9_leftOut_57 (k36 : Int32 → Int32 → Int32 → Int32 → Int32 → x_Hp → Option (Int32 × x_Hp)) : Nat → Int32 → Int32 → Int32 → Int32 → Int32 → Int32 → x_Hp → Option (Int32 × x_Hp)
  | 0, _, _, _, _, _, _, _ => none
  | n + 1, x1, x2, x3, x4, x5, x6, σ =>
  x_gd (x_inb (σ.1 0 18) 2) <|
  if (σ.1 10 (x_ix (σ.1 0 18))) ≤ x6 then
    if x4 < 0 then
      F_X9_leftOut_108 k36 x1 x2 x5 σ
    else
      if (σ.1 0 56) < x4 then
        F_X9_leftOut_108 k36 x1 x2 x5 σ
      else
        F_X9_leftOut_117 k36 x1 x2 x3 x4 x5 σ
  else
    if x6 = x5 then
      F_X9_leftOut_85 k36 (F_X9_leftOut_57 k36 n) x1 x2 x3 x4 x5 x6 σ
    else
      x_b (F_X9_gives x6 x1 σ) fun _ σ7 =>
      F_X9_leftOut_85 k36 (F_X9_leftOut_57 k36 n) x1 x2 x3 x4 x5 x6 σ7
def F_X9_leftOut_36 : Nat → Int32 → Int32 → Int32 → Int32 → Int32 → x_Hp → Option (Int32 × x_Hp)
  | 0, _, _, _, _, _, _ => none
  | n + 1, x1, x2, x3, x4, x5, σ =>
  x_gd (x_inb (σ.1 0 18) 2) <|
  if (σ.1 10 (x_ix (σ.1 0 18))) ≤ x5 then
    if x2 = 0 then
      some (x3, σ)
    else
      some (x4, σ)
  else
    x_b (F_X9_starts σ) fun _ σ5 =>
    F_X9_leftOut_57 (F_X9_leftOut_36 n) x_fuel x1 x2 x3 x4 x5 (0 : Int32) σ5
def F_X9_leftOut (x1 : Int32) (x2 : Int32) (σ : x_Hp) : Option (Int32 × x_Hp) :=
  x_b (F_X9_isShort x1 σ) fun v1 σ1 =>
  if v1 = 0 then
    some ((-1 : Int32), σ1)
  else
    x_b (F_X9_in x2 (0 : Int32) (1 : Int32) σ1) fun v2 σ2 =>
    if v2 = 0 then
      some ((-1 : Int32), σ2)
    else
      x_b (F_X9_isAwake σ2) fun v3 σ3 =>
      if v3 = 0 then
        some ((-2 : Int32), σ3)
      else
        F_X9_leftOut_36 x_fuel x1 x2 (0 : Int32) (-1 : Int32) (0 : Int32) σ3
def F_X9_cryIf_74 (x2 : Int32) (σ : x_Hp) : Option (Int32 × x_Hp) :=
  x_b (F_X9_cries x2 σ) fun v6 σ6 =>
  some (v6, σ6)
def F_X9_cryIf_62 (x1 : Int32) (x2 : Int32) (σ : x_Hp) : Option (Int32 × x_Hp) :=
  if x1 ≤ (3 : Int32) then
    F_X9_cryIf_74 x2 σ
  else
    x_b (F_X9_hands (x1 - (4 : Int32)) σ) fun _ σ5 =>
    F_X9_cryIf_74 x2 σ5
def F_X9_cryIf_43 (x1 : Int32) (x2 : Int32) (σ : x_Hp) : Option (Int32 × x_Hp) :=
  if x1 ≤ (3 : Int32) then
    F_X9_cryIf_62 x1 x2 σ
  else
    if (x1 - (4 : Int32)) = (σ.1 32 4) then
      some ((-1 : Int32), σ)
    else
      F_X9_cryIf_62 x1 x2 σ
def F_X9_cryIf_22 (x1 : Int32) (x2 : Int32) (σ : x_Hp) : Option (Int32 × x_Hp) :=
  if x1 = (3 : Int32) then
    x_pt (x_pI σ 32 9 ((1 : Int32) - (σ.1 32 9))) fun σ4 =>
    F_X9_cryIf_43 x1 x2 σ4
  else
    F_X9_cryIf_43 x1 x2 σ
def F_X9_cryIf_13 (x1 : Int32) (x2 : Int32) (σ : x_Hp) : Option (Int32 × x_Hp) :=
  if x1 = (2 : Int32) then
    x_b (F_X9_fallsAsleep σ) fun _ σ3 =>
    F_X9_cryIf_22 x1 x2 σ3
  else
    F_X9_cryIf_22 x1 x2 σ
def F_X9_cryIf (x1 : Int32) (x2 : Int32) (σ : x_Hp) : Option (Int32 × x_Hp) :=
  x_b (F_X9_copies σ) fun _ σ1 =>
  if x1 = (1 : Int32) then
    x_b (F_X9_feedsNow σ1) fun _ σ2 =>
    F_X9_cryIf_13 x1 x2 σ2
  else
    F_X9_cryIf_13 x1 x2 σ1
def F_X9_wants_91 (k44 : Int32 → Int32 → Int32 → Int32 → Int32 → x_Hp → Option (Int32 × x_Hp)) (x1 : Int32) (x2 : Int32) (x3 : Int32) (x4 : Int32) (x5 : Int32) (σ : x_Hp) : Option (Int32 × x_Hp) :=
  k44 x1 x2 x3 x4 (x5 + (1 : Int32)) σ
def F_X9_wants_44 : Nat → Int32 → Int32 → Int32 → Int32 → Int32 → x_Hp → Option (Int32 × x_Hp)
  | 0, _, _, _, _, _, _ => none
  | n + 1, x1, x2, x3, x4, x5, σ =>
  x_gd (x_inb (σ.1 0 18) 2) <|
  if ((4 : Int32) + (σ.1 10 (x_ix (σ.1 0 18)))) ≤ x5 then
    if x2 = 0 then
      some (x3, σ)
    else
      some (x4, σ)
  else
    x_b (F_X9_cryIf x5 x1 σ) fun v6 σ6 =>
    if v6 < 0 then
      F_X9_wants_91 (F_X9_wants_44 n) x1 x2 x3 x4 x5 σ6
    else
      if v6 < x4 then
        F_X9_wants_91 (F_X9_wants_44 n) x1 x2 x5 v6 x5 σ6
      else
        F_X9_wants_91 (F_X9_wants_44 n) x1 x2 x3 x4 x5 σ6
def F_X9_wants (x1 : Int32) (x2 : Int32) (σ : x_Hp) : Option (Int32 × x_Hp) :=
  x_b (F_X9_in x1 (1 : Int32) (120 : Int32) σ) fun v1 σ1 =>
  if v1 = 0 then
    some ((-1 : Int32), σ1)
  else
    x_b (F_X9_in x2 (0 : Int32) (1 : Int32) σ1) fun v2 σ2 =>
    if v2 = 0 then
      some ((-1 : Int32), σ2)
    else
      x_b (F_X9_isAwake σ2) fun v3 σ3 =>
      if v3 = 0 then
        some ((-2 : Int32), σ3)
      else
        x_b (F_X9_cryIf (0 : Int32) x1 σ3) fun v4 σ4 =>
        F_X9_wants_44 x_fuel x1 x2 (0 : Int32) v4 (1 : Int32) σ4
def F_X9_cryInSight (x1 : Int32) (x2 : Int32) (σ : x_Hp) : Option (Int32 × x_Hp) :=
  x_b (F_X9_copies σ) fun _ σ1 =>
  x_pt (x_pI σ1 32 9 (1 : Int32)) fun σ2 =>
  x_b (F_X9_cries x1 σ2) fun v3 σ3 =>
  x_pt (x_pI σ3 32 9 (0 : Int32)) fun σ4 =>
  x_b (F_X9_cries (x2 - x1) σ4) fun v5 σ5 =>
  some (v3 + v5, σ5)
def F_X9_moment (x1 : Int32) (σ : x_Hp) : Option (Int32 × x_Hp) :=
  x_b (F_X9_in x1 (1 : Int32) (120 : Int32) σ) fun v1 σ1 =>
  if v1 = 0 then
    some ((-100000 : Int32), σ1)
  else
    x_b (F_X9_cryInSight (1 : Int32) x1 σ1) fun v2 σ2 =>
    x_b (F_X9_cryInSight (0 : Int32) x1 σ2) fun v3 σ3 =>
    some (v2 - v3, σ3)
def F_X9_inSight_66 (k29 : Int32 → Int32 → Int32 → Int32 → Int32 → x_Hp → Option (Int32 × x_Hp)) (x1 : Int32) (x2 : Int32) (x3 : Int32) (x4 : Int32) (x5 : Int32) (σ : x_Hp) : Option (Int32 × x_Hp) :=
  k29 x1 x2 x3 x4 (x5 + (1 : Int32)) σ
def F_X9_inSight_59 (k29 : Int32 → Int32 → Int32 → Int32 → Int32 → x_Hp → Option (Int32 × x_Hp)) (x1 : Int32) (x2 : Int32) (x5 : Int32) (x6 : Int32) (σ : x_Hp) : Option (Int32 × x_Hp) :=
  F_X9_inSight_66 k29 x1 x2 x5 x6 x5 σ
def F_X9_inSight_29 : Nat → Int32 → Int32 → Int32 → Int32 → Int32 → x_Hp → Option (Int32 × x_Hp)
  | 0, _, _, _, _, _, _ => none
  | n + 1, x1, x2, x3, x4, x5, σ =>
  if x1 < x5 then
    if x2 = 0 then
      some (x3, σ)
    else
      some (x4, σ)
  else
    x_b (F_X9_cryInSight x5 x1 σ) fun v3 σ3 =>
    if x4 < 0 then
      F_X9_inSight_59 (F_X9_inSight_29 n) x1 x2 x5 v3 σ3
    else
      if v3 < x4 then
        F_X9_inSight_59 (F_X9_inSight_29 n) x1 x2 x5 v3 σ3
      else
        F_X9_inSight_66 (F_X9_inSight_29 n) x1 x2 x3 x4 x5 σ3
def F_X9_inSight (x1 : Int32) (x2 : Int32) (σ : x_Hp) : Option (Int32 × x_Hp) :=
  x_b (F_X9_in x1 (1 : Int32) (60 : Int32) σ) fun v1 σ1 =>
  if v1 = 0 then
    some ((-1 : Int32), σ1)
  else
    x_b (F_X9_in x2 (0 : Int32) (1 : Int32) σ1) fun v2 σ2 =>
    if v2 = 0 then
      some ((-1 : Int32), σ2)
    else
      F_X9_inSight_29 x_fuel x1 x2 (0 : Int32) (-1 : Int32) (0 : Int32) σ2
def F_X9_beat_115 (k48 : Int32 → Int32 → Int32 → Int32 → Int32 → Int32 → x_Hp → Option (Int32 × x_Hp)) (x1 : Int32) (x2 : Int32) (x3 : Int32) (x4 : Int32) (x5 : Int32) (x6 : Int32) (σ : x_Hp) : Option (Int32 × x_Hp) :=
  k48 x1 x2 x3 x4 x5 (x6 + (1 : Int32)) σ
def F_X9_beat_107 (k48 : Int32 → Int32 → Int32 → Int32 → Int32 → Int32 → x_Hp → Option (Int32 × x_Hp)) (x1 : Int32) (x2 : Int32) (x3 : Int32) (x6 : Int32) (x7 : Int32) (σ : x_Hp) : Option (Int32 × x_Hp) :=
  F_X9_beat_115 k48 x1 x2 x3 x6 x7 x6 σ
def F_X9_beat_74 (k48 : Int32 → Int32 → Int32 → Int32 → Int32 → Int32 → x_Hp → Option (Int32 × x_Hp)) (x1 : Int32) (x2 : Int32) (x3 : Int32) (x4 : Int32) (x5 : Int32) (x6 : Int32) (σ : x_Hp) : Option (Int32 × x_Hp) :=
  x_pt (x_pI σ 0 51 x1) fun σ7 =>
  x_pt (x_pI σ7 0 52 x6) fun σ8 =>
  x_b (F_X9_cries x2 σ8) fun v9 σ9 =>
  if x5 < 0 then
    F_X9_beat_107 k48 x1 x2 x3 x6 v9 σ9
  else
    if v9 < x5 then
      F_X9_beat_107 k48 x1 x2 x3 x6 v9 σ9
    else
      F_X9_beat_115 k48 x1 x2 x3 x4 x5 x6 σ9
def F_X9_beat_48 : Nat → Int32 → Int32 → Int32 → Int32 → Int32 → Int32 → x_Hp → Option (Int32 × x_Hp)
  | 0, _, _, _, _, _, _, _ => none
  | n + 1, x1, x2, x3, x4, x5, x6, σ =>
  if (10 : Int32) ≤ x6 then
    if x3 = 0 then
      some (x4, σ)
    else
      some (x5, σ)
  else
    x_b (F_X9_copies σ) fun _ σ5 =>
    if (σ5.1 32 4) = x1 then
      F_X9_beat_74 (F_X9_beat_48 n) x1 x2 x3 x4 x5 x6 σ5
    else
      x_b (F_X9_hands x1 σ5) fun _ σ6 =>
      F_X9_beat_74 (F_X9_beat_48 n) x1 x2 x3 x4 x5 x6 σ6
def F_X9_beat (x1 : Int32) (x2 : Int32) (x3 : Int32) (σ : x_Hp) : Option (Int32 × x_Hp) :=
  x_b (F_X9_isAunt x1 σ) fun v1 σ1 =>
  if v1 = 0 then
    some ((-1 : Int32), σ1)
  else
    x_b (F_X9_in x2 (1 : Int32) (120 : Int32) σ1) fun v2 σ2 =>
    if v2 = 0 then
      some ((-1 : Int32), σ2)
    else
      x_b (F_X9_in x3 (0 : Int32) (1 : Int32) σ2) fun v3 σ3 =>
      if v3 = 0 then
        some ((-1 : Int32), σ3)
      else
        x_b (F_X9_isAwake σ3) fun v4 σ4 =>
        if v4 = 0 then
          some ((-2 : Int32), σ4)
        else
          F_X9_beat_48 x_fuel x1 x2 x3 (0 : Int32) (-1 : Int32) (0 : Int32) σ4
def F_X9_fewestOther_54 (k4 : Int32 → Int32 → x_Hp → Option (Int32 × x_Hp)) (x1 : Int32) (x2 : Int32) (σ : x_Hp) : Option (Int32 × x_Hp) :=
  k4 x1 (x2 + (1 : Int32)) σ
def F_X9_fewestOther_52 (k4 : Int32 → Int32 → x_Hp → Option (Int32 × x_Hp)) (x2 : Int32) (σ : x_Hp) : Option (Int32 × x_Hp) :=
  F_X9_fewestOther_54 k4 x2 x2 σ
def F_X9_fewestOther_4 : Nat → Int32 → Int32 → x_Hp → Option (Int32 × x_Hp)
  | 0, _, _, _ => none
  | n + 1, x1, x2, σ =>
  x_gd (x_inb (σ.1 0 18) 2) <|
  if (σ.1 10 (x_ix (σ.1 0 18))) ≤ x2 then
    some (x1, σ)
  else
    if x2 = (σ.1 32 4) then
      F_X9_fewestOther_54 (F_X9_fewestOther_4 n) x1 x2 σ
    else
      if x1 < 0 then
        F_X9_fewestOther_52 (F_X9_fewestOther_4 n) x2 σ
      else
        x_gd (x_inb ((20 : Int32) + x2) 60) <|
        x_gd (x_inb ((20 : Int32) + x1) 60) <|
        if (σ.1 32 (x_ix ((20 : Int32) + x1))) ≤ (σ.1 32 (x_ix ((20 : Int32) + x2))) then
          F_X9_fewestOther_54 (F_X9_fewestOther_4 n) x1 x2 σ
        else
          F_X9_fewestOther_52 (F_X9_fewestOther_4 n) x2 σ
def F_X9_fewestOther (σ : x_Hp) : Option (Int32 × x_Hp) :=
  F_X9_fewestOther_4 x_fuel (-1 : Int32) (0 : Int32) σ
def F_X9_rounds_121 (k7 : Int32 → Int32 → Int32 → Int32 → x_Hp → Option (Unit × x_Hp)) (x1 : Int32) (x2 : Int32) (x3 : Int32) (x4 : Int32) (σ : x_Hp) : Option (Unit × x_Hp) :=
  x_b (F_X9_minuteGoes σ) fun _ σ5 =>
  k7 x1 x2 x3 (x4 + (1 : Int32)) σ5
def F_X9_rounds_118 (k7 : Int32 → Int32 → Int32 → Int32 → x_Hp → Option (Unit × x_Hp)) (x1 : Int32) (x2 : Int32) (x3 : Int32) (x4 : Int32) (s0 : Int32) (σ : x_Hp) : Option (Unit × x_Hp) :=
  x_b (F_X9_hands s0 σ) fun _ σ6 =>
  F_X9_rounds_121 k7 x1 x2 x3 x4 σ6
def F_X9_rounds_57 (k7 : Int32 → Int32 → Int32 → Int32 → x_Hp → Option (Unit × x_Hp)) (x1 : Int32) (x2 : Int32) (x3 : Int32) (x4 : Int32) (s0 : Int32) (σ : x_Hp) : Option (Unit × x_Hp) :=
  if s0 = 0 then
    F_X9_rounds_121 k7 x1 x2 x3 x4 σ
  else
    if (σ.1 32 7) = 0 then
      x_gd (x_inb (σ.1 0 18) 2) <|
      if (σ.1 10 (x_ix (σ.1 0 18))) ≤ (1 : Int32) then
        F_X9_rounds_121 k7 x1 x2 x3 x4 σ
      else
        if x1 = (2 : Int32) then
          x_b (F_X9_fewestOther σ) fun v4 σ4 =>
          F_X9_rounds_118 k7 x1 x2 x3 x4 v4 σ4
        else
          x_gd (x_inb (σ.1 0 18) 2) <|
          x_gd (!decide ((σ.1 10 (x_ix (σ.1 0 18))) = 0)) <|
          F_X9_rounds_118 k7 x1 x2 x3 x4 (((σ.1 32 4) + (1 : Int32)) - ((σ.1 32 4) + (1 : Int32)) / (σ.1 10 (x_ix (σ.1 0 18))) * (σ.1 10 (x_ix (σ.1 0 18)))) σ
    else
      F_X9_rounds_121 k7 x1 x2 x3 x4 σ
def F_X9_rounds_56 (k7 : Int32 → Int32 → Int32 → Int32 → x_Hp → Option (Unit × x_Hp)) (x1 : Int32) (x2 : Int32) (x3 : Int32) (x4 : Int32) (σ : x_Hp) : Option (Unit × x_Hp) :=
  F_X9_rounds_57 k7 x1 x2 x3 x4 (0 : Int32) σ
def F_X9_rounds_7 : Nat → Int32 → Int32 → Int32 → Int32 → x_Hp → Option (Unit × x_Hp)
  | 0, _, _, _, _, _ => none
  | n + 1, x1, x2, x3, x4, σ =>
  if x3 ≤ x4 then
    some ((), σ)
  else
    if x1 = (1 : Int32) then
      if (σ.1 32 6) < x2 then
        F_X9_rounds_57 (F_X9_rounds_7 n) x1 x2 x3 x4 (0 : Int32) σ
      else
        F_X9_rounds_57 (F_X9_rounds_7 n) x1 x2 x3 x4 (1 : Int32) σ
    else
      if x1 = (3 : Int32) then
        F_X9_rounds_56 (F_X9_rounds_7 n) x1 x2 x3 x4 σ
      else
        if (σ.1 32 5) < x2 then
          F_X9_rounds_56 (F_X9_rounds_7 n) x1 x2 x3 x4 σ
        else
          F_X9_rounds_57 (F_X9_rounds_7 n) x1 x2 x3 x4 (1 : Int32) σ
def F_X9_rounds (x1 : Int32) (x2 : Int32) (x3 : Int32) (σ : x_Hp) : Option (Unit × x_Hp) :=
  x_b (F_X9_copies σ) fun _ σ1 =>
  F_X9_rounds_7 x_fuel x1 x2 x3 (0 : Int32) σ1
def F_X9_round (x1 : Int32) (x2 : Int32) (x3 : Int32) (x4 : Int32) (σ : x_Hp) : Option (Int32 × x_Hp) :=
  x_gd (x_inb (σ.1 0 18) 2) <|
  if (σ.1 10 (x_ix (σ.1 0 18))) = 0 then
    some ((-1 : Int32), σ)
  else
    x_b (F_X9_in x1 (0 : Int32) (3 : Int32) σ) fun v2 σ2 =>
    if v2 = 0 then
      some ((-1 : Int32), σ2)
    else
      x_b (F_X9_in x2 (1 : Int32) (20 : Int32) σ2) fun v3 σ3 =>
      if v3 = 0 then
        some ((-1 : Int32), σ3)
      else
        x_b (F_X9_in x3 (1 : Int32) (240 : Int32) σ3) fun v4 σ4 =>
        if v4 = 0 then
          some ((-1 : Int32), σ4)
        else
          x_b (F_X9_in x4 (0 : Int32) (2 : Int32) σ4) fun v5 σ5 =>
          if v5 = 0 then
            some ((-1 : Int32), σ5)
          else
            x_b (F_X9_rounds x1 x2 x3 σ5) fun _ σ6 =>
            if x4 = 0 then
              some ((σ6.1 32 13) - (σ6.1 31 13), σ6)
            else
              if x4 = (1 : Int32) then
                some ((σ6.1 32 14) - (σ6.1 31 14), σ6)
              else
                some (σ6.1 32 4, σ6)
def F_X9_bestRound_111 (k41 : Int32 → Int32 → Int32 → Int32 → Int32 → x_Hp → Option (Int32 × x_Hp)) (k50 : Int32 → Int32 → Int32 → Int32 → Int32 → Int32 → x_Hp → Option (Int32 × x_Hp)) (x1 : Int32) (x2 : Int32) (x3 : Int32) (x4 : Int32) (x5 : Int32) (x6 : Int32) (σ : x_Hp) : Option (Int32 × x_Hp) :=
  k50 x1 x2 x3 x4 x5 (x6 + (1 : Int32)) σ
def F_X9_bestRound_98 (k41 : Int32 → Int32 → Int32 → Int32 → Int32 → x_Hp → Option (Int32 × x_Hp)) (k50 : Int32 → Int32 → Int32 → Int32 → Int32 → Int32 → x_Hp → Option (Int32 × x_Hp)) (x1 : Int32) (x2 : Int32) (x5 : Int32) (x6 : Int32) (x7 : Int32) (σ : x_Hp) : Option (Int32 × x_Hp) :=
  F_X9_bestRound_111 k41 k50 x1 x2 (((100 : Int32) * x5) + x6) x7 x5 x6 σ
def F_X9_bestRound_50 (k41 : Int32 → Int32 → Int32 → Int32 → Int32 → x_Hp → Option (Int32 × x_Hp)) : Nat → Int32 → Int32 → Int32 → Int32 → Int32 → Int32 → x_Hp → Option (Int32 × x_Hp)
  | 0, _, _, _, _, _, _, _ => none
  | n + 1, x1, x2, x3, x4, x5, x6, σ =>
  if (20 : Int32) < x6 then
    k41 x1 x2 x3 x4 (x5 + (1 : Int32)) σ
  else
    x_b (F_X9_rounds x5 x6 x1 σ) fun _ σ4 =>
    if x4 < 0 then
      F_X9_bestRound_98 k41 (F_X9_bestRound_50 k41 n) x1 x2 x5 x6 ((σ4.1 32 13) - (σ4.1 31 13)) σ4
    else
      if ((σ4.1 32 13) - (σ4.1 31 13)) < x4 then
        F_X9_bestRound_98 k41 (F_X9_bestRound_50 k41 n) x1 x2 x5 x6 ((σ4.1 32 13) - (σ4.1 31 13)) σ4
      else
        F_X9_bestRound_111 k41 (F_X9_bestRound_50 k41 n) x1 x2 x3 x4 x5 x6 σ4
def F_X9_bestRound_41 : Nat → Int32 → Int32 → Int32 → Int32 → Int32 → x_Hp → Option (Int32 × x_Hp)
  | 0, _, _, _, _, _, _ => none
  | n + 1, x1, x2, x3, x4, x5, σ =>
  if (4 : Int32) ≤ x5 then
    if x2 = 0 then
      some (x3, σ)
    else
      some (x4, σ)
  else
    F_X9_bestRound_50 (F_X9_bestRound_41 n) x_fuel x1 x2 x3 x4 x5 (1 : Int32) σ
def F_X9_bestRound (x1 : Int32) (x2 : Int32) (σ : x_Hp) : Option (Int32 × x_Hp) :=
  x_gd (x_inb (σ.1 0 18) 2) <|
  if (σ.1 10 (x_ix (σ.1 0 18))) = 0 then
    some ((-1 : Int32), σ)
  else
    x_b (F_X9_in x1 (1 : Int32) (120 : Int32) σ) fun v2 σ2 =>
    if v2 = 0 then
      some ((-1 : Int32), σ2)
    else
      x_b (F_X9_in x2 (0 : Int32) (1 : Int32) σ2) fun v3 σ3 =>
      if v3 = 0 then
        some ((-1 : Int32), σ3)
      else
        F_X9_bestRound_41 x_fuel x1 x2 (0 : Int32) (-1 : Int32) (0 : Int32) σ3
def F_X9_feedAt_109 (k39 : Int32 → Int32 → Int32 → Int32 → Int32 → x_Hp → Option (Int32 × x_Hp)) (x1 : Int32) (x2 : Int32) (x3 : Int32) (x4 : Int32) (x5 : Int32) (σ : x_Hp) : Option (Int32 × x_Hp) :=
  k39 x1 x2 x3 x4 (x5 + (1 : Int32)) σ
def F_X9_feedAt_102 (k39 : Int32 → Int32 → Int32 → Int32 → Int32 → x_Hp → Option (Int32 × x_Hp)) (x1 : Int32) (x2 : Int32) (x5 : Int32) (x6 : Int32) (σ : x_Hp) : Option (Int32 × x_Hp) :=
  F_X9_feedAt_109 k39 x1 x2 x5 x6 x5 σ
def F_X9_feedAt_39 : Nat → Int32 → Int32 → Int32 → Int32 → Int32 → x_Hp → Option (Int32 × x_Hp)
  | 0, _, _, _, _, _, _ => none
  | n + 1, x1, x2, x3, x4, x5, σ =>
  if x1 ≤ x5 then
    if x2 = 0 then
      some (x3, σ)
    else
      some (x4, σ)
  else
    x_b (F_X9_copies σ) fun _ σ4 =>
    x_b (F_X9_cries x5 σ4) fun v5 σ5 =>
    if (σ5.1 32 7) ≤ 0 then
      x_b (F_X9_feedsNow σ5) fun _ σ6 =>
      x_b (F_X9_cries (x1 - x5) σ6) fun v7 σ7 =>
      if x4 < 0 then
        F_X9_feedAt_102 (F_X9_feedAt_39 n) x1 x2 x5 (v5 + v7) σ7
      else
        if (v5 + v7) < x4 then
          F_X9_feedAt_102 (F_X9_feedAt_39 n) x1 x2 x5 (v5 + v7) σ7
        else
          F_X9_feedAt_109 (F_X9_feedAt_39 n) x1 x2 x3 x4 x5 σ7
    else
      F_X9_feedAt_109 (F_X9_feedAt_39 n) x1 x2 x3 x4 x5 σ5
def F_X9_feedAt (x1 : Int32) (x2 : Int32) (σ : x_Hp) : Option (Int32 × x_Hp) :=
  x_b (F_X9_in x1 (1 : Int32) (60 : Int32) σ) fun v1 σ1 =>
  if v1 = 0 then
    some ((-1 : Int32), σ1)
  else
    x_b (F_X9_in x2 (0 : Int32) (1 : Int32) σ1) fun v2 σ2 =>
    if v2 = 0 then
      some ((-1 : Int32), σ2)
    else
      x_b (F_X9_isAwake σ2) fun v3 σ3 =>
      if v3 = 0 then
        some ((-2 : Int32), σ3)
      else
        F_X9_feedAt_39 x_fuel x1 x2 (0 : Int32) (-1 : Int32) (0 : Int32) σ3
def F_X9_peak_64 (k34 : Int32 → Int32 → Int32 → Int32 → Int32 → x_Hp → Option (Int32 × x_Hp)) (x1 : Int32) (x2 : Int32) (x3 : Int32) (x4 : Int32) (x5 : Int32) (σ : x_Hp) : Option (Int32 × x_Hp) :=
  k34 x1 x2 x3 x4 (x5 + (1 : Int32)) σ
def F_X9_peak_34 : Nat → Int32 → Int32 → Int32 → Int32 → Int32 → x_Hp → Option (Int32 × x_Hp)
  | 0, _, _, _, _, _, _ => none
  | n + 1, x1, x2, x3, x4, x5, σ =>
  if x1 ≤ x5 then
    if x2 = 0 then
      some (x4, σ)
    else
      some (x3, σ)
  else
    x_b (F_X9_cries (1 : Int32) σ) fun v4 σ4 =>
    if x4 < v4 then
      F_X9_peak_64 (F_X9_peak_34 n) x1 x2 x5 v4 x5 σ4
    else
      F_X9_peak_64 (F_X9_peak_34 n) x1 x2 x3 x4 x5 σ4
def F_X9_peak (x1 : Int32) (x2 : Int32) (σ : x_Hp) : Option (Int32 × x_Hp) :=
  x_b (F_X9_in x1 (1 : Int32) (240 : Int32) σ) fun v1 σ1 =>
  if v1 = 0 then
    some ((-1 : Int32), σ1)
  else
    x_b (F_X9_in x2 (0 : Int32) (1 : Int32) σ1) fun v2 σ2 =>
    if v2 = 0 then
      some ((-1 : Int32), σ2)
    else
      x_b (F_X9_copies σ2) fun _ σ3 =>
      F_X9_peak_34 x_fuel x1 x2 (0 : Int32) (-1 : Int32) (0 : Int32) σ3
def F_X9_merry_6 : Nat → Int32 → x_Hp → Option (Int32 × x_Hp)
  | 0, _, _ => none
  | n + 1, x1, σ =>
  if (240 : Int32) < x1 then
    some ((-2 : Int32), σ)
  else
    x_b (F_X9_minuteGoes σ) fun _ σ2 =>
    if (σ2.1 32 14) ≤ (σ2.1 31 14) then
      (F_X9_merry_6 n) (x1 + (1 : Int32)) σ2
    else
      some (x1, σ2)
def F_X9_merry (σ : x_Hp) : Option (Int32 × x_Hp) :=
  x_b (F_X9_copies σ) fun _ σ1 =>
  F_X9_merry_6 x_fuel (1 : Int32) σ1
def F_X9_sleeps_6 : Nat → Int32 → x_Hp → Option (Int32 × x_Hp)
  | 0, _, _ => none
  | n + 1, x1, σ =>
  if (240 : Int32) < x1 then
    some ((-2 : Int32), σ)
  else
    if (σ.1 32 7) ≤ 0 then
      x_b (F_X9_minuteGoes σ) fun _ σ2 =>
      (F_X9_sleeps_6 n) (x1 + (1 : Int32)) σ2
    else
      some (x1, σ)
def F_X9_sleeps (σ : x_Hp) : Option (Int32 × x_Hp) :=
  x_b (F_X9_copies σ) fun _ σ1 =>
  F_X9_sleeps_6 x_fuel (0 : Int32) σ1
def F_X9_fillsRests_77 (k12 : Int32 → Int32 → Int32 → x_Hp → Option (Unit × x_Hp)) : Nat → Int32 → Int32 → Int32 → Int32 → x_Hp → Option (Unit × x_Hp)
  | 0, _, _, _, _, _ => none
  | n + 1, x1, x2, x3, x4, σ =>
  if x2 ≤ x4 then
    k12 x1 x2 (x3 + (1 : Int32)) σ
  else
    x_gd (x_inb x4 6) <|
    x_gd (x_inb (((6 : Int32) * x3) + x4) 384) <|
    x_pt (x_pI σ 40 (x_ix (((6 : Int32) * x3) + x4)) (σ.1 36 (x_ix x4))) fun σ5 =>
    (F_X9_fillsRests_77 k12 n) x1 x2 x3 (x4 + (1 : Int32)) σ5
def F_X9_fillsRests_65 (k12 : Int32 → Int32 → Int32 → x_Hp → Option (Unit × x_Hp)) (k26 : Int32 → Int32 → Int32 → Int32 → x_Hp → Option (Unit × x_Hp)) (x1 : Int32) (x2 : Int32) (x3 : Int32) (x4 : Int32) (s0 : Int32) (s1 : Int32) (σ : x_Hp) : Option (Unit × x_Hp) :=
  x_b (F_X9_gives s1 s0 σ) fun _ σ6 =>
  k26 x1 x2 x3 (x4 + (1 : Int32)) σ6
def F_X9_fillsRests_26 (k12 : Int32 → Int32 → Int32 → x_Hp → Option (Unit × x_Hp)) : Nat → Int32 → Int32 → Int32 → Int32 → x_Hp → Option (Unit × x_Hp)
  | 0, _, _, _, _, _ => none
  | n + 1, x1, x2, x3, x4, σ =>
  if x2 ≤ x4 then
    F_X9_fillsRests_77 k12 x_fuel x1 x2 x3 (0 : Int32) σ
  else
    x_gd (!decide (x2 = 0)) <|
    if ((x3 >>> ((((σ.1 31 4) + x4) - ((σ.1 31 4) + x4) / x2 * x2) &&& 31)) &&& (1 : Int32)) = (1 : Int32) then
      F_X9_fillsRests_65 k12 (F_X9_fillsRests_26 k12 n) x1 x2 x3 x4 ((2 : Int32) * x1) (((σ.1 31 4) + x4) - ((σ.1 31 4) + x4) / x2 * x2) σ
    else
      F_X9_fillsRests_65 k12 (F_X9_fillsRests_26 k12 n) x1 x2 x3 x4 x1 (((σ.1 31 4) + x4) - ((σ.1 31 4) + x4) / x2 * x2) σ
def F_X9_fillsRests_12 : Nat → Int32 → Int32 → Int32 → x_Hp → Option (Unit × x_Hp)
  | 0, _, _, _, _ => none
  | n + 1, x1, x2, x3, σ =>
  if ((1 : Int32) <<< (x2 &&& 31)) ≤ x3 then
    some ((), σ)
  else
    x_b (F_X9_starts σ) fun _ σ2 =>
    F_X9_fillsRests_26 (F_X9_fillsRests_12 n) x_fuel x1 x2 x3 (0 : Int32) σ2
def F_X9_fillsRests (x1 : Int32) (σ : x_Hp) : Option (Unit × x_Hp) :=
  x_gd (x_inb (σ.1 0 18) 2) <|
  F_X9_fillsRests_12 x_fuel x1 (σ.1 10 (x_ix (σ.1 0 18))) (0 : Int32) σ
def F_X9_isResting_2 : Nat → Int32 → Int32 → x_Hp → Option (Int32 × x_Hp)
  | 0, _, _, _ => none
  | n + 1, x1, x2, σ =>
  x_gd (x_inb (σ.1 0 18) 2) <|
  if (σ.1 10 (x_ix (σ.1 0 18))) ≤ x2 then
    some ((1 : Int32), σ)
  else
    x_gd (x_inb (((6 : Int32) * (x1 ^^^ ((1 : Int32) <<< (x2 &&& 31)))) + x2) 384) <|
    x_gd (x_inb (((6 : Int32) * x1) + x2) 384) <|
    if (σ.1 40 (x_ix (((6 : Int32) * (x1 ^^^ ((1 : Int32) <<< (x2 &&& 31)))) + x2))) ≤ (σ.1 40 (x_ix (((6 : Int32) * x1) + x2))) then
      (F_X9_isResting_2 n) x1 (x2 + (1 : Int32)) σ
    else
      some ((0 : Int32), σ)
def F_X9_isResting (x1 : Int32) (σ : x_Hp) : Option (Int32 × x_Hp) :=
  F_X9_isResting_2 x_fuel x1 (0 : Int32) σ
def F_X9_rests_73 (k34 : Int32 → Int32 → Int32 → x_Hp → Option (Int32 × x_Hp)) (x2 : Int32) (x3 : Int32) (x4 : Int32) (σ : x_Hp) : Option (Int32 × x_Hp) :=
  k34 x2 x3 (x4 + (1 : Int32)) σ
def F_X9_rests_34 : Nat → Int32 → Int32 → Int32 → x_Hp → Option (Int32 × x_Hp)
  | 0, _, _, _, _ => none
  | n + 1, x2, x3, x4, σ =>
  x_gd (x_inb (σ.1 0 18) 2) <|
  if ((1 : Int32) <<< ((σ.1 10 (x_ix (σ.1 0 18))) &&& 31)) ≤ x4 then
    if x2 = (-1 : Int32) then
      some (x3, σ)
    else
      some ((-1 : Int32), σ)
  else
    x_b (F_X9_isResting x4 σ) fun v5 σ5 =>
    if v5 = 0 then
      F_X9_rests_73 (F_X9_rests_34 n) x2 x3 x4 σ5
    else
      if x3 = x2 then
        some (x4, σ5)
      else
        F_X9_rests_73 (F_X9_rests_34 n) x2 (x3 + (1 : Int32)) x4 σ5
def F_X9_rests (x1 : Int32) (x2 : Int32) (σ : x_Hp) : Option (Int32 × x_Hp) :=
  x_b (F_X9_isShort x1 σ) fun v1 σ1 =>
  if v1 = 0 then
    some ((-1 : Int32), σ1)
  else
    if (-1 : Int32) ≤ x2 then
      x_b (F_X9_isAwake σ1) fun v2 σ2 =>
      if v2 = 0 then
        some ((-2 : Int32), σ2)
      else
        x_b (F_X9_fillsRests x1 σ2) fun _ σ3 =>
        F_X9_rests_34 x_fuel x2 (0 : Int32) (0 : Int32) σ3
    else
      some ((-1 : Int32), σ1)
def F_X9_silk_27 : Nat → Int32 → Int32 → Int32 → Int32 → x_Hp → Option (Int32 × x_Hp)
  | 0, _, _, _, _, _ => none
  | n + 1, x1, x2, x3, x4, σ =>
  if x2 ≤ x4 then
    some (x3, σ)
  else
    x_b (F_X9_copies σ) fun _ σ3 =>
    x_pt (x_pI σ3 0 50 ((σ3.1 0 50) + x4)) fun σ4 =>
    x_b (F_X9_goes x1 σ4) fun _ σ5 =>
    (F_X9_silk_27 n) x1 x2 (x3 + ((σ5.1 32 15) - (σ5.1 31 15))) (x4 + (1 : Int32)) σ5
def F_X9_silk (x1 : Int32) (x2 : Int32) (σ : x_Hp) : Option (Int32 × x_Hp) :=
  x_b (F_X9_in x1 (0 : Int32) (120 : Int32) σ) fun v1 σ1 =>
  if v1 = 0 then
    some ((-1 : Int32), σ1)
  else
    x_b (F_X9_in x2 (1 : Int32) (20 : Int32) σ1) fun v2 σ2 =>
    if v2 = 0 then
      some ((-1 : Int32), σ2)
    else
      F_X9_silk_27 x_fuel x1 x2 (0 : Int32) (0 : Int32) σ2
def F_X9_common_4 : Nat → Int32 → Int32 → x_Hp → Option (Int32 × x_Hp)
  | 0, _, _, _ => none
  | n + 1, x2, x3, σ =>
  if x3 = 0 then
    some (x2, σ)
  else
    x_gd (!decide (x3 = 0)) <|
    (F_X9_common_4 n) x3 (x2 - x2 / x3 * x3) σ
def F_X9_common (x0 : Int32) (x1 : Int32) (σ : x_Hp) : Option (Int32 × x_Hp) :=
  F_X9_common_4 x_fuel x0 x1 σ
def F_X9_likes (x1 : Int32) (x2 : Int32) (σ : x_Hp) : Option (Int32 × x_Hp) :=
  x_b (F_X9_isAunt x1 σ) fun v1 σ1 =>
  if v1 = 0 then
    some ((-1 : Int32), σ1)
  else
    x_gd (x_inb ((20 : Int32) + x1) 60) <|
    if (σ1.1 31 (x_ix ((20 : Int32) + x1))) = 0 then
      some ((-2 : Int32), σ1)
    else
      x_gd (x_inb ((26 : Int32) + x1) 60) <|
      x_b (F_X9_common (σ1.1 31 (x_ix ((26 : Int32) + x1))) (σ1.1 31 (x_ix ((20 : Int32) + x1))) σ1) fun v4 σ4 =>
      if x2 = 0 then
        x_gd (x_inb ((26 : Int32) + x1) 60) <|
        x_gd (!decide (v4 = 0)) <|
        some ((σ4.1 31 (x_ix ((26 : Int32) + x1))) / v4, σ4)
      else
        x_gd (!decide (v4 = 0)) <|
        some ((σ1.1 31 (x_ix ((20 : Int32) + x1))) / v4, σ4)
def F_X9_tell (x1 : Int32) (x2 : Int32) (σ : x_Hp) : Option (Int32 × x_Hp) :=
  if (σ.1 0 68) = (20 : Int32) then
    some ((-1 : Int32), σ)
  else
    x_b (F_X9_in x1 (0 : Int32) (59 : Int32) σ) fun v1 σ1 =>
    if v1 = 0 then
      some ((-1 : Int32), σ1)
    else
      x_b (F_X9_in x2 (0 : Int32) (99 : Int32) σ1) fun v2 σ2 =>
      if v2 = 0 then
        some ((-1 : Int32), σ2)
      else
        x_gd (x_inb (σ2.1 0 68) 20) <|
        x_pt (x_pI σ2 41 (x_ix (σ2.1 0 68)) x1) fun σ4 =>
        x_gd (x_inb (σ4.1 0 68) 20) <|
        x_pt (x_pI σ4 42 (x_ix (σ4.1 0 68)) x2) fun σ6 =>
        x_pt (x_pI σ6 0 68 ((σ6.1 0 68) + (1 : Int32))) fun σ7 =>
        some ((σ7.1 0 68) - (1 : Int32), σ7)
def F_X9_forget (σ : x_Hp) : Option (Int32 × x_Hp) :=
  x_pt (x_pI σ 0 68 (0 : Int32)) fun σ1 =>
  some (σ.1 0 68, σ1)
def F_X9_isSo_100 (k50 : Int32 → Int32 → Int32 → x_Hp → Option (Int32 × x_Hp)) (k63 : Int32 → Int32 → Int32 → Int32 → x_Hp → Option (Int32 × x_Hp)) (x2 : Int32) (x3 : Int32) (x4 : Int32) (x5 : Int32) (σ : x_Hp) : Option (Int32 × x_Hp) :=
  k63 x2 x3 x4 (x5 + (1 : Int32)) σ
def F_X9_isSo_63 (k50 : Int32 → Int32 → Int32 → x_Hp → Option (Int32 × x_Hp)) : Nat → Int32 → Int32 → Int32 → Int32 → x_Hp → Option (Int32 × x_Hp)
  | 0, _, _, _, _, _ => none
  | n + 1, x2, x3, x4, x5, σ =>
  if x2 ≤ x5 then
    k50 x2 x3 (x4 + (1 : Int32)) σ
  else
    x_gd (x_inb x5 20) <|
    if (σ.1 41 (x_ix x5)) = x4 then
      x_gd (x_inb x5 20) <|
      if (σ.1 32 6) = (σ.1 42 (x_ix x5)) then
        F_X9_isSo_100 k50 (F_X9_isSo_63 k50 n) x2 x3 x4 x5 σ
      else
        some ((0 : Int32), σ)
    else
      F_X9_isSo_100 k50 (F_X9_isSo_63 k50 n) x2 x3 x4 x5 σ
def F_X9_isSo_50 : Nat → Int32 → Int32 → Int32 → x_Hp → Option (Int32 × x_Hp)
  | 0, _, _, _, _ => none
  | n + 1, x2, x3, x4, σ =>
  if x3 < x4 then
    some ((1 : Int32), σ)
  else
    x_b (F_X9_minuteGoes σ) fun _ σ5 =>
    F_X9_isSo_63 (F_X9_isSo_50 n) x_fuel x2 x3 x4 (0 : Int32) σ5
def F_X9_isSo_41 (k16 : Int32 → Int32 → Int32 → x_Hp → Option (Int32 × x_Hp)) (x2 : Int32) (x3 : Int32) (x4 : Int32) (σ : x_Hp) : Option (Int32 × x_Hp) :=
  k16 x2 x3 (x4 + (1 : Int32)) σ
def F_X9_isSo_16 : Nat → Int32 → Int32 → Int32 → x_Hp → Option (Int32 × x_Hp)
  | 0, _, _, _, _ => none
  | n + 1, x2, x3, x4, σ =>
  if x2 ≤ x4 then
    F_X9_isSo_50 x_fuel x2 x3 (0 : Int32) σ
  else
    x_gd (x_inb x4 20) <|
    if (σ.1 41 (x_ix x4)) ≤ x3 then
      F_X9_isSo_41 (F_X9_isSo_16 n) x2 x3 x4 σ
    else
      x_gd (x_inb x4 20) <|
      F_X9_isSo_41 (F_X9_isSo_16 n) x2 (σ.1 41 (x_ix x4)) x4 σ
def F_X9_isSo (x1 : Int32) (x2 : Int32) (σ : x_Hp) : Option (Int32 × x_Hp) :=
  x_b (F_X9_begins σ) fun _ σ1 =>
  x_pt (x_pI σ1 32 0 x1) fun σ2 =>
  F_X9_isSo_16 x_fuel x2 (-1 : Int32) (0 : Int32) σ2
def F_X9_fed_55 (k24 : Int32 → Int32 → Int32 → Int32 → x_Hp → Option (Int32 × x_Hp)) (x1 : Int32) (x2 : Int32) (x3 : Int32) (x4 : Int32) (σ : x_Hp) : Option (Int32 × x_Hp) :=
  k24 x1 x2 x3 (x4 + (1 : Int32)) σ
def F_X9_fed_24 : Nat → Int32 → Int32 → Int32 → Int32 → x_Hp → Option (Int32 × x_Hp)
  | 0, _, _, _, _, _ => none
  | n + 1, x1, x2, x3, x4, σ =>
  if (100 : Int32) ≤ x4 then
    if x2 = (-1 : Int32) then
      some (x3, σ)
    else
      some ((-1 : Int32), σ)
  else
    x_b (F_X9_isSo x4 x1 σ) fun v2 σ2 =>
    if v2 = 0 then
      F_X9_fed_55 (F_X9_fed_24 n) x1 x2 x3 x4 σ2
    else
      if x3 = x2 then
        some (x4, σ2)
      else
        F_X9_fed_55 (F_X9_fed_24 n) x1 x2 (x3 + (1 : Int32)) x4 σ2
def F_X9_fed (x1 : Int32) (x2 : Int32) (σ : x_Hp) : Option (Int32 × x_Hp) :=
  x_b (F_X9_in x1 (0 : Int32) (σ.1 0 68) σ) fun v1 σ1 =>
  if v1 = 0 then
    some ((-1 : Int32), σ1)
  else
    if (-1 : Int32) ≤ x2 then
      F_X9_fed_24 x_fuel x1 x2 (0 : Int32) (0 : Int32) σ1
    else
      some ((-1 : Int32), σ1)
def F_X9_hold_20 : Nat → Int32 → Int32 → x_Hp → Option (Int32 × x_Hp)
  | 0, _, _, _ => none
  | n + 1, x1, x2, σ =>
  if (60 : Int32) ≤ x2 then
    some ((1 : Int32), σ)
  else
    x_gd (x_inb x2 60) <|
    x_gd (x_inb (((60 : Int32) * x1) + x2) 180) <|
    x_pt (x_pI σ 44 (x_ix (((60 : Int32) * x1) + x2)) (σ.1 31 (x_ix x2))) fun σ6 =>
    (F_X9_hold_20 n) x1 (x2 + (1 : Int32)) σ6
def F_X9_hold (x1 : Int32) (σ : x_Hp) : Option (Int32 × x_Hp) :=
  x_b (F_X9_in x1 (0 : Int32) (2 : Int32) σ) fun v1 σ1 =>
  if v1 = 0 then
    some ((0 : Int32), σ1)
  else
    x_gd (x_inb x1 3) <|
    x_pt (x_pI σ1 43 (x_ix x1) (vp_nar .boolean (1 : Int32))) fun σ3 =>
    F_X9_hold_20 x_fuel x1 (0 : Int32) σ3
def F_X9_restore_22 : Nat → Int32 → Int32 → x_Hp → Option (Int32 × x_Hp)
  | 0, _, _, _ => none
  | n + 1, x1, x2, σ =>
  if (60 : Int32) ≤ x2 then
    x_pt (x_pI σ 0 54 (0 : Int32)) fun σ3 =>
    some ((1 : Int32), σ3)
  else
    x_gd (x_inb (((60 : Int32) * x1) + x2) 180) <|
    x_gd (x_inb x2 60) <|
    x_pt (x_pI σ 31 (x_ix x2) (σ.1 44 (x_ix (((60 : Int32) * x1) + x2)))) fun σ6 =>
    (F_X9_restore_22 n) x1 (x2 + (1 : Int32)) σ6
def F_X9_restore (x1 : Int32) (σ : x_Hp) : Option (Int32 × x_Hp) :=
  x_b (F_X9_in x1 (0 : Int32) (2 : Int32) σ) fun v1 σ1 =>
  if v1 = 0 then
    some ((0 : Int32), σ1)
  else
    x_gd (x_inb x1 3) <|
    if (σ1.1 43 (x_ix x1)) = 0 then
      some ((0 : Int32), σ1)
    else
      F_X9_restore_22 x_fuel x1 (0 : Int32) σ1
def F_X9_count_135 (s0 : Int32) (s1 : Int32) (σ : x_Hp) : Option (Int32 × x_Hp) :=
  if (σ.1 43 2) = 0 then
    some ((s1 + s0) + (0 : Int32), σ)
  else
    some ((s1 + s0) + (1 : Int32), σ)
def F_X9_count_121 (s0 : Int32) (σ : x_Hp) : Option (Int32 × x_Hp) :=
  if (σ.1 43 1) = 0 then
    F_X9_count_135 (0 : Int32) s0 σ
  else
    F_X9_count_135 (1 : Int32) s0 σ
def F_X9_count (x1 : Int32) (σ : x_Hp) : Option (Int32 × x_Hp) :=
  if x1 = (0 : Int32) then
    x_gd (x_inb (σ.1 0 18) 2) <|
    some (σ.1 10 (x_ix (σ.1 0 18)), σ)
  else
  if x1 = (1 : Int32) then
    x_gd (x_inb ((11 : Int32) + x1) 60) <|
    some (σ.1 31 (x_ix ((11 : Int32) + x1)), σ)
  else
  if x1 = (2 : Int32) then
    x_gd (x_inb ((11 : Int32) + x1) 60) <|
    some (σ.1 31 (x_ix ((11 : Int32) + x1)), σ)
  else
  if x1 = (3 : Int32) then
    x_gd (x_inb ((11 : Int32) + x1) 60) <|
    some (σ.1 31 (x_ix ((11 : Int32) + x1)), σ)
  else
  if x1 = (4 : Int32) then
    x_gd (x_inb ((11 : Int32) + x1) 60) <|
    some (σ.1 31 (x_ix ((11 : Int32) + x1)), σ)
  else
  if x1 = (5 : Int32) then
    x_gd (x_inb ((11 : Int32) + x1) 60) <|
    some (σ.1 31 (x_ix ((11 : Int32) + x1)), σ)
  else
  if x1 = (6 : Int32) then
    x_gd (x_inb ((11 : Int32) + x1) 60) <|
    some (σ.1 31 (x_ix ((11 : Int32) + x1)), σ)
  else
  if x1 = (7 : Int32) then
    some (σ.1 0 2, σ)
  else
  if x1 = (8 : Int32) then
    some (σ.1 0 54, σ)
  else
  if x1 = (9 : Int32) then
    some (σ.1 0 68, σ)
  else
  if x1 = (10 : Int32) then
    if (σ.1 43 0) = 0 then
      F_X9_count_121 (0 : Int32) σ
    else
      F_X9_count_121 (1 : Int32) σ
  else
  if x1 = (11 : Int32) then
    x_gd (x_inb (σ.1 0 18) 2) <|
    some (σ.1 16 (x_ix (σ.1 0 18)), σ)
  else
  if x1 = (12 : Int32) then
    x_gd (x_inb (σ.1 0 18) 2) <|
    some (σ.1 17 (x_ix (σ.1 0 18)), σ)
  else
  if x1 = (13 : Int32) then
    some (σ.1 31 18, σ)
  else
  some ((-1 : Int32), σ)

/-! THE MATHEMATICAL VALUES: a state (20 numbers, then 42 tallies), a text (what is told at 1, 3 .. 7; its laws as lists of steps) -/
abbrev x_V : Type := Nat → Int32
abbrev x_LW : Type := Nat → List (List Int32 × List Int32 × List Int32) × List Int32
abbrev x_TT : Type := (Nat → Nat → Int32) × x_LW
def m_var (v : x_V) (k : Int32) : Int32 := if k = 0 then v 0 else if k = 1 then v 1 else if k = 2 then v 2 else if k = 3 then v 3 else if k = 4 then v 4 else if k = 5 then v 5 else if k = 6 then v 6 else if k = 7 then v 7 else v 8
def m_join (sg l r : Int32) : Int32 × Bool := if sg = 42 then (l * r, false) else if sg = 43 then (l + r, false) else if sg = 45 then (l - r, false) else if r = 0 then (0, true) else (l / r, false)
def m_run (v : x_V) : List Int32 → List Int32 → Bool → List Int32 × Bool
  | [], st, d => (st, d)
  | c :: cs, st, d => if c < 20000 then m_run v cs ((if c < 10000 then c else m_var v (c - 10000)) :: st) d else match st with
    | r :: l :: st2 => m_run v cs ((m_join (c - 20000) l r).1 :: st2) (d || (m_join (c - 20000) l r).2)
    | st => (st, d)
def m_val (v : x_V) (cs : List Int32) : Int32 × Bool := ((m_run v cs [] false).1.headD 0, (m_run v cs [] false).2)
def m_br (v : x_V) : List (List Int32 × List Int32 × List Int32) → List Int32 → Int32 × Bool
  | [], z => m_val v z
  | q :: qs, z => if (m_val v q.1).2 = true then (0, true) else if (m_val v q.2.1).2 = true then (0, true) else if (m_val v q.1).1 < (m_val v q.2.1).1 then m_val v q.2.2 else m_br v qs z
def m_tells (T : x_TT) (k : Nat) (v : x_V) : Int32 := x_wi (if (m_br v (T.2 k).1 (T.2 k).2).2 = true then 0 else (m_br v (T.2 k).1 (T.2 k).2).1) (x_sv_LEAST_TOLD (nI k)) (x_sv_MOST_TOLD_BY (nI k))
/-- how deep a row of steps lays its pile, from d on: none if it can't be -/
def m_dep : List Int32 → Nat → Option Nat
  | [], d => some d
  | c :: cs, d => if c < 20000 then (if d < 20 then m_dep cs (d + 1) else none) else if 2 ≤ d then m_dep cs (d - 1) else none
def m_ok (cs : List Int32) : Prop := m_dep cs 0 = some 1
def m_tm (v : x_V) (what more : Int32) : x_V := if x_inb (v 9 * 7 + what) 42 = true then x_u v (20 + x_ix (v 9 * 7 + what)) (v (20 + x_ix (v 9 * 7 + what)) + more) else v
def m_fall (v : x_V) : x_V := x_u (x_u v 13 60) 17 (v 17 + 1)
def m_mix (h w : Int32) : Int32 := let x := (h ^^^ w) * 1103515245 + 12345; x ^^^ (x.toUInt32 >>> ((15 : Int32).toUInt32 &&& Int32.toUInt32 31)).toInt32
def m_lot (seed w : Int32) : Int32 := let x := ((m_mix (m_mix seed 37) w).toUInt32 >>> ((1 : Int32).toUInt32 &&& Int32.toUInt32 31)).toInt32; x - x / 100 * 100
def m_sp1 (v : x_V) : x_V := m_tm (x_u v 3 0) 6 1
def m_spit (T : x_TT) (v : x_V) : x_V := if m_sp1 v 14 = 0 then m_tm (m_sp1 v) 4 (if x_inb (m_sp1 v 9) 6 = true then T.1 6 (x_ix (m_sp1 v 9)) else 0) else m_sp1 v
def m_w1 (T : x_TT) (v : x_V) : x_V := x_u (x_u (x_u (x_u v 0 (x_wi (v 0 + m_tells T 0 v) 0 99)) 1 (x_wi (v 1 + m_tells T 1 v) 0 99)) 2 (x_wi (v 2 + m_tells T 2 v) 0 99)) 3 (x_wi (v 3 + m_tells T 3 v) 0 99)
def m_w2 (T : x_TT) (v : x_V) : x_V := x_u (x_u v 4 (v 4 + 1)) 12 (m_tells T 4 (x_u v 4 (v 4 + 1)))
def m_w3 (v : x_V) : x_V := m_tm (m_tm v 0 1) 1 ((m_tm v 0 1) 12)
def m_w4 (v : x_V) : x_V := if v 12 = 0 then (if v 2 < 50 then v else m_tm v 2 1) else v
def m_w5 (T : x_TT) (v : x_V) : x_V := if m_tells T 6 v ≤ m_lot (v 16) (v 15) then v else m_spit T v
def m_w6 (T : x_TT) (v : x_V) : x_V := if m_tells T 5 v ≤ 0 then v else m_fall v
def m_awake (T : x_TT) (v : x_V) : x_V := m_w6 T (m_w5 T (m_w4 (m_w3 (m_w2 T (m_w1 T v)))))
def m_sl1 (T : x_TT) (v : x_V) : x_V := x_u (m_tm (x_u v 0 (x_wi (v 0 + m_tells T 0 v) 0 99)) 3 1) 12 0
def m_sl2 (v : x_V) : x_V := x_u v 13 (v 13 - 1)
def m_asleep (T : x_TT) (v : x_V) : x_V := if m_sl2 (m_sl1 T v) 13 = 0 then x_u (x_u (m_sl2 (m_sl1 T v)) 1 0) 4 0 else m_sl2 (m_sl1 T v)
def m_mn (T : x_TT) (v : x_V) : x_V := if T.1 1 7 ≤ 0 then v else if v 13 ≤ 0 then m_awake T v else m_asleep T v
def m_step (T : x_TT) (v : x_V) : x_V := x_u (m_mn T v) 15 (m_mn T v 15 + 1)
def m_atT (T : x_TT) (r n : Nat) (x : Int32) : Int32 := if x_inb x n = true then T.1 r (x_ix x) else 0
def m_gv (T : x_TT) (v : x_V) (a : Int32) : x_V := x_u (x_u (x_u (x_u (x_u v 9 a) 4 0) 5 (m_atT T 3 6 a)) 6 (m_atT T 4 6 a)) 7 (m_atT T 5 6 a)
def m_give (T : x_TT) (v : x_V) (a : Int32) : x_V := if a < 0 then m_gv T v a else x_u (m_gv T v a) 19 (m_gv T v a 19 ||| ((1 : Int32) <<< (a &&& 31)))
def m_ov (v : x_V) : x_V := x_u (x_u (x_u v 11 (v 10)) 10 (v 9)) 18 (v 18 + 1)
def m_fr (T : x_TT) (v : x_V) (a : Int32) : x_V := if a = v 10 then v else if a = v 11 then v else x_u v 2 (if v 2 + T.1 1 4 < 99 then v 2 + T.1 1 4 else 99)
def m_over (T : x_TT) (v : x_V) (a : Int32) : x_V := m_give T (m_ov (m_fr T v a)) a
def m_feed (T : x_TT) (v : x_V) : x_V := x_u (x_u v 0 0) 3 (if v 3 + T.1 1 5 < 99 then v 3 + T.1 1 5 else 99)
def m_goes (T : x_TT) : Nat → x_V → x_V
  | 0, v => v
  | n + 1, v => m_goes T n (m_step T v)
def m_tal (v : x_V) (a what : Int32) : Int32 := if x_inb (a * 7 + what) 42 = true then v (20 + x_ix (a * 7 + what)) else 0
def m_all (v : x_V) (what : Int32) : Int32 := ((((((0 + m_tal v 0 what) + m_tal v 1 what) + m_tal v 2 what) + m_tal v 3 what) + m_tal v 4 what) + m_tal v 5 what)
def m_kp (T : x_TT) : Nat → x_V → Int32 → x_V
  | 0, v, _ => v
  | n + 1, v, l => if 0 < l ∨ ¬ v 13 ≤ 0 then m_kp T n (m_step T v) (if v 13 = 0 then l - 1 else l) else v
def m_keep (T : x_TT) (v : x_V) (a : Int32) (m : Nat) : x_V := m_kp T (m * 61) (if v 9 = a then v else m_over T v a) (nI m)
def m_beh (T : x_TT) (a : Int32) : Int32 := if T.1 1 7 ≤ a + 1 then 0 else a + 1
def m_few (v : x_V) : Nat → Nat → Int32 → Int32
  | 0, _, f => f
  | n + 1, i, f => m_few v n (i + 1) (if nI i = v 9 then f else if f = v 9 then nI i else if m_tal v f 0 ≤ m_tal v (nI i) 0 then f else nI i)
def m_tg (T : x_TT) (N : Nat) (rule m : Int32) (v : x_V) : Int32 :=
  if rule = 0 ∧ m ≤ v 4 then m_beh T (v 9) else if rule = 1 ∧ m ≤ v 12 then m_beh T (v 9) else if rule = 2 ∧ m ≤ v 4 then m_few v N 0 (v 9) else v 9
def m_ru (T : x_TT) (N : Nat) (rule m : Int32) (v : x_V) : x_V :=
  m_step T (if v 13 = 0 then (if m_tg T N rule m v = v 9 then v else m_over T v (m_tg T N rule m v)) else v)
def m_rus (T : x_TT) (N : Nat) (rule m : Int32) : Nat → x_V → x_V
  | 0, v => v
  | n + 1, v => m_rus T N rule m n (m_ru T N rule m v)
def m_beg0 (T : x_TT) : x_V := fun k => if k < 4 then T.1 1 k else if k = 16 then T.1 1 6 else if k = 10 ∨ k = 11 then -2 else 0
def m_beg (T : x_TT) : x_V := m_give T (m_beg0 T) (if T.1 1 7 ≤ 0 then -2 else 0)
/-- does it sleep behind one of the minutes in which she keeps it -/
def m_kq (T : x_TT) : Nat → x_V → Int32 → Bool
  | 0, _, _ => false
  | n + 1, v, l => if 0 < l ∨ ¬ v 13 ≤ 0 then (!decide (m_step T v 13 ≤ 0)) || m_kq T n (m_step T v) (if v 13 = 0 then l - 1 else l) else false

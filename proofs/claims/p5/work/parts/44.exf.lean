/-! THE EXACT LOGIC: feed() of both as functions over memory (printed by a program of ours). -/
def f_10_hasRoom (C : ev_C) (x1 : Int) : Option (Int × ev_C) :=
  if 940 < ev_w (((C 10 1)) + x1) then
    some (0, C)
  else
    some (1, C)
def f_10_append (C : ev_C) (x1 : Int) : Option ev_C :=
  ev_bd (f_10_hasRoom C (4)) fun r1 C1 =>
  if r1 ≠ 0 then
    if 0 ≤ (C1 10 1) ∧ (C1 10 1) < 940 then
      if 0 ≤ ev_w (((C1 10 1)) + (1 : Int)) ∧ ev_w (((C1 10 1)) + (1 : Int)) < 940 then
        if 0 ≤ ev_w (((C1 10 1)) + (2 : Int)) ∧ ev_w (((C1 10 1)) + (2 : Int)) < 940 then
          if 0 ≤ ev_w (((C1 10 1)) + (3 : Int)) ∧ ev_w (((C1 10 1)) + (3 : Int)) < 940 then
            some (ev_u (ev_u (ev_u (ev_u (ev_u C1 15 (Int.toNat ((C1 10 1))) (ev_b8 (ev_b8 (ev_shr x1 24)))) 15 (Int.toNat (ev_w (((C1 10 1)) + (1 : Int)))) (ev_b8 (ev_b8 (ev_shr x1 16)))) 15 (Int.toNat (ev_w (((C1 10 1)) + (2 : Int)))) (ev_b8 (ev_b8 (ev_shr x1 8)))) 15 (Int.toNat (ev_w (((C1 10 1)) + (3 : Int)))) (ev_b8 (ev_b8 x1))) 10 1 (ev_w (((C1 10 1)) + (4 : Int))))
          else none
        else none
      else none
    else none
  else
    some C1
def f_11_feed (C : ev_C) (x1 x2 x3 x4 x5 : Int) : Option (Int × ev_C) :=
  ev_bd (f_10_hasRoom C (20)) fun r1 C1 =>
  if r1 ≠ 0 then
    ev_bv (f_10_append C1 x1) fun C3 =>
    ev_bv (f_10_append C3 x2) fun C4 =>
    ev_bv (f_10_append C4 x3) fun C5 =>
    ev_bv (f_10_append C5 x4) fun C6 =>
    ev_bv (f_10_append C6 x5) fun C7 =>
    some ((C7 10 1), C7)
  else
    some (-1, C1)
def f_12_four_L3 : Nat → ev_C → Int → Int → Option ev_C
  | 0, _, _, _ => none
  | n + 1, C, y1, y2 =>
    if y2 < 0 then
      some C
    else
      if 0 ≤ (C 12 2) ∧ (C 12 2) < 940 then
        f_12_four_L3 n (ev_u (ev_u C 49 (Int.toNat ((C 12 2))) (ev_b8 (ev_b8 (ev_shr y1 y2)))) 12 2 (ev_w (((C 12 2)) + (1 : Int)))) y1 (ev_w (y2 + (-8)))
      else none
def f_12_four (C : ev_C) (x1 : Int) : Option ev_C :=
  f_12_four_L3 1000 C x1 (24)
def f_12_feed (C : ev_C) (x1 x2 x3 x4 x5 : Int) : Option (Int × ev_C) :=
  if ev_w (((C 12 2)) + (20 : Int)) ≤ 940 then
    ev_bv (f_12_four (ev_u C 12 0 0) x1) fun C2 =>
    ev_bv (f_12_four C2 x2) fun C3 =>
    ev_bv (f_12_four C3 x3) fun C4 =>
    ev_bv (f_12_four C4 x4) fun C5 =>
    ev_bv (f_12_four C5 x5) fun C6 =>
    some ((C6 12 2), C6)
  else
    some (-1, (ev_u C 12 0 0))

/-! THE EXACT LOGIC: count(), act(), scene() of both as functions over memory (printed by a program of ours). -/
def f_11_count (C : ev_C) (x1 : Int) : Option (Int × ev_C) :=
  if x1 = 0 then
    some ((C 6 0), C)
  else
  if x1 = 1 then
    some ((C 6 1), C)
  else
  if x1 = 2 then
    some ((C 6 2), C)
  else
  if x1 = 3 then
    some ((C 6 3), C)
  else
  if x1 = 4 then
    some ((C 6 4), C)
  else
  if x1 = 5 then
    if (C 6 5) = 0 then
      some (0, C)
    else
      some (1, C)
  else
  if x1 = 6 then
    some ((C 10 1), C)
  else
  some (-1, C)
def f_12_count (C : ev_C) (x1 : Int) : Option (Int × ev_C) :=
  if x1 ≠ 6 then
    ev_bd (f_12_isIn (ev_u C 12 0 0) x1 (0) (5)) fun r2 C2 =>
    if r2 = 0 then
      some (-1, C2)
    else
      if 0 ≤ x1 ∧ x1 < 367 then
        some ((C2 34 (Int.toNat x1)), C2)
      else none
  else
    some ((C 12 2), (ev_u C 12 0 0))
def f_6_scenesOf_J25 (K4 : ev_C → Int → Int → Int → Option (Int × ev_C)) (C : ev_C) (y1 y2 y3 : Int) : Option (Int × ev_C) :=
  K4 C y1 y2 (ev_w (y3 + 1))
def f_6_scenesOf_L4 : Nat → ev_C → Int → Int → Int → Option (Int × ev_C)
  | 0, _, _, _, _ => none
  | n + 1, C, y1, y2, y3 =>
    if (C 6 4) ≤ y3 then
      some (y2, C)
    else
      if 0 ≤ y3 ∧ y3 < 12 then
        if (C 78 (Int.toNat y3)) ≠ y1 then
          f_6_scenesOf_J25 (f_6_scenesOf_L4 n) C y1 y2 y3
        else
          f_6_scenesOf_J25 (f_6_scenesOf_L4 n) C y1 (ev_w (y2 + 1)) y3
      else none
def f_6_scenesOf (C : ev_C) (x1 : Int) : Option (Int × ev_C) :=
  f_6_scenesOf_L4 1000 C x1 (0) (0)
def f_6_partsOf_J31 (K4 : ev_C → Int → Int → Int → Option (Int × ev_C)) (C : ev_C) (y1 y2 y3 : Int) : Option (Int × ev_C) :=
  K4 C y1 y2 (ev_w (y3 + 1))
def f_6_partsOf_L4 : Nat → ev_C → Int → Int → Int → Option (Int × ev_C)
  | 0, _, _, _, _ => none
  | n + 1, C, y1, y2, y3 =>
    if (C 6 4) ≤ y3 then
      some (y2, C)
    else
      if 0 ≤ y3 ∧ y3 < 12 then
        if (C 78 (Int.toNat y3)) ≠ y1 then
          f_6_partsOf_J31 (f_6_partsOf_L4 n) C y1 y2 y3
        else
          if 0 ≤ y3 ∧ y3 < 12 then
            f_6_partsOf_J31 (f_6_partsOf_L4 n) C y1 (ev_or y2 ((C 79 (Int.toNat y3)))) y3
          else none
      else none
def f_6_partsOf (C : ev_C) (x1 : Int) : Option (Int × ev_C) :=
  f_6_partsOf_L4 1000 C x1 (0) (0)
def f_6_factsOf_J31 (K4 : ev_C → Int → Int → Int → Option (Int × ev_C)) (C : ev_C) (y1 y2 y3 : Int) : Option (Int × ev_C) :=
  K4 C y1 y2 (ev_w (y3 + 1))
def f_6_factsOf_L4 : Nat → ev_C → Int → Int → Int → Option (Int × ev_C)
  | 0, _, _, _, _ => none
  | n + 1, C, y1, y2, y3 =>
    if (C 6 4) ≤ y3 then
      some (y2, C)
    else
      if 0 ≤ y3 ∧ y3 < 12 then
        if (C 78 (Int.toNat y3)) ≠ y1 then
          f_6_factsOf_J31 (f_6_factsOf_L4 n) C y1 y2 y3
        else
          if 0 ≤ y3 ∧ y3 < 12 then
            f_6_factsOf_J31 (f_6_factsOf_L4 n) C y1 (ev_or y2 ((C 80 (Int.toNat y3)))) y3
          else none
      else none
def f_6_factsOf (C : ev_C) (x1 : Int) : Option (Int × ev_C) :=
  f_6_factsOf_L4 1000 C x1 (0) (0)
def f_11_act (C : ev_C) (x1 x2 : Int) : Option (Int × ev_C) :=
  if x1 < 0 then
    some (-1, C)
  else
    if x1 < (C 6 3) then
      if x2 = 0 then
        ev_bd (f_6_scenesOf C x1) fun r4 C4 =>
        some (r4, C4)
      else
      if x2 = 1 then
        ev_bd (f_6_partsOf C x1) fun r6 C6 =>
        some (r6, C6)
      else
      if x2 = 2 then
        ev_bd (f_6_factsOf C x1) fun r8 C8 =>
        some (r8, C8)
      else
      some (-1, C)
    else
      some (-1, C)
def f_12_factsOf_J42 (K4 : ev_C → Int → Int → Int → Option (Int × ev_C)) (C : ev_C) (y1 y2 y3 w0 w1 : Int) : Option (Int × ev_C) :=
  K4 C y1 (ev_or w1 w0) (ev_w (y3 + 1))
def f_12_factsOf_L4 : Nat → ev_C → Int → Int → Int → Option (Int × ev_C)
  | 0, _, _, _, _ => none
  | n + 1, C, y1, y2, y3 =>
    if (C 34 4) ≤ y3 then
      some (y2, C)
    else
      if 0 ≤ ev_w ((104 : Int) + y3) ∧ ev_w ((104 : Int) + y3) < 367 then
        if (C 34 (Int.toNat (ev_w ((104 : Int) + y3)))) ≠ y1 then
          f_12_factsOf_J42 (f_12_factsOf_L4 n) C y1 y2 y3 (0) y2
        else
          if 0 ≤ ev_w ((128 : Int) + y3) ∧ ev_w ((128 : Int) + y3) < 367 then
            f_12_factsOf_J42 (f_12_factsOf_L4 n) C y1 y2 y3 ((C 34 (Int.toNat (ev_w ((128 : Int) + y3))))) y2
          else none
      else none
def f_12_factsOf (C : ev_C) (x1 : Int) : Option (Int × ev_C) :=
  f_12_factsOf_L4 1000 C x1 (0) (0)
def f_12_partsOf_J41 (K4 : ev_C → Int → Int → Int → Option (Int × ev_C)) (C : ev_C) (y1 y2 y3 w0 w1 : Int) : Option (Int × ev_C) :=
  K4 C y1 (ev_or w1 w0) (ev_w (y3 + 1))
def f_12_partsOf_L4 : Nat → ev_C → Int → Int → Int → Option (Int × ev_C)
  | 0, _, _, _, _ => none
  | n + 1, C, y1, y2, y3 =>
    if (C 34 4) ≤ y3 then
      some (y2, C)
    else
      if 0 ≤ ev_w ((104 : Int) + y3) ∧ ev_w ((104 : Int) + y3) < 367 then
        if (C 34 (Int.toNat (ev_w ((104 : Int) + y3)))) ≠ y1 then
          f_12_partsOf_J41 (f_12_partsOf_L4 n) C y1 y2 y3 (0) y2
        else
          if 0 ≤ ev_w ((116 : Int) + y3) ∧ ev_w ((116 : Int) + y3) < 367 then
            f_12_partsOf_J41 (f_12_partsOf_L4 n) C y1 y2 y3 ((C 34 (Int.toNat (ev_w ((116 : Int) + y3))))) y2
          else none
      else none
def f_12_partsOf (C : ev_C) (x1 : Int) : Option (Int × ev_C) :=
  f_12_partsOf_L4 1000 C x1 (0) (0)
def f_12_act_J68 (K37 : ev_C → Int → Int → Int → Int → Option (Int × ev_C)) (C : ev_C) (y1 y2 y3 y4 w0 w1 : Int) : Option (Int × ev_C) :=
  K37 C y1 y2 (ev_w (w1 + w0)) (ev_w (y4 + 1))
def f_12_act_L37 : Nat → ev_C → Int → Int → Int → Int → Option (Int × ev_C)
  | 0, _, _, _, _, _ => none
  | n + 1, C, y1, y2, y3, y4 =>
    if (C 34 4) ≤ y4 then
      if y2 ≠ 0 then
        if y2 ≠ 1 then
          ev_bd (f_12_factsOf C y1) fun r8 C8 =>
          some (r8, C8)
        else
          ev_bd (f_12_partsOf C y1) fun r9 C9 =>
          some (r9, C9)
      else
        some (y3, C)
    else
      if 0 ≤ ev_w ((104 : Int) + y4) ∧ ev_w ((104 : Int) + y4) < 367 then
        if (C 34 (Int.toNat (ev_w ((104 : Int) + y4)))) ≠ y1 then
          f_12_act_J68 (f_12_act_L37 n) C y1 y2 y3 y4 (0) y3
        else
          f_12_act_J68 (f_12_act_L37 n) C y1 y2 y3 y4 (1) y3
      else none
def f_12_act (C : ev_C) (x1 x2 : Int) : Option (Int × ev_C) :=
  ev_bd (f_12_isIn (ev_u C 12 0 0) x1 (0) (ev_w (((C 34 3)) - (1 : Int)))) fun r1 C1 =>
  if r1 = 0 then
    some (-1, C1)
  else
    ev_bd (f_12_isIn C1 x2 (0) (2)) fun r3 C3 =>
    if r3 ≠ 0 then
      f_12_act_L37 1000 C3 x1 x2 (0) (0)
    else
      some (-1, C3)
def f_11_scene (C : ev_C) (x1 x2 : Int) : Option (Int × ev_C) :=
  if x1 < 0 then
    some (-1, C)
  else
    if x1 < (C 6 4) then
      if x2 = 0 then
        if 0 ≤ x1 ∧ x1 < 12 then
          some ((C 78 (Int.toNat x1)), C)
        else none
      else
      if x2 = 1 then
        if 0 ≤ x1 ∧ x1 < 12 then
          some ((C 79 (Int.toNat x1)), C)
        else none
      else
      if x2 = 2 then
        if 0 ≤ x1 ∧ x1 < 12 then
          some ((C 80 (Int.toNat x1)), C)
        else none
      else
      some (-1, C)
    else
      some (-1, C)
def f_12_scene (C : ev_C) (x1 x2 : Int) : Option (Int × ev_C) :=
  ev_bd (f_12_isIn (ev_u C 12 0 0) x1 (0) (ev_w (((C 34 4)) - (1 : Int)))) fun r1 C1 =>
  if r1 ≠ 0 then
    if x2 ≠ 0 then
      if x2 ≠ 1 then
        if x2 ≠ 2 then
          some (-1, C1)
        else
          if 0 ≤ ev_w ((128 : Int) + x1) ∧ ev_w ((128 : Int) + x1) < 367 then
            some ((C1 34 (Int.toNat (ev_w ((128 : Int) + x1)))), C1)
          else none
      else
        if 0 ≤ ev_w ((116 : Int) + x1) ∧ ev_w ((116 : Int) + x1) < 367 then
          some ((C1 34 (Int.toNat (ev_w ((116 : Int) + x1)))), C1)
        else none
    else
      if 0 ≤ ev_w ((104 : Int) + x1) ∧ ev_w ((104 : Int) + x1) < 367 then
        some ((C1 34 (Int.toNat (ev_w ((104 : Int) + x1)))), C1)
      else none
  else
    some (-1, C1)

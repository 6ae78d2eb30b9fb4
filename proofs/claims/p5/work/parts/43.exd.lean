/-! THE EXACT LOGIC: the methods as functions over memory (printed by a program of ours). -/
/-- sorts whose one cell is known place by place -/
def ev_TR (t : Nat) : Bool := (5192296858534827628363490821537617 / 2 ^ t) % 2 == 1
def f_10_byteAt (C : ev_C) (x1 : Int) : Option (Int × ev_C) :=
  if x1 < 0 then
    some (0, C)
  else
    if 940 ≤ x1 then
      some (0, C)
    else
      if 0 ≤ x1 ∧ x1 < 940 then
        some (ev_and ((C 15 (Int.toNat x1))) 255, C)
      else none
def f_8_isLetter (C : ev_C) (x0 : Int) : Option (Int × ev_C) :=
  if x0 < 97 then
    some (0, C)
  else
    if 122 < x0 then
      some (0, C)
    else
      some (1, C)
def f_8_indexOf_16_L3 : Nat → ev_C → Int → Int → Int → Option (Int × ev_C)
  | 0, _, _, _, _ => none
  | n + 1, C, y1, y2, y4 =>
    if y1 ≤ y4 then
      some (-1, C)
    else
      if 27 ≤ y4 then
        some (-1, C)
      else
        if 0 ≤ y4 ∧ y4 < 27 then
          if ev_cmp ((C 16 (Int.toNat y4))) y2 ≠ 0 then
            f_8_indexOf_16_L3 n C y1 y2 (ev_w (y4 + 1))
          else
            some (y4, C)
        else none
def f_8_indexOf_16 (C : ev_C) (x1 x2 : Int) : Option (Int × ev_C) :=
  f_8_indexOf_16_L3 1000 C x1 x2 (0)
def f_8_isDigit (C : ev_C) (x0 : Int) : Option (Int × ev_C) :=
  if x0 < 48 then
    some (0, C)
  else
    if 57 < x0 then
      some (0, C)
    else
      some (1, C)
def f_8_withLetter (C : ev_C) (x0 x2 : Int) : Option (Int × ev_C) :=
  some (ev_w64 ((ev_w64 (x0 * 32)) + (ev_w ((ev_w (x2 - (97 : Int))) + (1 : Int)))), C)
def f_8_readRun_J142 (C : ev_C) (y1 y2 : Int) : Option ev_C :=
  if y1 ≠ 0 then
    some (ev_u C 8 4 4)
  else
    if 2 < y2 then
      some (ev_u C 8 4 4)
    else
      some (ev_u C 8 4 2)
def f_8_readRun_J104 (C : ev_C) (y1 y2 : Int) : Option ev_C :=
  if y2 ≠ 0 then
    f_8_readRun_J142 C y1 y2
  else
    if 7 < y1 then
      f_8_readRun_J142 C y1 y2
    else
      ev_bd (f_8_indexOf_16 (ev_u C 8 4 1) (27) ((C 8 8))) fun r6 C6 =>
      some (ev_u C6 8 7 r6)
def f_8_readRun_J91 (K14 : ev_C → Int → Int → Option ev_C) (C : ev_C) (y1 y2 y3 : Int) : Option ev_C :=
  K14 (ev_u C 8 3 (ev_w (((C 8 3)) + (1 : Int)))) y1 y2
def f_8_readRun_L14 : Nat → ev_C → Int → Int → Option ev_C
  | 0, _, _, _ => none
  | n + 1, C, y1, y2 =>
    if (C 10 1) ≤ (C 8 3) then
      f_8_readRun_J104 C y1 y2
    else
      ev_bd (f_10_byteAt C ((C 8 3))) fun r7 C7 =>
      ev_bd (f_8_isLetter C7 r7) fun r8 C8 =>
      if r8 = 0 then
        ev_bd (f_8_isDigit C8 r7) fun r10 C10 =>
        if r10 = 0 then
          f_8_readRun_J104 C10 y1 y2
        else
          f_8_readRun_J91 (f_8_readRun_L14 n) (ev_u C10 8 6 (ev_w ((ev_w (((C10 8 6)) * (10 : Int))) + (ev_w (r7 - (48 : Int)))))) y1 (ev_w (y2 + 1)) r7
      else
        ev_bd (f_8_withLetter C8 ((C8 8 8)) r7) fun r12 C12 =>
        f_8_readRun_J91 (f_8_readRun_L14 n) (ev_u C12 8 8 r12) (ev_w (y1 + 1)) y2 r7
def f_8_readRun (C : ev_C) : Option ev_C :=
  f_8_readRun_L14 1000 (ev_u (ev_u C 8 8 0) 8 6 0) (0) (0)
def f_8_isSign (C : ev_C) (x0 : Int) : Option (Int × ev_C) :=
  if x0 = 59 then
    some (1, C)
  else
    if x0 = 60 then
      some (1, C)
    else
      if x0 = 61 then
        some (1, C)
      else
        if x0 = 62 then
          some (1, C)
        else
          if x0 = 40 then
            some (1, C)
          else
            if x0 = 41 then
              some (1, C)
            else
              if x0 ≠ 46 then
                some (0, C)
              else
                some (1, C)
def f_8_isBlank (C : ev_C) (x0 : Int) : Option (Int × ev_C) :=
  if x0 = 32 then
    some (1, C)
  else
    if x0 ≠ 10 then
      some (0, C)
    else
      some (1, C)
def f_8_step_J157 (C : ev_C) (y1 w0 : Int) : Option ev_C :=
  some (ev_u (ev_u (ev_u C 8 4 w0) 8 6 y1) 8 3 (ev_w (((C 8 3)) + (1 : Int))))
def f_8_step_J83 (C : ev_C) : Option ev_C :=
  if (C 8 3) < (C 10 1) then
    ev_bd (f_10_byteAt (ev_u C 8 5 ((C 8 3))) ((C 8 3))) fun r4 C4 =>
    ev_bd (f_8_isLetter C4 r4) fun r5 C5 =>
    if r5 ≠ 0 then
      ev_bv (f_8_readRun C5) fun C7 =>
      some C7
    else
      ev_bd (f_8_isDigit C5 r4) fun r8 C8 =>
      if r8 = 0 then
        ev_bd (f_8_isSign C8 r4) fun r10 C10 =>
        if r10 = 0 then
          f_8_step_J157 C10 r4 (4)
        else
          f_8_step_J157 C10 r4 (3)
      else
        ev_bv (f_8_readRun C8) fun C12 =>
        some C12
  else
    some (ev_u (ev_u C 8 5 ((C 8 3))) 8 4 0)
def f_8_step_J44 (C : ev_C) : Option ev_C :=
  if (C 10 1) ≤ (C 8 2) then
    f_8_step_J83 C
  else
    if (C 8 3) < (C 8 2) then
      f_8_step_J83 C
    else
      some (ev_u (ev_u C 8 4 4) 8 5 ((C 8 2)))
def f_8_step_L0 : Nat → ev_C → Option ev_C
  | 0, _ => none
  | n + 1, C =>
    if (C 10 1) ≤ (C 8 3) then
      f_8_step_J44 C
    else
      ev_bd (f_10_byteAt C ((C 8 3))) fun r14 C14 =>
      ev_bd (f_8_isBlank C14 r14) fun r15 C15 =>
      if r15 = 0 then
        f_8_step_J44 C15
      else
        f_8_step_L0 n (ev_u C15 8 3 (ev_w (((C15 8 3)) + (1 : Int))))
def f_8_step (C : ev_C) : Option ev_C :=
  f_8_step_L0 1000 C
def f_8_open (C : ev_C) (x1 : Int) : Option ev_C :=
  ev_bv (f_8_step (ev_u (ev_u (ev_u (ev_u C 8 2 x1) 8 3 0) 8 9 0) 8 10 0)) fun C1 =>
  some C1
def f_15_fill_57_L5 : Nat → ev_C → Int → Int → Int → Option ev_C
  | 0, _, _, _, _ => none
  | n + 1, C, y1, y2, y3 =>
    if y3 ≤ y2 then
      some C
    else
      if 0 ≤ y2 ∧ y2 < 6 then
        f_15_fill_57_L5 n (ev_u C 57 (Int.toNat y2) y1) y1 (ev_w (y2 + 1)) y3
      else none
def f_15_fill_57 (C : ev_C) (x1 : Int) : Option ev_C :=
  f_15_fill_57_L5 1000 C x1 (0) (6)
def f_15_fill_58_L5 : Nat → ev_C → Int → Int → Int → Option ev_C
  | 0, _, _, _, _ => none
  | n + 1, C, y1, y2, y3 =>
    if y3 ≤ y2 then
      some C
    else
      if 0 ≤ y2 ∧ y2 < 6 then
        f_15_fill_58_L5 n (ev_u C 58 (Int.toNat y2) y1) y1 (ev_w (y2 + 1)) y3
      else none
def f_15_fill_58 (C : ev_C) (x1 : Int) : Option ev_C :=
  f_15_fill_58_L5 1000 C x1 (0) (6)
def f_15_fill_61_L5 : Nat → ev_C → Int → Int → Int → Option ev_C
  | 0, _, _, _, _ => none
  | n + 1, C, y1, y2, y3 =>
    if y3 ≤ y2 then
      some C
    else
      if 0 ≤ y2 ∧ y2 < 8 then
        f_15_fill_61_L5 n (ev_u C 61 (Int.toNat y2) y1) y1 (ev_w (y2 + 1)) y3
      else none
def f_15_fill_61 (C : ev_C) (x1 : Int) : Option ev_C :=
  f_15_fill_61_L5 1000 C x1 (0) (8)
def f_15_fill_62_L5 : Nat → ev_C → Int → Int → Int → Option ev_C
  | 0, _, _, _, _ => none
  | n + 1, C, y1, y2, y3 =>
    if y3 ≤ y2 then
      some C
    else
      if 0 ≤ y2 ∧ y2 < 8 then
        f_15_fill_62_L5 n (ev_u C 62 (Int.toNat y2) y1) y1 (ev_w (y2 + 1)) y3
      else none
def f_15_fill_62 (C : ev_C) (x1 : Int) : Option ev_C :=
  f_15_fill_62_L5 1000 C x1 (0) (8)
def f_15_fill_63_L5 : Nat → ev_C → Int → Int → Int → Option ev_C
  | 0, _, _, _, _ => none
  | n + 1, C, y1, y2, y3 =>
    if y3 ≤ y2 then
      some C
    else
      if 0 ≤ y2 ∧ y2 < 48 then
        f_15_fill_63_L5 n (ev_u C 63 (Int.toNat y2) y1) y1 (ev_w (y2 + 1)) y3
      else none
def f_15_fill_63 (C : ev_C) (x1 : Int) : Option ev_C :=
  f_15_fill_63_L5 1000 C x1 (0) (48)
def f_15_fill_65_L5 : Nat → ev_C → Int → Int → Int → Option ev_C
  | 0, _, _, _, _ => none
  | n + 1, C, y1, y2, y3 =>
    if y3 ≤ y2 then
      some C
    else
      if 0 ≤ y2 ∧ y2 < 12 then
        f_15_fill_65_L5 n (ev_u C 65 (Int.toNat y2) y1) y1 (ev_w (y2 + 1)) y3
      else none
def f_15_fill_65 (C : ev_C) (x1 : Int) : Option ev_C :=
  f_15_fill_65_L5 1000 C x1 (0) (12)
def f_15_fill_66_L5 : Nat → ev_C → Int → Int → Int → Option ev_C
  | 0, _, _, _, _ => none
  | n + 1, C, y1, y2, y3 =>
    if y3 ≤ y2 then
      some C
    else
      if 0 ≤ y2 ∧ y2 < 12 then
        f_15_fill_66_L5 n (ev_u C 66 (Int.toNat y2) y1) y1 (ev_w (y2 + 1)) y3
      else none
def f_15_fill_66 (C : ev_C) (x1 : Int) : Option ev_C :=
  f_15_fill_66_L5 1000 C x1 (0) (12)
def f_6_clear_13 (C : ev_C) : Option ev_C :=
  ev_bv (f_15_fill_57 (ev_u (ev_u (ev_u (ev_u (ev_u (ev_u C 13 0 0) 13 1 0) 13 2 0) 13 3 0) 13 4 0) 13 5 0) (0)) fun C1 =>
  ev_bv (f_15_fill_58 C1 (0)) fun C2 =>
  ev_bv (f_15_fill_61 C2 (0)) fun C3 =>
  ev_bv (f_15_fill_62 C3 (0)) fun C4 =>
  ev_bv (f_15_fill_63 C4 (0)) fun C5 =>
  ev_bv (f_15_fill_65 C5 (0)) fun C6 =>
  ev_bv (f_15_fill_66 C6 (0)) fun C7 =>
  some C7
def f_8_wordHere (C : ev_C) : Option (Int × ev_C) :=
  if (C 8 4) ≠ 1 then
    some (-1, C)
  else
    some ((C 8 7), C)
def f_8_fail (C : ev_C) (x1 : Int) : Option ev_C :=
  if (C 8 9) ≠ 0 then
    some C
  else
    some (ev_u (ev_u C 8 9 x1) 8 10 ((C 8 5)))
def f_7_takeOneOf_8 (C : ev_C) (x1 x2 : Int) : Option (Int × ev_C) :=
  if x1 < x2 then
    ev_bv (f_8_step C) fun C2 =>
    some (1, C2)
  else
    ev_bv (f_8_fail C (4)) fun C3 =>
    some (0, C3)
def f_8_isAtName (C : ev_C) : Option (Int × ev_C) :=
  if (C 8 4) ≠ 1 then
    some (0, C)
  else
    if (C 8 7) ≠ -1 then
      some (0, C)
    else
      some (1, C)
def f_8_indexOf_53_L3 : Nat → ev_C → Int → Int → Int → Option (Int × ev_C)
  | 0, _, _, _, _ => none
  | n + 1, C, y1, y2, y4 =>
    if y1 ≤ y4 then
      some (-1, C)
    else
      if 6 ≤ y4 then
        some (-1, C)
      else
        if 0 ≤ y4 ∧ y4 < 6 then
          if ev_cmp ((C 53 (Int.toNat y4))) y2 ≠ 0 then
            f_8_indexOf_53_L3 n C y1 y2 (ev_w (y4 + 1))
          else
            some (y4, C)
        else none
def f_8_indexOf_53 (C : ev_C) (x1 x2 : Int) : Option (Int × ev_C) :=
  f_8_indexOf_53_L3 1000 C x1 x2 (0)
def f_8_indexOf_54_L3 : Nat → ev_C → Int → Int → Int → Option (Int × ev_C)
  | 0, _, _, _, _ => none
  | n + 1, C, y1, y2, y4 =>
    if y1 ≤ y4 then
      some (-1, C)
    else
      if 6 ≤ y4 then
        some (-1, C)
      else
        if 0 ≤ y4 ∧ y4 < 6 then
          if ev_cmp ((C 54 (Int.toNat y4))) y2 ≠ 0 then
            f_8_indexOf_54_L3 n C y1 y2 (ev_w (y4 + 1))
          else
            some (y4, C)
        else none
def f_8_indexOf_54 (C : ev_C) (x1 x2 : Int) : Option (Int × ev_C) :=
  f_8_indexOf_54_L3 1000 C x1 x2 (0)
def f_8_indexOf_55_L3 : Nat → ev_C → Int → Int → Int → Option (Int × ev_C)
  | 0, _, _, _, _ => none
  | n + 1, C, y1, y2, y4 =>
    if y1 ≤ y4 then
      some (-1, C)
    else
      if 8 ≤ y4 then
        some (-1, C)
      else
        if 0 ≤ y4 ∧ y4 < 8 then
          if ev_cmp ((C 55 (Int.toNat y4))) y2 ≠ 0 then
            f_8_indexOf_55_L3 n C y1 y2 (ev_w (y4 + 1))
          else
            some (y4, C)
        else none
def f_8_indexOf_55 (C : ev_C) (x1 x2 : Int) : Option (Int × ev_C) :=
  f_8_indexOf_55_L3 1000 C x1 x2 (0)
def f_6_hasName_13 (C : ev_C) (x1 : Int) : Option (Int × ev_C) :=
  ev_bd (f_8_indexOf_53 C ((C 13 0)) x1) fun r1 C1 =>
  if r1 ≠ -1 then
    some (1, C1)
  else
    ev_bd (f_8_indexOf_54 C1 ((C1 13 1)) x1) fun r3 C3 =>
    if r3 ≠ -1 then
      some (1, C3)
    else
      ev_bd (f_8_indexOf_55 C3 ((C3 13 2)) x1) fun r5 C5 =>
      if r5 = -1 then
        some (0, C5)
      else
        some (1, C5)
def f_7_takeNewName_8_53 (C : ev_C) (x3 : Int) : Option (Int × ev_C) :=
  ev_bd (f_8_isAtName C) fun r1 C1 =>
  if r1 ≠ 0 then
    ev_bd (f_6_hasName_13 C1 ((C1 8 8))) fun r3 C3 =>
    if r3 = 0 then
      if 6 ≤ x3 then
        ev_bv (f_8_step C3) fun C6 =>
        some (1, C6)
      else
        if 0 ≤ x3 ∧ x3 < 6 then
          ev_bv (f_8_step (ev_u C3 53 (Int.toNat x3) ((C3 8 8)))) fun C8 =>
          some (1, C8)
        else none
    else
      ev_bv (f_8_fail C3 (3)) fun C9 =>
      some (0, C9)
  else
    ev_bv (f_8_fail C1 (1)) fun C10 =>
    some (0, C10)
def f_8_takeNumber (C : ev_C) (x1 x2 : Int) : Option (Int × ev_C) :=
  if (C 8 4) = 2 then
    if (C 8 6) < x1 then
      ev_bv (f_8_fail C (2)) fun C3 =>
      some (-1, C3)
    else
      if (C 8 6) ≤ x2 then
        ev_bv (f_8_step C) fun C5 =>
        some ((C 8 6), C5)
      else
        ev_bv (f_8_fail C (2)) fun C6 =>
        some (-1, C6)
  else
    ev_bv (f_8_fail C (1)) fun C7 =>
    some (-1, C7)
def f_7_readPart_8 (C : ev_C) : Option ev_C :=
  ev_bd (f_7_takeOneOf_8 C ((C 13 0)) (6)) fun r1 C1 =>
  if r1 = 0 then
    some C1
  else
    ev_bd (f_7_takeNewName_8_53 C1 ((C1 13 0))) fun r3 C3 =>
    if r3 ≠ 0 then
      ev_bd (f_8_takeNumber C3 (0) (9)) fun r5 C5 =>
      if 0 ≤ (C3 13 0) ∧ (C3 13 0) < 6 then
        some (ev_u (ev_u C5 56 (Int.toNat ((C3 13 0))) r5) 13 0 (ev_w (((C5 13 0)) + (1 : Int))))
      else none
    else
      some C3
def f_7_takeNewName_8_54 (C : ev_C) (x3 : Int) : Option (Int × ev_C) :=
  ev_bd (f_8_isAtName C) fun r1 C1 =>
  if r1 ≠ 0 then
    ev_bd (f_6_hasName_13 C1 ((C1 8 8))) fun r3 C3 =>
    if r3 = 0 then
      if 6 ≤ x3 then
        ev_bv (f_8_step C3) fun C6 =>
        some (1, C6)
      else
        if 0 ≤ x3 ∧ x3 < 6 then
          ev_bv (f_8_step (ev_u C3 54 (Int.toNat x3) ((C3 8 8)))) fun C8 =>
          some (1, C8)
        else none
    else
      ev_bv (f_8_fail C3 (3)) fun C9 =>
      some (0, C9)
  else
    ev_bv (f_8_fail C1 (1)) fun C10 =>
    some (0, C10)
def f_7_readFact_8 (C : ev_C) : Option ev_C :=
  ev_bd (f_7_takeOneOf_8 C ((C 13 1)) (6)) fun r1 C1 =>
  if r1 = 0 then
    some C1
  else
    ev_bd (f_7_takeNewName_8_54 C1 ((C1 13 1))) fun r3 C3 =>
    if r3 = 0 then
      some C3
    else
      some (ev_u C3 13 1 (ev_w (((C3 13 1)) + (1 : Int))))
def f_8_nameHere_54 (C : ev_C) (x2 : Int) : Option (Int × ev_C) :=
  ev_bd (f_8_isAtName C) fun r1 C1 =>
  if r1 ≠ 0 then
    ev_bd (f_8_indexOf_54 C1 x2 ((C1 8 8))) fun r3 C3 =>
    if r3 ≠ -1 then
      some (r3, C3)
    else
      ev_bv (f_8_fail C3 (3)) fun C5 =>
      some (r3, C5)
  else
    ev_bv (f_8_fail C1 (1)) fun C6 =>
    some (-1, C6)
def f_8_takeName_54 (C : ev_C) (x2 : Int) : Option (Int × ev_C) :=
  ev_bd (f_8_nameHere_54 C x2) fun r1 C1 =>
  if r1 = -1 then
    some (r1, C1)
  else
    ev_bv (f_8_step C1) fun C3 =>
    some (r1, C3)
def f_8_nameHere_53 (C : ev_C) (x2 : Int) : Option (Int × ev_C) :=
  ev_bd (f_8_isAtName C) fun r1 C1 =>
  if r1 ≠ 0 then
    ev_bd (f_8_indexOf_53 C1 x2 ((C1 8 8))) fun r3 C3 =>
    if r3 ≠ -1 then
      some (r3, C3)
    else
      ev_bv (f_8_fail C3 (3)) fun C5 =>
      some (r3, C5)
  else
    ev_bv (f_8_fail C1 (1)) fun C6 =>
    some (-1, C6)
def f_11_has (C : ev_C) (x0 x1 : Int) : Option (Int × ev_C) :=
  if ev_and (ev_shr x0 x1) 1 = 0 then
    some (0, C)
  else
    some (1, C)
def f_7_takeOnce_8 (C : ev_C) (x1 x2 : Int) : Option (Int × ev_C) :=
  ev_bd (f_11_has C x1 x2) fun r1 C1 =>
  if r1 = 0 then
    ev_bv (f_8_step C1) fun C3 =>
    some (ev_or x1 (ev_shl 1 x2), C3)
  else
    ev_bv (f_8_fail C1 (3)) fun C4 =>
    some (x1, C4)
def f_7_readClears_8 (C : ev_C) : Option ev_C :=
  ev_bv (f_8_step C) fun C1 =>
  ev_bd (f_8_takeName_54 C1 ((C1 13 1))) fun r2 C2 =>
  if r2 ≠ -1 then
    ev_bd (f_8_nameHere_53 C2 ((C2 13 0))) fun r4 C4 =>
    if r4 = -1 then
      some C4
    else
      if 0 ≤ r2 ∧ r2 < 6 then
        ev_bd (f_7_takeOnce_8 C4 ((C4 58 (Int.toNat r2))) r4) fun r7 C7 =>
        if 0 ≤ r2 ∧ r2 < 6 then
          some (ev_u C7 58 (Int.toNat r2) r7)
        else none
      else none
  else
    some C2
def f_7_takeNewName_8_55 (C : ev_C) (x3 : Int) : Option (Int × ev_C) :=
  ev_bd (f_8_isAtName C) fun r1 C1 =>
  if r1 ≠ 0 then
    ev_bd (f_6_hasName_13 C1 ((C1 8 8))) fun r3 C3 =>
    if r3 = 0 then
      if 8 ≤ x3 then
        ev_bv (f_8_step C3) fun C6 =>
        some (1, C6)
      else
        if 0 ≤ x3 ∧ x3 < 8 then
          ev_bv (f_8_step (ev_u C3 55 (Int.toNat x3) ((C3 8 8)))) fun C8 =>
          some (1, C8)
        else none
    else
      ev_bv (f_8_fail C3 (3)) fun C9 =>
      some (0, C9)
  else
    ev_bv (f_8_fail C1 (1)) fun C10 =>
    some (0, C10)
def f_8_isFine (C : ev_C) : Option (Int × ev_C) :=
  if (C 8 9) ≠ 0 then
    some (0, C)
  else
    some (1, C)
def f_7_readMan_8 (C : ev_C) : Option ev_C :=
  ev_bd (f_7_takeOneOf_8 C ((C 13 2)) (8)) fun r1 C1 =>
  if r1 = 0 then
    some C1
  else
    ev_bd (f_7_takeNewName_8_55 C1 ((C1 13 2))) fun r3 C3 =>
    if r3 ≠ 0 then
      ev_bd (f_8_takeNumber C3 (0) (9)) fun r5 C5 =>
      if 0 ≤ (C3 13 2) ∧ (C3 13 2) < 8 then
        ev_bd (f_8_isFine (ev_u C5 59 (Int.toNat ((C3 13 2))) r5)) fun r7 C7 =>
        if r7 = 0 then
          some (ev_u C7 13 2 (ev_w (((C7 13 2)) + (1 : Int))))
        else
          ev_bd (f_8_takeNumber C7 (1) (9)) fun r9 C9 =>
          if 0 ≤ (C7 13 2) ∧ (C7 13 2) < 8 then
            some (ev_u (ev_u C9 60 (Int.toNat ((C7 13 2))) r9) 13 2 (ev_w (((C9 13 2)) + (1 : Int))))
          else none
      else none
    else
      some C3
def f_7_readAct_8 (C : ev_C) : Option ev_C :=
  ev_bd (f_7_takeOneOf_8 C ((C 13 3)) (6)) fun r1 C1 =>
  if r1 = 0 then
    some C1
  else
    some (ev_u C1 13 3 (ev_w (((C1 13 3)) + (1 : Int))))
def f_8_isAtSign (C : ev_C) (x1 : Int) : Option (Int × ev_C) :=
  if (C 8 4) ≠ 3 then
    some (0, C)
  else
    if (C 8 6) ≠ x1 then
      some (0, C)
    else
      some (1, C)
def f_7_readScene_8_J151 (K74 : ev_C → Int → Int → Option ev_C) (C : ev_C) (y2 y3 y4 : Int) : Option ev_C :=
  K74 C y2 (ev_w (y3 + 1))
def f_7_readScene_8_J101 (K74 : ev_C → Int → Int → Option ev_C) (C : ev_C) (y2 y3 : Int) : Option ev_C :=
  ev_bd (f_8_nameHere_53 C ((C 13 0))) fun r9 C9 =>
  if r9 = -1 then
    f_7_readScene_8_J151 K74 C9 y2 y3 r9
  else
    if 0 ≤ y2 ∧ y2 < 12 then
      ev_bd (f_7_takeOnce_8 C9 ((C9 65 (Int.toNat y2))) r9) fun r12 C12 =>
      if 0 ≤ y2 ∧ y2 < 12 then
        f_7_readScene_8_J151 K74 (ev_u C12 65 (Int.toNat y2) r12) y2 y3 r9
      else none
    else none
def f_7_readScene_8_L74 : Nat → ev_C → Int → Int → Option ev_C
  | 0, _, _, _ => none
  | n + 1, C, y2, y3 =>
    if 6 < y3 then
      some C
    else
      ev_bd (f_8_isFine C) fun r6 C6 =>
      if r6 = 0 then
        some C6
      else
        if y3 ≤ 0 then
          f_7_readScene_8_J101 (f_7_readScene_8_L74 n) C6 y2 y3
        else
          ev_bd (f_8_isAtSign C6 (59)) fun r14 C14 =>
          if r14 = 0 then
            f_7_readScene_8_J101 (f_7_readScene_8_L74 n) C14 y2 y3
          else
            some C14
def f_7_readScene_8 (C : ev_C) : Option ev_C :=
  if (C 13 3) ≠ 0 then
    ev_bd (f_7_takeOneOf_8 C ((C 13 4)) (12)) fun r2 C2 =>
    if r2 ≠ 0 then
      if 0 ≤ (C2 13 4) ∧ (C2 13 4) < 12 then
        f_7_readScene_8_L74 1000 (ev_u (ev_u C2 64 (Int.toNat ((C2 13 4))) (ev_w (((C2 13 3)) - (1 : Int)))) 13 4 (ev_w (((C2 13 4)) + (1 : Int)))) ((C2 13 4)) (0)
      else none
    else
      some C2
  else
    ev_bv (f_8_fail C (1)) fun C16 =>
    some C16
def f_7_readShows_8 (C : ev_C) : Option ev_C :=
  if ev_w (((C 13 4)) - (1 : Int)) < 0 then
    ev_bv (f_8_fail C (1)) fun C2 =>
    some C2
  else
    if 0 ≤ ev_w (((C 13 4)) - (1 : Int)) ∧ ev_w (((C 13 4)) - (1 : Int)) < 12 then
      if (C 64 (Int.toNat (ev_w (((C 13 4)) - (1 : Int))))) = ev_w (((C 13 3)) - (1 : Int)) then
        ev_bv (f_8_step C) fun C5 =>
        ev_bd (f_8_nameHere_54 C5 ((C5 13 1))) fun r6 C6 =>
        if r6 = -1 then
          some C6
        else
          if 0 ≤ ev_w (((C 13 4)) - (1 : Int)) ∧ ev_w (((C 13 4)) - (1 : Int)) < 12 then
            ev_bd (f_7_takeOnce_8 C6 ((C6 66 (Int.toNat (ev_w (((C 13 4)) - (1 : Int)))))) r6) fun r9 C9 =>
            if 0 ≤ ev_w (((C 13 4)) - (1 : Int)) ∧ ev_w (((C 13 4)) - (1 : Int)) < 12 then
              some (ev_u C9 66 (Int.toNat (ev_w (((C 13 4)) - (1 : Int)))) r9)
            else none
          else none
      else
        ev_bv (f_8_fail C (1)) fun C11 =>
        some C11
    else none
def f_8_takeName_53 (C : ev_C) (x2 : Int) : Option (Int × ev_C) :=
  ev_bd (f_8_nameHere_53 C x2) fun r1 C1 =>
  if r1 = -1 then
    some (r1, C1)
  else
    ev_bv (f_8_step C1) fun C3 =>
    some (r1, C3)
def f_7_readNeeds_8 (C : ev_C) : Option ev_C :=
  ev_bv (f_8_step C) fun C1 =>
  ev_bd (f_8_takeName_53 C1 ((C1 13 0))) fun r2 C2 =>
  if r2 ≠ -1 then
    ev_bd (f_8_nameHere_54 C2 ((C2 13 1))) fun r4 C4 =>
    if r4 = -1 then
      some C4
    else
      if 0 ≤ r2 ∧ r2 < 6 then
        ev_bd (f_7_takeOnce_8 C4 ((C4 57 (Int.toNat r2))) r4) fun r7 C7 =>
        if 0 ≤ r2 ∧ r2 < 6 then
          some (ev_u C7 57 (Int.toNat r2) r7)
        else none
      else none
  else
    some C2
def f_8_nameHere_55 (C : ev_C) (x2 : Int) : Option (Int × ev_C) :=
  ev_bd (f_8_isAtName C) fun r1 C1 =>
  if r1 ≠ 0 then
    ev_bd (f_8_indexOf_55 C1 x2 ((C1 8 8))) fun r3 C3 =>
    if r3 ≠ -1 then
      some (r3, C3)
    else
      ev_bv (f_8_fail C3 (3)) fun C5 =>
      some (r3, C5)
  else
    ev_bv (f_8_fail C1 (1)) fun C6 =>
    some (-1, C6)
def f_8_takeName_55 (C : ev_C) (x2 : Int) : Option (Int × ev_C) :=
  ev_bd (f_8_nameHere_55 C x2) fun r1 C1 =>
  if r1 = -1 then
    some (r1, C1)
  else
    ev_bv (f_8_step C1) fun C3 =>
    some (r1, C3)
def f_6_liking_13 (C : ev_C) (x1 x2 : Int) : Option (Int × ev_C) :=
  if 0 ≤ ev_w ((ev_w (x1 * (6 : Int))) + x2) ∧ ev_w ((ev_w (x1 * (6 : Int))) + x2) < 48 then
    some ((C 63 (Int.toNat (ev_w ((ev_w (x1 * (6 : Int))) + x2)))), C)
  else none
def f_7_readLikes_8 (C : ev_C) : Option ev_C :=
  ev_bv (f_8_step C) fun C1 =>
  ev_bd (f_8_takeName_55 C1 ((C1 13 2))) fun r2 C2 =>
  if r2 ≠ -1 then
    ev_bd (f_8_nameHere_53 C2 ((C2 13 0))) fun r4 C4 =>
    if r4 ≠ -1 then
      ev_bd (f_6_liking_13 C4 r2 r4) fun r6 C6 =>
      if r6 = 0 then
        ev_bv (f_8_step C6) fun C8 =>
        ev_bd (f_8_takeNumber C8 (1) (9)) fun r9 C9 =>
        if 0 ≤ ev_w ((ev_w (r2 * (6 : Int))) + r4) ∧ ev_w ((ev_w (r2 * (6 : Int))) + r4) < 48 then
          some (ev_u C9 63 (Int.toNat (ev_w ((ev_w (r2 * (6 : Int))) + r4))) r9)
        else none
      else
        ev_bv (f_8_fail C6 (3)) fun C11 =>
        some C11
    else
      some C4
  else
    some C2
def f_7_readNever_8 (C : ev_C) : Option ev_C :=
  ev_bv (f_8_step C) fun C1 =>
  ev_bd (f_8_takeName_55 C1 ((C1 13 2))) fun r2 C2 =>
  if r2 ≠ -1 then
    ev_bd (f_8_nameHere_53 C2 ((C2 13 0))) fun r4 C4 =>
    if r4 = -1 then
      some C4
    else
      if 0 ≤ r2 ∧ r2 < 8 then
        ev_bd (f_7_takeOnce_8 C4 ((C4 61 (Int.toNat r2))) r4) fun r7 C7 =>
        if 0 ≤ r2 ∧ r2 < 8 then
          some (ev_u C7 61 (Int.toNat r2) r7)
        else none
      else none
  else
    some C2
def f_7_readFoes_8 (C : ev_C) : Option ev_C :=
  ev_bv (f_8_step C) fun C1 =>
  ev_bd (f_8_takeName_55 C1 ((C1 13 2))) fun r2 C2 =>
  if r2 ≠ -1 then
    ev_bd (f_8_nameHere_55 C2 ((C2 13 2))) fun r4 C4 =>
    if r4 ≠ -1 then
      if r4 ≠ r2 then
        if 0 ≤ r2 ∧ r2 < 8 then
          ev_bd (f_7_takeOnce_8 C4 ((C4 62 (Int.toNat r2))) r4) fun r8 C8 =>
          if 0 ≤ r2 ∧ r2 < 8 then
            if 0 ≤ r4 ∧ r4 < 8 then
              if 0 ≤ r4 ∧ r4 < 8 then
                some (ev_u (ev_u C8 62 (Int.toNat r2) r8) 62 (Int.toNat r4) (ev_or (((ev_u C8 62 (Int.toNat r2) r8) 62 (Int.toNat r4))) (ev_shl 1 r2)))
              else none
            else none
          else none
        else none
      else
        ev_bv (f_8_fail C4 (3)) fun C12 =>
        some C12
    else
      some C4
  else
    some C2
def f_7_readRest_8 (C : ev_C) : Option ev_C :=
  if (C 13 5) = 0 then
    ev_bv (f_8_step (ev_u C 13 5 1)) fun C2 =>
    some C2
  else
    ev_bv (f_8_fail C (3)) fun C3 =>
    some C3
def f_7_readLine_8 (C : ev_C) : Option ev_C :=
  ev_bd (f_8_wordHere C) fun r1 C1 =>
  if r1 = 0 then
    ev_bv (f_7_readPart_8 C1) fun C3 =>
    some C3
  else
  if r1 = 1 then
    ev_bv (f_7_readFact_8 C1) fun C5 =>
    some C5
  else
  if r1 = 2 then
    ev_bv (f_7_readClears_8 C1) fun C7 =>
    some C7
  else
  if r1 = 3 then
    ev_bv (f_7_readMan_8 C1) fun C9 =>
    some C9
  else
  if r1 = 4 then
    ev_bv (f_7_readAct_8 C1) fun C11 =>
    some C11
  else
  if r1 = 5 then
    ev_bv (f_7_readScene_8 C1) fun C13 =>
    some C13
  else
  if r1 = 6 then
    ev_bv (f_7_readShows_8 C1) fun C15 =>
    some C15
  else
  if r1 = 7 then
    ev_bv (f_7_readNeeds_8 C1) fun C17 =>
    some C17
  else
  if r1 = 8 then
    ev_bv (f_7_readLikes_8 C1) fun C19 =>
    some C19
  else
  if r1 = 9 then
    ev_bv (f_7_readNever_8 C1) fun C21 =>
    some C21
  else
  if r1 = 10 then
    ev_bv (f_7_readFoes_8 C1) fun C23 =>
    some C23
  else
  if r1 = 11 then
    ev_bv (f_7_readRest_8 C1) fun C25 =>
    some C25
  else
  ev_bv (f_8_fail C1 (1)) fun C26 =>
  some C26
def f_8_takeSign (C : ev_C) (x1 : Int) : Option ev_C :=
  ev_bd (f_8_isAtSign C x1) fun r1 C1 =>
  if r1 = 0 then
    ev_bv (f_8_fail C1 (1)) fun C3 =>
    some C3
  else
    ev_bv (f_8_step C1) fun C4 =>
    some C4
def f_7_read_8_J43 (K11 : ev_C → Int → Int → Option (Int × ev_C)) (C : ev_C) (y2 y3 : Int) : Option (Int × ev_C) :=
  ev_bd (f_8_isFine C) fun r7 C7 =>
  if r7 ≠ 0 then
    K11 C7 (ev_w (y2 + 1)) (ev_w (y3 + 1))
  else
    some (y2, C7)
def f_7_read_8_L11 : Nat → ev_C → Int → Int → Option (Int × ev_C)
  | 0, _, _, _ => none
  | n + 1, C, y2, y3 =>
    if 900 < y3 then
      some (y2, C)
    else
      if (C 8 4) = 0 then
        some (y2, C)
      else
        ev_bv (f_7_readLine_8 C) fun C4 =>
        ev_bd (f_8_isFine C4) fun r5 C5 =>
        if r5 = 0 then
          f_7_read_8_J43 (f_7_read_8_L11 n) C5 y2 y3
        else
          ev_bv (f_8_takeSign C5 (59)) fun C9 =>
          f_7_read_8_J43 (f_7_read_8_L11 n) C9 y2 y3
def f_7_read_8 (C : ev_C) : Option (Int × ev_C) :=
  ev_bv (f_6_clear_13 C) fun C1 =>
  f_7_read_8_L11 1000 C1 (0) (0)
def f_6_copyFrom_13 (C : ev_C) : Option ev_C :=
  if 0 ≤ (C 13 5) ∧ (C 13 5) ≤ 1 then
    some (ev_cp (ev_cp (ev_cp (ev_cp (ev_cp (ev_cp (ev_cp (ev_cp (ev_cp (ev_cp (ev_cp (ev_cp (ev_cp (ev_cp (ev_u (ev_u (ev_u (ev_u (ev_u (ev_u C 6 0 ((C 13 0))) 6 1 ((C 13 1))) 6 2 ((C 13 2))) 6 3 ((C 13 3))) 6 4 ((C 13 4))) 6 5 ((C 13 5))) 53 67 6) 54 68 6) 55 69 8) 56 70 6) 57 71 6) 58 72 6) 59 73 8) 60 74 8) 61 75 8) 62 76 8) 63 77 48) 64 78 12) 65 79 12) 66 80 12)
  else none
def f_15_fill_26_L5 : Nat → ev_C → Int → Int → Int → Option ev_C
  | 0, _, _, _, _ => none
  | n + 1, C, y1, y2, y3 =>
    if y3 ≤ y2 then
      some C
    else
      if 0 ≤ y2 ∧ y2 < 6 then
        f_15_fill_26_L5 n C y1 (ev_w (y2 + 1)) y3
      else none
def f_15_fill_26 (C : ev_C) (x1 : Int) : Option ev_C :=
  f_15_fill_26_L5 1000 C x1 (0) (6)
def f_15_fill_21_L5 : Nat → ev_C → Int → Int → Int → Option ev_C
  | 0, _, _, _, _ => none
  | n + 1, C, y1, y2, y3 =>
    if y3 ≤ y2 then
      some C
    else
      if 0 ≤ y2 ∧ y2 < 8 then
        f_15_fill_21_L5 n C y1 (ev_w (y2 + 1)) y3
      else none
def f_15_fill_21 (C : ev_C) (x1 : Int) : Option ev_C :=
  f_15_fill_21_L5 1000 C x1 (0) (8)
def f_2_begin (C : ev_C) : Option ev_C :=
  ev_bv (f_15_fill_26 C (-1)) fun C1 =>
  ev_bv (f_15_fill_26 C1 (-1)) fun C2 =>
  ev_bv (f_15_fill_21 C2 (0)) fun C3 =>
  ev_bv (f_15_fill_21 C3 (0)) fun C4 =>
  ev_bv (f_15_fill_21 C4 (0)) fun C5 =>
  some C5
def f_9_clear (C : ev_C) : Option ev_C :=
  some (ev_u (ev_u C 9 0 0) 9 1 0)
def f_3_forget (C : ev_C) : Option ev_C :=
  some C
def f_11_play (C : ev_C) : Option (Int × ev_C) :=
  ev_bv (f_8_open C (900)) fun C1 =>
  ev_bd (f_7_read_8 C1) fun r2 C2 =>
  if (C2 8 9) = 0 then
    ev_bv (f_6_copyFrom_13 (ev_u (ev_u C2 10 1 0) 11 13 ((C2 8 9)))) fun C4 =>
    ev_bv (f_2_begin C4) fun C5 =>
    ev_bv (f_9_clear C5) fun C6 =>
    ev_bv (f_3_forget C6) fun C7 =>
    some (r2, C7)
  else
    some (ev_w ((-1 : Int) - ((C2 8 10))), (ev_u (ev_u C2 10 1 0) 11 13 ((C2 8 9))))
def f_12_peek (C : ev_C) : Option (Int × ev_C) :=
  if (C 12 3) ≤ (C 12 4) then
    some (-1, C)
  else
    if 0 ≤ (C 12 4) ∧ (C 12 4) < 940 then
      some (ev_and ((C 49 (Int.toNat ((C 12 4))))) 255, C)
    else none
def f_12_isSmall (C : ev_C) (x0 : Int) : Option (Int × ev_C) :=
  if x0 < 97 then
    some (0, C)
  else
    if 122 < x0 then
      some (0, C)
    else
      some (1, C)
def f_12_isDigit (C : ev_C) (x0 : Int) : Option (Int × ev_C) :=
  if x0 < 48 then
    some (0, C)
  else
    if 57 < x0 then
      some (0, C)
    else
      some (1, C)
def f_12_go_J18 (K0 : ev_C → Option ev_C) (C : ev_C) : Option ev_C :=
  K0 (ev_u C 12 4 (ev_w (((C 12 4)) + (1 : Int))))
def f_12_go_J275 (K181 : ev_C → Int → Int → Int → Option ev_C) (C : ev_C) (y1 y2 y3 : Int) : Option ev_C :=
  K181 (ev_u (ev_u C 12 13 (ev_w (((C 12 13)) + (1 : Int)))) 12 4 (ev_w (((C 12 4)) + (1 : Int)))) y1 y2 y3
def f_12_go_J248 (K181 : ev_C → Int → Int → Int → Option ev_C) (C : ev_C) (y1 y2 y3 : Int) : Option ev_C :=
  if 2 ≤ (C 12 13) then
    f_12_go_J275 K181 C y1 y2 y3
  else
    ev_bd (f_12_peek C) fun r17 C17 =>
    f_12_go_J275 K181 (ev_u C17 12 14 (ev_w ((ev_w ((ev_w ((10 : Int) * ((C 12 14)))) + r17)) - (48 : Int)))) y1 y2 y3
def f_12_go_J221 (K181 : ev_C → Int → Int → Int → Option ev_C) (C : ev_C) (y1 y2 y3 w0 : Int) : Option ev_C :=
  if 7 ≤ (C 12 13) then
    f_12_go_J248 K181 C y1 y2 w0
  else
    ev_bd (f_12_peek C) fun r18 C18 =>
    f_12_go_J248 K181 (ev_u C18 12 17 (ev_lor (ev_lshl ((C 12 17)) 8) r18)) y1 y2 w0
def f_12_go_J220 (K181 : ev_C → Int → Int → Int → Option ev_C) (C : ev_C) (y1 y2 y3 : Int) : Option ev_C :=
  f_12_go_J221 K181 C y1 y2 y3 (0)
def f_12_go_J201 (K181 : ev_C → Int → Int → Int → Option ev_C) (C : ev_C) (y1 y2 y3 : Int) : Option ev_C :=
  if y3 = 0 then
    f_12_go_J220 K181 C y1 y2 y3
  else
    ev_bd (f_12_peek C) fun r19 C19 =>
    ev_bd (f_12_isSmall C19 r19) fun r20 C20 =>
    if r20 ≠ y2 then
      f_12_go_J220 K181 C20 y1 y2 y3
    else
      f_12_go_J221 K181 C20 y1 y2 y3 (1)
def f_12_go_J317 (C : ev_C) (y1 y2 y3 w0 w1 : Int) : Option ev_C :=
  if w1 ≤ w0 then
    if y2 = 0 then
      some (ev_u C 12 11 2)
    else
      some (ev_u C 12 11 1)
  else
    some (ev_u C 12 11 4)
def f_12_go_L181 : Nat → ev_C → Int → Int → Int → Option ev_C
  | 0, _, _, _, _ => none
  | n + 1, C, y1, y2, y3 =>
    ev_bd (f_12_peek C) fun r11 C11 =>
    ev_bd (f_12_isSmall C11 r11) fun r12 C12 =>
    if r12 ≠ 0 then
      f_12_go_J201 (f_12_go_L181 n) C12 y1 y2 y3
    else
      ev_bd (f_12_peek C12) fun r22 C22 =>
      ev_bd (f_12_isDigit C22 r22) fun r23 C23 =>
      if r23 = 0 then
        if y3 = 0 then
          some (ev_u C23 12 11 4)
        else
          if y2 = 0 then
            f_12_go_J317 C23 y1 y2 y3 (2) ((C23 12 13))
          else
            f_12_go_J317 C23 y1 y2 y3 (7) ((C23 12 13))
      else
        f_12_go_J201 (f_12_go_L181 n) C23 y1 y2 y3
def f_12_go_J164 (C : ev_C) (y1 : Int) : Option ev_C :=
  ev_bd (f_12_isSmall C y1) fun r10 C10 =>
  f_12_go_L181 1000 (ev_u (ev_u C10 12 17 0) 12 14 0) y1 r10 (1)
def f_12_go_J145 (C : ev_C) (y1 w0 : Int) : Option ev_C :=
  some (ev_u (ev_u (ev_u C 12 11 w0) 12 14 y1) 12 4 (ev_w (((C 12 4)) + (1 : Int))))
def f_12_go_J140 (C : ev_C) (y1 : Int) : Option ev_C :=
  f_12_go_J145 C y1 (3)
def f_12_go_J144 (C : ev_C) (y1 : Int) : Option ev_C :=
  f_12_go_J145 C y1 (4)
def f_12_go_J80 (C : ev_C) : Option ev_C :=
  ev_bd (f_12_peek C) fun r6 C6 =>
  if 0 ≤ r6 then
    ev_bd (f_12_isSmall C6 r6) fun r8 C8 =>
    if r8 ≠ 0 then
      f_12_go_J164 C8 r6
    else
      ev_bd (f_12_isDigit C8 r6) fun r29 C29 =>
      if r29 ≠ 0 then
        f_12_go_J164 C29 r6
      else
        if r6 = 59 then
          f_12_go_J140 C29 r6
        else
          if r6 = 40 then
            f_12_go_J140 C29 r6
          else
            if r6 = 41 then
              f_12_go_J140 C29 r6
            else
              if r6 < 60 then
                f_12_go_J144 C29 r6
              else
                if 62 < r6 then
                  f_12_go_J144 C29 r6
                else
                  f_12_go_J140 C29 r6
  else
    some (ev_u C6 12 11 0)
def f_12_go_L0 : Nat → ev_C → Option ev_C
  | 0, _ => none
  | n + 1, C =>
    ev_bd (f_12_peek C) fun r1 C1 =>
    if r1 = 32 then
      f_12_go_J18 (f_12_go_L0 n) C1
    else
      ev_bd (f_12_peek C1) fun r3 C3 =>
      if r3 ≠ 10 then
        if (C3 12 3) ≤ (C3 12 5) then
          f_12_go_J80 (ev_u (ev_u C3 12 12 ((C3 12 4))) 12 13 0)
        else
          if (C3 12 4) < (C3 12 5) then
            f_12_go_J80 (ev_u (ev_u C3 12 12 ((C3 12 4))) 12 13 0)
          else
            some (ev_u (ev_u (ev_u (ev_u C3 12 12 ((C3 12 4))) 12 13 0) 12 12 ((C3 12 5))) 12 11 4)
      else
        f_12_go_J18 (f_12_go_L0 n) C3
def f_12_go (C : ev_C) : Option ev_C :=
  f_12_go_L0 1000 C
def f_12_taken (C : ev_C) (x1 : Int) : Option ev_C :=
  some (ev_u (ev_u (ev_u (ev_u C 12 3 ((C 12 2))) 12 2 0) 12 4 0) 12 5 x1)
def f_12_isWord (C : ev_C) (x1 : Int) : Option (Int × ev_C) :=
  if (C 12 11) ≠ 1 then
    some (0, C)
  else
    if ev_cmp ((C 12 17)) x1 ≠ 0 then
      some (0, C)
    else
      some (1, C)
def f_12_bad (C : ev_C) (x1 : Int) : Option (Int × ev_C) :=
  some (0, (ev_u (ev_u C 12 15 x1) 12 16 ((C 12 12))))
def f_12_isName_J45 (K16 : ev_C → Int → Int → Option (Int × ev_C)) (C : ev_C) (y1 y2 w0 : Int) : Option (Int × ev_C) :=
  K16 C w0 (ev_w (y2 + 1))
def f_12_isName_J44 (K16 : ev_C → Int → Int → Option (Int × ev_C)) (C : ev_C) (y1 y2 : Int) : Option (Int × ev_C) :=
  f_12_isName_J45 K16 C y1 y2 (0)
def f_12_isName_L16 : Nat → ev_C → Int → Int → Option (Int × ev_C)
  | 0, _, _, _ => none
  | n + 1, C, y1, y2 =>
    if 27 ≤ y2 then
      if 0 ≤ y1 ∧ y1 ≤ 1 then some (y1, C) else none
    else
      if y1 = 0 then
        f_12_isName_J44 (f_12_isName_L16 n) C y1 y2
      else
        if 0 ≤ y2 ∧ y2 < 27 then
          if ev_cmp ((C 12 17)) ((C 50 (Int.toNat y2))) = 0 then
            f_12_isName_J44 (f_12_isName_L16 n) C y1 y2
          else
            f_12_isName_J45 (f_12_isName_L16 n) C y1 y2 (1)
        else none
def f_12_isName_J13 (C : ev_C) (w0 : Int) : Option (Int × ev_C) :=
  f_12_isName_L16 1000 C w0 (0)
def f_12_isName (C : ev_C) : Option (Int × ev_C) :=
  if (C 12 11) ≠ 1 then
    f_12_isName_J13 C (0)
  else
    f_12_isName_J13 C (1)
def f_12_find_L2 : Nat → ev_C → Int → Int → Int → Option (Int × ev_C)
  | 0, _, _, _, _ => none
  | n + 1, C, y1, y2, y3 =>
    if y2 ≤ y3 then
      some (-1, C)
    else
      if 0 ≤ ev_w (y1 + y3) ∧ ev_w (y1 + y3) < 40 then
        if ev_cmp ((C 19 (Int.toNat (ev_w (y1 + y3))))) ((C 12 17)) ≠ 0 then
          f_12_find_L2 n C y1 y2 (ev_w (y3 + 1))
        else
          some (y3, C)
      else none
def f_12_find (C : ev_C) (x1 x2 : Int) : Option (Int × ev_C) :=
  f_12_find_L2 1000 C x1 x2 (0)
def f_12_looksAt (C : ev_C) (x1 x2 : Int) : Option (Int × ev_C) :=
  ev_bd (f_12_isName C) fun r1 C1 =>
  if r1 ≠ 0 then
    ev_bd (f_12_find C1 x1 x2) fun r3 C3 =>
    if 0 ≤ r3 then
      some (1, (ev_u C3 12 18 r3))
    else
      ev_bd (f_12_bad (ev_u C3 12 18 r3) (3)) fun r5 C5 =>
      if r5 = 0 then
        some (0, C5)
      else
        some (1, C5)
  else
    ev_bd (f_12_bad C1 (1)) fun r7 C7 =>
    if 0 ≤ r7 ∧ r7 ≤ 1 then some (r7, C7) else none
def f_12_takesName (C : ev_C) (x1 x2 : Int) : Option (Int × ev_C) :=
  ev_bd (f_12_looksAt C x1 x2) fun r1 C1 =>
  if r1 ≠ 0 then
    ev_bv (f_12_go C1) fun C3 =>
    some (1, C3)
  else
    some (0, C1)
def f_12_bitOf (C : ev_C) (x0 x1 : Int) : Option (Int × ev_C) :=
  if ev_and (ev_shr x0 x1) 1 ≠ 1 then
    some (0, C)
  else
    some (1, C)
def f_12_sets (C : ev_C) (x1 : Int) : Option (Int × ev_C) :=
  if 0 ≤ x1 ∧ x1 < 140 then
    ev_bd (f_12_bitOf C ((C 35 (Int.toNat x1))) ((C 12 18))) fun r2 C2 =>
    if r2 = 0 then
      if 0 ≤ x1 ∧ x1 < 140 then
        if 0 ≤ x1 ∧ x1 < 140 then
          ev_bv (f_12_go (ev_u C2 35 (Int.toNat x1) (ev_or ((C2 35 (Int.toNat x1))) (ev_shl 1 ((C2 12 18)))))) fun C6 =>
          some (1, C6)
        else none
      else none
    else
      ev_bd (f_12_bad C2 (3)) fun r7 C7 =>
      if 0 ≤ r7 ∧ r7 ≤ 1 then some (r7, C7) else none
  else none
def f_12_isIn (C : ev_C) (x0 x1 x2 : Int) : Option (Int × ev_C) :=
  if x0 < x1 then
    some (0, C)
  else
    if x2 < x0 then
      some (0, C)
    else
      some (1, C)
def f_12_takes (C : ev_C) (x1 x2 : Int) : Option (Int × ev_C) :=
  if (C 12 11) = 2 then
    ev_bd (f_12_isIn C ((C 12 14)) x1 x2) fun r2 C2 =>
    if r2 ≠ 0 then
      ev_bv (f_12_go (ev_u C2 12 18 ((C2 12 14)))) fun C4 =>
      some (1, C4)
    else
      ev_bd (f_12_bad C2 (2)) fun r5 C5 =>
      if 0 ≤ r5 ∧ r5 ≤ 1 then some (r5, C5) else none
  else
    ev_bd (f_12_bad C (1)) fun r7 C7 =>
    if 0 ≤ r7 ∧ r7 ≤ 1 then some (r7, C7) else none
def f_12_pairs (C : ev_C) : Option (Int × ev_C) :=
  ev_bd (f_12_isWord C (109317208502899)) fun r1 C1 =>
  if r1 = 0 then
    ev_bd (f_12_isWord C1 (474147546227)) fun r3 C3 =>
    if r3 = 0 then
      ev_bd (f_12_isWord C3 (465625113971)) fun r5 C5 =>
      if r5 = 0 then
        ev_bd (f_12_isWord C5 (474148660594)) fun r7 C7 =>
        if r7 = 0 then
          ev_bd (f_12_isWord C7 (1718576499)) fun r9 C9 =>
          if r9 = 0 then
            ev_bd (f_12_bad C9 (1)) fun r11 C11 =>
            if 0 ≤ r11 ∧ r11 ≤ 1 then some (r11, C11) else none
          else
            ev_bv (f_12_go C9) fun C13 =>
            ev_bd (f_12_takesName C13 (32) ((C13 35 2))) fun r14 C14 =>
            if r14 ≠ 0 then
              ev_bd (f_12_looksAt C14 (32) ((C14 35 2))) fun r16 C16 =>
              if r16 ≠ 0 then
                if (C16 12 18) = (C14 12 18) then
                  ev_bd (f_12_bad C16 (3)) fun r19 C19 =>
                  if 0 ≤ r19 ∧ r19 ≤ 1 then some (r19, C19) else none
                else
                  ev_bd (f_12_sets C16 (ev_w ((96 : Int) + ((C14 12 18))))) fun r21 C21 =>
                  if r21 ≠ 0 then
                    if 0 ≤ ev_w ((96 : Int) + ((C16 12 18))) ∧ ev_w ((96 : Int) + ((C16 12 18))) < 140 then
                      if 0 ≤ ev_w ((96 : Int) + ((C16 12 18))) ∧ ev_w ((96 : Int) + ((C16 12 18))) < 140 then
                        some (1, (ev_u C21 35 (Int.toNat (ev_w ((96 : Int) + ((C16 12 18))))) (ev_or ((C21 35 (Int.toNat (ev_w ((96 : Int) + ((C16 12 18))))))) (ev_shl 1 ((C14 12 18))))))
                      else none
                    else none
                  else
                    some (0, C21)
              else
                some (0, C16)
            else
              some (0, C14)
        else
          ev_bv (f_12_go C7) fun C25 =>
          ev_bd (f_12_takesName C25 (32) ((C25 35 2))) fun r26 C26 =>
          if r26 ≠ 0 then
            ev_bd (f_12_looksAt C26 (20) ((C26 35 0))) fun r28 C28 =>
            if r28 ≠ 0 then
              ev_bd (f_12_sets C28 (ev_w ((88 : Int) + ((C26 12 18))))) fun r30 C30 =>
              if r30 ≠ 0 then
                some (1, C30)
              else
                some (0, C30)
            else
              some (0, C28)
          else
            some (0, C26)
      else
        ev_bv (f_12_go C5) fun C32 =>
        ev_bd (f_12_takesName C32 (32) ((C32 35 2))) fun r33 C33 =>
        if r33 ≠ 0 then
          ev_bd (f_12_looksAt C33 (20) ((C33 35 0))) fun r35 C35 =>
          if r35 ≠ 0 then
            if 0 ≤ ev_w ((ev_w ((40 : Int) + (ev_w ((6 : Int) * ((C33 12 18)))))) + ((C35 12 18))) ∧ ev_w ((ev_w ((40 : Int) + (ev_w ((6 : Int) * ((C33 12 18)))))) + ((C35 12 18))) < 140 then
              if (C35 35 (Int.toNat (ev_w ((ev_w ((40 : Int) + (ev_w ((6 : Int) * ((C33 12 18)))))) + ((C35 12 18)))))) ≤ 0 then
                ev_bv (f_12_go C35) fun C39 =>
                ev_bd (f_12_takes C39 (1) (9)) fun r40 C40 =>
                if r40 ≠ 0 then
                  if 0 ≤ ev_w ((ev_w ((40 : Int) + (ev_w ((6 : Int) * ((C33 12 18)))))) + ((C35 12 18))) ∧ ev_w ((ev_w ((40 : Int) + (ev_w ((6 : Int) * ((C33 12 18)))))) + ((C35 12 18))) < 140 then
                    some (1, (ev_u C40 35 (Int.toNat (ev_w ((ev_w ((40 : Int) + (ev_w ((6 : Int) * ((C33 12 18)))))) + ((C35 12 18))))) ((C40 12 18))))
                  else none
                else
                  some (0, C40)
              else
                ev_bd (f_12_bad C35 (3)) fun r43 C43 =>
                if 0 ≤ r43 ∧ r43 ≤ 1 then some (r43, C43) else none
            else none
          else
            some (0, C35)
        else
          some (0, C33)
    else
      ev_bv (f_12_go C3) fun C45 =>
      ev_bd (f_12_takesName C45 (20) ((C45 35 0))) fun r46 C46 =>
      if r46 ≠ 0 then
        ev_bd (f_12_looksAt C46 (26) ((C46 35 1))) fun r48 C48 =>
        if r48 ≠ 0 then
          ev_bd (f_12_sets C48 (ev_w ((12 : Int) + ((C46 12 18))))) fun r50 C50 =>
          if r50 ≠ 0 then
            some (1, C50)
          else
            some (0, C50)
        else
          some (0, C48)
      else
        some (0, C46)
  else
    ev_bv (f_12_go C1) fun C52 =>
    ev_bd (f_12_takesName C52 (26) ((C52 35 1))) fun r53 C53 =>
    if r53 ≠ 0 then
      ev_bd (f_12_looksAt C53 (20) ((C53 35 0))) fun r55 C55 =>
      if r55 ≠ 0 then
        ev_bd (f_12_sets C55 (ev_w ((34 : Int) + ((C53 12 18))))) fun r57 C57 =>
        if r57 ≠ 0 then
          some (1, C57)
        else
          some (0, C57)
      else
        some (0, C55)
    else
      some (0, C53)
def f_12_isSign (C : ev_C) (x1 : Int) : Option (Int × ev_C) :=
  if (C 12 11) ≠ 3 then
    some (0, C)
  else
    if (C 12 14) ≠ x1 then
      some (0, C)
    else
      some (1, C)
def f_12_readScene_J86 (K65 : ev_C → Int → Option (Int × ev_C)) (C : ev_C) (y1 : Int) : Option (Int × ev_C) :=
  ev_bd (f_12_looksAt C (20) ((C 35 0))) fun r8 C8 =>
  if r8 = 0 then
    some (0, C8)
  else
    ev_bd (f_12_sets C8 (ev_w ((116 : Int) + y1))) fun r10 C10 =>
    if r10 ≠ 0 then
      K65 C10 y1
    else
      some (0, C10)
def f_12_readScene_L65 : Nat → ev_C → Int → Option (Int × ev_C)
  | 0, _, _ => none
  | n + 1, C, y1 =>
    if 0 ≤ ev_w ((116 : Int) + y1) ∧ ev_w ((116 : Int) + y1) < 140 then
      if (C 35 (Int.toNat (ev_w ((116 : Int) + y1)))) = 0 then
        f_12_readScene_J86 (f_12_readScene_L65 n) C y1
      else
        ev_bd (f_12_isSign C (59)) fun r12 C12 =>
        if r12 ≠ 0 then
          some (1, (ev_u C12 35 4 (ev_w (((C12 35 4)) + (1 : Int)))))
        else
          f_12_readScene_J86 (f_12_readScene_L65 n) C12 y1
    else none
def f_12_readScene (C : ev_C) : Option (Int × ev_C) :=
  if (C 35 3) ≠ 0 then
    if (C 35 4) ≠ 12 then
      ev_bv (f_12_go C) fun C3 =>
      if 0 ≤ ev_w ((104 : Int) + ((C 35 4))) ∧ ev_w ((104 : Int) + ((C 35 4))) < 140 then
        if 0 ≤ ev_w ((116 : Int) + ((C 35 4))) ∧ ev_w ((116 : Int) + ((C 35 4))) < 140 then
          f_12_readScene_L65 1000 (ev_u (ev_u C3 35 (Int.toNat (ev_w ((104 : Int) + ((C 35 4))))) (ev_w (((C3 35 3)) - (1 : Int)))) 35 (Int.toNat (ev_w ((116 : Int) + ((C 35 4))))) 0) ((C 35 4))
        else none
      else none
    else
      ev_bd (f_12_bad C (4)) fun r14 C14 =>
      if 0 ≤ r14 ∧ r14 ≤ 1 then some (r14, C14) else none
  else
    ev_bd (f_12_bad C (1)) fun r16 C16 =>
    if 0 ≤ r16 ∧ r16 ≤ 1 then some (r16, C16) else none
def f_12_fresh (C : ev_C) (x1 : Int) : Option (Int × ev_C) :=
  ev_bd (f_12_isName C) fun r1 C1 =>
  if r1 ≠ 0 then
    ev_bd (f_12_find C1 (20) ((C1 35 0))) fun r3 C3 =>
    if 0 ≤ r3 then
      ev_bd (f_12_bad C3 (3)) fun r5 C5 =>
      if 0 ≤ r5 ∧ r5 ≤ 1 then some (r5, C5) else none
    else
      ev_bd (f_12_find C3 (26) ((C3 35 1))) fun r7 C7 =>
      if 0 ≤ r7 then
        ev_bd (f_12_bad C7 (3)) fun r9 C9 =>
        if 0 ≤ r9 ∧ r9 ≤ 1 then some (r9, C9) else none
      else
        ev_bd (f_12_find C7 (32) ((C7 35 2))) fun r11 C11 =>
        if r11 < 0 then
          if 0 ≤ x1 ∧ x1 < 40 then
            ev_bv (f_12_go (ev_u C11 19 (Int.toNat x1) ((C11 12 17)))) fun C14 =>
            some (1, C14)
          else none
        else
          ev_bd (f_12_bad C11 (3)) fun r15 C15 =>
          if 0 ≤ r15 ∧ r15 ≤ 1 then some (r15, C15) else none
  else
    ev_bd (f_12_bad C1 (1)) fun r17 C17 =>
    if 0 ≤ r17 ∧ r17 ≤ 1 then some (r17, C17) else none
def f_12_line (C : ev_C) : Option (Int × ev_C) :=
  ev_bd (f_12_isWord C (1885434484)) fun r1 C1 =>
  if r1 = 0 then
    ev_bd (f_12_isWord C1 (1717658484)) fun r3 C3 =>
    if r3 = 0 then
      ev_bd (f_12_isWord C3 (7168366)) fun r5 C5 =>
      if r5 = 0 then
        ev_bd (f_12_isWord C5 (6382452)) fun r7 C7 =>
        if r7 = 0 then
          ev_bd (f_12_isWord C7 (1919251316)) fun r9 C9 =>
          if r9 = 0 then
            ev_bd (f_12_isWord C9 (495588830821)) fun r11 C11 =>
            if r11 = 0 then
              ev_bd (f_12_isWord C11 (495673374579)) fun r13 C13 =>
              if r13 = 0 then
                ev_bd (f_12_pairs C13) fun r15 C15 =>
                if 0 ≤ r15 ∧ r15 ≤ 1 then some (r15, C15) else none
              else
                if ev_w (((C13 35 4)) - (1 : Int)) < 0 then
                  ev_bd (f_12_bad C13 (1)) fun r18 C18 =>
                  if 0 ≤ r18 ∧ r18 ≤ 1 then some (r18, C18) else none
                else
                  if 0 ≤ ev_w ((104 : Int) + (ev_w (((C13 35 4)) - (1 : Int)))) ∧ ev_w ((104 : Int) + (ev_w (((C13 35 4)) - (1 : Int)))) < 140 then
                    if (C13 35 (Int.toNat (ev_w ((104 : Int) + (ev_w (((C13 35 4)) - (1 : Int))))))) = ev_w (((C13 35 3)) - (1 : Int)) then
                      ev_bv (f_12_go C13) fun C22 =>
                      ev_bd (f_12_looksAt C22 (26) ((C22 35 1))) fun r23 C23 =>
                      if r23 = 0 then
                        some (0, C23)
                      else
                        ev_bd (f_12_sets C23 (ev_w ((128 : Int) + (ev_w (((C13 35 4)) - (1 : Int)))))) fun r25 C25 =>
                        if r25 = 0 then
                          some (0, C25)
                        else
                          some (1, C25)
                    else
                      ev_bd (f_12_bad C13 (1)) fun r27 C27 =>
                      if 0 ≤ r27 ∧ r27 ≤ 1 then some (r27, C27) else none
                  else none
            else
              ev_bd (f_12_readScene C11) fun r29 C29 =>
              if 0 ≤ r29 ∧ r29 ≤ 1 then some (r29, C29) else none
          else
            if (C9 35 5) ≠ 1 then
              ev_bv (f_12_go (ev_u C9 35 5 1)) fun C32 =>
              some (1, C32)
            else
              ev_bd (f_12_bad C9 (3)) fun r33 C33 =>
              if 0 ≤ r33 ∧ r33 ≤ 1 then some (r33, C33) else none
        else
          if (C7 35 3) ≠ 6 then
            ev_bv (f_12_go C7) fun C36 =>
            some (1, (ev_u C36 35 3 (ev_w (((C36 35 3)) + (1 : Int)))))
          else
            ev_bd (f_12_bad C7 (4)) fun r37 C37 =>
            if 0 ≤ r37 ∧ r37 ≤ 1 then some (r37, C37) else none
      else
        if (C5 35 2) ≠ 8 then
          ev_bv (f_12_go C5) fun C40 =>
          ev_bd (f_12_fresh C40 (ev_w ((32 : Int) + ((C5 35 2))))) fun r41 C41 =>
          if r41 = 0 then
            some (0, C41)
          else
            ev_bd (f_12_takes C41 (0) (9)) fun r43 C43 =>
            if r43 ≠ 0 then
              if 0 ≤ ev_w ((18 : Int) + ((C5 35 2))) ∧ ev_w ((18 : Int) + ((C5 35 2))) < 140 then
                ev_bd (f_12_takes (ev_u C43 35 (Int.toNat (ev_w ((18 : Int) + ((C5 35 2))))) ((C43 12 18))) (1) (9)) fun r46 C46 =>
                if r46 ≠ 0 then
                  if 0 ≤ ev_w ((26 : Int) + ((C5 35 2))) ∧ ev_w ((26 : Int) + ((C5 35 2))) < 140 then
                    some (1, (ev_u (ev_u C46 35 (Int.toNat (ev_w ((26 : Int) + ((C5 35 2))))) ((C46 12 18))) 35 2 (ev_w ((((ev_u C46 35 (Int.toNat (ev_w ((26 : Int) + ((C5 35 2))))) ((C46 12 18))) 35 2)) + (1 : Int)))))
                  else none
                else
                  some (0, C46)
              else none
            else
              some (0, C43)
        else
          ev_bd (f_12_bad C5 (4)) fun r49 C49 =>
          if 0 ≤ r49 ∧ r49 ≤ 1 then some (r49, C49) else none
    else
      if (C3 35 1) ≠ 6 then
        ev_bv (f_12_go C3) fun C52 =>
        ev_bd (f_12_fresh C52 (ev_w ((26 : Int) + ((C52 35 1))))) fun r53 C53 =>
        if r53 ≠ 0 then
          some (1, (ev_u C53 35 1 (ev_w (((C53 35 1)) + (1 : Int)))))
        else
          some (0, C53)
      else
        ev_bd (f_12_bad C3 (4)) fun r55 C55 =>
        if 0 ≤ r55 ∧ r55 ≤ 1 then some (r55, C55) else none
  else
    if (C1 35 0) ≠ 6 then
      ev_bv (f_12_go C1) fun C58 =>
      ev_bd (f_12_fresh C58 (ev_w ((20 : Int) + ((C1 35 0))))) fun r59 C59 =>
      if r59 = 0 then
        some (0, C59)
      else
        ev_bd (f_12_takes C59 (0) (9)) fun r61 C61 =>
        if r61 ≠ 0 then
          if 0 ≤ ev_w ((6 : Int) + ((C1 35 0))) ∧ ev_w ((6 : Int) + ((C1 35 0))) < 140 then
            some (1, (ev_u (ev_u C61 35 (Int.toNat (ev_w ((6 : Int) + ((C1 35 0))))) ((C61 12 18))) 35 0 (ev_w ((((ev_u C61 35 (Int.toNat (ev_w ((6 : Int) + ((C1 35 0))))) ((C61 12 18))) 35 0)) + (1 : Int)))))
          else none
        else
          some (0, C61)
    else
      ev_bd (f_12_bad C1 (4)) fun r64 C64 =>
      if 0 ≤ r64 ∧ r64 ≤ 1 then some (r64, C64) else none
def f_12_sign (C : ev_C) (x1 : Int) : Option (Int × ev_C) :=
  ev_bd (f_12_isSign C x1) fun r1 C1 =>
  if r1 ≠ 0 then
    ev_bv (f_12_go C1) fun C3 =>
    some (1, C3)
  else
    ev_bd (f_12_bad C1 (1)) fun r4 C4 =>
    if 0 ≤ r4 ∧ r4 ≤ 1 then some (r4, C4) else none
def f_12_play_L131 : Nat → ev_C → Int → Option (Int × ev_C)
  | 0, _, _ => none
  | n + 1, C, y1 =>
    if 20 ≤ y1 then
      some ((C 12 19), (ev_u C 12 22 0))
    else
      if 0 ≤ ev_w ((20 : Int) + y1) ∧ ev_w ((20 : Int) + y1) < 40 then
        if 0 ≤ y1 ∧ y1 < 40 then
          f_12_play_L131 n (ev_u C 19 (Int.toNat y1) ((C 19 (Int.toNat (ev_w ((20 : Int) + y1)))))) (ev_w (y1 + 1))
        else none
      else none
def f_12_play_J122 (K93 : ev_C → Int → Option (Int × ev_C)) (C : ev_C) (y1 w0 w1 : Int) : Option (Int × ev_C) :=
  if 0 ≤ w1 ∧ w1 < 367 then
    K93 (ev_u C 34 (Int.toNat w1) w0) (ev_w (y1 + 1))
  else none
def f_12_play_L93 : Nat → ev_C → Int → Option (Int × ev_C)
  | 0, _, _ => none
  | n + 1, C, y1 =>
    if 367 ≤ y1 then
      f_12_play_L131 1000 C (0)
    else
      if 140 ≤ y1 then
        f_12_play_J122 (f_12_play_L93 n) C y1 (0) y1
      else
        if 0 ≤ y1 ∧ y1 < 140 then
          f_12_play_J122 (f_12_play_L93 n) C y1 ((C 35 (Int.toNat y1))) y1
        else none
def f_12_play_L48 : Nat → ev_C → Int → Option (Int × ev_C)
  | 0, _, _ => none
  | n + 1, C, y1 =>
    if (C 12 11) = 0 then
      f_12_play_L93 1000 C (0)
    else
      ev_bd (f_12_line C) fun r12 C12 =>
      if r12 = 0 then
        some (ev_w ((-1 : Int) - ((C12 12 16))), C12)
      else
        ev_bd (f_12_sign C12 (59)) fun r14 C14 =>
        if r14 ≠ 0 then
          f_12_play_L48 n (ev_u C14 12 19 (ev_w (((C14 12 19)) + (1 : Int)))) y1
        else
          some (ev_w ((-1 : Int) - ((C14 12 16))), C14)
def f_12_play_L24 : Nat → ev_C → Int → Option (Int × ev_C)
  | 0, _, _ => none
  | n + 1, C, y1 =>
    if 140 ≤ y1 then
      ev_bv (f_12_go C) fun C3 =>
      f_12_play_L48 1000 C3 y1
    else
      if 0 ≤ y1 ∧ y1 < 140 then
        f_12_play_L24 n (ev_u C 35 (Int.toNat y1) 0) (ev_w (y1 + 1))
      else none
def f_12_play (C : ev_C) : Option (Int × ev_C) :=
  ev_bv (f_12_taken (ev_u C 12 0 0) (900)) fun C1 =>
  f_12_play_L24 1000 (ev_u (ev_u C1 12 15 0) 12 19 0) (0)

/-! THE EXACT LOGIC: sentence() of both as functions over memory (printed by a program of ours). -/
def f_9_clear_14 (C : ev_C) : Option ev_C :=
  some (ev_u (ev_u C 14 0 0) 14 1 0)
def f_9_addStep_14 (C : ev_C) (x1 x2 x3 : Int) : Option ev_C :=
  if 40 ≤ (C 14 1) then
    some C
  else
    if 0 ≤ (C 14 1) ∧ (C 14 1) < 40 then
      if 0 ≤ (C 14 1) ∧ (C 14 1) < 40 then
        if 0 ≤ (C 14 1) ∧ (C 14 1) < 40 then
          some (ev_u C 14 1 (ev_w (((C 14 1)) + (1 : Int))))
        else none
      else none
    else none
def f_8_indexOf_68_L3 : Nat → ev_C → Int → Int → Int → Option (Int × ev_C)
  | 0, _, _, _, _ => none
  | n + 1, C, y1, y2, y4 =>
    if y1 ≤ y4 then
      some (-1, C)
    else
      if 6 ≤ y4 then
        some (-1, C)
      else
        if 0 ≤ y4 ∧ y4 < 6 then
          if ev_cmp ((C 68 (Int.toNat y4))) y2 ≠ 0 then
            f_8_indexOf_68_L3 n C y1 y2 (ev_w (y4 + 1))
          else
            some (y4, C)
        else none
def f_8_indexOf_68 (C : ev_C) (x1 x2 : Int) : Option (Int × ev_C) :=
  f_8_indexOf_68_L3 1000 C x1 x2 (0)
def f_8_nameHere_68 (C : ev_C) (x2 : Int) : Option (Int × ev_C) :=
  ev_bd (f_8_isAtName C) fun r1 C1 =>
  if r1 ≠ 0 then
    ev_bd (f_8_indexOf_68 C1 x2 ((C1 8 8))) fun r3 C3 =>
    if r3 ≠ -1 then
      some (r3, C3)
    else
      ev_bv (f_8_fail C3 (3)) fun C5 =>
      some (r3, C5)
  else
    ev_bv (f_8_fail C1 (1)) fun C6 =>
    some (-1, C6)
def f_8_takeName_68 (C : ev_C) (x2 : Int) : Option (Int × ev_C) :=
  ev_bd (f_8_nameHere_68 C x2) fun r1 C1 =>
  if r1 = -1 then
    some (r1, C1)
  else
    ev_bv (f_8_step C1) fun C3 =>
    some (r1, C3)
def f_9_readPlainOne_14_8_6_J94 (C : ev_C) (y3 y4 : Int) : Option ev_C :=
  ev_bv (f_8_step C) fun C9 =>
  ev_bd (f_8_takeNumber C9 (0) (99)) fun r10 C10 =>
  ev_bv (f_9_addStep_14 C10 y3 y4 r10) fun C11 =>
  some C11
def f_9_readPlainOne_14_8_6 (C : ev_C) (x3 : Int) : Option ev_C :=
  if x3 = 19 then
    ev_bv (f_9_addStep_14 C x3 (0) (0)) fun C2 =>
    some C2
  else
    if x3 = 20 then
      ev_bv (f_9_addStep_14 C x3 (0) (0)) fun C4 =>
      some C4
    else
      if x3 ≠ 22 then
        if x3 ≠ 21 then
          ev_bd (f_8_isAtSign C (60)) fun r7 C7 =>
          if r7 ≠ 0 then
            f_9_readPlainOne_14_8_6_J94 C7 x3 ((C 8 6))
          else
            ev_bd (f_8_isAtSign C7 (61)) fun r12 C12 =>
            if r12 ≠ 0 then
              f_9_readPlainOne_14_8_6_J94 C12 x3 ((C 8 6))
            else
              ev_bd (f_8_isAtSign C12 (62)) fun r14 C14 =>
              if r14 ≠ 0 then
                f_9_readPlainOne_14_8_6_J94 C14 x3 ((C 8 6))
              else
                ev_bv (f_8_fail C14 (1)) fun C16 =>
                some C16
        else
          ev_bd (f_8_takeName_68 C ((C 6 1))) fun r17 C17 =>
          ev_bv (f_9_addStep_14 C17 x3 (0) r17) fun C18 =>
          some C18
      else
        ev_bv (f_9_addStep_14 C x3 (0) (0)) fun C19 =>
        some C19
def f_9_readOne_14_8_6_k9_J39 (C : ev_C) (y4 y5 : Int) : Option ev_C :=
  if 20 ≤ (C 14 0) then
    ev_bv (f_8_fail C (4)) fun C5 =>
    some C5
  else
    ev_bv (f_8_fail C (4)) fun C6 =>
    some C6
def f_9_readOne_14_8_6_k9 (C : ev_C) : Option ev_C :=
  ev_bd (f_8_wordHere C) fun r1 C1 =>
  ev_bd (f_8_isAtSign C1 (40)) fun r2 C2 =>
  if r2 ≠ 0 then
    f_9_readOne_14_8_6_k9_J39 C2 r1 r2
  else
    if r1 < 18 then
      ev_bv (f_8_fail C2 (1)) fun C8 =>
      some C8
    else
      if r1 ≤ 26 then
        f_9_readOne_14_8_6_k9_J39 C2 r1 r2
      else
        ev_bv (f_8_fail C2 (1)) fun C10 =>
        some C10
def f_8_isAtWord (C : ev_C) (x1 : Int) : Option (Int × ev_C) :=
  if (C 8 4) ≠ 1 then
    some (0, C)
  else
    if (C 8 7) ≠ x1 then
      some (0, C)
    else
      some (1, C)
def f_9_readAll_14_8_6_k8_L12 : Nat → ev_C → Int → Option ev_C
  | 0, _, _ => none
  | n + 1, C, y4 =>
    if 20 ≤ y4 then
      some C
    else
      ev_bd (f_8_isFine C) fun r3 C3 =>
      if r3 = 0 then
        some C3
      else
        ev_bd (f_8_isAtWord C3 (17)) fun r5 C5 =>
        if r5 = 0 then
          some C5
        else
          none
def f_9_readAll_14_8_6_k8 (C : ev_C) : Option ev_C :=
  ev_bv (f_9_readOne_14_8_6_k9 C) fun C1 =>
  f_9_readAll_14_8_6_k8_L12 1000 C1 (0)
def f_9_readCond_14_8_6_k8_L10 : Nat → ev_C → Int → Option ev_C
  | 0, _, _ => none
  | n + 1, C, y4 =>
    if 20 ≤ y4 then
      some C
    else
      ev_bd (f_8_isFine C) fun r3 C3 =>
      if r3 = 0 then
        some C3
      else
        ev_bd (f_8_isAtWord C3 (16)) fun r5 C5 =>
        if r5 = 0 then
          some C5
        else
          ev_bv (f_8_step C5) fun C7 =>
          ev_bv (f_9_readAll_14_8_6_k8 C7) fun C8 =>
          ev_bv (f_9_addStep_14 C8 (16) (0) (0)) fun C9 =>
          f_9_readCond_14_8_6_k8_L10 n C9 (ev_w (y4 + 1))
def f_9_readCond_14_8_6_k8 (C : ev_C) : Option ev_C :=
  ev_bv (f_9_readAll_14_8_6_k8 C) fun C1 =>
  f_9_readCond_14_8_6_k8_L10 1000 C1 (0)
def f_9_readOne_14_8_6_k8_J39 (C : ev_C) (y4 y5 : Int) : Option ev_C :=
  if 20 ≤ (C 14 0) then
    ev_bv (f_8_fail C (4)) fun C5 =>
    some C5
  else
    ev_bv (f_8_step (ev_u C 14 0 (ev_w (((C 14 0)) + (1 : Int))))) fun C6 =>
    if y5 = 0 then
      if y4 ≠ 18 then
        ev_bv (f_9_readPlainOne_14_8_6 C6 y4) fun C9 =>
        some C9
      else
        ev_bv (f_9_readOne_14_8_6_k9 C6) fun C10 =>
        ev_bv (f_9_addStep_14 C10 (18) (0) (0)) fun C11 =>
        some C11
    else
      ev_bv (f_9_readCond_14_8_6_k8 C6) fun C12 =>
      ev_bd (f_8_isFine C12) fun r13 C13 =>
      if r13 = 0 then
        some C13
      else
        ev_bv (f_8_takeSign C13 (41)) fun C15 =>
        some C15
def f_9_readOne_14_8_6_k8 (C : ev_C) : Option ev_C :=
  ev_bd (f_8_wordHere C) fun r1 C1 =>
  ev_bd (f_8_isAtSign C1 (40)) fun r2 C2 =>
  if r2 ≠ 0 then
    f_9_readOne_14_8_6_k8_J39 C2 r1 r2
  else
    if r1 < 18 then
      ev_bv (f_8_fail C2 (1)) fun C17 =>
      some C17
    else
      if r1 ≤ 26 then
        f_9_readOne_14_8_6_k8_J39 C2 r1 r2
      else
        ev_bv (f_8_fail C2 (1)) fun C19 =>
        some C19
def f_9_readAll_14_8_6_k7_L12 : Nat → ev_C → Int → Option ev_C
  | 0, _, _ => none
  | n + 1, C, y4 =>
    if 20 ≤ y4 then
      some C
    else
      ev_bd (f_8_isFine C) fun r3 C3 =>
      if r3 = 0 then
        some C3
      else
        ev_bd (f_8_isAtWord C3 (17)) fun r5 C5 =>
        if r5 = 0 then
          some C5
        else
          ev_bv (f_8_step C5) fun C7 =>
          ev_bv (f_9_readOne_14_8_6_k8 C7) fun C8 =>
          ev_bv (f_9_addStep_14 C8 (17) (0) (0)) fun C9 =>
          f_9_readAll_14_8_6_k7_L12 n C9 (ev_w (y4 + 1))
def f_9_readAll_14_8_6_k7 (C : ev_C) : Option ev_C :=
  ev_bv (f_9_readOne_14_8_6_k8 C) fun C1 =>
  f_9_readAll_14_8_6_k7_L12 1000 C1 (0)
def f_9_readCond_14_8_6_k7_L10 : Nat → ev_C → Int → Option ev_C
  | 0, _, _ => none
  | n + 1, C, y4 =>
    if 20 ≤ y4 then
      some C
    else
      ev_bd (f_8_isFine C) fun r3 C3 =>
      if r3 = 0 then
        some C3
      else
        ev_bd (f_8_isAtWord C3 (16)) fun r5 C5 =>
        if r5 = 0 then
          some C5
        else
          ev_bv (f_8_step C5) fun C7 =>
          ev_bv (f_9_readAll_14_8_6_k7 C7) fun C8 =>
          ev_bv (f_9_addStep_14 C8 (16) (0) (0)) fun C9 =>
          f_9_readCond_14_8_6_k7_L10 n C9 (ev_w (y4 + 1))
def f_9_readCond_14_8_6_k7 (C : ev_C) : Option ev_C :=
  ev_bv (f_9_readAll_14_8_6_k7 C) fun C1 =>
  f_9_readCond_14_8_6_k7_L10 1000 C1 (0)
def f_9_readOne_14_8_6_k7_J39 (C : ev_C) (y4 y5 : Int) : Option ev_C :=
  if 20 ≤ (C 14 0) then
    ev_bv (f_8_fail C (4)) fun C5 =>
    some C5
  else
    ev_bv (f_8_step (ev_u C 14 0 (ev_w (((C 14 0)) + (1 : Int))))) fun C6 =>
    if y5 = 0 then
      if y4 ≠ 18 then
        ev_bv (f_9_readPlainOne_14_8_6 C6 y4) fun C9 =>
        some C9
      else
        ev_bv (f_9_readOne_14_8_6_k8 C6) fun C10 =>
        ev_bv (f_9_addStep_14 C10 (18) (0) (0)) fun C11 =>
        some C11
    else
      ev_bv (f_9_readCond_14_8_6_k7 C6) fun C12 =>
      ev_bd (f_8_isFine C12) fun r13 C13 =>
      if r13 = 0 then
        some C13
      else
        ev_bv (f_8_takeSign C13 (41)) fun C15 =>
        some C15
def f_9_readOne_14_8_6_k7 (C : ev_C) : Option ev_C :=
  ev_bd (f_8_wordHere C) fun r1 C1 =>
  ev_bd (f_8_isAtSign C1 (40)) fun r2 C2 =>
  if r2 ≠ 0 then
    f_9_readOne_14_8_6_k7_J39 C2 r1 r2
  else
    if r1 < 18 then
      ev_bv (f_8_fail C2 (1)) fun C17 =>
      some C17
    else
      if r1 ≤ 26 then
        f_9_readOne_14_8_6_k7_J39 C2 r1 r2
      else
        ev_bv (f_8_fail C2 (1)) fun C19 =>
        some C19
def f_9_readAll_14_8_6_k6_L12 : Nat → ev_C → Int → Option ev_C
  | 0, _, _ => none
  | n + 1, C, y4 =>
    if 20 ≤ y4 then
      some C
    else
      ev_bd (f_8_isFine C) fun r3 C3 =>
      if r3 = 0 then
        some C3
      else
        ev_bd (f_8_isAtWord C3 (17)) fun r5 C5 =>
        if r5 = 0 then
          some C5
        else
          ev_bv (f_8_step C5) fun C7 =>
          ev_bv (f_9_readOne_14_8_6_k7 C7) fun C8 =>
          ev_bv (f_9_addStep_14 C8 (17) (0) (0)) fun C9 =>
          f_9_readAll_14_8_6_k6_L12 n C9 (ev_w (y4 + 1))
def f_9_readAll_14_8_6_k6 (C : ev_C) : Option ev_C :=
  ev_bv (f_9_readOne_14_8_6_k7 C) fun C1 =>
  f_9_readAll_14_8_6_k6_L12 1000 C1 (0)
def f_9_readCond_14_8_6_k6_L10 : Nat → ev_C → Int → Option ev_C
  | 0, _, _ => none
  | n + 1, C, y4 =>
    if 20 ≤ y4 then
      some C
    else
      ev_bd (f_8_isFine C) fun r3 C3 =>
      if r3 = 0 then
        some C3
      else
        ev_bd (f_8_isAtWord C3 (16)) fun r5 C5 =>
        if r5 = 0 then
          some C5
        else
          ev_bv (f_8_step C5) fun C7 =>
          ev_bv (f_9_readAll_14_8_6_k6 C7) fun C8 =>
          ev_bv (f_9_addStep_14 C8 (16) (0) (0)) fun C9 =>
          f_9_readCond_14_8_6_k6_L10 n C9 (ev_w (y4 + 1))
def f_9_readCond_14_8_6_k6 (C : ev_C) : Option ev_C :=
  ev_bv (f_9_readAll_14_8_6_k6 C) fun C1 =>
  f_9_readCond_14_8_6_k6_L10 1000 C1 (0)
def f_9_readOne_14_8_6_k6_J39 (C : ev_C) (y4 y5 : Int) : Option ev_C :=
  if 20 ≤ (C 14 0) then
    ev_bv (f_8_fail C (4)) fun C5 =>
    some C5
  else
    ev_bv (f_8_step (ev_u C 14 0 (ev_w (((C 14 0)) + (1 : Int))))) fun C6 =>
    if y5 = 0 then
      if y4 ≠ 18 then
        ev_bv (f_9_readPlainOne_14_8_6 C6 y4) fun C9 =>
        some C9
      else
        ev_bv (f_9_readOne_14_8_6_k7 C6) fun C10 =>
        ev_bv (f_9_addStep_14 C10 (18) (0) (0)) fun C11 =>
        some C11
    else
      ev_bv (f_9_readCond_14_8_6_k6 C6) fun C12 =>
      ev_bd (f_8_isFine C12) fun r13 C13 =>
      if r13 = 0 then
        some C13
      else
        ev_bv (f_8_takeSign C13 (41)) fun C15 =>
        some C15
def f_9_readOne_14_8_6_k6 (C : ev_C) : Option ev_C :=
  ev_bd (f_8_wordHere C) fun r1 C1 =>
  ev_bd (f_8_isAtSign C1 (40)) fun r2 C2 =>
  if r2 ≠ 0 then
    f_9_readOne_14_8_6_k6_J39 C2 r1 r2
  else
    if r1 < 18 then
      ev_bv (f_8_fail C2 (1)) fun C17 =>
      some C17
    else
      if r1 ≤ 26 then
        f_9_readOne_14_8_6_k6_J39 C2 r1 r2
      else
        ev_bv (f_8_fail C2 (1)) fun C19 =>
        some C19
def f_9_readAll_14_8_6_k5_L12 : Nat → ev_C → Int → Option ev_C
  | 0, _, _ => none
  | n + 1, C, y4 =>
    if 20 ≤ y4 then
      some C
    else
      ev_bd (f_8_isFine C) fun r3 C3 =>
      if r3 = 0 then
        some C3
      else
        ev_bd (f_8_isAtWord C3 (17)) fun r5 C5 =>
        if r5 = 0 then
          some C5
        else
          ev_bv (f_8_step C5) fun C7 =>
          ev_bv (f_9_readOne_14_8_6_k6 C7) fun C8 =>
          ev_bv (f_9_addStep_14 C8 (17) (0) (0)) fun C9 =>
          f_9_readAll_14_8_6_k5_L12 n C9 (ev_w (y4 + 1))
def f_9_readAll_14_8_6_k5 (C : ev_C) : Option ev_C :=
  ev_bv (f_9_readOne_14_8_6_k6 C) fun C1 =>
  f_9_readAll_14_8_6_k5_L12 1000 C1 (0)
def f_9_readCond_14_8_6_k5_L10 : Nat → ev_C → Int → Option ev_C
  | 0, _, _ => none
  | n + 1, C, y4 =>
    if 20 ≤ y4 then
      some C
    else
      ev_bd (f_8_isFine C) fun r3 C3 =>
      if r3 = 0 then
        some C3
      else
        ev_bd (f_8_isAtWord C3 (16)) fun r5 C5 =>
        if r5 = 0 then
          some C5
        else
          ev_bv (f_8_step C5) fun C7 =>
          ev_bv (f_9_readAll_14_8_6_k5 C7) fun C8 =>
          ev_bv (f_9_addStep_14 C8 (16) (0) (0)) fun C9 =>
          f_9_readCond_14_8_6_k5_L10 n C9 (ev_w (y4 + 1))
def f_9_readCond_14_8_6_k5 (C : ev_C) : Option ev_C :=
  ev_bv (f_9_readAll_14_8_6_k5 C) fun C1 =>
  f_9_readCond_14_8_6_k5_L10 1000 C1 (0)
def f_9_readOne_14_8_6_k5_J39 (C : ev_C) (y4 y5 : Int) : Option ev_C :=
  if 20 ≤ (C 14 0) then
    ev_bv (f_8_fail C (4)) fun C5 =>
    some C5
  else
    ev_bv (f_8_step (ev_u C 14 0 (ev_w (((C 14 0)) + (1 : Int))))) fun C6 =>
    if y5 = 0 then
      if y4 ≠ 18 then
        ev_bv (f_9_readPlainOne_14_8_6 C6 y4) fun C9 =>
        some C9
      else
        ev_bv (f_9_readOne_14_8_6_k6 C6) fun C10 =>
        ev_bv (f_9_addStep_14 C10 (18) (0) (0)) fun C11 =>
        some C11
    else
      ev_bv (f_9_readCond_14_8_6_k5 C6) fun C12 =>
      ev_bd (f_8_isFine C12) fun r13 C13 =>
      if r13 = 0 then
        some C13
      else
        ev_bv (f_8_takeSign C13 (41)) fun C15 =>
        some C15
def f_9_readOne_14_8_6_k5 (C : ev_C) : Option ev_C :=
  ev_bd (f_8_wordHere C) fun r1 C1 =>
  ev_bd (f_8_isAtSign C1 (40)) fun r2 C2 =>
  if r2 ≠ 0 then
    f_9_readOne_14_8_6_k5_J39 C2 r1 r2
  else
    if r1 < 18 then
      ev_bv (f_8_fail C2 (1)) fun C17 =>
      some C17
    else
      if r1 ≤ 26 then
        f_9_readOne_14_8_6_k5_J39 C2 r1 r2
      else
        ev_bv (f_8_fail C2 (1)) fun C19 =>
        some C19
def f_9_readAll_14_8_6_k4_L12 : Nat → ev_C → Int → Option ev_C
  | 0, _, _ => none
  | n + 1, C, y4 =>
    if 20 ≤ y4 then
      some C
    else
      ev_bd (f_8_isFine C) fun r3 C3 =>
      if r3 = 0 then
        some C3
      else
        ev_bd (f_8_isAtWord C3 (17)) fun r5 C5 =>
        if r5 = 0 then
          some C5
        else
          ev_bv (f_8_step C5) fun C7 =>
          ev_bv (f_9_readOne_14_8_6_k5 C7) fun C8 =>
          ev_bv (f_9_addStep_14 C8 (17) (0) (0)) fun C9 =>
          f_9_readAll_14_8_6_k4_L12 n C9 (ev_w (y4 + 1))
def f_9_readAll_14_8_6_k4 (C : ev_C) : Option ev_C :=
  ev_bv (f_9_readOne_14_8_6_k5 C) fun C1 =>
  f_9_readAll_14_8_6_k4_L12 1000 C1 (0)
def f_9_readCond_14_8_6_k4_L10 : Nat → ev_C → Int → Option ev_C
  | 0, _, _ => none
  | n + 1, C, y4 =>
    if 20 ≤ y4 then
      some C
    else
      ev_bd (f_8_isFine C) fun r3 C3 =>
      if r3 = 0 then
        some C3
      else
        ev_bd (f_8_isAtWord C3 (16)) fun r5 C5 =>
        if r5 = 0 then
          some C5
        else
          ev_bv (f_8_step C5) fun C7 =>
          ev_bv (f_9_readAll_14_8_6_k4 C7) fun C8 =>
          ev_bv (f_9_addStep_14 C8 (16) (0) (0)) fun C9 =>
          f_9_readCond_14_8_6_k4_L10 n C9 (ev_w (y4 + 1))
def f_9_readCond_14_8_6_k4 (C : ev_C) : Option ev_C :=
  ev_bv (f_9_readAll_14_8_6_k4 C) fun C1 =>
  f_9_readCond_14_8_6_k4_L10 1000 C1 (0)
def f_9_readOne_14_8_6_k4_J39 (C : ev_C) (y4 y5 : Int) : Option ev_C :=
  if 20 ≤ (C 14 0) then
    ev_bv (f_8_fail C (4)) fun C5 =>
    some C5
  else
    ev_bv (f_8_step (ev_u C 14 0 (ev_w (((C 14 0)) + (1 : Int))))) fun C6 =>
    if y5 = 0 then
      if y4 ≠ 18 then
        ev_bv (f_9_readPlainOne_14_8_6 C6 y4) fun C9 =>
        some C9
      else
        ev_bv (f_9_readOne_14_8_6_k5 C6) fun C10 =>
        ev_bv (f_9_addStep_14 C10 (18) (0) (0)) fun C11 =>
        some C11
    else
      ev_bv (f_9_readCond_14_8_6_k4 C6) fun C12 =>
      ev_bd (f_8_isFine C12) fun r13 C13 =>
      if r13 = 0 then
        some C13
      else
        ev_bv (f_8_takeSign C13 (41)) fun C15 =>
        some C15
def f_9_readOne_14_8_6_k4 (C : ev_C) : Option ev_C :=
  ev_bd (f_8_wordHere C) fun r1 C1 =>
  ev_bd (f_8_isAtSign C1 (40)) fun r2 C2 =>
  if r2 ≠ 0 then
    f_9_readOne_14_8_6_k4_J39 C2 r1 r2
  else
    if r1 < 18 then
      ev_bv (f_8_fail C2 (1)) fun C17 =>
      some C17
    else
      if r1 ≤ 26 then
        f_9_readOne_14_8_6_k4_J39 C2 r1 r2
      else
        ev_bv (f_8_fail C2 (1)) fun C19 =>
        some C19
def f_9_readAll_14_8_6_k3_L12 : Nat → ev_C → Int → Option ev_C
  | 0, _, _ => none
  | n + 1, C, y4 =>
    if 20 ≤ y4 then
      some C
    else
      ev_bd (f_8_isFine C) fun r3 C3 =>
      if r3 = 0 then
        some C3
      else
        ev_bd (f_8_isAtWord C3 (17)) fun r5 C5 =>
        if r5 = 0 then
          some C5
        else
          ev_bv (f_8_step C5) fun C7 =>
          ev_bv (f_9_readOne_14_8_6_k4 C7) fun C8 =>
          ev_bv (f_9_addStep_14 C8 (17) (0) (0)) fun C9 =>
          f_9_readAll_14_8_6_k3_L12 n C9 (ev_w (y4 + 1))
def f_9_readAll_14_8_6_k3 (C : ev_C) : Option ev_C :=
  ev_bv (f_9_readOne_14_8_6_k4 C) fun C1 =>
  f_9_readAll_14_8_6_k3_L12 1000 C1 (0)
def f_9_readCond_14_8_6_k3_L10 : Nat → ev_C → Int → Option ev_C
  | 0, _, _ => none
  | n + 1, C, y4 =>
    if 20 ≤ y4 then
      some C
    else
      ev_bd (f_8_isFine C) fun r3 C3 =>
      if r3 = 0 then
        some C3
      else
        ev_bd (f_8_isAtWord C3 (16)) fun r5 C5 =>
        if r5 = 0 then
          some C5
        else
          ev_bv (f_8_step C5) fun C7 =>
          ev_bv (f_9_readAll_14_8_6_k3 C7) fun C8 =>
          ev_bv (f_9_addStep_14 C8 (16) (0) (0)) fun C9 =>
          f_9_readCond_14_8_6_k3_L10 n C9 (ev_w (y4 + 1))
def f_9_readCond_14_8_6_k3 (C : ev_C) : Option ev_C :=
  ev_bv (f_9_readAll_14_8_6_k3 C) fun C1 =>
  f_9_readCond_14_8_6_k3_L10 1000 C1 (0)
def f_9_readOne_14_8_6_k3_J39 (C : ev_C) (y4 y5 : Int) : Option ev_C :=
  if 20 ≤ (C 14 0) then
    ev_bv (f_8_fail C (4)) fun C5 =>
    some C5
  else
    ev_bv (f_8_step (ev_u C 14 0 (ev_w (((C 14 0)) + (1 : Int))))) fun C6 =>
    if y5 = 0 then
      if y4 ≠ 18 then
        ev_bv (f_9_readPlainOne_14_8_6 C6 y4) fun C9 =>
        some C9
      else
        ev_bv (f_9_readOne_14_8_6_k4 C6) fun C10 =>
        ev_bv (f_9_addStep_14 C10 (18) (0) (0)) fun C11 =>
        some C11
    else
      ev_bv (f_9_readCond_14_8_6_k3 C6) fun C12 =>
      ev_bd (f_8_isFine C12) fun r13 C13 =>
      if r13 = 0 then
        some C13
      else
        ev_bv (f_8_takeSign C13 (41)) fun C15 =>
        some C15
def f_9_readOne_14_8_6_k3 (C : ev_C) : Option ev_C :=
  ev_bd (f_8_wordHere C) fun r1 C1 =>
  ev_bd (f_8_isAtSign C1 (40)) fun r2 C2 =>
  if r2 ≠ 0 then
    f_9_readOne_14_8_6_k3_J39 C2 r1 r2
  else
    if r1 < 18 then
      ev_bv (f_8_fail C2 (1)) fun C17 =>
      some C17
    else
      if r1 ≤ 26 then
        f_9_readOne_14_8_6_k3_J39 C2 r1 r2
      else
        ev_bv (f_8_fail C2 (1)) fun C19 =>
        some C19
def f_9_readAll_14_8_6_k2_L12 : Nat → ev_C → Int → Option ev_C
  | 0, _, _ => none
  | n + 1, C, y4 =>
    if 20 ≤ y4 then
      some C
    else
      ev_bd (f_8_isFine C) fun r3 C3 =>
      if r3 = 0 then
        some C3
      else
        ev_bd (f_8_isAtWord C3 (17)) fun r5 C5 =>
        if r5 = 0 then
          some C5
        else
          ev_bv (f_8_step C5) fun C7 =>
          ev_bv (f_9_readOne_14_8_6_k3 C7) fun C8 =>
          ev_bv (f_9_addStep_14 C8 (17) (0) (0)) fun C9 =>
          f_9_readAll_14_8_6_k2_L12 n C9 (ev_w (y4 + 1))
def f_9_readAll_14_8_6_k2 (C : ev_C) : Option ev_C :=
  ev_bv (f_9_readOne_14_8_6_k3 C) fun C1 =>
  f_9_readAll_14_8_6_k2_L12 1000 C1 (0)
def f_9_readCond_14_8_6_k2_L10 : Nat → ev_C → Int → Option ev_C
  | 0, _, _ => none
  | n + 1, C, y4 =>
    if 20 ≤ y4 then
      some C
    else
      ev_bd (f_8_isFine C) fun r3 C3 =>
      if r3 = 0 then
        some C3
      else
        ev_bd (f_8_isAtWord C3 (16)) fun r5 C5 =>
        if r5 = 0 then
          some C5
        else
          ev_bv (f_8_step C5) fun C7 =>
          ev_bv (f_9_readAll_14_8_6_k2 C7) fun C8 =>
          ev_bv (f_9_addStep_14 C8 (16) (0) (0)) fun C9 =>
          f_9_readCond_14_8_6_k2_L10 n C9 (ev_w (y4 + 1))
def f_9_readCond_14_8_6_k2 (C : ev_C) : Option ev_C :=
  ev_bv (f_9_readAll_14_8_6_k2 C) fun C1 =>
  f_9_readCond_14_8_6_k2_L10 1000 C1 (0)
def f_9_readOne_14_8_6_k2_J39 (C : ev_C) (y4 y5 : Int) : Option ev_C :=
  if 20 ≤ (C 14 0) then
    ev_bv (f_8_fail C (4)) fun C5 =>
    some C5
  else
    ev_bv (f_8_step (ev_u C 14 0 (ev_w (((C 14 0)) + (1 : Int))))) fun C6 =>
    if y5 = 0 then
      if y4 ≠ 18 then
        ev_bv (f_9_readPlainOne_14_8_6 C6 y4) fun C9 =>
        some C9
      else
        ev_bv (f_9_readOne_14_8_6_k3 C6) fun C10 =>
        ev_bv (f_9_addStep_14 C10 (18) (0) (0)) fun C11 =>
        some C11
    else
      ev_bv (f_9_readCond_14_8_6_k2 C6) fun C12 =>
      ev_bd (f_8_isFine C12) fun r13 C13 =>
      if r13 = 0 then
        some C13
      else
        ev_bv (f_8_takeSign C13 (41)) fun C15 =>
        some C15
def f_9_readOne_14_8_6_k2 (C : ev_C) : Option ev_C :=
  ev_bd (f_8_wordHere C) fun r1 C1 =>
  ev_bd (f_8_isAtSign C1 (40)) fun r2 C2 =>
  if r2 ≠ 0 then
    f_9_readOne_14_8_6_k2_J39 C2 r1 r2
  else
    if r1 < 18 then
      ev_bv (f_8_fail C2 (1)) fun C17 =>
      some C17
    else
      if r1 ≤ 26 then
        f_9_readOne_14_8_6_k2_J39 C2 r1 r2
      else
        ev_bv (f_8_fail C2 (1)) fun C19 =>
        some C19
def f_9_readAll_14_8_6_k1_L12 : Nat → ev_C → Int → Option ev_C
  | 0, _, _ => none
  | n + 1, C, y4 =>
    if 20 ≤ y4 then
      some C
    else
      ev_bd (f_8_isFine C) fun r3 C3 =>
      if r3 = 0 then
        some C3
      else
        ev_bd (f_8_isAtWord C3 (17)) fun r5 C5 =>
        if r5 = 0 then
          some C5
        else
          ev_bv (f_8_step C5) fun C7 =>
          ev_bv (f_9_readOne_14_8_6_k2 C7) fun C8 =>
          ev_bv (f_9_addStep_14 C8 (17) (0) (0)) fun C9 =>
          f_9_readAll_14_8_6_k1_L12 n C9 (ev_w (y4 + 1))
def f_9_readAll_14_8_6_k1 (C : ev_C) : Option ev_C :=
  ev_bv (f_9_readOne_14_8_6_k2 C) fun C1 =>
  f_9_readAll_14_8_6_k1_L12 1000 C1 (0)
def f_9_readCond_14_8_6_k1_L10 : Nat → ev_C → Int → Option ev_C
  | 0, _, _ => none
  | n + 1, C, y4 =>
    if 20 ≤ y4 then
      some C
    else
      ev_bd (f_8_isFine C) fun r3 C3 =>
      if r3 = 0 then
        some C3
      else
        ev_bd (f_8_isAtWord C3 (16)) fun r5 C5 =>
        if r5 = 0 then
          some C5
        else
          ev_bv (f_8_step C5) fun C7 =>
          ev_bv (f_9_readAll_14_8_6_k1 C7) fun C8 =>
          ev_bv (f_9_addStep_14 C8 (16) (0) (0)) fun C9 =>
          f_9_readCond_14_8_6_k1_L10 n C9 (ev_w (y4 + 1))
def f_9_readCond_14_8_6_k1 (C : ev_C) : Option ev_C :=
  ev_bv (f_9_readAll_14_8_6_k1 C) fun C1 =>
  f_9_readCond_14_8_6_k1_L10 1000 C1 (0)
def f_9_readOne_14_8_6_k1_J39 (C : ev_C) (y4 y5 : Int) : Option ev_C :=
  if 20 ≤ (C 14 0) then
    ev_bv (f_8_fail C (4)) fun C5 =>
    some C5
  else
    ev_bv (f_8_step (ev_u C 14 0 (ev_w (((C 14 0)) + (1 : Int))))) fun C6 =>
    if y5 = 0 then
      if y4 ≠ 18 then
        ev_bv (f_9_readPlainOne_14_8_6 C6 y4) fun C9 =>
        some C9
      else
        ev_bv (f_9_readOne_14_8_6_k2 C6) fun C10 =>
        ev_bv (f_9_addStep_14 C10 (18) (0) (0)) fun C11 =>
        some C11
    else
      ev_bv (f_9_readCond_14_8_6_k1 C6) fun C12 =>
      ev_bd (f_8_isFine C12) fun r13 C13 =>
      if r13 = 0 then
        some C13
      else
        ev_bv (f_8_takeSign C13 (41)) fun C15 =>
        some C15
def f_9_readOne_14_8_6_k1 (C : ev_C) : Option ev_C :=
  ev_bd (f_8_wordHere C) fun r1 C1 =>
  ev_bd (f_8_isAtSign C1 (40)) fun r2 C2 =>
  if r2 ≠ 0 then
    f_9_readOne_14_8_6_k1_J39 C2 r1 r2
  else
    if r1 < 18 then
      ev_bv (f_8_fail C2 (1)) fun C17 =>
      some C17
    else
      if r1 ≤ 26 then
        f_9_readOne_14_8_6_k1_J39 C2 r1 r2
      else
        ev_bv (f_8_fail C2 (1)) fun C19 =>
        some C19
def f_9_readAll_14_8_6_k0_L12 : Nat → ev_C → Int → Option ev_C
  | 0, _, _ => none
  | n + 1, C, y4 =>
    if 20 ≤ y4 then
      some C
    else
      ev_bd (f_8_isFine C) fun r3 C3 =>
      if r3 = 0 then
        some C3
      else
        ev_bd (f_8_isAtWord C3 (17)) fun r5 C5 =>
        if r5 = 0 then
          some C5
        else
          ev_bv (f_8_step C5) fun C7 =>
          ev_bv (f_9_readOne_14_8_6_k1 C7) fun C8 =>
          ev_bv (f_9_addStep_14 C8 (17) (0) (0)) fun C9 =>
          f_9_readAll_14_8_6_k0_L12 n C9 (ev_w (y4 + 1))
def f_9_readAll_14_8_6_k0 (C : ev_C) : Option ev_C :=
  ev_bv (f_9_readOne_14_8_6_k1 C) fun C1 =>
  f_9_readAll_14_8_6_k0_L12 1000 C1 (0)
def f_9_readCond_14_8_6_k0_L10 : Nat → ev_C → Int → Option ev_C
  | 0, _, _ => none
  | n + 1, C, y4 =>
    if 20 ≤ y4 then
      some C
    else
      ev_bd (f_8_isFine C) fun r3 C3 =>
      if r3 = 0 then
        some C3
      else
        ev_bd (f_8_isAtWord C3 (16)) fun r5 C5 =>
        if r5 = 0 then
          some C5
        else
          ev_bv (f_8_step C5) fun C7 =>
          ev_bv (f_9_readAll_14_8_6_k0 C7) fun C8 =>
          ev_bv (f_9_addStep_14 C8 (16) (0) (0)) fun C9 =>
          f_9_readCond_14_8_6_k0_L10 n C9 (ev_w (y4 + 1))
def f_9_readCond_14_8_6_k0 (C : ev_C) : Option ev_C :=
  ev_bv (f_9_readAll_14_8_6_k0 C) fun C1 =>
  f_9_readCond_14_8_6_k0_L10 1000 C1 (0)
def f_9_read_14_8_6 (C : ev_C) : Option ev_C :=
  ev_bv (f_9_clear_14 C) fun C1 =>
  ev_bv (f_9_readCond_14_8_6_k0 C1) fun C2 =>
  ev_bd (f_8_isFine C2) fun r3 C3 =>
  if r3 = 0 then
    some C3
  else
    if (C3 8 4) = 0 then
      some C3
    else
      ev_bv (f_8_fail C3 (1)) fun C6 =>
      some C6
def f_9_copyFrom_14 (C : ev_C) : Option ev_C :=
  some (ev_u (ev_u C 9 0 ((C 14 0))) 9 1 ((C 14 1)))
def f_11_sentence (C : ev_C) : Option (Int × ev_C) :=
  ev_bv (f_8_open C (200)) fun C1 =>
  ev_bv (f_9_read_14_8_6 C1) fun C2 =>
  if (C2 8 9) = 0 then
    ev_bv (f_9_copyFrom_14 (ev_u (ev_u C2 10 1 0) 11 13 ((C2 8 9)))) fun C4 =>
    some ((C4 9 0), C4)
  else
    some (ev_w ((-1 : Int) - ((C2 8 10))), (ev_u (ev_u C2 10 1 0) 11 13 ((C2 8 9))))
def f_12_leafOf (C : ev_C) : Option (Int × ev_C) :=
  ev_bd (f_12_isWord C (482854664563)) fun r1 C1 =>
  if r1 = 0 then
    ev_bd (f_12_isWord C1 (125780054271332)) fun r3 C3 =>
    if r3 = 0 then
      ev_bd (f_12_isWord C3 (1937076837)) fun r5 C5 =>
      if r5 = 0 then
        ev_bd (f_12_isWord C5 (461414299507)) fun r7 C7 =>
        if r7 = 0 then
          ev_bd (f_12_isWord C7 (495723310188)) fun r9 C9 =>
          if r9 = 0 then
            ev_bd (f_12_isWord C9 (499984983411)) fun r11 C11 =>
            if r11 = 0 then
              ev_bd (f_12_isWord C11 (427020087411)) fun r13 C13 =>
              if r13 = 0 then
                ev_bd (f_12_isWord C13 (121450625394034)) fun r15 C15 =>
                if r15 = 0 then
                  some (-1, C15)
                else
                  some (7, C15)
              else
                some (6, C13)
            else
              some (5, C11)
          else
            some (4, C9)
        else
          some (3, C7)
      else
        some (2, C5)
    else
      some (1, C3)
  else
    some (0, C1)
def f_12_code (C : ev_C) (x1 x2 x3 : Int) : Option ev_C :=
  if 0 ≤ ev_w ((3 : Int) * ((C 12 45))) ∧ ev_w ((3 : Int) * ((C 12 45))) < 135 then
    if 0 ≤ ev_w ((ev_w ((3 : Int) * ((C 12 45)))) + (1 : Int)) ∧ ev_w ((ev_w ((3 : Int) * ((C 12 45)))) + (1 : Int)) < 135 then
      if 0 ≤ ev_w ((ev_w ((3 : Int) * ((C 12 45)))) + (2 : Int)) ∧ ev_w ((ev_w ((3 : Int) * ((C 12 45)))) + (2 : Int)) < 135 then
        some (ev_u (ev_u (ev_u (ev_u C 36 (Int.toNat (ev_w ((3 : Int) * ((C 12 45))))) x1) 36 (Int.toNat (ev_w ((ev_w ((3 : Int) * ((C 12 45)))) + (1 : Int)))) x2) 36 (Int.toNat (ev_w ((ev_w ((3 : Int) * ((C 12 45)))) + (2 : Int)))) x3) 12 45 (ev_w (((C 12 45)) + (1 : Int))))
      else none
    else none
  else none
def f_12_operand_J103 (C : ev_C) (y1 y2 y3 w0 w1 : Int) : Option (Int × ev_C) :=
  if 0 ≤ w1 ∧ w1 < 45 then
    some (1, (ev_u (ev_u (ev_u C 43 (Int.toNat w1) w0) 12 47 (ev_w (((C 12 47)) + (1 : Int)))) 12 48 (ev_w (((C 12 48)) + (1 : Int)))))
  else none
def f_12_operand_J84 (C : ev_C) (y1 y2 y3 : Int) : Option (Int × ev_C) :=
  if y1 = 0 then
    f_12_operand_J103 C y1 y2 y3 (23) ((C 12 47))
  else
    f_12_operand_J103 C y1 y2 y3 (20) ((C 12 47))
def f_12_operand_J38 (C : ev_C) (y1 y2 y3 : Int) : Option (Int × ev_C) :=
  if (C 12 46) = 20 then
    ev_bd (f_12_bad C (4)) fun r6 C6 =>
    if 0 ≤ r6 ∧ r6 ≤ 1 then some (r6, C6) else none
  else
    if (C 12 48) ≤ 8 then
      ev_bv (f_12_go (ev_u C 12 46 (ev_w (((C 12 46)) + (1 : Int))))) fun C9 =>
      if y1 ≠ 0 then
        f_12_operand_J84 C9 y1 y2 y3
      else
        if y2 = 0 then
          if 3 ≤ y3 then
            if y3 ≠ 3 then
              if (C9 12 11) ≠ 3 then
                ev_bd (f_12_bad (ev_u C9 12 49 1) (1)) fun r17 C17 =>
                if 0 ≤ r17 ∧ r17 ≤ 1 then some (r17, C17) else none
              else
                if (C9 12 14) < 60 then
                  ev_bd (f_12_bad (ev_u C9 12 49 1) (1)) fun r20 C20 =>
                  if 0 ≤ r20 ∧ r20 ≤ 1 then some (r20, C20) else none
                else
                  if (C9 12 14) ≤ 62 then
                    ev_bv (f_12_go (ev_u C9 12 49 1)) fun C23 =>
                    if (C23 12 11) = 2 then
                      ev_bv (f_12_code C23 y3 ((C9 12 14)) ((C23 12 14))) fun C25 =>
                      ev_bv (f_12_go C25) fun C26 =>
                      some (1, C26)
                    else
                      ev_bd (f_12_bad C23 (1)) fun r27 C27 =>
                      if 0 ≤ r27 ∧ r27 ≤ 1 then some (r27, C27) else none
                  else
                    ev_bd (f_12_bad (ev_u C9 12 49 1) (1)) fun r29 C29 =>
                    if 0 ≤ r29 ∧ r29 ≤ 1 then some (r29, C29) else none
            else
              ev_bd (f_12_isName (ev_u C9 12 49 1)) fun r31 C31 =>
              if r31 ≠ 0 then
                ev_bd (f_12_find C31 (6) ((C31 34 1))) fun r33 C33 =>
                if 0 ≤ r33 then
                  ev_bv (f_12_code C33 y3 (0) r33) fun C35 =>
                  ev_bv (f_12_go C35) fun C36 =>
                  some (1, C36)
                else
                  ev_bd (f_12_bad C33 (3)) fun r37 C37 =>
                  if 0 ≤ r37 ∧ r37 ≤ 1 then some (r37, C37) else none
              else
                ev_bd (f_12_bad C31 (1)) fun r39 C39 =>
                if 0 ≤ r39 ∧ r39 ≤ 1 then some (r39, C39) else none
          else
            ev_bv (f_12_code (ev_u C9 12 49 1) y3 (0) (0)) fun C41 =>
            some (1, C41)
        else
          f_12_operand_J84 C9 y1 y2 y3
    else
      ev_bd (f_12_bad C (4)) fun r42 C42 =>
      if 0 ≤ r42 ∧ r42 ≤ 1 then some (r42, C42) else none
def f_12_operand (C : ev_C) : Option (Int × ev_C) :=
  ev_bd (f_12_isWord C (7237492)) fun r1 C1 =>
  ev_bd (f_12_isSign C1 (40)) fun r2 C2 =>
  ev_bd (f_12_leafOf C2) fun r3 C3 =>
  if r1 ≠ 0 then
    f_12_operand_J38 C3 r1 r2 r3
  else
    if r2 ≠ 0 then
      f_12_operand_J38 C3 r1 r2 r3
    else
      if 0 ≤ r3 then
        f_12_operand_J38 C3 r1 r2 r3
      else
        ev_bd (f_12_bad C3 (1)) fun r46 C46 =>
        if 0 ≤ r46 ∧ r46 ≤ 1 then some (r46, C46) else none
def f_12_nots_L0 : Nat → ev_C → Option ev_C
  | 0, _ => none
  | n + 1, C =>
    if (C 12 47) ≤ 0 then
      some C
    else
      if 0 ≤ ev_w (((C 12 47)) - (1 : Int)) ∧ ev_w (((C 12 47)) - (1 : Int)) < 45 then
        if (C 43 (Int.toNat (ev_w (((C 12 47)) - (1 : Int))))) ≠ 20 then
          some C
        else
          ev_bv (f_12_code (ev_u (ev_u C 12 47 (ev_w (((C 12 47)) - (1 : Int)))) 12 48 (ev_w (((C 12 48)) - (1 : Int)))) (20) (0) (0)) fun C4 =>
          f_12_nots_L0 n C4
      else none
def f_12_nots (C : ev_C) : Option ev_C :=
  f_12_nots_L0 1000 C
def f_12_joins_J45 (K0 : ev_C → Int → Option ev_C) (C : ev_C) (y1 : Int) : Option ev_C :=
  if 0 ≤ ev_w (((C 12 47)) - (1 : Int)) ∧ ev_w (((C 12 47)) - (1 : Int)) < 45 then
    ev_bv (f_12_code (ev_u C 12 47 (ev_w (((C 12 47)) - (1 : Int)))) ((C 43 (Int.toNat (ev_w (((C 12 47)) - (1 : Int)))))) (0) (0)) fun C5 =>
    K0 C5 y1
  else none
def f_12_joins_L0 : Nat → ev_C → Int → Option ev_C
  | 0, _, _ => none
  | n + 1, C, y1 =>
    if (C 12 47) ≤ 0 then
      some C
    else
      if 0 ≤ ev_w (((C 12 47)) - (1 : Int)) ∧ ev_w (((C 12 47)) - (1 : Int)) < 45 then
        if (C 43 (Int.toNat (ev_w (((C 12 47)) - (1 : Int))))) = 21 then
          f_12_joins_J45 (f_12_joins_L0 n) C y1
        else
          if 0 ≤ ev_w (((C 12 47)) - (1 : Int)) ∧ ev_w (((C 12 47)) - (1 : Int)) < 45 then
            if (C 43 (Int.toNat (ev_w (((C 12 47)) - (1 : Int))))) ≠ 22 then
              some C
            else
              if y1 ≠ 22 then
                some C
              else
                f_12_joins_J45 (f_12_joins_L0 n) C y1
          else none
      else none
def f_12_joins (C : ev_C) (x1 : Int) : Option ev_C :=
  f_12_joins_L0 1000 C x1
def f_12_behind_J70 (C : ev_C) (w0 w1 : Int) : Option (Int × ev_C) :=
  if 0 ≤ w1 ∧ w1 < 45 then
    ev_bv (f_12_go (ev_u (ev_u (ev_u C 43 (Int.toNat w1) w0) 12 47 (ev_w (((C 12 47)) + (1 : Int)))) 12 49 0)) fun C10 =>
    some (1, C10)
  else none
def f_12_behind_J42 (C : ev_C) (w0 : Int) : Option (Int × ev_C) :=
  ev_bv (f_12_joins C w0) fun C6 =>
  ev_bd (f_12_isWord C6 (6385252)) fun r7 C7 =>
  if r7 = 0 then
    f_12_behind_J70 C7 (22) ((C6 12 47))
  else
    f_12_behind_J70 C7 (21) ((C6 12 47))
def f_12_behind_J24 (C : ev_C) : Option (Int × ev_C) :=
  ev_bd (f_12_isWord C (6385252)) fun r4 C4 =>
  if r4 = 0 then
    f_12_behind_J42 C4 (22)
  else
    f_12_behind_J42 C4 (21)
def f_12_behind (C : ev_C) : Option (Int × ev_C) :=
  ev_bv (f_12_nots C) fun C1 =>
  ev_bd (f_12_isWord C1 (6385252)) fun r2 C2 =>
  if r2 ≠ 0 then
    f_12_behind_J24 C2
  else
    ev_bd (f_12_isWord C2 (28530)) fun r11 C11 =>
    if r11 = 0 then
      ev_bv (f_12_joins C11 (22)) fun C13 =>
      ev_bd (f_12_isSign C13 (41)) fun r14 C14 =>
      if r14 = 0 then
        ev_bd (f_12_bad C14 (1)) fun r16 C16 =>
        if 0 ≤ r16 ∧ r16 ≤ 1 then some (r16, C16) else none
      else
        if (C14 12 47) ≠ 0 then
          ev_bv (f_12_go (ev_u (ev_u C14 12 47 (ev_w (((C14 12 47)) - (1 : Int)))) 12 48 (ev_w (((C14 12 48)) - (1 : Int))))) fun C19 =>
          some (1, C19)
        else
          ev_bd (f_12_bad C14 (1)) fun r20 C20 =>
          if 0 ≤ r20 ∧ r20 ≤ 1 then some (r20, C20) else none
    else
      f_12_behind_J24 C11
def f_12_sentence_L146 : Nat → ev_C → Int → Int → Option (Int × ev_C)
  | 0, _, _, _ => none
  | n + 1, C, y1, y2 =>
    if ev_w ((3 : Int) * ((C 12 45))) ≤ y2 then
      some ((C 12 46), C)
    else
      if 0 ≤ y2 ∧ y2 < 135 then
        if 0 ≤ ev_w ((187 : Int) + y2) ∧ ev_w ((187 : Int) + y2) < 367 then
          f_12_sentence_L146 n (ev_u C 34 (Int.toNat (ev_w ((187 : Int) + y2))) ((C 36 (Int.toNat y2)))) y1 (ev_w (y2 + 1))
        else none
      else none
def f_12_sentence_J101 (K48 : ev_C → Int → Option (Int × ev_C)) (C : ev_C) (y1 : Int) : Option (Int × ev_C) :=
  if (C 12 49) = 0 then
    ev_bd (f_12_operand C) fun r9 C9 =>
    if r9 ≠ 0 then
      K48 C9 y1
    else
      some (ev_w ((-1 : Int) - ((C9 12 16))), C9)
  else
    ev_bd (f_12_behind C) fun r11 C11 =>
    if r11 ≠ 0 then
      K48 C11 y1
    else
      some (ev_w ((-1 : Int) - ((C11 12 16))), C11)
def f_12_sentence_L48 : Nat → ev_C → Int → Option (Int × ev_C)
  | 0, _, _ => none
  | n + 1, C, y1 =>
    if y1 = 0 then
      f_12_sentence_L146 1000 (ev_u C 34 186 ((C 12 45))) y1 (0)
    else
      if (C 12 49) = 0 then
        f_12_sentence_J101 (f_12_sentence_L48 n) C y1
      else
        if (C 12 11) ≠ 0 then
          f_12_sentence_J101 (f_12_sentence_L48 n) C y1
        else
          ev_bv (f_12_nots C) fun C14 =>
          ev_bv (f_12_joins C14 (22)) fun C15 =>
          if (C15 12 47) ≤ 0 then
            f_12_sentence_L48 n C15 (0)
          else
            ev_bd (f_12_bad C15 (1)) fun r17 C17 =>
            some (ev_w ((-1 : Int) - ((C17 12 16))), C17)
def f_12_sentence (C : ev_C) : Option (Int × ev_C) :=
  ev_bv (f_12_taken (ev_u C 12 0 0) (200)) fun C1 =>
  ev_bv (f_12_go (ev_u (ev_u (ev_u (ev_u (ev_u (ev_u C1 12 15 0) 12 45 0) 12 46 0) 12 47 0) 12 48 1) 12 49 0)) fun C2 =>
  f_12_sentence_L48 1000 C2 (1)

/-! THE EXACT LOGIC: what book() reads, of both, as functions over memory (printed by a program of ours). -/
def f_0_canBegin_8 (C : ev_C) (x1 : Int) : Option (Int × ev_C) :=
  ev_bd (f_8_isAtName C) fun r1 C1 =>
  if r1 ≠ 0 then
    some (1, C1)
  else
    if x1 = 13 then
      some (1, C1)
    else
      if x1 = 14 then
        some (1, C1)
      else
        if x1 ≠ 15 then
          some (0, C1)
        else
          some (1, C1)
def f_8_indexOf_69_L3 : Nat → ev_C → Int → Int → Int → Option (Int × ev_C)
  | 0, _, _, _, _ => none
  | n + 1, C, y1, y2, y4 =>
    if y1 ≤ y4 then
      some (-1, C)
    else
      if 8 ≤ y4 then
        some (-1, C)
      else
        if 0 ≤ y4 ∧ y4 < 8 then
          if ev_cmp ((C 69 (Int.toNat y4))) y2 ≠ 0 then
            f_8_indexOf_69_L3 n C y1 y2 (ev_w (y4 + 1))
          else
            some (y4, C)
        else none
def f_8_indexOf_69 (C : ev_C) (x1 x2 : Int) : Option (Int × ev_C) :=
  f_8_indexOf_69_L3 1000 C x1 x2 (0)
def f_8_nameHere_69 (C : ev_C) (x2 : Int) : Option (Int × ev_C) :=
  ev_bd (f_8_isAtName C) fun r1 C1 =>
  if r1 ≠ 0 then
    ev_bd (f_8_indexOf_69 C1 x2 ((C1 8 8))) fun r3 C3 =>
    if r3 ≠ -1 then
      some (r3, C3)
    else
      ev_bv (f_8_fail C3 (3)) fun C5 =>
      some (r3, C5)
  else
    ev_bv (f_8_fail C1 (1)) fun C6 =>
    some (-1, C6)
def f_8_takeName_69 (C : ev_C) (x2 : Int) : Option (Int × ev_C) :=
  ev_bd (f_8_nameHere_69 C x2) fun r1 C1 =>
  if r1 = -1 then
    some (r1, C1)
  else
    ev_bv (f_8_step C1) fun C3 =>
    some (r1, C3)
def f_8_takeWord (C : ev_C) (x1 : Int) : Option ev_C :=
  ev_bd (f_8_isAtWord C x1) fun r1 C1 =>
  if r1 = 0 then
    ev_bv (f_8_fail C1 (1)) fun C3 =>
    some C3
  else
    ev_bv (f_8_step C1) fun C4 =>
    some C4
def f_8_indexOf_67_L3 : Nat → ev_C → Int → Int → Int → Option (Int × ev_C)
  | 0, _, _, _, _ => none
  | n + 1, C, y1, y2, y4 =>
    if y1 ≤ y4 then
      some (-1, C)
    else
      if 6 ≤ y4 then
        some (-1, C)
      else
        if 0 ≤ y4 ∧ y4 < 6 then
          if ev_cmp ((C 67 (Int.toNat y4))) y2 ≠ 0 then
            f_8_indexOf_67_L3 n C y1 y2 (ev_w (y4 + 1))
          else
            some (y4, C)
        else none
def f_8_indexOf_67 (C : ev_C) (x1 x2 : Int) : Option (Int × ev_C) :=
  f_8_indexOf_67_L3 1000 C x1 x2 (0)
def f_8_nameHere_67 (C : ev_C) (x2 : Int) : Option (Int × ev_C) :=
  ev_bd (f_8_isAtName C) fun r1 C1 =>
  if r1 ≠ 0 then
    ev_bd (f_8_indexOf_67 C1 x2 ((C1 8 8))) fun r3 C3 =>
    if r3 ≠ -1 then
      some (r3, C3)
    else
      ev_bv (f_8_fail C3 (3)) fun C5 =>
      some (r3, C5)
  else
    ev_bv (f_8_fail C1 (1)) fun C6 =>
    some (-1, C6)
def f_8_takeName_67 (C : ev_C) (x2 : Int) : Option (Int × ev_C) :=
  ev_bd (f_8_nameHere_67 C x2) fun r1 C1 =>
  if r1 = -1 then
    some (r1, C1)
  else
    ev_bv (f_8_step C1) fun C3 =>
    some (r1, C3)
def f_0_readLine_8_6_J68 (C : ev_C) (y3 y4 : Int) : Option ev_C :=
  ev_bd (f_8_isFine C) fun r8 C8 =>
  if r8 ≠ 0 then
    ev_bv (f_8_step C8) fun C10 =>
    if 0 ≤ (C10 0 0) ∧ (C10 0 0) < 40 then
      if 0 ≤ (C10 0 0) ∧ (C10 0 0) < 40 then
        if y3 ≠ 12 then
          if y3 ≠ 13 then
            some C10
          else
            ev_bd (f_8_takeName_69 C10 ((C10 6 2))) fun r15 C15 =>
            if 0 ≤ (C10 0 0) ∧ (C10 0 0) < 40 then
              ev_bd (f_8_isFine C15) fun r17 C17 =>
              if r17 = 0 then
                some C17
              else
                ev_bd (f_8_takeName_68 C17 ((C17 6 1))) fun r19 C19 =>
                if 0 ≤ (C17 0 0) ∧ (C17 0 0) < 40 then
                  some C19
                else none
            else none
        else
          ev_bv (f_8_takeWord C10 (12)) fun C21 =>
          ev_bd (f_8_isFine C21) fun r22 C22 =>
          if r22 = 0 then
            some C22
          else
            ev_bd (f_8_takeName_67 C22 ((C22 6 0))) fun r24 C24 =>
            if 0 ≤ (C22 0 0) ∧ (C22 0 0) < 40 then
              some C24
            else none
      else none
    else none
  else
    some C8
def f_0_readLine_8_6_J54 (C : ev_C) (y3 y4 : Int) : Option ev_C :=
  if (C 0 0) < 40 then
    f_0_readLine_8_6_J68 C y3 y4
  else
    ev_bv (f_8_fail C (4)) fun C26 =>
    f_0_readLine_8_6_J68 C26 y3 y4
def f_0_readLine_8_6_J16 (C : ev_C) (w0 : Int) : Option ev_C :=
  ev_bd (f_0_canBegin_8 C w0) fun r4 C4 =>
  if r4 ≠ 0 then
    if w0 ≠ 12 then
      f_0_readLine_8_6_J54 C4 w0 (-1)
    else
      ev_bd (f_8_nameHere_69 C4 ((C4 6 2))) fun r27 C27 =>
      f_0_readLine_8_6_J54 C27 w0 r27
  else
    ev_bv (f_8_fail C4 (1)) fun C28 =>
    some C28
def f_0_readLine_8_6 (C : ev_C) : Option ev_C :=
  ev_bd (f_8_isAtName C) fun r1 C1 =>
  if r1 = 0 then
    ev_bd (f_8_wordHere C1) fun r3 C3 =>
    f_0_readLine_8_6_J16 C3 r3
  else
    f_0_readLine_8_6_J16 C1 (12)
def f_0_read_8_6_J40 (K7 : ev_C → Int → Option ev_C) (C : ev_C) (y3 : Int) : Option ev_C :=
  ev_bd (f_8_isFine C) fun r6 C6 =>
  if r6 ≠ 0 then
    K7 (ev_u C6 0 0 (ev_w (((C6 0 0)) + (1 : Int)))) (ev_w (y3 + 1))
  else
    some C6
def f_0_read_8_6_L7 : Nat → ev_C → Int → Option ev_C
  | 0, _, _ => none
  | n + 1, C, y3 =>
    if 400 < y3 then
      some C
    else
      if (C 8 4) = 0 then
        some C
      else
        ev_bv (f_0_readLine_8_6 C) fun C3 =>
        ev_bd (f_8_isFine C3) fun r4 C4 =>
        if r4 = 0 then
          f_0_read_8_6_J40 (f_0_read_8_6_L7 n) C4 y3
        else
          ev_bv (f_8_takeSign C4 (59)) fun C8 =>
          f_0_read_8_6_J40 (f_0_read_8_6_L7 n) C8 y3
def f_0_read_8_6 (C : ev_C) : Option ev_C :=
  f_0_read_8_6_L7 1000 (ev_u C 0 0 0) (0)
def f_12_bookLine_J27 (C : ev_C) (y1 : Int) : Option (Int × ev_C) :=
  if (C 12 41) ≠ 40 then
    ev_bd (f_12_isWord C (27995157133617518)) fun r4 C4 =>
    if r4 = 0 then
      if 0 ≤ y1 ∧ y1 < 135 then
        ev_bv (f_12_go (ev_u C4 36 (Int.toNat y1) 3)) fun C7 =>
        some (1, C7)
      else none
    else
      if 0 ≤ y1 ∧ y1 < 135 then
        ev_bv (f_12_go (ev_u C4 36 (Int.toNat y1) 2)) fun C9 =>
        some (1, C9)
      else none
  else
    ev_bd (f_12_bad C (4)) fun r10 C10 =>
    if 0 ≤ r10 ∧ r10 ≤ 1 then some (r10, C10) else none
def f_12_bookLine_J215 (C : ev_C) (y1 y2 w0 w2 : Int) : Option (Int × ev_C) :=
  if 0 ≤ w0 ∧ w0 < 367 then
    ev_bd (f_12_looksAt C w2 ((C 34 (Int.toNat w0)))) fun r28 C28 =>
    if r28 ≠ 0 then
      if 0 ≤ ev_w (y1 + (2 : Int)) ∧ ev_w (y1 + (2 : Int)) < 135 then
        ev_bv (f_12_go (ev_u C28 36 (Int.toNat (ev_w (y1 + (2 : Int)))) ((C28 12 18)))) fun C31 =>
        some (1, C31)
      else none
    else
      some (0, C28)
  else none
def f_12_bookLine_J202 (C : ev_C) (y1 y2 w0 : Int) : Option (Int × ev_C) :=
  if y2 = 0 then
    f_12_bookLine_J215 C y1 y2 (0) w0
  else
    f_12_bookLine_J215 C y1 y2 (1) w0
def f_12_bookLine_J191 (C : ev_C) (y1 y2 : Int) : Option (Int × ev_C) :=
  if y2 = 0 then
    f_12_bookLine_J202 C y1 y2 (0)
  else
    f_12_bookLine_J202 C y1 y2 (6)
def f_12_bookLine_J150 (C : ev_C) (y1 y2 w0 w1 : Int) : Option (Int × ev_C) :=
  if 0 ≤ w1 ∧ w1 < 135 then
    if 0 ≤ ev_w (y1 + (1 : Int)) ∧ ev_w (y1 + (1 : Int)) < 135 then
      ev_bv (f_12_go (ev_u (ev_u C 36 (Int.toNat w1) w0) 36 (Int.toNat (ev_w (y1 + (1 : Int)))) ((C 12 18)))) fun C23 =>
      if y2 ≠ 0 then
        f_12_bookLine_J191 C23 y1 y2
      else
        ev_bd (f_12_isWord C23 (24947)) fun r32 C32 =>
        if r32 ≠ 0 then
          ev_bv (f_12_go C32) fun C34 =>
          f_12_bookLine_J191 C34 y1 y2
        else
          ev_bd (f_12_bad C32 (1)) fun r35 C35 =>
          if 0 ≤ r35 ∧ r35 ≤ 1 then some (r35, C35) else none
    else none
  else none
def f_12_bookLine_J104 (C : ev_C) (y1 y2 : Int) : Option (Int × ev_C) :=
  ev_bd (f_12_looksAt C (12) ((C 34 2))) fun r17 C17 =>
  if r17 ≠ 0 then
    if (C17 12 41) ≠ 40 then
      if y2 = 0 then
        f_12_bookLine_J150 C17 y1 y2 (0) y1
      else
        f_12_bookLine_J150 C17 y1 y2 (1) y1
    else
      ev_bd (f_12_bad C17 (4)) fun r37 C37 =>
      if 0 ≤ r37 ∧ r37 ≤ 1 then some (r37, C37) else none
  else
    some (0, C17)
def f_12_bookLine_J96 (C : ev_C) (y1 y2 : Int) : Option (Int × ev_C) :=
  if y2 = 0 then
    f_12_bookLine_J104 C y1 y2
  else
    ev_bv (f_12_go C) fun C39 =>
    f_12_bookLine_J104 C39 y1 y2
def f_12_bookLine (C : ev_C) : Option (Int × ev_C) :=
  ev_bd (f_12_isWord C (27995157133617518)) fun r1 C1 =>
  if r1 ≠ 0 then
    f_12_bookLine_J27 C1 (ev_w ((3 : Int) * ((C 12 41))))
  else
    ev_bd (f_12_isWord C1 (1650815860)) fun r12 C12 =>
    if r12 = 0 then
      ev_bd (f_12_isWord C12 (33610324346168690)) fun r14 C14 =>
      if r14 = 0 then
        f_12_bookLine_J96 C14 (ev_w ((3 : Int) * ((C 12 41)))) r14
      else
        if (C14 12 41) ≠ 40 then
          f_12_bookLine_J96 C14 (ev_w ((3 : Int) * ((C 12 41)))) r14
        else
          ev_bd (f_12_bad C14 (4)) fun r41 C41 =>
          if 0 ≤ r41 ∧ r41 ≤ 1 then some (r41, C41) else none
    else
      f_12_bookLine_J27 C12 (ev_w ((3 : Int) * ((C 12 41))))

/-! THE EXACT LOGIC: image() and restore() of both as functions over memory (printed by a program of ours). -/
def f_6_copyFrom_51_6 (C : ev_C) : Option ev_C :=
  if 0 ≤ (C 6 5) ∧ (C 6 5) ≤ 1 then
    some (ev_cp (ev_cp (ev_cp (ev_cp (ev_cp (ev_cp (ev_cp (ev_cp (ev_cp (ev_cp (ev_cp (ev_cp (ev_cp (ev_cp (ev_u (ev_u (ev_u (ev_u (ev_u (ev_u C 51 0 ((C 6 0))) 51 1 ((C 6 1))) 51 2 ((C 6 2))) 51 3 ((C 6 3))) 51 4 ((C 6 4))) 51 5 ((C 6 5))) 67 81 6) 68 82 6) 69 83 8) 70 84 6) 71 85 6) 72 86 6) 73 87 8) 74 88 8) 75 89 8) 76 90 8) 77 91 48) 78 92 12) 79 93 12) 80 94 12)
  else none
def f_2_copyFrom_2 (C : ev_C) : Option ev_C :=
  some C
def f_9_copyFrom_110_9 (C : ev_C) : Option ev_C :=
  some (ev_u (ev_u C 110 0 ((C 9 0))) 110 1 ((C 9 1)))
def f_11_image_k0 (C : ev_C) : Option (Int × ev_C) :=
  ev_bv (f_6_copyFrom_51_6 C) fun C1 =>
  ev_bv (f_2_copyFrom_2 C1) fun C2 =>
  ev_bv (f_9_copyFrom_110_9 C2) fun C3 =>
  some (1, (ev_u C3 4 0 1))
def f_6_copyFrom_51 (C : ev_C) : Option ev_C :=
  if 0 ≤ (C 51 5) ∧ (C 51 5) ≤ 1 then
    some (ev_cp (ev_cp (ev_cp (ev_cp (ev_cp (ev_cp (ev_cp (ev_cp (ev_cp (ev_cp (ev_cp (ev_cp (ev_cp (ev_cp (ev_u (ev_u (ev_u (ev_u (ev_u (ev_u C 6 0 ((C 51 0))) 6 1 ((C 51 1))) 6 2 ((C 51 2))) 6 3 ((C 51 3))) 6 4 ((C 51 4))) 6 5 ((C 51 5))) 81 67 6) 82 68 6) 83 69 8) 84 70 6) 85 71 6) 86 72 6) 87 73 8) 88 74 8) 89 75 8) 90 76 8) 91 77 48) 92 78 12) 93 79 12) 94 80 12)
  else none
def f_9_copyFrom_110 (C : ev_C) : Option ev_C :=
  some (ev_u (ev_u C 9 0 ((C 110 0))) 9 1 ((C 110 1)))
def f_11_restore_k0 (C : ev_C) : Option (Int × ev_C) :=
  if (C 4 0) ≠ 0 then
    ev_bv (f_6_copyFrom_51 C) fun C2 =>
    ev_bv (f_2_copyFrom_2 C2) fun C3 =>
    ev_bv (f_9_copyFrom_110 C3) fun C4 =>
    ev_bv (f_3_forget C4) fun C5 =>
    some (1, C5)
  else
    some (0, C)
def f_6_copyFrom_52_6 (C : ev_C) : Option ev_C :=
  if 0 ≤ (C 6 5) ∧ (C 6 5) ≤ 1 then
    some (ev_cp (ev_cp (ev_cp (ev_cp (ev_cp (ev_cp (ev_cp (ev_cp (ev_cp (ev_cp (ev_cp (ev_cp (ev_cp (ev_cp (ev_u (ev_u (ev_u (ev_u (ev_u (ev_u C 52 0 ((C 6 0))) 52 1 ((C 6 1))) 52 2 ((C 6 2))) 52 3 ((C 6 3))) 52 4 ((C 6 4))) 52 5 ((C 6 5))) 67 95 6) 68 96 6) 69 97 8) 70 98 6) 71 99 6) 72 100 6) 73 101 8) 74 102 8) 75 103 8) 76 104 8) 77 105 48) 78 106 12) 79 107 12) 80 108 12)
  else none
def f_9_copyFrom_111_9 (C : ev_C) : Option ev_C :=
  some (ev_u (ev_u C 111 0 ((C 9 0))) 111 1 ((C 9 1)))
def f_11_image_k1 (C : ev_C) : Option (Int × ev_C) :=
  ev_bv (f_6_copyFrom_52_6 C) fun C1 =>
  ev_bv (f_2_copyFrom_2 C1) fun C2 =>
  ev_bv (f_9_copyFrom_111_9 C2) fun C3 =>
  some (1, (ev_u C3 48 0 1))
def f_6_copyFrom_52 (C : ev_C) : Option ev_C :=
  if 0 ≤ (C 52 5) ∧ (C 52 5) ≤ 1 then
    some (ev_cp (ev_cp (ev_cp (ev_cp (ev_cp (ev_cp (ev_cp (ev_cp (ev_cp (ev_cp (ev_cp (ev_cp (ev_cp (ev_cp (ev_u (ev_u (ev_u (ev_u (ev_u (ev_u C 6 0 ((C 52 0))) 6 1 ((C 52 1))) 6 2 ((C 52 2))) 6 3 ((C 52 3))) 6 4 ((C 52 4))) 6 5 ((C 52 5))) 95 67 6) 96 68 6) 97 69 8) 98 70 6) 99 71 6) 100 72 6) 101 73 8) 102 74 8) 103 75 8) 104 76 8) 105 77 48) 106 78 12) 107 79 12) 108 80 12)
  else none
def f_9_copyFrom_111 (C : ev_C) : Option ev_C :=
  some (ev_u (ev_u C 9 0 ((C 111 0))) 9 1 ((C 111 1)))
def f_11_restore_k1 (C : ev_C) : Option (Int × ev_C) :=
  if (C 48 0) ≠ 0 then
    ev_bv (f_6_copyFrom_52 C) fun C2 =>
    ev_bv (f_2_copyFrom_2 C2) fun C3 =>
    ev_bv (f_9_copyFrom_111 C3) fun C4 =>
    ev_bv (f_3_forget C4) fun C5 =>
    some (1, C5)
  else
    some (0, C)
def f_12_image_k0_L51 : Nat → ev_C → Int → Int → Option (Int × ev_C)
  | 0, _, _, _ => none
  | n + 1, C, y1, y2 =>
    if 20 ≤ y2 then
      if 0 ≤ y1 ∧ y1 < 2 then
        some (1, (ev_u C 46 (Int.toNat y1) 1))
      else none
    else
      if 0 ≤ y2 ∧ y2 < 40 then
        if 0 ≤ ev_w ((ev_w ((20 : Int) * y1)) + y2) ∧ ev_w ((ev_w ((20 : Int) * y1)) + y2) < 40 then
          f_12_image_k0_L51 n (ev_u C 109 (Int.toNat (ev_w ((ev_w ((20 : Int) * y1)) + y2))) ((C 19 (Int.toNat y2)))) y1 (ev_w (y2 + 1))
        else none
      else none
def f_12_image_k0_L18 : Nat → ev_C → Int → Int → Option (Int × ev_C)
  | 0, _, _, _ => none
  | n + 1, C, y1, y2 =>
    if 367 ≤ y2 then
      f_12_image_k0_L51 1000 C y1 (0)
    else
      if 0 ≤ y2 ∧ y2 < 367 then
        if 0 ≤ ev_w ((ev_w ((367 : Int) * y1)) + y2) ∧ ev_w ((ev_w ((367 : Int) * y1)) + y2) < 734 then
          f_12_image_k0_L18 n (ev_u C 45 (Int.toNat (ev_w ((ev_w ((367 : Int) * y1)) + y2))) ((C 34 (Int.toNat y2)))) y1 (ev_w (y2 + 1))
        else none
      else none
def f_12_image_k0 (C : ev_C) : Option (Int × ev_C) :=
  ev_bd (f_12_isIn (ev_u C 12 0 0) (0) (0) (1)) fun r1 C1 =>
  if r1 ≠ 0 then
    f_12_image_k0_L18 1000 C1 (0) (0)
  else
    some (0, C1)
def f_12_restore_k0_L60 : Nat → ev_C → Int → Int → Option (Int × ev_C)
  | 0, _, _, _ => none
  | n + 1, C, y1, y2 =>
    if 20 ≤ y2 then
      some (1, (ev_u C 12 22 0))
    else
      if 0 ≤ ev_w ((ev_w ((20 : Int) * y1)) + y2) ∧ ev_w ((ev_w ((20 : Int) * y1)) + y2) < 40 then
        if 0 ≤ y2 ∧ y2 < 40 then
          f_12_restore_k0_L60 n (ev_u C 19 (Int.toNat y2) ((C 109 (Int.toNat (ev_w ((ev_w ((20 : Int) * y1)) + y2)))))) y1 (ev_w (y2 + 1))
        else none
      else none
def f_12_restore_k0_L27 : Nat → ev_C → Int → Int → Option (Int × ev_C)
  | 0, _, _, _ => none
  | n + 1, C, y1, y2 =>
    if 367 ≤ y2 then
      f_12_restore_k0_L60 1000 C y1 (0)
    else
      if 0 ≤ ev_w ((ev_w ((367 : Int) * y1)) + y2) ∧ ev_w ((ev_w ((367 : Int) * y1)) + y2) < 734 then
        if 0 ≤ y2 ∧ y2 < 367 then
          f_12_restore_k0_L27 n (ev_u C 34 (Int.toNat y2) ((C 45 (Int.toNat (ev_w ((ev_w ((367 : Int) * y1)) + y2)))))) y1 (ev_w (y2 + 1))
        else none
      else none
def f_12_restore_k0 (C : ev_C) : Option (Int × ev_C) :=
  ev_bd (f_12_isIn (ev_u C 12 0 0) (0) (0) (1)) fun r1 C1 =>
  if r1 = 0 then
    some (0, C1)
  else
    if (C1 46 0) ≠ 0 then
      f_12_restore_k0_L27 1000 C1 (0) (0)
    else
      some (0, C1)
def f_12_image_k1_L51 : Nat → ev_C → Int → Int → Option (Int × ev_C)
  | 0, _, _, _ => none
  | n + 1, C, y1, y2 =>
    if 20 ≤ y2 then
      if 0 ≤ y1 ∧ y1 < 2 then
        some (1, (ev_u C 46 (Int.toNat y1) 1))
      else none
    else
      if 0 ≤ y2 ∧ y2 < 40 then
        if 0 ≤ ev_w ((ev_w ((20 : Int) * y1)) + y2) ∧ ev_w ((ev_w ((20 : Int) * y1)) + y2) < 40 then
          f_12_image_k1_L51 n (ev_u C 109 (Int.toNat (ev_w ((ev_w ((20 : Int) * y1)) + y2))) ((C 19 (Int.toNat y2)))) y1 (ev_w (y2 + 1))
        else none
      else none
def f_12_image_k1_L18 : Nat → ev_C → Int → Int → Option (Int × ev_C)
  | 0, _, _, _ => none
  | n + 1, C, y1, y2 =>
    if 367 ≤ y2 then
      f_12_image_k1_L51 1000 C y1 (0)
    else
      if 0 ≤ y2 ∧ y2 < 367 then
        if 0 ≤ ev_w ((ev_w ((367 : Int) * y1)) + y2) ∧ ev_w ((ev_w ((367 : Int) * y1)) + y2) < 734 then
          f_12_image_k1_L18 n (ev_u C 45 (Int.toNat (ev_w ((ev_w ((367 : Int) * y1)) + y2))) ((C 34 (Int.toNat y2)))) y1 (ev_w (y2 + 1))
        else none
      else none
def f_12_image_k1 (C : ev_C) : Option (Int × ev_C) :=
  ev_bd (f_12_isIn (ev_u C 12 0 0) (1) (0) (1)) fun r1 C1 =>
  if r1 ≠ 0 then
    f_12_image_k1_L18 1000 C1 (1) (0)
  else
    some (0, C1)
def f_12_restore_k1_L60 : Nat → ev_C → Int → Int → Option (Int × ev_C)
  | 0, _, _, _ => none
  | n + 1, C, y1, y2 =>
    if 20 ≤ y2 then
      some (1, (ev_u C 12 22 0))
    else
      if 0 ≤ ev_w ((ev_w ((20 : Int) * y1)) + y2) ∧ ev_w ((ev_w ((20 : Int) * y1)) + y2) < 40 then
        if 0 ≤ y2 ∧ y2 < 40 then
          f_12_restore_k1_L60 n (ev_u C 19 (Int.toNat y2) ((C 109 (Int.toNat (ev_w ((ev_w ((20 : Int) * y1)) + y2)))))) y1 (ev_w (y2 + 1))
        else none
      else none
def f_12_restore_k1_L27 : Nat → ev_C → Int → Int → Option (Int × ev_C)
  | 0, _, _, _ => none
  | n + 1, C, y1, y2 =>
    if 367 ≤ y2 then
      f_12_restore_k1_L60 1000 C y1 (0)
    else
      if 0 ≤ ev_w ((ev_w ((367 : Int) * y1)) + y2) ∧ ev_w ((ev_w ((367 : Int) * y1)) + y2) < 734 then
        if 0 ≤ y2 ∧ y2 < 367 then
          f_12_restore_k1_L27 n (ev_u C 34 (Int.toNat y2) ((C 45 (Int.toNat (ev_w ((ev_w ((367 : Int) * y1)) + y2)))))) y1 (ev_w (y2 + 1))
        else none
      else none
def f_12_restore_k1 (C : ev_C) : Option (Int × ev_C) :=
  ev_bd (f_12_isIn (ev_u C 12 0 0) (1) (0) (1)) fun r1 C1 =>
  if r1 = 0 then
    some (0, C1)
  else
    if (C1 46 1) ≠ 0 then
      f_12_restore_k1_L27 1000 C1 (1) (0)
    else
      some (0, C1)

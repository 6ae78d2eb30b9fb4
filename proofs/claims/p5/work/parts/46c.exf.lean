/-! THE EXACT LOGIC: fault() of both as functions over memory (printed by a program of ours). -/
def f_11_fault (C : ev_C) : Option (Int × ev_C) :=
  some ((C 11 13), C)
def f_12_fault (C : ev_C) : Option (Int × ev_C) :=
  some ((C 12 15), (ev_u C 12 0 0))

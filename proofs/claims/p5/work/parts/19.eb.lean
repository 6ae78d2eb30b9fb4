/-! THE EXACT LOGIC, 4: what the printed functions are made of. -/
def ev_bd {α : Type} (o : Option (Int × ev_C)) (g : Int → ev_C → Option α) : Option α := match o with
  | none => none
  | some q => g q.1 q.2
def ev_bv {α : Type} (o : Option ev_C) (g : ev_C → Option α) : Option α := match o with
  | none => none
  | some C => g C
theorem ev_bd_some {α : Type} {o : Option (Int × ev_C)} {g : Int → ev_C → Option α} {z : α} (h : ev_bd o g = some z) : ∃ r C, o = some (r, C) ∧ g r C = some z := by
  match o, h with
  | some q, h => exact ⟨q.1, q.2, rfl, h⟩
theorem ev_bv_some {α : Type} {o : Option ev_C} {g : ev_C → Option α} {z : α} (h : ev_bv o g = some z) : ∃ C, o = some C ∧ g C = some z := by
  match o, h with
  | some q, h => exact ⟨q, rfl, h⟩
theorem ev_gd {α : Type} {c : Prop} [Decidable c] {a : Option α} {z : α} (h : (if c then a else none) = some z) : c ∧ a = some z := by
  by_cases hc : c
  · rw [if_pos hc] at h; exact ⟨hc, h⟩
  · rw [if_neg hc] at h; cases h
def ck_isC (LK : Nat → Nat → Option ck_En) (o ix : Nat) : Bool := match LK o ix with
  | some (.inr (.inr (.inr (.inr _)))) => true
  | _ => false
theorem isC {LK : Nat → Nat → Option ck_En} {o ix : Nat} (h : ck_isC LK o ix = true) : LK o ix = some (.inr (.inr (.inr (.inr ())))) := by
  unfold ck_isC at h
  split at h
  · next u hu => exact hu
  · cases h
theorem ev_Lsub {ty : Nat → Option Nat} {L : List (Nat × ev_V)} {lv : List (Nat × Value)} (h : ev_L ty L lv) : ∀ {L' : List (Nat × ev_V)}, L'.map (fun q => ev_get L q.1) = L'.map (fun q => some q.2) → ∃ lv', ev_L ty L' lv' ∧ ∀ q ∈ lv', q ∈ lv
  | [], _ => ⟨[], True.intro, fun q h => nomatch h⟩
  | a :: L', hm => by
    rw [List.map_cons, List.map_cons] at hm
    obtain ⟨h1, h2⟩ := List.cons.inj hm
    obtain ⟨lv', g1, g2⟩ := ev_Lsub h h2
    obtain ⟨w, k1, k2⟩ := ev_get_ok h h1
    refine ⟨(a.1, w) :: lv', ⟨⟨rfl, k2⟩, g1⟩, fun q hq => ?_⟩
    rcases List.mem_cons.mp hq with hq | hq
    · subst hq; exact k1
    · exact g2 q hq
section EB
variable {l : Launch} {D : va_G} {cys : Nat → ClassId} {ty : Nat → Option Nat} {tg : List ck_TD} {TR : Nat → Bool} {k : ck_K} {pc : Nat} {L : List (Nat × ev_V)} {S : List ev_V} {C : ev_C} {Q : Option ev_V → ev_C → Prop}
theorem ev_loc {L' : List (Nat × ev_V)} (hL : L'.map (fun q => ev_get L q.1) = L'.map (fun q => some q.2)) (kk : ev_W l D cys ty tg TR k pc L' S C Q) : ev_W l D cys ty tg TR k pc L S C Q := by
  intro p e s m args below meth c ls st H locs B hs
  obtain ⟨lv, h1, h2, h3⟩ := hs
  obtain ⟨lv', g1, g2⟩ := ev_Lsub h2 hL
  exact kk _ _ _ _ _ _ _ _ _ _ _ _ B ⟨lv', ⟨h1.1, h1.2.1, fun q hq => h1.2.2 q (g2 q hq)⟩, g1, h3⟩
end EB
/-! the reserved words, as the class and as the reference keep them -/
def z_W : List Int := [1885434484, 1717658484, 109317208502899, 7168366, 6382452, 495588830821, 495673374579, 474147546227, 465625113971, 474148660594, 1718576499, 1919251316, 24947, 33610324346168690, 27995157133617518, 1650815860, 28530, 6385252, 7237492, 482854664563, 125780054271332, 461414299507, 1937076837, 495723310188, 499984983411, 427020087411, 121450625394034]
def z_V : List Int := [525908, 197748, 113411667, 13358, 1140, 20026821, 20201203, 14849171, 12889267, 14866610, 212147, 595572, 51, 24974573746, 3945399598, 71284, 498, 1476, 14836, 17172275, 609865892, 12009203, 644677, 20293004, 21279923, 3540499, 492210354]

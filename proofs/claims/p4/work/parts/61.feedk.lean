/-! append, four and both feeds, checked by a table of their own: the tapes are free in it -/
def kn_append : ck_K := (yX10_append, cX10_append, 2, none, 10, [.inr (.inl 10), cF], (pP.set 0 (.inl (0, 936, []))), [(none, [], (pU.set 0 (.inl (4, 940, [(2000, 4, 4)]))))], 2, 33, [])
def kn_four : ck_K := (yX12_four, cX12_four, 3, none, 12, [.inr (.inl 12), cF], (pPM.set 11 (.inl (0, 936, []))), [(none, [], (pUM.set 11 (.inl (4, 940, [(2022, 4, 4)]))))], 1, 12, [])
def kn_feed11 : ck_K := (yX11_feed, cX11_feed, 6, (some .int), 11, [.inr (.inl 11), cF, cF, cF, cF, cF], pP, [(some (.inl (-1, -1, [])), [], (pU.set 0 (.inl (921, 940, [(2000, 0, 0)])))), (some (.inl (20, 940, [])), [], (pU.set 0 (.inl (20, 940, [(2000, 20, 20)]))))], 3, 54, [])
def kn_feed12 : ck_K := (yX12_feed, cX12_feed, 6, (some .int), 12, [.inr (.inl 12), cF, cF, cF, cF, cF], pPM, [(some (.inl (-1, -1, [])), [], (pUM.set 11 (.inl (921, 940, [(2022, 0, 0)])))), (some (.inl (20, 940, [])), [], (pUM.set 11 (.inl (20, 940, [(2022, 20, 20)]))))], 2, 34, [])
def ck_tabN (j : Nat) : ck_K := [kc_164, kc_165, kn_append, kn_four, kn_feed11, kn_feed12].getD j kc_164
def lkN : List ((Nat × Nat) × Nat × List Nat) := [((10, 19), 0, [0, 1]), ((11, 103), 0, [0, 1]), ((11, 109), 0, [2]), ((12, 10), 0, [3])]
def ck_LKN (o ix : Nat) : Option ck_En := match ck_LK o ix with
  | some (.inr (.inr (.inr (.inl _)))) => (lkN.find? (fun q => q.1 == (o, ix))).map (fun q => .inr (.inr (.inr (.inl q.2))))
  | e => e
def ck_protN (t : Nat) : List (Nat × Nat) := if t = 15 then [] else if t = 49 then [] else ck_prot1 t
theorem lkN_n {o ix : Nat} {e : ck_En} (h : ck_LKN o ix = some e) : ck_LK o ix = some e ∨ ∃ q, lkN.find? (fun q => q.1 == (o, ix)) = some q ∧ e = .inr (.inr (.inr (.inl q.2))) := by
  unfold ck_LKN at h
  split at h
  · right
    cases hf : lkN.find? (fun q => q.1 == (o, ix)) with
    | none => rw [hf] at h; cases h
    | some q =>
      rw [hf] at h
      exact ⟨q, rfl, (Option.some.inj h).symm⟩
  · left
    exact h
theorem lkN_c : ck_LKc ck_LKN := fun o ix => ⟨fun v h => by
    rcases lkN_n h with h | ⟨q, -, h⟩
    · exact (lk_c o ix).1 v h
    · cases h, fun u h => by
    rcases lkN_n h with h | ⟨q, -, h⟩
    · exact (lk_c o ix).2 u h
    · cases h⟩
theorem lkN_f : ck_LKf ck_LKN := fun o ix ci k cd h => by
  rcases lkN_n h with h | ⟨q, -, h⟩
  · exact lk_f o ix ci k cd h
  · cases h
theorem lkN_q {o ix : Nat} {q : (Nat × Nat) × Nat × List Nat} (h : lkN.find? (fun q => q.1 == (o, ix)) = some q) : ∀ j ∈ q.2.2, ck_mOK ck_tags o ix q.2.1 (ck_tabN j) := by
  have h1 := List.find?_some h
  have h2 := List.mem_of_find?_eq_some h
  have h3 : q.1 = (o, ix) := by simpa using h1
  have e1 : o = q.1.1 := by rw [h3]
  have e2 : ix = q.1.2 := by rw [h3]
  subst e1
  subst e2
  simp only [lkN, List.mem_cons, List.not_mem_nil, or_false] at h2
  rcases h2 with rfl | rfl | rfl | rfl
  · intro j hj
    rcases List.mem_cons.mp hj with rfl | hj
    · exact lk_m.1 10 19 0 [164, 165] rfl 164 List.mem_cons_self
    · rw [List.mem_singleton.mp hj]
      exact lk_m.1 10 19 0 [164, 165] rfl 165 (List.mem_cons_of_mem _ List.mem_cons_self)
  · intro j hj
    rcases List.mem_cons.mp hj with rfl | hj
    · exact lk_m.1 11 103 0 [164, 165] rfl 164 List.mem_cons_self
    · rw [List.mem_singleton.mp hj]
      exact lk_m.1 11 103 0 [164, 165] rfl 165 (List.mem_cons_of_mem _ List.mem_cons_self)
  · intro j hj
    rw [List.mem_singleton.mp hj]
    exact lk_h (11, 109, 0, kh_10_append) (List.mem_of_getElem? (i := 2) rfl)
  · intro j hj
    rw [List.mem_singleton.mp hj]
    exact lk_h (12, 10, 0, kh_12_four) (List.mem_of_getElem? (i := 3) rfl)
theorem lkN_m : ck_LKm ck_tags ck_LKN ck_tabN := by
  refine ⟨fun o ix kd js h => ?_, fun o ix u h => ?_⟩
  · rcases lkN_n h with h2 | ⟨q, hq, e⟩
    · unfold ck_LKN at h
      rw [h2] at h
      dsimp only at h
      cases hf : lkN.find? (fun q => q.1 == (o, ix)) with
      | none => rw [hf] at h; cases h
      | some q =>
        rw [hf] at h
        have h := Option.some.inj h
        cases h
        exact lkN_q hf
    · cases e
      exact lkN_q hq
  · rcases lkN_n h with h | ⟨q, -, h⟩
    · exact lk_m.2 o ix u h
    · cases h
set_option maxRecDepth 100000 in
theorem okN_2 : ck_check ck_tags ck_pvs0 ck_protN ck_LKN ck_tabN 2 kn_append 3000 = true := by decide +kernel
set_option maxRecDepth 100000 in
theorem okN_3 : ck_check ck_tags ck_pvs0 ck_protN ck_LKN ck_tabN 3 kn_four 3000 = true := by decide +kernel
set_option maxRecDepth 100000 in
theorem okN_4 : ck_check ck_tags ck_pvs0 ck_protN ck_LKN ck_tabN 4 kn_feed11 3000 = true := by decide +kernel
set_option maxRecDepth 100000 in
theorem okN_5 : ck_check ck_tags ck_pvs0 ck_protN ck_LKN ck_tabN 5 kn_feed12 3000 = true := by decide +kernel
theorem prNA : ∀ t j, ck_pr (ck_protN t) j → ck_pr (ck_protA t) j := by
  intro t j h
  unfold ck_protN at h
  split at h
  · obtain ⟨q, hq, -⟩ := h; cases hq
  · split at h
    · obtain ⟨q, hq, -⟩ := h; cases hq
    · exact pr0A t j (pr10 t j h)
theorem prNAl : ∀ t, ck_protA t = [] → ck_protN t = [] := by
  intro t h
  unfold ck_protN
  split
  · rfl
  · split
    · rfl
    · exact pr10l t (pr0Al t h)
section CHN
variable {l : Launch} {D : va_G} {cys : Nat → ClassId} {ty : Nat → Option Nat} {Ex : va_W → Prop}
theorem chN (hU : ck_uq ty ck_pvs0) (hun : ck_un ty) (hX : ck_ExP ty ck_protN Ex) : ∀ j, j < 6 → ck_Holds l D cys ty ck_tags ck_pvs0 Ex (ck_tabN j) := by
  have h0 : ck_Holds l D cys ty ck_tags ck_pvs0 Ex (ck_tabN 0) := ch0 hU hun Ex (ExP_mono prNA prNAl hX) 164 (by decide)
  have h1 : ck_Holds l D cys ty ck_tags ck_pvs0 Ex (ck_tabN 1) := ch0 hU hun Ex (ExP_mono prNA prNAl hX) 165 (by decide)
  have l2 : ∀ j, j < 2 → ck_Holds l D cys ty ck_tags ck_pvs0 Ex (ck_tabN j) := fun j hj => match j, hj with
    | 0, _ => h0
    | 1, _ => h1
    | n + 2, h => absurd h (by omega)
  have h2 : ck_Holds l D cys ty ck_tags ck_pvs0 Ex (ck_tabN 2) := ck_sound (k := kn_append) ⟨lkN_c, lkN_f, lkN_m, hX, hU, pv_inj, l2⟩ (by decide +kernel) (by decide +kernel) okN_2
  have l3 : ∀ j, j < 3 → ck_Holds l D cys ty ck_tags ck_pvs0 Ex (ck_tabN j) := fun j hj => match j, hj with
    | 0, _ => h0
    | 1, _ => h1
    | 2, _ => h2
    | n + 3, h => absurd h (by omega)
  have h3 : ck_Holds l D cys ty ck_tags ck_pvs0 Ex (ck_tabN 3) := ck_sound (k := kn_four) ⟨lkN_c, lkN_f, lkN_m, hX, hU, pv_inj, l3⟩ (by decide +kernel) (by decide +kernel) okN_3
  have l4 : ∀ j, j < 4 → ck_Holds l D cys ty ck_tags ck_pvs0 Ex (ck_tabN j) := fun j hj => match j, hj with
    | 0, _ => h0
    | 1, _ => h1
    | 2, _ => h2
    | 3, _ => h3
    | n + 4, h => absurd h (by omega)
  have h4 : ck_Holds l D cys ty ck_tags ck_pvs0 Ex (ck_tabN 4) := ck_sound (k := kn_feed11) ⟨lkN_c, lkN_f, lkN_m, hX, hU, pv_inj, l4⟩ (by decide +kernel) (by decide +kernel) okN_4
  have l5 : ∀ j, j < 5 → ck_Holds l D cys ty ck_tags ck_pvs0 Ex (ck_tabN j) := fun j hj => match j, hj with
    | 0, _ => h0
    | 1, _ => h1
    | 2, _ => h2
    | 3, _ => h3
    | 4, _ => h4
    | n + 5, h => absurd h (by omega)
  have h5 : ck_Holds l D cys ty ck_tags ck_pvs0 Ex (ck_tabN 5) := ck_sound (k := kn_feed12) ⟨lkN_c, lkN_f, lkN_m, hX, hU, pv_inj, l5⟩ (by decide +kernel) (by decide +kernel) okN_5
  exact fun j hj => match j, hj with
    | 0, _ => h0
    | 1, _ => h1
    | 2, _ => h2
    | 3, _ => h3
    | 4, _ => h4
    | 5, _ => h5
    | n + 6, h => absurd h (by omega)
end CHN

/-! append, four and both feeds, checked by a table of their own: the tapes are free in it -/
def kn_append : ck_K := (yX10_append, cX10_append, 2, none, 10, [.inr (.inl 10), cF], (pP.set 0 (.inl (0, 936, []))), [(none, [], (pU.set 0 (.inl (4, 940, [(2000, 4, 4)]))))], 2, 33, [])
def kn_four : ck_K := (yX12_four, cX12_four, 3, none, 12, [.inr (.inl 12), cF], (pPM.set 11 (.inl (0, 936, []))), [(none, [], (pUM.set 11 (.inl (4, 940, [(2022, 4, 4)]))))], 1, 12, [])
def kn_feed11 : ck_K := (yX11_feed, cX11_feed, 6, (some .int), 11, [.inr (.inl 11), cF, cF, cF, cF, cF], pP, [(some (.inl (-1, -1, [])), [], (pU.set 0 (.inl (921, 940, [(2000, 0, 0)])))), (some (.inl (20, 940, [])), [], (pU.set 0 (.inl (20, 940, [(2000, 20, 20)]))))], 3, 54, [])
def kn_feed12 : ck_K := (yX12_feed, cX12_feed, 6, (some .int), 12, [.inr (.inl 12), cF, cF, cF, cF, cF], pPM, [(some (.inl (-1, -1, [])), [], (pUM.set 11 (.inl (921, 940, [(2022, 0, 0)])))), (some (.inl (20, 940, [])), [], (pUM.set 11 (.inl (20, 940, [(2022, 20, 20)]))))], 2, 34, [])
def ck_tabN (j : Nat) : ck_K := [kc_164, kc_165, kn_append, kn_four, kn_feed11, kn_feed12].getD j kc_164
def lkN : List ((Nat × Nat) × Nat × List Nat) := [((10, 19), 0, [0, 1]), ((11, 103), 0, [0, 1]), ((11, 109), 0, [2]), ((12, 10), 0, [3])]
def ck_LKN (o ix : Nat) : Option ck_En := match ck_LK o ix with
  | some (.inr (.inr (.inr (.inl _)))) => (lkN.find? (fun q => q.1 == (o, ix))).map (fun q => .inr (.inr (.inr (.inl q.2))))
  | e => e
def ck_protN (t : Nat) : List (Nat × Nat) := if t = 15 then [] else if t = 49 then [] else ck_prot1 t
theorem lkN_n {o ix : Nat} {e : ck_En} (h : ck_LKN o ix = some e) : ck_LK o ix = some e ∨ ∃ q, lkN.find? (fun q => q.1 == (o, ix)) = some q ∧ e = .inr (.inr (.inr (.inl q.2))) := by
  unfold ck_LKN at h
  split at h
  · right
    cases hf : lkN.find? (fun q => q.1 == (o, ix)) with
    | none => rw [hf] at h; cases h
    | some q =>
      rw [hf] at h
      exact ⟨q, rfl, (Option.some.inj h).symm⟩
  · left
    exact h
theorem lkN_c : ck_LKc ck_LKN := by
  intro o ix
  constructor
  · intro v h
    rcases lkN_n h with h | ⟨q, -, h⟩
    · exact (lk_c o ix).1 v h
    · cases h
  · intro u h
    rcases lkN_n h with h | ⟨q, -, h⟩
    · exact (lk_c o ix).2 u h
    · cases h
theorem lkN_f : ck_LKf ck_LKN := fun o ix ci k cd h => by
  rcases lkN_n h with h | ⟨q, -, h⟩
  · exact lk_f o ix ci k cd h
  · cases h
theorem mOK_c {o ix kd : Nat} {k k' : ck_K} (e1 : k_y k = k_y k') (e2 : k_cc k = k_cc k') (e3 : k_ml k = k_ml k') (e4 : k_rt k = k_rt k') (e5 : k_pa k = k_pa k') (h : ck_mOK ck_tags o ix kd k) : ck_mOK ck_tags o ix kd k' := by
  unfold ck_mOK at *
  rw [← e1, ← e2, ← e3, ← e4, ← e5]
  exact h
theorem evm_c {l : Launch} {D : va_G} {cys : Nat → ClassId} {ty : Nat → Option Nat} {k k' : ck_K} {A : List ev_V} {C : ev_C} {Q : Option ev_V → ev_C → Prop} (e1 : k_y k = k_y k') (e2 : ck_ws k = ck_ws k') (e3 : ck_rm k = ck_rm k') (h : ev_Met l D cys ty ck_tags ev_TR k A C Q) : ev_Met l D cys ty ck_tags ev_TR k' A C Q := by
  unfold ev_Met at *
  rw [← e1, ← e2, ← e3]
  exact h
theorem kn_a : ck_mOK ck_tags 11 109 0 kn_append := mOK_c (k := kh_10_append) ((rfl : k_y kh_10_append = yX10_append).trans (rfl : yX10_append = k_y kn_append)) ((rfl : k_cc kh_10_append = cX10_append).trans (rfl : cX10_append = k_cc kn_append)) ((rfl : k_ml kh_10_append = 2).trans (rfl : 2 = k_ml kn_append)) ((rfl : k_rt kh_10_append = none).trans (rfl : none = k_rt kn_append)) ((rfl : k_pa kh_10_append = [.inr (.inl 10), cF]).trans (rfl : [.inr (.inl 10), cF] = k_pa kn_append)) (lk_h (11, 109, 0, kh_10_append) (List.mem_of_getElem? (i := 2) rfl))
theorem kn_4 : ck_mOK ck_tags 12 10 0 kn_four := mOK_c (k := kh_12_four) ((rfl : k_y kh_12_four = yX12_four).trans (rfl : yX12_four = k_y kn_four)) ((rfl : k_cc kh_12_four = cX12_four).trans (rfl : cX12_four = k_cc kn_four)) ((rfl : k_ml kh_12_four = 3).trans (rfl : 3 = k_ml kn_four)) ((rfl : k_rt kh_12_four = none).trans (rfl : none = k_rt kn_four)) ((rfl : k_pa kh_12_four = [.inr (.inl 12), cF]).trans (rfl : [.inr (.inl 12), cF] = k_pa kn_four)) (lk_h (12, 10, 0, kh_12_four) (List.mem_of_getElem? (i := 3) rfl))
theorem lkN_q {o ix : Nat} {q : (Nat × Nat) × Nat × List Nat} (h : lkN.find? (fun q => q.1 == (o, ix)) = some q) : ∀ j ∈ q.2.2, ck_mOK ck_tags o ix q.2.1 (ck_tabN j) := by
  have h1 := List.find?_some h
  have h2 := List.mem_of_find?_eq_some h
  have h3 : q.1 = (o, ix) := by simpa using h1
  have e1 : o = q.1.1 := by rw [h3]
  have e2 : ix = q.1.2 := by rw [h3]
  subst e1
  subst e2
  simp only [lkN, List.mem_cons, List.not_mem_nil, or_false] at h2
  rcases h2 with rfl | rfl | rfl | rfl
  · intro j hj
    rcases List.mem_cons.mp hj with rfl | hj
    · exact (lk_m.1 _ _ 0 [164, 165] (isM (by decide +kernel)) 164 (by decide) : ck_mOK ck_tags 10 19 0 kc_164)
    · rw [List.mem_singleton.mp hj]
      exact (lk_m.1 _ _ 0 [164, 165] (isM (by decide +kernel)) 165 (by decide) : ck_mOK ck_tags 10 19 0 kc_165)
  · intro j hj
    rcases List.mem_cons.mp hj with rfl | hj
    · exact (lk_m.1 _ _ 0 [164, 165] (isM (by decide +kernel)) 164 (by decide) : ck_mOK ck_tags 11 103 0 kc_164)
    · rw [List.mem_singleton.mp hj]
      exact (lk_m.1 _ _ 0 [164, 165] (isM (by decide +kernel)) 165 (by decide) : ck_mOK ck_tags 11 103 0 kc_165)
  · intro j hj
    rw [List.mem_singleton.mp hj]
    exact kn_a
  · intro j hj
    rw [List.mem_singleton.mp hj]
    exact kn_4
theorem lkN_m : ck_LKm ck_tags ck_LKN ck_tabN := by
  refine ⟨fun o ix kd js h => ?_, fun o ix u h => ?_⟩
  · have key : ∃ q, lkN.find? (fun q => q.1 == (o, ix)) = some q ∧ q.2 = (kd, js) := by
      unfold ck_LKN at h
      split at h
      · cases hf : lkN.find? (fun q => q.1 == (o, ix)) with
        | none => rw [hf] at h; cases h
        | some q =>
          rw [hf] at h
          have h := Option.some.inj h
          exact ⟨q, rfl, Sum.inl.inj (Sum.inr.inj (Sum.inr.inj (Sum.inr.inj h)))⟩
      · next hn => exact absurd h (hn (kd, js))
    obtain ⟨q, hq, e⟩ := key
    have hh := lkN_q hq
    rw [e] at hh
    exact hh
  · rcases lkN_n h with h | ⟨q, -, h⟩
    · exact lk_m.2 o ix u h
    · cases h

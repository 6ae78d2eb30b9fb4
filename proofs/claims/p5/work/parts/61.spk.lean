/-! what writes kept rows, checked by tables of its own: what it writes is free in them -/
theorem mOK_c {o ix kd : Nat} {k k' : ck_K} (e1 : k_y k = k_y k') (e2 : k_cc k = k_cc k') (e3 : k_ml k = k_ml k') (e4 : k_rt k = k_rt k') (e5 : k_pa k = k_pa k') (h : ck_mOK ck_tags o ix kd k) : ck_mOK ck_tags o ix kd k' := by
  unfold ck_mOK at *
  rw [← e1, ← e2, ← e3, ← e4, ← e5]
  exact h
theorem evm_c {l : Launch} {D : va_G} {cys : Nat → ClassId} {ty : Nat → Option Nat} {k k' : ck_K} {A : List ev_V} {C : ev_C} {Q : Option ev_V → ev_C → Prop} (e1 : k_y k = k_y k') (e2 : ck_ws k = ck_ws k') (e3 : ck_rm k = ck_rm k') (h : ev_Met l D cys ty ck_tags ev_TR k A C Q) : ev_Met l D cys ty ck_tags ev_TR k' A C Q := by
  unfold ev_Met at *
  rw [← e1, ← e2, ← e3]
  exact h
theorem hold_c {l : Launch} {D : va_G} {cys : Nat → ClassId} {ty : Nat → Option Nat} {Ex : va_W → Prop} {k k' : ck_K} (e1 : k = k') (h : ck_Holds l D cys ty ck_tags ck_pvs0 Ex k) : ck_Holds l D cys ty ck_tags ck_pvs0 Ex k' := e1 ▸ h
def kq_10_append : ck_K := (yX10_append, cX10_append, 2, none, 10, [.inr (.inl 10), cF], (pP.set 0 (.inl (0, 936, []))), [(none, [], (pU.set 0 (.inl (4, 940, [(2000, 4, 4)]))))], 2, 33, [])
def kq_12_four : ck_K := (yX12_four, cX12_four, 3, none, 12, [.inr (.inl 12), cF], (pPM.set 11 (.inl (0, 936, []))), [(none, [], (pUM.set 11 (.inl (4, 940, [(2022, 4, 4)]))))], 1, 12, [])
def kq_11_feed : ck_K := (yX11_feed, cX11_feed, 6, (some .int), 11, [.inr (.inl 11), cF, cF, cF, cF, cF], pP, [(some (.inl (-1, -1, [])), [], (pU.set 0 (.inl (921, 940, [(2000, 0, 0)])))), (some (.inl (20, 940, [])), [], (pU.set 0 (.inl (20, 940, [(2000, 20, 20)]))))], 3, 54, [])
def kq_12_feed : ck_K := (yX12_feed, cX12_feed, 6, (some .int), 12, [.inr (.inl 12), cF, cF, cF, cF, cF], pPM, [(some (.inl (-1, -1, [])), [], (pUM.set 11 (.inl (921, 940, [(2022, 0, 0)])))), (some (.inl (20, 940, [])), [], (pUM.set 11 (.inl (20, 940, [(2022, 20, 20)]))))], 2, 34, [])
def kq_6_copyFrom_pt : ck_K := (yX6_copyFrom, cX6_copyFrom, 2, none, 6, [.inr (.inl 6), .inr (.inl 13)], pP, [(none, [], pU)], 1, 26, [])
def kq_6_copyFrom_pi : ck_K := (yX6_copyFrom, cX6_copyFrom, 2, none, 6, [.inr (.inl 6), .inr (.inl 51)], pP, [(none, [], pU)], 1, 26, [])
def kq_6_copyFrom_pj : ck_K := (yX6_copyFrom, cX6_copyFrom, 2, none, 6, [.inr (.inl 6), .inr (.inl 52)], pP, [(none, [], pU)], 1, 26, [])
def kq_11_play : ck_K := (yX11_play, cX11_play, 2, (some .int), 11, [.inr (.inl 11)], pP, [(some (cF), [], ((((((((((pU.set 0 (.inl (0, 0, []))).set 1 (.inl (0, 940, []))).set 2 (.inl (0, 6, []))).set 3 (.inl (0, 6, []))).set 4 (.inl (0, 8, []))).set 5 (.inl (0, 6, []))).set 6 (.inl (0, 12, []))).set 8 (.inl (0, 8, []))).set 25 (.inl (0, 4, []))).set 30 (.inl (0, 4, []))))], 8, 170, [])
def kq_11_restore_0 : ck_K := (yX11_restore, cX11_restore, 3, (some .boolean), 11, [.inr (.inl 11), .inl (0, 0, [])], pP, [(some (.inl (0, 0, [])), [], (pU.set 26 (.inl (0, 0, [(2052, 0, 0)])))), (some (.inl (1, 1, [])), [], ((pU.set 8 (.inl (0, 0, []))).set 26 (.inl (1, 1, [(2052, 0, 0)]))))], 2, 47, [])
def kq_11_restore_1 : ck_K := (yX11_restore, cX11_restore, 3, (some .boolean), 11, [.inr (.inl 11), .inl (1, 1, [])], pP, [(some (.inl (0, 0, [])), [], (pU.set 27 (.inl (0, 0, [(2054, 0, 0)])))), (some (.inl (1, 1, [])), [], ((pU.set 8 (.inl (0, 0, []))).set 27 (.inl (1, 1, [(2054, 0, 0)]))))], 2, 47, [])
def kq_6_copyFrom_ip : ck_K := (yX6_copyFrom, cX6_copyFrom, 2, none, 6, [.inr (.inl 51), .inr (.inl 6)], pP, [(none, [], pU)], 1, 26, [])
def kq_11_image_0 : ck_K := (yX11_image, cX11_image, 3, (some .boolean), 11, [.inr (.inl 11), .inl (0, 0, [])], pP, [(some (.inl (1, 1, [])), [], (pU.set 26 (.inl (1, 1, []))))], 2, 47, [])
def kq_6_copyFrom_jp : ck_K := (yX6_copyFrom, cX6_copyFrom, 2, none, 6, [.inr (.inl 52), .inr (.inl 6)], pP, [(none, [], pU)], 1, 26, [])
def kq_11_image_1 : ck_K := (yX11_image, cX11_image, 3, (some .boolean), 11, [.inr (.inl 11), .inl (1, 1, [])], pP, [(some (.inl (1, 1, [])), [], (pU.set 27 (.inl (1, 1, []))))], 2, 47, [])
def ck_tabN (j : Nat) : ck_K := [kc_162, kc_163, kq_10_append, kq_12_four, kq_11_feed, kq_12_feed].getD j kc_162
def lkN : List ((Nat × Nat) × Nat × List Nat) := [((10, 19), 0, [0]), ((11, 103), 0, [1]), ((11, 109), 0, [2]), ((12, 10), 0, [3])]
def ck_LKN (o ix : Nat) : Option ck_En := match ck_LK o ix with
  | some (.inr (.inr (.inr (.inl _)))) => (lkN.find? (fun q => q.1 == (o, ix))).map (fun q => .inr (.inr (.inr (.inl q.2))))
  | e => e
def ck_frN (t : Nat) : Bool := [15, 49].contains t
def ck_protN (t : Nat) : List (Nat × Nat) := if ck_frN t = true then [] else ck_prot1 t
def lkX_n (LKX : Nat → Nat → Option ck_En) (lkX : List ((Nat × Nat) × Nat × List Nat)) : Prop := ∀ {o ix : Nat} {e : ck_En}, LKX o ix = some e → (ck_LK o ix = some e ∧ ∀ q, e ≠ .inr (.inr (.inr (.inl q)))) ∨ ∃ q, lkX.find? (fun q => q.1 == (o, ix)) = some q ∧ e = .inr (.inr (.inr (.inl q.2)))
theorem lkX_c {LKX : Nat → Nat → Option ck_En} {lkX : List ((Nat × Nat) × Nat × List Nat)} (hn : lkX_n LKX lkX) : ck_LKc LKX := by
  intro o ix
  constructor
  · intro v h
    rcases hn h with ⟨h, -⟩ | ⟨q, -, h⟩
    · exact (lk_c o ix).1 v h
    · cases h
  · intro u h
    rcases hn h with ⟨h, -⟩ | ⟨q, -, h⟩
    · exact (lk_c o ix).2 u h
    · cases h
theorem lkX_f {LKX : Nat → Nat → Option ck_En} {lkX : List ((Nat × Nat) × Nat × List Nat)} (hn : lkX_n LKX lkX) : ck_LKf LKX := fun o ix ci k cd h => by
  rcases hn h with ⟨h, -⟩ | ⟨q, -, h⟩
  · exact lk_f o ix ci k cd h
  · cases h
theorem lkX_m {LKX : Nat → Nat → Option ck_En} {lkX : List ((Nat × Nat) × Nat × List Nat)} {tab : Nat → ck_K} (hn : lkX_n LKX lkX) (hq : ∀ {o ix : Nat} {q : (Nat × Nat) × Nat × List Nat}, lkX.find? (fun q => q.1 == (o, ix)) = some q → ∀ j ∈ q.2.2, ck_mOK ck_tags o ix q.2.1 (tab j)) : ck_LKm ck_tags LKX tab := by
  refine ⟨fun o ix kd js h => ?_, fun o ix u h => ?_⟩
  · rcases hn h with ⟨-, h⟩ | ⟨q, h1, h⟩
    · exact absurd rfl (h (kd, js))
    · have h := Sum.inl.inj (Sum.inr.inj (Sum.inr.inj (Sum.inr.inj h)))
      have hh := hq h1
      rw [← h] at hh
      exact hh
  · rcases hn h with ⟨h, -⟩ | ⟨q, -, h⟩
    · exact lk_m.2 o ix u h
    · cases h
theorem lkN_n : lkX_n ck_LKN lkN := by
  intro o ix e h
  unfold ck_LKN at h
  split at h
  · right
    cases hf : lkN.find? (fun q => q.1 == (o, ix)) with
    | none => rw [hf] at h; cases h
    | some q =>
      rw [hf] at h
      exact ⟨q, rfl, (Option.some.inj h).symm⟩
  · next hne =>
    left
    exact ⟨h, fun q hq => hne q (by rw [h, hq])⟩
theorem wN_11_109_2 : ck_mOK ck_tags 11 109 0 kq_10_append := mOK_c (k := kh_10_append) ((rfl : k_y kh_10_append = yX10_append).trans (rfl : yX10_append = k_y kq_10_append)) ((rfl : k_cc kh_10_append = cX10_append).trans (rfl : cX10_append = k_cc kq_10_append)) ((rfl : k_ml kh_10_append = 2).trans (rfl : 2 = k_ml kq_10_append)) ((rfl : k_rt kh_10_append = none).trans (rfl : none = k_rt kq_10_append)) ((rfl : k_pa kh_10_append = [.inr (.inl 10), cF]).trans (rfl : [.inr (.inl 10), cF] = k_pa kq_10_append)) (lk_h (11, 109, 0, kh_10_append) (List.mem_of_getElem? (i := 2) rfl))
theorem wN_12_10_3 : ck_mOK ck_tags 12 10 0 kq_12_four := mOK_c (k := kh_12_four) ((rfl : k_y kh_12_four = yX12_four).trans (rfl : yX12_four = k_y kq_12_four)) ((rfl : k_cc kh_12_four = cX12_four).trans (rfl : cX12_four = k_cc kq_12_four)) ((rfl : k_ml kh_12_four = 3).trans (rfl : 3 = k_ml kq_12_four)) ((rfl : k_rt kh_12_four = none).trans (rfl : none = k_rt kq_12_four)) ((rfl : k_pa kh_12_four = [.inr (.inl 12), cF]).trans (rfl : [.inr (.inl 12), cF] = k_pa kq_12_four)) (lk_h (12, 10, 0, kh_12_four) (List.mem_of_getElem? (i := 8) rfl))
theorem lkN_q {o ix : Nat} {q : (Nat × Nat) × Nat × List Nat} (h : lkN.find? (fun q => q.1 == (o, ix)) = some q) : ∀ j ∈ q.2.2, ck_mOK ck_tags o ix q.2.1 (ck_tabN j) := by
  have h1 := List.find?_some h
  have h2 := List.mem_of_find?_eq_some h
  have h3 : q.1 = (o, ix) := by simpa using h1
  have e1 : o = q.1.1 := by rw [h3]
  have e2 : ix = q.1.2 := by rw [h3]
  subst e1
  subst e2
  simp only [lkN, List.mem_cons, List.not_mem_nil, or_false] at h2
  rcases h2 with rfl | rfl | rfl | rfl
  · intro j hj
    rcases List.mem_cons.mp hj with rfl | hj
    · exact (lk_m.1 _ _ 0 [162, 163] (isM (by decide +kernel)) 162 (by decide) : ck_mOK ck_tags 10 19 0 kc_162)
    cases hj
  · intro j hj
    rcases List.mem_cons.mp hj with rfl | hj
    · exact (lk_m.1 _ _ 0 [162, 163] (isM (by decide +kernel)) 163 (by decide) : ck_mOK ck_tags 11 103 0 kc_163)
    cases hj
  · intro j hj
    rcases List.mem_cons.mp hj with rfl | hj
    · exact (wN_11_109_2 : ck_mOK ck_tags 11 109 0 kq_10_append)
    cases hj
  · intro j hj
    rcases List.mem_cons.mp hj with rfl | hj
    · exact (wN_12_10_3 : ck_mOK ck_tags 12 10 0 kq_12_four)
    cases hj
theorem lkN_m : ck_LKm ck_tags ck_LKN ck_tabN := lkX_m lkN_n lkN_q
def ck_tabP (j : Nat) : ck_K := [kc_89, kc_120, kc_122, kc_127, kc_129, kc_289, kc_290, kc_295, kq_6_copyFrom_pt, kq_6_copyFrom_pi, kq_6_copyFrom_pj, kq_11_play, kq_11_restore_0, kq_11_restore_1].getD j kc_89
def lkP : List ((Nat × Nat) × Nat × List Nat) := [((11, 116), 0, [1]), ((11, 119), 0, [7]), ((11, 132), 0, [8, 9, 10]), ((11, 136), 0, [5]), ((11, 139), 0, [2]), ((11, 142), 0, [0]), ((11, 353), 0, [6]), ((11, 377), 0, [3, 4])]
def ck_LKP (o ix : Nat) : Option ck_En := match ck_LK o ix with
  | some (.inr (.inr (.inr (.inl _)))) => (lkP.find? (fun q => q.1 == (o, ix))).map (fun q => .inr (.inr (.inr (.inl q.2))))
  | e => e
def ck_frP (t : Nat) : Bool := [6, 67, 68, 69, 78, 79, 80].contains t
def ck_protP (t : Nat) : List (Nat × Nat) := if ck_frP t = true then [] else ck_prot1 t
theorem lkP_n : lkX_n ck_LKP lkP := by
  intro o ix e h
  unfold ck_LKP at h
  split at h
  · right
    cases hf : lkP.find? (fun q => q.1 == (o, ix)) with
    | none => rw [hf] at h; cases h
    | some q =>
      rw [hf] at h
      exact ⟨q, rfl, (Option.some.inj h).symm⟩
  · next hne =>
    left
    exact ⟨h, fun q hq => hne q (by rw [h, hq])⟩
theorem wP_11_132_8 : ck_mOK ck_tags 11 132 0 kq_6_copyFrom_pt := mOK_c (k := kh_6_copyFrom_pt) ((rfl : k_y kh_6_copyFrom_pt = yX6_copyFrom).trans (rfl : yX6_copyFrom = k_y kq_6_copyFrom_pt)) ((rfl : k_cc kh_6_copyFrom_pt = cX6_copyFrom).trans (rfl : cX6_copyFrom = k_cc kq_6_copyFrom_pt)) ((rfl : k_ml kh_6_copyFrom_pt = 2).trans (rfl : 2 = k_ml kq_6_copyFrom_pt)) ((rfl : k_rt kh_6_copyFrom_pt = none).trans (rfl : none = k_rt kq_6_copyFrom_pt)) ((rfl : k_pa kh_6_copyFrom_pt = [.inr (.inl 6), .inr (.inl 13)]).trans (rfl : [.inr (.inl 6), .inr (.inl 13)] = k_pa kq_6_copyFrom_pt)) (lk_h (11, 132, 0, kh_6_copyFrom_pt) (List.mem_of_getElem? (i := 7) rfl))
theorem wP_11_132_9 : ck_mOK ck_tags 11 132 0 kq_6_copyFrom_pi := mOK_c (k := kh_6_copyFrom_pi) ((rfl : k_y kh_6_copyFrom_pi = yX6_copyFrom).trans (rfl : yX6_copyFrom = k_y kq_6_copyFrom_pi)) ((rfl : k_cc kh_6_copyFrom_pi = cX6_copyFrom).trans (rfl : cX6_copyFrom = k_cc kq_6_copyFrom_pi)) ((rfl : k_ml kh_6_copyFrom_pi = 2).trans (rfl : 2 = k_ml kq_6_copyFrom_pi)) ((rfl : k_rt kh_6_copyFrom_pi = none).trans (rfl : none = k_rt kq_6_copyFrom_pi)) ((rfl : k_pa kh_6_copyFrom_pi = [.inr (.inl 6), .inr (.inl 51)]).trans (rfl : [.inr (.inl 6), .inr (.inl 51)] = k_pa kq_6_copyFrom_pi)) (lk_h (11, 132, 0, kh_6_copyFrom_pi) (List.mem_of_getElem? (i := 5) rfl))
theorem wP_11_132_10 : ck_mOK ck_tags 11 132 0 kq_6_copyFrom_pj := mOK_c (k := kh_6_copyFrom_pj) ((rfl : k_y kh_6_copyFrom_pj = yX6_copyFrom).trans (rfl : yX6_copyFrom = k_y kq_6_copyFrom_pj)) ((rfl : k_cc kh_6_copyFrom_pj = cX6_copyFrom).trans (rfl : cX6_copyFrom = k_cc kq_6_copyFrom_pj)) ((rfl : k_ml kh_6_copyFrom_pj = 2).trans (rfl : 2 = k_ml kq_6_copyFrom_pj)) ((rfl : k_rt kh_6_copyFrom_pj = none).trans (rfl : none = k_rt kq_6_copyFrom_pj)) ((rfl : k_pa kh_6_copyFrom_pj = [.inr (.inl 6), .inr (.inl 52)]).trans (rfl : [.inr (.inl 6), .inr (.inl 52)] = k_pa kq_6_copyFrom_pj)) (lk_h (11, 132, 0, kh_6_copyFrom_pj) (List.mem_of_getElem? (i := 6) rfl))
theorem lkP_q {o ix : Nat} {q : (Nat × Nat) × Nat × List Nat} (h : lkP.find? (fun q => q.1 == (o, ix)) = some q) : ∀ j ∈ q.2.2, ck_mOK ck_tags o ix q.2.1 (ck_tabP j) := by
  have h1 := List.find?_some h
  have h2 := List.mem_of_find?_eq_some h
  have h3 : q.1 = (o, ix) := by simpa using h1
  have e1 : o = q.1.1 := by rw [h3]
  have e2 : ix = q.1.2 := by rw [h3]
  subst e1
  subst e2
  simp only [lkP, List.mem_cons, List.not_mem_nil, or_false] at h2
  rcases h2 with rfl | rfl | rfl | rfl | rfl | rfl | rfl | rfl
  · intro j hj
    rcases List.mem_cons.mp hj with rfl | hj
    · exact (lk_m.1 _ _ 0 [120] (isM (by decide +kernel)) 120 (by decide) : ck_mOK ck_tags 11 116 0 kc_120)
    cases hj
  · intro j hj
    rcases List.mem_cons.mp hj with rfl | hj
    · exact (lk_m.1 _ _ 0 [295] (isM (by decide +kernel)) 295 (by decide) : ck_mOK ck_tags 11 119 0 kc_295)
    cases hj
  · intro j hj
    rcases List.mem_cons.mp hj with rfl | hj
    · exact (wP_11_132_8 : ck_mOK ck_tags 11 132 0 kq_6_copyFrom_pt)
    rcases List.mem_cons.mp hj with rfl | hj
    · exact (wP_11_132_9 : ck_mOK ck_tags 11 132 0 kq_6_copyFrom_pi)
    rcases List.mem_cons.mp hj with rfl | hj
    · exact (wP_11_132_10 : ck_mOK ck_tags 11 132 0 kq_6_copyFrom_pj)
    cases hj
  · intro j hj
    rcases List.mem_cons.mp hj with rfl | hj
    · exact (lk_m.1 _ _ 0 [289] (isM (by decide +kernel)) 289 (by decide) : ck_mOK ck_tags 11 136 0 kc_289)
    cases hj
  · intro j hj
    rcases List.mem_cons.mp hj with rfl | hj
    · exact (lk_m.1 _ _ 0 [122, 123] (isM (by decide +kernel)) 122 (by decide) : ck_mOK ck_tags 11 139 0 kc_122)
    cases hj
  · intro j hj
    rcases List.mem_cons.mp hj with rfl | hj
    · exact (lk_m.1 _ _ 0 [89] (isM (by decide +kernel)) 89 (by decide) : ck_mOK ck_tags 11 142 0 kc_89)
    cases hj
  · intro j hj
    rcases List.mem_cons.mp hj with rfl | hj
    · exact (lk_m.1 _ _ 0 [290] (isM (by decide +kernel)) 290 (by decide) : ck_mOK ck_tags 11 353 0 kc_290)
    cases hj
  · intro j hj
    rcases List.mem_cons.mp hj with rfl | hj
    · exact (lk_m.1 _ _ 0 [125, 126, 127, 128, 129] (isM (by decide +kernel)) 127 (by decide) : ck_mOK ck_tags 11 377 0 kc_127)
    rcases List.mem_cons.mp hj with rfl | hj
    · exact (lk_m.1 _ _ 0 [125, 126, 127, 128, 129] (isM (by decide +kernel)) 129 (by decide) : ck_mOK ck_tags 11 377 0 kc_129)
    cases hj
theorem lkP_m : ck_LKm ck_tags ck_LKP ck_tabP := lkX_m lkP_n lkP_q
def ck_tabI (j : Nat) : ck_K := [kc_125, kc_290, kq_6_copyFrom_ip, kq_11_image_0].getD j kc_125
def lkI : List ((Nat × Nat) × Nat × List Nat) := [((11, 132), 0, [2]), ((11, 353), 0, [1]), ((11, 377), 0, [0])]
def ck_LKI (o ix : Nat) : Option ck_En := match ck_LK o ix with
  | some (.inr (.inr (.inr (.inl _)))) => (lkI.find? (fun q => q.1 == (o, ix))).map (fun q => .inr (.inr (.inr (.inl q.2))))
  | e => e
def ck_frI (t : Nat) : Bool := [51, 81, 82, 83, 92, 93, 94].contains t
def ck_protI (t : Nat) : List (Nat × Nat) := if ck_frI t = true then [] else ck_prot1 t
theorem lkI_n : lkX_n ck_LKI lkI := by
  intro o ix e h
  unfold ck_LKI at h
  split at h
  · right
    cases hf : lkI.find? (fun q => q.1 == (o, ix)) with
    | none => rw [hf] at h; cases h
    | some q =>
      rw [hf] at h
      exact ⟨q, rfl, (Option.some.inj h).symm⟩
  · next hne =>
    left
    exact ⟨h, fun q hq => hne q (by rw [h, hq])⟩
theorem wI_11_132_2 : ck_mOK ck_tags 11 132 0 kq_6_copyFrom_ip := mOK_c (k := kh_6_copyFrom_ip) ((rfl : k_y kh_6_copyFrom_ip = yX6_copyFrom).trans (rfl : yX6_copyFrom = k_y kq_6_copyFrom_ip)) ((rfl : k_cc kh_6_copyFrom_ip = cX6_copyFrom).trans (rfl : cX6_copyFrom = k_cc kq_6_copyFrom_ip)) ((rfl : k_ml kh_6_copyFrom_ip = 2).trans (rfl : 2 = k_ml kq_6_copyFrom_ip)) ((rfl : k_rt kh_6_copyFrom_ip = none).trans (rfl : none = k_rt kq_6_copyFrom_ip)) ((rfl : k_pa kh_6_copyFrom_ip = [.inr (.inl 51), .inr (.inl 6)]).trans (rfl : [.inr (.inl 51), .inr (.inl 6)] = k_pa kq_6_copyFrom_ip)) (lk_h (11, 132, 0, kh_6_copyFrom_ip) (List.mem_of_getElem? (i := 3) rfl))
theorem lkI_q {o ix : Nat} {q : (Nat × Nat) × Nat × List Nat} (h : lkI.find? (fun q => q.1 == (o, ix)) = some q) : ∀ j ∈ q.2.2, ck_mOK ck_tags o ix q.2.1 (ck_tabI j) := by
  have h1 := List.find?_some h
  have h2 := List.mem_of_find?_eq_some h
  have h3 : q.1 = (o, ix) := by simpa using h1
  have e1 : o = q.1.1 := by rw [h3]
  have e2 : ix = q.1.2 := by rw [h3]
  subst e1
  subst e2
  simp only [lkI, List.mem_cons, List.not_mem_nil, or_false] at h2
  rcases h2 with rfl | rfl | rfl
  · intro j hj
    rcases List.mem_cons.mp hj with rfl | hj
    · exact (wI_11_132_2 : ck_mOK ck_tags 11 132 0 kq_6_copyFrom_ip)
    cases hj
  · intro j hj
    rcases List.mem_cons.mp hj with rfl | hj
    · exact (lk_m.1 _ _ 0 [290] (isM (by decide +kernel)) 290 (by decide) : ck_mOK ck_tags 11 353 0 kc_290)
    cases hj
  · intro j hj
    rcases List.mem_cons.mp hj with rfl | hj
    · exact (lk_m.1 _ _ 0 [125, 126, 127, 128, 129] (isM (by decide +kernel)) 125 (by decide) : ck_mOK ck_tags 11 377 0 kc_125)
    cases hj
theorem lkI_m : ck_LKm ck_tags ck_LKI ck_tabI := lkX_m lkI_n lkI_q
def ck_tabJ (j : Nat) : ck_K := [kc_128, kc_290, kq_6_copyFrom_jp, kq_11_image_1].getD j kc_128
def lkJ : List ((Nat × Nat) × Nat × List Nat) := [((11, 132), 0, [2]), ((11, 353), 0, [1]), ((11, 377), 0, [0])]
def ck_LKJ (o ix : Nat) : Option ck_En := match ck_LK o ix with
  | some (.inr (.inr (.inr (.inl _)))) => (lkJ.find? (fun q => q.1 == (o, ix))).map (fun q => .inr (.inr (.inr (.inl q.2))))
  | e => e
def ck_frJ (t : Nat) : Bool := [52, 95, 96, 97, 106, 107, 108].contains t
def ck_protJ (t : Nat) : List (Nat × Nat) := if ck_frJ t = true then [] else ck_prot1 t
theorem lkJ_n : lkX_n ck_LKJ lkJ := by
  intro o ix e h
  unfold ck_LKJ at h
  split at h
  · right
    cases hf : lkJ.find? (fun q => q.1 == (o, ix)) with
    | none => rw [hf] at h; cases h
    | some q =>
      rw [hf] at h
      exact ⟨q, rfl, (Option.some.inj h).symm⟩
  · next hne =>
    left
    exact ⟨h, fun q hq => hne q (by rw [h, hq])⟩
theorem wJ_11_132_2 : ck_mOK ck_tags 11 132 0 kq_6_copyFrom_jp := mOK_c (k := kh_6_copyFrom_jp) ((rfl : k_y kh_6_copyFrom_jp = yX6_copyFrom).trans (rfl : yX6_copyFrom = k_y kq_6_copyFrom_jp)) ((rfl : k_cc kh_6_copyFrom_jp = cX6_copyFrom).trans (rfl : cX6_copyFrom = k_cc kq_6_copyFrom_jp)) ((rfl : k_ml kh_6_copyFrom_jp = 2).trans (rfl : 2 = k_ml kq_6_copyFrom_jp)) ((rfl : k_rt kh_6_copyFrom_jp = none).trans (rfl : none = k_rt kq_6_copyFrom_jp)) ((rfl : k_pa kh_6_copyFrom_jp = [.inr (.inl 52), .inr (.inl 6)]).trans (rfl : [.inr (.inl 52), .inr (.inl 6)] = k_pa kq_6_copyFrom_jp)) (lk_h (11, 132, 0, kh_6_copyFrom_jp) (List.mem_of_getElem? (i := 4) rfl))
theorem lkJ_q {o ix : Nat} {q : (Nat × Nat) × Nat × List Nat} (h : lkJ.find? (fun q => q.1 == (o, ix)) = some q) : ∀ j ∈ q.2.2, ck_mOK ck_tags o ix q.2.1 (ck_tabJ j) := by
  have h1 := List.find?_some h
  have h2 := List.mem_of_find?_eq_some h
  have h3 : q.1 = (o, ix) := by simpa using h1
  have e1 : o = q.1.1 := by rw [h3]
  have e2 : ix = q.1.2 := by rw [h3]
  subst e1
  subst e2
  simp only [lkJ, List.mem_cons, List.not_mem_nil, or_false] at h2
  rcases h2 with rfl | rfl | rfl
  · intro j hj
    rcases List.mem_cons.mp hj with rfl | hj
    · exact (wJ_11_132_2 : ck_mOK ck_tags 11 132 0 kq_6_copyFrom_jp)
    cases hj
  · intro j hj
    rcases List.mem_cons.mp hj with rfl | hj
    · exact (lk_m.1 _ _ 0 [290] (isM (by decide +kernel)) 290 (by decide) : ck_mOK ck_tags 11 353 0 kc_290)
    cases hj
  · intro j hj
    rcases List.mem_cons.mp hj with rfl | hj
    · exact (lk_m.1 _ _ 0 [125, 126, 127, 128, 129] (isM (by decide +kernel)) 128 (by decide) : ck_mOK ck_tags 11 377 0 kc_128)
    cases hj
theorem lkJ_m : ck_LKm ck_tags ck_LKJ ck_tabJ := lkX_m lkJ_n lkJ_q

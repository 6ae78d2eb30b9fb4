/-! THE LAW, 8: feed, end, man, book. -/
theorem lm_161 : lc_mV RL 19 kc_161 11 := ⟨(in_r13 _ (List.mem_of_getElem? (i := 22) rfl)), (in_r1 _ (List.mem_of_getElem? (i := 2) rfl)), (in_r13 _ (List.mem_of_getElem? (i := 19) rfl)), (in_r13 _ (List.mem_of_getElem? (i := 20) rfl)), (in_r13 _ (List.mem_of_getElem? (i := 21) rfl)), by decide +kernel, _, _, _, _, rfl, rfl, rfl, rfl, by decide +kernel⟩
theorem lm_238 : lc_mV RL 23 kc_238 12 := ⟨(in_r14 _ (List.mem_of_getElem? (i := 13) rfl)), (in_r1 _ (List.mem_of_getElem? (i := 5) rfl)), (in_r14 _ (List.mem_of_getElem? (i := 10) rfl)), (in_r14 _ (List.mem_of_getElem? (i := 11) rfl)), (in_r14 _ (List.mem_of_getElem? (i := 12) rfl)), by decide +kernel, _, _, _, _, rfl, rfl, rfl, rfl, by decide +kernel⟩
theorem lm_157 : lc_mV RL 24 kc_157 11 := ⟨(in_r14 _ (List.mem_of_getElem? (i := 23) rfl)), (in_r1 _ (List.mem_of_getElem? (i := 2) rfl)), (in_r14 _ (List.mem_of_getElem? (i := 20) rfl)), (in_r14 _ (List.mem_of_getElem? (i := 21) rfl)), (in_r14 _ (List.mem_of_getElem? (i := 22) rfl)), by decide +kernel, _, _, _, _, rfl, rfl, rfl, rfl, by decide +kernel⟩
theorem lm_233 : lc_mV RL 28 kc_233 12 := ⟨(in_r15 _ (List.mem_of_getElem? (i := 3) rfl)), (in_r1 _ (List.mem_of_getElem? (i := 5) rfl)), (in_r15 _ (List.mem_of_getElem? (i := 0) rfl)), (in_r15 _ (List.mem_of_getElem? (i := 1) rfl)), (in_r15 _ (List.mem_of_getElem? (i := 2) rfl)), by decide +kernel, _, _, _, _, rfl, rfl, rfl, rfl, by decide +kernel⟩
theorem lm_249 : lc_mV RL 47 kc_249 12 := ⟨(in_r30 _ (List.mem_of_getElem? (i := 15) rfl)), (in_r1 _ (List.mem_of_getElem? (i := 5) rfl)), (in_r30 _ (List.mem_of_getElem? (i := 12) rfl)), (in_r30 _ (List.mem_of_getElem? (i := 13) rfl)), (in_r30 _ (List.mem_of_getElem? (i := 14) rfl)), by decide +kernel, _, _, _, _, rfl, rfl, rfl, rfl, by decide +kernel⟩
theorem lm_313 : lc_mV RL 162 kc_313 11 := ⟨(in_r57 _ (List.mem_of_getElem? (i := 16) rfl)), (in_r1 _ (List.mem_of_getElem? (i := 2) rfl)), (in_r57 _ (List.mem_of_getElem? (i := 13) rfl)), (in_r57 _ (List.mem_of_getElem? (i := 14) rfl)), (in_r57 _ (List.mem_of_getElem? (i := 15) rfl)), by decide +kernel, _, _, _, _, rfl, rfl, rfl, rfl, by decide +kernel⟩
theorem lm_314 : lc_mV RL 162 kc_314 11 := ⟨(in_r57 _ (List.mem_of_getElem? (i := 16) rfl)), (in_r1 _ (List.mem_of_getElem? (i := 2) rfl)), (in_r57 _ (List.mem_of_getElem? (i := 13) rfl)), (in_r57 _ (List.mem_of_getElem? (i := 14) rfl)), (in_r57 _ (List.mem_of_getElem? (i := 15) rfl)), by decide +kernel, _, _, _, _, rfl, rfl, rfl, rfl, by decide +kernel⟩
theorem lm_315 : lc_mV RL 162 kc_315 11 := ⟨(in_r57 _ (List.mem_of_getElem? (i := 16) rfl)), (in_r1 _ (List.mem_of_getElem? (i := 2) rfl)), (in_r57 _ (List.mem_of_getElem? (i := 13) rfl)), (in_r57 _ (List.mem_of_getElem? (i := 14) rfl)), (in_r57 _ (List.mem_of_getElem? (i := 15) rfl)), by decide +kernel, _, _, _, _, rfl, rfl, rfl, rfl, by decide +kernel⟩
theorem lm_317 : lc_mV RL 165 kc_317 12 := ⟨(in_r60 _ (List.mem_of_getElem? (i := 4) rfl)), (in_r1 _ (List.mem_of_getElem? (i := 5) rfl)), (in_r60 _ (List.mem_of_getElem? (i := 1) rfl)), (in_r60 _ (List.mem_of_getElem? (i := 2) rfl)), (in_r60 _ (List.mem_of_getElem? (i := 3) rfl)), by decide +kernel, _, _, _, _, rfl, rfl, rfl, rfl, by decide +kernel⟩
theorem lK_161 {l : Launch} {D : va_G} {cys : Nat → ClassId} {ty : Nat → Option Nat} (hU : ck_uq ty ck_pvs0) (hun : ck_un ty) : lw_K l D cys ty kc_161 19 11 [cF, cF, cF, cF, cF] := ⟨lm_161, ch_all hU hun 161 (by decide), rfl, by decide, by decide⟩
theorem lK_238 {l : Launch} {D : va_G} {cys : Nat → ClassId} {ty : Nat → Option Nat} (hU : ck_uq ty ck_pvs0) (hun : ck_un ty) : lw_K l D cys ty kc_238 23 12 [cF, cF, cF, cF, cF] := ⟨lm_238, ch_all hU hun 238 (by decide), rfl, by decide, by decide⟩
theorem lK_249 {l : Launch} {D : va_G} {cys : Nat → ClassId} {ty : Nat → Option Nat} (hU : ck_uq ty ck_pvs0) (hun : ck_un ty) : lw_K l D cys ty kc_249 47 12 [cF, cF] := ⟨lm_249, ch_all hU hun 249 (by decide), rfl, by decide, by decide⟩
theorem lK_313 {l : Launch} {D : va_G} {cys : Nat → ClassId} {ty : Nat → Option Nat} (hU : ck_uq ty ck_pvs0) (hun : ck_un ty) : lw_K l D cys ty kc_313 162 11 [.inl (-2147483648, -1, [])] := ⟨lm_313, ch_all hU hun 313 (by decide), rfl, by decide, by decide⟩
theorem lK_314 {l : Launch} {D : va_G} {cys : Nat → ClassId} {ty : Nat → Option Nat} (hU : ck_uq ty ck_pvs0) (hun : ck_un ty) : lw_K l D cys ty kc_314 162 11 [.inl (0, 1, [])] := ⟨lm_314, ch_all hU hun 314 (by decide), rfl, by decide, by decide⟩
theorem lK_315 {l : Launch} {D : va_G} {cys : Nat → ClassId} {ty : Nat → Option Nat} (hU : ck_uq ty ck_pvs0) (hun : ck_un ty) : lw_K l D cys ty kc_315 162 11 [.inl (2, 2147483647, [])] := ⟨lm_315, ch_all hU hun 315 (by decide), rfl, by decide, by decide⟩
theorem lK_317 {l : Launch} {D : va_G} {cys : Nat → ClassId} {ty : Nat → Option Nat} (hU : ck_uq ty ck_pvs0) (hun : ck_un ty) : lw_K l D cys ty kc_317 165 12 [cF] := ⟨lm_317, ch_all hU hun 317 (by decide), rfl, by decide, by decide⟩
theorem ls_161 : ck_lawS kc_161 = true := by decide +kernel
theorem ls_238 : ck_lawS kc_238 = true := by decide +kernel
theorem ls_317 : ck_lawS kc_317 = true := by decide +kernel
theorem lk_249 : ck_lawK kc_249 = true := by decide +kernel
theorem lk_313 : ck_lawK kc_313 = true := by decide +kernel
theorem lk_315 : ck_lawK kc_315 = true := by decide +kernel
theorem lz_314 : ck_lawZ kc_314 0 11 = true := by decide +kernel
theorem pM_P : ck_wkB pPM pP = true := by decide +kernel
section LD
variable {ty : Nat → Option Nat} {f g : Nat → Int32}
theorem fd_A {cs : ck_Case} (hcs : cs ∈ k_cs kc_161) (hp : ck_pvo ty (ck_XE f) cs.2.2 g) : g 11 = f 11 ∧ (((g 0).toInt = (f 0).toInt ∧ 921 ≤ (g 0).toInt) ∨ ((g 0).toInt = (f 0).toInt + 20 ∧ (g 0).toInt ≤ 940)) := by
  rcases List.mem_cons.mp hcs with h | h
  · have h : cs = (some (.inl (-1, -1, [])), [], (pU.set 0 (.inl (921, 940, [(2000, 0, 0)])))) := h
    subst h
    have h1 := hr_pv hp 0 (lo := 921) (hi := 940) (ds := [(2000, 0, 0)]) rfl
    have h2 := hr_pd hp 0 0 (lo := 921) (hi := 940) (a := 0) (b := 0) (ds := [(2000, 0, 0)]) rfl (List.mem_singleton.mpr rfl)
    exact ⟨hr_same1 hp (by decide +kernel), Or.inl ⟨by omega, h1.1⟩⟩
  · have h : cs = (some (.inl (20, 940, [])), [], (pU.set 0 (.inl (20, 940, [(2000, 20, 20)])))) := List.mem_singleton.mp h
    subst h
    have h1 := hr_pv hp 0 (lo := 20) (hi := 940) (ds := [(2000, 20, 20)]) rfl
    have h2 := hr_pd hp 0 0 (lo := 20) (hi := 940) (a := 20) (b := 20) (ds := [(2000, 20, 20)]) rfl (List.mem_singleton.mpr rfl)
    exact ⟨hr_same1 hp (by decide +kernel), Or.inr ⟨by omega, h1.2⟩⟩
theorem fd_B {cs : ck_Case} (hcs : cs ∈ k_cs kc_238) (hp : ck_pvo ty (ck_XE f) cs.2.2 g) : g 0 = f 0 ∧ (((g 11).toInt = (f 11).toInt ∧ 921 ≤ (g 11).toInt) ∨ ((g 11).toInt = (f 11).toInt + 20 ∧ (g 11).toInt ≤ 940)) := by
  rcases List.mem_cons.mp hcs with h | h
  · have h : cs = (some (.inl (-1, -1, [])), [], (pUM.set 11 (.inl (921, 940, [(2022, 0, 0)])))) := h
    subst h
    have h1 := hr_pv hp 11 (lo := 921) (hi := 940) (ds := [(2022, 0, 0)]) rfl
    have h2 := hr_pd hp 11 11 (lo := 921) (hi := 940) (a := 0) (b := 0) (ds := [(2022, 0, 0)]) rfl (List.mem_singleton.mpr rfl)
    exact ⟨hr_same1 hp (by decide +kernel), Or.inl ⟨by omega, h1.1⟩⟩
  · have h : cs = (some (.inl (20, 940, [])), [], (pUM.set 11 (.inl (20, 940, [(2022, 20, 20)])))) := List.mem_singleton.mp h
    subst h
    have h1 := hr_pv hp 11 (lo := 20) (hi := 940) (ds := [(2022, 20, 20)]) rfl
    have h2 := hr_pd hp 11 11 (lo := 20) (hi := 940) (a := 20) (b := 20) (ds := [(2022, 20, 20)]) rfl (List.mem_singleton.mpr rfl)
    exact ⟨hr_same1 hp (by decide +kernel), Or.inr ⟨by omega, h1.2⟩⟩
def bk_z (q : ck_Case) : Bool := match q.2.1 with
  | [(1, lo, hi)] => (decide (0 ≤ lo) && decide (hi ≤ 1) && ck_z1 q.2.2 11 && ck_same1 q.2.2 0) || (decide (hi ≤ -1) || decide (2 ≤ lo)) && ck_same1 q.2.2 11 && ck_same1 q.2.2 0
  | _ => false
theorem bk_all : (k_cs kc_317).all bk_z = true := by decide +kernel
theorem bk_B {cs : ck_Case} {a : Nat} {x : Int32} {r : Option Value} (hcs : cs ∈ k_cs kc_317) (hco : ck_caseOK ty cs [.ref a, .int x] f g r) : g 0 = f 0 ∧ ((0 ≤ x.toInt ∧ x.toInt ≤ 1 ∧ g 11 = 0) ∨ ((x.toInt < 0 ∨ 2 ≤ x.toInt) ∧ g 11 = f 11)) := by
  have h := List.all_eq_true.mp bk_all cs hcs
  obtain ⟨av, rg, post⟩ := cs
  unfold bk_z at h
  dsimp only at h
  split at h
  · next lo hi =>
    obtain ⟨y, e, g1, g2⟩ := hco.2.1 (1, lo, hi) (List.mem_singleton.mpr rfl)
    cases e
    dsimp only at g1 g2
    simp only [Bool.or_eq_true, Bool.and_eq_true, decide_eq_true_eq] at h
    rcases h with ⟨⟨⟨h1, h2⟩, h3⟩, h4⟩ | ⟨⟨h1, h3⟩, h4⟩
    · exact ⟨hr_same1 hco.2.2 h4, Or.inl ⟨by omega, by omega, ck_z1_ok hco.2.2 h3⟩⟩
    · exact ⟨hr_same1 hco.2.2 h4, Or.inr ⟨by omega, hr_same1 hco.2.2 h3⟩⟩
  · cases h
theorem li_upd {j : Nat} {x : Int32} (hP : pPM[j]? = some (.inl (0, 940, []))) (hd : pPM.all (fun av => match av with
    | .inl r => r.2.2.all (fun d => decide (d.1 / 2 - 1000 ≠ j))
    | _ => false) = true) (h0 : 0 ≤ x.toInt) (h1 : x.toInt ≤ 940) (h : ck_pvo ty (ck_XE f) pPM f) : ck_pvo ty (ck_XE (upd f j x)) pPM (upd f j x) := by
  intro i av hi
  have hall := List.all_eq_true.mp hd av (List.mem_of_getElem? hi)
  by_cases e : i = j
  · subst e
    rw [hP] at hi
    cases hi
    rw [pk_us]
    exact ⟨x, rfl, h0, h1, fun d hd => by cases hd⟩
  · rw [pk_un e]
    match av, h i av hi, hall with
    | .inl r, ⟨y, hy, g1, g2, g3⟩, hall =>
      refine ⟨y, hy, g1, g2, fun d hd => ?_⟩
      have h2 := of_decide_eq_true (List.all_eq_true.mp hall d hd)
      have h3 := g3 d hd
      unfold ck_XE at h3 ⊢
      rw [pk_un h2]
      exact h3
end LD
section LX
variable {p : Program} {l : Launch} {e : Env} {s : State} {m : MethodId} {below : List Frame} {meth : Method} {c : Code} {H : Heap} {locs : List Loc} {cells slots : Nat} {Q : State → Prop} {ls : Array Slot}
variable {b L : Nat} {xs : Nat → Int32} {D : va_G} {cys : Nat → ClassId} {ty : Nat → Option Nat} {ax am qo n : Nat} {pvv : Nat → Int32}
theorem lw_feed (C : lw_C p l s m c b L xs D cys ty ax am qo) (hn : n + 6 ≤ L) (hcs : cells ≤ 601024 ∧ slots ≤ 7293034) (hl : lv_has ls 7 (lw_lv b ax am qo n)) (hI : lw_I s D cys ty qo pvv H locs) (he : pvv 0 = pvv 11) (G : lw_G p l e s m below meth c b D cys ty ax am qo n cells slots Q) : W p l e room_1 s m #[Value.ref b] below meth c H locs cells slots Q (F0 m 220 ls []) := by
  have C' := C
  obtain ⟨F, -, -, -, ⟨hU, hun⟩, tx, tm, hqo, hA, -⟩ := C
  have hx := F.1
  have hb := F.2.1
  refine lv_aload_n hx hb (show decode code 220 = .ok (.aload_n 1, 1) by decide +kernel) rfl (lv_at hl 1 rfl) ?_
  refine lw_arg C' hl rfl rfl hI.2.2.2 hn 1 1 (by decide) rfl (show dc_arg 221 1 from ⟨by decide +kernel, by decide +kernel, by decide +kernel, by decide +kernel, by decide +kernel⟩) ?_
  refine lw_arg C' hl rfl rfl hI.2.2.2 hn 2 2 (by decide) rfl (show dc_arg 227 2 from ⟨by decide +kernel, by decide +kernel, by decide +kernel, by decide +kernel, by decide +kernel⟩) ?_
  refine lw_arg C' hl rfl rfl hI.2.2.2 hn 3 3 (by decide) rfl (show dc_arg 233 3 from ⟨by decide +kernel, by decide +kernel, by decide +kernel, by decide +kernel, by decide +kernel⟩) ?_
  refine lw_arg C' hl rfl rfl hI.2.2.2 hn 4 4 (by decide) rfl (show dc_arg 239 4 from ⟨by decide +kernel, by decide +kernel, by decide +kernel, by decide +kernel, by decide +kernel⟩) ?_
  refine lw_arg C' hl rfl rfl hI.2.2.2 hn 5 5 (by decide) rfl (show dc_arg 245 5 from ⟨by decide +kernel, by decide +kernel, by decide +kernel, by decide +kernel, by decide +kernel⟩) ?_
  obtain ⟨i1, i2, i3, i4⟩ := hI
  refine lc_afterR (lc_runV (kc := kc_161) (b := ax) (As := [.int (xs (n + 1)), .int (xs (n + 2)), .int (xs (n + 3)), .int (xs (n + 4)), .int (xs (n + 5))]) F hl lm_161 (hs_11_feed hU hun i1 tx) ⟨⟨ax, rfl, tx⟩, hr_aF, hr_aF, hr_aF, hr_aF, hr_aF, trivial⟩ i2 rfl ⟨by decide, by decide⟩ hcs (Nat.zero_le _) (show decode code 251 = .ok (.invokevirtual 19, 3) by decide +kernel)) i4 hA (fun r g E' H1 locs1 hP hW hS hkp => ?_)
  obtain ⟨rfl, j1, e11, z, rfl, hz⟩ := hP
  have o1 : lo_P D cys qo H1 := lo_kept i3 (hkp.2 qo (lo_lt i3) hqo)
  refine lv_aload_n hx hb (show decode code 254 = .ok (.aload_n 2, 1) by decide +kernel) rfl (lv_at hl 2 rfl) ?_
  refine lw_arg C' hl rfl rfl hS hn 1 1 (by decide) rfl (show dc_arg 255 1 from ⟨by decide +kernel, by decide +kernel, by decide +kernel, by decide +kernel, by decide +kernel⟩) ?_
  refine lw_arg C' hl rfl rfl hS hn 2 2 (by decide) rfl (show dc_arg 261 2 from ⟨by decide +kernel, by decide +kernel, by decide +kernel, by decide +kernel, by decide +kernel⟩) ?_
  refine lw_arg C' hl rfl rfl hS hn 3 3 (by decide) rfl (show dc_arg 267 3 from ⟨by decide +kernel, by decide +kernel, by decide +kernel, by decide +kernel, by decide +kernel⟩) ?_
  refine lw_arg C' hl rfl rfl hS hn 4 4 (by decide) rfl (show dc_arg 273 4 from ⟨by decide +kernel, by decide +kernel, by decide +kernel, by decide +kernel, by decide +kernel⟩) ?_
  refine lw_arg C' hl rfl rfl hS hn 5 5 (by decide) rfl (show dc_arg 279 5 from ⟨by decide +kernel, by decide +kernel, by decide +kernel, by decide +kernel, by decide +kernel⟩) ?_
  refine lc_afterR (lc_runV (kc := kc_238) (b := am) (As := [.int (xs (n + 1)), .int (xs (n + 2)), .int (xs (n + 3)), .int (xs (n + 4)), .int (xs (n + 5))]) (rest := [.int z]) F hl lm_238 (hs_12_feed hU hun j1 tm) ⟨⟨am, rfl, tm⟩, hr_aF, hr_aF, hr_aF, hr_aF, hr_aF, trivial⟩ hW rfl ⟨by decide, by decide⟩ hcs (Nat.le_of_ble_eq_true rfl) (show decode code 285 = .ok (.invokevirtual 23, 3) by decide +kernel)) hS hA (fun r g2 E' H2 locs2 hP hW2 hS2 hkp2 => ?_)
  obtain ⟨rfl, j2, e0, z2, rfl, hy⟩ := hP
  have o2 : lo_P D cys qo H2 := lo_kept o1 (hkp2.2 qo (lo_lt o1) hqo)
  rw [e11, ← he] at hy
  have fin : z = z2 ∧ g2 0 = g2 11 := by
    rcases hz with ⟨a1, a2, a3⟩ | ⟨a1, a2, a3⟩ <;> rcases hy with ⟨b1, b2, b3⟩ | ⟨b1, b2, b3⟩
    · exact ⟨Int32.toInt_inj.mp (by omega), by rw [e0, a3, b3]⟩
    · omega
    · omega
    · exact ⟨Int32.toInt_inj.mp (by omega), Int32.toInt_inj.mp (by rw [e0]; omega)⟩
  refine lv_icmp_eq (tgt := 1212) hx hb (show decode code 288 = .ok (.if_icmp .eq 924, 3) by decide +kernel) (by decide) (fun _ => ?_) (fun h => absurd fin.1 h)
  exact G g2 H2 locs2 ls ⟨j2, hW2, o2, hS2⟩ fin.2 hl
theorem lw_end (C : lw_C p l s m c b L xs D cys ty ax am qo) (hn : n + 6 ≤ L) (hcs : cells ≤ 601024 ∧ slots ≤ 7293034) (hl : lv_has ls 7 (lw_lv b ax am qo n)) (hI : lw_I s D cys ty qo pvv H locs) (he : pvv 0 = pvv 11) (G : lw_G p l e s m below meth c b D cys ty ax am qo n cells slots Q) : W p l e room_1 s m #[Value.ref b] below meth c H locs cells slots Q (F0 m 293 ls []) := by
  have C' := C
  obtain ⟨F, -, -, -, ⟨hU, hun⟩, tx, tm, hqo, hA, -⟩ := C
  have hx := F.1
  have hb := F.2.1
  refine lv_aload_n hx hb (show decode code 293 = .ok (.aload_n 1, 1) by decide +kernel) rfl (lv_at hl 1 rfl) ?_
  refine lw_arg C' hl rfl rfl hI.2.2.2 hn 1 1 (by decide) rfl (show dc_arg 294 1 from ⟨by decide +kernel, by decide +kernel, by decide +kernel, by decide +kernel, by decide +kernel⟩) ?_
  obtain ⟨i1, i2, i3, i4⟩ := hI
  have r0 := hr_pv i1 0 (lo := 0) (hi := 940) (ds := []) rfl
  refine lc_afterR (lc_runV (kc := kc_157) (b := ax) (As := [.int (xs (n + 1))]) F hl lm_157 (hs_11_end (x1 := xs (n + 1)) hU tx) ⟨⟨ax, rfl, tx⟩, hr_aF, trivial⟩ i2 rfl ⟨by decide, by decide⟩ hcs (Nat.zero_le _) (show decode code 300 = .ok (.invokevirtual 24, 3) by decide +kernel)) i4 hA (fun r g E' H1 locs1 hP hW hS hkp => ?_)
  obtain ⟨rfl, z, rfl, hz⟩ := hP
  have o1 : lo_P D cys qo H1 := lo_kept i3 (hkp.2 qo (lo_lt i3) hqo)
  have j1 : ck_pvo ty (ck_XE g) pPM g := by
    rcases hz with ⟨z1, z2, -, rfl⟩ | ⟨-, -, rfl⟩
    · exact li_upd rfl (by decide +kernel) z1 (by omega) i1
    · exact i1
  have e11 : g 11 = pvv 11 := by
    rcases hz with ⟨-, -, -, rfl⟩ | ⟨-, -, rfl⟩
    · exact pk_un (by decide)
    · rfl
  refine lv_pop hx hb (show decode code 303 = .ok (.pop, 1) by decide +kernel) rfl ?_
  refine lv_aload_n hx hb (show decode code 304 = .ok (.aload_n 2, 1) by decide +kernel) rfl (lv_at hl 2 rfl) ?_
  refine lw_arg C' hl rfl rfl hS hn 1 1 (by decide) rfl (show dc_arg 305 1 from ⟨by decide +kernel, by decide +kernel, by decide +kernel, by decide +kernel, by decide +kernel⟩) ?_
  refine lc_afterR (lc_runV (kc := kc_233) (b := am) (As := [.int (xs (n + 1))]) F hl lm_233 (hs_12_end (x1 := xs (n + 1)) hU tm) ⟨⟨am, rfl, tm⟩, hr_aF, trivial⟩ hW rfl ⟨by decide, by decide⟩ hcs (Nat.zero_le _) (show decode code 311 = .ok (.invokevirtual 28, 3) by decide +kernel)) hS hA (fun r g2 E' H2 locs2 hP hW2 hS2 hkp2 => ?_)
  obtain ⟨rfl, z2, rfl, hy⟩ := hP
  have o2 : lo_P D cys qo H2 := lo_kept o1 (hkp2.2 qo (lo_lt o1) hqo)
  rw [e11, ← he] at hy
  have fin : z = z2 ∧ g2 0 = g2 11 ∧ ck_pvo ty (ck_XE g2) pPM g2 := by
    rcases hz with ⟨a1, a2, a3, rfl⟩ | ⟨a1, a2, rfl⟩ <;> rcases hy with ⟨b1, b2, b3, rfl⟩ | ⟨b1, b2, rfl⟩
    · refine ⟨Int32.toInt_inj.mp (by omega), ?_, li_upd rfl (by decide +kernel) b1 (by omega) j1⟩
      rw [pk_us, pk_un (by decide), pk_us]
    · exact absurd ⟨a1, a2⟩ b1
    · exact absurd ⟨b1, b2⟩ a1
    · exact ⟨Int32.toInt_inj.mp (by omega), he, i1⟩
  refine lv_pop hx hb (show decode code 314 = .ok (.pop, 1) by decide +kernel) rfl ?_
  refine lv_goto (tgt := 1212) hx hb (show decode code 315 = .ok (.goto 897, 3) by decide +kernel) (by decide) ?_
  exact G g2 H2 locs2 ls ⟨fin.2.2, hW2, o2, hS2⟩ fin.2.1 hl
theorem lw_book (C : lw_C p l s m c b L xs D cys ty ax am qo) (hn : n + 6 ≤ L) (hcs : cells ≤ 601024 ∧ slots ≤ 7293034) (hl : lv_has ls 7 (lw_lv b ax am qo n)) (hI : lw_I s D cys ty qo pvv H locs) (he : pvv 0 = pvv 11) (G : lw_G p l e s m below meth c b D cys ty ax am qo n cells slots Q) : W p l e room_1 s m #[Value.ref b] below meth c H locs cells slots Q (F0 m 1049 ls []) := by
  have C' := C
  obtain ⟨⟨hx, hb, -⟩, -, -, -, ⟨hU, hun⟩, tx, tm, -⟩ := C
  have tail : ∀ (g : Nat → Int32) (H : Heap) (locs : List Loc) (z : Int32), g 11 = pvv 11 → ((0 ≤ (xs (n + 1)).toInt ∧ (xs (n + 1)).toInt ≤ 1 ∧ g 0 = 0) ∨ (((xs (n + 1)).toInt < 0 ∨ 2 ≤ (xs (n + 1)).toInt) ∧ g 0 = pvv 0)) → lw_I s D cys ty qo g H locs → W p l e room_1 s m #[Value.ref b] below meth c H locs cells slots Q (F0 m 1059 ls [.int z]) := by
    intro g H locs z e11 e0 hI
    obtain ⟨mB, jB, pB, rB⟩ := lK_317 (l := l) (D := D) (cys := cys) hU hun
    refine lv_pop hx hb (show decode code 1059 = .ok (.pop, 1) by decide +kernel) rfl ?_
    refine lv_aload_n hx hb (show decode code 1060 = .ok (.aload_n 2, 1) by decide +kernel) rfl (lv_at hl 2 rfl) ?_
    refine lw_arg C' hl rfl rfl hI.2.2.2 hn 1 1 (by decide) rfl (show dc_arg 1061 1 from ⟨by decide +kernel, by decide +kernel, by decide +kernel, by decide +kernel, by decide +kernel⟩) ?_
    refine lw_any (b' := am) (As := [.int (xs (n + 1))]) C' hl mB ls_317 jB (by rw [pB]; exact ⟨⟨am, rfl, tm⟩, hr_aF, trivial⟩) hI rfl rB hcs (Nat.zero_le _) (show decode code 1067 = .ok (.invokevirtual 165, 3) by decide +kernel) (fun cs2 hcs2 z2 g2 H locs hco2 hI => ?_)
    have f2 := bk_B hcs2 hco2
    refine lv_pop hx hb (show decode code 1070 = .ok (.pop, 1) by decide +kernel) rfl ?_
    refine lv_goto (tgt := 1212) hx hb (show decode code 1071 = .ok (.goto 141, 3) by decide +kernel) (by decide) ?_
    refine G g2 H locs ls hI ?_ hl
    rw [f2.1]
    rcases e0 with ⟨u1, u2, u3⟩ | ⟨u1, u3⟩ <;> rcases f2.2 with ⟨v1, v2, v3⟩ | ⟨v1, v3⟩
    · rw [u3, v3]
    · omega
    · omega
    · rw [u3, v3, e11]; exact he
  refine lv_aload_n hx hb (show decode code 1049 = .ok (.aload_n 1, 1) by decide +kernel) rfl (lv_at hl 1 rfl) ?_
  refine lw_arg C' hl rfl rfl hI.2.2.2 hn 1 1 (by decide) rfl (show dc_arg 1050 1 from ⟨by decide +kernel, by decide +kernel, by decide +kernel, by decide +kernel, by decide +kernel⟩) ?_
  have hlo := ck_lo (xs (n + 1))
  have hhi := ck_hi (xs (n + 1))
  have dc : decode code 1056 = .ok (.invokevirtual 162, 3) := by decide +kernel
  rcases (show (xs (n + 1)).toInt < 0 ∨ (0 ≤ (xs (n + 1)).toInt ∧ (xs (n + 1)).toInt ≤ 1) ∨ 2 ≤ (xs (n + 1)).toInt by omega) with hc | hc | hc
  · obtain ⟨mA, jA, pA, rA⟩ := lK_313 (l := l) (D := D) (cys := cys) hU hun
    refine lw_keep (b' := ax) (As := [.int (xs (n + 1))]) C' hl mA lk_313 jA (by rw [pA]; exact ⟨⟨ax, rfl, tx⟩, hr_aI hlo (by omega), trivial⟩) hI rfl rA hcs (Nat.zero_le _) dc (fun z g H locs e0 e11 hI => ?_)
    exact tail g H locs z e11 (Or.inr ⟨Or.inl hc, e0⟩) hI
  · obtain ⟨mA, jA, pA, rA⟩ := lK_314 (l := l) (D := D) (cys := cys) hU hun
    refine lw_zero (b' := ax) (As := [.int (xs (n + 1))]) C' hl mA lz_314 jA (by rw [pA]; exact ⟨⟨ax, rfl, tx⟩, hr_aI hc.1 hc.2, trivial⟩) hI rfl rA hcs (Nat.zero_le _) dc (fun z g H locs e0 e11 hI => ?_)
    exact tail g H locs z e11 (Or.inl ⟨hc.1, hc.2, e0⟩) hI
  · obtain ⟨mA, jA, pA, rA⟩ := lK_315 (l := l) (D := D) (cys := cys) hU hun
    refine lw_keep (b' := ax) (As := [.int (xs (n + 1))]) C' hl mA lk_315 jA (by rw [pA]; exact ⟨⟨ax, rfl, tx⟩, hr_aI hc hhi, trivial⟩) hI rfl rA hcs (Nat.zero_le _) dc (fun z g H locs e0 e11 hI => ?_)
    exact tail g H locs z e11 (Or.inr ⟨Or.inr hc, e0⟩) hI
theorem lm_good : GoodIn lw_tbl (va_wsS RL 42 yL_man (Jvm.Cond.codeWith yL_man cL_man 5 (some .int) [(0, 10, 13, 13)] :: mn_ws)) := fun w hw => by
  have key : ∀ w ∈ wsL_law0, w ∈ lw_tbl ∧ ((w.onTables && w.keeps) = true ∨ ∃ ty, w = .arrayClass ty) := fun w hw => ⟨tb_law w hw, ck_good w hw⟩
  rcases List.mem_append.mp hw with hw | hw
  · rcases List.mem_cons.mp hw with rfl | hw
    · exact key _ (in_r29 _ (List.mem_of_getElem? (i := 9) rfl))
    · rcases List.mem_cons.mp hw with rfl | hw
      · exact key _ (in_r29 _ (List.mem_of_getElem? (i := 10) rfl))
      · rcases List.mem_cons.mp hw with rfl | hw
        · exact ⟨(List.mem_of_getElem? (i := 105) (by decide +kernel)), Or.inl (by decide)⟩
        · cases hw
  · exact mn_good tb_mn (in_r29 _ (List.mem_of_getElem? (i := 12) rfl)) w hw
theorem lw_man (C : lw_C p l s m c b L xs D cys ty ax am qo) (hn : n + 6 ≤ L) (hcs : cells + 1 ≤ 601024 ∧ slots + 6 ≤ 7293034) (hl : lv_has ls 7 (lw_lv b ax am qo n)) (hI : lw_I s D cys ty qo pvv H locs) (he : pvv 0 = pvv 11) (G : lw_G p l e s m below meth c b D cys ty ax am qo n (cells + 1) (slots + 6) Q) : W p l e room_1 s m #[Value.ref b] below meth c H locs cells slots Q (F0 m 381 ls []) := by
  have C' := C
  obtain ⟨F, -, -, -, ⟨hU, hun⟩, tx, tm, hqo, hA, hAq, hst, hmT, hmS⟩ := C
  obtain ⟨hx, hb, hml, hts, hin, hown, hK, hN⟩ := F
  refine lv_aload_n hx hb (show decode code 381 = .ok (.aload_n 1, 1) by decide +kernel) rfl (lv_at hl 1 rfl) ?_
  refine lw_arg C' hl rfl rfl hI.2.2.2 hn 1 1 (by decide) rfl (show dc_arg 382 1 from ⟨by decide +kernel, by decide +kernel, by decide +kernel, by decide +kernel, by decide +kernel⟩) ?_
  refine lw_arg C' hl rfl rfl hI.2.2.2 hn 2 2 (by decide) rfl (show dc_arg 388 2 from ⟨by decide +kernel, by decide +kernel, by decide +kernel, by decide +kernel, by decide +kernel⟩) ?_
  refine lv_aload_n hx hb (show decode code 394 = .ok (.aload_n 3, 1) by decide +kernel) rfl (lv_at hl 3 rfl) ?_
  obtain ⟨i1, i2, i3, i4⟩ := hI
  have hF : ∀ q, lo_A ty qo q → lw_A s q := fun q h => by
    rcases h with h | h
    · exact hA q h
    · rw [h]; exact hAq
  have hS1 : mn_S (lo_A ty qo) s H := mn_S_narrow (mn_S_kept hmS i4.2.1) hF
  refine va_calli (vx_runSW (y := yL_man) (bytes := cL_man) (maxL := 5) (ret := some .int) (hh := [(0, 10, 13, 13)]) (n := 4) (own := RL) (index := 42) (As := [.ref ax, .int (xs (n + 1)), .int (xs (n + 2)), .ref qo]) (rest := []) ⟨hx, hb, hml, hown, hts⟩ (mn_law (x1 := xs (n + 1)) (x2 := xs (n + 2)) hU hun hst tx hqo (hr_wk i1 pM_P)) (vx_cwSW 4 hts lm_good rfl rfl rfl (by decide +kernel) ⟨Nat.le_of_ble_eq_true rfl, Nat.le_of_ble_eq_true rfl⟩) ⟨fun a U g mk h => ⟨h.1, (mn_blind a U g mk ⟨h.1, h.2.1⟩).2, h.2.2⟩, fun U hU0 hWm => ⟨rfl, ⟨⟨by rw [hU0]; exact i2, va_K.moved hWm.alike hK, ck_nest_warm hWm hN⟩, mn_T_warm hWm hmT, by rw [hU0]; exact mn_S_moved hWm.alike hS1⟩, by rw [hU0]; exact i3⟩⟩ rfl rfl hl.1 rfl (lv_room (Nat.zero_le _)) (show decode code 395 = .ok (.invokestatic 42, 3) by decide +kernel) hcs) i4 (fun q _ h => hF q h) hF (fun r u t H1 locs1 ht hv _ hB hz hk hS2 => ?_)
  have hB : ck_Wo D cys ty ck_tags ck_pvs0 (GE ty) pvv t.heap ∧ lo_P D cys qo t.heap := hB
  rw [ht] at hB
  have hI : lw_I s D cys ty qo pvv H1 locs1 := ⟨i1, hB.1, hB.2, hS2⟩
  refine lv_istore (lv' := (5, .int r) :: lw_lv b ax am qo n) hx hb (show decode code 398 = .ok (.istore 5, 2) by decide +kernel) hl (by decide) rfl (fun ls hl => ?_)
  have hl : lv_has ls 7 (lw_lv b ax am qo n) := lv_sub hl [1, 2, 3, 4, 5] rfl
  obtain ⟨mB, jB, pB, rB⟩ := lK_249 (l := l) (D := D) (cys := cys) hU hun
  refine lv_aload_n hx hb (show decode code 400 = .ok (.aload_n 2, 1) by decide +kernel) rfl (lv_at hl 2 rfl) ?_
  refine lw_arg C' hl rfl rfl hI.2.2.2 hn 1 1 (by decide) rfl (show dc_arg 401 1 from ⟨by decide +kernel, by decide +kernel, by decide +kernel, by decide +kernel, by decide +kernel⟩) ?_
  refine lw_arg C' hl rfl rfl hI.2.2.2 hn 2 2 (by decide) rfl (show dc_arg 407 2 from ⟨by decide +kernel, by decide +kernel, by decide +kernel, by decide +kernel, by decide +kernel⟩) ?_
  refine lw_keep (b' := am) (As := [.int (xs (n + 1)), .int (xs (n + 2))]) C' hl mB lk_249 jB (by rw [pB]; exact ⟨⟨am, rfl, tm⟩, hr_aF, hr_aF, trivial⟩) hI rfl rB hcs (Nat.zero_le _) (show decode code 413 = .ok (.invokevirtual 47, 3) by decide +kernel) (fun z g H locs e0 e11 hI => ?_)
  refine lv_istore (lv' := (6, .int z) :: lw_lv b ax am qo n) hx hb (show decode code 416 = .ok (.istore 6, 2) by decide +kernel) hl (by decide) rfl (fun ls hl => ?_)
  refine lv_goto (tgt := 1212) hx hb (show decode code 418 = .ok (.goto 794, 3) by decide +kernel) (by decide) ?_
  exact G g H locs ls hI (by rw [e0, e11]; exact he) (lv_sub hl [1, 2, 3, 4, 5] rfl)
end LX

/-! THE LAW, 8: feed, end, man, book. -/
theorem lm_177 : lc_mV RL 19 kc_177 11 := ⟨(in_r13 _ (List.mem_of_getElem? (i := 22) rfl)), (in_r1 _ (List.mem_of_getElem? (i := 2) rfl)), (in_r13 _ (List.mem_of_getElem? (i := 19) rfl)), (in_r13 _ (List.mem_of_getElem? (i := 20) rfl)), (in_r13 _ (List.mem_of_getElem? (i := 21) rfl)), by decide +kernel, _, _, _, _, rfl, rfl, rfl, rfl, by decide +kernel⟩
theorem lm_256 : lc_mV RL 23 kc_256 12 := ⟨(in_r14 _ (List.mem_of_getElem? (i := 13) rfl)), (in_r1 _ (List.mem_of_getElem? (i := 5) rfl)), (in_r14 _ (List.mem_of_getElem? (i := 10) rfl)), (in_r14 _ (List.mem_of_getElem? (i := 11) rfl)), (in_r14 _ (List.mem_of_getElem? (i := 12) rfl)), by decide +kernel, _, _, _, _, rfl, rfl, rfl, rfl, by decide +kernel⟩
theorem lm_173 : lc_mV RL 24 kc_173 11 := ⟨(in_r14 _ (List.mem_of_getElem? (i := 23) rfl)), (in_r1 _ (List.mem_of_getElem? (i := 2) rfl)), (in_r14 _ (List.mem_of_getElem? (i := 20) rfl)), (in_r14 _ (List.mem_of_getElem? (i := 21) rfl)), (in_r14 _ (List.mem_of_getElem? (i := 22) rfl)), by decide +kernel, _, _, _, _, rfl, rfl, rfl, rfl, by decide +kernel⟩
theorem lm_251 : lc_mV RL 28 kc_251 12 := ⟨(in_r15 _ (List.mem_of_getElem? (i := 3) rfl)), (in_r1 _ (List.mem_of_getElem? (i := 5) rfl)), (in_r15 _ (List.mem_of_getElem? (i := 0) rfl)), (in_r15 _ (List.mem_of_getElem? (i := 1) rfl)), (in_r15 _ (List.mem_of_getElem? (i := 2) rfl)), by decide +kernel, _, _, _, _, rfl, rfl, rfl, rfl, by decide +kernel⟩
theorem lm_267 : lc_mV RL 47 kc_267 12 := ⟨(in_r30 _ (List.mem_of_getElem? (i := 15) rfl)), (in_r1 _ (List.mem_of_getElem? (i := 5) rfl)), (in_r30 _ (List.mem_of_getElem? (i := 12) rfl)), (in_r30 _ (List.mem_of_getElem? (i := 13) rfl)), (in_r30 _ (List.mem_of_getElem? (i := 14) rfl)), by decide +kernel, _, _, _, _, rfl, rfl, rfl, rfl, by decide +kernel⟩
theorem lm_344 : lc_mV RL 162 kc_344 11 := ⟨(in_r57 _ (List.mem_of_getElem? (i := 16) rfl)), (in_r1 _ (List.mem_of_getElem? (i := 2) rfl)), (in_r57 _ (List.mem_of_getElem? (i := 13) rfl)), (in_r57 _ (List.mem_of_getElem? (i := 14) rfl)), (in_r57 _ (List.mem_of_getElem? (i := 15) rfl)), by decide +kernel, _, _, _, _, rfl, rfl, rfl, rfl, by decide +kernel⟩
theorem lm_345 : lc_mV RL 162 kc_345 11 := ⟨(in_r57 _ (List.mem_of_getElem? (i := 16) rfl)), (in_r1 _ (List.mem_of_getElem? (i := 2) rfl)), (in_r57 _ (List.mem_of_getElem? (i := 13) rfl)), (in_r57 _ (List.mem_of_getElem? (i := 14) rfl)), (in_r57 _ (List.mem_of_getElem? (i := 15) rfl)), by decide +kernel, _, _, _, _, rfl, rfl, rfl, rfl, by decide +kernel⟩
theorem lm_346 : lc_mV RL 162 kc_346 11 := ⟨(in_r57 _ (List.mem_of_getElem? (i := 16) rfl)), (in_r1 _ (List.mem_of_getElem? (i := 2) rfl)), (in_r57 _ (List.mem_of_getElem? (i := 13) rfl)), (in_r57 _ (List.mem_of_getElem? (i := 14) rfl)), (in_r57 _ (List.mem_of_getElem? (i := 15) rfl)), by decide +kernel, _, _, _, _, rfl, rfl, rfl, rfl, by decide +kernel⟩
theorem lm_348 : lc_mV RL 165 kc_348 12 := ⟨(in_r60 _ (List.mem_of_getElem? (i := 4) rfl)), (in_r1 _ (List.mem_of_getElem? (i := 5) rfl)), (in_r60 _ (List.mem_of_getElem? (i := 1) rfl)), (in_r60 _ (List.mem_of_getElem? (i := 2) rfl)), (in_r60 _ (List.mem_of_getElem? (i := 3) rfl)), by decide +kernel, _, _, _, _, rfl, rfl, rfl, rfl, by decide +kernel⟩
theorem lK_177 {l : Launch} {D : va_G} {cys : Nat → ClassId} {ty : Nat → Option Nat} (hU : ck_uq ty ck_pvs0) (hun : ck_un ty) : lw_K l D cys ty kc_177 19 11 [cF, cF, cF, cF, cF] := ⟨lm_177, ch_all hU hun 177 (by decide), rfl, by decide, by decide⟩
theorem lK_256 {l : Launch} {D : va_G} {cys : Nat → ClassId} {ty : Nat → Option Nat} (hU : ck_uq ty ck_pvs0) (hun : ck_un ty) : lw_K l D cys ty kc_256 23 12 [cF, cF, cF, cF, cF] := ⟨lm_256, ch_all hU hun 256 (by decide), rfl, by decide, by decide⟩
theorem lK_267 {l : Launch} {D : va_G} {cys : Nat → ClassId} {ty : Nat → Option Nat} (hU : ck_uq ty ck_pvs0) (hun : ck_un ty) : lw_K l D cys ty kc_267 47 12 [cF, cF] := ⟨lm_267, ch_all hU hun 267 (by decide), rfl, by decide, by decide⟩
theorem lK_344 {l : Launch} {D : va_G} {cys : Nat → ClassId} {ty : Nat → Option Nat} (hU : ck_uq ty ck_pvs0) (hun : ck_un ty) : lw_K l D cys ty kc_344 162 11 [.inl (-2147483648, -1, [])] := ⟨lm_344, ch_all hU hun 344 (by decide), rfl, by decide, by decide⟩
theorem lK_345 {l : Launch} {D : va_G} {cys : Nat → ClassId} {ty : Nat → Option Nat} (hU : ck_uq ty ck_pvs0) (hun : ck_un ty) : lw_K l D cys ty kc_345 162 11 [.inl (0, 1, [])] := ⟨lm_345, ch_all hU hun 345 (by decide), rfl, by decide, by decide⟩
theorem lK_346 {l : Launch} {D : va_G} {cys : Nat → ClassId} {ty : Nat → Option Nat} (hU : ck_uq ty ck_pvs0) (hun : ck_un ty) : lw_K l D cys ty kc_346 162 11 [.inl (2, 2147483647, [])] := ⟨lm_346, ch_all hU hun 346 (by decide), rfl, by decide, by decide⟩
theorem lK_348 {l : Launch} {D : va_G} {cys : Nat → ClassId} {ty : Nat → Option Nat} (hU : ck_uq ty ck_pvs0) (hun : ck_un ty) : lw_K l D cys ty kc_348 165 12 [cF] := ⟨lm_348, ch_all hU hun 348 (by decide), rfl, by decide, by decide⟩
theorem ls_177 : ck_lawS kc_177 = true := by decide +kernel
theorem ls_256 : ck_lawS kc_256 = true := by decide +kernel
theorem ls_348 : ck_lawS kc_348 = true := by decide +kernel
theorem lk_267 : ck_lawK kc_267 = true := by decide +kernel
theorem lk_344 : ck_lawK kc_344 = true := by decide +kernel
theorem lk_346 : ck_lawK kc_346 = true := by decide +kernel
theorem lz_345 : ck_lawZ kc_345 0 = true := by decide +kernel
theorem pM_P : ck_wkB pPM pP = true := by decide +kernel
section LD
variable {ty : Nat → Option Nat} {f g : Nat → Int32}
theorem lw_rest {post : List ck_AV} {k : Nat} (h : lw_js.all (fun i => decide (i = k) || ck_same1 post i) = true) (hp : ck_pvo ty (ck_XE f) post g) : ∀ i ∈ lw_js, i ≠ k → g i = f i := fun i hi hne => by
  have h2 := List.all_eq_true.mp h i hi
  simp only [Bool.or_eq_true, decide_eq_true_eq] at h2
  exact hr_same1 hp (h2.resolve_left hne)
theorem fd_A {cs : ck_Case} (hcs : cs ∈ k_cs kc_177) (hp : ck_pvo ty (ck_XE f) cs.2.2 g) : (∀ i ∈ lw_js, i ≠ 0 → g i = f i) ∧ (((g 0).toInt = (f 0).toInt ∧ 921 ≤ (g 0).toInt) ∨ ((g 0).toInt = (f 0).toInt + 20 ∧ (g 0).toInt ≤ 940)) := by
  rcases List.mem_cons.mp hcs with h | h
  · have h : cs = (some (.inl (-1, -1, [])), [], (pU.set 0 (.inl (921, 940, [(2000, 0, 0)])))) := h
    subst h
    have h1 := hr_pv hp 0 (lo := 921) (hi := 940) (ds := [(2000, 0, 0)]) rfl
    have h2 := hr_pd hp 0 0 (lo := 921) (hi := 940) (a := 0) (b := 0) (ds := [(2000, 0, 0)]) rfl (List.mem_singleton.mpr rfl)
    exact ⟨lw_rest (by decide +kernel) hp, Or.inl ⟨by omega, h1.1⟩⟩
  · have h : cs = (some (.inl (20, 940, [])), [], (pU.set 0 (.inl (20, 940, [(2000, 20, 20)])))) := List.mem_singleton.mp h
    subst h
    have h1 := hr_pv hp 0 (lo := 20) (hi := 940) (ds := [(2000, 20, 20)]) rfl
    have h2 := hr_pd hp 0 0 (lo := 20) (hi := 940) (a := 20) (b := 20) (ds := [(2000, 20, 20)]) rfl (List.mem_singleton.mpr rfl)
    exact ⟨lw_rest (by decide +kernel) hp, Or.inr ⟨by omega, h1.2⟩⟩
theorem fd_B {cs : ck_Case} (hcs : cs ∈ k_cs kc_256) (hp : ck_pvo ty (ck_XE f) cs.2.2 g) : (∀ i ∈ lw_js, i ≠ 11 → g i = f i) ∧ (((g 11).toInt = (f 11).toInt ∧ 921 ≤ (g 11).toInt) ∨ ((g 11).toInt = (f 11).toInt + 20 ∧ (g 11).toInt ≤ 940)) := by
  rcases List.mem_cons.mp hcs with h | h
  · have h : cs = (some (.inl (-1, -1, [])), [], (pUM.set 11 (.inl (921, 940, [(2022, 0, 0)])))) := h
    subst h
    have h1 := hr_pv hp 11 (lo := 921) (hi := 940) (ds := [(2022, 0, 0)]) rfl
    have h2 := hr_pd hp 11 11 (lo := 921) (hi := 940) (a := 0) (b := 0) (ds := [(2022, 0, 0)]) rfl (List.mem_singleton.mpr rfl)
    exact ⟨lw_rest (by decide +kernel) hp, Or.inl ⟨by omega, h1.1⟩⟩
  · have h : cs = (some (.inl (20, 940, [])), [], (pUM.set 11 (.inl (20, 940, [(2022, 20, 20)])))) := List.mem_singleton.mp h
    subst h
    have h1 := hr_pv hp 11 (lo := 20) (hi := 940) (ds := [(2022, 20, 20)]) rfl
    have h2 := hr_pd hp 11 11 (lo := 20) (hi := 940) (a := 20) (b := 20) (ds := [(2022, 20, 20)]) rfl (List.mem_singleton.mpr rfl)
    exact ⟨lw_rest (by decide +kernel) hp, Or.inr ⟨by omega, h1.2⟩⟩
def bk_z (q : ck_Case) : Bool := match q.2.1 with
  | [(1, lo, hi)] => (decide (0 ≤ lo) && decide (hi ≤ 1) && ck_z1 q.2.2 11 && lw_js.all (fun i => decide (i = 11) || ck_same1 q.2.2 i)) || (decide (hi ≤ -1) || decide (2 ≤ lo)) && ck_same1 q.2.2 11 && lw_js.all (fun i => decide (i = 11) || ck_same1 q.2.2 i)
  | _ => false
theorem bk_all : (k_cs kc_348).all bk_z = true := by decide +kernel
theorem bk_B {cs : ck_Case} {a : Nat} {x : Int32} {r : Option Value} (hcs : cs ∈ k_cs kc_348) (hco : ck_caseOK ty cs [.ref a, .int x] f g r) : (∀ i ∈ lw_js, i ≠ 11 → g i = f i) ∧ ((0 ≤ x.toInt ∧ x.toInt ≤ 1 ∧ g 11 = 0) ∨ ((x.toInt < 0 ∨ 2 ≤ x.toInt) ∧ g 11 = f 11)) := by
  have h := List.all_eq_true.mp bk_all cs hcs
  obtain ⟨av, rg, post⟩ := cs
  unfold bk_z at h
  dsimp only at h
  split at h
  · next lo hi =>
    obtain ⟨y, e, g1, g2⟩ := hco.2.1 (1, lo, hi) (List.mem_singleton.mpr rfl)
    cases e
    dsimp only at g1 g2
    simp only [Bool.or_eq_true, Bool.and_eq_true, decide_eq_true_eq] at h
    rcases h with ⟨⟨⟨h1, h2⟩, h3⟩, h4⟩ | ⟨⟨h1, h3⟩, h4⟩
    · exact ⟨lw_rest h4 hco.2.2, Or.inl ⟨by omega, by omega, ck_z1_ok hco.2.2 h3⟩⟩
    · exact ⟨lw_rest h4 hco.2.2, Or.inr ⟨by omega, hr_same1 hco.2.2 h3⟩⟩
  · cases h
theorem li_upd {j : Nat} {x : Int32} (hP : pPM[j]? = some (.inl (0, 940, []))) (hd : pPM.all (fun av => match av with
    | .inl r => r.2.2.all (fun d => decide (d.1 / 2 - 1000 ≠ j))
    | _ => false) = true) (h0 : 0 ≤ x.toInt) (h1 : x.toInt ≤ 940) (h : ck_pvo ty (ck_XE f) pPM f) : ck_pvo ty (ck_XE (upd f j x)) pPM (upd f j x) := by
  intro i av hi
  have hall := List.all_eq_true.mp hd av (List.mem_of_getElem? hi)
  by_cases e : i = j
  · subst e
    rw [hP] at hi
    cases hi
    rw [pk_us]
    exact ⟨x, rfl, h0, h1, fun d hd => by cases hd⟩
  · rw [pk_un e]
    match av, h i av hi, hall with
    | .inl r, ⟨y, hy, g1, g2, g3⟩, hall =>
      refine ⟨y, hy, g1, g2, fun d hd => ?_⟩
      have h2 := of_decide_eq_true (List.all_eq_true.mp hall d hd)
      have h3 := g3 d hd
      unfold ck_XE at h3 ⊢
      rw [pk_un h2]
      exact h3
end LD
section LX
variable {p : Program} {l : Launch} {e : Env} {s : State} {m : MethodId} {below : List Frame} {meth : Method} {c : Code} {H : Heap} {locs : List Loc} {cells slots : Nat} {Q : State → Prop} {ls : Array Slot}
variable {b L : Nat} {xs : Nat → Int32} {D : va_G} {cys : Nat → ClassId} {ty : Nat → Option Nat} {ax am qo n : Nat} {pvv : Nat → Int32}
theorem lw_feed (C : lw_C p l s m c b L xs D cys ty ax am qo) (hn : n + 6 ≤ L) (hcs : cells ≤ 601024 ∧ slots ≤ 7293034) (hl : lv_has ls 7 (lw_lv b ax am qo n)) (hI : lw_I s D cys ty qo pvv H locs) (he : lw_E pvv) (G : lw_G p l e s m below meth c b D cys ty ax am qo n cells slots Q) : W p l e room_1 s m #[Value.ref b] below meth c H locs cells slots Q (F0 m 220 ls []) := by
  have C' := C
  obtain ⟨⟨hx, hb, -⟩, -, -, -, ⟨hU, hun⟩, tx, tm, -⟩ := C
  obtain ⟨mA, jA, pA, rA⟩ := lK_177 (l := l) (D := D) (cys := cys) hU hun
  obtain ⟨mB, jB, pB, rB⟩ := lK_256 (l := l) (D := D) (cys := cys) hU hun
  refine lv_aload_n hx hb (show decode code 220 = .ok (.aload_n 1, 1) by decide +kernel) rfl (lv_at hl 1 rfl) ?_
  refine lw_arg C' hl rfl rfl hI.2.2.2 hn 1 1 (by decide) rfl (show dc_arg 221 1 from ⟨by decide +kernel, by decide +kernel, by decide +kernel, by decide +kernel, by decide +kernel⟩) ?_
  refine lw_arg C' hl rfl rfl hI.2.2.2 hn 2 2 (by decide) rfl (show dc_arg 227 2 from ⟨by decide +kernel, by decide +kernel, by decide +kernel, by decide +kernel, by decide +kernel⟩) ?_
  refine lw_arg C' hl rfl rfl hI.2.2.2 hn 3 3 (by decide) rfl (show dc_arg 233 3 from ⟨by decide +kernel, by decide +kernel, by decide +kernel, by decide +kernel, by decide +kernel⟩) ?_
  refine lw_arg C' hl rfl rfl hI.2.2.2 hn 4 4 (by decide) rfl (show dc_arg 239 4 from ⟨by decide +kernel, by decide +kernel, by decide +kernel, by decide +kernel, by decide +kernel⟩) ?_
  refine lw_arg C' hl rfl rfl hI.2.2.2 hn 5 5 (by decide) rfl (show dc_arg 245 5 from ⟨by decide +kernel, by decide +kernel, by decide +kernel, by decide +kernel, by decide +kernel⟩) ?_
  refine lw_any (b' := ax) (As := [.int (xs (n + 1)), .int (xs (n + 2)), .int (xs (n + 3)), .int (xs (n + 4)), .int (xs (n + 5))]) C' hl mA ls_177 jA (by rw [pA]; exact ⟨⟨ax, rfl, tx⟩, hr_aF, hr_aF, hr_aF, hr_aF, hr_aF, trivial⟩) hI rfl rA hcs (Nat.zero_le _) (show decode code 251 = .ok (.invokevirtual 19, 3) by decide +kernel) (fun cs hcs1 z g H locs hco hI => ?_)
  have f1 := fd_A hcs1 hco.2.2
  refine lv_pop hx hb (show decode code 254 = .ok (.pop, 1) by decide +kernel) rfl ?_
  refine lv_aload_n hx hb (show decode code 255 = .ok (.aload_n 2, 1) by decide +kernel) rfl (lv_at hl 2 rfl) ?_
  refine lw_arg C' hl rfl rfl hI.2.2.2 hn 1 1 (by decide) rfl (show dc_arg 256 1 from ⟨by decide +kernel, by decide +kernel, by decide +kernel, by decide +kernel, by decide +kernel⟩) ?_
  refine lw_arg C' hl rfl rfl hI.2.2.2 hn 2 2 (by decide) rfl (show dc_arg 262 2 from ⟨by decide +kernel, by decide +kernel, by decide +kernel, by decide +kernel, by decide +kernel⟩) ?_
  refine lw_arg C' hl rfl rfl hI.2.2.2 hn 3 3 (by decide) rfl (show dc_arg 268 3 from ⟨by decide +kernel, by decide +kernel, by decide +kernel, by decide +kernel, by decide +kernel⟩) ?_
  refine lw_arg C' hl rfl rfl hI.2.2.2 hn 4 4 (by decide) rfl (show dc_arg 274 4 from ⟨by decide +kernel, by decide +kernel, by decide +kernel, by decide +kernel, by decide +kernel⟩) ?_
  refine lw_arg C' hl rfl rfl hI.2.2.2 hn 5 5 (by decide) rfl (show dc_arg 280 5 from ⟨by decide +kernel, by decide +kernel, by decide +kernel, by decide +kernel, by decide +kernel⟩) ?_
  refine lw_any (b' := am) (As := [.int (xs (n + 1)), .int (xs (n + 2)), .int (xs (n + 3)), .int (xs (n + 4)), .int (xs (n + 5))]) C' hl mB ls_256 jB (by rw [pB]; exact ⟨⟨am, rfl, tm⟩, hr_aF, hr_aF, hr_aF, hr_aF, hr_aF, trivial⟩) hI rfl rB hcs (Nat.zero_le _) (show decode code 286 = .ok (.invokevirtual 23, 3) by decide +kernel) (fun cs2 hcs2 z2 g2 H locs hco2 hI => ?_)
  have f2 := fd_B hcs2 hco2.2.2
  refine lv_pop hx hb (show decode code 289 = .ok (.pop, 1) by decide +kernel) rfl ?_
  refine lv_goto (tgt := 1212) hx hb (show decode code 290 = .ok (.goto 922, 3) by decide +kernel) (by decide) ?_
  refine G g2 H locs ls hI ?_ hl
  obtain ⟨a1, a2⟩ := f1
  obtain ⟨b1, b2⟩ := f2
  rw [a1 11 (by decide) (by decide)] at b2
  rw [he.1] at a2
  refine ⟨?_, by rw [b1 26 (by decide) (by decide), b1 28 (by decide) (by decide), a1 26 (by decide) (by decide), a1 28 (by decide) (by decide)]; exact he.2.1, by rw [b1 27 (by decide) (by decide), b1 29 (by decide) (by decide), a1 27 (by decide) (by decide), a1 29 (by decide) (by decide)]; exact he.2.2⟩
  refine Int32.toInt_inj.mp ?_
  rw [b1 0 (by decide) (by decide)]
  rcases a2 with ⟨u1, u2⟩ | ⟨u1, u2⟩ <;> rcases b2 with ⟨v1, v2⟩ | ⟨v1, v2⟩ <;> omega
theorem lw_end (C : lw_C p l s m c b L xs D cys ty ax am qo) (hn : n + 6 ≤ L) (hcs : cells ≤ 601024 ∧ slots ≤ 7293034) (hl : lv_has ls 7 (lw_lv b ax am qo n)) (hI : lw_I s D cys ty qo pvv H locs) (he : lw_E pvv) (G : lw_G p l e s m below meth c b D cys ty ax am qo n cells slots Q) : W p l e room_1 s m #[Value.ref b] below meth c H locs cells slots Q (F0 m 293 ls []) := by
  have C' := C
  obtain ⟨F, -, -, -, ⟨hU, hun⟩, tx, tm, hqo, hA, -⟩ := C
  have hx := F.1
  have hb := F.2.1
  refine lv_aload_n hx hb (show decode code 293 = .ok (.aload_n 1, 1) by decide +kernel) rfl (lv_at hl 1 rfl) ?_
  refine lw_arg C' hl rfl rfl hI.2.2.2 hn 1 1 (by decide) rfl (show dc_arg 294 1 from ⟨by decide +kernel, by decide +kernel, by decide +kernel, by decide +kernel, by decide +kernel⟩) ?_
  obtain ⟨i1, i2, i3, i4⟩ := hI
  have r0 := hr_pv i1 0 (lo := 0) (hi := 940) (ds := []) rfl
  refine lc_afterR (lc_runV (kc := kc_173) (b := ax) (As := [.int (xs (n + 1))]) F hl lm_173 (hs_11_end (x1 := xs (n + 1)) hU tx) ⟨⟨ax, rfl, tx⟩, hr_aF, trivial⟩ i2 rfl ⟨by decide, by decide⟩ hcs (Nat.zero_le _) (show decode code 300 = .ok (.invokevirtual 24, 3) by decide +kernel)) i4 hA (fun r g E' H1 locs1 hP hW hS hkp => ?_)
  obtain ⟨rfl, z, rfl, hz⟩ := hP
  have o1 : lo_P D cys qo H1 := lo_kept i3 (hkp.2 qo (lo_lt i3) hqo)
  have j1 : ck_pvo ty (ck_XE g) pPM g := by
    rcases hz with ⟨z1, z2, -, rfl⟩ | ⟨-, -, rfl⟩
    · exact li_upd rfl (by decide +kernel) z1 (by omega) i1
    · exact i1
  have e11 : g 11 = pvv 11 := by
    rcases hz with ⟨-, -, -, rfl⟩ | ⟨-, -, rfl⟩
    · exact pk_un (by decide)
    · rfl
  refine lv_pop hx hb (show decode code 303 = .ok (.pop, 1) by decide +kernel) rfl ?_
  refine lv_aload_n hx hb (show decode code 304 = .ok (.aload_n 2, 1) by decide +kernel) rfl (lv_at hl 2 rfl) ?_
  refine lw_arg C' hl rfl rfl hS hn 1 1 (by decide) rfl (show dc_arg 305 1 from ⟨by decide +kernel, by decide +kernel, by decide +kernel, by decide +kernel, by decide +kernel⟩) ?_
  refine lc_afterR (lc_runV (kc := kc_251) (b := am) (As := [.int (xs (n + 1))]) F hl lm_251 (hs_12_end (x1 := xs (n + 1)) hU tm) ⟨⟨am, rfl, tm⟩, hr_aF, trivial⟩ hW rfl ⟨by decide, by decide⟩ hcs (Nat.zero_le _) (show decode code 311 = .ok (.invokevirtual 28, 3) by decide +kernel)) hS hA (fun r g2 E' H2 locs2 hP hW2 hS2 hkp2 => ?_)
  obtain ⟨rfl, z2, rfl, hy⟩ := hP
  have o2 : lo_P D cys qo H2 := lo_kept o1 (hkp2.2 qo (lo_lt o1) hqo)
  rw [e11, ← he.1] at hy
  have fin : z = z2 ∧ lw_E g2 ∧ ck_pvo ty (ck_XE g2) pPM g2 := by
    rcases hz with ⟨a1, a2, a3, rfl⟩ | ⟨a1, a2, rfl⟩ <;> rcases hy with ⟨b1, b2, b3, rfl⟩ | ⟨b1, b2, rfl⟩
    · refine ⟨Int32.toInt_inj.mp (by omega), ?_, li_upd rfl (by decide +kernel) b1 (by omega) j1⟩
      refine ⟨by rw [pk_us, pk_un (by decide), pk_us], ?_, ?_⟩
      · rw [pk_un (by decide), pk_un (by decide), pk_un (by decide), pk_un (by decide)]; exact he.2.1
      · rw [pk_un (by decide), pk_un (by decide), pk_un (by decide), pk_un (by decide)]; exact he.2.2
    · exact absurd ⟨a1, a2⟩ b1
    · exact absurd ⟨b1, b2⟩ a1
    · exact ⟨Int32.toInt_inj.mp (by omega), he, i1⟩
  refine lv_pop hx hb (show decode code 314 = .ok (.pop, 1) by decide +kernel) rfl ?_
  refine lv_goto (tgt := 1212) hx hb (show decode code 315 = .ok (.goto 897, 3) by decide +kernel) (by decide) ?_
  exact G g2 H2 locs2 ls ⟨fin.2.2, hW2, o2, hS2⟩ fin.2.1 hl
theorem lw_book (C : lw_C p l s m c b L xs D cys ty ax am qo) (hn : n + 6 ≤ L) (hcs : cells ≤ 601024 ∧ slots ≤ 7293034) (hl : lv_has ls 7 (lw_lv b ax am qo n)) (hI : lw_I s D cys ty qo pvv H locs) (he : lw_E pvv) (G : lw_G p l e s m below meth c b D cys ty ax am qo n cells slots Q) : W p l e room_1 s m #[Value.ref b] below meth c H locs cells slots Q (F0 m 1049 ls []) := by
  have C' := C
  obtain ⟨⟨hx, hb, -⟩, -, -, -, ⟨hU, hun⟩, tx, tm, -⟩ := C
  have tail : ∀ (g : Nat → Int32) (H : Heap) (locs : List Loc) (z : Int32), (∀ i ∈ lw_js, i ≠ 0 → g i = pvv i) → ((0 ≤ (xs (n + 1)).toInt ∧ (xs (n + 1)).toInt ≤ 1 ∧ g 0 = 0) ∨ (((xs (n + 1)).toInt < 0 ∨ 2 ≤ (xs (n + 1)).toInt) ∧ g 0 = pvv 0)) → lw_I s D cys ty qo g H locs → W p l e room_1 s m #[Value.ref b] below meth c H locs cells slots Q (F0 m 1059 ls [.int z]) := by
    intro g H locs z e11 e0 hI
    obtain ⟨mB, jB, pB, rB⟩ := lK_348 (l := l) (D := D) (cys := cys) hU hun
    refine lv_pop hx hb (show decode code 1059 = .ok (.pop, 1) by decide +kernel) rfl ?_
    refine lv_aload_n hx hb (show decode code 1060 = .ok (.aload_n 2, 1) by decide +kernel) rfl (lv_at hl 2 rfl) ?_
    refine lw_arg C' hl rfl rfl hI.2.2.2 hn 1 1 (by decide) rfl (show dc_arg 1061 1 from ⟨by decide +kernel, by decide +kernel, by decide +kernel, by decide +kernel, by decide +kernel⟩) ?_
    refine lw_any (b' := am) (As := [.int (xs (n + 1))]) C' hl mB ls_348 jB (by rw [pB]; exact ⟨⟨am, rfl, tm⟩, hr_aF, trivial⟩) hI rfl rB hcs (Nat.zero_le _) (show decode code 1067 = .ok (.invokevirtual 165, 3) by decide +kernel) (fun cs2 hcs2 z2 g2 H locs hco2 hI => ?_)
    have f2 := bk_B hcs2 hco2
    refine lv_pop hx hb (show decode code 1070 = .ok (.pop, 1) by decide +kernel) rfl ?_
    refine lv_goto (tgt := 1212) hx hb (show decode code 1071 = .ok (.goto 141, 3) by decide +kernel) (by decide) ?_
    have k1 := f2.1
    refine G g2 H locs ls hI ⟨?_, by rw [k1 26 (by decide) (by decide), k1 28 (by decide) (by decide), e11 26 (by decide) (by decide), e11 28 (by decide) (by decide)]; exact he.2.1, by rw [k1 27 (by decide) (by decide), k1 29 (by decide) (by decide), e11 27 (by decide) (by decide), e11 29 (by decide) (by decide)]; exact he.2.2⟩ hl
    rw [k1 0 (by decide) (by decide)]
    rcases e0 with ⟨u1, u2, u3⟩ | ⟨u1, u3⟩ <;> rcases f2.2 with ⟨v1, v2, v3⟩ | ⟨v1, v3⟩
    · rw [u3, v3]
    · omega
    · omega
    · rw [u3, v3, e11 11 (by decide) (by decide)]; exact he.1
  refine lv_aload_n hx hb (show decode code 1049 = .ok (.aload_n 1, 1) by decide +kernel) rfl (lv_at hl 1 rfl) ?_
  refine lw_arg C' hl rfl rfl hI.2.2.2 hn 1 1 (by decide) rfl (show dc_arg 1050 1 from ⟨by decide +kernel, by decide +kernel, by decide +kernel, by decide +kernel, by decide +kernel⟩) ?_
  have hlo := ck_lo (xs (n + 1))
  have hhi := ck_hi (xs (n + 1))
  have dc : decode code 1056 = .ok (.invokevirtual 162, 3) := by decide +kernel
  rcases (show (xs (n + 1)).toInt < 0 ∨ (0 ≤ (xs (n + 1)).toInt ∧ (xs (n + 1)).toInt ≤ 1) ∨ 2 ≤ (xs (n + 1)).toInt by omega) with hc | hc | hc
  · obtain ⟨mA, jA, pA, rA⟩ := lK_344 (l := l) (D := D) (cys := cys) hU hun
    refine lw_keep (b' := ax) (As := [.int (xs (n + 1))]) C' hl mA lk_344 jA (by rw [pA]; exact ⟨⟨ax, rfl, tx⟩, hr_aI hlo (by omega), trivial⟩) hI rfl rA hcs (Nat.zero_le _) dc (fun z g H locs e1 hI => ?_)
    exact tail g H locs z (fun i hi _ => e1 i hi) (Or.inr ⟨Or.inl hc, e1 0 (by decide)⟩) hI
  · obtain ⟨mA, jA, pA, rA⟩ := lK_345 (l := l) (D := D) (cys := cys) hU hun
    refine lw_zero (b' := ax) (As := [.int (xs (n + 1))]) C' hl mA lz_345 jA (by rw [pA]; exact ⟨⟨ax, rfl, tx⟩, hr_aI hc.1 hc.2, trivial⟩) hI rfl rA hcs (Nat.zero_le _) dc (fun z g H locs e0 e11 hI => ?_)
    exact tail g H locs z e11 (Or.inl ⟨hc.1, hc.2, e0⟩) hI
  · obtain ⟨mA, jA, pA, rA⟩ := lK_346 (l := l) (D := D) (cys := cys) hU hun
    refine lw_keep (b' := ax) (As := [.int (xs (n + 1))]) C' hl mA lk_346 jA (by rw [pA]; exact ⟨⟨ax, rfl, tx⟩, hr_aI hc hhi, trivial⟩) hI rfl rA hcs (Nat.zero_le _) dc (fun z g H locs e1 hI => ?_)
    exact tail g H locs z (fun i hi _ => e1 i hi) (Or.inr ⟨Or.inr hc, e1 0 (by decide)⟩) hI
theorem lm_good : GoodIn lw_tbl (va_wsS RL 42 yL_man (Jvm.Cond.codeWith yL_man cL_man 5 (some .int) [(0, 10, 13, 13)] :: mn_ws)) := fun w hw => by
  have key : ∀ w ∈ wsL_law0, w ∈ lw_tbl ∧ ((w.onTables && w.keeps) = true ∨ ∃ ty, w = .arrayClass ty) := fun w hw => ⟨tb_law w hw, ck_good w hw⟩
  rcases List.mem_append.mp hw with hw | hw
  · rcases List.mem_cons.mp hw with rfl | hw
    · exact key _ (in_r29 _ (List.mem_of_getElem? (i := 9) rfl))
    · rcases List.mem_cons.mp hw with rfl | hw
      · exact key _ (in_r29 _ (List.mem_of_getElem? (i := 10) rfl))
      · rcases List.mem_cons.mp hw with rfl | hw
        · exact ⟨(List.mem_of_getElem? (i := 105) (by decide +kernel)), Or.inl (by decide)⟩
        · cases hw
  · exact mn_good tb_mn (in_r29 _ (List.mem_of_getElem? (i := 12) rfl)) w hw
theorem lw_man (C : lw_C p l s m c b L xs D cys ty ax am qo) (hn : n + 6 ≤ L) (hcs : cells + 1 ≤ 601024 ∧ slots + 6 ≤ 7293034) (hl : lv_has ls 7 (lw_lv b ax am qo n)) (hI : lw_I s D cys ty qo pvv H locs) (he : lw_E pvv) (G : lw_G p l e s m below meth c b D cys ty ax am qo n (cells + 1) (slots + 6) Q) : W p l e room_1 s m #[Value.ref b] below meth c H locs cells slots Q (F0 m 381 ls []) := by
  have C' := C
  obtain ⟨F, -, -, -, ⟨hU, hun⟩, tx, tm, hqo, hA, hAq, hst, hmT, hmS⟩ := C
  obtain ⟨hx, hb, hml, hts, hin, hown, hK, hN⟩ := F
  refine lv_aload_n hx hb (show decode code 381 = .ok (.aload_n 1, 1) by decide +kernel) rfl (lv_at hl 1 rfl) ?_
  refine lw_arg C' hl rfl rfl hI.2.2.2 hn 1 1 (by decide) rfl (show dc_arg 382 1 from ⟨by decide +kernel, by decide +kernel, by decide +kernel, by decide +kernel, by decide +kernel⟩) ?_
  refine lw_arg C' hl rfl rfl hI.2.2.2 hn 2 2 (by decide) rfl (show dc_arg 388 2 from ⟨by decide +kernel, by decide +kernel, by decide +kernel, by decide +kernel, by decide +kernel⟩) ?_
  refine lv_aload_n hx hb (show decode code 394 = .ok (.aload_n 3, 1) by decide +kernel) rfl (lv_at hl 3 rfl) ?_
  obtain ⟨i1, i2, i3, i4⟩ := hI
  have hF : ∀ q, lo_A ty qo q → lw_A s q := fun q h => by
    rcases h with h | h
    · exact hA q h
    · rw [h]; exact hAq
  have hS1 : mn_S (lo_A ty qo) s H := mn_S_narrow (mn_S_kept hmS i4.2.1) hF
  refine va_calli (vx_runSW (y := yL_man) (bytes := cL_man) (maxL := 5) (ret := some .int) (hh := [(0, 10, 13, 13)]) (n := 4) (own := RL) (index := 42) (As := [.ref ax, .int (xs (n + 1)), .int (xs (n + 2)), .ref qo]) (rest := []) ⟨hx, hb, hml, hown, hts⟩ (mn_law (x1 := xs (n + 1)) (x2 := xs (n + 2)) hU hun hst tx hqo (hr_wk i1 pM_P)) (vx_cwSW 4 hts lm_good rfl rfl rfl (by decide +kernel) ⟨Nat.le_of_ble_eq_true rfl, Nat.le_of_ble_eq_true rfl⟩) ⟨fun a U g mk h => ⟨h.1, (mn_blind a U g mk ⟨h.1, h.2.1⟩).2, h.2.2⟩, fun U hU0 hWm => ⟨rfl, ⟨⟨by rw [hU0]; exact i2, va_K.moved hWm.alike hK, ck_nest_warm hWm hN⟩, mn_T_warm hWm hmT, by rw [hU0]; exact mn_S_moved hWm.alike hS1⟩, by rw [hU0]; exact i3⟩⟩ rfl rfl hl.1 rfl (lv_room (Nat.zero_le _)) (show decode code 395 = .ok (.invokestatic 42, 3) by decide +kernel) hcs) i4 (fun q _ h => hF q h) hF (fun r u t H1 locs1 ht hv _ hB hz hk hS2 => ?_)
  have hB : ck_Wo D cys ty ck_tags ck_pvs0 (GE ty) pvv t.heap ∧ lo_P D cys qo t.heap := hB
  rw [ht] at hB
  have hI : lw_I s D cys ty qo pvv H1 locs1 := ⟨i1, hB.1, hB.2, hS2⟩
  refine lv_istore (lv' := (5, .int r) :: lw_lv b ax am qo n) hx hb (show decode code 398 = .ok (.istore 5, 2) by decide +kernel) hl (by decide) rfl (fun ls hl => ?_)
  have hl : lv_has ls 7 (lw_lv b ax am qo n) := lv_sub hl [1, 2, 3, 4, 5] rfl
  obtain ⟨mB, jB, pB, rB⟩ := lK_267 (l := l) (D := D) (cys := cys) hU hun
  refine lv_aload_n hx hb (show decode code 400 = .ok (.aload_n 2, 1) by decide +kernel) rfl (lv_at hl 2 rfl) ?_
  refine lw_arg C' hl rfl rfl hI.2.2.2 hn 1 1 (by decide) rfl (show dc_arg 401 1 from ⟨by decide +kernel, by decide +kernel, by decide +kernel, by decide +kernel, by decide +kernel⟩) ?_
  refine lw_arg C' hl rfl rfl hI.2.2.2 hn 2 2 (by decide) rfl (show dc_arg 407 2 from ⟨by decide +kernel, by decide +kernel, by decide +kernel, by decide +kernel, by decide +kernel⟩) ?_
  refine lw_keep (b' := am) (As := [.int (xs (n + 1)), .int (xs (n + 2))]) C' hl mB lk_267 jB (by rw [pB]; exact ⟨⟨am, rfl, tm⟩, hr_aF, hr_aF, trivial⟩) hI rfl rB hcs (Nat.zero_le _) (show decode code 413 = .ok (.invokevirtual 47, 3) by decide +kernel) (fun z g H locs e1 hI => ?_)
  refine lv_istore (lv' := (6, .int z) :: lw_lv b ax am qo n) hx hb (show decode code 416 = .ok (.istore 6, 2) by decide +kernel) hl (by decide) rfl (fun ls hl => ?_)
  refine lv_goto (tgt := 1212) hx hb (show decode code 418 = .ok (.goto 794, 3) by decide +kernel) (by decide) ?_
  exact G g H locs ls hI (lw_E_same e1 he) (lv_sub hl [1, 2, 3, 4, 5] rfl)
end LX
theorem lm_311 : lc_mV RL 178 kc_311 11 := ⟨(in_r66 _ (List.mem_of_getElem? (i := 9) rfl)), (in_r1 _ (List.mem_of_getElem? (i := 2) rfl)), (in_r66 _ (List.mem_of_getElem? (i := 6) rfl)), (in_r66 _ (List.mem_of_getElem? (i := 7) rfl)), (in_r66 _ (List.mem_of_getElem? (i := 8) rfl)), by decide +kernel, _, _, _, _, rfl, rfl, rfl, rfl, by decide +kernel⟩
theorem lK_311 {l : Launch} {D : va_G} {cys : Nat → ClassId} {ty : Nat → Option Nat} (hU : ck_uq ty ck_pvs0) (hun : ck_un ty) : lw_K l D cys ty kc_311 178 11 [.inl (-2147483648, -1, [])] := ⟨lm_311, ch_all hU hun 311 (by decide), rfl, by decide, by decide⟩
theorem lm_312 : lc_mV RL 178 kc_312 11 := ⟨(in_r66 _ (List.mem_of_getElem? (i := 9) rfl)), (in_r1 _ (List.mem_of_getElem? (i := 2) rfl)), (in_r66 _ (List.mem_of_getElem? (i := 6) rfl)), (in_r66 _ (List.mem_of_getElem? (i := 7) rfl)), (in_r66 _ (List.mem_of_getElem? (i := 8) rfl)), by decide +kernel, _, _, _, _, rfl, rfl, rfl, rfl, by decide +kernel⟩
theorem lK_312 {l : Launch} {D : va_G} {cys : Nat → ClassId} {ty : Nat → Option Nat} (hU : ck_uq ty ck_pvs0) (hun : ck_un ty) : lw_K l D cys ty kc_312 178 11 [.inl (0, 0, [])] := ⟨lm_312, ch_all hU hun 312 (by decide), rfl, by decide, by decide⟩
theorem lm_313 : lc_mV RL 178 kc_313 11 := ⟨(in_r66 _ (List.mem_of_getElem? (i := 9) rfl)), (in_r1 _ (List.mem_of_getElem? (i := 2) rfl)), (in_r66 _ (List.mem_of_getElem? (i := 6) rfl)), (in_r66 _ (List.mem_of_getElem? (i := 7) rfl)), (in_r66 _ (List.mem_of_getElem? (i := 8) rfl)), by decide +kernel, _, _, _, _, rfl, rfl, rfl, rfl, by decide +kernel⟩
theorem lK_313 {l : Launch} {D : va_G} {cys : Nat → ClassId} {ty : Nat → Option Nat} (hU : ck_uq ty ck_pvs0) (hun : ck_un ty) : lw_K l D cys ty kc_313 178 11 [.inl (1, 1, [])] := ⟨lm_313, ch_all hU hun 313 (by decide), rfl, by decide, by decide⟩
theorem lm_314 : lc_mV RL 178 kc_314 11 := ⟨(in_r66 _ (List.mem_of_getElem? (i := 9) rfl)), (in_r1 _ (List.mem_of_getElem? (i := 2) rfl)), (in_r66 _ (List.mem_of_getElem? (i := 6) rfl)), (in_r66 _ (List.mem_of_getElem? (i := 7) rfl)), (in_r66 _ (List.mem_of_getElem? (i := 8) rfl)), by decide +kernel, _, _, _, _, rfl, rfl, rfl, rfl, by decide +kernel⟩
theorem lK_314 {l : Launch} {D : va_G} {cys : Nat → ClassId} {ty : Nat → Option Nat} (hU : ck_uq ty ck_pvs0) (hun : ck_un ty) : lw_K l D cys ty kc_314 178 11 [.inl (2, 2147483647, [])] := ⟨lm_314, ch_all hU hun 314 (by decide), rfl, by decide, by decide⟩
theorem lm_353 : lc_mV RL 181 kc_353 12 := ⟨(in_r66 _ (List.mem_of_getElem? (i := 17) rfl)), (in_r1 _ (List.mem_of_getElem? (i := 5) rfl)), (in_r66 _ (List.mem_of_getElem? (i := 14) rfl)), (in_r66 _ (List.mem_of_getElem? (i := 15) rfl)), (in_r66 _ (List.mem_of_getElem? (i := 16) rfl)), by decide +kernel, _, _, _, _, rfl, rfl, rfl, rfl, by decide +kernel⟩
theorem lK_353 {l : Launch} {D : va_G} {cys : Nat → ClassId} {ty : Nat → Option Nat} (hU : ck_uq ty ck_pvs0) (hun : ck_un ty) : lw_K l D cys ty kc_353 181 12 [.inl (-2147483648, -1, [])] := ⟨lm_353, ch_all hU hun 353 (by decide), rfl, by decide, by decide⟩
theorem lm_354 : lc_mV RL 181 kc_354 12 := ⟨(in_r66 _ (List.mem_of_getElem? (i := 17) rfl)), (in_r1 _ (List.mem_of_getElem? (i := 5) rfl)), (in_r66 _ (List.mem_of_getElem? (i := 14) rfl)), (in_r66 _ (List.mem_of_getElem? (i := 15) rfl)), (in_r66 _ (List.mem_of_getElem? (i := 16) rfl)), by decide +kernel, _, _, _, _, rfl, rfl, rfl, rfl, by decide +kernel⟩
theorem lK_354 {l : Launch} {D : va_G} {cys : Nat → ClassId} {ty : Nat → Option Nat} (hU : ck_uq ty ck_pvs0) (hun : ck_un ty) : lw_K l D cys ty kc_354 181 12 [.inl (0, 0, [])] := ⟨lm_354, ch_all hU hun 354 (by decide), rfl, by decide, by decide⟩
theorem lm_355 : lc_mV RL 181 kc_355 12 := ⟨(in_r66 _ (List.mem_of_getElem? (i := 17) rfl)), (in_r1 _ (List.mem_of_getElem? (i := 5) rfl)), (in_r66 _ (List.mem_of_getElem? (i := 14) rfl)), (in_r66 _ (List.mem_of_getElem? (i := 15) rfl)), (in_r66 _ (List.mem_of_getElem? (i := 16) rfl)), by decide +kernel, _, _, _, _, rfl, rfl, rfl, rfl, by decide +kernel⟩
theorem lK_355 {l : Launch} {D : va_G} {cys : Nat → ClassId} {ty : Nat → Option Nat} (hU : ck_uq ty ck_pvs0) (hun : ck_un ty) : lw_K l D cys ty kc_355 181 12 [.inl (1, 1, [])] := ⟨lm_355, ch_all hU hun 355 (by decide), rfl, by decide, by decide⟩
theorem lm_356 : lc_mV RL 181 kc_356 12 := ⟨(in_r66 _ (List.mem_of_getElem? (i := 17) rfl)), (in_r1 _ (List.mem_of_getElem? (i := 5) rfl)), (in_r66 _ (List.mem_of_getElem? (i := 14) rfl)), (in_r66 _ (List.mem_of_getElem? (i := 15) rfl)), (in_r66 _ (List.mem_of_getElem? (i := 16) rfl)), by decide +kernel, _, _, _, _, rfl, rfl, rfl, rfl, by decide +kernel⟩
theorem lK_356 {l : Launch} {D : va_G} {cys : Nat → ClassId} {ty : Nat → Option Nat} (hU : ck_uq ty ck_pvs0) (hun : ck_un ty) : lw_K l D cys ty kc_356 181 12 [.inl (2, 2147483647, [])] := ⟨lm_356, ch_all hU hun 356 (by decide), rfl, by decide, by decide⟩
theorem lm_319 : lc_mV RL 182 kc_319 11 := ⟨(in_r66 _ (List.mem_of_getElem? (i := 21) rfl)), (in_r1 _ (List.mem_of_getElem? (i := 2) rfl)), (in_r66 _ (List.mem_of_getElem? (i := 18) rfl)), (in_r66 _ (List.mem_of_getElem? (i := 19) rfl)), (in_r66 _ (List.mem_of_getElem? (i := 20) rfl)), by decide +kernel, _, _, _, _, rfl, rfl, rfl, rfl, by decide +kernel⟩
theorem lK_319 {l : Launch} {D : va_G} {cys : Nat → ClassId} {ty : Nat → Option Nat} (hU : ck_uq ty ck_pvs0) (hun : ck_un ty) : lw_K l D cys ty kc_319 182 11 [.inl (-2147483648, -1, [])] := ⟨lm_319, ch_all hU hun 319 (by decide), rfl, by decide, by decide⟩
theorem lm_320 : lc_mV RL 182 kc_320 11 := ⟨(in_r66 _ (List.mem_of_getElem? (i := 21) rfl)), (in_r1 _ (List.mem_of_getElem? (i := 2) rfl)), (in_r66 _ (List.mem_of_getElem? (i := 18) rfl)), (in_r66 _ (List.mem_of_getElem? (i := 19) rfl)), (in_r66 _ (List.mem_of_getElem? (i := 20) rfl)), by decide +kernel, _, _, _, _, rfl, rfl, rfl, rfl, by decide +kernel⟩
theorem lK_320 {l : Launch} {D : va_G} {cys : Nat → ClassId} {ty : Nat → Option Nat} (hU : ck_uq ty ck_pvs0) (hun : ck_un ty) : lw_K l D cys ty kc_320 182 11 [.inl (0, 0, [])] := ⟨lm_320, ch_all hU hun 320 (by decide), rfl, by decide, by decide⟩
theorem lm_321 : lc_mV RL 182 kc_321 11 := ⟨(in_r66 _ (List.mem_of_getElem? (i := 21) rfl)), (in_r1 _ (List.mem_of_getElem? (i := 2) rfl)), (in_r66 _ (List.mem_of_getElem? (i := 18) rfl)), (in_r66 _ (List.mem_of_getElem? (i := 19) rfl)), (in_r66 _ (List.mem_of_getElem? (i := 20) rfl)), by decide +kernel, _, _, _, _, rfl, rfl, rfl, rfl, by decide +kernel⟩
theorem lK_321 {l : Launch} {D : va_G} {cys : Nat → ClassId} {ty : Nat → Option Nat} (hU : ck_uq ty ck_pvs0) (hun : ck_un ty) : lw_K l D cys ty kc_321 182 11 [.inl (1, 1, [])] := ⟨lm_321, ch_all hU hun 321 (by decide), rfl, by decide, by decide⟩
theorem lm_322 : lc_mV RL 182 kc_322 11 := ⟨(in_r66 _ (List.mem_of_getElem? (i := 21) rfl)), (in_r1 _ (List.mem_of_getElem? (i := 2) rfl)), (in_r66 _ (List.mem_of_getElem? (i := 18) rfl)), (in_r66 _ (List.mem_of_getElem? (i := 19) rfl)), (in_r66 _ (List.mem_of_getElem? (i := 20) rfl)), by decide +kernel, _, _, _, _, rfl, rfl, rfl, rfl, by decide +kernel⟩
theorem lK_322 {l : Launch} {D : va_G} {cys : Nat → ClassId} {ty : Nat → Option Nat} (hU : ck_uq ty ck_pvs0) (hun : ck_un ty) : lw_K l D cys ty kc_322 182 11 [.inl (2, 2147483647, [])] := ⟨lm_322, ch_all hU hun 322 (by decide), rfl, by decide, by decide⟩
theorem lm_359 : lc_mV RL 185 kc_359 12 := ⟨(in_r67 _ (List.mem_of_getElem? (i := 1) rfl)), (in_r1 _ (List.mem_of_getElem? (i := 5) rfl)), (in_r66 _ (List.mem_of_getElem? (i := 22) rfl)), (in_r66 _ (List.mem_of_getElem? (i := 23) rfl)), (in_r67 _ (List.mem_of_getElem? (i := 0) rfl)), by decide +kernel, _, _, _, _, rfl, rfl, rfl, rfl, by decide +kernel⟩
theorem lK_359 {l : Launch} {D : va_G} {cys : Nat → ClassId} {ty : Nat → Option Nat} (hU : ck_uq ty ck_pvs0) (hun : ck_un ty) : lw_K l D cys ty kc_359 185 12 [.inl (-2147483648, -1, [])] := ⟨lm_359, ch_all hU hun 359 (by decide), rfl, by decide, by decide⟩
theorem lm_360 : lc_mV RL 185 kc_360 12 := ⟨(in_r67 _ (List.mem_of_getElem? (i := 1) rfl)), (in_r1 _ (List.mem_of_getElem? (i := 5) rfl)), (in_r66 _ (List.mem_of_getElem? (i := 22) rfl)), (in_r66 _ (List.mem_of_getElem? (i := 23) rfl)), (in_r67 _ (List.mem_of_getElem? (i := 0) rfl)), by decide +kernel, _, _, _, _, rfl, rfl, rfl, rfl, by decide +kernel⟩
theorem lK_360 {l : Launch} {D : va_G} {cys : Nat → ClassId} {ty : Nat → Option Nat} (hU : ck_uq ty ck_pvs0) (hun : ck_un ty) : lw_K l D cys ty kc_360 185 12 [.inl (0, 0, [])] := ⟨lm_360, ch_all hU hun 360 (by decide), rfl, by decide, by decide⟩
theorem lm_361 : lc_mV RL 185 kc_361 12 := ⟨(in_r67 _ (List.mem_of_getElem? (i := 1) rfl)), (in_r1 _ (List.mem_of_getElem? (i := 5) rfl)), (in_r66 _ (List.mem_of_getElem? (i := 22) rfl)), (in_r66 _ (List.mem_of_getElem? (i := 23) rfl)), (in_r67 _ (List.mem_of_getElem? (i := 0) rfl)), by decide +kernel, _, _, _, _, rfl, rfl, rfl, rfl, by decide +kernel⟩
theorem lK_361 {l : Launch} {D : va_G} {cys : Nat → ClassId} {ty : Nat → Option Nat} (hU : ck_uq ty ck_pvs0) (hun : ck_un ty) : lw_K l D cys ty kc_361 185 12 [.inl (1, 1, [])] := ⟨lm_361, ch_all hU hun 361 (by decide), rfl, by decide, by decide⟩
theorem lm_362 : lc_mV RL 185 kc_362 12 := ⟨(in_r67 _ (List.mem_of_getElem? (i := 1) rfl)), (in_r1 _ (List.mem_of_getElem? (i := 5) rfl)), (in_r66 _ (List.mem_of_getElem? (i := 22) rfl)), (in_r66 _ (List.mem_of_getElem? (i := 23) rfl)), (in_r67 _ (List.mem_of_getElem? (i := 0) rfl)), by decide +kernel, _, _, _, _, rfl, rfl, rfl, rfl, by decide +kernel⟩
theorem lK_362 {l : Launch} {D : va_G} {cys : Nat → ClassId} {ty : Nat → Option Nat} (hU : ck_uq ty ck_pvs0) (hun : ck_un ty) : lw_K l D cys ty kc_362 185 12 [.inl (2, 2147483647, [])] := ⟨lm_362, ch_all hU hun 362 (by decide), rfl, by decide, by decide⟩
/-- the answer is exactly v -/
def ck_an (v : Int) (cs : ck_Case) : Bool := match cs.1 with
  | some (.inl r) => decide (r.1 = v) && decide (r.2.1 = v)
  | _ => false
/-- the answer is what stands at the place j -/
def ck_fl (j : Nat) (cs : ck_Case) : Bool := match cs.1, cs.2.2[j]? with
  | some (.inl r), some (.inl q) => decide (r.1 = r.2.1) && decide (q.1 = r.1) && decide (q.2.1 = r.1)
  | _, _ => false
def ck_o1 (post : List ck_AV) (j : Nat) : Bool := match post[j]? with
  | some (.inl r) => decide (r.1 = 1) && decide (r.2.1 = 1)
  | _ => false
def ck_lawN (kc : ck_K) : Bool := ck_lawK kc && (k_cs kc).all (ck_an 0)
def ck_lawF (kc : ck_K) (j : Nat) : Bool := ck_lawK kc && (k_cs kc).all (ck_fl j)
def ck_lawO (kc : ck_K) (j : Nat) : Bool := ck_lawS kc && (k_cs kc).all (fun cs => ck_an 1 cs && ck_o1 cs.2.2 j && lw_js.all (fun i => decide (i = j) || ck_same1 cs.2.2 i))
section LQ
variable {ty : Nat → Option Nat} {f g : Nat → Int32} {z : Int32} {vs : List Value} {kc : ck_K} {cs : ck_Case}
theorem ck_an_ok {v : Int} (h : ck_an v cs = true) (hr : ck_rv ty cs.1 (some (.int z))) : z.toInt = v := by
  unfold ck_an at h
  split at h
  · next r e =>
    rw [e] at hr
    obtain ⟨y, ey, h1, h2, -⟩ := hr
    cases ey
    simp only [Bool.and_eq_true, decide_eq_true_eq] at h
    omega
  · cases h
theorem ck_fl_ok {j : Nat} (h : ck_fl j cs = true) (hco : ck_caseOK ty cs vs f g (some (.int z))) : z.toInt = (g j).toInt := by
  unfold ck_fl at h
  split at h
  · next r q e1 e2 =>
    have hr := hco.1
    rw [e1] at hr
    obtain ⟨y, ey, h1, h2, -⟩ := hr
    cases ey
    obtain ⟨w, ew, h3, h4, -⟩ := hco.2.2 j _ e2
    cases ew
    simp only [Bool.and_eq_true, decide_eq_true_eq] at h
    omega
  · cases h
theorem ck_o1_ok {post : List ck_AV} {X : Nat → Int} {j : Nat} (h : ck_o1 post j = true) (hp : ck_pvo ty X post g) : g j = 1 := by
  unfold ck_o1 at h
  split at h
  · next r hr =>
    simp only [Bool.and_eq_true, decide_eq_true_eq] at h
    obtain ⟨x, e, h1, h2, -⟩ := hp j _ hr
    cases e
    refine Int32.toInt_inj.mp ?_
    rw [show (1 : Int32).toInt = 1 from rfl]
    omega
  · cases h
theorem lw_N (hk : ck_lawN kc = true) (hcs : cs ∈ k_cs kc) (hco : ck_caseOK ty cs vs f g (some (.int z))) : z.toInt = 0 ∧ ∀ j ∈ lw_js, g j = f j := by
  simp only [ck_lawN, ck_lawK, Bool.and_eq_true] at hk
  exact ⟨ck_an_ok (List.all_eq_true.mp hk.2 cs hcs) hco.1, fun j hj => hr_same1 hco.2.2 (List.all_eq_true.mp (List.all_eq_true.mp hk.1.2 cs hcs) j hj)⟩
theorem lw_F {j : Nat} (hj : j ∈ lw_js) (hk : ck_lawF kc j = true) (hcs : cs ∈ k_cs kc) (hco : ck_caseOK ty cs vs f g (some (.int z))) : z.toInt = (f j).toInt ∧ ∀ j ∈ lw_js, g j = f j := by
  simp only [ck_lawF, ck_lawK, Bool.and_eq_true] at hk
  have h1 : ∀ j ∈ lw_js, g j = f j := fun j hj => hr_same1 hco.2.2 (List.all_eq_true.mp (List.all_eq_true.mp hk.1.2 cs hcs) j hj)
  exact ⟨by rw [← h1 j hj]; exact ck_fl_ok (List.all_eq_true.mp hk.2 cs hcs) hco, h1⟩
theorem lw_O {j : Nat} (hk : ck_lawO kc j = true) (hcs : cs ∈ k_cs kc) (hco : ck_caseOK ty cs vs f g (some (.int z))) : z.toInt = 1 ∧ g j = 1 ∧ ∀ i ∈ lw_js, i ≠ j → g i = f i := by
  simp only [ck_lawO, Bool.and_eq_true] at hk
  have h := List.all_eq_true.mp hk.2 cs hcs
  simp only [Bool.and_eq_true] at h
  exact ⟨ck_an_ok h.1.1 hco.1, ck_o1_ok h.1.2 hco.2.2, lw_rest h.2 hco.2.2⟩
end LQ
theorem lq_312 : ck_lawO kc_312 26 = true := by decide +kernel
theorem ls_312 : ck_lawS kc_312 = true := by decide +kernel
theorem lq_313 : ck_lawO kc_313 27 = true := by decide +kernel
theorem ls_313 : ck_lawS kc_313 = true := by decide +kernel
theorem lq_311 : ck_lawN kc_311 = true := by decide +kernel
theorem ls_311 : ck_lawS kc_311 = true := by decide +kernel
theorem lq_314 : ck_lawN kc_314 = true := by decide +kernel
theorem ls_314 : ck_lawS kc_314 = true := by decide +kernel
theorem lq_354 : ck_lawO kc_354 28 = true := by decide +kernel
theorem ls_354 : ck_lawS kc_354 = true := by decide +kernel
theorem lq_355 : ck_lawO kc_355 29 = true := by decide +kernel
theorem ls_355 : ck_lawS kc_355 = true := by decide +kernel
theorem lq_353 : ck_lawN kc_353 = true := by decide +kernel
theorem ls_353 : ck_lawS kc_353 = true := by decide +kernel
theorem lq_356 : ck_lawN kc_356 = true := by decide +kernel
theorem ls_356 : ck_lawS kc_356 = true := by decide +kernel
theorem lq_320 : ck_lawF kc_320 26 = true := by decide +kernel
theorem ls_320 : ck_lawS kc_320 = true := by decide +kernel
theorem lq_321 : ck_lawF kc_321 27 = true := by decide +kernel
theorem ls_321 : ck_lawS kc_321 = true := by decide +kernel
theorem lq_319 : ck_lawN kc_319 = true := by decide +kernel
theorem ls_319 : ck_lawS kc_319 = true := by decide +kernel
theorem lq_322 : ck_lawN kc_322 = true := by decide +kernel
theorem ls_322 : ck_lawS kc_322 = true := by decide +kernel
theorem lq_360 : ck_lawF kc_360 28 = true := by decide +kernel
theorem ls_360 : ck_lawS kc_360 = true := by decide +kernel
theorem lq_361 : ck_lawF kc_361 29 = true := by decide +kernel
theorem ls_361 : ck_lawS kc_361 = true := by decide +kernel
theorem lq_359 : ck_lawN kc_359 = true := by decide +kernel
theorem ls_359 : ck_lawS kc_359 = true := by decide +kernel
theorem lq_362 : ck_lawN kc_362 = true := by decide +kernel
theorem ls_362 : ck_lawS kc_362 = true := by decide +kernel
section LY
variable {p : Program} {l : Launch} {e : Env} {s : State} {m : MethodId} {below : List Frame} {meth : Method} {c : Code} {H : Heap} {locs : List Loc} {cells slots : Nat} {Q : State → Prop} {ls : Array Slot}
variable {b L : Nat} {xs : Nat → Int32} {D : va_G} {cys : Nat → ClassId} {ty : Nat → Option Nat} {ax am qo n : Nat} {pvv : Nat → Int32}
theorem lw_image (C : lw_C p l s m c b L xs D cys ty ax am qo) (hn : n + 6 ≤ L) (hcs : cells ≤ 601024 ∧ slots ≤ 7293034) (hl : lv_has ls 7 (lw_lv b ax am qo n)) (hI : lw_I s D cys ty qo pvv H locs) (he : lw_E pvv) (G : lw_G p l e s m below meth c b D cys ty ax am qo n cells slots Q) : W p l e room_1 s m #[Value.ref b] below meth c H locs cells slots Q (F0 m 1137 ls []) := by
  have C' := C
  obtain ⟨⟨hx, hb, -⟩, -, -, -, ⟨hU, hun⟩, tx, tm, -⟩ := C
  have fin : ∀ (g g2 : Nat → Int32) (H : Heap) (locs : List Loc) (z z2 : Int32), z.toInt = z2.toInt → lw_E g2 → lw_I s D cys ty qo g2 H locs → W p l e room_1 s m #[Value.ref b] below meth c H locs cells slots Q (F0 m 1158 ls [.int z2]) := by
    intro g g2 H locs z z2 ez he2 hI
    refine lv_pop hx hb (show decode code 1158 = .ok (.pop, 1) by decide +kernel) rfl ?_
    refine lv_goto (tgt := 1212) hx hb (show decode code 1159 = .ok (.goto 53, 3) by decide +kernel) (by decide) ?_
    exact G g2 H locs ls hI he2 hl
  refine lv_aload_n hx hb (show decode code 1137 = .ok (.aload_n 1, 1) by decide +kernel) rfl (lv_at hl 1 rfl) ?_
  refine lw_arg C' hl rfl rfl hI.2.2.2 hn 1 1 (by decide) rfl (show dc_arg 1138 1 from ⟨by decide +kernel, by decide +kernel, by decide +kernel, by decide +kernel, by decide +kernel⟩) ?_
  have hlo := ck_lo (xs (n + 1))
  have hhi := ck_hi (xs (n + 1))
  have dA : decode code 1144 = .ok (.invokevirtual 178, 3) := by decide +kernel
  have dB : decode code 1155 = .ok (.invokevirtual 181, 3) := by decide +kernel
  have aB : dc_arg 1149 1 := ⟨by decide +kernel, by decide +kernel, by decide +kernel, by decide +kernel, by decide +kernel⟩
  rcases (show (xs (n + 1)).toInt < 0 ∨ (xs (n + 1)).toInt = 0 ∨ (xs (n + 1)).toInt = 1 ∨ 2 ≤ (xs (n + 1)).toInt by omega) with hc | hc | hc | hc
  · obtain ⟨mA, jA, pA, rA⟩ := lK_311 (l := l) (D := D) (cys := cys) hU hun
    obtain ⟨mB, jB, pB, rB⟩ := lK_353 (l := l) (D := D) (cys := cys) hU hun
    refine lw_any (b' := ax) (As := [.int (xs (n + 1))]) C' hl mA ls_311 jA (by rw [pA]; exact ⟨⟨ax, rfl, tx⟩, hr_aI hlo (by omega), trivial⟩) hI rfl rA hcs (Nat.zero_le _) dA (fun cs hcs1 z g H locs hco hI => ?_)
    refine lv_pop hx hb (show decode code 1147 = .ok (.pop, 1) by decide +kernel) rfl ?_
    refine lv_aload_n hx hb (show decode code 1148 = .ok (.aload_n 2, 1) by decide +kernel) rfl (lv_at hl 2 rfl) ?_
    refine lw_arg C' hl rfl rfl hI.2.2.2 hn 1 1 (by decide) rfl aB ?_
    refine lw_any (b' := am) (As := [.int (xs (n + 1))]) C' hl mB ls_353 jB (by rw [pB]; exact ⟨⟨am, rfl, tm⟩, hr_aI hlo (by omega), trivial⟩) hI rfl rB hcs (Nat.zero_le _) dB (fun cs2 hcs2 z2 g2 H locs hco2 hI => ?_)
    obtain ⟨a1, a2⟩ := lw_N lq_311 hcs1 hco
    obtain ⟨b1, b2⟩ := lw_N lq_353 hcs2 hco2
    exact fin g g2 H locs z z2 (by omega) (lw_E_same (fun j hj => (b2 j hj).trans (a2 j hj)) he) hI
  · obtain ⟨mA, jA, pA, rA⟩ := lK_312 (l := l) (D := D) (cys := cys) hU hun
    obtain ⟨mB, jB, pB, rB⟩ := lK_354 (l := l) (D := D) (cys := cys) hU hun
    refine lw_any (b' := ax) (As := [.int (xs (n + 1))]) C' hl mA ls_312 jA (by rw [pA]; exact ⟨⟨ax, rfl, tx⟩, hr_aI (by omega) (by omega), trivial⟩) hI rfl rA hcs (Nat.zero_le _) dA (fun cs hcs1 z g H locs hco hI => ?_)
    refine lv_pop hx hb (show decode code 1147 = .ok (.pop, 1) by decide +kernel) rfl ?_
    refine lv_aload_n hx hb (show decode code 1148 = .ok (.aload_n 2, 1) by decide +kernel) rfl (lv_at hl 2 rfl) ?_
    refine lw_arg C' hl rfl rfl hI.2.2.2 hn 1 1 (by decide) rfl aB ?_
    refine lw_any (b' := am) (As := [.int (xs (n + 1))]) C' hl mB ls_354 jB (by rw [pB]; exact ⟨⟨am, rfl, tm⟩, hr_aI (by omega) (by omega), trivial⟩) hI rfl rB hcs (Nat.zero_le _) dB (fun cs2 hcs2 z2 g2 H locs hco2 hI => ?_)
    obtain ⟨a1, a2, a3⟩ := lw_O (j := 26) lq_312 hcs1 hco
    obtain ⟨b1, b2, b3⟩ := lw_O (j := 28) lq_354 hcs2 hco2
    refine fin g g2 H locs z z2 (by omega) ⟨?_, ?_, ?_⟩ hI
    · rw [b3 0 (by decide) (by decide), b3 11 (by decide) (by decide), a3 0 (by decide) (by decide), a3 11 (by decide) (by decide)]; exact he.1
    · rw [b3 26 (by decide) (by decide), a2, b2]
    · rw [b3 27 (by decide) (by decide), b3 29 (by decide) (by decide), a3 27 (by decide) (by decide), a3 29 (by decide) (by decide)]; exact he.2.2
  · obtain ⟨mA, jA, pA, rA⟩ := lK_313 (l := l) (D := D) (cys := cys) hU hun
    obtain ⟨mB, jB, pB, rB⟩ := lK_355 (l := l) (D := D) (cys := cys) hU hun
    refine lw_any (b' := ax) (As := [.int (xs (n + 1))]) C' hl mA ls_313 jA (by rw [pA]; exact ⟨⟨ax, rfl, tx⟩, hr_aI (by omega) (by omega), trivial⟩) hI rfl rA hcs (Nat.zero_le _) dA (fun cs hcs1 z g H locs hco hI => ?_)
    refine lv_pop hx hb (show decode code 1147 = .ok (.pop, 1) by decide +kernel) rfl ?_
    refine lv_aload_n hx hb (show decode code 1148 = .ok (.aload_n 2, 1) by decide +kernel) rfl (lv_at hl 2 rfl) ?_
    refine lw_arg C' hl rfl rfl hI.2.2.2 hn 1 1 (by decide) rfl aB ?_
    refine lw_any (b' := am) (As := [.int (xs (n + 1))]) C' hl mB ls_355 jB (by rw [pB]; exact ⟨⟨am, rfl, tm⟩, hr_aI (by omega) (by omega), trivial⟩) hI rfl rB hcs (Nat.zero_le _) dB (fun cs2 hcs2 z2 g2 H locs hco2 hI => ?_)
    obtain ⟨a1, a2, a3⟩ := lw_O (j := 27) lq_313 hcs1 hco
    obtain ⟨b1, b2, b3⟩ := lw_O (j := 29) lq_355 hcs2 hco2
    refine fin g g2 H locs z z2 (by omega) ⟨?_, ?_, ?_⟩ hI
    · rw [b3 0 (by decide) (by decide), b3 11 (by decide) (by decide), a3 0 (by decide) (by decide), a3 11 (by decide) (by decide)]; exact he.1
    · rw [b3 26 (by decide) (by decide), b3 28 (by decide) (by decide), a3 26 (by decide) (by decide), a3 28 (by decide) (by decide)]; exact he.2.1
    · rw [b3 27 (by decide) (by decide), a2, b2]
  · obtain ⟨mA, jA, pA, rA⟩ := lK_314 (l := l) (D := D) (cys := cys) hU hun
    obtain ⟨mB, jB, pB, rB⟩ := lK_356 (l := l) (D := D) (cys := cys) hU hun
    refine lw_any (b' := ax) (As := [.int (xs (n + 1))]) C' hl mA ls_314 jA (by rw [pA]; exact ⟨⟨ax, rfl, tx⟩, hr_aI hc hhi, trivial⟩) hI rfl rA hcs (Nat.zero_le _) dA (fun cs hcs1 z g H locs hco hI => ?_)
    refine lv_pop hx hb (show decode code 1147 = .ok (.pop, 1) by decide +kernel) rfl ?_
    refine lv_aload_n hx hb (show decode code 1148 = .ok (.aload_n 2, 1) by decide +kernel) rfl (lv_at hl 2 rfl) ?_
    refine lw_arg C' hl rfl rfl hI.2.2.2 hn 1 1 (by decide) rfl aB ?_
    refine lw_any (b' := am) (As := [.int (xs (n + 1))]) C' hl mB ls_356 jB (by rw [pB]; exact ⟨⟨am, rfl, tm⟩, hr_aI hc hhi, trivial⟩) hI rfl rB hcs (Nat.zero_le _) dB (fun cs2 hcs2 z2 g2 H locs hco2 hI => ?_)
    obtain ⟨a1, a2⟩ := lw_N lq_314 hcs1 hco
    obtain ⟨b1, b2⟩ := lw_N lq_356 hcs2 hco2
    exact fin g g2 H locs z z2 (by omega) (lw_E_same (fun j hj => (b2 j hj).trans (a2 j hj)) he) hI
theorem lw_restore (C : lw_C p l s m c b L xs D cys ty ax am qo) (hn : n + 6 ≤ L) (hcs : cells ≤ 601024 ∧ slots ≤ 7293034) (hl : lv_has ls 7 (lw_lv b ax am qo n)) (hI : lw_I s D cys ty qo pvv H locs) (he : lw_E pvv) (G : lw_G p l e s m below meth c b D cys ty ax am qo n cells slots Q) : W p l e room_1 s m #[Value.ref b] below meth c H locs cells slots Q (F0 m 1162 ls []) := by
  have C' := C
  obtain ⟨⟨hx, hb, -⟩, -, -, -, ⟨hU, hun⟩, tx, tm, -⟩ := C
  have fin : ∀ (g g2 : Nat → Int32) (H : Heap) (locs : List Loc) (z z2 : Int32), z.toInt = z2.toInt → lw_E g2 → lw_I s D cys ty qo g2 H locs → W p l e room_1 s m #[Value.ref b] below meth c H locs cells slots Q (F0 m 1183 ls [.int z2]) := by
    intro g g2 H locs z z2 ez he2 hI
    refine lv_pop hx hb (show decode code 1183 = .ok (.pop, 1) by decide +kernel) rfl ?_
    refine lv_goto (tgt := 1212) hx hb (show decode code 1184 = .ok (.goto 28, 3) by decide +kernel) (by decide) ?_
    exact G g2 H locs ls hI he2 hl
  refine lv_aload_n hx hb (show decode code 1162 = .ok (.aload_n 1, 1) by decide +kernel) rfl (lv_at hl 1 rfl) ?_
  refine lw_arg C' hl rfl rfl hI.2.2.2 hn 1 1 (by decide) rfl (show dc_arg 1163 1 from ⟨by decide +kernel, by decide +kernel, by decide +kernel, by decide +kernel, by decide +kernel⟩) ?_
  have hlo := ck_lo (xs (n + 1))
  have hhi := ck_hi (xs (n + 1))
  have dA : decode code 1169 = .ok (.invokevirtual 182, 3) := by decide +kernel
  have dB : decode code 1180 = .ok (.invokevirtual 185, 3) := by decide +kernel
  have aB : dc_arg 1174 1 := ⟨by decide +kernel, by decide +kernel, by decide +kernel, by decide +kernel, by decide +kernel⟩
  rcases (show (xs (n + 1)).toInt < 0 ∨ (xs (n + 1)).toInt = 0 ∨ (xs (n + 1)).toInt = 1 ∨ 2 ≤ (xs (n + 1)).toInt by omega) with hc | hc | hc | hc
  · obtain ⟨mA, jA, pA, rA⟩ := lK_319 (l := l) (D := D) (cys := cys) hU hun
    obtain ⟨mB, jB, pB, rB⟩ := lK_359 (l := l) (D := D) (cys := cys) hU hun
    refine lw_any (b' := ax) (As := [.int (xs (n + 1))]) C' hl mA ls_319 jA (by rw [pA]; exact ⟨⟨ax, rfl, tx⟩, hr_aI hlo (by omega), trivial⟩) hI rfl rA hcs (Nat.zero_le _) dA (fun cs hcs1 z g H locs hco hI => ?_)
    refine lv_pop hx hb (show decode code 1172 = .ok (.pop, 1) by decide +kernel) rfl ?_
    refine lv_aload_n hx hb (show decode code 1173 = .ok (.aload_n 2, 1) by decide +kernel) rfl (lv_at hl 2 rfl) ?_
    refine lw_arg C' hl rfl rfl hI.2.2.2 hn 1 1 (by decide) rfl aB ?_
    refine lw_any (b' := am) (As := [.int (xs (n + 1))]) C' hl mB ls_359 jB (by rw [pB]; exact ⟨⟨am, rfl, tm⟩, hr_aI hlo (by omega), trivial⟩) hI rfl rB hcs (Nat.zero_le _) dB (fun cs2 hcs2 z2 g2 H locs hco2 hI => ?_)
    obtain ⟨a1, a2⟩ := lw_N lq_319 hcs1 hco
    obtain ⟨b1, b2⟩ := lw_N lq_359 hcs2 hco2
    exact fin g g2 H locs z z2 (by omega) (lw_E_same (fun j hj => (b2 j hj).trans (a2 j hj)) he) hI
  · obtain ⟨mA, jA, pA, rA⟩ := lK_320 (l := l) (D := D) (cys := cys) hU hun
    obtain ⟨mB, jB, pB, rB⟩ := lK_360 (l := l) (D := D) (cys := cys) hU hun
    refine lw_any (b' := ax) (As := [.int (xs (n + 1))]) C' hl mA ls_320 jA (by rw [pA]; exact ⟨⟨ax, rfl, tx⟩, hr_aI (by omega) (by omega), trivial⟩) hI rfl rA hcs (Nat.zero_le _) dA (fun cs hcs1 z g H locs hco hI => ?_)
    refine lv_pop hx hb (show decode code 1172 = .ok (.pop, 1) by decide +kernel) rfl ?_
    refine lv_aload_n hx hb (show decode code 1173 = .ok (.aload_n 2, 1) by decide +kernel) rfl (lv_at hl 2 rfl) ?_
    refine lw_arg C' hl rfl rfl hI.2.2.2 hn 1 1 (by decide) rfl aB ?_
    refine lw_any (b' := am) (As := [.int (xs (n + 1))]) C' hl mB ls_360 jB (by rw [pB]; exact ⟨⟨am, rfl, tm⟩, hr_aI (by omega) (by omega), trivial⟩) hI rfl rB hcs (Nat.zero_le _) dB (fun cs2 hcs2 z2 g2 H locs hco2 hI => ?_)
    obtain ⟨a1, a2⟩ := lw_F (j := 26) (by decide) lq_320 hcs1 hco
    obtain ⟨b1, b2⟩ := lw_F (j := 28) (by decide) lq_360 hcs2 hco2
    exact fin g g2 H locs z z2 (by rw [a1, b1, a2 28 (by decide), he.2.1]) (lw_E_same (fun j hj => (b2 j hj).trans (a2 j hj)) he) hI
  · obtain ⟨mA, jA, pA, rA⟩ := lK_321 (l := l) (D := D) (cys := cys) hU hun
    obtain ⟨mB, jB, pB, rB⟩ := lK_361 (l := l) (D := D) (cys := cys) hU hun
    refine lw_any (b' := ax) (As := [.int (xs (n + 1))]) C' hl mA ls_321 jA (by rw [pA]; exact ⟨⟨ax, rfl, tx⟩, hr_aI (by omega) (by omega), trivial⟩) hI rfl rA hcs (Nat.zero_le _) dA (fun cs hcs1 z g H locs hco hI => ?_)
    refine lv_pop hx hb (show decode code 1172 = .ok (.pop, 1) by decide +kernel) rfl ?_
    refine lv_aload_n hx hb (show decode code 1173 = .ok (.aload_n 2, 1) by decide +kernel) rfl (lv_at hl 2 rfl) ?_
    refine lw_arg C' hl rfl rfl hI.2.2.2 hn 1 1 (by decide) rfl aB ?_
    refine lw_any (b' := am) (As := [.int (xs (n + 1))]) C' hl mB ls_361 jB (by rw [pB]; exact ⟨⟨am, rfl, tm⟩, hr_aI (by omega) (by omega), trivial⟩) hI rfl rB hcs (Nat.zero_le _) dB (fun cs2 hcs2 z2 g2 H locs hco2 hI => ?_)
    obtain ⟨a1, a2⟩ := lw_F (j := 27) (by decide) lq_321 hcs1 hco
    obtain ⟨b1, b2⟩ := lw_F (j := 29) (by decide) lq_361 hcs2 hco2
    exact fin g g2 H locs z z2 (by rw [a1, b1, a2 29 (by decide), he.2.2]) (lw_E_same (fun j hj => (b2 j hj).trans (a2 j hj)) he) hI
  · obtain ⟨mA, jA, pA, rA⟩ := lK_322 (l := l) (D := D) (cys := cys) hU hun
    obtain ⟨mB, jB, pB, rB⟩ := lK_362 (l := l) (D := D) (cys := cys) hU hun
    refine lw_any (b' := ax) (As := [.int (xs (n + 1))]) C' hl mA ls_322 jA (by rw [pA]; exact ⟨⟨ax, rfl, tx⟩, hr_aI hc hhi, trivial⟩) hI rfl rA hcs (Nat.zero_le _) dA (fun cs hcs1 z g H locs hco hI => ?_)
    refine lv_pop hx hb (show decode code 1172 = .ok (.pop, 1) by decide +kernel) rfl ?_
    refine lv_aload_n hx hb (show decode code 1173 = .ok (.aload_n 2, 1) by decide +kernel) rfl (lv_at hl 2 rfl) ?_
    refine lw_arg C' hl rfl rfl hI.2.2.2 hn 1 1 (by decide) rfl aB ?_
    refine lw_any (b' := am) (As := [.int (xs (n + 1))]) C' hl mB ls_362 jB (by rw [pB]; exact ⟨⟨am, rfl, tm⟩, hr_aI hc hhi, trivial⟩) hI rfl rB hcs (Nat.zero_le _) dB (fun cs2 hcs2 z2 g2 H locs hco2 hI => ?_)
    obtain ⟨a1, a2⟩ := lw_N lq_322 hcs1 hco
    obtain ⟨b1, b2⟩ := lw_N lq_362 hcs2 hco2
    exact fin g g2 H locs z z2 (by omega) (lw_E_same (fun j hj => (b2 j hj).trans (a2 j hj)) he) hI
end LY

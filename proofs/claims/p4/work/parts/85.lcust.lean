/-! THE LAW, 8: feed, end, man, book, play. -/
theorem lm_313 : lc_mV RL 29 kc_313 11 := ⟨(in_r15 _ (List.mem_of_getElem? (i := 7) rfl)), (in_r1 _ (List.mem_of_getElem? (i := 2) rfl)), (in_r15 _ (List.mem_of_getElem? (i := 4) rfl)), (in_r15 _ (List.mem_of_getElem? (i := 5) rfl)), (in_r15 _ (List.mem_of_getElem? (i := 6) rfl)), by decide +kernel, _, _, _, _, rfl, rfl, rfl, rfl, by decide +kernel⟩
theorem lq_313 : ck_lawZ kc_313 0 = true := by decide +kernel
theorem lq_313S : ck_lawS kc_313 = true := by decide +kernel
theorem lm_354 : lc_mV RL 33 kc_354 12 := ⟨(in_r23 _ (List.mem_of_getElem? (i := 19) rfl)), (in_r1 _ (List.mem_of_getElem? (i := 5) rfl)), (in_r23 _ (List.mem_of_getElem? (i := 16) rfl)), (in_r23 _ (List.mem_of_getElem? (i := 17) rfl)), (in_r23 _ (List.mem_of_getElem? (i := 18) rfl)), by decide +kernel, _, _, _, _, rfl, rfl, rfl, rfl, by decide +kernel⟩
theorem lq_354 : ck_lawZ kc_354 11 = true := by decide +kernel
theorem lq_354S : ck_lawS kc_354 = true := by decide +kernel
theorem lw_ZZ {ty : Nat → Option Nat} {f g : Nat → Int32} {vs : List Value} {kc : ck_K} {cs : ck_Case} {r : Option Value} {j : Nat} (hk : ck_lawZ kc j = true) (hcs : cs ∈ k_cs kc) (hco : ck_caseOK ty cs vs f g r) : g j = 0 ∧ ∀ i ∈ lw_js, i ≠ j → g i = f i := by
  simp only [ck_lawZ, Bool.and_eq_true] at hk
  have h := List.all_eq_true.mp hk.2 cs hcs
  rw [Bool.and_eq_true] at h
  refine ⟨ck_z1_ok hco.2.2 h.1, fun i hi hne => ?_⟩
  have h2 := List.all_eq_true.mp h.2 i hi
  simp only [Bool.or_eq_true, decide_eq_true_eq] at h2
  exact hr_same1 hco.2.2 (h2.resolve_left hne)
theorem lm_172 : lc_mV RL 24 kc_172 11 := ⟨(in_r14 _ (List.mem_of_getElem? (i := 23) rfl)), (in_r1 _ (List.mem_of_getElem? (i := 2) rfl)), (in_r14 _ (List.mem_of_getElem? (i := 20) rfl)), (in_r14 _ (List.mem_of_getElem? (i := 21) rfl)), (in_r14 _ (List.mem_of_getElem? (i := 22) rfl)), by decide +kernel, _, _, _, _, rfl, rfl, rfl, rfl, by decide +kernel⟩
theorem lm_249 : lc_mV RL 28 kc_249 12 := ⟨(in_r15 _ (List.mem_of_getElem? (i := 3) rfl)), (in_r1 _ (List.mem_of_getElem? (i := 5) rfl)), (in_r15 _ (List.mem_of_getElem? (i := 0) rfl)), (in_r15 _ (List.mem_of_getElem? (i := 1) rfl)), (in_r15 _ (List.mem_of_getElem? (i := 2) rfl)), by decide +kernel, _, _, _, _, rfl, rfl, rfl, rfl, by decide +kernel⟩
theorem lm_263 : lc_mV RL 47 kc_263 12 := ⟨(in_r30 _ (List.mem_of_getElem? (i := 15) rfl)), (in_r1 _ (List.mem_of_getElem? (i := 5) rfl)), (in_r30 _ (List.mem_of_getElem? (i := 12) rfl)), (in_r30 _ (List.mem_of_getElem? (i := 13) rfl)), (in_r30 _ (List.mem_of_getElem? (i := 14) rfl)), by decide +kernel, _, _, _, _, rfl, rfl, rfl, rfl, by decide +kernel⟩
theorem lm_340 : lc_mV RL 162 kc_340 11 := ⟨(in_r57 _ (List.mem_of_getElem? (i := 16) rfl)), (in_r1 _ (List.mem_of_getElem? (i := 2) rfl)), (in_r57 _ (List.mem_of_getElem? (i := 13) rfl)), (in_r57 _ (List.mem_of_getElem? (i := 14) rfl)), (in_r57 _ (List.mem_of_getElem? (i := 15) rfl)), by decide +kernel, _, _, _, _, rfl, rfl, rfl, rfl, by decide +kernel⟩
theorem lm_341 : lc_mV RL 162 kc_341 11 := ⟨(in_r57 _ (List.mem_of_getElem? (i := 16) rfl)), (in_r1 _ (List.mem_of_getElem? (i := 2) rfl)), (in_r57 _ (List.mem_of_getElem? (i := 13) rfl)), (in_r57 _ (List.mem_of_getElem? (i := 14) rfl)), (in_r57 _ (List.mem_of_getElem? (i := 15) rfl)), by decide +kernel, _, _, _, _, rfl, rfl, rfl, rfl, by decide +kernel⟩
theorem lm_342 : lc_mV RL 162 kc_342 11 := ⟨(in_r57 _ (List.mem_of_getElem? (i := 16) rfl)), (in_r1 _ (List.mem_of_getElem? (i := 2) rfl)), (in_r57 _ (List.mem_of_getElem? (i := 13) rfl)), (in_r57 _ (List.mem_of_getElem? (i := 14) rfl)), (in_r57 _ (List.mem_of_getElem? (i := 15) rfl)), by decide +kernel, _, _, _, _, rfl, rfl, rfl, rfl, by decide +kernel⟩
theorem lm_344 : lc_mV RL 165 kc_344 12 := ⟨(in_r60 _ (List.mem_of_getElem? (i := 4) rfl)), (in_r1 _ (List.mem_of_getElem? (i := 5) rfl)), (in_r60 _ (List.mem_of_getElem? (i := 1) rfl)), (in_r60 _ (List.mem_of_getElem? (i := 2) rfl)), (in_r60 _ (List.mem_of_getElem? (i := 3) rfl)), by decide +kernel, _, _, _, _, rfl, rfl, rfl, rfl, by decide +kernel⟩
theorem lmN_11 : lc_mV RL 19 kn_feed11 11 := ⟨(in_r13 _ (List.mem_of_getElem? (i := 22) rfl)), (in_r1 _ (List.mem_of_getElem? (i := 2) rfl)), (in_r13 _ (List.mem_of_getElem? (i := 19) rfl)), (in_r13 _ (List.mem_of_getElem? (i := 20) rfl)), (in_r13 _ (List.mem_of_getElem? (i := 21) rfl)), by decide +kernel, _, _, _, _, rfl, rfl, rfl, rfl, by decide +kernel⟩
theorem lmN_12 : lc_mV RL 23 kn_feed12 12 := ⟨(in_r14 _ (List.mem_of_getElem? (i := 13) rfl)), (in_r1 _ (List.mem_of_getElem? (i := 5) rfl)), (in_r14 _ (List.mem_of_getElem? (i := 10) rfl)), (in_r14 _ (List.mem_of_getElem? (i := 11) rfl)), (in_r14 _ (List.mem_of_getElem? (i := 12) rfl)), by decide +kernel, _, _, _, _, rfl, rfl, rfl, rfl, by decide +kernel⟩
theorem lK_263 {l : Launch} {D : va_G} {cys : Nat → ClassId} {ty : Nat → Option Nat} (hU : ck_uq ty ck_pvs0) (hun : ck_un ty) : lw_K l D cys ty kc_263 47 12 [cF, cF] := ⟨lm_263, ch_all hU hun 263 (by decide), rfl, by decide, by decide⟩
theorem lK_340 {l : Launch} {D : va_G} {cys : Nat → ClassId} {ty : Nat → Option Nat} (hU : ck_uq ty ck_pvs0) (hun : ck_un ty) : lw_K l D cys ty kc_340 162 11 [.inl (-2147483648, -1, [])] := ⟨lm_340, ch_all hU hun 340 (by decide), rfl, by decide, by decide⟩
theorem lK_341 {l : Launch} {D : va_G} {cys : Nat → ClassId} {ty : Nat → Option Nat} (hU : ck_uq ty ck_pvs0) (hun : ck_un ty) : lw_K l D cys ty kc_341 162 11 [.inl (0, 1, [])] := ⟨lm_341, ch_all hU hun 341 (by decide), rfl, by decide, by decide⟩
theorem lK_342 {l : Launch} {D : va_G} {cys : Nat → ClassId} {ty : Nat → Option Nat} (hU : ck_uq ty ck_pvs0) (hun : ck_un ty) : lw_K l D cys ty kc_342 162 11 [.inl (2, 2147483647, [])] := ⟨lm_342, ch_all hU hun 342 (by decide), rfl, by decide, by decide⟩
theorem lK_344 {l : Launch} {D : va_G} {cys : Nat → ClassId} {ty : Nat → Option Nat} (hU : ck_uq ty ck_pvs0) (hun : ck_un ty) : lw_K l D cys ty kc_344 165 12 [cF] := ⟨lm_344, ch_all hU hun 344 (by decide), rfl, by decide, by decide⟩
theorem lsN_11 : ck_lawS kn_feed11 = true := by decide +kernel
theorem lsN_12 : ck_lawS kn_feed12 = true := by decide +kernel
theorem ls_344 : ck_lawS kc_344 = true := by decide +kernel
theorem lk_263 : ck_lawK kc_263 = true := by decide +kernel
theorem lk_340 : ck_lawK kc_340 = true := by decide +kernel
theorem lk_342 : ck_lawK kc_342 = true := by decide +kernel
theorem lz_341 : ck_lawZ kc_341 0 = true := by decide +kernel
theorem pM_P : ck_wkB pPM pP = true := by decide +kernel
section LD
variable {ty : Nat → Option Nat} {f g : Nat → Int32}
theorem lw_rest {post : List ck_AV} {k : Nat} (h : lw_js.all (fun i => decide (i = k) || ck_same1 post i) = true) (hp : ck_pvo ty (ck_XE f) post g) : ∀ i ∈ lw_js, i ≠ k → g i = f i := fun i hi hne => by
  have h2 := List.all_eq_true.mp h i hi
  simp only [Bool.or_eq_true, decide_eq_true_eq] at h2
  exact hr_same1 hp (h2.resolve_left hne)
theorem fd_A {cs : ck_Case} (hcs : cs ∈ k_cs kn_feed11) (hp : ck_pvo ty (ck_XE f) cs.2.2 g) : (∀ i ∈ lw_js, i ≠ 0 → g i = f i) ∧ (((g 0).toInt = (f 0).toInt ∧ 921 ≤ (g 0).toInt) ∨ ((g 0).toInt = (f 0).toInt + 20 ∧ (g 0).toInt ≤ 940)) := by
  rcases List.mem_cons.mp hcs with h | h
  · have h : cs = (some (.inl (-1, -1, [])), [], (pU.set 0 (.inl (921, 940, [(2000, 0, 0)])))) := h
    subst h
    have h1 := hr_pv hp 0 (lo := 921) (hi := 940) (ds := [(2000, 0, 0)]) rfl
    have h2 := hr_pd hp 0 0 (lo := 921) (hi := 940) (a := 0) (b := 0) (ds := [(2000, 0, 0)]) rfl (List.mem_singleton.mpr rfl)
    exact ⟨lw_rest (by decide +kernel) hp, Or.inl ⟨by omega, h1.1⟩⟩
  · have h : cs = (some (.inl (20, 940, [])), [], (pU.set 0 (.inl (20, 940, [(2000, 20, 20)])))) := List.mem_singleton.mp h
    subst h
    have h1 := hr_pv hp 0 (lo := 20) (hi := 940) (ds := [(2000, 20, 20)]) rfl
    have h2 := hr_pd hp 0 0 (lo := 20) (hi := 940) (a := 20) (b := 20) (ds := [(2000, 20, 20)]) rfl (List.mem_singleton.mpr rfl)
    exact ⟨lw_rest (by decide +kernel) hp, Or.inr ⟨by omega, h1.2⟩⟩
theorem fd_B {cs : ck_Case} (hcs : cs ∈ k_cs kn_feed12) (hp : ck_pvo ty (ck_XE f) cs.2.2 g) : (∀ i ∈ lw_js, i ≠ 11 → g i = f i) ∧ (((g 11).toInt = (f 11).toInt ∧ 921 ≤ (g 11).toInt) ∨ ((g 11).toInt = (f 11).toInt + 20 ∧ (g 11).toInt ≤ 940)) := by
  rcases List.mem_cons.mp hcs with h | h
  · have h : cs = (some (.inl (-1, -1, [])), [], (pUM.set 11 (.inl (921, 940, [(2022, 0, 0)])))) := h
    subst h
    have h1 := hr_pv hp 11 (lo := 921) (hi := 940) (ds := [(2022, 0, 0)]) rfl
    have h2 := hr_pd hp 11 11 (lo := 921) (hi := 940) (a := 0) (b := 0) (ds := [(2022, 0, 0)]) rfl (List.mem_singleton.mpr rfl)
    exact ⟨lw_rest (by decide +kernel) hp, Or.inl ⟨by omega, h1.1⟩⟩
  · have h : cs = (some (.inl (20, 940, [])), [], (pUM.set 11 (.inl (20, 940, [(2022, 20, 20)])))) := List.mem_singleton.mp h
    subst h
    have h1 := hr_pv hp 11 (lo := 20) (hi := 940) (ds := [(2022, 20, 20)]) rfl
    have h2 := hr_pd hp 11 11 (lo := 20) (hi := 940) (a := 20) (b := 20) (ds := [(2022, 20, 20)]) rfl (List.mem_singleton.mpr rfl)
    exact ⟨lw_rest (by decide +kernel) hp, Or.inr ⟨by omega, h1.2⟩⟩
def bk_z (q : ck_Case) : Bool := match q.2.1 with
  | [(1, lo, hi)] => (decide (0 ≤ lo) && decide (hi ≤ 1) && ck_z1 q.2.2 11 && lw_js.all (fun i => decide (i = 11) || ck_same1 q.2.2 i)) || (decide (hi ≤ -1) || decide (2 ≤ lo)) && ck_same1 q.2.2 11 && lw_js.all (fun i => decide (i = 11) || ck_same1 q.2.2 i)
  | _ => false
theorem bk_all : (k_cs kc_344).all bk_z = true := by decide +kernel
theorem bk_B {cs : ck_Case} {a : Nat} {x : Int32} {r : Option Value} (hcs : cs ∈ k_cs kc_344) (hco : ck_caseOK ty cs [.ref a, .int x] f g r) : (∀ i ∈ lw_js, i ≠ 11 → g i = f i) ∧ ((0 ≤ x.toInt ∧ x.toInt ≤ 1 ∧ g 11 = 0) ∨ ((x.toInt < 0 ∨ 2 ≤ x.toInt) ∧ g 11 = f 11)) := by
  have h := List.all_eq_true.mp bk_all cs hcs
  obtain ⟨av, rg, post⟩ := cs
  unfold bk_z at h
  dsimp only at h
  split at h
  · next lo hi =>
    obtain ⟨y, e, g1, g2⟩ := hco.2.1 (1, lo, hi) (List.mem_singleton.mpr rfl)
    cases e
    dsimp only at g1 g2
    simp only [Bool.or_eq_true, Bool.and_eq_true, decide_eq_true_eq] at h
    rcases h with ⟨⟨⟨h1, h2⟩, h3⟩, h4⟩ | ⟨⟨h1, h3⟩, h4⟩
    · exact ⟨lw_rest h4 hco.2.2, Or.inl ⟨by omega, by omega, ck_z1_ok hco.2.2 h3⟩⟩
    · exact ⟨lw_rest h4 hco.2.2, Or.inr ⟨by omega, hr_same1 hco.2.2 h3⟩⟩
  · cases h
theorem li_upd {j : Nat} {x : Int32} (hP : pPM[j]? = some (.inl (0, 940, []))) (hd : pPM.all (fun av => match av with
    | .inl r => r.2.2.all (fun d => decide (d.1 / 2 - 1000 ≠ j))
    | _ => false) = true) (h0 : 0 ≤ x.toInt) (h1 : x.toInt ≤ 940) (h : ck_pvo ty (ck_XE f) pPM f) : ck_pvo ty (ck_XE (upd f j x)) pPM (upd f j x) := by
  intro i av hi
  have hall := List.all_eq_true.mp hd av (List.mem_of_getElem? hi)
  by_cases e : i = j
  · subst e
    rw [hP] at hi
    cases hi
    rw [pk_us]
    exact ⟨x, rfl, h0, h1, fun d hd => by cases hd⟩
  · rw [pk_un e]
    match av, h i av hi, hall with
    | .inl r, ⟨y, hy, g1, g2, g3⟩, hall =>
      refine ⟨y, hy, g1, g2, fun d hd => ?_⟩
      have h2 := of_decide_eq_true (List.all_eq_true.mp hall d hd)
      have h3 := g3 d hd
      unfold ck_XE at h3 ⊢
      rw [pk_un h2]
      exact h3
end LD
section LX
variable {p : Program} {l : Launch} {e : Env} {s : State} {m : MethodId} {below : List Frame} {meth : Method} {c : Code} {H : Heap} {locs : List Loc} {cells slots : Nat} {Q : State → Prop} {ls : Array Slot}
variable {b L : Nat} {xs : Nat → Int32} {D : va_G} {cys : Nat → ClassId} {ty : Nat → Option Nat} {ax am qo n : Nat} {pvv : Nat → Int32}
theorem lw_cells (hW : ck_Wo D cys ty ck_tags ck_pvs0 (GE ty) pvv H) (tx : ty ax = some 11) (tm : ty am = some 12) : (∃ a, ty a = some 15) ∧ (∃ a, ty a = some 49) ∧ (∃ a, ty a = some 16) ∧ (∃ a, ty a = some 50) ∧ ∃ a, ty a = some 10 := by
  obtain ⟨b8, t8⟩ := hr_fld hW tx rfl (j := 0) (t' := 8) rfl
  obtain ⟨b10, t10⟩ := hr_fld hW t8 rfl (j := 1) (t' := 10) rfl
  exact ⟨hr_fld hW t10 rfl (j := 0) (t' := 15) rfl, hr_fld hW tm rfl (j := 1) (t' := 49) rfl, hr_fld hW t8 rfl (j := 0) (t' := 16) rfl, hr_fld hW tm rfl (j := 10) (t' := 50) rfl, b10, t10⟩
theorem zf_x (x : Int32) : zf_i x.toInt := ⟨ck_lo x, ck_hi x⟩
theorem mN_11 (hU : ev_uq ty ev_TR) {C : ev_C} {x1 x2 x3 x4 x5 : Int} {r : Int} {C' : ev_C} (h : f_11_feed C x1 x2 x3 x4 x5 = some (r, C')) : ev_Met l D cys ty ck_tags ev_TR kn_feed11 [.inr (.inl 11), .inl x1, .inl x2, .inl x3, .inl x4, .inl x5] C (fun r0 C0 => r0 = some (.inl r) ∧ C0 = C') :=
  evm_c (k := kh_11_feed) ((rfl : k_y kh_11_feed = yX11_feed).trans (rfl : yX11_feed = k_y kn_feed11)) ((rfl : ck_ws kh_11_feed = (Jvm.Cond.code yX11_feed cX11_feed 6 (some .int) :: wsL_law0)).trans (rfl : (Jvm.Cond.code yX11_feed cX11_feed 6 (some .int) :: wsL_law0) = ck_ws kn_feed11)) ((rfl : ck_rm kh_11_feed = ({ frames := 3, cells := 0, slots := 0, locals := 54 } : Room)).trans (rfl : ({ frames := 3, cells := 0, slots := 0, locals := 54 } : Room) = ck_rm kn_feed11)) (m_11_feed hU h)
theorem mN_12 (hU : ev_uq ty ev_TR) {C : ev_C} {x1 x2 x3 x4 x5 : Int} {r : Int} {C' : ev_C} (h : f_12_feed C x1 x2 x3 x4 x5 = some (r, C')) : ev_Met l D cys ty ck_tags ev_TR kn_feed12 [.inr (.inl 12), .inl x1, .inl x2, .inl x3, .inl x4, .inl x5] C (fun r0 C0 => r0 = some (.inl r) ∧ C0 = C') :=
  evm_c (k := kh_12_feed) ((rfl : k_y kh_12_feed = yX12_feed).trans (rfl : yX12_feed = k_y kn_feed12)) ((rfl : ck_ws kh_12_feed = (Jvm.Cond.code yX12_feed cX12_feed 6 (some .int) :: wsL_law0)).trans (rfl : (Jvm.Cond.code yX12_feed cX12_feed 6 (some .int) :: wsL_law0) = ck_ws kn_feed12)) ((rfl : ck_rm kh_12_feed = ({ frames := 2, cells := 0, slots := 0, locals := 34 } : Room)).trans (rfl : ({ frames := 2, cells := 0, slots := 0, locals := 34 } : Room) = ck_rm kn_feed12)) (m_12_feed hU h)
theorem lw_feed (C : lw_C p l s m c b L xs D cys ty ax am qo) (hn : n + 6 ≤ L) (hcs : cells ≤ 601024 ∧ slots ≤ 7293034) (hl : lv_has ls 7 (lw_lv b ax am qo n)) (hI : lw_I s D cys ty qo pvv H locs) (he : lw_E pvv) (G : lw_G p l e s m below meth c b D cys ty ax am qo n cells slots Q) : W p l e room_1 s m #[Value.ref b] below meth c H locs cells slots Q (F0 m 220 ls []) := by
  have C' := C
  obtain ⟨⟨hx, hb, -⟩, -, -, -, ⟨hU, hun⟩, tx, tm, -⟩ := C
  have hUx := ev_uqT hun
  obtain ⟨i1, i2, i3, i4⟩ := hI
  obtain ⟨n15, n49, n16, n50, n10⟩ := lw_cells i2 tx tm
  obtain ⟨K, hG, hW⟩ := ge_out i2
  obtain ⟨M, hM, m1, m2, m3, m4⟩ := ev_mem hUx hW hG.1 n15 n49 n16 n50 n10 ⟨am, tm⟩
  have r0 := hr_pv i1 0 (lo := 0) (hi := 940) (ds := []) rfl
  have q1 : ∀ k : Nat, k < 940 → M 15 k = M 49 k := fun k hk => by rw [(m1 k hk).1, (m1 k hk).2, hG.1.1 k hk]
  have q2 : M 12 2 = (pvv 0).toInt := by rw [m4, he.1]
  obtain ⟨r, M1, -, f1, -, -, f2, -⟩ := zf_alike (zf_x (xs (n + 1))) (zf_x (xs (n + 2))) (zf_x (xs (n + 3))) (zf_x (xs (n + 4))) (zf_x (xs (n + 5))) q1 m3 q2 r0.1 r0.2
  obtain ⟨r', M1', M2, f3, f4, f5, -, f6⟩ := zf_alike (C2 := M1) (zf_x (xs (n + 1))) (zf_x (xs (n + 2))) (zf_x (xs (n + 3))) (zf_x (xs (n + 4))) (zf_x (xs (n + 5))) (fun k hk => by rw [f2 49 (by decide) (by decide)]; exact q1 k hk) m3 (by rw [f2 12 (by decide) (by decide)]; exact q2) r0.1 r0.2
  rw [f1] at f3
  have e9 : M1' = M1 := (Prod.mk.inj (Option.some.inj f3)).2.symm
  rw [e9] at f5
  refine lv_aload_n hx hb (show decode code 220 = .ok (.aload_n 1, 1) by decide +kernel) rfl (lv_at hl 1 rfl) ?_
  refine lw_arg C' hl rfl rfl i4 hn 1 1 (by decide) rfl (show dc_arg 221 1 from ⟨by decide +kernel, by decide +kernel, by decide +kernel, by decide +kernel, by decide +kernel⟩) ?_
  refine lw_arg C' hl rfl rfl i4 hn 2 2 (by decide) rfl (show dc_arg 227 2 from ⟨by decide +kernel, by decide +kernel, by decide +kernel, by decide +kernel, by decide +kernel⟩) ?_
  refine lw_arg C' hl rfl rfl i4 hn 3 3 (by decide) rfl (show dc_arg 233 3 from ⟨by decide +kernel, by decide +kernel, by decide +kernel, by decide +kernel, by decide +kernel⟩) ?_
  refine lw_arg C' hl rfl rfl i4 hn 4 4 (by decide) rfl (show dc_arg 239 4 from ⟨by decide +kernel, by decide +kernel, by decide +kernel, by decide +kernel, by decide +kernel⟩) ?_
  refine lw_arg C' hl rfl rfl i4 hn 5 5 (by decide) rfl (show dc_arg 245 5 from ⟨by decide +kernel, by decide +kernel, by decide +kernel, by decide +kernel, by decide +kernel⟩) ?_
  refine lw_ex (kc := kn_feed11) (Ex := tk ty ck_protN K) (M := M) (A := [.inr (.inl 11), .inl (xs (n + 1)).toInt, .inl (xs (n + 2)).toInt, .inl (xs (n + 3)).toInt, .inl (xs (n + 4)).toInt, .inl (xs (n + 5)).toInt]) (b' := ax) (As := [.int (xs (n + 1)), .int (xs (n + 2)), .int (xs (n + 3)), .int (xs (n + 4)), .int (xs (n + 5))]) C' hl lmN_11 lsN_11 (chN hU hun (tk_ExP (fun _ _ h => h)) 4 (by decide)) (mN_11 hUx f1) ⟨⟨ax, rfl, tx⟩, hr_aF, hr_aF, hr_aF, hr_aF, hr_aF, trivial⟩ ⟨⟨ax, rfl, tx⟩, ⟨_, rfl, rfl⟩, ⟨_, rfl, rfl⟩, ⟨_, rfl, rfl⟩, ⟨_, rfl, rfl⟩, ⟨_, rfl, rfl⟩, trivial⟩ ⟨i1, hr_mono (fun _ h => tkN_of h) hW, i3, i4⟩ hM rfl ⟨by decide, by decide⟩ hcs (Nat.zero_le _) (show decode code 251 = .ok (.invokevirtual 19, 3) by decide +kernel) (fun cs hcs1 z g H locs r3 M3 hco hr3 hq3 hJ hE => ?_)
  obtain ⟨-, rfl⟩ := hq3
  have f1 := fd_A hcs1 hco.2.2
  refine lv_pop hx hb (show decode code 254 = .ok (.pop, 1) by decide +kernel) rfl ?_
  refine lv_aload_n hx hb (show decode code 255 = .ok (.aload_n 2, 1) by decide +kernel) rfl (lv_at hl 2 rfl) ?_
  refine lw_arg C' hl rfl rfl hJ.2.2.2 hn 1 1 (by decide) rfl (show dc_arg 256 1 from ⟨by decide +kernel, by decide +kernel, by decide +kernel, by decide +kernel, by decide +kernel⟩) ?_
  refine lw_arg C' hl rfl rfl hJ.2.2.2 hn 2 2 (by decide) rfl (show dc_arg 262 2 from ⟨by decide +kernel, by decide +kernel, by decide +kernel, by decide +kernel, by decide +kernel⟩) ?_
  refine lw_arg C' hl rfl rfl hJ.2.2.2 hn 3 3 (by decide) rfl (show dc_arg 268 3 from ⟨by decide +kernel, by decide +kernel, by decide +kernel, by decide +kernel, by decide +kernel⟩) ?_
  refine lw_arg C' hl rfl rfl hJ.2.2.2 hn 4 4 (by decide) rfl (show dc_arg 274 4 from ⟨by decide +kernel, by decide +kernel, by decide +kernel, by decide +kernel, by decide +kernel⟩) ?_
  refine lw_arg C' hl rfl rfl hJ.2.2.2 hn 5 5 (by decide) rfl (show dc_arg 280 5 from ⟨by decide +kernel, by decide +kernel, by decide +kernel, by decide +kernel, by decide +kernel⟩) ?_
  refine lw_ex (kc := kn_feed12) (Ex := tk ty ck_protN K) (A := [.inr (.inl 12), .inl (xs (n + 1)).toInt, .inl (xs (n + 2)).toInt, .inl (xs (n + 3)).toInt, .inl (xs (n + 4)).toInt, .inl (xs (n + 5)).toInt]) (b' := am) (As := [.int (xs (n + 1)), .int (xs (n + 2)), .int (xs (n + 3)), .int (xs (n + 4)), .int (xs (n + 5))]) C' hl lmN_12 lsN_12 (chN hU hun (tk_ExP (fun _ _ h => h)) 5 (by decide)) (mN_12 hUx f4) ⟨⟨am, rfl, tm⟩, hr_aF, hr_aF, hr_aF, hr_aF, hr_aF, trivial⟩ ⟨⟨am, rfl, tm⟩, ⟨_, rfl, rfl⟩, ⟨_, rfl, rfl⟩, ⟨_, rfl, rfl⟩, ⟨_, rfl, rfl⟩, ⟨_, rfl, rfl⟩, trivial⟩ hJ hE rfl ⟨by decide, by decide⟩ hcs (Nat.zero_le _) (show decode code 286 = .ok (.invokevirtual 23, 3) by decide +kernel) (fun cs2 hcs2 z2 g2 H locs r4 M4 hco2 hr4 hq4 hJ2 hE2 => ?_)
  obtain ⟨-, rfl⟩ := hq4
  have f2 := fd_B hcs2 hco2.2.2
  refine lv_pop hx hb (show decode code 289 = .ok (.pop, 1) by decide +kernel) rfl ?_
  refine lv_goto (tgt := 1212) hx hb (show decode code 290 = .ok (.goto 922, 3) by decide +kernel) (by decide) ?_
  refine G g2 H locs ls ⟨hJ2.1, ge_back hJ2.2.1 hE2 hG n15 n49 (fun k hk => by rw [f6 15 (by decide) (by decide)]; exact f5 k hk), hJ2.2.2.1, hJ2.2.2.2⟩ ?_ hl
  obtain ⟨a1, a2⟩ := f1
  obtain ⟨b1, b2⟩ := f2
  rw [a1 11 (by decide) (by decide)] at b2
  rw [he.1] at a2
  refine ⟨?_, by rw [b1 26 (by decide) (by decide), b1 28 (by decide) (by decide), a1 26 (by decide) (by decide), a1 28 (by decide) (by decide)]; exact he.2.1, by rw [b1 27 (by decide) (by decide), b1 29 (by decide) (by decide), a1 27 (by decide) (by decide), a1 29 (by decide) (by decide)]; exact he.2.2⟩
  refine Int32.toInt_inj.mp ?_
  rw [b1 0 (by decide) (by decide)]
  rcases a2 with ⟨u1, u2⟩ | ⟨u1, u2⟩ <;> rcases b2 with ⟨v1, v2⟩ | ⟨v1, v2⟩ <;> omega
theorem lw_play (C : lw_C p l s m c b L xs D cys ty ax am qo) (hn : n + 6 ≤ L) (hcs : cells ≤ 601024 ∧ slots ≤ 7293034) (hl : lv_has ls 7 (lw_lv b ax am qo n)) (hI : lw_I s D cys ty qo pvv H locs) (he : lw_E pvv) (G : lw_G p l e s m below meth c b D cys ty ax am qo n cells slots Q) : W p l e room_1 s m #[Value.ref b] below meth c H locs cells slots Q (F0 m 318 ls []) := by
  have C' := C
  obtain ⟨⟨hx, hb, -⟩, -, -, -, ⟨hU, hun⟩, tx, tm, -⟩ := C
  have hUx := ev_uqT hun
  obtain ⟨i1, i2, i3, i4⟩ := hI
  obtain ⟨n15, n49, n16, n50, n10⟩ := lw_cells i2 tx tm
  obtain ⟨K, hG, hW⟩ := ge_out i2
  obtain ⟨M, hM, m1, m2, m3, m4⟩ := ev_mem hUx hW hG.1 n15 n49 n16 n50 n10 ⟨am, tm⟩
  have r0 := hr_pv i1 0 (lo := 0) (hi := 940) (ds := []) rfl
  have hB : z_B M M := ⟨fun k hk => ⟨by rw [(m1 k hk).1, (m1 k hk).2, hG.1.1 k hk], by rw [(m1 k hk).1]; exact ck_lo _, by rw [(m1 k hk).1]; exact ck_hi _⟩, by rw [m3, m4, he.1], by rw [m3]; exact r0, m2⟩
  obtain ⟨r, M1, -, f1, -, -⟩ := z_play hB
  refine lv_aload_n hx hb (show decode code 318 = .ok (.aload_n 1, 1) by decide +kernel) rfl (lv_at hl 1 rfl) ?_
  refine lw_ex (kc := kc_313) (Ex := tk ty ck_prot1 K) (M := M) (A := [.inr (.inl 11)]) (b' := ax) (As := []) C' hl lm_313 lq_313S (ch2 hU hun (ch0 hU hun) (ch1 hU hun (ch0 hU hun)) _ tk_X1 313 (by decide)) (m_11_play hUx f1) ⟨⟨ax, rfl, tx⟩, trivial⟩ ⟨⟨ax, rfl, tx⟩, trivial⟩ ⟨i1, hW, i3, i4⟩ hM rfl ⟨by decide, by decide⟩ hcs (Nat.zero_le _) (show decode code 319 = .ok (.invokevirtual 29, 3) by decide +kernel) (fun cs hcs1 z g H locs r3 M3 hco hr3 hq3 hJ hE => ?_)
  obtain ⟨rfl, rfl⟩ := hq3
  have y3 : z.toInt = r := by
    obtain ⟨x, e, y⟩ := hr3
    cases e
    exact y
  obtain ⟨a0, a1⟩ := lw_ZZ lq_313 hcs1 hco
  obtain ⟨M', hM', m1', m2', m3', m4'⟩ := ev_mem hUx hJ.2.1 hG.1 n15 n49 n16 n50 n10 ⟨am, tm⟩
  have hB' : z_B M M' := ⟨fun k hk => ⟨by rw [(m1 k hk).1, (m1' k hk).2, hG.1.1 k hk], by rw [(m1 k hk).1]; exact ck_lo _, by rw [(m1 k hk).1]; exact ck_hi _⟩, by rw [m3, m4', a1 11 (by decide) (by decide), he.1], by rw [m3]; exact r0, fun j hj => ⟨(m2 j hj).1, (m2' j hj).2⟩⟩
  obtain ⟨r', M1', M2, f3, f4, -⟩ := z_play hB'
  rw [f1] at f3
  have e9 : r' = r := (Prod.mk.inj (Option.some.inj f3)).1.symm
  rw [e9] at f4
  refine lv_aload_n hx hb (show decode code 322 = .ok (.aload_n 2, 1) by decide +kernel) rfl (lv_at hl 2 rfl) ?_
  refine lw_ex (kc := kc_354) (Ex := GE ty) (M := M') (A := [.inr (.inl 12)]) (b' := am) (As := []) (rest := [.int z]) C' hl lm_354 lq_354S (ch_all hU hun 354 (by decide)) (m_12_play hUx f4) ⟨⟨am, rfl, tm⟩, trivial⟩ ⟨⟨am, rfl, tm⟩, trivial⟩ ⟨hJ.1, ge_in hJ.2.1 hG, hJ.2.2.1, hJ.2.2.2⟩ hM' rfl ⟨by decide, by decide⟩ hcs (Nat.le_of_ble_eq_true rfl) (show decode code 323 = .ok (.invokevirtual 33, 3) by decide +kernel) (fun cs2 hcs2 z2 g2 H locs r4 M4 hco2 hr4 hq4 hJ2 hE2 => ?_)
  obtain ⟨rfl, rfl⟩ := hq4
  have y4 : z2.toInt = r := by
    obtain ⟨x, e, y⟩ := hr4
    cases e
    exact y
  obtain ⟨b0, b1⟩ := lw_ZZ lq_354 hcs2 hco2
  refine lv_icmp_eq (tgt := 1212) hx hb (show decode code 326 = .ok (.if_icmp .eq 886, 3) by decide +kernel) (by decide) (fun _ => ?_) (fun h => absurd (Int32.toInt_inj.mp (y3.trans y4.symm)) h)
  refine G g2 H locs ls hJ2 ⟨?_, ?_, ?_⟩ hl
  · rw [b1 0 (by decide) (by decide), a0, b0]
  · rw [b1 26 (by decide) (by decide), b1 28 (by decide) (by decide), a1 26 (by decide) (by decide), a1 28 (by decide) (by decide)]; exact he.2.1
  · rw [b1 27 (by decide) (by decide), b1 29 (by decide) (by decide), a1 27 (by decide) (by decide), a1 29 (by decide) (by decide)]; exact he.2.2
theorem lw_end (C : lw_C p l s m c b L xs D cys ty ax am qo) (hn : n + 6 ≤ L) (hcs : cells ≤ 601024 ∧ slots ≤ 7293034) (hl : lv_has ls 7 (lw_lv b ax am qo n)) (hI : lw_I s D cys ty qo pvv H locs) (he : lw_E pvv) (G : lw_G p l e s m below meth c b D cys ty ax am qo n cells slots Q) : W p l e room_1 s m #[Value.ref b] below meth c H locs cells slots Q (F0 m 293 ls []) := by
  have C' := C
  obtain ⟨F, -, -, -, ⟨hU, hun⟩, tx, tm, hqo, hA, -⟩ := C
  have hx := F.1
  have hb := F.2.1
  refine lv_aload_n hx hb (show decode code 293 = .ok (.aload_n 1, 1) by decide +kernel) rfl (lv_at hl 1 rfl) ?_
  refine lw_arg C' hl rfl rfl hI.2.2.2 hn 1 1 (by decide) rfl (show dc_arg 294 1 from ⟨by decide +kernel, by decide +kernel, by decide +kernel, by decide +kernel, by decide +kernel⟩) ?_
  obtain ⟨i1, i2, i3, i4⟩ := hI
  have r0 := hr_pv i1 0 (lo := 0) (hi := 940) (ds := []) rfl
  refine lc_afterR (lc_runV (kc := kc_172) (b := ax) (As := [.int (xs (n + 1))]) F hl lm_172 (hs_11_end (x1 := xs (n + 1)) hU tx) ⟨⟨ax, rfl, tx⟩, hr_aF, trivial⟩ i2 rfl ⟨by decide, by decide⟩ hcs (Nat.zero_le _) (show decode code 300 = .ok (.invokevirtual 24, 3) by decide +kernel)) i4 hA (fun r g E' H1 locs1 hP hW hS hkp => ?_)
  obtain ⟨rfl, z, rfl, hz⟩ := hP
  have o1 : lo_P D cys qo H1 := lo_kept i3 (hkp.2 qo (lo_lt i3) hqo)
  have j1 : ck_pvo ty (ck_XE g) pPM g := by
    rcases hz with ⟨z1, z2, -, rfl⟩ | ⟨-, -, rfl⟩
    · exact li_upd rfl (by decide +kernel) z1 (by omega) i1
    · exact i1
  have e11 : g 11 = pvv 11 := by
    rcases hz with ⟨-, -, -, rfl⟩ | ⟨-, -, rfl⟩
    · exact pk_un (by decide)
    · rfl
  refine lv_pop hx hb (show decode code 303 = .ok (.pop, 1) by decide +kernel) rfl ?_
  refine lv_aload_n hx hb (show decode code 304 = .ok (.aload_n 2, 1) by decide +kernel) rfl (lv_at hl 2 rfl) ?_
  refine lw_arg C' hl rfl rfl hS hn 1 1 (by decide) rfl (show dc_arg 305 1 from ⟨by decide +kernel, by decide +kernel, by decide +kernel, by decide +kernel, by decide +kernel⟩) ?_
  refine lc_afterR (lc_runV (kc := kc_249) (b := am) (As := [.int (xs (n + 1))]) F hl lm_249 (hs_12_end (x1 := xs (n + 1)) hU tm) ⟨⟨am, rfl, tm⟩, hr_aF, trivial⟩ hW rfl ⟨by decide, by decide⟩ hcs (Nat.zero_le _) (show decode code 311 = .ok (.invokevirtual 28, 3) by decide +kernel)) hS hA (fun r g2 E' H2 locs2 hP hW2 hS2 hkp2 => ?_)
  obtain ⟨rfl, z2, rfl, hy⟩ := hP
  have o2 : lo_P D cys qo H2 := lo_kept o1 (hkp2.2 qo (lo_lt o1) hqo)
  rw [e11, ← he.1] at hy
  have fin : z = z2 ∧ lw_E g2 ∧ ck_pvo ty (ck_XE g2) pPM g2 := by
    rcases hz with ⟨a1, a2, a3, rfl⟩ | ⟨a1, a2, rfl⟩ <;> rcases hy with ⟨b1, b2, b3, rfl⟩ | ⟨b1, b2, rfl⟩
    · refine ⟨Int32.toInt_inj.mp (by omega), ?_, li_upd rfl (by decide +kernel) b1 (by omega) j1⟩
      refine ⟨by rw [pk_us, pk_un (by decide), pk_us], ?_, ?_⟩
      · rw [pk_un (by decide), pk_un (by decide), pk_un (by decide), pk_un (by decide)]; exact he.2.1
      · rw [pk_un (by decide), pk_un (by decide), pk_un (by decide), pk_un (by decide)]; exact he.2.2
    · exact absurd ⟨a1, a2⟩ b1
    · exact absurd ⟨b1, b2⟩ a1
    · exact ⟨Int32.toInt_inj.mp (by omega), he, i1⟩
  refine lv_pop hx hb (show decode code 314 = .ok (.pop, 1) by decide +kernel) rfl ?_
  refine lv_goto (tgt := 1212) hx hb (show decode code 315 = .ok (.goto 897, 3) by decide +kernel) (by decide) ?_
  exact G g2 H2 locs2 ls ⟨fin.2.2, hW2, o2, hS2⟩ fin.2.1 hl
theorem lw_book (C : lw_C p l s m c b L xs D cys ty ax am qo) (hn : n + 6 ≤ L) (hcs : cells ≤ 601024 ∧ slots ≤ 7293034) (hl : lv_has ls 7 (lw_lv b ax am qo n)) (hI : lw_I s D cys ty qo pvv H locs) (he : lw_E pvv) (G : lw_G p l e s m below meth c b D cys ty ax am qo n cells slots Q) : W p l e room_1 s m #[Value.ref b] below meth c H locs cells slots Q (F0 m 1049 ls []) := by
  have C' := C
  obtain ⟨⟨hx, hb, -⟩, -, -, -, ⟨hU, hun⟩, tx, tm, -⟩ := C
  have tail : ∀ (g : Nat → Int32) (H : Heap) (locs : List Loc) (z : Int32), (∀ i ∈ lw_js, i ≠ 0 → g i = pvv i) → ((0 ≤ (xs (n + 1)).toInt ∧ (xs (n + 1)).toInt ≤ 1 ∧ g 0 = 0) ∨ (((xs (n + 1)).toInt < 0 ∨ 2 ≤ (xs (n + 1)).toInt) ∧ g 0 = pvv 0)) → lw_I s D cys ty qo g H locs → W p l e room_1 s m #[Value.ref b] below meth c H locs cells slots Q (F0 m 1059 ls [.int z]) := by
    intro g H locs z e11 e0 hI
    obtain ⟨mB, jB, pB, rB⟩ := lK_344 (l := l) (D := D) (cys := cys) hU hun
    refine lv_pop hx hb (show decode code 1059 = .ok (.pop, 1) by decide +kernel) rfl ?_
    refine lv_aload_n hx hb (show decode code 1060 = .ok (.aload_n 2, 1) by decide +kernel) rfl (lv_at hl 2 rfl) ?_
    refine lw_arg C' hl rfl rfl hI.2.2.2 hn 1 1 (by decide) rfl (show dc_arg 1061 1 from ⟨by decide +kernel, by decide +kernel, by decide +kernel, by decide +kernel, by decide +kernel⟩) ?_
    refine lw_any (b' := am) (As := [.int (xs (n + 1))]) C' hl mB ls_344 jB (by rw [pB]; exact ⟨⟨am, rfl, tm⟩, hr_aF, trivial⟩) hI rfl rB hcs (Nat.zero_le _) (show decode code 1067 = .ok (.invokevirtual 165, 3) by decide +kernel) (fun cs2 hcs2 z2 g2 H locs hco2 hI => ?_)
    have f2 := bk_B hcs2 hco2
    refine lv_pop hx hb (show decode code 1070 = .ok (.pop, 1) by decide +kernel) rfl ?_
    refine lv_goto (tgt := 1212) hx hb (show decode code 1071 = .ok (.goto 141, 3) by decide +kernel) (by decide) ?_
    have k1 := f2.1
    refine G g2 H locs ls hI ⟨?_, by rw [k1 26 (by decide) (by decide), k1 28 (by decide) (by decide), e11 26 (by decide) (by decide), e11 28 (by decide) (by decide)]; exact he.2.1, by rw [k1 27 (by decide) (by decide), k1 29 (by decide) (by decide), e11 27 (by decide) (by decide), e11 29 (by decide) (by decide)]; exact he.2.2⟩ hl
    rw [k1 0 (by decide) (by decide)]
    rcases e0 with ⟨u1, u2, u3⟩ | ⟨u1, u3⟩ <;> rcases f2.2 with ⟨v1, v2, v3⟩ | ⟨v1, v3⟩
    · rw [u3, v3]
    · omega
    · omega
    · rw [u3, v3, e11 11 (by decide) (by decide)]; exact he.1
  refine lv_aload_n hx hb (show decode code 1049 = .ok (.aload_n 1, 1) by decide +kernel) rfl (lv_at hl 1 rfl) ?_
  refine lw_arg C' hl rfl rfl hI.2.2.2 hn 1 1 (by decide) rfl (show dc_arg 1050 1 from ⟨by decide +kernel, by decide +kernel, by decide +kernel, by decide +kernel, by decide +kernel⟩) ?_
  have hlo := ck_lo (xs (n + 1))
  have hhi := ck_hi (xs (n + 1))
  have dc : decode code 1056 = .ok (.invokevirtual 162, 3) := by decide +kernel
  rcases (show (xs (n + 1)).toInt < 0 ∨ (0 ≤ (xs (n + 1)).toInt ∧ (xs (n + 1)).toInt ≤ 1) ∨ 2 ≤ (xs (n + 1)).toInt by omega) with hc | hc | hc
  · obtain ⟨mA, jA, pA, rA⟩ := lK_340 (l := l) (D := D) (cys := cys) hU hun
    refine lw_keep (b' := ax) (As := [.int (xs (n + 1))]) C' hl mA lk_340 jA (by rw [pA]; exact ⟨⟨ax, rfl, tx⟩, hr_aI hlo (by omega), trivial⟩) hI rfl rA hcs (Nat.zero_le _) dc (fun z g H locs e1 hI => ?_)
    exact tail g H locs z (fun i hi _ => e1 i hi) (Or.inr ⟨Or.inl hc, e1 0 (by decide)⟩) hI
  · obtain ⟨mA, jA, pA, rA⟩ := lK_341 (l := l) (D := D) (cys := cys) hU hun
    refine lw_zero (b' := ax) (As := [.int (xs (n + 1))]) C' hl mA lz_341 jA (by rw [pA]; exact ⟨⟨ax, rfl, tx⟩, hr_aI hc.1 hc.2, trivial⟩) hI rfl rA hcs (Nat.zero_le _) dc (fun z g H locs e0 e11 hI => ?_)
    exact tail g H locs z e11 (Or.inl ⟨hc.1, hc.2, e0⟩) hI
  · obtain ⟨mA, jA, pA, rA⟩ := lK_342 (l := l) (D := D) (cys := cys) hU hun
    refine lw_keep (b' := ax) (As := [.int (xs (n + 1))]) C' hl mA lk_342 jA (by rw [pA]; exact ⟨⟨ax, rfl, tx⟩, hr_aI hc hhi, trivial⟩) hI rfl rA hcs (Nat.zero_le _) dc (fun z g H locs e1 hI => ?_)
    exact tail g H locs z (fun i hi _ => e1 i hi) (Or.inr ⟨Or.inr hc, e1 0 (by decide)⟩) hI
theorem lm_good : GoodIn lw_tbl (va_wsS RL 42 yL_man (Jvm.Cond.codeWith yL_man cL_man 5 (some .int) [(0, 10, 13, 13)] :: mn_ws)) := fun w hw => by
  have key : ∀ w ∈ wsL_law0, w ∈ lw_tbl ∧ ((w.onTables && w.keeps) = true ∨ ∃ ty, w = .arrayClass ty) := fun w hw => ⟨tb_law w hw, ck_good w hw⟩
  rcases List.mem_append.mp hw with hw | hw
  · rcases List.mem_cons.mp hw with rfl | hw
    · exact key _ (in_r29 _ (List.mem_of_getElem? (i := 9) rfl))
    · rcases List.mem_cons.mp hw with rfl | hw
      · exact key _ (in_r29 _ (List.mem_of_getElem? (i := 10) rfl))
      · rcases List.mem_cons.mp hw with rfl | hw
        · exact ⟨(List.mem_of_getElem? (i := 105) (by decide +kernel)), Or.inl (by decide)⟩
        · cases hw
  · exact mn_good tb_mn (in_r29 _ (List.mem_of_getElem? (i := 12) rfl)) w hw
theorem lw_man (C : lw_C p l s m c b L xs D cys ty ax am qo) (hn : n + 6 ≤ L) (hcs : cells + 1 ≤ 601024 ∧ slots + 6 ≤ 7293034) (hl : lv_has ls 7 (lw_lv b ax am qo n)) (hI : lw_I s D cys ty qo pvv H locs) (he : lw_E pvv) (G : lw_G p l e s m below meth c b D cys ty ax am qo n (cells + 1) (slots + 6) Q) : W p l e room_1 s m #[Value.ref b] below meth c H locs cells slots Q (F0 m 381 ls []) := by
  have C' := C
  obtain ⟨F, -, -, -, ⟨hU, hun⟩, tx, tm, hqo, hA, hAq, hst, hmT, hmS⟩ := C
  obtain ⟨hx, hb, hml, hts, hin, hown, hK, hN⟩ := F
  refine lv_aload_n hx hb (show decode code 381 = .ok (.aload_n 1, 1) by decide +kernel) rfl (lv_at hl 1 rfl) ?_
  refine lw_arg C' hl rfl rfl hI.2.2.2 hn 1 1 (by decide) rfl (show dc_arg 382 1 from ⟨by decide +kernel, by decide +kernel, by decide +kernel, by decide +kernel, by decide +kernel⟩) ?_
  refine lw_arg C' hl rfl rfl hI.2.2.2 hn 2 2 (by decide) rfl (show dc_arg 388 2 from ⟨by decide +kernel, by decide +kernel, by decide +kernel, by decide +kernel, by decide +kernel⟩) ?_
  refine lv_aload_n hx hb (show decode code 394 = .ok (.aload_n 3, 1) by decide +kernel) rfl (lv_at hl 3 rfl) ?_
  obtain ⟨i1, i2, i3, i4⟩ := hI
  have hF : ∀ q, lo_A ty qo q → lw_A s q := fun q h => by
    rcases h with h | h
    · exact hA q h
    · rw [h]; exact hAq
  have hS1 : mn_S (lo_A ty qo) s H := mn_S_narrow (mn_S_kept hmS i4.2.1) hF
  refine va_calli (vx_runSW (y := yL_man) (bytes := cL_man) (maxL := 5) (ret := some .int) (hh := [(0, 10, 13, 13)]) (n := 4) (own := RL) (index := 42) (As := [.ref ax, .int (xs (n + 1)), .int (xs (n + 2)), .ref qo]) (rest := []) ⟨hx, hb, hml, hown, hts⟩ (mn_law (x1 := xs (n + 1)) (x2 := xs (n + 2)) hU hun hst tx hqo (hr_wk i1 pM_P)) (vx_cwSW 4 hts lm_good rfl rfl rfl (by decide +kernel) ⟨Nat.le_of_ble_eq_true rfl, Nat.le_of_ble_eq_true rfl⟩) ⟨fun a U g mk h => ⟨h.1, (mn_blind a U g mk ⟨h.1, h.2.1⟩).2, h.2.2⟩, fun U hU0 hWm => ⟨rfl, ⟨⟨by rw [hU0]; exact i2, va_K.moved hWm.alike hK, ck_nest_warm hWm hN⟩, mn_T_warm hWm hmT, by rw [hU0]; exact mn_S_moved hWm.alike hS1⟩, by rw [hU0]; exact i3⟩⟩ rfl rfl hl.1 rfl (lv_room (Nat.zero_le _)) (show decode code 395 = .ok (.invokestatic 42, 3) by decide +kernel) hcs) i4 (fun q _ h => hF q h) hF (fun r u t H1 locs1 ht hv _ hB hz hk hS2 => ?_)
  have hB : ck_Wo D cys ty ck_tags ck_pvs0 (GE ty) pvv t.heap ∧ lo_P D cys qo t.heap := hB
  rw [ht] at hB
  have hI : lw_I s D cys ty qo pvv H1 locs1 := ⟨i1, hB.1, hB.2, hS2⟩
  refine lv_istore (lv' := (5, .int r) :: lw_lv b ax am qo n) hx hb (show decode code 398 = .ok (.istore 5, 2) by decide +kernel) hl (by decide) rfl (fun ls hl => ?_)
  have hl : lv_has ls 7 (lw_lv b ax am qo n) := lv_sub hl [1, 2, 3, 4, 5] rfl
  obtain ⟨mB, jB, pB, rB⟩ := lK_263 (l := l) (D := D) (cys := cys) hU hun
  refine lv_aload_n hx hb (show decode code 400 = .ok (.aload_n 2, 1) by decide +kernel) rfl (lv_at hl 2 rfl) ?_
  refine lw_arg C' hl rfl rfl hI.2.2.2 hn 1 1 (by decide) rfl (show dc_arg 401 1 from ⟨by decide +kernel, by decide +kernel, by decide +kernel, by decide +kernel, by decide +kernel⟩) ?_
  refine lw_arg C' hl rfl rfl hI.2.2.2 hn 2 2 (by decide) rfl (show dc_arg 407 2 from ⟨by decide +kernel, by decide +kernel, by decide +kernel, by decide +kernel, by decide +kernel⟩) ?_
  refine lw_keep (b' := am) (As := [.int (xs (n + 1)), .int (xs (n + 2))]) C' hl mB lk_263 jB (by rw [pB]; exact ⟨⟨am, rfl, tm⟩, hr_aF, hr_aF, trivial⟩) hI rfl rB hcs (Nat.zero_le _) (show decode code 413 = .ok (.invokevirtual 47, 3) by decide +kernel) (fun z g H locs e1 hI => ?_)
  refine lv_istore (lv' := (6, .int z) :: lw_lv b ax am qo n) hx hb (show decode code 416 = .ok (.istore 6, 2) by decide +kernel) hl (by decide) rfl (fun ls hl => ?_)
  refine lv_goto (tgt := 1212) hx hb (show decode code 418 = .ok (.goto 794, 3) by decide +kernel) (by decide) ?_
  exact G g H locs ls hI (lw_E_same e1 he) (lv_sub hl [1, 2, 3, 4, 5] rfl)
end LX
theorem lm_307 : lc_mV RL 178 kc_307 11 := ⟨(in_r66 _ (List.mem_of_getElem? (i := 9) rfl)), (in_r1 _ (List.mem_of_getElem? (i := 2) rfl)), (in_r66 _ (List.mem_of_getElem? (i := 6) rfl)), (in_r66 _ (List.mem_of_getElem? (i := 7) rfl)), (in_r66 _ (List.mem_of_getElem? (i := 8) rfl)), by decide +kernel, _, _, _, _, rfl, rfl, rfl, rfl, by decide +kernel⟩
theorem lK_307 {l : Launch} {D : va_G} {cys : Nat → ClassId} {ty : Nat → Option Nat} (hU : ck_uq ty ck_pvs0) (hun : ck_un ty) : lw_K l D cys ty kc_307 178 11 [.inl (-2147483648, -1, [])] := ⟨lm_307, ch_all hU hun 307 (by decide), rfl, by decide, by decide⟩
theorem lm_308 : lc_mV RL 178 kc_308 11 := ⟨(in_r66 _ (List.mem_of_getElem? (i := 9) rfl)), (in_r1 _ (List.mem_of_getElem? (i := 2) rfl)), (in_r66 _ (List.mem_of_getElem? (i := 6) rfl)), (in_r66 _ (List.mem_of_getElem? (i := 7) rfl)), (in_r66 _ (List.mem_of_getElem? (i := 8) rfl)), by decide +kernel, _, _, _, _, rfl, rfl, rfl, rfl, by decide +kernel⟩
theorem lK_308 {l : Launch} {D : va_G} {cys : Nat → ClassId} {ty : Nat → Option Nat} (hU : ck_uq ty ck_pvs0) (hun : ck_un ty) : lw_K l D cys ty kc_308 178 11 [.inl (0, 0, [])] := ⟨lm_308, ch_all hU hun 308 (by decide), rfl, by decide, by decide⟩
theorem lm_309 : lc_mV RL 178 kc_309 11 := ⟨(in_r66 _ (List.mem_of_getElem? (i := 9) rfl)), (in_r1 _ (List.mem_of_getElem? (i := 2) rfl)), (in_r66 _ (List.mem_of_getElem? (i := 6) rfl)), (in_r66 _ (List.mem_of_getElem? (i := 7) rfl)), (in_r66 _ (List.mem_of_getElem? (i := 8) rfl)), by decide +kernel, _, _, _, _, rfl, rfl, rfl, rfl, by decide +kernel⟩
theorem lK_309 {l : Launch} {D : va_G} {cys : Nat → ClassId} {ty : Nat → Option Nat} (hU : ck_uq ty ck_pvs0) (hun : ck_un ty) : lw_K l D cys ty kc_309 178 11 [.inl (1, 1, [])] := ⟨lm_309, ch_all hU hun 309 (by decide), rfl, by decide, by decide⟩
theorem lm_310 : lc_mV RL 178 kc_310 11 := ⟨(in_r66 _ (List.mem_of_getElem? (i := 9) rfl)), (in_r1 _ (List.mem_of_getElem? (i := 2) rfl)), (in_r66 _ (List.mem_of_getElem? (i := 6) rfl)), (in_r66 _ (List.mem_of_getElem? (i := 7) rfl)), (in_r66 _ (List.mem_of_getElem? (i := 8) rfl)), by decide +kernel, _, _, _, _, rfl, rfl, rfl, rfl, by decide +kernel⟩
theorem lK_310 {l : Launch} {D : va_G} {cys : Nat → ClassId} {ty : Nat → Option Nat} (hU : ck_uq ty ck_pvs0) (hun : ck_un ty) : lw_K l D cys ty kc_310 178 11 [.inl (2, 2147483647, [])] := ⟨lm_310, ch_all hU hun 310 (by decide), rfl, by decide, by decide⟩
theorem lm_349 : lc_mV RL 181 kc_349 12 := ⟨(in_r66 _ (List.mem_of_getElem? (i := 17) rfl)), (in_r1 _ (List.mem_of_getElem? (i := 5) rfl)), (in_r66 _ (List.mem_of_getElem? (i := 14) rfl)), (in_r66 _ (List.mem_of_getElem? (i := 15) rfl)), (in_r66 _ (List.mem_of_getElem? (i := 16) rfl)), by decide +kernel, _, _, _, _, rfl, rfl, rfl, rfl, by decide +kernel⟩
theorem lK_349 {l : Launch} {D : va_G} {cys : Nat → ClassId} {ty : Nat → Option Nat} (hU : ck_uq ty ck_pvs0) (hun : ck_un ty) : lw_K l D cys ty kc_349 181 12 [.inl (-2147483648, -1, [])] := ⟨lm_349, ch_all hU hun 349 (by decide), rfl, by decide, by decide⟩
theorem lm_350 : lc_mV RL 181 kc_350 12 := ⟨(in_r66 _ (List.mem_of_getElem? (i := 17) rfl)), (in_r1 _ (List.mem_of_getElem? (i := 5) rfl)), (in_r66 _ (List.mem_of_getElem? (i := 14) rfl)), (in_r66 _ (List.mem_of_getElem? (i := 15) rfl)), (in_r66 _ (List.mem_of_getElem? (i := 16) rfl)), by decide +kernel, _, _, _, _, rfl, rfl, rfl, rfl, by decide +kernel⟩
theorem lK_350 {l : Launch} {D : va_G} {cys : Nat → ClassId} {ty : Nat → Option Nat} (hU : ck_uq ty ck_pvs0) (hun : ck_un ty) : lw_K l D cys ty kc_350 181 12 [.inl (0, 0, [])] := ⟨lm_350, ch_all hU hun 350 (by decide), rfl, by decide, by decide⟩
theorem lm_351 : lc_mV RL 181 kc_351 12 := ⟨(in_r66 _ (List.mem_of_getElem? (i := 17) rfl)), (in_r1 _ (List.mem_of_getElem? (i := 5) rfl)), (in_r66 _ (List.mem_of_getElem? (i := 14) rfl)), (in_r66 _ (List.mem_of_getElem? (i := 15) rfl)), (in_r66 _ (List.mem_of_getElem? (i := 16) rfl)), by decide +kernel, _, _, _, _, rfl, rfl, rfl, rfl, by decide +kernel⟩
theorem lK_351 {l : Launch} {D : va_G} {cys : Nat → ClassId} {ty : Nat → Option Nat} (hU : ck_uq ty ck_pvs0) (hun : ck_un ty) : lw_K l D cys ty kc_351 181 12 [.inl (1, 1, [])] := ⟨lm_351, ch_all hU hun 351 (by decide), rfl, by decide, by decide⟩
theorem lm_352 : lc_mV RL 181 kc_352 12 := ⟨(in_r66 _ (List.mem_of_getElem? (i := 17) rfl)), (in_r1 _ (List.mem_of_getElem? (i := 5) rfl)), (in_r66 _ (List.mem_of_getElem? (i := 14) rfl)), (in_r66 _ (List.mem_of_getElem? (i := 15) rfl)), (in_r66 _ (List.mem_of_getElem? (i := 16) rfl)), by decide +kernel, _, _, _, _, rfl, rfl, rfl, rfl, by decide +kernel⟩
theorem lK_352 {l : Launch} {D : va_G} {cys : Nat → ClassId} {ty : Nat → Option Nat} (hU : ck_uq ty ck_pvs0) (hun : ck_un ty) : lw_K l D cys ty kc_352 181 12 [.inl (2, 2147483647, [])] := ⟨lm_352, ch_all hU hun 352 (by decide), rfl, by decide, by decide⟩
theorem lm_315 : lc_mV RL 182 kc_315 11 := ⟨(in_r66 _ (List.mem_of_getElem? (i := 21) rfl)), (in_r1 _ (List.mem_of_getElem? (i := 2) rfl)), (in_r66 _ (List.mem_of_getElem? (i := 18) rfl)), (in_r66 _ (List.mem_of_getElem? (i := 19) rfl)), (in_r66 _ (List.mem_of_getElem? (i := 20) rfl)), by decide +kernel, _, _, _, _, rfl, rfl, rfl, rfl, by decide +kernel⟩
theorem lK_315 {l : Launch} {D : va_G} {cys : Nat → ClassId} {ty : Nat → Option Nat} (hU : ck_uq ty ck_pvs0) (hun : ck_un ty) : lw_K l D cys ty kc_315 182 11 [.inl (-2147483648, -1, [])] := ⟨lm_315, ch_all hU hun 315 (by decide), rfl, by decide, by decide⟩
theorem lm_316 : lc_mV RL 182 kc_316 11 := ⟨(in_r66 _ (List.mem_of_getElem? (i := 21) rfl)), (in_r1 _ (List.mem_of_getElem? (i := 2) rfl)), (in_r66 _ (List.mem_of_getElem? (i := 18) rfl)), (in_r66 _ (List.mem_of_getElem? (i := 19) rfl)), (in_r66 _ (List.mem_of_getElem? (i := 20) rfl)), by decide +kernel, _, _, _, _, rfl, rfl, rfl, rfl, by decide +kernel⟩
theorem lK_316 {l : Launch} {D : va_G} {cys : Nat → ClassId} {ty : Nat → Option Nat} (hU : ck_uq ty ck_pvs0) (hun : ck_un ty) : lw_K l D cys ty kc_316 182 11 [.inl (0, 0, [])] := ⟨lm_316, ch_all hU hun 316 (by decide), rfl, by decide, by decide⟩
theorem lm_317 : lc_mV RL 182 kc_317 11 := ⟨(in_r66 _ (List.mem_of_getElem? (i := 21) rfl)), (in_r1 _ (List.mem_of_getElem? (i := 2) rfl)), (in_r66 _ (List.mem_of_getElem? (i := 18) rfl)), (in_r66 _ (List.mem_of_getElem? (i := 19) rfl)), (in_r66 _ (List.mem_of_getElem? (i := 20) rfl)), by decide +kernel, _, _, _, _, rfl, rfl, rfl, rfl, by decide +kernel⟩
theorem lK_317 {l : Launch} {D : va_G} {cys : Nat → ClassId} {ty : Nat → Option Nat} (hU : ck_uq ty ck_pvs0) (hun : ck_un ty) : lw_K l D cys ty kc_317 182 11 [.inl (1, 1, [])] := ⟨lm_317, ch_all hU hun 317 (by decide), rfl, by decide, by decide⟩
theorem lm_318 : lc_mV RL 182 kc_318 11 := ⟨(in_r66 _ (List.mem_of_getElem? (i := 21) rfl)), (in_r1 _ (List.mem_of_getElem? (i := 2) rfl)), (in_r66 _ (List.mem_of_getElem? (i := 18) rfl)), (in_r66 _ (List.mem_of_getElem? (i := 19) rfl)), (in_r66 _ (List.mem_of_getElem? (i := 20) rfl)), by decide +kernel, _, _, _, _, rfl, rfl, rfl, rfl, by decide +kernel⟩
theorem lK_318 {l : Launch} {D : va_G} {cys : Nat → ClassId} {ty : Nat → Option Nat} (hU : ck_uq ty ck_pvs0) (hun : ck_un ty) : lw_K l D cys ty kc_318 182 11 [.inl (2, 2147483647, [])] := ⟨lm_318, ch_all hU hun 318 (by decide), rfl, by decide, by decide⟩
theorem lm_355 : lc_mV RL 185 kc_355 12 := ⟨(in_r67 _ (List.mem_of_getElem? (i := 1) rfl)), (in_r1 _ (List.mem_of_getElem? (i := 5) rfl)), (in_r66 _ (List.mem_of_getElem? (i := 22) rfl)), (in_r66 _ (List.mem_of_getElem? (i := 23) rfl)), (in_r67 _ (List.mem_of_getElem? (i := 0) rfl)), by decide +kernel, _, _, _, _, rfl, rfl, rfl, rfl, by decide +kernel⟩
theorem lK_355 {l : Launch} {D : va_G} {cys : Nat → ClassId} {ty : Nat → Option Nat} (hU : ck_uq ty ck_pvs0) (hun : ck_un ty) : lw_K l D cys ty kc_355 185 12 [.inl (-2147483648, -1, [])] := ⟨lm_355, ch_all hU hun 355 (by decide), rfl, by decide, by decide⟩
theorem lm_356 : lc_mV RL 185 kc_356 12 := ⟨(in_r67 _ (List.mem_of_getElem? (i := 1) rfl)), (in_r1 _ (List.mem_of_getElem? (i := 5) rfl)), (in_r66 _ (List.mem_of_getElem? (i := 22) rfl)), (in_r66 _ (List.mem_of_getElem? (i := 23) rfl)), (in_r67 _ (List.mem_of_getElem? (i := 0) rfl)), by decide +kernel, _, _, _, _, rfl, rfl, rfl, rfl, by decide +kernel⟩
theorem lK_356 {l : Launch} {D : va_G} {cys : Nat → ClassId} {ty : Nat → Option Nat} (hU : ck_uq ty ck_pvs0) (hun : ck_un ty) : lw_K l D cys ty kc_356 185 12 [.inl (0, 0, [])] := ⟨lm_356, ch_all hU hun 356 (by decide), rfl, by decide, by decide⟩
theorem lm_357 : lc_mV RL 185 kc_357 12 := ⟨(in_r67 _ (List.mem_of_getElem? (i := 1) rfl)), (in_r1 _ (List.mem_of_getElem? (i := 5) rfl)), (in_r66 _ (List.mem_of_getElem? (i := 22) rfl)), (in_r66 _ (List.mem_of_getElem? (i := 23) rfl)), (in_r67 _ (List.mem_of_getElem? (i := 0) rfl)), by decide +kernel, _, _, _, _, rfl, rfl, rfl, rfl, by decide +kernel⟩
theorem lK_357 {l : Launch} {D : va_G} {cys : Nat → ClassId} {ty : Nat → Option Nat} (hU : ck_uq ty ck_pvs0) (hun : ck_un ty) : lw_K l D cys ty kc_357 185 12 [.inl (1, 1, [])] := ⟨lm_357, ch_all hU hun 357 (by decide), rfl, by decide, by decide⟩
theorem lm_358 : lc_mV RL 185 kc_358 12 := ⟨(in_r67 _ (List.mem_of_getElem? (i := 1) rfl)), (in_r1 _ (List.mem_of_getElem? (i := 5) rfl)), (in_r66 _ (List.mem_of_getElem? (i := 22) rfl)), (in_r66 _ (List.mem_of_getElem? (i := 23) rfl)), (in_r67 _ (List.mem_of_getElem? (i := 0) rfl)), by decide +kernel, _, _, _, _, rfl, rfl, rfl, rfl, by decide +kernel⟩
theorem lK_358 {l : Launch} {D : va_G} {cys : Nat → ClassId} {ty : Nat → Option Nat} (hU : ck_uq ty ck_pvs0) (hun : ck_un ty) : lw_K l D cys ty kc_358 185 12 [.inl (2, 2147483647, [])] := ⟨lm_358, ch_all hU hun 358 (by decide), rfl, by decide, by decide⟩
/-- the answer is exactly v -/
def ck_an (v : Int) (cs : ck_Case) : Bool := match cs.1 with
  | some (.inl r) => decide (r.1 = v) && decide (r.2.1 = v)
  | _ => false
/-- the answer is what stands at the place j -/
def ck_fl (j : Nat) (cs : ck_Case) : Bool := match cs.1, cs.2.2[j]? with
  | some (.inl r), some (.inl q) => decide (r.1 = r.2.1) && decide (q.1 = r.1) && decide (q.2.1 = r.1)
  | _, _ => false
def ck_o1 (post : List ck_AV) (j : Nat) : Bool := match post[j]? with
  | some (.inl r) => decide (r.1 = 1) && decide (r.2.1 = 1)
  | _ => false
def ck_lawN (kc : ck_K) : Bool := ck_lawK kc && (k_cs kc).all (ck_an 0)
def ck_lawF (kc : ck_K) (j : Nat) : Bool := ck_lawK kc && (k_cs kc).all (ck_fl j)
def ck_lawO (kc : ck_K) (j : Nat) : Bool := ck_lawS kc && (k_cs kc).all (fun cs => ck_an 1 cs && ck_o1 cs.2.2 j && lw_js.all (fun i => decide (i = j) || ck_same1 cs.2.2 i))
section LQ
variable {ty : Nat → Option Nat} {f g : Nat → Int32} {z : Int32} {vs : List Value} {kc : ck_K} {cs : ck_Case}
theorem ck_an_ok {v : Int} (h : ck_an v cs = true) (hr : ck_rv ty cs.1 (some (.int z))) : z.toInt = v := by
  unfold ck_an at h
  split at h
  · next r e =>
    rw [e] at hr
    obtain ⟨y, ey, h1, h2, -⟩ := hr
    cases ey
    simp only [Bool.and_eq_true, decide_eq_true_eq] at h
    omega
  · cases h
theorem ck_fl_ok {j : Nat} (h : ck_fl j cs = true) (hco : ck_caseOK ty cs vs f g (some (.int z))) : z.toInt = (g j).toInt := by
  unfold ck_fl at h
  split at h
  · next r q e1 e2 =>
    have hr := hco.1
    rw [e1] at hr
    obtain ⟨y, ey, h1, h2, -⟩ := hr
    cases ey
    obtain ⟨w, ew, h3, h4, -⟩ := hco.2.2 j _ e2
    cases ew
    simp only [Bool.and_eq_true, decide_eq_true_eq] at h
    omega
  · cases h
theorem ck_o1_ok {post : List ck_AV} {X : Nat → Int} {j : Nat} (h : ck_o1 post j = true) (hp : ck_pvo ty X post g) : g j = 1 := by
  unfold ck_o1 at h
  split at h
  · next r hr =>
    simp only [Bool.and_eq_true, decide_eq_true_eq] at h
    obtain ⟨x, e, h1, h2, -⟩ := hp j _ hr
    cases e
    refine Int32.toInt_inj.mp ?_
    rw [show (1 : Int32).toInt = 1 from rfl]
    omega
  · cases h
theorem lw_N (hk : ck_lawN kc = true) (hcs : cs ∈ k_cs kc) (hco : ck_caseOK ty cs vs f g (some (.int z))) : z.toInt = 0 ∧ ∀ j ∈ lw_js, g j = f j := by
  simp only [ck_lawN, ck_lawK, Bool.and_eq_true] at hk
  exact ⟨ck_an_ok (List.all_eq_true.mp hk.2 cs hcs) hco.1, fun j hj => hr_same1 hco.2.2 (List.all_eq_true.mp (List.all_eq_true.mp hk.1.2 cs hcs) j hj)⟩
theorem lw_F {j : Nat} (hj : j ∈ lw_js) (hk : ck_lawF kc j = true) (hcs : cs ∈ k_cs kc) (hco : ck_caseOK ty cs vs f g (some (.int z))) : z.toInt = (f j).toInt ∧ ∀ j ∈ lw_js, g j = f j := by
  simp only [ck_lawF, ck_lawK, Bool.and_eq_true] at hk
  have h1 : ∀ j ∈ lw_js, g j = f j := fun j hj => hr_same1 hco.2.2 (List.all_eq_true.mp (List.all_eq_true.mp hk.1.2 cs hcs) j hj)
  exact ⟨by rw [← h1 j hj]; exact ck_fl_ok (List.all_eq_true.mp hk.2 cs hcs) hco, h1⟩
theorem lw_O {j : Nat} (hk : ck_lawO kc j = true) (hcs : cs ∈ k_cs kc) (hco : ck_caseOK ty cs vs f g (some (.int z))) : z.toInt = 1 ∧ g j = 1 ∧ ∀ i ∈ lw_js, i ≠ j → g i = f i := by
  simp only [ck_lawO, Bool.and_eq_true] at hk
  have h := List.all_eq_true.mp hk.2 cs hcs
  simp only [Bool.and_eq_true] at h
  exact ⟨ck_an_ok h.1.1 hco.1, ck_o1_ok h.1.2 hco.2.2, lw_rest h.2 hco.2.2⟩
end LQ
theorem lq_308 : ck_lawO kc_308 26 = true := by decide +kernel
theorem ls_308 : ck_lawS kc_308 = true := by decide +kernel
theorem lq_309 : ck_lawO kc_309 27 = true := by decide +kernel
theorem ls_309 : ck_lawS kc_309 = true := by decide +kernel
theorem lq_307 : ck_lawN kc_307 = true := by decide +kernel
theorem ls_307 : ck_lawS kc_307 = true := by decide +kernel
theorem lq_310 : ck_lawN kc_310 = true := by decide +kernel
theorem ls_310 : ck_lawS kc_310 = true := by decide +kernel
theorem lq_350 : ck_lawO kc_350 28 = true := by decide +kernel
theorem ls_350 : ck_lawS kc_350 = true := by decide +kernel
theorem lq_351 : ck_lawO kc_351 29 = true := by decide +kernel
theorem ls_351 : ck_lawS kc_351 = true := by decide +kernel
theorem lq_349 : ck_lawN kc_349 = true := by decide +kernel
theorem ls_349 : ck_lawS kc_349 = true := by decide +kernel
theorem lq_352 : ck_lawN kc_352 = true := by decide +kernel
theorem ls_352 : ck_lawS kc_352 = true := by decide +kernel
theorem lq_316 : ck_lawF kc_316 26 = true := by decide +kernel
theorem ls_316 : ck_lawS kc_316 = true := by decide +kernel
theorem lq_317 : ck_lawF kc_317 27 = true := by decide +kernel
theorem ls_317 : ck_lawS kc_317 = true := by decide +kernel
theorem lq_315 : ck_lawN kc_315 = true := by decide +kernel
theorem ls_315 : ck_lawS kc_315 = true := by decide +kernel
theorem lq_318 : ck_lawN kc_318 = true := by decide +kernel
theorem ls_318 : ck_lawS kc_318 = true := by decide +kernel
theorem lq_356 : ck_lawF kc_356 28 = true := by decide +kernel
theorem ls_356 : ck_lawS kc_356 = true := by decide +kernel
theorem lq_357 : ck_lawF kc_357 29 = true := by decide +kernel
theorem ls_357 : ck_lawS kc_357 = true := by decide +kernel
theorem lq_355 : ck_lawN kc_355 = true := by decide +kernel
theorem ls_355 : ck_lawS kc_355 = true := by decide +kernel
theorem lq_358 : ck_lawN kc_358 = true := by decide +kernel
theorem ls_358 : ck_lawS kc_358 = true := by decide +kernel
section LY
variable {p : Program} {l : Launch} {e : Env} {s : State} {m : MethodId} {below : List Frame} {meth : Method} {c : Code} {H : Heap} {locs : List Loc} {cells slots : Nat} {Q : State → Prop} {ls : Array Slot}
variable {b L : Nat} {xs : Nat → Int32} {D : va_G} {cys : Nat → ClassId} {ty : Nat → Option Nat} {ax am qo n : Nat} {pvv : Nat → Int32}
theorem lw_image (C : lw_C p l s m c b L xs D cys ty ax am qo) (hn : n + 6 ≤ L) (hcs : cells ≤ 601024 ∧ slots ≤ 7293034) (hl : lv_has ls 7 (lw_lv b ax am qo n)) (hI : lw_I s D cys ty qo pvv H locs) (he : lw_E pvv) (G : lw_G p l e s m below meth c b D cys ty ax am qo n cells slots Q) : W p l e room_1 s m #[Value.ref b] below meth c H locs cells slots Q (F0 m 1137 ls []) := by
  have C' := C
  obtain ⟨⟨hx, hb, -⟩, -, -, -, ⟨hU, hun⟩, tx, tm, -⟩ := C
  have fin : ∀ (g g2 : Nat → Int32) (H : Heap) (locs : List Loc) (z z2 : Int32), z.toInt = z2.toInt → lw_E g2 → lw_I s D cys ty qo g2 H locs → W p l e room_1 s m #[Value.ref b] below meth c H locs cells slots Q (F0 m 1158 ls [.int z2]) := by
    intro g g2 H locs z z2 ez he2 hI
    refine lv_pop hx hb (show decode code 1158 = .ok (.pop, 1) by decide +kernel) rfl ?_
    refine lv_goto (tgt := 1212) hx hb (show decode code 1159 = .ok (.goto 53, 3) by decide +kernel) (by decide) ?_
    exact G g2 H locs ls hI he2 hl
  refine lv_aload_n hx hb (show decode code 1137 = .ok (.aload_n 1, 1) by decide +kernel) rfl (lv_at hl 1 rfl) ?_
  refine lw_arg C' hl rfl rfl hI.2.2.2 hn 1 1 (by decide) rfl (show dc_arg 1138 1 from ⟨by decide +kernel, by decide +kernel, by decide +kernel, by decide +kernel, by decide +kernel⟩) ?_
  have hlo := ck_lo (xs (n + 1))
  have hhi := ck_hi (xs (n + 1))
  have dA : decode code 1144 = .ok (.invokevirtual 178, 3) := by decide +kernel
  have dB : decode code 1155 = .ok (.invokevirtual 181, 3) := by decide +kernel
  have aB : dc_arg 1149 1 := ⟨by decide +kernel, by decide +kernel, by decide +kernel, by decide +kernel, by decide +kernel⟩
  rcases (show (xs (n + 1)).toInt < 0 ∨ (xs (n + 1)).toInt = 0 ∨ (xs (n + 1)).toInt = 1 ∨ 2 ≤ (xs (n + 1)).toInt by omega) with hc | hc | hc | hc
  · obtain ⟨mA, jA, pA, rA⟩ := lK_307 (l := l) (D := D) (cys := cys) hU hun
    obtain ⟨mB, jB, pB, rB⟩ := lK_349 (l := l) (D := D) (cys := cys) hU hun
    refine lw_any (b' := ax) (As := [.int (xs (n + 1))]) C' hl mA ls_307 jA (by rw [pA]; exact ⟨⟨ax, rfl, tx⟩, hr_aI hlo (by omega), trivial⟩) hI rfl rA hcs (Nat.zero_le _) dA (fun cs hcs1 z g H locs hco hI => ?_)
    refine lv_pop hx hb (show decode code 1147 = .ok (.pop, 1) by decide +kernel) rfl ?_
    refine lv_aload_n hx hb (show decode code 1148 = .ok (.aload_n 2, 1) by decide +kernel) rfl (lv_at hl 2 rfl) ?_
    refine lw_arg C' hl rfl rfl hI.2.2.2 hn 1 1 (by decide) rfl aB ?_
    refine lw_any (b' := am) (As := [.int (xs (n + 1))]) C' hl mB ls_349 jB (by rw [pB]; exact ⟨⟨am, rfl, tm⟩, hr_aI hlo (by omega), trivial⟩) hI rfl rB hcs (Nat.zero_le _) dB (fun cs2 hcs2 z2 g2 H locs hco2 hI => ?_)
    obtain ⟨a1, a2⟩ := lw_N lq_307 hcs1 hco
    obtain ⟨b1, b2⟩ := lw_N lq_349 hcs2 hco2
    exact fin g g2 H locs z z2 (by omega) (lw_E_same (fun j hj => (b2 j hj).trans (a2 j hj)) he) hI
  · obtain ⟨mA, jA, pA, rA⟩ := lK_308 (l := l) (D := D) (cys := cys) hU hun
    obtain ⟨mB, jB, pB, rB⟩ := lK_350 (l := l) (D := D) (cys := cys) hU hun
    refine lw_any (b' := ax) (As := [.int (xs (n + 1))]) C' hl mA ls_308 jA (by rw [pA]; exact ⟨⟨ax, rfl, tx⟩, hr_aI (by omega) (by omega), trivial⟩) hI rfl rA hcs (Nat.zero_le _) dA (fun cs hcs1 z g H locs hco hI => ?_)
    refine lv_pop hx hb (show decode code 1147 = .ok (.pop, 1) by decide +kernel) rfl ?_
    refine lv_aload_n hx hb (show decode code 1148 = .ok (.aload_n 2, 1) by decide +kernel) rfl (lv_at hl 2 rfl) ?_
    refine lw_arg C' hl rfl rfl hI.2.2.2 hn 1 1 (by decide) rfl aB ?_
    refine lw_any (b' := am) (As := [.int (xs (n + 1))]) C' hl mB ls_350 jB (by rw [pB]; exact ⟨⟨am, rfl, tm⟩, hr_aI (by omega) (by omega), trivial⟩) hI rfl rB hcs (Nat.zero_le _) dB (fun cs2 hcs2 z2 g2 H locs hco2 hI => ?_)
    obtain ⟨a1, a2, a3⟩ := lw_O (j := 26) lq_308 hcs1 hco
    obtain ⟨b1, b2, b3⟩ := lw_O (j := 28) lq_350 hcs2 hco2
    refine fin g g2 H locs z z2 (by omega) ⟨?_, ?_, ?_⟩ hI
    · rw [b3 0 (by decide) (by decide), b3 11 (by decide) (by decide), a3 0 (by decide) (by decide), a3 11 (by decide) (by decide)]; exact he.1
    · rw [b3 26 (by decide) (by decide), a2, b2]
    · rw [b3 27 (by decide) (by decide), b3 29 (by decide) (by decide), a3 27 (by decide) (by decide), a3 29 (by decide) (by decide)]; exact he.2.2
  · obtain ⟨mA, jA, pA, rA⟩ := lK_309 (l := l) (D := D) (cys := cys) hU hun
    obtain ⟨mB, jB, pB, rB⟩ := lK_351 (l := l) (D := D) (cys := cys) hU hun
    refine lw_any (b' := ax) (As := [.int (xs (n + 1))]) C' hl mA ls_309 jA (by rw [pA]; exact ⟨⟨ax, rfl, tx⟩, hr_aI (by omega) (by omega), trivial⟩) hI rfl rA hcs (Nat.zero_le _) dA (fun cs hcs1 z g H locs hco hI => ?_)
    refine lv_pop hx hb (show decode code 1147 = .ok (.pop, 1) by decide +kernel) rfl ?_
    refine lv_aload_n hx hb (show decode code 1148 = .ok (.aload_n 2, 1) by decide +kernel) rfl (lv_at hl 2 rfl) ?_
    refine lw_arg C' hl rfl rfl hI.2.2.2 hn 1 1 (by decide) rfl aB ?_
    refine lw_any (b' := am) (As := [.int (xs (n + 1))]) C' hl mB ls_351 jB (by rw [pB]; exact ⟨⟨am, rfl, tm⟩, hr_aI (by omega) (by omega), trivial⟩) hI rfl rB hcs (Nat.zero_le _) dB (fun cs2 hcs2 z2 g2 H locs hco2 hI => ?_)
    obtain ⟨a1, a2, a3⟩ := lw_O (j := 27) lq_309 hcs1 hco
    obtain ⟨b1, b2, b3⟩ := lw_O (j := 29) lq_351 hcs2 hco2
    refine fin g g2 H locs z z2 (by omega) ⟨?_, ?_, ?_⟩ hI
    · rw [b3 0 (by decide) (by decide), b3 11 (by decide) (by decide), a3 0 (by decide) (by decide), a3 11 (by decide) (by decide)]; exact he.1
    · rw [b3 26 (by decide) (by decide), b3 28 (by decide) (by decide), a3 26 (by decide) (by decide), a3 28 (by decide) (by decide)]; exact he.2.1
    · rw [b3 27 (by decide) (by decide), a2, b2]
  · obtain ⟨mA, jA, pA, rA⟩ := lK_310 (l := l) (D := D) (cys := cys) hU hun
    obtain ⟨mB, jB, pB, rB⟩ := lK_352 (l := l) (D := D) (cys := cys) hU hun
    refine lw_any (b' := ax) (As := [.int (xs (n + 1))]) C' hl mA ls_310 jA (by rw [pA]; exact ⟨⟨ax, rfl, tx⟩, hr_aI hc hhi, trivial⟩) hI rfl rA hcs (Nat.zero_le _) dA (fun cs hcs1 z g H locs hco hI => ?_)
    refine lv_pop hx hb (show decode code 1147 = .ok (.pop, 1) by decide +kernel) rfl ?_
    refine lv_aload_n hx hb (show decode code 1148 = .ok (.aload_n 2, 1) by decide +kernel) rfl (lv_at hl 2 rfl) ?_
    refine lw_arg C' hl rfl rfl hI.2.2.2 hn 1 1 (by decide) rfl aB ?_
    refine lw_any (b' := am) (As := [.int (xs (n + 1))]) C' hl mB ls_352 jB (by rw [pB]; exact ⟨⟨am, rfl, tm⟩, hr_aI hc hhi, trivial⟩) hI rfl rB hcs (Nat.zero_le _) dB (fun cs2 hcs2 z2 g2 H locs hco2 hI => ?_)
    obtain ⟨a1, a2⟩ := lw_N lq_310 hcs1 hco
    obtain ⟨b1, b2⟩ := lw_N lq_352 hcs2 hco2
    exact fin g g2 H locs z z2 (by omega) (lw_E_same (fun j hj => (b2 j hj).trans (a2 j hj)) he) hI
theorem lw_restore (C : lw_C p l s m c b L xs D cys ty ax am qo) (hn : n + 6 ≤ L) (hcs : cells ≤ 601024 ∧ slots ≤ 7293034) (hl : lv_has ls 7 (lw_lv b ax am qo n)) (hI : lw_I s D cys ty qo pvv H locs) (he : lw_E pvv) (G : lw_G p l e s m below meth c b D cys ty ax am qo n cells slots Q) : W p l e room_1 s m #[Value.ref b] below meth c H locs cells slots Q (F0 m 1162 ls []) := by
  have C' := C
  obtain ⟨⟨hx, hb, -⟩, -, -, -, ⟨hU, hun⟩, tx, tm, -⟩ := C
  have fin : ∀ (g g2 : Nat → Int32) (H : Heap) (locs : List Loc) (z z2 : Int32), z.toInt = z2.toInt → lw_E g2 → lw_I s D cys ty qo g2 H locs → W p l e room_1 s m #[Value.ref b] below meth c H locs cells slots Q (F0 m 1183 ls [.int z2]) := by
    intro g g2 H locs z z2 ez he2 hI
    refine lv_pop hx hb (show decode code 1183 = .ok (.pop, 1) by decide +kernel) rfl ?_
    refine lv_goto (tgt := 1212) hx hb (show decode code 1184 = .ok (.goto 28, 3) by decide +kernel) (by decide) ?_
    exact G g2 H locs ls hI he2 hl
  refine lv_aload_n hx hb (show decode code 1162 = .ok (.aload_n 1, 1) by decide +kernel) rfl (lv_at hl 1 rfl) ?_
  refine lw_arg C' hl rfl rfl hI.2.2.2 hn 1 1 (by decide) rfl (show dc_arg 1163 1 from ⟨by decide +kernel, by decide +kernel, by decide +kernel, by decide +kernel, by decide +kernel⟩) ?_
  have hlo := ck_lo (xs (n + 1))
  have hhi := ck_hi (xs (n + 1))
  have dA : decode code 1169 = .ok (.invokevirtual 182, 3) := by decide +kernel
  have dB : decode code 1180 = .ok (.invokevirtual 185, 3) := by decide +kernel
  have aB : dc_arg 1174 1 := ⟨by decide +kernel, by decide +kernel, by decide +kernel, by decide +kernel, by decide +kernel⟩
  rcases (show (xs (n + 1)).toInt < 0 ∨ (xs (n + 1)).toInt = 0 ∨ (xs (n + 1)).toInt = 1 ∨ 2 ≤ (xs (n + 1)).toInt by omega) with hc | hc | hc | hc
  · obtain ⟨mA, jA, pA, rA⟩ := lK_315 (l := l) (D := D) (cys := cys) hU hun
    obtain ⟨mB, jB, pB, rB⟩ := lK_355 (l := l) (D := D) (cys := cys) hU hun
    refine lw_any (b' := ax) (As := [.int (xs (n + 1))]) C' hl mA ls_315 jA (by rw [pA]; exact ⟨⟨ax, rfl, tx⟩, hr_aI hlo (by omega), trivial⟩) hI rfl rA hcs (Nat.zero_le _) dA (fun cs hcs1 z g H locs hco hI => ?_)
    refine lv_pop hx hb (show decode code 1172 = .ok (.pop, 1) by decide +kernel) rfl ?_
    refine lv_aload_n hx hb (show decode code 1173 = .ok (.aload_n 2, 1) by decide +kernel) rfl (lv_at hl 2 rfl) ?_
    refine lw_arg C' hl rfl rfl hI.2.2.2 hn 1 1 (by decide) rfl aB ?_
    refine lw_any (b' := am) (As := [.int (xs (n + 1))]) C' hl mB ls_355 jB (by rw [pB]; exact ⟨⟨am, rfl, tm⟩, hr_aI hlo (by omega), trivial⟩) hI rfl rB hcs (Nat.zero_le _) dB (fun cs2 hcs2 z2 g2 H locs hco2 hI => ?_)
    obtain ⟨a1, a2⟩ := lw_N lq_315 hcs1 hco
    obtain ⟨b1, b2⟩ := lw_N lq_355 hcs2 hco2
    exact fin g g2 H locs z z2 (by omega) (lw_E_same (fun j hj => (b2 j hj).trans (a2 j hj)) he) hI
  · obtain ⟨mA, jA, pA, rA⟩ := lK_316 (l := l) (D := D) (cys := cys) hU hun
    obtain ⟨mB, jB, pB, rB⟩ := lK_356 (l := l) (D := D) (cys := cys) hU hun
    refine lw_any (b' := ax) (As := [.int (xs (n + 1))]) C' hl mA ls_316 jA (by rw [pA]; exact ⟨⟨ax, rfl, tx⟩, hr_aI (by omega) (by omega), trivial⟩) hI rfl rA hcs (Nat.zero_le _) dA (fun cs hcs1 z g H locs hco hI => ?_)
    refine lv_pop hx hb (show decode code 1172 = .ok (.pop, 1) by decide +kernel) rfl ?_
    refine lv_aload_n hx hb (show decode code 1173 = .ok (.aload_n 2, 1) by decide +kernel) rfl (lv_at hl 2 rfl) ?_
    refine lw_arg C' hl rfl rfl hI.2.2.2 hn 1 1 (by decide) rfl aB ?_
    refine lw_any (b' := am) (As := [.int (xs (n + 1))]) C' hl mB ls_356 jB (by rw [pB]; exact ⟨⟨am, rfl, tm⟩, hr_aI (by omega) (by omega), trivial⟩) hI rfl rB hcs (Nat.zero_le _) dB (fun cs2 hcs2 z2 g2 H locs hco2 hI => ?_)
    obtain ⟨a1, a2⟩ := lw_F (j := 26) (by decide) lq_316 hcs1 hco
    obtain ⟨b1, b2⟩ := lw_F (j := 28) (by decide) lq_356 hcs2 hco2
    exact fin g g2 H locs z z2 (by rw [a1, b1, a2 28 (by decide), he.2.1]) (lw_E_same (fun j hj => (b2 j hj).trans (a2 j hj)) he) hI
  · obtain ⟨mA, jA, pA, rA⟩ := lK_317 (l := l) (D := D) (cys := cys) hU hun
    obtain ⟨mB, jB, pB, rB⟩ := lK_357 (l := l) (D := D) (cys := cys) hU hun
    refine lw_any (b' := ax) (As := [.int (xs (n + 1))]) C' hl mA ls_317 jA (by rw [pA]; exact ⟨⟨ax, rfl, tx⟩, hr_aI (by omega) (by omega), trivial⟩) hI rfl rA hcs (Nat.zero_le _) dA (fun cs hcs1 z g H locs hco hI => ?_)
    refine lv_pop hx hb (show decode code 1172 = .ok (.pop, 1) by decide +kernel) rfl ?_
    refine lv_aload_n hx hb (show decode code 1173 = .ok (.aload_n 2, 1) by decide +kernel) rfl (lv_at hl 2 rfl) ?_
    refine lw_arg C' hl rfl rfl hI.2.2.2 hn 1 1 (by decide) rfl aB ?_
    refine lw_any (b' := am) (As := [.int (xs (n + 1))]) C' hl mB ls_357 jB (by rw [pB]; exact ⟨⟨am, rfl, tm⟩, hr_aI (by omega) (by omega), trivial⟩) hI rfl rB hcs (Nat.zero_le _) dB (fun cs2 hcs2 z2 g2 H locs hco2 hI => ?_)
    obtain ⟨a1, a2⟩ := lw_F (j := 27) (by decide) lq_317 hcs1 hco
    obtain ⟨b1, b2⟩ := lw_F (j := 29) (by decide) lq_357 hcs2 hco2
    exact fin g g2 H locs z z2 (by rw [a1, b1, a2 29 (by decide), he.2.2]) (lw_E_same (fun j hj => (b2 j hj).trans (a2 j hj)) he) hI
  · obtain ⟨mA, jA, pA, rA⟩ := lK_318 (l := l) (D := D) (cys := cys) hU hun
    obtain ⟨mB, jB, pB, rB⟩ := lK_358 (l := l) (D := D) (cys := cys) hU hun
    refine lw_any (b' := ax) (As := [.int (xs (n + 1))]) C' hl mA ls_318 jA (by rw [pA]; exact ⟨⟨ax, rfl, tx⟩, hr_aI hc hhi, trivial⟩) hI rfl rA hcs (Nat.zero_le _) dA (fun cs hcs1 z g H locs hco hI => ?_)
    refine lv_pop hx hb (show decode code 1172 = .ok (.pop, 1) by decide +kernel) rfl ?_
    refine lv_aload_n hx hb (show decode code 1173 = .ok (.aload_n 2, 1) by decide +kernel) rfl (lv_at hl 2 rfl) ?_
    refine lw_arg C' hl rfl rfl hI.2.2.2 hn 1 1 (by decide) rfl aB ?_
    refine lw_any (b' := am) (As := [.int (xs (n + 1))]) C' hl mB ls_358 jB (by rw [pB]; exact ⟨⟨am, rfl, tm⟩, hr_aI hc hhi, trivial⟩) hI rfl rB hcs (Nat.zero_le _) dB (fun cs2 hcs2 z2 g2 H locs hco2 hI => ?_)
    obtain ⟨a1, a2⟩ := lw_N lq_318 hcs1 hco
    obtain ⟨b1, b2⟩ := lw_N lq_358 hcs2 hco2
    exact fin g g2 H locs z z2 (by omega) (lw_E_same (fun j hj => (b2 j hj).trans (a2 j hj)) he) hI
end LY

/-! THE LAW, 8: feed, end, man, book, play. -/
theorem lw_ZZ {ty : Nat → Option Nat} {f g : Nat → Int32} {vs : List Value} {kc : ck_K} {cs : ck_Case} {r : Option Value} {j : Nat} (hk : ck_lawZ kc j = true) (hcs : cs ∈ k_cs kc) (hco : ck_caseOK ty cs vs f g r) : g j = 0 ∧ ∀ i ∈ lw_jz, i ≠ j → g i = f i := by
  simp only [ck_lawZ, Bool.and_eq_true] at hk
  have h := List.all_eq_true.mp hk.2 cs hcs
  rw [Bool.and_eq_true] at h
  refine ⟨ck_z1_ok hco.2.2 h.1, fun i hi hne => ?_⟩
  have h2 := List.all_eq_true.mp h.2 i hi
  simp only [Bool.or_eq_true, decide_eq_true_eq] at h2
  exact hr_same1 hco.2.2 (h2.resolve_left hne)
theorem lm_170 : lc_mV RL 24 kc_170 11 := ⟨(in_r14 _ (List.mem_of_getElem? (i := 23) rfl)), (in_r1 _ (List.mem_of_getElem? (i := 2) rfl)), (in_r14 _ (List.mem_of_getElem? (i := 20) rfl)), (in_r14 _ (List.mem_of_getElem? (i := 21) rfl)), (in_r14 _ (List.mem_of_getElem? (i := 22) rfl)), by decide +kernel, _, _, _, _, rfl, rfl, rfl, rfl, by decide +kernel⟩
theorem lm_247 : lc_mV RL 28 kc_247 12 := ⟨(in_r15 _ (List.mem_of_getElem? (i := 3) rfl)), (in_r1 _ (List.mem_of_getElem? (i := 5) rfl)), (in_r15 _ (List.mem_of_getElem? (i := 0) rfl)), (in_r15 _ (List.mem_of_getElem? (i := 1) rfl)), (in_r15 _ (List.mem_of_getElem? (i := 2) rfl)), by decide +kernel, _, _, _, _, rfl, rfl, rfl, rfl, by decide +kernel⟩
theorem lm_261 : lc_mV RL 47 kc_261 12 := ⟨(in_r30 _ (List.mem_of_getElem? (i := 15) rfl)), (in_r1 _ (List.mem_of_getElem? (i := 5) rfl)), (in_r30 _ (List.mem_of_getElem? (i := 12) rfl)), (in_r30 _ (List.mem_of_getElem? (i := 13) rfl)), (in_r30 _ (List.mem_of_getElem? (i := 14) rfl)), by decide +kernel, _, _, _, _, rfl, rfl, rfl, rfl, by decide +kernel⟩
theorem lm_333 : lc_mV RL 162 kc_333 11 := ⟨(in_r57 _ (List.mem_of_getElem? (i := 16) rfl)), (in_r1 _ (List.mem_of_getElem? (i := 2) rfl)), (in_r57 _ (List.mem_of_getElem? (i := 13) rfl)), (in_r57 _ (List.mem_of_getElem? (i := 14) rfl)), (in_r57 _ (List.mem_of_getElem? (i := 15) rfl)), by decide +kernel, _, _, _, _, rfl, rfl, rfl, rfl, by decide +kernel⟩
theorem lm_334 : lc_mV RL 162 kc_334 11 := ⟨(in_r57 _ (List.mem_of_getElem? (i := 16) rfl)), (in_r1 _ (List.mem_of_getElem? (i := 2) rfl)), (in_r57 _ (List.mem_of_getElem? (i := 13) rfl)), (in_r57 _ (List.mem_of_getElem? (i := 14) rfl)), (in_r57 _ (List.mem_of_getElem? (i := 15) rfl)), by decide +kernel, _, _, _, _, rfl, rfl, rfl, rfl, by decide +kernel⟩
theorem lm_335 : lc_mV RL 162 kc_335 11 := ⟨(in_r57 _ (List.mem_of_getElem? (i := 16) rfl)), (in_r1 _ (List.mem_of_getElem? (i := 2) rfl)), (in_r57 _ (List.mem_of_getElem? (i := 13) rfl)), (in_r57 _ (List.mem_of_getElem? (i := 14) rfl)), (in_r57 _ (List.mem_of_getElem? (i := 15) rfl)), by decide +kernel, _, _, _, _, rfl, rfl, rfl, rfl, by decide +kernel⟩
theorem lm_337 : lc_mV RL 165 kc_337 12 := ⟨(in_r60 _ (List.mem_of_getElem? (i := 4) rfl)), (in_r1 _ (List.mem_of_getElem? (i := 5) rfl)), (in_r60 _ (List.mem_of_getElem? (i := 1) rfl)), (in_r60 _ (List.mem_of_getElem? (i := 2) rfl)), (in_r60 _ (List.mem_of_getElem? (i := 3) rfl)), by decide +kernel, _, _, _, _, rfl, rfl, rfl, rfl, by decide +kernel⟩
theorem lmN_11 : lc_mV RL 19 kq_11_feed 11 := ⟨(in_r13 _ (List.mem_of_getElem? (i := 22) rfl)), (in_r1 _ (List.mem_of_getElem? (i := 2) rfl)), (in_r13 _ (List.mem_of_getElem? (i := 19) rfl)), (in_r13 _ (List.mem_of_getElem? (i := 20) rfl)), (in_r13 _ (List.mem_of_getElem? (i := 21) rfl)), by decide +kernel, _, _, _, _, rfl, rfl, rfl, rfl, by decide +kernel⟩
theorem lmN_12 : lc_mV RL 23 kq_12_feed 12 := ⟨(in_r14 _ (List.mem_of_getElem? (i := 13) rfl)), (in_r1 _ (List.mem_of_getElem? (i := 5) rfl)), (in_r14 _ (List.mem_of_getElem? (i := 10) rfl)), (in_r14 _ (List.mem_of_getElem? (i := 11) rfl)), (in_r14 _ (List.mem_of_getElem? (i := 12) rfl)), by decide +kernel, _, _, _, _, rfl, rfl, rfl, rfl, by decide +kernel⟩
theorem lK_261 {l : Launch} {D : va_G} {cys : Nat → ClassId} {ty : Nat → Option Nat} (hU : ck_uq ty ck_pvs0) (hun : ck_un ty) : lw_K l D cys ty kc_261 47 12 [cF, cF] := ⟨lm_261, ch_all hU hun 261 (by decide), rfl, by decide, by decide⟩
theorem lK_333 {l : Launch} {D : va_G} {cys : Nat → ClassId} {ty : Nat → Option Nat} (hU : ck_uq ty ck_pvs0) (hun : ck_un ty) : lw_K l D cys ty kc_333 162 11 [.inl (-2147483648, -1, [])] := ⟨lm_333, ch_all hU hun 333 (by decide), rfl, by decide, by decide⟩
theorem lK_334 {l : Launch} {D : va_G} {cys : Nat → ClassId} {ty : Nat → Option Nat} (hU : ck_uq ty ck_pvs0) (hun : ck_un ty) : lw_K l D cys ty kc_334 162 11 [.inl (0, 1, [])] := ⟨lm_334, ch_all hU hun 334 (by decide), rfl, by decide, by decide⟩
theorem lK_335 {l : Launch} {D : va_G} {cys : Nat → ClassId} {ty : Nat → Option Nat} (hU : ck_uq ty ck_pvs0) (hun : ck_un ty) : lw_K l D cys ty kc_335 162 11 [.inl (2, 2147483647, [])] := ⟨lm_335, ch_all hU hun 335 (by decide), rfl, by decide, by decide⟩
theorem lK_337 {l : Launch} {D : va_G} {cys : Nat → ClassId} {ty : Nat → Option Nat} (hU : ck_uq ty ck_pvs0) (hun : ck_un ty) : lw_K l D cys ty kc_337 165 12 [cF] := ⟨lm_337, ch_all hU hun 337 (by decide), rfl, by decide, by decide⟩
theorem lm_kq_11_play : lc_mV RL 29 kq_11_play 11 := ⟨(in_r15 _ (List.mem_of_getElem? (i := 7) rfl)), (in_r1 _ (List.mem_of_getElem? (i := 2) rfl)), (in_r15 _ (List.mem_of_getElem? (i := 4) rfl)), (in_r15 _ (List.mem_of_getElem? (i := 5) rfl)), (in_r15 _ (List.mem_of_getElem? (i := 6) rfl)), by decide +kernel, _, _, _, _, rfl, rfl, rfl, rfl, by decide +kernel⟩
theorem lq_kq_11_play : ck_lawZ kq_11_play 0 = true := by decide +kernel
theorem lq_kq_11_playS : ck_lawS kq_11_play = true := by decide +kernel
theorem lm_kh_12_play : lc_mV RL 33 kh_12_play 12 := ⟨(in_r23 _ (List.mem_of_getElem? (i := 19) rfl)), (in_r1 _ (List.mem_of_getElem? (i := 5) rfl)), (in_r23 _ (List.mem_of_getElem? (i := 16) rfl)), (in_r23 _ (List.mem_of_getElem? (i := 17) rfl)), (in_r23 _ (List.mem_of_getElem? (i := 18) rfl)), by decide +kernel, _, _, _, _, rfl, rfl, rfl, rfl, by decide +kernel⟩
theorem lq_kh_12_play : ck_lawZ kh_12_play 11 = true := by decide +kernel
theorem lq_kh_12_playS : ck_lawS kh_12_play = true := by decide +kernel
theorem lsN_11 : ck_lawS kq_11_feed = true := by decide +kernel
theorem lsN_12 : ck_lawS kq_12_feed = true := by decide +kernel
theorem ls_337 : ck_lawS kc_337 = true := by decide +kernel
theorem lk_261 : ck_lawK kc_261 = true := by decide +kernel
theorem lk_333 : ck_lawK kc_333 = true := by decide +kernel
theorem lk_335 : ck_lawK kc_335 = true := by decide +kernel
theorem lz_334 : ck_lawZ kc_334 0 = true := by decide +kernel
theorem ls_334 : ck_lawS kc_334 = true := by decide +kernel
theorem l30_play : (k_cs kh_12_play).all (fun cs => ck_same1 cs.2.2 30) = true := by decide +kernel
theorem pM_P : ck_wkB pPM pP = true := by decide +kernel
section LD
variable {ty : Nat → Option Nat} {f g : Nat → Int32}
theorem lw_rest {post : List ck_AV} {k : Nat} (h : lw_js.all (fun i => decide (i = k) || ck_same1 post i) = true) (hp : ck_pvo ty (ck_XE f) post g) : ∀ i ∈ lw_js, i ≠ k → g i = f i := fun i hi hne => by
  have h2 := List.all_eq_true.mp h i hi
  simp only [Bool.or_eq_true, decide_eq_true_eq] at h2
  exact hr_same1 hp (h2.resolve_left hne)
theorem fd_A {cs : ck_Case} (hcs : cs ∈ k_cs kq_11_feed) (hp : ck_pvo ty (ck_XE f) cs.2.2 g) : (∀ i ∈ lw_js, i ≠ 0 → g i = f i) ∧ (((g 0).toInt = (f 0).toInt ∧ 921 ≤ (g 0).toInt) ∨ ((g 0).toInt = (f 0).toInt + 20 ∧ (g 0).toInt ≤ 940)) := by
  rcases List.mem_cons.mp hcs with h | h
  · have h : cs = (some (.inl (-1, -1, [])), [], (pU.set 0 (.inl (921, 940, [(2000, 0, 0)])))) := h
    subst h
    have h1 := hr_pv hp 0 (lo := 921) (hi := 940) (ds := [(2000, 0, 0)]) rfl
    have h2 := hr_pd hp 0 0 (lo := 921) (hi := 940) (a := 0) (b := 0) (ds := [(2000, 0, 0)]) rfl (List.mem_singleton.mpr rfl)
    exact ⟨lw_rest (by decide +kernel) hp, Or.inl ⟨by omega, h1.1⟩⟩
  · have h : cs = (some (.inl (20, 940, [])), [], (pU.set 0 (.inl (20, 940, [(2000, 20, 20)])))) := List.mem_singleton.mp h
    subst h
    have h1 := hr_pv hp 0 (lo := 20) (hi := 940) (ds := [(2000, 20, 20)]) rfl
    have h2 := hr_pd hp 0 0 (lo := 20) (hi := 940) (a := 20) (b := 20) (ds := [(2000, 20, 20)]) rfl (List.mem_singleton.mpr rfl)
    exact ⟨lw_rest (by decide +kernel) hp, Or.inr ⟨by omega, h1.2⟩⟩
theorem fd_B {cs : ck_Case} (hcs : cs ∈ k_cs kq_12_feed) (hp : ck_pvo ty (ck_XE f) cs.2.2 g) : (∀ i ∈ lw_js, i ≠ 11 → g i = f i) ∧ (((g 11).toInt = (f 11).toInt ∧ 921 ≤ (g 11).toInt) ∨ ((g 11).toInt = (f 11).toInt + 20 ∧ (g 11).toInt ≤ 940)) := by
  rcases List.mem_cons.mp hcs with h | h
  · have h : cs = (some (.inl (-1, -1, [])), [], (pUM.set 11 (.inl (921, 940, [(2022, 0, 0)])))) := h
    subst h
    have h1 := hr_pv hp 11 (lo := 921) (hi := 940) (ds := [(2022, 0, 0)]) rfl
    have h2 := hr_pd hp 11 11 (lo := 921) (hi := 940) (a := 0) (b := 0) (ds := [(2022, 0, 0)]) rfl (List.mem_singleton.mpr rfl)
    exact ⟨lw_rest (by decide +kernel) hp, Or.inl ⟨by omega, h1.1⟩⟩
  · have h : cs = (some (.inl (20, 940, [])), [], (pUM.set 11 (.inl (20, 940, [(2022, 20, 20)])))) := List.mem_singleton.mp h
    subst h
    have h1 := hr_pv hp 11 (lo := 20) (hi := 940) (ds := [(2022, 20, 20)]) rfl
    have h2 := hr_pd hp 11 11 (lo := 20) (hi := 940) (a := 20) (b := 20) (ds := [(2022, 20, 20)]) rfl (List.mem_singleton.mpr rfl)
    exact ⟨lw_rest (by decide +kernel) hp, Or.inr ⟨by omega, h1.2⟩⟩
def bk_z (q : ck_Case) : Bool := match q.2.1 with
  | [(1, lo, hi)] => (decide (0 ≤ lo) && decide (hi ≤ 1) && ck_z1 q.2.2 11 && lw_jz.all (fun i => decide (i = 11) || ck_same1 q.2.2 i) && ck_same1 q.2.2 30) || (decide (hi ≤ -1) || decide (2 ≤ lo)) && lw_jz.all (ck_same1 q.2.2) && ck_same1 q.2.2 30
  | _ => false
theorem bk_all : (k_cs kc_337).all bk_z = true := by decide +kernel
theorem lw_restz {post : List ck_AV} {k : Nat} (h : lw_jz.all (fun i => decide (i = k) || ck_same1 post i) = true) (hp : ck_pvo ty (ck_XE f) post g) : ∀ i ∈ lw_jz, i ≠ k → g i = f i := fun i hi hne => by
  have h2 := List.all_eq_true.mp h i hi
  simp only [Bool.or_eq_true, decide_eq_true_eq] at h2
  exact hr_same1 hp (h2.resolve_left hne)
theorem bk_B {cs : ck_Case} {a : Nat} {x : Int32} {r : Option Value} (hcs : cs ∈ k_cs kc_337) (hco : ck_caseOK ty cs [.ref a, .int x] f g r) : (0 ≤ x.toInt ∧ x.toInt ≤ 1 ∧ g 11 = 0 ∧ g 30 = f 30 ∧ ∀ i ∈ lw_jz, i ≠ 11 → g i = f i) ∨ ((x.toInt < 0 ∨ 2 ≤ x.toInt) ∧ g 30 = f 30 ∧ ∀ i ∈ lw_jz, g i = f i) := by
  have h := List.all_eq_true.mp bk_all cs hcs
  obtain ⟨av, rg, post⟩ := cs
  unfold bk_z at h
  dsimp only at h
  split at h
  · next lo hi =>
    obtain ⟨y, e, g1, g2⟩ := hco.2.1 (1, lo, hi) (List.mem_singleton.mpr rfl)
    cases e
    dsimp only at g1 g2
    simp only [Bool.or_eq_true, Bool.and_eq_true, decide_eq_true_eq] at h
    rcases h with ⟨⟨⟨⟨h1, h2⟩, h3⟩, h4⟩, h5⟩ | ⟨⟨h1, h4⟩, h5⟩
    · exact Or.inl ⟨by omega, by omega, ck_z1_ok hco.2.2 h3, hr_same1 hco.2.2 h5, lw_restz h4 hco.2.2⟩
    · exact Or.inr ⟨by omega, hr_same1 hco.2.2 h5, fun i hi => hr_same1 hco.2.2 (List.all_eq_true.mp h4 i hi)⟩
  · cases h
theorem lw_jsz {j : Nat} (h : j ∈ lw_js) : j ∈ lw_jz ∨ j = 30 ∨ j = 31 := by
  simp only [lw_js, lw_jz, List.mem_cons, List.not_mem_nil, or_false] at h ⊢
  omega
/-- one place stays -/
theorem lw_s1 {kc : ck_K} {cs : ck_Case} {vs : List Value} {r : Option Value} {j : Nat} (hk : (k_cs kc).all (fun cs => ck_same1 cs.2.2 j) = true) (hcs : cs ∈ k_cs kc) (hco : ck_caseOK ty cs vs f g r) : g j = f j := hr_same1 hco.2.2 (List.all_eq_true.mp hk cs hcs)
theorem li_upd {j : Nat} {x : Int32} (hP : pPM[j]? = some (.inl (0, 940, []))) (hd : pPM.all (fun av => match av with
    | .inl r => r.2.2.all (fun d => decide (d.1 / 2 - 1000 ≠ j))
    | _ => false) = true) (h0 : 0 ≤ x.toInt) (h1 : x.toInt ≤ 940) (h : ck_pvo ty (ck_XE f) pPM f) : ck_pvo ty (ck_XE (upd f j x)) pPM (upd f j x) := by
  intro i av hi
  have hall := List.all_eq_true.mp hd av (List.mem_of_getElem? hi)
  by_cases e : i = j
  · subst e
    rw [hP] at hi
    cases hi
    rw [pk_us]
    exact ⟨x, rfl, h0, h1, fun d hd => by cases hd⟩
  · rw [pk_un e]
    match av, h i av hi, hall with
    | .inl r, ⟨y, hy, g1, g2, g3⟩, hall =>
      refine ⟨y, hy, g1, g2, fun d hd => ?_⟩
      have h2 := of_decide_eq_true (List.all_eq_true.mp hall d hd)
      have h3 := g3 d hd
      unfold ck_XE at h3 ⊢
      rw [pk_un h2]
      exact h3
end LD
section LX
variable {p : Program} {l : Launch} {e : Env} {s : State} {m : MethodId} {below : List Frame} {meth : Method} {c : Code} {H : Heap} {locs : List Loc} {cells slots : Nat} {Q : State → Prop} {ls : Array Slot}
variable {b L : Nat} {xs : Nat → Int32} {D : va_G} {cys : Nat → ClassId} {ty : Nat → Option Nat} {ax am qo n : Nat} {pvv : Nat → Int32}
theorem zf_x (x : Int32) : zf_i x.toInt := ⟨ck_lo x, ck_hi x⟩
theorem mQ_11_feed (hU : ev_uq ty ev_TR) {C : ev_C} {x1 x2 x3 x4 x5 : Int} {r : Int} {C' : ev_C} (h : f_11_feed C x1 x2 x3 x4 x5 = some (r, C')) : ev_Met l D cys ty ck_tags ev_TR kq_11_feed [.inr (.inl 11), .inl x1, .inl x2, .inl x3, .inl x4, .inl x5] C (fun r0 C0 => r0 = some (.inl r) ∧ C0 = C') :=
  evm_c (k := kh_11_feed) ((rfl : k_y kh_11_feed = yX11_feed).trans (rfl : yX11_feed = k_y kq_11_feed)) ((rfl : ck_ws kh_11_feed = (Jvm.Cond.code yX11_feed cX11_feed 6 (some .int) :: wsL_law0)).trans (rfl : (Jvm.Cond.code yX11_feed cX11_feed 6 (some .int) :: wsL_law0) = ck_ws kq_11_feed)) ((rfl : ck_rm kh_11_feed = ({ frames := 3, cells := 0, slots := 0, locals := 54 } : Room)).trans (rfl : ({ frames := 3, cells := 0, slots := 0, locals := 54 } : Room) = ck_rm kq_11_feed)) (m_11_feed hU h)
theorem mQ_12_feed (hU : ev_uq ty ev_TR) {C : ev_C} {x1 x2 x3 x4 x5 : Int} {r : Int} {C' : ev_C} (h : f_12_feed C x1 x2 x3 x4 x5 = some (r, C')) : ev_Met l D cys ty ck_tags ev_TR kq_12_feed [.inr (.inl 12), .inl x1, .inl x2, .inl x3, .inl x4, .inl x5] C (fun r0 C0 => r0 = some (.inl r) ∧ C0 = C') :=
  evm_c (k := kh_12_feed) ((rfl : k_y kh_12_feed = yX12_feed).trans (rfl : yX12_feed = k_y kq_12_feed)) ((rfl : ck_ws kh_12_feed = (Jvm.Cond.code yX12_feed cX12_feed 6 (some .int) :: wsL_law0)).trans (rfl : (Jvm.Cond.code yX12_feed cX12_feed 6 (some .int) :: wsL_law0) = ck_ws kq_12_feed)) ((rfl : ck_rm kh_12_feed = ({ frames := 2, cells := 0, slots := 0, locals := 34 } : Room)).trans (rfl : ({ frames := 2, cells := 0, slots := 0, locals := 34 } : Room) = ck_rm kq_12_feed)) (m_12_feed hU h)
theorem mQ_11_play (hU : ev_uq ty ev_TR) {C : ev_C} {r : Int} {C' : ev_C} (h : f_11_play C = some (r, C')) : ev_Met l D cys ty ck_tags ev_TR kq_11_play [.inr (.inl 11)] C (fun r0 C0 => r0 = some (.inl r) ∧ C0 = C') :=
  evm_c (k := kh_11_play) ((rfl : k_y kh_11_play = yX11_play).trans (rfl : yX11_play = k_y kq_11_play)) ((rfl : ck_ws kh_11_play = (Jvm.Cond.code yX11_play cX11_play 2 (some .int) :: wsL_law0)).trans (rfl : (Jvm.Cond.code yX11_play cX11_play 2 (some .int) :: wsL_law0) = ck_ws kq_11_play)) ((rfl : ck_rm kh_11_play = ({ frames := 8, cells := 0, slots := 0, locals := 170 } : Room)).trans (rfl : ({ frames := 8, cells := 0, slots := 0, locals := 170 } : Room) = ck_rm kq_11_play)) (m_11_play hU h)
theorem mQ_11_image_0 (hU : ev_uq ty ev_TR) {C : ev_C} {r : Int} {C' : ev_C} (h : f_11_image_k0 C = some (r, C')) : ev_Met l D cys ty ck_tags ev_TR kq_11_image_0 [.inr (.inl 11), .inl 0] C (fun r0 C0 => r0 = some (.inl r) ∧ C0 = C') :=
  evm_c (k := kh_11_image_0) ((rfl : k_y kh_11_image_0 = yX11_image).trans (rfl : yX11_image = k_y kq_11_image_0)) ((rfl : ck_ws kh_11_image_0 = (Jvm.Cond.code yX11_image cX11_image 3 (some .boolean) :: wsL_law0)).trans (rfl : (Jvm.Cond.code yX11_image cX11_image 3 (some .boolean) :: wsL_law0) = ck_ws kq_11_image_0)) ((rfl : ck_rm kh_11_image_0 = ({ frames := 2, cells := 0, slots := 0, locals := 47 } : Room)).trans (rfl : ({ frames := 2, cells := 0, slots := 0, locals := 47 } : Room) = ck_rm kq_11_image_0)) (m_11_image_k0 hU h)
theorem mQ_11_image_1 (hU : ev_uq ty ev_TR) {C : ev_C} {r : Int} {C' : ev_C} (h : f_11_image_k1 C = some (r, C')) : ev_Met l D cys ty ck_tags ev_TR kq_11_image_1 [.inr (.inl 11), .inl 1] C (fun r0 C0 => r0 = some (.inl r) ∧ C0 = C') :=
  evm_c (k := kh_11_image_1) ((rfl : k_y kh_11_image_1 = yX11_image).trans (rfl : yX11_image = k_y kq_11_image_1)) ((rfl : ck_ws kh_11_image_1 = (Jvm.Cond.code yX11_image cX11_image 3 (some .boolean) :: wsL_law0)).trans (rfl : (Jvm.Cond.code yX11_image cX11_image 3 (some .boolean) :: wsL_law0) = ck_ws kq_11_image_1)) ((rfl : ck_rm kh_11_image_1 = ({ frames := 2, cells := 0, slots := 0, locals := 47 } : Room)).trans (rfl : ({ frames := 2, cells := 0, slots := 0, locals := 47 } : Room) = ck_rm kq_11_image_1)) (m_11_image_k1 hU h)
theorem mQ_11_restore_0 (hU : ev_uq ty ev_TR) {C : ev_C} {r : Int} {C' : ev_C} (h : f_11_restore_k0 C = some (r, C')) : ev_Met l D cys ty ck_tags ev_TR kq_11_restore_0 [.inr (.inl 11), .inl 0] C (fun r0 C0 => r0 = some (.inl r) ∧ C0 = C') :=
  evm_c (k := kh_11_restore_0) ((rfl : k_y kh_11_restore_0 = yX11_restore).trans (rfl : yX11_restore = k_y kq_11_restore_0)) ((rfl : ck_ws kh_11_restore_0 = (Jvm.Cond.code yX11_restore cX11_restore 3 (some .boolean) :: wsL_law0)).trans (rfl : (Jvm.Cond.code yX11_restore cX11_restore 3 (some .boolean) :: wsL_law0) = ck_ws kq_11_restore_0)) ((rfl : ck_rm kh_11_restore_0 = ({ frames := 2, cells := 0, slots := 0, locals := 47 } : Room)).trans (rfl : ({ frames := 2, cells := 0, slots := 0, locals := 47 } : Room) = ck_rm kq_11_restore_0)) (m_11_restore_k0 hU h)
theorem mQ_11_restore_1 (hU : ev_uq ty ev_TR) {C : ev_C} {r : Int} {C' : ev_C} (h : f_11_restore_k1 C = some (r, C')) : ev_Met l D cys ty ck_tags ev_TR kq_11_restore_1 [.inr (.inl 11), .inl 1] C (fun r0 C0 => r0 = some (.inl r) ∧ C0 = C') :=
  evm_c (k := kh_11_restore_1) ((rfl : k_y kh_11_restore_1 = yX11_restore).trans (rfl : yX11_restore = k_y kq_11_restore_1)) ((rfl : ck_ws kh_11_restore_1 = (Jvm.Cond.code yX11_restore cX11_restore 3 (some .boolean) :: wsL_law0)).trans (rfl : (Jvm.Cond.code yX11_restore cX11_restore 3 (some .boolean) :: wsL_law0) = ck_ws kq_11_restore_1)) ((rfl : ck_rm kh_11_restore_1 = ({ frames := 2, cells := 0, slots := 0, locals := 47 } : Room)).trans (rfl : ({ frames := 2, cells := 0, slots := 0, locals := 47 } : Room) = ck_rm kq_11_restore_1)) (m_11_restore_k1 hU h)
theorem sh_N : ∀ t, ck_frN t = true → ck_shp t = true ∧ ev_TR t = true := lw_sh (L := [15, 49]) (fun t h => by simpa [ck_frN] using h) (by decide +kernel)
theorem pq_N : ∀ t, ck_frN t = false → ∀ j, ck_pr (ck_prot1 t) j → ck_pr (ck_protN t) j := fun t h j hj => by unfold ck_protN; rw [if_neg (by rw [h]; decide)]; exact hj
theorem sh_P : ∀ t, ck_frP t = true → ck_shp t = true ∧ ev_TR t = true := lw_sh (L := [6, 67, 68, 69, 78, 79, 80]) (fun t h => by simpa [ck_frP] using h) (by decide +kernel)
theorem pq_P : ∀ t, ck_frP t = false → ∀ j, ck_pr (ck_prot1 t) j → ck_pr (ck_protP t) j := fun t h j hj => by unfold ck_protP; rw [if_neg (by rw [h]; decide)]; exact hj
theorem sh_I : ∀ t, ck_frI t = true → ck_shp t = true ∧ ev_TR t = true := lw_sh (L := [51, 81, 82, 83, 92, 93, 94]) (fun t h => by simpa [ck_frI] using h) (by decide +kernel)
theorem pq_I : ∀ t, ck_frI t = false → ∀ j, ck_pr (ck_prot1 t) j → ck_pr (ck_protI t) j := fun t h j hj => by unfold ck_protI; rw [if_neg (by rw [h]; decide)]; exact hj
theorem sh_J : ∀ t, ck_frJ t = true → ck_shp t = true ∧ ev_TR t = true := lw_sh (L := [52, 95, 96, 97, 106, 107, 108]) (fun t h => by simpa [ck_frJ] using h) (by decide +kernel)
theorem pq_J : ∀ t, ck_frJ t = false → ∀ j, ck_pr (ck_prot1 t) j → ck_pr (ck_protJ t) j := fun t h j hj => by unfold ck_protJ; rw [if_neg (by rw [h]; decide)]; exact hj
theorem sh_f19 : ∀ t, lw_f19 t = true → ck_shp t = true ∧ ev_TR t = true := lw_sh (L := [19]) (fun t h => by simpa [lw_f19] using h) (by decide +kernel)
theorem pq_f19 : ∀ t, lw_f19 t = false → ∀ j, ck_pr (ck_prot1 t) j → ck_pr (ck_protR t) j := fun t h j hj => by unfold ck_protR; rw [if_neg (fun e => by rw [e] at h; cases h)]; exact hj
theorem sh_f109 : ∀ t, lw_f109 t = true → ck_shp t = true ∧ ev_TR t = true := lw_sh (L := [109]) (fun t h => by simpa [lw_f109] using h) (by decide +kernel)
theorem pq_f109 : ∀ t, lw_f109 t = false → ∀ j, ck_pr (ck_prot1 t) j → ck_pr (ck_protT t) j := fun t h j hj => by unfold ck_protT; rw [if_neg (fun e => by rw [e] at h; cases h)]; exact hj
theorem lw_feed (C : lw_C p l s m c b L xs D cys ty ax am qo) (hn : n + 6 ≤ L) (hcs : cells ≤ 601024 ∧ slots ≤ 7293034) (hl : lv_has ls 7 (lw_lv b ax am qo n)) (hI : lw_I s D cys ty qo pvv H locs) (he : lw_E pvv) (G : lw_G p l e s m below meth c b D cys ty ax am qo n cells slots Q) : W p l e room_1 s m #[Value.ref b] below meth c H locs cells slots Q (F0 m 220 ls []) := by
  have C' := C
  obtain ⟨⟨hx, hb, -⟩, -, -, -, ⟨hU, hun⟩, tx, tm, -⟩ := C
  have hUx := ev_uqT hun
  obtain ⟨i1, i2, i3, i4⟩ := hI
  have ce := lw_cells i2 tx tm
  obtain ⟨K, hG, hW⟩ := ge_out i2
  obtain ⟨M, hM⟩ := ev_ofck hUx hW
  obtain ⟨m1, m2, m3, m4, -⟩ := lw_tp hW hM ce hG.1.1
  have r0 := hr_pv i1 0 (lo := 0) (hi := 940) (ds := []) rfl
  have q1 : ∀ k : Nat, k < 940 → M 15 k = M 49 k := fun k hk => by rw [(m1 k hk).1, (m1 k hk).2, hG.1.1.1 k hk]
  have q2 : M 12 2 = (pvv 0).toInt := by rw [m4, he.1]
  obtain ⟨r, M1, -, f1, -, -, f2, -⟩ := zf_alike (zf_x (xs (n + 1))) (zf_x (xs (n + 2))) (zf_x (xs (n + 3))) (zf_x (xs (n + 4))) (zf_x (xs (n + 5))) q1 m3 q2 r0.1 r0.2
  obtain ⟨r', M1', M2, f3, f4, f5, -, f6⟩ := zf_alike (C2 := M1) (zf_x (xs (n + 1))) (zf_x (xs (n + 2))) (zf_x (xs (n + 3))) (zf_x (xs (n + 4))) (zf_x (xs (n + 5))) (fun k hk => by rw [f2 49 (by decide) (by decide)]; exact q1 k hk) m3 (by rw [f2 12 (by decide) (by decide)]; exact q2) r0.1 r0.2
  rw [f1] at f3
  have e9 : M1' = M1 := (Prod.mk.inj (Option.some.inj f3)).2.symm
  rw [e9] at f5
  refine lv_aload_n hx hb (show decode code 220 = .ok (.aload_n 1, 1) by decide +kernel) rfl (lv_at hl 1 rfl) ?_
  refine lw_arg C' hl rfl rfl i4 hn 1 1 (by decide) rfl (show dc_arg 221 1 from ⟨by decide +kernel, by decide +kernel, by decide +kernel, by decide +kernel, by decide +kernel⟩) ?_
  refine lw_arg C' hl rfl rfl i4 hn 2 2 (by decide) rfl (show dc_arg 227 2 from ⟨by decide +kernel, by decide +kernel, by decide +kernel, by decide +kernel, by decide +kernel⟩) ?_
  refine lw_arg C' hl rfl rfl i4 hn 3 3 (by decide) rfl (show dc_arg 233 3 from ⟨by decide +kernel, by decide +kernel, by decide +kernel, by decide +kernel, by decide +kernel⟩) ?_
  refine lw_arg C' hl rfl rfl i4 hn 4 4 (by decide) rfl (show dc_arg 239 4 from ⟨by decide +kernel, by decide +kernel, by decide +kernel, by decide +kernel, by decide +kernel⟩) ?_
  refine lw_arg C' hl rfl rfl i4 hn 5 5 (by decide) rfl (show dc_arg 245 5 from ⟨by decide +kernel, by decide +kernel, by decide +kernel, by decide +kernel, by decide +kernel⟩) ?_
  refine lw_ex (kc := kq_11_feed) (Ex := tk ty ck_protN K) (M := M) (A := [.inr (.inl 11), .inl (xs (n + 1)).toInt, .inl (xs (n + 2)).toInt, .inl (xs (n + 3)).toInt, .inl (xs (n + 4)).toInt, .inl (xs (n + 5)).toInt]) (b' := ax) (As := [.int (xs (n + 1)), .int (xs (n + 2)), .int (xs (n + 3)), .int (xs (n + 4)), .int (xs (n + 5))]) C' hl lmN_11 lsN_11 (chN hU hun (tk_ExP (fun _ _ h => h)) 4 (by decide)) (mQ_11_feed hUx f1) ⟨⟨ax, rfl, tx⟩, hr_aF, hr_aF, hr_aF, hr_aF, hr_aF, trivial⟩ ⟨⟨ax, rfl, tx⟩, ⟨_, rfl, rfl⟩, ⟨_, rfl, rfl⟩, ⟨_, rfl, rfl⟩, ⟨_, rfl, rfl⟩, ⟨_, rfl, rfl⟩, trivial⟩ ⟨i1, hr_mono (fun _ h => tk_w prNA h) hW, i3, i4⟩ hM rfl ⟨by decide, by decide⟩ hcs (Nat.zero_le _) (show decode code 251 = .ok (.invokevirtual 19, 3) by decide +kernel) (fun cs hcs1 z g H locs r3 M3 hco hr3 hq3 hJ hE => ?_)
  obtain ⟨-, rfl⟩ := hq3
  have f1 := fd_A hcs1 hco.2.2
  refine lv_pop hx hb (show decode code 254 = .ok (.pop, 1) by decide +kernel) rfl ?_
  refine lv_aload_n hx hb (show decode code 255 = .ok (.aload_n 2, 1) by decide +kernel) rfl (lv_at hl 2 rfl) ?_
  refine lw_arg C' hl rfl rfl hJ.2.2.2 hn 1 1 (by decide) rfl (show dc_arg 256 1 from ⟨by decide +kernel, by decide +kernel, by decide +kernel, by decide +kernel, by decide +kernel⟩) ?_
  refine lw_arg C' hl rfl rfl hJ.2.2.2 hn 2 2 (by decide) rfl (show dc_arg 262 2 from ⟨by decide +kernel, by decide +kernel, by decide +kernel, by decide +kernel, by decide +kernel⟩) ?_
  refine lw_arg C' hl rfl rfl hJ.2.2.2 hn 3 3 (by decide) rfl (show dc_arg 268 3 from ⟨by decide +kernel, by decide +kernel, by decide +kernel, by decide +kernel, by decide +kernel⟩) ?_
  refine lw_arg C' hl rfl rfl hJ.2.2.2 hn 4 4 (by decide) rfl (show dc_arg 274 4 from ⟨by decide +kernel, by decide +kernel, by decide +kernel, by decide +kernel, by decide +kernel⟩) ?_
  refine lw_arg C' hl rfl rfl hJ.2.2.2 hn 5 5 (by decide) rfl (show dc_arg 280 5 from ⟨by decide +kernel, by decide +kernel, by decide +kernel, by decide +kernel, by decide +kernel⟩) ?_
  refine lw_ex (kc := kq_12_feed) (Ex := tk ty ck_protN K) (A := [.inr (.inl 12), .inl (xs (n + 1)).toInt, .inl (xs (n + 2)).toInt, .inl (xs (n + 3)).toInt, .inl (xs (n + 4)).toInt, .inl (xs (n + 5)).toInt]) (b' := am) (As := [.int (xs (n + 1)), .int (xs (n + 2)), .int (xs (n + 3)), .int (xs (n + 4)), .int (xs (n + 5))]) C' hl lmN_12 lsN_12 (chN hU hun (tk_ExP (fun _ _ h => h)) 5 (by decide)) (mQ_12_feed hUx f4) ⟨⟨am, rfl, tm⟩, hr_aF, hr_aF, hr_aF, hr_aF, hr_aF, trivial⟩ ⟨⟨am, rfl, tm⟩, ⟨_, rfl, rfl⟩, ⟨_, rfl, rfl⟩, ⟨_, rfl, rfl⟩, ⟨_, rfl, rfl⟩, ⟨_, rfl, rfl⟩, trivial⟩ hJ hE rfl ⟨by decide, by decide⟩ hcs (Nat.zero_le _) (show decode code 286 = .ok (.invokevirtual 23, 3) by decide +kernel) (fun cs2 hcs2 z2 g2 H locs r4 M4 hco2 hr4 hq4 hJ2 hE2 => ?_)
  obtain ⟨-, rfl⟩ := hq4
  have f2 := fd_B hcs2 hco2.2.2
  refine lv_pop hx hb (show decode code 289 = .ok (.pop, 1) by decide +kernel) rfl ?_
  refine lv_goto (tgt := 1212) hx hb (show decode code 290 = .ok (.goto 922, 3) by decide +kernel) (by decide) ?_
  have hWn := ev_re hJ2.2.1 hE2 sh_N pq_N
  have hGn : gC (ev_up ck_frN M4 K) := by
    have eN : ∀ t, ck_frN t = false → ev_up ck_frN M4 K t = K t := fun t h => ev_up_n h
    have e15 : ∀ j : Nat, j < 940 → ev_up ck_frN M4 K 15 j = ev_up ck_frN M4 K 49 j := fun j hj => by
      have h9 : M4 15 j = M4 49 j := by rw [f6 15 (by decide) (by decide)]; exact f5 j hj
      show Int32.ofInt (M4 15 j) = Int32.ofInt (M4 49 j)
      rw [h9]
    refine ⟨⟨⟨e15, fun j hj => by rw [eN 16 (by decide)]; exact hG.1.1.2.1 j hj, fun j hj => by rw [eN 50 (by decide)]; exact hG.1.1.2.2 j hj⟩, g6_of hG.1.2 (fun t j ht => by rw [eN t (by
      have key : ∀ t, t < 200 → g6t t = true → ck_frN t = false := by decide +kernel
      rcases Nat.lt_or_ge t 200 with h | h
      · exact key t h ht
      · cases hc : ck_frN t with
        | false => rfl
        | true =>
          simp [ck_frN] at hc
          omega)]) (fun j _ => by rw [eN 34 (by decide)])⟩, ?_⟩
    have h2 := hG.2
    unfold g1C g2C g3C g4C at *
    rw [eN 0 (by decide), eN 29 (by decide), eN 30 (by decide), eN 31 (by decide), eN 12 (by decide), eN 37 (by decide), eN 34 (by decide), eN 46 (by decide), eN 45 (by decide)]
    exact h2
  refine G g2 H locs ls ⟨hJ2.1, ge_in hWn hGn, hJ2.2.2.1, hJ2.2.2.2⟩ ?_ hl
  obtain ⟨a1, a2⟩ := f1
  obtain ⟨b1, b2⟩ := f2
  rw [a1 11 (by decide) (by decide)] at b2
  rw [he.1] at a2
  refine ⟨?_, by rw [b1 26 (by decide) (by decide), b1 28 (by decide) (by decide), a1 26 (by decide) (by decide), a1 28 (by decide) (by decide)]; exact he.2.1, by rw [b1 27 (by decide) (by decide), b1 29 (by decide) (by decide), a1 27 (by decide) (by decide), a1 29 (by decide) (by decide)]; exact he.2.2.1, by rw [b1 30 (by decide) (by decide), b1 31 (by decide) (by decide), a1 30 (by decide) (by decide), a1 31 (by decide) (by decide)]; exact he.2.2.2⟩
  refine Int32.toInt_inj.mp ?_
  rw [b1 0 (by decide) (by decide)]
  rcases a2 with ⟨u1, u2⟩ | ⟨u1, u2⟩ <;> rcases b2 with ⟨v1, v2⟩ | ⟨v1, v2⟩ <;> omega
theorem lw_play (C : lw_C p l s m c b L xs D cys ty ax am qo) (hn : n + 6 ≤ L) (hcs : cells ≤ 601024 ∧ slots ≤ 7293034) (hl : lv_has ls 7 (lw_lv b ax am qo n)) (hI : lw_I s D cys ty qo pvv H locs) (he : lw_E pvv) (G : lw_G p l e s m below meth c b D cys ty ax am qo n cells slots Q) : W p l e room_1 s m #[Value.ref b] below meth c H locs cells slots Q (F0 m 318 ls []) := by
  have C' := C
  obtain ⟨⟨hx, hb, -⟩, -, -, -, ⟨hU, hun⟩, tx, tm, -⟩ := C
  have hUx := ev_uqT hun
  obtain ⟨i1, i2, i3, i4⟩ := hI
  have ce := lw_cells i2 tx tm
  obtain ⟨K, hG, hW⟩ := ge_out i2
  obtain ⟨M, hM⟩ := ev_ofck hUx hW
  obtain ⟨m1, m2, m3, m4, -⟩ := lw_tp hW hM ce hG.1.1
  have ag0 := lw_ag hW hM ce
  have hz0 : z_G M M := z_G.al hG.1.2 ag0
  have r0 := hr_pv i1 0 (lo := 0) (hi := 940) (ds := []) rfl
  have hB : z_B M M := ⟨fun k hk => ⟨by rw [(m1 k hk).1, (m1 k hk).2, hG.1.1.1 k hk], by rw [(m1 k hk).1]; exact ck_lo _, by rw [(m1 k hk).1]; exact ck_hi _⟩, by rw [m3, m4, he.1], by rw [m3]; exact r0, m2⟩
  obtain ⟨r, M1, -, f1, -⟩ := z_play hB
  refine lv_aload_n hx hb (show decode code 318 = .ok (.aload_n 1, 1) by decide +kernel) rfl (lv_at hl 1 rfl) ?_
  refine lw_ex (kc := kq_11_play) (Ex := tk ty ck_protP K) (M := M) (A := [.inr (.inl 11)]) (b' := ax) (As := []) C' hl lm_kq_11_play lq_kq_11_playS (chP hU hun (tk_ExP (fun _ _ h => h)) 11 (by decide)) (mQ_11_play hUx f1) ⟨⟨ax, rfl, tx⟩, trivial⟩ ⟨⟨ax, rfl, tx⟩, trivial⟩ ⟨i1, hr_mono (fun _ h => tk_w prPA h) hW, i3, i4⟩ hM rfl ⟨by decide, by decide⟩ hcs (Nat.zero_le _) (show decode code 319 = .ok (.invokevirtual 29, 3) by decide +kernel) (fun cs hcs1 z g H locs r3 M3 hco hr3 hq3 hJ hE => ?_)
  obtain ⟨-, rfl⟩ := hq3
  obtain ⟨a0, a1⟩ := lw_ZZ lq_kq_11_play hcs1 hco
  have hW1 := ev_re hJ.2.1 hE sh_P pq_P
  have h01 : g0C (ev_up ck_frP M3 K) := g0_up (by decide) (gC_0C hG)
  have ag1 := lw_ag hW1 hE ce
  obtain ⟨n1, n2, n3, n4, -⟩ := lw_tp hW1 hE ce h01.1
  have hB' : z_B M M3 := ⟨fun k hk => ⟨by rw [(m1 k hk).1, (n1 k hk).2, ev_up_n (t := 49) (by decide), hG.1.1.1 k hk], by rw [(m1 k hk).1]; exact ck_lo _, by rw [(m1 k hk).1]; exact ck_hi _⟩, by rw [m3, n4, a1 11 (by decide) (by decide), he.1], by rw [m3]; exact r0, fun j hj => ⟨(m2 j hj).1, (n2 j hj).2⟩⟩
  obtain ⟨r', M1', M2, f3, f4, hft, hd⟩ := z_play hB'
  rw [f1] at f3
  have e8 : r' = r := (Prod.mk.inj (Option.some.inj f3)).1.symm
  have e9 : M1' = M3 := (Prod.mk.inj (Option.some.inj f3)).2.symm
  rw [e8] at f4
  rw [e9] at hd hft
  refine lv_pop hx hb (show decode code 322 = .ok (.pop, 1) by decide +kernel) rfl ?_
  refine lv_aload_n hx hb (show decode code 323 = .ok (.aload_n 2, 1) by decide +kernel) rfl (lv_at hl 2 rfl) ?_
  refine lw_ex (kc := kh_12_play) (Ex := GX ty ck_protR gx_r (ev_up ck_frP M3 K)) (M := M3) (A := [.inr (.inl 12)]) (b' := am) (As := []) C' hl lm_kh_12_play lq_kh_12_playS (hk_12_play lk_f lk_m hU hun (ch2 hU hun (ch0 hU hun) (ch1 hU hun (ch0 hU hun)))) (m_12_play hUx f4) ⟨⟨am, rfl, tm⟩, trivial⟩ ⟨⟨am, rfl, tm⟩, trivial⟩ ⟨hJ.1, gx_in (hr_mono (fun _ h => tk_w prR1 h) hW1) h01 (fun _ _ _ => rfl), hJ.2.2.1, hJ.2.2.2⟩ hE rfl ⟨by decide, by decide⟩ hcs (Nat.zero_le _) (show decode code 324 = .ok (.invokevirtual 33, 3) by decide +kernel) (fun cs2 hcs2 z2 g2 H locs r4 M4 hco2 hr4 hq4 hJ2 hE2 => ?_)
  obtain ⟨-, rfl⟩ := hq4
  obtain ⟨b0, b1⟩ := lw_ZZ lq_kh_12_play hcs2 hco2
  refine lv_pop hx hb (show decode code 327 = .ok (.pop, 1) by decide +kernel) rfl ?_
  refine lv_goto (tgt := 1212) hx hb (show decode code 328 = .ok (.goto 884, 3) by decide +kernel) (by decide) ?_
  obtain ⟨C2, h02, hk2, hW2⟩ := gx_out hJ2.2.1
  have hW3 := ev_re hW2 hE2 sh_f19 pq_f19
  have ag2 := lw_ag hW3 hE2 ce
  have hz2 : z_G M4 M4 := by
    have eK : ∀ t, gx_r t = true → lw_f19 t = false → ck_frP t = false → ev_up lw_f19 M4 C2 t = K t := fun t g1 g2 g3 => by
      rw [ev_up_n g2, funext (hk2 t g1), ev_up_n g3]
    have eP : ∀ t, gx_r t = true → lw_f19 t = false → ev_up lw_f19 M4 C2 t = ev_up ck_frP M3 K t := fun t g1 g2 => by
      rw [ev_up_n g2, funext (hk2 t g1)]
    have same0 : ∀ t k, gx_r t = true → lw_f19 t = false → ck_frP t = false → ck_pr (lw_tb t) k → M4 t k = M t k := fun t k g1 g2 g3 hk => by
      rw [ag2 t k hk, ag0 t k hk]
      unfold ev_of
      rw [eK t g1 g2 g3]
    have same1 : ∀ t k, gx_r t = true → lw_f19 t = false → ck_pr (lw_tb t) k → M4 t k = M3 t k := fun t k g1 g2 hk => by
      rw [ag2 t k hk, ag1 t k hk]
      unfold ev_of
      rw [eP t g1 g2]
    have old1 : ∀ t k, ck_frP t = false → ck_pr (lw_tb t) k → M3 t k = M t k := fun t k g3 hk => by
      rw [ag1 t k hk, ag0 t k hk]
      unfold ev_of
      rw [ev_up_n g3]
    have b5 : ∀ t k, lw_tb t = [(0, 5)] → k < 6 → ck_pr (lw_tb t) k := fun t k e hk => ⟨(0, 5), by rw [e]; exact List.mem_singleton.mpr rfl, Nat.zero_le _, by show k ≤ 5; omega⟩
    have b7 : ∀ t k, lw_tb t = [(0, 7)] → k < 8 → ck_pr (lw_tb t) k := fun t k e hk => ⟨(0, 7), by rw [e]; exact List.mem_singleton.mpr rfl, Nat.zero_le _, by show k ≤ 7; omega⟩
    have b11 : ∀ t k, lw_tb t = [(0, 11)] → k < 12 → ck_pr (lw_tb t) k := fun t k e hk => ⟨(0, 11), by rw [e]; exact List.mem_singleton.mpr rfl, Nat.zero_le _, by show k ≤ 11; omega⟩
    have b34 : ∀ k, k < 140 → ck_pr (lw_tb 34) (0 + k) := fun k hk => ⟨(0, 139), by decide, Nat.zero_le _, by show 0 + k ≤ 139; omega⟩
    have b45 : ∀ k, k < 140 → ck_pr (lw_tb 45) (0 + k) := fun k hk => ⟨(0, 139), by decide, Nat.zero_le _, by show 0 + k ≤ 139; omega⟩
    have d45 : ∀ k, k < 140 → ck_pr (lw_tb 45) (367 + k) := fun k hk => ⟨(367, 506), by decide, by show 367 ≤ 367 + k; omega, by show 367 + k ≤ 506; omega⟩
    have b19 : ∀ k, k < 20 → ck_pr (lw_tb 19) (0 + k) := fun k hk => ⟨(0, 19), by decide, Nat.zero_le _, by show 0 + k ≤ 19; omega⟩
    have b109 : ∀ k, k < 20 → ck_pr (lw_tb 109) (0 + k) := fun k hk => ⟨(0, 39), by decide, Nat.zero_le _, by show 0 + k ≤ 39; omega⟩
    have d109 : ∀ k, k < 20 → ck_pr (lw_tb 109) (20 + k) := fun k hk => ⟨(0, 39), by decide, Nat.zero_le _, by show 20 + k ≤ 39; omega⟩
    refine ⟨?_, hz0.2.1.al (fun k hk => same0 _ _ (by decide) (by decide) (by decide) (b5 _ k rfl hk)) (fun k hk => same0 _ _ (by decide) (by decide) (by decide) (b5 _ k rfl hk)) (fun k hk => same0 _ _ (by decide) (by decide) (by decide) (b5 _ k rfl hk)) (fun k hk => same0 _ _ (by decide) (by decide) (by decide) (b7 _ k rfl hk)) (fun k hk => same0 _ _ (by decide) (by decide) (by decide) (b11 _ k rfl hk)) (fun k hk => same0 _ _ (by decide) (by decide) (by decide) (b11 _ k rfl hk)) (fun k hk => same0 _ _ (by decide) (by decide) (by decide) (b11 _ k rfl hk)) (fun k hk => same0 _ _ (by decide) (by decide) (by decide) (b45 k hk)) (fun k hk => same0 _ _ (by decide) (by decide) (by decide) (b109 k hk)), hz0.2.2.al (fun k hk => same0 _ _ (by decide) (by decide) (by decide) (b5 _ k rfl hk)) (fun k hk => same0 _ _ (by decide) (by decide) (by decide) (b5 _ k rfl hk)) (fun k hk => same0 _ _ (by decide) (by decide) (by decide) (b5 _ k rfl hk)) (fun k hk => same0 _ _ (by decide) (by decide) (by decide) (b7 _ k rfl hk)) (fun k hk => same0 _ _ (by decide) (by decide) (by decide) (b11 _ k rfl hk)) (fun k hk => same0 _ _ (by decide) (by decide) (by decide) (b11 _ k rfl hk)) (fun k hk => same0 _ _ (by decide) (by decide) (by decide) (b11 _ k rfl hk)) (fun k hk => same0 _ _ (by decide) (by decide) (by decide) (d45 k hk)) (fun k hk => same0 _ _ (by decide) (by decide) (by decide) (d109 k hk))⟩
    rcases hd with ⟨w1, w2, w3⟩ | hd
    · refine hz0.1.al (fun k hk => ?_) (fun k hk => ?_) (fun k hk => ?_) (fun k hk => ?_) (fun k hk => ?_) (fun k hk => ?_) (fun k hk => ?_) (fun k hk => ?_) (fun k hk => ?_)
      · exact (same1 6 k (by decide) (by decide) (b5 _ k rfl hk)).trans (congrFun (w1 6 (by decide)) k)
      · exact (same1 67 k (by decide) (by decide) (b5 _ k rfl hk)).trans (congrFun (w1 67 (by decide)) k)
      · exact (same1 68 k (by decide) (by decide) (b5 _ k rfl hk)).trans (congrFun (w1 68 (by decide)) k)
      · exact (same1 69 k (by decide) (by decide) (b7 _ k rfl hk)).trans (congrFun (w1 69 (by decide)) k)
      · exact (same1 78 k (by decide) (by decide) (b11 _ k rfl hk)).trans (congrFun (w1 78 (by decide)) k)
      · exact (same1 79 k (by decide) (by decide) (b11 _ k rfl hk)).trans (congrFun (w1 79 (by decide)) k)
      · exact (same1 80 k (by decide) (by decide) (b11 _ k rfl hk)).trans (congrFun (w1 80 (by decide)) k)
      · exact (congrFun w2 _).trans (old1 34 _ (by decide) (b34 k hk))
      · exact (w3 _ (by omega)).trans (old1 19 _ (by decide) (b19 k hk))
    · exact hd.al (fun k hk => same1 _ _ (by decide) (by decide) (b5 _ k rfl hk)) (fun k hk => same1 _ _ (by decide) (by decide) (b5 _ k rfl hk)) (fun k hk => same1 _ _ (by decide) (by decide) (b5 _ k rfl hk)) (fun k hk => same1 _ _ (by decide) (by decide) (b7 _ k rfl hk)) (fun k hk => same1 _ _ (by decide) (by decide) (b11 _ k rfl hk)) (fun k hk => same1 _ _ (by decide) (by decide) (b11 _ k rfl hk)) (fun k hk => same1 _ _ (by decide) (by decide) (b11 _ k rfl hk)) (fun k hk => rfl) (fun k hk => rfl)
  refine G g2 H locs ls ⟨hJ2.1, ge_fin hW3 hE2 ce (g0_up (by decide) h02) hz2, hJ2.2.2.1, hJ2.2.2.2⟩ ⟨?_, ?_, ?_, ?_⟩ hl
  · rw [b1 0 (by decide) (by decide), a0, b0]
  · rw [b1 26 (by decide) (by decide), b1 28 (by decide) (by decide), a1 26 (by decide) (by decide), a1 28 (by decide) (by decide)]; exact he.2.1
  · rw [b1 27 (by decide) (by decide), b1 29 (by decide) (by decide), a1 27 (by decide) (by decide), a1 29 (by decide) (by decide)]; exact he.2.2.1
  · have u1 := hx_pv11 hJ.2.1 hE tx
    have u2 := (hx_pv12 hJ2.2.1 hE2 tm).2.1
    have u3 : g2 30 = g 30 := lw_s1 l30_play hcs2 hco2
    refine Int32.toInt_inj.mp ?_
    rw [u3, ← u1, ← u2]
    exact hft
theorem lw_end (C : lw_C p l s m c b L xs D cys ty ax am qo) (hn : n + 6 ≤ L) (hcs : cells ≤ 601024 ∧ slots ≤ 7293034) (hl : lv_has ls 7 (lw_lv b ax am qo n)) (hI : lw_I s D cys ty qo pvv H locs) (he : lw_E pvv) (G : lw_G p l e s m below meth c b D cys ty ax am qo n cells slots Q) : W p l e room_1 s m #[Value.ref b] below meth c H locs cells slots Q (F0 m 293 ls []) := by
  have C' := C
  obtain ⟨F, -, -, -, ⟨hU, hun⟩, tx, tm, hqo, hA, -⟩ := C
  have hx := F.1
  have hb := F.2.1
  refine lv_aload_n hx hb (show decode code 293 = .ok (.aload_n 1, 1) by decide +kernel) rfl (lv_at hl 1 rfl) ?_
  refine lw_arg C' hl rfl rfl hI.2.2.2 hn 1 1 (by decide) rfl (show dc_arg 294 1 from ⟨by decide +kernel, by decide +kernel, by decide +kernel, by decide +kernel, by decide +kernel⟩) ?_
  obtain ⟨i1, i2, i3, i4⟩ := hI
  have r0 := hr_pv i1 0 (lo := 0) (hi := 940) (ds := []) rfl
  refine lc_afterR (lc_runV (kc := kc_170) (b := ax) (As := [.int (xs (n + 1))]) F hl lm_170 (hs_11_end (x1 := xs (n + 1)) hU tx) ⟨⟨ax, rfl, tx⟩, hr_aF, trivial⟩ i2 rfl ⟨by decide, by decide⟩ hcs (Nat.zero_le _) (show decode code 300 = .ok (.invokevirtual 24, 3) by decide +kernel)) i4 hA (fun r g E' H1 locs1 hP hW hS hkp => ?_)
  obtain ⟨rfl, z, rfl, hz⟩ := hP
  have o1 : lo_P D cys qo H1 := lo_kept i3 (hkp.2 qo (lo_lt i3) hqo)
  have j1 : ck_pvo ty (ck_XE g) pPM g := by
    rcases hz with ⟨z1, z2, -, rfl⟩ | ⟨-, -, rfl⟩
    · exact li_upd rfl (by decide +kernel) z1 (by omega) i1
    · exact i1
  have e11 : g 11 = pvv 11 := by
    rcases hz with ⟨-, -, -, rfl⟩ | ⟨-, -, rfl⟩
    · exact pk_un (by decide)
    · rfl
  refine lv_pop hx hb (show decode code 303 = .ok (.pop, 1) by decide +kernel) rfl ?_
  refine lv_aload_n hx hb (show decode code 304 = .ok (.aload_n 2, 1) by decide +kernel) rfl (lv_at hl 2 rfl) ?_
  refine lw_arg C' hl rfl rfl hS hn 1 1 (by decide) rfl (show dc_arg 305 1 from ⟨by decide +kernel, by decide +kernel, by decide +kernel, by decide +kernel, by decide +kernel⟩) ?_
  refine lc_afterR (lc_runV (kc := kc_247) (b := am) (As := [.int (xs (n + 1))]) F hl lm_247 (hs_12_end (x1 := xs (n + 1)) hU tm) ⟨⟨am, rfl, tm⟩, hr_aF, trivial⟩ hW rfl ⟨by decide, by decide⟩ hcs (Nat.zero_le _) (show decode code 311 = .ok (.invokevirtual 28, 3) by decide +kernel)) hS hA (fun r g2 E' H2 locs2 hP hW2 hS2 hkp2 => ?_)
  obtain ⟨rfl, z2, rfl, hy⟩ := hP
  have o2 : lo_P D cys qo H2 := lo_kept o1 (hkp2.2 qo (lo_lt o1) hqo)
  rw [e11, ← he.1] at hy
  have fin : z = z2 ∧ lw_E g2 ∧ ck_pvo ty (ck_XE g2) pPM g2 := by
    rcases hz with ⟨a1, a2, a3, rfl⟩ | ⟨a1, a2, rfl⟩ <;> rcases hy with ⟨b1, b2, b3, rfl⟩ | ⟨b1, b2, rfl⟩
    · refine ⟨Int32.toInt_inj.mp (by omega), ?_, li_upd rfl (by decide +kernel) b1 (by omega) j1⟩
      refine ⟨by rw [pk_us, pk_un (by decide), pk_us], ?_, ?_, ?_⟩
      · rw [pk_un (by decide), pk_un (by decide), pk_un (by decide), pk_un (by decide)]; exact he.2.1
      · rw [pk_un (by decide), pk_un (by decide), pk_un (by decide), pk_un (by decide)]; exact he.2.2.1
      · rw [pk_un (by decide), pk_un (by decide), pk_un (by decide), pk_un (by decide)]; exact he.2.2.2
    · exact absurd ⟨a1, a2⟩ b1
    · exact absurd ⟨b1, b2⟩ a1
    · exact ⟨Int32.toInt_inj.mp (by omega), he, i1⟩
  refine lv_pop hx hb (show decode code 314 = .ok (.pop, 1) by decide +kernel) rfl ?_
  refine lv_goto (tgt := 1212) hx hb (show decode code 315 = .ok (.goto 897, 3) by decide +kernel) (by decide) ?_
  exact G g2 H2 locs2 ls ⟨fin.2.2, hW2, o2, hS2⟩ fin.2.1 hl
theorem lm_181 : lc_mV RL 170 kc_181 11 := ⟨(in_r61 _ (List.mem_of_getElem? (i := 7) rfl)), (in_r1 _ (List.mem_of_getElem? (i := 2) rfl)), (in_r61 _ (List.mem_of_getElem? (i := 4) rfl)), (in_r61 _ (List.mem_of_getElem? (i := 5) rfl)), (in_r61 _ (List.mem_of_getElem? (i := 6) rfl)), by decide +kernel, _, _, _, _, rfl, rfl, rfl, rfl, by decide +kernel⟩
theorem lqZ_181 : ck_lawZ kc_181 0 = true := by decide +kernel
theorem lqS_181 : ck_lawS kc_181 = true := by decide +kernel
theorem lm_348 : lc_mV RL 173 kc_348 12 := ⟨(in_r63 _ (List.mem_of_getElem? (i := 7) rfl)), (in_r1 _ (List.mem_of_getElem? (i := 5) rfl)), (in_r63 _ (List.mem_of_getElem? (i := 4) rfl)), (in_r63 _ (List.mem_of_getElem? (i := 5) rfl)), (in_r63 _ (List.mem_of_getElem? (i := 6) rfl)), by decide +kernel, _, _, _, _, rfl, rfl, rfl, rfl, by decide +kernel⟩
theorem lqZ_348 : ck_lawZ kc_348 11 = true := by decide +kernel
theorem lqS_348 : ck_lawS kc_348 = true := by decide +kernel
theorem l30_sentence : (k_cs kc_348).all (fun cs => ck_same1 cs.2.2 30) = true := by decide +kernel
theorem y_fk_of {M1 M2 : ev_C} (h : z_PL 6 67 34 0 19 0 M1 M2) : y_fk M1 M2 := ⟨h.1.2.1, fun k hk => by
  have e := h.2.1.2.1 k hk
  rwa [show 0 + 6 + k = 6 + k by omega] at e⟩
theorem y_fk.c2 {C1 C2 C2' : ev_C} (h : y_fk C1 C2) (e : C2' 34 1 = C2 34 1) (e2 : ∀ k : Nat, k < 6 → C2' 19 (6 + k) = C2 19 (6 + k)) : y_fk C1 C2' := ⟨by rw [e]; exact h.1, fun k hk => by
  rw [e2 k (by have := h.1.2.2; omega)]
  exact h.2 k hk⟩
theorem y_nm_of {M1 M2 : ev_C} (h : z_PL 6 67 34 0 19 0 M1 M2) : y_nm M1 M2 := ⟨⟨h.1.1, fun k hk => h.2.1.1 k hk⟩, ⟨h.1.2.1, fun k hk => by
  have e := h.2.1.2.1 k hk
  rwa [show 0 + 6 + k = 6 + k by omega] at e⟩, ⟨h.1.2.2.1, fun k hk => by
  have e := h.2.1.2.2 k hk
  rwa [show 0 + 12 + k = 12 + k by omega] at e⟩⟩
theorem y_nk.c2 {t j b n : Nat} {C1 C2 C2' : ev_C} (h : y_nk t j b n C1 C2) (e : C2' 34 j = C2 34 j) (e2 : ∀ k : Nat, k < n → C2' 19 (b + k) = C2 19 (b + k)) : y_nk t j b n C1 C2' := ⟨by rw [e]; exact h.1, fun k hk => by
  rw [e2 k (by have := h.1.2.2; omega)]
  exact h.2 k hk⟩
theorem y_nm.c2 {C1 C2 C2' : ev_C} (h : y_nm C1 C2) (e : ∀ k : Nat, k < 3 → C2' 34 k = C2 34 k) (e2 : ∀ k : Nat, k < 20 → C2' 19 k = C2 19 k) : y_nm C1 C2' := ⟨h.1.c2 (e 0 (by decide)) (fun k hk => e2 _ (by omega)), h.2.1.c2 (e 1 (by decide)) (fun k hk => e2 _ (by omega)), h.2.2.c2 (e 2 (by decide)) (fun k hk => e2 _ (by omega))⟩
theorem lw_sentence (C : lw_C p l s m c b L xs D cys ty ax am qo) (hn : n + 6 ≤ L) (hcs : cells ≤ 601024 ∧ slots ≤ 7293034) (hl : lv_has ls 7 (lw_lv b ax am qo n)) (hI : lw_I s D cys ty qo pvv H locs) (he : lw_E pvv) (G : lw_G p l e s m below meth c b D cys ty ax am qo n cells slots Q) : W p l e room_1 s m #[Value.ref b] below meth c H locs cells slots Q (F0 m 1099 ls []) := by
  have C' := C
  obtain ⟨⟨hx, hb, -⟩, -, -, -, ⟨hU, hun⟩, tx, tm, -⟩ := C
  have hUx := ev_uqT hun
  obtain ⟨i1, i2, i3, i4⟩ := hI
  have ce := lw_cells i2 tx tm
  obtain ⟨K, hG, hW⟩ := ge_out i2
  obtain ⟨M, hM⟩ := ev_ofck hUx hW
  obtain ⟨m1, m2, m3, m4, -⟩ := lw_tp hW hM ce hG.1.1
  have ag0 := lw_ag hW hM ce
  have hz0 : z_G M M := z_G.al hG.1.2 ag0
  have r0 := hr_pv i1 0 (lo := 0) (hi := 940) (ds := []) rfl
  have hB : z_B M M := ⟨fun k hk => ⟨by rw [(m1 k hk).1, (m1 k hk).2, hG.1.1.1 k hk], by rw [(m1 k hk).1]; exact ck_lo _, by rw [(m1 k hk).1]; exact ck_hi _⟩, by rw [m3, m4, he.1], by rw [m3]; exact r0, m2⟩
  have hF := y_fk_of hz0.1
  obtain ⟨r, M1, -, f1, -⟩ := y_sentence hB hF
  refine lv_aload_n hx hb (show decode code 1099 = .ok (.aload_n 1, 1) by decide +kernel) rfl (lv_at hl 1 rfl) ?_
  refine lw_ex (kc := kc_181) (Ex := tk ty ck_prot1 K) (M := M) (A := [.inr (.inl 11)]) (b' := ax) (As := []) C' hl lm_181 lqS_181 (ch2 hU hun (ch0 hU hun) (ch1 hU hun (ch0 hU hun)) (tk ty ck_prot1 K) (tk_ExP (fun _ _ h => h)) 181 (by decide)) (m_11_sentence hUx f1) ⟨⟨ax, rfl, tx⟩, trivial⟩ ⟨⟨ax, rfl, tx⟩, trivial⟩ ⟨i1, hW, i3, i4⟩ hM rfl ⟨by decide, by decide⟩ hcs (Nat.zero_le _) (show decode code 1100 = .ok (.invokevirtual 170, 3) by decide +kernel) (fun cs hcs1 z g H locs r3 M3 hco hr3 hq3 hJ hE => ?_)
  obtain ⟨-, rfl⟩ := hq3
  obtain ⟨a0, a1⟩ := lw_ZZ lqZ_181 hcs1 hco
  have ag1 := lw_ag hJ.2.1 hE ce
  obtain ⟨n1, n2, n3, n4, -⟩ := lw_tp hJ.2.1 hE ce hG.1.1
  have hB' : z_B M M3 := ⟨fun k hk => ⟨by rw [(m1 k hk).1, (n1 k hk).2, hG.1.1.1 k hk], by rw [(m1 k hk).1]; exact ck_lo _, by rw [(m1 k hk).1]; exact ck_hi _⟩, by rw [m3, n4, a1 11 (by decide) (by decide), he.1], by rw [m3]; exact r0, fun j hj => ⟨(m2 j hj).1, (n2 j hj).2⟩⟩
  have k34 : ck_pr (lw_tb 34) 1 := ⟨(0, 139), by decide, by decide, by decide⟩
  have k19 : ∀ k : Nat, k < 6 → ck_pr (lw_tb 19) (6 + k) := fun k hk => ⟨(0, 19), by decide, Nat.zero_le _, by show 6 + k ≤ 19; omega⟩
  have hF' : y_fk M M3 := hF.c2 ((ag1 34 1 k34).trans (ag0 34 1 k34).symm) (fun k hk => (ag1 19 _ (k19 k hk)).trans (ag0 19 _ (k19 k hk)).symm)
  obtain ⟨r', M1', M2, f3, f4, hft⟩ := y_sentence hB' hF'
  rw [f1] at f3
  have e8 : r' = r := (Prod.mk.inj (Option.some.inj f3)).1.symm
  have e9 : M1' = M3 := (Prod.mk.inj (Option.some.inj f3)).2.symm
  rw [e8] at f4
  rw [e9] at hft
  refine lv_pop hx hb (show decode code 1103 = .ok (.pop, 1) by decide +kernel) rfl ?_
  refine lv_aload_n hx hb (show decode code 1104 = .ok (.aload_n 2, 1) by decide +kernel) rfl (lv_at hl 2 rfl) ?_
  refine lw_ex (kc := kc_348) (Ex := GE ty) (M := M3) (A := [.inr (.inl 12)]) (b' := am) (As := []) C' hl lm_348 lqS_348 (ch_all hU hun 348 (by decide)) (m_12_sentence hUx f4) ⟨⟨am, rfl, tm⟩, trivial⟩ ⟨⟨am, rfl, tm⟩, trivial⟩ ⟨hJ.1, ge_in hJ.2.1 hG, hJ.2.2.1, hJ.2.2.2⟩ hE rfl ⟨by decide, by decide⟩ hcs (Nat.zero_le _) (show decode code 1105 = .ok (.invokevirtual 173, 3) by decide +kernel) (fun cs2 hcs2 z2 g2 H locs r4 M4 hco2 hr4 hq4 hJ2 hE2 => ?_)
  obtain ⟨-, rfl⟩ := hq4
  obtain ⟨b0, b1⟩ := lw_ZZ lqZ_348 hcs2 hco2
  refine lv_pop hx hb (show decode code 1108 = .ok (.pop, 1) by decide +kernel) rfl ?_
  refine lv_goto (tgt := 1212) hx hb (show decode code 1109 = .ok (.goto 103, 3) by decide +kernel) (by decide) ?_
  refine G g2 H locs ls hJ2 ⟨?_, ?_, ?_, ?_⟩ hl
  · rw [b0, b1 0 (by decide) (by decide), a0]
  · rw [b1 26 (by decide) (by decide), b1 28 (by decide) (by decide), a1 26 (by decide) (by decide), a1 28 (by decide) (by decide)]; exact he.2.1
  · rw [b1 27 (by decide) (by decide), b1 29 (by decide) (by decide), a1 27 (by decide) (by decide), a1 29 (by decide) (by decide)]; exact he.2.2.1
  · have u1 := hx_pv11 hJ.2.1 hE tx
    have u2 := (hx_pv12 hJ2.2.1 hE2 tm).2.1
    have u3 : g2 30 = g 30 := lw_s1 l30_sentence hcs2 hco2
    refine Int32.toInt_inj.mp ?_
    rw [u3, ← u1, ← u2]
    exact hft
theorem lw_book (C : lw_C p l s m c b L xs D cys ty ax am qo) (hn : n + 6 ≤ L) (hcs : cells ≤ 601024 ∧ slots ≤ 7293034) (hl : lv_has ls 7 (lw_lv b ax am qo n)) (hI : lw_I s D cys ty qo pvv H locs) (he : lw_E pvv) (G : lw_G p l e s m below meth c b D cys ty ax am qo n cells slots Q) : W p l e room_1 s m #[Value.ref b] below meth c H locs cells slots Q (F0 m 1049 ls []) := by
  have C' := C
  obtain ⟨⟨hx, hb, -⟩, -, -, -, ⟨hU, hun⟩, tx, tm, -⟩ := C
  have hUx := ev_uqT hun
  have dB : decode code 1067 = .ok (.invokevirtual 165, 3) := by decide +kernel
  have tail : ∀ (g : Nat → Int32) (H : Heap) (locs : List Loc) (z : Int32), (∀ i ∈ lw_js, g i = pvv i) → ((xs (n + 1)).toInt < 0 ∨ 2 ≤ (xs (n + 1)).toInt) → lw_I s D cys ty qo g H locs → W p l e room_1 s m #[Value.ref b] below meth c H locs cells slots Q (F0 m 1059 ls [.int z]) := by
    intro g H locs z e1 hv hI
    refine lv_pop hx hb (show decode code 1059 = .ok (.pop, 1) by decide +kernel) rfl ?_
    refine lv_aload_n hx hb (show decode code 1060 = .ok (.aload_n 2, 1) by decide +kernel) rfl (lv_at hl 2 rfl) ?_
    refine lw_arg C' hl rfl rfl hI.2.2.2 hn 1 1 (by decide) rfl (show dc_arg 1061 1 from ⟨by decide +kernel, by decide +kernel, by decide +kernel, by decide +kernel, by decide +kernel⟩) ?_
    refine lw_bx (kc := kc_337) (b' := am) (As := [.int (xs (n + 1))]) C' hl lm_337 ls_337 (ch_all hU hun 337 (by decide)) (hx_12_bookN lk_f lk_m hU tm hv) ⟨⟨am, rfl, tm⟩, hr_aF, trivial⟩ hI hI.2.1 rfl ⟨by decide, by decide⟩ hcs (Nat.zero_le _) dB (fun cs2 hcs2 z2 g2 g4 E4 H locs hco2 hP2 hW4 hJ2 => ?_)
    obtain ⟨-, -, w2⟩ := hP2
    obtain ⟨M5, hE5⟩ := ev_ofck hUx hW4
    have u31 : g2 31 = g 31 := Int32.toInt_inj.mp (by have e1 := (hx_pv12 hJ2.2.1 hE5 tm).2.1; have e2 := (hx_pv12 hW4 hE5 tm).2.1; rw [w2] at e2; omega)
    refine lv_pop hx hb (show decode code 1070 = .ok (.pop, 1) by decide +kernel) rfl ?_
    refine lv_goto (tgt := 1212) hx hb (show decode code 1071 = .ok (.goto 141, 3) by decide +kernel) (by decide) ?_
    rcases bk_B hcs2 hco2 with ⟨v1, v2, -⟩ | ⟨-, v30, v3⟩
    · omega
    · refine G g2 H locs ls hJ2 (lw_E_same (fun j hj => ?_) he) hl
      rcases lw_jsz hj with h | h | h
      · exact (v3 j h).trans (e1 j hj)
      · rw [h, v30]; exact e1 30 (by decide)
      · rw [h, u31]; exact e1 31 (by decide)
  refine lv_aload_n hx hb (show decode code 1049 = .ok (.aload_n 1, 1) by decide +kernel) rfl (lv_at hl 1 rfl) ?_
  refine lw_arg C' hl rfl rfl hI.2.2.2 hn 1 1 (by decide) rfl (show dc_arg 1050 1 from ⟨by decide +kernel, by decide +kernel, by decide +kernel, by decide +kernel, by decide +kernel⟩) ?_
  have hlo := ck_lo (xs (n + 1))
  have hhi := ck_hi (xs (n + 1))
  have dc : decode code 1056 = .ok (.invokevirtual 162, 3) := by decide +kernel
  rcases (show (xs (n + 1)).toInt < 0 ∨ (0 ≤ (xs (n + 1)).toInt ∧ (xs (n + 1)).toInt ≤ 1) ∨ 2 ≤ (xs (n + 1)).toInt by omega) with hc | hc | hc
  · obtain ⟨mA, jA, pA, rA⟩ := lK_333 (l := l) (D := D) (cys := cys) hU hun
    refine lw_keep (b' := ax) (As := [.int (xs (n + 1))]) C' hl mA lk_333 jA (by rw [pA]; exact ⟨⟨ax, rfl, tx⟩, hr_aI hlo (by omega), trivial⟩) hI rfl rA hcs (Nat.zero_le _) dc (fun z g H locs e1 hI => ?_)
    exact tail g H locs z e1 (Or.inl hc) hI
  rotate_left
  · obtain ⟨mA, jA, pA, rA⟩ := lK_335 (l := l) (D := D) (cys := cys) hU hun
    refine lw_keep (b' := ax) (As := [.int (xs (n + 1))]) C' hl mA lk_335 jA (by rw [pA]; exact ⟨⟨ax, rfl, tx⟩, hr_aI hc hhi, trivial⟩) hI rfl rA hcs (Nat.zero_le _) dc (fun z g H locs e1 hI => ?_)
    exact tail g H locs z e1 (Or.inr hc) hI
  obtain ⟨i1, i2, i3, i4⟩ := hI
  have ce := lw_cells i2 tx tm
  obtain ⟨K, hG, hW⟩ := ge_out i2
  obtain ⟨M, hM⟩ := ev_ofck hUx hW
  obtain ⟨m1, m2, m3, m4, -⟩ := lw_tp hW hM ce hG.1.1
  have ag0 := lw_ag hW hM ce
  have hz0 : z_G M M := z_G.al hG.1.2 ag0
  have r0 := hr_pv i1 0 (lo := 0) (hi := 940) (ds := []) rfl
  have hB : z_B M M := ⟨fun k hk => ⟨by rw [(m1 k hk).1, (m1 k hk).2, hG.1.1.1 k hk], by rw [(m1 k hk).1]; exact ck_lo _, by rw [(m1 k hk).1]; exact ck_hi _⟩, by rw [m3, m4, he.1], by rw [m3]; exact r0, m2⟩
  have hN := y_nm_of hz0.1
  obtain ⟨A1, B1, _, _, _, _, k1, k2, -⟩ := x_book hB hN
  have LK1 := ch2 (l := l) (D := D) (cys := cys) hU hun (ch0 hU hun) (ch1 hU hun (ch0 hU hun))
  refine lw_bx (kc := kc_334) (b' := ax) (As := [.int (xs (n + 1))]) C' hl lm_334 ls_334 (ch_all hU hun 334 (by decide)) (hx_11_book lk_f lk_c lk_m lk_h hU hun LK1 tx (hr_wk i1 pM_P) hG hc k1 k2 rfl) ⟨⟨ax, rfl, tx⟩, hr_aI hc.1 hc.2, trivial⟩ ⟨i1, i2, i3, i4⟩ (hx_mk hW hM) rfl ⟨by decide, by decide⟩ hcs (Nat.zero_le _) dc (fun cs hcs1 z g g3 E3 H locs hco hP hW3 hJ => ?_)
  obtain ⟨-, p2, K2, rfl, hG2, hT⟩ := hP
  obtain ⟨a0, a1⟩ := lw_ZZ lz_334 hcs1 hco
  obtain ⟨M3, hE3⟩ := ev_ofck hUx hW3
  have u30 : (g 30).toInt = B1 8 9 := by have e1 := hx_pv11 hJ.2.1 hE3 tx; have e2 := hx_pv11 hW3 hE3 tx; omega
  have ag1 := lw_ag hW3 hE3 ce
  obtain ⟨n1, n2, -, -, -⟩ := lw_tp hW3 hE3 ce hG2.1.1
  have nl := (hx_pv12 hJ.2.1 hE3 tm).2.2
  have hB' : z_B M M3 := ⟨fun k hk => ⟨by rw [(m1 k hk).1, (n1 k hk).2, hT 49 k (by decide) (by simp), hG.1.1.1 k hk], by rw [(m1 k hk).1]; exact ck_lo _, by rw [(m1 k hk).1]; exact ck_hi _⟩, by rw [m3, nl, a1 11 (by decide) (by decide), he.1], by rw [m3]; exact r0, fun j hj => ⟨(m2 j hj).1, (n2 j hj).2⟩⟩
  have s34 : ∀ k, ck_pr (lw_tb 34) k → M3 34 k = M 34 k := fun k hk => by
    rw [ag1 34 k hk, ag0 34 k hk]
    unfold ev_of
    rw [show K2 34 = K 34 from funext (fun j => hT 34 j (by decide) (by simp))]
  have s19 : ∀ k, ck_pr (lw_tb 19) k → M3 19 k = M 19 k := fun k hk => by
    rw [ag1 19 k hk, ag0 19 k hk]
    unfold ev_of
    rw [show K2 19 = K 19 from funext (fun j => hT 19 j (by decide) (by simp))]
  have hN' : y_nm M M3 := hN.c2 (fun k hk => s34 k ⟨(0, 139), by decide, Nat.zero_le _, by show k ≤ 139; omega⟩) (fun k hk => s19 k ⟨(0, 19), by decide, Nat.zero_le _, by show k ≤ 19; omega⟩)
  obtain ⟨A1', B1', T2, G2, Z2, r2, q1, q2, q3, q4, q5, q6⟩ := x_book hB' hN'
  have eA : A1' = A1 := Option.some.inj (q1.symm.trans k1)
  rw [eA] at q2
  have eB : B1' = B1 := Option.some.inj (q2.symm.trans k2)
  rw [eB] at q6
  refine lv_pop hx hb (show decode code 1059 = .ok (.pop, 1) by decide +kernel) rfl ?_
  refine lv_aload_n hx hb (show decode code 1060 = .ok (.aload_n 2, 1) by decide +kernel) rfl (lv_at hl 2 rfl) ?_
  refine lw_arg C' hl rfl rfl hJ.2.2.2 hn 1 1 (by decide) rfl (show dc_arg 1061 1 from ⟨by decide +kernel, by decide +kernel, by decide +kernel, by decide +kernel, by decide +kernel⟩) ?_
  refine lw_bx (kc := kc_337) (b' := am) (As := [.int (xs (n + 1))]) C' hl lm_337 ls_337 (ch_all hU hun 337 (by decide)) (hx_12_book lk_f lk_m hU hun lk_c lk_h LK1 (fun j hj => ch_all hU hun j (by omega)) tm hJ.1 hc q3 q4 q5 rfl) ⟨⟨am, rfl, tm⟩, hr_aF, trivial⟩ hJ (hx_mk hJ.2.1 hE3) rfl ⟨by decide, by decide⟩ hcs (Nat.zero_le _) dB (fun cs2 hcs2 z2 g2 g4 E4 H locs hco2 hP2 hW4 hJ2 => ?_)
  obtain ⟨-, rfl, w2⟩ := hP2
  obtain ⟨M5, hE5⟩ := ev_ofck hUx hW4
  have u31 : (g2 31).toInt = Z2 12 15 := by have e1 := (hx_pv12 hJ2.2.1 hE5 tm).2.1; have e2 := (hx_pv12 hW4 hE5 tm).2.1; omega
  refine lv_pop hx hb (show decode code 1070 = .ok (.pop, 1) by decide +kernel) rfl ?_
  refine lv_goto (tgt := 1212) hx hb (show decode code 1071 = .ok (.goto 141, 3) by decide +kernel) (by decide) ?_
  rcases bk_B hcs2 hco2 with ⟨-, -, b0, b30, b1⟩ | ⟨hv, -⟩
  · refine G g2 H locs ls hJ2 ⟨?_, ?_, ?_, ?_⟩ hl
    · rw [b0, b1 0 (by decide) (by decide), a0]
    · rw [b1 26 (by decide) (by decide), b1 28 (by decide) (by decide), a1 26 (by decide) (by decide), a1 28 (by decide) (by decide)]; exact he.2.1
    · rw [b1 27 (by decide) (by decide), b1 29 (by decide) (by decide), a1 27 (by decide) (by decide), a1 29 (by decide) (by decide)]; exact he.2.2.1
    · refine Int32.toInt_inj.mp ?_
      rw [b30, u30, u31]
      exact q6
  · omega
theorem lm_good : GoodIn lw_tbl (va_wsS RL 42 yL_man (Jvm.Cond.codeWith yL_man cL_man 5 (some .int) [(0, 10, 13, 13)] :: mn_ws)) := fun w hw => by
  have key : ∀ w ∈ wsL_law0, w ∈ lw_tbl ∧ ((w.onTables && w.keeps) = true ∨ ∃ ty, w = .arrayClass ty) := fun w hw => ⟨tb_law w hw, ck_good w hw⟩
  rcases List.mem_append.mp hw with hw | hw
  · rcases List.mem_cons.mp hw with rfl | hw
    · exact key _ (in_r29 _ (List.mem_of_getElem? (i := 9) rfl))
    · rcases List.mem_cons.mp hw with rfl | hw
      · exact key _ (in_r29 _ (List.mem_of_getElem? (i := 10) rfl))
      · rcases List.mem_cons.mp hw with rfl | hw
        · exact ⟨(List.mem_of_getElem? (i := 105) (by decide +kernel)), Or.inl (by decide)⟩
        · cases hw
  · exact mn_good tb_mn (in_r29 _ (List.mem_of_getElem? (i := 12) rfl)) w hw
theorem lw_man (C : lw_C p l s m c b L xs D cys ty ax am qo) (hn : n + 6 ≤ L) (hcs : cells + 1 ≤ 601024 ∧ slots + 6 ≤ 7293034) (hl : lv_has ls 7 (lw_lv b ax am qo n)) (hI : lw_I s D cys ty qo pvv H locs) (he : lw_E pvv) (G : lw_G p l e s m below meth c b D cys ty ax am qo n (cells + 1) (slots + 6) Q) : W p l e room_1 s m #[Value.ref b] below meth c H locs cells slots Q (F0 m 381 ls []) := by
  have C' := C
  obtain ⟨F, -, -, -, ⟨hU, hun⟩, tx, tm, hqo, hA, hAq, hst, hmT, hmS⟩ := C
  obtain ⟨hx, hb, hml, hts, hin, hown, hK, hN⟩ := F
  refine lv_aload_n hx hb (show decode code 381 = .ok (.aload_n 1, 1) by decide +kernel) rfl (lv_at hl 1 rfl) ?_
  refine lw_arg C' hl rfl rfl hI.2.2.2 hn 1 1 (by decide) rfl (show dc_arg 382 1 from ⟨by decide +kernel, by decide +kernel, by decide +kernel, by decide +kernel, by decide +kernel⟩) ?_
  refine lw_arg C' hl rfl rfl hI.2.2.2 hn 2 2 (by decide) rfl (show dc_arg 388 2 from ⟨by decide +kernel, by decide +kernel, by decide +kernel, by decide +kernel, by decide +kernel⟩) ?_
  refine lv_aload_n hx hb (show decode code 394 = .ok (.aload_n 3, 1) by decide +kernel) rfl (lv_at hl 3 rfl) ?_
  obtain ⟨i1, i2, i3, i4⟩ := hI
  have hF : ∀ q, lo_A ty qo q → lw_A s q := fun q h => by
    rcases h with h | h
    · exact hA q h
    · rw [h]; exact hAq
  have hS1 : mn_S (lo_A ty qo) s H := mn_S_narrow (mn_S_kept hmS i4.2.1) hF
  refine va_calli (vx_runSW (y := yL_man) (bytes := cL_man) (maxL := 5) (ret := some .int) (hh := [(0, 10, 13, 13)]) (n := 4) (own := RL) (index := 42) (As := [.ref ax, .int (xs (n + 1)), .int (xs (n + 2)), .ref qo]) (rest := []) ⟨hx, hb, hml, hown, hts⟩ (mn_law (x1 := xs (n + 1)) (x2 := xs (n + 2)) hU hun hst tx hqo (hr_wk i1 pM_P)) (vx_cwSW 4 hts lm_good rfl rfl rfl (by decide +kernel) ⟨Nat.le_of_ble_eq_true rfl, Nat.le_of_ble_eq_true rfl⟩) ⟨fun a U g mk h => ⟨h.1, (mn_blind a U g mk ⟨h.1, h.2.1⟩).2, h.2.2⟩, fun U hU0 hWm => ⟨rfl, ⟨⟨by rw [hU0]; exact i2, va_K.moved hWm.alike hK, ck_nest_warm hWm hN⟩, mn_T_warm hWm hmT, by rw [hU0]; exact mn_S_moved hWm.alike hS1⟩, by rw [hU0]; exact i3⟩⟩ rfl rfl hl.1 rfl (lv_room (Nat.zero_le _)) (show decode code 395 = .ok (.invokestatic 42, 3) by decide +kernel) hcs) i4 (fun q _ h => hF q h) hF (fun r u t H1 locs1 ht hv _ hB hz hk hS2 => ?_)
  have hB : ck_Wo D cys ty ck_tags ck_pvs0 (GE ty) pvv t.heap ∧ lo_P D cys qo t.heap := hB
  rw [ht] at hB
  have hI : lw_I s D cys ty qo pvv H1 locs1 := ⟨i1, hB.1, hB.2, hS2⟩
  refine lv_istore (lv' := (5, .int r) :: lw_lv b ax am qo n) hx hb (show decode code 398 = .ok (.istore 5, 2) by decide +kernel) hl (by decide) rfl (fun ls hl => ?_)
  have hl : lv_has ls 7 (lw_lv b ax am qo n) := lv_sub hl [1, 2, 3, 4, 5] rfl
  obtain ⟨mB, jB, pB, rB⟩ := lK_261 (l := l) (D := D) (cys := cys) hU hun
  refine lv_aload_n hx hb (show decode code 400 = .ok (.aload_n 2, 1) by decide +kernel) rfl (lv_at hl 2 rfl) ?_
  refine lw_arg C' hl rfl rfl hI.2.2.2 hn 1 1 (by decide) rfl (show dc_arg 401 1 from ⟨by decide +kernel, by decide +kernel, by decide +kernel, by decide +kernel, by decide +kernel⟩) ?_
  refine lw_arg C' hl rfl rfl hI.2.2.2 hn 2 2 (by decide) rfl (show dc_arg 407 2 from ⟨by decide +kernel, by decide +kernel, by decide +kernel, by decide +kernel, by decide +kernel⟩) ?_
  refine lw_keep (b' := am) (As := [.int (xs (n + 1)), .int (xs (n + 2))]) C' hl mB lk_261 jB (by rw [pB]; exact ⟨⟨am, rfl, tm⟩, hr_aF, hr_aF, trivial⟩) hI rfl rB hcs (Nat.zero_le _) (show decode code 413 = .ok (.invokevirtual 47, 3) by decide +kernel) (fun z g H locs e1 hI => ?_)
  refine lv_istore (lv' := (6, .int z) :: lw_lv b ax am qo n) hx hb (show decode code 416 = .ok (.istore 6, 2) by decide +kernel) hl (by decide) rfl (fun ls hl => ?_)
  refine lv_goto (tgt := 1212) hx hb (show decode code 418 = .ok (.goto 794, 3) by decide +kernel) (by decide) ?_
  exact G g H locs ls hI (lw_E_same e1 he) (lv_sub hl [1, 2, 3, 4, 5] rfl)
end LX
theorem lm_305 : lc_mV RL 178 kc_305 11 := ⟨(in_r66 _ (List.mem_of_getElem? (i := 9) rfl)), (in_r1 _ (List.mem_of_getElem? (i := 2) rfl)), (in_r66 _ (List.mem_of_getElem? (i := 6) rfl)), (in_r66 _ (List.mem_of_getElem? (i := 7) rfl)), (in_r66 _ (List.mem_of_getElem? (i := 8) rfl)), by decide +kernel, _, _, _, _, rfl, rfl, rfl, rfl, by decide +kernel⟩
theorem lK_305 {l : Launch} {D : va_G} {cys : Nat → ClassId} {ty : Nat → Option Nat} (hU : ck_uq ty ck_pvs0) (hun : ck_un ty) : lw_K l D cys ty kc_305 178 11 [.inl (-2147483648, -1, [])] := ⟨lm_305, ch_all hU hun 305 (by decide), rfl, by decide, by decide⟩
theorem lm_306 : lc_mV RL 178 kc_306 11 := ⟨(in_r66 _ (List.mem_of_getElem? (i := 9) rfl)), (in_r1 _ (List.mem_of_getElem? (i := 2) rfl)), (in_r66 _ (List.mem_of_getElem? (i := 6) rfl)), (in_r66 _ (List.mem_of_getElem? (i := 7) rfl)), (in_r66 _ (List.mem_of_getElem? (i := 8) rfl)), by decide +kernel, _, _, _, _, rfl, rfl, rfl, rfl, by decide +kernel⟩
theorem lK_306 {l : Launch} {D : va_G} {cys : Nat → ClassId} {ty : Nat → Option Nat} (hU : ck_uq ty ck_pvs0) (hun : ck_un ty) : lw_K l D cys ty kc_306 178 11 [.inl (2, 2147483647, [])] := ⟨lm_306, ch_all hU hun 306 (by decide), rfl, by decide, by decide⟩
theorem lm_kq_11_image_0 : lc_mV RL 178 kq_11_image_0 11 := ⟨(in_r66 _ (List.mem_of_getElem? (i := 9) rfl)), (in_r1 _ (List.mem_of_getElem? (i := 2) rfl)), (in_r66 _ (List.mem_of_getElem? (i := 6) rfl)), (in_r66 _ (List.mem_of_getElem? (i := 7) rfl)), (in_r66 _ (List.mem_of_getElem? (i := 8) rfl)), by decide +kernel, _, _, _, _, rfl, rfl, rfl, rfl, by decide +kernel⟩
theorem lm_kq_11_image_1 : lc_mV RL 178 kq_11_image_1 11 := ⟨(in_r66 _ (List.mem_of_getElem? (i := 9) rfl)), (in_r1 _ (List.mem_of_getElem? (i := 2) rfl)), (in_r66 _ (List.mem_of_getElem? (i := 6) rfl)), (in_r66 _ (List.mem_of_getElem? (i := 7) rfl)), (in_r66 _ (List.mem_of_getElem? (i := 8) rfl)), by decide +kernel, _, _, _, _, rfl, rfl, rfl, rfl, by decide +kernel⟩
theorem lm_342 : lc_mV RL 181 kc_342 12 := ⟨(in_r66 _ (List.mem_of_getElem? (i := 17) rfl)), (in_r1 _ (List.mem_of_getElem? (i := 5) rfl)), (in_r66 _ (List.mem_of_getElem? (i := 14) rfl)), (in_r66 _ (List.mem_of_getElem? (i := 15) rfl)), (in_r66 _ (List.mem_of_getElem? (i := 16) rfl)), by decide +kernel, _, _, _, _, rfl, rfl, rfl, rfl, by decide +kernel⟩
theorem lK_342 {l : Launch} {D : va_G} {cys : Nat → ClassId} {ty : Nat → Option Nat} (hU : ck_uq ty ck_pvs0) (hun : ck_un ty) : lw_K l D cys ty kc_342 181 12 [.inl (-2147483648, -1, [])] := ⟨lm_342, ch_all hU hun 342 (by decide), rfl, by decide, by decide⟩
theorem lm_343 : lc_mV RL 181 kc_343 12 := ⟨(in_r66 _ (List.mem_of_getElem? (i := 17) rfl)), (in_r1 _ (List.mem_of_getElem? (i := 5) rfl)), (in_r66 _ (List.mem_of_getElem? (i := 14) rfl)), (in_r66 _ (List.mem_of_getElem? (i := 15) rfl)), (in_r66 _ (List.mem_of_getElem? (i := 16) rfl)), by decide +kernel, _, _, _, _, rfl, rfl, rfl, rfl, by decide +kernel⟩
theorem lK_343 {l : Launch} {D : va_G} {cys : Nat → ClassId} {ty : Nat → Option Nat} (hU : ck_uq ty ck_pvs0) (hun : ck_un ty) : lw_K l D cys ty kc_343 181 12 [.inl (2, 2147483647, [])] := ⟨lm_343, ch_all hU hun 343 (by decide), rfl, by decide, by decide⟩
theorem lm_kh_12_image_0 : lc_mV RL 181 kh_12_image_0 12 := ⟨(in_r66 _ (List.mem_of_getElem? (i := 17) rfl)), (in_r1 _ (List.mem_of_getElem? (i := 5) rfl)), (in_r66 _ (List.mem_of_getElem? (i := 14) rfl)), (in_r66 _ (List.mem_of_getElem? (i := 15) rfl)), (in_r66 _ (List.mem_of_getElem? (i := 16) rfl)), by decide +kernel, _, _, _, _, rfl, rfl, rfl, rfl, by decide +kernel⟩
theorem lm_kh_12_image_1 : lc_mV RL 181 kh_12_image_1 12 := ⟨(in_r66 _ (List.mem_of_getElem? (i := 17) rfl)), (in_r1 _ (List.mem_of_getElem? (i := 5) rfl)), (in_r66 _ (List.mem_of_getElem? (i := 14) rfl)), (in_r66 _ (List.mem_of_getElem? (i := 15) rfl)), (in_r66 _ (List.mem_of_getElem? (i := 16) rfl)), by decide +kernel, _, _, _, _, rfl, rfl, rfl, rfl, by decide +kernel⟩
theorem lm_310 : lc_mV RL 182 kc_310 11 := ⟨(in_r66 _ (List.mem_of_getElem? (i := 21) rfl)), (in_r1 _ (List.mem_of_getElem? (i := 2) rfl)), (in_r66 _ (List.mem_of_getElem? (i := 18) rfl)), (in_r66 _ (List.mem_of_getElem? (i := 19) rfl)), (in_r66 _ (List.mem_of_getElem? (i := 20) rfl)), by decide +kernel, _, _, _, _, rfl, rfl, rfl, rfl, by decide +kernel⟩
theorem lK_310 {l : Launch} {D : va_G} {cys : Nat → ClassId} {ty : Nat → Option Nat} (hU : ck_uq ty ck_pvs0) (hun : ck_un ty) : lw_K l D cys ty kc_310 182 11 [.inl (-2147483648, -1, [])] := ⟨lm_310, ch_all hU hun 310 (by decide), rfl, by decide, by decide⟩
theorem lm_311 : lc_mV RL 182 kc_311 11 := ⟨(in_r66 _ (List.mem_of_getElem? (i := 21) rfl)), (in_r1 _ (List.mem_of_getElem? (i := 2) rfl)), (in_r66 _ (List.mem_of_getElem? (i := 18) rfl)), (in_r66 _ (List.mem_of_getElem? (i := 19) rfl)), (in_r66 _ (List.mem_of_getElem? (i := 20) rfl)), by decide +kernel, _, _, _, _, rfl, rfl, rfl, rfl, by decide +kernel⟩
theorem lK_311 {l : Launch} {D : va_G} {cys : Nat → ClassId} {ty : Nat → Option Nat} (hU : ck_uq ty ck_pvs0) (hun : ck_un ty) : lw_K l D cys ty kc_311 182 11 [.inl (2, 2147483647, [])] := ⟨lm_311, ch_all hU hun 311 (by decide), rfl, by decide, by decide⟩
theorem lm_kq_11_restore_0 : lc_mV RL 182 kq_11_restore_0 11 := ⟨(in_r66 _ (List.mem_of_getElem? (i := 21) rfl)), (in_r1 _ (List.mem_of_getElem? (i := 2) rfl)), (in_r66 _ (List.mem_of_getElem? (i := 18) rfl)), (in_r66 _ (List.mem_of_getElem? (i := 19) rfl)), (in_r66 _ (List.mem_of_getElem? (i := 20) rfl)), by decide +kernel, _, _, _, _, rfl, rfl, rfl, rfl, by decide +kernel⟩
theorem lm_kq_11_restore_1 : lc_mV RL 182 kq_11_restore_1 11 := ⟨(in_r66 _ (List.mem_of_getElem? (i := 21) rfl)), (in_r1 _ (List.mem_of_getElem? (i := 2) rfl)), (in_r66 _ (List.mem_of_getElem? (i := 18) rfl)), (in_r66 _ (List.mem_of_getElem? (i := 19) rfl)), (in_r66 _ (List.mem_of_getElem? (i := 20) rfl)), by decide +kernel, _, _, _, _, rfl, rfl, rfl, rfl, by decide +kernel⟩
theorem lm_345 : lc_mV RL 185 kc_345 12 := ⟨(in_r67 _ (List.mem_of_getElem? (i := 1) rfl)), (in_r1 _ (List.mem_of_getElem? (i := 5) rfl)), (in_r66 _ (List.mem_of_getElem? (i := 22) rfl)), (in_r66 _ (List.mem_of_getElem? (i := 23) rfl)), (in_r67 _ (List.mem_of_getElem? (i := 0) rfl)), by decide +kernel, _, _, _, _, rfl, rfl, rfl, rfl, by decide +kernel⟩
theorem lK_345 {l : Launch} {D : va_G} {cys : Nat → ClassId} {ty : Nat → Option Nat} (hU : ck_uq ty ck_pvs0) (hun : ck_un ty) : lw_K l D cys ty kc_345 185 12 [.inl (-2147483648, -1, [])] := ⟨lm_345, ch_all hU hun 345 (by decide), rfl, by decide, by decide⟩
theorem lm_346 : lc_mV RL 185 kc_346 12 := ⟨(in_r67 _ (List.mem_of_getElem? (i := 1) rfl)), (in_r1 _ (List.mem_of_getElem? (i := 5) rfl)), (in_r66 _ (List.mem_of_getElem? (i := 22) rfl)), (in_r66 _ (List.mem_of_getElem? (i := 23) rfl)), (in_r67 _ (List.mem_of_getElem? (i := 0) rfl)), by decide +kernel, _, _, _, _, rfl, rfl, rfl, rfl, by decide +kernel⟩
theorem lK_346 {l : Launch} {D : va_G} {cys : Nat → ClassId} {ty : Nat → Option Nat} (hU : ck_uq ty ck_pvs0) (hun : ck_un ty) : lw_K l D cys ty kc_346 185 12 [.inl (2, 2147483647, [])] := ⟨lm_346, ch_all hU hun 346 (by decide), rfl, by decide, by decide⟩
theorem lm_kh_12_restore_0 : lc_mV RL 185 kh_12_restore_0 12 := ⟨(in_r67 _ (List.mem_of_getElem? (i := 1) rfl)), (in_r1 _ (List.mem_of_getElem? (i := 5) rfl)), (in_r66 _ (List.mem_of_getElem? (i := 22) rfl)), (in_r66 _ (List.mem_of_getElem? (i := 23) rfl)), (in_r67 _ (List.mem_of_getElem? (i := 0) rfl)), by decide +kernel, _, _, _, _, rfl, rfl, rfl, rfl, by decide +kernel⟩
theorem lm_kh_12_restore_1 : lc_mV RL 185 kh_12_restore_1 12 := ⟨(in_r67 _ (List.mem_of_getElem? (i := 1) rfl)), (in_r1 _ (List.mem_of_getElem? (i := 5) rfl)), (in_r66 _ (List.mem_of_getElem? (i := 22) rfl)), (in_r66 _ (List.mem_of_getElem? (i := 23) rfl)), (in_r67 _ (List.mem_of_getElem? (i := 0) rfl)), by decide +kernel, _, _, _, _, rfl, rfl, rfl, rfl, by decide +kernel⟩
/-- the answer is exactly v -/
def ck_an (v : Int) (cs : ck_Case) : Bool := match cs.1 with
  | some (.inl r) => decide (r.1 = v) && decide (r.2.1 = v)
  | _ => false
/-- the answer is what stands at the place j -/
def ck_fl (j : Nat) (cs : ck_Case) : Bool := match cs.1, cs.2.2[j]? with
  | some (.inl r), some (.inl q) => decide (r.1 = r.2.1) && decide (q.1 = r.1) && decide (q.2.1 = r.1)
  | _, _ => false
def ck_o1 (post : List ck_AV) (j : Nat) : Bool := match post[j]? with
  | some (.inl r) => decide (r.1 = 1) && decide (r.2.1 = 1)
  | _ => false
def ck_lawN (kc : ck_K) : Bool := ck_lawK kc && (k_cs kc).all (ck_an 0)
def ck_lawF (kc : ck_K) (j : Nat) : Bool := ck_lawK kc && (k_cs kc).all (ck_fl j)
def ck_lawO (kc : ck_K) (j : Nat) : Bool := ck_lawS kc && (k_cs kc).all (fun cs => ck_an 1 cs && ck_o1 cs.2.2 j && lw_js.all (fun i => decide (i = j) || ck_same1 cs.2.2 i))
section LQ
variable {ty : Nat → Option Nat} {f g : Nat → Int32} {z : Int32} {vs : List Value} {kc : ck_K} {cs : ck_Case}
theorem ck_an_ok {v : Int} (h : ck_an v cs = true) (hr : ck_rv ty cs.1 (some (.int z))) : z.toInt = v := by
  unfold ck_an at h
  split at h
  · next r e =>
    rw [e] at hr
    obtain ⟨y, ey, h1, h2, -⟩ := hr
    cases ey
    simp only [Bool.and_eq_true, decide_eq_true_eq] at h
    omega
  · cases h
theorem ck_fl_ok {j : Nat} (h : ck_fl j cs = true) (hco : ck_caseOK ty cs vs f g (some (.int z))) : z.toInt = (g j).toInt := by
  unfold ck_fl at h
  split at h
  · next r q e1 e2 =>
    have hr := hco.1
    rw [e1] at hr
    obtain ⟨y, ey, h1, h2, -⟩ := hr
    cases ey
    obtain ⟨w, ew, h3, h4, -⟩ := hco.2.2 j _ e2
    cases ew
    simp only [Bool.and_eq_true, decide_eq_true_eq] at h
    omega
  · cases h
theorem ck_o1_ok {post : List ck_AV} {X : Nat → Int} {j : Nat} (h : ck_o1 post j = true) (hp : ck_pvo ty X post g) : g j = 1 := by
  unfold ck_o1 at h
  split at h
  · next r hr =>
    simp only [Bool.and_eq_true, decide_eq_true_eq] at h
    obtain ⟨x, e, h1, h2, -⟩ := hp j _ hr
    cases e
    refine Int32.toInt_inj.mp ?_
    rw [show (1 : Int32).toInt = 1 from rfl]
    omega
  · cases h
theorem lw_N (hk : ck_lawN kc = true) (hcs : cs ∈ k_cs kc) (hco : ck_caseOK ty cs vs f g (some (.int z))) : z.toInt = 0 ∧ ∀ j ∈ lw_js, g j = f j := by
  simp only [ck_lawN, ck_lawK, Bool.and_eq_true] at hk
  exact ⟨ck_an_ok (List.all_eq_true.mp hk.2 cs hcs) hco.1, fun j hj => hr_same1 hco.2.2 (List.all_eq_true.mp (List.all_eq_true.mp hk.1.2 cs hcs) j hj)⟩
theorem lw_F {j : Nat} (hj : j ∈ lw_js) (hk : ck_lawF kc j = true) (hcs : cs ∈ k_cs kc) (hco : ck_caseOK ty cs vs f g (some (.int z))) : z.toInt = (f j).toInt ∧ ∀ j ∈ lw_js, g j = f j := by
  simp only [ck_lawF, ck_lawK, Bool.and_eq_true] at hk
  have h1 : ∀ j ∈ lw_js, g j = f j := fun j hj => hr_same1 hco.2.2 (List.all_eq_true.mp (List.all_eq_true.mp hk.1.2 cs hcs) j hj)
  exact ⟨by rw [← h1 j hj]; exact ck_fl_ok (List.all_eq_true.mp hk.2 cs hcs) hco, h1⟩
theorem lw_O {j : Nat} (hk : ck_lawO kc j = true) (hcs : cs ∈ k_cs kc) (hco : ck_caseOK ty cs vs f g (some (.int z))) : z.toInt = 1 ∧ g j = 1 ∧ ∀ i ∈ lw_js, i ≠ j → g i = f i := by
  simp only [ck_lawO, Bool.and_eq_true] at hk
  have h := List.all_eq_true.mp hk.2 cs hcs
  simp only [Bool.and_eq_true] at h
  exact ⟨ck_an_ok h.1.1 hco.1, ck_o1_ok h.1.2 hco.2.2, lw_rest h.2 hco.2.2⟩
theorem lw_KK (hk : ck_lawK kc = true) (hcs : cs ∈ k_cs kc) (hco : ck_caseOK ty cs vs f g (some (.int z))) : ∀ j ∈ lw_js, g j = f j := by
  simp only [ck_lawK, Bool.and_eq_true] at hk
  exact fun j hj => hr_same1 hco.2.2 (List.all_eq_true.mp (List.all_eq_true.mp hk.2 cs hcs) j hj)
end LQ
theorem lq_kq_11_image_0 : ck_lawO kq_11_image_0 26 = true := by decide +kernel
theorem lq_kq_11_image_0S : ck_lawS kq_11_image_0 = true := by decide +kernel
theorem lq_kq_11_image_1 : ck_lawO kq_11_image_1 27 = true := by decide +kernel
theorem lq_kq_11_image_1S : ck_lawS kq_11_image_1 = true := by decide +kernel
theorem lq_305 : ck_lawN kc_305 = true := by decide +kernel
theorem ls_305 : ck_lawS kc_305 = true := by decide +kernel
theorem lq_306 : ck_lawN kc_306 = true := by decide +kernel
theorem ls_306 : ck_lawS kc_306 = true := by decide +kernel
theorem lq_kh_12_image_0 : ck_lawO kh_12_image_0 28 = true := by decide +kernel
theorem lq_kh_12_image_0S : ck_lawS kh_12_image_0 = true := by decide +kernel
theorem lq_kh_12_image_1 : ck_lawO kh_12_image_1 29 = true := by decide +kernel
theorem lq_kh_12_image_1S : ck_lawS kh_12_image_1 = true := by decide +kernel
theorem lq_342 : ck_lawN kc_342 = true := by decide +kernel
theorem ls_342 : ck_lawS kc_342 = true := by decide +kernel
theorem lq_343 : ck_lawN kc_343 = true := by decide +kernel
theorem ls_343 : ck_lawS kc_343 = true := by decide +kernel
theorem lq_kq_11_restore_0 : ck_lawF kq_11_restore_0 26 = true := by decide +kernel
theorem lq_kq_11_restore_0S : ck_lawS kq_11_restore_0 = true := by decide +kernel
theorem lq_kq_11_restore_1 : ck_lawF kq_11_restore_1 27 = true := by decide +kernel
theorem lq_kq_11_restore_1S : ck_lawS kq_11_restore_1 = true := by decide +kernel
theorem lq_310 : ck_lawN kc_310 = true := by decide +kernel
theorem ls_310 : ck_lawS kc_310 = true := by decide +kernel
theorem lq_311 : ck_lawN kc_311 = true := by decide +kernel
theorem ls_311 : ck_lawS kc_311 = true := by decide +kernel
theorem lq_kh_12_restore_0 : ck_lawF kh_12_restore_0 28 = true := by decide +kernel
theorem lq_kh_12_restore_0S : ck_lawS kh_12_restore_0 = true := by decide +kernel
theorem lq_kh_12_restore_1 : ck_lawF kh_12_restore_1 29 = true := by decide +kernel
theorem lq_kh_12_restore_1S : ck_lawS kh_12_restore_1 = true := by decide +kernel
theorem lq_345 : ck_lawN kc_345 = true := by decide +kernel
theorem ls_345 : ck_lawS kc_345 = true := by decide +kernel
theorem lq_346 : ck_lawN kc_346 = true := by decide +kernel
theorem ls_346 : ck_lawS kc_346 = true := by decide +kernel
section LY
variable {p : Program} {l : Launch} {e : Env} {s : State} {m : MethodId} {below : List Frame} {meth : Method} {c : Code} {H : Heap} {locs : List Loc} {cells slots : Nat} {Q : State → Prop} {ls : Array Slot}
variable {b L : Nat} {xs : Nat → Int32} {D : va_G} {cys : Nat → ClassId} {ty : Nat → Option Nat} {ax am qo n : Nat} {pvv : Nat → Int32}
theorem lw_image (C : lw_C p l s m c b L xs D cys ty ax am qo) (hn : n + 6 ≤ L) (hcs : cells ≤ 601024 ∧ slots ≤ 7293034) (hl : lv_has ls 7 (lw_lv b ax am qo n)) (hI : lw_I s D cys ty qo pvv H locs) (he : lw_E pvv) (G : lw_G p l e s m below meth c b D cys ty ax am qo n cells slots Q) : W p l e room_1 s m #[Value.ref b] below meth c H locs cells slots Q (F0 m 1137 ls []) := by
  have C' := C
  obtain ⟨⟨hx, hb, -⟩, -, -, -, ⟨hU, hun⟩, tx, tm, -⟩ := C
  have hUx := ev_uqT hun
  have fin : ∀ (g2 : Nat → Int32) (H : Heap) (locs : List Loc) (z2 : Int32), lw_E g2 → lw_I s D cys ty qo g2 H locs → W p l e room_1 s m #[Value.ref b] below meth c H locs cells slots Q (F0 m 1158 ls [.int z2]) := by
    intro g2 H locs z2 he2 hI
    refine lv_pop hx hb (show decode code 1158 = .ok (.pop, 1) by decide +kernel) rfl ?_
    refine lv_goto (tgt := 1212) hx hb (show decode code 1159 = .ok (.goto 53, 3) by decide +kernel) (by decide) ?_
    exact G g2 H locs ls hI he2 hl
  refine lv_aload_n hx hb (show decode code 1137 = .ok (.aload_n 1, 1) by decide +kernel) rfl (lv_at hl 1 rfl) ?_
  refine lw_arg C' hl rfl rfl hI.2.2.2 hn 1 1 (by decide) rfl (show dc_arg 1138 1 from ⟨by decide +kernel, by decide +kernel, by decide +kernel, by decide +kernel, by decide +kernel⟩) ?_
  have hlo := ck_lo (xs (n + 1))
  have hhi := ck_hi (xs (n + 1))
  have dA : decode code 1144 = .ok (.invokevirtual 178, 3) := by decide +kernel
  have dB : decode code 1155 = .ok (.invokevirtual 181, 3) := by decide +kernel
  have aB : dc_arg 1149 1 := ⟨by decide +kernel, by decide +kernel, by decide +kernel, by decide +kernel, by decide +kernel⟩
  rcases (show (xs (n + 1)).toInt < 0 ∨ (xs (n + 1)).toInt = 0 ∨ (xs (n + 1)).toInt = 1 ∨ 2 ≤ (xs (n + 1)).toInt by omega) with hc | hc | hc | hc
  · obtain ⟨mA, jA, pA, rA⟩ := lK_305 (l := l) (D := D) (cys := cys) hU hun
    obtain ⟨mB, jB, pB, rB⟩ := lK_342 (l := l) (D := D) (cys := cys) hU hun
    refine lw_any (b' := ax) (As := [.int (xs (n + 1))]) C' hl mA ls_305 jA (by rw [pA]; exact ⟨⟨ax, rfl, tx⟩, hr_aI hlo (by omega), trivial⟩) hI rfl rA hcs (Nat.zero_le _) dA (fun cs hcs1 z g H locs hco hI => ?_)
    refine lv_pop hx hb (show decode code 1147 = .ok (.pop, 1) by decide +kernel) rfl ?_
    refine lv_aload_n hx hb (show decode code 1148 = .ok (.aload_n 2, 1) by decide +kernel) rfl (lv_at hl 2 rfl) ?_
    refine lw_arg C' hl rfl rfl hI.2.2.2 hn 1 1 (by decide) rfl aB ?_
    refine lw_any (b' := am) (As := [.int (xs (n + 1))]) C' hl mB ls_342 jB (by rw [pB]; exact ⟨⟨am, rfl, tm⟩, hr_aI hlo (by omega), trivial⟩) hI rfl rB hcs (Nat.zero_le _) dB (fun cs2 hcs2 z2 g2 H locs hco2 hI => ?_)
    obtain ⟨-, a2⟩ := lw_N lq_305 hcs1 hco
    obtain ⟨-, b2⟩ := lw_N lq_342 hcs2 hco2
    exact fin g2 H locs z2 (lw_E_same (fun j hj => (b2 j hj).trans (a2 j hj)) he) hI
  · obtain ⟨i1, i2, i3, i4⟩ := hI
    have ce := lw_cells i2 tx tm
    obtain ⟨K, hG, hW⟩ := ge_out i2
    obtain ⟨M, hM⟩ := ev_ofck hUx hW
    obtain ⟨-, -, -, -, ⟨m4, m48⟩, m460, m461⟩ := lw_tp hW hM ce hG.1.1
    have hz0 : z_G M M := z_G.al hG.1.2 (lw_ag hW hM ce)
    obtain ⟨M1, M2, f1, f2, hz2⟩ := z_image0 hz0
    refine lw_ex (kc := kq_11_image_0) (Ex := tk ty ck_protI K) (M := M) (A := [.inr (.inl 11), .inl 0]) (b' := ax) (As := [.int (xs (n + 1))]) C' hl lm_kq_11_image_0 lq_kq_11_image_0S (chI hU hun (tk_ExP (fun _ _ h => h)) 3 (by decide)) (mQ_11_image_0 hUx f1) ⟨⟨ax, rfl, tx⟩, hr_aI (by omega) (by omega), trivial⟩ ⟨⟨ax, rfl, tx⟩, ⟨_, rfl, hc⟩, trivial⟩ ⟨i1, hr_mono (fun _ h => tk_w prIA h) hW, i3, i4⟩ hM rfl ⟨by decide, by decide⟩ hcs (Nat.zero_le _) dA (fun cs hcs1 z g H locs r3 M3 hco hr3 hq3 hJ hE => ?_)
    obtain ⟨-, rfl⟩ := hq3
    have hW1 := ev_re hJ.2.1 hE sh_I pq_I
    have h01 : g0C (ev_up ck_frI M3 K) := g0_up (by decide) (gC_0C hG)
    refine lv_pop hx hb (show decode code 1147 = .ok (.pop, 1) by decide +kernel) rfl ?_
    refine lv_aload_n hx hb (show decode code 1148 = .ok (.aload_n 2, 1) by decide +kernel) rfl (lv_at hl 2 rfl) ?_
    refine lw_arg C' hl rfl rfl hJ.2.2.2 hn 1 1 (by decide) rfl aB ?_
    refine lw_ex (kc := kh_12_image_0) (Ex := GX ty ck_protT gx_i (ev_up ck_frI M3 K)) (M := M3) (A := [.inr (.inl 12), .inl 0]) (b' := am) (As := [.int (xs (n + 1))]) C' hl lm_kh_12_image_0 lq_kh_12_image_0S (hk_12_image_0 lk_f lk_m hU hun (ch2 hU hun (ch0 hU hun) (ch1 hU hun (ch0 hU hun)))) (m_12_image_k0 hUx f2) ⟨⟨am, rfl, tm⟩, hr_aI (by omega) (by omega), trivial⟩ ⟨⟨am, rfl, tm⟩, ⟨_, rfl, hc⟩, trivial⟩ ⟨hJ.1, gx_in (hr_mono (fun _ h => tk_w prT1 h) hW1) h01 (fun _ _ _ => rfl), hJ.2.2.1, hJ.2.2.2⟩ hE rfl ⟨by decide, by decide⟩ hcs (Nat.zero_le _) dB (fun cs2 hcs2 z2 g2 H locs r4 M4 hco2 hr4 hq4 hJ2 hE2 => ?_)
    obtain ⟨-, rfl⟩ := hq4
    obtain ⟨C2, h02, hk2, hW2⟩ := gx_out hJ2.2.1
    have hW3 := ev_re hW2 hE2 sh_f109 pq_f109
    have hIn : lw_I s D cys ty qo g2 H locs := ⟨hJ2.1, ge_fin hW3 hE2 ce (g0_up (by decide) h02) hz2, hJ2.2.2.1, hJ2.2.2.2⟩
    obtain ⟨-, a2, a3⟩ := lw_O (j := 26) lq_kq_11_image_0 hcs1 hco
    obtain ⟨-, b2, b3⟩ := lw_O (j := 28) lq_kh_12_image_0 hcs2 hco2
    refine fin g2 H locs z2 ⟨?_, ?_, ?_, ?_⟩ hIn
    · rw [b3 0 (by decide) (by decide), b3 11 (by decide) (by decide), a3 0 (by decide) (by decide), a3 11 (by decide) (by decide)]; exact he.1
    · rw [b3 26 (by decide) (by decide), a2, b2]
    · rw [b3 27 (by decide) (by decide), b3 29 (by decide) (by decide), a3 27 (by decide) (by decide), a3 29 (by decide) (by decide)]; exact he.2.2.1
    · rw [b3 30 (by decide) (by decide), b3 31 (by decide) (by decide), a3 30 (by decide) (by decide), a3 31 (by decide) (by decide)]; exact he.2.2.2
  · obtain ⟨i1, i2, i3, i4⟩ := hI
    have ce := lw_cells i2 tx tm
    obtain ⟨K, hG, hW⟩ := ge_out i2
    obtain ⟨M, hM⟩ := ev_ofck hUx hW
    obtain ⟨-, -, -, -, ⟨m4, m48⟩, m460, m461⟩ := lw_tp hW hM ce hG.1.1
    have hz0 : z_G M M := z_G.al hG.1.2 (lw_ag hW hM ce)
    obtain ⟨M1, M2, f1, f2, hz2⟩ := z_image1 hz0
    refine lw_ex (kc := kq_11_image_1) (Ex := tk ty ck_protJ K) (M := M) (A := [.inr (.inl 11), .inl 1]) (b' := ax) (As := [.int (xs (n + 1))]) C' hl lm_kq_11_image_1 lq_kq_11_image_1S (chJ hU hun (tk_ExP (fun _ _ h => h)) 3 (by decide)) (mQ_11_image_1 hUx f1) ⟨⟨ax, rfl, tx⟩, hr_aI (by omega) (by omega), trivial⟩ ⟨⟨ax, rfl, tx⟩, ⟨_, rfl, hc⟩, trivial⟩ ⟨i1, hr_mono (fun _ h => tk_w prJA h) hW, i3, i4⟩ hM rfl ⟨by decide, by decide⟩ hcs (Nat.zero_le _) dA (fun cs hcs1 z g H locs r3 M3 hco hr3 hq3 hJ hE => ?_)
    obtain ⟨-, rfl⟩ := hq3
    have hW1 := ev_re hJ.2.1 hE sh_J pq_J
    have h01 : g0C (ev_up ck_frJ M3 K) := g0_up (by decide) (gC_0C hG)
    refine lv_pop hx hb (show decode code 1147 = .ok (.pop, 1) by decide +kernel) rfl ?_
    refine lv_aload_n hx hb (show decode code 1148 = .ok (.aload_n 2, 1) by decide +kernel) rfl (lv_at hl 2 rfl) ?_
    refine lw_arg C' hl rfl rfl hJ.2.2.2 hn 1 1 (by decide) rfl aB ?_
    refine lw_ex (kc := kh_12_image_1) (Ex := GX ty ck_protT gx_i (ev_up ck_frJ M3 K)) (M := M3) (A := [.inr (.inl 12), .inl 1]) (b' := am) (As := [.int (xs (n + 1))]) C' hl lm_kh_12_image_1 lq_kh_12_image_1S (hk_12_image_1 lk_f lk_m hU hun (ch2 hU hun (ch0 hU hun) (ch1 hU hun (ch0 hU hun)))) (m_12_image_k1 hUx f2) ⟨⟨am, rfl, tm⟩, hr_aI (by omega) (by omega), trivial⟩ ⟨⟨am, rfl, tm⟩, ⟨_, rfl, hc⟩, trivial⟩ ⟨hJ.1, gx_in (hr_mono (fun _ h => tk_w prT1 h) hW1) h01 (fun _ _ _ => rfl), hJ.2.2.1, hJ.2.2.2⟩ hE rfl ⟨by decide, by decide⟩ hcs (Nat.zero_le _) dB (fun cs2 hcs2 z2 g2 H locs r4 M4 hco2 hr4 hq4 hJ2 hE2 => ?_)
    obtain ⟨-, rfl⟩ := hq4
    obtain ⟨C2, h02, hk2, hW2⟩ := gx_out hJ2.2.1
    have hW3 := ev_re hW2 hE2 sh_f109 pq_f109
    have hIn : lw_I s D cys ty qo g2 H locs := ⟨hJ2.1, ge_fin hW3 hE2 ce (g0_up (by decide) h02) hz2, hJ2.2.2.1, hJ2.2.2.2⟩
    obtain ⟨-, a2, a3⟩ := lw_O (j := 27) lq_kq_11_image_1 hcs1 hco
    obtain ⟨-, b2, b3⟩ := lw_O (j := 29) lq_kh_12_image_1 hcs2 hco2
    refine fin g2 H locs z2 ⟨?_, ?_, ?_, ?_⟩ hIn
    · rw [b3 0 (by decide) (by decide), b3 11 (by decide) (by decide), a3 0 (by decide) (by decide), a3 11 (by decide) (by decide)]; exact he.1
    · rw [b3 26 (by decide) (by decide), b3 28 (by decide) (by decide), a3 26 (by decide) (by decide), a3 28 (by decide) (by decide)]; exact he.2.1
    · rw [b3 27 (by decide) (by decide), a2, b2]
    · rw [b3 30 (by decide) (by decide), b3 31 (by decide) (by decide), a3 30 (by decide) (by decide), a3 31 (by decide) (by decide)]; exact he.2.2.2
  · obtain ⟨mA, jA, pA, rA⟩ := lK_306 (l := l) (D := D) (cys := cys) hU hun
    obtain ⟨mB, jB, pB, rB⟩ := lK_343 (l := l) (D := D) (cys := cys) hU hun
    refine lw_any (b' := ax) (As := [.int (xs (n + 1))]) C' hl mA ls_306 jA (by rw [pA]; exact ⟨⟨ax, rfl, tx⟩, hr_aI hc hhi, trivial⟩) hI rfl rA hcs (Nat.zero_le _) dA (fun cs hcs1 z g H locs hco hI => ?_)
    refine lv_pop hx hb (show decode code 1147 = .ok (.pop, 1) by decide +kernel) rfl ?_
    refine lv_aload_n hx hb (show decode code 1148 = .ok (.aload_n 2, 1) by decide +kernel) rfl (lv_at hl 2 rfl) ?_
    refine lw_arg C' hl rfl rfl hI.2.2.2 hn 1 1 (by decide) rfl aB ?_
    refine lw_any (b' := am) (As := [.int (xs (n + 1))]) C' hl mB ls_343 jB (by rw [pB]; exact ⟨⟨am, rfl, tm⟩, hr_aI hc hhi, trivial⟩) hI rfl rB hcs (Nat.zero_le _) dB (fun cs2 hcs2 z2 g2 H locs hco2 hI => ?_)
    obtain ⟨-, a2⟩ := lw_N lq_306 hcs1 hco
    obtain ⟨-, b2⟩ := lw_N lq_343 hcs2 hco2
    exact fin g2 H locs z2 (lw_E_same (fun j hj => (b2 j hj).trans (a2 j hj)) he) hI
theorem lw_restore (C : lw_C p l s m c b L xs D cys ty ax am qo) (hn : n + 6 ≤ L) (hcs : cells ≤ 601024 ∧ slots ≤ 7293034) (hl : lv_has ls 7 (lw_lv b ax am qo n)) (hI : lw_I s D cys ty qo pvv H locs) (he : lw_E pvv) (G : lw_G p l e s m below meth c b D cys ty ax am qo n cells slots Q) : W p l e room_1 s m #[Value.ref b] below meth c H locs cells slots Q (F0 m 1162 ls []) := by
  have C' := C
  obtain ⟨⟨hx, hb, -⟩, -, -, -, ⟨hU, hun⟩, tx, tm, -⟩ := C
  have hUx := ev_uqT hun
  have fin : ∀ (g2 : Nat → Int32) (H : Heap) (locs : List Loc) (z2 : Int32), lw_E g2 → lw_I s D cys ty qo g2 H locs → W p l e room_1 s m #[Value.ref b] below meth c H locs cells slots Q (F0 m 1183 ls [.int z2]) := by
    intro g2 H locs z2 he2 hI
    refine lv_pop hx hb (show decode code 1183 = .ok (.pop, 1) by decide +kernel) rfl ?_
    refine lv_goto (tgt := 1212) hx hb (show decode code 1184 = .ok (.goto 28, 3) by decide +kernel) (by decide) ?_
    exact G g2 H locs ls hI he2 hl
  refine lv_aload_n hx hb (show decode code 1162 = .ok (.aload_n 1, 1) by decide +kernel) rfl (lv_at hl 1 rfl) ?_
  refine lw_arg C' hl rfl rfl hI.2.2.2 hn 1 1 (by decide) rfl (show dc_arg 1163 1 from ⟨by decide +kernel, by decide +kernel, by decide +kernel, by decide +kernel, by decide +kernel⟩) ?_
  have hlo := ck_lo (xs (n + 1))
  have hhi := ck_hi (xs (n + 1))
  have dA : decode code 1169 = .ok (.invokevirtual 182, 3) := by decide +kernel
  have dB : decode code 1180 = .ok (.invokevirtual 185, 3) := by decide +kernel
  have aB : dc_arg 1174 1 := ⟨by decide +kernel, by decide +kernel, by decide +kernel, by decide +kernel, by decide +kernel⟩
  rcases (show (xs (n + 1)).toInt < 0 ∨ (xs (n + 1)).toInt = 0 ∨ (xs (n + 1)).toInt = 1 ∨ 2 ≤ (xs (n + 1)).toInt by omega) with hc | hc | hc | hc
  · obtain ⟨mA, jA, pA, rA⟩ := lK_310 (l := l) (D := D) (cys := cys) hU hun
    obtain ⟨mB, jB, pB, rB⟩ := lK_345 (l := l) (D := D) (cys := cys) hU hun
    refine lw_any (b' := ax) (As := [.int (xs (n + 1))]) C' hl mA ls_310 jA (by rw [pA]; exact ⟨⟨ax, rfl, tx⟩, hr_aI hlo (by omega), trivial⟩) hI rfl rA hcs (Nat.zero_le _) dA (fun cs hcs1 z g H locs hco hI => ?_)
    refine lv_pop hx hb (show decode code 1172 = .ok (.pop, 1) by decide +kernel) rfl ?_
    refine lv_aload_n hx hb (show decode code 1173 = .ok (.aload_n 2, 1) by decide +kernel) rfl (lv_at hl 2 rfl) ?_
    refine lw_arg C' hl rfl rfl hI.2.2.2 hn 1 1 (by decide) rfl aB ?_
    refine lw_any (b' := am) (As := [.int (xs (n + 1))]) C' hl mB ls_345 jB (by rw [pB]; exact ⟨⟨am, rfl, tm⟩, hr_aI hlo (by omega), trivial⟩) hI rfl rB hcs (Nat.zero_le _) dB (fun cs2 hcs2 z2 g2 H locs hco2 hI => ?_)
    obtain ⟨-, a2⟩ := lw_N lq_310 hcs1 hco
    obtain ⟨-, b2⟩ := lw_N lq_345 hcs2 hco2
    exact fin g2 H locs z2 (lw_E_same (fun j hj => (b2 j hj).trans (a2 j hj)) he) hI
  · obtain ⟨i1, i2, i3, i4⟩ := hI
    have ce := lw_cells i2 tx tm
    obtain ⟨K, hG, hW⟩ := ge_out i2
    obtain ⟨M, hM⟩ := ev_ofck hUx hW
    obtain ⟨-, -, -, -, ⟨m4, m48⟩, m460, m461⟩ := lw_tp hW hM ce hG.1.1
    have hz0 : z_G M M := z_G.al hG.1.2 (lw_ag hW hM ce)
    obtain ⟨r1, M1, r2, M2, f1, f2, hz2⟩ := z_restore0 hz0 (by rw [m4, m460, he.2.1])
    refine lw_ex (kc := kq_11_restore_0) (Ex := tk ty ck_protP K) (M := M) (A := [.inr (.inl 11), .inl 0]) (b' := ax) (As := [.int (xs (n + 1))]) C' hl lm_kq_11_restore_0 lq_kq_11_restore_0S (chP hU hun (tk_ExP (fun _ _ h => h)) 12 (by decide)) (mQ_11_restore_0 hUx f1) ⟨⟨ax, rfl, tx⟩, hr_aI (by omega) (by omega), trivial⟩ ⟨⟨ax, rfl, tx⟩, ⟨_, rfl, hc⟩, trivial⟩ ⟨i1, hr_mono (fun _ h => tk_w prPA h) hW, i3, i4⟩ hM rfl ⟨by decide, by decide⟩ hcs (Nat.zero_le _) dA (fun cs hcs1 z g H locs r3 M3 hco hr3 hq3 hJ hE => ?_)
    obtain ⟨-, rfl⟩ := hq3
    have hW1 := ev_re hJ.2.1 hE sh_P pq_P
    have h01 : g0C (ev_up ck_frP M3 K) := g0_up (by decide) (gC_0C hG)
    refine lv_pop hx hb (show decode code 1172 = .ok (.pop, 1) by decide +kernel) rfl ?_
    refine lv_aload_n hx hb (show decode code 1173 = .ok (.aload_n 2, 1) by decide +kernel) rfl (lv_at hl 2 rfl) ?_
    refine lw_arg C' hl rfl rfl hJ.2.2.2 hn 1 1 (by decide) rfl aB ?_
    refine lw_ex (kc := kh_12_restore_0) (Ex := GX ty ck_protR gx_r (ev_up ck_frP M3 K)) (M := M3) (A := [.inr (.inl 12), .inl 0]) (b' := am) (As := [.int (xs (n + 1))]) C' hl lm_kh_12_restore_0 lq_kh_12_restore_0S (hk_12_restore_0 lk_f lk_m hU hun (ch2 hU hun (ch0 hU hun) (ch1 hU hun (ch0 hU hun)))) (m_12_restore_k0 hUx f2) ⟨⟨am, rfl, tm⟩, hr_aI (by omega) (by omega), trivial⟩ ⟨⟨am, rfl, tm⟩, ⟨_, rfl, hc⟩, trivial⟩ ⟨hJ.1, gx_in (hr_mono (fun _ h => tk_w prR1 h) hW1) h01 (fun _ _ _ => rfl), hJ.2.2.1, hJ.2.2.2⟩ hE rfl ⟨by decide, by decide⟩ hcs (Nat.zero_le _) dB (fun cs2 hcs2 z2 g2 H locs r4 M4 hco2 hr4 hq4 hJ2 hE2 => ?_)
    obtain ⟨-, rfl⟩ := hq4
    obtain ⟨C2, h02, hk2, hW2⟩ := gx_out hJ2.2.1
    have hW3 := ev_re hW2 hE2 sh_f19 pq_f19
    have hIn : lw_I s D cys ty qo g2 H locs := ⟨hJ2.1, ge_fin hW3 hE2 ce (g0_up (by decide) h02) hz2, hJ2.2.2.1, hJ2.2.2.2⟩
    obtain ⟨-, a2⟩ := lw_F (j := 26) (by decide) lq_kq_11_restore_0 hcs1 hco
    obtain ⟨-, b2⟩ := lw_F (j := 28) (by decide) lq_kh_12_restore_0 hcs2 hco2
    exact fin g2 H locs z2 (lw_E_same (fun j hj => (b2 j hj).trans (a2 j hj)) he) hIn
  · obtain ⟨i1, i2, i3, i4⟩ := hI
    have ce := lw_cells i2 tx tm
    obtain ⟨K, hG, hW⟩ := ge_out i2
    obtain ⟨M, hM⟩ := ev_ofck hUx hW
    obtain ⟨-, -, -, -, ⟨m4, m48⟩, m460, m461⟩ := lw_tp hW hM ce hG.1.1
    have hz0 : z_G M M := z_G.al hG.1.2 (lw_ag hW hM ce)
    obtain ⟨r1, M1, r2, M2, f1, f2, hz2⟩ := z_restore1 hz0 (by rw [m48, m461, he.2.2.1])
    refine lw_ex (kc := kq_11_restore_1) (Ex := tk ty ck_protP K) (M := M) (A := [.inr (.inl 11), .inl 1]) (b' := ax) (As := [.int (xs (n + 1))]) C' hl lm_kq_11_restore_1 lq_kq_11_restore_1S (chP hU hun (tk_ExP (fun _ _ h => h)) 13 (by decide)) (mQ_11_restore_1 hUx f1) ⟨⟨ax, rfl, tx⟩, hr_aI (by omega) (by omega), trivial⟩ ⟨⟨ax, rfl, tx⟩, ⟨_, rfl, hc⟩, trivial⟩ ⟨i1, hr_mono (fun _ h => tk_w prPA h) hW, i3, i4⟩ hM rfl ⟨by decide, by decide⟩ hcs (Nat.zero_le _) dA (fun cs hcs1 z g H locs r3 M3 hco hr3 hq3 hJ hE => ?_)
    obtain ⟨-, rfl⟩ := hq3
    have hW1 := ev_re hJ.2.1 hE sh_P pq_P
    have h01 : g0C (ev_up ck_frP M3 K) := g0_up (by decide) (gC_0C hG)
    refine lv_pop hx hb (show decode code 1172 = .ok (.pop, 1) by decide +kernel) rfl ?_
    refine lv_aload_n hx hb (show decode code 1173 = .ok (.aload_n 2, 1) by decide +kernel) rfl (lv_at hl 2 rfl) ?_
    refine lw_arg C' hl rfl rfl hJ.2.2.2 hn 1 1 (by decide) rfl aB ?_
    refine lw_ex (kc := kh_12_restore_1) (Ex := GX ty ck_protR gx_r (ev_up ck_frP M3 K)) (M := M3) (A := [.inr (.inl 12), .inl 1]) (b' := am) (As := [.int (xs (n + 1))]) C' hl lm_kh_12_restore_1 lq_kh_12_restore_1S (hk_12_restore_1 lk_f lk_m hU hun (ch2 hU hun (ch0 hU hun) (ch1 hU hun (ch0 hU hun)))) (m_12_restore_k1 hUx f2) ⟨⟨am, rfl, tm⟩, hr_aI (by omega) (by omega), trivial⟩ ⟨⟨am, rfl, tm⟩, ⟨_, rfl, hc⟩, trivial⟩ ⟨hJ.1, gx_in (hr_mono (fun _ h => tk_w prR1 h) hW1) h01 (fun _ _ _ => rfl), hJ.2.2.1, hJ.2.2.2⟩ hE rfl ⟨by decide, by decide⟩ hcs (Nat.zero_le _) dB (fun cs2 hcs2 z2 g2 H locs r4 M4 hco2 hr4 hq4 hJ2 hE2 => ?_)
    obtain ⟨-, rfl⟩ := hq4
    obtain ⟨C2, h02, hk2, hW2⟩ := gx_out hJ2.2.1
    have hW3 := ev_re hW2 hE2 sh_f19 pq_f19
    have hIn : lw_I s D cys ty qo g2 H locs := ⟨hJ2.1, ge_fin hW3 hE2 ce (g0_up (by decide) h02) hz2, hJ2.2.2.1, hJ2.2.2.2⟩
    obtain ⟨-, a2⟩ := lw_F (j := 27) (by decide) lq_kq_11_restore_1 hcs1 hco
    obtain ⟨-, b2⟩ := lw_F (j := 29) (by decide) lq_kh_12_restore_1 hcs2 hco2
    exact fin g2 H locs z2 (lw_E_same (fun j hj => (b2 j hj).trans (a2 j hj)) he) hIn
  · obtain ⟨mA, jA, pA, rA⟩ := lK_311 (l := l) (D := D) (cys := cys) hU hun
    obtain ⟨mB, jB, pB, rB⟩ := lK_346 (l := l) (D := D) (cys := cys) hU hun
    refine lw_any (b' := ax) (As := [.int (xs (n + 1))]) C' hl mA ls_311 jA (by rw [pA]; exact ⟨⟨ax, rfl, tx⟩, hr_aI hc hhi, trivial⟩) hI rfl rA hcs (Nat.zero_le _) dA (fun cs hcs1 z g H locs hco hI => ?_)
    refine lv_pop hx hb (show decode code 1172 = .ok (.pop, 1) by decide +kernel) rfl ?_
    refine lv_aload_n hx hb (show decode code 1173 = .ok (.aload_n 2, 1) by decide +kernel) rfl (lv_at hl 2 rfl) ?_
    refine lw_arg C' hl rfl rfl hI.2.2.2 hn 1 1 (by decide) rfl aB ?_
    refine lw_any (b' := am) (As := [.int (xs (n + 1))]) C' hl mB ls_346 jB (by rw [pB]; exact ⟨⟨am, rfl, tm⟩, hr_aI hc hhi, trivial⟩) hI rfl rB hcs (Nat.zero_le _) dB (fun cs2 hcs2 z2 g2 H locs hco2 hI => ?_)
    obtain ⟨-, a2⟩ := lw_N lq_311 hcs1 hco
    obtain ⟨-, b2⟩ := lw_N lq_346 hcs2 hco2
    exact fin g2 H locs z2 (lw_E_same (fun j hj => (b2 j hj).trans (a2 j hj)) he) hI
theorem z_fault {M1 M2 : ev_C} (h : M1 11 13 = M2 12 15) : ∃ r M2', f_11_fault M1 = some (r, M1) ∧ f_12_fault M2 = some (r, M2') := ⟨M2 12 15, _, by rw [← h]; rfl, rfl⟩
theorem lm_171 : lc_mV RL 34 kc_171 11 := ⟨(in_r27 _ (List.mem_of_getElem? (i := 20) rfl)), (in_r1 _ (List.mem_of_getElem? (i := 2) rfl)), (in_r27 _ (List.mem_of_getElem? (i := 17) rfl)), (in_r27 _ (List.mem_of_getElem? (i := 18) rfl)), (in_r27 _ (List.mem_of_getElem? (i := 19) rfl)), by decide +kernel, _, _, _, _, rfl, rfl, rfl, rfl, by decide +kernel⟩
theorem lK_171 {l : Launch} {D : va_G} {cys : Nat → ClassId} {ty : Nat → Option Nat} (hU : ck_uq ty ck_pvs0) (hun : ck_un ty) : lw_K l D cys ty kc_171 34 11 [] := ⟨lm_171, ch_all hU hun 171 (by decide), rfl, by decide, by decide⟩
theorem lqK_171 : ck_lawK kc_171 = true := by decide +kernel
theorem lqS_171 : ck_lawS kc_171 = true := by decide +kernel
theorem lm_248 : lc_mV RL 37 kc_248 12 := ⟨(in_r28 _ (List.mem_of_getElem? (i := 0) rfl)), (in_r1 _ (List.mem_of_getElem? (i := 5) rfl)), (in_r27 _ (List.mem_of_getElem? (i := 21) rfl)), (in_r27 _ (List.mem_of_getElem? (i := 22) rfl)), (in_r27 _ (List.mem_of_getElem? (i := 23) rfl)), by decide +kernel, _, _, _, _, rfl, rfl, rfl, rfl, by decide +kernel⟩
theorem lK_248 {l : Launch} {D : va_G} {cys : Nat → ClassId} {ty : Nat → Option Nat} (hU : ck_uq ty ck_pvs0) (hun : ck_un ty) : lw_K l D cys ty kc_248 37 12 [] := ⟨lm_248, ch_all hU hun 248 (by decide), rfl, by decide, by decide⟩
theorem lqK_248 : ck_lawK kc_248 = true := by decide +kernel
theorem lqS_248 : ck_lawS kc_248 = true := by decide +kernel
theorem lw_cmp (C : lw_C p l s m c b L xs D cys ty ax am qo) (hn : n + 6 ≤ L) (hcs : cells ≤ 601024 ∧ slots ≤ 7293034) (hl : lv_has ls 7 (lw_lv b ax am qo n)) (hI : lw_I s D cys ty qo pvv H locs) (he : lw_E pvv) (G : lw_G p l e s m below meth c b D cys ty ax am qo n cells slots Q) : W p l e room_1 s m #[Value.ref b] below meth c H locs cells slots Q (F0 m 331 ls []) := by
  have C' := C
  obtain ⟨⟨hx, hb, -⟩, -, -, -, ⟨hU, hun⟩, tx, tm, -⟩ := C
  have hUx := ev_uqT hun
  obtain ⟨i1, i2, i3, i4⟩ := hI
  have ce := lw_cells i2 tx tm
  obtain ⟨K, hG, hW⟩ := ge_out i2
  obtain ⟨M, hM⟩ := ev_ofck hUx hW
  obtain ⟨m1, m2, m3, m4, -⟩ := lw_tp hW hM ce hG.1.1
  have hz0 : z_G M M := z_G.al hG.1.2 (lw_ag hW hM ce)
  obtain ⟨r, M2, f1, f2⟩ := z_fault (M1 := M) (M2 := M)  (by rw [hx_pv11 hW hM tx, (hx_pv12 hW hM tm).2.1, he.2.2.2])
  refine lv_aload_n hx hb (show decode code 331 = .ok (.aload_n 1, 1) by decide +kernel) rfl (lv_at hl 1 rfl) ?_
  refine lw_ex (kc := kc_171) (Ex := GE ty) (M := M) (A := [.inr (.inl 11)]) (b' := ax) (As := []) C' hl lm_171 lqS_171 (ch_all hU hun 171 (by decide)) (m_11_fault hUx f1) ⟨⟨ax, rfl, tx⟩, trivial⟩ ⟨⟨ax, rfl, tx⟩, trivial⟩ ⟨i1, i2, i3, i4⟩ hM rfl ⟨by decide, by decide⟩ hcs (Nat.zero_le _) (show decode code 332 = .ok (.invokevirtual 34, 3) by decide +kernel) (fun cs hcs1 z g H locs r3 M3 hco hr3 hq3 hJ hE => ?_)
  obtain ⟨rfl, rfl⟩ := hq3
  have y3 : z.toInt = r := by
    obtain ⟨x, e, y⟩ := hr3
    cases e
    exact y
  have a1 : ∀ i ∈ lw_js, g i = pvv i := lw_KK lqK_171 hcs1 hco
  refine lv_aload_n hx hb (show decode code 335 = .ok (.aload_n 2, 1) by decide +kernel) rfl (lv_at hl 2 rfl) ?_
  refine lw_ex (kc := kc_248) (Ex := GE ty) (M := M3) (A := [.inr (.inl 12)]) (b' := am) (As := []) (rest := [.int z]) C' hl lm_248 lqS_248 (ch_all hU hun 248 (by decide)) (m_12_fault hUx f2) ⟨⟨am, rfl, tm⟩, trivial⟩ ⟨⟨am, rfl, tm⟩, trivial⟩ hJ hE rfl ⟨by decide, by decide⟩ hcs (Nat.le_of_ble_eq_true rfl) (show decode code 336 = .ok (.invokevirtual 37, 3) by decide +kernel) (fun cs2 hcs2 z2 g2 H locs r4 M4 hco2 hr4 hq4 hJ2 hE2 => ?_)
  obtain ⟨rfl, rfl⟩ := hq4
  have y4 : z2.toInt = r := by
    obtain ⟨x, e, y⟩ := hr4
    cases e
    exact y
  have b1 : ∀ i ∈ lw_js, g2 i = g i := lw_KK lqK_248 hcs2 hco2
  refine lv_icmp_eq (tgt := 1212) hx hb (show decode code 339 = .ok (.if_icmp .eq 873, 3) by decide +kernel) (by decide) (fun _ => ?_) (fun h => absurd (Int32.toInt_inj.mp (y3.trans y4.symm)) h)
  exact G g2 H locs ls hJ2 (lw_E_same (fun j hj => (b1 j hj).trans (a1 j hj)) he) hl
end LY

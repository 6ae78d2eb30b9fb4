/-! BUILDING, 4: stores into made arrays. -/
theorem bz_set {cys : Nat → ClassId} {τ : List (Nat × Nat)} {ws : va_W} (h : bz cys τ ws) {i a t : Nat} {td : ck_TD} {en' : va_E} (hi : τ[i]? = some (a, t)) (ht : ck_tags[t]? = some td) (he : ck_e (lk τ) cys td en') (h1 : ck_nfa ck_pvs0 t = true) (h2 : ck_prot1 t = []) : bz cys τ (ws.set i (a, en')) := by
  have hlt : i < ws.length := by rw [← h.1]; exact (List.getElem?_eq_some_iff.mp hi).1
  refine ⟨by rw [List.length_set]; exact h.1, h.2.1, fun j b u hj => ?_⟩
  by_cases e : i = j
  · subst e
    rw [hi] at hj
    cases hj
    refine ⟨en', td, by rw [List.getElem?_set_self hlt], ht, he, fun k hk => ?_⟩
    rcases hk with ⟨j, hj⟩ | hk
    · exact absurd hj (ck_nfa_ok h1 j k)
    · rw [h2] at hk
      obtain ⟨_, h, -⟩ := hk
      cases h
  · obtain ⟨en, td, g1, g2, g3, g4⟩ := h.2.2 j b u hj
    exact ⟨en, td, by rw [List.getElem?_set_ne e]; exact g1, g2, g3, g4⟩
theorem b_seta {α : Type} (u v : List α) (j : Nat) (x : α) : (u ++ v).set (u.length + j) x = u ++ v.set j x := by
  induction u with
  | nil => simp
  | cons a u ih => rw [List.cons_append, List.length_cons, show u.length + 1 + j = (u.length + j) + 1 by omega, List.set_cons_succ, ih, List.cons_append]
theorem b_setP {D : va_G} {pre ws : va_W} {j : Nat} {x : Nat × va_E} {H : Heap} (h : va_P D ck_cl ((pre ++ ws).set (pre.length + j) x) H) : va_P D ck_cl (pre ++ ws.set j x) H := (b_seta pre ws j x) ▸ h
theorem b_setD {A : Nat → Prop} {pre ws : va_W} {j : Nat} {x : Nat × va_E} (h : va_D A ((pre ++ ws).set (pre.length + j) x)) : va_D A (pre ++ ws.set j x) := (b_seta pre ws j x) ▸ h
section BM
variable {p : Program} {l : Launch} {e : Env} {R : Room} {s : State} {m : MethodId} {args : Array Value} {below : List Frame} {meth : Method} {c : Code} {H H0 : Heap} {locs : List Loc} {cells slots : Nat} {Q : State → Prop} {cc : ByteArray} {pc : Nat} {ls : Array Slot} {rest : List Value}
variable {D : va_G} {cys : Nat → ClassId} {A : Nat → Prop} {pre : va_W} {L : List (Nat × Nat)} {TG : List Nat} {Ts : List Jvm.Cond} {own : String}
theorem bw_last {q t n et : Nat} {sg : List (Nat × Int × Int)} {i : Int32} {x : Int64} (hexec : p.tables.exec = Jvm.exec) (hb : c.code = cc) (hK : va_K D ck_cl (ck_tys cys) s) (hB : bS D cys A H0 pre L TG H locs) (hq : (q, t) ∈ L) (ht : ck_tags[t]? = some (.inr (3, n, sg, et))) (h1 : ck_nfa ck_pvs0 t = true) (h2 : ck_prot1 t = []) (hin : vp_in i n) (hdg : decode cc pc = .ok (.lastore, 1))
    (kk : ∀ (H1 : Heap) (locs1 : List Loc), bS D cys A H0 pre L TG H1 locs1 → W p l e R s m args below meth c H1 locs1 cells slots Q (F0 m (pc + 1) ls rest)) : W p l e R s m args below meth c H locs cells slots Q (F0 m pc ls (.long x :: .int i :: .ref q :: rest)) := by
  obtain ⟨hS, τ, ws, hP, hD, hbz, hL, hTG⟩ := hB
  obtain ⟨j, hj⟩ := List.getElem?_of_mem (hL _ hq)
  obtain ⟨en, td, g1, g2, g3, g4⟩ := hbz.2.2 j q t hj
  rw [ht] at g2
  cases g2
  have hlt : j < ws.length := (List.getElem?_eq_some_iff.mp g1).1
  rcases g3 with ⟨hk, -⟩ | ⟨-, f, rfl⟩ | ⟨hk, -⟩
  · exact absurd hk (Nat.lt_irrefl 3)
  · refine va_last hexec hb hK hP hD hS (pre.length + j) 3 (by rw [List.getElem?_append_right (by omega), Nat.add_sub_cancel_left]; exact g1) rfl hin hdg (fun H1 locs1 hP1 hD1 hS1 => ?_)
    exact kk H1 locs1 ⟨hS1, τ, _, b_setP hP1, b_setD hD1, bz_set hbz hj ht (Or.inr (Or.inl ⟨rfl, _, rfl⟩)) h1 h2, hL, hTG⟩
  · exact absurd hk (by simp)
/-! Arrays.fill(a, -1) on six men -/
theorem ok_fill : ck_check ck_tags ck_pvs0 ck_prot0 ck_LK ck_tab 0 kc_280 3000 = true := by decide +kernel
theorem lk_one {q t a u : Nat} (h : lk [(q, t)] a = some u) : a = q ∧ u = t := by
  have := lk_in h
  exact Prod.mk.inj (List.mem_singleton.mp this)
theorem fill_m {q : Nat} : ck_Holds l D cys (lk [(q, 26)]) ck_tags ck_pvs0 (fun _ => True) kc_280 := ck_sound (k := kc_280) (bd := 0) (prot := ck_prot0) ⟨lk_c, lk_f, lk_m, fun _ _ _ _ _ _ _ _ _ _ _ => trivial, fun j t k hj a a' h h' => by rw [(lk_one h).1, (lk_one h').1], pv_inj, fun j hj => absurd hj (Nat.not_lt_zero j)⟩ (by decide +kernel) (by decide +kernel) ok_fill
theorem pP0 {ty : Nat → Option Nat} : ck_pvo ty (ck_XE (fun _ => 0)) pP (fun _ => 0) := by
  have key : pP.all (fun av => match av with
    | .inl r => decide (r.1 ≤ 0) && decide (0 ≤ r.2.1) && r.2.2.isEmpty
    | _ => false) = true := by decide +kernel
  intro j av hj
  have h := List.all_eq_true.mp key av (List.mem_of_getElem? hj)
  match av, h with
  | .inl (lo, hi, ds), h =>
    simp only [Bool.and_eq_true, decide_eq_true_eq, List.isEmpty_iff] at h
    obtain ⟨⟨h1, h2⟩, rfl⟩ := h
    exact ⟨0, rfl, h1, h2, fun d hd => by cases hd⟩
theorem bw_fill {o q ix nL : Nat} {lv : List (Nat × Value)} (hexec : p.tables.exec = Jvm.exec) (hb : c.code = cc) (hml : c.maxLocals = nL) (hl : lv_has ls nL lv) (hts : ∀ w ∈ Ts, w.before args s = true) (hin : ∀ w ∈ wsL_law0, w ∈ Ts) (hown : s.vm.findClass (ck_R o) = some m.cls) (hT : bT D cys s) (hB : bS D cys A H0 pre L TG H locs) (hq : (q, 26) ∈ L) (hm : ck_mOK ck_tags o ix 1 kc_280) (hR : 2 ≤ R.frames ∧ 35 ≤ R.locals) (hr8 : (rest.map fun v => v.category).sum ≤ 8) (hcs : cells ≤ R.cells ∧ slots ≤ R.slots) (hdg : decode cc pc = .ok (.invokestatic ix, 3))
    (kk : ∀ (H1 : Heap) (locs1 : List Loc), bS D cys A H0 pre L TG H1 locs1 → W p l e R s m args below meth c H1 locs1 cells slots Q (F0 m (pc + 3) ls rest)) : W p l e R s m args below meth c H locs cells slots Q (F0 m pc ls (.int (-1) :: .ref q :: rest)) := by
  obtain ⟨hS, τ, ws, hP, hD, hbz, hL, hTG⟩ := hB
  obtain ⟨j, hj⟩ := List.getElem?_of_mem (hL _ hq)
  obtain ⟨en, td, g1, g2, g3, g4⟩ := hbz.2.2 j q 26 hj
  have hat : (pre ++ ws)[pre.length + j]? = some (q, en) := by rw [List.getElem?_append_right (by omega), Nat.add_sub_cancel_left]; exact g1
  have htd : td = .inr (0, 6, [(6, -1, 7)], 0) := by
    have : ck_tags[26]? = some (.inr (0, 6, [(6, -1, 7)], 0)) := rfl
    rw [this] at g2
    exact (Option.some.inj g2).symm
  have g3' : ∀ ty, ck_e ty cys td en := fun ty => by
    subst htd
    rcases g3 with h | ⟨h, -⟩ | ⟨h, -⟩
    · exact Or.inl h
    · exact absurd h (by simp)
    · exact absurd h (by simp)
  have hW : ck_Wo D cys (lk [(q, 26)]) ck_tags ck_pvs0 (fun _ => True) (fun _ => 0) H := by
    refine ⟨[(q, en)], fun k x hx => ?_, ⟨fun i j x z hx hz _ => ?_, fun k x hx => ?_⟩, fun a t h => ?_, fun j t k hj a h => ?_, trivial⟩
    · have h1 : k < 1 := (List.getElem?_eq_some_iff.mp hx).1
      rw [show k = 0 by omega] at hx
      cases hx
      exact hP _ _ hat
    · have h1 : i < 1 := (List.getElem?_eq_some_iff.mp hx).1
      have h2 : j < 1 := (List.getElem?_eq_some_iff.mp hz).1
      omega
    · have h1 : k < 1 := (List.getElem?_eq_some_iff.mp hx).1
      rw [show k = 0 by omega] at hx
      cases hx
      show (lk [(q, 26)] q).isSome = true
      rw [lk_mem (t := 26) (by simp) (List.mem_singleton.mpr rfl)]
      rfl
    · obtain ⟨rfl, rfl⟩ := lk_one h
      exact ⟨0, en, td, rfl, g2, g3' _⟩
    · obtain ⟨rfl, rfl⟩ := lk_one h
      exact absurd hj (ck_nfa_ok (by decide +kernel) j k)
  have hG : GoodIn Ts (ck_ws kc_280) := fun w hw => by
    rcases List.mem_cons.mp hw with hw | hw
    · subst hw; exact ⟨hin _ hm.1, ck_good _ hm.1⟩
    · exact ⟨hin _ hw, ck_good _ hw⟩
  obtain ⟨m1, m2, m3, -, m4, -⟩ := hm
  obtain ⟨w1, w2, p5⟩ := m4 rfl
  have ha : ck_args (lk [(q, 26)]) (k_pa kc_280) [.ref q, .int (-1)] := ⟨⟨q, rfl, lk_mem (by simp) (List.mem_singleton.mpr rfl)⟩, ⟨-1, rfl, by decide, by decide, fun d hd => by cases hd⟩, trivial⟩
  have hrun := va_runS (p := p) (l := l) (e := e) (R := R) (s := s) (m := m) (args := args) (below := below) (meth := meth) (c := c) (H := H) (locs := locs) (cells := cells) (slots := slots) (g := F0 m pc ls (.int (-1) :: .ref q :: rest)) (As := [.ref q, .int (-1)]) (rest := rest) (nL := nL) (own := ck_R o) (index := ix) (bytes := k_cc kc_280) (maxL := k_ml kc_280) (ret := k_rt kc_280) (n := 2) ⟨hexec, hb, hml, hown, hts⟩ (fill_m (q := q) _ _ ha pP0) ⟨callB_of _ hts hG rfl rfl rfl (hts _ (hin _ m2)) (hts _ (hin _ w1)) ⟨m3.1, m3.2, p5⟩ hR, hts _ (hin _ w2)⟩
    ⟨ck_blind _, fun U hU hWm => ⟨rfl, by rw [hU]; exact hW, va_K.moved hWm.alike hT.1, ck_nest_warm hWm hT.2.1⟩⟩ rfl rfl hl.1 rfl (lv_room hr8) hdg hcs
  intro T0 hT0 X
  obtain ⟨v, st₀, t, T', L', h0, X', hL', e1, e2, ⟨⟨cs, hcs', r, pvv', hv, hco, ws1, hP1, hD1, hty1, -⟩, hz, hk⟩, st⟩ := hrun T0 hT0 X
  rw [h0] at hz hk
  obtain ⟨i1, en1, td1, f1, f2, f3⟩ := hty1 q 26 (lk_mem (by simp) (List.mem_singleton.mpr rfl))
  rw [g2] at f2
  cases f2
  have hv0 : v = none := by
    cases hv
    have : cs = (none, [], pU) := List.mem_singleton.mp hcs'
    subst this
    have h1 := hco.1
    revert h1
    cases v with
    | none => exact fun _ => rfl
    | some w => exact fun h1 => h1.elim
  subst hv0
  have own1 : ∀ x, ck_own (lk [(q, 26)]) x → x = q := fun x hx => by
    have hx : (lk [(q, 26)] x).isSome = true := hx
    obtain ⟨u, hu⟩ := Option.isSome_iff_exists.mp hx
    exact (lk_one hu).1
  have hlt : pre.length + j < (pre ++ ws).length := (List.getElem?_eq_some_iff.mp hat).1
  have hP2 : va_P D ck_cl ((pre ++ ws).set (pre.length + j) (q, en1)) T'.heap := fun k x hx => by
    by_cases ek : pre.length + j = k
    · subst ek
      rw [List.getElem?_set_self hlt] at hx
      cases hx
      rw [e1]
      exact hP1 i1 _ f1
    · rw [List.getElem?_set_ne ek] at hx
      have hne : x.1 ≠ q := fun z => ek ((hD.1 k (pre.length + j) x (q, en) hx hat z).symm)
      exact (hP k x hx).kept (by rw [e1]; exact hk x.1 (hP k x hx).lt (fun z => hne (own1 _ z)))
  have f3' : ck_e (lk τ) cys td en1 := by
    subst htd
    rcases f3 with h | ⟨h, -⟩ | ⟨h, -⟩
    · exact Or.inl h
    · exact absurd h (by simp)
    · exact absurd h (by simp)
  have hAq : A q := hD.2 _ _ hat
  have hS2 : va_S A H0 T'.heap (locs ++ L') := ⟨Nat.le_trans hS.1 (by rw [e1]; exact hz), fun x h1 h2 => by
      rw [e1, hk x (Nat.lt_of_lt_of_le h1 hS.1) (fun z => h2 (by rw [own1 x z]; exact hAq))]; exact hS.2.1 x h1 h2, fun x hx => by
      rcases List.mem_append.mp hx with h | h
      · exact hS.2.2 x h
      · rw [own1 _ (hL' x h)]; exact hAq⟩
  obtain ⟨t2, a1, b1⟩ := kk T'.heap (locs ++ L') ⟨hS2, τ, _, b_setP hP2, b_setD (hD.set hat), bz_set hbz hj g2 f3' (by decide +kernel) rfl, hL, hTG⟩ T' rfl X'
  exact ⟨t2, st t2 a1, b1⟩
/-! arrays of objects -/
theorem b_Diff {u : va_W} : va_D A u ↔ (u.map Prod.fst).Nodup ∧ ∀ x ∈ u, A x.1 := by
  constructor
  · intro h
    refine ⟨?_, fun x hx => by obtain ⟨i, hi⟩ := List.getElem?_of_mem hx; exact h.2 i x hi⟩
    rw [List.Nodup, List.pairwise_iff_getElem]
    intro i j hi hj hij e
    rw [List.length_map] at hi hj
    rw [List.getElem_map, List.getElem_map] at e
    have := h.1 i j u[i] u[j] (List.getElem?_eq_getElem hi) (List.getElem?_eq_getElem hj) e
    omega
  · intro h
    have h1 := h.1
    rw [List.Nodup, List.pairwise_iff_getElem] at h1
    refine ⟨fun i j x y hx hy e => ?_, fun k x hx => h.2 x (List.mem_of_getElem? hx)⟩
    obtain ⟨hi, ei⟩ := List.getElem?_eq_some_iff.mp hx
    obtain ⟨hj, ej⟩ := List.getElem?_eq_some_iff.mp hy
    rcases Nat.lt_trichotomy i j with z | z | z
    · exact absurd (by rw [List.getElem_map, List.getElem_map, ei, ej]; exact e) (h1 i j (by rw [List.length_map]; exact hi) (by rw [List.length_map]; exact hj) z)
    · exact z
    · exact absurd (by rw [List.getElem_map, List.getElem_map, ei, ej]; exact e.symm) (h1 j i (by rw [List.length_map]; exact hj) (by rw [List.length_map]; exact hi) z)
theorem b_mid {ws : va_W} {x : Nat × va_E} : List.Perm ((pre ++ ws) ++ [x]) ((pre ++ [x]) ++ ws) := by
  rw [List.append_assoc, List.append_assoc]
  exact List.Perm.append_left pre List.perm_append_comm
theorem b_permD {u v : va_W} (hp : List.Perm u v) (h : va_D A u) : va_D A v := by
  rw [b_Diff] at h ⊢
  exact ⟨(hp.map Prod.fst).nodup_iff.mp h.1, fun x hx => h.2 x (hp.mem_iff.mpr hx)⟩
theorem b_permP {u v : va_W} (hp : List.Perm u v) (h : va_P D ck_cl u H) : va_P D ck_cl v H := fun k x hx => by
  obtain ⟨i, hi⟩ := List.getElem?_of_mem (hp.mem_iff.mpr (List.mem_of_getElem? hx))
  exact h i x hi
theorem bw_newq {C : String} {kd ix N' : Nat} {n : Int32} (hexec : p.tables.exec = Jvm.exec) (hb : c.code = cc) (hts : ∀ w ∈ Ts, w.before args s = true) (hin : ∀ w ∈ wsL_law0, w ∈ Ts) (hown : s.vm.findClass own = some m.cls) (hK : va_K D ck_cl (ck_tys cys) s) (hover : va_AO C s) (hA : ∀ q, H0.size ≤ q → A q) (hB : bS D cys A H0 pre L TG H locs) (hlk : Jvm.Cond.classLink own ix C ∈ wsL_law0) (hcy : (ck_tys cys)[kd]? = some (cys kd, .object C)) (hn : ¬ n < 0) (hN : n.toNatClampNeg = N') (hbytes : N' * 4 ≤ 536870912) (hcells : cells + 1 ≤ R.cells) (hslots : slots + N' ≤ R.slots) (hdg : decode cc pc = .ok (.anewarray ix, 3))
    (kk : ∀ (q : Nat) (H1 : Heap), bS D cys A H0 (pre ++ [(q, .inl (cys kd, N', .inr (.inr (.inr (.inr (fun _ => none))))))]) L TG H1 locs → W p l e R s m args below meth c H1 locs (cells + 1) (slots + N') Q (F0 m (pc + 3) ls (.ref q :: rest))) : W p l e R s m args below meth c H locs cells slots Q (F0 m pc ls (.int n :: rest)) := by
  obtain ⟨hS, τ, ws, hP, hD, hbz, hL, hTG⟩ := hB
  refine va_newq hexec hb hown (hts _ (hin _ hlk)) hover hK hP hD hS hA hn hN hbytes hcells hslots hdg (fun q cA H1 hK' hP' hD' hS' => ?_)
  have e := b_RA (hK'.2 (ck_tys cys).length (cA, .object C) (by rw [List.getElem?_append_right (Nat.le_refl _), Nat.sub_self]; rfl)).2 (hK.2 kd _ hcy).2
  dsimp only at e
  subst e
  exact kk q H1 ⟨hS', τ, ws, b_permP b_mid hP', b_permD b_mid hD', hbz, hL, hTG⟩
theorem b_setl {α : Type} (u v : List α) (j : Nat) (x : α) (h : j < u.length) : (u ++ v).set j x = u.set j x ++ v := by
  induction u generalizing j with
  | nil => exact absurd h (Nat.not_lt_zero j)
  | cons a u ih =>
    match j, h with
    | 0, _ => rfl
    | j + 1, h => rw [List.cons_append, List.set_cons_succ, List.set_cons_succ, ih j (Nat.lt_of_succ_lt_succ h), List.cons_append]
theorem bw_astq {ci tv v b k kd n : Nat} {r : vw_C} {fts : List ck_AV} {f : Nat → Option Nat} {i : Int32} {i' : Nat} (hexec : p.tables.exec = Jvm.exec) (hb : c.code = cc) (hK : va_K D ck_cl (ck_tys cys) s) (hB : bS D cys A H0 pre L TG H locs) (ha : pre[k]? = some (b, .inl (cys kd, n, .inr (.inr (.inr (.inr f)))))) (hv : (v, tv) ∈ L) (ht : ck_tags[tv]? = some (.inl (ci, fts))) (hc : ck_cl[ci]? = some r) (hcy : (ck_tys cys)[kd]? = some (cys kd, .object r.1)) (hin : vp_in i n) (hi : i.toNatClampNeg = i') (hdg : decode cc pc = .ok (.aastore, 1))
    (kk : ∀ (H1 : Heap) (locs1 : List Loc), bS D cys A H0 (pre.set k (b, .inl (cys kd, n, .inr (.inr (.inr (.inr (va_up f i' (some v)))))))) L TG H1 locs1 → W p l e R s m args below meth c H1 locs1 cells slots Q (F0 m (pc + 1) ls rest)) : W p l e R s m args below meth c H locs cells slots Q (F0 m pc ls (.ref v :: .int i :: .ref b :: rest)) := by
  subst hi
  obtain ⟨hS, τ, ws, hP, hD, hbz, hL, hTG⟩ := hB
  obtain ⟨j, hj⟩ := List.getElem?_of_mem (hL _ hv)
  obtain ⟨en, td, g1, g2, g3, g4⟩ := hbz.2.2 j v tv hj
  rw [ht] at g2
  cases g2
  obtain ⟨vs, rfl, -, -⟩ := g3
  have hlt : k < pre.length := (List.getElem?_eq_some_iff.mp ha).1
  refine va_astq hexec hb hK hP hD hS k kd (pre.length + j) ci (by rw [List.getElem?_append_left hlt]; exact ha) hcy (by rw [List.getElem?_append_right (by omega), Nat.add_sub_cancel_left]; exact g1) hc hin hdg (fun H1 locs1 hP1 hD1 hS1 => ?_)
  exact kk H1 locs1 ⟨hS1, τ, ws, (b_setl pre ws k _ hlt) ▸ hP1, (b_setl pre ws k _ hlt) ▸ hD1, hbz, hL, hTG⟩
theorem bw_close {b t kd n et : Nat} {sg : List (Nat × Int × Int)} {f : Nat → Option Nat} (hB : bS D cys A H0 (pre ++ [(b, .inl (cys kd, n, .inr (.inr (.inr (.inr f)))))]) L TG H locs) (ht : ck_tags[t]? = some (.inr (kd, n, sg, et))) (hkd : kd = 4 ∨ kd = 5) (h1 : ck_nfa ck_pvs0 t = true) (h2 : ck_prot1 t = []) (hf : ∀ j, j < n → ∃ v, f j = some v ∧ (v, ck_et kd et j) ∈ L) : bS D cys A H0 pre ((b, t) :: L) (t :: TG) H locs := by
  obtain ⟨hS, τ, ws, hP, hD, hbz, hL, hTG⟩ := hB
  rw [List.append_assoc] at hP hD
  have hD2 : va_D A ((b, .inl (cys kd, n, .inr (.inr (.inr (.inr f))))) :: ws) := b_Dr hD
  have hna : b ∉ τ.map Prod.fst := fun hb => by
    obtain ⟨i, en, g1⟩ := bz_at hbz hb
    have := hD2.1 0 (i + 1) _ (b, en) rfl (by rw [List.getElem?_cons_succ]; exact g1) rfl
    omega
  have hnd : (((b, t) :: τ).map Prod.fst).Nodup := by rw [List.map_cons]; exact List.nodup_cons.mpr ⟨hna, hbz.2.1⟩
  have hm : ∀ x u, lk τ x = some u → lk ((b, t) :: τ) x = some u := fun x u hx => lk_mem hnd (List.mem_cons_of_mem _ (lk_in hx))
  refine ⟨hS, (b, t) :: τ, (b, .inl (cys kd, n, .inr (.inr (.inr (.inr f))))) :: ws, hP, hD, ⟨by simp [hbz.1], hnd, fun i x u hi => ?_⟩, fun r hr => ?_, by rw [List.map_cons, hTG]⟩
  · match i, hi with
    | 0, hi =>
      cases hi
      refine ⟨_, _, rfl, ht, Or.inr (Or.inr ⟨hkd, f, rfl, fun j hj => ?_⟩), fun k hk => ?_⟩
      · obtain ⟨v, e1, e2⟩ := hf j hj
        exact ⟨v, e1, lk_mem hnd (List.mem_cons_of_mem _ (hL _ e2))⟩
      · rcases hk with ⟨j, hj⟩ | hk
        · exact absurd hj (ck_nfa_ok h1 j k)
        · rw [h2] at hk
          obtain ⟨_, h, -⟩ := hk
          cases h
    | i + 1, hi =>
      rw [List.getElem?_cons_succ] at hi
      obtain ⟨en, td, g1, g2, g3, g4⟩ := hbz.2.2 i x u hi
      exact ⟨en, td, by rw [List.getElem?_cons_succ]; exact g1, g2, ck_e_mono hm g3, g4⟩
  · rcases List.mem_cons.mp hr with h | h
    · rw [h]; exact List.mem_cons_self
    · exact List.mem_cons_of_mem _ (hL r h)
/-! a row of longs whose contents are told -/
theorem vp_uL {f : Nat → Int64} {a k : Nat} {x : Int64} : vp_updL f a x k = if k = a then x else f k := rfl
theorem bp_new (hexec : p.tables.exec = Jvm.exec) (hb : c.code = cc) (hK : va_K D ck_cl (ck_tys cys) s) (hA : ∀ q, H0.size ≤ q → A q) (hB : bS D cys A H0 pre L TG H locs) (harr : (Jvm.Cond.arrayClass (newarray.typeOf .long)).before args s = true) {N' : Nat} {n : Int32} (hn : ¬ n < 0) (hN : n.toNatClampNeg = N') (hbytes : N' * 8 ≤ 536870912) (hcells : cells + 1 ≤ R.cells) (hslots : slots + N' ≤ R.slots) (hdg : decode cc pc = .ok (.newarray .long, 2))
    (kk : ∀ (q : Nat) (H1 : Heap), bS D cys A H0 (pre ++ [(q, .inl (cys 3, N', .inr (.inl (fun _ => 0))))]) L TG H1 locs → W p l e R s m args below meth c H1 locs (cells + 1) (slots + N') Q (F0 m (pc + 2) ls (.ref q :: rest))) : W p l e R s m args below meth c H locs cells slots Q (F0 m pc ls (.int n :: rest)) := by
  obtain ⟨hS, τ, ws, hP, hD, hbz, hL, hTG⟩ := hB
  refine va_newa hexec hb harr (ty := .long) rfl hK hP hD hS hA (a0 := (N', .inr (.inl (fun _ => 0)))) (fun cA => rfl) hn hN hbytes hcells hslots hdg (fun q cA H1 hK' hP' hD' hS' => ?_)
  have e := b_RA (hK'.2 (ck_tys cys).length (cA, .long) (by rw [List.getElem?_append_right (Nat.le_refl _), Nat.sub_self]; rfl)).2 (hK.2 3 _ rfl).2
  dsimp only at e
  subst e
  have hlast : ((pre ++ ws) ++ [(q, (Sum.inl (cys 3, N', Sum.inr (Sum.inl (fun _ => 0))) : va_E))])[(pre ++ ws).length]? = some (q, Sum.inl (cys 3, N', Sum.inr (Sum.inl (fun _ => 0)))) := by rw [List.getElem?_append_right (Nat.le_refl _), Nat.sub_self]; rfl
  have inl : ∀ (k : Nat) (x : Nat × va_E), (pre ++ ws)[k]? = some x → ((pre ++ ws) ++ [(q, (Sum.inl (cys 3, N', Sum.inr (Sum.inl (fun _ => 0))) : va_E))])[k]? = some x := fun k x hx => by rw [List.getElem?_append_left (List.getElem?_eq_some_iff.mp hx).1]; exact hx
  have ne : ∀ (k : Nat) (x : Nat × va_E), (pre ++ ws)[k]? = some x → x.1 ≠ q := fun k x hx h => by
    have h1 := hD'.1 _ _ _ _ (inl k x hx) hlast h
    have h2 := (List.getElem?_eq_some_iff.mp hx).1
    omega
  have il : ∀ (k : Nat) (x : Nat × va_E), pre[k]? = some x → (pre ++ ws)[k]? = some x := fun k x hx => by rw [List.getElem?_append_left (List.getElem?_eq_some_iff.mp hx).1]; exact hx
  have ir : ∀ (k : Nat) (x : Nat × va_E), ws[k]? = some x → (pre ++ ws)[pre.length + k]? = some x := fun k x hx => by rw [List.getElem?_append_right (by omega), Nat.add_sub_cancel_left]; exact hx
  have hPp : va_P D ck_cl pre H1 := fun k x hx => hP' k x (inl k x (il k x hx))
  have hPw : va_P D ck_cl ws H1 := fun k x hx => hP' _ x (inl _ x (ir k x hx))
  have hPq : va_P D ck_cl [(q, (Sum.inl (cys 3, N', Sum.inr (Sum.inl (fun _ => 0))) : va_E))] H1 := fun k x hx => by
    match k, hx with
    | 0, hx => cases hx; exact hP' _ _ hlast
    | k + 1, hx => simp at hx
  have hDp : va_D A pre := ⟨fun i j x y hx hy h => hD.1 i j x y (il i x hx) (il j y hy) h, fun k x hx => hD.2 k x (il k x hx)⟩
  have hDq : va_D A [(q, (Sum.inl (cys 3, N', Sum.inr (Sum.inl (fun _ => 0))) : va_E))] := ⟨fun i j x y hx hy _ => by
    have h1 : i < 1 := (List.getElem?_eq_some_iff.mp hx).1
    have h2 : j < 1 := (List.getElem?_eq_some_iff.mp hy).1
    omega, fun k x hx => by
    match k, hx with
    | 0, hx => cases hx; exact hD'.2 _ _ hlast
    | k + 1, hx => simp at hx⟩
  have sing : ∀ (j : Nat) (y : Nat × va_E), [(q, (Sum.inl (cys 3, N', Sum.inr (Sum.inl (fun _ => 0))) : va_E))][j]? = some y → y.1 = q := fun j y hy => by rw [List.mem_singleton.mp (List.mem_of_getElem? hy)]
  refine kk q H1 ⟨hS', τ, ws, va_P.app (va_P.app hPp hPq) hPw, va_D.app (va_D.app hDp hDq (fun i j x y hx hy h => ne i x (il i x hx) (by rw [h]; exact sing j y hy))) (b_Dr hD) (fun i j x y hx hy h => ?_), hbz, hL, hTG⟩
  rcases List.mem_append.mp (List.mem_of_getElem? hx) with h1 | h1
  · obtain ⟨k, hk⟩ := List.getElem?_of_mem h1
    have h2 := hD.1 _ _ _ _ (il k x hk) (ir j y hy) h
    have h3 := (List.getElem?_eq_some_iff.mp hk).1
    omega
  · rw [List.mem_singleton.mp h1] at h
    exact ne _ y (ir j y hy) h.symm
theorem bp_mv {b t : Nat} {en : va_E} (hB : bS D cys A H0 (pre ++ [(b, en)]) L TG H locs) (hz : bz cys [(b, t)] [(b, en)]) : bS D cys A H0 pre ((b, t) :: L) (t :: TG) H locs := by
  obtain ⟨hS, τ, ws, hP, hD, hbz, hL, hTG⟩ := hB
  rw [List.append_assoc] at hP hD
  refine ⟨hS, [(b, t)] ++ τ, [(b, en)] ++ ws, hP, hD, bz_app hz hbz (b_Dr hD), fun r hr => ?_, by rw [List.map_append, hTG]; rfl⟩
  rcases List.mem_cons.mp hr with h | h
  · rw [h]; exact List.mem_cons_self
  · exact List.mem_cons_of_mem _ (hL r h)
theorem bp_last {x : Nat × va_E} {q k : Nat} {f : Nat → Int64} {i : Int32} {v : Int64} {V : List Int} (hexec : p.tables.exec = Jvm.exec) (hb : c.code = cc) (hK : va_K D ck_cl (ck_tys cys) s) (hB : bS D cys A H0 [x, (q, .inl (cys 3, 27, .inr (.inl f)))] L TG H locs) (hf : ∀ j : Nat, j < k → (f j).toInt = V.getD j 0) (hin : vp_in i 27) (hi : i.toNatClampNeg = k) (hv : v.toInt = V.getD k 0) (hdg : decode cc pc = .ok (.lastore, 1))
    (kk : ∀ (H1 : Heap) (locs1 : List Loc) (f1 : Nat → Int64), (∀ j : Nat, j < k + 1 → (f1 j).toInt = V.getD j 0) → bS D cys A H0 [x, (q, .inl (cys 3, 27, .inr (.inl f1)))] L TG H1 locs1 → W p l e R s m args below meth c H1 locs1 cells slots Q (F0 m (pc + 1) ls rest)) : W p l e R s m args below meth c H locs cells slots Q (F0 m pc ls (.long v :: .int i :: .ref q :: rest)) := by
  obtain ⟨hS, τ, ws, hP, hD, hbz, hL, hTG⟩ := hB
  refine va_last hexec hb hK hP hD hS 1 3 rfl rfl hin hdg (fun H1 locs1 hP1 hD1 hS1 => ?_)
  refine kk H1 locs1 (vp_updL f i.toNatClampNeg v) (fun j hj => ?_) ⟨hS1, τ, ws, hP1, hD1, hbz, hL, hTG⟩
  rw [vp_uL, hi]
  by_cases e : j = k
  · rw [if_pos e, e]; exact hv
  · rw [if_neg e]; exact hf j (by omega)
end BM

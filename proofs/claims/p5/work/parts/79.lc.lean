/-! THE LAW, 2: calls by contract out of any frame. -/
def lc_mV (own : String) (ix : Nat) (kc : ck_K) (t : Nat) : Prop := Jvm.Cond.code (k_y kc) (k_cc kc) (k_ml kc) (k_rt kc) ∈ wsL_law0 ∧ Jvm.Cond.initialized (k_y kc).cls ∈ wsL_law0 ∧ Jvm.Cond.methodLink own ix (k_y kc) ∈ wsL_law0 ∧ Jvm.Cond.instanceMethod (k_y kc) ∈ wsL_law0 ∧ Jvm.Cond.selects (k_y kc).cls (k_y kc) (k_y kc) ∈ wsL_law0 ∧ ((k_y kc).cls ≠ "java/lang/invoke/MethodHandle" ∧ (k_y kc).cls ≠ "java/lang/invoke/VarHandle") ∧ ∃ (ci : Nat) (fts : List ck_AV) (r : vw_C) (pa : List ck_AV), k_pa kc = .inr (.inl t) :: pa ∧ ck_tags[t]? = some (.inl (ci, fts)) ∧ ck_cl[ci]? = some r ∧ r.1 = (k_y kc).cls ∧ (parseMethodDescriptor (k_y kc).desc).map (fun d => d.parameters.length) = some pa.length
def lc_mS (own : String) (ix : Nat) (kc : ck_K) : Prop := Jvm.Cond.code (k_y kc) (k_cc kc) (k_ml kc) (k_rt kc) ∈ wsL_law0 ∧ Jvm.Cond.initialized (k_y kc).cls ∈ wsL_law0 ∧ Jvm.Cond.methodLink own ix (k_y kc) ∈ wsL_law0 ∧ Jvm.Cond.static (k_y kc) ∈ wsL_law0 ∧ ((k_y kc).cls ≠ "java/lang/invoke/MethodHandle" ∧ (k_y kc).cls ≠ "java/lang/invoke/VarHandle") ∧ (parseMethodDescriptor (k_y kc).desc).map (fun d => d.parameters.length) = some (k_pa kc).length
section LC
variable {p : Program} {l : Launch} {e : Env} {R : Room} {s : State} {m : MethodId} {args : Array Value} {below : List Frame} {meth : Method} {c : Code} {H H0 : Heap} {locs : List Loc} {cells slots : Nat} {Q : State → Prop} {cc : ByteArray} {pc : Nat} {ls : Array Slot} {rest : List Value}
variable {D : va_G} {cys : Nat → ClassId} {ty : Nat → Option Nat} {Ex : va_W → Prop} {pvv : Nat → Int32} {Ts : List Jvm.Cond} {own : String} {A : Nat → Prop} {nL : Nat} {lv : List (Nat × Value)}
/-- what a frame has for a call: the machine, its code, its locals, the words, the tables -/
def lc_F (p : Program) (s : State) (m : MethodId) (args : Array Value) (c : Code) (cc : ByteArray) (D : va_G) (cys : Nat → ClassId) (Ts : List Jvm.Cond) (own : String) (nL : Nat) : Prop := p.tables.exec = Jvm.exec ∧ c.code = cc ∧ c.maxLocals = nL ∧ (∀ w ∈ Ts, w.before args s = true) ∧ (∀ w ∈ wsL_law0, w ∈ Ts) ∧ s.vm.findClass own = some m.cls ∧ va_K D ck_cl (ck_tys cys) s ∧ ∀ w ∈ ck_nest, va_Nw w s
theorem lc_good {kc : ck_K} (hin : ∀ w ∈ wsL_law0, w ∈ Ts) (hcd : Jvm.Cond.code (k_y kc) (k_cc kc) (k_ml kc) (k_rt kc) ∈ wsL_law0) : GoodIn Ts (ck_ws kc) := fun w hw => by
  rcases List.mem_cons.mp hw with hw | hw
  · subst hw; exact ⟨hin _ hcd, ck_good _ hcd⟩
  · exact ⟨hin _ hw, ck_good _ hw⟩
theorem lc_runV {kc : ck_K} {Qc : Array Value → State → Outcome → State → Prop} {ix b t : Nat} {As st0 : List Value} (F : lc_F p s m args c cc D cys Ts own nL) (hl : lv_has ls nL lv) (hm : lc_mV own ix kc t) (hM : Met l (k_y kc) (ck_ws kc) (ck_rm kc) (va_Pc (.ref b :: As) (ck_B D cys ty ck_tags ck_pvs0 Ex pvv)) Qc 0 0 (ck_own ty)) (ha : ck_args ty (k_pa kc) (.ref b :: As)) (hW : ck_Wo D cys ty ck_tags ck_pvs0 Ex pvv H) (hvs : st0 = As.reverse ++ .ref b :: rest) (hR : k_fr kc + 1 ≤ R.frames ∧ 8 + (k_ml kc + 11) + k_lo kc ≤ R.locals) (hcs : cells ≤ R.cells ∧ slots ≤ R.slots) (hr8 : (rest.map fun v => v.category).sum ≤ 8) (hdg : decode cc pc = .ok (.invokevirtual ix, 3)) : va_Run p l e R s m args below meth c H locs cells slots 0 0 (F0 m pc ls st0) rest (Qc (Value.ref b :: As).toArray) (ck_own ty) := by
  obtain ⟨hexec, hb, hml, hts, hin, hown, hK, hNw⟩ := F
  obtain ⟨m1, m2, w1, w2, w3, m3, ci, fts, r, pa, p1, p2, p3, p4, p5⟩ := hm
  rw [p1] at ha
  have hvl := ck_args_len ha.2
  obtain ⟨⟨b', e', hb0⟩, -⟩ := ha
  cases e'
  obtain ⟨ws, hP, hD, hT, hV, hE⟩ := id hW
  obtain ⟨q, en, td, g1, g2, g3⟩ := hT b t hb0
  rw [p2] at g2
  cases g2
  obtain ⟨fs, rfl, -, -⟩ := g3
  exact va_runV (p := p) (l := l) (e := e) (R := R) (s := s) (m := m) (args := args) (below := below) (meth := meth) (c := c) (H := H) (locs := locs) (cells := cells) (slots := slots) (g := F0 m pc ls st0) (As := As) (rest := rest) (b := b) (nL := nL) (own := own) (index := ix) (bytes := k_cc kc) (maxL := k_ml kc) (ret := k_rt kc) (n := pa.length) ⟨hexec, hb, hml, hown, hts⟩ hM ⟨callB_of pa.length hts (lc_good hin m1) rfl rfl rfl (hts _ (hin _ m2)) (hts _ (hin _ w1)) ⟨m3.1, m3.2, p5⟩ hR, hts _ (hin _ w2), hts _ (hin _ w3)⟩
    ⟨ck_blind _, by have := va_recv hK hP p3 g1; rw [p4] at this; exact this, fun U hU hWm => ⟨rfl, by rw [hU]; exact hW, va_K.moved hWm.alike hK, ck_nest_warm hWm hNw⟩⟩ rfl hvl hl.1 hvs (lv_room hr8) hdg hcs
theorem lc_runS {kc : ck_K} {Qc : Array Value → State → Outcome → State → Prop} {ix : Nat} {As st0 : List Value} (F : lc_F p s m args c cc D cys Ts own nL) (hl : lv_has ls nL lv) (hm : lc_mS own ix kc) (hM : Met l (k_y kc) (ck_ws kc) (ck_rm kc) (va_Pc As (ck_B D cys ty ck_tags ck_pvs0 Ex pvv)) Qc 0 0 (ck_own ty)) (ha : ck_args ty (k_pa kc) As) (hW : ck_Wo D cys ty ck_tags ck_pvs0 Ex pvv H) (hvs : st0 = As.reverse ++ rest) (hR : k_fr kc + 1 ≤ R.frames ∧ 8 + (k_ml kc + 11) + k_lo kc ≤ R.locals) (hcs : cells ≤ R.cells ∧ slots ≤ R.slots) (hr8 : (rest.map fun v => v.category).sum ≤ 8) (hdg : decode cc pc = .ok (.invokestatic ix, 3)) : va_Run p l e R s m args below meth c H locs cells slots 0 0 (F0 m pc ls st0) rest (Qc As.toArray) (ck_own ty) := by
  obtain ⟨hexec, hb, hml, hts, hin, hown, hK, hNw⟩ := F
  obtain ⟨m1, m2, w1, w2, m3, p5⟩ := hm
  have hvl := ck_args_len ha
  exact va_runS (p := p) (l := l) (e := e) (R := R) (s := s) (m := m) (args := args) (below := below) (meth := meth) (c := c) (H := H) (locs := locs) (cells := cells) (slots := slots) (g := F0 m pc ls st0) (As := As) (rest := rest) (nL := nL) (own := own) (index := ix) (bytes := k_cc kc) (maxL := k_ml kc) (ret := k_rt kc) (n := (k_pa kc).length) ⟨hexec, hb, hml, hown, hts⟩ hM ⟨callB_of _ hts (lc_good hin m1) rfl rfl rfl (hts _ (hin _ m2)) (hts _ (hin _ w1)) ⟨m3.1, m3.2, p5⟩ hR, hts _ (hin _ w2)⟩
    ⟨ck_blind _, fun U hU hWm => ⟨rfl, by rw [hU]; exact hW, va_K.moved hWm.alike hK, ck_nest_warm hWm hNw⟩⟩ rfl hvl hl.1 hvs (lv_room hr8) hdg hcs
/-- behind a call: what is owned may have changed, nothing else -/
def lc_kept (ty : Nat → Option Nat) (H H1 : Heap) : Prop := H.size ≤ H1.size ∧ ∀ q : Nat, q < H.size → ¬ ck_own ty q → H1[q]? = H[q]?
theorem lc_S {L : List Loc} {H1 : Heap} (hS : va_S A H0 H locs) (hA : ∀ q, ck_own ty q → A q) (hk : lc_kept ty H H1) (hL : ∀ q ∈ L, ck_own ty q.base) : va_S A H0 H1 (locs ++ L) := ⟨Nat.le_trans hS.1 hk.1, fun q h1 h2 => by rw [hk.2 q (Nat.lt_of_lt_of_le h1 hS.1) (fun z => h2 (hA q z))]; exact hS.2.1 q h1 h2, fun q hq => by
  rcases List.mem_append.mp hq with h | h
  · exact hS.2.2 q h
  · exact hA _ (hL q h)⟩
theorem lc_afterC {kc : ck_K} {vs : List Value} {a : Array Value} {st0 : List Value} (hr : va_Run p l e R s m args below meth c H locs cells slots 0 0 (F0 m pc ls st0) rest (ck_Qc D cys ty ck_tags ck_pvs0 Ex kc vs pvv a) (ck_own ty)) (hS : va_S A H0 H locs) (hA : ∀ q, ck_own ty q → A q)
    (kk : ∀ cs ∈ k_cs kc, ∀ (r : Option Value) (pvv' : Nat → Int32) (H1 : Heap) (locs1 : List Loc), ck_caseOK ty cs vs pvv pvv' r → ck_Wo D cys ty ck_tags ck_pvs0 Ex pvv' H1 → va_S A H0 H1 locs1 → lc_kept ty H H1 → W p l e R s m args below meth c H1 locs1 cells slots Q (F0 m (pc + 3) ls (r.toList ++ rest))) : W p l e R s m args below meth c H locs cells slots Q (F0 m pc ls st0) := by
  intro T hT X
  obtain ⟨v, st₀, t, T', L, h0, X', hL, e1, e2, ⟨⟨cs, hcs, r, pvv', hv, hco, hb⟩, hz, hk⟩, st⟩ := hr T hT X
  cases hv
  rw [h0] at hz hk
  have hkk : lc_kept ty H T'.heap := ⟨by rw [e1]; exact hz, fun q h1 h2 => by rw [e1]; exact hk q h1 h2⟩
  obtain ⟨t2, a1, b1⟩ := kk cs hcs v pvv' T'.heap (locs ++ L) hco (by rw [e1]; exact hb) (lc_S hS hA hkk hL) hkk T' rfl X'
  exact ⟨t2, st t2 a1, b1⟩
theorem lc_afterR {P : Option Value → (Nat → Int32) → (va_W → Prop) → Prop} {a : Array Value} {st0 : List Value} (hr : va_Run p l e R s m args below meth c H locs cells slots 0 0 (F0 m pc ls st0) rest (hr_Q D cys ty ck_tags ck_pvs0 P a) (ck_own ty)) (hS : va_S A H0 H locs) (hA : ∀ q, ck_own ty q → A q)
    (kk : ∀ (r : Option Value) (pvv' : Nat → Int32) (E' : va_W → Prop) (H1 : Heap) (locs1 : List Loc), P r pvv' E' → ck_Wo D cys ty ck_tags ck_pvs0 E' pvv' H1 → va_S A H0 H1 locs1 → lc_kept ty H H1 → W p l e R s m args below meth c H1 locs1 cells slots Q (F0 m (pc + 3) ls (r.toList ++ rest))) : W p l e R s m args below meth c H locs cells slots Q (F0 m pc ls st0) := by
  intro T hT X
  obtain ⟨v, st₀, t, T', L, h0, X', hL, e1, e2, ⟨⟨r, pvv', E', hv, hp, hb⟩, hz, hk⟩, st⟩ := hr T hT X
  cases hv
  rw [h0] at hz hk
  have hkk : lc_kept ty H T'.heap := ⟨by rw [e1]; exact hz, fun q h1 h2 => by rw [e1]; exact hk q h1 h2⟩
  obtain ⟨t2, a1, b1⟩ := kk v pvv' E' T'.heap (locs ++ L) hp (by rw [e1]; exact hb) (lc_S hS hA hkk hL) hkk T' rfl X'
  exact ⟨t2, st t2 a1, b1⟩
theorem lc_callV {kc : ck_K} {ix b t : Nat} {As st0 : List Value} (F : lc_F p s m args c cc D cys Ts own nL) (hl : lv_has ls nL lv) (hm : lc_mV own ix kc t) (hHo : ck_Holds l D cys ty ck_tags ck_pvs0 Ex kc) (ha : ck_args ty (k_pa kc) (.ref b :: As)) (hpr : ck_pvo ty (ck_XE pvv) (k_pr kc) pvv) (hW : ck_Wo D cys ty ck_tags ck_pvs0 Ex pvv H) (hS : va_S A H0 H locs) (hA : ∀ q, ck_own ty q → A q) (hvs : st0 = As.reverse ++ .ref b :: rest) (hR : k_fr kc + 1 ≤ R.frames ∧ 8 + (k_ml kc + 11) + k_lo kc ≤ R.locals) (hcs : cells ≤ R.cells ∧ slots ≤ R.slots) (hr8 : (rest.map fun v => v.category).sum ≤ 8) (hdg : decode cc pc = .ok (.invokevirtual ix, 3))
    (kk : ∀ cs ∈ k_cs kc, ∀ (r : Option Value) (pvv' : Nat → Int32) (H1 : Heap) (locs1 : List Loc), ck_caseOK ty cs (.ref b :: As) pvv pvv' r → ck_Wo D cys ty ck_tags ck_pvs0 Ex pvv' H1 → va_S A H0 H1 locs1 → lc_kept ty H H1 → W p l e R s m args below meth c H1 locs1 cells slots Q (F0 m (pc + 3) ls (r.toList ++ rest))) : W p l e R s m args below meth c H locs cells slots Q (F0 m pc ls st0) :=
  lc_afterC (lc_runV F hl hm (hHo _ pvv ha hpr) ha hW hvs hR hcs hr8 hdg) hS hA kk
theorem lc_callS {kc : ck_K} {ix : Nat} {As st0 : List Value} (F : lc_F p s m args c cc D cys Ts own nL) (hl : lv_has ls nL lv) (hm : lc_mS own ix kc) (hHo : ck_Holds l D cys ty ck_tags ck_pvs0 Ex kc) (ha : ck_args ty (k_pa kc) As) (hpr : ck_pvo ty (ck_XE pvv) (k_pr kc) pvv) (hW : ck_Wo D cys ty ck_tags ck_pvs0 Ex pvv H) (hS : va_S A H0 H locs) (hA : ∀ q, ck_own ty q → A q) (hvs : st0 = As.reverse ++ rest) (hR : k_fr kc + 1 ≤ R.frames ∧ 8 + (k_ml kc + 11) + k_lo kc ≤ R.locals) (hcs : cells ≤ R.cells ∧ slots ≤ R.slots) (hr8 : (rest.map fun v => v.category).sum ≤ 8) (hdg : decode cc pc = .ok (.invokestatic ix, 3))
    (kk : ∀ cs ∈ k_cs kc, ∀ (r : Option Value) (pvv' : Nat → Int32) (H1 : Heap) (locs1 : List Loc), ck_caseOK ty cs As pvv pvv' r → ck_Wo D cys ty ck_tags ck_pvs0 Ex pvv' H1 → va_S A H0 H1 locs1 → lc_kept ty H H1 → W p l e R s m args below meth c H1 locs1 cells slots Q (F0 m (pc + 3) ls (r.toList ++ rest))) : W p l e R s m args below meth c H locs cells slots Q (F0 m pc ls st0) :=
  lc_afterC (lc_runS F hl hm (hHo _ pvv ha hpr) ha hW hvs hR hcs hr8 hdg) hS hA kk
/-- contracts that change nothing that is followed, and answer an int -/
def ck_sameK (kc : ck_K) : Bool := (k_cs kc).all (fun cs => (match cs.1 with
  | some (.inl _) => true
  | _ => false) && ck_sameA 32 cs.2.2)
theorem lc_int {av : Option ck_AV} {r : Option Value} (h : (match av with
  | some (.inl _) => true
  | _ => false) = true) (hr : ck_rv ty av r) : ∃ z : Int32, r = some (.int z) := by
  match av, h, hr with
  | some (.inl (lo, hi, ds)), _, hr =>
    obtain ⟨z, e, -⟩ := hr_rvI hr
    exact ⟨z, e⟩
theorem lc_same {kc : ck_K} {cs : ck_Case} {vs : List Value} {pvv' : Nat → Int32} {r : Option Value} {H1 : Heap} (hk : ck_sameK kc = true) (hcs : cs ∈ k_cs kc) (hco : ck_caseOK ty cs vs pvv pvv' r) (hW : ck_Wo D cys ty ck_tags ck_pvs0 Ex pvv' H1) : ck_Wo D cys ty ck_tags ck_pvs0 Ex pvv H1 ∧ ∃ z : Int32, r = some (.int z) := by
  have h := List.all_eq_true.mp hk cs hcs
  rw [Bool.and_eq_true] at h
  exact ⟨hr_pvE (hr_sameA (pvT := ck_pvs0) hco.2.2 rfl h.2) hW, lc_int h.1 hco.1⟩
end LC

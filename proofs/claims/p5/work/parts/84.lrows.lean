/-! THE LAW, 7: rows of its body. -/
def lw_A (s : State) : Nat → Prop := fun a => s.heap.size ≤ a
/-- what doesn't change while the law runs -/
def lw_C (p : Program) (l : Launch) (s : State) (m : MethodId) (c : Code) (b L : Nat) (xs : Nat → Int32) (D : va_G) (cys : Nat → ClassId) (ty : Nat → Option Nat) (ax am qo : Nat) : Prop := lc_F p s m #[Value.ref b] c code D cys lw_tbl RL 7 ∧ va_X b L xs s s.heap ∧ b < s.heap.size ∧ L ≤ 3072 ∧ (ck_uq ty ck_pvs0 ∧ ck_un ty) ∧ ty ax = some 11 ∧ ty am = some 12 ∧ ¬ ck_own ty qo ∧ (∀ q, ck_own ty q → lw_A s q) ∧ lw_A s qo ∧ l.stackTraces = false ∧ mn_T s ∧ mn_S (lw_A s) s s.heap
/-- the world between two calls -/
def lw_I (s : State) (D : va_G) (cys : Nat → ClassId) (ty : Nat → Option Nat) (qo : Nat) (pvv : Nat → Int32) (H : Heap) (locs : List Loc) : Prop := ck_pvo ty (ck_XE pvv) pPM pvv ∧ ck_Wo D cys ty ck_tags ck_pvs0 (GE ty) pvv H ∧ lo_P D cys qo H ∧ va_S (lw_A s) s.heap H locs
def lw_lv (b ax am qo n : Nat) : List (Nat × Value) := [(0, .ref b), (1, .ref ax), (2, .ref am), (3, .ref qo), (4, .int (nI n))]
def ck_int1 (cs : ck_Case) : Bool := match cs.1 with
  | some (.inl _) => true
  | _ => false
def ck_lawS (kc : ck_K) : Bool := ck_wkB pPM (k_pr kc) && (k_cs kc).all (fun cs => ck_int1 cs && ck_std pPM cs.2.2)
def ck_z1 (post : List ck_AV) (j : Nat) : Bool := match post[j]? with
  | some (.inl r) => decide (r.1 = 0) && decide (r.2.1 = 0)
  | _ => false
/-- what the law ties: the two tapes, the flags of the two images -/
def lw_js : List Nat := [0, 11, 26, 27, 28, 29, 30, 31]
/-- without the faults -/
def lw_jz : List Nat := [0, 11, 26, 27, 28, 29]
def lw_E (pvv : Nat → Int32) : Prop := pvv 0 = pvv 11 ∧ pvv 26 = pvv 28 ∧ pvv 27 = pvv 29 ∧ pvv 30 = pvv 31
theorem lw_E_same {f g : Nat → Int32} (h : ∀ j ∈ lw_js, g j = f j) (he : lw_E f) : lw_E g := by
  unfold lw_E
  rw [h 0 (by decide), h 11 (by decide), h 26 (by decide), h 27 (by decide), h 28 (by decide), h 29 (by decide), h 30 (by decide), h 31 (by decide)]
  exact he
def ck_lawK (kc : ck_K) : Bool := ck_lawS kc && (k_cs kc).all (fun cs => lw_js.all (ck_same1 cs.2.2))
def ck_lawZ (kc : ck_K) (j : Nat) : Bool := ck_lawS kc && (k_cs kc).all (fun cs => ck_z1 cs.2.2 j && lw_jz.all (fun i => decide (i = j) || ck_same1 cs.2.2 i))
theorem ck_z1_ok {ty : Nat → Option Nat} {X : Nat → Int} {post : List ck_AV} {g : Nat → Int32} {j : Nat} (hp : ck_pvo ty X post g) (h : ck_z1 post j = true) : g j = 0 := by
  unfold ck_z1 at h
  split at h
  · next r hr =>
    simp only [Bool.and_eq_true, decide_eq_true_eq] at h
    obtain ⟨x, e, h1, h2, -⟩ := hp j _ hr
    cases e
    refine Int32.toInt_inj.mp ?_
    rw [show (0 : Int32).toInt = 0 from rfl]
    omega
  · cases h
section LW
variable {p : Program} {l : Launch} {e : Env} {s : State} {m : MethodId} {below : List Frame} {meth : Method} {c : Code} {H : Heap} {locs : List Loc} {cells slots : Nat} {Q : State → Prop} {pc : Nat} {ls : Array Slot} {rest : List Value}
variable {b L : Nat} {xs : Nat → Int32} {D : va_G} {cys : Nat → ClassId} {ty : Nat → Option Nat} {ax am qo : Nat} {pvv : Nat → Int32}
theorem lw_fc (hx : p.tables.exec = Jvm.exec) : p.tables.exec = Jvm.exec := hx
def dc_arg (pc : Nat) (k : Int) : Prop := decode code pc = .ok (.aload_n 0, 1) ∧ decode code (pc + 1) = .ok (.iload 4, 2) ∧ decode code (pc + 3) = .ok (.iconst k, 1) ∧ decode code (pc + 4) = .ok (.iadd, 1) ∧ decode code (pc + 5) = .ok (.iaload, 1)
theorem lw_arg {n : Nat} {lv : List (Nat × Value)} (C : lw_C p l s m c b L xs D cys ty ax am qo) (hl : lv_has ls 7 lv) (h0 : lv[0]? = some (0, .ref b)) (h4 : lv[4]? = some (4, .int (nI n))) (hS : va_S (lw_A s) s.heap H locs) (hn : n + 6 ≤ L) (k : Nat) (k' : Int) (hk : k < 6) (hkk : k' = (k : Int)) (hd : dc_arg pc k')
    (kk : W p l e room_1 s m #[Value.ref b] below meth c H locs cells slots Q (F0 m (pc + 6) ls (.int (xs (n + k)) :: rest))) : W p l e room_1 s m #[Value.ref b] below meth c H locs cells slots Q (F0 m pc ls rest) := by
  obtain ⟨⟨hx, hb, hml, hts, hin, hown, hK, hN⟩, hX, hbl, hL, -⟩ := C
  obtain ⟨d0, d1, d3, d4, d5⟩ := hd
  have hbA : ¬ lw_A s b := Nat.not_le.mpr hbl
  refine lv_aload_n hx hb d0 rfl (lv_at hl 0 h0) ?_
  refine lv_iload hx hb d1 (lv_at hl 4 h4) ?_
  refine lv_iconst (v := nI k) hx hb d3 (by subst hkk; rcases (show k = 0 ∨ k = 1 ∨ k = 2 ∨ k = 3 ∨ k = 4 ∨ k = 5 by omega) with rfl | rfl | rfl | rfl | rfl | rfl <;> decide) ?_
  refine lv_iadd hx hb d4 ?_
  rw [nI_add]
  refine va_sld hx hb hX hbl hbA hS (vp_in_nI (by omega) (by omega)) d5 ?_
  rw [nI_clamp (by omega)]
  exact kk
theorem lw_any {kc : ck_K} {ix b' t : Nat} {As st0 : List Value} {lv : List (Nat × Value)} (C : lw_C p l s m c b L xs D cys ty ax am qo) (hl : lv_has ls 7 lv) (hm : lc_mV RL ix kc t) (hk : ck_lawS kc = true) (hHo : ck_Holds l D cys ty ck_tags ck_pvs0 (GE ty) kc) (ha : ck_args ty (k_pa kc) (.ref b' :: As)) (hI : lw_I s D cys ty qo pvv H locs) (hvs : st0 = As.reverse ++ .ref b' :: rest) (hR : k_fr kc + 1 ≤ 2048 ∧ 8 + (k_ml kc + 11) + k_lo kc ≤ 84000) (hcs : cells ≤ 601024 ∧ slots ≤ 7293034) (hr8 : (rest.map fun v => v.category).sum ≤ 8) (hdg : decode code pc = .ok (.invokevirtual ix, 3))
    (kk : ∀ cs ∈ k_cs kc, ∀ (z : Int32) (pvv' : Nat → Int32) (H1 : Heap) (locs1 : List Loc), ck_caseOK ty cs (.ref b' :: As) pvv pvv' (some (.int z)) → lw_I s D cys ty qo pvv' H1 locs1 → W p l e room_1 s m #[Value.ref b] below meth c H1 locs1 cells slots Q (F0 m (pc + 3) ls (.int z :: rest))) : W p l e room_1 s m #[Value.ref b] below meth c H locs cells slots Q (F0 m pc ls st0) := by
  obtain ⟨F, hX, hbl, hL, hun, tx, tm, hqo, hA, -⟩ := C
  obtain ⟨i1, i2, i3, i4⟩ := hI
  simp only [ck_lawS, Bool.and_eq_true] at hk
  refine lc_callV F hl hm hHo ha (hr_wk i1 hk.1) i2 i4 hA hvs hR hcs hr8 hdg (fun cs hcs r pvv' H1 locs1 hco hW hS hkp => ?_)
  have h1 := List.all_eq_true.mp hk.2 cs hcs
  rw [Bool.and_eq_true] at h1
  obtain ⟨z, rfl⟩ := lc_int (ty := ty) (av := cs.1) h1.1 hco.1
  exact kk cs hcs z pvv' H1 locs1 hco ⟨hr_std i1 hco.2.2 h1.2, hW, lo_kept i3 (hkp.2 qo (lo_lt i3) hqo), hS⟩
theorem lw_keep {kc : ck_K} {ix b' t : Nat} {As st0 : List Value} {lv : List (Nat × Value)} (C : lw_C p l s m c b L xs D cys ty ax am qo) (hl : lv_has ls 7 lv) (hm : lc_mV RL ix kc t) (hk : ck_lawK kc = true) (hHo : ck_Holds l D cys ty ck_tags ck_pvs0 (GE ty) kc) (ha : ck_args ty (k_pa kc) (.ref b' :: As)) (hI : lw_I s D cys ty qo pvv H locs) (hvs : st0 = As.reverse ++ .ref b' :: rest) (hR : k_fr kc + 1 ≤ 2048 ∧ 8 + (k_ml kc + 11) + k_lo kc ≤ 84000) (hcs : cells ≤ 601024 ∧ slots ≤ 7293034) (hr8 : (rest.map fun v => v.category).sum ≤ 8) (hdg : decode code pc = .ok (.invokevirtual ix, 3))
    (kk : ∀ (z : Int32) (pvv' : Nat → Int32) (H1 : Heap) (locs1 : List Loc), (∀ j ∈ lw_js, pvv' j = pvv j) → lw_I s D cys ty qo pvv' H1 locs1 → W p l e room_1 s m #[Value.ref b] below meth c H1 locs1 cells slots Q (F0 m (pc + 3) ls (.int z :: rest))) : W p l e room_1 s m #[Value.ref b] below meth c H locs cells slots Q (F0 m pc ls st0) := by
  unfold ck_lawK at hk
  rw [Bool.and_eq_true] at hk
  refine lw_any C hl hm hk.1 hHo ha hI hvs hR hcs hr8 hdg (fun cs hcs z pvv' H1 locs1 hco hI' => ?_)
  have h1 := List.all_eq_true.mp hk.2 cs hcs
  exact kk z pvv' H1 locs1 (fun j hj => hr_same1 hco.2.2 (List.all_eq_true.mp h1 j hj)) hI'
theorem lw_zero {kc : ck_K} {ix b' t j : Nat} {As st0 : List Value} {lv : List (Nat × Value)} (C : lw_C p l s m c b L xs D cys ty ax am qo) (hl : lv_has ls 7 lv) (hm : lc_mV RL ix kc t) (hk : ck_lawZ kc j = true) (hHo : ck_Holds l D cys ty ck_tags ck_pvs0 (GE ty) kc) (ha : ck_args ty (k_pa kc) (.ref b' :: As)) (hI : lw_I s D cys ty qo pvv H locs) (hvs : st0 = As.reverse ++ .ref b' :: rest) (hR : k_fr kc + 1 ≤ 2048 ∧ 8 + (k_ml kc + 11) + k_lo kc ≤ 84000) (hcs : cells ≤ 601024 ∧ slots ≤ 7293034) (hr8 : (rest.map fun v => v.category).sum ≤ 8) (hdg : decode code pc = .ok (.invokevirtual ix, 3))
    (kk : ∀ (z : Int32) (pvv' : Nat → Int32) (H1 : Heap) (locs1 : List Loc), pvv' j = 0 → (∀ i ∈ lw_jz, i ≠ j → pvv' i = pvv i) → lw_I s D cys ty qo pvv' H1 locs1 → W p l e room_1 s m #[Value.ref b] below meth c H1 locs1 cells slots Q (F0 m (pc + 3) ls (.int z :: rest))) : W p l e room_1 s m #[Value.ref b] below meth c H locs cells slots Q (F0 m pc ls st0) := by
  unfold ck_lawZ at hk
  rw [Bool.and_eq_true] at hk
  refine lw_any C hl hm hk.1 hHo ha hI hvs hR hcs hr8 hdg (fun cs hcs z pvv' H1 locs1 hco hI' => ?_)
  have h1 := List.all_eq_true.mp hk.2 cs hcs
  rw [Bool.and_eq_true] at h1
  exact kk z pvv' H1 locs1 (ck_z1_ok hco.2.2 h1.1) (fun i hi hne => by
    have h2 := List.all_eq_true.mp h1.2 i hi
    simp only [Bool.or_eq_true, decide_eq_true_eq] at h2
    exact hr_same1 hco.2.2 (h2.resolve_left hne)) hI'
/-! whole cases: both sides keep what is followed of the tapes -/
def dc_call (pc n : Nat) (x : Fin 4) (ix : Nat) : Prop := decode code pc = .ok (.aload_n x, 1) ∧ decode code (pc + 1 + 6 * n) = .ok (.invokevirtual ix, 3) ∧ decode code (pc + 4 + 6 * n) = .ok (.pop, 1)
def lw_K (l : Launch) (D : va_G) (cys : Nat → ClassId) (ty : Nat → Option Nat) (kc : ck_K) (ix t : Nat) (pa : List ck_AV) : Prop := lc_mV RL ix kc t ∧ ck_Holds l D cys ty ck_tags ck_pvs0 (GE ty) kc ∧ k_pa kc = .inr (.inl t) :: pa ∧ (k_fr kc + 1 ≤ 2048 ∧ 8 + (k_ml kc + 11) + k_lo kc ≤ 84000)
/-- where each case goes on -/
def lw_G (p : Program) (l : Launch) (e : Env) (s : State) (m : MethodId) (below : List Frame) (meth : Method) (c : Code) (b : Nat) (D : va_G) (cys : Nat → ClassId) (ty : Nat → Option Nat) (ax am qo n cells slots : Nat) (Q : State → Prop) : Prop := ∀ (pvv : Nat → Int32) (H : Heap) (locs : List Loc) (ls : Array Slot), lw_I s D cys ty qo pvv H locs → lw_E pvv → lv_has ls 7 (lw_lv b ax am qo n) → W p l e room_1 s m #[Value.ref b] below meth c H locs cells slots Q (F0 m 1212 ls [])
theorem lw_kk0 {n ixA ixB : Nat} {kA kB : ck_K} {off : Int} (C : lw_C p l s m c b L xs D cys ty ax am qo) (KA : lw_K l D cys ty kA ixA 11 []) (KB : lw_K l D cys ty kB ixB 12 []) (hA : ck_lawK kA = true) (hB : ck_lawK kB = true) (dA : dc_call pc 0 1 ixA) (dB : dc_call (pc + 5) 0 2 ixB) (dg : decode code (pc + 10) = .ok (.goto off, 3)) (ho : ((pc + 10 : Nat) : Int) + off = ((1212 : Nat) : Int)) (hcs : cells ≤ 601024 ∧ slots ≤ 7293034) (hl : lv_has ls 7 (lw_lv b ax am qo n)) (hI : lw_I s D cys ty qo pvv H locs) (he : lw_E pvv)
    (G : lw_G p l e s m below meth c b D cys ty ax am qo n cells slots Q) : W p l e room_1 s m #[Value.ref b] below meth c H locs cells slots Q (F0 m pc ls []) := by
  have C' := C
  obtain ⟨⟨hx, hb, -⟩, -, -, -, -, tx, tm, -⟩ := C
  obtain ⟨mA, jA, pA, rA⟩ := KA
  obtain ⟨mB, jB, pB, rB⟩ := KB
  refine lv_aload_n hx hb dA.1 rfl (lv_at hl 1 rfl) ?_
  refine lw_keep (b' := ax) (As := []) C' hl mA hA jA (by rw [pA]; exact ⟨⟨ax, rfl, tx⟩, trivial⟩) hI rfl rA hcs (Nat.zero_le _) dA.2.1 (fun z g H locs e1 hI => ?_)
  refine lv_pop hx hb dA.2.2 rfl ?_
  refine lv_aload_n hx hb dB.1 rfl (lv_at hl 2 rfl) ?_
  refine lw_keep (b' := am) (As := []) C' hl mB hB jB (by rw [pB]; exact ⟨⟨am, rfl, tm⟩, trivial⟩) hI rfl rB hcs (Nat.zero_le _) dB.2.1 (fun z g2 H locs f1 hI => ?_)
  refine lv_pop hx hb dB.2.2 rfl ?_
  refine lv_goto (tgt := 1212) hx hb dg ho ?_
  exact G g2 H locs ls hI (lw_E_same (fun j hj => (f1 j hj).trans (e1 j hj)) he) hl
theorem lw_kk1 {n ixA ixB : Nat} {kA kB : ck_K} {off : Int} (C : lw_C p l s m c b L xs D cys ty ax am qo) (hn : n + 6 ≤ L) (KA : lw_K l D cys ty kA ixA 11 [cF]) (KB : lw_K l D cys ty kB ixB 12 [cF]) (hA : ck_lawK kA = true) (hB : ck_lawK kB = true) (dA : dc_call pc 1 1 ixA) (aA : dc_arg (pc + 1) 1) (dB : dc_call (pc + 11) 1 2 ixB) (aB : dc_arg (pc + 12) 1) (dg : decode code (pc + 22) = .ok (.goto off, 3)) (ho : ((pc + 22 : Nat) : Int) + off = ((1212 : Nat) : Int)) (hcs : cells ≤ 601024 ∧ slots ≤ 7293034) (hl : lv_has ls 7 (lw_lv b ax am qo n)) (hI : lw_I s D cys ty qo pvv H locs) (he : lw_E pvv)
    (G : lw_G p l e s m below meth c b D cys ty ax am qo n cells slots Q) : W p l e room_1 s m #[Value.ref b] below meth c H locs cells slots Q (F0 m pc ls []) := by
  have C' := C
  obtain ⟨⟨hx, hb, -⟩, -, -, -, -, tx, tm, -⟩ := C
  obtain ⟨mA, jA, pA, rA⟩ := KA
  obtain ⟨mB, jB, pB, rB⟩ := KB
  refine lv_aload_n hx hb dA.1 rfl (lv_at hl 1 rfl) ?_
  refine lw_arg C' hl rfl rfl hI.2.2.2 hn 1 1 (by decide) rfl aA ?_
  refine lw_keep (b' := ax) (As := [.int (xs (n + 1))]) C' hl mA hA jA (by rw [pA]; exact ⟨⟨ax, rfl, tx⟩, hr_aF, trivial⟩) hI rfl rA hcs (Nat.zero_le _) dA.2.1 (fun z g H locs e1 hI => ?_)
  refine lv_pop hx hb dA.2.2 rfl ?_
  refine lv_aload_n hx hb dB.1 rfl (lv_at hl 2 rfl) ?_
  refine lw_arg C' hl rfl rfl hI.2.2.2 hn 1 1 (by decide) rfl aB ?_
  refine lw_keep (b' := am) (As := [.int (xs (n + 1))]) C' hl mB hB jB (by rw [pB]; exact ⟨⟨am, rfl, tm⟩, hr_aF, trivial⟩) hI rfl rB hcs (Nat.zero_le _) dB.2.1 (fun z g2 H locs f1 hI => ?_)
  refine lv_pop hx hb dB.2.2 rfl ?_
  refine lv_goto (tgt := 1212) hx hb dg ho ?_
  exact G g2 H locs ls hI (lw_E_same (fun j hj => (f1 j hj).trans (e1 j hj)) he) hl
theorem lw_kk2 {n ixA ixB : Nat} {kA kB : ck_K} {off : Int} (C : lw_C p l s m c b L xs D cys ty ax am qo) (hn : n + 6 ≤ L) (KA : lw_K l D cys ty kA ixA 11 [cF, cF]) (KB : lw_K l D cys ty kB ixB 12 [cF, cF]) (hA : ck_lawK kA = true) (hB : ck_lawK kB = true) (dA : dc_call pc 2 1 ixA) (aA : dc_arg (pc + 1) 1) (cA : dc_arg (pc + 7) 2) (dB : dc_call (pc + 17) 2 2 ixB) (aB : dc_arg (pc + 18) 1) (cB : dc_arg (pc + 24) 2) (dg : decode code (pc + 34) = .ok (.goto off, 3)) (ho : ((pc + 34 : Nat) : Int) + off = ((1212 : Nat) : Int)) (hcs : cells ≤ 601024 ∧ slots ≤ 7293034) (hl : lv_has ls 7 (lw_lv b ax am qo n)) (hI : lw_I s D cys ty qo pvv H locs) (he : lw_E pvv)
    (G : lw_G p l e s m below meth c b D cys ty ax am qo n cells slots Q) : W p l e room_1 s m #[Value.ref b] below meth c H locs cells slots Q (F0 m pc ls []) := by
  have C' := C
  obtain ⟨⟨hx, hb, -⟩, -, -, -, -, tx, tm, -⟩ := C
  obtain ⟨mA, jA, pA, rA⟩ := KA
  obtain ⟨mB, jB, pB, rB⟩ := KB
  refine lv_aload_n hx hb dA.1 rfl (lv_at hl 1 rfl) ?_
  refine lw_arg C' hl rfl rfl hI.2.2.2 hn 1 1 (by decide) rfl aA ?_
  refine lw_arg C' hl rfl rfl hI.2.2.2 hn 2 2 (by decide) rfl cA ?_
  refine lw_keep (b' := ax) (As := [.int (xs (n + 1)), .int (xs (n + 2))]) C' hl mA hA jA (by rw [pA]; exact ⟨⟨ax, rfl, tx⟩, hr_aF, hr_aF, trivial⟩) hI rfl rA hcs (Nat.zero_le _) dA.2.1 (fun z g H locs e1 hI => ?_)
  refine lv_pop hx hb dA.2.2 rfl ?_
  refine lv_aload_n hx hb dB.1 rfl (lv_at hl 2 rfl) ?_
  refine lw_arg C' hl rfl rfl hI.2.2.2 hn 1 1 (by decide) rfl aB ?_
  refine lw_arg C' hl rfl rfl hI.2.2.2 hn 2 2 (by decide) rfl cB ?_
  refine lw_keep (b' := am) (As := [.int (xs (n + 1)), .int (xs (n + 2))]) C' hl mB hB jB (by rw [pB]; exact ⟨⟨am, rfl, tm⟩, hr_aF, hr_aF, trivial⟩) hI rfl rB hcs (Nat.zero_le _) dB.2.1 (fun z g2 H locs f1 hI => ?_)
  refine lv_pop hx hb dB.2.2 rfl ?_
  refine lv_goto (tgt := 1212) hx hb dg ho ?_
  exact G g2 H locs ls hI (lw_E_same (fun j hj => (f1 j hj).trans (e1 j hj)) he) hl
end LW

def kw_8 : ck_K := (yX8_withLetter, cX8_withLetter, 3, (some .long), 8, [.inr (.inr ()), cF], pP, [(some (.inr (.inr ())), [], pU)], 1, 12, [])
theorem ok_wl : ck_check ck_tags ck_pvs0 ck_prot0 ck_LK ck_tab 0 kw_8 3000 = true := by decide +kernel
theorem wl_m {l : Launch} {D : va_G} {cys : Nat → ClassId} : ck_Holds l D cys (fun _ => none) ck_tags ck_pvs0 (fun _ => True) kw_8 := ck_sound (k := kw_8) (bd := 0) (prot := ck_prot0) ⟨lk_c, lk_f, lk_m, fun _ _ _ _ _ _ _ _ _ _ _ => trivial, (fun j t k hj a a' h h' => by cases h), pv_inj, fun j hj => absurd hj (Nat.not_lt_zero j)⟩ (by decide +kernel) (by decide +kernel) ok_wl
/-! JDK: indices -/
theorem dJ3_ci_0 : decode cJ3_checkIndex_8e157 0 = .ok (.iload_n 0, 1) := by decide +kernel
theorem dJ3_ci_1 : decode cJ3_checkIndex_8e157 1 = .ok (.ifCond .lt 8, 3) := by decide +kernel
theorem dJ3_ci_4 : decode cJ3_checkIndex_8e157 4 = .ok (.iload_n 0, 1) := by decide +kernel
theorem dJ3_ci_5 : decode cJ3_checkIndex_8e157 5 = .ok (.iload_n 1, 1) := by decide +kernel
theorem dJ3_ci_6 : decode cJ3_checkIndex_8e157 6 = .ok (.if_icmp .lt 10, 3) := by decide +kernel
theorem dJ3_ci_16 : decode cJ3_checkIndex_8e157 16 = .ok (.iload_n 0, 1) := by decide +kernel
theorem dJ3_ci_17 : decode cJ3_checkIndex_8e157 17 = .ok (.ireturn, 1) := by decide +kernel
/-- what a method of the JDK that makes and changes nothing does: its answer -/
def jQ (r : Option Value) : Array Value → State → Outcome → State → Prop := fun _ st oc t => oc = .returned r ∧ t.heap = st.heap
theorem j3_check {l : Launch} {i n : Int32} {fo : Value} (h0 : ¬ i < 0) (h1 : i < n) (hc : fo.category = 1) : Met l yJ3_checkIndex_8e157 (Jvm.Cond.code yJ3_checkIndex_8e157 cJ3_checkIndex_8e157 3 (some .int) :: wsL_law0) ({ frames := 0, cells := 0, slots := 0, locals := 0 }) (va_Pc [.int i, .int n, fo] (fun _ => True)) (jQ (some (.int i))) 0 0 (fun _ => False) := by
  refine mt_ofWF (cc := cJ3_checkIndex_8e157) (maxL := 3) (ret := some .int) (by decide +kernel) rfl ?_
  intro p e s m args below meth c s₁ B hml hv
  obtain ⟨rfl, -⟩ := hv
  have hx := B.exec
  have hb := B.bytes
  have hr := B.returns
  have hlk := B.notSynchronized
  have hlen : (lg_sl [Value.int i, .int n, fo]).length ≤ 3 := by
    cases fo <;> first | exact Nat.le_refl 3 | cases hc
  have hl := lv_entry [.int i, .int n, fo] (n := 3) hlen
  rw [lg_entry_eq]
  generalize (lg_sl [Value.int i, .int n, fo] ++ List.replicate (3 - (lg_sl [Value.int i, .int n, fo]).length) Slot.unset).toArray = ls at hl ⊢
  have hl : lv_has ls 3 [(0, .int i), (1, .int n), (2, fo)] := hl
  refine lv_iload_n hx hb dJ3_ci_0 rfl (lv_at hl 0 rfl) ?_
  refine lv_if_lt (tgt := 9) hx hb dJ3_ci_1 (by decide) (fun h => absurd h h0) (fun _ => ?_)
  refine lv_iload_n hx hb dJ3_ci_4 rfl (lv_at hl 0 rfl) ?_
  refine lv_iload_n hx hb dJ3_ci_5 rfl (lv_at hl 1 rfl) ?_
  refine lv_icmp_lt (tgt := 16) hx hb dJ3_ci_6 (by decide) (fun _ => ?_) (fun h => absurd h1 h)
  refine lv_iload_n hx hb dJ3_ci_16 rfl (lv_at hl 0 rfl) ?_
  exact W.iret hx hb hr (fun t ht _ => ⟨rfl, ht⟩) (fun q hq => by cases hq) dJ3_ci_17 hlk
def jW (q v n : Nat) (byt : Nat → Int32) (fo : Value) (U : State) : Prop := va_Z "java/lang/String" "COMPACT_STRINGS" "Z" (.int 1) (fun _ => False) U U.heap ∧ va_Z "jdk/internal/util/Preconditions" "SIOOBE_FORMATTER" "Ljava/util/function/BiFunction;" fo (fun _ => False) U U.heap ∧ va_O "java/lang/String" q (fun _ => False) U U.heap ∧ va_OF "java/lang/String" "coder" "B" (.int 0) q (fun _ => False) U U.heap ∧ va_OF "java/lang/String" "value" "[B" (.ref v) q (fun _ => False) U U.heap ∧ va_T .byte v n (fun j => .int (byt j)) (fun _ => False) U U.heap ∧ fo.category = 1
theorem dJ0_coder_7d493_0 : decode cJ0_coder_7d493 0 = .ok (.getstatic 38, 3) := by decide +kernel
theorem dJ0_coder_7d493_3 : decode cJ0_coder_7d493 3 = .ok (.ifCond .eq 10, 3) := by decide +kernel
theorem dJ0_coder_7d493_6 : decode cJ0_coder_7d493 6 = .ok (.aload_n 0, 1) := by decide +kernel
theorem dJ0_coder_7d493_7 : decode cJ0_coder_7d493 7 = .ok (.getfield 15, 3) := by decide +kernel
theorem dJ0_coder_7d493_10 : decode cJ0_coder_7d493 10 = .ok (.goto 4, 3) := by decide +kernel
theorem dJ0_coder_7d493_13 : decode cJ0_coder_7d493 13 = .ok (.iconst 1, 1) := by decide +kernel
theorem dJ0_coder_7d493_14 : decode cJ0_coder_7d493 14 = .ok (.ireturn, 1) := by decide +kernel
theorem j0_coder {l : Launch} {q v n : Nat} {fo : Value} {byt : Nat → Int32} : Met l yJ0_coder_7d493 (Jvm.Cond.code yJ0_coder_7d493 cJ0_coder_7d493 1 (some .byte) :: wsL_law0) ({ frames := 0, cells := 0, slots := 0, locals := 0 }) (va_Pc [.ref q] (jW q v n byt fo)) (jQ (some (.int 0))) 0 0 (fun _ => False) := by
  refine mt_ofWF (cc := cJ0_coder_7d493) (maxL := 1) (ret := some .byte) (by decide +kernel) rfl ?_
  intro p e s m args below meth c s₁ B hml hv
  obtain ⟨rfl, hZ, hZ2, hO, hCo, hVa, hTb, hFo⟩ := hv
  have hx := B.exec
  have hb := B.bytes
  have hr := B.returns
  have hlk := B.notSynchronized
  have hts := atoms_spec (ws := Jvm.Cond.code yJ0_coder_7d493 cJ0_coder_7d493 1 (some .byte) :: wsL_law0) B.pre
  have hown : s.vm.findClass RJ0 = some m.cls := findClass_of_methodNamed B.named
  have hS : va_S (fun _ => False) s.heap s.heap [] := va_S.rf
  have hl := lv_entry [.ref q] (n := 1) (Nat.le_of_ble_eq_true rfl)
  rw [lg_entry_eq]
  generalize (lg_sl [.ref q] ++ List.replicate (1 - (lg_sl [.ref q]).length) Slot.unset).toArray = ls at hl ⊢
  have hl : lv_has ls 1 [(0, .ref q)] := hl
  refine va_gets (ref := "java/lang/String") hx hb hZ hS hown (hts _ (List.mem_cons_of_mem _ (in_r4 _ (List.mem_of_getElem? (i := 23) rfl)))) (fun _ h => h) dJ0_coder_7d493_0 ?_
  refine lv_if_eq (tgt := 13) hx hb dJ0_coder_7d493_3 (by decide) (fun h => absurd h (by decide)) (fun _ => ?_)
  refine lv_aload_n hx hb dJ0_coder_7d493_6 rfl (lv_at hl 0 rfl) ?_
  refine vk_getf (ref := "java/lang/String") hx hb hCo hS hown (hts _ (List.mem_cons_of_mem _ (in_r5 _ (List.mem_of_getElem? (i := 0) rfl)))) (fun _ h => h) dJ0_coder_7d493_7 ?_
  refine lv_goto (tgt := 14) hx hb dJ0_coder_7d493_10 (by decide) ?_
  exact W.zret hx hb hr rfl (fun t ht _ => ⟨rfl, ht⟩) (fun q hq => by cases hq) dJ0_coder_7d493_14 hlk
theorem dJ0_isLatin1_aae02_0 : decode cJ0_isLatin1_aae02 0 = .ok (.getstatic 38, 3) := by decide +kernel
theorem dJ0_isLatin1_aae02_3 : decode cJ0_isLatin1_aae02 3 = .ok (.ifCond .eq 14, 3) := by decide +kernel
theorem dJ0_isLatin1_aae02_6 : decode cJ0_isLatin1_aae02 6 = .ok (.aload_n 0, 1) := by decide +kernel
theorem dJ0_isLatin1_aae02_7 : decode cJ0_isLatin1_aae02 7 = .ok (.getfield 15, 3) := by decide +kernel
theorem dJ0_isLatin1_aae02_10 : decode cJ0_isLatin1_aae02 10 = .ok (.ifCond .ne 7, 3) := by decide +kernel
theorem dJ0_isLatin1_aae02_13 : decode cJ0_isLatin1_aae02 13 = .ok (.iconst 1, 1) := by decide +kernel
theorem dJ0_isLatin1_aae02_14 : decode cJ0_isLatin1_aae02 14 = .ok (.goto 4, 3) := by decide +kernel
theorem dJ0_isLatin1_aae02_17 : decode cJ0_isLatin1_aae02 17 = .ok (.iconst 0, 1) := by decide +kernel
theorem dJ0_isLatin1_aae02_18 : decode cJ0_isLatin1_aae02 18 = .ok (.ireturn, 1) := by decide +kernel
theorem j0_isLatin1 {l : Launch} {q v n : Nat} {fo : Value} {byt : Nat → Int32} : Met l yJ0_isLatin1_aae02 (Jvm.Cond.code yJ0_isLatin1_aae02 cJ0_isLatin1_aae02 1 (some .boolean) :: wsL_law0) ({ frames := 0, cells := 0, slots := 0, locals := 0 }) (va_Pc [.ref q] (jW q v n byt fo)) (jQ (some (.int 1))) 0 0 (fun _ => False) := by
  refine mt_ofWF (cc := cJ0_isLatin1_aae02) (maxL := 1) (ret := some .boolean) (by decide +kernel) rfl ?_
  intro p e s m args below meth c s₁ B hml hv
  obtain ⟨rfl, hZ, hZ2, hO, hCo, hVa, hTb, hFo⟩ := hv
  have hx := B.exec
  have hb := B.bytes
  have hr := B.returns
  have hlk := B.notSynchronized
  have hts := atoms_spec (ws := Jvm.Cond.code yJ0_isLatin1_aae02 cJ0_isLatin1_aae02 1 (some .boolean) :: wsL_law0) B.pre
  have hown : s.vm.findClass RJ0 = some m.cls := findClass_of_methodNamed B.named
  have hS : va_S (fun _ => False) s.heap s.heap [] := va_S.rf
  have hl := lv_entry [.ref q] (n := 1) (Nat.le_of_ble_eq_true rfl)
  rw [lg_entry_eq]
  generalize (lg_sl [.ref q] ++ List.replicate (1 - (lg_sl [.ref q]).length) Slot.unset).toArray = ls at hl ⊢
  have hl : lv_has ls 1 [(0, .ref q)] := hl
  refine va_gets (ref := "java/lang/String") hx hb hZ hS hown (hts _ (List.mem_cons_of_mem _ (in_r4 _ (List.mem_of_getElem? (i := 23) rfl)))) (fun _ h => h) dJ0_isLatin1_aae02_0 ?_
  refine lv_if_eq (tgt := 17) hx hb dJ0_isLatin1_aae02_3 (by decide) (fun h => absurd h (by decide)) (fun _ => ?_)
  refine lv_aload_n hx hb dJ0_isLatin1_aae02_6 rfl (lv_at hl 0 rfl) ?_
  refine vk_getf (ref := "java/lang/String") hx hb hCo hS hown (hts _ (List.mem_cons_of_mem _ (in_r5 _ (List.mem_of_getElem? (i := 0) rfl)))) (fun _ h => h) dJ0_isLatin1_aae02_7 ?_
  refine lv_if_ne (tgt := 17) hx hb dJ0_isLatin1_aae02_10 (by decide) (fun h => absurd rfl h) (fun _ => ?_)
  refine lv_iconst (v := 1) hx hb dJ0_isLatin1_aae02_13 (by decide) ?_
  refine lv_goto (tgt := 18) hx hb dJ0_isLatin1_aae02_14 (by decide) ?_
  exact W.zret hx hb hr rfl (fun t ht _ => ⟨rfl, ht⟩) (fun q hq => by cases hq) dJ0_isLatin1_aae02_18 hlk
theorem jW_warm {q v n : Nat} {fo : Value} {byt : Nat → Int32} {s U : State} {H : Heap} (hW : s.vm.Alike U.vm) (hh : U.heap = s.heap) (h : jW q v n byt fo s) : jW q v n byt fo U := by
  obtain ⟨h1, h2, h3, h4, h5, h6, h7⟩ := h
  unfold jW
  rw [hh]
  exact ⟨va_Z.moved hW h1, va_Z.moved hW h2, va_O.moved hW h3, va_OF.moved hW h4, va_OF.moved hW h5, va_T.moved hW h6, h7⟩
section JC
variable {p : Program} {l : Launch} {e : Env} {R : Room} {s : State} {m : MethodId} {args : Array Value} {below : List Frame} {meth : Method} {c : Code} {H H0 : Heap} {locs : List Loc} {cells slots : Nat} {Q : State → Prop} {cc : ByteArray} {pc : Nat} {ls : Array Slot} {rest : List Value} {Ts : List Jvm.Cond} {own : String}
theorem j_good {y : MethodName} {bytes : ByteArray} {ml : Nat} {ret : Option FieldType} (hin : ∀ w ∈ wsL_law0, w ∈ Ts) (hcd : Jvm.Cond.code y bytes ml ret ∈ wsL_law0) : GoodIn Ts (Jvm.Cond.code y bytes ml ret :: wsL_law0) := fun w hw => by
  rcases List.mem_cons.mp hw with hw | hw
  · subst hw; exact ⟨hin _ hcd, ck_good _ hcd⟩
  · exact ⟨hin _ hw, ck_good _ hw⟩
theorem jr_callS {Pc : Array Value → State → Prop} {r : Option Value} {y : MethodName} {bytes : ByteArray} {ml fr lo n ix nL : Nat} {ret : Option FieldType} {As st0 : List Value} {lv : List (Nat × Value)} (hM : Met l y (Jvm.Cond.code y bytes ml ret :: wsL_law0) ({ frames := fr, cells := 0, slots := 0, locals := lo }) Pc (jQ r) 0 0 (fun _ => False)) (hexec : p.tables.exec = Jvm.exec) (hb : c.code = cc) (hml : c.maxLocals = nL) (hl : lv_has ls nL lv) (hts : ∀ w ∈ Ts, w.before args s = true) (hin : ∀ w ∈ wsL_law0, w ∈ Ts) (hown : s.vm.findClass own = some m.cls) (hp : PreS s H Pc As) (hcd : Jvm.Cond.code y bytes ml ret ∈ wsL_law0) (hini : Jvm.Cond.initialized y.cls ∈ wsL_law0) (hlk : Jvm.Cond.methodLink own ix y ∈ wsL_law0) (hst : Jvm.Cond.static y ∈ wsL_law0) (hd : y.cls ≠ "java/lang/invoke/MethodHandle" ∧ y.cls ≠ "java/lang/invoke/VarHandle" ∧ (parseMethodDescriptor y.desc).map (fun d => d.parameters.length) = some n) (hn : As.length = n) (hR : fr + 1 ≤ R.frames ∧ 8 + (ml + 11) + lo ≤ R.locals) (hcs : cells ≤ R.cells ∧ slots ≤ R.slots) (hvs : st0 = As.reverse ++ rest) (hr8 : (rest.map fun v => v.category).sum ≤ 8) (hdg : decode cc pc = .ok (.invokestatic ix, 3))
    (kk : W p l e R s m args below meth c H locs cells slots Q (F0 m (pc + 3) ls (r.toList ++ rest))) : W p l e R s m args below meth c H locs cells slots Q (F0 m pc ls st0) := by
  have hrun := va_runS (p := p) (l := l) (e := e) (R := R) (s := s) (m := m) (args := args) (below := below) (meth := meth) (c := c) (H := H) (locs := locs) (cells := cells) (slots := slots) (g := F0 m pc ls st0) (As := As) (rest := rest) (nL := nL) (own := own) (index := ix) (bytes := bytes) (maxL := ml) (ret := ret) (n := n) ⟨hexec, hb, hml, hown, hts⟩ hM ⟨callB_of n hts (j_good hin hcd) rfl rfl rfl (hts _ (hin _ hini)) (hts _ (hin _ hlk)) hd hR, hts _ (hin _ hst)⟩ hp rfl hn hl.1 hvs (lv_room hr8) hdg hcs
  intro T hT X
  obtain ⟨v, st₀, t, T', L, h0, X', hL, e1, e2, ⟨hv, hh⟩, st⟩ := hrun T hT X
  cases hv
  obtain ⟨t2, a1, b1⟩ := kk T' (by rw [e1, hh, h0]) (Stand.forget X' (fun q h => (hL q h).elim))
  exact ⟨t2, st t2 a1, b1⟩
theorem jr_callV {Pc : Array Value → State → Prop} {r : Option Value} {y : MethodName} {bytes : ByteArray} {ml fr lo n ix nL : Nat} {ret : Option FieldType} {b : Nat} {As st0 : List Value} {lv : List (Nat × Value)} (hM : Met l y (Jvm.Cond.code y bytes ml ret :: wsL_law0) ({ frames := fr, cells := 0, slots := 0, locals := lo }) Pc (jQ r) 0 0 (fun _ => False)) (hexec : p.tables.exec = Jvm.exec) (hb : c.code = cc) (hml : c.maxLocals = nL) (hl : lv_has ls nL lv) (hts : ∀ w ∈ Ts, w.before args s = true) (hin : ∀ w ∈ wsL_law0, w ∈ Ts) (hown : s.vm.findClass own = some m.cls) (hp : PreV s H y.cls b Pc As) (hcd : Jvm.Cond.code y bytes ml ret ∈ wsL_law0) (hini : Jvm.Cond.initialized y.cls ∈ wsL_law0) (hlk : Jvm.Cond.methodLink own ix y ∈ wsL_law0) (hst : Jvm.Cond.instanceMethod y ∈ wsL_law0) (hse : Jvm.Cond.selects y.cls y y ∈ wsL_law0) (hd : y.cls ≠ "java/lang/invoke/MethodHandle" ∧ y.cls ≠ "java/lang/invoke/VarHandle" ∧ (parseMethodDescriptor y.desc).map (fun d => d.parameters.length) = some n) (hn : As.length = n) (hR : fr + 1 ≤ R.frames ∧ 8 + (ml + 11) + lo ≤ R.locals) (hcs : cells ≤ R.cells ∧ slots ≤ R.slots) (hvs : st0 = As.reverse ++ .ref b :: rest) (hr8 : (rest.map fun v => v.category).sum ≤ 8) (hdg : decode cc pc = .ok (.invokevirtual ix, 3))
    (kk : W p l e R s m args below meth c H locs cells slots Q (F0 m (pc + 3) ls (r.toList ++ rest))) : W p l e R s m args below meth c H locs cells slots Q (F0 m pc ls st0) := by
  have hrun := va_runV (p := p) (l := l) (e := e) (R := R) (s := s) (m := m) (args := args) (below := below) (meth := meth) (c := c) (H := H) (locs := locs) (cells := cells) (slots := slots) (g := F0 m pc ls st0) (As := As) (rest := rest) (b := b) (nL := nL) (own := own) (index := ix) (bytes := bytes) (maxL := ml) (ret := ret) (n := n) ⟨hexec, hb, hml, hown, hts⟩ hM ⟨callB_of n hts (j_good hin hcd) rfl rfl rfl (hts _ (hin _ hini)) (hts _ (hin _ hlk)) hd hR, hts _ (hin _ hst), hts _ (hin _ hse)⟩ hp rfl hn hl.1 hvs (lv_room hr8) hdg hcs
  intro T hT X
  obtain ⟨v, st₀, t, T', L, h0, X', hL, e1, e2, ⟨hv, hh⟩, st⟩ := hrun T hT X
  cases hv
  obtain ⟨t2, a1, b1⟩ := kk T' (by rw [e1, hh, h0]) (Stand.forget X' (fun q h => (hL q h).elim))
  exact ⟨t2, st t2 a1, b1⟩
end JC
theorem j_narrow (x : UInt32) : narrow .char (.int (x % 65536).toInt32) = .int (x % 65536).toInt32 := by
  have h : ((x % 65536).toInt32.toUInt32 % 65536) = x % 65536 := by
    rw [UInt32.toUInt32_toInt32]
    apply UInt32.toNat_inj.mp
    rw [UInt32.toNat_mod, UInt32.toNat_mod]
    exact Nat.mod_mod _ _
  show Value.int _ = _
  first
    | exact congrArg (fun z : UInt32 => Value.int z.toInt32) h
    | (simp only [narrow]; rw [h])
theorem dJ0_checkIndex_df160_0 : decode cJ0_checkIndex_df160 0 = .ok (.iload_n 0, 1) := by decide +kernel
theorem dJ0_checkIndex_df160_1 : decode cJ0_checkIndex_df160 1 = .ok (.iload_n 1, 1) := by decide +kernel
theorem dJ0_checkIndex_df160_2 : decode cJ0_checkIndex_df160 2 = .ok (.getstatic 1053, 3) := by decide +kernel
theorem dJ0_checkIndex_df160_5 : decode cJ0_checkIndex_df160 5 = .ok (.invokestatic 1059, 3) := by decide +kernel
theorem dJ0_checkIndex_df160_8 : decode cJ0_checkIndex_df160 8 = .ok (.pop, 1) := by decide +kernel
theorem dJ0_checkIndex_df160_9 : decode cJ0_checkIndex_df160 9 = .ok (.return_, 1) := by decide +kernel
theorem j0_check {l : Launch} {q v n : Nat} {fo : Value} {byt : Nat → Int32} {i k : Int32} (h0 : ¬ i < 0) (h1 : i < k) : Met l yJ0_checkIndex_df160 (Jvm.Cond.code yJ0_checkIndex_df160 cJ0_checkIndex_df160 2 none :: wsL_law0) ({ frames := 1, cells := 0, slots := 0, locals := 22 }) (va_Pc [.int i, .int k] (jW q v n byt fo)) (jQ (none)) 0 0 (fun _ => False) := by
  refine mt_ofWF (cc := cJ0_checkIndex_df160) (maxL := 2) (ret := none) (by decide +kernel) rfl ?_
  intro p e s m args below meth c s₁ B hml hv
  obtain ⟨rfl, hZ, hZ2, hO, hCo, hVa, hTb, hFo⟩ := hv
  have hx := B.exec
  have hb := B.bytes
  have hr := B.returns
  have hlk := B.notSynchronized
  have hts := atoms_spec (ws := Jvm.Cond.code yJ0_checkIndex_df160 cJ0_checkIndex_df160 2 none :: wsL_law0) B.pre
  have hown : s.vm.findClass RJ0 = some m.cls := findClass_of_methodNamed B.named
  have hS : va_S (fun _ => False) s.heap s.heap [] := va_S.rf
  have hl := lv_entry [.int i, .int k] (n := 2) (Nat.le_of_ble_eq_true rfl)
  rw [lg_entry_eq]
  generalize (lg_sl [.int i, .int k] ++ List.replicate (2 - (lg_sl [.int i, .int k]).length) Slot.unset).toArray = ls at hl ⊢
  have hl : lv_has ls 2 [(0, .int i), (1, .int k)] := hl
  refine lv_iload_n hx hb dJ0_checkIndex_df160_0 rfl (lv_at hl 0 rfl) ?_
  refine lv_iload_n hx hb dJ0_checkIndex_df160_1 rfl (lv_at hl 1 rfl) ?_
  refine va_gets (ref := "jdk/internal/util/Preconditions") hx hb hZ2 hS hown (hts _ (List.mem_cons_of_mem _ (in_r5 _ (List.mem_of_getElem? (i := 16) rfl)))) (fun _ h => h) dJ0_checkIndex_df160_2 ?_
  refine jr_callS (n := 3) (As := [.int i, .int k, fo]) (j3_check (fo := fo) h0 h1 hFo) hx hb hml hl hts (fun w hw => List.mem_cons_of_mem _ hw) hown ⟨fun _ _ _ _ h => h, fun U hU hW => ⟨rfl, trivial⟩⟩ (in_r5 _ (List.mem_of_getElem? (i := 20) rfl)) (in_r5 _ (List.mem_of_getElem? (i := 19) rfl)) (in_r5 _ (List.mem_of_getElem? (i := 17) rfl)) (in_r5 _ (List.mem_of_getElem? (i := 18) rfl)) (by decide +kernel) rfl ⟨Nat.le_of_ble_eq_true rfl, Nat.le_of_ble_eq_true rfl⟩ ⟨Nat.zero_le _, Nat.zero_le _⟩ rfl (Nat.le_of_ble_eq_true rfl) dJ0_checkIndex_df160_5 ?_
  refine lv_pop hx hb dJ0_checkIndex_df160_8 rfl ?_
  exact W.vret hx hb hr (fun t ht _ => ⟨rfl, ht⟩) (fun q hq => by cases hq) dJ0_checkIndex_df160_9 hlk
theorem dJ1_charAt_3b067_0 : decode cJ1_charAt_3b067 0 = .ok (.iload_n 1, 1) := by decide +kernel
theorem dJ1_charAt_3b067_1 : decode cJ1_charAt_3b067 1 = .ok (.aload_n 0, 1) := by decide +kernel
theorem dJ1_charAt_3b067_2 : decode cJ1_charAt_3b067 2 = .ok (.arraylength, 1) := by decide +kernel
theorem dJ1_charAt_3b067_3 : decode cJ1_charAt_3b067 3 = .ok (.invokestatic 9, 3) := by decide +kernel
theorem dJ1_charAt_3b067_6 : decode cJ1_charAt_3b067 6 = .ok (.aload_n 0, 1) := by decide +kernel
theorem dJ1_charAt_3b067_7 : decode cJ1_charAt_3b067 7 = .ok (.iload_n 1, 1) := by decide +kernel
theorem dJ1_charAt_3b067_8 : decode cJ1_charAt_3b067 8 = .ok (.baload, 1) := by decide +kernel
theorem dJ1_charAt_3b067_9 : decode cJ1_charAt_3b067 9 = .ok (.sipush 255, 3) := by decide +kernel
theorem dJ1_charAt_3b067_12 : decode cJ1_charAt_3b067 12 = .ok (.iand, 1) := by decide +kernel
theorem dJ1_charAt_3b067_13 : decode cJ1_charAt_3b067 13 = .ok (.i2c, 1) := by decide +kernel
theorem dJ1_charAt_3b067_14 : decode cJ1_charAt_3b067 14 = .ok (.ireturn, 1) := by decide +kernel
theorem j1_charAt {l : Launch} {q v n : Nat} {fo : Value} {byt : Nat → Int32} {i : Int32} (h0 : ¬ i < 0) (h1 : i < Int32.ofNat n) (h2 : vp_in i n) : Met l yJ1_charAt_3b067 (Jvm.Cond.code yJ1_charAt_3b067 cJ1_charAt_3b067 2 (some .char) :: wsL_law0) ({ frames := 2, cells := 0, slots := 0, locals := 43 }) (va_Pc [.ref v, .int i] (jW q v n byt fo)) (jQ (some (.int (((byt i.toNatClampNeg &&& 255).toUInt32 % 65536).toInt32)))) 0 0 (fun _ => False) := by
  refine mt_ofWF (cc := cJ1_charAt_3b067) (maxL := 2) (ret := some .char) (by decide +kernel) rfl ?_
  intro p e s m args below meth c s₁ B hml hv
  obtain ⟨rfl, hZ, hZ2, hO, hCo, hVa, hTb, hFo⟩ := hv
  have hx := B.exec
  have hb := B.bytes
  have hr := B.returns
  have hlk := B.notSynchronized
  have hts := atoms_spec (ws := Jvm.Cond.code yJ1_charAt_3b067 cJ1_charAt_3b067 2 (some .char) :: wsL_law0) B.pre
  have hown : s.vm.findClass RJ1 = some m.cls := findClass_of_methodNamed B.named
  have hS : va_S (fun _ => False) s.heap s.heap [] := va_S.rf
  have hl := lv_entry [.ref v, .int i] (n := 2) (Nat.le_of_ble_eq_true rfl)
  rw [lg_entry_eq]
  generalize (lg_sl [.ref v, .int i] ++ List.replicate (2 - (lg_sl [.ref v, .int i]).length) Slot.unset).toArray = ls at hl ⊢
  have hl : lv_has ls 2 [(0, .ref v), (1, .int i)] := hl
  have hj : jW q v n byt fo s := ⟨hZ, hZ2, hO, hCo, hVa, hTb, hFo⟩
  refine lv_iload_n hx hb dJ1_charAt_3b067_0 rfl (lv_at hl 1 rfl) ?_
  refine lv_aload_n hx hb dJ1_charAt_3b067_1 rfl (lv_at hl 0 rfl) ?_
  refine va_tlen hx hb hTb hS rfl dJ1_charAt_3b067_2 ?_
  refine jr_callS (n := 2) (As := [.int i, .int (Int32.ofNat n)]) (j0_check (q := q) (v := v) (n := n) (byt := byt) (fo := fo) h0 h1) hx hb hml hl hts (fun w hw => List.mem_cons_of_mem _ hw) hown ⟨fun _ U g mk q => ⟨q.1, jW_warm (H := U.heap) (s := U) (U := U.calling g mk _) (Vm.Alike.refl U.vm) rfl q.2⟩, fun U hU hW => ⟨rfl, jW_warm (H := s.heap) hW.alike hU hj⟩⟩ (in_r5 _ (List.mem_of_getElem? (i := 15) rfl)) (in_r4 _ (List.mem_of_getElem? (i := 16) rfl)) (in_r5 _ (List.mem_of_getElem? (i := 13) rfl)) (in_r5 _ (List.mem_of_getElem? (i := 14) rfl)) (by decide +kernel) rfl ⟨Nat.le_of_ble_eq_true rfl, Nat.le_of_ble_eq_true rfl⟩ ⟨Nat.zero_le _, Nat.zero_le _⟩ rfl (Nat.le_of_ble_eq_true rfl) dJ1_charAt_3b067_3 ?_
  refine lv_aload_n hx hb dJ1_charAt_3b067_6 rfl (lv_at hl 0 rfl) ?_
  refine lv_iload_n hx hb dJ1_charAt_3b067_7 rfl (lv_at hl 1 rfl) ?_
  refine va_tb hx hb hTb hS h2 rfl dJ1_charAt_3b067_8 ?_
  refine lv_sipush (v := 255) hx hb dJ1_charAt_3b067_9 (by decide) ?_
  refine lv_iand hx hb dJ1_charAt_3b067_12 ?_
  refine lv_i2c hx hb dJ1_charAt_3b067_13 rfl ?_
  exact W.zret hx hb hr (j_narrow _) (fun t ht _ => ⟨rfl, ht⟩) (fun q hq => by cases hq) dJ1_charAt_3b067_14 hlk
theorem dJ0_length_8abf5_0 : decode cJ0_length_8abf5 0 = .ok (.aload_n 0, 1) := by decide +kernel
theorem dJ0_length_8abf5_1 : decode cJ0_length_8abf5 1 = .ok (.getfield 9, 3) := by decide +kernel
theorem dJ0_length_8abf5_4 : decode cJ0_length_8abf5 4 = .ok (.arraylength, 1) := by decide +kernel
theorem dJ0_length_8abf5_5 : decode cJ0_length_8abf5 5 = .ok (.aload_n 0, 1) := by decide +kernel
theorem dJ0_length_8abf5_6 : decode cJ0_length_8abf5 6 = .ok (.invokevirtual 335, 3) := by decide +kernel
theorem dJ0_length_8abf5_9 : decode cJ0_length_8abf5 9 = .ok (.ishr, 1) := by decide +kernel
theorem dJ0_length_8abf5_10 : decode cJ0_length_8abf5 10 = .ok (.ireturn, 1) := by decide +kernel
theorem j0_length {l : Launch} {q v n : Nat} {fo : Value} {byt : Nat → Int32} : Met l yJ0_length_8abf5 (Jvm.Cond.code yJ0_length_8abf5 cJ0_length_8abf5 1 (some .int) :: wsL_law0) ({ frames := 1, cells := 0, slots := 0, locals := 20 }) (va_Pc [.ref q] (jW q v n byt fo)) (jQ (some (.int (Int32.ofNat n >>> ((0 : Int32) &&& 31))))) 0 0 (fun _ => False) := by
  refine mt_ofWF (cc := cJ0_length_8abf5) (maxL := 1) (ret := some .int) (by decide +kernel) rfl ?_
  intro p e s m args below meth c s₁ B hml hv
  obtain ⟨rfl, hZ, hZ2, hO, hCo, hVa, hTb, hFo⟩ := hv
  have hx := B.exec
  have hb := B.bytes
  have hr := B.returns
  have hlk := B.notSynchronized
  have hts := atoms_spec (ws := Jvm.Cond.code yJ0_length_8abf5 cJ0_length_8abf5 1 (some .int) :: wsL_law0) B.pre
  have hown : s.vm.findClass RJ0 = some m.cls := findClass_of_methodNamed B.named
  have hS : va_S (fun _ => False) s.heap s.heap [] := va_S.rf
  have hl := lv_entry [.ref q] (n := 1) (Nat.le_of_ble_eq_true rfl)
  rw [lg_entry_eq]
  generalize (lg_sl [.ref q] ++ List.replicate (1 - (lg_sl [.ref q]).length) Slot.unset).toArray = ls at hl ⊢
  have hl : lv_has ls 1 [(0, .ref q)] := hl
  have hj : jW q v n byt fo s := ⟨hZ, hZ2, hO, hCo, hVa, hTb, hFo⟩
  refine lv_aload_n hx hb dJ0_length_8abf5_0 rfl (lv_at hl 0 rfl) ?_
  refine vk_getf (ref := "java/lang/String") hx hb hVa hS hown (hts _ (List.mem_cons_of_mem _ (in_r4 _ (List.mem_of_getElem? (i := 18) rfl)))) (fun _ h => h) dJ0_length_8abf5_1 ?_
  refine va_tlen hx hb hTb hS rfl dJ0_length_8abf5_4 ?_
  refine lv_aload_n hx hb dJ0_length_8abf5_5 rfl (lv_at hl 0 rfl) ?_
  refine jr_callV (n := 0) (b := q) (As := []) (j0_coder (q := q) (v := v) (n := n) (byt := byt) (fo := fo)) hx hb hml hl hts (fun w hw => List.mem_cons_of_mem _ hw) hown ⟨fun _ U g mk q => ⟨q.1, jW_warm (H := U.heap) (s := U) (U := U.calling g mk _) (Vm.Alike.refl U.vm) rfl q.2⟩, va_Orecv hO hS, fun U hU hW => ⟨rfl, jW_warm (H := s.heap) hW.alike hU hj⟩⟩ (in_r4 _ (List.mem_of_getElem? (i := 22) rfl)) (in_r4 _ (List.mem_of_getElem? (i := 16) rfl)) (in_r4 _ (List.mem_of_getElem? (i := 19) rfl)) (in_r4 _ (List.mem_of_getElem? (i := 20) rfl)) (in_r4 _ (List.mem_of_getElem? (i := 21) rfl)) (by decide +kernel) rfl ⟨Nat.le_of_ble_eq_true rfl, Nat.le_of_ble_eq_true rfl⟩ ⟨Nat.zero_le _, Nat.zero_le _⟩ rfl (Nat.le_of_ble_eq_true rfl) dJ0_length_8abf5_6 ?_
  refine lv_ishr hx hb dJ0_length_8abf5_9 ?_
  exact W.iret hx hb hr (fun t ht _ => ⟨rfl, ht⟩) (fun q hq => by cases hq) dJ0_length_8abf5_10 hlk
theorem dJ0_charAt_5068e_0 : decode cJ0_charAt_5068e 0 = .ok (.aload_n 0, 1) := by decide +kernel
theorem dJ0_charAt_5068e_1 : decode cJ0_charAt_5068e 1 = .ok (.invokevirtual 492, 3) := by decide +kernel
theorem dJ0_charAt_5068e_4 : decode cJ0_charAt_5068e 4 = .ok (.ifCond .eq 12, 3) := by decide +kernel
theorem dJ0_charAt_5068e_7 : decode cJ0_charAt_5068e 7 = .ok (.aload_n 0, 1) := by decide +kernel
theorem dJ0_charAt_5068e_8 : decode cJ0_charAt_5068e 8 = .ok (.getfield 9, 3) := by decide +kernel
theorem dJ0_charAt_5068e_11 : decode cJ0_charAt_5068e 11 = .ok (.iload_n 1, 1) := by decide +kernel
theorem dJ0_charAt_5068e_12 : decode cJ0_charAt_5068e 12 = .ok (.invokestatic 495, 3) := by decide +kernel
theorem dJ0_charAt_5068e_15 : decode cJ0_charAt_5068e 15 = .ok (.ireturn, 1) := by decide +kernel
theorem dJ0_charAt_5068e_16 : decode cJ0_charAt_5068e 16 = .ok (.aload_n 0, 1) := by decide +kernel
theorem dJ0_charAt_5068e_17 : decode cJ0_charAt_5068e 17 = .ok (.getfield 9, 3) := by decide +kernel
theorem dJ0_charAt_5068e_20 : decode cJ0_charAt_5068e 20 = .ok (.iload_n 1, 1) := by decide +kernel
theorem dJ0_charAt_5068e_21 : decode cJ0_charAt_5068e 21 = .ok (.invokestatic 498, 3) := by decide +kernel
theorem dJ0_charAt_5068e_24 : decode cJ0_charAt_5068e 24 = .ok (.ireturn, 1) := by decide +kernel
theorem j0_charAt {l : Launch} {q v n : Nat} {fo : Value} {byt : Nat → Int32} {i : Int32} (h0 : ¬ i < 0) (h1 : i < Int32.ofNat n) (h2 : vp_in i n) : Met l yJ0_charAt_5068e (Jvm.Cond.code yJ0_charAt_5068e cJ0_charAt_5068e 2 (some .char) :: wsL_law0) ({ frames := 3, cells := 0, slots := 0, locals := 64 }) (va_Pc [.ref q, .int i] (jW q v n byt fo)) (jQ (some (.int (((byt i.toNatClampNeg &&& 255).toUInt32 % 65536).toInt32)))) 0 0 (fun _ => False) := by
  refine mt_ofWF (cc := cJ0_charAt_5068e) (maxL := 2) (ret := some .char) (by decide +kernel) rfl ?_
  intro p e s m args below meth c s₁ B hml hv
  obtain ⟨rfl, hZ, hZ2, hO, hCo, hVa, hTb, hFo⟩ := hv
  have hx := B.exec
  have hb := B.bytes
  have hr := B.returns
  have hlk := B.notSynchronized
  have hts := atoms_spec (ws := Jvm.Cond.code yJ0_charAt_5068e cJ0_charAt_5068e 2 (some .char) :: wsL_law0) B.pre
  have hown : s.vm.findClass RJ0 = some m.cls := findClass_of_methodNamed B.named
  have hS : va_S (fun _ => False) s.heap s.heap [] := va_S.rf
  have hl := lv_entry [.ref q, .int i] (n := 2) (Nat.le_of_ble_eq_true rfl)
  rw [lg_entry_eq]
  generalize (lg_sl [.ref q, .int i] ++ List.replicate (2 - (lg_sl [.ref q, .int i]).length) Slot.unset).toArray = ls at hl ⊢
  have hl : lv_has ls 2 [(0, .ref q), (1, .int i)] := hl
  have hj : jW q v n byt fo s := ⟨hZ, hZ2, hO, hCo, hVa, hTb, hFo⟩
  refine lv_aload_n hx hb dJ0_charAt_5068e_0 rfl (lv_at hl 0 rfl) ?_
  refine jr_callV (n := 0) (b := q) (As := []) (j0_isLatin1 (q := q) (v := v) (n := n) (byt := byt) (fo := fo)) hx hb hml hl hts (fun w hw => List.mem_cons_of_mem _ hw) hown ⟨fun _ U g mk q => ⟨q.1, jW_warm (H := U.heap) (s := U) (U := U.calling g mk _) (Vm.Alike.refl U.vm) rfl q.2⟩, va_Orecv hO hS, fun U hU hW => ⟨rfl, jW_warm (H := s.heap) hW.alike hU hj⟩⟩ (in_r5 _ (List.mem_of_getElem? (i := 8) rfl)) (in_r4 _ (List.mem_of_getElem? (i := 16) rfl)) (in_r5 _ (List.mem_of_getElem? (i := 5) rfl)) (in_r5 _ (List.mem_of_getElem? (i := 6) rfl)) (in_r5 _ (List.mem_of_getElem? (i := 7) rfl)) (by decide +kernel) rfl ⟨Nat.le_of_ble_eq_true rfl, Nat.le_of_ble_eq_true rfl⟩ ⟨Nat.zero_le _, Nat.zero_le _⟩ rfl (Nat.le_of_ble_eq_true rfl) dJ0_charAt_5068e_1 ?_
  refine lv_if_eq (tgt := 16) hx hb dJ0_charAt_5068e_4 (by decide) (fun h => absurd h (by decide)) (fun _ => ?_)
  refine lv_aload_n hx hb dJ0_charAt_5068e_7 rfl (lv_at hl 0 rfl) ?_
  refine vk_getf (ref := "java/lang/String") hx hb hVa hS hown (hts _ (List.mem_cons_of_mem _ (in_r4 _ (List.mem_of_getElem? (i := 18) rfl)))) (fun _ h => h) dJ0_charAt_5068e_8 ?_
  refine lv_iload_n hx hb dJ0_charAt_5068e_11 rfl (lv_at hl 1 rfl) ?_
  refine jr_callS (n := 2) (As := [.ref v, .int i]) (j1_charAt (q := q) (v := v) (n := n) (byt := byt) (fo := fo) h0 h1 h2) hx hb hml hl hts (fun w hw => List.mem_cons_of_mem _ hw) hown ⟨fun _ U g mk q => ⟨q.1, jW_warm (H := U.heap) (s := U) (U := U.calling g mk _) (Vm.Alike.refl U.vm) rfl q.2⟩, fun U hU hW => ⟨rfl, jW_warm (H := s.heap) hW.alike hU hj⟩⟩ (in_r5 _ (List.mem_of_getElem? (i := 12) rfl)) (in_r5 _ (List.mem_of_getElem? (i := 11) rfl)) (in_r5 _ (List.mem_of_getElem? (i := 9) rfl)) (in_r5 _ (List.mem_of_getElem? (i := 10) rfl)) (by decide +kernel) rfl ⟨Nat.le_of_ble_eq_true rfl, Nat.le_of_ble_eq_true rfl⟩ ⟨Nat.zero_le _, Nat.zero_le _⟩ rfl (Nat.le_of_ble_eq_true rfl) dJ0_charAt_5068e_12 ?_
  exact W.zret hx hb hr (j_narrow _) (fun t ht _ => ⟨rfl, ht⟩) (fun q hq => by cases hq) dJ0_charAt_5068e_15 hlk
theorem dX8_withLetter_0 : decode cX8_withLetter 0 = .ok (.lload_n 0, 1) := by decide +kernel
theorem dX8_withLetter_1 : decode cX8_withLetter 1 = .ok (.ldc2_w 71, 3) := by decide +kernel
theorem dX8_withLetter_4 : decode cX8_withLetter 4 = .ok (.lmul, 1) := by decide +kernel
theorem dX8_withLetter_5 : decode cX8_withLetter 5 = .ok (.iload_n 2, 1) := by decide +kernel
theorem dX8_withLetter_6 : decode cX8_withLetter 6 = .ok (.bipush 97, 2) := by decide +kernel
theorem dX8_withLetter_8 : decode cX8_withLetter 8 = .ok (.isub, 1) := by decide +kernel
theorem dX8_withLetter_9 : decode cX8_withLetter 9 = .ok (.iconst 1, 1) := by decide +kernel
theorem dX8_withLetter_10 : decode cX8_withLetter 10 = .ok (.iadd, 1) := by decide +kernel
theorem dX8_withLetter_11 : decode cX8_withLetter 11 = .ok (.i2l, 1) := by decide +kernel
theorem dX8_withLetter_12 : decode cX8_withLetter 12 = .ok (.ladd, 1) := by decide +kernel
theorem dX8_withLetter_13 : decode cX8_withLetter 13 = .ok (.lreturn, 1) := by decide +kernel
theorem j8_with {l : Launch} {x : Int64} {i : Int32} : Met l yX8_withLetter (Jvm.Cond.code yX8_withLetter cX8_withLetter 3 (some .long) :: wsL_law0) ({ frames := 0, cells := 0, slots := 0, locals := 0 }) (va_Pc [.long x, .int i] (fun _ => True)) (jQ (some (.long (x * 32 + (i - 97 + 1).toInt64)))) 0 0 (fun _ => False) := by
  refine mt_ofWF (cc := cX8_withLetter) (maxL := 3) (ret := some .long) (by decide +kernel) rfl ?_
  intro p e s m args below meth c s₁ B hml hv
  obtain ⟨rfl, -⟩ := hv
  have hx := B.exec
  have hb := B.bytes
  have hr := B.returns
  have hlk := B.notSynchronized
  have hts := atoms_spec (ws := Jvm.Cond.code yX8_withLetter cX8_withLetter 3 (some .long) :: wsL_law0) B.pre
  have hown : s.vm.findClass RX8 = some m.cls := findClass_of_methodNamed B.named
  have hl := lv_entry [.long x, .int i] (n := 3) (Nat.le_of_ble_eq_true rfl)
  rw [lg_entry_eq]
  generalize (lg_sl [Value.long x, .int i] ++ List.replicate (3 - (lg_sl [Value.long x, .int i]).length) Slot.unset).toArray = ls at hl ⊢
  have hl : lv_has ls 3 [(0, .long x), (2, .int i)] := hl
  refine lv_lload_n hx hb dX8_withLetter_0 rfl (lv_at hl 0 rfl) ?_
  refine lv_ldc2 hx hb hown (hts _ (List.mem_cons_of_mem _ (in_r6 _ (List.mem_of_getElem? (i := 17) rfl)))) dX8_withLetter_1 ?_
  refine lv_lmul hx hb dX8_withLetter_4 ?_
  refine lv_iload_n hx hb dX8_withLetter_5 rfl (lv_at hl 1 rfl) ?_
  refine lv_bipush (v := 97) hx hb dX8_withLetter_6 (by decide) ?_
  refine lv_isub hx hb dX8_withLetter_8 ?_
  refine lv_iconst (v := 1) hx hb dX8_withLetter_9 (by decide) ?_
  refine lv_iadd hx hb dX8_withLetter_10 ?_
  refine lv_i2l hx hb dX8_withLetter_11 rfl ?_
  refine lv_ladd hx hb dX8_withLetter_12 ?_
  exact W.lret hx hb hr (fun t ht _ => ⟨rfl, ht⟩) (fun q hq => by cases hq) dX8_withLetter_13 hlk

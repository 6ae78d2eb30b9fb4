/-! THE LAW, 4: its man, which catches. -/
theorem dL_man_0 : decode cL_man 0 = .ok (.aload_n 3, 1) := by decide +kernel
theorem dL_man_1 : decode cL_man 1 = .ok (.iconst 0, 1) := by decide +kernel
theorem dL_man_2 : decode cL_man 2 = .ok (.aload_n 0, 1) := by decide +kernel
theorem dL_man_3 : decode cL_man 3 = .ok (.iload_n 1, 1) := by decide +kernel
theorem dL_man_4 : decode cL_man 4 = .ok (.iload_n 2, 1) := by decide +kernel
theorem dL_man_5 : decode cL_man 5 = .ok (.invokevirtual 7, 3) := by decide +kernel
theorem dL_man_8 : decode cL_man 8 = .ok (.i2l, 1) := by decide +kernel
theorem dL_man_9 : decode cL_man 9 = .ok (.lastore, 1) := by decide +kernel
theorem dL_man_10 : decode cL_man 10 = .ok (.goto 7, 3) := by decide +kernel
theorem dL_man_13 : decode cL_man 13 = .ok (.astore 4, 2) := by decide +kernel
theorem dL_man_15 : decode cL_man 15 = .ok (.iconst 1, 1) := by decide +kernel
theorem dL_man_16 : decode cL_man 16 = .ok (.ireturn, 1) := by decide +kernel
theorem dL_man_17 : decode cL_man 17 = .ok (.iconst 0, 1) := by decide +kernel
theorem dL_man_18 : decode cL_man 18 = .ok (.ireturn, 1) := by decide +kernel
theorem mt_ofWW {l : Launch} {y : MethodName} {ws ws' : List Jvm.Cond} {rm : Room} {Pc : Array Value → State → Prop} {Qc : Array Value → State → Outcome → State → Prop} {mc ms : Nat} {free : Addr → Prop} {cc : ByteArray} {maxL : Nat} {ret : Option FieldType} {hh : List (Nat × Nat × Nat × Nat)}
    (hy : plainName y.cls = true) (hw : ws = Jvm.Cond.codeWith y cc maxL ret hh :: ws')
    (body : ∀ p e s m args below meth c s₁, BodyLoose p l y (headSpec ws rm) cc maxL ret e s m args below meth c s₁ → c.maxLocals = maxL → Pc args s →
      W p l e (headSpec ws rm).room s m args below meth c s.heap [] 0 0 (MQ below Qc args s mc ms free) (entryFrame m args maxL)) : Met l y ws rm Pc Qc mc ms free := by
  refine MetFree.of_bodyS (code := cc) (maxLocals := maxL) (ret := ret) hy ?_ ?_
  · intro args s m h hn
    obtain ⟨m9, meth, c, hn9, h1, h2, h3, h4, -, h5, h6, -⟩ := Cond.codeWith_spec (atoms_spec (ws := ws) h _ (by rw [hw]; exact List.mem_cons_self))
    cases hn.symm.trans hn9
    exact ⟨meth, c, h1, h2, h3, h4, h5, h6⟩
  · intro p e s m args below meth c s₁ B hml hP _
    have hh0 : s₁.heap = s.heap := by rw [B.state]; rfl
    obtain ⟨t, a1, ou, b1, b2, b3⟩ := body p e s m args below meth c s₁ B hml hP s₁ hh0 (Stand.of_body B)
    exact ⟨t, ou, a1, b1, b2, ⟨b3.1, b3.2⟩⟩
/-- the world and the law's own row beside it -/
def lo_P (D : va_G) (cys : Nat → ClassId) (qo : Nat) (H : Heap) : Prop := ∃ f : Nat → Int64, va_P D ck_cl [(qo, .inl (cys 3, 1, .inr (.inl f)))] H
def lo_A (ty : Nat → Option Nat) (qo : Nat) : Nat → Prop := fun q => ck_own ty q ∨ q = qo
theorem lo_lt {D : va_G} {cys : Nat → ClassId} {qo : Nat} {H : Heap} (h : lo_P D cys qo H) : qo < H.size := by
  obtain ⟨f, h⟩ := h
  exact (h 0 _ rfl).lt
theorem lo_kept {D : va_G} {cys : Nat → ClassId} {qo : Nat} {H H1 : Heap} (h : lo_P D cys qo H) (hk : H1[qo]? = H[qo]?) : lo_P D cys qo H1 := by
  obtain ⟨f, h⟩ := h
  refine ⟨f, h.kept (fun k x hx => ?_)⟩
  have h1 : k < 1 := (List.getElem?_eq_some_iff.mp hx).1
  rw [show k = 0 by omega] at hx
  cases hx
  exact hk
theorem mn_good {Ts : List Jvm.Cond} {w0 : Jvm.Cond} (hin : ∀ w ∈ mn_ws, w ∈ Ts) (h0 : w0 ∈ wsL_law0) : GoodIn Ts (w0 :: mn_ws) := fun w hw => by
  have key : ∀ w ∈ mn_ws, w ∈ Ts ∧ ((w.onTables && w.keeps) = true ∨ ∃ ty, w = .arrayClass ty) := fun w hw => by
    refine ⟨hin w hw, ?_⟩
    rcases List.mem_append.mp hw with h | h
    · exact ck_good w h
    · exact good_of_word (List.mem_filter.mp h).2
  rcases List.mem_cons.mp hw with hw | hw
  · subst hw; exact key _ (List.mem_append_left _ h0)
  · exact key w hw
theorem mn_blind {D : va_G} {cys : Nat → ClassId} {ty : Nat → Option Nat} {pvv : Nat → Int32} {A : Nat → Prop} {vs : List Value} : FrameBlind (va_Pc vs (fun U => ck_B D cys ty ck_tags ck_pvs0 (GE ty) pvv U ∧ mn_T U ∧ mn_S A U U.heap)) := by
  intro a U g mk h
  obtain ⟨h1, h2, h3, h4⟩ := h
  exact ⟨h1, (ck_blind vs a U g mk ⟨h1, h2⟩).2, mn_T_same (s := U) (U := U.calling g mk a) rfl h3, mn_S_moved (u := U) (U := U.calling g mk a) (H := U.heap) (Vm.Alike.refl U.vm) h4⟩
section ML
variable {l : Launch} {D : va_G} {cys : Nat → ClassId} {ty : Nat → Option Nat} {pvv : Nat → Int32}
set_option maxHeartbeats 4000000 in
theorem mn_law (hU : ck_uq ty ck_pvs0) (hun : ck_un ty) (hst : l.stackTraces = false) {a0 qo : Nat} {x1 x2 : Int32} (t0 : ty a0 = some 11) (hqo : ¬ ck_own ty qo) (hp : ck_pvo ty (ck_XE pvv) pP pvv) : Met l yL_man (Jvm.Cond.codeWith yL_man cL_man 5 (some .int) [(0, 10, 13, 13)] :: mn_ws) ({ frames := 7, cells := 1, slots := 6, locals := 112 }) (va_Pc [.ref a0, .int x1, .int x2, .ref qo] (fun U => (ck_B D cys ty ck_tags ck_pvs0 (GE ty) pvv U ∧ mn_T U ∧ mn_S (lo_A ty qo) U U.heap) ∧ lo_P D cys qo U.heap)) (va_Qi (fun _ (_ : Unit) => True) (fun _ t => ck_Wo D cys ty ck_tags ck_pvs0 (GE ty) pvv t.heap ∧ lo_P D cys qo t.heap) (lo_A ty qo)) 1 6 (lo_A ty qo) := by
  refine mt_ofWW (cc := cL_man) (maxL := 5) (ret := some .int) (hh := [(0, 10, 13, 13)]) (by decide) rfl ?_
  intro p e s m args below meth c s₁ B hml hv
  obtain ⟨rfl, ⟨⟨hW, hK, hN⟩, hmT, hmS⟩, hO⟩ := hv
  have hx := B.exec
  have hb := B.bytes
  have hr := B.returns
  have hlk := B.notSynchronized
  have hts := atoms_spec (ws := Jvm.Cond.codeWith yL_man cL_man 5 (some .int) [(0, 10, 13, 13)] :: mn_ws) B.pre
  have htab : c.exceptionTable.toList = [⟨0, 10, 13, 13⟩] := vx_table (x := yL_man) B (hts _ List.mem_cons_self)
  have hin0 : ∀ w ∈ mn_ws, w ∈ Jvm.Cond.codeWith yL_man cL_man 5 (some .int) [(0, 10, 13, 13)] :: mn_ws := fun w hw => List.mem_cons_of_mem _ hw
  have hin : ∀ w ∈ wsL_law0, w ∈ Jvm.Cond.codeWith yL_man cL_man 5 (some .int) [(0, 10, 13, 13)] :: mn_ws := fun w hw => hin0 w (List.mem_append_left _ hw)
  have hown : s.vm.findClass RL = some m.cls := findClass_of_methodNamed B.named
  have hl := lv_entry [.ref a0, .int x1, .int x2, .ref qo] (n := 5) (Nat.le_of_ble_eq_true rfl)
  rw [lg_entry_eq]
  generalize (lg_sl [.ref a0, .int x1, .int x2, .ref qo] ++ List.replicate (5 - (lg_sl [.ref a0, .int x1, .int x2, .ref qo]).length) Slot.unset).toArray = ls at hl ⊢
  have hl : lv_has ls 5 [(0, .ref a0), (1, .int x1), (2, .int x2), (3, .ref qo)] := hl
  have hS : va_S (lo_A ty qo) s.heap s.heap [] := va_S.rf
  have hrec : ∃ cell : Cell, s.heap[a0]? = some cell ∧ cell.vm.isStatics = false ∧ s.vm.findClass RX11 = some cell.cls := by
    obtain ⟨ws, hP, hD, hT, hV, hE⟩ := hW
    obtain ⟨q, fs, g1, -, -⟩ := cm_obj hT t0 (show ck_tags[11]? = some (.inl (11, _)) from rfl)
    exact va_recv hK hP (ci := 11) rfl g1
  refine lv_aload_n hx hb dL_man_0 rfl (lv_at hl 3 rfl) ?_
  refine lv_iconst (v := 0) hx hb dL_man_1 (by decide) ?_
  refine lv_aload_n hx hb dL_man_2 rfl (lv_at hl 0 rfl) ?_
  refine lv_iload_n hx hb dL_man_3 rfl (lv_at hl 1 rfl) ?_
  refine lv_iload_n hx hb dL_man_4 rfl (lv_at hl 2 rfl) ?_
  refine vx_calli (vx_runV (C := RX11) (b := a0) (As := [.int x1, .int x2]) (rest := [.int 0, .ref qo]) (n := 2) (bytes := cX11_man) (maxL := 3) (ret := some .int) ⟨hx, hb, hml, hown, hts⟩ (mn_man hU hun hst t0 hp) ⟨callB_of 2 hts (mn_good hin0 (in_r29 _ (List.mem_of_getElem? (i := 17) rfl))) rfl rfl rfl (hts _ (hin _ (in_r1 _ (List.mem_of_getElem? (i := 2) rfl)))) (hts _ (hin _ (in_r29 _ (List.mem_of_getElem? (i := 14) rfl)))) (by decide +kernel) ⟨Nat.le_of_ble_eq_true rfl, Nat.le_of_ble_eq_true rfl⟩, hts _ (hin _ (in_r29 _ (List.mem_of_getElem? (i := 15) rfl))), hts _ (hin _ (in_r29 _ (List.mem_of_getElem? (i := 16) rfl)))⟩ ⟨mn_blind, hrec, fun U hU0 hWm => ⟨rfl, ⟨by rw [hU0]; exact hW, va_K.moved hWm.alike hK, ck_nest_warm hWm hN⟩, mn_T_warm hWm hmT, by rw [hU0]; exact mn_S_moved hWm.alike (mn_S_narrow hmS (fun q h => Or.inl h))⟩⟩ rfl rfl hl.1 rfl (lv_room (Nat.le_of_ble_eq_true rfl)) dL_man_5 ⟨Nat.le_of_ble_eq_true rfl, Nat.le_of_ble_eq_true rfl⟩) hS (fun q _ h => Or.inl h) (fun q h => Or.inl h) (fun q _ h => Or.inl h) (fun E ce q9 u t H1 locs1 ht hv _ hB hz hk hS1 hce hcv hcl => ?_) (fun r u t H1 locs1 ht hv _ hB hz hk hS1 => ?_)
  · obtain ⟨rfl, hW1⟩ := hB
    rw [ht] at hW1
    have hO1 : lo_P D cys qo H1 := lo_kept hO (hk qo (lo_lt hO) hqo)
    refine ct_catch (own := RL) (name := "java/util/NoSuchElementException") hown ⟨0, 10, 13, 13⟩ htab (by decide) (by decide) (hts _ (hin _ (in_r29 _ (List.mem_of_getElem? (i := 13) rfl)))) (va_Nw.use (mn_B_tab _ List.mem_cons_self) (hmT _ List.mem_cons_self)) hce hcv hcl ?_
    refine lv_astore (lv' := [(4, .ref q9), (0, .ref a0), (1, .int x1), (2, .int x2), (3, .ref qo)]) hx hb dL_man_13 hl (by decide) rfl (fun ls hl => ?_)
    refine lv_iconst (v := 1) hx hb dL_man_15 (by decide) ?_
    exact W.iret hx hb hr (fun t ht _ => ⟨⟨1, (), rfl, trivial, by dsimp only; rw [ht]; exact ⟨hW1, hO1⟩⟩, hS1.F ht⟩) hS1.2.2 dL_man_16 hlk
  · have hW1 : ck_Wo D cys ty ck_tags ck_pvs0 (GE ty) pvv t.heap := hB
    rw [ht] at hW1
    obtain ⟨f, hO1⟩ := lo_kept (H1 := H1) hO (hk qo (lo_lt hO) hqo)
    obtain ⟨ws, hP, hD, hT, hV, hE⟩ := hW1
    have hP2 : va_P D ck_cl ([(qo, .inl (cys 3, 1, .inr (.inl f)))] ++ ws) H1 := va_P.app hO1 hP
    have hD2 : va_D (lo_A ty qo) ([(qo, .inl (cys 3, 1, .inr (.inl f)))] ++ ws) := va_D.app ⟨fun i j x z hx hz _ => by
        have h1 : i < 1 := (List.getElem?_eq_some_iff.mp hx).1
        have h2 : j < 1 := (List.getElem?_eq_some_iff.mp hz).1
        omega, fun k x hx => by
        have h1 : k < 1 := (List.getElem?_eq_some_iff.mp hx).1
        rw [show k = 0 by omega] at hx
        cases hx
        exact Or.inr rfl⟩ (hD.weaken (fun k x _ h => Or.inl h)) (fun i j x y hx hy hxy => by
        have h1 : i < 1 := (List.getElem?_eq_some_iff.mp hx).1
        rw [show i = 0 by omega] at hx
        cases hx
        exact hqo (by rw [show qo = y.1 from hxy]; exact hD.2 j y hy))
    refine lv_i2l hx hb dL_man_8 rfl ?_
    refine va_last hx hb hK hP2 hD2 hS1 0 3 rfl rfl (by unfold vp_in; decide) dL_man_9 (fun H2 locs2 hP3 hD3 hS3 => ?_)
    refine lv_goto (tgt := 17) hx hb dL_man_10 (by decide) ?_
    refine lv_iconst (v := 0) hx hb dL_man_17 (by decide) ?_
    have hW3 : ck_Wo D cys ty ck_tags ck_pvs0 (GE ty) pvv H2 := ⟨ws, fun k x hx => hP3 (k + 1) x hx, hD, hT, hV, hE⟩
    have hO3 : lo_P D cys qo H2 := ⟨_, fun k x hx => by
      have h1 : k < 1 := (List.getElem?_eq_some_iff.mp hx).1
      rw [show k = 0 by omega] at hx
      cases hx
      exact hP3 0 _ rfl⟩
    exact W.iret hx hb hr (fun t ht _ => ⟨⟨0, (), rfl, trivial, by dsimp only; rw [ht]; exact ⟨hW3, hO3⟩⟩, hS3.F ht⟩) hS3.2.2 dL_man_18 hlk
end ML

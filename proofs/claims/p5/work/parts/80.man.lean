/-! THE LAW, 3: man, which may throw. -/
def mn_L : List Jvm.Cond := vx_at0 RX11 169 "java/util/NoSuchElementException" ["java/lang/RuntimeException", "java/lang/Exception"]
def mn_B : List Jvm.Cond := [.castable "java/util/NoSuchElementException" "java/util/NoSuchElementException", .declares (Bundle.init0 "java/lang/RuntimeException"), .declares (Bundle.init0 "java/lang/Exception"), .declares (Bundle.init0 Bundle.tN)]
theorem mn_B_ok : ∀ w ∈ mn_L.filter (fun w => !goodWord w), w ∈ mn_B := by decide +kernel
theorem mn_B_tab : ∀ w ∈ mn_B, w.onTables = true := by decide +kernel
theorem mn_ot : ∀ w ∈ Jvm.Cond.classLink RX11 167 "java/util/NoSuchElementException" :: Jvm.Cond.initialized "java/util/NoSuchElementException" :: vx_at0 RX11 169 "java/util/NoSuchElementException" ["java/lang/RuntimeException", "java/lang/Exception"], vx_ot w = true := by decide +kernel
def mn_ws : List Jvm.Cond := wsL_law0 ++ mn_L.filter goodWord
def mn_T (U : State) : Prop := ∀ w ∈ mn_B, va_Nw w U
theorem mn_T_warm {s U : State} (hW : s.WarmedH U.vm) (h : mn_T s) : mn_T U := by
  intro w hw
  have h1 := h w hw
  simp only [mn_B, List.mem_cons, List.not_mem_nil, or_false] at hw
  rcases hw with rfl | rfl | rfl | rfl
  · exact va_Nw.warmC hW h1
  · exact va_Nw.warmD hW h1
  · exact va_Nw.warmD hW h1
  · exact va_Nw.warmD hW h1
theorem mn_T_same {s U : State} (hv : s.vm = U.vm) (h : mn_T s) : mn_T U := fun w hw => va_Nw.same (mn_B_tab w hw) hv (h w hw)
def mn_S (A : Nat → Prop) (U : State) (H : Heap) : Prop := vx_Zq Bundle.tN "UNASSIGNED_STACK" Bundle.steD A U H ∧ vx_Zq Bundle.tN "SUPPRESSED_SENTINEL" Bundle.listD A U H
theorem mn_S_moved {A : Nat → Prop} {u U : State} {H : Heap} (hv : u.vm.Alike U.vm) (h : mn_S A u H) : mn_S A U H := ⟨vx_Zq.moved hv h.1, vx_Zq.moved hv h.2⟩
theorem mn_S_kept {A : Nat → Prop} {U : State} {H H1 : Heap} (h : mn_S A U H) (hq : ∀ a : Nat, a < H.size → ¬ A a → H1[a]? = H[a]?) : mn_S A U H1 := ⟨vx_Zq.kept h.1 hq, vx_Zq.kept h.2 hq⟩
theorem mn_S_narrow {A B : Nat → Prop} {U : State} {H : Heap} (h : mn_S A U H) (hAB : ∀ q, B q → A q) : mn_S B U H := ⟨vx_Zq.narrow h.1 hAB, vx_Zq.narrow h.2 hAB⟩
theorem ck_Wo_kept {D : va_G} {cys : Nat → ClassId} {ty : Nat → Option Nat} {tg : List ck_TD} {pvT : List (Nat × Nat)} {Ex : va_W → Prop} {pvv : Nat → Int32} {H H1 : Heap} (hW : ck_Wo D cys ty tg pvT Ex pvv H) (hk : ∀ q : Nat, q < H.size → H1[q]? = H[q]?) : ck_Wo D cys ty tg pvT Ex pvv H1 := by
  obtain ⟨ws, hP, h⟩ := hW
  exact ⟨ws, hP.kept (fun k x hx => hk x.1 (hP k x hx).lt), h⟩
theorem lm_X11_164 : lc_mV RX11 164 kc_95 6 := ⟨(in_r30 _ (List.mem_of_getElem? (i := 6) rfl)), (in_r1 _ (List.mem_of_getElem? (i := 23) rfl)), (in_r30 _ (List.mem_of_getElem? (i := 3) rfl)), (in_r30 _ (List.mem_of_getElem? (i := 4) rfl)), (in_r30 _ (List.mem_of_getElem? (i := 5) rfl)), by decide +kernel, _, _, _, _, rfl, rfl, rfl, rfl, by decide +kernel⟩
theorem lm_X11_176 : lc_mV RX11 176 kc_27 2 := ⟨(in_r30 _ (List.mem_of_getElem? (i := 10) rfl)), (in_r2 _ (List.mem_of_getElem? (i := 3) rfl)), (in_r30 _ (List.mem_of_getElem? (i := 7) rfl)), (in_r30 _ (List.mem_of_getElem? (i := 8) rfl)), (in_r30 _ (List.mem_of_getElem? (i := 9) rfl)), by decide +kernel, _, _, _, _, rfl, rfl, rfl, rfl, by decide +kernel⟩
theorem lm_X11_191 : lc_mS RX11 191 kc_2 := ⟨(in_r20 _ (List.mem_of_getElem? (i := 0) rfl)), (in_r1 _ (List.mem_of_getElem? (i := 2) rfl)), (in_r30 _ (List.mem_of_getElem? (i := 11) rfl)), (in_r19 _ (List.mem_of_getElem? (i := 23) rfl)), by decide +kernel, by decide +kernel⟩
theorem mn_sK95 : ck_sameK kc_95 = true := by decide +kernel
theorem mn_sK27 : ck_sameK kc_27 = true := by decide +kernel
theorem mn_sK2 : ck_sameK kc_2 = true := by decide +kernel
theorem dX11_man_0 : decode cX11_man 0 = .ok (.aload_n 0, 1) := by decide +kernel
theorem dX11_man_1 : decode cX11_man 1 = .ok (.getfield 26, 3) := by decide +kernel
theorem dX11_man_4 : decode cX11_man 4 = .ok (.iload_n 1, 1) := by decide +kernel
theorem dX11_man_5 : decode cX11_man 5 = .ok (.invokevirtual 164, 3) := by decide +kernel
theorem dX11_man_8 : decode cX11_man 8 = .ok (.ifCond .eq 13, 3) := by decide +kernel
theorem dX11_man_11 : decode cX11_man 11 = .ok (.iload_n 2, 1) := by decide +kernel
theorem dX11_man_12 : decode cX11_man 12 = .ok (.ifCond .lt 9, 3) := by decide +kernel
theorem dX11_man_15 : decode cX11_man 15 = .ok (.iload_n 2, 1) := by decide +kernel
theorem dX11_man_16 : decode cX11_man 16 = .ok (.bipush 7, 2) := by decide +kernel
theorem dX11_man_18 : decode cX11_man 18 = .ok (.if_icmp .le 11, 3) := by decide +kernel
theorem dX11_man_21 : decode cX11_man 21 = .ok (.new 167, 3) := by decide +kernel
theorem dX11_man_24 : decode cX11_man 24 = .ok (.dup, 1) := by decide +kernel
theorem dX11_man_25 : decode cX11_man 25 = .ok (.invokespecial 169, 3) := by decide +kernel
theorem dX11_man_28 : decode cX11_man 28 = .ok (.athrow, 1) := by decide +kernel
theorem dX11_man_29 : decode cX11_man 29 = .ok (.iload_n 2, 1) := by decide +kernel
theorem dX11_man_30 : decode cX11_man 30 = .ok (.tableswitch 121 0 6 #[42, 52, 62, 71, 81, 91, 101], 42) := by decide +kernel
theorem dX11_man_72 : decode cX11_man 72 = .ok (.aload_n 0, 1) := by decide +kernel
theorem dX11_man_73 : decode cX11_man 73 = .ok (.getfield 26, 3) := by decide +kernel
theorem dX11_man_76 : decode cX11_man 76 = .ok (.getfield 170, 3) := by decide +kernel
theorem dX11_man_79 : decode cX11_man 79 = .ok (.iload_n 1, 1) := by decide +kernel
theorem dX11_man_80 : decode cX11_man 80 = .ok (.iaload, 1) := by decide +kernel
theorem dX11_man_81 : decode cX11_man 81 = .ok (.ireturn, 1) := by decide +kernel
theorem dX11_man_82 : decode cX11_man 82 = .ok (.aload_n 0, 1) := by decide +kernel
theorem dX11_man_83 : decode cX11_man 83 = .ok (.getfield 26, 3) := by decide +kernel
theorem dX11_man_86 : decode cX11_man 86 = .ok (.getfield 173, 3) := by decide +kernel
theorem dX11_man_89 : decode cX11_man 89 = .ok (.iload_n 1, 1) := by decide +kernel
theorem dX11_man_90 : decode cX11_man 90 = .ok (.iaload, 1) := by decide +kernel
theorem dX11_man_91 : decode cX11_man 91 = .ok (.ireturn, 1) := by decide +kernel
theorem dX11_man_92 : decode cX11_man 92 = .ok (.aload_n 0, 1) := by decide +kernel
theorem dX11_man_93 : decode cX11_man 93 = .ok (.getfield 33, 3) := by decide +kernel
theorem dX11_man_96 : decode cX11_man 96 = .ok (.iload_n 1, 1) := by decide +kernel
theorem dX11_man_97 : decode cX11_man 97 = .ok (.invokevirtual 176, 3) := by decide +kernel
theorem dX11_man_100 : decode cX11_man 100 = .ok (.ireturn, 1) := by decide +kernel
theorem dX11_man_101 : decode cX11_man 101 = .ok (.aload_n 0, 1) := by decide +kernel
theorem dX11_man_102 : decode cX11_man 102 = .ok (.getfield 33, 3) := by decide +kernel
theorem dX11_man_105 : decode cX11_man 105 = .ok (.getfield 179, 3) := by decide +kernel
theorem dX11_man_108 : decode cX11_man 108 = .ok (.iload_n 1, 1) := by decide +kernel
theorem dX11_man_109 : decode cX11_man 109 = .ok (.iaload, 1) := by decide +kernel
theorem dX11_man_110 : decode cX11_man 110 = .ok (.ireturn, 1) := by decide +kernel
theorem dX11_man_111 : decode cX11_man 111 = .ok (.aload_n 0, 1) := by decide +kernel
theorem dX11_man_112 : decode cX11_man 112 = .ok (.getfield 33, 3) := by decide +kernel
theorem dX11_man_115 : decode cX11_man 115 = .ok (.getfield 182, 3) := by decide +kernel
theorem dX11_man_118 : decode cX11_man 118 = .ok (.iload_n 1, 1) := by decide +kernel
theorem dX11_man_119 : decode cX11_man 119 = .ok (.iaload, 1) := by decide +kernel
theorem dX11_man_120 : decode cX11_man 120 = .ok (.ireturn, 1) := by decide +kernel
theorem dX11_man_121 : decode cX11_man 121 = .ok (.aload_n 0, 1) := by decide +kernel
theorem dX11_man_122 : decode cX11_man 122 = .ok (.getfield 33, 3) := by decide +kernel
theorem dX11_man_125 : decode cX11_man 125 = .ok (.getfield 185, 3) := by decide +kernel
theorem dX11_man_128 : decode cX11_man 128 = .ok (.iload_n 1, 1) := by decide +kernel
theorem dX11_man_129 : decode cX11_man 129 = .ok (.iaload, 1) := by decide +kernel
theorem dX11_man_130 : decode cX11_man 130 = .ok (.ireturn, 1) := by decide +kernel
theorem dX11_man_131 : decode cX11_man 131 = .ok (.aload_n 0, 1) := by decide +kernel
theorem dX11_man_132 : decode cX11_man 132 = .ok (.getfield 33, 3) := by decide +kernel
theorem dX11_man_135 : decode cX11_man 135 = .ok (.getfield 188, 3) := by decide +kernel
theorem dX11_man_138 : decode cX11_man 138 = .ok (.iload_n 1, 1) := by decide +kernel
theorem dX11_man_139 : decode cX11_man 139 = .ok (.invokestatic 191, 3) := by decide +kernel
theorem dX11_man_142 : decode cX11_man 142 = .ok (.ifCond .eq 7, 3) := by decide +kernel
theorem dX11_man_145 : decode cX11_man 145 = .ok (.iconst 1, 1) := by decide +kernel
theorem dX11_man_146 : decode cX11_man 146 = .ok (.goto 4, 3) := by decide +kernel
theorem dX11_man_149 : decode cX11_man 149 = .ok (.iconst 0, 1) := by decide +kernel
theorem dX11_man_150 : decode cX11_man 150 = .ok (.ireturn, 1) := by decide +kernel
theorem dX11_man_151 : decode cX11_man 151 = .ok (.aload_n 0, 1) := by decide +kernel
theorem dX11_man_152 : decode cX11_man 152 = .ok (.getfield 33, 3) := by decide +kernel
theorem dX11_man_155 : decode cX11_man 155 = .ok (.getfield 195, 3) := by decide +kernel
theorem dX11_man_158 : decode cX11_man 158 = .ok (.iload_n 1, 1) := by decide +kernel
theorem dX11_man_159 : decode cX11_man 159 = .ok (.invokestatic 191, 3) := by decide +kernel
theorem dX11_man_162 : decode cX11_man 162 = .ok (.ifCond .eq 7, 3) := by decide +kernel
theorem dX11_man_165 : decode cX11_man 165 = .ok (.iconst 1, 1) := by decide +kernel
theorem dX11_man_166 : decode cX11_man 166 = .ok (.goto 4, 3) := by decide +kernel
theorem dX11_man_169 : decode cX11_man 169 = .ok (.iconst 0, 1) := by decide +kernel
theorem dX11_man_170 : decode cX11_man 170 = .ok (.ireturn, 1) := by decide +kernel
section MN
variable {l : Launch} {D : va_G} {cys : Nat → ClassId} {ty : Nat → Option Nat} {pvv : Nat → Int32}
set_option maxHeartbeats 4000000 in
theorem mn_man (hU : ck_uq ty ck_pvs0) (hun : ck_un ty) (hst : l.stackTraces = false) {a0 : Nat} {x1 x2 : Int32} (t0 : ty a0 = some 11) (hp : ck_pvo ty (ck_XE pvv) pP pvv) : vx_Met l yX11_man (Jvm.Cond.code yX11_man cX11_man 3 (some .int) :: mn_ws) ({ frames := 6, cells := 1, slots := 6, locals := 90 }) (va_Pc [.ref a0, .int x1, .int x2] (fun U => ck_B D cys ty ck_tags ck_pvs0 (GE ty) pvv U ∧ mn_T U ∧ mn_S (ck_own ty) U U.heap)) (va_Qi (fun _ (_ : Unit) => True) (fun _ t => ck_Wo D cys ty ck_tags ck_pvs0 (GE ty) pvv t.heap) (ck_own ty)) (vx_X (fun _ : Unit => True) (fun E _ t => E = "java/util/NoSuchElementException" ∧ ck_Wo D cys ty ck_tags ck_pvs0 (GE ty) pvv t.heap) (ck_own ty)) 1 6 (ck_own ty) := by
  refine vx_ofW (cc := cX11_man) (maxL := 3) (ret := some .int) (by decide) rfl ?_
  intro p e s m args below meth c s₁ B hml htab hv
  obtain ⟨rfl, ⟨hW, hK, hN⟩, hmT, hmS⟩ := hv
  have hx := B.exec
  have hb := B.bytes
  have hr := B.returns
  have hlk := B.notSynchronized
  have hts := atoms_spec (ws := Jvm.Cond.code yX11_man cX11_man 3 (some .int) :: mn_ws) B.pre
  have hin : ∀ w ∈ wsL_law0, w ∈ Jvm.Cond.code yX11_man cX11_man 3 (some .int) :: mn_ws := fun w hw => List.mem_cons_of_mem _ (List.mem_append_left _ hw)
  have hown : s.vm.findClass RX11 = some m.cls := findClass_of_methodNamed B.named
  have F : lc_F p s m [Value.ref a0, .int x1, .int x2].toArray c cX11_man D cys (Jvm.Cond.code yX11_man cX11_man 3 (some .int) :: mn_ws) RX11 3 := ⟨hx, hb, hml, hts, hin, hown, hK, hN⟩
  have hl := lv_entry [.ref a0, .int x1, .int x2] (n := 3) (Nat.le_of_ble_eq_true rfl)
  rw [lg_entry_eq]
  generalize (lg_sl [.ref a0, .int x1, .int x2] ++ List.replicate (3 - (lg_sl [.ref a0, .int x1, .int x2]).length) Slot.unset).toArray = ls at hl ⊢
  have hl : lv_has ls 3 [(0, .ref a0), (1, .int x1), (2, .int x2)] := hl
  have hS : va_S (ck_own ty) s.heap s.heap [] := va_S.rf
  have hA : ∀ q, ck_own ty q → ck_own ty q := fun _ h => h
  have ret : ∀ (H : Heap) (locs : List Loc) (r : Int32) (pc : Nat), ck_Wo D cys ty ck_tags ck_pvs0 (GE ty) pvv H → va_S (ck_own ty) s.heap H locs → decode cX11_man pc = .ok (.ireturn, 1) → W p l e ({ frames := 6, cells := 1, slots := 6, locals := 90 }) s m [Value.ref a0, .int x1, .int x2].toArray below meth c H locs 0 0 (vx_MQ below (va_Qi (fun _ (_ : Unit) => True) (fun _ t => ck_Wo D cys ty ck_tags ck_pvs0 (GE ty) pvv t.heap) (ck_own ty)) (vx_X (fun _ : Unit => True) (fun E _ t => E = "java/util/NoSuchElementException" ∧ ck_Wo D cys ty ck_tags ck_pvs0 (GE ty) pvv t.heap) (ck_own ty)) [Value.ref a0, .int x1, .int x2].toArray s 1 6 (ck_own ty)) (F0 m pc ls [.int r]) := by
    intro H locs r pc hW hS hd
    refine vx_ret (W.widen (k := 1) (n := 6) (Nat.zero_le _) (Nat.zero_le _) ?_)
    exact W.iret hx hb hr (fun t ht _ => ⟨⟨r, (), rfl, trivial, by dsimp only; rw [ht]; exact hW⟩, hS.F ht⟩) hS.2.2 hd hlk
  have thr : ∀ (H : Heap) (locs : List Loc), ck_Wo D cys ty ck_tags ck_pvs0 (GE ty) pvv H → va_S (ck_own ty) s.heap H locs → W p l e ({ frames := 6, cells := 1, slots := 6, locals := 90 }) s m [Value.ref a0, .int x1, .int x2].toArray below meth c H locs 0 0 (vx_MQ below (va_Qi (fun _ (_ : Unit) => True) (fun _ t => ck_Wo D cys ty ck_tags ck_pvs0 (GE ty) pvv t.heap) (ck_own ty)) (vx_X (fun _ : Unit => True) (fun E _ t => E = "java/util/NoSuchElementException" ∧ ck_Wo D cys ty ck_tags ck_pvs0 (GE ty) pvv t.heap) (ck_own ty)) [Value.ref a0, .int x1, .int x2].toArray s 1 6 (ck_own ty)) (F0 m 21 ls []) := by
    intro H locs hW hS
    exact vx_throw0 (own := RX11) (cls := "java/util/NoSuchElementException") (names := ["java/lang/RuntimeException", "java/lang/Exception"]) (ik := 167) (ic := 169) (A := ck_own ty) hx hb hst hown (by decide +kernel) (by decide +kernel) (hts _ (hin _ (in_r29 _ (List.mem_of_getElem? (i := 18) rfl)))) (hts _ (hin _ (in_r29 _ (List.mem_of_getElem? (i := 19) rfl)))) (vx_hat (L := vx_at0 RX11 169 "java/util/NoSuchElementException" ["java/lang/RuntimeException", "java/lang/Exception"]) (B := mn_B) (fun w hw => hts w (List.mem_cons_of_mem _ (List.mem_append_right _ hw))) mn_B_ok (fun w hw => va_Nw.use (mn_B_tab w hw) (hmT w hw))) mn_ot hmS.1 hmS.2 hS (hl.1.trans hml.symm) dX11_man_21 dX11_man_24 dX11_man_25 dX11_man_28 (fun x hx => (htab x hx).elim) (Nat.le_of_ble_eq_true rfl) (Nat.le_of_ble_eq_true rfl) (Nat.le_of_ble_eq_true rfl) (Nat.le_of_ble_eq_true rfl) hlk (fun t hv h1 h2 => ⟨(), trivial, ⟨rfl, ck_Wo_kept hW h2⟩, Nat.le_trans hS.1 h1, fun q g1 g2 => (h2 q (Nat.lt_of_lt_of_le g1 hS.1)).trans (hS.2.1 q g1 g2)⟩) hS.2.2 (Nat.le_of_ble_eq_true rfl) (Nat.le_of_ble_eq_true rfl)
  refine lv_aload_n hx hb dX11_man_0 rfl (lv_at hl 0 rfl) ?_
  refine ck_get (own := RX11) hx hb hts hin hown hK hW (ci := 11) (k := 2) t0 rfl rfl (by decide) (in_r2 _ (List.mem_of_getElem? (i := 0) rfl)) rfl dX11_man_1 (fun v hv _ => ?_)
  obtain ⟨a6, rfl, t6⟩ := hv
  refine lv_iload_n hx hb dX11_man_4 rfl (lv_at hl 1 rfl) ?_
  refine lc_callV (kc := kc_95) (b := a6) (As := [.int x1]) F hl lm_X11_164 (ch_all hU hun 95 (by decide)) ⟨⟨a6, rfl, t6⟩, hr_aF, trivial⟩ hp hW hS hA rfl ⟨Nat.le_of_ble_eq_true rfl, Nat.le_of_ble_eq_true rfl⟩ ⟨Nat.le_of_ble_eq_true rfl, Nat.le_of_ble_eq_true rfl⟩ (Nat.le_of_ble_eq_true rfl) dX11_man_5 (fun cs hcs r pvv1 H locs hco hW hS _ => ?_)
  obtain ⟨hW, z, rfl⟩ := lc_same mn_sK95 hcs hco hW
  have hz : z.toInt = 0 ∨ (0 ≤ x1.toInt ∧ x1.toInt ≤ 7) := by
    rcases List.mem_cons.mp hcs with h | h
    · have h : cs = (some (.inl (0, 0, [])), [], pU) := h
      subst h
      obtain ⟨z', e, g1, g2⟩ := hr_rvI hco.1
      cases e
      exact Or.inl (by omega)
    · have h : cs = (some (.inl (1, 1, [])), [(1, 0, 7)], pU) := List.mem_singleton.mp h
      subst h
      obtain ⟨x, e, g1, g2⟩ := hco.2.1 (1, 0, 7) (List.mem_singleton.mpr rfl)
      cases e
      exact Or.inr ⟨g1, g2⟩
  refine hr_eq0 (tgt := 21) hx hb dX11_man_8 (by decide) (fun _ => thr H locs hW hS) (fun hz1 => ?_)
  have hx1 : 0 ≤ x1.toInt ∧ x1.toInt ≤ 7 := hz.resolve_left hz1
  refine lv_iload_n hx hb dX11_man_11 rfl (lv_at hl 2 rfl) ?_
  refine hr_lt0 (tgt := 21) hx hb dX11_man_12 (by decide) (fun _ => thr H locs hW hS) (fun h2 => ?_)
  refine lv_iload_n hx hb dX11_man_15 rfl (lv_at hl 2 rfl) ?_
  refine hr_bp hx hb dX11_man_16 (by decide) (by decide) (fun z7 hz7 => ?_)
  refine hr_le (tgt := 29) hx hb dX11_man_18 (by decide) (fun h3 => ?_) (fun _ => thr H locs hW hS)
  refine lv_iload_n hx hb dX11_man_29 rfl (lv_at hl 2 rfl) ?_
  rcases (show x2.toInt = 0 ∨ x2.toInt = 1 ∨ x2.toInt = 2 ∨ x2.toInt = 3 ∨ x2.toInt = 4 ∨ x2.toInt = 5 ∨ x2.toInt = 6 ∨ x2.toInt = 7 by omega) with e2 | e2 | e2 | e2 | e2 | e2 | e2 | e2
  · refine lv_tableIn (tgt := 72) hx hb dX11_man_30 (by omega) (by omega) (by rw [e2]; rfl) (by decide) ?_
    refine lv_aload_n hx hb dX11_man_72 rfl (lv_at hl 0 rfl) ?_
    refine ck_get (own := RX11) hx hb hts hin hown hK hW (ci := 11) (k := 2) t0 rfl rfl (by decide) (in_r2 _ (List.mem_of_getElem? (i := 0) rfl)) rfl dX11_man_73 (fun v hv _ => ?_)
    obtain ⟨b6, rfl, u6⟩ := hv
    refine ck_get (own := RX11) hx hb hts hin hown hK hW (ci := 6) (k := 12) u6 rfl rfl (by decide) (in_r29 _ (List.mem_of_getElem? (i := 20) rfl)) rfl dX11_man_76 (fun v hv _ => ?_)
    obtain ⟨ba, rfl, ua⟩ := hv
    refine lv_iload_n hx hb dX11_man_79 rfl (lv_at hl 1 rfl) ?_
    refine ck_iald hx hb hK hW ua rfl (by omega) (show x1.toInt < ((8 : Nat) : Int) by omega) dX11_man_80 (fun r _ _ => ?_)
    exact ret H locs r _ hW hS dX11_man_81
  · refine lv_tableIn (tgt := 82) hx hb dX11_man_30 (by omega) (by omega) (by rw [e2]; rfl) (by decide) ?_
    refine lv_aload_n hx hb dX11_man_82 rfl (lv_at hl 0 rfl) ?_
    refine ck_get (own := RX11) hx hb hts hin hown hK hW (ci := 11) (k := 2) t0 rfl rfl (by decide) (in_r2 _ (List.mem_of_getElem? (i := 0) rfl)) rfl dX11_man_83 (fun v hv _ => ?_)
    obtain ⟨b6, rfl, u6⟩ := hv
    refine ck_get (own := RX11) hx hb hts hin hown hK hW (ci := 6) (k := 13) u6 rfl rfl (by decide) (in_r29 _ (List.mem_of_getElem? (i := 21) rfl)) rfl dX11_man_86 (fun v hv _ => ?_)
    obtain ⟨ba, rfl, ua⟩ := hv
    refine lv_iload_n hx hb dX11_man_89 rfl (lv_at hl 1 rfl) ?_
    refine ck_iald hx hb hK hW ua rfl (by omega) (show x1.toInt < ((8 : Nat) : Int) by omega) dX11_man_90 (fun r _ _ => ?_)
    exact ret H locs r _ hW hS dX11_man_91
  · refine lv_tableIn (tgt := 92) hx hb dX11_man_30 (by omega) (by omega) (by rw [e2]; rfl) (by decide) ?_
    refine lv_aload_n hx hb dX11_man_92 rfl (lv_at hl 0 rfl) ?_
    refine ck_get (own := RX11) hx hb hts hin hown hK hW (ci := 11) (k := 3) t0 rfl rfl (by decide) (in_r2 _ (List.mem_of_getElem? (i := 4) rfl)) rfl dX11_man_93 (fun v hv _ => ?_)
    obtain ⟨b2, rfl, u2⟩ := hv
    refine lv_iload_n hx hb dX11_man_96 rfl (lv_at hl 1 rfl) ?_
    refine lc_callV (kc := kc_27) (b := b2) (As := [.int x1]) F hl lm_X11_176 (ch_all hU hun 27 (by decide)) ⟨⟨b2, rfl, u2⟩, hr_aF, trivial⟩ hp hW hS hA rfl ⟨Nat.le_of_ble_eq_true rfl, Nat.le_of_ble_eq_true rfl⟩ ⟨Nat.le_of_ble_eq_true rfl, Nat.le_of_ble_eq_true rfl⟩ (Nat.le_of_ble_eq_true rfl) dX11_man_97 (fun cs hcs r pvv1 H locs hco hW hS _ => ?_)
    obtain ⟨hW, z, rfl⟩ := lc_same mn_sK27 hcs hco hW
    exact ret H locs z _ hW hS dX11_man_100
  · refine lv_tableIn (tgt := 101) hx hb dX11_man_30 (by omega) (by omega) (by rw [e2]; rfl) (by decide) ?_
    refine lv_aload_n hx hb dX11_man_101 rfl (lv_at hl 0 rfl) ?_
    refine ck_get (own := RX11) hx hb hts hin hown hK hW (ci := 11) (k := 3) t0 rfl rfl (by decide) (in_r2 _ (List.mem_of_getElem? (i := 4) rfl)) rfl dX11_man_102 (fun v hv _ => ?_)
    obtain ⟨b2, rfl, u2⟩ := hv
    refine ck_get (own := RX11) hx hb hts hin hown hK hW (ci := 2) (k := 10) u2 rfl rfl (by decide) (in_r29 _ (List.mem_of_getElem? (i := 22) rfl)) rfl dX11_man_105 (fun v hv _ => ?_)
    obtain ⟨ba, rfl, ua⟩ := hv
    refine lv_iload_n hx hb dX11_man_108 rfl (lv_at hl 1 rfl) ?_
    refine ck_iald hx hb hK hW ua rfl (by omega) (show x1.toInt < ((8 : Nat) : Int) by omega) dX11_man_109 (fun r _ _ => ?_)
    exact ret H locs r _ hW hS dX11_man_110
  · refine lv_tableIn (tgt := 111) hx hb dX11_man_30 (by omega) (by omega) (by rw [e2]; rfl) (by decide) ?_
    refine lv_aload_n hx hb dX11_man_111 rfl (lv_at hl 0 rfl) ?_
    refine ck_get (own := RX11) hx hb hts hin hown hK hW (ci := 11) (k := 3) t0 rfl rfl (by decide) (in_r2 _ (List.mem_of_getElem? (i := 4) rfl)) rfl dX11_man_112 (fun v hv _ => ?_)
    obtain ⟨b2, rfl, u2⟩ := hv
    refine ck_get (own := RX11) hx hb hts hin hown hK hW (ci := 2) (k := 11) u2 rfl rfl (by decide) (in_r29 _ (List.mem_of_getElem? (i := 23) rfl)) rfl dX11_man_115 (fun v hv _ => ?_)
    obtain ⟨ba, rfl, ua⟩ := hv
    refine lv_iload_n hx hb dX11_man_118 rfl (lv_at hl 1 rfl) ?_
    refine ck_iald hx hb hK hW ua rfl (by omega) (show x1.toInt < ((8 : Nat) : Int) by omega) dX11_man_119 (fun r _ _ => ?_)
    exact ret H locs r _ hW hS dX11_man_120
  · refine lv_tableIn (tgt := 121) hx hb dX11_man_30 (by omega) (by omega) (by rw [e2]; rfl) (by decide) ?_
    refine lv_aload_n hx hb dX11_man_121 rfl (lv_at hl 0 rfl) ?_
    refine ck_get (own := RX11) hx hb hts hin hown hK hW (ci := 11) (k := 3) t0 rfl rfl (by decide) (in_r2 _ (List.mem_of_getElem? (i := 4) rfl)) rfl dX11_man_122 (fun v hv _ => ?_)
    obtain ⟨b2, rfl, u2⟩ := hv
    refine ck_get (own := RX11) hx hb hts hin hown hK hW (ci := 2) (k := 12) u2 rfl rfl (by decide) (in_r30 _ (List.mem_of_getElem? (i := 0) rfl)) rfl dX11_man_125 (fun v hv _ => ?_)
    obtain ⟨ba, rfl, ua⟩ := hv
    refine lv_iload_n hx hb dX11_man_128 rfl (lv_at hl 1 rfl) ?_
    refine ck_iald hx hb hK hW ua rfl (by omega) (show x1.toInt < ((8 : Nat) : Int) by omega) dX11_man_129 (fun r _ _ => ?_)
    exact ret H locs r _ hW hS dX11_man_130
  · refine lv_tableIn (tgt := 131) hx hb dX11_man_30 (by omega) (by omega) (by rw [e2]; rfl) (by decide) ?_
    refine lv_aload_n hx hb dX11_man_131 rfl (lv_at hl 0 rfl) ?_
    refine ck_get (own := RX11) hx hb hts hin hown hK hW (ci := 11) (k := 3) t0 rfl rfl (by decide) (in_r2 _ (List.mem_of_getElem? (i := 4) rfl)) rfl dX11_man_132 (fun v hv _ => ?_)
    obtain ⟨b2, rfl, u2⟩ := hv
    refine ck_get (own := RX11) hx hb hts hin hown hK hW (ci := 2) (k := 6) u2 rfl rfl (by decide) (in_r30 _ (List.mem_of_getElem? (i := 1) rfl)) rfl dX11_man_135 (fun v hv _ => ?_)
    obtain ⟨y, rfl, -⟩ := hv
    refine lv_iload_n hx hb dX11_man_138 rfl (lv_at hl 1 rfl) ?_
    refine lc_callS (kc := kc_2) (As := [.int y, .int x1]) F hl lm_X11_191 (ch_all hU hun 2 (by decide)) ⟨hr_aF, hr_aF, trivial⟩ hp hW hS hA rfl ⟨Nat.le_of_ble_eq_true rfl, Nat.le_of_ble_eq_true rfl⟩ ⟨Nat.le_of_ble_eq_true rfl, Nat.le_of_ble_eq_true rfl⟩ (Nat.le_of_ble_eq_true rfl) dX11_man_139 (fun cs hcs r pvv1 H locs hco hW hS _ => ?_)
    obtain ⟨hW, z, rfl⟩ := lc_same mn_sK2 hcs hco hW
    refine hr_eq0 (tgt := 149) hx hb dX11_man_142 (by decide) (fun _ => ?_) (fun _ => ?_)
    · refine hr_ic hx hb dX11_man_149 (by decide) (fun r _ => ?_)
      exact ret H locs r _ hW hS dX11_man_150
    · refine hr_ic hx hb dX11_man_145 (by decide) (fun r _ => ?_)
      refine lv_goto (tgt := 150) hx hb dX11_man_146 (by decide) ?_
      exact ret H locs r _ hW hS dX11_man_150
  · refine lv_tableOut (tgt := 151) hx hb dX11_man_30 (by omega) (by decide) ?_
    refine lv_aload_n hx hb dX11_man_151 rfl (lv_at hl 0 rfl) ?_
    refine ck_get (own := RX11) hx hb hts hin hown hK hW (ci := 11) (k := 3) t0 rfl rfl (by decide) (in_r2 _ (List.mem_of_getElem? (i := 4) rfl)) rfl dX11_man_152 (fun v hv _ => ?_)
    obtain ⟨b2, rfl, u2⟩ := hv
    refine ck_get (own := RX11) hx hb hts hin hown hK hW (ci := 2) (k := 7) u2 rfl rfl (by decide) (in_r30 _ (List.mem_of_getElem? (i := 2) rfl)) rfl dX11_man_155 (fun v hv _ => ?_)
    obtain ⟨y, rfl, -⟩ := hv
    refine lv_iload_n hx hb dX11_man_158 rfl (lv_at hl 1 rfl) ?_
    refine lc_callS (kc := kc_2) (As := [.int y, .int x1]) F hl lm_X11_191 (ch_all hU hun 2 (by decide)) ⟨hr_aF, hr_aF, trivial⟩ hp hW hS hA rfl ⟨Nat.le_of_ble_eq_true rfl, Nat.le_of_ble_eq_true rfl⟩ ⟨Nat.le_of_ble_eq_true rfl, Nat.le_of_ble_eq_true rfl⟩ (Nat.le_of_ble_eq_true rfl) dX11_man_159 (fun cs hcs r pvv1 H locs hco hW hS _ => ?_)
    obtain ⟨hW, z, rfl⟩ := lc_same mn_sK2 hcs hco hW
    refine hr_eq0 (tgt := 169) hx hb dX11_man_162 (by decide) (fun _ => ?_) (fun _ => ?_)
    · refine hr_ic hx hb dX11_man_169 (by decide) (fun r _ => ?_)
      exact ret H locs r _ hW hS dX11_man_170
    · refine hr_ic hx hb dX11_man_165 (by decide) (fun r _ => ?_)
      refine lv_goto (tgt := 170) hx hb dX11_man_166 (by decide) ?_
      exact ret H locs r _ hW hS dX11_man_170
end MN

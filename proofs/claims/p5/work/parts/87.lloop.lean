/-! THE CLAIM OUT OF ONE WALK OF THE LAW'S BODY. Your part is whole_start (and what it stands on); all else here is the same for every law, but numbers. -/
def R_law : String := "RecastStageLaw"
def lw_P (b : Addr) (xs : List Int32) (args : Array Value) (s : State) : Prop := args = #[.ref b] ∧ s.IntsAt b xs ∧ xs.length ≤ 3072 ∧ (Jvm.Cond.and given_1 narrow_1).before args s = true
def lw_Q (_ : Array Value) (s : State) (o : Outcome) (t : State) : Prop := o = .returned (some (.int 1)) ∧ Framed s o t [] 601024 7293034
def lw_Z (below : List Frame) (a : Array Value) (s : State) : State → Prop := fun t => ∃ o, t.status = .running ∧ Ended t below o ∧ lw_Q a s o t
/-- the law's own end, with 1 on the stack, nothing written that was there before, its room as the claim has it -/
theorem lw_ret {p : Program} {l : Launch} {e : Env} {s : State} {m : MethodId} {below : List Frame} {meth : Method} {c : Code} {b : Nat} (hx : p.tables.exec = Jvm.exec) (hb : c.code = code) (hr : meth.sig.returnType = ret) (hlocks : meth.locks = false) {pc : Nat} {H : Heap} {ls : Array Slot} (hdg : decode code pc = .ok (.ireturn, 1)) : W p l e room_1 s m #[Value.ref b] below meth c H [] 601024 7293034 (lw_Z below #[Value.ref b] s) (F0 m pc ls [.int 1]) := by
  intro T hT X
  obtain ⟨fs, hret, hrun, hended, hW, hframe⟩ := X.leave (v := some (.int 1)) (hlocks := hlocks) (fun h => by rw [hr] at h; cases h)
  have hmeth' : T.vm.method? m = some meth := X.method'
  refine ⟨T.setFrames fs, ?_, .returned (some (.int 1)), hrun, hended, rfl, ⟨_, rfl⟩, hW, hframe⟩
  jvm_step X.here [X.here.top, hx, hb, hdg, hmeth', hr, ret, narrow_b1]
  (try refine ⟨rfl, ?_⟩); (try refine ⟨rfl, ?_⟩)
  first | (intro acts; rw [hret _ acts rfl rfl rfl]) | rw [hret _ _ rfl rfl rfl]
  exact Steps.refl _
/-- what holds at the law's entry: the machine, the code, the tables' words (any of lw_tbl by 'hts w (by decide +kernel)'), the script of L ints xs at the cell b, what the Statement gives of the start (any of its parts by flat_of_before) -/
def lw_At (p : Program) (s : State) (m : MethodId) (meth : Method) (c : Code) (b L : Nat) (xs : Nat → Int32) : Prop :=
  p.tables.exec = Jvm.exec ∧ c.code = code ∧ meth.sig.returnType = ret ∧ c.maxLocals = 7 ∧ s.vm.findClass R_law = some m.cls ∧ (∀ w ∈ lw_tbl, w.before #[Value.ref b] s = true) ∧ va_X b L xs s s.heap ∧ b < s.heap.size ∧ meth.locks = false ∧ (Jvm.Cond.and given_1 narrow_1).before #[Value.ref b] s = true
theorem lw_stop {p : Program} {l : Launch} {e : Env} {s : State} {m : MethodId} {below : List Frame} {meth : Method} {c : Code} {H : Heap} {locs : List Loc} {cells slots : Nat} {b : Nat} {ls : Array Slot} (hx : p.tables.exec = Jvm.exec) (hb : c.code = code) (hr : meth.sig.returnType = ret) (hlocks : meth.locks = false) (hS : va_S (lw_A s) s.heap H locs) (hcs : cells ≤ 601024 ∧ slots ≤ 7293034) : W p l e room_1 s m #[Value.ref b] below meth c H locs cells slots (lw_Z below #[Value.ref b] s) (F0 m 1218 ls []) := by
  refine lv_iconst (v := 1) hx hb (show decode code 1218 = .ok (.iconst 1, 1) by decide +kernel) (by decide) ?_
  refine va_forget (fun q hq => hS.2.2 q hq) ?_
  refine W.widen (k := 601024) (n := 7293034) hcs.1 hcs.2 ?_
  exact lw_ret hx hb hr hlocks (show decode code 1219 = .ok (.ireturn, 1) by decide +kernel)
theorem dl_40 : decode code 40 = .ok (.tableswitch 1172 0 40 #[180, 253, 278, 291, 304, 341, 381, 418, 455, 480, 517, 554, 579, 592, 629, 642, 655, 680, 693, 718, 731, 744, 757, 770, 795, 808, 833, 846, 871, 896, 909, 922, 947, 972, 1009, 1034, 1059, 1072, 1097, 1122, 1147], 180) := by decide +kernel
set_option maxHeartbeats 4000000 in
theorem lw_switch {p : Program} {l : Launch} {e : Env} {s : State} {m : MethodId} {below : List Frame} {meth : Method} {c : Code} {b L : Nat} {xs : Nat → Int32} {D : va_G} {cys : Nat → ClassId} {ty : Nat → Option Nat} {ax am qo : Nat} {n j cells slots : Nat} {pvv : Nat → Int32} {H : Heap} {locs : List Loc} {ls : Array Slot} {Q : State → Prop} (C : lw_C p l s m c b L xs D cys ty ax am qo) (hn : n + 6 ≤ L) (hj : j < 41) (hcs : cells + 1 ≤ 601024 ∧ slots + 6 ≤ 7293034) (hl : lv_has ls 7 (lw_lv b ax am qo n)) (hI : lw_I s D cys ty qo pvv H locs) (he : lw_E pvv) (G : lw_G p l e s m below meth c b D cys ty ax am qo n (cells + 1) (slots + 6) Q) : W p l e room_1 s m #[Value.ref b] below meth c H locs cells slots Q (F0 m 40 ls [.int (nI j)]) := by
  have hx := C.1.1
  have hb := C.1.2.1
  match j, hj with
  | 0, _ =>
    refine lv_tableIn (tgt := 220) hx hb dl_40 (by decide) (by decide) rfl (by decide) ?_
    refine W.widen (k := cells + 1) (n := slots + 6) (Nat.le_add_right _ _) (Nat.le_add_right _ _) ?_
    exact lw_feed C hn hcs hl hI he G
  | 1, _ =>
    refine lv_tableIn (tgt := 293) hx hb dl_40 (by decide) (by decide) rfl (by decide) ?_
    refine W.widen (k := cells + 1) (n := slots + 6) (Nat.le_add_right _ _) (Nat.le_add_right _ _) ?_
    exact lw_end C hn hcs hl hI he G
  | 2, _ =>
    refine lv_tableIn (tgt := 318) hx hb dl_40 (by decide) (by decide) rfl (by decide) ?_
    refine W.widen (k := cells + 1) (n := slots + 6) (Nat.le_add_right _ _) (Nat.le_add_right _ _) ?_
    exact lw_play C hn hcs hl hI he G
  | 3, _ =>
    refine lv_tableIn (tgt := 331) hx hb dl_40 (by decide) (by decide) rfl (by decide) ?_
    refine W.widen (k := cells + 1) (n := slots + 6) (Nat.le_add_right _ _) (Nat.le_add_right _ _) ?_
    exact lw_cmp C hn hcs hl hI he G
  | 4, _ =>
    refine lv_tableIn (tgt := 344) hx hb dl_40 (by decide) (by decide) rfl (by decide) ?_
    refine W.widen (k := cells + 1) (n := slots + 6) (Nat.le_add_right _ _) (Nat.le_add_right _ _) ?_
    exact lw_c4 C hn hcs hl hI he G
  | 5, _ =>
    refine lv_tableIn (tgt := 381) hx hb dl_40 (by decide) (by decide) rfl (by decide) ?_
    exact lw_man C hn hcs hl hI he G
  | 6, _ =>
    refine lv_tableIn (tgt := 421) hx hb dl_40 (by decide) (by decide) rfl (by decide) ?_
    refine W.widen (k := cells + 1) (n := slots + 6) (Nat.le_add_right _ _) (Nat.le_add_right _ _) ?_
    exact lw_c6 C hn hcs hl hI he G
  | 7, _ =>
    refine lv_tableIn (tgt := 458) hx hb dl_40 (by decide) (by decide) rfl (by decide) ?_
    refine W.widen (k := cells + 1) (n := slots + 6) (Nat.le_add_right _ _) (Nat.le_add_right _ _) ?_
    exact lw_c7 C hn hcs hl hI he G
  | 8, _ =>
    refine lv_tableIn (tgt := 495) hx hb dl_40 (by decide) (by decide) rfl (by decide) ?_
    refine W.widen (k := cells + 1) (n := slots + 6) (Nat.le_add_right _ _) (Nat.le_add_right _ _) ?_
    exact lw_c8 C hn hcs hl hI he G
  | 9, _ =>
    refine lv_tableIn (tgt := 520) hx hb dl_40 (by decide) (by decide) rfl (by decide) ?_
    refine W.widen (k := cells + 1) (n := slots + 6) (Nat.le_add_right _ _) (Nat.le_add_right _ _) ?_
    exact lw_c9 C hn hcs hl hI he G
  | 10, _ =>
    refine lv_tableIn (tgt := 557) hx hb dl_40 (by decide) (by decide) rfl (by decide) ?_
    refine W.widen (k := cells + 1) (n := slots + 6) (Nat.le_add_right _ _) (Nat.le_add_right _ _) ?_
    exact lw_c10 C hn hcs hl hI he G
  | 11, _ =>
    refine lv_tableIn (tgt := 594) hx hb dl_40 (by decide) (by decide) rfl (by decide) ?_
    refine W.widen (k := cells + 1) (n := slots + 6) (Nat.le_add_right _ _) (Nat.le_add_right _ _) ?_
    exact lw_c11 C hn hcs hl hI he G
  | 12, _ =>
    refine lv_tableIn (tgt := 619) hx hb dl_40 (by decide) (by decide) rfl (by decide) ?_
    refine W.widen (k := cells + 1) (n := slots + 6) (Nat.le_add_right _ _) (Nat.le_add_right _ _) ?_
    exact lw_c12 C hn hcs hl hI he G
  | 13, _ =>
    refine lv_tableIn (tgt := 632) hx hb dl_40 (by decide) (by decide) rfl (by decide) ?_
    refine W.widen (k := cells + 1) (n := slots + 6) (Nat.le_add_right _ _) (Nat.le_add_right _ _) ?_
    exact lw_c13 C hn hcs hl hI he G
  | 14, _ =>
    refine lv_tableIn (tgt := 669) hx hb dl_40 (by decide) (by decide) rfl (by decide) ?_
    refine W.widen (k := cells + 1) (n := slots + 6) (Nat.le_add_right _ _) (Nat.le_add_right _ _) ?_
    exact lw_c14 C hn hcs hl hI he G
  | 15, _ =>
    refine lv_tableIn (tgt := 682) hx hb dl_40 (by decide) (by decide) rfl (by decide) ?_
    refine W.widen (k := cells + 1) (n := slots + 6) (Nat.le_add_right _ _) (Nat.le_add_right _ _) ?_
    exact lw_c15 C hn hcs hl hI he G
  | 16, _ =>
    refine lv_tableIn (tgt := 695) hx hb dl_40 (by decide) (by decide) rfl (by decide) ?_
    refine W.widen (k := cells + 1) (n := slots + 6) (Nat.le_add_right _ _) (Nat.le_add_right _ _) ?_
    exact lw_c16 C hn hcs hl hI he G
  | 17, _ =>
    refine lv_tableIn (tgt := 720) hx hb dl_40 (by decide) (by decide) rfl (by decide) ?_
    refine W.widen (k := cells + 1) (n := slots + 6) (Nat.le_add_right _ _) (Nat.le_add_right _ _) ?_
    exact lw_c17 C hn hcs hl hI he G
  | 18, _ =>
    refine lv_tableIn (tgt := 733) hx hb dl_40 (by decide) (by decide) rfl (by decide) ?_
    refine W.widen (k := cells + 1) (n := slots + 6) (Nat.le_add_right _ _) (Nat.le_add_right _ _) ?_
    exact lw_c18 C hn hcs hl hI he G
  | 19, _ =>
    refine lv_tableIn (tgt := 758) hx hb dl_40 (by decide) (by decide) rfl (by decide) ?_
    refine W.widen (k := cells + 1) (n := slots + 6) (Nat.le_add_right _ _) (Nat.le_add_right _ _) ?_
    exact lw_c19 C hn hcs hl hI he G
  | 20, _ =>
    refine lv_tableIn (tgt := 771) hx hb dl_40 (by decide) (by decide) rfl (by decide) ?_
    refine W.widen (k := cells + 1) (n := slots + 6) (Nat.le_add_right _ _) (Nat.le_add_right _ _) ?_
    exact lw_c20 C hn hcs hl hI he G
  | 21, _ =>
    refine lv_tableIn (tgt := 784) hx hb dl_40 (by decide) (by decide) rfl (by decide) ?_
    refine W.widen (k := cells + 1) (n := slots + 6) (Nat.le_add_right _ _) (Nat.le_add_right _ _) ?_
    exact lw_c21 C hn hcs hl hI he G
  | 22, _ =>
    refine lv_tableIn (tgt := 797) hx hb dl_40 (by decide) (by decide) rfl (by decide) ?_
    refine W.widen (k := cells + 1) (n := slots + 6) (Nat.le_add_right _ _) (Nat.le_add_right _ _) ?_
    exact lw_c22 C hn hcs hl hI he G
  | 23, _ =>
    refine lv_tableIn (tgt := 810) hx hb dl_40 (by decide) (by decide) rfl (by decide) ?_
    refine W.widen (k := cells + 1) (n := slots + 6) (Nat.le_add_right _ _) (Nat.le_add_right _ _) ?_
    exact lw_c23 C hn hcs hl hI he G
  | 24, _ =>
    refine lv_tableIn (tgt := 835) hx hb dl_40 (by decide) (by decide) rfl (by decide) ?_
    refine W.widen (k := cells + 1) (n := slots + 6) (Nat.le_add_right _ _) (Nat.le_add_right _ _) ?_
    exact lw_c24 C hn hcs hl hI he G
  | 25, _ =>
    refine lv_tableIn (tgt := 848) hx hb dl_40 (by decide) (by decide) rfl (by decide) ?_
    refine W.widen (k := cells + 1) (n := slots + 6) (Nat.le_add_right _ _) (Nat.le_add_right _ _) ?_
    exact lw_c25 C hn hcs hl hI he G
  | 26, _ =>
    refine lv_tableIn (tgt := 873) hx hb dl_40 (by decide) (by decide) rfl (by decide) ?_
    refine W.widen (k := cells + 1) (n := slots + 6) (Nat.le_add_right _ _) (Nat.le_add_right _ _) ?_
    exact lw_c26 C hn hcs hl hI he G
  | 27, _ =>
    refine lv_tableIn (tgt := 886) hx hb dl_40 (by decide) (by decide) rfl (by decide) ?_
    refine W.widen (k := cells + 1) (n := slots + 6) (Nat.le_add_right _ _) (Nat.le_add_right _ _) ?_
    exact lw_c27 C hn hcs hl hI he G
  | 28, _ =>
    refine lv_tableIn (tgt := 911) hx hb dl_40 (by decide) (by decide) rfl (by decide) ?_
    refine W.widen (k := cells + 1) (n := slots + 6) (Nat.le_add_right _ _) (Nat.le_add_right _ _) ?_
    exact lw_c28 C hn hcs hl hI he G
  | 29, _ =>
    refine lv_tableIn (tgt := 936) hx hb dl_40 (by decide) (by decide) rfl (by decide) ?_
    refine W.widen (k := cells + 1) (n := slots + 6) (Nat.le_add_right _ _) (Nat.le_add_right _ _) ?_
    exact lw_c29 C hn hcs hl hI he G
  | 30, _ =>
    refine lv_tableIn (tgt := 949) hx hb dl_40 (by decide) (by decide) rfl (by decide) ?_
    refine W.widen (k := cells + 1) (n := slots + 6) (Nat.le_add_right _ _) (Nat.le_add_right _ _) ?_
    exact lw_c30 C hn hcs hl hI he G
  | 31, _ =>
    refine lv_tableIn (tgt := 962) hx hb dl_40 (by decide) (by decide) rfl (by decide) ?_
    refine W.widen (k := cells + 1) (n := slots + 6) (Nat.le_add_right _ _) (Nat.le_add_right _ _) ?_
    exact lw_c31 C hn hcs hl hI he G
  | 32, _ =>
    refine lv_tableIn (tgt := 987) hx hb dl_40 (by decide) (by decide) rfl (by decide) ?_
    refine W.widen (k := cells + 1) (n := slots + 6) (Nat.le_add_right _ _) (Nat.le_add_right _ _) ?_
    exact lw_c32 C hn hcs hl hI he G
  | 33, _ =>
    refine lv_tableIn (tgt := 1012) hx hb dl_40 (by decide) (by decide) rfl (by decide) ?_
    refine W.widen (k := cells + 1) (n := slots + 6) (Nat.le_add_right _ _) (Nat.le_add_right _ _) ?_
    exact lw_c33 C hn hcs hl hI he G
  | 34, _ =>
    refine lv_tableIn (tgt := 1049) hx hb dl_40 (by decide) (by decide) rfl (by decide) ?_
    refine W.widen (k := cells + 1) (n := slots + 6) (Nat.le_add_right _ _) (Nat.le_add_right _ _) ?_
    exact lw_book C hn hcs hl hI he G
  | 35, _ =>
    refine lv_tableIn (tgt := 1074) hx hb dl_40 (by decide) (by decide) rfl (by decide) ?_
    refine W.widen (k := cells + 1) (n := slots + 6) (Nat.le_add_right _ _) (Nat.le_add_right _ _) ?_
    exact lw_c35 C hn hcs hl hI he G
  | 36, _ =>
    refine lv_tableIn (tgt := 1099) hx hb dl_40 (by decide) (by decide) rfl (by decide) ?_
    refine W.widen (k := cells + 1) (n := slots + 6) (Nat.le_add_right _ _) (Nat.le_add_right _ _) ?_
    exact lw_sentence C hn hcs hl hI he G
  | 37, _ =>
    refine lv_tableIn (tgt := 1112) hx hb dl_40 (by decide) (by decide) rfl (by decide) ?_
    refine W.widen (k := cells + 1) (n := slots + 6) (Nat.le_add_right _ _) (Nat.le_add_right _ _) ?_
    exact lw_c37 C hn hcs hl hI he G
  | 38, _ =>
    refine lv_tableIn (tgt := 1137) hx hb dl_40 (by decide) (by decide) rfl (by decide) ?_
    refine W.widen (k := cells + 1) (n := slots + 6) (Nat.le_add_right _ _) (Nat.le_add_right _ _) ?_
    exact lw_image C hn hcs hl hI he G
  | 39, _ =>
    refine lv_tableIn (tgt := 1162) hx hb dl_40 (by decide) (by decide) rfl (by decide) ?_
    refine W.widen (k := cells + 1) (n := slots + 6) (Nat.le_add_right _ _) (Nat.le_add_right _ _) ?_
    exact lw_restore C hn hcs hl hI he G
  | 40, _ =>
    refine lv_tableIn (tgt := 1187) hx hb dl_40 (by decide) (by decide) rfl (by decide) ?_
    refine W.widen (k := cells + 1) (n := slots + 6) (Nat.le_add_right _ _) (Nat.le_add_right _ _) ?_
    exact lw_c40 C hn hcs hl hI he G
  | j + 41, h => exact absurd h (by omega)
set_option maxHeartbeats 4000000 in
theorem lw_loop {p : Program} {l : Launch} {e : Env} {s : State} {m : MethodId} {below : List Frame} {meth : Method} {c : Code} {b L : Nat} {xs : Nat → Int32} {D : va_G} {cys : Nat → ClassId} {ty : Nat → Option Nat} {ax am qo : Nat} (C : lw_C p l s m c b L xs D cys ty ax am qo) (hr : meth.sig.returnType = ret) (hlocks : meth.locks = false) : ∀ (k n : Nat), L < n + k → n ≤ L → ∀ (cells slots : Nat) (pvv : Nat → Int32) (H : Heap) (locs : List Loc) (ls : Array Slot), cells + k ≤ 601024 → slots + 6 * k ≤ 7293034 → lw_I s D cys ty qo pvv H locs → lw_E pvv → lv_has ls 7 (lw_lv b ax am qo n) → W p l e room_1 s m #[Value.ref b] below meth c H locs cells slots (lw_Z below #[Value.ref b] s) (F0 m 23 ls []) := by
  have C' := C
  obtain ⟨⟨hx, hb, hml, hts, hin, hown, hK, hN⟩, hX, hbl, hL, -⟩ := C
  have hbA : ¬ lw_A s b := Nat.not_le.mpr hbl
  intro k
  induction k with
  | zero => intro n h1 h2; omega
  | succ k ih =>
    intro n h1 h2 cells slots pvv H locs ls hc1 hs1 hI he hl
    refine lv_iload hx hb (show decode code 23 = .ok (.iload 4, 2) by decide +kernel) (lv_at hl 4 rfl) ?_
    refine lv_aload_n hx hb (show decode code 25 = .ok (.aload_n 0, 1) by decide +kernel) rfl (lv_at hl 0 rfl) ?_
    refine va_slen hx hb hX hbl hbA hI.2.2.2 (show decode code 26 = .ok (.arraylength, 1) by decide +kernel) ?_
    refine lv_bipush (v := 6) hx hb (show decode code 27 = .ok (.bipush 6, 2) by decide +kernel) (by decide) ?_
    refine lv_isub hx hb (show decode code 29 = .ok (.isub, 1) by decide +kernel) ?_
    have e1 : (Int32.ofNat L - 6).toInt = (L : Int) - 6 := pk_sub_toInt (a := L) (b := 6) (by omega) (by omega)
    have e2 : (nI n).toInt = (n : Int) := nI_toInt (by omega)
    refine lv_icmp_gt (tgt := 1218) hx hb (show decode code 30 = .ok (.if_icmp .gt 1188, 3) by decide +kernel) (by decide) (fun _ => ?_) (fun h => ?_)
    · exact lw_stop hx hb hr hlocks hI.2.2.2 ⟨by omega, by omega⟩
    have hn : n + 6 ≤ L := by
      have h3 : ¬ (Int32.ofNat L - 6).toInt < (nI n).toInt := fun z => h (Int32.lt_iff_toInt_lt.mpr z)
      omega
    refine lv_aload_n hx hb (show decode code 33 = .ok (.aload_n 0, 1) by decide +kernel) rfl (lv_at hl 0 rfl) ?_
    refine lv_iload hx hb (show decode code 34 = .ok (.iload 4, 2) by decide +kernel) (lv_at hl 4 rfl) ?_
    refine va_sld hx hb hX hbl hbA hI.2.2.2 (vp_in_nI (by omega) (by omega)) (show decode code 36 = .ok (.iaload, 1) by decide +kernel) ?_
    refine lv_bipush (v := 63) hx hb (show decode code 37 = .ok (.bipush 63, 2) by decide +kernel) (by decide) ?_
    refine lv_iand hx hb (show decode code 39 = .ok (.iand, 1) by decide +kernel) ?_
    obtain ⟨j, hj, ej⟩ := pk_andE (xs (nI n).toNatClampNeg) (m := 63) 6 (by decide)
    rw [ej]
    have G : lw_G p l e s m below meth c b D cys ty ax am qo n (cells + 1) (slots + 6) (lw_Z below #[Value.ref b] s) := by
      intro pvv H locs ls hI he hl
      refine lv_iinc (v := nI (n + 6)) (lv' := [(4, .int (nI (n + 6))), (0, .ref b), (1, .ref ax), (2, .ref am), (3, .ref qo)]) hx hb (show decode code 1212 = .ok (.iinc 4 6, 3) by decide +kernel) hl (k := 4) rfl (nI_add n 6) (by decide) rfl (fun ls hl => ?_)
      refine lv_goto (tgt := 23) hx hb (show decode code 1215 = .ok (.goto (-1192), 3) by decide +kernel) (by decide) ?_
      exact ih (n + 6) (by omega) hn (cells + 1) (slots + 6) pvv H locs ls (by omega) (by omega) hI he (lv_sub hl [1, 2, 3, 4, 0] rfl)
    by_cases hj2 : j < 41
    · exact lw_switch C' hn hj2 ⟨by omega, by omega⟩ hl hI he G
    · refine lv_tableOut (tgt := 1212) hx hb dl_40 (Or.inr (by rw [nI_toInt (by omega)]; omega)) (by decide) ?_
      refine W.widen (k := cells + 1) (n := slots + 6) (Nat.le_add_right _ _) (Nat.le_add_right _ _) ?_
      exact G pvv H locs ls hI he hl
theorem pPM0 {ty : Nat → Option Nat} : ck_pvo ty (ck_XE (fun _ => 0)) pPM (fun _ => 0) := by
  have key : pPM.all (fun av => match av with
    | .inl r => decide (r.1 ≤ 0) && decide (0 ≤ r.2.1) && r.2.2.all (fun d => decide (d.2.1 ≤ 0) && decide (0 ≤ d.2.2))
    | _ => false) = true := by decide +kernel
  intro j av hj
  have h := List.all_eq_true.mp key av (List.mem_of_getElem? hj)
  match av, h with
  | .inl (lo, hi, ds), h =>
    simp only [Bool.and_eq_true, decide_eq_true_eq, List.all_eq_true] at h
    obtain ⟨⟨h1, h2⟩, h3⟩ := h
    refine ⟨0, rfl, h1, h2, fun d hd => ?_⟩
    have h4 := h3 d hd
    have e0 : ck_XE (fun _ => 0) d.1 = 0 := rfl
    rw [e0, show (0 : Int32).toInt = 0 from rfl]
    omega
def lw_TG : List Nat := [11, 33, 8, 10, 15, 16, 7, 13, 53, 54, 55, 56, 57, 58, 59, 60, 61, 62, 63, 64, 65, 66, 6, 67, 68, 69, 70, 71, 72, 73, 74, 75, 76, 77, 78, 79, 80, 2, 26, 26, 21, 21, 21, 2, 26, 26, 21, 21, 21, 3, 32, 2, 26, 26, 21, 21, 21, 2, 26, 26, 21, 21, 21, 2, 26, 26, 21, 21, 21, 2, 26, 26, 21, 21, 21, 2, 26, 26, 21, 21, 21, 2, 26, 26, 21, 21, 21, 2, 26, 26, 21, 21, 21, 2, 26, 26, 21, 21, 21, 9, 25, 25, 25, 25, 14, 25, 25, 25, 25, 1, 21, 28, 20, 20, 22, 24, 27, 27, 5, 20, 21, 0, 29, 30, 31, 26, 4, 51, 81, 82, 83, 84, 85, 86, 87, 88, 89, 90, 91, 92, 93, 94, 2, 26, 26, 21, 21, 21, 110, 25, 25, 25, 25, 48, 52, 95, 96, 97, 98, 99, 100, 101, 102, 103, 104, 105, 106, 107, 108, 2, 26, 26, 21, 21, 21, 111, 25, 25, 25, 25, 12, 50, 49, 34, 35, 36, 19, 37, 38, 47, 39, 40, 20, 20, 41, 20, 42, 43, 44, 45, 109, 46]
theorem lw_TGuq : ck_pvs0.all (fun q => decide (lw_TG.count q.1 ≤ 1)) = true := by decide +kernel
theorem lw_TGun : ck_uns.all (fun t => decide (lw_TG.count t ≤ 1)) = true := by decide +kernel
set_option maxHeartbeats 4000000 in
set_option maxRecDepth 100000 in
theorem whole_start {p : Program} {e : Env} {s : State} {m : MethodId} {below : List Frame} {meth : Method} {c : Code} (l : Launch) (hflags : l.flags = flags0) {b L : Nat} {xs : Nat → Int32} (hL : L ≤ 3072) (C0 : lw_At p s m meth c b L xs) : W p l e room_1 s m #[Value.ref b] below meth c s.heap [] 0 0 (lw_Z below #[Value.ref b] s) (entryFrame m ([Value.ref b] : List Value).toArray 7) := by
  obtain ⟨hx, hb, hr, hml, hown, hts, hX, hbl, hlocks, hgv⟩ := id C0
  have hst : l.stackTraces = false := by
    unfold Launch.stackTraces
    rw [hflags]
    decide +kernel
  obtain ⟨D, cys, hT⟩ := st_bT hts
  obtain ⟨jq, jv, fo, hJ⟩ := st_lit hts hgv
  have hown : s.vm.findClass RL = some m.cls := hown
  have hA : ∀ q : Nat, s.heap.size ≤ q → lw_A s q := fun _ h => h
  have hl := lv_entry ([.ref b]) (n := 7) (Nat.le_of_ble_eq_true rfl)
  rw [lg_entry_eq]
  generalize (lg_sl ([.ref b]) ++ List.replicate (7 - (lg_sl ([.ref b])).length) Slot.unset).toArray = ls at hl ⊢
  have hl : lv_has ls 7 [(0, .ref b)] := hl
  have hB : bS D cys (lw_A s) s.heap [] [] [] s.heap [] := ⟨va_S.rf, [], [], fun k x hx => by simp at hx, ⟨fun i j x y hx => by simp at hx, fun k x hx => by simp at hx⟩, bz_nil, (fun r hr => by cases hr), rfl⟩
  refine bw_newx (own := RL) (con_11 lt_ok) hx hb hml hl hts tb_law hown hT hA hJ hB rfl tyX11_ok b_d11 (in_r1 _ (List.mem_of_getElem? (i := 0) rfl)) (in_r1 _ (List.mem_of_getElem? (i := 1) rfl)) (in_r1 _ (List.mem_of_getElem? (i := 2) rfl)) (in_r1 _ (List.mem_of_getElem? (i := 8) rfl)) (in_r1 _ (List.mem_of_getElem? (i := 9) rfl)) (in_r1 _ (List.mem_of_getElem? (i := 7) rfl)) rfl (by decide +kernel) ⟨Nat.le_of_ble_eq_true rfl, Nat.le_of_ble_eq_true rfl⟩ (Nat.le_of_ble_eq_true rfl) (Nat.le_of_ble_eq_true rfl) (Nat.le_of_ble_eq_true rfl) (show decode code 0 = .ok (.new 8, 3) by decide +kernel) (show decode code 3 = .ok (.dup, 1) by decide +kernel) (show decode code 4 = .ok (.invokespecial 15, 3) by decide +kernel) (fun ax H locs hB => ?_)
  refine lv_astore_n (lv' := [(1, .ref ax), (0, .ref b)]) hx hb (show decode code 7 = .ok (.astore_n 1, 1) by decide +kernel) rfl hl (by decide) rfl (fun ls hl => ?_)
  refine bw_newo (own := RL) con_12 hx hb hml hl hts tb_law hown hT hA hB rfl tyX12_ok b_d12 (in_r1 _ (List.mem_of_getElem? (i := 3) rfl)) (in_r1 _ (List.mem_of_getElem? (i := 4) rfl)) (in_r1 _ (List.mem_of_getElem? (i := 5) rfl)) (in_r11 _ (List.mem_of_getElem? (i := 13) rfl)) (in_r11 _ (List.mem_of_getElem? (i := 14) rfl)) (in_r11 _ (List.mem_of_getElem? (i := 12) rfl)) rfl (by decide +kernel) ⟨Nat.le_of_ble_eq_true rfl, Nat.le_of_ble_eq_true rfl⟩ (Nat.le_of_ble_eq_true rfl) (Nat.le_of_ble_eq_true rfl) (Nat.le_of_ble_eq_true rfl) (show decode code 8 = .ok (.new 16, 3) by decide +kernel) (show decode code 11 = .ok (.dup, 1) by decide +kernel) (show decode code 12 = .ok (.invokespecial 18, 3) by decide +kernel) (fun am H locs hB => ?_)
  refine lv_astore_n (lv' := [(2, .ref am), (1, .ref ax), (0, .ref b)]) hx hb (show decode code 15 = .ok (.astore_n 2, 1) by decide +kernel) rfl hl (by decide) rfl (fun ls hl => ?_)
  refine lv_iconst (v := 1) hx hb (show decode code 16 = .ok (.iconst 1, 1) by decide +kernel) (by decide) ?_
  obtain ⟨hS, τ, ws, hP, hD, hbz, hLt, hTG⟩ := hB
  have hTG : τ.map Prod.snd = lw_TG := hTG
  have hK := hT.1
  refine va_newa hx hb (atype := .long) (hts _ (tb_law _ (in_r1 _ (List.mem_of_getElem? (i := 6) rfl)))) (ty := .long) rfl hK hP hD hS hA (N' := 1) (a0 := (1, .inr (.inl (fun _ => 0)))) (fun cA => rfl) (by decide) (by decide) (by decide) (Nat.le_of_ble_eq_true rfl) (Nat.le_of_ble_eq_true rfl) (show decode code 17 = .ok (.newarray .long, 2) by decide +kernel) (fun qo cA H hK' hP' hD' hS' => ?_)
  have ec := b_RA (hK'.2 (ck_tys cys).length (cA, .long) (by rw [List.getElem?_append_right (Nat.le_refl _), Nat.sub_self]; rfl)).2 (hK.2 3 _ rfl).2
  dsimp only at ec
  subst ec
  have hP' : va_P D ck_cl (ws ++ [(qo, .inl (cys 3, (1, .inr (.inl (fun _ => (0 : Int64))))))]) H := hP'
  have hD' : va_D (lw_A s) (ws ++ [(qo, .inl (cys 3, (1, .inr (.inl (fun _ => (0 : Int64))))))]) := hD'
  have hPw : va_P D ck_cl ws H := fun k x hx => hP' k x (by rw [List.getElem?_append_left (List.getElem?_eq_some_iff.mp hx).1]; exact hx)
  have hlast : (ws ++ [(qo, Sum.inl (cys 3, (1, Sum.inr (Sum.inl (fun _ => (0 : Int64))))))])[ws.length]? = some (qo, .inl (cys 3, (1, .inr (.inl (fun _ => 0))))) := by rw [List.getElem?_append_right (Nat.le_refl _), Nat.sub_self]; rfl
  have hO : lo_P D cys qo H := ⟨fun _ => 0, fun k x hx => by
    have h1 : k < 1 := (List.getElem?_eq_some_iff.mp hx).1
    rw [show k = 0 by omega] at hx
    cases hx
    exact hP' ws.length _ hlast⟩
  have hin1 : ∀ (q t : Nat), lk τ q = some t → ∃ (i : Nat) (en : va_E), ws[i]? = some (q, en) := fun q t h => bz_at hbz (List.mem_map.mpr ⟨(q, t), lk_in h, rfl⟩)
  have hqo : ¬ ck_own (lk τ) qo := fun h => by
    obtain ⟨t, ht⟩ := Option.isSome_iff_exists.mp h
    obtain ⟨i, en, hi⟩ := hin1 qo t ht
    have hil : i < ws.length := (List.getElem?_eq_some_iff.mp hi).1
    have := hD'.1 i ws.length (qo, en) _ (by rw [List.getElem?_append_left hil]; exact hi) hlast rfl
    omega
  have hownA : ∀ q, ck_own (lk τ) q → lw_A s q := fun q h => by
    obtain ⟨t, ht⟩ := Option.isSome_iff_exists.mp h
    obtain ⟨i, en, hi⟩ := hin1 q t ht
    exact hD.2 i _ hi
  have hU : ck_uq (lk τ) ck_pvs0 := fun j t k hj a a' h h' => bz_un hTG (of_decide_eq_true (List.all_eq_true.mp lw_TGuq (t, k) (List.mem_of_getElem? hj))) h h'
  have hun : ck_un (lk τ) := fun t ht a a' h h' => bz_un hTG (of_decide_eq_true (List.all_eq_true.mp lw_TGun t ht)) h h'
  have tx : lk τ ax = some 11 := lk_mem hbz.2.1 (hLt (ax, 11) (List.mem_of_getElem? (i := 1) rfl))
  have tm : lk τ am = some 12 := lk_mem hbz.2.1 (hLt (am, 12) (List.mem_of_getElem? (i := 0) rfl))
  have C : lw_C p l s m c b L xs D cys (lk τ) ax am qo := ⟨⟨hx, hb, hml, hts, tb_law, hown, hK, hT.2.1⟩, hX, hbl, hL, ⟨hU, hun⟩, tx, tm, hqo, hownA, hD'.2 ws.length _ hlast, hst, st_T hts, st_S hts hgv⟩
  have hI : lw_I s D cys (lk τ) qo (fun _ => 0) H _ := ⟨pPM0, bz_Wo hbz hPw hD, hO, hS'⟩
  refine lv_astore_n (lv' := [(3, .ref qo), (2, .ref am), (1, .ref ax), (0, .ref b)]) hx hb (show decode code 19 = .ok (.astore_n 3, 1) by decide +kernel) rfl hl (by decide) rfl (fun ls hl => ?_)
  refine lv_iconst (v := 0) hx hb (show decode code 20 = .ok (.iconst 0, 1) by decide +kernel) (by decide) ?_
  refine lv_istore (lv' := [(4, .int (nI 0)), (3, .ref qo), (2, .ref am), (1, .ref ax), (0, .ref b)]) hx hb (show decode code 21 = .ok (.istore 4, 2) by decide +kernel) hl (by decide) rfl (fun ls hl => ?_)
  exact lw_loop C hr hlocks (L + 1) 0 (by omega) (Nat.zero_le _) _ _ _ H _ ls (by omega) (by omega) hI ⟨rfl, rfl, rfl, rfl⟩ (lv_sub hl [4, 3, 2, 1, 0] rfl)

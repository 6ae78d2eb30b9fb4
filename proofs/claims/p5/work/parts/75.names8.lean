/-! BUILDING, 5: the reader's words, out of the literal. -/
def jX (q v n : Nat) (byt : Nat → Int32) (fo : Value) (tx : String) (A : Nat → Prop) (U : State) (H : Heap) : Prop := vk_R RX8 47 tx q U ∧ va_Z "java/lang/String" "COMPACT_STRINGS" "Z" (.int 1) A U H ∧ va_Z "jdk/internal/util/Preconditions" "SIOOBE_FORMATTER" "Ljava/util/function/BiFunction;" fo A U H ∧ va_O "java/lang/String" q A U H ∧ va_OF "java/lang/String" "coder" "B" (.int 0) q A U H ∧ va_OF "java/lang/String" "value" "[B" (.ref v) q A U H ∧ va_T .byte v n (fun j => .int (byt j)) A U H ∧ fo.category = 1
section JX
variable {q v n : Nat} {byt : Nat → Int32} {fo : Value} {tx : String} {A B : Nat → Prop} {s U : State} {H H1 : Heap}
theorem jX_kept (h : jX q v n byt fo tx A s H) (hk : ∀ a : Nat, a < H.size → ¬ A a → H1[a]? = H[a]?) : jX q v n byt fo tx A s H1 := by
  obtain ⟨h0, h1, h2, h3, h4, h5, h6, h7⟩ := h
  exact ⟨h0, h1.kept hk, h2.kept hk, h3.kept hk, h4.kept hk, h5.kept hk, h6.kept hk, h7⟩
theorem jX_narrow (h : jX q v n byt fo tx A s H) (hAB : ∀ x, B x → A x) : jX q v n byt fo tx B s H := by
  obtain ⟨h0, h1, h2, h3, h4, h5, h6, h7⟩ := h
  exact ⟨h0, h1.narrow hAB, h2.narrow hAB, h3.narrow hAB, h4.narrow hAB, h5.narrow hAB, h6.narrow hAB, h7⟩
theorem jX_warm (hW : s.WarmedH U.vm) (h : jX q v n byt fo tx A s H) : jX q v n byt fo tx A U H := by
  obtain ⟨h0, h1, h2, h3, h4, h5, h6, h7⟩ := h
  exact ⟨h0.warm hW, va_Z.moved hW.alike h1, va_Z.moved hW.alike h2, va_O.moved hW.alike h3, va_OF.moved hW.alike h4, va_OF.moved hW.alike h5, va_T.moved hW.alike h6, h7⟩
theorem jX_same (hv : U.vm = s.vm) (h : jX q v n byt fo tx A s H) : jX q v n byt fo tx A U H := by
  obtain ⟨h0, h1, h2, h3, h4, h5, h6, h7⟩ := h
  have ha : s.vm.Alike U.vm := by rw [hv]; exact Vm.Alike.refl s.vm
  exact ⟨h0.same hv, va_Z.moved ha h1, va_Z.moved ha h2, va_O.moved ha h3, va_OF.moved ha h4, va_OF.moved ha h5, va_T.moved ha h6, h7⟩
theorem jX_jW (h : jX q v n byt fo tx A s s.heap) : jW q v n byt fo s := by
  obtain ⟨h0, h1, h2, h3, h4, h5, h6, h7⟩ := h
  have hn : ∀ x : Nat, (fun _ : Nat => False) x → A x := fun x hx => hx.elim
  exact ⟨h1.narrow hn, h2.narrow hn, h3.narrow hn, h4.narrow hn, h5.narrow hn, h6.narrow hn, h7⟩
theorem jW_kept (h : jW q v n byt fo s) (hk : ∀ a : Nat, a < s.heap.size → H[a]? = s.heap[a]?) (hW : s.vm.Alike U.vm) (hU : U.heap = H) : jW q v n byt fo U := by
  obtain ⟨h1, h2, h3, h4, h5, h6, h7⟩ := h
  have hk' : ∀ a : Nat, a < s.heap.size → ¬ (fun _ : Nat => False) a → H[a]? = s.heap[a]? := fun a ha _ => hk a ha
  unfold jW
  rw [hU]
  exact ⟨va_Z.moved hW (h1.kept hk'), va_Z.moved hW (h2.kept hk'), va_O.moved hW (h3.kept hk'), va_OF.moved hW (h4.kept hk'), va_OF.moved hW (h5.kept hk'), va_T.moved hW (h6.kept hk'), h7⟩
end JX
section BN
variable {p : Program} {l : Launch} {e : Env} {R : Room} {s : State} {m : MethodId} {args : Array Value} {below : List Frame} {meth : Method} {c : Code} {H H0 : Heap} {locs : List Loc} {cells slots : Nat} {Q : State → Prop} {cc : ByteArray} {pc : Nat} {ls : Array Slot} {rest : List Value}
variable {D : va_G} {cys : Nat → ClassId} {A : Nat → Prop} {pre : va_W} {L : List (Nat × Nat)} {TG : List Nat} {Ts : List Jvm.Cond} {own : String}
theorem bw_lat {q t n et : Nat} {sg : List (Nat × Int × Int)} (hB : bS D cys A H0 pre L TG H locs) (hq : (q, t) ∈ L) (ht : ck_tags[t]? = some (.inr (3, n, sg, et))) : ∃ (ws : va_W) (j : Nat) (f : Nat → Int64), va_P D ck_cl ws H ∧ ws[j]? = some (q, .inl (cys 3, n, .inr (.inl f))) := by
  obtain ⟨hS, τ, ws, hP, hD, hbz, hL, hTG⟩ := hB
  obtain ⟨j, hj⟩ := List.getElem?_of_mem (hL _ hq)
  obtain ⟨en, td, g1, g2, g3, g4⟩ := hbz.2.2 j q t hj
  rw [ht] at g2
  cases g2
  rcases g3 with ⟨hk, -⟩ | ⟨-, f, rfl⟩ | ⟨hk, -⟩
  · exact absurd hk (Nat.lt_irrefl 3)
  · exact ⟨pre ++ ws, pre.length + j, f, hP, by rw [List.getElem?_append_right (by omega), Nat.add_sub_cancel_left]; exact g1⟩
  · exact absurd hk (by simp)
theorem bw_lald {q t n et : Nat} {sg : List (Nat × Int × Int)} {i : Int32} (hexec : p.tables.exec = Jvm.exec) (hb : c.code = cc) (hK : va_K D ck_cl (ck_tys cys) s) (hB : bS D cys A H0 pre L TG H locs) (hq : (q, t) ∈ L) (ht : ck_tags[t]? = some (.inr (3, n, sg, et))) (hin : vp_in i n) (hdg : decode cc pc = .ok (.laload, 1))
    (kk : ∀ x : Int64, W p l e R s m args below meth c H locs cells slots Q (F0 m (pc + 1) ls (.long x :: rest))) : W p l e R s m args below meth c H locs cells slots Q (F0 m pc ls (.int i :: .ref q :: rest)) := by
  obtain ⟨ws, j, f, hP, hj⟩ := bw_lat hB hq ht
  exact va_lald hexec hb hK hP j 3 hj rfl hin hdg (kk _)
theorem bw_llen {q t n et : Nat} {sg : List (Nat × Int × Int)} (hexec : p.tables.exec = Jvm.exec) (hb : c.code = cc) (hK : va_K D ck_cl (ck_tys cys) s) (hB : bS D cys A H0 pre L TG H locs) (hq : (q, t) ∈ L) (ht : ck_tags[t]? = some (.inr (3, n, sg, et))) (hdg : decode cc pc = .ok (.arraylength, 1))
    (kk : W p l e R s m args below meth c H locs cells slots Q (F0 m (pc + 1) ls (.int (nI n) :: rest))) : W p l e R s m args below meth c H locs cells slots Q (F0 m pc ls (.ref q :: rest)) := by
  obtain ⟨ws, j, f, hP, hj⟩ := bw_lat hB hq ht
  exact va_alen hexec hb hK hP j 3 hj rfl (v := nI n) rfl hdg kk
end BN
theorem dX8_namesOf_0 : decode cX8_namesOf 0 = .ok (.bipush 27, 2) := by decide +kernel
theorem dX8_namesOf_2 : decode cX8_namesOf 2 = .ok (.newarray .long, 2) := by decide +kernel
theorem dX8_namesOf_4 : decode cX8_namesOf 4 = .ok (.astore_n 1, 1) := by decide +kernel
theorem dX8_namesOf_5 : decode cX8_namesOf 5 = .ok (.iconst 0, 1) := by decide +kernel
theorem dX8_namesOf_6 : decode cX8_namesOf 6 = .ok (.istore_n 2, 1) := by decide +kernel
theorem dX8_namesOf_7 : decode cX8_namesOf 7 = .ok (.iconst 0, 1) := by decide +kernel
theorem dX8_namesOf_8 : decode cX8_namesOf 8 = .ok (.istore_n 3, 1) := by decide +kernel
theorem dX8_namesOf_9 : decode cX8_namesOf 9 = .ok (.iload_n 3, 1) := by decide +kernel
theorem dX8_namesOf_10 : decode cX8_namesOf 10 = .ok (.aload_n 0, 1) := by decide +kernel
theorem dX8_namesOf_11 : decode cX8_namesOf 11 = .ok (.invokevirtual 57, 3) := by decide +kernel
theorem dX8_namesOf_14 : decode cX8_namesOf 14 = .ok (.if_icmp .ge 46, 3) := by decide +kernel
theorem dX8_namesOf_17 : decode cX8_namesOf 17 = .ok (.aload_n 0, 1) := by decide +kernel
theorem dX8_namesOf_18 : decode cX8_namesOf 18 = .ok (.iload_n 3, 1) := by decide +kernel
theorem dX8_namesOf_19 : decode cX8_namesOf 19 = .ok (.invokevirtual 63, 3) := by decide +kernel
theorem dX8_namesOf_22 : decode cX8_namesOf 22 = .ok (.istore 4, 2) := by decide +kernel
theorem dX8_namesOf_24 : decode cX8_namesOf 24 = .ok (.iload 4, 2) := by decide +kernel
theorem dX8_namesOf_26 : decode cX8_namesOf 26 = .ok (.bipush 32, 2) := by decide +kernel
theorem dX8_namesOf_28 : decode cX8_namesOf 28 = .ok (.if_icmp .ne 9, 3) := by decide +kernel
theorem dX8_namesOf_31 : decode cX8_namesOf 31 = .ok (.iinc 2 1, 3) := by decide +kernel
theorem dX8_namesOf_34 : decode cX8_namesOf 34 = .ok (.goto 20, 3) := by decide +kernel
theorem dX8_namesOf_37 : decode cX8_namesOf 37 = .ok (.iload_n 2, 1) := by decide +kernel
theorem dX8_namesOf_38 : decode cX8_namesOf 38 = .ok (.aload_n 1, 1) := by decide +kernel
theorem dX8_namesOf_39 : decode cX8_namesOf 39 = .ok (.arraylength, 1) := by decide +kernel
theorem dX8_namesOf_40 : decode cX8_namesOf 40 = .ok (.if_icmp .ge 14, 3) := by decide +kernel
theorem dX8_namesOf_43 : decode cX8_namesOf 43 = .ok (.aload_n 1, 1) := by decide +kernel
theorem dX8_namesOf_44 : decode cX8_namesOf 44 = .ok (.iload_n 2, 1) := by decide +kernel
theorem dX8_namesOf_45 : decode cX8_namesOf 45 = .ok (.aload_n 1, 1) := by decide +kernel
theorem dX8_namesOf_46 : decode cX8_namesOf 46 = .ok (.iload_n 2, 1) := by decide +kernel
theorem dX8_namesOf_47 : decode cX8_namesOf 47 = .ok (.laload, 1) := by decide +kernel
theorem dX8_namesOf_48 : decode cX8_namesOf 48 = .ok (.iload 4, 2) := by decide +kernel
theorem dX8_namesOf_50 : decode cX8_namesOf 50 = .ok (.invokestatic 67, 3) := by decide +kernel
theorem dX8_namesOf_53 : decode cX8_namesOf 53 = .ok (.lastore, 1) := by decide +kernel
theorem dX8_namesOf_54 : decode cX8_namesOf 54 = .ok (.iinc 3 1, 3) := by decide +kernel
theorem dX8_namesOf_57 : decode cX8_namesOf 57 = .ok (.goto (-48), 3) := by decide +kernel
theorem dX8_namesOf_60 : decode cX8_namesOf 60 = .ok (.aload_n 1, 1) := by decide +kernel
theorem dX8_namesOf_61 : decode cX8_namesOf 61 = .ok (.areturn, 1) := by decide +kernel
/-! the reader's words, letter by letter -/
def lt_tx : String := "part fact clears man act scene shows needs likes never foes rest as whisper curtain best or and not plays rested knows sure skill times claps number"
def lt_bytes : List Int32 := [112, 97, 114, 116, 32, 102, 97, 99, 116, 32, 99, 108, 101, 97, 114, 115, 32, 109, 97, 110, 32, 97, 99, 116, 32, 115, 99, 101, 110, 101, 32, 115, 104, 111, 119, 115, 32, 110, 101, 101, 100, 115, 32, 108, 105, 107, 101, 115, 32, 110, 101, 118, 101, 114, 32, 102, 111, 101, 115, 32, 114, 101, 115, 116, 32, 97, 115, 32, 119, 104, 105, 115, 112, 101, 114, 32, 99, 117, 114, 116, 97, 105, 110, 32, 98, 101, 115, 116, 32, 111, 114, 32, 97, 110, 100, 32, 110, 111, 116, 32, 112, 108, 97, 121, 115, 32, 114, 101, 115, 116, 101, 100, 32, 107, 110, 111, 119, 115, 32, 115, 117, 114, 101, 32, 115, 107, 105, 108, 108, 32, 116, 105, 109, 101, 115, 32, 99, 108, 97, 112, 115, 32, 110, 117, 109, 98, 101, 114]
def n8_c (byt : Nat → Int32) (i : Nat) : Int32 := ((byt i &&& 255).toUInt32 % 65536).toInt32
def n8s (u : Nat × List Int64) (c : Int32) : Nat × List Int64 := if c = 32 then (u.1 + 1, u.2) else if u.1 < 27 then (u.1, u.2.set u.1 (u.2.getD u.1 0 * 32 + (c - 97 + 1).toInt64)) else u
def n8 (byt : Nat → Int32) : Nat → Nat × List Int64
  | 0 => (0, List.replicate 27 0)
  | i + 1 => n8s (n8 byt i) (n8_c byt i)
def n8_ok (n : Nat) (byt : Nat → Int32) : Prop := n < 2 ^ 30 ∧ ∀ j : Nat, j < 27 → ((n8 byt n).2.getD j 0).toInt = z_V.getD j 0
set_option maxRecDepth 100000 in
theorem lt_ok : n8_ok 148 (fun j => lt_bytes.getD j 0) := ⟨by decide, by decide +kernel⟩
theorem n8_sp {byt : Nat → Int32} {i : Nat} (h : n8_c byt i = 32) : n8 byt (i + 1) = ((n8 byt i).1 + 1, (n8 byt i).2) := if_pos h
theorem n8_fu {byt : Nat → Int32} {i : Nat} (h : ¬ n8_c byt i = 32) (h2 : ¬ (n8 byt i).1 < 27) : n8 byt (i + 1) = n8 byt i := by
  show n8s (n8 byt i) (n8_c byt i) = _
  unfold n8s
  rw [if_neg h, if_neg h2]
theorem n8_le {byt : Nat → Int32} {i : Nat} (h : ¬ n8_c byt i = 32) (h2 : (n8 byt i).1 < 27) : n8 byt (i + 1) = ((n8 byt i).1, (n8 byt i).2.set (n8 byt i).1 ((n8 byt i).2.getD (n8 byt i).1 0 * 32 + (n8_c byt i - 97 + 1).toInt64)) := by
  show n8s (n8 byt i) (n8_c byt i) = _
  unfold n8s
  rw [if_neg h, if_pos h2]
theorem n8_l {byt : Nat → Int32} : ∀ i : Nat, (n8 byt i).1 ≤ i ∧ (n8 byt i).2.length = 27
  | 0 => ⟨Nat.le_refl 0, rfl⟩
  | i + 1 => by
    have ih := n8_l (byt := byt) i
    by_cases h : n8_c byt i = 32
    · rw [n8_sp h]; exact ⟨Nat.succ_le_succ ih.1, ih.2⟩
    · by_cases h2 : (n8 byt i).1 < 27
      · rw [n8_le h h2]; exact ⟨Nat.le_succ_of_le ih.1, by dsimp only; rw [List.length_set]; exact ih.2⟩
      · rw [n8_fu h h2]; exact ⟨Nat.le_succ_of_le ih.1, ih.2⟩
def n8_S (D : va_G) (cys : Nat → ClassId) (A : Nat → Prop) (H0 : Heap) (r : Nat) (byt : Nat → Int32) (i : Nat) (H : Heap) (locs : List Loc) : Prop := ∃ f : Nat → Int64, (∀ j : Nat, j < 27 → f j = (n8 byt i).2.getD j 0) ∧ bS D cys A H0 [(r, .inl (cys 3, 27, .inr (.inl f)))] [] [] H locs
section BP
variable {p : Program} {l : Launch} {e : Env} {R : Room} {s : State} {m : MethodId} {args : Array Value} {below : List Frame} {meth : Method} {c : Code} {H H0 : Heap} {locs : List Loc} {cells slots : Nat} {Q : State → Prop} {cc : ByteArray} {pc : Nat} {ls : Array Slot} {rest : List Value}
variable {D : va_G} {cys : Nat → ClassId} {A : Nat → Prop} {L : List (Nat × Nat)} {TG : List Nat}
theorem bp_lald {q n : Nat} {f : Nat → Int64} {i : Int32} (hexec : p.tables.exec = Jvm.exec) (hb : c.code = cc) (hK : va_K D ck_cl (ck_tys cys) s) (hB : bS D cys A H0 [(q, .inl (cys 3, n, .inr (.inl f)))] L TG H locs) (hin : vp_in i n) (hdg : decode cc pc = .ok (.laload, 1))
    (kk : W p l e R s m args below meth c H locs cells slots Q (F0 m (pc + 1) ls (.long (f i.toNatClampNeg) :: rest))) : W p l e R s m args below meth c H locs cells slots Q (F0 m pc ls (.int i :: .ref q :: rest)) := by
  obtain ⟨hS, τ, ws, hP, -⟩ := hB
  exact va_lald hexec hb hK hP 0 3 rfl rfl hin hdg kk
theorem bp_llen {q n : Nat} {f : Nat → Int64} (hexec : p.tables.exec = Jvm.exec) (hb : c.code = cc) (hK : va_K D ck_cl (ck_tys cys) s) (hB : bS D cys A H0 [(q, .inl (cys 3, n, .inr (.inl f)))] L TG H locs) (hdg : decode cc pc = .ok (.arraylength, 1))
    (kk : W p l e R s m args below meth c H locs cells slots Q (F0 m (pc + 1) ls (.int (nI n) :: rest))) : W p l e R s m args below meth c H locs cells slots Q (F0 m pc ls (.ref q :: rest)) := by
  obtain ⟨hS, τ, ws, hP, -⟩ := hB
  exact va_alen hexec hb hK hP 0 3 rfl rfl (v := nI n) rfl hdg kk
theorem bp_lst {q n : Nat} {f : Nat → Int64} {i : Int32} {x : Int64} (hexec : p.tables.exec = Jvm.exec) (hb : c.code = cc) (hK : va_K D ck_cl (ck_tys cys) s) (hB : bS D cys A H0 [(q, .inl (cys 3, n, .inr (.inl f)))] L TG H locs) (hin : vp_in i n) (hdg : decode cc pc = .ok (.lastore, 1))
    (kk : ∀ (H1 : Heap) (locs1 : List Loc), bS D cys A H0 [(q, .inl (cys 3, n, .inr (.inl (vp_updL f i.toNatClampNeg x))))] L TG H1 locs1 → W p l e R s m args below meth c H1 locs1 cells slots Q (F0 m (pc + 1) ls rest)) : W p l e R s m args below meth c H locs cells slots Q (F0 m pc ls (.long x :: .int i :: .ref q :: rest)) := by
  obtain ⟨hS, τ, ws, hP, hD, hbz, hL, hTG⟩ := hB
  exact va_last hexec hb hK hP hD hS 0 3 rfl rfl hin hdg (fun H1 locs1 hP1 hD1 hS1 => kk H1 locs1 ⟨hS1, τ, ws, hP1, hD1, hbz, hL, hTG⟩)
end BP
set_option maxHeartbeats 4000000 in
theorem n8_loop {l : Launch} {D : va_G} {cys : Nat → ClassId} {q v n : Nat} {byt : Nat → Int32} {fo : Value} (hk : n8_ok n byt) {p : Program} {e : Env} {s : State} {m : MethodId} {below : List Frame} {meth : Method} {c : Code} {r : Nat} (hx : p.tables.exec = Jvm.exec) (hb : c.code = cX8_namesOf) (hml : c.maxLocals = 5) (hr : meth.sig.returnType = some (.array .long)) (hlk : meth.locks = false) (hts : ∀ w ∈ Jvm.Cond.code yX8_namesOf cX8_namesOf 5 (some (.array .long)) :: wsL_law0, w.before #[.ref q] s = true) (hown : s.vm.findClass RX8 = some m.cls) (hK : va_K D ck_cl (ck_tys cys) s) (hj : jW q v n byt fo s) : ∀ (k i : Nat), i + k = n → ∀ (H : Heap) (locs : List Loc) (ls : Array Slot), n8_S D cys (fun x => s.heap.size ≤ x) s.heap r byt i H locs → lv_has ls 5 [(0, .ref q), (1, .ref r), (2, .int (nI (n8 byt i).1)), (3, .int (nI i))] →
    W p l e ({ frames := 4, cells := 1, slots := 27, locals := 85 }) s m #[.ref q] below meth c H locs 1 27 (MQ below (va_Qr (fun u : List (Nat × Nat) × va_W => bz cys u.1 u.2 ∧ u.1.map Prod.snd = [16]) (fun u r U => u.1[0]? = some (r, 16) ∧ va_P D ck_cl u.2 U.heap ∧ va_D (fun x => s.heap.size ≤ x) u.2) (fun x => s.heap.size ≤ x)) #[.ref q] s 1 27 (fun x => s.heap.size ≤ x)) (F0 m 9 ls []) := by
  intro k
  induction k with
  | zero =>
    intro i hi H locs ls hN hl
    have hn := hk.1
    obtain ⟨j, hjj⟩ : ∃ j, j = (n8 byt i).1 := ⟨_, rfl⟩
    have hji : j ≤ i := by rw [hjj]; exact (n8_l i).1
    rw [← hjj] at hl
    obtain ⟨f, hf, hB⟩ := hN
    have hkp : ∀ a : Nat, a < s.heap.size → H[a]? = s.heap[a]? := fun a ha => hB.1.2.1 a ha (Nat.not_le.mpr ha)
    have hrec : ∃ cell : Cell, H[q]? = some cell ∧ cell.vm.isStatics = false ∧ s.vm.findClass RJ0 = some cell.cls := by
      obtain ⟨cell, c1, c2, c3, -⟩ := hj.2.2.1.kept (H1 := H) (fun a ha _ => hkp a ha)
      exact ⟨cell, c1, c2, c3⟩
    have e0 : Int32.ofNat n >>> ((0 : Int32) &&& 31) = nI n := by
      have := pk_shrN (n := n) (by omega) ((0 : Int32) &&& 31) 0 (by decide)
      rw [Nat.pow_zero, Nat.div_one] at this
      exact this
    refine lv_iload_n hx hb dX8_namesOf_9 rfl (lv_at hl 3 rfl) ?_
    refine lv_aload_n hx hb dX8_namesOf_10 rfl (lv_at hl 0 rfl) ?_
    refine jr_callV (n := 0) (b := q) (As := []) (j0_length (q := q) (v := v) (n := n) (byt := byt) (fo := fo)) hx hb hml hl hts (fun w hw => List.mem_cons_of_mem _ hw) hown ⟨fun _ U g mk q => ⟨q.1, jW_warm (H := U.heap) (s := U) (U := U.calling g mk _) (Vm.Alike.refl U.vm) rfl q.2⟩, hrec, fun U hU hW => ⟨rfl, jW_kept hj hkp hW.alike hU⟩⟩ (in_r4 _ (List.mem_of_getElem? (i := 17) rfl)) (in_r4 _ (List.mem_of_getElem? (i := 16) rfl)) (in_r4 _ (List.mem_of_getElem? (i := 13) rfl)) (in_r4 _ (List.mem_of_getElem? (i := 14) rfl)) (in_r4 _ (List.mem_of_getElem? (i := 15) rfl)) (by decide +kernel) rfl ⟨Nat.le_of_ble_eq_true rfl, Nat.le_of_ble_eq_true rfl⟩ ⟨Nat.le_of_ble_eq_true rfl, Nat.le_of_ble_eq_true rfl⟩ rfl (Nat.le_of_ble_eq_true rfl) dX8_namesOf_11 ?_
    rw [e0]
    refine lv_icmp_ge (tgt := 60) hx hb dX8_namesOf_14 (by decide) (fun _ => ?_) (fun h => absurd (nI_le (by omega) (by omega)) h)
    refine lv_aload_n hx hb dX8_namesOf_60 rfl (lv_at hl 1 rfl) ?_
    have hB := bp_mv (pre := []) (b := r) (t := 16) hB (bz_res (V := z_V) rfl (by decide +kernel) (fun k => rfl) (by decide +kernel) (fun j hj => by rw [hf j hj, show i = n by omega]; exact hk.2 j hj))
    obtain ⟨hS, τ, ws, hP, hD, hbz, hL, hTG⟩ := hB
    have h0 : τ[0]? = some (r, 16) := by
      have hm := hL _ (List.mem_singleton.mpr rfl)
      have hlen : τ.length = 1 := by
        have := congrArg List.length hTG
        simpa using this
      obtain ⟨i, hi⟩ := List.getElem?_of_mem hm
      have : i < τ.length := (List.getElem?_eq_some_iff.mp hi).1
      rw [show i = 0 by omega] at hi
      exact hi
    exact W.aret hx hb hr (Or.inr ⟨_, rfl⟩) (Or.inr ⟨_, rfl⟩) (fun t ht hW => ⟨⟨(τ, ws), r, rfl, ⟨hbz, hTG⟩, h0, by rw [ht]; exact hP, hD⟩, hS.F ht⟩) hS.2.2 dX8_namesOf_61 hlk
  | succ k ih =>
    intro i hi H locs ls hN hl
    have hn := hk.1
    obtain ⟨j, hjj⟩ : ∃ j, j = (n8 byt i).1 := ⟨_, rfl⟩
    have hji : j ≤ i := by rw [hjj]; exact (n8_l i).1
    rw [← hjj] at hl
    obtain ⟨f, hf, hB⟩ := hN
    have hkp : ∀ a : Nat, a < s.heap.size → H[a]? = s.heap[a]? := fun a ha => hB.1.2.1 a ha (Nat.not_le.mpr ha)
    have hrec : ∃ cell : Cell, H[q]? = some cell ∧ cell.vm.isStatics = false ∧ s.vm.findClass RJ0 = some cell.cls := by
      obtain ⟨cell, c1, c2, c3, -⟩ := hj.2.2.1.kept (H1 := H) (fun a ha _ => hkp a ha)
      exact ⟨cell, c1, c2, c3⟩
    have e0 : Int32.ofNat n >>> ((0 : Int32) &&& 31) = nI n := by
      have := pk_shrN (n := n) (by omega) ((0 : Int32) &&& 31) 0 (by decide)
      rw [Nat.pow_zero, Nat.div_one] at this
      exact this
    have tail : ∀ (H : Heap) (locs : List Loc) (ls : Array Slot), n8_S D cys (fun x => s.heap.size ≤ x) s.heap r byt (i + 1) H locs → lv_has ls 5 [(0, .ref q), (1, .ref r), (2, .int (nI (n8 byt (i + 1)).1)), (3, .int (nI i))] → W p l e ({ frames := 4, cells := 1, slots := 27, locals := 85 }) s m #[.ref q] below meth c H locs 1 27 (MQ below (va_Qr (fun u : List (Nat × Nat) × va_W => bz cys u.1 u.2 ∧ u.1.map Prod.snd = [16]) (fun u r U => u.1[0]? = some (r, 16) ∧ va_P D ck_cl u.2 U.heap ∧ va_D (fun x => s.heap.size ≤ x) u.2) (fun x => s.heap.size ≤ x)) #[.ref q] s 1 27 (fun x => s.heap.size ≤ x)) (F0 m 54 ls []) := by
      intro H locs ls hN hl
      refine lv_iinc (v := nI (i + 1)) (lv' := [(3, .int (nI (i + 1))), (0, .ref q), (1, .ref r), (2, .int (nI (n8 byt (i + 1)).1))]) hx hb dX8_namesOf_54 hl (k := 3) rfl (nI_1 i) (by decide) rfl (fun ls hl => ?_)
      refine lv_goto (tgt := 9) hx hb dX8_namesOf_57 (by decide) ?_
      exact ih (i + 1) (by omega) H locs ls hN (lv_sub hl [1, 2, 3, 0] rfl)
    refine lv_iload_n hx hb dX8_namesOf_9 rfl (lv_at hl 3 rfl) ?_
    refine lv_aload_n hx hb dX8_namesOf_10 rfl (lv_at hl 0 rfl) ?_
    refine jr_callV (n := 0) (b := q) (As := []) (j0_length (q := q) (v := v) (n := n) (byt := byt) (fo := fo)) hx hb hml hl hts (fun w hw => List.mem_cons_of_mem _ hw) hown ⟨fun _ U g mk q => ⟨q.1, jW_warm (H := U.heap) (s := U) (U := U.calling g mk _) (Vm.Alike.refl U.vm) rfl q.2⟩, hrec, fun U hU hW => ⟨rfl, jW_kept hj hkp hW.alike hU⟩⟩ (in_r4 _ (List.mem_of_getElem? (i := 17) rfl)) (in_r4 _ (List.mem_of_getElem? (i := 16) rfl)) (in_r4 _ (List.mem_of_getElem? (i := 13) rfl)) (in_r4 _ (List.mem_of_getElem? (i := 14) rfl)) (in_r4 _ (List.mem_of_getElem? (i := 15) rfl)) (by decide +kernel) rfl ⟨Nat.le_of_ble_eq_true rfl, Nat.le_of_ble_eq_true rfl⟩ ⟨Nat.le_of_ble_eq_true rfl, Nat.le_of_ble_eq_true rfl⟩ rfl (Nat.le_of_ble_eq_true rfl) dX8_namesOf_11 ?_
    rw [e0]
    refine lv_icmp_ge (tgt := 60) hx hb dX8_namesOf_14 (by decide) (fun h => absurd h (nI_ge (by omega) (by omega))) (fun _ => ?_)
    refine lv_aload_n hx hb dX8_namesOf_17 rfl (lv_at hl 0 rfl) ?_
    refine lv_iload_n hx hb dX8_namesOf_18 rfl (lv_at hl 3 rfl) ?_
    refine jr_callV (n := 1) (b := q) (As := [.int (nI i)]) (j0_charAt (q := q) (v := v) (n := n) (byt := byt) (fo := fo) (i := nI i) (nI_pos (by omega)) (nI_lt (by omega) (by omega)) (vp_in_nI (by omega) (by omega))) hx hb hml hl hts (fun w hw => List.mem_cons_of_mem _ hw) hown ⟨fun _ U g mk q => ⟨q.1, jW_warm (H := U.heap) (s := U) (U := U.calling g mk _) (Vm.Alike.refl U.vm) rfl q.2⟩, hrec, fun U hU hW => ⟨rfl, jW_kept hj hkp hW.alike hU⟩⟩ (in_r5 _ (List.mem_of_getElem? (i := 4) rfl)) (in_r4 _ (List.mem_of_getElem? (i := 16) rfl)) (in_r5 _ (List.mem_of_getElem? (i := 1) rfl)) (in_r5 _ (List.mem_of_getElem? (i := 2) rfl)) (in_r5 _ (List.mem_of_getElem? (i := 3) rfl)) (by decide +kernel) rfl ⟨Nat.le_of_ble_eq_true rfl, Nat.le_of_ble_eq_true rfl⟩ ⟨Nat.le_of_ble_eq_true rfl, Nat.le_of_ble_eq_true rfl⟩ rfl (Nat.le_of_ble_eq_true rfl) dX8_namesOf_19 ?_
    refine lv_topi (fun ch hch => ?_)
    rw [nI_clamp (by omega)] at hch
    have hch : ch = n8_c byt i := hch
    refine lv_istore (lv' := [(4, .int ch), (0, .ref q), (1, .ref r), (2, .int (nI j)), (3, .int (nI i))]) hx hb dX8_namesOf_22 hl (by decide) rfl (fun ls hl => ?_)
    refine lv_iload hx hb dX8_namesOf_24 (lv_at hl 0 rfl) ?_
    refine lv_bipush (v := 32) hx hb dX8_namesOf_26 (by decide) ?_
    refine lv_icmp_ne (tgt := 37) hx hb dX8_namesOf_28 (by decide) (fun h32 => ?_) (fun h32 => ?_)
    · refine lv_iload_n hx hb dX8_namesOf_37 rfl (lv_at hl 3 rfl) ?_
      refine lv_aload_n hx hb dX8_namesOf_38 rfl (lv_at hl 2 rfl) ?_
      refine bp_llen hx hb hK hB dX8_namesOf_39 ?_
      refine lv_icmp_ge (tgt := 54) hx hb dX8_namesOf_40 (by decide) (fun hc => ?_) (fun hc => ?_)
      · have hj27 : ¬ j < 27 := fun h => absurd hc (nI_ge h (by omega))
        have e9 := n8_fu (byt := byt) (i := i) (by rw [← hch]; exact h32) (by rw [← hjj]; exact hj27)
        exact tail H locs ls ⟨f, by rw [e9]; exact hf, hB⟩ (by rw [e9, ← hjj]; exact lv_sub hl [1, 2, 3, 4] rfl)
      · have hj27 : j < 27 := by
          rcases Nat.lt_or_ge j 27 with h | h
          · exact h
          · exact absurd (nI_le h (by omega)) hc
        refine lv_aload_n hx hb dX8_namesOf_43 rfl (lv_at hl 2 rfl) ?_
        refine lv_iload_n hx hb dX8_namesOf_44 rfl (lv_at hl 3 rfl) ?_
        refine lv_aload_n hx hb dX8_namesOf_45 rfl (lv_at hl 2 rfl) ?_
        refine lv_iload_n hx hb dX8_namesOf_46 rfl (lv_at hl 3 rfl) ?_
        refine bp_lald hx hb hK hB (vp_in_nI hj27 (by omega)) dX8_namesOf_47 ?_
        rw [nI_clamp (by omega)]
        obtain ⟨x, hxx⟩ : ∃ x, x = f j := ⟨_, rfl⟩
        rw [← hxx]
        refine lv_iload hx hb dX8_namesOf_48 (lv_at hl 0 rfl) ?_
        refine jr_callS (n := 2) (As := [.long x, .int ch]) (rest := [.int (nI j), .ref r]) (j8_with (x := x) (i := ch)) hx hb hml hl hts (fun w hw => List.mem_cons_of_mem _ hw) hown ⟨fun _ _ _ _ h => h, fun U hU hW => ⟨rfl, trivial⟩⟩ (in_r6 _ (List.mem_of_getElem? (i := 16) rfl)) (in_r1 _ (List.mem_of_getElem? (i := 15) rfl)) (in_r6 _ (List.mem_of_getElem? (i := 14) rfl)) (in_r6 _ (List.mem_of_getElem? (i := 15) rfl)) (by decide +kernel) rfl ⟨Nat.le_of_ble_eq_true rfl, Nat.le_of_ble_eq_true rfl⟩ ⟨Nat.le_of_ble_eq_true rfl, Nat.le_of_ble_eq_true rfl⟩ rfl (Nat.le_of_ble_eq_true rfl) dX8_namesOf_50 ?_
        refine bp_lst hx hb hK hB (vp_in_nI hj27 (by omega)) dX8_namesOf_53 (fun H locs hB => ?_)
        have e9 := n8_le (byt := byt) (i := i) (by rw [← hch]; exact h32) (by rw [← hjj]; exact hj27)
        refine tail H locs ls ⟨_, fun k hk9 => ?_, hB⟩ (by rw [e9]; dsimp only; rw [← hjj]; exact lv_sub hl [1, 2, 3, 4] rfl)
        rw [e9, vp_uL, nI_clamp (by omega), ← hch]
        dsimp only
        rw [← hjj]
        have hlen := (n8_l (byt := byt) i).2
        by_cases ek : k = j
        · rw [if_pos ek, ek, List.getD_eq_getElem?_getD, List.getElem?_set_self (by rw [hlen]; exact hj27), hxx, hf j hj27]
          rfl
        · rw [if_neg ek, List.getD_eq_getElem?_getD, List.getElem?_set_ne (fun z => ek z.symm), ← List.getD_eq_getElem?_getD]
          exact hf k hk9
    · refine lv_iinc (v := nI (j + 1)) (lv' := [(2, .int (nI (j + 1))), (4, .int ch), (0, .ref q), (1, .ref r), (3, .int (nI i))]) hx hb dX8_namesOf_31 hl (k := 3) rfl (nI_1 j) (by decide) rfl (fun ls hl => ?_)
      refine lv_goto (tgt := 54) hx hb dX8_namesOf_34 (by decide) ?_
      have e9 := n8_sp (byt := byt) (i := i) (by rw [← hch]; exact h32)
      exact tail H locs ls ⟨f, by rw [e9]; exact hf, hB⟩ (by rw [e9]; dsimp only; rw [← hjj]; exact lv_sub hl [2, 3, 0, 4] rfl)
theorem j8_names {l : Launch} {D : va_G} {cys : Nat → ClassId} {q v n : Nat} {byt : Nat → Int32} {fo : Value} (hk : n8_ok n byt) (sz : Nat) : Met l yX8_namesOf (Jvm.Cond.code yX8_namesOf cX8_namesOf 5 (some (.array .long)) :: wsL_law0) ({ frames := 4, cells := 1, slots := 27, locals := 85 }) (va_Pc [.ref q] (fun U => U.heap.size = sz ∧ jW q v n byt fo U ∧ bT D cys U)) (va_Qr (fun u : List (Nat × Nat) × va_W => bz cys u.1 u.2 ∧ u.1.map Prod.snd = [16]) (fun u r U => u.1[0]? = some (r, 16) ∧ va_P D ck_cl u.2 U.heap ∧ va_D (fun x => sz ≤ x) u.2) (fun x => sz ≤ x)) 1 27 (fun x => sz ≤ x) := by
  refine mt_ofWF (cc := cX8_namesOf) (maxL := 5) (ret := some (.array .long)) (by decide +kernel) rfl ?_
  intro p e s m args below meth c s₁ B hml hv
  obtain ⟨rfl, rfl, hj, hT⟩ := hv
  have hx := B.exec
  have hb := B.bytes
  have hr := B.returns
  have hlk := B.notSynchronized
  have hts := atoms_spec (ws := Jvm.Cond.code yX8_namesOf cX8_namesOf 5 (some (.array .long)) :: wsL_law0) B.pre
  have hown : s.vm.findClass RX8 = some m.cls := findClass_of_methodNamed B.named
  have hK := hT.1
  have hl := lv_entry [.ref q] (n := 5) (Nat.le_of_ble_eq_true rfl)
  rw [lg_entry_eq]
  generalize (lg_sl [.ref q] ++ List.replicate (5 - (lg_sl [.ref q]).length) Slot.unset).toArray = ls at hl ⊢
  have hl : lv_has ls 5 [(0, .ref q)] := hl
  have hB : bS D cys (fun x => s.heap.size ≤ x) s.heap [] [] [] s.heap [] := ⟨va_S.rf, [], [], fun k x hx => by simp at hx, ⟨fun i j x y hx => by simp at hx, fun k x hx => by simp at hx⟩, bz_nil, (fun r hr => by cases hr), rfl⟩
  refine lv_bipush (v := 27) hx hb dX8_namesOf_0 (by decide) ?_
  refine bp_new (N' := 27) hx hb hK (fun q hq => hq) hB (hts _ (List.mem_cons_of_mem _ (in_r1 _ (List.mem_of_getElem? (i := 6) rfl)))) (by decide) (by decide) (by decide) (Nat.le_of_ble_eq_true rfl) (Nat.le_of_ble_eq_true rfl) dX8_namesOf_2 (fun r H hB => ?_)
  refine lv_astore_n (lv' := [(1, .ref r), (0, .ref q)]) hx hb dX8_namesOf_4 rfl hl (by decide) rfl (fun ls hl => ?_)
  refine lv_iconst (v := 0) hx hb dX8_namesOf_5 (by decide) ?_
  refine lv_istore_n (lv' := [(2, .int 0), (1, .ref r), (0, .ref q)]) hx hb dX8_namesOf_6 rfl hl (by decide) rfl (fun ls hl => ?_)
  refine lv_iconst (v := 0) hx hb dX8_namesOf_7 (by decide) ?_
  refine lv_istore_n (lv' := [(3, .int 0), (2, .int 0), (1, .ref r), (0, .ref q)]) hx hb dX8_namesOf_8 rfl hl (by decide) rfl (fun ls hl => ?_)
  exact n8_loop hk hx hb hml hr hlk hts hown hK hj n 0 (by omega) H _ ls ⟨_, fun j hj9 => by rw [show n8 byt 0 = (0, List.replicate 27 0) from rfl]; dsimp only; rw [List.getD_eq_getElem?_getD, List.getElem?_replicate, if_pos hj9]; rfl, hB⟩ (lv_sub hl [3, 2, 1, 0] rfl)

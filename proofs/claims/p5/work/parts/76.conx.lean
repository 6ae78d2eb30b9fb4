/-! BUILDING, 6: constructors that read the literal. -/
def bConX (l : Launch) (D : va_G) (cys : Nat → ClassId) (jq jv jn : Nat) (byt : Nat → Int32) (fo : Value) (tx : String) (y : MethodName) (cc : ByteArray) (ml fr lo mc ms ci : Nat) (fs0 : List Value) (t : Nat) (TG : List Nat) : Prop := ∀ a sz : Nat, Met l y (Jvm.Cond.code y cc ml none :: wsL_law0) ({ frames := fr, cells := mc, slots := ms, locals := lo }) (va_Pc [.ref a] (fun U => U.heap.size = sz ∧ va_P D ck_cl [(a, .inr (ci, fs0))] U.heap ∧ bT D cys U ∧ jX jq jv jn byt fo tx (bA a sz) U U.heap)) (va_Qv (fun u : List (Nat × Nat) × va_W => bz cys u.1 u.2 ∧ u.1[0]? = some (a, t) ∧ u.1.map Prod.snd = TG) (fun u U => va_P D ck_cl u.2 U.heap ∧ va_D (bA a sz) u.2) (bA a sz)) mc ms (bA a sz)
section BX
variable {p : Program} {l : Launch} {e : Env} {R : Room} {s : State} {m : MethodId} {args : Array Value} {below : List Frame} {meth : Method} {c : Code} {H : Heap} {locs : List Loc} {cells slots : Nat} {Q : State → Prop} {cc : ByteArray} {pc : Nat} {ls : Array Slot} {rest : List Value}
variable {D : va_G} {cys : Nat → ClassId} {A : Nat → Prop} {pre : va_W} {L : List (Nat × Nat)} {TG : List Nat} {Ts : List Jvm.Cond} {own : String}
variable {jq jv jn : Nat} {byt : Nat → Int32} {fo : Value} {tx : String}
theorem bw_names {nL : Nat} {lv : List (Nat × Value)} (hn : n8_ok jn byt) (hexec : p.tables.exec = Jvm.exec) (hb : c.code = cc) (hml : c.maxLocals = nL) (hl : lv_has ls nL lv) (hts : ∀ w ∈ Ts, w.before args s = true) (hin : ∀ w ∈ wsL_law0, w ∈ Ts) (hown : s.vm.findClass RX8 = some m.cls) (hT : bT D cys s) (hA : ∀ q, s.heap.size ≤ q → A q) (hJ : jX jq jv jn byt fo tx A s s.heap) (hB : bS D cys A s.heap pre L TG H locs) (hcd : Jvm.Cond.code yX8_namesOf cX8_namesOf 5 (some (.array .long)) ∈ wsL_law0) (hini : Jvm.Cond.initialized RX8 ∈ wsL_law0) (hlk : Jvm.Cond.methodLink RX8 49 yX8_namesOf ∈ wsL_law0) (hst : Jvm.Cond.static yX8_namesOf ∈ wsL_law0) (hR : 5 ≤ R.frames ∧ 109 ≤ R.locals) (hc1 : cells + 1 ≤ R.cells) (hs1 : slots + 27 ≤ R.slots) (hr8 : (rest.map fun v => v.category).sum ≤ 8) (hdg : decode cc pc = .ok (.invokestatic 49, 3))
    (kk : ∀ (r : Nat) (H1 : Heap) (locs1 : List Loc), bS D cys A s.heap pre ((r, 16) :: L) (TG ++ [16]) H1 locs1 → W p l e R s m args below meth c H1 locs1 (cells + 1) (slots + 27) Q (F0 m (pc + 3) ls (.ref r :: rest))) : W p l e R s m args below meth c H locs cells slots Q (F0 m pc ls (.ref jq :: rest)) := by
  obtain ⟨hS, τ, ws, hP, hD, hbz, hL, hTG⟩ := hB
  have hF : ∀ x, H.size ≤ x → A x := fun x h => hA x (Nat.le_trans hS.1 h)
  have hJ1 : jX jq jv jn byt fo tx A s H := jX_kept hJ hS.2.1
  refine va_callr (va_runS (As := [.ref jq]) (rest := rest) (own := RX8) (index := 49) (n := 1) ⟨hexec, hb, hml, hown, hts⟩ (j8_names (D := D) (cys := cys) (q := jq) (v := jv) (byt := byt) (fo := fo) hn H.size) ⟨callB_of 1 hts (j_good hin hcd) rfl rfl rfl (hts _ (hin _ hini)) (hts _ (hin _ hlk)) (by decide +kernel) hR, hts _ (hin _ hst)⟩
    ⟨fun a U g mk h => ⟨h.1, h.2.1, jW_warm (H := U.heap) (s := U) (U := U.calling g mk a) (Vm.Alike.refl U.vm) rfl h.2.2.1, bT_same (s := U) (U := U.calling g mk a) rfl h.2.2.2⟩, fun U hU hW => ⟨rfl, by rw [hU], jX_jW (A := A) (tx := tx) (by rw [hU]; exact jX_warm hW hJ1), bT_warm hW hT⟩⟩ rfl rfl hl.1 rfl (lv_room hr8) hdg ⟨hc1, hs1⟩) hS (fun x _ h => hF x h) hF (fun u ra t H1 locs1 ht hvm hw hB' hz1 hk1 hS1 => ?_)
  obtain ⟨τ', ws'⟩ := u
  obtain ⟨hb', hg'⟩ := hw
  obtain ⟨h0, hP1, hD1⟩ := hB'
  rw [ht] at hP1
  have apart : ∀ (k : Nat) (x : Nat × va_E), (pre ++ ws)[k]? = some x → x.1 < H.size := fun k x hx => (hP k x hx).lt
  have hP2 : va_P D ck_cl (pre ++ (ws ++ ws')) H1 := by
    rw [← List.append_assoc]
    exact va_P.app (fun k x hx => (hP k x hx).kept (hk1 x.1 (apart k x hx) (Nat.not_le.mpr (apart k x hx)))) hP1
  have hD2 : va_D A (pre ++ (ws ++ ws')) := by
    rw [← List.append_assoc]
    exact va_D.app hD (hD1.weaken (fun k x _ h => hF x.1 h)) (fun i j x y hx hy hxy => by
      have h1 := apart i x hx
      have h2 : H.size ≤ y.1 := hD1.2 j y hy
      omega)
  exact kk ra H1 locs1 (bw_add (L' := [(ra, 16)]) hS1 hP2 hD2 hbz hL hTG hb' (fun r hr => by rw [List.mem_singleton.mp hr]; exact List.mem_of_getElem? h0) hg')
theorem bw_enterX {y : MethodName} {ml fr lo mc ms ci o : Nat} {fs0 : List Value} {t : Nat} (hy : plainName y.cls = true) (ho : ck_R o = y.cls) (hy1 : y.name = "<init>") (g1 : 1 ≤ ml)
    (h : ∀ (a : Nat) (p : Program) (e : Env) (s : State) (m : MethodId) (below : List Frame) (meth : Method) (c : Code) (ls : Array Slot), p.tables.exec = Jvm.exec → c.code = cc → c.maxLocals = ml → meth.sig.returnType = none → meth.locks = false → (∀ w ∈ Jvm.Cond.code y cc ml none :: wsL_law0, w.before #[.ref a] s = true) → s.vm.findClass (ck_R o) = some m.cls → bT D cys s → meth.name = "<init>" → lv_has ls ml [(0, .ref a)] → (∀ q, s.heap.size ≤ q → bA a s.heap.size q) → jX jq jv jn byt fo tx (bA a s.heap.size) s s.heap → bS D cys (bA a s.heap.size) s.heap [(a, .inr (ci, fs0))] [] [] s.heap [] →
      W p l e ({ frames := fr, cells := mc, slots := ms, locals := lo }) s m #[.ref a] below meth c s.heap [] 0 0 (MQ below (va_Qv (fun u : List (Nat × Nat) × va_W => bz cys u.1 u.2 ∧ u.1[0]? = some (a, t) ∧ u.1.map Prod.snd = TG) (fun u U => va_P D ck_cl u.2 U.heap ∧ va_D (bA a s.heap.size) u.2) (bA a s.heap.size)) #[.ref a] s mc ms (bA a s.heap.size)) (F0 m 0 ls [])) : bConX l D cys jq jv jn byt fo tx y cc ml fr lo mc ms ci fs0 t TG := by
  intro a sz
  refine Met.ofW (cc := cc) (maxL := ml) (ret := none) hy rfl ?_
  intro p e s m args below meth c s₁ B hml hv
  obtain ⟨rfl, hsz, hP, hT, hJ⟩ := hv
  subst hsz
  have hts := atoms_spec (ws := Jvm.Cond.code y cc ml none :: wsL_law0) B.pre
  have hown : s.vm.findClass (ck_R o) = some m.cls := by rw [ho]; exact findClass_of_methodNamed B.named
  have hin : meth.name = "<init>" := ((name_of_methodNamed B.named B.method).1).trans hy1
  have hl := lv_entry ([.ref a]) (n := ml) g1
  rw [lg_entry_eq]
  generalize (lg_sl ([.ref a]) ++ List.replicate (ml - (lg_sl ([.ref a])).length) Slot.unset).toArray = ls at hl ⊢
  have hl : lv_has ls ml [(0, .ref a)] := hl
  refine h a p e s m below meth c ls B.exec B.bytes hml B.returns B.notSynchronized hts hown hT hin hl (fun q hq => Or.inr hq) hJ ⟨va_S.rf, [], [], hP, ⟨fun i j x z hx hz _ => ?_, fun k x hx => ?_⟩, bz_nil, (fun r hr => by cases hr), rfl⟩
  · have h1 : i < 1 := (List.getElem?_eq_some_iff.mp hx).1
    have h2 : j < 1 := (List.getElem?_eq_some_iff.mp hz).1
    omega
  · have h1 : k < 1 := (List.getElem?_eq_some_iff.mp hx).1
    rw [show k = 0 by omega] at hx
    cases hx
    exact Or.inl rfl
theorem b_blindX {a sz ci : Nat} {fs0 : List Value} : FrameBlind (va_Pc [.ref a] (fun U => U.heap.size = sz ∧ va_P D ck_cl [(a, .inr (ci, fs0))] U.heap ∧ bT D cys U ∧ jX jq jv jn byt fo tx (bA a sz) U U.heap)) := by
  intro a U g mk q
  obtain ⟨q0, q1, q2, q3, q4⟩ := q
  exact ⟨q0, q1, q2, bT_same (s := U) (U := U.calling g mk a) rfl q3, jX_same (s := U) (U := U.calling g mk a) (H := U.heap) rfl q4⟩
/-- new C; dup; invokespecial C.<init>, where C.<init> reads the literal -/
theorem bw_newx {nL : Nat} {lv : List (Nat × Value)} {y : MethodName} {bytes : ByteArray} {ml fr lo mc ms ci : Nat} {fs0 : List Value} {t : Nat} {TG' : List Nat} (hM : bConX l D cys jq jv jn byt fo tx y bytes ml fr lo mc ms ci fs0 t TG') (hexec : p.tables.exec = Jvm.exec) (hb : c.code = cc) (hml : c.maxLocals = nL) (hl : lv_has ls nL lv) (hts : ∀ w ∈ Ts, w.before args s = true) (hin : ∀ w ∈ wsL_law0, w ∈ Ts) (hown : s.vm.findClass own = some m.cls) (hT : bT D cys s) (hA : ∀ q, s.heap.size ≤ q → A q) (hJ : jX jq jv jn byt fo tx A s s.heap) (hB : bS D cys A s.heap pre L TG H locs) {T : u_T} {N i1 i2 : Nat} (hc : ck_cl[ci]? = some (y.cls, T, N)) {ty0 : Nat → FieldType} (hty : ∀ k, k < N → parseFieldDescriptor (T k).2.2.1 = some (ty0 k)) (hfs : ∀ j, j < N → defaultValue (ty0 j) = vp_V fs0 j)
    (hcl : Jvm.Cond.classLink own i1 y.cls ∈ wsL_law0) (hinst : Jvm.Cond.instantiable y.cls N ∈ wsL_law0) (hini : Jvm.Cond.initialized y.cls ∈ wsL_law0) (him : Jvm.Cond.instanceMethod y ∈ wsL_law0) (hcd : Jvm.Cond.code y bytes ml none ∈ wsL_law0) (hlk : Jvm.Cond.methodLink own i2 y ∈ wsL_law0) (hy1 : y.name = "<init>") (hd : y.cls ≠ "java/lang/invoke/MethodHandle" ∧ y.cls ≠ "java/lang/invoke/VarHandle" ∧ (parseMethodDescriptor y.desc).map (fun d => d.parameters.length) = some 0) (hR : fr + 1 ≤ R.frames ∧ 8 + (ml + 11) + lo ≤ R.locals) (hc1 : cells + 1 + mc ≤ R.cells) (hs1 : slots + N + ms ≤ R.slots) (hr8 : (rest.map fun v => v.category).sum ≤ 7) (hd1 : decode cc pc = .ok (.new i1, 3)) (hd2 : decode cc (pc + 3) = .ok (.dup, 1)) (hd3 : decode cc (pc + 4) = .ok (.invokespecial i2, 3))
    (kk : ∀ (q : Nat) (H1 : Heap) (locs1 : List Loc), bS D cys A s.heap pre ((q, t) :: L) (TG ++ TG') H1 locs1 → W p l e R s m args below meth c H1 locs1 (cells + 1 + mc) (slots + N + ms) Q (F0 m (pc + 7) ls (.ref q :: rest))) : W p l e R s m args below meth c H locs cells slots Q (F0 m pc ls rest) := by
  obtain ⟨hS, τ, ws, hP, hD, hbz, hL, hTG⟩ := hB
  obtain ⟨k1, -, k3⟩ := ck_cl_ok hc
  refine va_new (own := own) hexec hb hts (fun w h => hin w (k1 w h)) ty0 hty hown (hts _ (hin _ hcl)) (hts _ (hin _ hinst)) (hts _ (hin _ hini)) hT.1 hP hD hS hA hc hfs (by omega) (show slots + N ≤ R.slots by omega) hd1 (fun q H1 hP1 hD1 hS1 => ?_)
  refine lv_dup hexec hb hd2 rfl ?_
  have hF : ∀ x, bA q H1.size x → A x := fun x hx => by
    rcases hx with hx | hx
    · rw [hx]
      exact hD1.2 (pre ++ ws).length (q, .inr (ci, fs0)) (by rw [List.getElem?_append_right (Nat.le_refl _), Nat.sub_self]; rfl)
    · exact hA x (Nat.le_trans hS1.1 hx)
  have hJ1 : jX jq jv jn byt fo tx (bA q H1.size) s H1 := jX_narrow (jX_kept hJ hS1.2.1) hF
  exact bw_after (pc := pc + 4) (rest := .ref q :: rest) hP1 hD1 hS1 hA hbz hL hTG (va_runI (As := []) (rest := .ref q :: rest) (b := q) (own := own) (index := i2) ⟨hexec, hb, hml, hown, hts⟩ (hM q H1.size) (cwI 0 hts (b_goodIn hin hcd) rfl rfl rfl (hts _ (hin _ hini)) (hts _ (hin _ hlk)) (hts _ (hin _ him)) hy1 hd hR) ⟨b_blindX, fun U hU hW => ⟨rfl, by rw [hU], by rw [hU]; exact b_one hP1, bT_warm hW hT, by rw [hU]; exact jX_warm hW hJ1⟩⟩ rfl rfl hl.1 rfl (lv_room (by rw [List.map_cons, List.sum_cons]; have : (Value.ref q).category = 1 := rfl; omega)) hd3 ⟨hc1, hs1⟩) (fun H2 locs2 hB2 => kk q H2 locs2 hB2)
end BX
section CONX
variable {l : Launch} {D : va_G} {cys : Nat → ClassId} {jq jv jn : Nat} {byt : Nat → Int32} {fo : Value} {tx : String}
abbrev tg_8 : List ck_AV := [.inr (.inl 16), .inr (.inl 10), .inl (0, 900, []), .inl (0, 940, []), .inl (0, 4, []), .inl (0, 940, []), .inl (-2147483648, 2147483647, []), .inl (-1, 26, []), .inr (.inr ()), .inl (0, 4, []), .inl (0, 940, [])]
theorem b_d8 : ∀ j, j < 11 → defaultValue (tyX8 j) = vp_V [.null, .null, .int 0, .int 0, .int 0, .int 0, .int 0, .int 0, .long 0, .int 0, .int 0] j := fun j hj => match j, hj with
  | 0, _ => rfl
  | 1, _ => rfl
  | 2, _ => rfl
  | 3, _ => rfl
  | 4, _ => rfl
  | 5, _ => rfl
  | 6, _ => rfl
  | 7, _ => rfl
  | 8, _ => rfl
  | 9, _ => rfl
  | 10, _ => rfl
  | n + 11, h => absurd h (by omega)
theorem dX8_init_0 : decode cX8_init 0 = .ok (.aload_n 0, 1) := by decide +kernel
theorem dX8_init_1 : decode cX8_init 1 = .ok (.invokespecial 3, 3) := by decide +kernel
theorem dX8_init_4 : decode cX8_init 4 = .ok (.aload_n 0, 1) := by decide +kernel
theorem dX8_init_5 : decode cX8_init 5 = .ok (.new 9, 3) := by decide +kernel
theorem dX8_init_8 : decode cX8_init 8 = .ok (.dup, 1) := by decide +kernel
theorem dX8_init_9 : decode cX8_init 9 = .ok (.invokespecial 11, 3) := by decide +kernel
theorem dX8_init_12 : decode cX8_init 12 = .ok (.putfield 12, 3) := by decide +kernel
theorem dX8_init_15 : decode cX8_init 15 = .ok (.aload_n 0, 1) := by decide +kernel
theorem dX8_init_16 : decode cX8_init 16 = .ok (.iconst 0, 1) := by decide +kernel
theorem dX8_init_17 : decode cX8_init 17 = .ok (.putfield 18, 3) := by decide +kernel
theorem dX8_init_20 : decode cX8_init 20 = .ok (.aload_n 0, 1) := by decide +kernel
theorem dX8_init_21 : decode cX8_init 21 = .ok (.iconst 0, 1) := by decide +kernel
theorem dX8_init_22 : decode cX8_init 22 = .ok (.putfield 22, 3) := by decide +kernel
theorem dX8_init_25 : decode cX8_init 25 = .ok (.aload_n 0, 1) := by decide +kernel
theorem dX8_init_26 : decode cX8_init 26 = .ok (.iconst 0, 1) := by decide +kernel
theorem dX8_init_27 : decode cX8_init 27 = .ok (.putfield 25, 3) := by decide +kernel
theorem dX8_init_30 : decode cX8_init 30 = .ok (.aload_n 0, 1) := by decide +kernel
theorem dX8_init_31 : decode cX8_init 31 = .ok (.iconst 0, 1) := by decide +kernel
theorem dX8_init_32 : decode cX8_init 32 = .ok (.putfield 28, 3) := by decide +kernel
theorem dX8_init_35 : decode cX8_init 35 = .ok (.aload_n 0, 1) := by decide +kernel
theorem dX8_init_36 : decode cX8_init 36 = .ok (.iconst 0, 1) := by decide +kernel
theorem dX8_init_37 : decode cX8_init 37 = .ok (.putfield 31, 3) := by decide +kernel
theorem dX8_init_40 : decode cX8_init 40 = .ok (.aload_n 0, 1) := by decide +kernel
theorem dX8_init_41 : decode cX8_init 41 = .ok (.iconst (-1), 1) := by decide +kernel
theorem dX8_init_42 : decode cX8_init 42 = .ok (.putfield 34, 3) := by decide +kernel
theorem dX8_init_45 : decode cX8_init 45 = .ok (.aload_n 0, 1) := by decide +kernel
theorem dX8_init_46 : decode cX8_init 46 = .ok (.lconst 0, 1) := by decide +kernel
theorem dX8_init_47 : decode cX8_init 47 = .ok (.putfield 37, 3) := by decide +kernel
theorem dX8_init_50 : decode cX8_init 50 = .ok (.aload_n 0, 1) := by decide +kernel
theorem dX8_init_51 : decode cX8_init 51 = .ok (.iconst 0, 1) := by decide +kernel
theorem dX8_init_52 : decode cX8_init 52 = .ok (.putfield 41, 3) := by decide +kernel
theorem dX8_init_55 : decode cX8_init 55 = .ok (.aload_n 0, 1) := by decide +kernel
theorem dX8_init_56 : decode cX8_init 56 = .ok (.iconst 0, 1) := by decide +kernel
theorem dX8_init_57 : decode cX8_init 57 = .ok (.putfield 44, 3) := by decide +kernel
theorem dX8_init_60 : decode cX8_init 60 = .ok (.aload_n 0, 1) := by decide +kernel
theorem dX8_init_61 : decode cX8_init 61 = .ok (.ldc 47, 2) := by decide +kernel
theorem dX8_init_63 : decode cX8_init 63 = .ok (.invokestatic 49, 3) := by decide +kernel
theorem dX8_init_66 : decode cX8_init 66 = .ok (.putfield 53, 3) := by decide +kernel
theorem dX8_init_69 : decode cX8_init 69 = .ok (.return_, 1) := by decide +kernel
set_option maxRecDepth 100000 in
set_option maxHeartbeats 4000000 in
theorem con_8 (hn : n8_ok jn byt) : bConX l D cys jq jv jn byt fo tx yX8_init cX8_init 1 5 109 3 969 8 [.null, .null, .int 0, .int 0, .int 0, .int 0, .int 0, .int 0, .long 0, .int 0, .int 0] 8 [8, 10, 15, 16] := by
  refine bw_enterX (o := 8) (by decide) rfl rfl (by decide) ?_
  intro a p e s m below meth c ls hx hb hml hr hlk hts hown hT hin2 hl hA hJ hB
  have hin : ∀ w ∈ wsL_law0, w ∈ Jvm.Cond.code yX8_init cX8_init 1 none :: wsL_law0 := fun w hw => List.mem_cons_of_mem _ hw
  have hK := hT.1
  refine lv_aload_n hx hb dX8_init_0 rfl (lv_at hl 0 rfl) ?_
  refine W.objInit hx hb hown (hts _ (hin _ (in_r3 _ (List.mem_of_getElem? (i := 13) rfl)))) (hts _ (hin _ (in_r1 _ (List.mem_of_getElem? (i := 11) rfl)))) (hts _ (hin _ (in_r1 _ (List.mem_of_getElem? (i := 12) rfl)))) rfl (by rw [hml]; exact hl.1) rfl dX8_init_1 (Nat.le_of_ble_eq_true rfl) (Nat.le_of_ble_eq_true rfl) ?_
  refine W.eq (g2 := F0 m 4 ls []) rfl ?_
  refine lv_aload_n hx hb dX8_init_4 rfl (lv_at hl 0 rfl) ?_
  refine bw_newn (con_10) hx hb hml hl hts hin hown hT hA hB rfl tyX10_ok b_d10 (in_r3 _ (List.mem_of_getElem? (i := 14) rfl)) (in_r3 _ (List.mem_of_getElem? (i := 15) rfl)) (in_r3 _ (List.mem_of_getElem? (i := 16) rfl)) (in_r4 _ (List.mem_of_getElem? (i := 4) rfl)) (in_r4 _ (List.mem_of_getElem? (i := 5) rfl)) (List.mem_of_getElem? (i := 10) rfl) rfl (by decide +kernel) ⟨Nat.le_of_ble_eq_true rfl, Nat.le_of_ble_eq_true rfl⟩ (Nat.le_of_ble_eq_true rfl) (Nat.le_of_ble_eq_true rfl) (Nat.le_of_ble_eq_true rfl) dX8_init_5 dX8_init_8 dX8_init_9 (fun q5 H locs hB => ?_)
  have hB : bS D cys (bA a s.heap.size) s.heap [(a, .inr (8, [.null, .null, .int 0, .int 0, .int 0, .int 0, .int 0, .int 0, .long 0, .int 0, .int 0]))] [(q5, 10)] [10, 15] _ _ := hB
  refine bw_put (v := .ref q5) (fty := (.object "RecastStage$Tape")) hx hb hts hin hown hK hin2 hB rfl 1 (by decide) (in_r3 _ (List.mem_of_getElem? (i := 17) rfl)) rfl (by decide +kernel) rfl rfl (Nat.le_of_ble_eq_true rfl) dX8_init_12 (fun H locs hB => ?_)
  have hB : bS D cys (bA a s.heap.size) s.heap [(a, .inr (8, [.null, .ref q5, .int 0, .int 0, .int 0, .int 0, .int 0, .int 0, .long 0, .int 0, .int 0]))] [(q5, 10)] [10, 15] _ _ := hB
  refine lv_aload_n hx hb dX8_init_15 rfl (lv_at hl 0 rfl) ?_
  refine lv_iconst (v := 0) hx hb dX8_init_16 (by decide) ?_
  refine bw_put (v := .int 0) (fty := (.int)) hx hb hts hin hown hK hin2 hB rfl 2 (by decide) (in_r3 _ (List.mem_of_getElem? (i := 18) rfl)) rfl (by decide +kernel) rfl rfl (Nat.le_of_ble_eq_true rfl) dX8_init_17 (fun H locs hB => ?_)
  have hB : bS D cys (bA a s.heap.size) s.heap [(a, .inr (8, [.null, .ref q5, .int 0, .int 0, .int 0, .int 0, .int 0, .int 0, .long 0, .int 0, .int 0]))] [(q5, 10)] [10, 15] _ _ := hB
  refine lv_aload_n hx hb dX8_init_20 rfl (lv_at hl 0 rfl) ?_
  refine lv_iconst (v := 0) hx hb dX8_init_21 (by decide) ?_
  refine bw_put (v := .int 0) (fty := (.int)) hx hb hts hin hown hK hin2 hB rfl 3 (by decide) (in_r3 _ (List.mem_of_getElem? (i := 19) rfl)) rfl (by decide +kernel) rfl rfl (Nat.le_of_ble_eq_true rfl) dX8_init_22 (fun H locs hB => ?_)
  have hB : bS D cys (bA a s.heap.size) s.heap [(a, .inr (8, [.null, .ref q5, .int 0, .int 0, .int 0, .int 0, .int 0, .int 0, .long 0, .int 0, .int 0]))] [(q5, 10)] [10, 15] _ _ := hB
  refine lv_aload_n hx hb dX8_init_25 rfl (lv_at hl 0 rfl) ?_
  refine lv_iconst (v := 0) hx hb dX8_init_26 (by decide) ?_
  refine bw_put (v := .int 0) (fty := (.int)) hx hb hts hin hown hK hin2 hB rfl 4 (by decide) (in_r3 _ (List.mem_of_getElem? (i := 20) rfl)) rfl (by decide +kernel) rfl rfl (Nat.le_of_ble_eq_true rfl) dX8_init_27 (fun H locs hB => ?_)
  have hB : bS D cys (bA a s.heap.size) s.heap [(a, .inr (8, [.null, .ref q5, .int 0, .int 0, .int 0, .int 0, .int 0, .int 0, .long 0, .int 0, .int 0]))] [(q5, 10)] [10, 15] _ _ := hB
  refine lv_aload_n hx hb dX8_init_30 rfl (lv_at hl 0 rfl) ?_
  refine lv_iconst (v := 0) hx hb dX8_init_31 (by decide) ?_
  refine bw_put (v := .int 0) (fty := (.int)) hx hb hts hin hown hK hin2 hB rfl 5 (by decide) (in_r3 _ (List.mem_of_getElem? (i := 21) rfl)) rfl (by decide +kernel) rfl rfl (Nat.le_of_ble_eq_true rfl) dX8_init_32 (fun H locs hB => ?_)
  have hB : bS D cys (bA a s.heap.size) s.heap [(a, .inr (8, [.null, .ref q5, .int 0, .int 0, .int 0, .int 0, .int 0, .int 0, .long 0, .int 0, .int 0]))] [(q5, 10)] [10, 15] _ _ := hB
  refine lv_aload_n hx hb dX8_init_35 rfl (lv_at hl 0 rfl) ?_
  refine lv_iconst (v := 0) hx hb dX8_init_36 (by decide) ?_
  refine bw_put (v := .int 0) (fty := (.int)) hx hb hts hin hown hK hin2 hB rfl 6 (by decide) (in_r3 _ (List.mem_of_getElem? (i := 22) rfl)) rfl (by decide +kernel) rfl rfl (Nat.le_of_ble_eq_true rfl) dX8_init_37 (fun H locs hB => ?_)
  have hB : bS D cys (bA a s.heap.size) s.heap [(a, .inr (8, [.null, .ref q5, .int 0, .int 0, .int 0, .int 0, .int 0, .int 0, .long 0, .int 0, .int 0]))] [(q5, 10)] [10, 15] _ _ := hB
  refine lv_aload_n hx hb dX8_init_40 rfl (lv_at hl 0 rfl) ?_
  refine lv_iconst (v := (-1)) hx hb dX8_init_41 (by decide) ?_
  refine bw_put (v := .int (-1)) (fty := (.int)) hx hb hts hin hown hK hin2 hB rfl 7 (by decide) (in_r3 _ (List.mem_of_getElem? (i := 23) rfl)) rfl (by decide +kernel) rfl rfl (Nat.le_of_ble_eq_true rfl) dX8_init_42 (fun H locs hB => ?_)
  have hB : bS D cys (bA a s.heap.size) s.heap [(a, .inr (8, [.null, .ref q5, .int 0, .int 0, .int 0, .int 0, .int 0, .int (-1), .long 0, .int 0, .int 0]))] [(q5, 10)] [10, 15] _ _ := hB
  refine lv_aload_n hx hb dX8_init_45 rfl (lv_at hl 0 rfl) ?_
  refine lv_lconst (v := 0) hx hb dX8_init_46 rfl ?_
  refine bw_put (v := .long 0) (fty := (.long)) hx hb hts hin hown hK hin2 hB rfl 8 (by decide) (in_r4 _ (List.mem_of_getElem? (i := 0) rfl)) rfl (by decide +kernel) rfl rfl (Nat.le_of_ble_eq_true rfl) dX8_init_47 (fun H locs hB => ?_)
  have hB : bS D cys (bA a s.heap.size) s.heap [(a, .inr (8, [.null, .ref q5, .int 0, .int 0, .int 0, .int 0, .int 0, .int (-1), .long 0, .int 0, .int 0]))] [(q5, 10)] [10, 15] _ _ := hB
  refine lv_aload_n hx hb dX8_init_50 rfl (lv_at hl 0 rfl) ?_
  refine lv_iconst (v := 0) hx hb dX8_init_51 (by decide) ?_
  refine bw_put (v := .int 0) (fty := (.int)) hx hb hts hin hown hK hin2 hB rfl 9 (by decide) (in_r4 _ (List.mem_of_getElem? (i := 1) rfl)) rfl (by decide +kernel) rfl rfl (Nat.le_of_ble_eq_true rfl) dX8_init_52 (fun H locs hB => ?_)
  have hB : bS D cys (bA a s.heap.size) s.heap [(a, .inr (8, [.null, .ref q5, .int 0, .int 0, .int 0, .int 0, .int 0, .int (-1), .long 0, .int 0, .int 0]))] [(q5, 10)] [10, 15] _ _ := hB
  refine lv_aload_n hx hb dX8_init_55 rfl (lv_at hl 0 rfl) ?_
  refine lv_iconst (v := 0) hx hb dX8_init_56 (by decide) ?_
  refine bw_put (v := .int 0) (fty := (.int)) hx hb hts hin hown hK hin2 hB rfl 10 (by decide) (in_r4 _ (List.mem_of_getElem? (i := 2) rfl)) rfl (by decide +kernel) rfl rfl (Nat.le_of_ble_eq_true rfl) dX8_init_57 (fun H locs hB => ?_)
  have hB : bS D cys (bA a s.heap.size) s.heap [(a, .inr (8, [.null, .ref q5, .int 0, .int 0, .int 0, .int 0, .int 0, .int (-1), .long 0, .int 0, .int 0]))] [(q5, 10)] [10, 15] _ _ := hB
  refine lv_aload_n hx hb dX8_init_60 rfl (lv_at hl 0 rfl) ?_
  refine va_ldcS hx hb hown hJ.1 dX8_init_61 ?_
  refine bw_names hn hx hb hml hl hts hin hown hT hA hJ hB (in_r4 _ (List.mem_of_getElem? (i := 12) rfl)) (in_r1 _ (List.mem_of_getElem? (i := 15) rfl)) (in_r4 _ (List.mem_of_getElem? (i := 10) rfl)) (in_r4 _ (List.mem_of_getElem? (i := 11) rfl)) ⟨Nat.le_of_ble_eq_true rfl, Nat.le_of_ble_eq_true rfl⟩ (Nat.le_of_ble_eq_true rfl) (Nat.le_of_ble_eq_true rfl) (Nat.le_of_ble_eq_true rfl) dX8_init_63 (fun q63 H locs hB => ?_)
  have hB : bS D cys (bA a s.heap.size) s.heap [(a, .inr (8, [.null, .ref q5, .int 0, .int 0, .int 0, .int 0, .int 0, .int (-1), .long 0, .int 0, .int 0]))] [(q63, 16), (q5, 10)] [10, 15, 16] _ _ := hB
  refine bw_put (v := .ref q63) (fty := (.array .long)) hx hb hts hin hown hK hin2 hB rfl 0 (by decide) (in_r4 _ (List.mem_of_getElem? (i := 3) rfl)) rfl (by decide +kernel) rfl rfl (Nat.le_of_ble_eq_true rfl) dX8_init_66 (fun H locs hB => ?_)
  have hB : bS D cys (bA a s.heap.size) s.heap [(a, .inr (8, [.ref q63, .ref q5, .int 0, .int 0, .int 0, .int 0, .int 0, .int (-1), .long 0, .int 0, .int 0]))] [(q63, 16), (q5, 10)] [10, 15, 16] _ _ := hB
  refine bw_ret (zs := [3, 9]) hx hb hr hlk hB rfl rfl (fun ty hty k ft hk => ?_) (by decide +kernel) (List.forall_mem_cons.mpr ⟨rfl, (List.forall_mem_cons.mpr ⟨rfl, (fun k hk => by cases hk)⟩)⟩) ⟨rfl, rfl⟩ dX8_init_69
  exact match k, hk with
    | 0, hk => by cases hk; exact ⟨_, rfl, ⟨_, rfl, hty _ (List.mem_of_getElem? (i := 0) rfl)⟩⟩
    | 1, hk => by cases hk; exact ⟨_, rfl, ⟨_, rfl, hty _ (List.mem_of_getElem? (i := 1) rfl)⟩⟩
    | 2, hk => by cases hk; exact ⟨_, rfl, bv_i (by decide) (by decide)⟩
    | 3, hk => by cases hk; exact ⟨_, rfl, bv_i (by decide) (by decide)⟩
    | 4, hk => by cases hk; exact ⟨_, rfl, bv_i (by decide) (by decide)⟩
    | 5, hk => by cases hk; exact ⟨_, rfl, bv_i (by decide) (by decide)⟩
    | 6, hk => by cases hk; exact ⟨_, rfl, bv_i (by decide) (by decide)⟩
    | 7, hk => by cases hk; exact ⟨_, rfl, bv_i (by decide) (by decide)⟩
    | 8, hk => by cases hk; exact ⟨_, rfl, ⟨_, rfl⟩⟩
    | 9, hk => by cases hk; exact ⟨_, rfl, bv_i (by decide) (by decide)⟩
    | 10, hk => by cases hk; exact ⟨_, rfl, bv_i (by decide) (by decide)⟩
    | n + 11, hk => by cases hk
abbrev tg_11 : List ck_AV := [.inr (.inl 8), .inr (.inl 7), .inr (.inl 6), .inr (.inl 2), .inr (.inl 2), .inr (.inl 3), .inr (.inl 9), .inr (.inl 14), .inr (.inl 1), .inr (.inl 5), .inr (.inl 0), .inr (.inl 33), .inr (.inl 26), .inl (0, 4, [])]
theorem b_d11 : ∀ j, j < 14 → defaultValue (tyX11 j) = vp_V [.null, .null, .null, .null, .null, .null, .null, .null, .null, .null, .null, .null, .null, .int 0] j := fun j hj => match j, hj with
  | 0, _ => rfl
  | 1, _ => rfl
  | 2, _ => rfl
  | 3, _ => rfl
  | 4, _ => rfl
  | 5, _ => rfl
  | 6, _ => rfl
  | 7, _ => rfl
  | 8, _ => rfl
  | 9, _ => rfl
  | 10, _ => rfl
  | 11, _ => rfl
  | 12, _ => rfl
  | 13, _ => rfl
  | n + 14, h => absurd h (by omega)
theorem dX11_init_0 : decode cX11_init 0 = .ok (.aload_n 0, 1) := by decide +kernel
theorem dX11_init_1 : decode cX11_init 1 = .ok (.invokespecial 1, 3) := by decide +kernel
theorem dX11_init_4 : decode cX11_init 4 = .ok (.aload_n 0, 1) := by decide +kernel
theorem dX11_init_5 : decode cX11_init 5 = .ok (.new 7, 3) := by decide +kernel
theorem dX11_init_8 : decode cX11_init 8 = .ok (.dup, 1) := by decide +kernel
theorem dX11_init_9 : decode cX11_init 9 = .ok (.invokespecial 9, 3) := by decide +kernel
theorem dX11_init_12 : decode cX11_init 12 = .ok (.putfield 10, 3) := by decide +kernel
theorem dX11_init_15 : decode cX11_init 15 = .ok (.aload_n 0, 1) := by decide +kernel
theorem dX11_init_16 : decode cX11_init 16 = .ok (.new 16, 3) := by decide +kernel
theorem dX11_init_19 : decode cX11_init 19 = .ok (.dup, 1) := by decide +kernel
theorem dX11_init_20 : decode cX11_init 20 = .ok (.invokespecial 18, 3) := by decide +kernel
theorem dX11_init_23 : decode cX11_init 23 = .ok (.putfield 19, 3) := by decide +kernel
theorem dX11_init_26 : decode cX11_init 26 = .ok (.aload_n 0, 1) := by decide +kernel
theorem dX11_init_27 : decode cX11_init 27 = .ok (.new 23, 3) := by decide +kernel
theorem dX11_init_30 : decode cX11_init 30 = .ok (.dup, 1) := by decide +kernel
theorem dX11_init_31 : decode cX11_init 31 = .ok (.invokespecial 25, 3) := by decide +kernel
theorem dX11_init_34 : decode cX11_init 34 = .ok (.putfield 26, 3) := by decide +kernel
theorem dX11_init_37 : decode cX11_init 37 = .ok (.aload_n 0, 1) := by decide +kernel
theorem dX11_init_38 : decode cX11_init 38 = .ok (.new 30, 3) := by decide +kernel
theorem dX11_init_41 : decode cX11_init 41 = .ok (.dup, 1) := by decide +kernel
theorem dX11_init_42 : decode cX11_init 42 = .ok (.invokespecial 32, 3) := by decide +kernel
theorem dX11_init_45 : decode cX11_init 45 = .ok (.putfield 33, 3) := by decide +kernel
theorem dX11_init_48 : decode cX11_init 48 = .ok (.aload_n 0, 1) := by decide +kernel
theorem dX11_init_49 : decode cX11_init 49 = .ok (.new 30, 3) := by decide +kernel
theorem dX11_init_52 : decode cX11_init 52 = .ok (.dup, 1) := by decide +kernel
theorem dX11_init_53 : decode cX11_init 53 = .ok (.invokespecial 32, 3) := by decide +kernel
theorem dX11_init_56 : decode cX11_init 56 = .ok (.putfield 37, 3) := by decide +kernel
theorem dX11_init_59 : decode cX11_init 59 = .ok (.aload_n 0, 1) := by decide +kernel
theorem dX11_init_60 : decode cX11_init 60 = .ok (.new 40, 3) := by decide +kernel
theorem dX11_init_63 : decode cX11_init 63 = .ok (.dup, 1) := by decide +kernel
theorem dX11_init_64 : decode cX11_init 64 = .ok (.invokespecial 42, 3) := by decide +kernel
theorem dX11_init_67 : decode cX11_init 67 = .ok (.putfield 43, 3) := by decide +kernel
theorem dX11_init_70 : decode cX11_init 70 = .ok (.aload_n 0, 1) := by decide +kernel
theorem dX11_init_71 : decode cX11_init 71 = .ok (.new 47, 3) := by decide +kernel
theorem dX11_init_74 : decode cX11_init 74 = .ok (.dup, 1) := by decide +kernel
theorem dX11_init_75 : decode cX11_init 75 = .ok (.invokespecial 49, 3) := by decide +kernel
theorem dX11_init_78 : decode cX11_init 78 = .ok (.putfield 50, 3) := by decide +kernel
theorem dX11_init_81 : decode cX11_init 81 = .ok (.aload_n 0, 1) := by decide +kernel
theorem dX11_init_82 : decode cX11_init 82 = .ok (.new 47, 3) := by decide +kernel
theorem dX11_init_85 : decode cX11_init 85 = .ok (.dup, 1) := by decide +kernel
theorem dX11_init_86 : decode cX11_init 86 = .ok (.invokespecial 49, 3) := by decide +kernel
theorem dX11_init_89 : decode cX11_init 89 = .ok (.putfield 54, 3) := by decide +kernel
theorem dX11_init_92 : decode cX11_init 92 = .ok (.aload_n 0, 1) := by decide +kernel
theorem dX11_init_93 : decode cX11_init 93 = .ok (.new 57, 3) := by decide +kernel
theorem dX11_init_96 : decode cX11_init 96 = .ok (.dup, 1) := by decide +kernel
theorem dX11_init_97 : decode cX11_init 97 = .ok (.invokespecial 59, 3) := by decide +kernel
theorem dX11_init_100 : decode cX11_init 100 = .ok (.putfield 60, 3) := by decide +kernel
theorem dX11_init_103 : decode cX11_init 103 = .ok (.aload_n 0, 1) := by decide +kernel
theorem dX11_init_104 : decode cX11_init 104 = .ok (.new 64, 3) := by decide +kernel
theorem dX11_init_107 : decode cX11_init 107 = .ok (.dup, 1) := by decide +kernel
theorem dX11_init_108 : decode cX11_init 108 = .ok (.invokespecial 66, 3) := by decide +kernel
theorem dX11_init_111 : decode cX11_init 111 = .ok (.putfield 67, 3) := by decide +kernel
theorem dX11_init_114 : decode cX11_init 114 = .ok (.aload_n 0, 1) := by decide +kernel
theorem dX11_init_115 : decode cX11_init 115 = .ok (.new 71, 3) := by decide +kernel
theorem dX11_init_118 : decode cX11_init 118 = .ok (.dup, 1) := by decide +kernel
theorem dX11_init_119 : decode cX11_init 119 = .ok (.invokespecial 73, 3) := by decide +kernel
theorem dX11_init_122 : decode cX11_init 122 = .ok (.putfield 74, 3) := by decide +kernel
theorem dX11_init_125 : decode cX11_init 125 = .ok (.aload_n 0, 1) := by decide +kernel
theorem dX11_init_126 : decode cX11_init 126 = .ok (.iconst 2, 1) := by decide +kernel
theorem dX11_init_127 : decode cX11_init 127 = .ok (.anewarray 78, 3) := by decide +kernel
theorem dX11_init_130 : decode cX11_init 130 = .ok (.putfield 80, 3) := by decide +kernel
theorem dX11_init_133 : decode cX11_init 133 = .ok (.aload_n 0, 1) := by decide +kernel
theorem dX11_init_134 : decode cX11_init 134 = .ok (.bipush 6, 2) := by decide +kernel
theorem dX11_init_136 : decode cX11_init 136 = .ok (.newarray .int, 2) := by decide +kernel
theorem dX11_init_138 : decode cX11_init 138 = .ok (.putfield 84, 3) := by decide +kernel
theorem dX11_init_141 : decode cX11_init 141 = .ok (.aload_n 0, 1) := by decide +kernel
theorem dX11_init_142 : decode cX11_init 142 = .ok (.iconst 0, 1) := by decide +kernel
theorem dX11_init_143 : decode cX11_init 143 = .ok (.putfield 88, 3) := by decide +kernel
theorem dX11_init_146 : decode cX11_init 146 = .ok (.iconst 0, 1) := by decide +kernel
theorem dX11_init_147 : decode cX11_init 147 = .ok (.istore_n 1, 1) := by decide +kernel
theorem dX11_init_148 : decode cX11_init 148 = .ok (.iload_n 1, 1) := by decide +kernel
theorem dX11_init_149 : decode cX11_init 149 = .ok (.iconst 2, 1) := by decide +kernel
theorem dX11_init_150 : decode cX11_init 150 = .ok (.if_icmp .ge 22, 3) := by decide +kernel
theorem dX11_init_153 : decode cX11_init 153 = .ok (.aload_n 0, 1) := by decide +kernel
theorem dX11_init_154 : decode cX11_init 154 = .ok (.getfield 80, 3) := by decide +kernel
theorem dX11_init_157 : decode cX11_init 157 = .ok (.iload_n 1, 1) := by decide +kernel
theorem dX11_init_158 : decode cX11_init 158 = .ok (.new 78, 3) := by decide +kernel
theorem dX11_init_161 : decode cX11_init 161 = .ok (.dup, 1) := by decide +kernel
theorem dX11_init_162 : decode cX11_init 162 = .ok (.invokespecial 92, 3) := by decide +kernel
theorem dX11_init_165 : decode cX11_init 165 = .ok (.aastore, 1) := by decide +kernel
theorem dX11_init_166 : decode cX11_init 166 = .ok (.iinc 1 1, 3) := by decide +kernel
theorem dX11_init_169 : decode cX11_init 169 = .ok (.goto (-21), 3) := by decide +kernel
theorem dX11_init_172 : decode cX11_init 172 = .ok (.aload_n 0, 1) := by decide +kernel
theorem dX11_init_173 : decode cX11_init 173 = .ok (.getfield 84, 3) := by decide +kernel
theorem dX11_init_176 : decode cX11_init 176 = .ok (.iconst (-1), 1) := by decide +kernel
theorem dX11_init_177 : decode cX11_init 177 = .ok (.invokestatic 93, 3) := by decide +kernel
theorem dX11_init_180 : decode cX11_init 180 = .ok (.return_, 1) := by decide +kernel
set_option maxRecDepth 100000 in
set_option maxHeartbeats 4000000 in
theorem con_11 (hn : n8_ok jn byt) : bConX l D cys jq jv jn byt fo tx yX11_init cX11_init 2 6 129 179 3208 11 [.null, .null, .null, .null, .null, .null, .null, .null, .null, .null, .null, .null, .null, .int 0] 11 [11, 33, 8, 10, 15, 16, 7, 13, 53, 54, 55, 56, 57, 58, 59, 60, 61, 62, 63, 64, 65, 66, 6, 67, 68, 69, 70, 71, 72, 73, 74, 75, 76, 77, 78, 79, 80, 2, 26, 26, 21, 21, 21, 2, 26, 26, 21, 21, 21, 3, 32, 2, 26, 26, 21, 21, 21, 2, 26, 26, 21, 21, 21, 2, 26, 26, 21, 21, 21, 2, 26, 26, 21, 21, 21, 2, 26, 26, 21, 21, 21, 2, 26, 26, 21, 21, 21, 2, 26, 26, 21, 21, 21, 2, 26, 26, 21, 21, 21, 9, 25, 25, 25, 25, 14, 25, 25, 25, 25, 1, 21, 28, 20, 20, 22, 24, 27, 27, 5, 20, 21, 0, 29, 30, 31, 26, 4, 51, 81, 82, 83, 84, 85, 86, 87, 88, 89, 90, 91, 92, 93, 94, 2, 26, 26, 21, 21, 21, 110, 25, 25, 25, 25, 48, 52, 95, 96, 97, 98, 99, 100, 101, 102, 103, 104, 105, 106, 107, 108, 2, 26, 26, 21, 21, 21, 111, 25, 25, 25, 25] := by
  refine bw_enterX (o := 11) (by decide) rfl rfl (by decide) ?_
  intro a p e s m below meth c ls hx hb hml hr hlk hts hown hT hin2 hl hA hJ hB
  have hin : ∀ w ∈ wsL_law0, w ∈ Jvm.Cond.code yX11_init cX11_init 2 none :: wsL_law0 := fun w hw => List.mem_cons_of_mem _ hw
  have hK := hT.1
  refine lv_aload_n hx hb dX11_init_0 rfl (lv_at hl 0 rfl) ?_
  refine W.objInit hx hb hown (hts _ (hin _ (in_r1 _ (List.mem_of_getElem? (i := 10) rfl)))) (hts _ (hin _ (in_r1 _ (List.mem_of_getElem? (i := 11) rfl)))) (hts _ (hin _ (in_r1 _ (List.mem_of_getElem? (i := 12) rfl)))) rfl (by rw [hml]; exact hl.1) rfl dX11_init_1 (Nat.le_of_ble_eq_true rfl) (Nat.le_of_ble_eq_true rfl) ?_
  refine W.eq (g2 := F0 m 4 ls []) rfl ?_
  refine lv_aload_n hx hb dX11_init_4 rfl (lv_at hl 0 rfl) ?_
  refine bw_newx (con_8 hn) hx hb hml hl hts hin hown hT hA hJ hB rfl tyX8_ok b_d8 (in_r1 _ (List.mem_of_getElem? (i := 13) rfl)) (in_r1 _ (List.mem_of_getElem? (i := 14) rfl)) (in_r1 _ (List.mem_of_getElem? (i := 15) rfl)) (in_r3 _ (List.mem_of_getElem? (i := 11) rfl)) (in_r3 _ (List.mem_of_getElem? (i := 12) rfl)) (in_r3 _ (List.mem_of_getElem? (i := 10) rfl)) rfl (by decide +kernel) ⟨Nat.le_of_ble_eq_true rfl, Nat.le_of_ble_eq_true rfl⟩ (Nat.le_of_ble_eq_true rfl) (Nat.le_of_ble_eq_true rfl) (Nat.le_of_ble_eq_true rfl) dX11_init_5 dX11_init_8 dX11_init_9 (fun q5 H locs hB => ?_)
  have hB : bS D cys (bA a s.heap.size) s.heap [(a, .inr (11, [.null, .null, .null, .null, .null, .null, .null, .null, .null, .null, .null, .null, .null, .int 0]))] [(q5, 8)] [8, 10, 15, 16] _ _ := hB
  refine bw_put (v := .ref q5) (fty := (.object "RecastStage$Reader")) hx hb hts hin hown hK hin2 hB rfl 0 (by decide) (in_r1 _ (List.mem_of_getElem? (i := 16) rfl)) rfl (by decide +kernel) rfl rfl (Nat.le_of_ble_eq_true rfl) dX11_init_12 (fun H locs hB => ?_)
  have hB : bS D cys (bA a s.heap.size) s.heap [(a, .inr (11, [.ref q5, .null, .null, .null, .null, .null, .null, .null, .null, .null, .null, .null, .null, .int 0]))] [(q5, 8)] [8, 10, 15, 16] _ _ := hB
  refine lv_aload_n hx hb dX11_init_15 rfl (lv_at hl 0 rfl) ?_
  refine bw_newn (con_7) hx hb hml hl hts hin hown hT hA hB rfl tyX7_ok b_d7 (in_r1 _ (List.mem_of_getElem? (i := 17) rfl)) (in_r1 _ (List.mem_of_getElem? (i := 18) rfl)) (in_r1 _ (List.mem_of_getElem? (i := 19) rfl)) (in_r6 _ (List.mem_of_getElem? (i := 18) rfl)) (in_r6 _ (List.mem_of_getElem? (i := 19) rfl)) (List.mem_of_getElem? (i := 0) rfl) rfl (by decide +kernel) ⟨Nat.le_of_ble_eq_true rfl, Nat.le_of_ble_eq_true rfl⟩ (Nat.le_of_ble_eq_true rfl) (Nat.le_of_ble_eq_true rfl) (Nat.le_of_ble_eq_true rfl) dX11_init_16 dX11_init_19 dX11_init_20 (fun q16 H locs hB => ?_)
  have hB : bS D cys (bA a s.heap.size) s.heap [(a, .inr (11, [.ref q5, .null, .null, .null, .null, .null, .null, .null, .null, .null, .null, .null, .null, .int 0]))] [(q16, 7), (q5, 8)] [8, 10, 15, 16, 7, 13, 53, 54, 55, 56, 57, 58, 59, 60, 61, 62, 63, 64, 65, 66] _ _ := hB
  refine bw_put (v := .ref q16) (fty := (.object "RecastStage$PlayReader")) hx hb hts hin hown hK hin2 hB rfl 1 (by decide) (in_r1 _ (List.mem_of_getElem? (i := 20) rfl)) rfl (by decide +kernel) rfl rfl (Nat.le_of_ble_eq_true rfl) dX11_init_23 (fun H locs hB => ?_)
  have hB : bS D cys (bA a s.heap.size) s.heap [(a, .inr (11, [.ref q5, .ref q16, .null, .null, .null, .null, .null, .null, .null, .null, .null, .null, .null, .int 0]))] [(q16, 7), (q5, 8)] [8, 10, 15, 16, 7, 13, 53, 54, 55, 56, 57, 58, 59, 60, 61, 62, 63, 64, 65, 66] _ _ := hB
  refine lv_aload_n hx hb dX11_init_26 rfl (lv_at hl 0 rfl) ?_
  refine bw_newn (con_6p) hx hb hml hl hts hin hown hT hA hB rfl tyX6_ok b_d6 (in_r1 _ (List.mem_of_getElem? (i := 21) rfl)) (in_r1 _ (List.mem_of_getElem? (i := 22) rfl)) (in_r1 _ (List.mem_of_getElem? (i := 23) rfl)) (in_r6 _ (List.mem_of_getElem? (i := 23) rfl)) (in_r7 _ (List.mem_of_getElem? (i := 0) rfl)) (List.mem_of_getElem? (i := 1) rfl) rfl (by decide +kernel) ⟨Nat.le_of_ble_eq_true rfl, Nat.le_of_ble_eq_true rfl⟩ (Nat.le_of_ble_eq_true rfl) (Nat.le_of_ble_eq_true rfl) (Nat.le_of_ble_eq_true rfl) dX11_init_27 dX11_init_30 dX11_init_31 (fun q27 H locs hB => ?_)
  have hB : bS D cys (bA a s.heap.size) s.heap [(a, .inr (11, [.ref q5, .ref q16, .null, .null, .null, .null, .null, .null, .null, .null, .null, .null, .null, .int 0]))] [(q27, 6), (q16, 7), (q5, 8)] [8, 10, 15, 16, 7, 13, 53, 54, 55, 56, 57, 58, 59, 60, 61, 62, 63, 64, 65, 66, 6, 67, 68, 69, 70, 71, 72, 73, 74, 75, 76, 77, 78, 79, 80] _ _ := hB
  refine bw_put (v := .ref q27) (fty := (.object "RecastStage$Play")) hx hb hts hin hown hK hin2 hB rfl 2 (by decide) (in_r2 _ (List.mem_of_getElem? (i := 0) rfl)) rfl (by decide +kernel) rfl rfl (Nat.le_of_ble_eq_true rfl) dX11_init_34 (fun H locs hB => ?_)
  have hB : bS D cys (bA a s.heap.size) s.heap [(a, .inr (11, [.ref q5, .ref q16, .ref q27, .null, .null, .null, .null, .null, .null, .null, .null, .null, .null, .int 0]))] [(q27, 6), (q16, 7), (q5, 8)] [8, 10, 15, 16, 7, 13, 53, 54, 55, 56, 57, 58, 59, 60, 61, 62, 63, 64, 65, 66, 6, 67, 68, 69, 70, 71, 72, 73, 74, 75, 76, 77, 78, 79, 80] _ _ := hB
  refine lv_aload_n hx hb dX11_init_37 rfl (lv_at hl 0 rfl) ?_
  refine bw_newo (con_2) hx hb hml hl hts hin hown hT hA hB rfl tyX2_ok b_d2 (in_r2 _ (List.mem_of_getElem? (i := 1) rfl)) (in_r2 _ (List.mem_of_getElem? (i := 2) rfl)) (in_r2 _ (List.mem_of_getElem? (i := 3) rfl)) (in_r7 _ (List.mem_of_getElem? (i := 23) rfl)) (in_r8 _ (List.mem_of_getElem? (i := 0) rfl)) (in_r7 _ (List.mem_of_getElem? (i := 22) rfl)) rfl (by decide +kernel) ⟨Nat.le_of_ble_eq_true rfl, Nat.le_of_ble_eq_true rfl⟩ (Nat.le_of_ble_eq_true rfl) (Nat.le_of_ble_eq_true rfl) (Nat.le_of_ble_eq_true rfl) dX11_init_38 dX11_init_41 dX11_init_42 (fun q38 H locs hB => ?_)
  have hB : bS D cys (bA a s.heap.size) s.heap [(a, .inr (11, [.ref q5, .ref q16, .ref q27, .null, .null, .null, .null, .null, .null, .null, .null, .null, .null, .int 0]))] [(q38, 2), (q27, 6), (q16, 7), (q5, 8)] [8, 10, 15, 16, 7, 13, 53, 54, 55, 56, 57, 58, 59, 60, 61, 62, 63, 64, 65, 66, 6, 67, 68, 69, 70, 71, 72, 73, 74, 75, 76, 77, 78, 79, 80, 2, 26, 26, 21, 21, 21] _ _ := hB
  refine bw_put (v := .ref q38) (fty := (.object "RecastStage$Evening")) hx hb hts hin hown hK hin2 hB rfl 3 (by decide) (in_r2 _ (List.mem_of_getElem? (i := 4) rfl)) rfl (by decide +kernel) rfl rfl (Nat.le_of_ble_eq_true rfl) dX11_init_45 (fun H locs hB => ?_)
  have hB : bS D cys (bA a s.heap.size) s.heap [(a, .inr (11, [.ref q5, .ref q16, .ref q27, .ref q38, .null, .null, .null, .null, .null, .null, .null, .null, .null, .int 0]))] [(q38, 2), (q27, 6), (q16, 7), (q5, 8)] [8, 10, 15, 16, 7, 13, 53, 54, 55, 56, 57, 58, 59, 60, 61, 62, 63, 64, 65, 66, 6, 67, 68, 69, 70, 71, 72, 73, 74, 75, 76, 77, 78, 79, 80, 2, 26, 26, 21, 21, 21] _ _ := hB
  refine lv_aload_n hx hb dX11_init_48 rfl (lv_at hl 0 rfl) ?_
  refine bw_newo (con_2) hx hb hml hl hts hin hown hT hA hB rfl tyX2_ok b_d2 (in_r2 _ (List.mem_of_getElem? (i := 1) rfl)) (in_r2 _ (List.mem_of_getElem? (i := 2) rfl)) (in_r2 _ (List.mem_of_getElem? (i := 3) rfl)) (in_r7 _ (List.mem_of_getElem? (i := 23) rfl)) (in_r8 _ (List.mem_of_getElem? (i := 0) rfl)) (in_r7 _ (List.mem_of_getElem? (i := 22) rfl)) rfl (by decide +kernel) ⟨Nat.le_of_ble_eq_true rfl, Nat.le_of_ble_eq_true rfl⟩ (Nat.le_of_ble_eq_true rfl) (Nat.le_of_ble_eq_true rfl) (Nat.le_of_ble_eq_true rfl) dX11_init_49 dX11_init_52 dX11_init_53 (fun q49 H locs hB => ?_)
  have hB : bS D cys (bA a s.heap.size) s.heap [(a, .inr (11, [.ref q5, .ref q16, .ref q27, .ref q38, .null, .null, .null, .null, .null, .null, .null, .null, .null, .int 0]))] [(q49, 2), (q38, 2), (q27, 6), (q16, 7), (q5, 8)] [8, 10, 15, 16, 7, 13, 53, 54, 55, 56, 57, 58, 59, 60, 61, 62, 63, 64, 65, 66, 6, 67, 68, 69, 70, 71, 72, 73, 74, 75, 76, 77, 78, 79, 80, 2, 26, 26, 21, 21, 21, 2, 26, 26, 21, 21, 21] _ _ := hB
  refine bw_put (v := .ref q49) (fty := (.object "RecastStage$Evening")) hx hb hts hin hown hK hin2 hB rfl 4 (by decide) (in_r2 _ (List.mem_of_getElem? (i := 5) rfl)) rfl (by decide +kernel) rfl rfl (Nat.le_of_ble_eq_true rfl) dX11_init_56 (fun H locs hB => ?_)
  have hB : bS D cys (bA a s.heap.size) s.heap [(a, .inr (11, [.ref q5, .ref q16, .ref q27, .ref q38, .ref q49, .null, .null, .null, .null, .null, .null, .null, .null, .int 0]))] [(q49, 2), (q38, 2), (q27, 6), (q16, 7), (q5, 8)] [8, 10, 15, 16, 7, 13, 53, 54, 55, 56, 57, 58, 59, 60, 61, 62, 63, 64, 65, 66, 6, 67, 68, 69, 70, 71, 72, 73, 74, 75, 76, 77, 78, 79, 80, 2, 26, 26, 21, 21, 21, 2, 26, 26, 21, 21, 21] _ _ := hB
  refine lv_aload_n hx hb dX11_init_59 rfl (lv_at hl 0 rfl) ?_
  refine bw_newo (con_3) hx hb hml hl hts hin hown hT hA hB rfl tyX3_ok b_d3 (in_r2 _ (List.mem_of_getElem? (i := 6) rfl)) (in_r2 _ (List.mem_of_getElem? (i := 7) rfl)) (in_r2 _ (List.mem_of_getElem? (i := 8) rfl)) (in_r8 _ (List.mem_of_getElem? (i := 20) rfl)) (in_r8 _ (List.mem_of_getElem? (i := 21) rfl)) (in_r8 _ (List.mem_of_getElem? (i := 19) rfl)) rfl (by decide +kernel) ⟨Nat.le_of_ble_eq_true rfl, Nat.le_of_ble_eq_true rfl⟩ (Nat.le_of_ble_eq_true rfl) (Nat.le_of_ble_eq_true rfl) (Nat.le_of_ble_eq_true rfl) dX11_init_60 dX11_init_63 dX11_init_64 (fun q60 H locs hB => ?_)
  have hB : bS D cys (bA a s.heap.size) s.heap [(a, .inr (11, [.ref q5, .ref q16, .ref q27, .ref q38, .ref q49, .null, .null, .null, .null, .null, .null, .null, .null, .int 0]))] [(q60, 3), (q49, 2), (q38, 2), (q27, 6), (q16, 7), (q5, 8)] [8, 10, 15, 16, 7, 13, 53, 54, 55, 56, 57, 58, 59, 60, 61, 62, 63, 64, 65, 66, 6, 67, 68, 69, 70, 71, 72, 73, 74, 75, 76, 77, 78, 79, 80, 2, 26, 26, 21, 21, 21, 2, 26, 26, 21, 21, 21, 3, 32, 2, 26, 26, 21, 21, 21, 2, 26, 26, 21, 21, 21, 2, 26, 26, 21, 21, 21, 2, 26, 26, 21, 21, 21, 2, 26, 26, 21, 21, 21, 2, 26, 26, 21, 21, 21, 2, 26, 26, 21, 21, 21, 2, 26, 26, 21, 21, 21] _ _ := hB
  refine bw_put (v := .ref q60) (fty := (.object "RecastStage$History")) hx hb hts hin hown hK hin2 hB rfl 5 (by decide) (in_r2 _ (List.mem_of_getElem? (i := 9) rfl)) rfl (by decide +kernel) rfl rfl (Nat.le_of_ble_eq_true rfl) dX11_init_67 (fun H locs hB => ?_)
  have hB : bS D cys (bA a s.heap.size) s.heap [(a, .inr (11, [.ref q5, .ref q16, .ref q27, .ref q38, .ref q49, .ref q60, .null, .null, .null, .null, .null, .null, .null, .int 0]))] [(q60, 3), (q49, 2), (q38, 2), (q27, 6), (q16, 7), (q5, 8)] [8, 10, 15, 16, 7, 13, 53, 54, 55, 56, 57, 58, 59, 60, 61, 62, 63, 64, 65, 66, 6, 67, 68, 69, 70, 71, 72, 73, 74, 75, 76, 77, 78, 79, 80, 2, 26, 26, 21, 21, 21, 2, 26, 26, 21, 21, 21, 3, 32, 2, 26, 26, 21, 21, 21, 2, 26, 26, 21, 21, 21, 2, 26, 26, 21, 21, 21, 2, 26, 26, 21, 21, 21, 2, 26, 26, 21, 21, 21, 2, 26, 26, 21, 21, 21, 2, 26, 26, 21, 21, 21, 2, 26, 26, 21, 21, 21] _ _ := hB
  refine lv_aload_n hx hb dX11_init_70 rfl (lv_at hl 0 rfl) ?_
  refine bw_newn (con_9 9 rfl (by decide +kernel)) hx hb hml hl hts hin hown hT hA hB rfl tyX9_ok b_d9 (in_r2 _ (List.mem_of_getElem? (i := 10) rfl)) (in_r2 _ (List.mem_of_getElem? (i := 11) rfl)) (in_r2 _ (List.mem_of_getElem? (i := 12) rfl)) (in_r9 _ (List.mem_of_getElem? (i := 4) rfl)) (in_r9 _ (List.mem_of_getElem? (i := 5) rfl)) (List.mem_of_getElem? (i := 2) rfl) rfl (by decide +kernel) ⟨Nat.le_of_ble_eq_true rfl, Nat.le_of_ble_eq_true rfl⟩ (Nat.le_of_ble_eq_true rfl) (Nat.le_of_ble_eq_true rfl) (Nat.le_of_ble_eq_true rfl) dX11_init_71 dX11_init_74 dX11_init_75 (fun q71 H locs hB => ?_)
  have hB : bS D cys (bA a s.heap.size) s.heap [(a, .inr (11, [.ref q5, .ref q16, .ref q27, .ref q38, .ref q49, .ref q60, .null, .null, .null, .null, .null, .null, .null, .int 0]))] [(q71, 9), (q60, 3), (q49, 2), (q38, 2), (q27, 6), (q16, 7), (q5, 8)] [8, 10, 15, 16, 7, 13, 53, 54, 55, 56, 57, 58, 59, 60, 61, 62, 63, 64, 65, 66, 6, 67, 68, 69, 70, 71, 72, 73, 74, 75, 76, 77, 78, 79, 80, 2, 26, 26, 21, 21, 21, 2, 26, 26, 21, 21, 21, 3, 32, 2, 26, 26, 21, 21, 21, 2, 26, 26, 21, 21, 21, 2, 26, 26, 21, 21, 21, 2, 26, 26, 21, 21, 21, 2, 26, 26, 21, 21, 21, 2, 26, 26, 21, 21, 21, 2, 26, 26, 21, 21, 21, 2, 26, 26, 21, 21, 21, 9, 25, 25, 25, 25] _ _ := hB
  refine bw_put (v := .ref q71) (fty := (.object "RecastStage$Sentence")) hx hb hts hin hown hK hin2 hB rfl 6 (by decide) (in_r2 _ (List.mem_of_getElem? (i := 13) rfl)) rfl (by decide +kernel) rfl rfl (Nat.le_of_ble_eq_true rfl) dX11_init_78 (fun H locs hB => ?_)
  have hB : bS D cys (bA a s.heap.size) s.heap [(a, .inr (11, [.ref q5, .ref q16, .ref q27, .ref q38, .ref q49, .ref q60, .ref q71, .null, .null, .null, .null, .null, .null, .int 0]))] [(q71, 9), (q60, 3), (q49, 2), (q38, 2), (q27, 6), (q16, 7), (q5, 8)] [8, 10, 15, 16, 7, 13, 53, 54, 55, 56, 57, 58, 59, 60, 61, 62, 63, 64, 65, 66, 6, 67, 68, 69, 70, 71, 72, 73, 74, 75, 76, 77, 78, 79, 80, 2, 26, 26, 21, 21, 21, 2, 26, 26, 21, 21, 21, 3, 32, 2, 26, 26, 21, 21, 21, 2, 26, 26, 21, 21, 21, 2, 26, 26, 21, 21, 21, 2, 26, 26, 21, 21, 21, 2, 26, 26, 21, 21, 21, 2, 26, 26, 21, 21, 21, 2, 26, 26, 21, 21, 21, 2, 26, 26, 21, 21, 21, 9, 25, 25, 25, 25] _ _ := hB
  refine lv_aload_n hx hb dX11_init_81 rfl (lv_at hl 0 rfl) ?_
  refine bw_newn (con_9 14 rfl (by decide +kernel)) hx hb hml hl hts hin hown hT hA hB rfl tyX9_ok b_d9 (in_r2 _ (List.mem_of_getElem? (i := 10) rfl)) (in_r2 _ (List.mem_of_getElem? (i := 11) rfl)) (in_r2 _ (List.mem_of_getElem? (i := 12) rfl)) (in_r9 _ (List.mem_of_getElem? (i := 4) rfl)) (in_r9 _ (List.mem_of_getElem? (i := 5) rfl)) (List.mem_of_getElem? (i := 2) rfl) rfl (by decide +kernel) ⟨Nat.le_of_ble_eq_true rfl, Nat.le_of_ble_eq_true rfl⟩ (Nat.le_of_ble_eq_true rfl) (Nat.le_of_ble_eq_true rfl) (Nat.le_of_ble_eq_true rfl) dX11_init_82 dX11_init_85 dX11_init_86 (fun q82 H locs hB => ?_)
  have hB : bS D cys (bA a s.heap.size) s.heap [(a, .inr (11, [.ref q5, .ref q16, .ref q27, .ref q38, .ref q49, .ref q60, .ref q71, .null, .null, .null, .null, .null, .null, .int 0]))] [(q82, 14), (q71, 9), (q60, 3), (q49, 2), (q38, 2), (q27, 6), (q16, 7), (q5, 8)] [8, 10, 15, 16, 7, 13, 53, 54, 55, 56, 57, 58, 59, 60, 61, 62, 63, 64, 65, 66, 6, 67, 68, 69, 70, 71, 72, 73, 74, 75, 76, 77, 78, 79, 80, 2, 26, 26, 21, 21, 21, 2, 26, 26, 21, 21, 21, 3, 32, 2, 26, 26, 21, 21, 21, 2, 26, 26, 21, 21, 21, 2, 26, 26, 21, 21, 21, 2, 26, 26, 21, 21, 21, 2, 26, 26, 21, 21, 21, 2, 26, 26, 21, 21, 21, 2, 26, 26, 21, 21, 21, 2, 26, 26, 21, 21, 21, 9, 25, 25, 25, 25, 14, 25, 25, 25, 25] _ _ := hB
  refine bw_put (v := .ref q82) (fty := (.object "RecastStage$Sentence")) hx hb hts hin hown hK hin2 hB rfl 7 (by decide) (in_r2 _ (List.mem_of_getElem? (i := 14) rfl)) rfl (by decide +kernel) rfl rfl (Nat.le_of_ble_eq_true rfl) dX11_init_89 (fun H locs hB => ?_)
  have hB : bS D cys (bA a s.heap.size) s.heap [(a, .inr (11, [.ref q5, .ref q16, .ref q27, .ref q38, .ref q49, .ref q60, .ref q71, .ref q82, .null, .null, .null, .null, .null, .int 0]))] [(q82, 14), (q71, 9), (q60, 3), (q49, 2), (q38, 2), (q27, 6), (q16, 7), (q5, 8)] [8, 10, 15, 16, 7, 13, 53, 54, 55, 56, 57, 58, 59, 60, 61, 62, 63, 64, 65, 66, 6, 67, 68, 69, 70, 71, 72, 73, 74, 75, 76, 77, 78, 79, 80, 2, 26, 26, 21, 21, 21, 2, 26, 26, 21, 21, 21, 3, 32, 2, 26, 26, 21, 21, 21, 2, 26, 26, 21, 21, 21, 2, 26, 26, 21, 21, 21, 2, 26, 26, 21, 21, 21, 2, 26, 26, 21, 21, 21, 2, 26, 26, 21, 21, 21, 2, 26, 26, 21, 21, 21, 2, 26, 26, 21, 21, 21, 9, 25, 25, 25, 25, 14, 25, 25, 25, 25] _ _ := hB
  refine lv_aload_n hx hb dX11_init_92 rfl (lv_at hl 0 rfl) ?_
  refine bw_newn (con_1) hx hb hml hl hts hin hown hT hA hB rfl tyX1_ok b_d1 (in_r2 _ (List.mem_of_getElem? (i := 15) rfl)) (in_r2 _ (List.mem_of_getElem? (i := 16) rfl)) (in_r2 _ (List.mem_of_getElem? (i := 17) rfl)) (in_r9 _ (List.mem_of_getElem? (i := 13) rfl)) (in_r9 _ (List.mem_of_getElem? (i := 14) rfl)) (List.mem_of_getElem? (i := 3) rfl) rfl (by decide +kernel) ⟨Nat.le_of_ble_eq_true rfl, Nat.le_of_ble_eq_true rfl⟩ (Nat.le_of_ble_eq_true rfl) (Nat.le_of_ble_eq_true rfl) (Nat.le_of_ble_eq_true rfl) dX11_init_93 dX11_init_96 dX11_init_97 (fun q93 H locs hB => ?_)
  have hB : bS D cys (bA a s.heap.size) s.heap [(a, .inr (11, [.ref q5, .ref q16, .ref q27, .ref q38, .ref q49, .ref q60, .ref q71, .ref q82, .null, .null, .null, .null, .null, .int 0]))] [(q93, 1), (q82, 14), (q71, 9), (q60, 3), (q49, 2), (q38, 2), (q27, 6), (q16, 7), (q5, 8)] [8, 10, 15, 16, 7, 13, 53, 54, 55, 56, 57, 58, 59, 60, 61, 62, 63, 64, 65, 66, 6, 67, 68, 69, 70, 71, 72, 73, 74, 75, 76, 77, 78, 79, 80, 2, 26, 26, 21, 21, 21, 2, 26, 26, 21, 21, 21, 3, 32, 2, 26, 26, 21, 21, 21, 2, 26, 26, 21, 21, 21, 2, 26, 26, 21, 21, 21, 2, 26, 26, 21, 21, 21, 2, 26, 26, 21, 21, 21, 2, 26, 26, 21, 21, 21, 2, 26, 26, 21, 21, 21, 2, 26, 26, 21, 21, 21, 9, 25, 25, 25, 25, 14, 25, 25, 25, 25, 1, 21, 28, 20, 20, 22, 24, 27, 27] _ _ := hB
  refine bw_put (v := .ref q93) (fty := (.object "RecastStage$Casting")) hx hb hts hin hown hK hin2 hB rfl 8 (by decide) (in_r2 _ (List.mem_of_getElem? (i := 18) rfl)) rfl (by decide +kernel) rfl rfl (Nat.le_of_ble_eq_true rfl) dX11_init_100 (fun H locs hB => ?_)
  have hB : bS D cys (bA a s.heap.size) s.heap [(a, .inr (11, [.ref q5, .ref q16, .ref q27, .ref q38, .ref q49, .ref q60, .ref q71, .ref q82, .ref q93, .null, .null, .null, .null, .int 0]))] [(q93, 1), (q82, 14), (q71, 9), (q60, 3), (q49, 2), (q38, 2), (q27, 6), (q16, 7), (q5, 8)] [8, 10, 15, 16, 7, 13, 53, 54, 55, 56, 57, 58, 59, 60, 61, 62, 63, 64, 65, 66, 6, 67, 68, 69, 70, 71, 72, 73, 74, 75, 76, 77, 78, 79, 80, 2, 26, 26, 21, 21, 21, 2, 26, 26, 21, 21, 21, 3, 32, 2, 26, 26, 21, 21, 21, 2, 26, 26, 21, 21, 21, 2, 26, 26, 21, 21, 21, 2, 26, 26, 21, 21, 21, 2, 26, 26, 21, 21, 21, 2, 26, 26, 21, 21, 21, 2, 26, 26, 21, 21, 21, 2, 26, 26, 21, 21, 21, 9, 25, 25, 25, 25, 14, 25, 25, 25, 25, 1, 21, 28, 20, 20, 22, 24, 27, 27] _ _ := hB
  refine lv_aload_n hx hb dX11_init_103 rfl (lv_at hl 0 rfl) ?_
  refine bw_newn (con_5) hx hb hml hl hts hin hown hT hA hB rfl tyX5_ok b_d5 (in_r2 _ (List.mem_of_getElem? (i := 19) rfl)) (in_r2 _ (List.mem_of_getElem? (i := 20) rfl)) (in_r2 _ (List.mem_of_getElem? (i := 21) rfl)) (in_r10 _ (List.mem_of_getElem? (i := 6) rfl)) (in_r10 _ (List.mem_of_getElem? (i := 7) rfl)) (List.mem_of_getElem? (i := 4) rfl) rfl (by decide +kernel) ⟨Nat.le_of_ble_eq_true rfl, Nat.le_of_ble_eq_true rfl⟩ (Nat.le_of_ble_eq_true rfl) (Nat.le_of_ble_eq_true rfl) (Nat.le_of_ble_eq_true rfl) dX11_init_104 dX11_init_107 dX11_init_108 (fun q104 H locs hB => ?_)
  have hB : bS D cys (bA a s.heap.size) s.heap [(a, .inr (11, [.ref q5, .ref q16, .ref q27, .ref q38, .ref q49, .ref q60, .ref q71, .ref q82, .ref q93, .null, .null, .null, .null, .int 0]))] [(q104, 5), (q93, 1), (q82, 14), (q71, 9), (q60, 3), (q49, 2), (q38, 2), (q27, 6), (q16, 7), (q5, 8)] [8, 10, 15, 16, 7, 13, 53, 54, 55, 56, 57, 58, 59, 60, 61, 62, 63, 64, 65, 66, 6, 67, 68, 69, 70, 71, 72, 73, 74, 75, 76, 77, 78, 79, 80, 2, 26, 26, 21, 21, 21, 2, 26, 26, 21, 21, 21, 3, 32, 2, 26, 26, 21, 21, 21, 2, 26, 26, 21, 21, 21, 2, 26, 26, 21, 21, 21, 2, 26, 26, 21, 21, 21, 2, 26, 26, 21, 21, 21, 2, 26, 26, 21, 21, 21, 2, 26, 26, 21, 21, 21, 2, 26, 26, 21, 21, 21, 9, 25, 25, 25, 25, 14, 25, 25, 25, 25, 1, 21, 28, 20, 20, 22, 24, 27, 27, 5, 20, 21] _ _ := hB
  refine bw_put (v := .ref q104) (fty := (.object "RecastStage$Market")) hx hb hts hin hown hK hin2 hB rfl 9 (by decide) (in_r2 _ (List.mem_of_getElem? (i := 22) rfl)) rfl (by decide +kernel) rfl rfl (Nat.le_of_ble_eq_true rfl) dX11_init_111 (fun H locs hB => ?_)
  have hB : bS D cys (bA a s.heap.size) s.heap [(a, .inr (11, [.ref q5, .ref q16, .ref q27, .ref q38, .ref q49, .ref q60, .ref q71, .ref q82, .ref q93, .ref q104, .null, .null, .null, .int 0]))] [(q104, 5), (q93, 1), (q82, 14), (q71, 9), (q60, 3), (q49, 2), (q38, 2), (q27, 6), (q16, 7), (q5, 8)] [8, 10, 15, 16, 7, 13, 53, 54, 55, 56, 57, 58, 59, 60, 61, 62, 63, 64, 65, 66, 6, 67, 68, 69, 70, 71, 72, 73, 74, 75, 76, 77, 78, 79, 80, 2, 26, 26, 21, 21, 21, 2, 26, 26, 21, 21, 21, 3, 32, 2, 26, 26, 21, 21, 21, 2, 26, 26, 21, 21, 21, 2, 26, 26, 21, 21, 21, 2, 26, 26, 21, 21, 21, 2, 26, 26, 21, 21, 21, 2, 26, 26, 21, 21, 21, 2, 26, 26, 21, 21, 21, 2, 26, 26, 21, 21, 21, 9, 25, 25, 25, 25, 14, 25, 25, 25, 25, 1, 21, 28, 20, 20, 22, 24, 27, 27, 5, 20, 21] _ _ := hB
  refine lv_aload_n hx hb dX11_init_114 rfl (lv_at hl 0 rfl) ?_
  refine bw_newn (con_0) hx hb hml hl hts hin hown hT hA hB rfl tyX0_ok b_d0 (in_r2 _ (List.mem_of_getElem? (i := 23) rfl)) (in_r3 _ (List.mem_of_getElem? (i := 0) rfl)) (in_r3 _ (List.mem_of_getElem? (i := 1) rfl)) (in_r10 _ (List.mem_of_getElem? (i := 12) rfl)) (in_r10 _ (List.mem_of_getElem? (i := 13) rfl)) (List.mem_of_getElem? (i := 5) rfl) rfl (by decide +kernel) ⟨Nat.le_of_ble_eq_true rfl, Nat.le_of_ble_eq_true rfl⟩ (Nat.le_of_ble_eq_true rfl) (Nat.le_of_ble_eq_true rfl) (Nat.le_of_ble_eq_true rfl) dX11_init_115 dX11_init_118 dX11_init_119 (fun q115 H locs hB => ?_)
  have hB : bS D cys (bA a s.heap.size) s.heap [(a, .inr (11, [.ref q5, .ref q16, .ref q27, .ref q38, .ref q49, .ref q60, .ref q71, .ref q82, .ref q93, .ref q104, .null, .null, .null, .int 0]))] [(q115, 0), (q104, 5), (q93, 1), (q82, 14), (q71, 9), (q60, 3), (q49, 2), (q38, 2), (q27, 6), (q16, 7), (q5, 8)] [8, 10, 15, 16, 7, 13, 53, 54, 55, 56, 57, 58, 59, 60, 61, 62, 63, 64, 65, 66, 6, 67, 68, 69, 70, 71, 72, 73, 74, 75, 76, 77, 78, 79, 80, 2, 26, 26, 21, 21, 21, 2, 26, 26, 21, 21, 21, 3, 32, 2, 26, 26, 21, 21, 21, 2, 26, 26, 21, 21, 21, 2, 26, 26, 21, 21, 21, 2, 26, 26, 21, 21, 21, 2, 26, 26, 21, 21, 21, 2, 26, 26, 21, 21, 21, 2, 26, 26, 21, 21, 21, 2, 26, 26, 21, 21, 21, 9, 25, 25, 25, 25, 14, 25, 25, 25, 25, 1, 21, 28, 20, 20, 22, 24, 27, 27, 5, 20, 21, 0, 29, 30, 31] _ _ := hB
  refine bw_put (v := .ref q115) (fty := (.object "RecastStage$Book")) hx hb hts hin hown hK hin2 hB rfl 10 (by decide) (in_r3 _ (List.mem_of_getElem? (i := 2) rfl)) rfl (by decide +kernel) rfl rfl (Nat.le_of_ble_eq_true rfl) dX11_init_122 (fun H locs hB => ?_)
  have hB : bS D cys (bA a s.heap.size) s.heap [(a, .inr (11, [.ref q5, .ref q16, .ref q27, .ref q38, .ref q49, .ref q60, .ref q71, .ref q82, .ref q93, .ref q104, .ref q115, .null, .null, .int 0]))] [(q115, 0), (q104, 5), (q93, 1), (q82, 14), (q71, 9), (q60, 3), (q49, 2), (q38, 2), (q27, 6), (q16, 7), (q5, 8)] [8, 10, 15, 16, 7, 13, 53, 54, 55, 56, 57, 58, 59, 60, 61, 62, 63, 64, 65, 66, 6, 67, 68, 69, 70, 71, 72, 73, 74, 75, 76, 77, 78, 79, 80, 2, 26, 26, 21, 21, 21, 2, 26, 26, 21, 21, 21, 3, 32, 2, 26, 26, 21, 21, 21, 2, 26, 26, 21, 21, 21, 2, 26, 26, 21, 21, 21, 2, 26, 26, 21, 21, 21, 2, 26, 26, 21, 21, 21, 2, 26, 26, 21, 21, 21, 2, 26, 26, 21, 21, 21, 2, 26, 26, 21, 21, 21, 9, 25, 25, 25, 25, 14, 25, 25, 25, 25, 1, 21, 28, 20, 20, 22, 24, 27, 27, 5, 20, 21, 0, 29, 30, 31] _ _ := hB
  refine lv_aload_n hx hb dX11_init_125 rfl (lv_at hl 0 rfl) ?_
  refine lv_iconst (v := 2) hx hb dX11_init_126 (by decide) ?_
  refine bw_newq (C := RX4) (kd := 5) (N' := 2) hx hb hts hin hown hK hT.2.2.2.2 hA hB (in_r3 _ (List.mem_of_getElem? (i := 3) rfl)) rfl (by decide) (by decide) (by decide) (Nat.le_of_ble_eq_true rfl) (Nat.le_of_ble_eq_true rfl) dX11_init_127 (fun q127 H hB => ?_)
  have hB : bS D cys (bA a s.heap.size) s.heap [(a, .inr (11, [.ref q5, .ref q16, .ref q27, .ref q38, .ref q49, .ref q60, .ref q71, .ref q82, .ref q93, .ref q104, .ref q115, .null, .null, .int 0])), (q127, .inl (cys 5, 2, .inr (.inr (.inr (.inr (fun _ => none))))))] [(q115, 0), (q104, 5), (q93, 1), (q82, 14), (q71, 9), (q60, 3), (q49, 2), (q38, 2), (q27, 6), (q16, 7), (q5, 8)] [8, 10, 15, 16, 7, 13, 53, 54, 55, 56, 57, 58, 59, 60, 61, 62, 63, 64, 65, 66, 6, 67, 68, 69, 70, 71, 72, 73, 74, 75, 76, 77, 78, 79, 80, 2, 26, 26, 21, 21, 21, 2, 26, 26, 21, 21, 21, 3, 32, 2, 26, 26, 21, 21, 21, 2, 26, 26, 21, 21, 21, 2, 26, 26, 21, 21, 21, 2, 26, 26, 21, 21, 21, 2, 26, 26, 21, 21, 21, 2, 26, 26, 21, 21, 21, 2, 26, 26, 21, 21, 21, 2, 26, 26, 21, 21, 21, 9, 25, 25, 25, 25, 14, 25, 25, 25, 25, 1, 21, 28, 20, 20, 22, 24, 27, 27, 5, 20, 21, 0, 29, 30, 31] _ _ := hB
  refine bw_put (v := .ref q127) (fty := (.array (.object "RecastStage$Image"))) hx hb hts hin hown hK hin2 hB rfl 11 (by decide) (in_r3 _ (List.mem_of_getElem? (i := 4) rfl)) rfl (by decide +kernel) rfl rfl (Nat.le_of_ble_eq_true rfl) dX11_init_130 (fun H locs hB => ?_)
  have hB : bS D cys (bA a s.heap.size) s.heap [(a, .inr (11, [.ref q5, .ref q16, .ref q27, .ref q38, .ref q49, .ref q60, .ref q71, .ref q82, .ref q93, .ref q104, .ref q115, .ref q127, .null, .int 0])), (q127, .inl (cys 5, 2, .inr (.inr (.inr (.inr (fun _ => none))))))] [(q115, 0), (q104, 5), (q93, 1), (q82, 14), (q71, 9), (q60, 3), (q49, 2), (q38, 2), (q27, 6), (q16, 7), (q5, 8)] [8, 10, 15, 16, 7, 13, 53, 54, 55, 56, 57, 58, 59, 60, 61, 62, 63, 64, 65, 66, 6, 67, 68, 69, 70, 71, 72, 73, 74, 75, 76, 77, 78, 79, 80, 2, 26, 26, 21, 21, 21, 2, 26, 26, 21, 21, 21, 3, 32, 2, 26, 26, 21, 21, 21, 2, 26, 26, 21, 21, 21, 2, 26, 26, 21, 21, 21, 2, 26, 26, 21, 21, 21, 2, 26, 26, 21, 21, 21, 2, 26, 26, 21, 21, 21, 2, 26, 26, 21, 21, 21, 2, 26, 26, 21, 21, 21, 9, 25, 25, 25, 25, 14, 25, 25, 25, 25, 1, 21, 28, 20, 20, 22, 24, 27, 27, 5, 20, 21, 0, 29, 30, 31] _ _ := hB
  refine lv_aload_n hx hb dX11_init_133 rfl (lv_at hl 0 rfl) ?_
  refine lv_bipush (v := 6) hx hb dX11_init_134 (by decide) ?_
  refine bw_newa hx hb hK hA hB (ty := .int) (hts _ (hin _ (in_r3 _ (List.mem_of_getElem? (i := 5) rfl)))) rfl 26 0 rfl (by decide) (by decide +kernel) rfl rfl (by decide) (by decide) (by decide) (Nat.le_of_ble_eq_true rfl) (Nat.le_of_ble_eq_true rfl) dX11_init_136 (fun q136 H hB => ?_)
  have hB : bS D cys (bA a s.heap.size) s.heap [(a, .inr (11, [.ref q5, .ref q16, .ref q27, .ref q38, .ref q49, .ref q60, .ref q71, .ref q82, .ref q93, .ref q104, .ref q115, .ref q127, .null, .int 0])), (q127, .inl (cys 5, 2, .inr (.inr (.inr (.inr (fun _ => none))))))] [(q136, 26), (q115, 0), (q104, 5), (q93, 1), (q82, 14), (q71, 9), (q60, 3), (q49, 2), (q38, 2), (q27, 6), (q16, 7), (q5, 8)] [8, 10, 15, 16, 7, 13, 53, 54, 55, 56, 57, 58, 59, 60, 61, 62, 63, 64, 65, 66, 6, 67, 68, 69, 70, 71, 72, 73, 74, 75, 76, 77, 78, 79, 80, 2, 26, 26, 21, 21, 21, 2, 26, 26, 21, 21, 21, 3, 32, 2, 26, 26, 21, 21, 21, 2, 26, 26, 21, 21, 21, 2, 26, 26, 21, 21, 21, 2, 26, 26, 21, 21, 21, 2, 26, 26, 21, 21, 21, 2, 26, 26, 21, 21, 21, 2, 26, 26, 21, 21, 21, 2, 26, 26, 21, 21, 21, 9, 25, 25, 25, 25, 14, 25, 25, 25, 25, 1, 21, 28, 20, 20, 22, 24, 27, 27, 5, 20, 21, 0, 29, 30, 31, 26] _ _ := hB
  refine bw_put (v := .ref q136) (fty := (.array .int)) hx hb hts hin hown hK hin2 hB rfl 12 (by decide) (in_r3 _ (List.mem_of_getElem? (i := 6) rfl)) rfl (by decide +kernel) rfl rfl (Nat.le_of_ble_eq_true rfl) dX11_init_138 (fun H locs hB => ?_)
  have hB : bS D cys (bA a s.heap.size) s.heap [(a, .inr (11, [.ref q5, .ref q16, .ref q27, .ref q38, .ref q49, .ref q60, .ref q71, .ref q82, .ref q93, .ref q104, .ref q115, .ref q127, .ref q136, .int 0])), (q127, .inl (cys 5, 2, .inr (.inr (.inr (.inr (fun _ => none))))))] [(q136, 26), (q115, 0), (q104, 5), (q93, 1), (q82, 14), (q71, 9), (q60, 3), (q49, 2), (q38, 2), (q27, 6), (q16, 7), (q5, 8)] [8, 10, 15, 16, 7, 13, 53, 54, 55, 56, 57, 58, 59, 60, 61, 62, 63, 64, 65, 66, 6, 67, 68, 69, 70, 71, 72, 73, 74, 75, 76, 77, 78, 79, 80, 2, 26, 26, 21, 21, 21, 2, 26, 26, 21, 21, 21, 3, 32, 2, 26, 26, 21, 21, 21, 2, 26, 26, 21, 21, 21, 2, 26, 26, 21, 21, 21, 2, 26, 26, 21, 21, 21, 2, 26, 26, 21, 21, 21, 2, 26, 26, 21, 21, 21, 2, 26, 26, 21, 21, 21, 2, 26, 26, 21, 21, 21, 9, 25, 25, 25, 25, 14, 25, 25, 25, 25, 1, 21, 28, 20, 20, 22, 24, 27, 27, 5, 20, 21, 0, 29, 30, 31, 26] _ _ := hB
  refine lv_aload_n hx hb dX11_init_141 rfl (lv_at hl 0 rfl) ?_
  refine lv_iconst (v := 0) hx hb dX11_init_142 (by decide) ?_
  refine bw_put (v := .int 0) (fty := (.int)) hx hb hts hin hown hK hin2 hB rfl 13 (by decide) (in_r3 _ (List.mem_of_getElem? (i := 7) rfl)) rfl (by decide +kernel) rfl rfl (Nat.le_of_ble_eq_true rfl) dX11_init_143 (fun H locs hB => ?_)
  have hB : bS D cys (bA a s.heap.size) s.heap [(a, .inr (11, [.ref q5, .ref q16, .ref q27, .ref q38, .ref q49, .ref q60, .ref q71, .ref q82, .ref q93, .ref q104, .ref q115, .ref q127, .ref q136, .int 0])), (q127, .inl (cys 5, 2, .inr (.inr (.inr (.inr (fun _ => none))))))] [(q136, 26), (q115, 0), (q104, 5), (q93, 1), (q82, 14), (q71, 9), (q60, 3), (q49, 2), (q38, 2), (q27, 6), (q16, 7), (q5, 8)] [8, 10, 15, 16, 7, 13, 53, 54, 55, 56, 57, 58, 59, 60, 61, 62, 63, 64, 65, 66, 6, 67, 68, 69, 70, 71, 72, 73, 74, 75, 76, 77, 78, 79, 80, 2, 26, 26, 21, 21, 21, 2, 26, 26, 21, 21, 21, 3, 32, 2, 26, 26, 21, 21, 21, 2, 26, 26, 21, 21, 21, 2, 26, 26, 21, 21, 21, 2, 26, 26, 21, 21, 21, 2, 26, 26, 21, 21, 21, 2, 26, 26, 21, 21, 21, 2, 26, 26, 21, 21, 21, 2, 26, 26, 21, 21, 21, 9, 25, 25, 25, 25, 14, 25, 25, 25, 25, 1, 21, 28, 20, 20, 22, 24, 27, 27, 5, 20, 21, 0, 29, 30, 31, 26] _ _ := hB
  refine lv_iconst (v := 0) hx hb dX11_init_146 (by decide) ?_
  refine lv_istore_n (lv' := [(1, .int 0), (0, .ref a)]) hx hb dX11_init_147 rfl hl (by decide) rfl (fun ls hl => ?_)
  refine lv_iload_n hx hb dX11_init_148 rfl (lv_at hl 0 rfl) ?_
  refine lv_iconst (v := 2) hx hb dX11_init_149 (by decide) ?_
  refine lv_icmp_ge (tgt := 172) hx hb dX11_init_150 (by decide) (fun h => absurd h (by decide)) (fun _ => ?_)
  refine lv_aload_n hx hb dX11_init_153 rfl (lv_at hl 1 rfl) ?_
  refine bw_get hx hb hts hin hown hK hB rfl 11 (by decide) (in_r3 _ (List.mem_of_getElem? (i := 4) rfl)) rfl dX11_init_154 ?_
  refine lv_iload_n hx hb dX11_init_157 rfl (lv_at hl 0 rfl) ?_
  refine bw_newn (con_4i) hx hb hml hl hts hin hown hT hA hB rfl tyX4_ok b_d4 (in_r3 _ (List.mem_of_getElem? (i := 3) rfl)) (in_r3 _ (List.mem_of_getElem? (i := 8) rfl)) (in_r3 _ (List.mem_of_getElem? (i := 9) rfl)) (in_r11 _ (List.mem_of_getElem? (i := 0) rfl)) (in_r11 _ (List.mem_of_getElem? (i := 1) rfl)) (List.mem_of_getElem? (i := 6) rfl) rfl (by decide +kernel) ⟨Nat.le_of_ble_eq_true rfl, Nat.le_of_ble_eq_true rfl⟩ (Nat.le_of_ble_eq_true rfl) (Nat.le_of_ble_eq_true rfl) (Nat.le_of_ble_eq_true rfl) dX11_init_158 dX11_init_161 dX11_init_162 (fun q158_0 H locs hB => ?_)
  have hB : bS D cys (bA a s.heap.size) s.heap [(a, .inr (11, [.ref q5, .ref q16, .ref q27, .ref q38, .ref q49, .ref q60, .ref q71, .ref q82, .ref q93, .ref q104, .ref q115, .ref q127, .ref q136, .int 0])), (q127, .inl (cys 5, 2, .inr (.inr (.inr (.inr (fun _ => none))))))] [(q158_0, 4), (q136, 26), (q115, 0), (q104, 5), (q93, 1), (q82, 14), (q71, 9), (q60, 3), (q49, 2), (q38, 2), (q27, 6), (q16, 7), (q5, 8)] [8, 10, 15, 16, 7, 13, 53, 54, 55, 56, 57, 58, 59, 60, 61, 62, 63, 64, 65, 66, 6, 67, 68, 69, 70, 71, 72, 73, 74, 75, 76, 77, 78, 79, 80, 2, 26, 26, 21, 21, 21, 2, 26, 26, 21, 21, 21, 3, 32, 2, 26, 26, 21, 21, 21, 2, 26, 26, 21, 21, 21, 2, 26, 26, 21, 21, 21, 2, 26, 26, 21, 21, 21, 2, 26, 26, 21, 21, 21, 2, 26, 26, 21, 21, 21, 2, 26, 26, 21, 21, 21, 2, 26, 26, 21, 21, 21, 9, 25, 25, 25, 25, 14, 25, 25, 25, 25, 1, 21, 28, 20, 20, 22, 24, 27, 27, 5, 20, 21, 0, 29, 30, 31, 26, 4, 51, 81, 82, 83, 84, 85, 86, 87, 88, 89, 90, 91, 92, 93, 94, 2, 26, 26, 21, 21, 21, 110, 25, 25, 25, 25] _ _ := hB
  refine bw_astq (k := 1) (kd := 5) (i' := 0) hx hb hK hB rfl (List.mem_of_getElem? (i := 0) rfl) rfl rfl rfl (by unfold vp_in; decide) (by decide) dX11_init_165 (fun H locs hB => ?_)
  have hB : bS D cys (bA a s.heap.size) s.heap [(a, .inr (11, [.ref q5, .ref q16, .ref q27, .ref q38, .ref q49, .ref q60, .ref q71, .ref q82, .ref q93, .ref q104, .ref q115, .ref q127, .ref q136, .int 0])), (q127, .inl (cys 5, 2, .inr (.inr (.inr (.inr (va_up (fun _ => none) 0 (some q158_0)))))))] [(q158_0, 4), (q136, 26), (q115, 0), (q104, 5), (q93, 1), (q82, 14), (q71, 9), (q60, 3), (q49, 2), (q38, 2), (q27, 6), (q16, 7), (q5, 8)] [8, 10, 15, 16, 7, 13, 53, 54, 55, 56, 57, 58, 59, 60, 61, 62, 63, 64, 65, 66, 6, 67, 68, 69, 70, 71, 72, 73, 74, 75, 76, 77, 78, 79, 80, 2, 26, 26, 21, 21, 21, 2, 26, 26, 21, 21, 21, 3, 32, 2, 26, 26, 21, 21, 21, 2, 26, 26, 21, 21, 21, 2, 26, 26, 21, 21, 21, 2, 26, 26, 21, 21, 21, 2, 26, 26, 21, 21, 21, 2, 26, 26, 21, 21, 21, 2, 26, 26, 21, 21, 21, 2, 26, 26, 21, 21, 21, 9, 25, 25, 25, 25, 14, 25, 25, 25, 25, 1, 21, 28, 20, 20, 22, 24, 27, 27, 5, 20, 21, 0, 29, 30, 31, 26, 4, 51, 81, 82, 83, 84, 85, 86, 87, 88, 89, 90, 91, 92, 93, 94, 2, 26, 26, 21, 21, 21, 110, 25, 25, 25, 25] _ _ := hB
  refine lv_iinc (v := 1) (lv' := [(1, .int 1), (0, .ref a)]) hx hb dX11_init_166 hl (k := 0) rfl (by decide) (by decide) rfl (fun ls hl => ?_)
  refine lv_goto (tgt := 148) hx hb dX11_init_169 (by decide) ?_
  refine lv_iload_n hx hb dX11_init_148 rfl (lv_at hl 0 rfl) ?_
  refine lv_iconst (v := 2) hx hb dX11_init_149 (by decide) ?_
  refine lv_icmp_ge (tgt := 172) hx hb dX11_init_150 (by decide) (fun h => absurd h (by decide)) (fun _ => ?_)
  refine lv_aload_n hx hb dX11_init_153 rfl (lv_at hl 1 rfl) ?_
  refine bw_get hx hb hts hin hown hK hB rfl 11 (by decide) (in_r3 _ (List.mem_of_getElem? (i := 4) rfl)) rfl dX11_init_154 ?_
  refine lv_iload_n hx hb dX11_init_157 rfl (lv_at hl 0 rfl) ?_
  refine bw_newn (con_4j) hx hb hml hl hts hin hown hT hA hB rfl tyX4_ok b_d4 (in_r3 _ (List.mem_of_getElem? (i := 3) rfl)) (in_r3 _ (List.mem_of_getElem? (i := 8) rfl)) (in_r3 _ (List.mem_of_getElem? (i := 9) rfl)) (in_r11 _ (List.mem_of_getElem? (i := 0) rfl)) (in_r11 _ (List.mem_of_getElem? (i := 1) rfl)) (List.mem_of_getElem? (i := 6) rfl) rfl (by decide +kernel) ⟨Nat.le_of_ble_eq_true rfl, Nat.le_of_ble_eq_true rfl⟩ (Nat.le_of_ble_eq_true rfl) (Nat.le_of_ble_eq_true rfl) (Nat.le_of_ble_eq_true rfl) dX11_init_158 dX11_init_161 dX11_init_162 (fun q158_1 H locs hB => ?_)
  have hB : bS D cys (bA a s.heap.size) s.heap [(a, .inr (11, [.ref q5, .ref q16, .ref q27, .ref q38, .ref q49, .ref q60, .ref q71, .ref q82, .ref q93, .ref q104, .ref q115, .ref q127, .ref q136, .int 0])), (q127, .inl (cys 5, 2, .inr (.inr (.inr (.inr (va_up (fun _ => none) 0 (some q158_0)))))))] [(q158_1, 48), (q158_0, 4), (q136, 26), (q115, 0), (q104, 5), (q93, 1), (q82, 14), (q71, 9), (q60, 3), (q49, 2), (q38, 2), (q27, 6), (q16, 7), (q5, 8)] [8, 10, 15, 16, 7, 13, 53, 54, 55, 56, 57, 58, 59, 60, 61, 62, 63, 64, 65, 66, 6, 67, 68, 69, 70, 71, 72, 73, 74, 75, 76, 77, 78, 79, 80, 2, 26, 26, 21, 21, 21, 2, 26, 26, 21, 21, 21, 3, 32, 2, 26, 26, 21, 21, 21, 2, 26, 26, 21, 21, 21, 2, 26, 26, 21, 21, 21, 2, 26, 26, 21, 21, 21, 2, 26, 26, 21, 21, 21, 2, 26, 26, 21, 21, 21, 2, 26, 26, 21, 21, 21, 2, 26, 26, 21, 21, 21, 9, 25, 25, 25, 25, 14, 25, 25, 25, 25, 1, 21, 28, 20, 20, 22, 24, 27, 27, 5, 20, 21, 0, 29, 30, 31, 26, 4, 51, 81, 82, 83, 84, 85, 86, 87, 88, 89, 90, 91, 92, 93, 94, 2, 26, 26, 21, 21, 21, 110, 25, 25, 25, 25, 48, 52, 95, 96, 97, 98, 99, 100, 101, 102, 103, 104, 105, 106, 107, 108, 2, 26, 26, 21, 21, 21, 111, 25, 25, 25, 25] _ _ := hB
  refine bw_astq (k := 1) (kd := 5) (i' := 1) hx hb hK hB rfl (List.mem_of_getElem? (i := 0) rfl) rfl rfl rfl (by unfold vp_in; decide) (by decide) dX11_init_165 (fun H locs hB => ?_)
  have hB : bS D cys (bA a s.heap.size) s.heap [(a, .inr (11, [.ref q5, .ref q16, .ref q27, .ref q38, .ref q49, .ref q60, .ref q71, .ref q82, .ref q93, .ref q104, .ref q115, .ref q127, .ref q136, .int 0])), (q127, .inl (cys 5, 2, .inr (.inr (.inr (.inr (va_up (va_up (fun _ => none) 0 (some q158_0)) 1 (some q158_1)))))))] [(q158_1, 48), (q158_0, 4), (q136, 26), (q115, 0), (q104, 5), (q93, 1), (q82, 14), (q71, 9), (q60, 3), (q49, 2), (q38, 2), (q27, 6), (q16, 7), (q5, 8)] [8, 10, 15, 16, 7, 13, 53, 54, 55, 56, 57, 58, 59, 60, 61, 62, 63, 64, 65, 66, 6, 67, 68, 69, 70, 71, 72, 73, 74, 75, 76, 77, 78, 79, 80, 2, 26, 26, 21, 21, 21, 2, 26, 26, 21, 21, 21, 3, 32, 2, 26, 26, 21, 21, 21, 2, 26, 26, 21, 21, 21, 2, 26, 26, 21, 21, 21, 2, 26, 26, 21, 21, 21, 2, 26, 26, 21, 21, 21, 2, 26, 26, 21, 21, 21, 2, 26, 26, 21, 21, 21, 2, 26, 26, 21, 21, 21, 9, 25, 25, 25, 25, 14, 25, 25, 25, 25, 1, 21, 28, 20, 20, 22, 24, 27, 27, 5, 20, 21, 0, 29, 30, 31, 26, 4, 51, 81, 82, 83, 84, 85, 86, 87, 88, 89, 90, 91, 92, 93, 94, 2, 26, 26, 21, 21, 21, 110, 25, 25, 25, 25, 48, 52, 95, 96, 97, 98, 99, 100, 101, 102, 103, 104, 105, 106, 107, 108, 2, 26, 26, 21, 21, 21, 111, 25, 25, 25, 25] _ _ := hB
  refine lv_iinc (v := 2) (lv' := [(1, .int 2), (0, .ref a)]) hx hb dX11_init_166 hl (k := 0) rfl (by decide) (by decide) rfl (fun ls hl => ?_)
  refine lv_goto (tgt := 148) hx hb dX11_init_169 (by decide) ?_
  refine lv_iload_n hx hb dX11_init_148 rfl (lv_at hl 0 rfl) ?_
  refine lv_iconst (v := 2) hx hb dX11_init_149 (by decide) ?_
  refine lv_icmp_ge (tgt := 172) hx hb dX11_init_150 (by decide) (fun _ => ?_) (fun h => absurd (by decide) h)
  have hB := bw_close (pre := [(a, .inr (11, [.ref q5, .ref q16, .ref q27, .ref q38, .ref q49, .ref q60, .ref q71, .ref q82, .ref q93, .ref q104, .ref q115, .ref q127, .ref q136, .int 0]))]) (t := 33) hB rfl (by decide) (by decide +kernel) rfl (fun j hj => match j, hj with
    | 0, _ => ⟨_, rfl, List.mem_of_getElem? (i := 1) rfl⟩
    | 1, _ => ⟨_, rfl, List.mem_of_getElem? (i := 0) rfl⟩
    | n + 2, h => absurd h (by omega))
  have hB : bS D cys (bA a s.heap.size) s.heap [(a, .inr (11, [.ref q5, .ref q16, .ref q27, .ref q38, .ref q49, .ref q60, .ref q71, .ref q82, .ref q93, .ref q104, .ref q115, .ref q127, .ref q136, .int 0]))] [(q127, 33), (q158_1, 48), (q158_0, 4), (q136, 26), (q115, 0), (q104, 5), (q93, 1), (q82, 14), (q71, 9), (q60, 3), (q49, 2), (q38, 2), (q27, 6), (q16, 7), (q5, 8)] [33, 8, 10, 15, 16, 7, 13, 53, 54, 55, 56, 57, 58, 59, 60, 61, 62, 63, 64, 65, 66, 6, 67, 68, 69, 70, 71, 72, 73, 74, 75, 76, 77, 78, 79, 80, 2, 26, 26, 21, 21, 21, 2, 26, 26, 21, 21, 21, 3, 32, 2, 26, 26, 21, 21, 21, 2, 26, 26, 21, 21, 21, 2, 26, 26, 21, 21, 21, 2, 26, 26, 21, 21, 21, 2, 26, 26, 21, 21, 21, 2, 26, 26, 21, 21, 21, 2, 26, 26, 21, 21, 21, 2, 26, 26, 21, 21, 21, 9, 25, 25, 25, 25, 14, 25, 25, 25, 25, 1, 21, 28, 20, 20, 22, 24, 27, 27, 5, 20, 21, 0, 29, 30, 31, 26, 4, 51, 81, 82, 83, 84, 85, 86, 87, 88, 89, 90, 91, 92, 93, 94, 2, 26, 26, 21, 21, 21, 110, 25, 25, 25, 25, 48, 52, 95, 96, 97, 98, 99, 100, 101, 102, 103, 104, 105, 106, 107, 108, 2, 26, 26, 21, 21, 21, 111, 25, 25, 25, 25] _ _ := hB
  refine lv_aload_n hx hb dX11_init_172 rfl (lv_at hl 1 rfl) ?_
  refine bw_get hx hb hts hin hown hK hB rfl 12 (by decide) (in_r3 _ (List.mem_of_getElem? (i := 6) rfl)) rfl dX11_init_173 ?_
  refine lv_iconst (v := (-1)) hx hb dX11_init_176 (by decide) ?_
  refine bw_fill hx hb hml hl hts hin hown hT hB (List.mem_of_getElem? (i := 3) rfl) (mm_280_1 (in_r11 _ (List.mem_of_getElem? (i := 11) rfl))) ⟨Nat.le_of_ble_eq_true rfl, Nat.le_of_ble_eq_true rfl⟩ (Nat.le_of_ble_eq_true rfl) ⟨Nat.le_of_ble_eq_true rfl, Nat.le_of_ble_eq_true rfl⟩ dX11_init_177 (fun H locs hB => ?_)
  refine bw_ret (zs := [13]) hx hb hr hlk hB rfl rfl (fun ty hty k ft hk => ?_) (by decide +kernel) (List.forall_mem_cons.mpr ⟨rfl, (fun k hk => by cases hk)⟩) ⟨rfl, rfl⟩ dX11_init_180
  exact match k, hk with
    | 0, hk => by cases hk; exact ⟨_, rfl, ⟨_, rfl, hty _ (List.mem_of_getElem? (i := 14) rfl)⟩⟩
    | 1, hk => by cases hk; exact ⟨_, rfl, ⟨_, rfl, hty _ (List.mem_of_getElem? (i := 13) rfl)⟩⟩
    | 2, hk => by cases hk; exact ⟨_, rfl, ⟨_, rfl, hty _ (List.mem_of_getElem? (i := 12) rfl)⟩⟩
    | 3, hk => by cases hk; exact ⟨_, rfl, ⟨_, rfl, hty _ (List.mem_of_getElem? (i := 11) rfl)⟩⟩
    | 4, hk => by cases hk; exact ⟨_, rfl, ⟨_, rfl, hty _ (List.mem_of_getElem? (i := 10) rfl)⟩⟩
    | 5, hk => by cases hk; exact ⟨_, rfl, ⟨_, rfl, hty _ (List.mem_of_getElem? (i := 9) rfl)⟩⟩
    | 6, hk => by cases hk; exact ⟨_, rfl, ⟨_, rfl, hty _ (List.mem_of_getElem? (i := 8) rfl)⟩⟩
    | 7, hk => by cases hk; exact ⟨_, rfl, ⟨_, rfl, hty _ (List.mem_of_getElem? (i := 7) rfl)⟩⟩
    | 8, hk => by cases hk; exact ⟨_, rfl, ⟨_, rfl, hty _ (List.mem_of_getElem? (i := 6) rfl)⟩⟩
    | 9, hk => by cases hk; exact ⟨_, rfl, ⟨_, rfl, hty _ (List.mem_of_getElem? (i := 5) rfl)⟩⟩
    | 10, hk => by cases hk; exact ⟨_, rfl, ⟨_, rfl, hty _ (List.mem_of_getElem? (i := 4) rfl)⟩⟩
    | 11, hk => by cases hk; exact ⟨_, rfl, ⟨_, rfl, hty _ (List.mem_of_getElem? (i := 0) rfl)⟩⟩
    | 12, hk => by cases hk; exact ⟨_, rfl, ⟨_, rfl, hty _ (List.mem_of_getElem? (i := 3) rfl)⟩⟩
    | 13, hk => by cases hk; exact ⟨_, rfl, bv_i (by decide) (by decide)⟩
    | n + 14, hk => by cases hk
end CONX

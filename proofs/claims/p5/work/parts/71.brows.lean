/-! BUILDING, 3: rows of constructors. -/
theorem b_RA {U : State} {cA cB : ClassId} {ty : FieldType} (h1 : va_RA U cA ty) (h2 : va_RA U cB ty) : cA = cB := by
  cases ty with
  | object C =>
    obtain ⟨_, _, _, _, _, h1⟩ := h1
    obtain ⟨_, _, _, _, _, h2⟩ := h2
    exact Option.some.inj (h1.symm.trans h2)
  | _ => exact Option.some.inj (Eq.trans (Eq.symm (show U.vm.findClass _ = some cA from h1)) (show U.vm.findClass _ = some cB from h2))
theorem b_Dr {A : Nat → Prop} {u v : va_W} (h : va_D A (u ++ v)) : va_D A v := by
  have key : ∀ (k : Nat) (x : Nat × va_E), v[k]? = some x → (u ++ v)[u.length + k]? = some x := fun k x hx => by rw [List.getElem?_append_right (by omega), Nat.add_sub_cancel_left]; exact hx
  exact ⟨fun i j p q hp hq e => by have := h.1 _ _ p q (key i p hp) (key j q hq) e; omega, fun k q hk => h.2 _ q (key k q hk)⟩
/-- a constructor's world: cells told one by one, then made cells of known sorts -/
def bS (D : va_G) (cys : Nat → ClassId) (A : Nat → Prop) (H0 : Heap) (pre : va_W) (L : List (Nat × Nat)) (TG : List Nat) (H : Heap) (locs : List Loc) : Prop := va_S A H0 H locs ∧ ∃ (τ : List (Nat × Nat)) (ws : va_W), va_P D ck_cl (pre ++ ws) H ∧ va_D A (pre ++ ws) ∧ bz cys τ ws ∧ (∀ r ∈ L, r ∈ τ) ∧ τ.map Prod.snd = TG
def b_nest : List Jvm.Cond := [.methodLinkNest RX11 18 yX7_init RX11, .methodLinkNest RX11 25 yX6_init RX11, .methodLinkNest RX11 49 yX9_init RX11, .methodLinkNest RX11 59 yX1_init RX11, .methodLinkNest RX11 66 yX5_init RX11, .methodLinkNest RX11 73 yX0_init RX11, .methodLinkNest RX11 92 yX4_init RX11, .methodLinkNest RX4 15 yX6_init RX11, .methodLinkNest RX4 29 yX9_init RX11, .methodLinkNest RX7 11 yX6_init RX11, .methodLinkNest RX8 11 yX10_init RX11]
/-- what the tables say, as constructors need it -/
def bT (D : va_G) (cys : Nat → ClassId) (U : State) : Prop := va_K D ck_cl (ck_tys cys) U ∧ (∀ w ∈ ck_nest, va_Nw w U) ∧ (∀ w ∈ b_nest, va_Nw w U) ∧ va_AO RX2 U ∧ va_AO RX4 U
/-- a constructor's contract: its cell, at its first values, becomes a cell of sort t with the cells behind it -/
def bCon (l : Launch) (D : va_G) (cys : Nat → ClassId) (y : MethodName) (cc : ByteArray) (ml fr lo mc ms ci : Nat) (fs0 : List Value) (t : Nat) (TG : List Nat) : Prop := ∀ a sz : Nat, Met l y (Jvm.Cond.code y cc ml none :: wsL_law0) ({ frames := fr, cells := mc, slots := ms, locals := lo }) (va_Pc [.ref a] (fun U => U.heap.size = sz ∧ va_P D ck_cl [(a, .inr (ci, fs0))] U.heap ∧ bT D cys U)) (va_Qv (fun u : List (Nat × Nat) × va_W => bz cys u.1 u.2 ∧ u.1[0]? = some (a, t) ∧ u.1.map Prod.snd = TG) (fun u U => va_P D ck_cl u.2 U.heap ∧ va_D (bA a sz) u.2) (bA a sz)) mc ms (bA a sz)
theorem bT_warm {D : va_G} {cys : Nat → ClassId} {s U : State} (hW : s.WarmedH U.vm) (h : bT D cys s) : bT D cys U := by
  obtain ⟨h1, h2, h3, h4, h5⟩ := h
  refine ⟨va_K.moved hW.alike h1, ck_nest_warm hW h2, fun w hw => ?_, va_AO.moved hW.alike h4, va_AO.moved hW.alike h5⟩
  have := h3 w hw
  simp only [b_nest, List.mem_cons, List.not_mem_nil, or_false] at hw
  rcases hw with rfl | rfl | rfl | rfl | rfl | rfl | rfl | rfl | rfl | rfl | rfl <;> exact va_Nw.warmM hW this
theorem bT_same {D : va_G} {cys : Nat → ClassId} {s U : State} (hW : s.vm = U.vm) (h : bT D cys s) : bT D cys U := by
  obtain ⟨h1, h2, h3, h4, h5⟩ := h
  have hv : s.vm.Alike U.vm := by rw [hW]; exact Vm.Alike.refl U.vm
  refine ⟨va_K.moved hv h1, fun w hw => va_Nw.same (ck_nest_tab w hw) hW (h2 w hw), fun w hw => ?_, va_AO.moved hv h4, va_AO.moved hv h5⟩
  have := h3 w hw
  simp only [b_nest, List.mem_cons, List.not_mem_nil, or_false] at hw
  rcases hw with rfl | rfl | rfl | rfl | rfl | rfl | rfl | rfl | rfl | rfl | rfl <;> exact va_Nw.same rfl hW this
section BR
variable {p : Program} {l : Launch} {e : Env} {R : Room} {s : State} {m : MethodId} {args : Array Value} {below : List Frame} {meth : Method} {c : Code} {H H0 : Heap} {locs : List Loc} {cells slots : Nat} {Q : State → Prop} {cc : ByteArray} {pc : Nat} {ls : Array Slot} {rest : List Value}
variable {D : va_G} {cys : Nat → ClassId} {A : Nat → Prop} {pre : va_W} {L : List (Nat × Nat)} {TG : List Nat} {Ts : List Jvm.Cond} {own : String}
theorem bw_add {τ τ' L' : List (Nat × Nat)} {ws ws' : va_W} {H1 : Heap} (hS : va_S A H0 H1 locs) (hP : va_P D ck_cl (pre ++ (ws ++ ws')) H1) (hD : va_D A (pre ++ (ws ++ ws'))) (hbz : bz cys τ ws) (hL : ∀ r ∈ L, r ∈ τ) (hTG : τ.map Prod.snd = TG) (hbz' : bz cys τ' ws') (hL' : ∀ r ∈ L', r ∈ τ') {TG' : List Nat} (hTG' : τ'.map Prod.snd = TG') : bS D cys A H0 pre (L' ++ L) (TG ++ TG') H1 locs := by
  refine ⟨hS, τ ++ τ', ws ++ ws', hP, hD, bz_app hbz hbz' (b_Dr hD), fun r hr => ?_, by rw [List.map_append, hTG, hTG']⟩
  rcases List.mem_append.mp hr with h | h
  · exact List.mem_append_right _ (hL' r h)
  · exact List.mem_append_left _ (hL r h)
theorem bw_newa (hexec : p.tables.exec = Jvm.exec) (hb : c.code = cc) (hK : va_K D ck_cl (ck_tys cys) s) (hA : ∀ q, H0.size ≤ q → A q) (hB : bS D cys A H0 pre L TG H locs) {atype : ArrayType} {ty : FieldType} (harr : (Jvm.Cond.arrayClass (newarray.typeOf atype)).before args s = true) (hty : newarray.typeOf atype = ty) {N' et : Nat} {sg : List (Nat × Int × Int)} (t kd : Nat) (ht : ck_tags[t]? = some (.inr (kd, N', sg, et))) (hkd : kd < 3) (hz : ck_z0 sg N' = true) (hcy : (ck_tys cys)[kd]? = some (cys kd, ty)) (hd : defaultValue ty = .int 0) {n : Int32} (hn : ¬ n < 0) (hN : n.toNatClampNeg = N') (hbytes : N' * componentBytes ty ≤ 536870912) (hcells : cells + 1 ≤ R.cells) (hslots : slots + N' ≤ R.slots) (hdg : decode cc pc = .ok (.newarray atype, 2))
    (kk : ∀ (q : Nat) (H1 : Heap), bS D cys A H0 pre ((q, t) :: L) (TG ++ [t]) H1 locs → W p l e R s m args below meth c H1 locs (cells + 1) (slots + N') Q (F0 m (pc + 2) ls (.ref q :: rest))) : W p l e R s m args below meth c H locs cells slots Q (F0 m pc ls (.int n :: rest)) := by
  obtain ⟨hS, τ, ws, hP, hD, hbz, hL, hTG⟩ := hB
  refine va_newa hexec hb harr hty hK hP hD hS hA (a0 := (N', .inl (fun _ => 0))) (fun cA => by rw [hd]; rfl) hn hN hbytes hcells hslots hdg (fun q cA H1 hK' hP' hD' hS' => ?_)
  have e := b_RA (hK'.2 (ck_tys cys).length (cA, ty) (by rw [List.getElem?_append_right (Nat.le_refl _), Nat.sub_self]; rfl)).2 (hK.2 kd _ hcy).2
  dsimp only at e
  subst e
  rw [List.append_assoc] at hP' hD'
  exact kk q H1 (bw_add (L' := [(q, t)]) hS' hP' hD' hbz hL hTG (bz_arr ht hkd hz) (fun r hr => hr) rfl)
theorem bw_newl (hexec : p.tables.exec = Jvm.exec) (hb : c.code = cc) (hK : va_K D ck_cl (ck_tys cys) s) (hA : ∀ q, H0.size ≤ q → A q) (hB : bS D cys A H0 pre L TG H locs) (harr : (Jvm.Cond.arrayClass (newarray.typeOf .long)).before args s = true) {N' et : Nat} {sg : List (Nat × Int × Int)} (t : Nat) (ht : ck_tags[t]? = some (.inr (3, N', sg, et))) (h1 : ck_nfa ck_pvs0 t = true) (h2 : t ≠ 16 ∧ t ≠ 50) {n : Int32} (hn : ¬ n < 0) (hN : n.toNatClampNeg = N') (hbytes : N' * 8 ≤ 536870912) (hcells : cells + 1 ≤ R.cells) (hslots : slots + N' ≤ R.slots) (hdg : decode cc pc = .ok (.newarray .long, 2))
    (kk : ∀ (q : Nat) (H1 : Heap), bS D cys A H0 pre ((q, t) :: L) (TG ++ [t]) H1 locs → W p l e R s m args below meth c H1 locs (cells + 1) (slots + N') Q (F0 m (pc + 2) ls (.ref q :: rest))) : W p l e R s m args below meth c H locs cells slots Q (F0 m pc ls (.int n :: rest)) := by
  obtain ⟨hS, τ, ws, hP, hD, hbz, hL, hTG⟩ := hB
  refine va_newa hexec hb harr (ty := .long) rfl hK hP hD hS hA (a0 := (N', .inr (.inl (fun _ => 0)))) (fun cA => rfl) hn hN hbytes hcells hslots hdg (fun q cA H1 hK' hP' hD' hS' => ?_)
  have e := b_RA (hK'.2 (ck_tys cys).length (cA, .long) (by rw [List.getElem?_append_right (Nat.le_refl _), Nat.sub_self]; rfl)).2 (hK.2 3 _ rfl).2
  dsimp only at e
  subst e
  rw [List.append_assoc] at hP' hD'
  exact kk q H1 (bw_add (L' := [(q, t)]) hS' hP' hD' hbz hL hTG (bz_arrL ht h1 h2) (fun r hr => hr) rfl)
theorem bw_put (hexec : p.tables.exec = Jvm.exec) (hb : c.code = cc) (hts : ∀ w ∈ Ts, w.before args s = true) (hin : ∀ w ∈ wsL_law0, w ∈ Ts) (hown : s.vm.findClass own = some m.cls) (hK : va_K D ck_cl (ck_tys cys) s) (hin2 : meth.name = "<init>") {a ci index : Nat} {fs : List Value} (hB : bS D cys A H0 ((a, .inr (ci, fs)) :: pre) L TG H locs) {r : vw_C} (hc : ck_cl[ci]? = some r) (k : Nat) (hk : k < r.2.2) (hlink : Jvm.Cond.fieldLink own index (r.2.1 k).1 (r.2.1 k).2.1 (r.2.1 k).2.2.1 ∈ wsL_law0) (hdecl : (r.2.1 k).1 = own) {fty : FieldType} {v : Value} (hd : parseFieldDescriptor (r.2.1 k).2.2.1 = some fty) (hn : narrow fty v = v) (hfit : fits fty v = true) (hl : k < fs.length) (hdg : decode cc pc = .ok (.putfield index, 3))
    (kk : ∀ (H1 : Heap) (locs1 : List Loc), bS D cys A H0 ((a, .inr (ci, fs.set k v)) :: pre) L TG H1 locs1 → W p l e R s m args below meth c H1 locs1 cells slots Q (F0 m (pc + 3) ls rest)) : W p l e R s m args below meth c H locs cells slots Q (F0 m pc ls (v :: .ref a :: rest)) := by
  obtain ⟨hS, τ, ws, hP, hD, hbz, hL, hTG⟩ := hB
  obtain ⟨C, T, N⟩ := r
  obtain ⟨k1, ⟨ty0, k2⟩, k3⟩ := ck_cl_ok hc
  cases hfin : (T k).2.2.2 with
  | false => exact va_put (own := own) (ref := (T k).1) hexec hb hts (fun w h => hin w (k1 w h)) ty0 k2 k3 hown hK hP hD hS 0 rfl hc k hk (hts _ (hin _ hlink)) (fun _ h => h) hfin hd hn hfit hl hdg (fun H1 locs1 hP1 hD1 hS1 => kk H1 locs1 ⟨hS1, τ, ws, hP1, hD1, hbz, hL, hTG⟩)
  | true => exact va_putF (own := own) (ref := (T k).1) hexec hb hts (fun w h => hin w (k1 w h)) ty0 k2 k3 hown hK hP hD hS 0 rfl hc k hk (hts _ (hin _ hlink)) (fun _ h => h) hfin hin2 hdecl hd hn hfit hl hdg (fun H1 locs1 hP1 hD1 hS1 => kk H1 locs1 ⟨hS1, τ, ws, hP1, hD1, hbz, hL, hTG⟩)
theorem bw_get (hexec : p.tables.exec = Jvm.exec) (hb : c.code = cc) (hts : ∀ w ∈ Ts, w.before args s = true) (hin : ∀ w ∈ wsL_law0, w ∈ Ts) (hown : s.vm.findClass own = some m.cls) (hK : va_K D ck_cl (ck_tys cys) s) {a ci index : Nat} {fs : List Value} (hB : bS D cys A H0 ((a, .inr (ci, fs)) :: pre) L TG H locs) {r : vw_C} (hc : ck_cl[ci]? = some r) (k : Nat) (hk : k < r.2.2) (hlink : Jvm.Cond.fieldLink own index (r.2.1 k).1 (r.2.1 k).2.1 (r.2.1 k).2.2.1 ∈ wsL_law0) {v : Value} (hv : fs[k]? = some v) (hdg : decode cc pc = .ok (.getfield index, 3))
    (kk : W p l e R s m args below meth c H locs cells slots Q (F0 m (pc + 3) ls (v :: rest))) : W p l e R s m args below meth c H locs cells slots Q (F0 m pc ls (.ref a :: rest)) := by
  obtain ⟨hS, τ, ws, hP, hD, hbz, hL, hTG⟩ := hB
  obtain ⟨C, T, N⟩ := r
  exact va_get (own := own) (ref := (T k).1) hexec hb hts (fun w h => hin w ((ck_cl_ok hc).1 w h)) hown hK hP 0 rfl hc k hk (hts _ (hin _ hlink)) (fun _ h => h) hv hdg kk
/-- a constructor begins -/
theorem bw_enter {y : MethodName} {ml fr lo mc ms ci o : Nat} {fs0 : List Value} {t : Nat} (hy : plainName y.cls = true) (ho : ck_R o = y.cls) (hy1 : y.name = "<init>") (g1 : 1 ≤ ml)
    (h : ∀ (a : Nat) (p : Program) (e : Env) (s : State) (m : MethodId) (below : List Frame) (meth : Method) (c : Code) (ls : Array Slot), p.tables.exec = Jvm.exec → c.code = cc → c.maxLocals = ml → meth.sig.returnType = none → meth.locks = false → (∀ w ∈ Jvm.Cond.code y cc ml none :: wsL_law0, w.before #[.ref a] s = true) → s.vm.findClass (ck_R o) = some m.cls → bT D cys s → meth.name = "<init>" → lv_has ls ml [(0, .ref a)] → (∀ q, s.heap.size ≤ q → bA a s.heap.size q) → bS D cys (bA a s.heap.size) s.heap [(a, .inr (ci, fs0))] [] [] s.heap [] →
      W p l e ({ frames := fr, cells := mc, slots := ms, locals := lo }) s m #[.ref a] below meth c s.heap [] 0 0 (MQ below (va_Qv (fun u : List (Nat × Nat) × va_W => bz cys u.1 u.2 ∧ u.1[0]? = some (a, t) ∧ u.1.map Prod.snd = TG) (fun u U => va_P D ck_cl u.2 U.heap ∧ va_D (bA a s.heap.size) u.2) (bA a s.heap.size)) #[.ref a] s mc ms (bA a s.heap.size)) (F0 m 0 ls [])) : bCon l D cys y cc ml fr lo mc ms ci fs0 t TG := by
  intro a sz
  refine Met.ofW (cc := cc) (maxL := ml) (ret := none) hy rfl ?_
  intro p e s m args below meth c s₁ B hml hv
  obtain ⟨rfl, hsz, hP, hT⟩ := hv
  subst hsz
  have hts := atoms_spec (ws := Jvm.Cond.code y cc ml none :: wsL_law0) B.pre
  have hown : s.vm.findClass (ck_R o) = some m.cls := by rw [ho]; exact findClass_of_methodNamed B.named
  have hin : meth.name = "<init>" := ((name_of_methodNamed B.named B.method).1).trans hy1
  have hl := lv_entry ([.ref a]) (n := ml) g1
  rw [lg_entry_eq]
  generalize (lg_sl ([.ref a]) ++ List.replicate (ml - (lg_sl ([.ref a])).length) Slot.unset).toArray = ls at hl ⊢
  have hl : lv_has ls ml [(0, .ref a)] := hl
  refine h a p e s m below meth c ls B.exec B.bytes hml B.returns B.notSynchronized hts hown hT hin hl (fun q hq => Or.inr hq) ⟨va_S.rf, [], [], hP, ⟨fun i j x z hx hz _ => ?_, fun k x hx => ?_⟩, bz_nil, (fun r hr => by cases hr), rfl⟩
  · have h1 : i < 1 := (List.getElem?_eq_some_iff.mp hx).1
    have h2 : j < 1 := (List.getElem?_eq_some_iff.mp hz).1
    omega
  · have h1 : k < 1 := (List.getElem?_eq_some_iff.mp hx).1
    rw [show k = 0 by omega] at hx
    cases hx
    exact Or.inl rfl
/-- and ends -/
def bzB (t : Nat) (zs : List Nat) : Bool := ck_pvs0.all (fun q => decide (q.1 ≠ t) || zs.contains q.2) && (ck_prot1 t).all (fun r => (List.range (r.2 + 1)).all (fun k => decide (k < r.1) || zs.contains k))
theorem bzB_ok {t : Nat} {zs : List Nat} (h : bzB t zs = true) {k : Nat} (hk : bzp t k) : k ∈ zs := by
  simp only [bzB, Bool.and_eq_true, List.all_eq_true, Bool.or_eq_true, decide_eq_true_eq, List.contains_iff_mem] at h
  rcases hk with ⟨j, hj⟩ | ⟨r, hr, h1, h2⟩
  · rcases h.1 _ (List.mem_of_getElem? hj) with h | h
    · exact absurd rfl h
    · exact h
  · rcases h.2 r hr k (List.mem_range.mpr (by omega)) with h | h
    · omega
    · exact h
theorem bw_ret {a t ci : Nat} {fs : List Value} {fts : List ck_AV} {zs : List Nat} {mc ms : Nat} (hexec : p.tables.exec = Jvm.exec) (hb : c.code = cc) (hr : meth.sig.returnType = none) (hlk : meth.locks = false) (hB : bS D cys (bA a s.heap.size) s.heap [(a, .inr (ci, fs))] L TG H locs) (ht : ck_tags[t]? = some (.inl (ci, fts))) (hl : fs.length = fts.length) (hf : ∀ (ty : Nat → Option Nat), (∀ r ∈ L, ty r.1 = some r.2) → ∀ (k : Nat) (ft : ck_AV), fts[k]? = some ft → ∃ v, fs[k]? = some v ∧ ck_v ty (fun _ => 0) ft v) (hz : bzB t zs = true) (hz0 : ∀ k ∈ zs, fs[k]? = some (.int 0)) (hcs : cells = mc ∧ slots = ms) (hdg : decode cc pc = .ok (.return_, 1)) : W p l e R s m args below meth c H locs cells slots (MQ below (va_Qv (fun u : List (Nat × Nat) × va_W => bz cys u.1 u.2 ∧ u.1[0]? = some (a, t) ∧ u.1.map Prod.snd = t :: TG) (fun u U => va_P D ck_cl u.2 U.heap ∧ va_D (bA a s.heap.size) u.2) (bA a s.heap.size)) args s mc ms (bA a s.heap.size)) (F0 m pc ls []) := by
  obtain ⟨rfl, rfl⟩ := hcs
  obtain ⟨hS, τ, ws, hP, hD, hbz, hL, hTG⟩ := hB
  have hb2 : bz cys ((a, t) :: τ) ((a, .inr (ci, fs)) :: ws) := bz_obj hbz hD ht hl (hf (lk τ) (fun r hr => lk_mem hbz.2.1 (hL r hr))) (fun k hk => hz0 k (bzB_ok hz hk))
  exact W.vret hexec hb hr (fun t ht hW => ⟨⟨(_, _), rfl, ⟨hb2, rfl, by rw [List.map_cons, hTG]⟩, by rw [ht]; exact hP, hD⟩, hS.F ht⟩) hS.2.2 hdg hlk
/-- new C; dup; invokespecial C.<init> -/
theorem bw_after {q ci t : Nat} {fs0 st0 : List Value} {τ : List (Nat × Nat)} {ws : va_W} {TG' : List Nat} {mc ms : Nat} {aa : Array Value} (hP : va_P D ck_cl ((pre ++ ws) ++ [(q, .inr (ci, fs0))]) H) (hD : va_D A ((pre ++ ws) ++ [(q, .inr (ci, fs0))])) (hS : va_S A H0 H locs) (hA : ∀ q, H0.size ≤ q → A q) (hbz : bz cys τ ws) (hL : ∀ r ∈ L, r ∈ τ) (hTG : τ.map Prod.snd = TG)
    (hrun : va_Run p l e R s m args below meth c H locs cells slots mc ms (F0 m pc ls st0) rest (va_Qv (fun u : List (Nat × Nat) × va_W => bz cys u.1 u.2 ∧ u.1[0]? = some (q, t) ∧ u.1.map Prod.snd = TG') (fun u U => va_P D ck_cl u.2 U.heap ∧ va_D (bA q H.size) u.2) (bA q H.size) aa) (bA q H.size))
    (kk : ∀ (H1 : Heap) (locs1 : List Loc), bS D cys A H0 pre ((q, t) :: L) (TG ++ TG') H1 locs1 → W p l e R s m args below meth c H1 locs1 (cells + mc) (slots + ms) Q (F0 m (pc + 3) ls rest)) : W p l e R s m args below meth c H locs cells slots Q (F0 m pc ls st0) := by
  have hF : ∀ x, bA q H.size x → A x := fun x hx => by
    rcases hx with hx | hx
    · rw [hx]
      exact hD.2 (pre ++ ws).length (q, .inr (ci, fs0)) (by rw [List.getElem?_append_right (Nat.le_refl _), Nat.sub_self]; rfl)
    · exact hA x (Nat.le_trans hS.1 hx)
  refine va_callv hrun hS (fun x _ h => hF x h) hF (fun u t' H1 locs1 ht hvm hw hB' hz1 hk1 hS1 => ?_)
  obtain ⟨τ', ws'⟩ := u
  obtain ⟨hb', h0, hg'⟩ := hw
  obtain ⟨hP1, hD1⟩ := hB'
  rw [ht] at hP1
  obtain ⟨hP2, hD2⟩ := b_join (ws := pre ++ ws) hP hD rfl hk1 hP1 hD1 hF
  rw [List.append_assoc] at hP2 hD2
  exact kk H1 locs1 (bw_add (L' := [(q, t)]) hS1 hP2 hD2 hbz hL hTG hb' (fun r hr => by rw [List.mem_singleton.mp hr]; exact List.mem_of_getElem? h0) hg')
theorem b_blind {a sz ci : Nat} {fs0 : List Value} : FrameBlind (va_Pc [.ref a] (fun U => U.heap.size = sz ∧ va_P D ck_cl [(a, .inr (ci, fs0))] U.heap ∧ bT D cys U)) := by
  intro a U g mk q
  obtain ⟨q0, q1, q2, q3⟩ := q
  exact ⟨q0, q1, q2, bT_same (s := U) (U := U.calling g mk a) rfl q3⟩
theorem b_one {ws : va_W} {x : Nat × va_E} (hP : va_P D ck_cl (ws ++ [x]) H) : va_P D ck_cl [x] H := fun k y hy => by
  have h1 : k < 1 := (List.getElem?_eq_some_iff.mp hy).1
  exact hP (ws.length + k) y (by rw [List.getElem?_append_right (by omega), Nat.add_sub_cancel_left]; exact hy)
theorem b_goodIn {y : MethodName} {bytes : ByteArray} {ml : Nat} (hin : ∀ w ∈ wsL_law0, w ∈ Ts) (hcd : Jvm.Cond.code y bytes ml none ∈ wsL_law0) : GoodIn Ts (Jvm.Cond.code y bytes ml none :: wsL_law0) := fun w hw => by
  rcases List.mem_cons.mp hw with hw | hw
  · subst hw; exact ⟨hin _ hcd, ck_good _ hcd⟩
  · exact ⟨hin _ hw, ck_good _ hw⟩
/-- new C; dup; invokespecial C.<init> -/
theorem bw_newo {nL : Nat} {lv : List (Nat × Value)} {y : MethodName} {bytes : ByteArray} {ml fr lo mc ms ci : Nat} {fs0 : List Value} {t : Nat} {TG' : List Nat} (hM : bCon l D cys y bytes ml fr lo mc ms ci fs0 t TG') (hexec : p.tables.exec = Jvm.exec) (hb : c.code = cc) (hml : c.maxLocals = nL) (hl : lv_has ls nL lv) (hts : ∀ w ∈ Ts, w.before args s = true) (hin : ∀ w ∈ wsL_law0, w ∈ Ts) (hown : s.vm.findClass own = some m.cls) (hT : bT D cys s) (hA : ∀ q, H0.size ≤ q → A q) (hB : bS D cys A H0 pre L TG H locs) {T : u_T} {N i1 i2 : Nat} (hc : ck_cl[ci]? = some (y.cls, T, N)) {ty0 : Nat → FieldType} (hty : ∀ k, k < N → parseFieldDescriptor (T k).2.2.1 = some (ty0 k)) (hfs : ∀ j, j < N → defaultValue (ty0 j) = vp_V fs0 j)
    (hcl : Jvm.Cond.classLink own i1 y.cls ∈ wsL_law0) (hinst : Jvm.Cond.instantiable y.cls N ∈ wsL_law0) (hini : Jvm.Cond.initialized y.cls ∈ wsL_law0) (him : Jvm.Cond.instanceMethod y ∈ wsL_law0) (hcd : Jvm.Cond.code y bytes ml none ∈ wsL_law0) (hlk : Jvm.Cond.methodLink own i2 y ∈ wsL_law0) (hy1 : y.name = "<init>") (hd : y.cls ≠ "java/lang/invoke/MethodHandle" ∧ y.cls ≠ "java/lang/invoke/VarHandle" ∧ (parseMethodDescriptor y.desc).map (fun d => d.parameters.length) = some 0) (hR : fr + 1 ≤ R.frames ∧ 8 + (ml + 11) + lo ≤ R.locals) (hc1 : cells + 1 + mc ≤ R.cells) (hs1 : slots + N + ms ≤ R.slots) (hr8 : (rest.map fun v => v.category).sum ≤ 7) (hd1 : decode cc pc = .ok (.new i1, 3)) (hd2 : decode cc (pc + 3) = .ok (.dup, 1)) (hd3 : decode cc (pc + 4) = .ok (.invokespecial i2, 3))
    (kk : ∀ (q : Nat) (H1 : Heap) (locs1 : List Loc), bS D cys A H0 pre ((q, t) :: L) (TG ++ TG') H1 locs1 → W p l e R s m args below meth c H1 locs1 (cells + 1 + mc) (slots + N + ms) Q (F0 m (pc + 7) ls (.ref q :: rest))) : W p l e R s m args below meth c H locs cells slots Q (F0 m pc ls rest) := by
  obtain ⟨hS, τ, ws, hP, hD, hbz, hL, hTG⟩ := hB
  obtain ⟨k1, -, k3⟩ := ck_cl_ok hc
  refine va_new (own := own) hexec hb hts (fun w h => hin w (k1 w h)) ty0 hty hown (hts _ (hin _ hcl)) (hts _ (hin _ hinst)) (hts _ (hin _ hini)) hT.1 hP hD hS hA hc hfs (by omega) (show slots + N ≤ R.slots by omega) hd1 (fun q H1 hP1 hD1 hS1 => ?_)
  refine lv_dup hexec hb hd2 rfl ?_
  exact bw_after (pc := pc + 4) (rest := .ref q :: rest) hP1 hD1 hS1 hA hbz hL hTG (va_runI (As := []) (rest := .ref q :: rest) (b := q) (own := own) (index := i2) ⟨hexec, hb, hml, hown, hts⟩ (hM q H1.size) (cwI 0 hts (b_goodIn hin hcd) rfl rfl rfl (hts _ (hin _ hini)) (hts _ (hin _ hlk)) (hts _ (hin _ him)) hy1 hd hR) ⟨b_blind, fun U hU hW => ⟨rfl, by rw [hU], by rw [hU]; exact b_one hP1, bT_warm hW hT⟩⟩ rfl rfl hl.1 rfl (lv_room (by rw [List.map_cons, List.sum_cons]; have : (Value.ref q).category = 1 := rfl; omega)) hd3 ⟨hc1, hs1⟩) (fun H2 locs2 hB2 => kk q H2 locs2 hB2)
/-- the same where the constructor is private to a nest mate -/
theorem bw_newn {nL : Nat} {lv : List (Nat × Value)} {y : MethodName} {bytes : ByteArray} {ml fr lo mc ms ci : Nat} {fs0 : List Value} {t : Nat} {TG' : List Nat} (hM : bCon l D cys y bytes ml fr lo mc ms ci fs0 t TG') (hexec : p.tables.exec = Jvm.exec) (hb : c.code = cc) (hml : c.maxLocals = nL) (hl : lv_has ls nL lv) (hts : ∀ w ∈ Ts, w.before args s = true) (hin : ∀ w ∈ wsL_law0, w ∈ Ts) (hown : s.vm.findClass own = some m.cls) (hT : bT D cys s) (hA : ∀ q, H0.size ≤ q → A q) (hB : bS D cys A H0 pre L TG H locs) {T : u_T} {N i1 i2 : Nat} (hc : ck_cl[ci]? = some (y.cls, T, N)) {ty0 : Nat → FieldType} (hty : ∀ k, k < N → parseFieldDescriptor (T k).2.2.1 = some (ty0 k)) (hfs : ∀ j, j < N → defaultValue (ty0 j) = vp_V fs0 j)
    (hcl : Jvm.Cond.classLink own i1 y.cls ∈ wsL_law0) (hinst : Jvm.Cond.instantiable y.cls N ∈ wsL_law0) (hini : Jvm.Cond.initialized y.cls ∈ wsL_law0) (him : Jvm.Cond.instanceMethod y ∈ wsL_law0) (hcd : Jvm.Cond.code y bytes ml none ∈ wsL_law0) (hlk : Jvm.Cond.methodLinkNest own i2 y RX11 ∈ b_nest) (hy1 : y.name = "<init>") (hd : y.cls ≠ "java/lang/invoke/MethodHandle" ∧ y.cls ≠ "java/lang/invoke/VarHandle" ∧ (parseMethodDescriptor y.desc).map (fun d => d.parameters.length) = some 0) (hR : fr + 1 ≤ R.frames ∧ 8 + (ml + 11) + lo ≤ R.locals) (hc1 : cells + 1 + mc ≤ R.cells) (hs1 : slots + N + ms ≤ R.slots) (hr8 : (rest.map fun v => v.category).sum ≤ 7) (hd1 : decode cc pc = .ok (.new i1, 3)) (hd2 : decode cc (pc + 3) = .ok (.dup, 1)) (hd3 : decode cc (pc + 4) = .ok (.invokespecial i2, 3))
    (kk : ∀ (q : Nat) (H1 : Heap) (locs1 : List Loc), bS D cys A H0 pre ((q, t) :: L) (TG ++ TG') H1 locs1 → W p l e R s m args below meth c H1 locs1 (cells + 1 + mc) (slots + N + ms) Q (F0 m (pc + 7) ls (.ref q :: rest))) : W p l e R s m args below meth c H locs cells slots Q (F0 m pc ls rest) := by
  obtain ⟨hS, τ, ws, hP, hD, hbz, hL, hTG⟩ := hB
  obtain ⟨k1, -, k3⟩ := ck_cl_ok hc
  refine va_new (own := own) hexec hb hts (fun w h => hin w (k1 w h)) ty0 hty hown (hts _ (hin _ hcl)) (hts _ (hin _ hinst)) (hts _ (hin _ hini)) hT.1 hP hD hS hA hc hfs (by omega) (show slots + N ≤ R.slots by omega) hd1 (fun q H1 hP1 hD1 hS1 => ?_)
  refine lv_dup hexec hb hd2 rfl ?_
  exact bw_after (pc := pc + 4) (rest := .ref q :: rest) hP1 hD1 hS1 hA hbz hL hTG (va_runIN (As := []) (rest := .ref q :: rest) (b := q) (own := own) (index := i2) ⟨hexec, hb, hml, hown, hts⟩ (hM q H1.size) ⟨va_cnB 0 hts (b_goodIn hin hcd) rfl rfl rfl (hT.2.2.1 _ hlk) (hts _ (hin _ hini)) hd hR, hy1, hts _ (hin _ him)⟩ ⟨b_blind, fun U hU hW => ⟨rfl, by rw [hU], by rw [hU]; exact b_one hP1, bT_warm hW hT⟩⟩ rfl rfl hl.1 rfl (lv_room (by rw [List.map_cons, List.sum_cons]; have : (Value.ref q).category = 1 := rfl; omega)) hd3 ⟨hc1, hs1⟩) (fun H2 locs2 hB2 => kk q H2 locs2 hB2)
end BR

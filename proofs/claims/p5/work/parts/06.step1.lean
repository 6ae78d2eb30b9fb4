/-! THE CHECKER, 5: constants, locals, arithmetic, the stack. -/
theorem ck_ofI {n : Int} (h : ck_in32 n n = true) : (Int32.ofInt n).toInt = n := by
  simp only [ck_in32, Bool.and_eq_true, decide_eq_true_eq] at h
  rw [Int32.toInt_ofInt]
  exact ck_bm h.1 h.2
theorem ck_of8 {n : Int} (h1 : -128 ≤ n) (h2 : n ≤ 127) : ((Int8.ofInt n).toInt32).toInt = n := by
  rw [Int8.toInt_toInt32, Int8.toInt_ofInt, show Int8.size = 256 from rfl]
  unfold Int.bmod
  simp only []
  omega
theorem ck_of16 {n : Int} (h1 : -32768 ≤ n) (h2 : n ≤ 32767) : ((Int16.ofInt n).toInt32).toInt = n := by
  rw [Int16.toInt_toInt32, Int16.toInt_ofInt, show Int16.size = 65536 from rfl]
  unfold Int.bmod
  simp only []
  omega
theorem ck_src0 {lv : List (Nat × Value)} {pvv : Nat → Int32} {v : Value} : ck_src lv pvv 0 v := ⟨fun _ r _ h => by omega, fun h => by omega⟩
theorem ck_ci {X : Nat → Int} {n : Int} {x : Int32} (h : x.toInt = n) : ck_i X (n, n, []) x.toInt := ⟨by rw [h]; exact Int.le_refl _, by rw [h]; exact Int.le_refl _, fun d h => nomatch h⟩
section CK6
variable {p : Program} {l : Launch} {e : Env} {R : Room} {s : State} {m : MethodId} {args : Array Value} {below : List Frame} {meth : Method} {c : Code} {H H0 : Heap} {locs : List Loc} {Q : State → Prop} {cc : ByteArray} {pc len : Nat} {ls : Array Slot} {st : List Value}
variable {D : va_G} {cys : Nat → ClassId} {ty : Nat → Option Nat} {tg : List ck_TD} {pvT : List (Nat × Nat)} {prot : Nat → List (Nat × Nat)} {Ex : va_W → Prop} {pvv : Nat → Int32} {Ts : List Jvm.Cond} {LK : Nat → Nat → Option ck_En} {o nL : Nat} {X : Nat → Int} {A : ck_AS} {out : List (Nat × ck_AS)} {i : Instr}
theorem ck_push {av : ck_AV} {v : Value} (hsat : ck_sat D cys ty tg pvT Ex nL H0 X A ls st pvv H locs) (h : ck_v ty X av v) : ck_sat D cys ty tg pvT Ex nL H0 X (A.1, (av, 0) :: A.2.1, A.2.2) ls (v :: st) pvv H locs := by
  obtain ⟨lv, h1, h2, h3, h4, h5, h6⟩ := hsat
  exact ⟨lv, h1, h2, ⟨⟨h, ck_src0⟩, h3⟩, h4, h5, h6⟩
def ck_g1 (LK : Nat → Nat → Option ck_En) (o pc : Nat) (i : Instr) (len : Nat) (A : ck_AS) : Option (List (Nat × ck_AS)) := match i, len with
  | .iconst n, 1 => if ck_in32 n n then some [(pc + 1, (A.1, (.inl (n, n, []), 0) :: A.2.1, A.2.2))] else none
  | .bipush n, 2 => if decide (-128 ≤ n) && decide (n ≤ 127) then some [(pc + 2, (A.1, (.inl (n, n, []), 0) :: A.2.1, A.2.2))] else none
  | .sipush n, 3 => if decide (-32768 ≤ n) && decide (n ≤ 32767) then some [(pc + 3, (A.1, (.inl (n, n, []), 0) :: A.2.1, A.2.2))] else none
  | .lconst _, 1 => some [(pc + 1, (A.1, (.inr (.inr ()), 0) :: A.2.1, A.2.2))]
  | .ldc ix, 2 => match LK o ix with
    | some (.inr (.inl v)) => if ck_in32 v v then some [(pc + 2, (A.1, (.inl (v, v, []), 0) :: A.2.1, A.2.2))] else none
    | _ => none
  | .ldc_w ix, 3 => match LK o ix with
    | some (.inr (.inl v)) => if ck_in32 v v then some [(pc + 3, (A.1, (.inl (v, v, []), 0) :: A.2.1, A.2.2))] else none
    | _ => none
  | .ldc2_w ix, 3 => match LK o ix with
    | some (.inr (.inr (.inl _))) => some [(pc + 3, (A.1, (.inr (.inr ()), 0) :: A.2.1, A.2.2))]
    | _ => none
  | _, _ => none
def ck_LKc (LK : Nat → Nat → Option ck_En) : Prop := ∀ (o ix : Nat), (∀ v, LK o ix = some (.inr (.inl v)) → Jvm.Cond.constant (ck_R o) ix (Int32.ofInt v) ∈ wsL_law0) ∧ (∀ u, LK o ix = some (.inr (.inr (.inl u))) → ∃ v : Int64, Jvm.Cond.constantLong (ck_R o) ix v ∈ wsL_law0)
theorem ck_g1_ok (hLK : ck_LKc LK) (hexec : p.tables.exec = Jvm.exec) (hb : c.code = cc) (hts : ∀ w ∈ Ts, w.before args s = true) (hin : ∀ w ∈ wsL_law0, w ∈ Ts) (hown : s.vm.findClass (ck_R o) = some m.cls) (h : ck_g1 LK o pc i len A = some out) (hdg : decode cc pc = .ok (i, len)) (hsat : ck_sat D cys ty tg pvT Ex nL H0 X A ls st pvv H locs) (hn : ∀ q ∈ out, ∀ (ls' : Array Slot) (st' : List Value) (pvv' : Nat → Int32) (H' : Heap) (locs' : List Loc), ck_sat D cys ty tg pvT Ex nL H0 X q.2 ls' st' pvv' H' locs' → W p l e R s m args below meth c H' locs' 0 0 Q (F0 m q.1 ls' st')) : W p l e R s m args below meth c H locs 0 0 Q (F0 m pc ls st) := by
  unfold ck_g1 at h
  split at h
  · split at h
    · next hc =>
      cases h
      refine lv_iconst hexec hb hdg rfl ?_
      exact hn _ List.mem_cons_self _ _ _ _ _ (ck_push hsat ⟨_, rfl, ck_ci (ck_ofI hc)⟩)
    · cases h
  · split at h
    · next hc =>
      cases h
      simp only [Bool.and_eq_true, decide_eq_true_eq] at hc
      refine lv_bipush hexec hb hdg rfl ?_
      exact hn _ List.mem_cons_self _ _ _ _ _ (ck_push hsat ⟨_, rfl, ck_ci (ck_of8 hc.1 hc.2)⟩)
    · cases h
  · split at h
    · next hc =>
      cases h
      simp only [Bool.and_eq_true, decide_eq_true_eq] at hc
      refine lv_sipush hexec hb hdg rfl ?_
      exact hn _ List.mem_cons_self _ _ _ _ _ (ck_push hsat ⟨_, rfl, ck_ci (ck_of16 hc.1 hc.2)⟩)
    · cases h
  · cases h
    refine lv_lconst hexec hb hdg rfl ?_
    exact hn _ List.mem_cons_self _ _ _ _ _ (ck_push hsat ⟨_, rfl⟩)
  · split at h
    · next hl =>
      split at h
      · next hc =>
        cases h
        refine lv_ldc hexec hb hown (hts _ (hin _ ((hLK _ _).1 _ hl))) hdg ?_
        exact hn _ List.mem_cons_self _ _ _ _ _ (ck_push hsat ⟨_, rfl, ck_ci (ck_ofI hc)⟩)
      · cases h
    · cases h
  · split at h
    · next hl =>
      split at h
      · next hc =>
        cases h
        refine lv_ldcw hexec hb hown (hts _ (hin _ ((hLK _ _).1 _ hl))) hdg ?_
        exact hn _ List.mem_cons_self _ _ _ _ _ (ck_push hsat ⟨_, rfl, ck_ci (ck_ofI hc)⟩)
      · cases h
    · cases h
  · split at h
    · next hl =>
      cases h
      obtain ⟨v, hv⟩ := (hLK _ _).2 _ hl
      refine lv_ldc2 hexec hb hown (hts _ (hin _ hv)) hdg ?_
      exact hn _ List.mem_cons_self _ _ _ _ _ (ck_push hsat ⟨_, rfl⟩)
    · cases h
  · cases h
def ck_ldI (A : ck_AS) (pc i : Nat) : Option (List (Nat × ck_AS)) := match ck_load A.1 i with
  | some (.inl r) => if i < 900 then some [(pc, (A.1, (.inl r, i + 1) :: A.2.1, A.2.2))] else none
  | _ => none
def ck_ldR (A : ck_AS) (pc i : Nat) : Option (List (Nat × ck_AS)) := match ck_load A.1 i with
  | some (.inr (.inl t)) => some [(pc, (A.1, (.inr (.inl t), 0) :: A.2.1, A.2.2))]
  | _ => none
def ck_ldJ (A : ck_AS) (pc i : Nat) : Option (List (Nat × ck_AS)) := match ck_load A.1 i with
  | some (.inr (.inr u)) => some [(pc, (A.1, (.inr (.inr u), 0) :: A.2.1, A.2.2))]
  | _ => none
def ck_sto (nL : Nat) (A : ck_AS) (pc i : Nat) (k : Bool) : Option (List (Nat × ck_AS)) := match A.2.1 with
  | (.inl r, _) :: S => if i < nL ∧ k = true then some [(pc, (ck_put1 A.1 i (.inl r), ck_clr (fun z => z == i + 1) S, A.2.2))] else none
  | (.inr (.inl t), _) :: S => if i < nL ∧ k = false then some [(pc, (ck_put1 A.1 i (.inr (.inl t)), ck_clr (fun z => z == i + 1) S, A.2.2))] else none
  | _ => none
def ck_g2 (nL pc : Nat) (i : Instr) (len : Nat) (A : ck_AS) : Option (List (Nat × ck_AS)) := match i, len with
  | .iload_n n, 1 => ck_ldI A (pc + 1) n.val
  | .iload n, 2 => ck_ldI A (pc + 2) n
  | .aload_n n, 1 => ck_ldR A (pc + 1) n.val
  | .aload n, 2 => ck_ldR A (pc + 2) n
  | .lload_n n, 1 => ck_ldJ A (pc + 1) n.val
  | .lload n, 2 => ck_ldJ A (pc + 2) n
  | .istore_n n, 1 => ck_sto nL A (pc + 1) n.val true
  | .istore n, 2 => ck_sto nL A (pc + 2) n true
  | .astore_n n, 1 => ck_sto nL A (pc + 1) n.val false
  | .astore n, 2 => ck_sto nL A (pc + 2) n false
  | .iinc n d, 3 => match ck_load A.1 n with
    | some (.inl r) => if n < nL ∧ ck_in32 d d = true then some [(pc + 3, (ck_put1 A.1 n (.inl (ck_add r (d, d, []))), ck_clr (fun z => z == n + 1) A.2.1, A.2.2))] else none
    | _ => none
  | _, _ => none
theorem ck_srcL {lv : List (Nat × Value)} {n : Nat} {v : Value} (hl : lv_has ls nL lv) (hm : (n, v) ∈ lv) (h9 : n < 900) : ck_src lv pvv (n + 1) v := by
  refine ⟨fun _ r hr e => ?_, fun h => by omega⟩
  have e1 : r.1 = n := by omega
  have h1 := hl.2.2 r hr
  have h2 := hl.2.2 (n, v) hm
  rw [e1] at h1
  rw [h1] at h2
  cases h2
  rfl
theorem ck_ldI_ok {n pc' : Nat} (h : ck_ldI A pc' n = some out) (hsat : ck_sat D cys ty tg pvT Ex nL H0 X A ls st pvv H locs) (kk : ∀ x : Int32, ls[n]? = some (.val (.int x)) → W p l e R s m args below meth c H locs 0 0 Q (F0 m pc' ls (.int x :: st)) → W p l e R s m args below meth c H locs 0 0 Q (F0 m pc ls st)) (hn : ∀ q ∈ out, ∀ (ls' : Array Slot) (st' : List Value) (pvv' : Nat → Int32) (H' : Heap) (locs' : List Loc), ck_sat D cys ty tg pvT Ex nL H0 X q.2 ls' st' pvv' H' locs' → W p l e R s m args below meth c H' locs' 0 0 Q (F0 m q.1 ls' st')) : W p l e R s m args below meth c H locs 0 0 Q (F0 m pc ls st) := by
  unfold ck_ldI at h
  split at h
  · next r hr =>
    split at h
    · next h9 =>
      cases h
      obtain ⟨lv, h1, h2, h3, h4, h5, h6⟩ := hsat
      obtain ⟨v, g1, x, rfl, g2⟩ := ck_load_ok h2 hr
      refine kk x (h1.2.2 _ g1) ?_
      exact hn _ List.mem_cons_self _ _ _ _ _ ⟨lv, h1, h2, ⟨⟨⟨x, rfl, g2⟩, ck_srcL h1 g1 h9⟩, h3⟩, h4, h5, h6⟩
    · cases h
  · cases h
theorem ck_ldR_ok {n pc' : Nat} (h : ck_ldR A pc' n = some out) (hsat : ck_sat D cys ty tg pvT Ex nL H0 X A ls st pvv H locs) (kk : ∀ x : Nat, ls[n]? = some (.val (.ref x)) → W p l e R s m args below meth c H locs 0 0 Q (F0 m pc' ls (.ref x :: st)) → W p l e R s m args below meth c H locs 0 0 Q (F0 m pc ls st)) (hn : ∀ q ∈ out, ∀ (ls' : Array Slot) (st' : List Value) (pvv' : Nat → Int32) (H' : Heap) (locs' : List Loc), ck_sat D cys ty tg pvT Ex nL H0 X q.2 ls' st' pvv' H' locs' → W p l e R s m args below meth c H' locs' 0 0 Q (F0 m q.1 ls' st')) : W p l e R s m args below meth c H locs 0 0 Q (F0 m pc ls st) := by
  unfold ck_ldR at h
  split at h
  · next r hr =>
    cases h
    obtain ⟨lv, h1, h2, h3, h4, h5, h6⟩ := hsat
    obtain ⟨v, g1, x, rfl, g2⟩ := ck_load_ok h2 hr
    refine kk x (h1.2.2 _ g1) ?_
    exact hn _ List.mem_cons_self _ _ _ _ _ ⟨lv, h1, h2, ⟨⟨⟨x, rfl, g2⟩, ck_src0⟩, h3⟩, h4, h5, h6⟩
  · cases h
theorem ck_ldJ_ok {n pc' : Nat} (h : ck_ldJ A pc' n = some out) (hsat : ck_sat D cys ty tg pvT Ex nL H0 X A ls st pvv H locs) (kk : ∀ x : Int64, ls[n]? = some (.val (.long x)) → W p l e R s m args below meth c H locs 0 0 Q (F0 m pc' ls (.long x :: st)) → W p l e R s m args below meth c H locs 0 0 Q (F0 m pc ls st)) (hn : ∀ q ∈ out, ∀ (ls' : Array Slot) (st' : List Value) (pvv' : Nat → Int32) (H' : Heap) (locs' : List Loc), ck_sat D cys ty tg pvT Ex nL H0 X q.2 ls' st' pvv' H' locs' → W p l e R s m args below meth c H' locs' 0 0 Q (F0 m q.1 ls' st')) : W p l e R s m args below meth c H locs 0 0 Q (F0 m pc ls st) := by
  unfold ck_ldJ at h
  split at h
  · next r hr =>
    cases h
    obtain ⟨lv, h1, h2, h3, h4, h5, h6⟩ := hsat
    obtain ⟨v, g1, x, rfl⟩ := ck_load_ok h2 hr
    refine kk x (h1.2.2 _ g1) ?_
    exact hn _ List.mem_cons_self _ _ _ _ _ ⟨lv, h1, h2, ⟨⟨⟨x, rfl⟩, ck_src0⟩, h3⟩, h4, h5, h6⟩
  · cases h
/-- behind a store into a local -/
theorem ck_put1_ok {lv : List (Nat × Value)} {L : List (Nat × ck_AV)} {S : List (ck_AV × Nat)} {P : List ck_AV} {n : Nat} {av : ck_AV} {v : Value} {ls' : Array Slot} {rest : List Value} (h1 : lv_has ls' nL ((n, v) :: lv.filter (fun q => !(q.1 == n) && !(q.1 + 1 == n && q.2.category == 2)))) (h2 : ck_L ty X L lv) (hv : ck_v ty X av v) (h3 : ck_st ty X lv pvv S rest) (h4 : ck_pvo ty X P pvv) (h5 : ck_Wo D cys ty tg pvT Ex pvv H) (h6 : va_S (ck_own ty) H0 H locs) :
    ck_sat D cys ty tg pvT Ex nL H0 X (ck_put1 L n av, ck_clr (fun z => z == n + 1) S, P) ls' rest pvv H locs := by
  refine ⟨_, h1, ⟨⟨rfl, hv⟩, ck_filter_ok h2⟩, ck_clr_ok (f := fun z => z == n + 1) (lv := lv) (pvv := pvv) (fun src w hf hs => ⟨fun h9 r hr e => ?_, hs.2⟩) h3, h4, h5, h6⟩
  rcases List.mem_cons.mp hr with hr | hr
  · subst hr
    simp only [beq_eq_false_iff_ne] at hf
    exact absurd e.symm hf
  · exact hs.1 h9 r ((List.mem_filter.mp hr).1) e
theorem ck_g2_ok (hexec : p.tables.exec = Jvm.exec) (hb : c.code = cc) (h : ck_g2 nL pc i len A = some out) (hdg : decode cc pc = .ok (i, len)) (hsat : ck_sat D cys ty tg pvT Ex nL H0 X A ls st pvv H locs) (hn : ∀ q ∈ out, ∀ (ls' : Array Slot) (st' : List Value) (pvv' : Nat → Int32) (H' : Heap) (locs' : List Loc), ck_sat D cys ty tg pvT Ex nL H0 X q.2 ls' st' pvv' H' locs' → W p l e R s m args below meth c H' locs' 0 0 Q (F0 m q.1 ls' st')) : W p l e R s m args below meth c H locs 0 0 Q (F0 m pc ls st) := by
  unfold ck_g2 at h
  split at h
  · exact ck_ldI_ok h hsat (fun x hx k => lv_iload_n hexec hb hdg rfl hx k) hn
  · exact ck_ldI_ok h hsat (fun x hx k => lv_iload hexec hb hdg hx k) hn
  · exact ck_ldR_ok h hsat (fun x hx k => lv_aload_n hexec hb hdg rfl hx k) hn
  · exact ck_ldR_ok h hsat (fun x hx k => lv_aload hexec hb hdg hx k) hn
  · exact ck_ldJ_ok h hsat (fun x hx k => lv_lload_n hexec hb hdg rfl hx k) hn
  · exact ck_ldJ_ok h hsat (fun x hx k => lv_lload hexec hb hdg hx k) hn
  · obtain ⟨L, S, P⟩ := A
    unfold ck_sto at h
    split at h
    · next hS =>
      split at h
      · next hc =>
        cases h
        dsimp only at hS
        subst hS
        obtain ⟨lv, h1, h2, h3, h4, h5, h6⟩ := hsat
        match st, h3 with
        | v :: rest, h3 =>
          obtain ⟨⟨⟨x, rfl, g2⟩, -⟩, g3⟩ := h3
          refine lv_istore_n hexec hb hdg rfl h1 hc.1 rfl (fun ls' hl' => ?_)
          exact hn _ List.mem_cons_self _ _ _ _ _ (ck_put1_ok hl' h2 ⟨x, rfl, g2⟩ g3 h4 h5 h6)
      · cases h
    · split at h
      · next hc => exact absurd hc.2 (by decide)
      · cases h
    · cases h
  · obtain ⟨L, S, P⟩ := A
    unfold ck_sto at h
    split at h
    · next hS =>
      split at h
      · next hc =>
        cases h
        dsimp only at hS
        subst hS
        obtain ⟨lv, h1, h2, h3, h4, h5, h6⟩ := hsat
        match st, h3 with
        | v :: rest, h3 =>
          obtain ⟨⟨⟨x, rfl, g2⟩, -⟩, g3⟩ := h3
          refine lv_istore hexec hb hdg h1 hc.1 rfl (fun ls' hl' => ?_)
          exact hn _ List.mem_cons_self _ _ _ _ _ (ck_put1_ok hl' h2 ⟨x, rfl, g2⟩ g3 h4 h5 h6)
      · cases h
    · split at h
      · next hc => exact absurd hc.2 (by decide)
      · cases h
    · cases h
  · obtain ⟨L, S, P⟩ := A
    unfold ck_sto at h
    split at h
    · split at h
      · next hc => exact absurd hc.2 (by decide)
      · cases h
    · next hS =>
      split at h
      · next hc =>
        cases h
        dsimp only at hS
        subst hS
        obtain ⟨lv, h1, h2, h3, h4, h5, h6⟩ := hsat
        match st, h3 with
        | v :: rest, h3 =>
          obtain ⟨⟨⟨x, rfl, g2⟩, -⟩, g3⟩ := h3
          refine lv_astore_n hexec hb hdg rfl h1 hc.1 rfl (fun ls' hl' => ?_)
          exact hn _ List.mem_cons_self _ _ _ _ _ (ck_put1_ok hl' h2 ⟨x, rfl, g2⟩ g3 h4 h5 h6)
      · cases h
    · cases h
  · obtain ⟨L, S, P⟩ := A
    unfold ck_sto at h
    split at h
    · split at h
      · next hc => exact absurd hc.2 (by decide)
      · cases h
    · next hS =>
      split at h
      · next hc =>
        cases h
        dsimp only at hS
        subst hS
        obtain ⟨lv, h1, h2, h3, h4, h5, h6⟩ := hsat
        match st, h3 with
        | v :: rest, h3 =>
          obtain ⟨⟨⟨x, rfl, g2⟩, -⟩, g3⟩ := h3
          refine lv_astore hexec hb hdg h1 hc.1 rfl (fun ls' hl' => ?_)
          exact hn _ List.mem_cons_self _ _ _ _ _ (ck_put1_ok hl' h2 ⟨x, rfl, g2⟩ g3 h4 h5 h6)
      · cases h
    · cases h
  · split at h
    · next r hr =>
      split at h
      · next hc =>
        cases h
        obtain ⟨lv, h1, h2, h3, h4, h5, h6⟩ := hsat
        obtain ⟨v, g1, x, rfl, g2⟩ := ck_load_ok h2 hr
        obtain ⟨kq, hk⟩ := List.getElem?_of_mem g1
        refine lv_iinc hexec hb hdg h1 hk rfl hc.1 rfl (fun ls' hl' => ?_)
        refine hn _ List.mem_cons_self _ _ _ _ _ (ck_put1_ok hl' h2 ⟨_, rfl, ck_add_ok g2 (ck_ci (ck_ofI hc.2))⟩ h3 h4 h5 h6)
      · cases h
    · cases h
  · cases h
end CK6

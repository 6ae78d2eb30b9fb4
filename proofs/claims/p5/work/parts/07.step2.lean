/-! THE CHECKER, 6: arithmetic, the stack, branches. -/
section CK7
variable {p : Program} {l : Launch} {e : Env} {R : Room} {s : State} {m : MethodId} {args : Array Value} {below : List Frame} {meth : Method} {c : Code} {H H0 : Heap} {locs : List Loc} {Q : State → Prop} {cc : ByteArray} {pc len : Nat} {ls : Array Slot} {st : List Value}
variable {D : va_G} {cys : Nat → ClassId} {ty : Nat → Option Nat} {tg : List ck_TD} {pvT : List (Nat × Nat)} {prot : Nat → List (Nat × Nat)} {Ex : va_W → Prop} {pvv : Nat → Int32} {Ts : List Jvm.Cond} {LK : Nat → Nat → Option ck_En} {o nL : Nat} {X : Nat → Int} {A : ck_AS} {out : List (Nat × ck_AS)} {i : Instr}
/-- two ints off the stack, one on it -/
def ck_b2 (f : ck_I → ck_I → ck_I) (pc : Nat) (A : ck_AS) : Option (List (Nat × ck_AS)) := match A.2.1 with
  | (.inl b, _) :: (.inl a, _) :: S => some [(pc + 1, (A.1, (.inl (f a b), 0) :: S, A.2.2))]
  | _ => none
theorem ck_b2_ok {f : ck_I → ck_I → ck_I} {op : Int32 → Int32 → Int32} (hf : ∀ (X : Nat → Int) (a b : ck_I) (x y : Int32), ck_i X a x.toInt → ck_i X b y.toInt → ck_i X (f a b) (op x y).toInt) (h : ck_b2 f pc A = some out) (hsat : ck_sat D cys ty tg pvT Ex nL H0 X A ls st pvv H locs) (kk : ∀ (x y : Int32) (rest : List Value), st = .int y :: .int x :: rest → W p l e R s m args below meth c H locs 0 0 Q (F0 m (pc + 1) ls (.int (op x y) :: rest)) → W p l e R s m args below meth c H locs 0 0 Q (F0 m pc ls st)) (hn : ∀ q ∈ out, ∀ (ls' : Array Slot) (st' : List Value) (pvv' : Nat → Int32) (H' : Heap) (locs' : List Loc), ck_sat D cys ty tg pvT Ex nL H0 X q.2 ls' st' pvv' H' locs' → W p l e R s m args below meth c H' locs' 0 0 Q (F0 m q.1 ls' st')) : W p l e R s m args below meth c H locs 0 0 Q (F0 m pc ls st) := by
  obtain ⟨L, S, P⟩ := A
  unfold ck_b2 at h
  split at h
  · next hS =>
    cases h
    dsimp only at hS
    subst hS
    obtain ⟨lv, h1, h2, h3, h4, h5, h6⟩ := hsat
    match st, h3 with
    | v :: w :: rest, h3 =>
      obtain ⟨⟨⟨y, rfl, g2⟩, -⟩, ⟨⟨x, rfl, g4⟩, -⟩, g5⟩ := h3
      refine kk x y rest rfl ?_
      exact hn _ List.mem_cons_self _ _ _ _ _ ⟨lv, h1, h2, ⟨⟨⟨_, rfl, hf X _ _ x y g4 g2⟩, ck_src0⟩, g5⟩, h4, h5, h6⟩
  · cases h
def ck_u1 (pc : Nat) (A : ck_AS) : Option (List (Nat × ck_AS)) := match A.2.1 with
  | (.inl _, _) :: S => some [(pc + 1, (A.1, (.inl ck_full, 0) :: S, A.2.2))]
  | _ => none
theorem ck_u1_ok {op : Int32 → Int32} (h : ck_u1 pc A = some out) (hsat : ck_sat D cys ty tg pvT Ex nL H0 X A ls st pvv H locs) (kk : ∀ (x : Int32) (rest : List Value), st = .int x :: rest → W p l e R s m args below meth c H locs 0 0 Q (F0 m (pc + 1) ls (.int (op x) :: rest)) → W p l e R s m args below meth c H locs 0 0 Q (F0 m pc ls st)) (hn : ∀ q ∈ out, ∀ (ls' : Array Slot) (st' : List Value) (pvv' : Nat → Int32) (H' : Heap) (locs' : List Loc), ck_sat D cys ty tg pvT Ex nL H0 X q.2 ls' st' pvv' H' locs' → W p l e R s m args below meth c H' locs' 0 0 Q (F0 m q.1 ls' st')) : W p l e R s m args below meth c H locs 0 0 Q (F0 m pc ls st) := by
  obtain ⟨L, S, P⟩ := A
  unfold ck_u1 at h
  split at h
  · next hS =>
    cases h
    dsimp only at hS
    subst hS
    obtain ⟨lv, h1, h2, h3, h4, h5, h6⟩ := hsat
    match st, h3 with
    | v :: rest, h3 =>
      obtain ⟨⟨⟨x, rfl, g2⟩, -⟩, g5⟩ := h3
      refine kk x rest rfl ?_
      exact hn _ List.mem_cons_self _ _ _ _ _ ⟨lv, h1, h2, ⟨⟨⟨_, rfl, ck_full_ok _⟩, ck_src0⟩, g5⟩, h4, h5, h6⟩
  · cases h
def ck_jj (pc : Nat) (av : ck_AV) (A : ck_AS) : Option (List (Nat × ck_AS)) := match A.2.1 with
  | (.inr (.inr _), _) :: (.inr (.inr _), _) :: S => some [(pc + 1, (A.1, (av, 0) :: S, A.2.2))]
  | _ => none
theorem ck_jj_ok {av : ck_AV} {op : Int64 → Int64 → Value} (hv : ∀ x y, ck_v ty X av (op x y)) (h : ck_jj pc av A = some out) (hsat : ck_sat D cys ty tg pvT Ex nL H0 X A ls st pvv H locs) (kk : ∀ (x y : Int64) (rest : List Value), st = .long y :: .long x :: rest → W p l e R s m args below meth c H locs 0 0 Q (F0 m (pc + 1) ls (op x y :: rest)) → W p l e R s m args below meth c H locs 0 0 Q (F0 m pc ls st)) (hn : ∀ q ∈ out, ∀ (ls' : Array Slot) (st' : List Value) (pvv' : Nat → Int32) (H' : Heap) (locs' : List Loc), ck_sat D cys ty tg pvT Ex nL H0 X q.2 ls' st' pvv' H' locs' → W p l e R s m args below meth c H' locs' 0 0 Q (F0 m q.1 ls' st')) : W p l e R s m args below meth c H locs 0 0 Q (F0 m pc ls st) := by
  obtain ⟨L, S, P⟩ := A
  unfold ck_jj at h
  split at h
  · next hS =>
    cases h
    dsimp only at hS
    subst hS
    obtain ⟨lv, h1, h2, h3, h4, h5, h6⟩ := hsat
    match st, h3 with
    | v :: w :: rest, h3 =>
      obtain ⟨⟨⟨y, rfl⟩, -⟩, ⟨⟨x, rfl⟩, -⟩, g5⟩ := h3
      refine kk x y rest rfl ?_
      exact hn _ List.mem_cons_self _ _ _ _ _ ⟨lv, h1, h2, ⟨⟨hv x y, ck_src0⟩, g5⟩, h4, h5, h6⟩
  · cases h
def ck_g3 (pc : Nat) (i : Instr) (len : Nat) (A : ck_AS) : Option (List (Nat × ck_AS)) := match i, len with
  | .iadd, 1 => ck_b2 ck_add pc A
  | .isub, 1 => ck_b2 ck_sub pc A
  | .imul, 1 => ck_b2 ck_mul pc A
  | .iand, 1 => ck_b2 ck_and pc A
  | .ior, 1 => ck_b2 (fun _ _ => ck_full) pc A
  | .ixor, 1 => ck_b2 (fun _ _ => ck_full) pc A
  | .ishl, 1 => ck_b2 ck_shl pc A
  | .ishr, 1 => ck_b2 (fun _ _ => ck_full) pc A
  | .iushr, 1 => ck_b2 (fun _ _ => ck_full) pc A
  | .irem, 1 => match A.2.1 with
    | (.inl b, _) :: _ => if decide (1 ≤ b.1) then ck_b2 ck_rem pc A else none
    | _ => none
  | .ineg, 1 => ck_u1 pc A
  | .i2b, 1 => ck_u1 pc A
  | .i2l, 1 => match A.2.1 with
    | (.inl _, _) :: S => some [(pc + 1, (A.1, (.inr (.inr ()), 0) :: S, A.2.2))]
    | _ => none
  | .lcmp, 1 => ck_jj pc (.inl ck_full) A
  | .ladd, 1 => ck_jj pc (.inr (.inr ())) A
  | .lmul, 1 => ck_jj pc (.inr (.inr ())) A
  | .lor, 1 => ck_jj pc (.inr (.inr ())) A
  | .lshl, 1 => match A.2.1 with
    | (.inl _, _) :: (.inr (.inr _), _) :: S => some [(pc + 1, (A.1, (.inr (.inr ()), 0) :: S, A.2.2))]
    | _ => none
  | .dup, 1 => match A.2.1 with
    | q :: S => if ck_cat q.1 = 1 then some [(pc + 1, (A.1, q :: q :: S, A.2.2))] else none
    | _ => none
  | .pop, 1 => match A.2.1 with
    | q :: S => if ck_cat q.1 = 1 then some [(pc + 1, (A.1, S, A.2.2))] else none
    | _ => none
  | .dup2, 1 => match A.2.1 with
    | q :: r :: S => if ck_cat q.1 = 1 ∧ ck_cat r.1 = 1 then some [(pc + 1, (A.1, q :: r :: q :: r :: S, A.2.2))] else none
    | _ => none
  | _, _ => none
theorem ck_g3_ok (hexec : p.tables.exec = Jvm.exec) (hb : c.code = cc) (h : ck_g3 pc i len A = some out) (hdg : decode cc pc = .ok (i, len)) (hsat : ck_sat D cys ty tg pvT Ex nL H0 X A ls st pvv H locs) (hn : ∀ q ∈ out, ∀ (ls' : Array Slot) (st' : List Value) (pvv' : Nat → Int32) (H' : Heap) (locs' : List Loc), ck_sat D cys ty tg pvT Ex nL H0 X q.2 ls' st' pvv' H' locs' → W p l e R s m args below meth c H' locs' 0 0 Q (F0 m q.1 ls' st')) : W p l e R s m args below meth c H locs 0 0 Q (F0 m pc ls st) := by
  unfold ck_g3 at h
  split at h
  · exact ck_b2_ok (op := fun x y => x + y) (fun _ _ _ _ _ => ck_add_ok) h hsat (fun x y r e k => by subst e; exact lv_iadd hexec hb hdg k) hn
  · exact ck_b2_ok (op := fun x y => x - y) (fun _ _ _ _ _ => ck_sub_ok) h hsat (fun x y r e k => by subst e; exact lv_isub hexec hb hdg k) hn
  · exact ck_b2_ok (op := fun x y => x * y) (fun _ _ _ _ _ => ck_mul_ok) h hsat (fun x y r e k => by subst e; exact lv_imul hexec hb hdg k) hn
  · exact ck_b2_ok (op := fun x y => x &&& y) (fun _ _ _ _ _ => ck_and_ok) h hsat (fun x y r e k => by subst e; exact lv_iand hexec hb hdg k) hn
  · exact ck_b2_ok (op := fun x y => x ||| y) (fun _ _ _ _ _ _ _ => ck_full_ok _) h hsat (fun x y r e k => by subst e; exact lv_ior hexec hb hdg k) hn
  · exact ck_b2_ok (op := fun x y => x ^^^ y) (fun _ _ _ _ _ _ _ => ck_full_ok _) h hsat (fun x y r e k => by subst e; exact lv_ixor hexec hb hdg k) hn
  · exact ck_b2_ok (op := fun x y => x <<< (y &&& 31)) (fun _ _ _ _ _ => ck_shl_ok) h hsat (fun x y r e k => by subst e; exact lv_ishl hexec hb hdg k) hn
  · exact ck_b2_ok (op := fun x y => x >>> (y &&& 31)) (fun _ _ _ _ _ _ _ => ck_full_ok _) h hsat (fun x y r e k => by subst e; exact lv_ishr hexec hb hdg k) hn
  · exact ck_b2_ok (op := fun x y => (x.toUInt32 >>> (y.toUInt32 &&& Int32.toUInt32 31)).toInt32) (fun _ _ _ _ _ _ _ => ck_full_ok _) h hsat (fun x y r e k => by subst e; exact lv_iushr hexec hb hdg rfl k) hn
  · split at h
    · next b _ _ hS =>
      split at h
      · next hb1 =>
        refine ck_b2_ok (op := fun x y => x - x / y * y) (fun _ _ _ _ _ => ck_rem_ok) h hsat (fun x y r e k => ?_) hn
        subst e
        refine lv_irem hexec hb hdg ?_ k
        intro hy
        obtain ⟨lv, h1, h2, h3, -⟩ := hsat
        rw [hS] at h3
        obtain ⟨⟨⟨z, ez, g1, -⟩, -⟩, -⟩ := h3
        cases ez
        have := of_decide_eq_true hb1
        rw [hy] at g1
        have e0 : (0 : Int32).toInt = 0 := rfl
        omega
      · cases h
    · cases h
  · exact ck_u1_ok (op := fun x => -x) h hsat (fun x r e k => by subst e; exact lv_ineg hexec hb hdg k) hn
  · exact ck_u1_ok (op := fun x => x.toInt8.toInt32) h hsat (fun x r e k => by subst e; exact lv_i2b hexec hb hdg rfl k) hn
  · obtain ⟨L, S, P⟩ := A
    split at h
    · next hS =>
      cases h
      dsimp only at hS
      subst hS
      obtain ⟨lv, h1, h2, h3, h4, h5, h6⟩ := hsat
      match st, h3 with
      | v :: rest, h3 =>
        obtain ⟨⟨⟨x, rfl, g2⟩, -⟩, g5⟩ := h3
        refine lv_i2l hexec hb hdg rfl ?_
        exact hn _ List.mem_cons_self _ _ _ _ _ ⟨lv, h1, h2, ⟨⟨⟨_, rfl⟩, ck_src0⟩, g5⟩, h4, h5, h6⟩
    · cases h
  · exact ck_jj_ok (av := .inl ck_full) (ty := ty) (X := X) (op := fun x y => .int (lg_cmp x y)) (fun x y => ⟨_, rfl, ck_full_ok _⟩) h hsat (fun x y r e k => by subst e; exact W.lcmp hexec hb hdg k) hn
  · exact ck_jj_ok (av := .inr (.inr ())) (ty := ty) (X := X) (op := fun x y => .long (x + y)) (fun x y => ⟨_, rfl⟩) h hsat (fun x y r e k => by subst e; exact lv_ladd hexec hb hdg k) hn
  · exact ck_jj_ok (av := .inr (.inr ())) (ty := ty) (X := X) (op := fun x y => .long (x * y)) (fun x y => ⟨_, rfl⟩) h hsat (fun x y r e k => by subst e; exact lv_lmul hexec hb hdg k) hn
  · exact ck_jj_ok (av := .inr (.inr ())) (ty := ty) (X := X) (op := fun x y => .long (x ||| y)) (fun x y => ⟨_, rfl⟩) h hsat (fun x y r e k => by subst e; exact lv_lor hexec hb hdg k) hn
  · obtain ⟨L, S, P⟩ := A
    split at h
    · next hS =>
      cases h
      dsimp only at hS
      subst hS
      obtain ⟨lv, h1, h2, h3, h4, h5, h6⟩ := hsat
      match st, h3 with
      | v :: w :: rest, h3 =>
        obtain ⟨⟨⟨x, rfl, g2⟩, -⟩, ⟨⟨y, rfl⟩, -⟩, g5⟩ := h3
        refine lv_lshl hexec hb hdg rfl ?_
        exact hn _ List.mem_cons_self _ _ _ _ _ ⟨lv, h1, h2, ⟨⟨⟨_, rfl⟩, ck_src0⟩, g5⟩, h4, h5, h6⟩
    · cases h
  · obtain ⟨L, S, P⟩ := A
    split at h
    · next hS =>
      split at h
      · next hc =>
        cases h
        dsimp only at hS
        subst hS
        obtain ⟨lv, h1, h2, h3, h4, h5, h6⟩ := hsat
        match st, h3 with
        | v :: rest, h3 =>
          refine lv_dup hexec hb hdg (by rw [ck_v_cat h3.1.1]; exact hc) ?_
          exact hn _ List.mem_cons_self _ _ _ _ _ ⟨lv, h1, h2, ⟨h3.1, h3⟩, h4, h5, h6⟩
      · cases h
    · cases h
  · obtain ⟨L, S, P⟩ := A
    split at h
    · next hS =>
      split at h
      · next hc =>
        cases h
        dsimp only at hS
        subst hS
        obtain ⟨lv, h1, h2, h3, h4, h5, h6⟩ := hsat
        match st, h3 with
        | v :: rest, h3 =>
          refine lv_pop hexec hb hdg (by rw [ck_v_cat h3.1.1]; exact hc) ?_
          exact hn _ List.mem_cons_self _ _ _ _ _ ⟨lv, h1, h2, h3.2, h4, h5, h6⟩
      · cases h
    · cases h
  · obtain ⟨L, S, P⟩ := A
    split at h
    · next hS =>
      split at h
      · next hc =>
        cases h
        dsimp only at hS
        subst hS
        obtain ⟨lv, h1, h2, h3, h4, h5, h6⟩ := hsat
        match st, h3 with
        | v :: w :: rest, h3 =>
          refine lv_dup2_11 hexec hb hdg (by rw [ck_v_cat h3.1.1]; exact hc.1) (by rw [ck_v_cat h3.2.1.1]; exact hc.2) ?_
          exact hn _ List.mem_cons_self _ _ _ _ _ ⟨lv, h1, h2, ⟨h3.1, h3.2.1, h3⟩, h4, h5, h6⟩
      · cases h
    · cases h
  · cases h
/-! branches -/
def ck_dcA (cd : Nat) (da db : ck_Ds) : ck_Ds := da.flatMap (fun d => (db.filter (fun b => b.1 == d.1)).map (fun b => (d.1, (ck_cmp cd d.2 b.2).1)))
def ck_dcB (cd : Nat) (da db : ck_Ds) : ck_Ds := da.flatMap (fun d => (db.filter (fun b => b.1 == d.1)).map (fun b => (d.1, (ck_cmp cd d.2 b.2).2)))
theorem ck_rel_sh {cd : Nat} {x y z : Int} (h : ck_rel cd x y) : ck_rel cd (x - z) (y - z) := by
  match cd, h with
  | 0, h => simp only [ck_rel] at h ⊢; omega
  | 1, h => simp only [ck_rel] at h ⊢; omega
  | 2, h => simp only [ck_rel] at h ⊢; omega
  | 3, h => simp only [ck_rel] at h ⊢; omega
  | 4, h => simp only [ck_rel] at h ⊢; omega
  | n + 5, h => simp only [ck_rel] at h ⊢; omega
theorem ck_dc_ok {X : Nat → Int} {cd : Nat} {x y : Int} {da db : ck_Ds} (h : ck_rel cd x y) (ha : ck_d X x da) (hb : ck_d X y db) : ck_d X x (ck_dcA cd da db) ∧ ck_d X y (ck_dcB cd da db) := by
  refine ⟨fun q hq => ?_, fun q hq => ?_⟩
  · obtain ⟨d, hd, h1⟩ := List.mem_flatMap.mp hq
    obtain ⟨b, hbm, rfl⟩ := List.mem_map.mp h1
    obtain ⟨hb1, hb2⟩ := List.mem_filter.mp hbm
    have e : b.1 = d.1 := by simpa using hb2
    have k1 := ha d hd
    have k2 := hb b hb1
    rw [e] at k2
    exact (ck_cmp_ok cd (ck_rel_sh (z := X d.1) h) k1.1 k1.2 k2.1 k2.2).1
  · obtain ⟨d, hd, h1⟩ := List.mem_flatMap.mp hq
    obtain ⟨b, hbm, rfl⟩ := List.mem_map.mp h1
    obtain ⟨hb1, hb2⟩ := List.mem_filter.mp hbm
    have e : b.1 = d.1 := by simpa using hb2
    have k1 := ha d hd
    have k2 := hb b hb1
    rw [e] at k2
    exact (ck_cmp_ok cd (ck_rel_sh (z := X d.1) h) k1.1 k1.2 k2.1 k2.2).2
def ck_br (cd : Nat) (a b : ck_I) (sa sb : Nat) (A : ck_AS) : List ck_AS :=
  if decide ((ck_cmp cd (a.1, a.2.1) (b.1, b.2.1)).1.1 ≤ (ck_cmp cd (a.1, a.2.1) (b.1, b.2.1)).1.2) && decide ((ck_cmp cd (a.1, a.2.1) (b.1, b.2.1)).2.1 ≤ (ck_cmp cd (a.1, a.2.1) (b.1, b.2.1)).2.2) then
    [ck_redA (ck_redA (ck_ref (ck_ref A sa (ck_cmp cd (a.1, a.2.1) (b.1, b.2.1)).1.1 (ck_cmp cd (a.1, a.2.1) (b.1, b.2.1)).1.2 (ck_dcA cd a.2.2 b.2.2)) sb (ck_cmp cd (a.1, a.2.1) (b.1, b.2.1)).2.1 (ck_cmp cd (a.1, a.2.1) (b.1, b.2.1)).2.2 (ck_dcB cd a.2.2 b.2.2)) (ck_cmp cd (a.1, a.2.1) (b.1, b.2.1)).1.1 (ck_cmp cd (a.1, a.2.1) (b.1, b.2.1)).1.2 a.2.2) (ck_cmp cd (a.1, a.2.1) (b.1, b.2.1)).2.1 (ck_cmp cd (a.1, a.2.1) (b.1, b.2.1)).2.2 b.2.2] else []
theorem ck_br_ok {cd : Nat} {a b : ck_I} {sa sb : Nat} {L : List (Nat × ck_AV)} {S : List (ck_AV × Nat)} {P : List ck_AV} {x y : Int32} {lv : List (Nat × Value)} {rest : List Value} (hr : ck_rel cd x.toInt y.toInt) (ha : ck_i X a x.toInt) (hb : ck_i X b y.toInt) (hsa : ck_src lv pvv sa (.int x)) (hsb : ck_src lv pvv sb (.int y)) (h1 : lv_has ls nL lv) (h2 : ck_L ty X L lv) (h3 : ck_st ty X lv pvv S rest) (h4 : ck_pvo ty X P pvv) (h5 : ck_Wo D cys ty tg pvT Ex pvv H) (h6 : va_S (ck_own ty) H0 H locs) :
    ∃ A' ∈ ck_br cd a b sa sb (L, S, P), ck_sat D cys ty tg pvT Ex nL H0 X A' ls rest pvv H locs := by
  have hc := ck_cmp_ok cd (a := (a.1, a.2.1)) (b := (b.1, b.2.1)) hr ha.1 ha.2.1 hb.1 hb.2.1
  obtain ⟨⟨c1, c2⟩, c3, c4⟩ := hc
  unfold ck_br
  rw [if_pos (by simp only [Bool.and_eq_true, decide_eq_true_eq]; omega)]
  obtain ⟨d1, d2⟩ := ck_dc_ok hr ha.2.2 hb.2.2
  obtain ⟨k1, k2⟩ := ck_ref_ok hsa c1 c2 d1 h2 h4
  obtain ⟨k3, k4⟩ := ck_ref_ok hsb c3 c4 d2 k1 k2
  obtain ⟨k5, k6⟩ := ck_redLP_ok (lv := lv) (pvv := pvv) (q := (_, _)) c1 c2 ha.2.2 k3 k4
  obtain ⟨k7, k8⟩ := ck_redLP_ok (lv := lv) (pvv := pvv) (q := (_, _)) c3 c4 hb.2.2 k5 k6
  exact ⟨_, List.mem_cons_self, lv, h1, k7, h3, k8, h5, h6⟩
def ck_neg (cd : Nat) : Nat := match cd with
  | 0 => 1 | 1 => 0 | 2 => 3 | 3 => 2 | 4 => 5 | _ => 4
theorem ck_neg_ok {cd : Nat} {x y : Int} (hc : cd < 6) (h : ¬ ck_rel cd x y) : ck_rel (ck_neg cd) x y := by
  match cd, hc, h with
  | 0, _, h => exact h
  | 1, _, h => simp only [ck_rel] at h; simp only [ck_neg, ck_rel]; omega
  | 2, _, h => simp only [ck_rel] at h; simp only [ck_neg, ck_rel]; omega
  | 3, _, h => simp only [ck_rel] at h; simp only [ck_neg, ck_rel]; omega
  | 4, _, h => simp only [ck_rel] at h; simp only [ck_neg, ck_rel]; omega
  | 5, _, h => simp only [ck_rel] at h; simp only [ck_neg, ck_rel]; omega
def ck_cond (cd : Nat) (off : Int) (pc : Nat) (a b : ck_I) (sa sb : Nat) (A : ck_AS) : Option (List (Nat × ck_AS)) :=
  if decide (0 ≤ (pc : Int) + off) then some ((ck_br cd a b sa sb A).map (fun A' => (((pc : Int) + off).toNat, A')) ++ (ck_br (ck_neg cd) a b sa sb A).map (fun A' => (pc + 3, A'))) else none
def ck_cn (cd : ClassFile.Cond) : Nat := match cd with
  | .eq => 0 | .ne => 1 | .lt => 2 | .ge => 3 | .gt => 4 | .le => 5
theorem ck_cond_ok {cd : Nat} {off : Int} {a b : ck_I} {sa sb : Nat} {L : List (Nat × ck_AV)} {S : List (ck_AV × Nat)} {P : List ck_AV} {x y : Int32} {lv : List (Nat × Value)} {rest : List Value} (hcd : cd < 6) (h : ck_cond cd off pc a b sa sb (L, S, P) = some out) (ha : ck_i X a x.toInt) (hb : ck_i X b y.toInt) (hsa : ck_src lv pvv sa (.int x)) (hsb : ck_src lv pvv sb (.int y)) (h1 : lv_has ls nL lv) (h2 : ck_L ty X L lv) (h3 : ck_st ty X lv pvv S rest) (h4 : ck_pvo ty X P pvv) (h5 : ck_Wo D cys ty tg pvT Ex pvv H) (h6 : va_S (ck_own ty) H0 H locs) (hn : ∀ q ∈ out, ∀ (ls' : Array Slot) (st' : List Value) (pvv' : Nat → Int32) (H' : Heap) (locs' : List Loc), ck_sat D cys ty tg pvT Ex nL H0 X q.2 ls' st' pvv' H' locs' → W p l e R s m args below meth c H' locs' 0 0 Q (F0 m q.1 ls' st'))
    (kk : ∀ tgt : Nat, (pc : Int) + off = (tgt : Int) → (ck_rel cd x.toInt y.toInt → W p l e R s m args below meth c H locs 0 0 Q (F0 m tgt ls rest)) → (¬ ck_rel cd x.toInt y.toInt → W p l e R s m args below meth c H locs 0 0 Q (F0 m (pc + 3) ls rest)) → W p l e R s m args below meth c H locs 0 0 Q (F0 m pc ls st)) : W p l e R s m args below meth c H locs 0 0 Q (F0 m pc ls st) := by
  unfold ck_cond at h
  split at h
  · next hp =>
    cases h
    have hp := of_decide_eq_true hp
    refine kk ((pc : Int) + off).toNat (by omega) (fun hr => ?_) (fun hr => ?_)
    · obtain ⟨A', m1, m2⟩ := ck_br_ok hr ha hb hsa hsb h1 h2 h3 h4 h5 h6
      exact hn _ (List.mem_append_left _ (List.mem_map_of_mem m1)) _ _ _ _ _ m2
    · obtain ⟨A', m1, m2⟩ := ck_br_ok (ck_neg_ok hcd hr) ha hb hsa hsb h1 h2 h3 h4 h5 h6
      exact hn _ (List.mem_append_right _ (List.mem_map_of_mem m1)) _ _ _ _ _ m2
  · cases h
def ck_tsw (pc : Nat) (lo : Int) (offs : Array Int) (r : ck_I) (src : Nat) (A : ck_AS) : Nat → Option (List (Nat × ck_AS))
  | 0 => some []
  | k + 1 => match ck_tsw pc lo offs r src A k with
    | none => none
    | some w => if decide (r.1 ≤ lo + k) && decide (lo + k ≤ r.2.1) then (match offs[k]? with
        | some f => if decide (0 ≤ (pc : Int) + f) then some ((((pc : Int) + f).toNat, ck_ref A src (lo + k) (lo + k) []) :: w) else none
        | none => none) else some w
theorem ck_tsw_ok {lo : Int} {offs : Array Int} {r : ck_I} {src : Nat} {x : Int} (hr1 : r.1 ≤ x) (hr2 : x ≤ r.2.1) : ∀ {n : Nat} {w : List (Nat × ck_AS)}, ck_tsw pc lo offs r src A n = some w → ∀ k : Nat, k < n → x = lo + k → ∃ f : Int, offs[k]? = some f ∧ 0 ≤ (pc : Int) + f ∧ (((pc : Int) + f).toNat, ck_ref A src (lo + k) (lo + k) []) ∈ w
  | 0, _, _, k, hk, _ => by omega
  | n + 1, w, h, k, hk, e => by
    unfold ck_tsw at h
    split at h
    · cases h
    · next w0 hw =>
      by_cases ek : k = n
      · subst ek
        rw [if_pos (by simp only [Bool.and_eq_true, decide_eq_true_eq]; omega)] at h
        split at h
        · next f hf =>
          split at h
          · next hp =>
            cases h
            exact ⟨f, hf, of_decide_eq_true hp, List.mem_cons_self⟩
          · cases h
        · cases h
      · obtain ⟨f, g1, g2, g3⟩ := ck_tsw_ok hr1 hr2 hw k (by omega) e
        refine ⟨f, g1, g2, ?_⟩
        split at h
        · split at h
          · split at h
            · cases h; exact List.mem_cons_of_mem _ g3
            · cases h
          · cases h
        · cases h; exact g3
def ck_g5 (pc : Nat) (i : Instr) (len : Nat) (A : ck_AS) : Option (List (Nat × ck_AS)) := match i, len with
  | .goto off, 3 => if decide (0 ≤ (pc : Int) + off) then some [(((pc : Int) + off).toNat, A)] else none
  | .ifCond cd off, 3 => match A.2.1 with
    | (.inl a, sa) :: S => ck_cond (ck_cn cd) off pc a (0, 0, []) sa 0 (A.1, S, A.2.2)
    | _ => none
  | .if_icmp cd off, 3 => match A.2.1 with
    | (.inl b, sb) :: (.inl a, sa) :: S => ck_cond (ck_cn cd) off pc a b sa sb (A.1, S, A.2.2)
    | _ => none
  | .tableswitch dflt lo hi offs, _ => match A.2.1 with
    | (.inl r, src) :: S => if decide (0 ≤ (pc : Int) + dflt) then (match ck_tsw pc lo offs r src (A.1, S, A.2.2) (hi - lo + 1).toNat with
        | some w => some ((if decide (r.1 < lo) || decide (hi < r.2.1) then [(((pc : Int) + dflt).toNat, (A.1, S, A.2.2))] else []) ++ w)
        | none => none) else none
    | _ => none
  | _, _ => none
theorem ck_t_lt {x y : Int32} : x < y ↔ x.toInt < y.toInt := Int32.lt_iff_toInt_lt
theorem ck_t_le {x y : Int32} : x ≤ y ↔ x.toInt ≤ y.toInt := Int32.le_iff_toInt_le
theorem ck_t_eq {x y : Int32} : x = y ↔ x.toInt = y.toInt := Int32.toInt_inj.symm
theorem ck_g5_ok (hexec : p.tables.exec = Jvm.exec) (hb : c.code = cc) (h : ck_g5 pc i len A = some out) (hdg : decode cc pc = .ok (i, len)) (hsat : ck_sat D cys ty tg pvT Ex nL H0 X A ls st pvv H locs) (hn : ∀ q ∈ out, ∀ (ls' : Array Slot) (st' : List Value) (pvv' : Nat → Int32) (H' : Heap) (locs' : List Loc), ck_sat D cys ty tg pvT Ex nL H0 X q.2 ls' st' pvv' H' locs' → W p l e R s m args below meth c H' locs' 0 0 Q (F0 m q.1 ls' st')) : W p l e R s m args below meth c H locs 0 0 Q (F0 m pc ls st) := by
  obtain ⟨L, S, P⟩ := A
  unfold ck_g5 at h
  split at h
  · next off =>
    split at h
    · next hp =>
      cases h
      have hp := of_decide_eq_true hp
      refine lv_goto hexec hb hdg (tgt := ((pc : Int) + off).toNat) (by omega) ?_
      exact hn _ List.mem_cons_self _ _ _ _ _ hsat
    · cases h
  · next cd off =>
    split at h
    · next hS =>
      dsimp only at hS
      subst hS
      obtain ⟨lv, h1, h2, h3, h4, h5, h6⟩ := hsat
      match st, h3 with
      | v :: rest, h3 =>
        obtain ⟨⟨⟨x, rfl, g2⟩, gs⟩, g5⟩ := h3
        refine ck_cond_ok (x := x) (y := 0) (by cases cd <;> decide) h g2 (ck_ci rfl) gs ck_src0 h1 h2 g5 h4 h5 h6 hn (fun tgt ht k1 k2 => ?_)
        cases cd
        · exact lv_if_eq hexec hb hdg ht (fun q => k1 (by simpa [ck_rel, ck_cn] using ck_t_eq.mp q)) (fun q => k2 (fun z => q (ck_t_eq.mpr (by simpa [ck_rel, ck_cn] using z))))
        · exact lv_if_ne hexec hb hdg ht (fun q => k1 (fun z => q (ck_t_eq.mpr (by simpa [ck_rel, ck_cn] using z)))) (fun q => k2 (fun z => z (by simpa using ck_t_eq.mp q)))
        · exact lv_if_lt hexec hb hdg ht (fun q => k1 (by simpa [ck_rel, ck_cn] using ck_t_lt.mp q)) (fun q => k2 (fun z => q (ck_t_lt.mpr (by simpa [ck_rel, ck_cn] using z))))
        · exact lv_if_ge hexec hb hdg ht (fun q => k1 (by simpa [ck_rel, ck_cn] using ck_t_le.mp q)) (fun q => k2 (fun z => q (ck_t_le.mpr (by simpa [ck_rel, ck_cn] using z))))
        · exact lv_if_gt hexec hb hdg ht (fun q => k1 (by simpa [ck_rel, ck_cn] using ck_t_lt.mp q)) (fun q => k2 (fun z => q (ck_t_lt.mpr (by simpa [ck_rel, ck_cn] using z))))
        · exact lv_if_le hexec hb hdg ht (fun q => k1 (by simpa [ck_rel, ck_cn] using ck_t_le.mp q)) (fun q => k2 (fun z => q (ck_t_le.mpr (by simpa [ck_rel, ck_cn] using z))))
    · cases h
  · next cd off =>
    split at h
    · next hS =>
      dsimp only at hS
      subst hS
      obtain ⟨lv, h1, h2, h3, h4, h5, h6⟩ := hsat
      match st, h3 with
      | v :: w :: rest, h3 =>
        obtain ⟨⟨⟨y, rfl, g2⟩, gs⟩, ⟨⟨x, rfl, g3⟩, gt⟩, g5⟩ := h3
        refine ck_cond_ok (x := x) (y := y) (by cases cd <;> decide) h g3 g2 gt gs h1 h2 g5 h4 h5 h6 hn (fun tgt ht k1 k2 => ?_)
        cases cd
        · exact lv_icmp_eq hexec hb hdg ht (fun q => k1 (by simpa [ck_rel, ck_cn] using ck_t_eq.mp q)) (fun q => k2 (fun z => q (ck_t_eq.mpr (by simpa [ck_rel, ck_cn] using z))))
        · exact lv_icmp_ne hexec hb hdg ht (fun q => k1 (fun z => q (ck_t_eq.mpr (by simpa [ck_rel, ck_cn] using z)))) (fun q => k2 (fun z => z (by simpa using ck_t_eq.mp q)))
        · exact lv_icmp_lt hexec hb hdg ht (fun q => k1 (by simpa [ck_rel, ck_cn] using ck_t_lt.mp q)) (fun q => k2 (fun z => q (ck_t_lt.mpr (by simpa [ck_rel, ck_cn] using z))))
        · exact lv_icmp_ge hexec hb hdg ht (fun q => k1 (by simpa [ck_rel, ck_cn] using ck_t_le.mp q)) (fun q => k2 (fun z => q (ck_t_le.mpr (by simpa [ck_rel, ck_cn] using z))))
        · exact lv_icmp_gt hexec hb hdg ht (fun q => k1 (by simpa [ck_rel, ck_cn] using ck_t_lt.mp q)) (fun q => k2 (fun z => q (ck_t_lt.mpr (by simpa [ck_rel, ck_cn] using z))))
        · exact lv_icmp_le hexec hb hdg ht (fun q => k1 (by simpa [ck_rel, ck_cn] using ck_t_le.mp q)) (fun q => k2 (fun z => q (ck_t_le.mpr (by simpa [ck_rel, ck_cn] using z))))
    · cases h
  · next len' dflt lo hi offs =>
    split at h
    · next r src S' hS =>
      split at h
      · next hp =>
        have hp := of_decide_eq_true hp
        split at h
        · next w hw =>
          cases h
          dsimp only at hS
          subst hS
          obtain ⟨lv, h1, h2, h3, h4, h5, h6⟩ := hsat
          match st, h3 with
          | v :: rest, h3 =>
            obtain ⟨⟨⟨x, rfl, g2⟩, gs⟩, g5⟩ := h3
            by_cases hout : x.toInt < lo ∨ hi < x.toInt
            · refine lv_tableOut hexec hb hdg hout (tgt := ((pc : Int) + dflt).toNat) (by omega) ?_
              have hc : (decide (r.1 < lo) || decide (hi < r.2.1)) = true := by
                have := g2.1
                have := g2.2.1
                simp only [Bool.or_eq_true, decide_eq_true_eq]
                omega
              rw [if_pos hc] at hn
              exact hn _ (List.mem_append_left _ List.mem_cons_self) _ _ _ _ _ ⟨lv, h1, h2, g5, h4, h5, h6⟩
            · have e1 : x.toInt = lo + ((x.toInt - lo).toNat : Int) := by omega
              obtain ⟨f, k1, k2, k3⟩ := ck_tsw_ok g2.1 g2.2.1 hw (x.toInt - lo).toNat (by omega) e1
              refine lv_tableIn hexec hb hdg (by omega) (by omega) k1 (tgt := ((pc : Int) + f).toNat) (by omega) ?_
              obtain ⟨k4, k5⟩ := ck_ref_ok gs (lo := lo + ((x.toInt - lo).toNat : Int)) (hi := lo + ((x.toInt - lo).toNat : Int)) (ds := []) (by omega) (by omega) (fun d h => nomatch h) h2 h4
              exact hn _ (List.mem_append_right _ k3) _ _ _ _ _ ⟨lv, h1, k4, g5, k5, h5, h6⟩
        · cases h
      · cases h
    · cases h
  · cases h
end CK7

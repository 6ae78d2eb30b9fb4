/-! THE EXACT LOGIC, 2: from here the machine comes to an end of which Q holds; a row an instruction. -/
def ev_sat (D : va_G) (cys : Nat → ClassId) (ty : Nat → Option Nat) (tg : List ck_TD) (TR : Nat → Bool) (nL : Nat) (H0 : Heap) (L : List (Nat × ev_V)) (S : List ev_V) (C : ev_C) (ls : Array Slot) (st : List Value) (H : Heap) (locs : List Loc) : Prop :=
  ∃ lv : List (Nat × Value), lv_has ls nL lv ∧ ev_L ty L lv ∧ ev_vs ty S st ∧ ev_Wo D cys ty tg TR C H ∧ va_S (ck_own ty) H0 H locs
def ev_Q (D : va_G) (cys : Nat → ClassId) (ty : Nat → Option Nat) (tg : List ck_TD) (TR : Nat → Bool) (Q : Option ev_V → ev_C → Prop) : Array Value → State → Outcome → State → Prop := fun _ st oc t => (∃ (r : Option ev_V) (v : Option Value) (C' : ev_C), oc = .returned v ∧ ev_rv ty r v ∧ Q r C' ∧ ev_Wo D cys ty tg TR C' t.heap) ∧ va_F (ck_own ty) st t
def ev_W (l : Launch) (D : va_G) (cys : Nat → ClassId) (ty : Nat → Option Nat) (tg : List ck_TD) (TR : Nat → Bool) (k : ck_K) (pc : Nat) (L : List (Nat × ev_V)) (S : List ev_V) (C : ev_C) (Q : Option ev_V → ev_C → Prop) : Prop :=
  ∀ (p : Program) (e : Env) (s : State) (m : MethodId) (args : Array Value) (below : List Frame) (meth : Method) (c : Code) (ls : Array Slot) (st : List Value) (H : Heap) (locs : List Loc), ck_At p s m args meth c D cys k → ev_sat D cys ty tg TR (k_ml k) s.heap L S C ls st H locs → W p l e (ck_rm k) s m args below meth c H locs 0 0 (MQ below (ev_Q D cys ty tg TR Q) args s 0 0 (ck_own ty)) (F0 m pc ls st)
def ev_B (D : va_G) (cys : Nat → ClassId) (ty : Nat → Option Nat) (tg : List ck_TD) (TR : Nat → Bool) (C : ev_C) (U : State) : Prop := ev_Wo D cys ty tg TR C U.heap ∧ va_K D ck_cl (ck_tys cys) U ∧ ∀ w ∈ ck_nest, va_Nw w U
def ev_Met (l : Launch) (D : va_G) (cys : Nat → ClassId) (ty : Nat → Option Nat) (tg : List ck_TD) (TR : Nat → Bool) (k : ck_K) (A : List ev_V) (C : ev_C) (Q : Option ev_V → ev_C → Prop) : Prop :=
  ∀ vs : List Value, ev_vs ty A vs → Met l (k_y k) (ck_ws k) (ck_rm k) (va_Pc vs (ev_B D cys ty tg TR C)) (ev_Q D cys ty tg TR Q) 0 0 (ck_own ty)
section EW
variable {l : Launch} {D : va_G} {cys : Nat → ClassId} {ty : Nat → Option Nat} {tg : List ck_TD} {TR : Nat → Bool} {LK : Nat → Nat → Option ck_En} {k : ck_K} {pc : Nat} {L : List (Nat × ev_V)} {S : List ev_V} {C : ev_C} {Q : Option ev_V → ev_C → Prop}
variable {nL : Nat} {H0 H : Heap} {ls : Array Slot} {st : List Value} {locs : List Loc}
theorem ev_push {v : ev_V} {w : Value} (h : ev_sat D cys ty tg TR nL H0 L S C ls st H locs) (hv : ev_v ty v w) : ev_sat D cys ty tg TR nL H0 L (v :: S) C ls (w :: st) H locs := by
  obtain ⟨lv, h1, h2, h3, h4⟩ := h
  exact ⟨lv, h1, h2, ⟨hv, h3⟩, h4⟩
theorem ev_pop1 {v : ev_V} (h : ev_sat D cys ty tg TR nL H0 L (v :: S) C ls st H locs) : ∃ w rest, st = w :: rest ∧ ev_v ty v w ∧ ev_sat D cys ty tg TR nL H0 L S C ls rest H locs := by
  obtain ⟨lv, h1, h2, h3, h4⟩ := h
  match st, h3 with
  | w :: rest, h3 => exact ⟨w, rest, rfl, h3.1, lv, h1, h2, h3.2, h4⟩
theorem ev_ic {n : Int} (hd : decode (k_cc k) pc = .ok (.iconst n, 1)) (hn : ck_in32 n n = true) (kk : ev_W l D cys ty tg TR k (pc + 1) L (.inl n :: S) C Q) : ev_W l D cys ty tg TR k pc L S C Q := by
  intro p e s m args below meth c ls st H locs B hs
  exact hr_ic B.1 B.2.1 hd hn (fun z hz => kk _ _ _ _ _ _ _ _ _ _ _ _ B (ev_push hs ⟨z, rfl, hz⟩))
theorem ev_bp {n : Int} (hd : decode (k_cc k) pc = .ok (.bipush n, 2)) (h1 : -128 ≤ n) (h2 : n ≤ 127) (kk : ev_W l D cys ty tg TR k (pc + 2) L (.inl n :: S) C Q) : ev_W l D cys ty tg TR k pc L S C Q := by
  intro p e s m args below meth c ls st H locs B hs
  exact hr_bp B.1 B.2.1 hd h1 h2 (fun z hz => kk _ _ _ _ _ _ _ _ _ _ _ _ B (ev_push hs ⟨z, rfl, hz⟩))
theorem ev_sp {n : Int} (hd : decode (k_cc k) pc = .ok (.sipush n, 3)) (h1 : -32768 ≤ n) (h2 : n ≤ 32767) (kk : ev_W l D cys ty tg TR k (pc + 3) L (.inl n :: S) C Q) : ev_W l D cys ty tg TR k pc L S C Q := by
  intro p e s m args below meth c ls st H locs B hs
  exact hr_sp B.1 B.2.1 hd h1 h2 (fun z hz => kk _ _ _ _ _ _ _ _ _ _ _ _ B (ev_push hs ⟨z, rfl, hz⟩))
theorem ev_lc {n : Fin 2} {v : Int} (hd : decode (k_cc k) pc = .ok (.lconst n, 1)) (hv : (Int64.ofNat (n : Nat)).toInt = v) (kk : ev_W l D cys ty tg TR k (pc + 1) L (.inr (.inr v) :: S) C Q) : ev_W l D cys ty tg TR k pc L S C Q := by
  intro p e s m args below meth c ls st H locs B hs
  exact lv_lconst B.1 B.2.1 hd rfl (kk _ _ _ _ _ _ _ _ _ _ _ _ B (ev_push hs ⟨_, rfl, hv⟩))
theorem ev_ldc2 {ix : Nat} {x : Int64} {v : Int} (hd : decode (k_cc k) pc = .ok (.ldc2_w ix, 3)) (hw : Jvm.Cond.constantLong (ck_R (k_ow k)) ix x ∈ wsL_law0) (hv : x.toInt = v) (kk : ev_W l D cys ty tg TR k (pc + 3) L (.inr (.inr v) :: S) C Q) : ev_W l D cys ty tg TR k pc L S C Q := by
  intro p e s m args below meth c ls st H locs B hs
  obtain ⟨B1, B2, B3, B4, B5, B6, B7, B8, B9⟩ := id B
  exact lv_ldc2 B1 B2 B7 (B6 _ (List.mem_cons_of_mem _ hw)) hd (kk _ _ _ _ _ _ _ _ _ _ _ _ B (ev_push hs ⟨_, rfl, hv⟩))
theorem ev_il {i : Fin 4} {n : Int} (hd : decode (k_cc k) pc = .ok (.iload_n i, 1)) (hl : ev_get L i.val = some (.inl n)) (kk : ev_W l D cys ty tg TR k (pc + 1) L (.inl n :: S) C Q) : ev_W l D cys ty tg TR k pc L S C Q := by
  intro p e s m args below meth c ls st H locs B hs
  obtain ⟨lv, h1, h2, h3⟩ := id hs
  obtain ⟨w, g1, x, rfl, g2⟩ := ev_get_ok h2 hl
  exact lv_iload_n B.1 B.2.1 hd rfl (h1.2.2 _ g1) (kk _ _ _ _ _ _ _ _ _ _ _ _ B (ev_push hs ⟨x, rfl, g2⟩))
theorem ev_ilw {i : Nat} {n : Int} (hd : decode (k_cc k) pc = .ok (.iload i, 2)) (hl : ev_get L i = some (.inl n)) (kk : ev_W l D cys ty tg TR k (pc + 2) L (.inl n :: S) C Q) : ev_W l D cys ty tg TR k pc L S C Q := by
  intro p e s m args below meth c ls st H locs B hs
  obtain ⟨lv, h1, h2, h3⟩ := id hs
  obtain ⟨w, g1, x, rfl, g2⟩ := ev_get_ok h2 hl
  exact lv_iload B.1 B.2.1 hd (h1.2.2 _ g1) (kk _ _ _ _ _ _ _ _ _ _ _ _ B (ev_push hs ⟨x, rfl, g2⟩))
theorem ev_al {i : Fin 4} {t : Nat} (hd : decode (k_cc k) pc = .ok (.aload_n i, 1)) (hl : ev_get L i.val = some (.inr (.inl t))) (kk : ev_W l D cys ty tg TR k (pc + 1) L (.inr (.inl t) :: S) C Q) : ev_W l D cys ty tg TR k pc L S C Q := by
  intro p e s m args below meth c ls st H locs B hs
  obtain ⟨lv, h1, h2, h3⟩ := id hs
  obtain ⟨w, g1, x, rfl, g2⟩ := ev_get_ok h2 hl
  exact lv_aload_n B.1 B.2.1 hd rfl (h1.2.2 _ g1) (kk _ _ _ _ _ _ _ _ _ _ _ _ B (ev_push hs ⟨x, rfl, g2⟩))
theorem ev_alw {i : Nat} {t : Nat} (hd : decode (k_cc k) pc = .ok (.aload i, 2)) (hl : ev_get L i = some (.inr (.inl t))) (kk : ev_W l D cys ty tg TR k (pc + 2) L (.inr (.inl t) :: S) C Q) : ev_W l D cys ty tg TR k pc L S C Q := by
  intro p e s m args below meth c ls st H locs B hs
  obtain ⟨lv, h1, h2, h3⟩ := id hs
  obtain ⟨w, g1, x, rfl, g2⟩ := ev_get_ok h2 hl
  exact lv_aload B.1 B.2.1 hd (h1.2.2 _ g1) (kk _ _ _ _ _ _ _ _ _ _ _ _ B (ev_push hs ⟨x, rfl, g2⟩))
theorem ev_ll {i : Fin 4} {n : Int} (hd : decode (k_cc k) pc = .ok (.lload_n i, 1)) (hl : ev_get L i.val = some (.inr (.inr n))) (kk : ev_W l D cys ty tg TR k (pc + 1) L (.inr (.inr n) :: S) C Q) : ev_W l D cys ty tg TR k pc L S C Q := by
  intro p e s m args below meth c ls st H locs B hs
  obtain ⟨lv, h1, h2, h3⟩ := id hs
  obtain ⟨w, g1, x, rfl, g2⟩ := ev_get_ok h2 hl
  exact lv_lload_n B.1 B.2.1 hd rfl (h1.2.2 _ g1) (kk _ _ _ _ _ _ _ _ _ _ _ _ B (ev_push hs ⟨x, rfl, g2⟩))
theorem ev_is {i : Fin 4} {n : Int} (hd : decode (k_cc k) pc = .ok (.istore_n i, 1)) (hn : i.val < k_ml k) {L' : List (Nat × ev_V)} (hL : ev_put1 L i.val (.inl n) = L') (kk : ev_W l D cys ty tg TR k (pc + 1) L' S C Q) : ev_W l D cys ty tg TR k pc L (.inl n :: S) C Q := by
  subst hL
  intro p e s m args below meth c ls st H locs B hs
  obtain ⟨w, rest, rfl, ⟨x, rfl, hx⟩, lv, h1, h2, h3, h4⟩ := ev_pop1 hs
  refine lv_istore_n B.1 B.2.1 hd rfl h1 hn rfl (fun ls' hl' => ?_)
  exact kk _ _ _ _ _ _ _ _ _ _ _ _ B ⟨_, hl', ⟨⟨rfl, x, rfl, hx⟩, ev_filter_ok h2⟩, h3, h4⟩
theorem ev_isw {i : Nat} {n : Int} (hd : decode (k_cc k) pc = .ok (.istore i, 2)) (hn : i < k_ml k) {L' : List (Nat × ev_V)} (hL : ev_put1 L i (.inl n) = L') (kk : ev_W l D cys ty tg TR k (pc + 2) L' S C Q) : ev_W l D cys ty tg TR k pc L (.inl n :: S) C Q := by
  subst hL
  intro p e s m args below meth c ls st H locs B hs
  obtain ⟨w, rest, rfl, ⟨x, rfl, hx⟩, lv, h1, h2, h3, h4⟩ := ev_pop1 hs
  refine lv_istore B.1 B.2.1 hd h1 hn rfl (fun ls' hl' => ?_)
  exact kk _ _ _ _ _ _ _ _ _ _ _ _ B ⟨_, hl', ⟨⟨rfl, x, rfl, hx⟩, ev_filter_ok h2⟩, h3, h4⟩
theorem ev_inc {i : Nat} {n d : Int} (hd : decode (k_cc k) pc = .ok (.iinc i d, 3)) (hn : i < k_ml k) (hd2 : ck_in32 d d = true) (hl : ev_get L i = some (.inl n)) {L' : List (Nat × ev_V)} (hL : ev_put1 L i (.inl (ev_w (n + d))) = L') (kk : ev_W l D cys ty tg TR k (pc + 3) L' S C Q) : ev_W l D cys ty tg TR k pc L S C Q := by
  subst hL
  intro p e s m args below meth c ls st H locs B hs
  obtain ⟨lv, h1, h2, h3, h4⟩ := hs
  obtain ⟨w, g1, x, rfl, g2⟩ := ev_get_ok h2 hl
  obtain ⟨kq, hk⟩ := List.getElem?_of_mem g1
  refine lv_iinc B.1 B.2.1 hd h1 hk rfl hn rfl (fun ls' hl' => ?_)
  refine kk _ _ _ _ _ _ _ _ _ _ _ _ B ⟨_, hl', ⟨⟨rfl, _, rfl, ?_⟩, ev_filter_ok h2⟩, h3, h4⟩
  rw [Int32.toInt_add, ck_ofI hd2, g2]
  rfl
/-! arithmetic and the stack -/
theorem ev_b2 {op : Int32 → Int32 → Int32} {f : Int → Int → Int} {a b : Int} (hf : ∀ x y : Int32, (op x y).toInt = f x.toInt y.toInt) (hr : ∀ (p : Program) (e : Env) (s : State) (m : MethodId) (args : Array Value) (below : List Frame) (meth : Method) (c : Code) (ls : Array Slot) (rest : List Value) (H : Heap) (locs : List Loc) (Z : State → Prop) (x y : Int32), p.tables.exec = Jvm.exec → c.code = k_cc k → W p l e (ck_rm k) s m args below meth c H locs 0 0 Z (F0 m (pc + 1) ls (.int (op x y) :: rest)) → W p l e (ck_rm k) s m args below meth c H locs 0 0 Z (F0 m pc ls (.int y :: .int x :: rest))) (kk : ev_W l D cys ty tg TR k (pc + 1) L (.inl (f a b) :: S) C Q) : ev_W l D cys ty tg TR k pc L (.inl b :: .inl a :: S) C Q := by
  intro p e s m args below meth c ls st H locs B hs
  obtain ⟨w, st1, rfl, ⟨y, rfl, hy⟩, hs1⟩ := ev_pop1 hs
  obtain ⟨w, rest, rfl, ⟨x, rfl, hx⟩, hs2⟩ := ev_pop1 hs1
  exact hr _ _ _ _ _ _ _ _ _ _ _ _ _ x y B.1 B.2.1 (kk _ _ _ _ _ _ _ _ _ _ _ _ B (ev_push hs2 ⟨_, rfl, by rw [hf, hx, hy]⟩))
theorem ev_add {a b : Int} (hd : decode (k_cc k) pc = .ok (.iadd, 1)) (kk : ev_W l D cys ty tg TR k (pc + 1) L (.inl (ev_w (a + b)) :: S) C Q) : ev_W l D cys ty tg TR k pc L (.inl b :: .inl a :: S) C Q :=
  ev_b2 (op := fun x y => x + y) (f := fun a b => ev_w (a + b)) (fun x y => Int32.toInt_add x y) (fun _ _ _ _ _ _ _ _ _ _ _ _ _ _ _ h1 h2 h => lv_iadd h1 h2 hd h) kk
theorem ev_sub {a b : Int} (hd : decode (k_cc k) pc = .ok (.isub, 1)) (kk : ev_W l D cys ty tg TR k (pc + 1) L (.inl (ev_w (a - b)) :: S) C Q) : ev_W l D cys ty tg TR k pc L (.inl b :: .inl a :: S) C Q :=
  ev_b2 (op := fun x y => x - y) (f := fun a b => ev_w (a - b)) (fun x y => Int32.toInt_sub x y) (fun _ _ _ _ _ _ _ _ _ _ _ _ _ _ _ h1 h2 h => lv_isub h1 h2 hd h) kk
theorem ev_mul {a b : Int} (hd : decode (k_cc k) pc = .ok (.imul, 1)) (kk : ev_W l D cys ty tg TR k (pc + 1) L (.inl (ev_w (a * b)) :: S) C Q) : ev_W l D cys ty tg TR k pc L (.inl b :: .inl a :: S) C Q :=
  ev_b2 (op := fun x y => x * y) (f := fun a b => ev_w (a * b)) (fun x y => Int32.toInt_mul x y) (fun _ _ _ _ _ _ _ _ _ _ _ _ _ _ _ h1 h2 h => lv_imul h1 h2 hd h) kk
theorem ev_iand {a b : Int} (hd : decode (k_cc k) pc = .ok (.iand, 1)) (kk : ev_W l D cys ty tg TR k (pc + 1) L (.inl (ev_and a b) :: S) C Q) : ev_W l D cys ty tg TR k pc L (.inl b :: .inl a :: S) C Q :=
  ev_b2 (op := fun x y => x &&& y) (f := ev_and) (fun x y => by unfold ev_and; rw [Int32.ofInt_toInt, Int32.ofInt_toInt]) (fun _ _ _ _ _ _ _ _ _ _ _ _ _ _ _ h1 h2 h => lv_iand h1 h2 hd h) kk
theorem ev_ior {a b : Int} (hd : decode (k_cc k) pc = .ok (.ior, 1)) (kk : ev_W l D cys ty tg TR k (pc + 1) L (.inl (ev_or a b) :: S) C Q) : ev_W l D cys ty tg TR k pc L (.inl b :: .inl a :: S) C Q :=
  ev_b2 (op := fun x y => x ||| y) (f := ev_or) (fun x y => by unfold ev_or; rw [Int32.ofInt_toInt, Int32.ofInt_toInt]) (fun _ _ _ _ _ _ _ _ _ _ _ _ _ _ _ h1 h2 h => lv_ior h1 h2 hd h) kk
theorem ev_ishl {a b : Int} (hd : decode (k_cc k) pc = .ok (.ishl, 1)) (kk : ev_W l D cys ty tg TR k (pc + 1) L (.inl (ev_shl a b) :: S) C Q) : ev_W l D cys ty tg TR k pc L (.inl b :: .inl a :: S) C Q :=
  ev_b2 (op := fun x y => x <<< (y &&& 31)) (f := ev_shl) (fun x y => by unfold ev_shl; rw [Int32.ofInt_toInt, Int32.ofInt_toInt]) (fun _ _ _ _ _ _ _ _ _ _ _ _ _ _ _ h1 h2 h => lv_ishl h1 h2 hd h) kk
theorem ev_ishr {a b : Int} (hd : decode (k_cc k) pc = .ok (.ishr, 1)) (kk : ev_W l D cys ty tg TR k (pc + 1) L (.inl (ev_shr a b) :: S) C Q) : ev_W l D cys ty tg TR k pc L (.inl b :: .inl a :: S) C Q :=
  ev_b2 (op := fun x y => x >>> (y &&& 31)) (f := ev_shr) (fun x y => by unfold ev_shr; rw [Int32.ofInt_toInt, Int32.ofInt_toInt]) (fun _ _ _ _ _ _ _ _ _ _ _ _ _ _ _ h1 h2 h => lv_ishr h1 h2 hd h) kk
theorem ev_i2b {a : Int} (hd : decode (k_cc k) pc = .ok (.i2b, 1)) (kk : ev_W l D cys ty tg TR k (pc + 1) L (.inl (ev_b8 a) :: S) C Q) : ev_W l D cys ty tg TR k pc L (.inl a :: S) C Q := by
  intro p e s m args below meth c ls st H locs B hs
  obtain ⟨w, rest, rfl, ⟨x, rfl, hx⟩, hs1⟩ := ev_pop1 hs
  exact lv_i2b B.1 B.2.1 hd rfl (kk _ _ _ _ _ _ _ _ _ _ _ _ B (ev_push hs1 ⟨_, rfl, by rw [Int8.toInt_toInt32, Int32.toInt_toInt8, hx]; rfl⟩))
theorem ev_i2l {a : Int} (hd : decode (k_cc k) pc = .ok (.i2l, 1)) (kk : ev_W l D cys ty tg TR k (pc + 1) L (.inr (.inr a) :: S) C Q) : ev_W l D cys ty tg TR k pc L (.inl a :: S) C Q := by
  intro p e s m args below meth c ls st H locs B hs
  obtain ⟨w, rest, rfl, ⟨x, rfl, hx⟩, hs1⟩ := ev_pop1 hs
  exact lv_i2l B.1 B.2.1 hd rfl (kk _ _ _ _ _ _ _ _ _ _ _ _ B (ev_push hs1 ⟨_, rfl, by rw [Int32.toInt_toInt64, hx]⟩))
theorem ev_jj {op : Int64 → Int64 → Value} {v : ev_V} {a b : Int} (hf : ∀ x y : Int64, x.toInt = a → y.toInt = b → ev_v ty v (op x y)) (hr : ∀ (p : Program) (e : Env) (s : State) (m : MethodId) (args : Array Value) (below : List Frame) (meth : Method) (c : Code) (ls : Array Slot) (rest : List Value) (H : Heap) (locs : List Loc) (Z : State → Prop) (x y : Int64), p.tables.exec = Jvm.exec → c.code = k_cc k → W p l e (ck_rm k) s m args below meth c H locs 0 0 Z (F0 m (pc + 1) ls (op x y :: rest)) → W p l e (ck_rm k) s m args below meth c H locs 0 0 Z (F0 m pc ls (.long y :: .long x :: rest))) (kk : ev_W l D cys ty tg TR k (pc + 1) L (v :: S) C Q) : ev_W l D cys ty tg TR k pc L (.inr (.inr b) :: .inr (.inr a) :: S) C Q := by
  intro p e s m args below meth c ls st H locs B hs
  obtain ⟨w, st1, rfl, ⟨y, rfl, hy⟩, hs1⟩ := ev_pop1 hs
  obtain ⟨w, rest, rfl, ⟨x, rfl, hx⟩, hs2⟩ := ev_pop1 hs1
  exact hr _ _ _ _ _ _ _ _ _ _ _ _ _ x y B.1 B.2.1 (kk _ _ _ _ _ _ _ _ _ _ _ _ B (ev_push hs2 (hf x y hx hy)))
theorem ev_lcmp {a b : Int} (hd : decode (k_cc k) pc = .ok (.lcmp, 1)) (kk : ev_W l D cys ty tg TR k (pc + 1) L (.inl (ev_cmp a b) :: S) C Q) : ev_W l D cys ty tg TR k pc L (.inr (.inr b) :: .inr (.inr a) :: S) C Q :=
  ev_jj (op := fun x y => .int (lg_cmp x y)) (v := .inl (ev_cmp a b)) (fun x y h1 h2 => ⟨_, rfl, by rw [ev_cmp_ok, h1, h2]⟩) (fun _ _ _ _ _ _ _ _ _ _ _ _ _ _ _ h1 h2 h => W.lcmp h1 h2 hd h) kk
theorem ev_ladd {a b : Int} (hd : decode (k_cc k) pc = .ok (.ladd, 1)) (kk : ev_W l D cys ty tg TR k (pc + 1) L (.inr (.inr (ev_w64 (a + b))) :: S) C Q) : ev_W l D cys ty tg TR k pc L (.inr (.inr b) :: .inr (.inr a) :: S) C Q :=
  ev_jj (op := fun x y => .long (x + y)) (v := .inr (.inr (ev_w64 (a + b)))) (fun x y h1 h2 => ⟨_, rfl, by rw [Int64.toInt_add, h1, h2]; rfl⟩) (fun _ _ _ _ _ _ _ _ _ _ _ _ _ _ _ h1 h2 h => lv_ladd h1 h2 hd h) kk
theorem ev_lmul {a b : Int} (hd : decode (k_cc k) pc = .ok (.lmul, 1)) (kk : ev_W l D cys ty tg TR k (pc + 1) L (.inr (.inr (ev_w64 (a * b))) :: S) C Q) : ev_W l D cys ty tg TR k pc L (.inr (.inr b) :: .inr (.inr a) :: S) C Q :=
  ev_jj (op := fun x y => .long (x * y)) (v := .inr (.inr (ev_w64 (a * b)))) (fun x y h1 h2 => ⟨_, rfl, by rw [Int64.toInt_mul, h1, h2]; rfl⟩) (fun _ _ _ _ _ _ _ _ _ _ _ _ _ _ _ h1 h2 h => lv_lmul h1 h2 hd h) kk
theorem ev_lor1 {a b : Int} (hd : decode (k_cc k) pc = .ok (.lor, 1)) (kk : ev_W l D cys ty tg TR k (pc + 1) L (.inr (.inr (ev_lor a b)) :: S) C Q) : ev_W l D cys ty tg TR k pc L (.inr (.inr b) :: .inr (.inr a) :: S) C Q :=
  ev_jj (op := fun x y => .long (x ||| y)) (v := .inr (.inr (ev_lor a b))) (fun x y h1 h2 => ⟨_, rfl, by unfold ev_lor; rw [← h1, ← h2, Int64.ofInt_toInt, Int64.ofInt_toInt]⟩) (fun _ _ _ _ _ _ _ _ _ _ _ _ _ _ _ h1 h2 h => lv_lor h1 h2 hd h) kk
theorem ev_lshl1 {a b : Int} (hd : decode (k_cc k) pc = .ok (.lshl, 1)) (kk : ev_W l D cys ty tg TR k (pc + 1) L (.inr (.inr (ev_lshl a b)) :: S) C Q) : ev_W l D cys ty tg TR k pc L (.inl b :: .inr (.inr a) :: S) C Q := by
  intro p e s m args below meth c ls st H locs B hs
  obtain ⟨w, st1, rfl, ⟨y, rfl, hy⟩, hs1⟩ := ev_pop1 hs
  obtain ⟨w, rest, rfl, ⟨x, rfl, hx⟩, hs2⟩ := ev_pop1 hs1
  exact lv_lshl B.1 B.2.1 hd rfl (kk _ _ _ _ _ _ _ _ _ _ _ _ B (ev_push hs2 ⟨_, rfl, by unfold ev_lshl; rw [← hx, ← hy, Int64.ofInt_toInt, Int32.ofInt_toInt]⟩))
theorem ev_dup {v : ev_V} (hd : decode (k_cc k) pc = .ok (.dup, 1)) (hc : ev_cat v = 1) (kk : ev_W l D cys ty tg TR k (pc + 1) L (v :: v :: S) C Q) : ev_W l D cys ty tg TR k pc L (v :: S) C Q := by
  intro p e s m args below meth c ls st H locs B hs
  obtain ⟨w, rest, rfl, hw, -⟩ := ev_pop1 (id hs)
  exact lv_dup B.1 B.2.1 hd (by rw [ev_v_cat hw]; exact hc) (kk _ _ _ _ _ _ _ _ _ _ _ _ B (ev_push hs hw))
theorem ev_dup2 {v v' : ev_V} (hd : decode (k_cc k) pc = .ok (.dup2, 1)) (hc : ev_cat v = 1) (hc' : ev_cat v' = 1) (kk : ev_W l D cys ty tg TR k (pc + 1) L (v :: v' :: v :: v' :: S) C Q) : ev_W l D cys ty tg TR k pc L (v :: v' :: S) C Q := by
  intro p e s m args below meth c ls st H locs B hs
  obtain ⟨w, st1, rfl, hw, hs1⟩ := ev_pop1 (id hs)
  obtain ⟨w', rest, rfl, hw', -⟩ := ev_pop1 hs1
  exact lv_dup2_11 B.1 B.2.1 hd (by rw [ev_v_cat hw]; exact hc) (by rw [ev_v_cat hw']; exact hc') (kk _ _ _ _ _ _ _ _ _ _ _ _ B (ev_push (ev_push hs hw') hw))
theorem ev_pop {v : ev_V} (hd : decode (k_cc k) pc = .ok (.pop, 1)) (hc : ev_cat v = 1) (kk : ev_W l D cys ty tg TR k (pc + 1) L S C Q) : ev_W l D cys ty tg TR k pc L (v :: S) C Q := by
  intro p e s m args below meth c ls st H locs B hs
  obtain ⟨w, rest, rfl, hw, hs1⟩ := ev_pop1 hs
  exact lv_pop B.1 B.2.1 hd (by rw [ev_v_cat hw]; exact hc) (kk _ _ _ _ _ _ _ _ _ _ _ _ B hs1)
/-! branches -/
theorem ev_goto {off : Int} {tgt : Nat} (hd : decode (k_cc k) pc = .ok (.goto off, 3)) (ht : (pc : Int) + off = (tgt : Int)) (kk : ev_W l D cys ty tg TR k tgt L S C Q) : ev_W l D cys ty tg TR k pc L S C Q := by
  intro p e s m args below meth c ls st H locs B hs
  exact lv_goto B.1 B.2.1 hd ht (kk _ _ _ _ _ _ _ _ _ _ _ _ B hs)
theorem ev_c_eq {a b off : Int} {tgt : Nat} (hd : decode (k_cc k) pc = .ok (.if_icmp .eq off, 3)) (ht : (pc : Int) + off = (tgt : Int)) (kt : a = b → ev_W l D cys ty tg TR k tgt L S C Q) (kf : ¬ (a = b) → ev_W l D cys ty tg TR k (pc + 3) L S C Q) : ev_W l D cys ty tg TR k pc L (.inl b :: .inl a :: S) C Q := by
  intro p e s m args below meth c ls st H locs B hs
  obtain ⟨w, st1, rfl, ⟨y, rfl, hy⟩, hs1⟩ := ev_pop1 hs
  obtain ⟨w, rest, rfl, ⟨x, rfl, hx⟩, hs2⟩ := ev_pop1 hs1
  exact hr_eq B.1 B.2.1 hd ht (fun h => kt (by omega) _ _ _ _ _ _ _ _ _ _ _ _ B hs2) (fun h => kf (by omega) _ _ _ _ _ _ _ _ _ _ _ _ B hs2)
theorem ev_z_eq {a off : Int} {tgt : Nat} (hd : decode (k_cc k) pc = .ok (.ifCond .eq off, 3)) (ht : (pc : Int) + off = (tgt : Int)) (kt : a = 0 → ev_W l D cys ty tg TR k tgt L S C Q) (kf : ¬ (a = 0) → ev_W l D cys ty tg TR k (pc + 3) L S C Q) : ev_W l D cys ty tg TR k pc L (.inl a :: S) C Q := by
  intro p e s m args below meth c ls st H locs B hs
  obtain ⟨w, rest, rfl, ⟨x, rfl, hx⟩, hs1⟩ := ev_pop1 hs
  exact hr_eq0 B.1 B.2.1 hd ht (fun h => kt (by omega) _ _ _ _ _ _ _ _ _ _ _ _ B hs1) (fun h => kf (by omega) _ _ _ _ _ _ _ _ _ _ _ _ B hs1)
theorem ev_c_ne {a b off : Int} {tgt : Nat} (hd : decode (k_cc k) pc = .ok (.if_icmp .ne off, 3)) (ht : (pc : Int) + off = (tgt : Int)) (kt : a ≠ b → ev_W l D cys ty tg TR k tgt L S C Q) (kf : ¬ (a ≠ b) → ev_W l D cys ty tg TR k (pc + 3) L S C Q) : ev_W l D cys ty tg TR k pc L (.inl b :: .inl a :: S) C Q := by
  intro p e s m args below meth c ls st H locs B hs
  obtain ⟨w, st1, rfl, ⟨y, rfl, hy⟩, hs1⟩ := ev_pop1 hs
  obtain ⟨w, rest, rfl, ⟨x, rfl, hx⟩, hs2⟩ := ev_pop1 hs1
  exact hr_ne B.1 B.2.1 hd ht (fun h => kt (by omega) _ _ _ _ _ _ _ _ _ _ _ _ B hs2) (fun h => kf (by omega) _ _ _ _ _ _ _ _ _ _ _ _ B hs2)
theorem ev_z_ne {a off : Int} {tgt : Nat} (hd : decode (k_cc k) pc = .ok (.ifCond .ne off, 3)) (ht : (pc : Int) + off = (tgt : Int)) (kt : a ≠ 0 → ev_W l D cys ty tg TR k tgt L S C Q) (kf : ¬ (a ≠ 0) → ev_W l D cys ty tg TR k (pc + 3) L S C Q) : ev_W l D cys ty tg TR k pc L (.inl a :: S) C Q := by
  intro p e s m args below meth c ls st H locs B hs
  obtain ⟨w, rest, rfl, ⟨x, rfl, hx⟩, hs1⟩ := ev_pop1 hs
  exact hr_ne0 B.1 B.2.1 hd ht (fun h => kt (by omega) _ _ _ _ _ _ _ _ _ _ _ _ B hs1) (fun h => kf (by omega) _ _ _ _ _ _ _ _ _ _ _ _ B hs1)
theorem ev_c_lt {a b off : Int} {tgt : Nat} (hd : decode (k_cc k) pc = .ok (.if_icmp .lt off, 3)) (ht : (pc : Int) + off = (tgt : Int)) (kt : a < b → ev_W l D cys ty tg TR k tgt L S C Q) (kf : ¬ (a < b) → ev_W l D cys ty tg TR k (pc + 3) L S C Q) : ev_W l D cys ty tg TR k pc L (.inl b :: .inl a :: S) C Q := by
  intro p e s m args below meth c ls st H locs B hs
  obtain ⟨w, st1, rfl, ⟨y, rfl, hy⟩, hs1⟩ := ev_pop1 hs
  obtain ⟨w, rest, rfl, ⟨x, rfl, hx⟩, hs2⟩ := ev_pop1 hs1
  exact hr_lt B.1 B.2.1 hd ht (fun h => kt (by omega) _ _ _ _ _ _ _ _ _ _ _ _ B hs2) (fun h => kf (by omega) _ _ _ _ _ _ _ _ _ _ _ _ B hs2)
theorem ev_z_lt {a off : Int} {tgt : Nat} (hd : decode (k_cc k) pc = .ok (.ifCond .lt off, 3)) (ht : (pc : Int) + off = (tgt : Int)) (kt : a < 0 → ev_W l D cys ty tg TR k tgt L S C Q) (kf : ¬ (a < 0) → ev_W l D cys ty tg TR k (pc + 3) L S C Q) : ev_W l D cys ty tg TR k pc L (.inl a :: S) C Q := by
  intro p e s m args below meth c ls st H locs B hs
  obtain ⟨w, rest, rfl, ⟨x, rfl, hx⟩, hs1⟩ := ev_pop1 hs
  exact hr_lt0 B.1 B.2.1 hd ht (fun h => kt (by omega) _ _ _ _ _ _ _ _ _ _ _ _ B hs1) (fun h => kf (by omega) _ _ _ _ _ _ _ _ _ _ _ _ B hs1)
theorem ev_c_ge {a b off : Int} {tgt : Nat} (hd : decode (k_cc k) pc = .ok (.if_icmp .ge off, 3)) (ht : (pc : Int) + off = (tgt : Int)) (kt : b ≤ a → ev_W l D cys ty tg TR k tgt L S C Q) (kf : ¬ (b ≤ a) → ev_W l D cys ty tg TR k (pc + 3) L S C Q) : ev_W l D cys ty tg TR k pc L (.inl b :: .inl a :: S) C Q := by
  intro p e s m args below meth c ls st H locs B hs
  obtain ⟨w, st1, rfl, ⟨y, rfl, hy⟩, hs1⟩ := ev_pop1 hs
  obtain ⟨w, rest, rfl, ⟨x, rfl, hx⟩, hs2⟩ := ev_pop1 hs1
  exact hr_ge B.1 B.2.1 hd ht (fun h => kt (by omega) _ _ _ _ _ _ _ _ _ _ _ _ B hs2) (fun h => kf (by omega) _ _ _ _ _ _ _ _ _ _ _ _ B hs2)
theorem ev_z_ge {a off : Int} {tgt : Nat} (hd : decode (k_cc k) pc = .ok (.ifCond .ge off, 3)) (ht : (pc : Int) + off = (tgt : Int)) (kt : 0 ≤ a → ev_W l D cys ty tg TR k tgt L S C Q) (kf : ¬ (0 ≤ a) → ev_W l D cys ty tg TR k (pc + 3) L S C Q) : ev_W l D cys ty tg TR k pc L (.inl a :: S) C Q := by
  intro p e s m args below meth c ls st H locs B hs
  obtain ⟨w, rest, rfl, ⟨x, rfl, hx⟩, hs1⟩ := ev_pop1 hs
  exact hr_ge0 B.1 B.2.1 hd ht (fun h => kt (by omega) _ _ _ _ _ _ _ _ _ _ _ _ B hs1) (fun h => kf (by omega) _ _ _ _ _ _ _ _ _ _ _ _ B hs1)
theorem ev_c_gt {a b off : Int} {tgt : Nat} (hd : decode (k_cc k) pc = .ok (.if_icmp .gt off, 3)) (ht : (pc : Int) + off = (tgt : Int)) (kt : b < a → ev_W l D cys ty tg TR k tgt L S C Q) (kf : ¬ (b < a) → ev_W l D cys ty tg TR k (pc + 3) L S C Q) : ev_W l D cys ty tg TR k pc L (.inl b :: .inl a :: S) C Q := by
  intro p e s m args below meth c ls st H locs B hs
  obtain ⟨w, st1, rfl, ⟨y, rfl, hy⟩, hs1⟩ := ev_pop1 hs
  obtain ⟨w, rest, rfl, ⟨x, rfl, hx⟩, hs2⟩ := ev_pop1 hs1
  exact hr_gt B.1 B.2.1 hd ht (fun h => kt (by omega) _ _ _ _ _ _ _ _ _ _ _ _ B hs2) (fun h => kf (by omega) _ _ _ _ _ _ _ _ _ _ _ _ B hs2)
theorem ev_z_gt {a off : Int} {tgt : Nat} (hd : decode (k_cc k) pc = .ok (.ifCond .gt off, 3)) (ht : (pc : Int) + off = (tgt : Int)) (kt : 0 < a → ev_W l D cys ty tg TR k tgt L S C Q) (kf : ¬ (0 < a) → ev_W l D cys ty tg TR k (pc + 3) L S C Q) : ev_W l D cys ty tg TR k pc L (.inl a :: S) C Q := by
  intro p e s m args below meth c ls st H locs B hs
  obtain ⟨w, rest, rfl, ⟨x, rfl, hx⟩, hs1⟩ := ev_pop1 hs
  exact hr_gt0 B.1 B.2.1 hd ht (fun h => kt (by omega) _ _ _ _ _ _ _ _ _ _ _ _ B hs1) (fun h => kf (by omega) _ _ _ _ _ _ _ _ _ _ _ _ B hs1)
theorem ev_c_le {a b off : Int} {tgt : Nat} (hd : decode (k_cc k) pc = .ok (.if_icmp .le off, 3)) (ht : (pc : Int) + off = (tgt : Int)) (kt : a ≤ b → ev_W l D cys ty tg TR k tgt L S C Q) (kf : ¬ (a ≤ b) → ev_W l D cys ty tg TR k (pc + 3) L S C Q) : ev_W l D cys ty tg TR k pc L (.inl b :: .inl a :: S) C Q := by
  intro p e s m args below meth c ls st H locs B hs
  obtain ⟨w, st1, rfl, ⟨y, rfl, hy⟩, hs1⟩ := ev_pop1 hs
  obtain ⟨w, rest, rfl, ⟨x, rfl, hx⟩, hs2⟩ := ev_pop1 hs1
  exact hr_le B.1 B.2.1 hd ht (fun h => kt (by omega) _ _ _ _ _ _ _ _ _ _ _ _ B hs2) (fun h => kf (by omega) _ _ _ _ _ _ _ _ _ _ _ _ B hs2)
theorem ev_z_le {a off : Int} {tgt : Nat} (hd : decode (k_cc k) pc = .ok (.ifCond .le off, 3)) (ht : (pc : Int) + off = (tgt : Int)) (kt : a ≤ 0 → ev_W l D cys ty tg TR k tgt L S C Q) (kf : ¬ (a ≤ 0) → ev_W l D cys ty tg TR k (pc + 3) L S C Q) : ev_W l D cys ty tg TR k pc L (.inl a :: S) C Q := by
  intro p e s m args below meth c ls st H locs B hs
  obtain ⟨w, rest, rfl, ⟨x, rfl, hx⟩, hs1⟩ := ev_pop1 hs
  exact hr_le0 B.1 B.2.1 hd ht (fun h => kt (by omega) _ _ _ _ _ _ _ _ _ _ _ _ B hs1) (fun h => kf (by omega) _ _ _ _ _ _ _ _ _ _ _ _ B hs1)
theorem ev_tin {dflt lo hi n f : Int} {offs : Array Int} {len j tgt : Nat} (hd : decode (k_cc k) pc = .ok (.tableswitch dflt lo hi offs, len)) (hn : n = lo + j) (hj : lo + j ≤ hi) (hf : offs[j]? = some f) (ht : (pc : Int) + f = (tgt : Int)) (kk : ev_W l D cys ty tg TR k tgt L S C Q) : ev_W l D cys ty tg TR k pc L (.inl n :: S) C Q := by
  intro p e s m args below meth c ls st H locs B hs
  obtain ⟨w, rest, rfl, ⟨x, rfl, hx⟩, hs1⟩ := ev_pop1 hs
  have e1 : (x.toInt - lo).toNat = j := by omega
  exact lv_tableIn B.1 B.2.1 hd (by omega) (by omega) (by rw [e1]; exact hf) ht (kk _ _ _ _ _ _ _ _ _ _ _ _ B hs1)
theorem ev_tout {dflt lo hi n : Int} {offs : Array Int} {len tgt : Nat} (hd : decode (k_cc k) pc = .ok (.tableswitch dflt lo hi offs, len)) (hn : n < lo ∨ hi < n) (ht : (pc : Int) + dflt = (tgt : Int)) (kk : ev_W l D cys ty tg TR k tgt L S C Q) : ev_W l D cys ty tg TR k pc L (.inl n :: S) C Q := by
  intro p e s m args below meth c ls st H locs B hs
  obtain ⟨w, rest, rfl, ⟨x, rfl, hx⟩, hs1⟩ := ev_pop1 hs
  exact lv_tableOut B.1 B.2.1 hd (by omega) ht (kk _ _ _ _ _ _ _ _ _ _ _ _ B hs1)
end EW

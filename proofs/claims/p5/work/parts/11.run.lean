/-! THE CHECKER, 10: the whole of a method: states at places with what falls from one to the next; what a clean check means. -/
def ck_lval (ls : Array Slot) (n : Nat) : Int := match ls[n]? with
  | some (.val (.int x)) => x.toInt
  | _ => 0
def ck_val (ls : Array Slot) (pvv : Nat → Int32) (v : Nat) : Int := if v < 1000 then ck_lval ls v else (pvv (v - 1000)).toInt
/-- the starting values at a place: odd names anew, even ones stay -/
def ck_Xn (X : Nat → Int) (ls : Array Slot) (pvv : Nat → Int32) : Nat → Int := fun n => if n % 2 = 0 then X n else ck_val ls pvv (n / 2)
def ck_addc (av : ck_AV) (v : Nat) : ck_AV := match av with
  | .inl r => .inl (r.1, r.2.1, (v, 0, 0) :: r.2.2)
  | x => x
def ck_addP : List ck_AV → Nat → List ck_AV
  | [], _ => []
  | a :: r, n => ck_addc a n :: ck_addP r (n + 2)
def ck_res (A : ck_AS) : ck_AS := (A.1.map (fun q => (q.1, ck_addc q.2 (2 * q.1 + 1))), A.2.1, ck_addP A.2.2 2001)
def ck_evn (av : ck_AV) : Bool := match av with
  | .inl r => r.2.2.all (fun d => decide (d.1 % 2 = 0))
  | _ => true
theorem ck_evn_ok {ty : Nat → Option Nat} {X Y : Nat → Int} {av : ck_AV} {v : Value} (he : ck_evn av = true) (hXY : ∀ n, n % 2 = 0 → Y n = X n) (h : ck_v ty X av v) : ck_v ty Y av v := by
  match av, he, h with
  | .inl r, he, h =>
    obtain ⟨x, e, a1, a2, a3⟩ := h
    refine ⟨x, e, a1, a2, fun d hd => ?_⟩
    have h1 := of_decide_eq_true (List.all_eq_true.mp he d hd)
    rw [hXY d.1 h1]
    exact a3 d hd
  | .inr (.inl t), _, h => exact h
  | .inr (.inr u), _, h => exact h
theorem ck_addc_ok {ty : Nat → Option Nat} {X : Nat → Int} {av : ck_AV} {v : Value} {n : Nat} (h : ck_v ty X av v) (hx : ∀ x : Int32, v = .int x → X n = x.toInt) : ck_v ty X (ck_addc av n) v := by
  match av, h with
  | .inl r, h =>
    obtain ⟨x, e, a1, a2, a3⟩ := h
    refine ⟨x, e, a1, a2, fun d hd => ?_⟩
    rcases List.mem_cons.mp hd with hd | hd
    · subst hd
      have := hx x e
      dsimp only
      omega
    · exact a3 d hd
  | .inr (.inl t), h => exact h
  | .inr (.inr u), h => exact h
theorem ck_addP_ok {ty : Nat → Option Nat} {X : Nat → Int} : ∀ {P : List ck_AV} {n : Nat} {f : Nat → Int32}, ck_pvo ty X P f → (∀ j : Nat, X (n + 2 * j) = (f j).toInt) → ck_pvo ty X (ck_addP P n) f
  | [], n, f, _, _ => fun j av h => by simp [ck_addP] at h
  | a :: P, n, f, h, hx => by
    intro j av hj
    match j, hj with
    | 0, hj =>
      cases hj
      exact ck_addc_ok (h 0 a rfl) (fun x e => by cases e; exact hx 0)
    | j + 1, hj =>
      refine ck_addP_ok (n := n + 2) (f := fun j => f (j + 1)) (fun i bv hi => h (i + 1) bv hi) (fun i => ?_) j av hj
      have := hx (i + 1)
      rw [show n + 2 * (i + 1) = n + 2 + 2 * i by omega] at this
      exact this
def ck_avOf (A : ck_AS) (v : Nat) : Option ck_I := if v < 1000 then (match ck_load A.1 v with
  | some (.inl r) => some r
  | _ => none) else (match A.2.2[v - 1000]? with
  | some (.inl r) => some r
  | _ => none)
/-- a bound of a place's state: by an even name as it stands; by an odd one: against what another holds there now -/
def ck_dlN (E : List ck_AV) (A : ck_AS) (r : ck_I) (d : Nat × Int × Int) : Bool := if d.1 % 2 = 0 then ck_dlE E r d else (match ck_avOf A (d.1 / 2) with
  | some z => (decide (d.2.1 ≤ r.1 - z.2.1) || r.2.2.any (fun q => z.2.2.any (fun g => q.1 == g.1 && decide (d.2.1 ≤ q.2.1 - g.2.2)))) && (decide (r.2.1 - z.1 ≤ d.2.2) || r.2.2.any (fun q => z.2.2.any (fun g => q.1 == g.1 && decide (q.2.2 - g.2.1 ≤ d.2.2))))
  | none => false)
def ck_leN (E : List ck_AV) (A : ck_AS) (a b : ck_AV) : Bool := match a, b with
  | .inl r, .inl q => decide (q.1 ≤ r.1) && decide (r.2.1 ≤ q.2.1) && q.2.2.all (ck_dlN E A r)
  | .inr (.inl t), .inr (.inl u) => t == u
  | .inr (.inr _), .inr (.inr _) => true
  | _, _ => false
theorem ck_leN_ok {ty : Nat → Option Nat} {X Y : Nat → Int} {E : List ck_AV} {A : ck_AS} {g : Nat → Int} (hEr : ck_Er E X) (hE : ∀ n, n % 2 = 0 → Y n = X n) (hO : ∀ v, Y (2 * v + 1) = g v) (hA : ∀ v r, ck_avOf A v = some r → ck_i X r (g v)) {a b : ck_AV} {v : Value} (h : ck_leN E A a b = true) (hv : ck_v ty X a v) : ck_v ty Y b v := by
  match a, b, h, hv with
  | .inl r, .inl q, h, hv =>
    obtain ⟨x, rfl, h1, h2, h3⟩ := hv
    simp only [ck_leN, Bool.and_eq_true, decide_eq_true_eq, List.all_eq_true] at h
    refine ⟨x, rfl, by omega, by omega, fun d hd => ?_⟩
    have h4 := h.2 d hd
    unfold ck_dlN at h4
    split at h4
    · next e =>
      rw [hE _ e]
      exact ck_dlE_ok hEr h4 ⟨h1, h2, h3⟩
    · next e =>
      split at h4
      · next z hz =>
        have h5 := hA _ _ hz
        have e2 : d.1 = 2 * (d.1 / 2) + 1 := by omega
        have e3 := hO (d.1 / 2)
        rw [← e2] at e3
        rw [e3]
        obtain ⟨z1, z2, z3⟩ := h5
        simp only [Bool.and_eq_true, Bool.or_eq_true, decide_eq_true_eq, List.any_eq_true, beq_iff_eq] at h4
        obtain ⟨c1, c2⟩ := h4
        refine ⟨?_, ?_⟩
        · rcases c1 with c1 | ⟨q1, m1, g1, m2, e1, c1⟩
          · omega
          · have k1 := h3 q1 m1
            have k2 := z3 g1 m2
            rw [e1] at k1
            omega
        · rcases c2 with c2 | ⟨q1, m1, g1, m2, e1, c2⟩
          · omega
          · have k1 := h3 q1 m1
            have k2 := z3 g1 m2
            rw [e1] at k1
            omega
      · cases h4
  | .inr (.inl t), .inr (.inl u), h, hv =>
    obtain ⟨y, rfl, h1⟩ := hv
    simp only [ck_leN, beq_iff_eq] at h
    exact ⟨y, rfl, by rw [← h]; exact h1⟩
  | .inr (.inr _), .inr (.inr _), _, hv => exact hv
def ck_leS (E : List ck_AV) (A : ck_AS) : List (ck_AV × Nat) → List (ck_AV × Nat) → Bool
  | [], [] => true
  | a :: S, b :: T => ck_leN E A a.1 b.1 && decide (b.2 = 0) && ck_leS E A S T
  | _, _ => false
theorem ck_leS_ok {ty : Nat → Option Nat} {X Y : Nat → Int} {E : List ck_AV} {A : ck_AS} {g : Nat → Int} (hEr : ck_Er E X) (hE : ∀ n, n % 2 = 0 → Y n = X n) (hO : ∀ v, Y (2 * v + 1) = g v) (hA : ∀ v r, ck_avOf A v = some r → ck_i X r (g v)) {lv lv' : List (Nat × Value)} {pvv : Nat → Int32} : ∀ {S T : List (ck_AV × Nat)} {st : List Value}, ck_leS E A S T = true → ck_st ty X lv pvv S st → ck_st ty Y lv' pvv T st
  | [], [], [], _, _ => True.intro
  | a :: S, b :: T, v :: st, h, hs => by
    simp only [ck_leS, Bool.and_eq_true, decide_eq_true_eq] at h
    refine ⟨⟨ck_leN_ok hEr hE hO hA h.1.1 hs.1.1, ?_⟩, ck_leS_ok hEr hE hO hA h.2 hs.2⟩
    rw [h.1.2]
    exact ck_src0
  | [], _ :: _, _, h, _ => by cases h
  | _ :: _, [], _, h, _ => by cases h
  | [], [], _ :: _, _, hs => hs.elim
  | _ :: _, _ :: _, [], _, hs => hs.elim
def ck_leL (E : List ck_AV) (A : ck_AS) (B : List (Nat × ck_AV)) : Bool := B.all (fun q => match ck_load A.1 q.1 with
  | some av => ck_leN E A av q.2
  | none => false)
theorem ck_leL_ok {ty : Nat → Option Nat} {X Y : Nat → Int} {E : List ck_AV} {A : ck_AS} {g : Nat → Int} (hEr : ck_Er E X) (hE : ∀ n, n % 2 = 0 → Y n = X n) (hO : ∀ v, Y (2 * v + 1) = g v) (hA : ∀ v r, ck_avOf A v = some r → ck_i X r (g v)) {lv : List (Nat × Value)} {ls : Array Slot} {nL : Nat} (hl : lv_has ls nL lv) (hL : ck_L ty X A.1 lv) : ∀ {B : List (Nat × ck_AV)}, ck_leL E A B = true → ∃ lv', lv_has ls nL lv' ∧ ck_L ty Y B lv'
  | [], _ => ⟨[], ⟨hl.1, hl.2.1, fun q h => nomatch h⟩, True.intro⟩
  | q :: B, h => by
    simp only [ck_leL, List.all_cons, Bool.and_eq_true] at h
    obtain ⟨lv', g1, g2⟩ := ck_leL_ok hEr hE hO hA hl hL (B := B) h.2
    have h1 := h.1
    split at h1
    · next av hav =>
      obtain ⟨v, k1, k2⟩ := ck_load_ok hL hav
      refine ⟨(q.1, v) :: lv', ⟨hl.1, hl.2.1, fun r hr => ?_⟩, ⟨rfl, ck_leN_ok hEr hE hO hA h1 k2⟩, g2⟩
      rcases List.mem_cons.mp hr with hr | hr
      · subst hr; exact hl.2.2 _ k1
      · exact g1.2.2 r hr
    · cases h1
def ck_leP (E : List ck_AV) (A : ck_AS) : List ck_AV → List ck_AV → Bool
  | _, [] => true
  | a :: P, b :: pr => ck_leN E A a b && ck_leP E A P pr
  | [], _ :: _ => false
theorem ck_leP_ok {ty : Nat → Option Nat} {X Y : Nat → Int} {E : List ck_AV} {A : ck_AS} {g : Nat → Int} (hEr : ck_Er E X) (hE : ∀ n, n % 2 = 0 → Y n = X n) (hO : ∀ v, Y (2 * v + 1) = g v) (hA : ∀ v r, ck_avOf A v = some r → ck_i X r (g v)) : ∀ {P pr : List ck_AV} {f : Nat → Int32}, ck_leP E A P pr = true → ck_pvo ty X P f → ck_pvo ty Y pr f
  | _, [], f, _, _ => fun j av h => by simp at h
  | a :: P, b :: pr, f, h, hp => by
    simp only [ck_leP, Bool.and_eq_true] at h
    intro j av hj
    match j, hj with
    | 0, hj => cases hj; exact ck_leN_ok hEr hE hO hA h.1 (hp 0 a rfl)
    | j + 1, hj => exact ck_leP_ok hEr hE hO hA (f := fun j => f (j + 1)) h.2 (fun i bv hi => hp (i + 1) bv hi) j av hj
  | [], _ :: _, f, h, _ => by cases h
def ck_annOK (A : ck_AS) : Bool := A.1.all (fun q => decide (q.1 < 1000))
theorem ck_resL {ty : Nat → Option Nat} {X : Nat → Int} {ls : Array Slot} {nL : Nat} {pvv : Nat → Int32} (hO : ∀ v, X (2 * v + 1) = ck_val ls pvv v) : ∀ {B : List (Nat × ck_AV)} {lv : List (Nat × Value)}, lv_has ls nL lv → B.all (fun q => decide (q.1 < 1000)) = true → ck_L ty X B lv → ck_L ty X (B.map (fun q => (q.1, ck_addc q.2 (2 * q.1 + 1)))) lv
  | [], [], _, _, _ => True.intro
  | q :: B, r :: lv, hl, he, hL => by
    simp only [List.all_cons, Bool.and_eq_true, decide_eq_true_eq] at he
    refine ⟨⟨hL.1.1, ?_⟩, ck_resL hO ⟨hl.1, hl.2.1, fun z hz => hl.2.2 z (List.mem_cons_of_mem _ hz)⟩ he.2 hL.2⟩
    refine ck_addc_ok hL.1.2 (fun x e => ?_)
    have h1 := hl.2.2 r List.mem_cons_self
    rw [e, ← hL.1.1] at h1
    rw [hO]
    unfold ck_val ck_lval
    rw [if_pos he.1, h1]
/-! what falls -/
def ck_rkv (f : Nat → Int) : List (Nat × Int) → Int
  | [] => 0
  | q :: r => q.2 * f q.1 + ck_rkv f r
def ck_ubs (A : ck_AS) : List (Nat × Int) → Option Int
  | [] => some 0
  | q :: r => match ck_avOf A q.1, ck_ubs A r with
    | some z, some u => some (max (q.2 * z.1) (q.2 * z.2.1) + u)
    | _, _ => none
def ck_lbs (A : ck_AS) : List (Nat × Int) → Option Int
  | [] => some 0
  | q :: r => match ck_avOf A q.1, ck_lbs A r with
    | some z, some u => some (min (q.2 * z.1) (q.2 * z.2.1) + u)
    | _, _ => none
def ck_dd2 (B A : ck_AS) (rs rt : List (Nat × Int)) : Option Int := match ck_ubs A rt, ck_lbs B rs with
  | some u, some w => some (u - w)
  | _, _ => none
def ck_dd (B A : ck_AS) : List (Nat × Int) → List (Nat × Int) → Option Int
  | q :: rs, r :: rt => if q = r then (match ck_avOf A q.1 with
      | some z => (match z.2.2.find? (fun d => d.1 == 2 * q.1 + 1), ck_dd B A rs rt with
          | some d, some u => some (max (q.2 * d.2.1) (q.2 * d.2.2) + u)
          | _, _ => ck_dd2 B A (q :: rs) (r :: rt))
      | none => none) else ck_dd2 B A (q :: rs) (r :: rt)
  | rs, rt => ck_dd2 B A rs rt
theorem ck_ubs_ok {A : ck_AS} {f : Nat → Int} (hA : ∀ v r, ck_avOf A v = some r → r.1 ≤ f v ∧ f v ≤ r.2.1) : ∀ {rt : List (Nat × Int)} {u : Int}, ck_ubs A rt = some u → ck_rkv f rt ≤ u
  | [], u, h => by cases h; exact Int.le_refl _
  | q :: r, u, h => by
    unfold ck_ubs at h
    split at h
    · next z w hz hw =>
      cases h
      have h1 := ck_ubs_ok hA hw
      have h2 := ck_mb (c := q.2) (hA _ _ hz).1 (hA _ _ hz).2
      unfold ck_rkv
      omega
    · cases h
theorem ck_lbs_ok {A : ck_AS} {f : Nat → Int} (hA : ∀ v r, ck_avOf A v = some r → r.1 ≤ f v ∧ f v ≤ r.2.1) : ∀ {rt : List (Nat × Int)} {u : Int}, ck_lbs A rt = some u → u ≤ ck_rkv f rt
  | [], u, h => by cases h; exact Int.le_refl _
  | q :: r, u, h => by
    unfold ck_lbs at h
    split at h
    · next z w hz hw =>
      cases h
      have h1 := ck_lbs_ok hA hw
      have h2 := ck_mb (c := q.2) (hA _ _ hz).1 (hA _ _ hz).2
      unfold ck_rkv
      omega
    · cases h
theorem ck_dd2_ok {B A : ck_AS} {f g : Nat → Int} (hB : ∀ v r, ck_avOf B v = some r → r.1 ≤ f v ∧ f v ≤ r.2.1) (hA : ∀ v r, ck_avOf A v = some r → r.1 ≤ g v ∧ g v ≤ r.2.1) {rs rt : List (Nat × Int)} {u : Int} (h : ck_dd2 B A rs rt = some u) : ck_rkv g rt - ck_rkv f rs ≤ u := by
  unfold ck_dd2 at h
  split at h
  · next a b ha hb =>
    cases h
    have h1 := ck_ubs_ok hA ha
    have h2 := ck_lbs_ok hB hb
    omega
  · cases h
theorem ck_dd_ok {B A : ck_AS} {f g : Nat → Int} (hB : ∀ v r, ck_avOf B v = some r → r.1 ≤ f v ∧ f v ≤ r.2.1) (hA : ∀ v r, ck_avOf A v = some r → (r.1 ≤ g v ∧ g v ≤ r.2.1) ∧ ∀ d ∈ r.2.2, d.1 = 2 * v + 1 → d.2.1 ≤ g v - f v ∧ g v - f v ≤ d.2.2) : ∀ {rs rt : List (Nat × Int)} {u : Int}, ck_dd B A rs rt = some u → ck_rkv g rt - ck_rkv f rs ≤ u
  | [], rt, u, h => ck_dd2_ok hB (fun v r hv => (hA v r hv).1) (by cases rt <;> exact h)
  | q :: rs, [], u, h => ck_dd2_ok hB (fun v r hv => (hA v r hv).1) h
  | q :: rs, r :: rt, u, h => by
    unfold ck_dd at h
    split at h
    · next e =>
      subst e
      split at h
      · next z hz =>
        split at h
        · next d w hd hw =>
          cases h
          have h1 := ck_dd_ok hB hA hw
          have h2 := List.find?_some hd
          have h3 := (hA _ _ hz).2 d (List.mem_of_find?_eq_some hd) (by simpa using h2)
          have h4 := ck_mb (c := q.2) h3.1 h3.2
          unfold ck_rkv
          have h5 : q.2 * (g q.1 - f q.1) = q.2 * g q.1 - q.2 * f q.1 := Int.mul_sub _ _ _
          omega
        · exact ck_dd2_ok hB (fun v r hv => (hA v r hv).1) h
      · cases h
    · exact ck_dd2_ok hB (fun v r hv => (hA v r hv).1) h
def ck_dec (rs : ck_Rk) (B A : ck_AS) (rt : ck_Rk) : Bool := match ck_dd B A rs.2 rt.2 with
  | some u => decide (rt.1 - rs.1 + u ≤ -1)
  | none => false
def ck_run (tg : List ck_TD) (pvT : List (Nat × Nat)) (prot : Nat → List (Nat × Nat)) (LK : Nat → Nat → Option ck_En) (tab : Nat → ck_K) (bd : Nat) (k : ck_K) (rs : ck_Rk) (B : ck_AS) : Nat → Nat → ck_AS → Bool
  | 0, _, _ => false
  | n + 1, pc, A => (k_an k).any (fun a => decide (a.1 = pc) && ck_leL (k_pr k) A a.2.1.1 && ck_leS (k_pr k) A A.2.1 a.2.1.2.1 && ck_leP (k_pr k) A A.2.2 a.2.1.2.2 && ck_dec rs B A a.2.2) || (match decode (k_cc k) pc with
      | .ok (i, len) => match ck_step tg pvT prot LK tab bd k pc i len A with
        | some o => o.all (fun q => ck_run tg pvT prot LK tab bd k rs B n q.1 q.2)
        | none => false
      | _ => false)
def ck_entL : List ck_AV → Nat → List (Nat × ck_AV)
  | [], _ => []
  | a :: r, n => (n, ck_addc a (2 * n)) :: ck_entL r (n + ck_cat a)
def ck_entry (k : ck_K) : ck_AS := (ck_entL (k_pa k) 0, [], ck_addP (k_pr k) 2000)
def ck_top : ck_Rk := (1000000000000, [])
def ck_one (tg : List ck_TD) (pvT : List (Nat × Nat)) (prot : Nat → List (Nat × Nat)) (LK : Nat → Nat → Option ck_En) (tab : Nat → ck_K) (bd : Nat) (k : ck_K) (fuel : Nat) (a : ck_An) : Bool := ck_annOK a.2.1 && (match ck_lbs a.2.1 a.2.2.2 with
    | some u => decide (0 ≤ a.2.2.1 + u)
    | none => false) && (match decode (k_cc k) a.1 with
      | .ok (i, len) => match ck_step tg pvT prot LK tab bd k a.1 i len (ck_res a.2.1) with
        | some o => o.all (fun q => ck_run tg pvT prot LK tab bd k a.2.2 (ck_res a.2.1) fuel q.1 q.2)
        | none => false
      | _ => false)
def ck_check (tg : List ck_TD) (pvT : List (Nat × Nat)) (prot : Nat → List (Nat × Nat)) (LK : Nat → Nat → Option ck_En) (tab : Nat → ck_K) (bd : Nat) (k : ck_K) (fuel : Nat) : Bool :=
  decide (((k_pa k).map ck_cat).sum ≤ k_ml k) && decide (k_ml k < 900) && (k_pa k).all (fun a => ck_le (ck_nod a) a) && (k_pr k).all ck_ev && ck_run tg pvT prot LK tab bd k ck_top ([], [], []) fuel 0 (ck_entry k) && (k_an k).all (ck_one tg pvT prot LK tab bd k fuel)
section CK11
variable {p : Program} {l : Launch} {e : Env} {R : Room} {s : State} {m : MethodId} {args : Array Value} {below : List Frame} {meth : Method} {c : Code} {H H0 : Heap} {locs : List Loc} {Q : State → Prop} {cc : ByteArray} {pc len : Nat} {ls : Array Slot} {st : List Value}
variable {D : va_G} {cys : Nat → ClassId} {ty : Nat → Option Nat} {tg : List ck_TD} {pvT : List (Nat × Nat)} {prot : Nat → List (Nat × Nat)} {Ex : va_W → Prop} {pvv : Nat → Int32} {Ts : List Jvm.Cond} {LK : Nat → Nat → Option ck_En} {o nL : Nat} {X : Nat → Int} {A : ck_AS} {out : List (Nat × ck_AS)} {i : Instr}
variable {tab : Nat → ck_K} {bd : Nat} {k : ck_K} {vs : List Value} {pvv0 : Nat → Int32}
theorem ck_avOf_ok (hsat : ck_sat D cys ty tg pvT Ex nL H0 X A ls st pvv H locs) {v : Nat} {r : ck_I} (h : ck_avOf A v = some r) : ck_i X r (ck_val ls pvv v) := by
  obtain ⟨lv, h1, h2, h3, h4, h5, h6⟩ := hsat
  unfold ck_avOf at h
  split at h
  · next hv =>
    split at h
    · next q hq =>
      cases h
      obtain ⟨w, g1, x, rfl, g2⟩ := ck_load_ok h2 hq
      have h7 := h1.2.2 _ g1
      dsimp only at h7
      unfold ck_val ck_lval
      rw [if_pos hv, h7]
      exact g2
    · cases h
  · next hv =>
    split at h
    · next q hq =>
      cases h
      obtain ⟨x, e, g2⟩ := h4 _ _ hq
      cases e
      unfold ck_val
      rw [if_neg hv]
      exact g2
    · cases h
/-- a state at a place, and what holds there -/
theorem ck_run_ok (C : ck_Ctx l D cys ty tg pvT prot Ex LK tab bd) (B : ck_At p s m args meth c D cys k) (hR : R = ck_rm k) (h0 : ck_X0 (k_pa k) vs pvv0 X) (hpr : ck_pvo ty (ck_XE pvv0) (k_pr k) pvv0) (ha : ck_args ty (k_pa k) vs) {rs : ck_Rk} {Bs : ck_AS} {f : Nat → Int} {nn : Nat} (hf : ∀ v, X (2 * v + 1) = f v) (hBs : ∀ v r, ck_avOf Bs v = some r → r.1 ≤ f v ∧ f v ≤ r.2.1) (hrk : rs.1 + ck_rkv f rs.2 ≤ nn)
    (IH : ∀ (a : ck_An), a ∈ k_an k → ∀ (Y : Nat → Int) (ls' : Array Slot) (st' : List Value) (pvv' : Nat → Int32) (H' : Heap) (locs' : List Loc), ck_X0 (k_pa k) vs pvv0 Y → (∀ v, Y (2 * v + 1) = ck_val ls' pvv' v) → ck_sat D cys ty tg pvT Ex (k_ml k) s.heap Y a.2.1 ls' st' pvv' H' locs' → a.2.2.1 + ck_rkv (ck_val ls' pvv') a.2.2.2 < nn → W p l e R s m args below meth c H' locs' 0 0 (MQ below (ck_Qc D cys ty tg pvT Ex k vs pvv0) args s 0 0 (ck_own ty)) (F0 m a.1 ls' st')) :
    ∀ {fuel pc : Nat} {A : ck_AS} {ls : Array Slot} {st : List Value} {pvv : Nat → Int32} {H : Heap} {locs : List Loc}, ck_run tg pvT prot LK tab bd k rs Bs fuel pc A = true → ck_sat D cys ty tg pvT Ex (k_ml k) s.heap X A ls st pvv H locs → W p l e R s m args below meth c H locs 0 0 (MQ below (ck_Qc D cys ty tg pvT Ex k vs pvv0) args s 0 0 (ck_own ty)) (F0 m pc ls st)
  | 0, pc, A, ls, st, pvv, H, locs, h, hsat => by cases h
  | n + 1, pc, A, ls, st, pvv, H, locs, h, hsat => by
    have hstep : (match decode (k_cc k) pc with
      | .ok (i, len) => match ck_step tg pvT prot LK tab bd k pc i len A with
        | some o => o.all (fun q => ck_run tg pvT prot LK tab bd k rs Bs n q.1 q.2)
        | none => false
      | _ => false) = true → W p l e R s m args below meth c H locs 0 0 (MQ below (ck_Qc D cys ty tg pvT Ex k vs pvv0) args s 0 0 (ck_own ty)) (F0 m pc ls st) := by
      intro h
      split at h
      · next i len hd =>
        split at h
        · next o ho =>
          refine ck_step_ok C B hR h0 hpr ha ho hd hsat (fun q hq ls' st' pvv' H' locs' hs' => ?_)
          exact ck_run_ok C B hR h0 hpr ha hf hBs hrk IH (List.all_eq_true.mp h q hq) hs'
        · cases h
      · cases h
    unfold ck_run at h
    refine (Bool.or_eq_true _ _ ▸ h : _ ∨ _).elim (fun h => ?_) hstep
    · obtain ⟨q, hq, h⟩ := List.any_eq_true.mp h
      simp only [Bool.and_eq_true, decide_eq_true_eq] at h
      obtain ⟨⟨⟨⟨c0, c1⟩, c2⟩, c3⟩, c4⟩ := h
      subst c0
      unfold ck_dec at c4
      split at c4
      · next u hu =>
        have c4 := of_decide_eq_true c4
        have h7 := ck_dd_ok (f := f) (g := ck_val ls pvv) hBs (fun v r hv => ⟨⟨(ck_avOf_ok hsat hv).1, (ck_avOf_ok hsat hv).2.1⟩, fun d hd e => by
          have := (ck_avOf_ok hsat hv).2.2 d hd
          rw [e, hf v] at this
          exact this⟩) hu
        have hE : ∀ n, n % 2 = 0 → ck_Xn X ls pvv n = X n := fun n hn => by simp [ck_Xn, hn]
        have hO : ∀ v, ck_Xn X ls pvv (2 * v + 1) = ck_val ls pvv v := fun v => by
          unfold ck_Xn
          rw [if_neg (by omega), show (2 * v + 1) / 2 = v by omega]
        have hA : ∀ v r, ck_avOf A v = some r → ck_i X r (ck_val ls pvv v) := fun v r hv => ck_avOf_ok hsat hv
        have hEr : ck_Er (k_pr k) X := ck_Er_of (pa := k_pa k) (vs := vs) h0.2 hpr
        obtain ⟨lv, h1, h2, h3, h4, h5, h6⟩ := hsat
        obtain ⟨lv', g1, g2⟩ := ck_leL_ok hEr hE hO hA h1 h2 c1
        have h0' : ck_X0 (k_pa k) vs pvv0 (ck_Xn X ls pvv) := ⟨fun i x hx => by rw [hE _ (by omega)]; exact h0.1 i x hx, fun j => by rw [hE _ (by omega)]; exact h0.2 j⟩
        exact IH q hq (ck_Xn X ls pvv) ls st pvv H locs h0' hO ⟨lv', g1, g2, ck_leS_ok hEr hE hO hA c2 h3, ck_leP_ok hEr hE hO hA c3 h4, h5, h6⟩ (by omega)
      · cases c4
end CK11

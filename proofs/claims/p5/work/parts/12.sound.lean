/-! THE CHECKER, 11: a clean check is a contract. -/
theorem ck_args_in {ty : Nat → Option Nat} : ∀ {pa : List ck_AV} {vs : List Value} {n i : Nat} {v : Value}, ck_args ty pa vs → vs[n]? = some v → (i + ck_li pa n, v) ∈ lv_args i vs
  | [], [], n, i, v, _, h => by simp at h
  | a :: pa, w :: vs, 0, i, v, ha, h => by
    cases h
    exact List.mem_cons_self
  | a :: pa, w :: vs, n + 1, i, v, ha, h => by
    have ih := ck_args_in (i := if w.category = 2 then i + 2 else i + 1) ha.2 (n := n) h
    have e : i + ck_li (a :: pa) (n + 1) = (if w.category = 2 then i + 2 else i + 1) + ck_li pa n := by
      have h1 := ck_v_cat ha.1
      have h2 : ck_cat a = 1 ∨ ck_cat a = 2 := by
        match a with
        | .inl _ => exact Or.inl rfl
        | .inr (.inl _) => exact Or.inl rfl
        | .inr (.inr _) => exact Or.inr rfl
      simp only [ck_li, List.take_succ_cons, List.map_cons, List.sum_cons]
      rw [h1]
      rcases h2 with h2 | h2 <;> rw [h2] <;> simp <;> omega
    rw [e]
    exact List.mem_cons_of_mem _ ih
  | [], _ :: _, _, _, _, ha, _ => ha.elim
  | _ :: _, [], _, _, _, ha, _ => ha.elim
theorem ck_sl_len {ty : Nat → Option Nat} : ∀ {pa : List ck_AV} {vs : List Value}, ck_args ty pa vs → (lg_sl vs).length = (pa.map ck_cat).sum
  | [], [], _ => rfl
  | a :: pa, v :: vs, h => by
    have ih := ck_sl_len h.2
    have h1 := ck_v_cat h.1
    simp only [lg_sl, List.flatMap_cons, List.length_append, List.map_cons, List.sum_cons] at ih ⊢
    rw [ih, h1]
    have h2 : ck_cat a = 1 ∨ ck_cat a = 2 := by
      match a with
      | .inl _ => exact Or.inl rfl
      | .inr (.inl _) => exact Or.inl rfl
      | .inr (.inr _) => exact Or.inr rfl
    rcases h2 with h2 | h2 <;> rw [h2] <;> simp
  | [], _ :: _, ha => ha.elim
  | _ :: _, [], ha => ha.elim
theorem ck_entL_ok {ty : Nat → Option Nat} {X : Nat → Int} : ∀ {pa : List ck_AV} {vs : List Value} {i : Nat}, ck_args ty pa vs → pa.all (fun a => ck_le (ck_nod a) a) = true → (∀ q ∈ lv_args i vs, ∀ x : Int32, q.2 = .int x → X (2 * q.1) = x.toInt) → ck_L ty X (ck_entL pa i) (lv_args i vs)
  | [], [], i, _, _, _ => True.intro
  | a :: pa, v :: vs, i, ha, hn, hx => by
    simp only [List.all_cons, Bool.and_eq_true] at hn
    have h1 := ck_v_cat ha.1
    have h2 : ck_cat a = 1 ∨ ck_cat a = 2 := by
      match a with
      | .inl _ => exact Or.inl rfl
      | .inr (.inl _) => exact Or.inl rfl
      | .inr (.inr _) => exact Or.inr rfl
    have e : (if v.category = 2 then i + 2 else i + 1) = i + ck_cat a := by
      rw [h1]
      rcases h2 with h2 | h2 <;> rw [h2] <;> simp
    have hx' : ∀ q ∈ lv_args (i + ck_cat a) vs, ∀ x : Int32, q.2 = .int x → X (2 * q.1) = x.toInt := by
      intro q hq x hqx
      refine hx q ?_ x hqx
      unfold lv_args
      rw [e]
      exact List.mem_cons_of_mem _ hq
    have ih := ck_entL_ok (i := i + ck_cat a) ha.2 hn.2 hx'
    unfold ck_entL lv_args
    rw [e]
    refine ⟨⟨rfl, ?_⟩, ih⟩
    exact ck_addc_ok (ck_le_ok hn.1 (ck_nod_ok ha.1)) (fun x hv => hx (i, v) (by unfold lv_args; exact List.mem_cons_self) x hv)
  | [], _ :: _, _, ha, _, _ => ha.elim
  | _ :: _, [], _, ha, _, _ => ha.elim
section CK12
variable {p : Program} {l : Launch} {e : Env} {R : Room} {s : State} {m : MethodId} {args : Array Value} {below : List Frame} {meth : Method} {c : Code} {H H0 : Heap} {locs : List Loc} {Q : State → Prop} {cc : ByteArray} {pc len : Nat} {ls : Array Slot} {st : List Value}
variable {D : va_G} {cys : Nat → ClassId} {ty : Nat → Option Nat} {tg : List ck_TD} {pvT : List (Nat × Nat)} {prot : Nat → List (Nat × Nat)} {Ex : va_W → Prop} {pvv : Nat → Int32} {Ts : List Jvm.Cond} {LK : Nat → Nat → Option ck_En} {o nL : Nat} {X : Nat → Int} {A : ck_AS} {out : List (Nat × ck_AS)} {i : Instr}
variable {tab : Nat → ck_K} {bd : Nat} {k : ck_K} {vs : List Value} {pvv0 : Nat → Int32}
theorem ck_res_ok (he : ck_annOK A = true) (hO : ∀ v, X (2 * v + 1) = ck_val ls pvv v) (hsat : ck_sat D cys ty tg pvT Ex nL H0 X A ls st pvv H locs) : ck_sat D cys ty tg pvT Ex nL H0 X (ck_res A) ls st pvv H locs := by
  obtain ⟨lv, h1, h2, h3, h4, h5, h6⟩ := hsat
  refine ⟨lv, h1, ck_resL hO h1 he h2, h3, ck_addP_ok h4 (fun j => ?_), h5, h6⟩
  rw [show 2001 + 2 * j = 2 * (1000 + j) + 1 by omega, hO]
  unfold ck_val
  rw [if_neg (by omega), Nat.add_sub_cancel_left]
theorem ck_places (C : ck_Ctx l D cys ty tg pvT prot Ex LK tab bd) (B : ck_At p s m args meth c D cys k) (hR : R = ck_rm k) (hpr : ck_pvo ty (ck_XE pvv0) (k_pr k) pvv0) (ha : ck_args ty (k_pa k) vs) {fuel : Nat} (hall : (k_an k).all (ck_one tg pvT prot LK tab bd k fuel) = true) :
    ∀ (nn : Nat) (a : ck_An), a ∈ k_an k → ∀ (Y : Nat → Int) (ls' : Array Slot) (st' : List Value) (pvv' : Nat → Int32) (H' : Heap) (locs' : List Loc), ck_X0 (k_pa k) vs pvv0 Y → (∀ v, Y (2 * v + 1) = ck_val ls' pvv' v) → ck_sat D cys ty tg pvT Ex (k_ml k) s.heap Y a.2.1 ls' st' pvv' H' locs' → a.2.2.1 + ck_rkv (ck_val ls' pvv') a.2.2.2 < nn → W p l e R s m args below meth c H' locs' 0 0 (MQ below (ck_Qc D cys ty tg pvT Ex k vs pvv0) args s 0 0 (ck_own ty)) (F0 m a.1 ls' st') := by
  intro nn
  induction nn with
  | zero =>
    intro a hm Y ls' st' pvv' H' locs' h0 hO hsat hr
    have h1 := List.all_eq_true.mp hall a hm
    simp only [ck_one, Bool.and_eq_true] at h1
    have h2 := h1.1.2
    split at h2
    · next u hu =>
      have h2 := of_decide_eq_true h2
      have h3 := ck_lbs_ok (f := ck_val ls' pvv') (fun v r hv => ⟨(ck_avOf_ok hsat hv).1, (ck_avOf_ok hsat hv).2.1⟩) hu
      omega
    · cases h2
  | succ n ih =>
    intro a hm Y ls' st' pvv' H' locs' h0 hO hsat hr
    have h1 := List.all_eq_true.mp hall a hm
    simp only [ck_one, Bool.and_eq_true] at h1
    have h2 := h1.2
    have hs := ck_res_ok h1.1.1 hO hsat
    split at h2
    · next i len hd =>
      split at h2
      · next o hq =>
        refine ck_step_ok C B hR h0 hpr ha hq hd hs (fun q hqm ls2 st2 pvv2 H2 locs2 hs2 => ?_)
        exact ck_run_ok C B hR h0 hpr ha (rs := a.2.2) (Bs := ck_res a.2.1) (f := ck_val ls' pvv') (nn := n) hO (fun v r hv => ⟨(ck_avOf_ok hs hv).1, (ck_avOf_ok hs hv).2.1⟩) (by omega) ih (List.all_eq_true.mp h2 q hqm) hs2
      · cases h2
    · cases h2
theorem ck_sound (C : ck_Ctx l D cys ty tg pvT prot Ex LK tab bd) (hy : plainName (k_y k).cls = true) (ho : ck_R (k_ow k) = (k_y k).cls) {fuel : Nat} (h : ck_check tg pvT prot LK tab bd k fuel = true) : ck_Holds l D cys ty tg pvT Ex k := by
  simp only [ck_check, Bool.and_eq_true, decide_eq_true_eq] at h
  obtain ⟨⟨⟨⟨⟨g1, g2⟩, g3⟩, g4⟩, g5⟩, g6⟩ := h
  intro vs pvv0 ha hpre
  refine Met.ofW (cc := k_cc k) (maxL := k_ml k) (ret := k_rt k) hy rfl ?_
  intro p e s m args below meth c s₁ B hml hv
  obtain ⟨rfl, hW, hK, hN⟩ := hv
  have hts := atoms_spec (ws := ck_ws k) B.pre
  have hown : s.vm.findClass (ck_R (k_ow k)) = some m.cls := by rw [ho]; exact findClass_of_methodNamed B.named
  have hlen := ck_sl_len ha
  have hl := lv_entry vs (n := k_ml k) (by rw [hlen]; exact g1)
  rw [lg_entry_eq]
  generalize (lg_sl vs ++ List.replicate (k_ml k - (lg_sl vs).length) Slot.unset).toArray = ls at hl ⊢
  have hAt : ck_At p s m vs.toArray meth c D cys k := ⟨B.exec, B.bytes, hml, B.returns, B.notSynchronized, hts, hown, hK, hN⟩
  have hlt : ∀ q ∈ lv_args 0 vs, q.1 < 1000 := by
    intro q hq
    have h1 := lv_lt (hl.2.2 q hq)
    have h2 := hl.1
    omega
  have hX : ∀ q ∈ lv_args 0 vs, ∀ x : Int32, q.2 = .int x → ck_val ls pvv0 (2 * q.1 / 2) = x.toInt := by
    intro q hq x hx
    have h1 := hl.2.2 q hq
    rw [hx] at h1
    rw [show 2 * q.1 / 2 = q.1 by omega]
    unfold ck_val ck_lval
    rw [if_pos (hlt q hq), h1]
  have h0 : ck_X0 (k_pa k) vs pvv0 (fun n => ck_val ls pvv0 (n / 2)) := by
    refine ⟨fun n x hx => ?_, fun j => ?_⟩
    · have h1 := ck_args_in (i := 0) ha hx
      rw [Nat.zero_add] at h1
      exact hX _ h1 x rfl
    · dsimp only
      rw [show 2 * (1000 + j) / 2 = 1000 + j by omega]
      unfold ck_val
      rw [if_neg (by omega), Nat.add_sub_cancel_left]
  have hsat : ck_sat D cys ty tg pvT Ex (k_ml k) s.heap (fun n => ck_val ls pvv0 (n / 2)) (ck_entry k) ls [] pvv0 s.heap [] := by
    refine ⟨lv_args 0 vs, hl, ck_entL_ok ha g3 hX, True.intro, ck_addP_ok (fun j av hj => ?_) (fun j => ?_), hW, va_S.rf⟩
    · have h1 := hpre j av hj
      have h2 := List.all_eq_true.mp g4 av (List.mem_of_getElem? hj)
      match av, h1, h2 with
      | .inl r, h1, h2 =>
        obtain ⟨x, e, a1, a2, a3⟩ := h1
        refine ⟨x, e, a1, a2, fun d hd => ?_⟩
        have h3 := List.all_eq_true.mp h2 d hd
        simp only [Bool.and_eq_true, decide_eq_true_eq] at h3
        have h4 := a3 d hd
        have h5 : ck_val ls pvv0 (d.1 / 2) = ck_XE pvv0 d.1 := by
          unfold ck_val ck_XE
          rw [if_neg (by omega)]
        rw [← h5] at h4
        exact h4
      | .inr (.inl t), h1, _ => exact h1
      | .inr (.inr u), h1, _ => exact h1
    · rw [show (2000 + 2 * j) / 2 = 1000 + j by omega]
      unfold ck_val
      rw [if_neg (by omega), Nat.add_sub_cancel_left]
  refine ck_run_ok C hAt rfl h0 hpre ha (rs := ck_top) (Bs := ([], [], [])) (f := fun v => ck_val ls pvv0 ((2 * v + 1) / 2)) (nn := 1000000000000) (fun v => rfl) (fun v r hv => ?_) (by simp [ck_top, ck_rkv]) (ck_places C hAt rfl hpre ha g6 1000000000000) g5 hsat
  unfold ck_avOf at hv
  split at hv
  · simp [ck_load] at hv
  · simp at hv
end CK12

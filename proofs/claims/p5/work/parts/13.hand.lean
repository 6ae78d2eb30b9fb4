/-! BY HAND, 1: entering a method, reading and writing an opened world, calling by contract, ending. -/
section CM
variable {p : Program} {l : Launch} {e : Env} {R : Room} {s : State} {m : MethodId} {args : Array Value} {below : List Frame} {meth : Method} {c : Code} {H H0 : Heap} {locs : List Loc} {Q : State → Prop} {cc : ByteArray} {pc len : Nat} {ls : Array Slot} {st : List Value}
variable {D : va_G} {cys : Nat → ClassId} {ty : Nat → Option Nat} {tg : List ck_TD} {pvT : List (Nat × Nat)} {prot : Nat → List (Nat × Nat)} {Ex : va_W → Prop} {pvv : Nat → Int32} {Ts : List Jvm.Cond} {LK : Nat → Nat → Option ck_En} {o nL : Nat} {X : Nat → Int} {A : ck_AS} {out : List (Nat × ck_AS)} {i : Instr}
variable {tab : Nat → ck_K} {bd : Nat} {k : ck_K} {vs : List Value} {pvv0 : Nat → Int32} {ws : va_W} {rest : List Value}
theorem cm_enter (hy : plainName (k_y k).cls = true) (ho : ck_R (k_ow k) = (k_y k).cls) (g1 : ((k_pa k).map ck_cat).sum ≤ k_ml k)
    (h : ∀ (vs : List Value) (pvv0 : Nat → Int32) (p : Program) (e : Env) (s : State) (m : MethodId) (below : List Frame) (meth : Method) (c : Code) (ls : Array Slot), ck_args ty (k_pa k) vs → ck_pvo ty (ck_XE pvv0) (k_pr k) pvv0 → ck_At p s m vs.toArray meth c D cys k → lv_has ls (k_ml k) (lv_args 0 vs) → ck_Wo D cys ty tg pvT Ex pvv0 s.heap → W p l e (ck_rm k) s m vs.toArray below meth c s.heap [] 0 0 (MQ below (ck_Qc D cys ty tg pvT Ex k vs pvv0) vs.toArray s 0 0 (ck_own ty)) (F0 m 0 ls [])) : ck_Holds l D cys ty tg pvT Ex k := by
  intro vs pvv0 ha hpre
  refine Met.ofW (cc := k_cc k) (maxL := k_ml k) (ret := k_rt k) hy rfl ?_
  intro p e s m args below meth c s₁ B hml hv
  obtain ⟨rfl, hW, hK, hN⟩ := hv
  have hts := atoms_spec (ws := ck_ws k) B.pre
  have hown : s.vm.findClass (ck_R (k_ow k)) = some m.cls := by rw [ho]; exact findClass_of_methodNamed B.named
  have hlen := ck_sl_len ha
  have hl := lv_entry vs (n := k_ml k) (by rw [hlen]; exact g1)
  rw [lg_entry_eq]
  generalize (lg_sl vs ++ List.replicate (k_ml k - (lg_sl vs).length) Slot.unset).toArray = ls at hl ⊢
  exact h vs pvv0 p e s m below meth c ls ha hpre ⟨B.exec, B.bytes, hml, B.returns, B.notSynchronized, hts, hown, hK, hN⟩ hl hW
theorem cm_get (B : ck_At p s m args meth c D cys k) (hLK : ck_LKf LK) (hb : c.code = cc) (hP : va_P D ck_cl ws H) {q a ci j cd index : Nat} {fs : List Value} (hq : ws[q]? = some (a, .inr (ci, fs))) (hl : LK (k_ow k) index = some (.inl (ci, j, cd))) {v : Value} (hv : fs[j]? = some v) (hdg : decode cc pc = .ok (.getfield index, 3))
    (kk : W p l e R s m args below meth c H locs 0 0 Q (F0 m (pc + 3) ls (v :: rest))) : W p l e R s m args below meth c H locs 0 0 Q (F0 m pc ls (.ref a :: rest)) := by
  obtain ⟨B1, B2, B3, B4, B5, B6, B7, B8, B9⟩ := B
  obtain ⟨⟨C, T, N⟩, h1, h2, h3, -⟩ := hLK _ _ _ _ _ hl
  have hin : ∀ w ∈ wsL_law0, w ∈ ck_ws k := fun w hw => List.mem_cons_of_mem _ hw
  exact va_get (own := ck_R (k_ow k)) (ref := (T j).1) B1 hb B6 (fun w h => hin w ((ck_cl_ok h1).1 w h)) B7 B8 hP q hq h1 j h2 (B6 _ (hin _ h3)) (fun _ h => h) hv hdg kk
theorem cm_put (B : ck_At p s m args meth c D cys k) (hLK : ck_LKf LK) (hb : c.code = cc) (hP : va_P D ck_cl ws H) {Ap : Nat → Prop} (hD : va_D Ap ws) (hS : va_S Ap H0 H locs) {q a ci j cd index : Nat} {fs : List Value} (hq : ws[q]? = some (a, .inr (ci, fs))) (hl : LK (k_ow k) index = some (.inl (ci, j, cd))) {x : Int32} (hcd : cd = 0 ∨ cd = 1 ∧ 0 ≤ x.toInt ∧ x.toInt ≤ 1) (hjl : j < fs.length) (hdg : decode cc pc = .ok (.putfield index, 3))
    (kk : ∀ (H1 : Heap) (locs1 : List Loc), va_P D ck_cl (ws.set q (a, .inr (ci, fs.set j (.int x)))) H1 → va_D Ap (ws.set q (a, .inr (ci, fs.set j (.int x)))) → va_S Ap H0 H1 locs1 → W p l e R s m args below meth c H1 locs1 0 0 Q (F0 m (pc + 3) ls rest)) : W p l e R s m args below meth c H locs 0 0 Q (F0 m pc ls (.int x :: .ref a :: rest)) := by
  obtain ⟨B1, B2, B3, B4, B5, B6, B7, B8, B9⟩ := B
  obtain ⟨⟨C, T, N⟩, h1, h2, h3, h4, h5, -⟩ := hLK _ _ _ _ _ hl
  obtain ⟨k1, ⟨ty0, k2⟩, k3⟩ := ck_cl_ok h1
  have hin : ∀ w ∈ wsL_law0, w ∈ ck_ws k := fun w hw => List.mem_cons_of_mem _ hw
  rcases hcd with rfl | ⟨rfl, b1, b2⟩
  · exact va_put (own := ck_R (k_ow k)) (ref := (T j).1) B1 hb B6 (fun w h => hin w (k1 w h)) ty0 k2 k3 B7 B8 hP hD hS q hq h1 j h2 (B6 _ (hin _ h3)) (fun _ h => h) (h4 rfl).1 (h4 rfl).2 rfl rfl hjl hdg kk
  · exact va_put (own := ck_R (k_ow k)) (ref := (T j).1) B1 hb B6 (fun w h => hin w (k1 w h)) ty0 k2 k3 B7 B8 hP hD hS q hq h1 j h2 (B6 _ (hin _ h3)) (fun _ h => h) (h5 rfl).1 (h5 rfl).2 (ck_nbool ⟨b1, b2⟩).1 (ck_nbool ⟨b1, b2⟩).2 hjl hdg kk
theorem cm_iald (B : ck_At p s m args meth c D cys k) (hb : c.code = cc) (hP : va_P D ck_cl ws H) {q a n : Nat} {f : Nat → Int32} (hq : ws[q]? = some (a, .inl (cys 0, n, .inl f))) {x : Int32} (h0 : 0 ≤ x.toInt) (h1 : x.toInt < n) (hdg : decode cc pc = .ok (.iaload, 1))
    (kk : W p l e R s m args below meth c H locs 0 0 Q (F0 m (pc + 1) ls (.int (f x.toInt.toNat) :: rest))) : W p l e R s m args below meth c H locs 0 0 Q (F0 m pc ls (.int x :: .ref a :: rest)) :=
  va_iald B.1 hb B.2.2.2.2.2.2.2.1 hP q 0 hq rfl (ck_vin h0 h1) hdg (by rw [ck_cl0 h0]; exact kk)
theorem cm_iast (B : ck_At p s m args meth c D cys k) (hb : c.code = cc) (hP : va_P D ck_cl ws H) {Ap : Nat → Prop} (hD : va_D Ap ws) (hS : va_S Ap H0 H locs) {q a n : Nat} {f : Nat → Int32} (hq : ws[q]? = some (a, .inl (cys 0, n, .inl f))) {x y : Int32} (h0 : 0 ≤ x.toInt) (h1 : x.toInt < n) (hdg : decode cc pc = .ok (.iastore, 1))
    (kk : ∀ (H1 : Heap) (locs1 : List Loc), va_P D ck_cl (ws.set q (a, .inl (cys 0, n, .inl (upd f x.toInt.toNat y)))) H1 → va_D Ap (ws.set q (a, .inl (cys 0, n, .inl (upd f x.toInt.toNat y)))) → va_S Ap H0 H1 locs1 → W p l e R s m args below meth c H1 locs1 0 0 Q (F0 m (pc + 1) ls rest)) : W p l e R s m args below meth c H locs 0 0 Q (F0 m pc ls (.int y :: .int x :: .ref a :: rest)) :=
  va_iast B.1 hb B.2.2.2.2.2.2.2.1 hP hD hS q 0 hq rfl (ck_vin h0 h1) hdg (by rw [ck_cl0 h0]; exact kk)
/-- a call by its contract, whatever is kept besides -/
theorem cm_callV (B : ck_At p s m args meth c D cys k) (hR : R = ck_rm k) (hb : c.code = cc) {lv : List (Nat × Value)} (hl : lv_has ls (k_ml k) lv) {kc : ck_K} {ix : Nat} (hm : ck_mOK tg (k_ow k) ix 0 kc) (hHo : ck_Holds l D cys ty tg pvT Ex kc) {b : Nat} {As st0 : List Value} (ha : ck_args ty (k_pa kc) (.ref b :: As)) (hpr : ck_pvo ty (ck_XE pvv) (k_pr kc) pvv) (hW : ck_Wo D cys ty tg pvT Ex pvv H) (hS : va_S (ck_own ty) H0 H locs) (hvs : st0 = As.reverse ++ .ref b :: rest) (hf : k_fr kc + 1 ≤ k_fr k) (hlo : 8 + (k_ml kc + 11) + k_lo kc ≤ k_lo k) (hr8 : (rest.map fun v => v.category).sum ≤ 8) (hdg : decode cc pc = .ok (.invokevirtual ix, 3))
    (kk : ∀ cs ∈ k_cs kc, ∀ (r : Option Value) (pvv' : Nat → Int32) (H1 : Heap) (locs1 : List Loc), ck_caseOK ty cs (.ref b :: As) pvv pvv' r → ck_Wo D cys ty tg pvT Ex pvv' H1 → va_S (ck_own ty) H0 H1 locs1 → W p l e R s m args below meth c H1 locs1 0 0 Q (F0 m (pc + 3) ls (r.toList ++ rest))) : W p l e R s m args below meth c H locs 0 0 Q (F0 m pc ls st0) := by
  obtain ⟨B1, B2, B3, B4, B5, hts, hown, hK, hNw⟩ := B
  have hin : ∀ w ∈ wsL_law0, w ∈ ck_ws k := fun w hw => List.mem_cons_of_mem _ hw
  obtain ⟨m1, m2, m3, m4, -⟩ := hm
  obtain ⟨w1, w2, w3, t, ci, fts, r, pa, p1, p2, p3, p4, p5⟩ := m4 rfl
  have hG : GoodIn (ck_ws k) (ck_ws kc) := fun w hw => by
    rcases List.mem_cons.mp hw with hw | hw
    · subst hw; exact ⟨hin _ m1, ck_good _ m1⟩
    · exact ⟨hin _ hw, ck_good _ hw⟩
  have hM := hHo (.ref b :: As) pvv ha hpr
  rw [p1] at ha
  have hvl := ck_args_len ha.2
  obtain ⟨⟨b', e', hb0⟩, -⟩ := ha
  cases e'
  obtain ⟨ws, hP, hD, hT, hV, hE⟩ := id hW
  obtain ⟨q, en, td, g1, g2, g3⟩ := hT b t hb0
  rw [p2] at g2
  cases g2
  obtain ⟨fs, rfl, -, -⟩ := g3
  have hrun := va_runV (p := p) (l := l) (e := e) (R := R) (s := s) (m := m) (args := args) (below := below) (meth := meth) (c := c) (H := H) (locs := locs) (cells := 0) (slots := 0) (g := F0 m pc ls st0) (As := As) (rest := rest) (b := b) (nL := k_ml k) (own := ck_R (k_ow k)) (index := ix) (bytes := k_cc kc) (maxL := k_ml kc) (ret := k_rt kc) (n := pa.length) ⟨B1, hb, B3, hown, hts⟩ hM ⟨callB_of pa.length hts hG rfl rfl rfl (hts _ (hin _ m2)) (hts _ (hin _ w1)) ⟨m3.1, m3.2, p5⟩ ⟨by rw [hR]; exact hf, by rw [hR]; exact hlo⟩, hts _ (hin _ w2), hts _ (hin _ w3)⟩
    ⟨ck_blind _, by have := va_recv hK hP p3 g1; rw [p4] at this; exact this, fun U hU hWm => ⟨rfl, by rw [hU]; exact hW, va_K.moved hWm.alike hK, ck_nest_warm hWm hNw⟩⟩ rfl hvl hl.1 hvs (lv_room hr8) hdg ⟨Nat.zero_le _, Nat.zero_le _⟩
  exact ck_after hrun hS kk
theorem cm_callS (B : ck_At p s m args meth c D cys k) (hR : R = ck_rm k) (hb : c.code = cc) {lv : List (Nat × Value)} (hl : lv_has ls (k_ml k) lv) {kc : ck_K} {ix : Nat} (hm : ck_mOK tg (k_ow k) ix 1 kc) (hHo : ck_Holds l D cys ty tg pvT Ex kc) {As st0 : List Value} (ha : ck_args ty (k_pa kc) As) (hpr : ck_pvo ty (ck_XE pvv) (k_pr kc) pvv) (hW : ck_Wo D cys ty tg pvT Ex pvv H) (hS : va_S (ck_own ty) H0 H locs) (hvs : st0 = As.reverse ++ rest) (hf : k_fr kc + 1 ≤ k_fr k) (hlo : 8 + (k_ml kc + 11) + k_lo kc ≤ k_lo k) (hr8 : (rest.map fun v => v.category).sum ≤ 8) (hdg : decode cc pc = .ok (.invokestatic ix, 3))
    (kk : ∀ cs ∈ k_cs kc, ∀ (r : Option Value) (pvv' : Nat → Int32) (H1 : Heap) (locs1 : List Loc), ck_caseOK ty cs As pvv pvv' r → ck_Wo D cys ty tg pvT Ex pvv' H1 → va_S (ck_own ty) H0 H1 locs1 → W p l e R s m args below meth c H1 locs1 0 0 Q (F0 m (pc + 3) ls (r.toList ++ rest))) : W p l e R s m args below meth c H locs 0 0 Q (F0 m pc ls st0) := by
  obtain ⟨B1, B2, B3, B4, B5, hts, hown, hK, hNw⟩ := B
  have hin : ∀ w ∈ wsL_law0, w ∈ ck_ws k := fun w hw => List.mem_cons_of_mem _ hw
  obtain ⟨m1, m2, m3, -, m4, -⟩ := hm
  obtain ⟨w1, w2, p5⟩ := m4 rfl
  have hG : GoodIn (ck_ws k) (ck_ws kc) := fun w hw => by
    rcases List.mem_cons.mp hw with hw | hw
    · subst hw; exact ⟨hin _ m1, ck_good _ m1⟩
    · exact ⟨hin _ hw, ck_good _ hw⟩
  have hM := hHo As pvv ha hpr
  have hvl := ck_args_len ha
  have hrun := va_runS (p := p) (l := l) (e := e) (R := R) (s := s) (m := m) (args := args) (below := below) (meth := meth) (c := c) (H := H) (locs := locs) (cells := 0) (slots := 0) (g := F0 m pc ls st0) (As := As) (rest := rest) (nL := k_ml k) (own := ck_R (k_ow k)) (index := ix) (bytes := k_cc kc) (maxL := k_ml kc) (ret := k_rt kc) (n := (k_pa kc).length) ⟨B1, hb, B3, hown, hts⟩ hM ⟨callB_of _ hts hG rfl rfl rfl (hts _ (hin _ m2)) (hts _ (hin _ w1)) ⟨m3.1, m3.2, p5⟩ ⟨by rw [hR]; exact hf, by rw [hR]; exact hlo⟩, hts _ (hin _ w2)⟩
    ⟨ck_blind _, fun U hU hWm => ⟨rfl, by rw [hU]; exact hW, va_K.moved hWm.alike hK, ck_nest_warm hWm hNw⟩⟩ rfl hvl hl.1 hvs (lv_room hr8) hdg ⟨Nat.zero_le _, Nat.zero_le _⟩
  exact ck_after hrun hS kk
/-- ends -/
theorem cm_iret (B : ck_At p s m args meth c D cys k) (hb : c.code = cc) (hrt : k_rt k = some .int) {x : Int32} (hq : ∃ cs ∈ k_cs k, ck_caseOK ty cs vs pvv0 pvv (some (.int x))) (hW : ck_Wo D cys ty tg pvT Ex pvv H) (hS : va_S (ck_own ty) s.heap H locs) (hdg : decode cc pc = .ok (.ireturn, 1)) : W p l e R s m args below meth c H locs 0 0 (MQ below (ck_Qc D cys ty tg pvT Ex k vs pvv0) args s 0 0 (ck_own ty)) (F0 m pc ls [.int x]) := by
  obtain ⟨cs, g1, g2⟩ := hq
  exact W.zret B.1 hb (B.2.2.2.1.trans hrt) rfl (fun t ht _ => ⟨⟨cs, g1, _, pvv, rfl, g2, by rw [ht]; exact hW⟩, hS.F ht⟩) hS.2.2 hdg B.2.2.2.2.1
theorem cm_zret (B : ck_At p s m args meth c D cys k) (hb : c.code = cc) (hrt : k_rt k = some .boolean) {x : Int32} (hx : 0 ≤ x.toInt ∧ x.toInt ≤ 1) (hq : ∃ cs ∈ k_cs k, ck_caseOK ty cs vs pvv0 pvv (some (.int x))) (hW : ck_Wo D cys ty tg pvT Ex pvv H) (hS : va_S (ck_own ty) s.heap H locs) (hdg : decode cc pc = .ok (.ireturn, 1)) : W p l e R s m args below meth c H locs 0 0 (MQ below (ck_Qc D cys ty tg pvT Ex k vs pvv0) args s 0 0 (ck_own ty)) (F0 m pc ls [.int x]) := by
  obtain ⟨cs, g1, g2⟩ := hq
  exact W.zret B.1 hb (B.2.2.2.1.trans hrt) (ck_nbool hx).1 (fun t ht _ => ⟨⟨cs, g1, _, pvv, rfl, g2, by rw [ht]; exact hW⟩, hS.F ht⟩) hS.2.2 hdg B.2.2.2.2.1
theorem cm_vret (B : ck_At p s m args meth c D cys k) (hb : c.code = cc) (hrt : k_rt k = none) (hq : ∃ cs ∈ k_cs k, ck_caseOK ty cs vs pvv0 pvv none) (hW : ck_Wo D cys ty tg pvT Ex pvv H) (hS : va_S (ck_own ty) s.heap H locs) (hdg : decode cc pc = .ok (.return_, 1)) : W p l e R s m args below meth c H locs 0 0 (MQ below (ck_Qc D cys ty tg pvT Ex k vs pvv0) args s 0 0 (ck_own ty)) (F0 m pc ls []) := by
  obtain ⟨cs, g1, g2⟩ := hq
  exact W.vret B.1 hb (B.2.2.2.1.trans hrt) (fun t ht _ => ⟨⟨cs, g1, _, pvv, rfl, g2, by rw [ht]; exact hW⟩, hS.F ht⟩) hS.2.2 hdg B.2.2.2.2.1
/-- an object of a sort, opened -/
theorem cm_obj (hT : ck_typed ty cys tg ws) {a t ci : Nat} {fts : List ck_AV} (hta : ty a = some t) (htd : tg[t]? = some (.inl (ci, fts))) : ∃ (q : Nat) (fs : List Value), ws[q]? = some (a, .inr (ci, fs)) ∧ fs.length = fts.length ∧ ∀ (j : Nat) (ft : ck_AV), fts[j]? = some ft → ∃ v, fs[j]? = some v ∧ ck_v ty (fun _ => 0) ft v := by
  obtain ⟨q, en, td, g1, g2, g3⟩ := hT a t hta
  rw [htd] at g2
  cases g2
  obtain ⟨fs, rfl, h2, h3⟩ := g3
  exact ⟨q, fs, g1, h2, h3⟩
end CM

/-! BY HAND, 3: followed places changed one by one. -/
def ck_noq (P : List ck_AV) (q : Nat) : Bool := P.all (fun av => match av with
  | .inl r => r.2.2.all (fun d => decide (d.1 / 2 - 1000 ≠ q))
  | _ => true)
def ck_isF (LK : Nat → Nat → Option ck_En) (o ix ci j cd : Nat) : Bool := match LK o ix with
  | some (.inl q) => decide (q.1 = ci) && decide (q.2.1 = j) && decide (q.2.2 = cd)
  | _ => false
theorem isF {LK : Nat → Nat → Option ck_En} {o ix ci j cd : Nat} (h : ck_isF LK o ix ci j cd = true) : LK o ix = some (.inl (ci, j, cd)) := by
  unfold ck_isF at h
  split at h
  · next q hq =>
    obtain ⟨a, b, c⟩ := q
    simp only [Bool.and_eq_true, decide_eq_true_eq] at h
    obtain ⟨⟨rfl, rfl⟩, rfl⟩ := h
    exact hq
  · cases h
def ck_isM (LK : Nat → Nat → Option ck_En) (o ix kd : Nat) (js : List Nat) : Bool := match LK o ix with
  | some (.inr (.inr (.inr (.inl q)))) => decide (q.1 = kd) && decide (q.2 = js)
  | _ => false
theorem isM {LK : Nat → Nat → Option ck_En} {o ix kd : Nat} {js : List Nat} (h : ck_isM LK o ix kd js = true) : LK o ix = some (.inr (.inr (.inr (.inl (kd, js))))) := by
  unfold ck_isM at h
  split at h
  · next q hq =>
    obtain ⟨a, b⟩ := q
    simp only [Bool.and_eq_true, decide_eq_true_eq] at h
    obtain ⟨rfl, rfl⟩ := h
    exact hq
  · cases h
section HM
variable {ty : Nat → Option Nat} {X : Nat → Int} {pvT : List (Nat × Nat)}
theorem hr_updD {P : List ck_AV} {f : Nat → Int32} {q : Nat} {x : Int32} {lo hi : Int} {ds : List (Nat × Int × Int)} (h : ck_pvo ty (ck_XE f) P f) (hq : P[q]? = some (.inl (lo, hi, ds))) (h1 : lo ≤ x.toInt) (h2 : x.toInt ≤ hi) (hd : ck_d (ck_XE f) x.toInt ds) (hn : ck_noq P q = true) : ck_pvo ty (ck_XE (upd f q x)) P (upd f q x) := by
  have key : ∀ (j : Nat) (r : ck_I), P[j]? = some (.inl r) → ∀ d ∈ r.2.2, ck_XE (upd f q x) d.1 = ck_XE f d.1 := by
    intro j r hj d hd
    have := List.all_eq_true.mp hn _ (List.mem_of_getElem? hj)
    have := of_decide_eq_true (List.all_eq_true.mp this d hd)
    unfold ck_XE
    rw [pk_un this]
  intro j av hj
  by_cases e : j = q
  · subst e
    rw [pk_us]
    have hj' := hj
    rw [hq] at hj
    cases hj
    refine ⟨x, rfl, h1, h2, fun d hd' => ?_⟩
    rw [key j _ hj' d hd']
    exact hd d hd'
  · rw [pk_un e]
    match av, hj with
    | .inl r, hj =>
      obtain ⟨y, ey, a1, a2, a3⟩ := h j _ hj
      refine ⟨y, ey, a1, a2, fun d hd' => ?_⟩
      rw [key j r hj d hd']
      exact a3 d hd'
    | .inr (.inl t), hj => obtain ⟨a, ea, -⟩ := h j _ hj; cases ea
    | .inr (.inr u), hj => obtain ⟨a, ea⟩ := h j _ hj; cases ea
theorem hr_updS {P : List ck_AV} {f : Nat → Int32} {q : Nat} {x : Int32} {lo hi : Int} (h : ck_pvo ty (ck_XE f) P f) (hq : P[q]? = some (.inl (lo, hi, []))) (h1 : lo ≤ x.toInt) (h2 : x.toInt ≤ hi) (hn : ck_noq P q = true) : ck_pvo ty (ck_XE (upd f q x)) P (upd f q x) := hr_updD h hq h1 h2 (fun d h => nomatch h) hn
/-- by what is known of each place -/
theorem hr_re {P : List ck_AV} {f g : Nat → Int32} (h : ck_pvo ty (ck_XE f) P f) (hs : ∀ j, j < P.length → (g j).toInt = (f j).toInt) (hd : ∀ (j : Nat) (r : ck_I), P[j]? = some (.inl r) → ∀ d ∈ r.2.2, d.1 / 2 - 1000 < P.length) : ck_pvo ty (ck_XE g) P g := by
  intro j av hj
  have hl : j < P.length := (List.getElem?_eq_some_iff.mp hj).1
  have e : g j = f j := Int32.toInt_inj.mp (hs j hl)
  rw [e]
  match av, hj with
  | .inl r, hj =>
    obtain ⟨y, ey, a1, a2, a3⟩ := h j _ hj
    refine ⟨y, ey, a1, a2, fun d hd' => ?_⟩
    have := hs _ (hd j r hj d hd')
    have h3 := a3 d hd'
    unfold ck_XE at h3 ⊢
    rw [this]
    exact h3
  | .inr (.inl t), hj => obtain ⟨a, ea, -⟩ := h j _ hj; cases ea
  | .inr (.inr u), hj => obtain ⟨a, ea⟩ := h j _ hj; cases ea
theorem hr_set1 {P : List ck_AV} {f g : Nat → Int32} {j : Nat} {av : ck_AV} (h : ck_pvo ty X P f) (hv : ck_v ty X av (.int (g j))) (hs : ∀ i, i ≠ j → g i = f i) : ck_pvo ty X (P.set j av) g := by
  intro i bv hi
  by_cases e : i = j
  · subst e
    have hl : i < P.length := by
      have := (List.getElem?_eq_some_iff.mp hi).1
      rw [List.length_set] at this
      exact this
    rw [List.getElem?_set_self hl] at hi
    cases hi
    exact hv
  · rw [List.getElem?_set_ne (fun z => e z.symm)] at hi
    rw [hs i e]
    exact h i bv hi
theorem hr_q {vs : List Value} {qs : List (Nat × Int × Int)} (hq : ∀ q ∈ qs, ∃ x : Int32, vs[q.1]? = some (.int x) ∧ q.2.1 ≤ x.toInt ∧ x.toInt ≤ q.2.2) {i : Nat} {lo hi : Int} {z : Int32} (h : (i, lo, hi) ∈ qs) (hv : vs[i]? = some (.int z)) : lo ≤ z.toInt ∧ z.toInt ≤ hi := by
  obtain ⟨x, h1, h2, h3⟩ := hq _ h
  dsimp only at h1 h2 h3
  rw [hv] at h1
  cases h1
  exact ⟨h2, h3⟩
def pv_onlyB (pvT : List (Nat × Nat)) (t : Nat) (l : List (Nat × Nat)) : Bool := (List.range pvT.length).all (fun j => match pvT[j]? with
  | some (t', k) => decide (t' ≠ t) || l.any (fun r => decide (r.1 = j) && decide (r.2 = k))
  | none => true)
theorem pv_only {t : Nat} {l : List (Nat × Nat)} (h : pv_onlyB pvT t l = true) {j w : Nat} (hj : pvT[j]? = some (t, w)) : (j, w) ∈ l := by
  have hl : j < pvT.length := (List.getElem?_eq_some_iff.mp hj).1
  have h1 := List.all_eq_true.mp h j (List.mem_range.mpr hl)
  rw [hj] at h1
  simp only [ne_eq, not_true, decide_false, Bool.false_or, List.any_eq_true, Bool.and_eq_true, decide_eq_true_eq] at h1
  obtain ⟨r, hr, e1, e2⟩ := h1
  obtain ⟨a, b⟩ := r
  dsimp only at e1 e2
  subst e1 e2
  exact hr
theorem pv_o1 {t a b : Nat} (h : pv_onlyB pvT t [(a, b)] = true) {j w : Nat} (hj : pvT[j]? = some (t, w)) : j = a ∧ w = b := Prod.mk.inj (List.mem_singleton.mp (pv_only h hj))
theorem pv_o2 {t a b a' b' : Nat} (h : pv_onlyB pvT t [(a, b), (a', b')] = true) {j w : Nat} (hj : pvT[j]? = some (t, w)) : (j = a ∧ w = b) ∨ (j = a' ∧ w = b') := by
  rcases List.mem_cons.mp (pv_only h hj) with h | h
  · exact Or.inl (Prod.mk.inj h)
  · exact Or.inr (Prod.mk.inj (List.mem_singleton.mp h))
theorem hr_vd {lo hi : Int} {q : Nat} {z : Int32} {f : Nat → Int32} {a b : Int} (h1 : lo ≤ z.toInt) (h2 : z.toInt ≤ hi) (h3 : a ≤ z.toInt - (f q).toInt) (h4 : z.toInt - (f q).toInt ≤ b) : ck_v ty (ck_XE f) (.inl (lo, hi, [(2 * (1000 + q), a, b)])) (.int z) := by
  refine ⟨z, rfl, h1, h2, fun d hd => ?_⟩
  obtain rfl := List.mem_singleton.mp hd
  unfold ck_XE
  dsimp only
  rw [show 2 * (1000 + q) / 2 - 1000 = q by omega]
  exact ⟨h3, h4⟩
def ck_wkB (P Q : List ck_AV) : Bool := (List.range Q.length).all (fun j => match P[j]?, Q[j]? with
  | some a, some b => ck_le a b
  | _, _ => false)
theorem hr_wk {P Q : List ck_AV} {f : Nat → Int32} (h : ck_pvo ty X P f) (hc : ck_wkB P Q = true) : ck_pvo ty X Q f := by
  intro j av hj
  have hl : j < Q.length := (List.getElem?_eq_some_iff.mp hj).1
  have h1 := List.all_eq_true.mp hc j (List.mem_range.mpr hl)
  rw [hj] at h1
  cases hq : P[j]? with
  | none => rw [hq] at h1; cases h1
  | some a =>
    rw [hq] at h1
    exact ck_le_ok h1 (h j a hq)
theorem cm_a1 {a : ck_AV} {vs : List Value} (h : ck_args ty [a] vs) : ∃ v0, vs = [v0] ∧ ck_v ty (fun _ => 0) a v0 := by
  match vs, h with
  | [v0], h => exact ⟨v0, rfl, h.1⟩
theorem cm_a2 {a b : ck_AV} {vs : List Value} (h : ck_args ty [a, b] vs) : ∃ v0 v1, vs = [v0, v1] ∧ ck_v ty (fun _ => 0) a v0 ∧ ck_v ty (fun _ => 0) b v1 := by
  match vs, h with
  | [v0, v1], h => exact ⟨v0, v1, rfl, h.1, h.2.1⟩
theorem cm_a3 {a b c : ck_AV} {vs : List Value} (h : ck_args ty [a, b, c] vs) : ∃ v0 v1 v2, vs = [v0, v1, v2] ∧ ck_v ty (fun _ => 0) a v0 ∧ ck_v ty (fun _ => 0) b v1 ∧ ck_v ty (fun _ => 0) c v2 := by
  match vs, h with
  | [v0, v1, v2], h => exact ⟨v0, v1, v2, rfl, h.1, h.2.1, h.2.2.1⟩
theorem cm_a4 {a b c d : ck_AV} {vs : List Value} (h : ck_args ty [a, b, c, d] vs) : ∃ v0 v1 v2 v3, vs = [v0, v1, v2, v3] ∧ ck_v ty (fun _ => 0) a v0 ∧ ck_v ty (fun _ => 0) b v1 ∧ ck_v ty (fun _ => 0) c v2 ∧ ck_v ty (fun _ => 0) d v3 := by
  match vs, h with
  | [v0, v1, v2, v3], h => exact ⟨v0, v1, v2, v3, rfl, h.1, h.2.1, h.2.2.1, h.2.2.2.1⟩
end HM
section HN
variable {p : Program} {l : Launch} {e : Env} {R : Room} {s : State} {m : MethodId} {args : Array Value} {below : List Frame} {meth : Method} {c : Code} {H H0 : Heap} {locs : List Loc} {Q : State → Prop} {cc : ByteArray} {pc : Nat} {ls : Array Slot} {rest : List Value}
variable {D : va_G} {cys : Nat → ClassId} {ty : Nat → Option Nat} {tg : List ck_TD} {pvT : List (Nat × Nat)} {Ex : va_W → Prop} {pvv : Nat → Int32} {k : ck_K}
theorem cm_callSN (B : ck_At p s m args meth c D cys k) (hR : R = ck_rm k) (hb : c.code = cc) {lv : List (Nat × Value)} (hl : lv_has ls (k_ml k) lv) {kc : ck_K} {ix : Nat} (hm : ck_mOK tg (k_ow k) ix 2 kc) (hHo : ck_Holds l D cys ty tg pvT Ex kc) {As st0 : List Value} (ha : ck_args ty (k_pa kc) As) (hpr : ck_pvo ty (ck_XE pvv) (k_pr kc) pvv) (hW : ck_Wo D cys ty tg pvT Ex pvv H) (hS : va_S (ck_own ty) H0 H locs) (hvs : st0 = As.reverse ++ rest) (hf : k_fr kc + 1 ≤ k_fr k) (hlo : 8 + (k_ml kc + 11) + k_lo kc ≤ k_lo k) (hr8 : (rest.map fun v => v.category).sum ≤ 8) (hdg : decode cc pc = .ok (.invokestatic ix, 3))
    (kk : ∀ cs ∈ k_cs kc, ∀ (r : Option Value) (pvv' : Nat → Int32) (H1 : Heap) (locs1 : List Loc), ck_caseOK ty cs As pvv pvv' r → ck_Wo D cys ty tg pvT Ex pvv' H1 → va_S (ck_own ty) H0 H1 locs1 → W p l e R s m args below meth c H1 locs1 0 0 Q (F0 m (pc + 3) ls (r.toList ++ rest))) : W p l e R s m args below meth c H locs 0 0 Q (F0 m pc ls st0) := by
  obtain ⟨B1, B2, B3, B4, B5, hts, hown, hK, hNw⟩ := B
  have hin : ∀ w ∈ wsL_law0, w ∈ ck_ws k := fun w hw => List.mem_cons_of_mem _ hw
  obtain ⟨m1, m2, m3, -, -, m4⟩ := hm
  obtain ⟨w1, w2, p5⟩ := m4 rfl
  have hG : GoodIn (ck_ws k) (ck_ws kc) := fun w hw => by
    rcases List.mem_cons.mp hw with hw | hw
    · subst hw; exact ⟨hin _ m1, ck_good _ m1⟩
    · exact ⟨hin _ hw, ck_good _ hw⟩
  have hM := hHo As pvv ha hpr
  have hvl := ck_args_len ha
  have hrun := va_runSN (p := p) (l := l) (e := e) (R := R) (s := s) (m := m) (args := args) (below := below) (meth := meth) (c := c) (H := H) (locs := locs) (cells := 0) (slots := 0) (g := F0 m pc ls st0) (As := As) (rest := rest) (nL := k_ml k) (own := ck_R (k_ow k)) (host := RX11) (index := ix) (bytes := k_cc kc) (maxL := k_ml kc) (ret := k_rt kc) (n := (k_pa kc).length) ⟨B1, hb, B3, hown, hts⟩ hM ⟨va_cnB _ hts hG rfl rfl rfl (hNw _ w1) (hts _ (hin _ m2)) ⟨m3.1, m3.2, p5⟩ ⟨by rw [hR]; exact hf, by rw [hR]; exact hlo⟩, hts _ (hin _ w2), True.intro⟩
    ⟨ck_blind _, fun U hU hWm => ⟨rfl, by rw [hU]; exact hW, va_K.moved hWm.alike hK, ck_nest_warm hWm hNw⟩⟩ rfl hvl hl.1 hvs (lv_room hr8) hdg ⟨Nat.zero_le _, Nat.zero_le _⟩
  exact ck_after hrun hS kk
variable {P : Option Value → (Nat → Int32) → (va_W → Prop) → Prop}
theorem hr_callS (B : ck_At p s m args meth c D cys k) (hR : R = ck_rm k) (hb : c.code = cc) {lv : List (Nat × Value)} (hl : lv_has ls (k_ml k) lv) {kc : ck_K} {ix : Nat} (hm : ck_mOK tg (k_ow k) ix 1 kc) {As st0 : List Value} (hM : hr_Met l D cys ty tg pvT Ex kc As pvv P) (ha : ck_args ty (k_pa kc) As) (hW : ck_Wo D cys ty tg pvT Ex pvv H) (hS : va_S (ck_own ty) H0 H locs) (hvs : st0 = As.reverse ++ rest) (hf : k_fr kc + 1 ≤ k_fr k) (hlo : 8 + (k_ml kc + 11) + k_lo kc ≤ k_lo k) (hr8 : (rest.map fun v => v.category).sum ≤ 8) (hdg : decode cc pc = .ok (.invokestatic ix, 3))
    (kk : ∀ (r : Option Value) (pvv' : Nat → Int32) (E' : va_W → Prop) (H1 : Heap) (locs1 : List Loc), P r pvv' E' → ck_Wo D cys ty tg pvT E' pvv' H1 → va_S (ck_own ty) H0 H1 locs1 → W p l e R s m args below meth c H1 locs1 0 0 Q (F0 m (pc + 3) ls (r.toList ++ rest))) : W p l e R s m args below meth c H locs 0 0 Q (F0 m pc ls st0) := by
  obtain ⟨B1, B2, B3, B4, B5, hts, hown, hK, hNw⟩ := B
  have hin : ∀ w ∈ wsL_law0, w ∈ ck_ws k := fun w hw => List.mem_cons_of_mem _ hw
  obtain ⟨m1, m2, m3, -, m4, -⟩ := hm
  obtain ⟨w1, w2, p5⟩ := m4 rfl
  have hG : GoodIn (ck_ws k) (ck_ws kc) := fun w hw => by
    rcases List.mem_cons.mp hw with hw | hw
    · subst hw; exact ⟨hin _ m1, ck_good _ m1⟩
    · exact ⟨hin _ hw, ck_good _ hw⟩
  have hvl := ck_args_len ha
  have hrun := va_runS (p := p) (l := l) (e := e) (R := R) (s := s) (m := m) (args := args) (below := below) (meth := meth) (c := c) (H := H) (locs := locs) (cells := 0) (slots := 0) (g := F0 m pc ls st0) (As := As) (rest := rest) (nL := k_ml k) (own := ck_R (k_ow k)) (index := ix) (bytes := k_cc kc) (maxL := k_ml kc) (ret := k_rt kc) (n := (k_pa kc).length) ⟨B1, hb, B3, hown, hts⟩ hM ⟨callB_of _ hts hG rfl rfl rfl (hts _ (hin _ m2)) (hts _ (hin _ w1)) ⟨m3.1, m3.2, p5⟩ ⟨by rw [hR]; exact hf, by rw [hR]; exact hlo⟩, hts _ (hin _ w2)⟩
    ⟨ck_blind _, fun U hU hWm => ⟨rfl, by rw [hU]; exact hW, va_K.moved hWm.alike hK, ck_nest_warm hWm hNw⟩⟩ rfl hvl hl.1 hvs (lv_room hr8) hdg ⟨Nat.zero_le _, Nat.zero_le _⟩
  exact hr_after hrun hS kk
end HN
section HO
variable {ty : Nat → Option Nat}
def ck_sameX (n : Nat) (l : List Nat) (post : List ck_AV) : Bool := (List.range n).all (fun j => l.contains j || ck_same1 post j)
theorem hr_sameX {post : List ck_AV} {f g : Nat → Int32} {n : Nat} {l : List Nat} (hp : ck_pvo ty (ck_XE f) post g) (h : ck_sameX n l post = true) : ∀ j, j < n → j ∉ l → g j = f j := by
  intro j hj hn
  have h1 := List.all_eq_true.mp h j (List.mem_range.mpr hj)
  rw [Bool.or_eq_true] at h1
  rcases h1 with h1 | h1
  · exact absurd (by simpa using h1) hn
  · exact hr_same1 hp h1
def ck_mkB (n : Nat) (P post : List ck_AV) (l : List Nat) : Bool := decide (post.length ≤ n) && (List.range post.length).all (fun j => l.contains j || (match (ck_addP P 2000)[j]?, post[j]? with
  | some a, some b => ck_le a b
  | _, _ => false))
/-- the end's list of followed places: as they were, but for those of l -/
theorem hr_mk {P post : List ck_AV} {f g : Nat → Int32} {n : Nat} (l : List Nat) (hp : ck_pvo ty (ck_XE f) P f) (hs : ∀ j, j < n → j ∉ l → g j = f j) (hb : ck_mkB n P post l = true) (hl : ∀ j, j ∈ l → ∀ av, post[j]? = some av → ck_v ty (ck_XE f) av (.int (g j))) : ck_pvo ty (ck_XE f) post g := by
  intro j av hj
  have hjl : j < post.length := (List.getElem?_eq_some_iff.mp hj).1
  simp only [ck_mkB, Bool.and_eq_true, decide_eq_true_eq] at hb
  have h1 := List.all_eq_true.mp hb.2 j (List.mem_range.mpr hjl)
  by_cases hm : j ∈ l
  · exact hl j hm av hj
  · rw [Bool.or_eq_true] at h1
    rcases h1 with h1 | h1
    · exact absurd (by simpa using h1) hm
    · rw [hj] at h1
      rw [hs j (by omega) hm]
      cases hq : (ck_addP P 2000)[j]? with
      | none => rw [hq] at h1; cases h1
      | some a =>
        rw [hq] at h1
        exact ck_le_ok h1 (hr_self hp j a hq)
end HO
section HZ
variable {p : Program} {l : Launch} {e : Env} {R : Room} {s : State} {m : MethodId} {args : Array Value} {below : List Frame} {meth : Method} {c : Code} {H H0 : Heap} {locs : List Loc} {Q : State → Prop} {cc : ByteArray} {pc : Nat} {ls : Array Slot} {rest : List Value}
variable {D : va_G} {cys : Nat → ClassId} {ty : Nat → Option Nat} {tg : List ck_TD} {pvT : List (Nat × Nat)} {Ex Ex' : va_W → Prop} {pvv : Nat → Int32} {k : ck_K}
theorem hr_zastP (B : ck_At p s m args meth c D cys k) (hb : c.code = cc) (hU : ck_uq ty pvT) (hW : ck_Wo D cys ty tg pvT Ex pvv H) (hS : va_S (ck_own ty) H0 H locs) {a t n et : Nat} {sg : List (Nat × Int × Int)} (hta : ty a = some t) (htd : tg[t]? = some (.inr (2, n, sg, et))) {i x : Int32} (h0 : 0 ≤ i.toInt) (h1 : i.toInt < n) (hx : ck_in sg i.toInt.toNat x) (hx2 : 0 ≤ x.toInt ∧ x.toInt ≤ 1)
    (hE : ∀ (ws : va_W) (q : Nat) (f : Nat → Int32), va_D (ck_own ty) ws → Ex ws → ws[q]? = some (a, .inl (cys 2, n, .inl f)) → Ex' (ws.set q (a, .inl (cys 2, n, .inl (upd f i.toInt.toNat x))))) (hI : ∀ (i j : Nat) (q : Nat × Nat), pvT[i]? = some q → pvT[j]? = some q → i = j) {q0 w : Nat} (hw : i.toInt.toNat = w) (hq0 : pvT[q0]? = some (t, w)) (hdg : decode cc pc = .ok (.bastore, 1))
    (kk : ∀ (H1 : Heap) (locs1 : List Loc), ck_Wo D cys ty tg pvT Ex' (upd pvv q0 x) H1 → va_S (ck_own ty) H0 H1 locs1 → W p l e R s m args below meth c H1 locs1 0 0 Q (F0 m (pc + 1) ls rest)) : W p l e R s m args below meth c H locs 0 0 Q (F0 m pc ls (.int x :: .int i :: .ref a :: rest)) :=
  hr_zastG B hb hU hW hS hta htd h0 h1 hx hx2 hE hdg (fun H1 locs1 pvv' a1 a2 a3 a4 => by
    rw [hw] at a3 a4
    have e : pvv' = upd pvv q0 x := hr_updE hI hq0 a3 a4
    subst e
    exact kk H1 locs1 a1 a2)
end HZ

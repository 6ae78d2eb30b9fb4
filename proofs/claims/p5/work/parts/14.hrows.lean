/-! BY HAND, 2: rows for walks. A number is known by its Int, a cell by its sort; what is kept besides goes from Ex to Ex'. -/
section HR
variable {p : Program} {l : Launch} {e : Env} {R : Room} {s : State} {m : MethodId} {args : Array Value} {below : List Frame} {meth : Method} {c : Code} {H H0 : Heap} {locs : List Loc} {Q : State → Prop} {cc : ByteArray} {pc : Nat} {ls : Array Slot} {rest : List Value}
variable {D : va_G} {cys : Nat → ClassId} {ty : Nat → Option Nat} {tg : List ck_TD} {pvT : List (Nat × Nat)} {prot : Nat → List (Nat × Nat)} {Ex Ex' : va_W → Prop} {pvv : Nat → Int32} {LK : Nat → Nat → Option ck_En} {k : ck_K}
theorem hr_ic (hx : p.tables.exec = Jvm.exec) (hb : c.code = cc) {n : Int} (hdg : decode cc pc = .ok (.iconst n, 1)) (hn : ck_in32 n n = true) (kk : ∀ z : Int32, z.toInt = n → W p l e R s m args below meth c H locs 0 0 Q (F0 m (pc + 1) ls (.int z :: rest))) : W p l e R s m args below meth c H locs 0 0 Q (F0 m pc ls rest) := lv_iconst hx hb hdg rfl (kk _ (ck_ofI hn))
theorem hr_bp (hx : p.tables.exec = Jvm.exec) (hb : c.code = cc) {n : Int} (hdg : decode cc pc = .ok (.bipush n, 2)) (h1 : -128 ≤ n) (h2 : n ≤ 127) (kk : ∀ z : Int32, z.toInt = n → W p l e R s m args below meth c H locs 0 0 Q (F0 m (pc + 2) ls (.int z :: rest))) : W p l e R s m args below meth c H locs 0 0 Q (F0 m pc ls rest) := lv_bipush hx hb hdg rfl (kk _ (ck_of8 h1 h2))
theorem hr_sp (hx : p.tables.exec = Jvm.exec) (hb : c.code = cc) {n : Int} (hdg : decode cc pc = .ok (.sipush n, 3)) (h1 : -32768 ≤ n) (h2 : n ≤ 32767) (kk : ∀ z : Int32, z.toInt = n → W p l e R s m args below meth c H locs 0 0 Q (F0 m (pc + 3) ls (.int z :: rest))) : W p l e R s m args below meth c H locs 0 0 Q (F0 m pc ls rest) := lv_sipush hx hb hdg rfl (kk _ (ck_of16 h1 h2))
theorem hr_add (hx : p.tables.exec = Jvm.exec) (hb : c.code = cc) {x y : Int32} (hdg : decode cc pc = .ok (.iadd, 1)) (h1 : -2147483648 ≤ x.toInt + y.toInt) (h2 : x.toInt + y.toInt ≤ 2147483647) (kk : ∀ z : Int32, z.toInt = x.toInt + y.toInt → W p l e R s m args below meth c H locs 0 0 Q (F0 m (pc + 1) ls (.int z :: rest))) : W p l e R s m args below meth c H locs 0 0 Q (F0 m pc ls (.int y :: .int x :: rest)) := lv_iadd hx hb hdg (kk _ (ck_addT h1 h2))
theorem hr_sub (hx : p.tables.exec = Jvm.exec) (hb : c.code = cc) {x y : Int32} (hdg : decode cc pc = .ok (.isub, 1)) (h1 : -2147483648 ≤ x.toInt - y.toInt) (h2 : x.toInt - y.toInt ≤ 2147483647) (kk : ∀ z : Int32, z.toInt = x.toInt - y.toInt → W p l e R s m args below meth c H locs 0 0 Q (F0 m (pc + 1) ls (.int z :: rest))) : W p l e R s m args below meth c H locs 0 0 Q (F0 m pc ls (.int y :: .int x :: rest)) := lv_isub hx hb hdg (kk _ (ck_subT h1 h2))
theorem hr_mulL (hx : p.tables.exec = Jvm.exec) (hb : c.code = cc) {x y : Int32} {n : Int} (hdg : decode cc pc = .ok (.imul, 1)) (hn : x.toInt = n) (h1 : -2147483648 ≤ n * y.toInt) (h2 : n * y.toInt ≤ 2147483647) (kk : ∀ z : Int32, z.toInt = n * y.toInt → W p l e R s m args below meth c H locs 0 0 Q (F0 m (pc + 1) ls (.int z :: rest))) : W p l e R s m args below meth c H locs 0 0 Q (F0 m pc ls (.int y :: .int x :: rest)) := lv_imul hx hb hdg (kk _ (by rw [← hn] at h1 h2 ⊢; exact ck_mulT h1 h2))
theorem hr_mulR (hx : p.tables.exec = Jvm.exec) (hb : c.code = cc) {x y : Int32} {n : Int} (hdg : decode cc pc = .ok (.imul, 1)) (hn : y.toInt = n) (h1 : -2147483648 ≤ x.toInt * n) (h2 : x.toInt * n ≤ 2147483647) (kk : ∀ z : Int32, z.toInt = x.toInt * n → W p l e R s m args below meth c H locs 0 0 Q (F0 m (pc + 1) ls (.int z :: rest))) : W p l e R s m args below meth c H locs 0 0 Q (F0 m pc ls (.int y :: .int x :: rest)) := lv_imul hx hb hdg (kk _ (by rw [← hn] at h1 h2 ⊢; exact ck_mulT h1 h2))
theorem hr_inc (hx : p.tables.exec = Jvm.exec) (hb : c.code = cc) {i nL kq : Nat} {n : Int} {x : Int32} {lv : List (Nat × Value)} {lv' : Int32 → List (Nat × Value)} (hdg : decode cc pc = .ok (.iinc i n, 3)) (h : lv_has ls nL lv) (hk : lv[kq]? = some (i, .int x)) (hn : i < nL) (hn2 : ck_in32 n n = true) (h1 : -2147483648 ≤ x.toInt + n) (h2 : x.toInt + n ≤ 2147483647) (hl : ∀ v : Int32, (i, Value.int v) :: lv.filter (fun q => !(q.1 == i) && !(q.1 + 1 == i && q.2.category == 2)) = lv' v)
    (kk : ∀ (z : Int32) (ls' : Array Slot), z.toInt = x.toInt + n → lv_has ls' nL (lv' z) → W p l e R s m args below meth c H locs 0 0 Q (F0 m (pc + 3) ls' rest)) : W p l e R s m args below meth c H locs 0 0 Q (F0 m pc ls rest) := by
  have e1 := ck_ofI hn2
  exact lv_iinc hx hb hdg h hk rfl hn (hl _) (fun ls' h' => kk _ ls' (by rw [ck_addT (by rw [e1]; exact h1) (by rw [e1]; exact h2), e1]) h')
theorem hr_lti {x y : Int32} : x < y ↔ x.toInt < y.toInt := Int32.lt_iff_toInt_lt
theorem hr_lei {x y : Int32} : x ≤ y ↔ x.toInt ≤ y.toInt := Int32.le_iff_toInt_le
theorem hr_eqi {x y : Int32} : x = y ↔ x.toInt = y.toInt := Int32.toInt_inj.symm
theorem hr_z0 : (0 : Int32).toInt = 0 := rfl
theorem hr_eq (hx : p.tables.exec = Jvm.exec) (hb : c.code = cc) {x y : Int32} {off : Int} {tgt : Nat} (hdg : decode cc pc = .ok (.if_icmp .eq off, 3)) (ht : (pc : Int) + off = (tgt : Int)) (kt : x.toInt = y.toInt → W p l e R s m args below meth c H locs 0 0 Q (F0 m tgt ls rest)) (kf : x.toInt ≠ y.toInt → W p l e R s m args below meth c H locs 0 0 Q (F0 m (pc + 3) ls rest)) : W p l e R s m args below meth c H locs 0 0 Q (F0 m pc ls (.int y :: .int x :: rest)) :=
  lv_icmp_eq hx hb hdg ht (fun h => kt (by simp only [hr_lti, hr_lei, hr_eqi] at h; omega)) (fun h => kf (by simp only [hr_lti, hr_lei, hr_eqi] at h; omega))
theorem hr_eq0 (hx : p.tables.exec = Jvm.exec) (hb : c.code = cc) {x : Int32} {off : Int} {tgt : Nat} (hdg : decode cc pc = .ok (.ifCond .eq off, 3)) (ht : (pc : Int) + off = (tgt : Int)) (kt : x.toInt = 0 → W p l e R s m args below meth c H locs 0 0 Q (F0 m tgt ls rest)) (kf : x.toInt ≠ 0 → W p l e R s m args below meth c H locs 0 0 Q (F0 m (pc + 3) ls rest)) : W p l e R s m args below meth c H locs 0 0 Q (F0 m pc ls (.int x :: rest)) :=
  lv_if_eq hx hb hdg ht (fun h => kt (by simp only [hr_lti, hr_lei, hr_eqi, hr_z0] at h; omega)) (fun h => kf (by simp only [hr_lti, hr_lei, hr_eqi, hr_z0] at h; omega))
theorem hr_ne (hx : p.tables.exec = Jvm.exec) (hb : c.code = cc) {x y : Int32} {off : Int} {tgt : Nat} (hdg : decode cc pc = .ok (.if_icmp .ne off, 3)) (ht : (pc : Int) + off = (tgt : Int)) (kt : x.toInt ≠ y.toInt → W p l e R s m args below meth c H locs 0 0 Q (F0 m tgt ls rest)) (kf : x.toInt = y.toInt → W p l e R s m args below meth c H locs 0 0 Q (F0 m (pc + 3) ls rest)) : W p l e R s m args below meth c H locs 0 0 Q (F0 m pc ls (.int y :: .int x :: rest)) :=
  lv_icmp_ne hx hb hdg ht (fun h => kt (by simp only [hr_lti, hr_lei, hr_eqi] at h; omega)) (fun h => kf (by simp only [hr_lti, hr_lei, hr_eqi] at h; omega))
theorem hr_ne0 (hx : p.tables.exec = Jvm.exec) (hb : c.code = cc) {x : Int32} {off : Int} {tgt : Nat} (hdg : decode cc pc = .ok (.ifCond .ne off, 3)) (ht : (pc : Int) + off = (tgt : Int)) (kt : x.toInt ≠ 0 → W p l e R s m args below meth c H locs 0 0 Q (F0 m tgt ls rest)) (kf : x.toInt = 0 → W p l e R s m args below meth c H locs 0 0 Q (F0 m (pc + 3) ls rest)) : W p l e R s m args below meth c H locs 0 0 Q (F0 m pc ls (.int x :: rest)) :=
  lv_if_ne hx hb hdg ht (fun h => kt (by simp only [hr_lti, hr_lei, hr_eqi, hr_z0] at h; omega)) (fun h => kf (by simp only [hr_lti, hr_lei, hr_eqi, hr_z0] at h; omega))
theorem hr_lt (hx : p.tables.exec = Jvm.exec) (hb : c.code = cc) {x y : Int32} {off : Int} {tgt : Nat} (hdg : decode cc pc = .ok (.if_icmp .lt off, 3)) (ht : (pc : Int) + off = (tgt : Int)) (kt : x.toInt < y.toInt → W p l e R s m args below meth c H locs 0 0 Q (F0 m tgt ls rest)) (kf : y.toInt ≤ x.toInt → W p l e R s m args below meth c H locs 0 0 Q (F0 m (pc + 3) ls rest)) : W p l e R s m args below meth c H locs 0 0 Q (F0 m pc ls (.int y :: .int x :: rest)) :=
  lv_icmp_lt hx hb hdg ht (fun h => kt (by simp only [hr_lti, hr_lei, hr_eqi] at h; omega)) (fun h => kf (by simp only [hr_lti, hr_lei, hr_eqi] at h; omega))
theorem hr_lt0 (hx : p.tables.exec = Jvm.exec) (hb : c.code = cc) {x : Int32} {off : Int} {tgt : Nat} (hdg : decode cc pc = .ok (.ifCond .lt off, 3)) (ht : (pc : Int) + off = (tgt : Int)) (kt : x.toInt < 0 → W p l e R s m args below meth c H locs 0 0 Q (F0 m tgt ls rest)) (kf : 0 ≤ x.toInt → W p l e R s m args below meth c H locs 0 0 Q (F0 m (pc + 3) ls rest)) : W p l e R s m args below meth c H locs 0 0 Q (F0 m pc ls (.int x :: rest)) :=
  lv_if_lt hx hb hdg ht (fun h => kt (by simp only [hr_lti, hr_lei, hr_eqi, hr_z0] at h; omega)) (fun h => kf (by simp only [hr_lti, hr_lei, hr_eqi, hr_z0] at h; omega))
theorem hr_ge (hx : p.tables.exec = Jvm.exec) (hb : c.code = cc) {x y : Int32} {off : Int} {tgt : Nat} (hdg : decode cc pc = .ok (.if_icmp .ge off, 3)) (ht : (pc : Int) + off = (tgt : Int)) (kt : y.toInt ≤ x.toInt → W p l e R s m args below meth c H locs 0 0 Q (F0 m tgt ls rest)) (kf : x.toInt < y.toInt → W p l e R s m args below meth c H locs 0 0 Q (F0 m (pc + 3) ls rest)) : W p l e R s m args below meth c H locs 0 0 Q (F0 m pc ls (.int y :: .int x :: rest)) :=
  lv_icmp_ge hx hb hdg ht (fun h => kt (by simp only [hr_lti, hr_lei, hr_eqi] at h; omega)) (fun h => kf (by simp only [hr_lti, hr_lei, hr_eqi] at h; omega))
theorem hr_ge0 (hx : p.tables.exec = Jvm.exec) (hb : c.code = cc) {x : Int32} {off : Int} {tgt : Nat} (hdg : decode cc pc = .ok (.ifCond .ge off, 3)) (ht : (pc : Int) + off = (tgt : Int)) (kt : 0 ≤ x.toInt → W p l e R s m args below meth c H locs 0 0 Q (F0 m tgt ls rest)) (kf : x.toInt < 0 → W p l e R s m args below meth c H locs 0 0 Q (F0 m (pc + 3) ls rest)) : W p l e R s m args below meth c H locs 0 0 Q (F0 m pc ls (.int x :: rest)) :=
  lv_if_ge hx hb hdg ht (fun h => kt (by simp only [hr_lti, hr_lei, hr_eqi, hr_z0] at h; omega)) (fun h => kf (by simp only [hr_lti, hr_lei, hr_eqi, hr_z0] at h; omega))
theorem hr_gt (hx : p.tables.exec = Jvm.exec) (hb : c.code = cc) {x y : Int32} {off : Int} {tgt : Nat} (hdg : decode cc pc = .ok (.if_icmp .gt off, 3)) (ht : (pc : Int) + off = (tgt : Int)) (kt : y.toInt < x.toInt → W p l e R s m args below meth c H locs 0 0 Q (F0 m tgt ls rest)) (kf : x.toInt ≤ y.toInt → W p l e R s m args below meth c H locs 0 0 Q (F0 m (pc + 3) ls rest)) : W p l e R s m args below meth c H locs 0 0 Q (F0 m pc ls (.int y :: .int x :: rest)) :=
  lv_icmp_gt hx hb hdg ht (fun h => kt (by simp only [hr_lti, hr_lei, hr_eqi] at h; omega)) (fun h => kf (by simp only [hr_lti, hr_lei, hr_eqi] at h; omega))
theorem hr_gt0 (hx : p.tables.exec = Jvm.exec) (hb : c.code = cc) {x : Int32} {off : Int} {tgt : Nat} (hdg : decode cc pc = .ok (.ifCond .gt off, 3)) (ht : (pc : Int) + off = (tgt : Int)) (kt : 0 < x.toInt → W p l e R s m args below meth c H locs 0 0 Q (F0 m tgt ls rest)) (kf : x.toInt ≤ 0 → W p l e R s m args below meth c H locs 0 0 Q (F0 m (pc + 3) ls rest)) : W p l e R s m args below meth c H locs 0 0 Q (F0 m pc ls (.int x :: rest)) :=
  lv_if_gt hx hb hdg ht (fun h => kt (by simp only [hr_lti, hr_lei, hr_eqi, hr_z0] at h; omega)) (fun h => kf (by simp only [hr_lti, hr_lei, hr_eqi, hr_z0] at h; omega))
theorem hr_le (hx : p.tables.exec = Jvm.exec) (hb : c.code = cc) {x y : Int32} {off : Int} {tgt : Nat} (hdg : decode cc pc = .ok (.if_icmp .le off, 3)) (ht : (pc : Int) + off = (tgt : Int)) (kt : x.toInt ≤ y.toInt → W p l e R s m args below meth c H locs 0 0 Q (F0 m tgt ls rest)) (kf : y.toInt < x.toInt → W p l e R s m args below meth c H locs 0 0 Q (F0 m (pc + 3) ls rest)) : W p l e R s m args below meth c H locs 0 0 Q (F0 m pc ls (.int y :: .int x :: rest)) :=
  lv_icmp_le hx hb hdg ht (fun h => kt (by simp only [hr_lti, hr_lei, hr_eqi] at h; omega)) (fun h => kf (by simp only [hr_lti, hr_lei, hr_eqi] at h; omega))
theorem hr_le0 (hx : p.tables.exec = Jvm.exec) (hb : c.code = cc) {x : Int32} {off : Int} {tgt : Nat} (hdg : decode cc pc = .ok (.ifCond .le off, 3)) (ht : (pc : Int) + off = (tgt : Int)) (kt : x.toInt ≤ 0 → W p l e R s m args below meth c H locs 0 0 Q (F0 m tgt ls rest)) (kf : 0 < x.toInt → W p l e R s m args below meth c H locs 0 0 Q (F0 m (pc + 3) ls rest)) : W p l e R s m args below meth c H locs 0 0 Q (F0 m pc ls (.int x :: rest)) :=
  lv_if_le hx hb hdg ht (fun h => kt (by simp only [hr_lti, hr_lei, hr_eqi, hr_z0] at h; omega)) (fun h => kf (by simp only [hr_lti, hr_lei, hr_eqi, hr_z0] at h; omega))
def hr_xo (ty : Nat → Option Nat) (Ex : va_W → Prop) (a ci j : Nat) (v : Value) : Prop := ∃ (ws : va_W) (q : Nat) (fs : List Value), va_D (ck_own ty) ws ∧ Ex ws ∧ ws[q]? = some (a, .inr (ci, fs)) ∧ fs[j]? = some v
def hr_xa (ty : Nat → Option Nat) (Ex : va_W → Prop) (a : Nat) (cy : ClassId) (n i : Nat) (z : Int32) : Prop := ∃ (ws : va_W) (q : Nat) (f : Nat → Int32), va_D (ck_own ty) ws ∧ Ex ws ∧ ws[q]? = some (a, .inl (cy, n, .inl f)) ∧ f i = z
theorem hr_inr {sg : List (Nat × Int × Int)} {i a b : Nat} {z : Int32} {lo hi : Int} (h : ck_in sg i z) (h1 : a ≤ i) (h2 : i ≤ b) (hs : ck_sj sg a b = (lo, hi)) : lo ≤ z.toInt ∧ z.toInt ≤ hi := by
  have := ck_sj_ok h1 h2 sg
  rw [hs] at this
  obtain ⟨g1, g2⟩ := h
  dsimp only at this
  omega
theorem hr_ins {sg : List (Nat × Int × Int)} {i a b : Nat} {z : Int32} (h1 : a ≤ i) (h2 : i ≤ b) {lo hi : Int} (hs : ck_sm sg a b = (lo, hi)) (g1 : lo ≤ z.toInt) (g2 : z.toInt ≤ hi) : ck_in sg i z := by
  have := ck_sm_ok h1 h2 sg
  rw [hs] at this
  dsimp only at this
  exact ⟨by omega, by omega⟩
theorem hr_mono (h : ∀ ws, Ex ws → Ex' ws) (hW : ck_Wo D cys ty tg pvT Ex pvv H) : ck_Wo D cys ty tg pvT Ex' pvv H := by
  obtain ⟨ws, h1, h2, h3, h4, h5⟩ := hW
  exact ⟨ws, h1, h2, h3, h4, h _ h5⟩
theorem hr_pvE {pvv' : Nat → Int32} (h : ∀ (j : Nat) (q : Nat × Nat), pvT[j]? = some q → pvv' j = pvv j) (hW : ck_Wo D cys ty tg pvT Ex pvv' H) : ck_Wo D cys ty tg pvT Ex pvv H := by
  obtain ⟨ws, h1, h2, h3, h4, h5⟩ := hW
  exact ⟨ws, h1, h2, h3, fun j t i hj a ha => by rw [← h j _ hj]; exact h4 j t i hj a ha, h5⟩
theorem hr_getI (B : ck_At p s m args meth c D cys k) (hF : ck_LKf LK) (hb : c.code = cc) (hW : ck_Wo D cys ty tg pvT Ex pvv H) {a t ci j cd index : Nat} {fts : List ck_AV} {lo hi : Int} (hta : ty a = some t) (htd : tg[t]? = some (.inl (ci, fts))) (hl : LK (k_ow k) index = some (.inl (ci, j, cd))) (hft : fts[j]? = some (.inl (lo, hi, []))) (hdg : decode cc pc = .ok (.getfield index, 3))
    (kk : ∀ z : Int32, lo ≤ z.toInt → z.toInt ≤ hi → (∀ q : Nat, pvT[q]? = some (t, j) → z = pvv q) → hr_xo ty Ex a ci j (.int z) → W p l e R s m args below meth c H locs 0 0 Q (F0 m (pc + 3) ls (.int z :: rest))) : W p l e R s m args below meth c H locs 0 0 Q (F0 m pc ls (.ref a :: rest)) := by
  obtain ⟨ws, hP, hD, hT, hV, hE⟩ := hW
  obtain ⟨q, fs, g1, g2, g3⟩ := cm_obj hT hta htd
  obtain ⟨v, h4, x, rfl, h5, h6, -⟩ := g3 j _ hft
  refine cm_get B hF hb hP g1 hl h4 hdg (kk x h5 h6 (fun i hi => ?_) ⟨ws, q, fs, hD, hE, g1, h4⟩)
  obtain ⟨q', en', w1, w2⟩ := hV i t j hi a hta
  have w3 := (ck_D1 hD g1 w1).2
  subst w3
  have w2 : fs[j]? = some (.int (pvv i)) := w2
  rw [h4] at w2
  cases w2
  rfl
theorem hr_getR (B : ck_At p s m args meth c D cys k) (hF : ck_LKf LK) (hb : c.code = cc) (hW : ck_Wo D cys ty tg pvT Ex pvv H) {a t ci j cd index t' : Nat} {fts : List ck_AV} (hta : ty a = some t) (htd : tg[t]? = some (.inl (ci, fts))) (hl : LK (k_ow k) index = some (.inl (ci, j, cd))) (hft : fts[j]? = some (.inr (.inl t'))) (hdg : decode cc pc = .ok (.getfield index, 3))
    (kk : ∀ a' : Nat, ty a' = some t' → hr_xo ty Ex a ci j (.ref a') → W p l e R s m args below meth c H locs 0 0 Q (F0 m (pc + 3) ls (.ref a' :: rest))) : W p l e R s m args below meth c H locs 0 0 Q (F0 m pc ls (.ref a :: rest)) := by
  obtain ⟨ws, hP, hD, hT, hV, hE⟩ := hW
  obtain ⟨q, fs, g1, g2, g3⟩ := cm_obj hT hta htd
  obtain ⟨v, h4, x, rfl, h5⟩ := g3 j _ hft
  exact cm_get B hF hb hP g1 hl h4 hdg (kk x h5 ⟨ws, q, fs, hD, hE, g1, h4⟩)
theorem hr_getL (B : ck_At p s m args meth c D cys k) (hF : ck_LKf LK) (hb : c.code = cc) (hW : ck_Wo D cys ty tg pvT Ex pvv H) {a t ci j cd index : Nat} {fts : List ck_AV} (hta : ty a = some t) (htd : tg[t]? = some (.inl (ci, fts))) (hl : LK (k_ow k) index = some (.inl (ci, j, cd))) (hft : fts[j]? = some (.inr (.inr ()))) (hdg : decode cc pc = .ok (.getfield index, 3))
    (kk : ∀ z : Int64, W p l e R s m args below meth c H locs 0 0 Q (F0 m (pc + 3) ls (.long z :: rest))) : W p l e R s m args below meth c H locs 0 0 Q (F0 m pc ls (.ref a :: rest)) := by
  obtain ⟨ws, hP, hD, hT, hV, hE⟩ := hW
  obtain ⟨q, fs, g1, g2, g3⟩ := cm_obj hT hta htd
  obtain ⟨v, h4, x, rfl⟩ := g3 j _ hft
  exact cm_get B hF hb hP g1 hl h4 hdg (kk x)
theorem hr_XT : ck_ExP ty (fun _ => []) (fun _ => True) := fun _ _ _ _ _ _ _ _ _ _ _ => True.intro
theorem hr_putG (B : ck_At p s m args meth c D cys k) (hF : ck_LKf LK) (hb : c.code = cc) (hU : ck_uq ty pvT) (hW : ck_Wo D cys ty tg pvT Ex pvv H) (hS : va_S (ck_own ty) H0 H locs) {a t ci j cd index : Nat} {fts : List ck_AV} {lo hi : Int} (hta : ty a = some t) (htd : tg[t]? = some (.inl (ci, fts))) (hl : LK (k_ow k) index = some (.inl (ci, j, cd))) (hft : fts[j]? = some (.inl (lo, hi, []))) {x : Int32} (h1 : lo ≤ x.toInt) (h2 : x.toInt ≤ hi) (hcd : cd = 0 ∨ cd = 1 ∧ 0 ≤ x.toInt ∧ x.toInt ≤ 1)
    (hE : ∀ (ws : va_W) (q : Nat) (fs : List Value), va_D (ck_own ty) ws → fs.length = fts.length → Ex ws → ws[q]? = some (a, .inr (ci, fs)) → Ex' (ws.set q (a, .inr (ci, fs.set j (.int x))))) (hdg : decode cc pc = .ok (.putfield index, 3))
    (kk : ∀ (H1 : Heap) (locs1 : List Loc) (pvv' : Nat → Int32), ck_Wo D cys ty tg pvT Ex' pvv' H1 → va_S (ck_own ty) H0 H1 locs1 → (∀ q : Nat, pvT[q]? = some (t, j) → pvv' q = x) → (∀ q : Nat, pvT[q]? ≠ some (t, j) → pvv' q = pvv q) → W p l e R s m args below meth c H1 locs1 0 0 Q (F0 m (pc + 3) ls rest)) : W p l e R s m args below meth c H locs 0 0 Q (F0 m pc ls (.int x :: .ref a :: rest)) := by
  obtain ⟨ws, hP, hD, hT, hV, hX⟩ := hW
  obtain ⟨q, fs, g1, g2, g3⟩ := cm_obj hT hta htd
  have hjl : j < fs.length := by rw [g2]; exact (List.getElem?_eq_some_iff.mp hft).1
  refine cm_put B hF hb hP hD hS g1 hl hcd hjl hdg (fun H1 locs1 hP1 hD1 hS1 => ?_)
  obtain ⟨n1, n2, -⟩ := ck_set (Ex := fun _ => True) (prot := fun _ => []) (en' := .inr (ci, fs.set j (.int x))) (pvv' := fun i => if pvT[i]? = some (t, j) then x else pvv i) hD hT hV True.intro hr_XT g1 hta htd ⟨fs.set j (.int x), rfl, by rw [List.length_set]; exact g2, fun k' ft' hk' => by
      by_cases hkk : j = k'
      · subst hkk
        rw [hft] at hk'
        cases hk'
        exact ⟨_, by rw [List.getElem?_set_self hjl], x, rfl, h1, h2, fun d h => nomatch h⟩
      · obtain ⟨v', w1, w2⟩ := g3 k' ft' hk'
        exact ⟨v', by rw [List.getElem?_set_ne hkk]; exact w1, w2⟩⟩
    ⟨rfl, by rw [List.length_set], fun k' hk' => by obtain ⟨_, h, -⟩ := hk'; cases h⟩
    (fun i t' k' hj => ⟨fun htt => by
      subst htt
      refine ⟨fun a' h' => hU i t' k' hj a a' hta h', ?_⟩
      show (fs.set j (.int x))[k']? = some (.int (if pvT[i]? = some (t', j) then x else pvv i))
      by_cases hkk : j = k'
      · subst hkk
        rw [List.getElem?_set_self hjl, if_pos hj]
      · rw [List.getElem?_set_ne hkk]
        have hne : pvT[i]? ≠ some (t', j) := by rw [hj]; intro z; cases z; exact hkk rfl
        rw [if_neg hne]
        obtain ⟨q', en', w1, w2⟩ := hV i t' k' hj a hta
        have w3 := (ck_D1 hD g1 w1).2
        subst w3
        exact w2, fun htt => by
      have hne : pvT[i]? ≠ some (t, j) := by rw [hj]; intro z; cases z; exact htt rfl
      rw [if_neg hne]⟩)
  exact kk H1 locs1 _ ⟨_, hP1, hD1, n1, n2, hE ws q fs hD g2 hX g1⟩ hS1 (fun q hq => by rw [if_pos hq]) (fun q hq => by rw [if_neg hq])
theorem hr_putN (B : ck_At p s m args meth c D cys k) (hF : ck_LKf LK) (hb : c.code = cc) (hU : ck_uq ty pvT) (hW : ck_Wo D cys ty tg pvT Ex pvv H) (hS : va_S (ck_own ty) H0 H locs) {a t ci j cd index : Nat} {fts : List ck_AV} {lo hi : Int} (hta : ty a = some t) (htd : tg[t]? = some (.inl (ci, fts))) (hl : LK (k_ow k) index = some (.inl (ci, j, cd))) (hft : fts[j]? = some (.inl (lo, hi, []))) {x : Int32} (h1 : lo ≤ x.toInt) (h2 : x.toInt ≤ hi) (hcd : cd = 0 ∨ cd = 1 ∧ 0 ≤ x.toInt ∧ x.toInt ≤ 1)
    (hE : ∀ (ws : va_W) (q : Nat) (fs : List Value), va_D (ck_own ty) ws → fs.length = fts.length → Ex ws → ws[q]? = some (a, .inr (ci, fs)) → Ex' (ws.set q (a, .inr (ci, fs.set j (.int x))))) (hnf : ck_nfr pvT t j j = true) (hdg : decode cc pc = .ok (.putfield index, 3))
    (kk : ∀ (H1 : Heap) (locs1 : List Loc), ck_Wo D cys ty tg pvT Ex' pvv H1 → va_S (ck_own ty) H0 H1 locs1 → W p l e R s m args below meth c H1 locs1 0 0 Q (F0 m (pc + 3) ls rest)) : W p l e R s m args below meth c H locs 0 0 Q (F0 m pc ls (.int x :: .ref a :: rest)) :=
  hr_putG B hF hb hU hW hS hta htd hl hft h1 h2 hcd hE hdg (fun H1 locs1 pvv' a1 a2 _ a4 => by
    have e : pvv' = pvv := funext (fun q => a4 q (ck_nfr_ok hnf (Nat.le_refl _) (Nat.le_refl _) q))
    subst e
    exact kk H1 locs1 a1 a2)
theorem hr_updE {pvv' : Nat → Int32} {q0 : Nat} {r : Nat × Nat} {x : Int32} (hI : ∀ (i j : Nat) (q : Nat × Nat), pvT[i]? = some q → pvT[j]? = some q → i = j) (hq0 : pvT[q0]? = some r) (h1 : ∀ q : Nat, pvT[q]? = some r → pvv' q = x) (h2 : ∀ q : Nat, pvT[q]? ≠ some r → pvv' q = pvv q) : pvv' = upd pvv q0 x := by
  funext q
  by_cases e : q = q0
  · subst e
    rw [pk_us]
    exact h1 _ hq0
  · rw [pk_un e]
    exact h2 q (fun h => e (hI q q0 _ h hq0))
theorem hr_putP (B : ck_At p s m args meth c D cys k) (hF : ck_LKf LK) (hb : c.code = cc) (hU : ck_uq ty pvT) (hW : ck_Wo D cys ty tg pvT Ex pvv H) (hS : va_S (ck_own ty) H0 H locs) {a t ci j cd index : Nat} {fts : List ck_AV} {lo hi : Int} (hta : ty a = some t) (htd : tg[t]? = some (.inl (ci, fts))) (hl : LK (k_ow k) index = some (.inl (ci, j, cd))) (hft : fts[j]? = some (.inl (lo, hi, []))) {x : Int32} (h1 : lo ≤ x.toInt) (h2 : x.toInt ≤ hi) (hcd : cd = 0 ∨ cd = 1 ∧ 0 ≤ x.toInt ∧ x.toInt ≤ 1)
    (hE : ∀ (ws : va_W) (q : Nat) (fs : List Value), va_D (ck_own ty) ws → fs.length = fts.length → Ex ws → ws[q]? = some (a, .inr (ci, fs)) → Ex' (ws.set q (a, .inr (ci, fs.set j (.int x))))) (hI : ∀ (i j : Nat) (q : Nat × Nat), pvT[i]? = some q → pvT[j]? = some q → i = j) {q0 : Nat} (hq0 : pvT[q0]? = some (t, j)) (hdg : decode cc pc = .ok (.putfield index, 3))
    (kk : ∀ (H1 : Heap) (locs1 : List Loc), ck_Wo D cys ty tg pvT Ex' (upd pvv q0 x) H1 → va_S (ck_own ty) H0 H1 locs1 → W p l e R s m args below meth c H1 locs1 0 0 Q (F0 m (pc + 3) ls rest)) : W p l e R s m args below meth c H locs 0 0 Q (F0 m pc ls (.int x :: .ref a :: rest)) :=
  hr_putG B hF hb hU hW hS hta htd hl hft h1 h2 hcd hE hdg (fun H1 locs1 pvv' a1 a2 a3 a4 => by
    have e : pvv' = upd pvv q0 x := hr_updE hI hq0 a3 a4
    subst e
    exact kk H1 locs1 a1 a2)
theorem hr_iald (B : ck_At p s m args meth c D cys k) (hb : c.code = cc) (hW : ck_Wo D cys ty tg pvT Ex pvv H) {a t n et : Nat} {sg : List (Nat × Int × Int)} (hta : ty a = some t) (htd : tg[t]? = some (.inr (0, n, sg, et))) {i : Int32} (h0 : 0 ≤ i.toInt) (h1 : i.toInt < n) (hdg : decode cc pc = .ok (.iaload, 1))
    (kk : ∀ z : Int32, ck_in sg i.toInt.toNat z → (∀ q : Nat, pvT[q]? = some (t, i.toInt.toNat) → z = pvv q) → hr_xa ty Ex a (cys 0) n i.toInt.toNat z → W p l e R s m args below meth c H locs 0 0 Q (F0 m (pc + 1) ls (.int z :: rest))) : W p l e R s m args below meth c H locs 0 0 Q (F0 m pc ls (.int i :: .ref a :: rest)) := by
  obtain ⟨ws, hP, hD, hT, hV, hE⟩ := hW
  obtain ⟨q, f, g1, g2⟩ := ck_arrI hT hta htd (by omega)
  refine va_iald B.1 hb B.2.2.2.2.2.2.2.1 hP q 0 g1 rfl (ck_vin h0 h1) hdg (kk _ (g2 i.toInt.toNat (by omega)) (fun j hj => ?_) ⟨ws, q, f, hD, hE, g1, rfl⟩)
  obtain ⟨q', en', w1, w2⟩ := hV j t _ hj a hta
  have w3 := (ck_D1 hD g1 w1).2
  subst w3
  exact w2
theorem hr_zald (B : ck_At p s m args meth c D cys k) (hb : c.code = cc) (hW : ck_Wo D cys ty tg pvT Ex pvv H) {a t n et : Nat} {sg : List (Nat × Int × Int)} (hta : ty a = some t) (htd : tg[t]? = some (.inr (2, n, sg, et))) {i : Int32} (h0 : 0 ≤ i.toInt) (h1 : i.toInt < n) (hdg : decode cc pc = .ok (.baload, 1))
    (kk : ∀ z : Int32, ck_in sg i.toInt.toNat z → (∀ q : Nat, pvT[q]? = some (t, i.toInt.toNat) → z = pvv q) → hr_xa ty Ex a (cys 2) n i.toInt.toNat z → W p l e R s m args below meth c H locs 0 0 Q (F0 m (pc + 1) ls (.int z :: rest))) : W p l e R s m args below meth c H locs 0 0 Q (F0 m pc ls (.int i :: .ref a :: rest)) := by
  obtain ⟨ws, hP, hD, hT, hV, hE⟩ := hW
  obtain ⟨q, f, g1, g2⟩ := ck_arrI hT hta htd (by omega)
  refine va_zald B.1 hb B.2.2.2.2.2.2.2.1 hP q 2 g1 rfl (ck_vin h0 h1) hdg (kk _ (g2 i.toInt.toNat (by omega)) (fun j hj => ?_) ⟨ws, q, f, hD, hE, g1, rfl⟩)
  obtain ⟨q', en', w1, w2⟩ := hV j t _ hj a hta
  have w3 := (ck_D1 hD g1 w1).2
  subst w3
  exact w2
theorem hr_stI {ws : va_W} {a t kd n et q : Nat} {sg : List (Nat × Int × Int)} {f : Nat → Int32} {i : Nat} {x : Int32} (hU : ck_uq ty pvT) (hD : va_D (ck_own ty) ws) (hT : ck_typed ty cys tg ws) (hV : ck_pvs ty pvT pvv ws) (hta : ty a = some t) (htd : tg[t]? = some (.inr (kd, n, sg, et))) (hkd : kd < 3) (g1 : ws[q]? = some (a, .inl (cys kd, n, .inl f))) (g2 : ∀ j, j < n → ck_in sg j (f j)) (hx : ck_in sg i x) :
    ∃ pvv' : Nat → Int32, (ck_typed ty cys tg (ws.set q (a, .inl (cys kd, n, .inl (upd f i x)))) ∧ ck_pvs ty pvT pvv' (ws.set q (a, .inl (cys kd, n, .inl (upd f i x))))) ∧ (∀ j : Nat, pvT[j]? = some (t, i) → pvv' j = x) ∧ (∀ j : Nat, pvT[j]? ≠ some (t, i) → pvv' j = pvv j) := by
  obtain ⟨pvv', ⟨n1, n2, -⟩, n4, n5⟩ := ck_stI (Ex := fun _ => True) (prot := fun _ => []) (i := i) (x := x) hU hD hT hV True.intro hr_XT hta htd hkd g1 g2 hx (by rintro ⟨_, h, -⟩; cases h)
  exact ⟨pvv', ⟨n1, n2⟩, n4, n5⟩
theorem hr_iastG (B : ck_At p s m args meth c D cys k) (hb : c.code = cc) (hU : ck_uq ty pvT) (hW : ck_Wo D cys ty tg pvT Ex pvv H) (hS : va_S (ck_own ty) H0 H locs) {a t n et : Nat} {sg : List (Nat × Int × Int)} (hta : ty a = some t) (htd : tg[t]? = some (.inr (0, n, sg, et))) {i x : Int32} (h0 : 0 ≤ i.toInt) (h1 : i.toInt < n) (hx : ck_in sg i.toInt.toNat x)
    (hE : ∀ (ws : va_W) (q : Nat) (f : Nat → Int32), va_D (ck_own ty) ws → Ex ws → ws[q]? = some (a, .inl (cys 0, n, .inl f)) → Ex' (ws.set q (a, .inl (cys 0, n, .inl (upd f i.toInt.toNat x))))) (hdg : decode cc pc = .ok (.iastore, 1))
    (kk : ∀ (H1 : Heap) (locs1 : List Loc) (pvv' : Nat → Int32), ck_Wo D cys ty tg pvT Ex' pvv' H1 → va_S (ck_own ty) H0 H1 locs1 → (∀ q : Nat, pvT[q]? = some (t, i.toInt.toNat) → pvv' q = x) → (∀ q : Nat, pvT[q]? ≠ some (t, i.toInt.toNat) → pvv' q = pvv q) → W p l e R s m args below meth c H1 locs1 0 0 Q (F0 m (pc + 1) ls rest)) : W p l e R s m args below meth c H locs 0 0 Q (F0 m pc ls (.int x :: .int i :: .ref a :: rest)) := by
  obtain ⟨ws, hP, hD, hT, hV, hX⟩ := hW
  obtain ⟨q, f, g1, g2⟩ := ck_arrI hT hta htd (by omega)
  refine va_iast B.1 hb B.2.2.2.2.2.2.2.1 hP hD hS q 0 g1 rfl (ck_vin h0 h1) hdg (fun H1 locs1 hP1 hD1 hS1 => ?_)
  obtain ⟨pvv', ⟨n1, n2⟩, n4, n5⟩ := hr_stI (i := i.toNatClampNeg) (x := x) hU hD hT hV hta htd (by omega) g1 g2 hx
  exact kk H1 locs1 pvv' ⟨_, hP1, hD1, n1, n2, hE ws q f hD hX g1⟩ hS1 n4 n5
theorem hr_iastN (B : ck_At p s m args meth c D cys k) (hb : c.code = cc) (hU : ck_uq ty pvT) (hW : ck_Wo D cys ty tg pvT Ex pvv H) (hS : va_S (ck_own ty) H0 H locs) {a t n et : Nat} {sg : List (Nat × Int × Int)} (hta : ty a = some t) (htd : tg[t]? = some (.inr (0, n, sg, et))) {i x : Int32} (h0 : 0 ≤ i.toInt) (h1 : i.toInt < n) (hx : ck_in sg i.toInt.toNat x)
    (hE : ∀ (ws : va_W) (q : Nat) (f : Nat → Int32), va_D (ck_own ty) ws → Ex ws → ws[q]? = some (a, .inl (cys 0, n, .inl f)) → Ex' (ws.set q (a, .inl (cys 0, n, .inl (upd f i.toInt.toNat x))))) {u v : Nat} (hu : u ≤ i.toInt.toNat) (hv : i.toInt.toNat ≤ v) (hnf : ck_nfr pvT t u v = true) (hdg : decode cc pc = .ok (.iastore, 1))
    (kk : ∀ (H1 : Heap) (locs1 : List Loc), ck_Wo D cys ty tg pvT Ex' pvv H1 → va_S (ck_own ty) H0 H1 locs1 → W p l e R s m args below meth c H1 locs1 0 0 Q (F0 m (pc + 1) ls rest)) : W p l e R s m args below meth c H locs 0 0 Q (F0 m pc ls (.int x :: .int i :: .ref a :: rest)) :=
  hr_iastG B hb hU hW hS hta htd h0 h1 hx hE hdg (fun H1 locs1 pvv' a1 a2 _ a4 => by
    have e : pvv' = pvv := funext (fun q => a4 q (ck_nfr_ok hnf hu hv q))
    subst e
    exact kk H1 locs1 a1 a2)
theorem hr_iastP (B : ck_At p s m args meth c D cys k) (hb : c.code = cc) (hU : ck_uq ty pvT) (hW : ck_Wo D cys ty tg pvT Ex pvv H) (hS : va_S (ck_own ty) H0 H locs) {a t n et : Nat} {sg : List (Nat × Int × Int)} (hta : ty a = some t) (htd : tg[t]? = some (.inr (0, n, sg, et))) {i x : Int32} (h0 : 0 ≤ i.toInt) (h1 : i.toInt < n) (hx : ck_in sg i.toInt.toNat x)
    (hE : ∀ (ws : va_W) (q : Nat) (f : Nat → Int32), va_D (ck_own ty) ws → Ex ws → ws[q]? = some (a, .inl (cys 0, n, .inl f)) → Ex' (ws.set q (a, .inl (cys 0, n, .inl (upd f i.toInt.toNat x))))) (hI : ∀ (i j : Nat) (q : Nat × Nat), pvT[i]? = some q → pvT[j]? = some q → i = j) {q0 w : Nat} (hw : i.toInt.toNat = w) (hq0 : pvT[q0]? = some (t, w)) (hdg : decode cc pc = .ok (.iastore, 1))
    (kk : ∀ (H1 : Heap) (locs1 : List Loc), ck_Wo D cys ty tg pvT Ex' (upd pvv q0 x) H1 → va_S (ck_own ty) H0 H1 locs1 → W p l e R s m args below meth c H1 locs1 0 0 Q (F0 m (pc + 1) ls rest)) : W p l e R s m args below meth c H locs 0 0 Q (F0 m pc ls (.int x :: .int i :: .ref a :: rest)) :=
  hr_iastG B hb hU hW hS hta htd h0 h1 hx hE hdg (fun H1 locs1 pvv' a1 a2 a3 a4 => by
    rw [hw] at a3 a4
    have e : pvv' = upd pvv q0 x := hr_updE hI hq0 a3 a4
    subst e
    exact kk H1 locs1 a1 a2)
theorem hr_zastG (B : ck_At p s m args meth c D cys k) (hb : c.code = cc) (hU : ck_uq ty pvT) (hW : ck_Wo D cys ty tg pvT Ex pvv H) (hS : va_S (ck_own ty) H0 H locs) {a t n et : Nat} {sg : List (Nat × Int × Int)} (hta : ty a = some t) (htd : tg[t]? = some (.inr (2, n, sg, et))) {i x : Int32} (h0 : 0 ≤ i.toInt) (h1 : i.toInt < n) (hx : ck_in sg i.toInt.toNat x) (hx2 : 0 ≤ x.toInt ∧ x.toInt ≤ 1)
    (hE : ∀ (ws : va_W) (q : Nat) (f : Nat → Int32), va_D (ck_own ty) ws → Ex ws → ws[q]? = some (a, .inl (cys 2, n, .inl f)) → Ex' (ws.set q (a, .inl (cys 2, n, .inl (upd f i.toInt.toNat x))))) (hdg : decode cc pc = .ok (.bastore, 1))
    (kk : ∀ (H1 : Heap) (locs1 : List Loc) (pvv' : Nat → Int32), ck_Wo D cys ty tg pvT Ex' pvv' H1 → va_S (ck_own ty) H0 H1 locs1 → (∀ q : Nat, pvT[q]? = some (t, i.toInt.toNat) → pvv' q = x) → (∀ q : Nat, pvT[q]? ≠ some (t, i.toInt.toNat) → pvv' q = pvv q) → W p l e R s m args below meth c H1 locs1 0 0 Q (F0 m (pc + 1) ls rest)) : W p l e R s m args below meth c H locs 0 0 Q (F0 m pc ls (.int x :: .int i :: .ref a :: rest)) := by
  obtain ⟨ws, hP, hD, hT, hV, hX⟩ := hW
  obtain ⟨q, f, g1, g2⟩ := ck_arrI hT hta htd (by omega)
  refine va_zast B.1 hb B.2.2.2.2.2.2.2.1 hP hD hS q 2 g1 rfl (ck_vin h0 h1) hdg (fun H1 locs1 hP1 hD1 hS1 => ?_)
  rw [ck_nb2 hx2] at hP1 hD1
  obtain ⟨pvv', ⟨n1, n2⟩, n4, n5⟩ := hr_stI (i := i.toNatClampNeg) (x := x) hU hD hT hV hta htd (by omega) g1 g2 hx
  exact kk H1 locs1 pvv' ⟨_, hP1, hD1, n1, n2, hE ws q f hD hX g1⟩ hS1 n4 n5
theorem hr_zastN (B : ck_At p s m args meth c D cys k) (hb : c.code = cc) (hU : ck_uq ty pvT) (hW : ck_Wo D cys ty tg pvT Ex pvv H) (hS : va_S (ck_own ty) H0 H locs) {a t n et : Nat} {sg : List (Nat × Int × Int)} (hta : ty a = some t) (htd : tg[t]? = some (.inr (2, n, sg, et))) {i x : Int32} (h0 : 0 ≤ i.toInt) (h1 : i.toInt < n) (hx : ck_in sg i.toInt.toNat x) (hx2 : 0 ≤ x.toInt ∧ x.toInt ≤ 1)
    (hE : ∀ (ws : va_W) (q : Nat) (f : Nat → Int32), va_D (ck_own ty) ws → Ex ws → ws[q]? = some (a, .inl (cys 2, n, .inl f)) → Ex' (ws.set q (a, .inl (cys 2, n, .inl (upd f i.toInt.toNat x))))) {u v : Nat} (hu : u ≤ i.toInt.toNat) (hv : i.toInt.toNat ≤ v) (hnf : ck_nfr pvT t u v = true) (hdg : decode cc pc = .ok (.bastore, 1))
    (kk : ∀ (H1 : Heap) (locs1 : List Loc), ck_Wo D cys ty tg pvT Ex' pvv H1 → va_S (ck_own ty) H0 H1 locs1 → W p l e R s m args below meth c H1 locs1 0 0 Q (F0 m (pc + 1) ls rest)) : W p l e R s m args below meth c H locs 0 0 Q (F0 m pc ls (.int x :: .int i :: .ref a :: rest)) :=
  hr_zastG B hb hU hW hS hta htd h0 h1 hx hx2 hE hdg (fun H1 locs1 pvv' a1 a2 _ a4 => by
    have e : pvv' = pvv := funext (fun q => a4 q (ck_nfr_ok hnf hu hv q))
    subst e
    exact kk H1 locs1 a1 a2)
theorem hr_EO (hX : ck_ExP ty prot Ex) {a t ci j : Nat} {x : Int32} {fts : List ck_AV} (hta : ty a = some t) (hf : ck_fre (prot t) j j = true) : ∀ (ws : va_W) (q : Nat) (fs : List Value), va_D (ck_own ty) ws → fs.length = fts.length → Ex ws → ws[q]? = some (a, .inr (ci, fs)) → Ex (ws.set q (a, .inr (ci, fs.set j (.int x)))) := by
  intro ws q fs hD _ hE hq
  refine hX ws q a t _ _ hD hq hta ⟨rfl, by rw [List.length_set], fun k' hk' => ?_⟩ hE
  have : j ≠ k' := fun z => ck_fre_ok hf (Nat.le_refl _) (Nat.le_refl _) (z ▸ hk')
  dsimp only
  rw [List.getElem?_set_ne this]
theorem hr_EA (hX : ck_ExP ty prot Ex) {a t n kd : Nat} {i x : Int32} (hta : ty a = some t) {u v : Nat} (hu : u ≤ i.toInt.toNat) (hv : i.toInt.toNat ≤ v) (hf : ck_fre (prot t) u v = true) : ∀ (ws : va_W) (q : Nat) (f : Nat → Int32), va_D (ck_own ty) ws → Ex ws → ws[q]? = some (a, .inl (cys kd, n, .inl f)) → Ex (ws.set q (a, .inl (cys kd, n, .inl (upd f i.toInt.toNat x)))) := by
  intro ws q f hD hE hq
  refine hX ws q a t _ _ hD hq hta ⟨rfl, rfl, fun k' hk' => ?_⟩ hE
  have : k' ≠ i.toInt.toNat := fun z => ck_fre_ok hf hu hv (z ▸ hk')
  rw [pk_un this]
def tk (ty : Nat → Option Nat) (pq : Nat → List (Nat × Nat)) (C : Nat → Nat → Int32) (ws : va_W) : Prop := ∀ (a t q : Nat) (en : va_E), ty a = some t → ws[q]? = some (a, en) → ∀ j : Nat, ck_pr (pq t) j → ck_has en j (C t j)
def tk_upd (C : Nat → Nat → Int32) (t j : Nat) (x : Int32) : Nat → Nat → Int32 := fun t' j' => if t' = t ∧ j' = j then x else C t' j'
theorem tk_us {C : Nat → Nat → Int32} {t j : Nat} {x : Int32} : tk_upd C t j x t j = x := by simp [tk_upd]
theorem tk_un {C : Nat → Nat → Int32} {t j t' j' : Nat} {x : Int32} (h : ¬ (t' = t ∧ j' = j)) : tk_upd C t j x t' j' = C t' j' := by simp [tk_upd, h]
theorem tk_unt {C : Nat → Nat → Int32} {t j t' j' : Nat} {x : Int32} (h : t' ≠ t) : tk_upd C t j x t' j' = C t' j' := tk_un (fun q => h q.1)
theorem tk_unj {C : Nat → Nat → Int32} {t j t' j' : Nat} {x : Int32} (h : j' ≠ j) : tk_upd C t j x t' j' = C t' j' := tk_un (fun q => h q.2)
theorem tk_xo {pq : Nat → List (Nat × Nat)} {C : Nat → Nat → Int32} {a t ci j : Nat} {z : Int32} (h : hr_xo ty Ex a ci j (.int z)) (hE : ∀ ws, Ex ws → tk ty pq C ws) (hta : ty a = some t) (hp : ck_fre (pq t) j j = false) : z = C t j := by
  obtain ⟨ws, q, fs, h1, h2, h3, h4⟩ := h
  have hp' : ck_pr (pq t) j := by
    unfold ck_fre at hp
    rw [List.all_eq_false] at hp
    obtain ⟨r, hr, h⟩ := hp
    simp only [Bool.or_eq_true, decide_eq_true_eq] at h
    exact ⟨r, hr, by omega, by omega⟩
  have h5 : fs[j]? = some (.int (C t j)) := hE ws h2 a t q _ hta h3 j hp'
  rw [h4] at h5
  cases h5
  rfl
theorem tk_xa {pq : Nat → List (Nat × Nat)} {C : Nat → Nat → Int32} {a t n i : Nat} {cy : ClassId} {z : Int32} (h : hr_xa ty Ex a cy n i z) (hE : ∀ ws, Ex ws → tk ty pq C ws) (hta : ty a = some t) (hp : ck_pr (pq t) i) : z = C t i := by
  obtain ⟨ws, q, f, h1, h2, h3, h4⟩ := h
  have h5 : f i = C t i := hE ws h2 a t q _ hta h3 i hp
  rw [← h5, h4]
theorem tk_ExP {pq : Nat → List (Nat × Nat)} {C : Nat → Nat → Int32} (hpp : ∀ t j, ck_pr (pq t) j → ck_pr (prot t) j) : ck_ExP ty prot (tk ty pq C) := by
  intro ws q a t en en' hD hq hta hag hk a' t' q' en2 hta' hq' j hj
  by_cases e : q = q'
  · subst e
    have hlt : q < ws.length := (List.getElem?_eq_some_iff.mp hq).1
    rw [List.getElem?_set_self hlt] at hq'
    cases hq'
    rw [hta] at hta'
    cases hta'
    have h1 := hk a t q en hta hq j hj
    have h2 := hpp t j hj
    match en, en', hag, h1 with
    | .inr o1, .inr o2, hag, h1 =>
      have h3 := hag.2.2 j h2
      show o2.2[j]? = some (.int (C t j))
      rw [← h3]
      exact h1
    | .inl a1, .inl a2, hag, h1 =>
      obtain ⟨-, -, h3⟩ := hag
      obtain ⟨b1, b2, b3⟩ := a1
      obtain ⟨d1, d2, d3⟩ := a2
      match b3, d3, h3, h1 with
      | .inl f, .inl g, h3, h1 =>
        have h4 : f j = g j := h3 j h2
        show g j = C t j
        rw [← h4]
        exact h1
      | .inr (.inl f), .inr (.inl g), h3, h1 =>
        have h4 : ck_half f j = ck_half g j := h3 j h2
        show ck_half g j = C t j
        rw [← h4]
        exact h1
  · rw [List.getElem?_set_ne e] at hq'
    exact hk a' t' q' en2 hta' hq' j hj
theorem tk_EO {pq : Nat → List (Nat × Nat)} {C : Nat → Nat → Int32} {a t ci j : Nat} {x : Int32} {fts : List ck_AV} (hta : ty a = some t) (hun : ∀ a', ty a' = some t → a' = a) (hj : j < fts.length) : ∀ (ws : va_W) (q : Nat) (fs : List Value), va_D (ck_own ty) ws → fs.length = fts.length → tk ty pq C ws → ws[q]? = some (a, .inr (ci, fs)) → tk ty pq (tk_upd C t j x) (ws.set q (a, .inr (ci, fs.set j (.int x)))) := by
  intro ws q fs hD hfl hk hq a' t' q' en hta' hq' i hi
  by_cases e : q = q'
  · subst e
    have hlt : q < ws.length := (List.getElem?_eq_some_iff.mp hq).1
    rw [List.getElem?_set_self hlt] at hq'
    cases hq'
    rw [hta] at hta'
    cases hta'
    show (fs.set j (.int x))[i]? = some (.int (tk_upd C t j x t i))
    by_cases ei : i = j
    · subst ei
      rw [List.getElem?_set_self (by omega), tk_us]
    · rw [List.getElem?_set_ne (fun z => ei z.symm), tk_unj ei]
      exact hk a t q _ hta hq i hi
  · rw [List.getElem?_set_ne e] at hq'
    have ht : t' ≠ t := fun z => by
      subst z
      have := hun a' hta'
      subst this
      exact e (ck_D1 hD hq' hq).1
    rw [tk_unt ht]
    exact hk a' t' q' en hta' hq' i hi
theorem tk_EA {pq : Nat → List (Nat × Nat)} {C : Nat → Nat → Int32} {a t n kd : Nat} {i x : Int32} (hta : ty a = some t) (hun : ∀ a', ty a' = some t → a' = a) : ∀ (ws : va_W) (q : Nat) (f : Nat → Int32), va_D (ck_own ty) ws → tk ty pq C ws → ws[q]? = some (a, .inl (cys kd, n, .inl f)) → tk ty pq (tk_upd C t i.toInt.toNat x) (ws.set q (a, .inl (cys kd, n, .inl (upd f i.toInt.toNat x)))) := by
  intro ws q f hD hk hq a' t' q' en hta' hq' j hj
  by_cases e : q = q'
  · subst e
    have hlt : q < ws.length := (List.getElem?_eq_some_iff.mp hq).1
    rw [List.getElem?_set_self hlt] at hq'
    cases hq'
    rw [hta] at hta'
    cases hta'
    show upd f i.toInt.toNat x j = tk_upd C t i.toInt.toNat x t j
    by_cases ei : j = i.toInt.toNat
    · subst ei
      rw [pk_us, tk_us]
    · rw [pk_un ei, tk_unj ei]
      exact hk a t q _ hta hq j hj
  · rw [List.getElem?_set_ne e] at hq'
    have ht : t' ≠ t := fun z => by
      subst z
      have := hun a' hta'
      subst this
      exact e (ck_D1 hD hq' hq).1
    rw [tk_unt ht]
    exact hk a' t' q' en hta' hq' j hj
/-- any contents stand in some table -/
def tk_of (ty : Nat → Option Nat) (ws : va_W) : Prop := True
theorem hr_aI {X : Nat → Int} {lo hi : Int} {z : Int32} (h1 : lo ≤ z.toInt) (h2 : z.toInt ≤ hi) : ck_v ty X (.inl (lo, hi, [])) (.int z) := ⟨z, rfl, h1, h2, fun d h => nomatch h⟩
theorem hr_aF {X : Nat → Int} {z : Int32} : ck_v ty X (.inl (-2147483648, 2147483647, [])) (.int z) := ⟨z, rfl, ck_lo z, ck_hi z, fun d h => nomatch h⟩
theorem hr_aR {X : Nat → Int} {a t : Nat} (h : ty a = some t) : ck_v ty X (.inr (.inl t)) (.ref a) := ⟨a, rfl, h⟩
theorem hr_aL {X : Nat → Int} {z : Int64} : ck_v ty X (.inr (.inr ())) (.long z) := ⟨z, rfl⟩
theorem hr_rvI {lo hi : Int} {ds : List (Nat × Int × Int)} {r : Option Value} (h : ck_rv ty (some (.inl (lo, hi, ds))) r) : ∃ z : Int32, r = some (.int z) ∧ lo ≤ z.toInt ∧ z.toInt ≤ hi := by
  match r, h with
  | some v, h =>
    obtain ⟨z, rfl, h1, h2, -⟩ := h
    exact ⟨z, rfl, h1, h2⟩
theorem hr_rv0 {r : Option Value} (h : ck_rv ty none r) : r = none := by
  match r, h with
  | none, _ => rfl
theorem hr_pv {X : Nat → Int} {P : List ck_AV} {f : Nat → Int32} (h : ck_pvo ty X P f) (j : Nat) {lo hi : Int} {ds : List (Nat × Int × Int)} (hj : P[j]? = some (.inl (lo, hi, ds))) : lo ≤ (f j).toInt ∧ (f j).toInt ≤ hi := by
  obtain ⟨x, e, h1, h2, -⟩ := h j _ hj
  cases e
  exact ⟨h1, h2⟩
theorem hr_pd {P : List ck_AV} {f g : Nat → Int32} (h : ck_pvo ty (ck_XE g) P f) (j q : Nat) {lo hi a b : Int} {ds : List (Nat × Int × Int)} (hj : P[j]? = some (.inl (lo, hi, ds))) (hd : (2 * (1000 + q), a, b) ∈ ds) : a ≤ (f j).toInt - (g q).toInt ∧ (f j).toInt - (g q).toInt ≤ b := by
  obtain ⟨x, e, h1, h2, h3⟩ := h j _ hj
  cases e
  have := h3 _ hd
  unfold ck_XE at this
  dsimp only at this
  rw [show 2 * (1000 + q) / 2 - 1000 = q by omega] at this
  exact this
def ck_std (P post : List ck_AV) : Bool := ck_pre2 (post.map (ck_pvp (ck_addP P 2000))) (post.map (ck_pvp (ck_addP P 2000))) P
theorem hr_self {P : List ck_AV} {f : Nat → Int32} (h : ck_pvo ty (ck_XE f) P f) : ck_pvo ty (ck_XE f) (ck_addP P 2000) f := ck_addP_ok h (fun j => by unfold ck_XE; rw [show (2000 + 2 * j) / 2 - 1000 = j by omega])
theorem hr_std {P post : List ck_AV} {f g : Nat → Int32} (h : ck_pvo ty (ck_XE f) P f) (hp : ck_pvo ty (ck_XE f) post g) (hc : ck_std P post = true) : ck_pvo ty (ck_XE g) P g := by
  have h1 : ck_pvo ty (ck_XE f) (post.map (ck_pvp (ck_addP P 2000))) g := by
    intro j av hj
    rw [List.getElem?_map] at hj
    cases hq : post[j]? with
    | none => rw [hq] at hj; cases hj
    | some bv =>
      rw [hq] at hj
      cases hj
      exact ck_pvp_ok (hr_self h) (hp j bv hq)
  exact ck_pre2_ok h1 hc h1
/-- followed places that a contract leaves as they were -/
def ck_same1 (post : List ck_AV) (j : Nat) : Bool := match post[j]? with
  | some (.inl r) => r.2.2.any (fun d => d.1 == 2 * (1000 + j) && decide (d.2.1 = 0) && decide (d.2.2 = 0))
  | _ => false
theorem hr_same1 {post : List ck_AV} {f g : Nat → Int32} (hp : ck_pvo ty (ck_XE f) post g) {j : Nat} (h : ck_same1 post j = true) : g j = f j := by
  unfold ck_same1 at h
  split at h
  · next r hr =>
    obtain ⟨x, e, h1, h2, h3⟩ := hp j _ hr
    cases e
    obtain ⟨d, hd, h4⟩ := List.any_eq_true.mp h
    simp only [Bool.and_eq_true, beq_iff_eq, decide_eq_true_eq] at h4
    have := h3 d hd
    rw [h4.1.1] at this
    unfold ck_XE at this
    rw [show 2 * (1000 + j) / 2 - 1000 = j by omega] at this
    exact Int32.toInt_inj.mp (by omega)
  · cases h
def ck_sameA (n : Nat) (post : List ck_AV) : Bool := (List.range n).all (ck_same1 post)
theorem hr_sameA {post : List ck_AV} {f g : Nat → Int32} {n : Nat} (hp : ck_pvo ty (ck_XE f) post g) (hn : pvT.length = n) (h : ck_sameA n post = true) : ∀ (j : Nat) (q : Nat × Nat), pvT[j]? = some q → g j = f j := by
  intro j q hj
  have : j < pvT.length := (List.getElem?_eq_some_iff.mp hj).1
  exact hr_same1 hp (List.all_eq_true.mp h j (List.mem_range.mpr (by omega)))
def hr_Q (D : va_G) (cys : Nat → ClassId) (ty : Nat → Option Nat) (tg : List ck_TD) (pvT : List (Nat × Nat)) (P : Option Value → (Nat → Int32) → (va_W → Prop) → Prop) : Array Value → State → Outcome → State → Prop := fun _ st oc t => (∃ (r : Option Value) (pvv' : Nat → Int32) (E' : va_W → Prop), oc = .returned r ∧ P r pvv' E' ∧ ck_Wo D cys ty tg pvT E' pvv' t.heap) ∧ va_F (ck_own ty) st t
variable {P : Option Value → (Nat → Int32) → (va_W → Prop) → Prop} {vs : List Value}
def hr_Met (l : Launch) (D : va_G) (cys : Nat → ClassId) (ty : Nat → Option Nat) (tg : List ck_TD) (pvT : List (Nat × Nat)) (Ex : va_W → Prop) (k : ck_K) (vs : List Value) (pvv : Nat → Int32) (P : Option Value → (Nat → Int32) → (va_W → Prop) → Prop) : Prop := Met l (k_y k) (ck_ws k) (ck_rm k) (va_Pc vs (ck_B D cys ty tg pvT Ex pvv)) (hr_Q D cys ty tg pvT P) 0 0 (ck_own ty)
theorem hr_enter (hy : plainName (k_y k).cls = true) (ho : ck_R (k_ow k) = (k_y k).cls) (g1 : ((k_pa k).map ck_cat).sum ≤ k_ml k) (ha : ck_args ty (k_pa k) vs)
    (h : ∀ (p : Program) (e : Env) (s : State) (m : MethodId) (below : List Frame) (meth : Method) (c : Code) (ls : Array Slot), ck_At p s m vs.toArray meth c D cys k → lv_has ls (k_ml k) (lv_args 0 vs) → ck_Wo D cys ty tg pvT Ex pvv s.heap → W p l e (ck_rm k) s m vs.toArray below meth c s.heap [] 0 0 (MQ below (hr_Q D cys ty tg pvT P) vs.toArray s 0 0 (ck_own ty)) (F0 m 0 ls [])) : hr_Met l D cys ty tg pvT Ex k vs pvv P := by
  refine Met.ofW (cc := k_cc k) (maxL := k_ml k) (ret := k_rt k) hy rfl ?_
  intro p e s m args below meth c s₁ B hml hv
  obtain ⟨rfl, hW, hK, hN⟩ := hv
  have hts := atoms_spec (ws := ck_ws k) B.pre
  have hown : s.vm.findClass (ck_R (k_ow k)) = some m.cls := by rw [ho]; exact findClass_of_methodNamed B.named
  have hlen := ck_sl_len ha
  have hl := lv_entry vs (n := k_ml k) (by rw [hlen]; exact g1)
  rw [lg_entry_eq]
  generalize (lg_sl vs ++ List.replicate (k_ml k - (lg_sl vs).length) Slot.unset).toArray = ls at hl ⊢
  exact h p e s m below meth c ls ⟨B.exec, B.bytes, hml, B.returns, B.notSynchronized, hts, hown, hK, hN⟩ hl hW
theorem hr_after {a : Array Value} {st0 : List Value} (hr : va_Run p l e R s m args below meth c H locs 0 0 0 0 (F0 m pc ls st0) rest (hr_Q D cys ty tg pvT P a) (ck_own ty)) (hS : va_S (ck_own ty) H0 H locs)
    (kk : ∀ (r : Option Value) (pvv' : Nat → Int32) (E' : va_W → Prop) (H1 : Heap) (locs1 : List Loc), P r pvv' E' → ck_Wo D cys ty tg pvT E' pvv' H1 → va_S (ck_own ty) H0 H1 locs1 → W p l e R s m args below meth c H1 locs1 0 0 Q (F0 m (pc + 3) ls (r.toList ++ rest))) : W p l e R s m args below meth c H locs 0 0 Q (F0 m pc ls st0) := by
  intro T hT X
  obtain ⟨v, st₀, t, T', L, h0, X', hL, e1, e2, ⟨⟨r, pvv', E', hv, hp, hb⟩, hz, hk⟩, st⟩ := hr T hT X
  cases hv
  rw [h0] at hz hk
  obtain ⟨t2, a1, b1⟩ := kk v pvv' E' T'.heap (locs ++ L) hp (by rw [e1]; exact hb)
    ⟨Nat.le_trans hS.1 (by rw [e1]; exact hz), fun q h1 h2 => by rw [e1, hk q (Nat.lt_of_lt_of_le h1 hS.1) h2]; exact hS.2.1 q h1 h2, fun q hq => by
      rcases List.mem_append.mp hq with h | h
      · exact hS.2.2 q h
      · exact hL q h⟩ T' rfl X'
  exact ⟨t2, st t2 a1, b1⟩
theorem hr_callV (B : ck_At p s m args meth c D cys k) (hR : R = ck_rm k) (hb : c.code = cc) {lv : List (Nat × Value)} (hl : lv_has ls (k_ml k) lv) {kc : ck_K} {ix : Nat} (hm : ck_mOK tg (k_ow k) ix 0 kc) {b : Nat} {As st0 : List Value} (hM : hr_Met l D cys ty tg pvT Ex kc (.ref b :: As) pvv P) (ha : ck_args ty (k_pa kc) (.ref b :: As)) (hW : ck_Wo D cys ty tg pvT Ex pvv H) (hS : va_S (ck_own ty) H0 H locs) (hvs : st0 = As.reverse ++ .ref b :: rest) (hf : k_fr kc + 1 ≤ k_fr k) (hlo : 8 + (k_ml kc + 11) + k_lo kc ≤ k_lo k) (hr8 : (rest.map fun v => v.category).sum ≤ 8) (hdg : decode cc pc = .ok (.invokevirtual ix, 3))
    (kk : ∀ (r : Option Value) (pvv' : Nat → Int32) (E' : va_W → Prop) (H1 : Heap) (locs1 : List Loc), P r pvv' E' → ck_Wo D cys ty tg pvT E' pvv' H1 → va_S (ck_own ty) H0 H1 locs1 → W p l e R s m args below meth c H1 locs1 0 0 Q (F0 m (pc + 3) ls (r.toList ++ rest))) : W p l e R s m args below meth c H locs 0 0 Q (F0 m pc ls st0) := by
  obtain ⟨B1, B2, B3, B4, B5, hts, hown, hK, hNw⟩ := B
  have hin : ∀ w ∈ wsL_law0, w ∈ ck_ws k := fun w hw => List.mem_cons_of_mem _ hw
  obtain ⟨m1, m2, m3, m4, -⟩ := hm
  obtain ⟨w1, w2, w3, t, ci, fts, r, pa, p1, p2, p3, p4, p5⟩ := m4 rfl
  have hG : GoodIn (ck_ws k) (ck_ws kc) := fun w hw => by
    rcases List.mem_cons.mp hw with hw | hw
    · subst hw; exact ⟨hin _ m1, ck_good _ m1⟩
    · exact ⟨hin _ hw, ck_good _ hw⟩
  rw [p1] at ha
  have hvl := ck_args_len ha.2
  obtain ⟨⟨b', e', hb0⟩, -⟩ := ha
  cases e'
  obtain ⟨ws, hP, hD, hT, hV, hE⟩ := id hW
  obtain ⟨q, en, td, g1, g2, g3⟩ := hT b t hb0
  rw [p2] at g2
  cases g2
  obtain ⟨fs, rfl, -, -⟩ := g3
  have hrun := va_runV (p := p) (l := l) (e := e) (R := R) (s := s) (m := m) (args := args) (below := below) (meth := meth) (c := c) (H := H) (locs := locs) (cells := 0) (slots := 0) (g := F0 m pc ls st0) (As := As) (rest := rest) (b := b) (nL := k_ml k) (own := ck_R (k_ow k)) (index := ix) (bytes := k_cc kc) (maxL := k_ml kc) (ret := k_rt kc) (n := pa.length) ⟨B1, hb, B3, hown, hts⟩ hM ⟨callB_of pa.length hts hG rfl rfl rfl (hts _ (hin _ m2)) (hts _ (hin _ w1)) ⟨m3.1, m3.2, p5⟩ ⟨by rw [hR]; exact hf, by rw [hR]; exact hlo⟩, hts _ (hin _ w2), hts _ (hin _ w3)⟩
    ⟨ck_blind _, by have := va_recv hK hP p3 g1; rw [p4] at this; exact this, fun U hU hWm => ⟨rfl, by rw [hU]; exact hW, va_K.moved hWm.alike hK, ck_nest_warm hWm hNw⟩⟩ rfl hvl hl.1 hvs (lv_room hr8) hdg ⟨Nat.zero_le _, Nat.zero_le _⟩
  exact hr_after hrun hS kk
theorem hr_iret (B : ck_At p s m args meth c D cys k) (hb : c.code = cc) (hrt : k_rt k = some .int) {x : Int32} (hq : P (some (.int x)) pvv Ex) (hW : ck_Wo D cys ty tg pvT Ex pvv H) (hS : va_S (ck_own ty) s.heap H locs) (hdg : decode cc pc = .ok (.ireturn, 1)) : W p l e R s m args below meth c H locs 0 0 (MQ below (hr_Q D cys ty tg pvT P) args s 0 0 (ck_own ty)) (F0 m pc ls [.int x]) :=
  W.zret B.1 hb (B.2.2.2.1.trans hrt) rfl (fun t ht _ => ⟨⟨_, pvv, Ex, rfl, hq, by rw [ht]; exact hW⟩, hS.F ht⟩) hS.2.2 hdg B.2.2.2.2.1
theorem hr_zret (B : ck_At p s m args meth c D cys k) (hb : c.code = cc) (hrt : k_rt k = some .boolean) {x : Int32} (hx : 0 ≤ x.toInt ∧ x.toInt ≤ 1) (hq : P (some (.int x)) pvv Ex) (hW : ck_Wo D cys ty tg pvT Ex pvv H) (hS : va_S (ck_own ty) s.heap H locs) (hdg : decode cc pc = .ok (.ireturn, 1)) : W p l e R s m args below meth c H locs 0 0 (MQ below (hr_Q D cys ty tg pvT P) args s 0 0 (ck_own ty)) (F0 m pc ls [.int x]) :=
  W.zret B.1 hb (B.2.2.2.1.trans hrt) (ck_nbool hx).1 (fun t ht _ => ⟨⟨_, pvv, Ex, rfl, hq, by rw [ht]; exact hW⟩, hS.F ht⟩) hS.2.2 hdg B.2.2.2.2.1
theorem hr_vret (B : ck_At p s m args meth c D cys k) (hb : c.code = cc) (hrt : k_rt k = none) (hq : P none pvv Ex) (hW : ck_Wo D cys ty tg pvT Ex pvv H) (hS : va_S (ck_own ty) s.heap H locs) (hdg : decode cc pc = .ok (.return_, 1)) : W p l e R s m args below meth c H locs 0 0 (MQ below (hr_Q D cys ty tg pvT P) args s 0 0 (ck_own ty)) (F0 m pc ls []) :=
  W.vret B.1 hb (B.2.2.2.1.trans hrt) (fun t ht _ => ⟨⟨_, pvv, Ex, rfl, hq, by rw [ht]; exact hW⟩, hS.F ht⟩) hS.2.2 hdg B.2.2.2.2.1
end HR

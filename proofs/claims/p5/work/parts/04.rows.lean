/-! THE CHECKER, 3: arrays of a sort. -/
theorem ck_cl0 {x : Int32} (h : 0 ≤ x.toInt) : x.toNatClampNeg = x.toInt.toNat := rfl
theorem ck_vin {i : Int32} {n : Nat} (h0 : 0 ≤ i.toInt) (h1 : i.toInt < n) : vp_in i n := vp_in_iff.mpr ⟨h0, h1⟩
theorem ck_nz {x : Int32} (h : 0 ≤ x.toInt) : ¬ x < 0 := fun q => by
  have := Int32.lt_iff_toInt_lt.mp q
  have e : (0 : Int32).toInt = 0 := rfl
  omega
def ck_in (sg : List (Nat × Int × Int)) (j : Nat) (x : Int32) : Prop := (ck_seg sg j).1 ≤ x.toInt ∧ x.toInt ≤ (ck_seg sg j).2
theorem ck_half_ne {f : Nat → Int64} {i k : Nat} {x : Int64} (h : k / 2 ≠ i) : ck_half f k = ck_half (vp_updL f i x) k := by
  simp only [ck_half, vp_updL, if_neg h]
section CK4
variable {p : Program} {l : Launch} {e : Env} {R : Room} {s : State} {m : MethodId} {args : Array Value} {below : List Frame} {meth : Method} {c : Code} {H H0 : Heap} {locs : List Loc} {cells slots : Nat} {Q : State → Prop} {cc : ByteArray} {pc : Nat} {ls : Array Slot} {rest : List Value}
variable {D : va_G} {cys : Nat → ClassId} {ty : Nat → Option Nat} {tg : List ck_TD} {pvT : List (Nat × Nat)} {prot : Nat → List (Nat × Nat)} {Ex : va_W → Prop} {pvv : Nat → Int32} {Ts : List Jvm.Cond} {own : String}
/-- an array cell of a sort, opened -/
theorem ck_arrI {ws : va_W} {a t kd n et : Nat} {sg : List (Nat × Int × Int)} (hT : ck_typed ty cys tg ws) (hta : ty a = some t) (htd : tg[t]? = some (.inr (kd, n, sg, et))) (hkd : kd < 3) : ∃ (q : Nat) (f : Nat → Int32), ws[q]? = some (a, .inl (cys kd, n, .inl f)) ∧ ∀ j, j < n → ck_in sg j (f j) := by
  obtain ⟨q, en, td, g1, g2, g3⟩ := hT a t hta
  rw [htd] at g2
  cases g2
  rcases g3 with ⟨-, f, rfl, h⟩ | ⟨h, -⟩ | ⟨h, -⟩
  · exact ⟨q, f, g1, h⟩
  · dsimp only at h; omega
  · dsimp only at h; omega
theorem ck_arrL {ws : va_W} {a t n et : Nat} {sg : List (Nat × Int × Int)} (hT : ck_typed ty cys tg ws) (hta : ty a = some t) (htd : tg[t]? = some (.inr (3, n, sg, et))) : ∃ (q : Nat) (f : Nat → Int64), ws[q]? = some (a, .inl (cys 3, n, .inr (.inl f))) := by
  obtain ⟨q, en, td, g1, g2, g3⟩ := hT a t hta
  rw [htd] at g2
  cases g2
  rcases g3 with ⟨h, -⟩ | ⟨-, f, rfl⟩ | ⟨h, -⟩
  · dsimp only at h; omega
  · exact ⟨q, f, g1⟩
  · dsimp only at h; omega
theorem ck_arrR {ws : va_W} {a t kd n et : Nat} {sg : List (Nat × Int × Int)} (hT : ck_typed ty cys tg ws) (hta : ty a = some t) (htd : tg[t]? = some (.inr (kd, n, sg, et))) (hkd : kd = 4 ∨ kd = 5) : ∃ (q : Nat) (f : Nat → Option Nat), ws[q]? = some (a, .inl (cys kd, n, .inr (.inr (.inr (.inr f))))) ∧ ∀ j, j < n → ∃ b : Nat, f j = some b ∧ ty b = some (ck_et kd et j) := by
  obtain ⟨q, en, td, g1, g2, g3⟩ := hT a t hta
  rw [htd] at g2
  cases g2
  rcases g3 with ⟨h, -⟩ | ⟨h, -⟩ | ⟨-, f, rfl, h⟩
  · dsimp only at h; omega
  · dsimp only at h; omega
  · exact ⟨q, f, g1, h⟩
/-- no place of this sort is followed -/
def ck_nf (pvT : List (Nat × Nat)) (t : Nat) : Prop := ∀ (j k : Nat), pvT[j]? ≠ some (t, k)
theorem ck_noobj {t a : Nat} (hnf : ck_nf pvT t) {en' : va_E} : ∀ j t' k : Nat, pvT[j]? = some (t', k) → (t' = t → (∀ a' : Nat, ty a' = some t → a' = a) ∧ ck_has en' k (pvv j)) ∧ (t' ≠ t → pvv j = pvv j) := by
  intro j t' k hj
  refine ⟨fun htt => ?_, fun _ => rfl⟩
  subst htt
  exact absurd hj (hnf j k)
theorem ck_iald (hexec : p.tables.exec = Jvm.exec) (hb : c.code = cc) (hK : va_K D ck_cl (ck_tys cys) s) (hW : ck_Wo D cys ty tg pvT Ex pvv H) {a t n et : Nat} {sg : List (Nat × Int × Int)} (hta : ty a = some t) (htd : tg[t]? = some (.inr (0, n, sg, et))) {i : Int32} (h0 : 0 ≤ i.toInt) (h1 : i.toInt < n) (hdg : decode cc pc = .ok (.iaload, 1))
    (kk : ∀ x : Int32, ck_in sg i.toInt.toNat x → (∀ j : Nat, pvT[j]? = some (t, i.toInt.toNat) → x = pvv j) → W p l e R s m args below meth c H locs cells slots Q (F0 m (pc + 1) ls (.int x :: rest))) : W p l e R s m args below meth c H locs cells slots Q (F0 m pc ls (.int i :: .ref a :: rest)) := by
  obtain ⟨ws, hP, hD, hT, hV, hE⟩ := hW
  obtain ⟨q, f, g1, g2⟩ := ck_arrI hT hta htd (by omega)
  refine va_iald hexec hb hK hP q 0 g1 rfl (ck_vin h0 h1) hdg (kk _ (g2 i.toInt.toNat (by omega)) (fun j hj => ?_))
  obtain ⟨q', en', w1, w2⟩ := hV j t _ hj a hta
  have w3 := (ck_D1 hD g1 w1).2
  subst w3
  exact w2
theorem ck_bald (hexec : p.tables.exec = Jvm.exec) (hb : c.code = cc) (hK : va_K D ck_cl (ck_tys cys) s) (hW : ck_Wo D cys ty tg pvT Ex pvv H) {a t kd n et : Nat} {sg : List (Nat × Int × Int)} (hta : ty a = some t) (htd : tg[t]? = some (.inr (kd, n, sg, et))) (hkd : kd = 1 ∨ kd = 2) {i : Int32} (h0 : 0 ≤ i.toInt) (h1 : i.toInt < n) (hdg : decode cc pc = .ok (.baload, 1))
    (kk : ∀ x : Int32, ck_in sg i.toInt.toNat x → W p l e R s m args below meth c H locs cells slots Q (F0 m (pc + 1) ls (.int x :: rest))) : W p l e R s m args below meth c H locs cells slots Q (F0 m pc ls (.int i :: .ref a :: rest)) := by
  obtain ⟨ws, hP, hD, hT, hV, hE⟩ := hW
  obtain ⟨q, f, g1, g2⟩ := ck_arrI hT hta htd (by omega)
  rcases hkd with rfl | rfl
  · exact va_bald hexec hb hK hP q 1 g1 rfl (ck_vin h0 h1) hdg (kk _ (g2 i.toInt.toNat (by omega)))
  · exact va_zald hexec hb hK hP q 2 g1 rfl (ck_vin h0 h1) hdg (kk _ (g2 i.toInt.toNat (by omega)))
theorem ck_lald (hexec : p.tables.exec = Jvm.exec) (hb : c.code = cc) (hK : va_K D ck_cl (ck_tys cys) s) (hW : ck_Wo D cys ty tg pvT Ex pvv H) {a t n et : Nat} {sg : List (Nat × Int × Int)} (hta : ty a = some t) (htd : tg[t]? = some (.inr (3, n, sg, et))) {i : Int32} (h0 : 0 ≤ i.toInt) (h1 : i.toInt < n) (hdg : decode cc pc = .ok (.laload, 1))
    (kk : ∀ x : Int64, W p l e R s m args below meth c H locs cells slots Q (F0 m (pc + 1) ls (.long x :: rest))) : W p l e R s m args below meth c H locs cells slots Q (F0 m pc ls (.int i :: .ref a :: rest)) := by
  obtain ⟨ws, hP, hD, hT, hV, hE⟩ := hW
  obtain ⟨q, f, g1⟩ := ck_arrL hT hta htd
  exact va_lald hexec hb hK hP q 3 g1 rfl (ck_vin h0 h1) hdg (kk _)
theorem ck_aald (hexec : p.tables.exec = Jvm.exec) (hb : c.code = cc) (hK : va_K D ck_cl (ck_tys cys) s) (hW : ck_Wo D cys ty tg pvT Ex pvv H) {a t kd n et : Nat} {sg : List (Nat × Int × Int)} (hta : ty a = some t) (htd : tg[t]? = some (.inr (kd, n, sg, et))) (hkd : kd = 4 ∨ kd = 5) {i : Int32} (h0 : 0 ≤ i.toInt) (h1 : i.toInt < n) (hdg : decode cc pc = .ok (.aaload, 1))
    (kk : ∀ b : Nat, ty b = some (ck_et kd et i.toInt.toNat) → W p l e R s m args below meth c H locs cells slots Q (F0 m (pc + 1) ls (.ref b :: rest))) : W p l e R s m args below meth c H locs cells slots Q (F0 m pc ls (.int i :: .ref a :: rest)) := by
  obtain ⟨ws, hP, hD, hT, hV, hE⟩ := hW
  obtain ⟨q, f, g1, g2⟩ := ck_arrR hT hta htd hkd
  obtain ⟨b, h2, h3⟩ := g2 i.toInt.toNat (by omega)
  have h2 : f i.toNatClampNeg = some b := h2
  rcases hkd with rfl | rfl
  · refine va_aldq hexec hb hK hP q 4 g1 rfl (ck_vin h0 h1) hdg ?_
    rw [h2]
    exact kk b h3
  · refine va_aldq hexec hb hK hP q 5 g1 rfl (ck_vin h0 h1) hdg ?_
    rw [h2]
    exact kk b h3
theorem ck_alen (hexec : p.tables.exec = Jvm.exec) (hb : c.code = cc) (hK : va_K D ck_cl (ck_tys cys) s) (hW : ck_Wo D cys ty tg pvT Ex pvv H) {a t kd n et : Nat} {sg : List (Nat × Int × Int)} (hta : ty a = some t) (htd : tg[t]? = some (.inr (kd, n, sg, et))) (hn : n < 2 ^ 31) (hdg : decode cc pc = .ok (.arraylength, 1))
    (kk : ∀ x : Int32, x.toInt = n → W p l e R s m args below meth c H locs cells slots Q (F0 m (pc + 1) ls (.int x :: rest))) : W p l e R s m args below meth c H locs cells slots Q (F0 m pc ls (.ref a :: rest)) := by
  obtain ⟨ws, hP, hD, hT, hV, hE⟩ := hW
  obtain ⟨q, en, td, g1, g2, g3⟩ := hT a t hta
  rw [htd] at g2
  cases g2
  have hx : (Int32.ofNat n).toInt = n := nI_toInt hn
  rcases g3 with ⟨h, f, rfl, -⟩ | ⟨h, f, rfl⟩ | ⟨h, f, rfl, -⟩
  · dsimp only at h g1
    rcases (show kd = 0 ∨ kd = 1 ∨ kd = 2 by omega) with rfl | rfl | rfl
    · exact va_alen hexec hb hK hP q 0 g1 rfl rfl hdg (kk _ hx)
    · exact va_alen hexec hb hK hP q 1 g1 rfl rfl hdg (kk _ hx)
    · exact va_alen hexec hb hK hP q 2 g1 rfl rfl hdg (kk _ hx)
  · exact va_alen hexec hb hK hP q 3 g1 rfl rfl hdg (kk _ hx)
  · dsimp only at h g1
    rcases h with rfl | rfl
    · exact va_alen hexec hb hK hP q 4 g1 rfl rfl hdg (kk _ hx)
    · exact va_alen hexec hb hK hP q 5 g1 rfl rfl hdg (kk _ hx)
theorem ck_stI {ws : va_W} {a t kd n et q : Nat} {sg : List (Nat × Int × Int)} {f : Nat → Int32} {i : Nat} {x : Int32} (hU : ck_uq ty pvT) (hD : va_D (ck_own ty) ws) (hT : ck_typed ty cys tg ws) (hV : ck_pvs ty pvT pvv ws) (hE : Ex ws) (hX : ck_ExP ty prot Ex) (hta : ty a = some t) (htd : tg[t]? = some (.inr (kd, n, sg, et))) (hkd : kd < 3) (g1 : ws[q]? = some (a, .inl (cys kd, n, .inl f))) (g2 : ∀ j, j < n → ck_in sg j (f j)) (hx : ck_in sg i x) (hnp : ¬ ck_pr (prot t) i) :
    ∃ pvv' : Nat → Int32, (ck_typed ty cys tg (ws.set q (a, .inl (cys kd, n, .inl (upd f i x)))) ∧ ck_pvs ty pvT pvv' (ws.set q (a, .inl (cys kd, n, .inl (upd f i x)))) ∧ Ex (ws.set q (a, .inl (cys kd, n, .inl (upd f i x))))) ∧ (∀ j : Nat, pvT[j]? = some (t, i) → pvv' j = x) ∧ (∀ j : Nat, pvT[j]? ≠ some (t, i) → pvv' j = pvv j) := by
  refine ⟨fun j => if pvT[j]? = some (t, i) then x else pvv j, ?_, fun j hj => by simp [hj], fun j hj => by simp [hj]⟩
  refine ck_set (prot := prot) hD hT hV hE hX g1 hta htd (Or.inl ⟨hkd, upd f i x, rfl, fun j hj => ?_⟩) ⟨rfl, rfl, fun k hk => ?_⟩ (fun j t' k hj => ⟨fun htt => ?_, fun htt => ?_⟩)
  · by_cases e1 : j = i
    · subst e1; rw [pk_us]; exact hx
    · rw [pk_un e1]; exact g2 j hj
  · have e1 : k ≠ i := fun z => hnp (z ▸ hk)
    rw [pk_un e1]
  · subst htt
    refine ⟨fun a' h' => hU j t' k hj a a' hta h', ?_⟩
    show upd f i x k = _
    by_cases e1 : k = i
    · subst e1; rw [pk_us]; simp [hj]
    · rw [pk_un e1]
      have hne : pvT[j]? ≠ some (t', i) := by rw [hj]; intro z; cases z; exact e1 rfl
      simp only [hne, if_false]
      obtain ⟨q', en', w1, w2⟩ := hV j t' k hj a hta
      have w3 := (ck_D1 hD g1 w1).2
      subst w3
      exact w2
  · have hne : pvT[j]? ≠ some (t, i) := by rw [hj]; intro z; cases z; exact htt rfl
    simp only [hne, if_false]
theorem ck_iast (hexec : p.tables.exec = Jvm.exec) (hb : c.code = cc) (hK : va_K D ck_cl (ck_tys cys) s) (hX : ck_ExP ty prot Ex) (hU : ck_uq ty pvT) (hW : ck_Wo D cys ty tg pvT Ex pvv H) (hS : va_S (ck_own ty) H0 H locs) {a t n et : Nat} {sg : List (Nat × Int × Int)} (hta : ty a = some t) (htd : tg[t]? = some (.inr (0, n, sg, et))) {i x : Int32} (h0 : 0 ≤ i.toInt) (h1 : i.toInt < n) (hx : ck_in sg i.toInt.toNat x) (hnp : ¬ ck_pr (prot t) i.toInt.toNat) (hdg : decode cc pc = .ok (.iastore, 1))
    (kk : ∀ (H1 : Heap) (locs1 : List Loc) (pvv' : Nat → Int32), ck_Wo D cys ty tg pvT Ex pvv' H1 → va_S (ck_own ty) H0 H1 locs1 → (∀ j : Nat, pvT[j]? = some (t, i.toInt.toNat) → pvv' j = x) → (∀ j : Nat, pvT[j]? ≠ some (t, i.toInt.toNat) → pvv' j = pvv j) → W p l e R s m args below meth c H1 locs1 cells slots Q (F0 m (pc + 1) ls rest)) : W p l e R s m args below meth c H locs cells slots Q (F0 m pc ls (.int x :: .int i :: .ref a :: rest)) := by
  obtain ⟨ws, hP, hD, hT, hV, hE⟩ := hW
  obtain ⟨q, f, g1, g2⟩ := ck_arrI hT hta htd (by omega)
  refine va_iast hexec hb hK hP hD hS q 0 g1 rfl (ck_vin h0 h1) hdg (fun H1 locs1 hP1 hD1 hS1 => ?_)
  obtain ⟨pvv', ⟨n1, n2, n3⟩, n4, n5⟩ := ck_stI (i := i.toNatClampNeg) (x := x) hU hD hT hV hE hX hta htd (by omega) g1 g2 hx hnp
  exact kk H1 locs1 pvv' ⟨_, hP1, hD1, n1, n2, n3⟩ hS1 n4 n5
theorem ck_nb2 {x : Int32} (h : 0 ≤ x.toInt ∧ x.toInt ≤ 1) : vp_nar .boolean x = x := by
  have : x = 0 ∨ x = 1 := by
    rcases (show x.toInt = 0 ∨ x.toInt = 1 by omega) with h | h
    · exact Or.inl (Int32.toInt_inj.mp h)
    · exact Or.inr (Int32.toInt_inj.mp h)
  rcases this with rfl | rfl <;> decide
theorem ck_bast (hexec : p.tables.exec = Jvm.exec) (hb : c.code = cc) (hK : va_K D ck_cl (ck_tys cys) s) (hX : ck_ExP ty prot Ex) (hU : ck_uq ty pvT) (hW : ck_Wo D cys ty tg pvT Ex pvv H) (hS : va_S (ck_own ty) H0 H locs) {a t n et : Nat} (hnf : ck_nf pvT t) (hta : ty a = some t) (htd : tg[t]? = some (.inr (1, n, [], et))) {i x : Int32} (h0 : 0 ≤ i.toInt) (h1 : i.toInt < n) (hnp : ¬ ck_pr (prot t) i.toInt.toNat) (hdg : decode cc pc = .ok (.bastore, 1))
    (kk : ∀ (H1 : Heap) (locs1 : List Loc), ck_Wo D cys ty tg pvT Ex pvv H1 → va_S (ck_own ty) H0 H1 locs1 → W p l e R s m args below meth c H1 locs1 cells slots Q (F0 m (pc + 1) ls rest)) : W p l e R s m args below meth c H locs cells slots Q (F0 m pc ls (.int x :: .int i :: .ref a :: rest)) := by
  obtain ⟨ws, hP, hD, hT, hV, hE⟩ := hW
  obtain ⟨q, f, g1, g2⟩ := ck_arrI hT hta htd (by omega)
  refine va_bast hexec hb hK hP hD hS q 1 g1 rfl (ck_vin h0 h1) hdg (fun H1 locs1 hP1 hD1 hS1 => ?_)
  obtain ⟨pvv', ⟨n1, n2, n3⟩, n4, n5⟩ := ck_stI (i := i.toNatClampNeg) (x := vp_nar .byte x) hU hD hT hV hE hX hta htd (by omega) g1 g2 ⟨ck_lo _, ck_hi _⟩ hnp
  have e5 : pvv' = pvv := funext (fun j => n5 j (hnf j _))
  subst e5
  exact kk H1 locs1 ⟨_, hP1, hD1, n1, n2, n3⟩ hS1
theorem ck_zast (hexec : p.tables.exec = Jvm.exec) (hb : c.code = cc) (hK : va_K D ck_cl (ck_tys cys) s) (hX : ck_ExP ty prot Ex) (hU : ck_uq ty pvT) (hW : ck_Wo D cys ty tg pvT Ex pvv H) (hS : va_S (ck_own ty) H0 H locs) {a t n et : Nat} (hnf : ck_nf pvT t) {sg : List (Nat × Int × Int)} (hta : ty a = some t) (htd : tg[t]? = some (.inr (2, n, sg, et))) {i x : Int32} (h0 : 0 ≤ i.toInt) (h1 : i.toInt < n) (hx : ck_in sg i.toInt.toNat x) (hx2 : 0 ≤ x.toInt ∧ x.toInt ≤ 1) (hnp : ¬ ck_pr (prot t) i.toInt.toNat) (hdg : decode cc pc = .ok (.bastore, 1))
    (kk : ∀ (H1 : Heap) (locs1 : List Loc), ck_Wo D cys ty tg pvT Ex pvv H1 → va_S (ck_own ty) H0 H1 locs1 → W p l e R s m args below meth c H1 locs1 cells slots Q (F0 m (pc + 1) ls rest)) : W p l e R s m args below meth c H locs cells slots Q (F0 m pc ls (.int x :: .int i :: .ref a :: rest)) := by
  obtain ⟨ws, hP, hD, hT, hV, hE⟩ := hW
  obtain ⟨q, f, g1, g2⟩ := ck_arrI hT hta htd (by omega)
  refine va_zast hexec hb hK hP hD hS q 2 g1 rfl (ck_vin h0 h1) hdg (fun H1 locs1 hP1 hD1 hS1 => ?_)
  rw [ck_nb2 hx2] at hP1 hD1
  obtain ⟨pvv', ⟨n1, n2, n3⟩, n4, n5⟩ := ck_stI (i := i.toNatClampNeg) (x := x) hU hD hT hV hE hX hta htd (by omega) g1 g2 hx hnp
  have e5 : pvv' = pvv := funext (fun j => n5 j (hnf j _))
  subst e5
  exact kk H1 locs1 ⟨_, hP1, hD1, n1, n2, n3⟩ hS1
theorem ck_last (hexec : p.tables.exec = Jvm.exec) (hb : c.code = cc) (hK : va_K D ck_cl (ck_tys cys) s) (hX : ck_ExP ty prot Ex) (hW : ck_Wo D cys ty tg pvT Ex pvv H) (hS : va_S (ck_own ty) H0 H locs) {a t n et : Nat} {sg : List (Nat × Int × Int)} (hnf : ck_nf pvT t) (hta : ty a = some t) (htd : tg[t]? = some (.inr (3, n, sg, et))) {i : Int32} {x : Int64} (h0 : 0 ≤ i.toInt) (h1 : i.toInt < n) (hnp : ∀ j, ck_pr (prot t) j → j / 2 ≠ i.toInt.toNat) (hdg : decode cc pc = .ok (.lastore, 1))
    (kk : ∀ (H1 : Heap) (locs1 : List Loc), ck_Wo D cys ty tg pvT Ex pvv H1 → va_S (ck_own ty) H0 H1 locs1 → W p l e R s m args below meth c H1 locs1 cells slots Q (F0 m (pc + 1) ls rest)) : W p l e R s m args below meth c H locs cells slots Q (F0 m pc ls (.long x :: .int i :: .ref a :: rest)) := by
  obtain ⟨ws, hP, hD, hT, hV, hE⟩ := hW
  obtain ⟨q, f, g1⟩ := ck_arrL hT hta htd
  refine va_last hexec hb hK hP hD hS q 3 g1 rfl (ck_vin h0 h1) hdg (fun H1 locs1 hP1 hD1 hS1 => ?_)
  obtain ⟨n1, n2, n3⟩ := ck_set (prot := prot) (en' := .inl (cys 3, n, .inr (.inl (vp_updL f i.toNatClampNeg x)))) hD hT hV hE hX g1 hta htd (Or.inr (Or.inl ⟨rfl, _, rfl⟩)) ⟨rfl, rfl, fun j hj => ck_half_ne (by rw [ck_cl0 h0]; exact hnp j hj)⟩ (ck_noobj hnf)
  exact kk H1 locs1 ⟨_, hP1, hD1, n1, n2, n3⟩ hS1
theorem ck_copyi (hexec : p.tables.exec = Jvm.exec) (hb : c.code = cc) (hml : c.maxLocals = ls.size) (hts : ∀ w ∈ Ts, w.before args s = true) (hin : ∀ w ∈ wsL_law0, w ∈ Ts) {index : Nat} (hown : s.vm.findClass own = some m.cls) (hlink : Jvm.Cond.methodLink own index arraycopyName ∈ wsL_law0) (hnat : Jvm.Cond.native arraycopyName ∈ wsL_law0) (hstat : Jvm.Cond.static arraycopyName ∈ wsL_law0) (hini : Jvm.Cond.initialized "java/lang/System" ∈ wsL_law0)
    (hK : va_K D ck_cl (ck_tys cys) s) (hX : ck_ExP ty prot Ex) (hW : ck_Wo D cys ty tg pvT Ex pvv H) (hS : va_S (ck_own ty) H0 H locs) {a a0 t t0 n et et0 : Nat} {sg : List (Nat × Int × Int)} (hnf : ck_nf pvT t) (hta : ty a = some t) (hta0 : ty a0 = some t0) (htd : tg[t]? = some (.inr (0, n, sg, et))) (htd0 : tg[t0]? = some (.inr (0, n, sg, et0))) (hnp : prot t = []) {sp dp k : Int32} (h1 : sp.toInt = 0) (h2 : dp.toInt = 0) (h3 : 0 ≤ k.toInt) (h4 : k.toInt ≤ n) (hfr : 1 ≤ R.frames) (hlo : (rest.map fun v => v.category).sum + 18 ≤ R.locals) (hdg : decode cc pc = .ok (.invokestatic index, 3))
    (kk : ∀ (H1 : Heap) (locs1 : List Loc), ck_Wo D cys ty tg pvT Ex pvv H1 → va_S (ck_own ty) H0 H1 locs1 → W p l e R s m args below meth c H1 locs1 cells slots Q (F0 m (pc + 3) ls rest)) : W p l e R s m args below meth c H locs cells slots Q (F0 m pc ls (.int k :: .int dp :: .ref a :: .int sp :: .ref a0 :: rest)) := by
  obtain ⟨ws, hP, hD, hT, hV, hE⟩ := hW
  obtain ⟨q, g, g1, g2⟩ := ck_arrI hT hta htd (by omega)
  obtain ⟨q0, f, f1, f2⟩ := ck_arrI hT hta0 htd0 (by omega)
  have e1 : sp.toNatClampNeg = 0 := by rw [ck_cl0 (by omega)]; omega
  have e2 : dp.toNatClampNeg = 0 := by rw [ck_cl0 (by omega)]; omega
  have e3 : k.toNatClampNeg = k.toInt.toNat := rfl
  refine va_copyi (own := own) hexec hb hml hown (hts _ (hin _ hlink)) (hts _ (hin _ hnat)) (hts _ (hin _ hstat)) (hts _ (hin _ hini)) hK hP hD hS q0 q 0 0 f1 g1 rfl rfl rfl (ck_nz (by omega)) (ck_nz (by omega)) (ck_nz (by omega)) (by omega) (by omega) (fun _ _ => rfl) hfr (by
    have : nativeFrameWords "java/lang/System" "arraycopy" 5 = 7 := by decide +kernel
    omega) hdg (fun H1 locs1 hP1 hD1 hS1 => ?_)
  obtain ⟨n1, n2, n3⟩ := ck_set (prot := prot) (en' := .inl (cys 0, n, .inl (va_cpy f g sp.toNatClampNeg dp.toNatClampNeg k.toNatClampNeg))) hD hT hV hE hX g1 hta htd (Or.inl ⟨by omega, _, rfl, fun j hj => by
      rw [e1, e2]
      by_cases hh : j < 0 + k.toNatClampNeg
      · rw [pk_cpy_in (by omega) hh]
        have := f2 j hj
        simpa [ck_in] using this
      · rw [pk_cpy_out (by omega)]
        exact g2 j hj⟩) ⟨rfl, rfl, fun z hz => by rw [hnp] at hz; obtain ⟨_, h, -⟩ := hz; cases h⟩ (ck_noobj hnf)
  exact kk H1 locs1 ⟨_, hP1, hD1, n1, n2, n3⟩ hS1
theorem ck_copyl (hexec : p.tables.exec = Jvm.exec) (hb : c.code = cc) (hml : c.maxLocals = ls.size) (hts : ∀ w ∈ Ts, w.before args s = true) (hin : ∀ w ∈ wsL_law0, w ∈ Ts) {index : Nat} (hown : s.vm.findClass own = some m.cls) (hlink : Jvm.Cond.methodLink own index arraycopyName ∈ wsL_law0) (hnat : Jvm.Cond.native arraycopyName ∈ wsL_law0) (hstat : Jvm.Cond.static arraycopyName ∈ wsL_law0) (hini : Jvm.Cond.initialized "java/lang/System" ∈ wsL_law0)
    (hK : va_K D ck_cl (ck_tys cys) s) (hX : ck_ExP ty prot Ex) (hW : ck_Wo D cys ty tg pvT Ex pvv H) (hS : va_S (ck_own ty) H0 H locs) {a a0 t t0 n et et0 : Nat} {sg : List (Nat × Int × Int)} (hnf : ck_nf pvT t) (hta : ty a = some t) (hta0 : ty a0 = some t0) (htd : tg[t]? = some (.inr (3, n, sg, et))) (htd0 : tg[t0]? = some (.inr (3, n, sg, et0))) (hnp : prot t = []) {sp dp k : Int32} (h1 : sp.toInt = 0) (h2 : dp.toInt = 0) (h3 : 0 ≤ k.toInt) (h4 : k.toInt ≤ n) (hfr : 1 ≤ R.frames) (hlo : (rest.map fun v => v.category).sum + 18 ≤ R.locals) (hdg : decode cc pc = .ok (.invokestatic index, 3))
    (kk : ∀ (H1 : Heap) (locs1 : List Loc), ck_Wo D cys ty tg pvT Ex pvv H1 → va_S (ck_own ty) H0 H1 locs1 → W p l e R s m args below meth c H1 locs1 cells slots Q (F0 m (pc + 3) ls rest)) : W p l e R s m args below meth c H locs cells slots Q (F0 m pc ls (.int k :: .int dp :: .ref a :: .int sp :: .ref a0 :: rest)) := by
  obtain ⟨ws, hP, hD, hT, hV, hE⟩ := hW
  obtain ⟨q, g, g1⟩ := ck_arrL hT hta htd
  obtain ⟨q0, f, f1⟩ := ck_arrL hT hta0 htd0
  have e1 : sp.toNatClampNeg = 0 := by rw [ck_cl0 (by omega)]; omega
  have e2 : dp.toNatClampNeg = 0 := by rw [ck_cl0 (by omega)]; omega
  have e3 : k.toNatClampNeg = k.toInt.toNat := rfl
  refine va_copyl (own := own) hexec hb hml hown (hts _ (hin _ hlink)) (hts _ (hin _ hnat)) (hts _ (hin _ hstat)) (hts _ (hin _ hini)) hK hP hD hS q0 q 3 3 f1 g1 rfl rfl rfl (ck_nz (by omega)) (ck_nz (by omega)) (ck_nz (by omega)) (by omega) (by omega) (fun _ _ => rfl) hfr (by
    have : nativeFrameWords "java/lang/System" "arraycopy" 5 = 7 := by decide +kernel
    omega) hdg (fun H1 locs1 hP1 hD1 hS1 => ?_)
  obtain ⟨n1, n2, n3⟩ := ck_set (prot := prot) (en' := .inl (cys 3, n, .inr (.inl (va_cpy f g sp.toNatClampNeg dp.toNatClampNeg k.toNatClampNeg)))) hD hT hV hE hX g1 hta htd (Or.inr (Or.inl ⟨rfl, _, rfl⟩)) ⟨rfl, rfl, fun z hz => by rw [hnp] at hz; obtain ⟨_, h, -⟩ := hz; cases h⟩ (ck_noobj hnf)
  exact kk H1 locs1 ⟨_, hP1, hD1, n1, n2, n3⟩ hS1
end CK4

/-! THE CHECKER, 2: the world. Cells by sorts: what a cell of a sort holds is in range, always; fields that are followed have their values by name; 'Ex' is what the hand-proved rows keep besides. -/
abbrev ck_cl : List vw_C := [(RX0, TX0, 9), (RX1, TX1, 13), (RX2, TX2, 13), (RX3, TX3, 3), (RX4, TX4, 4), (RX5, TX5, 3), (RX6, TX6, 20), (RX7, TX7, 1), (RX8, TX8, 11), (RX9, TX9, 6), (RX10, TX10, 2), (RX11, TX11, 14), (RX12, TX12, 54)]
abbrev ck_tys (cys : Nat → ClassId) : List (ClassId × FieldType) := [(cys 0, .int), (cys 1, .byte), (cys 2, .boolean), (cys 3, .long), (cys 4, .object RX2), (cys 5, .object RX4)]
theorem ck_inlX0 : ∀ w ∈ wsX00, w ∈ wsL_law0 := fun _ h => List.mem_append_left _ (List.mem_append_left _ (List.mem_append_left _ (List.mem_append_right _ h)))
theorem ck_inlX1 : ∀ w ∈ wsX10, w ∈ wsL_law0 := fun _ h => List.mem_append_left _ (List.mem_append_left _ (List.mem_append_left _ (List.mem_append_left _ (List.mem_append_left _ (List.mem_append_right _ h)))))
theorem ck_inlX2 : ∀ w ∈ wsX20, w ∈ wsL_law0 := fun _ h => List.mem_append_left _ (List.mem_append_left _ (List.mem_append_left _ (List.mem_append_left _ (List.mem_append_left _ (List.mem_append_left _ (List.mem_append_left _ (List.mem_append_left _ (List.mem_append_right _ h))))))))
theorem ck_inlX3 : ∀ w ∈ wsX30, w ∈ wsL_law0 := fun _ h => List.mem_append_left _ (List.mem_append_left _ (List.mem_append_left _ (List.mem_append_left _ (List.mem_append_left _ (List.mem_append_left _ (List.mem_append_left _ (List.mem_append_right _ h)))))))
theorem ck_inlX4 : ∀ w ∈ wsX40, w ∈ wsL_law0 := fun _ h => List.mem_append_left _ (List.mem_append_left _ (List.mem_append_right _ h))
theorem ck_inlX5 : ∀ w ∈ wsX50, w ∈ wsL_law0 := fun _ h => List.mem_append_left _ (List.mem_append_left _ (List.mem_append_left _ (List.mem_append_left _ (List.mem_append_right _ h))))
theorem ck_inlX6 : ∀ w ∈ wsX60, w ∈ wsL_law0 := fun _ h => List.mem_append_left _ (List.mem_append_left _ (List.mem_append_left _ (List.mem_append_left _ (List.mem_append_left _ (List.mem_append_left _ (List.mem_append_left _ (List.mem_append_left _ (List.mem_append_left _ (List.mem_append_right _ h)))))))))
theorem ck_inlX7 : ∀ w ∈ wsX70, w ∈ wsL_law0 := fun _ h => List.mem_append_left _ (List.mem_append_left _ (List.mem_append_left _ (List.mem_append_left _ (List.mem_append_left _ (List.mem_append_left _ (List.mem_append_left _ (List.mem_append_left _ (List.mem_append_left _ (List.mem_append_left _ (List.mem_append_right _ h))))))))))
theorem ck_inlX8 : ∀ w ∈ wsX80, w ∈ wsL_law0 := fun _ h => List.mem_append_left _ (List.mem_append_left _ (List.mem_append_left _ (List.mem_append_left _ (List.mem_append_left _ (List.mem_append_left _ (List.mem_append_left _ (List.mem_append_left _ (List.mem_append_left _ (List.mem_append_left _ (List.mem_append_left _ (List.mem_append_right _ h)))))))))))
theorem ck_inlX9 : ∀ w ∈ wsX90, w ∈ wsL_law0 := fun _ h => List.mem_append_left _ (List.mem_append_left _ (List.mem_append_left _ (List.mem_append_left _ (List.mem_append_left _ (List.mem_append_left _ (List.mem_append_right _ h))))))
theorem ck_inlX10 : ∀ w ∈ wsX100, w ∈ wsL_law0 := fun _ h => List.mem_append_left _ (List.mem_append_right _ h)
theorem ck_inlX11 : ∀ w ∈ wsX110, w ∈ wsL_law0 := fun _ h => List.mem_append_left _ (List.mem_append_left _ (List.mem_append_left _ (List.mem_append_left _ (List.mem_append_left _ (List.mem_append_left _ (List.mem_append_left _ (List.mem_append_left _ (List.mem_append_left _ (List.mem_append_left _ (List.mem_append_left _ (List.mem_append_left _ (List.mem_append_left _ (List.mem_append_right _ h)))))))))))))
theorem ck_inlX12 : ∀ w ∈ wsX120, w ∈ wsL_law0 := fun _ h => List.mem_append_left _ (List.mem_append_left _ (List.mem_append_left _ (List.mem_append_left _ (List.mem_append_left _ (List.mem_append_left _ (List.mem_append_left _ (List.mem_append_left _ (List.mem_append_left _ (List.mem_append_left _ (List.mem_append_left _ (List.mem_append_left _ (List.mem_append_right _ h))))))))))))
def ck_clOK (q : vw_C) : Prop := (∀ w ∈ u_ws q.1 q.2.1 q.2.2, w ∈ wsL_law0) ∧ (∃ ty0 : Nat → FieldType, ∀ k, k < q.2.2 → parseFieldDescriptor (q.2.1 k).2.2.1 = some (ty0 k)) ∧ ∀ a, a < q.2.2 → ∀ b, b < q.2.2 → a ≠ b → (q.2.1 a).2.1 ≠ (q.2.1 b).2.1
theorem ck_cl_ok {ci : Nat} {q : vw_C} (h : ck_cl[ci]? = some q) : ck_clOK q := by
  match ci, h with
  | 0, h => cases h; exact ⟨ck_inlX0, ⟨tyX0, tyX0_ok⟩, nmX0⟩
  | 1, h => cases h; exact ⟨ck_inlX1, ⟨tyX1, tyX1_ok⟩, nmX1⟩
  | 2, h => cases h; exact ⟨ck_inlX2, ⟨tyX2, tyX2_ok⟩, nmX2⟩
  | 3, h => cases h; exact ⟨ck_inlX3, ⟨tyX3, tyX3_ok⟩, nmX3⟩
  | 4, h => cases h; exact ⟨ck_inlX4, ⟨tyX4, tyX4_ok⟩, nmX4⟩
  | 5, h => cases h; exact ⟨ck_inlX5, ⟨tyX5, tyX5_ok⟩, nmX5⟩
  | 6, h => cases h; exact ⟨ck_inlX6, ⟨tyX6, tyX6_ok⟩, nmX6⟩
  | 7, h => cases h; exact ⟨ck_inlX7, ⟨tyX7, tyX7_ok⟩, nmX7⟩
  | 8, h => cases h; exact ⟨ck_inlX8, ⟨tyX8, tyX8_ok⟩, nmX8⟩
  | 9, h => cases h; exact ⟨ck_inlX9, ⟨tyX9, tyX9_ok⟩, nmX9⟩
  | 10, h => cases h; exact ⟨ck_inlX10, ⟨tyX10, tyX10_ok⟩, nmX10⟩
  | 11, h => cases h; exact ⟨ck_inlX11, ⟨tyX11, tyX11_ok⟩, nmX11⟩
  | 12, h => cases h; exact ⟨ck_inlX12, ⟨tyX12, tyX12_ok⟩, nmX12⟩
  | n + 13, h => simp [ck_cl] at h
/-- the sort of a row's cell at a place: rows of kind 5 hold a sort of its own at each place -/
def ck_et (kd et j : Nat) : Nat := if kd = 5 then et + 44 * j else et
def ck_e (ty : Nat → Option Nat) (cys : Nat → ClassId) (td : ck_TD) (en : va_E) : Prop := match td with
  | .inl o => ∃ fs : List Value, en = .inr (o.1, fs) ∧ fs.length = o.2.length ∧ ∀ (k : Nat) (ft : ck_AV), o.2[k]? = some ft → ∃ v, fs[k]? = some v ∧ ck_v ty (fun _ => 0) ft v
  | .inr r => (r.1 < 3 ∧ ∃ f : Nat → Int32, en = .inl (cys r.1, r.2.1, .inl f) ∧ ∀ j, j < r.2.1 → (ck_seg r.2.2.1 j).1 ≤ (f j).toInt ∧ (f j).toInt ≤ (ck_seg r.2.2.1 j).2)
      ∨ (r.1 = 3 ∧ ∃ f : Nat → Int64, en = .inl (cys 3, r.2.1, .inr (.inl f)))
      ∨ ((r.1 = 4 ∨ r.1 = 5) ∧ ∃ f : Nat → Option Nat, en = .inl (cys r.1, r.2.1, .inr (.inr (.inr (.inr f)))) ∧ ∀ j, j < r.2.1 → ∃ a : Nat, f j = some a ∧ ty a = some (ck_et r.1 r.2.2.2 j))
def ck_pr (pr : List (Nat × Nat)) (k : Nat) : Prop := ∃ q ∈ pr, q.1 ≤ k ∧ k ≤ q.2
/-- a place of a row of longs: a half of a number -/
def ck_half (f : Nat → Int64) (k : Nat) : Int32 := if k % 2 = 0 then Int32.ofInt (f (k / 2)).toInt else Int32.ofInt ((f (k / 2)).toInt / 4294967296)
/-- two contents of a cell agree where it is kept by hand -/
def ck_ag (pr : List (Nat × Nat)) (e1 e2 : va_E) : Prop := match e1, e2 with
  | .inr o1, .inr o2 => o1.1 = o2.1 ∧ o1.2.length = o2.2.length ∧ ∀ k, ck_pr pr k → o1.2[k]? = o2.2[k]?
  | .inl a1, .inl a2 => a1.1 = a2.1 ∧ a1.2.1 = a2.2.1 ∧ (match a1.2.2, a2.2.2 with
      | .inl f, .inl g => ∀ k, ck_pr pr k → f k = g k
      | .inr (.inl f), .inr (.inl g) => ∀ k, ck_pr pr k → ck_half f k = ck_half g k
      | _, _ => False)
  | _, _ => False
abbrev ck_own (ty : Nat → Option Nat) : Nat → Prop := fun q => (ty q).isSome = true
def ck_ExP (ty : Nat → Option Nat) (prot : Nat → List (Nat × Nat)) (Ex : va_W → Prop) : Prop := ∀ (ws : va_W) (q a t : Nat) (en en' : va_E), va_D (ck_own ty) ws → ws[q]? = some (a, en) → ty a = some t → ck_ag (prot t) en en' → Ex ws → Ex (ws.set q (a, en'))
def ck_typed (ty : Nat → Option Nat) (cys : Nat → ClassId) (tg : List ck_TD) (ws : va_W) : Prop := ∀ a t : Nat, ty a = some t → ∃ (q : Nat) (en : va_E) (td : ck_TD), ws[q]? = some (a, en) ∧ tg[t]? = some td ∧ ck_e ty cys td en
/-- what a followed place holds -/
def ck_has (en : va_E) (k : Nat) (x : Int32) : Prop := match en with
  | .inr o => o.2[k]? = some (.int x)
  | .inl a => match a.2.2 with
    | .inl f => f k = x
    | .inr (.inl f) => ck_half f k = x
    | _ => False
def ck_pvs (ty : Nat → Option Nat) (pvT : List (Nat × Nat)) (pvv : Nat → Int32) (ws : va_W) : Prop := ∀ j t k : Nat, pvT[j]? = some (t, k) → ∀ a : Nat, ty a = some t → ∃ (q : Nat) (en : va_E), ws[q]? = some (a, en) ∧ ck_has en k (pvv j)
def ck_uq (ty : Nat → Option Nat) (pvT : List (Nat × Nat)) : Prop := ∀ j t k : Nat, pvT[j]? = some (t, k) → ∀ a a' : Nat, ty a = some t → ty a' = some t → a' = a
def ck_Wo (D : va_G) (cys : Nat → ClassId) (ty : Nat → Option Nat) (tg : List ck_TD) (pvT : List (Nat × Nat)) (Ex : va_W → Prop) (pvv : Nat → Int32) (H : Heap) : Prop := ∃ ws : va_W, va_P D ck_cl ws H ∧ va_D (ck_own ty) ws ∧ ck_typed ty cys tg ws ∧ ck_pvs ty pvT pvv ws ∧ Ex ws
theorem ck_D1 {A : Nat → Prop} {ws : va_W} {q q' a : Nat} {en en' : va_E} (hD : va_D A ws) (h : ws[q]? = some (a, en)) (h' : ws[q']? = some (a, en')) : q' = q ∧ en' = en := by
  have e := hD.1 q' q _ _ h' h rfl
  subst e
  rw [h] at h'
  cases h'
  exact ⟨rfl, rfl⟩
section CK3
variable {p : Program} {l : Launch} {e : Env} {R : Room} {s : State} {m : MethodId} {args : Array Value} {below : List Frame} {meth : Method} {c : Code} {H H0 : Heap} {locs : List Loc} {cells slots : Nat} {Q : State → Prop} {cc : ByteArray} {pc : Nat} {ls : Array Slot} {rest : List Value}
variable {D : va_G} {cys : Nat → ClassId} {ty : Nat → Option Nat} {tg : List ck_TD} {pvT : List (Nat × Nat)} {prot : Nat → List (Nat × Nat)} {Ex : va_W → Prop} {pvv : Nat → Int32} {Ts : List Jvm.Cond} {own : String}
theorem ck_set {ws : va_W} {q a t : Nat} {en en' : va_E} {td : ck_TD} {pvv' : Nat → Int32} (hD : va_D (ck_own ty) ws) (hT : ck_typed ty cys tg ws) (hV : ck_pvs ty pvT pvv ws) (hE : Ex ws) (hX : ck_ExP ty prot Ex)
    (hq : ws[q]? = some (a, en)) (hta : ty a = some t) (htd : tg[t]? = some td) (he : ck_e ty cys td en') (hag : ck_ag (prot t) en en')
    (hpv : ∀ j t' k : Nat, pvT[j]? = some (t', k) → (t' = t → (∀ a' : Nat, ty a' = some t → a' = a) ∧ ck_has en' k (pvv' j)) ∧ (t' ≠ t → pvv' j = pvv j)) :
    ck_typed ty cys tg (ws.set q (a, en')) ∧ ck_pvs ty pvT pvv' (ws.set q (a, en')) ∧ Ex (ws.set q (a, en')) := by
  have hlt : q < ws.length := (List.getElem?_eq_some_iff.mp hq).1
  have hself : (ws.set q (a, en'))[q]? = some (a, en') := by rw [List.getElem?_set_self hlt]
  refine ⟨?_, ?_, hX ws q a t en en' hD hq hta hag hE⟩
  · intro a' t' h'
    obtain ⟨q', en2, td2, g1, g2, g3⟩ := hT a' t' h'
    by_cases hqq : q = q'
    · subst hqq
      rw [hq] at g1
      cases g1
      rw [hta] at h'
      cases h'
      exact ⟨q, en', td, hself, htd, he⟩
    · exact ⟨q', en2, td2, by rw [List.getElem?_set_ne hqq]; exact g1, g2, g3⟩
  · intro j t' k hj a' h'
    obtain ⟨w1, w2⟩ := hpv j t' k hj
    by_cases htt : t' = t
    · obtain ⟨u1, u2⟩ := w1 htt
      subst htt
      have := u1 a' h'
      subst this
      exact ⟨q, en', hself, u2⟩
    · obtain ⟨q', en2, g1, g2⟩ := hV j t' k hj a' h'
      have hqq : q ≠ q' := by
        intro z
        subst z
        rw [hq] at g1
        cases g1
        rw [hta] at h'
        cases h'
        exact htt rfl
      exact ⟨q', en2, by rw [List.getElem?_set_ne hqq]; exact g1, by rw [w2 htt]; exact g2⟩
theorem ck_get (hexec : p.tables.exec = Jvm.exec) (hb : c.code = cc) (hts : ∀ w ∈ Ts, w.before args s = true) (hin : ∀ w ∈ wsL_law0, w ∈ Ts) (hown : s.vm.findClass own = some m.cls) (hK : va_K D ck_cl (ck_tys cys) s) (hW : ck_Wo D cys ty tg pvT Ex pvv H) {a t ci k index : Nat} (hta : ty a = some t) {fts : List ck_AV} (htd : tg[t]? = some (.inl (ci, fts))) {r : vw_C} (hc : ck_cl[ci]? = some r) (hk : k < r.2.2) (hlink : Jvm.Cond.fieldLink own index (r.2.1 k).1 (r.2.1 k).2.1 (r.2.1 k).2.2.1 ∈ wsL_law0) {ft : ck_AV} (hft : fts[k]? = some ft) (hdg : decode cc pc = .ok (.getfield index, 3))
    (kk : ∀ v : Value, ck_v ty (fun _ => 0) ft v → (∀ j : Nat, pvT[j]? = some (t, k) → v = .int (pvv j)) → W p l e R s m args below meth c H locs cells slots Q (F0 m (pc + 3) ls (v :: rest))) : W p l e R s m args below meth c H locs cells slots Q (F0 m pc ls (.ref a :: rest)) := by
  obtain ⟨ws, hP, hD, hT, hV, hE⟩ := hW
  obtain ⟨q, en, td, g1, g2, g3⟩ := hT a t hta
  rw [htd] at g2
  cases g2
  obtain ⟨fs, rfl, h2, h3⟩ := g3
  obtain ⟨v, h4, h5⟩ := h3 k ft hft
  obtain ⟨C, T, N⟩ := r
  refine va_get (own := own) (ref := (T k).1) hexec hb hts (fun w h => hin w ((ck_cl_ok hc).1 w h)) hown hK hP q g1 hc k hk (hts _ (hin _ hlink)) (fun _ h => h) h4 hdg (kk v h5 (fun j hj => ?_))
  obtain ⟨q', en', w1, w2⟩ := hV j t k hj a hta
  have w3 := (ck_D1 hD g1 w1).2
  subst w3
  have w2 : fs[k]? = some (.int (pvv j)) := w2
  rw [h4] at w2
  exact Option.some.inj w2
theorem ck_put (hexec : p.tables.exec = Jvm.exec) (hb : c.code = cc) (hts : ∀ w ∈ Ts, w.before args s = true) (hin : ∀ w ∈ wsL_law0, w ∈ Ts) (hown : s.vm.findClass own = some m.cls) (hK : va_K D ck_cl (ck_tys cys) s) (hX : ck_ExP ty prot Ex) (hU : ck_uq ty pvT) (hW : ck_Wo D cys ty tg pvT Ex pvv H) (hS : va_S (ck_own ty) H0 H locs) {a t ci k index : Nat} (hta : ty a = some t) {fts : List ck_AV} (htd : tg[t]? = some (.inl (ci, fts))) {r : vw_C} (hc : ck_cl[ci]? = some r) (hk : k < r.2.2) (hlink : Jvm.Cond.fieldLink own index (r.2.1 k).1 (r.2.1 k).2.1 (r.2.1 k).2.2.1 ∈ wsL_law0) (hfin : (r.2.1 k).2.2.2 = false) {ft : ck_AV} (hft : fts[k]? = some ft) {v : Value} (hv : ck_v ty (fun _ => 0) ft v) (hnp : ¬ ck_pr (prot t) k) {fty : FieldType} (hd : parseFieldDescriptor (r.2.1 k).2.2.1 = some fty) (hn : narrow fty v = v) (hfit : fits fty v = true) (hi : (∃ j : Nat, pvT[j]? = some (t, k)) → ∃ x, v = .int x) (hdg : decode cc pc = .ok (.putfield index, 3))
    (kk : ∀ (H1 : Heap) (locs1 : List Loc) (pvv' : Nat → Int32), ck_Wo D cys ty tg pvT Ex pvv' H1 → va_S (ck_own ty) H0 H1 locs1 → (∀ j : Nat, pvT[j]? = some (t, k) → v = .int (pvv' j)) → (∀ j : Nat, pvT[j]? ≠ some (t, k) → pvv' j = pvv j) → W p l e R s m args below meth c H1 locs1 cells slots Q (F0 m (pc + 3) ls rest)) : W p l e R s m args below meth c H locs cells slots Q (F0 m pc ls (v :: .ref a :: rest)) := by
  obtain ⟨ws, hP, hD, hT, hV, hE⟩ := hW
  obtain ⟨q, en, td, g1, g2, g3⟩ := hT a t hta
  have htd' := g2
  rw [htd] at g2
  cases g2
  obtain ⟨fs, rfl, h2, h3⟩ := g3
  have hkl : k < fs.length := by rw [h2]; exact (List.getElem?_eq_some_iff.mp hft).1
  obtain ⟨C, T, N⟩ := r
  obtain ⟨k1, ⟨ty0, k2⟩, k3⟩ := ck_cl_ok hc
  refine va_put (own := own) (ref := (T k).1) hexec hb hts (fun w h => hin w (k1 w h)) ty0 k2 k3 hown hK hP hD hS q g1 hc k hk (hts _ (hin _ hlink)) (fun _ h => h) hfin hd hn hfit hkl hdg (fun H1 locs1 hP1 hD1 hS1 => ?_)
  have key : ∃ pvv' : Nat → Int32, (∀ j : Nat, pvT[j]? = some (t, k) → v = .int (pvv' j)) ∧ (∀ j : Nat, pvT[j]? ≠ some (t, k) → pvv' j = pvv j) := by
    by_cases hh : ∃ j : Nat, pvT[j]? = some (t, k)
    · obtain ⟨x, rfl⟩ := hi hh
      refine ⟨fun j => if pvT[j]? = some (t, k) then x else pvv j, fun j hj => by simp [hj], fun j hj => by simp [hj]⟩
    · exact ⟨pvv, fun j hj => absurd ⟨j, hj⟩ hh, fun j _ => rfl⟩
  obtain ⟨pvv', p1, p2⟩ := key
  obtain ⟨n1, n2, n3⟩ := ck_set (prot := prot) (en' := .inr (ci, fs.set k v)) (pvv' := pvv') hD hT hV hE hX g1 hta htd' ⟨fs.set k v, rfl, by rw [List.length_set]; exact h2, fun k' ft' hk' => by
      by_cases hkk : k = k'
      · subst hkk
        rw [hft] at hk'
        cases hk'
        exact ⟨v, by rw [List.getElem?_set_self hkl], hv⟩
      · obtain ⟨v', w1, w2⟩ := h3 k' ft' hk'
        exact ⟨v', by rw [List.getElem?_set_ne hkk]; exact w1, w2⟩⟩
    ⟨rfl, by rw [List.length_set], fun k' hk' => by
      by_cases hkk : k = k'
      · subst hkk; exact absurd hk' hnp
      · rw [List.getElem?_set_ne hkk]⟩
    (fun j t' k' hj => ⟨fun htt => by
      subst htt
      refine ⟨fun a' h' => hU j t' k' hj a a' hta h', ?_⟩
      show (fs.set k v)[k']? = some (.int (pvv' j))
      by_cases hkk : k = k'
      · subst hkk
        rw [List.getElem?_set_self hkl, p1 j hj]
      · rw [List.getElem?_set_ne hkk]
        have hne : pvT[j]? ≠ some (t', k) := by rw [hj]; intro z; cases z; exact hkk rfl
        rw [p2 j hne]
        obtain ⟨q', en', w1, w2⟩ := hV j t' k' hj a hta
        have w3 := (ck_D1 hD g1 w1).2
        subst w3
        exact w2, fun htt => p2 j (by rw [hj]; intro z; cases z; exact htt rfl)⟩)
  exact kk H1 locs1 pvv' ⟨_, hP1, hD1, n1, n2, n3⟩ hS1 p1 p2
end CK3

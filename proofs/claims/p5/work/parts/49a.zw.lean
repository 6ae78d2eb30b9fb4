/-! FROM THE RANGES TO THE MEMORY, and back: what the single cells hold. -/
def ev_ct (en : va_E) (j : Nat) : Int := match en with
  | .inr o => match o.2[j]? with
    | some (.int x) => x.toInt
    | some (.long x) => x.toInt
    | _ => 0
  | .inl a => match a.2.2 with
    | .inl f => (f j).toInt
    | .inr (.inl f) => (f j).toInt
    | _ => 0
noncomputable def ev_M (ty : Nat → Option Nat) (ws : va_W) : ev_C := fun t => @dite (Nat → Int) (∃ en : va_E, ∃ (a q : Nat), ty a = some t ∧ ws[q]? = some (a, en)) (Classical.propDecidable _) (fun h => ev_ct h.choose) (fun _ => fun _ => 0)
theorem ev_half (f : Nat → Int64) (j : Nat) : (f j).toInt = (ck_half f (2 * j)).toInt % 4294967296 + 4294967296 * (ck_half f (2 * j + 1)).toInt := by
  unfold ck_half
  rw [if_pos (by omega), if_neg (by omega), show 2 * j / 2 = j by omega, show (2 * j + 1) / 2 = j by omega, Int32.toInt_ofInt, Int32.toInt_ofInt]
  have b1 := Int64.le_toInt (f j)
  have b2 := Int64.toInt_lt (f j)
  generalize (f j).toInt = x at *
  unfold Int.bmod
  simp only [Int32.size]
  omega
/-- what a table holds of a memory: rows of longs in halves -/
def ev_hf (x : Int) (k : Nat) : Int32 := if k % 2 = 0 then Int32.ofInt x else Int32.ofInt (x / 4294967296)
def ev_up (F : Nat → Bool) (M : ev_C) (C : Nat → Nat → Int32) : Nat → Nat → Int32 := fun t j => if F t = true then (if g_ls t = true then ev_hf (M t (j / 2)) j else Int32.ofInt (M t j)) else C t j
theorem ev_up_n {F : Nat → Bool} {M : ev_C} {C : Nat → Nat → Int32} {t : Nat} (h : F t = false) : ev_up F M C t = C t := funext (fun j => by
  unfold ev_up
  rw [if_neg (by rw [h]; decide)])
/-- what is kept of a sort's cell is what the memory can tell -/
def ck_shp (t : Nat) : Bool := match ck_tags[t]? with
  | some (.inl (ci, fts)) => !(g_ls t) && (ck_prot1 t).all (fun q => (List.range (q.2 + 1)).all (fun j => match fts[j]? with
    | some (.inl _) => (match ck_cl[ci]? with
      | some r => decide (j < r.2.2)
      | none => false)
    | _ => false))
  | some (.inr (kd, n, _, _)) => (decide (kd < 3) && !(g_ls t) && (ck_prot1 t).all (fun q => decide (q.2 < n))) || (decide (kd = 3) && g_ls t && (ck_prot1 t).all (fun q => decide (q.2 < 2 * n)))
  | none => false
section ZW
variable {l : Launch} {D : va_G} {cys : Nat → ClassId} {ty : Nat → Option Nat} {pvv : Nat → Int32} {H : Heap} {ws ws2 : va_W} {M : ev_C}
theorem ev_M_at {A : Nat → Prop} (hU : ev_uq ty ev_TR) (hD : va_D A ws) {t a q : Nat} {en : va_E} (ht : ev_TR t = true) (hta : ty a = some t) (hq : ws[q]? = some (a, en)) : ev_M ty ws t = ev_ct en := by
  have h : ∃ en : va_E, ∃ (a q : Nat), ty a = some t ∧ ws[q]? = some (a, en) := ⟨en, a, q, hta, hq⟩
  unfold ev_M
  rw [dif_pos h]
  obtain ⟨a', q', h1, h2⟩ := h.choose_spec
  have e := hU t ht a a' hta h1
  subst e
  have e2 := hD.1 q' q _ _ h2 hq rfl
  subst e2
  rw [hq] at h2
  rw [← (Prod.mk.inj (Option.some.inj h2)).2]
theorem ev_ofck {Ex : va_W → Prop} (hU : ev_uq ty ev_TR) (hW : ck_Wo D cys ty ck_tags ck_pvs0 Ex pvv H) : ∃ M : ev_C, ev_Wo D cys ty ck_tags ev_TR M H := by
  obtain ⟨ws, h1, h2, h3, h4, h5⟩ := hW
  refine ⟨ev_M ty ws, ws, h1, h2, fun a t hta => ?_⟩
  obtain ⟨q, en, td, g1, g2, g3⟩ := h3 a t hta
  refine ⟨q, en, td, g1, g2, ?_⟩
  have hM : ev_TR t = true → ev_M ty ws t = ev_ct en := fun ht => ev_M_at hU h2 ht hta g1
  match td, g3 with
  | .inl o, g3 =>
    obtain ⟨fs, rfl, k1, k2⟩ := g3
    refine ⟨fs, rfl, k1, fun k ft hk => ?_⟩
    obtain ⟨v, w1, w2⟩ := k2 k ft hk
    refine ⟨v, w1, ?_⟩
    match ft, w2 with
    | .inl r, w2 =>
      obtain ⟨x, rfl, -⟩ := w2
      refine ⟨x, rfl, fun hb => ?_⟩
      rw [hM hb]
      show x.toInt = ev_ct (.inr (o.1, fs)) k
      unfold ev_ct
      dsimp only
      rw [w1]
    | .inr (.inl t'), w2 => exact w2
    | .inr (.inr u), w2 =>
      obtain ⟨x, rfl⟩ := w2
      refine ⟨x, rfl, fun hb => ?_⟩
      rw [hM hb]
      show x.toInt = ev_ct (.inr (o.1, fs)) k
      unfold ev_ct
      dsimp only
      rw [w1]
  | .inr r, g3 =>
    rcases g3 with ⟨k0, f, rfl, k1⟩ | ⟨k0, f, rfl⟩ | ⟨k0, f, rfl, k1⟩
    · exact Or.inl ⟨k0, f, rfl, fun hb j hj => by rw [hM hb]; rfl⟩
    · exact Or.inr (Or.inl ⟨k0, f, rfl, fun hb j hj => by rw [hM hb]; rfl⟩)
    · exact Or.inr (Or.inr ⟨k0, f, rfl, k1⟩)
/-! one heap: one content -/
theorem ev_twoI {q q2 a n n2 : Nat} {f f2 : Nat → Int32} {cA cA2 : ClassId} (h1 : va_P D ck_cl ws H) (h2 : va_P D ck_cl ws2 H) (g1 : ws[q]? = some (a, .inl (cA, n, .inl f))) (g2 : ws2[q2]? = some (a, .inl (cA2, n2, .inl f2))) : ∀ j : Nat, j < n → j < n2 → f j = f2 j := by
  intro j hj hj2
  have e1 : H[a]? = some (vp_cell cA (n, .inl f)) := h1 q _ g1
  have e2 : H[a]? = some (vp_cell cA2 (n2, .inl f2)) := h2 q2 _ g2
  rw [e1] at e2
  have e3 : arrV cA n (fun j => .int (f j)) = arrV cA2 n2 (fun j => .int (f2 j)) := Option.some.inj e2
  have e4 : (arrV cA n (fun j => .int (f j))).slots[j]? = (arrV cA2 n2 (fun j => .int (f2 j))).slots[j]? := by rw [e3]
  rw [arrV_read _ _ hj, arrV_read _ _ hj2] at e4
  exact Value.int.inj (Option.some.inj e4)
theorem ev_twoL {q q2 a n n2 : Nat} {f f2 : Nat → Int64} {cA cA2 : ClassId} (h1 : va_P D ck_cl ws H) (h2 : va_P D ck_cl ws2 H) (g1 : ws[q]? = some (a, .inl (cA, n, .inr (.inl f)))) (g2 : ws2[q2]? = some (a, .inl (cA2, n2, .inr (.inl f2)))) : ∀ j : Nat, j < n → j < n2 → f j = f2 j := by
  intro j hj hj2
  have e1 : H[a]? = some (vp_cell cA (n, .inr (.inl f))) := h1 q _ g1
  have e2 : H[a]? = some (vp_cell cA2 (n2, .inr (.inl f2))) := h2 q2 _ g2
  rw [e1] at e2
  have e3 : arrV cA n (fun j => .long (f j)) = arrV cA2 n2 (fun j => .long (f2 j)) := Option.some.inj e2
  have e4 : (arrV cA n (fun j => .long (f j))).slots[j]? = (arrV cA2 n2 (fun j => .long (f2 j))).slots[j]? := by rw [e3]
  rw [arrV_read _ _ hj, arrV_read _ _ hj2] at e4
  exact Value.long.inj (Option.some.inj e4)
theorem ev_twoO {q q2 a ci k : Nat} {fs fs2 : List Value} {v v2 : Value} (h1 : va_P D ck_cl ws H) (h2 : va_P D ck_cl ws2 H) (g1 : ws[q]? = some (a, .inr (ci, fs))) (g2 : ws2[q2]? = some (a, .inr (ci, fs2))) (hN : ∀ r, ck_cl[ci]? = some r → k < r.2.2) (hv : fs[k]? = some v) (hv2 : fs2[k]? = some v2) : v = v2 := by
  obtain ⟨r, e1, cell, c1, -, -, c2⟩ := h1 q _ g1
  obtain ⟨r2, f1, cell2, d1, -, -, d2⟩ := h2 q2 _ g2
  dsimp only at e1 f1 c1 d1 c2 d2
  rw [e1] at f1
  cases f1
  rw [c1] at d1
  cases d1
  have a1 := c2 k (hN r e1)
  have a2 := d2 k (hN r e1)
  rw [a1] at a2
  have a3 : vp_V fs k = vp_V fs2 k := Option.some.inj a2
  unfold vp_V at a3
  rw [List.getD_eq_getElem?_getD, List.getD_eq_getElem?_getD, hv, hv2] at a3
  exact a3
/-! what a row of the ranges' world tells of the memory -/
theorem ev_cO {q a t ci k : Nat} {fts : List ck_AV} {r0 : ck_I} {en : va_E} {x : Int32} (htr : ev_TR t = true) (htd : ck_tags[t]? = some (.inl (ci, fts))) (hft : fts[k]? = some (.inl r0)) (hN : ∀ r, ck_cl[ci]? = some r → k < r.2.2) (hP : va_P D ck_cl ws H) (hta : ty a = some t) (hq : ws[q]? = some (a, en)) (he : ck_e ty cys (.inl (ci, fts)) en) (hh : ck_has en k x) (hM : ev_Wo D cys ty ck_tags ev_TR M H) : M t k = x.toInt := by
  obtain ⟨ws2, k1, k2, k3⟩ := hM
  obtain ⟨fs, rfl, -, -⟩ := he
  obtain ⟨q2, en2, td2, b1, b2, b3⟩ := k3 a t hta
  rw [htd] at b2
  cases b2
  obtain ⟨fs2, rfl, -, h3⟩ := b3
  obtain ⟨v2, w1, y, rfl, w2⟩ := h3 k _ hft
  have hh : fs[k]? = some (.int x) := hh
  have e := ev_twoO hP k1 hq b1 hN hh w1
  rw [← w2 htr, Value.int.inj e]
theorem ev_cA {q a t kd n et k : Nat} {sg : List (Nat × Int × Int)} {en : va_E} {x : Int32} (htr : ev_TR t = true) (htd : ck_tags[t]? = some (.inr (kd, n, sg, et))) (hkd : kd < 3) (hk : k < n) (hP : va_P D ck_cl ws H) (hta : ty a = some t) (hq : ws[q]? = some (a, en)) (he : ck_e ty cys (.inr (kd, n, sg, et)) en) (hh : ck_has en k x) (hM : ev_Wo D cys ty ck_tags ev_TR M H) : M t k = x.toInt := by
  obtain ⟨ws2, k1, k2, k3⟩ := hM
  obtain ⟨q2, en2, td2, b1, b2, b3⟩ := k3 a t hta
  rw [htd] at b2
  cases b2
  rcases he with ⟨-, f, rfl, -⟩ | ⟨h0, -⟩ | ⟨h0, -⟩
  · rcases b3 with ⟨-, f2, rfl, c1⟩ | ⟨h0, -⟩ | ⟨h0, -⟩
    · have hh : f k = x := hh
      have e := ev_twoI hP k1 hq b1 k hk hk
      rw [← c1 htr k hk, ← e, hh]
    · dsimp only at h0; omega
    · dsimp only at h0; omega
  · dsimp only at h0; omega
  · dsimp only at h0; omega
theorem ev_cL {q a t n et k : Nat} {sg : List (Nat × Int × Int)} {en : va_E} {x y : Int32} (htr : ev_TR t = true) (htd : ck_tags[t]? = some (.inr (3, n, sg, et))) (hk : k < n) (hP : va_P D ck_cl ws H) (hta : ty a = some t) (hq : ws[q]? = some (a, en)) (he : ck_e ty cys (.inr (3, n, sg, et)) en) (hx : ck_has en (2 * k) x) (hy : ck_has en (2 * k + 1) y) (hM : ev_Wo D cys ty ck_tags ev_TR M H) : M t k = x.toInt % 4294967296 + 4294967296 * y.toInt := by
  obtain ⟨ws2, k1, k2, k3⟩ := hM
  obtain ⟨q2, en2, td2, b1, b2, b3⟩ := k3 a t hta
  rw [htd] at b2
  cases b2
  rcases he with ⟨h0, -⟩ | ⟨-, f, rfl⟩ | ⟨h0, -⟩
  · dsimp only at h0; omega
  · rcases b3 with ⟨h0, -⟩ | ⟨-, f2, rfl, c1⟩ | ⟨h0, -⟩
    · dsimp only at h0; omega
    · have hx : ck_half f (2 * k) = x := hx
      have hy : ck_half f (2 * k + 1) = y := hy
      have e := ev_twoL hP k1 hq b1 k hk hk
      rw [← c1 htr k hk, ← e, ev_half f k, hx, hy]
    · dsimp only at h0; omega
  · dsimp only at h0; omega
/-- followed places -/
theorem ev_gP {Ex : va_W → Prop} {t k j : Nat} (hW : ck_Wo D cys ty ck_tags ck_pvs0 Ex pvv H) (hM : ev_Wo D cys ty ck_tags ev_TR M H) (ha : ∃ a, ty a = some t) (hj : ck_pvs0[j]? = some (t, k)) (htr : ev_TR t = true) (hsh : (∃ (ci : Nat) (fts : List ck_AV) (r0 : ck_I), ck_tags[t]? = some (.inl (ci, fts)) ∧ fts[k]? = some (.inl r0) ∧ ∀ r, ck_cl[ci]? = some r → k < r.2.2) ∨ ∃ (kd n et : Nat) (sg : List (Nat × Int × Int)), ck_tags[t]? = some (.inr (kd, n, sg, et)) ∧ kd < 3 ∧ k < n) : M t k = (pvv j).toInt := by
  obtain ⟨ws, h1, h2, h3, h4, -⟩ := hW
  obtain ⟨a, hta⟩ := ha
  obtain ⟨q, en, td, g1, g2, g3⟩ := h3 a t hta
  obtain ⟨q', en', w1, w2⟩ := h4 j t k hj a hta
  have w3 := (ck_D1 h2 g1 w1).2
  subst w3
  rcases hsh with ⟨ci, fts, r0, s1, s2, s3⟩ | ⟨kd, n, et, sg, s1, s2, s3⟩
  · rw [s1] at g2
    cases g2
    exact ev_cO htr s1 s2 s3 h1 hta g1 g3 w2 hM
  · rw [s1] at g2
    cases g2
    exact ev_cA htr s1 s2 s3 h1 hta g1 g3 w2 hM
/-- kept places: of objects and rows of numbers -/
theorem ev_gK {pq : Nat → List (Nat × Nat)} {C : Nat → Nat → Int32} {t k : Nat} (hW : ck_Wo D cys ty ck_tags ck_pvs0 (tk ty pq C) pvv H) (hM : ev_Wo D cys ty ck_tags ev_TR M H) (ha : ∃ a, ty a = some t) (hk : ck_pr (pq t) k) (htr : ev_TR t = true) (hsh : (∃ (ci : Nat) (fts : List ck_AV) (r0 : ck_I), ck_tags[t]? = some (.inl (ci, fts)) ∧ fts[k]? = some (.inl r0) ∧ ∀ r, ck_cl[ci]? = some r → k < r.2.2) ∨ ∃ (kd n et : Nat) (sg : List (Nat × Int × Int)), ck_tags[t]? = some (.inr (kd, n, sg, et)) ∧ kd < 3 ∧ k < n) : M t k = (C t k).toInt := by
  obtain ⟨ws, h1, h2, h3, h4, h5⟩ := hW
  obtain ⟨a, hta⟩ := ha
  obtain ⟨q, en, td, g1, g2, g3⟩ := h3 a t hta
  have w2 := h5 a t q en hta g1 k hk
  rcases hsh with ⟨ci, fts, r0, s1, s2, s3⟩ | ⟨kd, n, et, sg, s1, s2, s3⟩
  · rw [s1] at g2
    cases g2
    exact ev_cO htr s1 s2 s3 h1 hta g1 g3 w2 hM
  · rw [s1] at g2
    cases g2
    exact ev_cA htr s1 s2 s3 h1 hta g1 g3 w2 hM
/-- kept places: of rows of longs -/
theorem ev_gL {pq : Nat → List (Nat × Nat)} {C : Nat → Nat → Int32} {t k n et : Nat} {sg : List (Nat × Int × Int)} (hW : ck_Wo D cys ty ck_tags ck_pvs0 (tk ty pq C) pvv H) (hM : ev_Wo D cys ty ck_tags ev_TR M H) (ha : ∃ a, ty a = some t) (hk : ck_pr (pq t) (2 * k)) (hk2 : ck_pr (pq t) (2 * k + 1)) (htr : ev_TR t = true) (htd : ck_tags[t]? = some (.inr (3, n, sg, et))) (hn : k < n) : M t k = (C t (2 * k)).toInt % 4294967296 + 4294967296 * (C t (2 * k + 1)).toInt := by
  obtain ⟨ws, h1, h2, h3, h4, h5⟩ := hW
  obtain ⟨a, hta⟩ := ha
  obtain ⟨q, en, td, g1, g2, g3⟩ := h3 a t hta
  rw [htd] at g2
  cases g2
  exact ev_cL htr htd hn h1 hta g1 g3 (h5 a t q en hta g1 _ hk) (h5 a t q en hta g1 _ hk2) hM
/-- any kept place -/
theorem ev_gS {C : Nat → Nat → Int32} {t k : Nat} (hW : ck_Wo D cys ty ck_tags ck_pvs0 (tk ty ck_prot1 C) pvv H) (hM : ev_Wo D cys ty ck_tags ev_TR M H) (ha : ∃ a, ty a = some t) (hs : ck_shp t = true) (htr : ev_TR t = true) (hk : (g_ls t = true ∧ ck_pr (ck_prot1 t) (2 * k) ∧ ck_pr (ck_prot1 t) (2 * k + 1)) ∨ (g_ls t = false ∧ ck_pr (ck_prot1 t) k)) : M t k = ev_of C t k := by
  unfold ck_shp at hs
  cases htd : ck_tags[t]? with
  | none => rw [htd] at hs; cases hs
  | some td =>
    rw [htd] at hs
    match td, htd, hs with
    | .inl (ci, fts), htd, hs =>
      simp only [Bool.and_eq_true, Bool.not_eq_true'] at hs
      rcases hk with ⟨hg, -⟩ | ⟨hg, hk⟩
      · rw [hg] at hs
        cases hs.1
      · obtain ⟨qq, hq1, hq2, hq3⟩ := id hk
        have hs2 := List.all_eq_true.mp (List.all_eq_true.mp hs.2 qq hq1) k (List.mem_range.mpr (by omega))
        unfold ev_of
        rw [if_neg (by rw [hg]; decide)]
        split at hs2
        · next r0 hr0 =>
          split at hs2
          · next r hr =>
            have hs2 := of_decide_eq_true hs2
            exact ev_gK hW hM ha hk htr (Or.inl ⟨ci, fts, r0, htd, hr0, fun r' hr' => by
              rw [hr] at hr'
              cases hr'
              exact hs2⟩)
          · cases hs2
        · cases hs2
    | .inr (kd, n, sg, et), htd, hs =>
      simp only [Bool.or_eq_true, Bool.and_eq_true, decide_eq_true_eq, Bool.not_eq_true'] at hs
      rcases hk with ⟨hg, hk1, hk2⟩ | ⟨hg, hk⟩
      · rcases hs with ⟨⟨s1, s2⟩, s3⟩ | ⟨⟨s1, s2⟩, s3⟩
        · rw [hg] at s2
          cases s2
        · subst s1
          obtain ⟨qq, hq1, hq2, hq3⟩ := id hk2
          have s4 := of_decide_eq_true (List.all_eq_true.mp s3 qq hq1)
          unfold ev_of
          rw [if_pos hg]
          exact ev_gL hW hM ha hk1 hk2 htr htd (by omega)
      · rcases hs with ⟨⟨s1, s2⟩, s3⟩ | ⟨⟨s1, s2⟩, s3⟩
        · obtain ⟨qq, hq1, hq2, hq3⟩ := id hk
          have s4 := of_decide_eq_true (List.all_eq_true.mp s3 qq hq1)
          unfold ev_of
          rw [if_neg (by rw [hg]; decide)]
          exact ev_gK hW hM ha hk htr (Or.inr ⟨kd, n, et, sg, htd, s1, by omega⟩)
        · rw [hg] at s2
          cases s2
/-- a table made anew out of the memory, where F says so -/
theorem ev_re {pq : Nat → List (Nat × Nat)} {C : Nat → Nat → Int32} {F : Nat → Bool} (hW : ck_Wo D cys ty ck_tags ck_pvs0 (tk ty pq C) pvv H) (hM : ev_Wo D cys ty ck_tags ev_TR M H) (hF : ∀ t, F t = true → ck_shp t = true ∧ ev_TR t = true) (hpq : ∀ t, F t = false → ∀ j, ck_pr (ck_prot1 t) j → ck_pr (pq t) j) : ck_Wo D cys ty ck_tags ck_pvs0 (tk ty ck_prot1 (ev_up F M C)) pvv H := by
  obtain ⟨ws, h1, h2, h3, h4, h5⟩ := hW
  refine ⟨ws, h1, h2, h3, h4, fun a t q en hta hq j hj => ?_⟩
  cases hf : F t with
  | false =>
    rw [ev_up_n hf]
    exact h5 a t q en hta hq j (hpq t hf j hj)
  | true =>
    obtain ⟨hs, htr⟩ := hF t hf
    unfold ev_up
    rw [if_pos hf]
    obtain ⟨q1, en1, td, a1, a2, a3⟩ := h3 a t hta
    have e1 := (ck_D1 h2 hq a1).2
    subst e1
    obtain ⟨ws2, k1, k2, k3⟩ := hM
    obtain ⟨q2, en2, td2, b1, b2, b3⟩ := k3 a t hta
    rw [a2] at b2
    cases b2
    obtain ⟨qq, hq1, hq2, hq3⟩ := hj
    unfold ck_shp at hs
    rw [a2] at hs
    match td, a3, b3, hs with
    | .inl (ci, fts), a3, b3, hs =>
      simp only [Bool.and_eq_true, Bool.not_eq_true'] at hs
      have hs2 := List.all_eq_true.mp (List.all_eq_true.mp hs.2 qq hq1) j (List.mem_range.mpr (by omega))
      rw [if_neg (by rw [hs.1]; decide)]
      obtain ⟨fs, rfl, l1, l2⟩ := a3
      obtain ⟨fs2, rfl, -, l3⟩ := b3
      split at hs2
      · next r0 hr0 =>
        split at hs2
        · next r hr =>
          have hs2 := of_decide_eq_true hs2
          obtain ⟨v, v1, x, rfl, -⟩ := l2 j _ hr0
          obtain ⟨v2, v3, y, rfl, v4⟩ := l3 j _ hr0
          have e := ev_twoO h1 k1 hq b1 (fun r' hr' => by
            dsimp only at hr'
            rw [hr] at hr'
            cases hr'
            exact hs2) v1 v3
          show fs[j]? = some (.int _)
          rw [v1, ← v4 htr, Int32.ofInt_toInt, e]
        · cases hs2
      · cases hs2
    | .inr (kd, n, sg, et), a3, b3, hs =>
      simp only [Bool.or_eq_true, Bool.and_eq_true, decide_eq_true_eq, Bool.not_eq_true'] at hs
      rcases hs with ⟨⟨s1, s2⟩, s3⟩ | ⟨⟨s1, s2⟩, s3⟩
      · have s4 := of_decide_eq_true (List.all_eq_true.mp s3 qq hq1)
        rw [if_neg (by rw [s2]; decide)]
        rcases a3 with ⟨-, f, rfl, -⟩ | ⟨h0, -⟩ | ⟨h0, -⟩
        · rcases b3 with ⟨-, f2, rfl, c1⟩ | ⟨h0, -⟩ | ⟨h0, -⟩
          · have e := ev_twoI h1 k1 hq b1 j (by dsimp only; omega) (by dsimp only; omega)
            show f j = _
            rw [e, ← c1 htr j (by dsimp only; omega), Int32.ofInt_toInt]
          · dsimp only at h0; omega
          · dsimp only at h0; omega
        · dsimp only at h0; omega
        · dsimp only at h0; omega
      · have s4 := of_decide_eq_true (List.all_eq_true.mp s3 qq hq1)
        subst s1
        rw [if_pos s2]
        rcases a3 with ⟨h0, -⟩ | ⟨-, f, rfl⟩ | ⟨h0, -⟩
        · dsimp only at h0; omega
        · rcases b3 with ⟨h0, -⟩ | ⟨-, f2, rfl, c1⟩ | ⟨h0, -⟩
          · dsimp only at h0; omega
          · have e := ev_twoL h1 k1 hq b1 (j / 2) (by dsimp only; omega) (by dsimp only; omega)
            show ck_half f j = _
            unfold ck_half ev_hf
            rw [e, ← c1 htr (j / 2) (by dsimp only; omega)]
          · dsimp only at h0; omega
        · dsimp only at h0; omega
end ZW

/-! FROM THE RANGES TO THE MEMORY: what the single cells hold. -/
def ev_ct (en : va_E) (j : Nat) : Int := match en with
  | .inr o => match o.2[j]? with
    | some (.int x) => x.toInt
    | some (.long x) => x.toInt
    | _ => 0
  | .inl a => match a.2.2 with
    | .inl f => (f j).toInt
    | .inr (.inl f) => (f j).toInt
    | _ => 0
noncomputable def ev_M (ty : Nat → Option Nat) (ws : va_W) : ev_C := fun t => @dite (Nat → Int) (∃ en : va_E, ∃ (a q : Nat), ty a = some t ∧ ws[q]? = some (a, en)) (Classical.propDecidable _) (fun h => ev_ct h.choose) (fun _ => fun _ => 0)
section ZW
variable {l : Launch} {D : va_G} {cys : Nat → ClassId} {ty : Nat → Option Nat} {pvv : Nat → Int32} {H : Heap} {ws : va_W}
theorem ev_M_at {A : Nat → Prop} (hU : ev_uq ty ev_TR) (hD : va_D A ws) {t a q : Nat} {en : va_E} (ht : ev_TR t = true) (hta : ty a = some t) (hq : ws[q]? = some (a, en)) : ev_M ty ws t = ev_ct en := by
  have h : ∃ en : va_E, ∃ (a q : Nat), ty a = some t ∧ ws[q]? = some (a, en) := ⟨en, a, q, hta, hq⟩
  unfold ev_M
  rw [dif_pos h]
  obtain ⟨a', q', h1, h2⟩ := h.choose_spec
  have e := hU t ht a a' hta h1
  subst e
  have e2 := hD.1 q' q _ _ h2 hq rfl
  subst e2
  rw [hq] at h2
  rw [← (Prod.mk.inj (Option.some.inj h2)).2]
theorem ev_ofck {Ex : va_W → Prop} (hU : ev_uq ty ev_TR) (hW : ck_Wo D cys ty ck_tags ck_pvs0 Ex pvv H) : ∃ ws : va_W, va_P D ck_cl ws H ∧ va_D (ck_own ty) ws ∧ ck_typed ty cys ck_tags ws ∧ ck_pvs ty ck_pvs0 pvv ws ∧ Ex ws ∧ ev_Wo D cys ty ck_tags ev_TR (ev_M ty ws) H := by
  obtain ⟨ws, h1, h2, h3, h4, h5⟩ := hW
  refine ⟨ws, h1, h2, h3, h4, h5, ws, h1, h2, fun a t hta => ?_⟩
  obtain ⟨q, en, td, g1, g2, g3⟩ := h3 a t hta
  refine ⟨q, en, td, g1, g2, ?_⟩
  have hM : ev_TR t = true → ev_M ty ws t = ev_ct en := fun ht => ev_M_at hU h2 ht hta g1
  match td, g3 with
  | .inl o, g3 =>
    obtain ⟨fs, rfl, k1, k2⟩ := g3
    refine ⟨fs, rfl, k1, fun k ft hk => ?_⟩
    obtain ⟨v, w1, w2⟩ := k2 k ft hk
    refine ⟨v, w1, ?_⟩
    match ft, w2 with
    | .inl r, w2 =>
      obtain ⟨x, rfl, -⟩ := w2
      refine ⟨x, rfl, fun hb => ?_⟩
      rw [hM hb]
      show x.toInt = ev_ct (.inr (o.1, fs)) k
      unfold ev_ct
      dsimp only
      rw [w1]
    | .inr (.inl t'), w2 => exact w2
    | .inr (.inr u), w2 =>
      obtain ⟨x, rfl⟩ := w2
      refine ⟨x, rfl, fun hb => ?_⟩
      rw [hM hb]
      show x.toInt = ev_ct (.inr (o.1, fs)) k
      unfold ev_ct
      dsimp only
      rw [w1]
  | .inr r, g3 =>
    rcases g3 with ⟨k0, f, rfl, k1⟩ | ⟨k0, f, rfl⟩ | ⟨k0, f, rfl, k1⟩
    · exact Or.inl ⟨k0, f, rfl, fun hb j hj => by rw [hM hb]; rfl⟩
    · exact Or.inr (Or.inl ⟨k0, f, rfl, fun hb j hj => by rw [hM hb]; rfl⟩)
    · exact Or.inr (Or.inr ⟨k0, f, rfl, k1⟩)
theorem ev_hasI {en : va_E} {ci : Nat} {fts : List ck_AV} {k : Nat} {x : Int32} (he : ck_e ty cys (.inl (ci, fts)) en) (h : ck_has en k x) : ev_ct en k = x.toInt := by
  obtain ⟨fs, rfl, -, -⟩ := he
  have h : fs[k]? = some (.int x) := h
  unfold ev_ct
  dsimp only
  rw [h]
theorem ev_hasA {en : va_E} {kd n et : Nat} {sg : List (Nat × Int × Int)} {k : Nat} {x : Int32} (hkd : kd < 3) (he : ck_e ty cys (.inr (kd, n, sg, et)) en) (h : ck_has en k x) : ev_ct en k = x.toInt := by
  rcases he with ⟨-, f, rfl, -⟩ | ⟨h0, -⟩ | ⟨h0, -⟩
  · have h : f k = x := h
    show (f k).toInt = x.toInt
    rw [h]
  · have h0 : kd = 3 := h0
    omega
  · have h0 : kd = 4 ∨ kd = 5 := h0
    omega
theorem z_o32 {a b : Int} (h : Int32.ofInt a = Int32.ofInt b) : a % 4294967296 = b % 4294967296 := by
  have h1 := congrArg Int32.toInt h
  rw [Int32.toInt_ofInt, Int32.toInt_ofInt] at h1
  unfold Int.bmod at h1
  simp only [Int32.size] at h1
  omega
theorem ev_hasL {en : va_E} {n et : Nat} {sg : List (Nat × Int × Int)} {V : List Int} {j : Nat} (he : ck_e ty cys (.inr (3, n, sg, et)) en) (h1 : ck_has en (2 * j) (g_R V (2 * j))) (h2 : ck_has en (2 * j + 1) (g_R V (2 * j + 1))) (hv1 : -9223372036854775808 ≤ V.getD j 0) (hv2 : V.getD j 0 ≤ 9223372036854775807) : ev_ct en j = V.getD j 0 := by
  rcases he with ⟨h0, -⟩ | ⟨-, f, rfl⟩ | ⟨h0, -⟩
  · exact absurd h0 (Nat.lt_irrefl 3)
  · have h1 : ck_half f (2 * j) = g_R V (2 * j) := h1
    have h2 : ck_half f (2 * j + 1) = g_R V (2 * j + 1) := h2
    show (f j).toInt = V.getD j 0
    unfold ck_half g_R at h1 h2
    rw [if_pos (by omega), if_pos (by omega), show 2 * j / 2 = j by omega] at h1
    rw [if_neg (by omega), if_neg (by omega), show (2 * j + 1) / 2 = j by omega] at h2
    have e1 := z_o32 h1
    have e2 := z_o32 h2
    have b1 := Int64.le_toInt (f j)
    have b2 := Int64.toInt_lt (f j)
    generalize (f j).toInt = x at *
    generalize V.getD j 0 = y at *
    omega
  · have h0 : (3 : Nat) = 4 ∨ (3 : Nat) = 5 := h0
    omega
/-- the memory, from what the ranges keep -/
theorem ev_mem {C : Nat → Nat → Int32} (hU : ev_uq ty ev_TR) (hW : ck_Wo D cys ty ck_tags ck_pvs0 (tk ty ck_prot1 C) pvv H) (hG : g5C C) (n15 : ∃ a, ty a = some 15) (n49 : ∃ a, ty a = some 49) (n16 : ∃ a, ty a = some 16) (n50 : ∃ a, ty a = some 50) (n10 : ∃ a, ty a = some 10) (n12 : ∃ a, ty a = some 12) :
    ∃ M : ev_C, ev_Wo D cys ty ck_tags ev_TR M H ∧ (∀ k : Nat, k < 940 → M 15 k = (C 15 k).toInt ∧ M 49 k = (C 49 k).toInt) ∧ (∀ j : Nat, j < 27 → M 16 j = z_V.getD j 0 ∧ M 50 j = z_W.getD j 0) ∧ M 10 1 = (pvv 0).toInt ∧ M 12 2 = (pvv 11).toInt := by
  obtain ⟨ws, h1, h2, h3, h4, h5, h6⟩ := ev_ofck hU hW
  have cell : ∀ t : Nat, ev_TR t = true → (∃ a, ty a = some t) → ∃ (a q : Nat) (en : va_E) (td : ck_TD), ty a = some t ∧ ws[q]? = some (a, en) ∧ ck_tags[t]? = some td ∧ ck_e ty cys td en ∧ ev_M ty ws t = ev_ct en := fun t ht ha => by
    obtain ⟨a, hta⟩ := ha
    obtain ⟨q, en, td, g1, g2, g3⟩ := h3 a t hta
    exact ⟨a, q, en, td, hta, g1, g2, g3, ev_M_at hU h2 ht hta g1⟩
  refine ⟨ev_M ty ws, h6, fun k hk => ⟨?_, ?_⟩, fun j hj => ⟨?_, ?_⟩, ?_, ?_⟩
  · obtain ⟨a, q, en, td, hta, g1, g2, g3, e⟩ := cell 15 (by decide +kernel) n15
    cases g2
    rw [e]
    exact ev_hasA (by decide) g3 (h5 a 15 q en hta g1 k ⟨(0, 939), by decide, Nat.zero_le _, by show k ≤ 939; omega⟩)
  · obtain ⟨a, q, en, td, hta, g1, g2, g3, e⟩ := cell 49 (by decide +kernel) n49
    cases g2
    rw [e]
    exact ev_hasA (by decide) g3 (h5 a 49 q en hta g1 k ⟨(0, 939), by decide, Nat.zero_le _, by show k ≤ 939; omega⟩)
  · obtain ⟨a, q, en, td, hta, g1, g2, g3, e⟩ := cell 16 (by decide +kernel) n16
    cases g2
    rw [e]
    have hb : ∀ j : Nat, j < 27 → -9223372036854775808 ≤ z_V.getD j 0 ∧ z_V.getD j 0 ≤ 9223372036854775807 := by decide +kernel
    refine ev_hasL g3 ?_ ?_ (hb j hj).1 (hb j hj).2
    · rw [← hG.2.1 (2 * j) (by omega)]
      exact h5 a 16 q en hta g1 (2 * j) ⟨(0, 53), by decide, Nat.zero_le _, by show 2 * j ≤ 53; omega⟩
    · rw [← hG.2.1 (2 * j + 1) (by omega)]
      exact h5 a 16 q en hta g1 (2 * j + 1) ⟨(0, 53), by decide, Nat.zero_le _, by show 2 * j + 1 ≤ 53; omega⟩
  · obtain ⟨a, q, en, td, hta, g1, g2, g3, e⟩ := cell 50 (by decide +kernel) n50
    cases g2
    rw [e]
    have hb : ∀ j : Nat, j < 27 → -9223372036854775808 ≤ z_W.getD j 0 ∧ z_W.getD j 0 ≤ 9223372036854775807 := by decide +kernel
    refine ev_hasL g3 ?_ ?_ (hb j hj).1 (hb j hj).2
    · rw [← hG.2.2 (2 * j) (by omega)]
      exact h5 a 50 q en hta g1 (2 * j) ⟨(0, 53), by decide, Nat.zero_le _, by show 2 * j ≤ 53; omega⟩
    · rw [← hG.2.2 (2 * j + 1) (by omega)]
      exact h5 a 50 q en hta g1 (2 * j + 1) ⟨(0, 53), by decide, Nat.zero_le _, by show 2 * j + 1 ≤ 53; omega⟩
  · obtain ⟨a, q, en, td, hta, g1, g2, g3, e⟩ := cell 10 (by decide +kernel) n10
    cases g2
    rw [e]
    obtain ⟨q', en', w1, w2⟩ := h4 0 10 1 rfl a hta
    have w3 := (ck_D1 h2 g1 w1).2
    subst w3
    exact ev_hasI g3 w2
  · obtain ⟨a, q, en, td, hta, g1, g2, g3, e⟩ := cell 12 (by decide +kernel) n12
    cases g2
    rw [e]
    obtain ⟨q', en', w1, w2⟩ := h4 11 12 2 rfl a hta
    have w3 := (ck_D1 h2 g1 w1).2
    subst w3
    exact ev_hasI g3 w2
end ZW

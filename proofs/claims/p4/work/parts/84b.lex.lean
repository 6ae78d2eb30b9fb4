/-! THE LAW, 7b: calls with both contracts, ranges and memory. -/
section LEX
variable {p : Program} {l : Launch} {e : Env} {s : State} {m : MethodId} {below : List Frame} {meth : Method} {c : Code} {H : Heap} {locs : List Loc} {cells slots : Nat} {Q : State → Prop} {ls : Array Slot} {pc : Nat} {rest : List Value}
variable {b L : Nat} {xs : Nat → Int32} {D : va_G} {cys : Nat → ClassId} {ty : Nat → Option Nat} {ax am qo : Nat} {pvv : Nat → Int32} {Ex : va_W → Prop}
/-- the law's world, whatever is kept by hand -/
def lw_J (s : State) (D : va_G) (cys : Nat → ClassId) (ty : Nat → Option Nat) (qo : Nat) (Ex : va_W → Prop) (pvv : Nat → Int32) (H : Heap) (locs : List Loc) : Prop := ck_pvo ty (ck_XE pvv) pPM pvv ∧ ck_Wo D cys ty ck_tags ck_pvs0 Ex pvv H ∧ lo_P D cys qo H ∧ va_S (lw_A s) s.heap H locs
theorem ev_uqT (hun : ck_un ty) : ev_uq ty ev_TR := fun t ht a a' h h' => by
  have key : ∀ t : Nat, t < 200 → ev_TR t = true → t ∈ ck_uns := by decide +kernel
  rcases Nat.lt_or_ge t 200 with h2 | h2
  · exact hun t (key t h2 ht) a a' h h'
  · exfalso
    have h3 : ∀ n : Nat, 200 ≤ n → ev_TR n = false := fun n hn => by
      unfold ev_TR
      rw [Nat.div_eq_of_lt (Nat.lt_of_lt_of_le (by decide +kernel) (Nat.pow_le_pow_right (by decide) hn))]
      rfl
    rw [h3 t h2] at ht
    cases ht
theorem lw_ex {kc : ck_K} {ix b' t : Nat} {As st0 : List Value} {lv : List (Nat × Value)} {A : List ev_V} {M : ev_C} {Qx : Option ev_V → ev_C → Prop} (C : lw_C p l s m c b L xs D cys ty ax am qo) (hl : lv_has ls 7 lv) (hm : lc_mV RL ix kc t) (hk : ck_lawS kc = true) (hHo : ck_Holds l D cys ty ck_tags ck_pvs0 Ex kc) (hMx : ev_Met l D cys ty ck_tags ev_TR kc A M Qx) (ha : ck_args ty (k_pa kc) (.ref b' :: As)) (hax : ev_vs ty A (.ref b' :: As)) (hI : lw_J s D cys ty qo Ex pvv H locs) (hE : ev_Wo D cys ty ck_tags ev_TR M H) (hvs : st0 = As.reverse ++ .ref b' :: rest) (hR : k_fr kc + 1 ≤ 2048 ∧ 8 + (k_ml kc + 11) + k_lo kc ≤ 84000) (hcs : cells ≤ 601024 ∧ slots ≤ 7293034) (hr8 : (rest.map fun v => v.category).sum ≤ 8) (hdg : decode code pc = .ok (.invokevirtual ix, 3))
    (kk : ∀ cs ∈ k_cs kc, ∀ (z : Int32) (pvv' : Nat → Int32) (H1 : Heap) (locs1 : List Loc) (r : Option ev_V) (M' : ev_C), ck_caseOK ty cs (.ref b' :: As) pvv pvv' (some (.int z)) → ev_rv ty r (some (.int z)) → Qx r M' → lw_J s D cys ty qo Ex pvv' H1 locs1 → ev_Wo D cys ty ck_tags ev_TR M' H1 → W p l e room_1 s m #[Value.ref b] below meth c H1 locs1 cells slots Q (F0 m (pc + 3) ls (.int z :: rest))) : W p l e room_1 s m #[Value.ref b] below meth c H locs cells slots Q (F0 m pc ls st0) := by
  obtain ⟨F, hX, hbl, hL, hun, tx, tm, hqo, hA, -⟩ := C
  obtain ⟨hexec, hb, hml, hts, hin, hown, hK, hNw⟩ := F
  obtain ⟨i1, i2, i3, i4⟩ := hI
  simp only [ck_lawS, Bool.and_eq_true] at hk
  have hM := met_and (hHo (.ref b' :: As) pvv ha (hr_wk i1 hk.1)) (hMx (.ref b' :: As) hax)
  obtain ⟨m1, m2, w1, w2, w3, m3, ci, fts, r, pa, p1, p2, p3, p4, p5⟩ := hm
  rw [p1] at ha
  have hvl := ck_args_len ha.2
  obtain ⟨⟨b'', e', hb0⟩, -⟩ := ha
  cases e'
  obtain ⟨ws, hP, hD, hT, hV, hE0⟩ := id i2
  obtain ⟨q, en, td, g1, g2, g3⟩ := hT b' t hb0
  rw [p2] at g2
  cases g2
  obtain ⟨fs, rfl, -, -⟩ := g3
  have hr := va_runV (p := p) (l := l) (e := e) (R := room_1) (s := s) (m := m) (args := #[Value.ref b]) (below := below) (meth := meth) (c := c) (H := H) (locs := locs) (cells := cells) (slots := slots) (g := F0 m pc ls st0) (As := As) (rest := rest) (b := b') (nL := 7) (own := RL) (index := ix) (bytes := k_cc kc) (maxL := k_ml kc) (ret := k_rt kc) (n := pa.length) ⟨hexec, hb, hml, hown, hts⟩ hM ⟨callB_of pa.length hts (lc_good hin m1) rfl rfl rfl (hts _ (hin _ m2)) (hts _ (hin _ w1)) ⟨m3.1, m3.2, p5⟩ hR, hts _ (hin _ w2), hts _ (hin _ w3)⟩
    ⟨fun a U g mk q => ⟨ck_blind _ a U g mk q.1, ev_blind a U g mk q.2⟩, by have := va_recv hK hP p3 g1; rw [p4] at this; exact this, fun U hU hWm => ⟨⟨rfl, by rw [hU]; exact i2, va_K.moved hWm.alike hK, ck_nest_warm hWm hNw⟩, ⟨rfl, by rw [hU]; exact hE, va_K.moved hWm.alike hK, ck_nest_warm hWm hNw⟩⟩⟩ rfl hvl hl.1 hvs (lv_room hr8) hdg hcs
  intro T hT X
  obtain ⟨v, st₀, t, T', Lx, h0, X', hLx, e1, e2, ⟨⟨⟨cs, hcs2, r2, pvv', hv, hco, hb2⟩, hz, hkp⟩, ⟨r3, v3, M', hv3, hr3, hq3, hb3⟩, -⟩, st⟩ := hr T hT X
  cases hv
  cases hv3
  rw [h0] at hz hkp
  have hkk : lc_kept ty H T'.heap := ⟨by rw [e1]; exact hz, fun q h1 h2 => by rw [e1]; exact hkp q h1 h2⟩
  have h1 := List.all_eq_true.mp hk.2 cs hcs2
  rw [Bool.and_eq_true] at h1
  obtain ⟨z, rfl⟩ := lc_int (ty := ty) (av := cs.1) h1.1 hco.1
  obtain ⟨t2, a1, b1⟩ := kk cs hcs2 z pvv' T'.heap (locs ++ Lx) r3 M' hco hr3 hq3 ⟨hr_std i1 hco.2.2 h1.2, by rw [e1]; exact hb2, lo_kept i3 (hkk.2 qo (lo_lt i3) hqo), lc_S i4 hA hkk hLx⟩ (by rw [e1]; exact hb3) T' rfl X'
  exact ⟨t2, st t2 a1, b1⟩
/-- one heap: a row of bytes is one -/
theorem ev_two {ws ws2 : va_W} {q q2 a n n2 : Nat} {f f2 : Nat → Int32} {cA cA2 : ClassId} (h1 : va_P D ck_cl ws H) (h2 : va_P D ck_cl ws2 H) (g1 : ws[q]? = some (a, .inl (cA, n, .inl f))) (g2 : ws2[q2]? = some (a, .inl (cA2, n2, .inl f2))) : ∀ j : Nat, j < n → j < n2 → f j = f2 j := by
  intro j hj hj2
  have e1 : H[a]? = some (vp_cell cA (n, .inl f)) := h1 q _ g1
  have e2 : H[a]? = some (vp_cell cA2 (n2, .inl f2)) := h2 q2 _ g2
  rw [e1] at e2
  have e3 := Option.some.inj e2
  have e4 : (arrV cA n (fun j => .int (f j))).slots[j]? = (arrV cA2 n2 (fun j => .int (f2 j))).slots[j]? := by
    have : arrV cA n (fun j => .int (f j)) = arrV cA2 n2 (fun j => .int (f2 j)) := e3
    rw [this]
  rw [arrV_read _ _ hj, arrV_read _ _ hj2] at e4
  exact Value.int.inj (Option.some.inj e4)
theorem tkN_of {C : Nat → Nat → Int32} {ws : va_W} (h : tk ty ck_prot1 C ws) : tk ty ck_protN C ws := fun a t q en hta hq j hj => by
  refine h a t q en hta hq j ?_
  unfold ck_protN at hj
  split at hj
  · obtain ⟨_, h9, _⟩ := hj; cases h9
  · split at hj
    · obtain ⟨_, h9, _⟩ := hj; cases h9
    · exact hj
theorem g_co {C C2 : Nat → Nat → Int32} (h : ∀ t j, t ≠ 15 → t ≠ 49 → C2 t j = C t j) (hG : g1C C ∧ g2C C ∧ g3C C ∧ g4C C) : g1C C2 ∧ g2C C2 ∧ g3C C2 ∧ g4C C2 := by
  have e : ∀ t, t ≠ 15 → t ≠ 49 → C2 t = C t := fun t a b => funext (fun j => h t j a b)
  unfold g1C g2C g3C g4C at *
  rw [e 0 (by decide) (by decide), e 29 (by decide) (by decide), e 30 (by decide) (by decide), e 31 (by decide) (by decide), e 12 (by decide) (by decide), e 37 (by decide) (by decide), e 34 (by decide) (by decide), e 46 (by decide) (by decide), e 45 (by decide) (by decide)]
  exact hG
/-- behind both feeds the tapes are alike again -/
theorem ge_back {C : Nat → Nat → Int32} {M : ev_C} (hW : ck_Wo D cys ty ck_tags ck_pvs0 (tk ty ck_protN C) pvv H) (hM : ev_Wo D cys ty ck_tags ev_TR M H) (hG : gC C) (n15 : ∃ a, ty a = some 15) (n49 : ∃ a, ty a = some 49) (hk : ∀ k : Nat, k < 940 → M 15 k = M 49 k) : ck_Wo D cys ty ck_tags ck_pvs0 (GE ty) pvv H := by
  obtain ⟨ws, h1, h2, h3, h4, h5⟩ := hW
  obtain ⟨ws2, k1, k2, k3⟩ := hM
  have row : ∀ t : Nat, (t = 15 ∨ t = 49) → ∀ a : Nat, ty a = some t → ∀ (q : Nat) (en : va_E), ws[q]? = some (a, en) → ∀ j : Nat, j < 940 → ck_has en j (Int32.ofInt (M t j)) := fun t ht a hta q en hq j hj => by
    obtain ⟨q1, en1, td1, a1, a2, a3⟩ := h3 a t hta
    have e1 := (ck_D1 h2 hq a1).2
    subst e1
    obtain ⟨q2, en2, td2, b1, b2, b3⟩ := k3 a t hta
    have hkd : ∃ (sg : List (Nat × Int × Int)) (et : Nat), ck_tags[t]? = some (.inr (1, 940, sg, et)) := by
      rcases ht with rfl | rfl
      · exact ⟨_, _, rfl⟩
      · exact ⟨_, _, rfl⟩
    have htr : ev_TR t = true := by
      rcases ht with rfl | rfl <;> decide +kernel
    obtain ⟨sg, et, htd⟩ := hkd
    rw [htd] at a2 b2
    cases a2
    cases b2
    rcases a3 with ⟨-, f, rfl, -⟩ | ⟨h0, -⟩ | ⟨h0, -⟩
    · rcases b3 with ⟨-, f2, rfl, c1⟩ | ⟨h0, -⟩ | ⟨h0, -⟩
      · have e2 := ev_two h1 k1 hq b1 j hj hj
        show f j = Int32.ofInt (M t j)
        rw [e2, ← c1 htr j hj, Int32.ofInt_toInt]
      · have h0 : (1 : Nat) = 3 := h0
        omega
      · have h0 : (1 : Nat) = 4 ∨ (1 : Nat) = 5 := h0
        omega
    · have h0 : (1 : Nat) = 3 := h0
      omega
    · have h0 : (1 : Nat) = 4 ∨ (1 : Nat) = 5 := h0
      omega
  refine ⟨ws, h1, h2, h3, h4, fun t j => if t = 15 ∨ t = 49 then Int32.ofInt (M t j) else C t j, fun a t q en hta hq j hj => ?_, ⟨⟨fun j hj => ?_, fun j hj => ?_, fun j hj => ?_⟩, g_co (fun t j h15 h49 => if_neg (fun z => z.elim h15 h49)) hG.2⟩⟩
  · by_cases ht : t = 15 ∨ t = 49
    · dsimp only
      rw [if_pos ht]
      refine row t ht a hta q en hq j ?_
      rcases ht with rfl | rfl
      · obtain ⟨r, w1, -, w2⟩ := hj
        rw [List.mem_singleton.mp w1] at w2
        exact Nat.lt_succ_of_le w2
      · obtain ⟨r, w1, -, w2⟩ := hj
        rw [List.mem_singleton.mp w1] at w2
        exact Nat.lt_succ_of_le w2
    · dsimp only
      rw [if_neg ht]
      refine h5 a t q en hta hq j ?_
      unfold ck_protN
      rw [if_neg (fun z => ht (Or.inl z)), if_neg (fun z => ht (Or.inr z))]
      exact hj
  · dsimp only
    rw [if_pos (Or.inl rfl), if_pos (Or.inr rfl), hk j hj]
  · dsimp only
    rw [if_neg (by decide)]
    exact hG.1.2.1 j hj
  · dsimp only
    rw [if_neg (by decide)]
    exact hG.1.2.2 j hj
end LEX

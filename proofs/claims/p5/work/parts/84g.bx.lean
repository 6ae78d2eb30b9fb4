/-! THE LAW, 7c: a call by its ranges and by a contract with its own end. -/
section LBX
variable {p : Program} {l : Launch} {e : Env} {s : State} {m : MethodId} {below : List Frame} {meth : Method} {c : Code} {H : Heap} {locs : List Loc} {cells slots : Nat} {Q : State → Prop} {ls : Array Slot} {pc : Nat} {rest : List Value}
variable {b L : Nat} {xs : Nat → Int32} {D : va_G} {cys : Nat → ClassId} {ty : Nat → Option Nat} {ax am qo : Nat} {pvv : Nat → Int32}
theorem lw_bx {kc : ck_K} {ix b' t : Nat} {As st0 : List Value} {lv : List (Nat × Value)} {Ex2 : va_W → Prop} {P : Option Value → (Nat → Int32) → (va_W → Prop) → Prop} (C : lw_C p l s m c b L xs D cys ty ax am qo) (hl : lv_has ls 7 lv) (hm : lc_mV RL ix kc t) (hk : ck_lawS kc = true) (hHo : ck_Holds l D cys ty ck_tags ck_pvs0 (GE ty) kc) (hMx : hr_Met l D cys ty ck_tags ck_pvs0 Ex2 kc (.ref b' :: As) pvv P) (ha : ck_args ty (k_pa kc) (.ref b' :: As)) (hI : lw_I s D cys ty qo pvv H locs) (hW2 : ck_Wo D cys ty ck_tags ck_pvs0 Ex2 pvv H) (hvs : st0 = As.reverse ++ .ref b' :: rest) (hR : k_fr kc + 1 ≤ 2048 ∧ 8 + (k_ml kc + 11) + k_lo kc ≤ 84000) (hcs : cells ≤ 601024 ∧ slots ≤ 7293034) (hr8 : (rest.map fun v => v.category).sum ≤ 8) (hdg : decode code pc = .ok (.invokevirtual ix, 3))
    (kk : ∀ cs ∈ k_cs kc, ∀ (z : Int32) (pvv' pvv3 : Nat → Int32) (E3 : va_W → Prop) (H1 : Heap) (locs1 : List Loc), ck_caseOK ty cs (.ref b' :: As) pvv pvv' (some (.int z)) → P (some (.int z)) pvv3 E3 → ck_Wo D cys ty ck_tags ck_pvs0 E3 pvv3 H1 → lw_I s D cys ty qo pvv' H1 locs1 → W p l e room_1 s m #[Value.ref b] below meth c H1 locs1 cells slots Q (F0 m (pc + 3) ls (.int z :: rest))) : W p l e room_1 s m #[Value.ref b] below meth c H locs cells slots Q (F0 m pc ls st0) := by
  obtain ⟨F, hX, hbl, hL, hun, tx, tm, hqo, hA, -⟩ := C
  obtain ⟨hexec, hb, hml, hts, hin, hown, hK, hNw⟩ := F
  obtain ⟨i1, i2, i3, i4⟩ := hI
  simp only [ck_lawS, Bool.and_eq_true] at hk
  have hM := met_and (hHo (.ref b' :: As) pvv ha (hr_wk i1 hk.1)) hMx
  obtain ⟨m1, m2, w1, w2, w3, m3, ci, fts, r, pa, p1, p2, p3, p4, p5⟩ := hm
  rw [p1] at ha
  have hvl := ck_args_len ha.2
  obtain ⟨⟨b'', e', hb0⟩, -⟩ := ha
  cases e'
  obtain ⟨ws, hP, hD, hT, hV, hE0⟩ := id i2
  obtain ⟨q, en, td, g1, g2, g3⟩ := hT b' t hb0
  rw [p2] at g2
  cases g2
  obtain ⟨fs, rfl, -, -⟩ := g3
  have hr := va_runV (p := p) (l := l) (e := e) (R := room_1) (s := s) (m := m) (args := #[Value.ref b]) (below := below) (meth := meth) (c := c) (H := H) (locs := locs) (cells := cells) (slots := slots) (g := F0 m pc ls st0) (As := As) (rest := rest) (b := b') (nL := 7) (own := RL) (index := ix) (bytes := k_cc kc) (maxL := k_ml kc) (ret := k_rt kc) (n := pa.length) ⟨hexec, hb, hml, hown, hts⟩ hM ⟨callB_of pa.length hts (lc_good hin m1) rfl rfl rfl (hts _ (hin _ m2)) (hts _ (hin _ w1)) ⟨m3.1, m3.2, p5⟩ hR, hts _ (hin _ w2), hts _ (hin _ w3)⟩
    ⟨fun a U g mk q => ⟨ck_blind _ a U g mk q.1, ck_blind _ a U g mk q.2⟩, by have := va_recv hK hP p3 g1; rw [p4] at this; exact this, fun U hU hWm => ⟨⟨rfl, by rw [hU]; exact i2, va_K.moved hWm.alike hK, ck_nest_warm hWm hNw⟩, ⟨rfl, by rw [hU]; exact hW2, va_K.moved hWm.alike hK, ck_nest_warm hWm hNw⟩⟩⟩ rfl hvl hl.1 hvs (lv_room hr8) hdg hcs
  intro T hT X
  obtain ⟨v, st₀, t, T', Lx, h0, X', hLx, e1, e2, ⟨⟨⟨cs, hcs2, r2, pvv', hv, hco, hb2⟩, hz, hkp⟩, ⟨r3, pvv3, E3, hv3, hp3, hb3⟩, -⟩, st⟩ := hr T hT X
  cases hv
  cases hv3
  rw [h0] at hz hkp
  have hkk : lc_kept ty H T'.heap := ⟨by rw [e1]; exact hz, fun q h1 h2 => by rw [e1]; exact hkp q h1 h2⟩
  have h1 := List.all_eq_true.mp hk.2 cs hcs2
  rw [Bool.and_eq_true] at h1
  obtain ⟨z, rfl⟩ := lc_int (ty := ty) (av := cs.1) h1.1 hco.1
  obtain ⟨t2, a1, b1⟩ := kk cs hcs2 z pvv' pvv3 E3 T'.heap (locs ++ Lx) hco hp3 (by rw [e1]; exact hb3) ⟨hr_std i1 hco.2.2 h1.2, by rw [e1]; exact hb2, lo_kept i3 (hkk.2 qo (lo_lt i3) hqo), lc_S i4 hA hkk hLx⟩ T' rfl X'
  exact ⟨t2, st t2 a1, b1⟩
end LBX

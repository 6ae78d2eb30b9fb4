/-! THE LAW, 7b: calls with both contracts, ranges and memory. -/
section LEX
variable {p : Program} {l : Launch} {e : Env} {s : State} {m : MethodId} {below : List Frame} {meth : Method} {c : Code} {H : Heap} {locs : List Loc} {cells slots : Nat} {Q : State → Prop} {ls : Array Slot} {pc : Nat} {rest : List Value}
variable {b L : Nat} {xs : Nat → Int32} {D : va_G} {cys : Nat → ClassId} {ty : Nat → Option Nat} {ax am qo : Nat} {pvv : Nat → Int32} {Ex : va_W → Prop}
/-- the law's world, whatever is kept by hand -/
def lw_J (s : State) (D : va_G) (cys : Nat → ClassId) (ty : Nat → Option Nat) (qo : Nat) (Ex : va_W → Prop) (pvv : Nat → Int32) (H : Heap) (locs : List Loc) : Prop := ck_pvo ty (ck_XE pvv) pPM pvv ∧ ck_Wo D cys ty ck_tags ck_pvs0 Ex pvv H ∧ lo_P D cys qo H ∧ va_S (lw_A s) s.heap H locs
theorem ev_uqT (hun : ck_un ty) : ev_uq ty ev_TR := fun t ht a a' h h' => by
  have key : ∀ t : Nat, t < 200 → ev_TR t = true → t ∈ ck_uns := by decide +kernel
  rcases Nat.lt_or_ge t 200 with h2 | h2
  · exact hun t (key t h2 ht) a a' h h'
  · exfalso
    have h3 : ∀ n : Nat, 200 ≤ n → ev_TR n = false := fun n hn => by
      unfold ev_TR
      rw [Nat.div_eq_of_lt (Nat.lt_of_lt_of_le (by decide +kernel) (Nat.pow_le_pow_right (by decide) hn))]
      rfl
    rw [h3 t h2] at ht
    cases ht
theorem lw_ex {kc : ck_K} {ix b' t : Nat} {As st0 : List Value} {lv : List (Nat × Value)} {A : List ev_V} {M : ev_C} {Qx : Option ev_V → ev_C → Prop} (C : lw_C p l s m c b L xs D cys ty ax am qo) (hl : lv_has ls 7 lv) (hm : lc_mV RL ix kc t) (hk : ck_lawS kc = true) (hHo : ck_Holds l D cys ty ck_tags ck_pvs0 Ex kc) (hMx : ev_Met l D cys ty ck_tags ev_TR kc A M Qx) (ha : ck_args ty (k_pa kc) (.ref b' :: As)) (hax : ev_vs ty A (.ref b' :: As)) (hI : lw_J s D cys ty qo Ex pvv H locs) (hE : ev_Wo D cys ty ck_tags ev_TR M H) (hvs : st0 = As.reverse ++ .ref b' :: rest) (hR : k_fr kc + 1 ≤ 2048 ∧ 8 + (k_ml kc + 11) + k_lo kc ≤ 84000) (hcs : cells ≤ 601024 ∧ slots ≤ 7293034) (hr8 : (rest.map fun v => v.category).sum ≤ 8) (hdg : decode code pc = .ok (.invokevirtual ix, 3))
    (kk : ∀ cs ∈ k_cs kc, ∀ (z : Int32) (pvv' : Nat → Int32) (H1 : Heap) (locs1 : List Loc) (r : Option ev_V) (M' : ev_C), ck_caseOK ty cs (.ref b' :: As) pvv pvv' (some (.int z)) → ev_rv ty r (some (.int z)) → Qx r M' → lw_J s D cys ty qo Ex pvv' H1 locs1 → ev_Wo D cys ty ck_tags ev_TR M' H1 → W p l e room_1 s m #[Value.ref b] below meth c H1 locs1 cells slots Q (F0 m (pc + 3) ls (.int z :: rest))) : W p l e room_1 s m #[Value.ref b] below meth c H locs cells slots Q (F0 m pc ls st0) := by
  obtain ⟨F, hX, hbl, hL, hun, tx, tm, hqo, hA, -⟩ := C
  obtain ⟨hexec, hb, hml, hts, hin, hown, hK, hNw⟩ := F
  obtain ⟨i1, i2, i3, i4⟩ := hI
  simp only [ck_lawS, Bool.and_eq_true] at hk
  have hM := met_and (hHo (.ref b' :: As) pvv ha (hr_wk i1 hk.1)) (hMx (.ref b' :: As) hax)
  obtain ⟨m1, m2, w1, w2, w3, m3, ci, fts, r, pa, p1, p2, p3, p4, p5⟩ := hm
  rw [p1] at ha
  have hvl := ck_args_len ha.2
  obtain ⟨⟨b'', e', hb0⟩, -⟩ := ha
  cases e'
  obtain ⟨ws, hP, hD, hT, hV, hE0⟩ := id i2
  obtain ⟨q, en, td, g1, g2, g3⟩ := hT b' t hb0
  rw [p2] at g2
  cases g2
  obtain ⟨fs, rfl, -, -⟩ := g3
  have hr := va_runV (p := p) (l := l) (e := e) (R := room_1) (s := s) (m := m) (args := #[Value.ref b]) (below := below) (meth := meth) (c := c) (H := H) (locs := locs) (cells := cells) (slots := slots) (g := F0 m pc ls st0) (As := As) (rest := rest) (b := b') (nL := 7) (own := RL) (index := ix) (bytes := k_cc kc) (maxL := k_ml kc) (ret := k_rt kc) (n := pa.length) ⟨hexec, hb, hml, hown, hts⟩ hM ⟨callB_of pa.length hts (lc_good hin m1) rfl rfl rfl (hts _ (hin _ m2)) (hts _ (hin _ w1)) ⟨m3.1, m3.2, p5⟩ hR, hts _ (hin _ w2), hts _ (hin _ w3)⟩
    ⟨fun a U g mk q => ⟨ck_blind _ a U g mk q.1, ev_blind a U g mk q.2⟩, by have := va_recv hK hP p3 g1; rw [p4] at this; exact this, fun U hU hWm => ⟨⟨rfl, by rw [hU]; exact i2, va_K.moved hWm.alike hK, ck_nest_warm hWm hNw⟩, ⟨rfl, by rw [hU]; exact hE, va_K.moved hWm.alike hK, ck_nest_warm hWm hNw⟩⟩⟩ rfl hvl hl.1 hvs (lv_room hr8) hdg hcs
  intro T hT X
  obtain ⟨v, st₀, t, T', Lx, h0, X', hLx, e1, e2, ⟨⟨⟨cs, hcs2, r2, pvv', hv, hco, hb2⟩, hz, hkp⟩, ⟨r3, v3, M', hv3, hr3, hq3, hb3⟩, -⟩, st⟩ := hr T hT X
  cases hv
  cases hv3
  rw [h0] at hz hkp
  have hkk : lc_kept ty H T'.heap := ⟨by rw [e1]; exact hz, fun q h1 h2 => by rw [e1]; exact hkp q h1 h2⟩
  have h1 := List.all_eq_true.mp hk.2 cs hcs2
  rw [Bool.and_eq_true] at h1
  obtain ⟨z, rfl⟩ := lc_int (ty := ty) (av := cs.1) h1.1 hco.1
  obtain ⟨t2, a1, b1⟩ := kk cs hcs2 z pvv' T'.heap (locs ++ Lx) r3 M' hco hr3 hq3 ⟨hr_std i1 hco.2.2 h1.2, by rw [e1]; exact hb2, lo_kept i3 (hkk.2 qo (lo_lt i3) hqo), lc_S i4 hA hkk hLx⟩ (by rw [e1]; exact hb3) T' rfl X'
  exact ⟨t2, st t2 a1, b1⟩
/-! THE PLAYS KEPT, 2: the places that are compared, between table and memory. -/
def lw_tb (t : Nat) : List (Nat × Nat) := match t with
  | 6 => [(0, 5)]
  | 19 => [(0, 19)]
  | 34 => [(0, 139)]
  | 45 => [(0, 139), (367, 506)]
  | 51 => [(0, 5)]
  | 52 => [(0, 5)]
  | 67 => [(0, 5)]
  | 68 => [(0, 5)]
  | 69 => [(0, 7)]
  | 78 => [(0, 11)]
  | 79 => [(0, 11)]
  | 80 => [(0, 11)]
  | 81 => [(0, 5)]
  | 82 => [(0, 5)]
  | 83 => [(0, 7)]
  | 92 => [(0, 11)]
  | 93 => [(0, 11)]
  | 94 => [(0, 11)]
  | 95 => [(0, 5)]
  | 96 => [(0, 5)]
  | 97 => [(0, 7)]
  | 106 => [(0, 11)]
  | 107 => [(0, 11)]
  | 108 => [(0, 11)]
  | 109 => [(0, 39)]
  | _ => []
def lw_cl : List Nat := [6, 19, 34, 45, 51, 52, 67, 68, 69, 78, 79, 80, 81, 82, 83, 92, 93, 94, 95, 96, 97, 106, 107, 108, 109, 4, 48, 46, 15, 49, 16, 50, 10, 12]
def lw_cs (ty : Nat → Option Nat) : Prop := ∀ t ∈ lw_cl, ∃ a, ty a = some t
theorem lw_tbA : (List.range 110).all (fun t => (lw_tb t).all (fun q => lw_cl.contains t && ck_shp t && ev_TR t && (if g_ls t = true then (ck_prot1 t).any (fun r => decide (r.1 ≤ 2 * q.1) && decide (2 * q.2 + 1 ≤ r.2)) else (ck_prot1 t).any (fun r => decide (r.1 ≤ q.1) && decide (q.2 ≤ r.2))))) = true := by decide +kernel
theorem lw_tb0 {t : Nat} (h : 110 ≤ t) : lw_tb t = [] := by
  unfold lw_tb
  split <;> first | omega | rfl
theorem hr_row {E : va_W → Prop} (hW : ck_Wo D cys ty ck_tags ck_pvs0 E pvv H) {a t kd n et j : Nat} {sg : List (Nat × Int × Int)} (hta : ty a = some t) (htd : ck_tags[t]? = some (.inr (kd, n, sg, et))) (hj : j < n) (hkd : kd = 5) : ∃ b, ty b = some (ck_et kd et j) := by
  obtain ⟨ws, h1, h2, h3, h4, h5⟩ := hW
  obtain ⟨q, en, td, g1, g2, g3⟩ := h3 a t hta
  rw [htd] at g2
  cases g2
  rcases g3 with ⟨h, -⟩ | ⟨h, -⟩ | ⟨-, f, rfl, hf⟩
  · dsimp only at h; omega
  · dsimp only at h; omega
  · obtain ⟨b, -, h6⟩ := hf j hj
    exact ⟨b, h6⟩
theorem lw_cells {E : va_W → Prop} (hW : ck_Wo D cys ty ck_tags ck_pvs0 E pvv H) (tx : ty ax = some 11) (tm : ty am = some 12) : lw_cs ty := by
  obtain ⟨b8, t8⟩ := hr_fld hW tx rfl (j := 0) (t' := 8) rfl
  obtain ⟨b10, t10⟩ := hr_fld hW t8 rfl (j := 1) (t' := 10) rfl
  obtain ⟨b6, t6⟩ := hr_fld hW tx rfl (j := 2) (t' := 6) rfl
  obtain ⟨b33, t33⟩ := hr_fld hW tx rfl (j := 11) (t' := 33) rfl
  obtain ⟨b4, t4⟩ := hr_row hW t33 rfl (j := 0) (by decide) rfl
  obtain ⟨b48, t48⟩ := hr_row hW t33 rfl (j := 1) (by decide) rfl
  have t4 : ty b4 = some 4 := t4
  have t48 : ty b48 = some 48 := t48
  obtain ⟨b51, t51⟩ := hr_fld hW t4 rfl (j := 1) (t' := 51) rfl
  obtain ⟨b52, t52⟩ := hr_fld hW t48 rfl (j := 1) (t' := 52) rfl
  intro t ht
  simp only [lw_cl, List.mem_cons, List.not_mem_nil, or_false] at ht
  rcases ht with rfl | rfl | rfl | rfl | rfl | rfl | rfl | rfl | rfl | rfl | rfl | rfl | rfl | rfl | rfl | rfl | rfl | rfl | rfl | rfl | rfl | rfl | rfl | rfl | rfl | rfl | rfl | rfl | rfl | rfl | rfl | rfl | rfl | rfl
  · exact ⟨b6, t6⟩
  · exact (hr_fld hW tm rfl (j := 9) (t' := 19) rfl)
  · exact (hr_fld hW tm rfl (j := 6) (t' := 34) rfl)
  · exact (hr_fld hW tm rfl (j := 51) (t' := 45) rfl)
  · exact ⟨b51, t51⟩
  · exact ⟨b52, t52⟩
  · exact (hr_fld hW t6 rfl (j := 6) (t' := 67) rfl)
  · exact (hr_fld hW t6 rfl (j := 7) (t' := 68) rfl)
  · exact (hr_fld hW t6 rfl (j := 8) (t' := 69) rfl)
  · exact (hr_fld hW t6 rfl (j := 17) (t' := 78) rfl)
  · exact (hr_fld hW t6 rfl (j := 18) (t' := 79) rfl)
  · exact (hr_fld hW t6 rfl (j := 19) (t' := 80) rfl)
  · exact (hr_fld hW t51 rfl (j := 6) (t' := 81) rfl)
  · exact (hr_fld hW t51 rfl (j := 7) (t' := 82) rfl)
  · exact (hr_fld hW t51 rfl (j := 8) (t' := 83) rfl)
  · exact (hr_fld hW t51 rfl (j := 17) (t' := 92) rfl)
  · exact (hr_fld hW t51 rfl (j := 18) (t' := 93) rfl)
  · exact (hr_fld hW t51 rfl (j := 19) (t' := 94) rfl)
  · exact (hr_fld hW t52 rfl (j := 6) (t' := 95) rfl)
  · exact (hr_fld hW t52 rfl (j := 7) (t' := 96) rfl)
  · exact (hr_fld hW t52 rfl (j := 8) (t' := 97) rfl)
  · exact (hr_fld hW t52 rfl (j := 17) (t' := 106) rfl)
  · exact (hr_fld hW t52 rfl (j := 18) (t' := 107) rfl)
  · exact (hr_fld hW t52 rfl (j := 19) (t' := 108) rfl)
  · exact (hr_fld hW tm rfl (j := 52) (t' := 109) rfl)
  · exact ⟨b4, t4⟩
  · exact ⟨b48, t48⟩
  · exact (hr_fld hW tm rfl (j := 53) (t' := 46) rfl)
  · exact (hr_fld hW t10 rfl (j := 0) (t' := 15) rfl)
  · exact (hr_fld hW tm rfl (j := 1) (t' := 49) rfl)
  · exact (hr_fld hW t8 rfl (j := 0) (t' := 16) rfl)
  · exact (hr_fld hW tm rfl (j := 10) (t' := 50) rfl)
  · exact ⟨b10, t10⟩
  · exact ⟨am, tm⟩
theorem lw_ag {C : Nat → Nat → Int32} {M : ev_C} (hW : ck_Wo D cys ty ck_tags ck_pvs0 (tk ty ck_prot1 C) pvv H) (hM : ev_Wo D cys ty ck_tags ev_TR M H) (ce : lw_cs ty) : ∀ t k, ck_pr (lw_tb t) k → M t k = ev_of C t k := by
  intro t k hk
  rcases Nat.lt_or_ge t 110 with ht | ht
  · obtain ⟨q, hq, k1, k2⟩ := hk
    have h := List.all_eq_true.mp (List.all_eq_true.mp lw_tbA t (List.mem_range.mpr ht)) q hq
    simp only [Bool.and_eq_true] at h
    obtain ⟨⟨⟨h1, h2⟩, h3⟩, h4⟩ := h
    have ha := ce t (by simpa using h1)
    exact ev_gS hW hM ha h2 h3 (by
      cases hg : g_ls t with
      | true =>
        rw [hg, if_pos rfl] at h4
        obtain ⟨r, hr, hr2⟩ := List.any_eq_true.mp h4
        simp only [Bool.and_eq_true, decide_eq_true_eq] at hr2
        exact Or.inl ⟨rfl, ⟨r, hr, by omega, by omega⟩, ⟨r, hr, by omega, by omega⟩⟩
      | false =>
        rw [hg, if_neg (by decide)] at h4
        obtain ⟨r, hr, hr2⟩ := List.any_eq_true.mp h4
        simp only [Bool.and_eq_true, decide_eq_true_eq] at hr2
        exact Or.inr ⟨rfl, ⟨r, hr, by omega, by omega⟩⟩)
  · rw [lw_tb0 ht] at hk
    exact absurd hk (pr_e rfl)
/-- the relation goes from one memory to one that is like it there -/
theorem z_G.al {E M : ev_C} (h : z_G E E) (ha : ∀ t k, ck_pr (lw_tb t) k → M t k = E t k) : z_G M M := by
  have a5 : ∀ t k, lw_tb t = [(0, 5)] → k < 6 → M t k = E t k := fun t k e hk => ha t k ⟨(0, 5), by rw [e]; exact List.mem_singleton.mpr rfl, Nat.zero_le _, by show k ≤ 5; omega⟩
  have a7 : ∀ t k, lw_tb t = [(0, 7)] → k < 8 → M t k = E t k := fun t k e hk => ha t k ⟨(0, 7), by rw [e]; exact List.mem_singleton.mpr rfl, Nat.zero_le _, by show k ≤ 7; omega⟩
  have a11 : ∀ t k, lw_tb t = [(0, 11)] → k < 12 → M t k = E t k := fun t k e hk => ha t k ⟨(0, 11), by rw [e]; exact List.mem_singleton.mpr rfl, Nat.zero_le _, by show k ≤ 11; omega⟩
  have a34 : ∀ k, k < 140 → M 34 (0 + k) = E 34 (0 + k) := fun k hk => ha 34 _ ⟨(0, 139), by decide, Nat.zero_le _, by show 0 + k ≤ 139; omega⟩
  have a45 : ∀ k, k < 140 → M 45 (0 + k) = E 45 (0 + k) := fun k hk => ha 45 _ ⟨(0, 139), by decide, Nat.zero_le _, by show 0 + k ≤ 139; omega⟩
  have b45 : ∀ k, k < 140 → M 45 (367 + k) = E 45 (367 + k) := fun k hk => ha 45 _ ⟨(367, 506), by decide, by show 367 ≤ 367 + k; omega, by show 367 + k ≤ 506; omega⟩
  have a19 : ∀ k, k < 20 → M 19 (0 + k) = E 19 (0 + k) := fun k hk => ha 19 _ ⟨(0, 19), by decide, Nat.zero_le _, by show 0 + k ≤ 19; omega⟩
  have a109 : ∀ k, k < 20 → M 109 (0 + k) = E 109 (0 + k) := fun k hk => ha 109 _ ⟨(0, 39), by decide, Nat.zero_le _, by show 0 + k ≤ 39; omega⟩
  have b109 : ∀ k, k < 20 → M 109 (20 + k) = E 109 (20 + k) := fun k hk => ha 109 _ ⟨(0, 39), by decide, Nat.zero_le _, by show 20 + k ≤ 39; omega⟩
  exact ⟨h.1.al (fun k => a5 _ k rfl) (fun k => a5 _ k rfl) (fun k => a5 _ k rfl) (fun k => a7 _ k rfl) (fun k => a11 _ k rfl) (fun k => a11 _ k rfl) (fun k => a11 _ k rfl) a34 a19, h.2.1.al (fun k => a5 _ k rfl) (fun k => a5 _ k rfl) (fun k => a5 _ k rfl) (fun k => a7 _ k rfl) (fun k => a11 _ k rfl) (fun k => a11 _ k rfl) (fun k => a11 _ k rfl) a45 a109, h.2.2.al (fun k => a5 _ k rfl) (fun k => a5 _ k rfl) (fun k => a5 _ k rfl) (fun k => a7 _ k rfl) (fun k => a11 _ k rfl) (fun k => a11 _ k rfl) (fun k => a11 _ k rfl) b45 b109⟩
theorem tk_w {pq pq' : Nat → List (Nat × Nat)} {C : Nat → Nat → Int32} {ws : va_W} (h : ∀ t j, ck_pr (pq' t) j → ck_pr (pq t) j) (hk : tk ty pq C ws) : tk ty pq' C ws := fun a t q en hta hq j hj => hk a t q en hta hq j (h t j hj)
theorem g0_co {C C2 : Nat → Nat → Int32} (h : ∀ t, [0, 12, 15, 16, 29, 30, 31, 34, 37, 45, 46, 49, 50].contains t = true → C2 t = C t) (hG : g0C C) : g0C C2 := by
  unfold g0C g50C g1C g2C g3C g4C at *
  rw [h 0 (by decide), h 12 (by decide), h 15 (by decide), h 16 (by decide), h 29 (by decide), h 30 (by decide), h 31 (by decide), h 34 (by decide), h 37 (by decide), h 45 (by decide), h 46 (by decide), h 49 (by decide), h 50 (by decide)]
  exact hG
theorem g0_up {F : Nat → Bool} {M : ev_C} {C : Nat → Nat → Int32} (hF : [0, 12, 15, 16, 29, 30, 31, 34, 37, 45, 46, 49, 50].all (fun t => !(F t)) = true) (hG : g0C C) : g0C (ev_up F M C) := g0_co (fun t ht => ev_up_n (by
  have := List.all_eq_true.mp hF t (by simpa using ht)
  simpa using this)) hG
theorem gC_in {C : Nat → Nat → Int32} (h0 : g0C C) (h6 : g6C C) : gC C := ⟨⟨h0.1, h6⟩, h0.2⟩
theorem gC_0C {C : Nat → Nat → Int32} (h : gC C) : g0C C := ⟨h.1.1, h.2⟩
/-- behind a call of the reference's that writes PLAYs: all is kept again -/
theorem ge_fin {C : Nat → Nat → Int32} {M : ev_C} (hW : ck_Wo D cys ty ck_tags ck_pvs0 (tk ty ck_prot1 C) pvv H) (hM : ev_Wo D cys ty ck_tags ev_TR M H) (ce : lw_cs ty) (h0 : g0C C) (hz : z_G M M) : ck_Wo D cys ty ck_tags ck_pvs0 (GE ty) pvv H := ge_in hW (gC_in h0 (hz.al (fun t k h => (lw_ag hW hM ce t k h).symm)))
theorem lw_hv {x : Int} (h1 : -9223372036854775808 ≤ x) (h2 : x ≤ 9223372036854775807) : (Int32.ofInt x).toInt % 4294967296 + 4294967296 * (Int32.ofInt (x / 4294967296)).toInt = x := by
  rw [Int32.toInt_ofInt, Int32.toInt_ofInt]
  unfold Int.bmod
  simp only [Int32.size]
  omega
/-- what the tapes, the reserved words, the flags are in the memory -/
theorem lw_tp {C : Nat → Nat → Int32} {M : ev_C} (hW : ck_Wo D cys ty ck_tags ck_pvs0 (tk ty ck_prot1 C) pvv H) (hM : ev_Wo D cys ty ck_tags ev_TR M H) (ce : lw_cs ty) (hG : g50C C) : (∀ k : Nat, k < 940 → M 15 k = (C 15 k).toInt ∧ M 49 k = (C 49 k).toInt) ∧ (∀ j : Nat, j < 27 → M 16 j = z_V.getD j 0 ∧ M 50 j = z_W.getD j 0) ∧ M 10 1 = (pvv 0).toInt ∧ M 12 2 = (pvv 11).toInt ∧ (M 4 0 = (pvv 26).toInt ∧ M 48 0 = (pvv 27).toInt) ∧ M 46 0 = (pvv 28).toInt ∧ M 46 1 = (pvv 29).toInt := by
  refine ⟨fun k hk => ⟨?_, ?_⟩, fun j hj => ⟨?_, ?_⟩, ?_, ?_, ⟨?_, ?_⟩, ?_, ?_⟩
  · exact ev_gK hW hM (ce 15 (by decide)) ⟨(0, 939), by decide, Nat.zero_le _, by show k ≤ 939; omega⟩ (by decide +kernel) (Or.inr ⟨1, 940, _, _, rfl, by decide, hk⟩)
  · exact ev_gK hW hM (ce 49 (by decide)) ⟨(0, 939), by decide, Nat.zero_le _, by show k ≤ 939; omega⟩ (by decide +kernel) (Or.inr ⟨1, 940, _, _, rfl, by decide, hk⟩)
  · have hb : ∀ j : Nat, j < 27 → -9223372036854775808 ≤ z_V.getD j 0 ∧ z_V.getD j 0 ≤ 9223372036854775807 := by decide +kernel
    have e := ev_gL (k := j) hW hM (ce 16 (by decide)) ⟨(0, 53), by decide, Nat.zero_le _, by show 2 * j ≤ 53; omega⟩ ⟨(0, 53), by decide, Nat.zero_le _, by show 2 * j + 1 ≤ 53; omega⟩ (by decide +kernel) rfl hj
    rw [e, hG.2.1 (2 * j) (by omega), hG.2.1 (2 * j + 1) (by omega)]
    unfold g_R
    rw [if_pos (by omega), if_neg (by omega), show 2 * j / 2 = j by omega, show (2 * j + 1) / 2 = j by omega]
    exact lw_hv (hb j hj).1 (hb j hj).2
  · have hb : ∀ j : Nat, j < 27 → -9223372036854775808 ≤ z_W.getD j 0 ∧ z_W.getD j 0 ≤ 9223372036854775807 := by decide +kernel
    have e := ev_gL (k := j) hW hM (ce 50 (by decide)) ⟨(0, 53), by decide, Nat.zero_le _, by show 2 * j ≤ 53; omega⟩ ⟨(0, 53), by decide, Nat.zero_le _, by show 2 * j + 1 ≤ 53; omega⟩ (by decide +kernel) rfl hj
    rw [e, hG.2.2 (2 * j) (by omega), hG.2.2 (2 * j + 1) (by omega)]
    unfold g_R
    rw [if_pos (by omega), if_neg (by omega), show 2 * j / 2 = j by omega, show (2 * j + 1) / 2 = j by omega]
    exact lw_hv (hb j hj).1 (hb j hj).2
  · exact ev_gP hW hM (ce 10 (by decide)) (j := 0) rfl (by decide +kernel) (Or.inl ⟨_, _, _, rfl, rfl, fun r h => by cases h; decide⟩)
  · exact ev_gP hW hM (ce 12 (by decide)) (j := 11) rfl (by decide +kernel) (Or.inl ⟨_, _, _, rfl, rfl, fun r h => by cases h; decide⟩)
  · exact ev_gP hW hM (ce 4 (by decide)) (j := 26) rfl (by decide +kernel) (Or.inl ⟨_, _, _, rfl, rfl, fun r h => by cases h; decide⟩)
  · exact ev_gP hW hM (ce 48 (by decide)) (j := 27) rfl (by decide +kernel) (Or.inl ⟨_, _, _, rfl, rfl, fun r h => by cases h; decide⟩)
  · exact ev_gP hW hM (ce 46 (by decide)) (j := 28) rfl (by decide +kernel) (Or.inr ⟨2, 2, _, _, rfl, by decide, by decide⟩)
  · exact ev_gP hW hM (ce 46 (by decide)) (j := 29) rfl (by decide +kernel) (Or.inr ⟨2, 2, _, _, rfl, by decide, by decide⟩)
def lw_f19 (t : Nat) : Bool := t == 19
def lw_f109 (t : Nat) : Bool := t == 109
theorem lw_shA : [6, 19, 34, 45, 51, 52, 67, 68, 69, 78, 79, 80, 81, 82, 83, 92, 93, 94, 95, 96, 97, 106, 107, 108, 109, 15, 49].all (fun t => ck_shp t && ev_TR t) = true := by decide +kernel
theorem lw_sh {F : Nat → Bool} {L : List Nat} (hL : ∀ t, F t = true → t ∈ L) (hs : L.all (fun t => [6, 19, 34, 45, 51, 52, 67, 68, 69, 78, 79, 80, 81, 82, 83, 92, 93, 94, 95, 96, 97, 106, 107, 108, 109, 15, 49].contains t) = true) : ∀ t, F t = true → ck_shp t = true ∧ ev_TR t = true := fun t ht => by
  have h1 := List.all_eq_true.mp hs t (hL t ht)
  have h2 := List.all_eq_true.mp lw_shA t (by simpa using h1)
  simpa only [Bool.and_eq_true] using h2
end LEX

/-! BOTH CONTRACTS INSIDE A METHOD: ranges and memory of one heap, kept together. -/
section HX
variable {p : Program} {l : Launch} {e : Env} {R : Room} {s : State} {m : MethodId} {args : Array Value} {below : List Frame} {meth : Method} {c : Code} {H H0 : Heap} {locs : List Loc} {Q : State → Prop} {cc : ByteArray} {pc : Nat} {ls : Array Slot} {rest : List Value}
variable {D : va_G} {cys : Nat → ClassId} {ty : Nat → Option Nat} {LK : Nat → Nat → Option ck_En} {Ex Ex' : va_W → Prop} {pvv : Nat → Int32} {k : ck_K} {M : ev_C}
theorem hx_len : ck_tags.all (fun td => match td with
  | .inl o => (match ck_cl[o.1]? with
    | some r => decide (o.2.length ≤ r.2.2)
    | none => true)
  | .inr _ => true) = true := by decide +kernel
/-- what the ranges' world holds is what the memory tells -/
theorem hx_mk (hW : ck_Wo D cys ty ck_tags ck_pvs0 Ex pvv H) (hM : ev_Wo D cys ty ck_tags ev_TR M H) : ck_Wo D cys ty ck_tags ck_pvs0 (fun ws => Ex ws ∧ ev_T ty cys ck_tags ev_TR M ws) pvv H := by
  obtain ⟨ws, h1, h2, h3, h4, h5⟩ := hW
  obtain ⟨ws2, k1, k2, k3⟩ := hM
  refine ⟨ws, h1, h2, h3, h4, h5, fun a t hta => ?_⟩
  obtain ⟨q, en, td, g1, g2, g3⟩ := h3 a t hta
  obtain ⟨q2, en2, td2, b1, b2, b3⟩ := k3 a t hta
  rw [g2] at b2
  cases b2
  refine ⟨q, en, td, g1, g2, ?_⟩
  match td, g2, g3, b3 with
  | .inl o, g2, g3, b3 =>
    obtain ⟨fs, rfl, m1, m2⟩ := g3
    obtain ⟨fs2, rfl, n1, n2⟩ := b3
    refine ⟨fs, rfl, m1, fun k ft hk => ?_⟩
    obtain ⟨v, w1, w2⟩ := m2 k ft hk
    obtain ⟨v', y1, y2⟩ := n2 k ft hk
    refine ⟨v, w1, ?_⟩
    have hN : ∀ r, ck_cl[o.1]? = some r → k < r.2.2 := fun r hr => by
      have h6 := List.all_eq_true.mp hx_len _ (List.mem_of_getElem? g2)
      dsimp only at h6
      rw [hr] at h6
      have h7 : o.2.length ≤ r.2.2 := of_decide_eq_true h6
      have h8 := (List.getElem?_eq_some_iff.mp hk).1
      omega
    have e := ev_twoO h1 k1 g1 b1 hN w1 y1
    match ft, w2, y2 with
    | .inl r, w2, y2 =>
      obtain ⟨x, rfl, -⟩ := w2
      obtain ⟨y, rfl, y3⟩ := y2
      exact ⟨x, rfl, fun hb => by rw [Value.int.inj e]; exact y3 hb⟩
    | .inr (.inl t'), w2, _ => exact w2
    | .inr (.inr u), w2, y2 =>
      obtain ⟨x, rfl⟩ := w2
      obtain ⟨y, rfl, y3⟩ := y2
      exact ⟨x, rfl, fun hb => by rw [Value.long.inj e]; exact y3 hb⟩
  | .inr r, g2, g3, b3 =>
    rcases g3 with ⟨k0, f, rfl, kk⟩ | ⟨k0, f, rfl⟩ | ⟨k0, f, rfl, kk⟩
    · rcases b3 with ⟨c0, f2, rfl, c1⟩ | ⟨c0, f2, rfl, c1⟩ | ⟨c0, f2, rfl, c1⟩
      · exact Or.inl ⟨k0, f, rfl, fun hb j hj => by rw [ev_twoI h1 k1 g1 b1 j hj hj]; exact c1 hb j hj⟩
      · omega
      · omega
    · rcases b3 with ⟨c0, f2, rfl, c1⟩ | ⟨c0, f2, rfl, c1⟩ | ⟨c0, f2, rfl, c1⟩
      · omega
      · exact Or.inr (Or.inl ⟨k0, f, rfl, fun hb j hj => by rw [ev_twoL h1 k1 g1 b1 j hj hj]; exact c1 hb j hj⟩)
      · omega
    · exact Or.inr (Or.inr ⟨k0, f, rfl, kk⟩)
theorem hx_ev (hW : ck_Wo D cys ty ck_tags ck_pvs0 (fun ws => Ex ws ∧ ev_T ty cys ck_tags ev_TR M ws) pvv H) : ev_Wo D cys ty ck_tags ev_TR M H := by
  obtain ⟨ws, h1, h2, h3, h4, h5, h6⟩ := hW
  exact ⟨ws, h1, h2, h6⟩
theorem hx_EO (hUx : ev_uq ty ev_TR) {a t ci j : Nat} {x : Int32} {fts : List ck_AV} {r : ck_I} (hta : ty a = some t) (htd : ck_tags[t]? = some (.inl (ci, fts))) (hft : fts[j]? = some (.inl r)) (htr : ev_TR t = true) : ∀ (ws : va_W) (q : Nat) (fs : List Value), va_D (ck_own ty) ws → ev_T ty cys ck_tags ev_TR M ws → ws[q]? = some (a, .inr (ci, fs)) → ev_T ty cys ck_tags ev_TR (ev_u M t j x.toInt) (ws.set q (a, .inr (ci, fs.set j (.int x)))) := by
  intro ws q fs hD hT hq
  obtain ⟨q', fs', g1, g2, g3⟩ := ev_obj hT hta htd
  have w := (ck_D1 hD g1 hq).2
  cases w
  exact ev_set hUx hD hT hq hta htd (ev_fset (n := x.toInt) g2 g3 hft ⟨x, rfl, fun _ => rfl⟩) (fun t' ht => ev_ut ht) (fun h => by rw [htr] at h; cases h)
/-- a call's two contracts are one -/
theorem hx_hr {kc : ck_K} {vs : List Value} (hHo : ck_Holds l D cys ty ck_tags ck_pvs0 Ex kc) (ha : ck_args ty (k_pa kc) vs) (hp : ck_pvo ty (ck_XE pvv) (k_pr kc) pvv) : hr_Met l D cys ty ck_tags ck_pvs0 Ex kc vs pvv (fun r pvv' E' => E' = Ex ∧ ∃ cs ∈ k_cs kc, ck_caseOK ty cs vs pvv pvv' r) := by
  have h := hHo vs pvv ha hp
  intro p e a1 a2 a3 s m args below a4 a5 a6 a7
  obtain ⟨n, o, w1, w2, w3, ⟨⟨cs, c1, r, pvv', z1, z2, z3⟩, z5⟩, w5⟩ := h p e a1 a2 a3 s m args below a4 a5 a6 a7
  exact ⟨n, o, w1, w2, w3, ⟨⟨r, pvv', _, z1, ⟨rfl, cs, c1, z2⟩, z3⟩, z5⟩, w5⟩
theorem hx_met {kc : ck_K} {vs : List Value} {P1 : Option Value → (Nat → Int32) → (va_W → Prop) → Prop} {A : List ev_V} {Qx : Option ev_V → ev_C → Prop} (h1 : hr_Met l D cys ty ck_tags ck_pvs0 Ex kc vs pvv P1) (h2 : ev_Met l D cys ty ck_tags ev_TR kc A M Qx) (hA : ev_vs ty A vs) : hr_Met l D cys ty ck_tags ck_pvs0 (fun ws => Ex ws ∧ ev_T ty cys ck_tags ev_TR M ws) kc vs pvv (fun r pvv' E' => ∃ (E1 : va_W → Prop) (M' : ev_C) (rx : Option ev_V), E' = (fun ws => E1 ws ∧ ev_T ty cys ck_tags ev_TR M' ws) ∧ P1 r pvv' E1 ∧ ev_rv ty rx r ∧ Qx rx M') := by
  have h := met_and h1 (h2 vs hA)
  intro p e a1 a2 a3 s m args below a4 a5 a6 a7
  obtain ⟨b1, b2, b3, b4⟩ := a6
  obtain ⟨n, o, w1, w2, w3, ⟨⟨⟨r, pvv', E', z1, z2, z3⟩, z5⟩, ⟨rx, v, M', y1, y2, y3, y4⟩, -⟩, w5⟩ := h p e a1 a2 a3 s m args below a4 a5 ⟨⟨b1, hr_mono (fun _ h => h.1) b2, b3, b4⟩, ⟨b1, hx_ev b2, b3, b4⟩⟩ a7
  rw [z1] at y1
  cases y1
  exact ⟨n, o, w1, w2, w3, ⟨⟨r, pvv', _, z1, ⟨E', M', rx, rfl, z2, y2, y3⟩, hx_mk z3 y4⟩, z5⟩, w5⟩
theorem hx_rv {rx : Option ev_V} {r : Int} {z : Int32} (h : rx = some (.inl r)) (hr : ev_rv ty rx (some (.int z))) : z.toInt = r := by
  rw [h] at hr
  obtain ⟨x, e, y⟩ := hr
  cases e
  exact y
/-- stores of whole numbers, in both -/
theorem hx_putN (B : ck_At p s m args meth c D cys k) (hF : ck_LKf LK) (hb : c.code = cc) (hU : ck_uq ty ck_pvs0) (hUx : ev_uq ty ev_TR) (hW : ck_Wo D cys ty ck_tags ck_pvs0 Ex pvv H) (hM : ev_Wo D cys ty ck_tags ev_TR M H) (hS : va_S (ck_own ty) H0 H locs) {a t ci j cd index : Nat} {fts : List ck_AV} {lo hi : Int} (hta : ty a = some t) (htd : ck_tags[t]? = some (.inl (ci, fts))) (hl : LK (k_ow k) index = some (.inl (ci, j, cd))) (hft : fts[j]? = some (.inl (lo, hi, []))) {x : Int32} (h1 : lo ≤ x.toInt) (h2 : x.toInt ≤ hi) (hcd : cd = 0 ∨ cd = 1 ∧ 0 ≤ x.toInt ∧ x.toInt ≤ 1)
    (hE : ∀ (ws : va_W) (q : Nat) (fs : List Value), va_D (ck_own ty) ws → fs.length = fts.length → Ex ws → ws[q]? = some (a, .inr (ci, fs)) → Ex' (ws.set q (a, .inr (ci, fs.set j (.int x))))) (hnf : ck_nfr ck_pvs0 t j j = true) (htr : ev_TR t = true) (hdg : decode cc pc = .ok (.putfield index, 3))
    (kk : ∀ (H1 : Heap) (locs1 : List Loc), ck_Wo D cys ty ck_tags ck_pvs0 Ex' pvv H1 → ev_Wo D cys ty ck_tags ev_TR (ev_u M t j x.toInt) H1 → va_S (ck_own ty) H0 H1 locs1 → W p l e R s m args below meth c H1 locs1 0 0 Q (F0 m (pc + 3) ls rest)) : W p l e R s m args below meth c H locs 0 0 Q (F0 m pc ls (.int x :: .ref a :: rest)) :=
  hr_putN (Ex' := fun ws => Ex' ws ∧ ev_T ty cys ck_tags ev_TR (ev_u M t j x.toInt) ws) B hF hb hU (hx_mk hW hM) hS hta htd hl hft h1 h2 hcd (fun ws q fs hD hl hE2 hq => ⟨hE ws q fs hD hl hE2.1 hq, hx_EO hUx hta htd hft htr ws q fs hD hE2.2 hq⟩) hnf hdg (fun H1 locs1 hW1 hS1 => kk H1 locs1 (hr_mono (fun _ h => h.1) hW1) (hx_ev hW1) hS1)
theorem hx_putP (B : ck_At p s m args meth c D cys k) (hF : ck_LKf LK) (hb : c.code = cc) (hU : ck_uq ty ck_pvs0) (hUx : ev_uq ty ev_TR) (hW : ck_Wo D cys ty ck_tags ck_pvs0 Ex pvv H) (hM : ev_Wo D cys ty ck_tags ev_TR M H) (hS : va_S (ck_own ty) H0 H locs) {a t ci j cd index : Nat} {fts : List ck_AV} {lo hi : Int} (hta : ty a = some t) (htd : ck_tags[t]? = some (.inl (ci, fts))) (hl : LK (k_ow k) index = some (.inl (ci, j, cd))) (hft : fts[j]? = some (.inl (lo, hi, []))) {x : Int32} (h1 : lo ≤ x.toInt) (h2 : x.toInt ≤ hi) (hcd : cd = 0 ∨ cd = 1 ∧ 0 ≤ x.toInt ∧ x.toInt ≤ 1)
    (hE : ∀ (ws : va_W) (q : Nat) (fs : List Value), va_D (ck_own ty) ws → fs.length = fts.length → Ex ws → ws[q]? = some (a, .inr (ci, fs)) → Ex' (ws.set q (a, .inr (ci, fs.set j (.int x))))) (hI : ∀ (i j : Nat) (q : Nat × Nat), ck_pvs0[i]? = some q → ck_pvs0[j]? = some q → i = j) {q0 : Nat} (hq0 : ck_pvs0[q0]? = some (t, j)) (htr : ev_TR t = true) (hdg : decode cc pc = .ok (.putfield index, 3))
    (kk : ∀ (H1 : Heap) (locs1 : List Loc), ck_Wo D cys ty ck_tags ck_pvs0 Ex' (upd pvv q0 x) H1 → ev_Wo D cys ty ck_tags ev_TR (ev_u M t j x.toInt) H1 → va_S (ck_own ty) H0 H1 locs1 → W p l e R s m args below meth c H1 locs1 0 0 Q (F0 m (pc + 3) ls rest)) : W p l e R s m args below meth c H locs 0 0 Q (F0 m pc ls (.int x :: .ref a :: rest)) :=
  hr_putP (Ex' := fun ws => Ex' ws ∧ ev_T ty cys ck_tags ev_TR (ev_u M t j x.toInt) ws) B hF hb hU (hx_mk hW hM) hS hta htd hl hft h1 h2 hcd (fun ws q fs hD hl hE2 hq => ⟨hE ws q fs hD hl hE2.1 hq, hx_EO hUx hta htd hft htr ws q fs hD hE2.2 hq⟩) hI hq0 hdg (fun H1 locs1 hW1 hS1 => kk H1 locs1 (hr_mono (fun _ h => h.1) hW1) (hx_ev hW1) hS1)
/-- a followed field, as the memory has it -/
theorem hx_pv12 {a : Nat} (hW : ck_Wo D cys ty ck_tags ck_pvs0 Ex pvv H) (hM : ev_Wo D cys ty ck_tags ev_TR M H) (hta : ty a = some 12) : M 12 11 = (pvv 14).toInt ∧ M 12 15 = (pvv 31).toInt ∧ M 12 2 = (pvv 11).toInt :=
  ⟨ev_gP hW hM ⟨a, hta⟩ (j := 14) rfl (by decide +kernel) (Or.inl ⟨_, _, _, rfl, rfl, fun r h => by cases h; decide⟩), ev_gP hW hM ⟨a, hta⟩ (j := 31) rfl (by decide +kernel) (Or.inl ⟨_, _, _, rfl, rfl, fun r h => by cases h; decide⟩), ev_gP hW hM ⟨a, hta⟩ (j := 11) rfl (by decide +kernel) (Or.inl ⟨_, _, _, rfl, rfl, fun r h => by cases h; decide⟩)⟩
theorem hx_pv11 {a : Nat} (hW : ck_Wo D cys ty ck_tags ck_pvs0 Ex pvv H) (hM : ev_Wo D cys ty ck_tags ev_TR M H) (hta : ty a = some 11) : M 11 13 = (pvv 30).toInt :=
  ev_gP hW hM ⟨a, hta⟩ (j := 30) rfl (by decide +kernel) (Or.inl ⟨_, _, _, rfl, rfl, fun r h => by cases h; decide⟩)
theorem hx_pv8 {a : Nat} (hW : ck_Wo D cys ty ck_tags ck_pvs0 Ex pvv H) (hM : ev_Wo D cys ty ck_tags ev_TR M H) (hta : ty a = some 8) : M 8 9 = (pvv 25).toInt :=
  ev_gP hW hM ⟨a, hta⟩ (j := 25) rfl (by decide +kernel) (Or.inl ⟨_, _, _, rfl, rfl, fun r h => by cases h; decide⟩)
theorem hx_told {a : Nat} {C : Nat → Nat → Int32} (hW : ck_Wo D cys ty ck_tags ck_pvs0 (tk ty ck_prot1 C) pvv H) (hM : ev_Wo D cys ty ck_tags ev_TR M H) (hta : ty a = some 12) : M 12 41 = (C 12 41).toInt :=
  ev_gK hW hM ⟨a, hta⟩ ⟨(41, 41), by decide +kernel, Nat.le_refl _, Nat.le_refl _⟩ (by decide +kernel) (Or.inl ⟨_, _, _, rfl, rfl, fun r h => by cases h; decide⟩)
end HX

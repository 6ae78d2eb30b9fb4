/-! BY HAND, 9: what is kept by hand (GE); keep, undo. -/
def dp (f : Nat → Int32) : Nat → Int
  | 0 => 0
  | i + 1 => dp f i + (if (f (1 + 3 * i)).toInt = 20 then 0 else if (f (1 + 3 * i)).toInt = 21 ∨ (f (1 + 3 * i)).toInt = 22 then -1 else 1)
/-- codes behind one another that can be done: f 0 of them -/
def cwf (f : Nat → Int32) : Prop := ∀ i : Nat, (i : Int) < (f 0).toInt → ((f (1 + 3 * i)).toInt = 20 → 1 ≤ dp f i) ∧ ((f (1 + 3 * i)).toInt = 21 ∨ (f (1 + 3 * i)).toInt = 22 → 2 ≤ dp f i)
theorem dp_co {f g : Nat → Int32} : ∀ {n : Nat}, (∀ j, j < 1 + 3 * n → g j = f j) → dp g n = dp f n
  | 0, _ => rfl
  | n + 1, h => by
    unfold dp
    rw [dp_co (n := n) (fun j hj => h j (by omega)), h (1 + 3 * n) (by omega)]
theorem cwf_co {f g : Nat → Int32} (h : ∀ j, j < 181 → g j = f j) (hn : (f 0).toInt ≤ 60) (hf : cwf f) : cwf g := by
  intro i hi
  rw [h 0 (by omega)] at hi
  rw [h (1 + 3 * i) (by omega), dp_co (fun j hj => h j (by omega))]
  exact hf i hi
def g1C (C : Nat → Nat → Int32) : Prop := ∀ k : Nat, (k : Int) < (C 0 0).toInt → ((C 29 k).toInt = 12 ∨ (C 29 k).toInt = 13) → 0 ≤ (C 30 k).toInt ∧ 0 ≤ (C 31 k).toInt
def g2C (C : Nat → Nat → Int32) : Prop := ∀ j : Nat, (j : Int) < (C 12 22).toInt → (C 37 (46 * j)).toInt ≤ (C 34 3).toInt
def g3C (C : Nat → Nat → Int32) : Prop := ∀ k : Nat, k < 2 → (C 46 k).toInt ≠ 0 → (C 45 (367 * k + 140)).toInt ≤ (C 45 (367 * k + 3)).toInt ∧ cwf (fun i => C 45 (367 * k + 186 + i))
def g4C (C : Nat → Nat → Int32) : Prop := cwf (fun i => C 34 (186 + i))
/-- the two tapes are alike, and the reserved words are as built -/
def g_R (V : List Int) (k : Nat) : Int32 := if k % 2 = 0 then Int32.ofInt (V.getD (k / 2) 0) else Int32.ofInt (V.getD (k / 2) 0 / 4294967296)
def g50C (C : Nat → Nat → Int32) : Prop := (∀ j : Nat, j < 940 → C 15 j = C 49 j) ∧ (∀ j : Nat, j < 54 → C 16 j = g_R z_V j) ∧ ∀ j : Nat, j < 54 → C 50 j = g_R z_W j
theorem g50_of {C C2 : Nat → Nat → Int32} (h : g50C C) (h1 : ∀ j : Nat, C2 15 j = C 15 j) (h2 : ∀ j : Nat, C2 49 j = C 49 j) (h3 : ∀ j : Nat, C2 16 j = C 16 j) (h4 : ∀ j : Nat, C2 50 j = C 50 j) : g50C C2 := ⟨fun j hj => by rw [h1, h2]; exact h.1 j hj, fun j hj => by rw [h3]; exact h.2.1 j hj, fun j hj => by rw [h4]; exact h.2.2 j hj⟩
/-- the table as memory: rows of longs lie in halves -/
def g_ls (t : Nat) : Bool := [19, 67, 68, 69, 81, 82, 83, 95, 96, 97, 109].contains t
def ev_of (C : Nat → Nat → Int32) : ev_C := fun t j => if g_ls t = true then (C t (2 * j)).toInt % 4294967296 + 4294967296 * (C t (2 * j + 1)).toInt else (C t j).toInt
/-- a PLAY of the class (object o, rows from r on) and one of the reference (row s from b on, names nm from nb on) are alike -/
def z_PL (o r s b nm nb : Nat) (C1 C2 : ev_C) : Prop :=
  ((C1 o 0 = C2 s b ∧ 0 ≤ C1 o 0 ∧ C1 o 0 ≤ 6) ∧ (C1 o 1 = C2 s (b + 1) ∧ 0 ≤ C1 o 1 ∧ C1 o 1 ≤ 6) ∧ (C1 o 2 = C2 s (b + 2) ∧ 0 ≤ C1 o 2 ∧ C1 o 2 ≤ 8) ∧ (C1 o 3 = C2 s (b + 3) ∧ 0 ≤ C1 o 3 ∧ C1 o 3 ≤ 6) ∧ (C1 o 4 = C2 s (b + 4) ∧ 0 ≤ C1 o 4 ∧ C1 o 4 ≤ 12) ∧ (C1 o 5 = C2 s (b + 5) ∧ 0 ≤ C1 o 5 ∧ C1 o 5 ≤ 1)) ∧
  ((∀ k : Nat, (k : Int) < C1 o 0 → z_N (C1 r k) (C2 nm (nb + k))) ∧ (∀ k : Nat, (k : Int) < C1 o 1 → z_N (C1 (r + 1) k) (C2 nm (nb + 6 + k))) ∧ (∀ k : Nat, (k : Int) < C1 o 2 → z_N (C1 (r + 2) k) (C2 nm (nb + 12 + k)))) ∧
  ((∀ k : Nat, (k : Int) < C1 o 4 → C1 (r + 11) k = C2 s (b + 104 + k)) ∧ (∀ k : Nat, (k : Int) < C1 o 4 → C1 (r + 12) k = C2 s (b + 116 + k)) ∧ (∀ k : Nat, (k : Int) < C1 o 4 → C1 (r + 13) k = C2 s (b + 128 + k)))
theorem z_PL.al {o r s b nm nb o' r' s' b' nm' nb' : Nat} {C1 C2 C1' C2' : ev_C} (h : z_PL o r s b nm nb C1 C2) (h1 : ∀ k, k < 6 → C1' o' k = C1 o k) (r0 : ∀ k, k < 6 → C1' r' k = C1 r k) (r1 : ∀ k, k < 6 → C1' (r' + 1) k = C1 (r + 1) k) (r2 : ∀ k, k < 8 → C1' (r' + 2) k = C1 (r + 2) k) (r3 : ∀ k, k < 12 → C1' (r' + 11) k = C1 (r + 11) k) (r4 : ∀ k, k < 12 → C1' (r' + 12) k = C1 (r + 12) k) (r5 : ∀ k, k < 12 → C1' (r' + 13) k = C1 (r + 13) k) (h3 : ∀ k, k < 140 → C2' s' (b' + k) = C2 s (b + k)) (h4 : ∀ k, k < 20 → C2' nm' (nb' + k) = C2 nm (nb + k)) : z_PL o' r' s' b' nm' nb' C1' C2' := by
  obtain ⟨⟨c0, c1, c2, c3, c4, c5⟩, ⟨n0, n1, n2⟩, s0, s1, s2⟩ := h
  have e0 : C2' s' b' = C2 s b := h3 0 (by decide)
  have w4 : ∀ x k, x + k < 20 → C2' nm' (nb' + x + k) = C2 nm (nb + x + k) := fun x k hk => by
    rw [show nb' + x + k = nb' + (x + k) by omega, show nb + x + k = nb + (x + k) by omega]; exact h4 _ hk
  have w3 : ∀ x k, x + k < 140 → C2' s' (b' + x + k) = C2 s (b + x + k) := fun x k hk => by
    rw [show b' + x + k = b' + (x + k) by omega, show b + x + k = b + (x + k) by omega]; exact h3 _ hk
  have x0 := h1 0 (by decide)
  have x1 := h1 1 (by decide)
  have x2 := h1 2 (by decide)
  have x3 := h1 3 (by decide)
  have x4 := h1 4 (by decide)
  have x5 := h1 5 (by decide)
  have y1 := h3 1 (by decide)
  have y2 := h3 2 (by decide)
  have y3 := h3 3 (by decide)
  have y4 := h3 4 (by decide)
  have y5 := h3 5 (by decide)
  refine ⟨⟨?_, ?_, ?_, ?_, ?_, ?_⟩, ⟨fun k hk => ?_, fun k hk => ?_, fun k hk => ?_⟩, fun k hk => ?_, fun k hk => ?_, fun k hk => ?_⟩
  · rw [x0, e0]; exact c0
  · rw [x1, y1]; exact c1
  · rw [x2, y2]; exact c2
  · rw [x3, y3]; exact c3
  · rw [x4, y4]; exact c4
  · rw [x5, y5]; exact c5
  · rw [x0] at hk
    rw [r0 k (by omega), h4 k (by omega)]; exact n0 k hk
  · rw [x1] at hk
    rw [r1 k (by omega), w4 6 k (by omega)]; exact n1 k hk
  · rw [x2] at hk
    rw [r2 k (by omega), w4 12 k (by omega)]; exact n2 k hk
  · rw [x4] at hk
    rw [r3 k (by omega), w3 104 k (by omega)]; exact s0 k hk
  · rw [x4] at hk
    rw [r4 k (by omega), w3 116 k (by omega)]; exact s1 k hk
  · rw [x4] at hk
    rw [r5 k (by omega), w3 128 k (by omega)]; exact s2 k hk
/-- the PLAYs of both, now and in both images, are alike -/
def z_G (C1 C2 : ev_C) : Prop := z_PL 6 67 34 0 19 0 C1 C2 ∧ z_PL 51 81 45 0 109 0 C1 C2 ∧ z_PL 52 95 45 367 109 20 C1 C2
def g6C (C : Nat → Nat → Int32) : Prop := z_G (ev_of C) (ev_of C)
def g6t (t : Nat) : Bool := [6, 19, 45, 51, 52, 67, 68, 69, 78, 79, 80, 81, 82, 83, 92, 93, 94, 95, 96, 97, 106, 107, 108, 109].contains t
theorem g6_ne {t n : Nat} (h : g6t t = true) (hn : g6t n = false) : t ≠ n := fun e => by rw [e, hn] at h; cases h
theorem g6_l {t : Nat} {l : List Nat} (h : g6t t = true) (hl : l.all (fun n => !(g6t n)) = true) : t ∉ l := fun hm => by
  have h1 := List.all_eq_true.mp hl t hm
  rw [h] at h1
  cases h1
theorem g6_of {C C2 : Nat → Nat → Int32} (h : g6C C) (h5 : ∀ t j, g6t t = true → C2 t j = C t j) (h6 : ∀ j, j < 140 → C2 34 j = C 34 j) : g6C C2 := by
  have e : ∀ t, g6t t = true → ev_of C2 t = ev_of C t := fun t ht => by
    funext j
    unfold ev_of
    rw [h5 t _ ht, h5 t _ ht, h5 t _ ht]
  have e34 : ∀ k, k < 140 → ev_of C2 34 (0 + k) = ev_of C 34 (0 + k) := fun k hk => by
    unfold ev_of
    rw [if_neg (by decide), if_neg (by decide), h6 _ (by omega)]
  refine ⟨h.1.al ?_ ?_ ?_ ?_ ?_ ?_ ?_ e34 ?_, h.2.1.al ?_ ?_ ?_ ?_ ?_ ?_ ?_ ?_ ?_, h.2.2.al ?_ ?_ ?_ ?_ ?_ ?_ ?_ ?_ ?_⟩ <;> intro k _ <;> exact congrFun (e _ (by decide)) _
def g5C (C : Nat → Nat → Int32) : Prop := g50C C ∧ g6C C
theorem g5_of {C C2 : Nat → Nat → Int32} (h : g5C C) (h1 : ∀ j : Nat, C2 15 j = C 15 j) (h2 : ∀ j : Nat, C2 49 j = C 49 j) (h3 : ∀ j : Nat, C2 16 j = C 16 j) (h4 : ∀ j : Nat, C2 50 j = C 50 j) (h5 : ∀ t j, g6t t = true → C2 t j = C t j) (h6 : ∀ j, j < 140 → C2 34 j = C 34 j) : g5C C2 := ⟨g50_of h.1 h1 h2 h3 h4, g6_of h.2 h5 h6⟩
def g0C (C : Nat → Nat → Int32) : Prop := g50C C ∧ g1C C ∧ g2C C ∧ g3C C ∧ g4C C
def gC (C : Nat → Nat → Int32) : Prop := g5C C ∧ g1C C ∧ g2C C ∧ g3C C ∧ g4C C
def GE (ty : Nat → Option Nat) : va_W → Prop := fun ws => ∃ C, tk ty ck_prot1 C ws ∧ gC C
section H27
variable {l : Launch} {D : va_G} {cys : Nat → ClassId} {ty : Nat → Option Nat} {pvv : Nat → Int32} {H : Heap}
theorem ge_ExP : ck_ExP ty ck_prot1 (GE ty) := fun ws q a t en en' hD hq hta hag hE => by
  obtain ⟨C, h1, h2⟩ := hE
  exact ⟨C, tk_ExP (fun _ _ h => h) ws q a t en en' hD hq hta hag h1, h2⟩
theorem tk_X1 {C : Nat → Nat → Int32} : ck_ExP ty ck_prot1 (tk ty ck_prot1 C) := tk_ExP (fun _ _ h => h)
theorem ge_in {C : Nat → Nat → Int32} (hW : ck_Wo D cys ty ck_tags ck_pvs0 (tk ty ck_prot1 C) pvv H) (hG : gC C) : ck_Wo D cys ty ck_tags ck_pvs0 (GE ty) pvv H := hr_mono (fun _ h => ⟨C, h, hG⟩) hW
theorem ge_out (hW : ck_Wo D cys ty ck_tags ck_pvs0 (GE ty) pvv H) : ∃ C, gC C ∧ ck_Wo D cys ty ck_tags ck_pvs0 (tk ty ck_prot1 C) pvv H := by
  obtain ⟨ws, h1, h2, h3, h4, C, h5, h6⟩ := hW
  exact ⟨C, h6, ws, h1, h2, h3, h4, h5⟩
/-- what is followed stands in the table too -/
theorem hr_lnk {E : va_W → Prop} {pq : Nat → List (Nat × Nat)} {C : Nat → Nat → Int32} (hW : ck_Wo D cys ty ck_tags ck_pvs0 E pvv H) (hE : ∀ ws, E ws → tk ty pq C ws) {a t q k : Nat} (hta : ty a = some t) (hq : ck_pvs0[q]? = some (t, k)) (hp : ck_fre (pq t) k k = false) : pvv q = C t k := by
  obtain ⟨ws, h1, h2, h3, h4, h5⟩ := hW
  have hp' : ck_pr (pq t) k := by
    unfold ck_fre at hp
    rw [List.all_eq_false] at hp
    obtain ⟨r, hr, h⟩ := hp
    simp only [Bool.or_eq_true, decide_eq_true_eq] at h
    exact ⟨r, hr, by omega, by omega⟩
  obtain ⟨q', en, g1, g2⟩ := h4 q t k hq a hta
  have g3 := hE ws h5 a t q' en hta g1 k hp'
  match en, g2, g3 with
  | .inr o, g2, g3 =>
    have g2 : o.2[k]? = some (.int (pvv q)) := g2
    have g3 : o.2[k]? = some (.int (C t k)) := g3
    rw [g2] at g3
    exact Value.int.inj (Option.some.inj g3)
  | .inl r, g2, g3 =>
    obtain ⟨b1, b2, b3⟩ := r
    match b3, g2, g3 with
    | .inl f, g2, g3 =>
      have g2 : f k = pvv q := g2
      have g3 : f k = C t k := g3
      rw [← g2, ← g3]
    | .inr (.inl f), g2, g3 =>
      have g2 : ck_half f k = pvv q := g2
      have g3 : ck_half f k = C t k := g3
      rw [← g2, ← g3]
theorem hr_fld {E : va_W → Prop} (hW : ck_Wo D cys ty ck_tags ck_pvs0 E pvv H) {a t ci j t' : Nat} {fts : List ck_AV} (hta : ty a = some t) (htd : ck_tags[t]? = some (.inl (ci, fts))) (hft : fts[j]? = some (.inr (.inl t'))) : ∃ b, ty b = some t' := by
  obtain ⟨ws, h1, h2, h3, h4, h5⟩ := hW
  obtain ⟨q, fs, g1, g2, g3⟩ := cm_obj h3 hta htd
  obtain ⟨v, k1, b, rfl, tb⟩ := g3 j _ hft
  exact ⟨b, tb⟩
/-- kept besides, by the reference's own writers of PLAYs: all but what they write -/
def ck_protR (t : Nat) : List (Nat × Nat) := if t = 19 then [] else ck_prot1 t
def ck_protT (t : Nat) : List (Nat × Nat) := if t = 109 then [] else ck_prot1 t
def gx_r (t : Nat) : Bool := !(t == 12) && !(t == 34)
def gx_i (t : Nat) : Bool := !(t == 45) && !(t == 46)
theorem gx_ne {kp : Nat → Bool} {t n : Nat} (h : kp t = true) (hn : kp n = false) : t ≠ n := fun e => by rw [e, hn] at h; cases h
def GX (ty : Nat → Option Nat) (pq : Nat → List (Nat × Nat)) (kp : Nat → Bool) (K : Nat → Nat → Int32) : va_W → Prop := fun ws => ∃ C, tk ty pq C ws ∧ g0C C ∧ ∀ t, kp t = true → ∀ j, C t j = K t j
theorem gx_in {pq : Nat → List (Nat × Nat)} {kp : Nat → Bool} {K C : Nat → Nat → Int32} (hW : ck_Wo D cys ty ck_tags ck_pvs0 (tk ty pq C) pvv H) (hG : g0C C) (hK : ∀ t, kp t = true → ∀ j, C t j = K t j) : ck_Wo D cys ty ck_tags ck_pvs0 (GX ty pq kp K) pvv H := hr_mono (fun _ h => ⟨C, h, hG, hK⟩) hW
theorem gx_out {pq : Nat → List (Nat × Nat)} {kp : Nat → Bool} {K : Nat → Nat → Int32} (hW : ck_Wo D cys ty ck_tags ck_pvs0 (GX ty pq kp K) pvv H) : ∃ C, g0C C ∧ (∀ t, kp t = true → ∀ j, C t j = K t j) ∧ ck_Wo D cys ty ck_tags ck_pvs0 (tk ty pq C) pvv H := by
  obtain ⟨ws, h1, h2, h3, h4, C, h5, h6, h7⟩ := hW
  exact ⟨C, h6, h7, ws, h1, h2, h3, h4, h5⟩
theorem pr_e {pr : List (Nat × Nat)} {j : Nat} (h : pr = []) : ¬ ck_pr pr j := fun hj => by
  rw [h] at hj
  obtain ⟨_, h2, -⟩ := hj
  cases h2
theorem prR1 : ∀ t j, ck_pr (ck_protR t) j → ck_pr (ck_prot1 t) j := by
  intro t j h
  unfold ck_protR at h
  split at h
  · exact absurd h (pr_e rfl)
  · exact h
theorem prT1 : ∀ t j, ck_pr (ck_protT t) j → ck_pr (ck_prot1 t) j := by
  intro t j h
  unfold ck_protT at h
  split at h
  · exact absurd h (pr_e rfl)
  · exact h
theorem tk_XR {C : Nat → Nat → Int32} : ck_ExP ty ck_prot1 (tk ty ck_protR C) := tk_ExP prR1
theorem tk_XT {C : Nat → Nat → Int32} : ck_ExP ty ck_prot1 (tk ty ck_protT C) := tk_ExP prT1
theorem tk_YR {C : Nat → Nat → Int32} : ck_ExP ty ck_protR (tk ty ck_protR C) := tk_ExP (fun _ _ h => h)
theorem tk_YT {C : Nat → Nat → Int32} : ck_ExP ty ck_protT (tk ty ck_protT C) := tk_ExP (fun _ _ h => h)
theorem sg_UU : ∀ i, i < 322 → ck_seg [(1, 0, 6), (6, -2147483648, 2147483647), (14, 0, 6), (40, -2147483648, 2147483647), (46, 0, 8), (47, 0, 6), (52, -2147483648, 2147483647), (60, 0, 6), (86, -2147483648, 2147483647), (92, 0, 8), (93, 0, 6), (98, -2147483648, 2147483647), (106, 0, 6), (132, -2147483648, 2147483647), (138, 0, 8), (139, 0, 6), (144, -2147483648, 2147483647), (152, 0, 6), (178, -2147483648, 2147483647), (184, 0, 8), (185, 0, 6), (190, -2147483648, 2147483647), (198, 0, 6), (224, -2147483648, 2147483647), (230, 0, 8), (231, 0, 6), (236, -2147483648, 2147483647), (244, 0, 6), (270, -2147483648, 2147483647), (276, 0, 8), (277, 0, 6), (282, -2147483648, 2147483647), (290, 0, 6), (316, -2147483648, 2147483647), (322, 0, 8), (323, 0, 6), (328, -2147483648, 2147483647), (336, 0, 6), (362, -2147483648, 2147483647), (368, 0, 8)] i = ck_seg [(1, 0, 6), (6, -2147483648, 2147483647), (14, 0, 6), (40, -2147483648, 2147483647), (46, 0, 8), (47, 0, 6), (52, -2147483648, 2147483647), (60, 0, 6), (86, -2147483648, 2147483647), (92, 0, 8), (93, 0, 6), (98, -2147483648, 2147483647), (106, 0, 6), (132, -2147483648, 2147483647), (138, 0, 8), (139, 0, 6), (144, -2147483648, 2147483647), (152, 0, 6), (178, -2147483648, 2147483647), (184, 0, 8), (185, 0, 6), (190, -2147483648, 2147483647), (198, 0, 6), (224, -2147483648, 2147483647), (230, 0, 8), (231, 0, 6), (236, -2147483648, 2147483647), (244, 0, 6), (270, -2147483648, 2147483647), (276, 0, 8), (277, 0, 6), (282, -2147483648, 2147483647), (290, 0, 6), (316, -2147483648, 2147483647), (322, 0, 8), (323, 0, 6), (328, -2147483648, 2147483647), (336, 0, 6), (362, -2147483648, 2147483647), (368, 0, 8)] (i + 46) := by decide +kernel
theorem dX12_keep_0 : decode cX12_keep 0 = .ok (.aload_n 0, 1) := by decide +kernel
theorem dX12_keep_1 : decode cX12_keep 1 = .ok (.getfield 254, 3) := by decide +kernel
theorem dX12_keep_4 : decode cX12_keep 4 = .ok (.bipush 8, 2) := by decide +kernel
theorem dX12_keep_6 : decode cX12_keep 6 = .ok (.if_icmp .ne 39, 3) := by decide +kernel
theorem dX12_keep_9 : decode cX12_keep 9 = .ok (.iconst 0, 1) := by decide +kernel
theorem dX12_keep_10 : decode cX12_keep 10 = .ok (.istore_n 1, 1) := by decide +kernel
theorem dX12_keep_11 : decode cX12_keep 11 = .ok (.iload_n 1, 1) := by decide +kernel
theorem dX12_keep_12 : decode cX12_keep 12 = .ok (.sipush 322, 3) := by decide +kernel
theorem dX12_keep_15 : decode cX12_keep 15 = .ok (.if_icmp .ge 24, 3) := by decide +kernel
theorem dX12_keep_18 : decode cX12_keep 18 = .ok (.aload_n 0, 1) := by decide +kernel
theorem dX12_keep_19 : decode cX12_keep 19 = .ok (.getfield 50, 3) := by decide +kernel
theorem dX12_keep_22 : decode cX12_keep 22 = .ok (.iload_n 1, 1) := by decide +kernel
theorem dX12_keep_23 : decode cX12_keep 23 = .ok (.aload_n 0, 1) := by decide +kernel
theorem dX12_keep_24 : decode cX12_keep 24 = .ok (.getfield 50, 3) := by decide +kernel
theorem dX12_keep_27 : decode cX12_keep 27 = .ok (.iload_n 1, 1) := by decide +kernel
theorem dX12_keep_28 : decode cX12_keep 28 = .ok (.bipush 46, 2) := by decide +kernel
theorem dX12_keep_30 : decode cX12_keep 30 = .ok (.iadd, 1) := by decide +kernel
theorem dX12_keep_31 : decode cX12_keep 31 = .ok (.iaload, 1) := by decide +kernel
theorem dX12_keep_32 : decode cX12_keep 32 = .ok (.iastore, 1) := by decide +kernel
theorem dX12_keep_33 : decode cX12_keep 33 = .ok (.iinc 1 1, 3) := by decide +kernel
theorem dX12_keep_36 : decode cX12_keep 36 = .ok (.goto (-25), 3) := by decide +kernel
theorem dX12_keep_39 : decode cX12_keep 39 = .ok (.aload_n 0, 1) := by decide +kernel
theorem dX12_keep_40 : decode cX12_keep 40 = .ok (.bipush 7, 2) := by decide +kernel
theorem dX12_keep_42 : decode cX12_keep 42 = .ok (.putfield 254, 3) := by decide +kernel
theorem dX12_keep_45 : decode cX12_keep 45 = .ok (.iconst 0, 1) := by decide +kernel
theorem dX12_keep_46 : decode cX12_keep 46 = .ok (.istore_n 1, 1) := by decide +kernel
theorem dX12_keep_47 : decode cX12_keep 47 = .ok (.iload_n 1, 1) := by decide +kernel
theorem dX12_keep_48 : decode cX12_keep 48 = .ok (.bipush 46, 2) := by decide +kernel
theorem dX12_keep_50 : decode cX12_keep 50 = .ok (.if_icmp .ge 33, 3) := by decide +kernel
theorem dX12_keep_53 : decode cX12_keep 53 = .ok (.aload_n 0, 1) := by decide +kernel
theorem dX12_keep_54 : decode cX12_keep 54 = .ok (.getfield 50, 3) := by decide +kernel
theorem dX12_keep_57 : decode cX12_keep 57 = .ok (.bipush 46, 2) := by decide +kernel
theorem dX12_keep_59 : decode cX12_keep 59 = .ok (.aload_n 0, 1) := by decide +kernel
theorem dX12_keep_60 : decode cX12_keep 60 = .ok (.getfield 254, 3) := by decide +kernel
theorem dX12_keep_63 : decode cX12_keep 63 = .ok (.imul, 1) := by decide +kernel
theorem dX12_keep_64 : decode cX12_keep 64 = .ok (.iload_n 1, 1) := by decide +kernel
theorem dX12_keep_65 : decode cX12_keep 65 = .ok (.iadd, 1) := by decide +kernel
theorem dX12_keep_66 : decode cX12_keep 66 = .ok (.aload_n 0, 1) := by decide +kernel
theorem dX12_keep_67 : decode cX12_keep 67 = .ok (.getfield 33, 3) := by decide +kernel
theorem dX12_keep_70 : decode cX12_keep 70 = .ok (.sipush 140, 3) := by decide +kernel
theorem dX12_keep_73 : decode cX12_keep 73 = .ok (.iload_n 1, 1) := by decide +kernel
theorem dX12_keep_74 : decode cX12_keep 74 = .ok (.iadd, 1) := by decide +kernel
theorem dX12_keep_75 : decode cX12_keep 75 = .ok (.iaload, 1) := by decide +kernel
theorem dX12_keep_76 : decode cX12_keep 76 = .ok (.iastore, 1) := by decide +kernel
theorem dX12_keep_77 : decode cX12_keep 77 = .ok (.iinc 1 1, 3) := by decide +kernel
theorem dX12_keep_80 : decode cX12_keep 80 = .ok (.goto (-33), 3) := by decide +kernel
theorem dX12_keep_83 : decode cX12_keep 83 = .ok (.aload_n 0, 1) := by decide +kernel
theorem dX12_keep_84 : decode cX12_keep 84 = .ok (.dup, 1) := by decide +kernel
theorem dX12_keep_85 : decode cX12_keep 85 = .ok (.getfield 254, 3) := by decide +kernel
theorem dX12_keep_88 : decode cX12_keep 88 = .ok (.iconst 1, 1) := by decide +kernel
theorem dX12_keep_89 : decode cX12_keep 89 = .ok (.iadd, 1) := by decide +kernel
theorem dX12_keep_90 : decode cX12_keep 90 = .ok (.putfield 254, 3) := by decide +kernel
theorem dX12_keep_93 : decode cX12_keep 93 = .ok (.return_, 1) := by decide +kernel
set_option maxRecDepth 100000 in
set_option maxHeartbeats 4000000 in
theorem hk_12_keep (hF : ck_LKf ck_LK) (hM : ck_LKm ck_tags ck_LK ck_tab) (hU : ck_uq ty ck_pvs0) (hun : ck_un ty) (hH1 : ∀ Ex', ck_ExP ty ck_prot1 Ex' → ∀ j, j < 331 → ck_Holds l D cys ty ck_tags ck_pvs0 Ex' (ck_tab j)) (hH : ∀ j, j < 336 → ck_Holds l D cys ty ck_tags ck_pvs0 (GE ty) (ck_tab j)) : ck_Holds l D cys ty ck_tags ck_pvs0 (GE ty) (ck_tab 336) := by
  refine cm_enter (by decide +kernel) (by decide +kernel) (by decide +kernel) ?_
  intro vs pvv0 p e s m below meth c ls ha hp B hl hW
  have hx := B.1
  have hb : c.code = cX12_keep := B.2.1
  have hI := pv_inj
  have hS : va_S (ck_own ty) s.heap s.heap [] := va_S.rf
  obtain ⟨C, hG, hW⟩ := ge_out hW
  obtain ⟨_, rfl, ⟨a0, rfl, t0⟩⟩ := cm_a1 ha
  have hl : lv_has ls 2 [(0, .ref a0)] := hl
  have hp0 := hp
  obtain ⟨bs, ts⟩ := hr_fld hW t0 rfl (j := 6) (t' := 34) rfl
  have k17 := congrArg Int32.toInt (hr_lnk hW (pq := ck_prot1) (fun _ h => h) ts (q := 17) (k := 3) rfl (by decide))
  have k15 := congrArg Int32.toInt (hr_lnk hW (pq := ck_prot1) (fun _ h => h) t0 (q := 15) (k := 22) rfl (by decide))
  have r16 := hr_pd hp0 16 17 (lo := 0) (hi := 6) (a := -6) (b := 0) rfl (by decide)
  have r15 := hr_pv hp0 15 (lo := 0) (hi := 8) rfl
  obtain ⟨G5, G1, G2, G3, G4⟩ := hG
  obtain ⟨A, hA⟩ : ∃ A, (C 34 3).toInt = A := ⟨_, rfl⟩
  have part2 : ∀ (um : Int32) (pvv : Nat → Int32) (D0 : Nat → Nat → Int32) (i : Int32) (ls : Array Slot) (H : Heap) (locs : List Loc), i.toInt = 0 → 0 ≤ um.toInt → um.toInt ≤ 7 → (∀ j, j ≠ 15 → pvv j = pvv0 j) → (∀ t j, t ≠ 37 → ¬ (t = 12 ∧ j = 22) → D0 t j = C t j) → (∀ j : Nat, (j : Int) < um.toInt → (D0 37 (46 * j)).toInt ≤ A) → (D0 12 22).toInt = um.toInt → lv_has ls 2 [(1, .int i), (0, .ref a0)] → ck_Wo D cys ty ck_tags ck_pvs0 (tk ty ck_prot1 D0) pvv H → va_S (ck_own ty) s.heap H locs → W p l e (ck_rm (ck_tab 336)) s m [Value.ref a0].toArray below meth c H locs 0 0 (MQ below (ck_Qc D cys ty ck_tags ck_pvs0 (GE ty) (ck_tab 336) [Value.ref a0] pvv0) [Value.ref a0].toArray s 0 0 (ck_own ty)) (F0 m 47 ls []) := by
    intro um pvv D0 i0 ls0 H0 locs0 hi0 um1 um2 hpv hD hu0 hum0 hl0 hW0 hS0
    have l47 : ∀ (n47 : Nat) (i : Int32) (um : Int32) (C2 : Nat → Nat → Int32) (ls : Array Slot) (H : Heap) (locs : List Loc), 46 - i.toInt < n47 → (0 ≤ i.toInt) → (i.toInt ≤ 46) → (0 ≤ um.toInt) → (um.toInt ≤ 7) → (∀ t j, t ≠ 37 → C2 t j = D0 t j) → (∀ j : Nat, (j : Int) < um.toInt → (C2 37 (46 * j)).toInt ≤ A) → (1 ≤ i.toInt → (C2 37 (46 * um.toInt.toNat)).toInt ≤ A) → ((C2 12 22).toInt = um.toInt) → lv_has ls 2 [(1, .int i), (0, .ref a0)] → ck_Wo D cys ty ck_tags ck_pvs0 (tk ty ck_prot1 C2) pvv H → va_S (ck_own ty) s.heap H locs → W p l e (ck_rm (ck_tab 336)) s m [Value.ref a0].toArray below meth c H locs 0 0 (MQ below (ck_Qc D cys ty ck_tags ck_pvs0 (GE ty) (ck_tab 336) [Value.ref a0] pvv0) [Value.ref a0].toArray s 0 0 (ck_own ty)) (F0 m 47 ls []) := by
      intro n47
      induction n47 with
      | zero => intro i um C2 ls H locs hm47 i1 i2 um1 um2 hC hu h0u hum hl hW hS; omega
      | succ n47 ih47 =>
        intro i um C2 ls H locs hm47 i1 i2 um1 um2 hC hu h0u hum hl hW hS
        refine lv_iload_n hx hb dX12_keep_47 rfl (lv_at hl 0 rfl) ?_
        refine hr_bp hx hb dX12_keep_48 (by decide) (by decide) (fun z48 hz48 => ?_)
        refine hr_ge (tgt := 83) hx hb dX12_keep_50 (by decide) (fun h50 => ?_) (fun h50 => ?_)
        · refine lv_aload_n hx hb dX12_keep_83 rfl (lv_at hl 1 rfl) ?_
          refine lv_dup hx hb dX12_keep_84 rfl ?_
          refine hr_getI B hF hb hW (ci := 12) (j := 22) (cd := 0) t0 rfl (isF (by decide +kernel)) rfl dX12_keep_85 (fun z85 lz85 uz85 pz85 xz85 => ?_)
          have pz85 := congrArg Int32.toInt (pz85 15 rfl)
          have xz85 := tk_xo xz85 (fun _ h => h) (pq := ck_prot1) (C := C2) t0 (by decide); have kz85 := congrArg Int32.toInt xz85
          have e85 : z85.toInt = um.toInt := by rw [kz85]; exact hum
          refine hr_ic hx hb dX12_keep_88 (by decide) (fun z88 hz88 => ?_)
          refine hr_add hx hb dX12_keep_89 (by omega) (by omega) (fun z89 hz89 => ?_)
          refine hr_putP B hF hb hU hW hS (ci := 12) (j := 22) (cd := 0) t0 rfl (isF (by decide +kernel)) rfl (by omega) (by omega) (Or.inl rfl) (tk_EO t0 (fun a h => hun 12 (by decide) _ _ t0 h) (by decide)) hI (q0 := 15) rfl dX12_keep_90 (fun H locs hW hS => ?_)
          obtain ⟨pvv90, e90⟩ : ∃ f, f = upd pvv 15 z89 := ⟨_, rfl⟩
          rw [← e90] at hW
          have e90q : pvv90 15 = z89 := by rw [e90, pk_us]
          have e90qi := congrArg Int32.toInt e90q
          obtain ⟨C90, c90⟩ : ∃ f, f = tk_upd C2 12 (22) z89 := ⟨_, rfl⟩
          rw [← c90] at hW
          have h0u := h0u (by omega)
          refine cm_vret B hb rfl ⟨_, List.mem_cons_self, True.intro, (fun q h => nomatch h), ?_⟩ (ge_in hW ?_) hS dX12_keep_93
          · refine hr_mk (n := 32) [15] hp0 (fun j h1 h2 => by rw [e90, pk_un (fun q => h2 (by rw [q]; decide))]; exact hpv j (fun q => h2 (by rw [q]; decide))) (by decide +kernel) (fun j hj av hav => ?_)
            obtain rfl := List.mem_singleton.mp hj
            have hav : some (.inl (1, 8, []) : ck_AV) = some av := hav
            cases hav
            exact hr_aI (by omega) (by omega)
          · have hCC : ∀ t j, t ≠ 37 → ¬ (t = 12 ∧ j = 22) → C90 t j = C t j := fun t j h1 h2 => by rw [c90, tk_un h2, hC t j h1]; exact hD t j h1 h2
            refine ⟨g5_of G5 (fun j => hCC 15 j (by decide) (by simp)) (fun j => hCC 49 j (by decide) (by simp)) (fun j => hCC 16 j (by decide) (by simp)) (fun j => hCC 50 j (by decide) (by simp)) (fun t j ht => hCC t j (g6_ne ht (by decide)) (fun q => g6_ne ht (n := 12) (by decide) q.1)) (fun j _ => hCC 34 j (by decide) (by simp)), fun k hk => ?_, fun j hj => ?_, fun k hk hk2 => ?_, ?_⟩
            · rw [hCC 0 0 (by decide) (by decide)] at hk
              rw [hCC 29 k (by decide) (by simp), hCC 30 k (by decide) (by simp), hCC 31 k (by decide) (by simp)]
              exact G1 k hk
            · rw [hCC 34 3 (by decide) (by decide), hA]
              rw [show C90 12 22 = z89 by rw [c90, tk_us]] at hj
              rw [show C90 37 (46 * j) = C2 37 (46 * j) by rw [c90, tk_unt (by decide)]]
              by_cases e9 : (j : Int) < um.toInt
              · exact hu j e9
              · rw [show j = um.toInt.toNat by omega]; exact h0u
            · rw [hCC 46 k (by decide) (by simp)] at hk2
              rw [hCC 45 _ (by decide) (by simp), hCC 45 _ (by decide) (by simp)]
              refine ⟨(G3 k hk hk2).1, ?_⟩
              have e9 : (fun i => C90 45 (367 * k + 186 + i)) = (fun i => C 45 (367 * k + 186 + i)) := funext (fun i => hCC 45 _ (by decide) (by simp))
              rw [e9]; exact (G3 k hk hk2).2
            · have e9 : (fun i => C90 34 (186 + i)) = (fun i => C 34 (186 + i)) := funext (fun i => hCC 34 _ (by decide) (by simp))
              unfold g4C; rw [e9]; exact G4
        · refine lv_aload_n hx hb dX12_keep_53 rfl (lv_at hl 1 rfl) ?_
          refine hr_getR B hF hb hW (ci := 12) (j := 20) (cd := 3) t0 rfl (isF (by decide +kernel)) rfl dX12_keep_54 (fun az54 tz54 xz54 => ?_)
          refine hr_bp hx hb dX12_keep_57 (by decide) (by decide) (fun z57 hz57 => ?_)
          refine lv_aload_n hx hb dX12_keep_59 rfl (lv_at hl 1 rfl) ?_
          refine hr_getI B hF hb hW (ci := 12) (j := 22) (cd := 0) t0 rfl (isF (by decide +kernel)) rfl dX12_keep_60 (fun z60 lz60 uz60 pz60 xz60 => ?_)
          have pz60 := congrArg Int32.toInt (pz60 15 rfl)
          have xz60 := tk_xo xz60 (fun _ h => h) (pq := ck_prot1) (C := C2) t0 (by decide); have kz60 := congrArg Int32.toInt xz60
          have e60 : z60.toInt = um.toInt := by rw [kz60]; exact hum
          refine hr_mulL hx hb dX12_keep_63 hz57 (by omega) (by omega) (fun z63 hz63 => ?_)
          refine lv_iload_n hx hb dX12_keep_64 rfl (lv_at hl 0 rfl) ?_
          refine hr_add hx hb dX12_keep_65 (by omega) (by omega) (fun z65 hz65 => ?_)
          refine lv_aload_n hx hb dX12_keep_66 rfl (lv_at hl 1 rfl) ?_
          refine hr_getR B hF hb hW (ci := 12) (j := 6) (cd := 3) t0 rfl (isF (by decide +kernel)) rfl dX12_keep_67 (fun az67 tz67 xz67 => ?_)
          refine hr_sp hx hb dX12_keep_70 (by decide) (by decide) (fun z70 hz70 => ?_)
          refine lv_iload_n hx hb dX12_keep_73 rfl (lv_at hl 0 rfl) ?_
          refine hr_add hx hb dX12_keep_74 (by omega) (by omega) (fun z74 hz74 => ?_)
          refine hr_iald B hb hW tz67 rfl (by omega) (by omega) dX12_keep_75 (fun z75 iz75 pz75 xz75 => ?_)
          have e1 := sg_US um.toInt.toNat (by omega) i.toInt.toNat (by omega)
          rw [show 46 * um.toInt.toNat + i.toInt.toNat = z65.toInt.toNat by omega, show 140 + i.toInt.toNat = z74.toInt.toNat by omega] at e1
          refine hr_iastN (Ex' := tk ty ck_prot1 (tk_upd C2 37 (z65.toInt.toNat) z75)) B hb hU hW hS tz54 rfl (by omega) (by omega) (by unfold ck_in; rw [e1]; exact iz75) (tk_EA tz54 (fun a h => hun 37 (by decide) _ _ tz54 h)) (u := 0) (v := 367) (by omega) (by omega) (by decide +kernel) dX12_keep_76 (fun H locs hW hS => ?_)
          obtain ⟨C76, c76⟩ : ∃ f, f = tk_upd C2 37 (z65.toInt.toNat) z75 := ⟨_, rfl⟩
          rw [← c76] at hW
          refine hr_inc hx hb dX12_keep_77 hl (kq := 0) (lv' := fun v => [(1, .int v), (0, .ref a0)]) rfl (by decide) (by decide) (by omega) (by omega) (fun _ => rfl) (fun z77 ls hz77 hl => ?_)
          refine lv_goto (tgt := 47) hx hb dX12_keep_80 (by decide) ?_
          refine ih47 z77 um C76 _ _ _ (by omega) (by omega) (by omega) (by omega) (by omega) (fun t j ht => ?_) (fun j hj => ?_) (fun _ => ?_) (by rw [c76, tk_unt (by decide)]; exact hum) hl hW hS
          · rw [c76, tk_unt ht]; exact hC t j ht
          · rw [c76, tk_unj (by omega)]; exact hu j hj
          · by_cases h0 : i.toInt = 0
            · rw [show 46 * um.toInt.toNat = z65.toInt.toNat by omega, c76, tk_us]
              have := congrArg Int32.toInt (pz75 16 (by rw [show z74.toInt.toNat = 140 by omega]; rfl))
              rw [this, hpv 16 (by decide)]; omega
            · rw [c76, tk_unj (by omega)]; exact h0u (by omega)
    exact l47 47 i0 um D0 _ _ _ (by omega) (by omega) (by omega) um1 um2 (fun _ _ _ => rfl) hu0 (fun h => absurd h (by omega)) hum0 hl0 hW0 hS0
  have l11 : ∀ (n11 : Nat) (i : Int32) (C2 : Nat → Nat → Int32) (ls : Array Slot) (H : Heap) (locs : List Loc), 322 - i.toInt < n11 → (0 ≤ i.toInt) → (i.toInt ≤ 322) → (∀ t j, t ≠ 37 → C2 t j = C t j) → (∀ j : Nat, (j : Int) < 8 → (C2 37 (46 * j)).toInt ≤ A) → lv_has ls 2 [(1, .int i), (0, .ref a0)] → ck_Wo D cys ty ck_tags ck_pvs0 (tk ty ck_prot1 C2) pvv0 H → va_S (ck_own ty) s.heap H locs → W p l e (ck_rm (ck_tab 336)) s m [Value.ref a0].toArray below meth c H locs 0 0 (MQ below (ck_Qc D cys ty ck_tags ck_pvs0 (GE ty) (ck_tab 336) [Value.ref a0] pvv0) [Value.ref a0].toArray s 0 0 (ck_own ty)) (F0 m 11 ls []) := by
    intro n11
    induction n11 with
    | zero => intro i C2 ls H locs hm11 i1 i2 hC hu hl hW hS; omega
    | succ n11 ih11 =>
      intro i C2 ls H locs hm11 i1 i2 hC hu hl hW hS
      refine lv_iload_n hx hb dX12_keep_11 rfl (lv_at hl 0 rfl) ?_
      refine hr_sp hx hb dX12_keep_12 (by decide) (by decide) (fun z12 hz12 => ?_)
      refine hr_ge (tgt := 39) hx hb dX12_keep_15 (by decide) (fun h15 => ?_) (fun h15 => ?_)
      · refine lv_aload_n hx hb dX12_keep_39 rfl (lv_at hl 1 rfl) ?_
        refine hr_bp hx hb dX12_keep_40 (by decide) (by decide) (fun z40 hz40 => ?_)
        refine hr_putP B hF hb hU hW hS (ci := 12) (j := 22) (cd := 0) t0 rfl (isF (by decide +kernel)) rfl (by omega) (by omega) (Or.inl rfl) (tk_EO t0 (fun a h => hun 12 (by decide) _ _ t0 h) (by decide)) hI (q0 := 15) rfl dX12_keep_42 (fun H locs hW hS => ?_)
        obtain ⟨pvv42, e42⟩ : ∃ f, f = upd pvv0 15 z40 := ⟨_, rfl⟩
        rw [← e42] at hW
        have e42q : pvv42 15 = z40 := by rw [e42, pk_us]
        have e42qi := congrArg Int32.toInt e42q
        obtain ⟨C42, c42⟩ : ∃ f, f = tk_upd C2 12 (22) z40 := ⟨_, rfl⟩
        rw [← c42] at hW
        refine hr_ic hx hb dX12_keep_45 (by decide) (fun z45 hz45 => ?_)
        refine lv_istore_n hx hb dX12_keep_46 rfl hl (lv' := [(1, .int z45), (0, .ref a0)]) (by decide) rfl (fun ls hl => ?_)
        exact part2 z40 pvv42 C42 z45 _ _ _ (by omega) (by omega) (by omega) (fun j hj => by rw [e42]; exact pk_un hj) (fun t j h1 h2 => by rw [c42, tk_un h2]; exact hC t j h1) (fun j hj => by rw [c42, tk_unt (by decide)]; exact hu j (by omega)) (by rw [c42, tk_us]) (lv_sub hl [0, 1] rfl) hW hS
      · refine lv_aload_n hx hb dX12_keep_18 rfl (lv_at hl 1 rfl) ?_
        refine hr_getR B hF hb hW (ci := 12) (j := 20) (cd := 3) t0 rfl (isF (by decide +kernel)) rfl dX12_keep_19 (fun az19 tz19 xz19 => ?_)
        refine lv_iload_n hx hb dX12_keep_22 rfl (lv_at hl 0 rfl) ?_
        refine lv_aload_n hx hb dX12_keep_23 rfl (lv_at hl 1 rfl) ?_
        refine hr_getR B hF hb hW (ci := 12) (j := 20) (cd := 3) t0 rfl (isF (by decide +kernel)) rfl dX12_keep_24 (fun az24 tz24 xz24 => ?_)
        refine lv_iload_n hx hb dX12_keep_27 rfl (lv_at hl 0 rfl) ?_
        refine hr_bp hx hb dX12_keep_28 (by decide) (by decide) (fun z28 hz28 => ?_)
        refine hr_add hx hb dX12_keep_30 (by omega) (by omega) (fun z30 hz30 => ?_)
        refine hr_iald B hb hW tz24 rfl (by omega) (by omega) dX12_keep_31 (fun z31 iz31 pz31 xz31 => ?_)
        have e1 := sg_UU i.toInt.toNat (by omega)
        rw [show i.toInt.toNat + 46 = z30.toInt.toNat by omega] at e1
        refine hr_iastN (Ex' := tk ty ck_prot1 (tk_upd C2 37 (i.toInt.toNat) z31)) B hb hU hW hS tz19 rfl (by omega) (by omega) (by unfold ck_in; rw [e1]; exact iz31) (tk_EA tz19 (fun a h => hun 37 (by decide) _ _ tz19 h)) (u := 0) (v := 367) (by omega) (by omega) (by decide +kernel) dX12_keep_32 (fun H locs hW hS => ?_)
        obtain ⟨C32, c32⟩ : ∃ f, f = tk_upd C2 37 (i.toInt.toNat) z31 := ⟨_, rfl⟩
        rw [← c32] at hW
        refine hr_inc hx hb dX12_keep_33 hl (kq := 0) (lv' := fun v => [(1, .int v), (0, .ref a0)]) rfl (by decide) (by decide) (by omega) (by omega) (fun _ => rfl) (fun z33 ls hz33 hl => ?_)
        refine lv_goto (tgt := 11) hx hb dX12_keep_36 (by decide) ?_
        refine ih11 z33 C32 _ _ _ (by omega) (by omega) (by omega) (fun t j ht => ?_) (fun j hj => ?_) hl hW hS
        · rw [c32, tk_unt ht]; exact hC t j ht
        · by_cases e9 : 46 * j = i.toInt.toNat
          · rw [e9, c32, tk_us]
            have x9 := tk_xa xz31 (fun _ h => h) (pq := ck_prot1) (C := C2) tz24 ⟨(46 * (j + 1), 46 * (j + 1)), by (have : j = 0 ∨ j = 1 ∨ j = 2 ∨ j = 3 ∨ j = 4 ∨ j = 5 ∨ j = 6 := by omega); rcases this with rfl | rfl | rfl | rfl | rfl | rfl | rfl <;> decide, by dsimp only; omega, by dsimp only; omega⟩
            rw [x9, show z30.toInt.toNat = 46 * (j + 1) by omega]; exact hu (j + 1) (by omega)
          · rw [c32, tk_unj e9]; exact hu j hj
  refine lv_aload_n hx hb dX12_keep_0 rfl (lv_at hl 0 rfl) ?_
  refine hr_getI B hF hb hW (ci := 12) (j := 22) (cd := 0) t0 rfl (isF (by decide +kernel)) rfl dX12_keep_1 (fun z1 lz1 uz1 pz1 xz1 => ?_)
  have pz1 := congrArg Int32.toInt (pz1 15 rfl)
  have xz1 := tk_xo xz1 (fun _ h => h) (pq := ck_prot1) (C := C) t0 (by decide); have kz1 := congrArg Int32.toInt xz1
  refine hr_bp hx hb dX12_keep_4 (by decide) (by decide) (fun z4 hz4 => ?_)
  refine hr_ne (tgt := 45) hx hb dX12_keep_6 (by decide) (fun h6 => ?_) (fun h6 => ?_)
  · refine hr_ic hx hb dX12_keep_45 (by decide) (fun z45 hz45 => ?_)
    refine lv_istore_n hx hb dX12_keep_46 rfl hl (lv' := [(1, .int z45), (0, .ref a0)]) (by decide) rfl (fun ls hl => ?_)
    exact part2 z1 pvv0 C z45 _ _ _ (by omega) (by omega) (by omega) (fun _ _ => rfl) (fun _ _ _ _ => rfl) (fun j hj => by have := G2 j (by omega); omega) (by omega) (lv_sub hl [0, 1] rfl) hW hS
  · refine hr_ic hx hb dX12_keep_9 (by decide) (fun z9 hz9 => ?_)
    refine lv_istore_n hx hb dX12_keep_10 rfl hl (lv' := [(1, .int z9), (0, .ref a0)]) (by decide) rfl (fun ls hl => ?_)
    exact l11 323 z9 C _ _ _ (by omega) (by omega) (by omega) (fun _ _ _ => rfl) (fun j hj => by have := G2 j (by omega); omega) hl hW hS
theorem dX12_undo_0 : decode cX12_undo 0 = .ok (.aload_n 0, 1) := by decide +kernel
theorem dX12_undo_1 : decode cX12_undo 1 = .ok (.iconst 0, 1) := by decide +kernel
theorem dX12_undo_2 : decode cX12_undo 2 = .ok (.putfield 1, 3) := by decide +kernel
theorem dX12_undo_5 : decode cX12_undo 5 = .ok (.aload_n 0, 1) := by decide +kernel
theorem dX12_undo_6 : decode cX12_undo 6 = .ok (.getfield 254, 3) := by decide +kernel
theorem dX12_undo_9 : decode cX12_undo 9 = .ok (.ifCond .ne 5, 3) := by decide +kernel
theorem dX12_undo_12 : decode cX12_undo 12 = .ok (.iconst (-1), 1) := by decide +kernel
theorem dX12_undo_13 : decode cX12_undo 13 = .ok (.ireturn, 1) := by decide +kernel
theorem dX12_undo_14 : decode cX12_undo 14 = .ok (.aload_n 0, 1) := by decide +kernel
theorem dX12_undo_15 : decode cX12_undo 15 = .ok (.dup, 1) := by decide +kernel
theorem dX12_undo_16 : decode cX12_undo 16 = .ok (.getfield 254, 3) := by decide +kernel
theorem dX12_undo_19 : decode cX12_undo 19 = .ok (.iconst 1, 1) := by decide +kernel
theorem dX12_undo_20 : decode cX12_undo 20 = .ok (.isub, 1) := by decide +kernel
theorem dX12_undo_21 : decode cX12_undo 21 = .ok (.putfield 254, 3) := by decide +kernel
theorem dX12_undo_24 : decode cX12_undo 24 = .ok (.iconst 0, 1) := by decide +kernel
theorem dX12_undo_25 : decode cX12_undo 25 = .ok (.istore_n 1, 1) := by decide +kernel
theorem dX12_undo_26 : decode cX12_undo 26 = .ok (.iload_n 1, 1) := by decide +kernel
theorem dX12_undo_27 : decode cX12_undo 27 = .ok (.bipush 46, 2) := by decide +kernel
theorem dX12_undo_29 : decode cX12_undo 29 = .ok (.if_icmp .ge 33, 3) := by decide +kernel
theorem dX12_undo_32 : decode cX12_undo 32 = .ok (.aload_n 0, 1) := by decide +kernel
theorem dX12_undo_33 : decode cX12_undo 33 = .ok (.getfield 33, 3) := by decide +kernel
theorem dX12_undo_36 : decode cX12_undo 36 = .ok (.sipush 140, 3) := by decide +kernel
theorem dX12_undo_39 : decode cX12_undo 39 = .ok (.iload_n 1, 1) := by decide +kernel
theorem dX12_undo_40 : decode cX12_undo 40 = .ok (.iadd, 1) := by decide +kernel
theorem dX12_undo_41 : decode cX12_undo 41 = .ok (.aload_n 0, 1) := by decide +kernel
theorem dX12_undo_42 : decode cX12_undo 42 = .ok (.getfield 50, 3) := by decide +kernel
theorem dX12_undo_45 : decode cX12_undo 45 = .ok (.bipush 46, 2) := by decide +kernel
theorem dX12_undo_47 : decode cX12_undo 47 = .ok (.aload_n 0, 1) := by decide +kernel
theorem dX12_undo_48 : decode cX12_undo 48 = .ok (.getfield 254, 3) := by decide +kernel
theorem dX12_undo_51 : decode cX12_undo 51 = .ok (.imul, 1) := by decide +kernel
theorem dX12_undo_52 : decode cX12_undo 52 = .ok (.iload_n 1, 1) := by decide +kernel
theorem dX12_undo_53 : decode cX12_undo 53 = .ok (.iadd, 1) := by decide +kernel
theorem dX12_undo_54 : decode cX12_undo 54 = .ok (.iaload, 1) := by decide +kernel
theorem dX12_undo_55 : decode cX12_undo 55 = .ok (.iastore, 1) := by decide +kernel
theorem dX12_undo_56 : decode cX12_undo 56 = .ok (.iinc 1 1, 3) := by decide +kernel
theorem dX12_undo_59 : decode cX12_undo 59 = .ok (.goto (-33), 3) := by decide +kernel
theorem dX12_undo_62 : decode cX12_undo 62 = .ok (.aload_n 0, 1) := by decide +kernel
theorem dX12_undo_63 : decode cX12_undo 63 = .ok (.getfield 254, 3) := by decide +kernel
theorem dX12_undo_66 : decode cX12_undo 66 = .ok (.ireturn, 1) := by decide +kernel
set_option maxRecDepth 100000 in
set_option maxHeartbeats 4000000 in
theorem hk_12_undo (hF : ck_LKf ck_LK) (hM : ck_LKm ck_tags ck_LK ck_tab) (hU : ck_uq ty ck_pvs0) (hun : ck_un ty) (hH1 : ∀ Ex', ck_ExP ty ck_prot1 Ex' → ∀ j, j < 331 → ck_Holds l D cys ty ck_tags ck_pvs0 Ex' (ck_tab j)) (hH : ∀ j, j < 349 → ck_Holds l D cys ty ck_tags ck_pvs0 (GE ty) (ck_tab j)) : ck_Holds l D cys ty ck_tags ck_pvs0 (GE ty) (ck_tab 349) := by
  refine cm_enter (by decide +kernel) (by decide +kernel) (by decide +kernel) ?_
  intro vs pvv0 p e s m below meth c ls ha hp B hl hW
  have hx := B.1
  have hb : c.code = cX12_undo := B.2.1
  have hI := pv_inj
  have hS : va_S (ck_own ty) s.heap s.heap [] := va_S.rf
  obtain ⟨C, hG, hW⟩ := ge_out hW
  obtain ⟨_, rfl, ⟨a0, rfl, t0⟩⟩ := cm_a1 ha
  have hl : lv_has ls 2 [(0, .ref a0)] := hl
  have hp0 := hp
  obtain ⟨bs, ts⟩ := hr_fld hW t0 rfl (j := 6) (t' := 34) rfl
  have k17 := congrArg Int32.toInt (hr_lnk hW (pq := ck_prot1) (fun _ h => h) ts (q := 17) (k := 3) rfl (by decide))
  have r15 := hr_pv hp0 15 (lo := 0) (hi := 8) rfl
  have r17 := hr_pv hp0 17 (lo := 0) (hi := 6) rfl
  have hG0 := hG
  obtain ⟨G5, G1, G2, G3, G4⟩ := hG
  refine lv_aload_n hx hb dX12_undo_0 rfl (lv_at hl 0 rfl) ?_
  refine hr_ic hx hb dX12_undo_1 (by decide) (fun z1 hz1 => ?_)
  refine hr_putN B hF hb hU hW hS (ci := 12) (j := 0) (cd := 0) t0 rfl (isF (by decide +kernel)) rfl (by omega) (by omega) (Or.inl rfl) (hr_EO (tk_X1 (C := C)) t0 (by decide)) (by decide) dX12_undo_2 (fun H locs hW hS => ?_)
  refine lv_aload_n hx hb dX12_undo_5 rfl (lv_at hl 0 rfl) ?_
  refine hr_getI B hF hb hW (ci := 12) (j := 22) (cd := 0) t0 rfl (isF (by decide +kernel)) rfl dX12_undo_6 (fun z6 lz6 uz6 pz6 xz6 => ?_)
  have pz6 := congrArg Int32.toInt (pz6 15 rfl)
  have xz6 := tk_xo xz6 (fun _ h => h) (pq := ck_prot1) (C := C) t0 (by decide); have kz6 := congrArg Int32.toInt xz6
  refine hr_ne0 (tgt := 14) hx hb dX12_undo_9 (by decide) (fun h9 => ?_) (fun h9 => ?_)
  · refine lv_aload_n hx hb dX12_undo_14 rfl (lv_at hl 0 rfl) ?_
    refine lv_dup hx hb dX12_undo_15 rfl ?_
    refine hr_getI B hF hb hW (ci := 12) (j := 22) (cd := 0) t0 rfl (isF (by decide +kernel)) rfl dX12_undo_16 (fun z16 lz16 uz16 pz16 xz16 => ?_)
    have pz16 := congrArg Int32.toInt (pz16 15 rfl)
    have xz16 := tk_xo xz16 (fun _ h => h) (pq := ck_prot1) (C := C) t0 (by decide); have kz16 := congrArg Int32.toInt xz16
    refine hr_ic hx hb dX12_undo_19 (by decide) (fun z19 hz19 => ?_)
    refine hr_sub hx hb dX12_undo_20 (by omega) (by omega) (fun z20 hz20 => ?_)
    refine hr_putP B hF hb hU hW hS (ci := 12) (j := 22) (cd := 0) t0 rfl (isF (by decide +kernel)) rfl (by omega) (by omega) (Or.inl rfl) (tk_EO t0 (fun a h => hun 12 (by decide) _ _ t0 h) (by decide)) hI (q0 := 15) rfl dX12_undo_21 (fun H locs hW hS => ?_)
    obtain ⟨pvv21, e21⟩ : ∃ f, f = upd pvv0 15 z20 := ⟨_, rfl⟩
    rw [← e21] at hW
    have e21q : pvv21 15 = z20 := by rw [e21, pk_us]
    have e21qi := congrArg Int32.toInt e21q
    obtain ⟨C21, c21⟩ : ∃ f, f = tk_upd C 12 (22) z20 := ⟨_, rfl⟩
    rw [← c21] at hW
    refine hr_ic hx hb dX12_undo_24 (by decide) (fun z24 hz24 => ?_)
    refine lv_istore_n hx hb dX12_undo_25 rfl hl (lv' := [(1, .int z24), (0, .ref a0)]) (by decide) rfl (fun ls hl => ?_)
    have l26 : ∀ (n26 : Nat) (i : Int32) (pvv : Nat → Int32) (ls : Array Slot) (H : Heap) (locs : List Loc), 46 - i.toInt < n26 → (0 ≤ i.toInt) → (i.toInt ≤ 46) → (∀ j, j ≠ 16 → pvv j = pvv21 j) → (1 ≤ i.toInt → 0 ≤ (pvv 16).toInt ∧ (pvv 16).toInt ≤ 6 ∧ (pvv 16).toInt ≤ (pvv0 17).toInt) → lv_has ls 2 [(1, .int i), (0, .ref a0)] → ck_Wo D cys ty ck_tags ck_pvs0 (tk ty ck_prot1 C21) pvv H → va_S (ck_own ty) s.heap H locs → W p l e (ck_rm (ck_tab 349)) s m [Value.ref a0].toArray below meth c H locs 0 0 (MQ below (ck_Qc D cys ty ck_tags ck_pvs0 (GE ty) (ck_tab 349) [Value.ref a0] pvv0) [Value.ref a0].toArray s 0 0 (ck_own ty)) (F0 m 26 ls []) := by
      intro n26
      induction n26 with
      | zero => intro i pvv ls H locs hm26 i1 i2 hq hb1 hl hW hS; omega
      | succ n26 ih26 =>
        intro i pvv ls H locs hm26 i1 i2 hq hb1 hl hW hS
        refine lv_iload_n hx hb dX12_undo_26 rfl (lv_at hl 0 rfl) ?_
        refine hr_bp hx hb dX12_undo_27 (by decide) (by decide) (fun z27 hz27 => ?_)
        refine hr_ge (tgt := 62) hx hb dX12_undo_29 (by decide) (fun h29 => ?_) (fun h29 => ?_)
        · refine lv_aload_n hx hb dX12_undo_62 rfl (lv_at hl 1 rfl) ?_
          refine hr_getI B hF hb hW (ci := 12) (j := 22) (cd := 0) t0 rfl (isF (by decide +kernel)) rfl dX12_undo_63 (fun z63 lz63 uz63 pz63 xz63 => ?_)
          have pz63 := congrArg Int32.toInt (pz63 15 rfl)
          have xz63 := tk_xo xz63 (fun _ h => h) (pq := ck_prot1) (C := C21) t0 (by decide); have kz63 := congrArg Int32.toInt xz63
          have hb1 := hb1 (by omega)
          have s17 : (pvv 17).toInt = (pvv0 17).toInt := by rw [hq 17 (by decide), e21, pk_un (by decide)]
          have s15 : (pvv 15).toInt = z20.toInt := by rw [hq 15 (by decide), e21q]
          refine cm_iret B hb rfl ⟨_, List.mem_cons_of_mem _ List.mem_cons_self, hr_aI (ty := ty) (by omega) (by omega), (fun q h => nomatch h), ?_⟩ (ge_in hW ?_) hS dX12_undo_66
          · refine hr_mk (n := 32) [15, 16] hp0 (fun j h1 h2 => by rw [hq j (fun q => h2 (by rw [q]; decide)), e21, pk_un (fun q => h2 (by rw [q]; decide))]) (by decide +kernel) (fun j hj av hav => ?_)
            rcases List.mem_cons.mp hj with rfl | hj
            · have hav : some (.inl (0, 7, []) : ck_AV) = some av := hav
              cases hav
              exact hr_aI (by omega) (by omega)
            · obtain rfl := List.mem_singleton.mp hj
              have hav : some (.inl (0, 6, [(2034, -6, 0)]) : ck_AV) = some av := hav
              cases hav
              exact hr_vd (q := 17) (by omega) (by omega) (by omega) (by omega)
          · have hCC : ∀ t j, ¬ (t = 12 ∧ j = 22) → C21 t j = C t j := fun t j h2 => by rw [c21, tk_un h2]
            refine ⟨g5_of G5 (fun j => hCC 15 j (by simp)) (fun j => hCC 49 j (by simp)) (fun j => hCC 16 j (by simp)) (fun j => hCC 50 j (by simp)) (fun t j ht => hCC t j (fun q => g6_ne ht (n := 12) (by decide) q.1)) (fun j _ => hCC 34 j (by simp)), fun k hk => ?_, fun j hj => ?_, fun k hk hk2 => ?_, ?_⟩
            · rw [hCC 0 0 (by decide)] at hk
              rw [hCC 29 k (by simp), hCC 30 k (by simp), hCC 31 k (by simp)]
              exact G1 k hk
            · rw [show C21 12 22 = z20 by rw [c21, tk_us]] at hj
              rw [hCC 37 _ (by simp), hCC 34 _ (by simp)]
              exact G2 j (by omega)
            · rw [hCC 46 k (by simp)] at hk2
              rw [hCC 45 _ (by simp), hCC 45 _ (by simp)]
              refine ⟨(G3 k hk hk2).1, ?_⟩
              have e9 : (fun i => C21 45 (367 * k + 186 + i)) = (fun i => C 45 (367 * k + 186 + i)) := funext (fun i => hCC 45 _ (by simp))
              rw [e9]; exact (G3 k hk hk2).2
            · have e9 : (fun i => C21 34 (186 + i)) = (fun i => C 34 (186 + i)) := funext (fun i => hCC 34 _ (by simp))
              unfold g4C; rw [e9]; exact G4
        · refine lv_aload_n hx hb dX12_undo_32 rfl (lv_at hl 1 rfl) ?_
          refine hr_getR B hF hb hW (ci := 12) (j := 6) (cd := 3) t0 rfl (isF (by decide +kernel)) rfl dX12_undo_33 (fun az33 tz33 xz33 => ?_)
          refine hr_sp hx hb dX12_undo_36 (by decide) (by decide) (fun z36 hz36 => ?_)
          refine lv_iload_n hx hb dX12_undo_39 rfl (lv_at hl 0 rfl) ?_
          refine hr_add hx hb dX12_undo_40 (by omega) (by omega) (fun z40 hz40 => ?_)
          refine lv_aload_n hx hb dX12_undo_41 rfl (lv_at hl 1 rfl) ?_
          refine hr_getR B hF hb hW (ci := 12) (j := 20) (cd := 3) t0 rfl (isF (by decide +kernel)) rfl dX12_undo_42 (fun az42 tz42 xz42 => ?_)
          refine hr_bp hx hb dX12_undo_45 (by decide) (by decide) (fun z45 hz45 => ?_)
          refine lv_aload_n hx hb dX12_undo_47 rfl (lv_at hl 1 rfl) ?_
          refine hr_getI B hF hb hW (ci := 12) (j := 22) (cd := 0) t0 rfl (isF (by decide +kernel)) rfl dX12_undo_48 (fun z48 lz48 uz48 pz48 xz48 => ?_)
          have pz48 := congrArg Int32.toInt (pz48 15 rfl)
          have xz48 := tk_xo xz48 (fun _ h => h) (pq := ck_prot1) (C := C21) t0 (by decide); have kz48 := congrArg Int32.toInt xz48
          have e48 : z48.toInt = z20.toInt := by rw [kz48, c21, tk_us]
          refine hr_mulL hx hb dX12_undo_51 hz45 (by omega) (by omega) (fun z51 hz51 => ?_)
          refine lv_iload_n hx hb dX12_undo_52 rfl (lv_at hl 0 rfl) ?_
          refine hr_add hx hb dX12_undo_53 (by omega) (by omega) (fun z53 hz53 => ?_)
          refine hr_iald B hb hW tz42 rfl (by omega) (by omega) dX12_undo_54 (fun z54 iz54 pz54 xz54 => ?_)
          have e1 := sg_US z20.toInt.toNat (by omega) i.toInt.toNat (by omega)
          rw [show 46 * z20.toInt.toNat + i.toInt.toNat = z53.toInt.toNat by omega, show 140 + i.toInt.toNat = z40.toInt.toNat by omega] at e1
          refine hr_iastG B hb hU hW hS tz33 rfl (by omega) (by omega) (by unfold ck_in; rw [← e1]; exact iz54) (hr_EA (i := z40) tk_X1 tz33 (u := 140) (v := 185) (by omega) (by omega) (by decide)) dX12_undo_55 (fun H locs pvv' hW hS w1 w2 => ?_)
          refine hr_inc hx hb dX12_undo_56 hl (kq := 0) (lv' := fun v => [(1, .int v), (0, .ref a0)]) rfl (by decide) (by decide) (by omega) (by omega) (fun _ => rfl) (fun z56 ls hz56 hl => ?_)
          refine lv_goto (tgt := 26) hx hb dX12_undo_59 (by decide) ?_
          refine ih26 z56 pvv' _ _ _ (by omega) (by omega) (by omega) (fun j hj => ?_) (fun _ => ?_) hl hW hS
          · refine (w2 j (fun h9 => ?_)).trans (hq j hj)
            rcases pv_o2 (a := 16) (b := 140) (a' := 17) (b' := 3) (by decide +kernel) h9 with h | h <;> omega
          · by_cases h0 : i.toInt = 0
            · rw [w1 16 (by rw [show z40.toInt.toNat = 140 by omega]; rfl)]
              have x9 := tk_xa xz54 (fun _ h => h) (pq := ck_prot1) (C := C21) tz42 ⟨(46 * z20.toInt.toNat, 46 * z20.toInt.toNat), by (have : z20.toInt.toNat = 0 ∨ z20.toInt.toNat = 1 ∨ z20.toInt.toNat = 2 ∨ z20.toInt.toNat = 3 ∨ z20.toInt.toNat = 4 ∨ z20.toInt.toNat = 5 ∨ z20.toInt.toNat = 6 ∨ z20.toInt.toNat = 7 := by omega); rcases this with h | h | h | h | h | h | h | h <;> rw [h] <;> decide, by dsimp only; omega, by dsimp only; omega⟩
              have i9 := hr_inr (a := z53.toInt.toNat) (b := z53.toInt.toNat) iz54 (Nat.le_refl _) (Nat.le_refl _) (lo := 0) (hi := 6) (by rw [show z53.toInt.toNat = 46 * z20.toInt.toNat by omega]; (have : z20.toInt.toNat = 0 ∨ z20.toInt.toNat = 1 ∨ z20.toInt.toNat = 2 ∨ z20.toInt.toNat = 3 ∨ z20.toInt.toNat = 4 ∨ z20.toInt.toNat = 5 ∨ z20.toInt.toNat = 6 ∨ z20.toInt.toNat = 7 := by omega); rcases this with h | h | h | h | h | h | h | h <;> rw [h] <;> decide)
              rw [show z53.toInt.toNat = 46 * z20.toInt.toNat by omega, c21, tk_unt (by decide)] at x9
              have x8 := congrArg Int32.toInt x9
              have x7 := G2 z20.toInt.toNat (by omega)
              omega
            · have e9 := w2 16 (fun h9 => by rcases pv_o2 (a := 16) (b := 140) (a' := 17) (b' := 3) (by decide +kernel) h9 with h | h <;> omega)
              rw [e9]; exact hb1 (by omega)
    exact l26 47 z24 pvv21 _ _ _ (by omega) (by omega) (by omega) (fun _ _ => rfl) (fun h => absurd h (by omega)) hl hW hS
  · refine hr_ic hx hb dX12_undo_12 (by decide) (fun z12 hz12 => ?_)
    exact cm_iret B hb rfl ⟨_, List.mem_cons_self, hr_aI (ty := ty) (by omega) (by omega), (fun q h => nomatch h), hr_wk (hr_self hp0) (by decide +kernel)⟩ (ge_in hW hG0) hS dX12_undo_13
end H27

/-! THE TWO READERS ALIKE, 11: a scene. -/
def z_pc (b : Nat) : Nat := b % 2 + b / 2 % 2 + b / 4 % 2 + b / 8 % 2 + b / 16 % 2 + b / 32 % 2
theorem z_pc1 : ∀ b : Nat, b < 64 → ∀ p : Nat, p < 6 → ev_and (ev_shr (b : Int) (p : Int)) 1 = 0 → 0 ≤ ev_or (b : Int) (ev_shl 1 (p : Int)) ∧ ev_or (b : Int) (ev_shl 1 (p : Int)) < 64 ∧ z_pc (ev_or (b : Int) (ev_shl 1 (p : Int))).toNat = z_pc b + 1 := by decide +kernel
theorem z_pc0 : ∀ b : Nat, b < 64 → (z_pc b = 0 ↔ b = 0) := by decide +kernel
theorem z_pc6 {b : Nat} : z_pc b ≤ 6 := by unfold z_pc; omega
/-- kept out of sight -/
def z_h (p : Prop) : Prop := p
theorem z_h.e {p : Prop} (h : z_h p) : p := h
/-- a scene begun -/
theorem z_P.sc {C1 C2 : ev_C} {s : Nat} {a : Int} (hP : z_P C1 C2) (hs : C1 13 4 = s) (hs2 : s < 12) : z_P (ev_u (ev_u C1 64 s a) 13 4 ((s : Int) + 1)) (ev_u (ev_u (ev_u C2 35 (104 + s) a) 35 (116 + s) 0) 35 4 ((s : Int) + 1)) := by
  obtain ⟨⟨c0, c1, c2, c3, c4, c5⟩, ⟨n0, n1, n2⟩, ⟨r57, r58, r61, r62, r63⟩, s64, s65, s66, s0⟩ := hP
  have e : ∀ i : Nat, i ≠ 4 → i ≠ 104 + s → i ≠ 116 + s → ev_u (ev_u (ev_u C2 35 (104 + s) a) 35 (116 + s) 0) 35 4 ((s : Int) + 1) 35 i = C2 35 i := fun i h1 h2 h3 => (ev_un (fun q => h1 q.2)).trans ((ev_un (fun q => h3 q.2)).trans (ev_un (fun q => h2 q.2)))
  refine ⟨⟨by rw [e 0 (by omega) (by omega) (by omega)]; exact c0, by rw [e 1 (by omega) (by omega) (by omega)]; exact c1, by rw [e 2 (by omega) (by omega) (by omega)]; exact c2, by rw [e 3 (by omega) (by omega) (by omega)]; exact c3, ⟨rfl, by show 0 ≤ (s : Int) + 1; omega, by show (s : Int) + 1 ≤ 12; omega⟩, by rw [e 5 (by omega) (by omega) (by omega)]; exact c5⟩, ⟨n0, n1, n2⟩, ⟨fun k hk => by rw [e (12 + k) (by omega) (by omega) (by omega)]; exact r57 k hk, fun k hk => by rw [e (34 + k) (by omega) (by omega) (by omega)]; exact r58 k hk, fun k hk => by rw [e (88 + k) (by omega) (by omega) (by omega)]; exact r61 k hk, fun k hk => by rw [e (96 + k) (by omega) (by omega) (by omega)]; exact r62 k hk, fun k hk => by rw [e (40 + k) (by omega) (by omega) (by omega)]; exact r63 k hk⟩, fun k hk => ?_, fun k hk => ?_, fun k hk => by rw [e (128 + k) (by omega) (by omega) (by omega)]; exact s66 k hk, fun k hk hk2 => ?_⟩
  · have hk : (k : Int) < (s : Int) + 1 := hk
    show ev_u C1 64 s a 64 k = _
    by_cases q : k = s
    · subst q
      rw [ev_us, ev_un (fun z => by have := z.2; omega), ev_un (fun z => by have := z.2; omega), ev_us]
    · rw [ev_un (fun z => q z.2), e (104 + k) (by omega) (by omega) (by omega)]
      exact s64 k (by omega)
  · show C1 65 k = _
    by_cases q : k = s
    · subst q
      rw [ev_un (fun z => by have := z.2; omega), ev_us]
      exact s0 k (by omega) hk
    · rw [e (116 + k) (by omega) (by omega) (by omega)]
      exact s65 k hk
  · have hk : (s : Int) + 1 ≤ k := hk
    exact s0 k (by omega) hk2
theorem z_sign {C1 C2 : ev_C} {c : Int} (h : z_A C1 C2) (hc : c ≠ 46) : ∃ v : Int, (v = 0 ∨ v = 1) ∧ f_8_isAtSign C1 c = some (v, C1) ∧ f_12_isSign C2 c = some (v, C2) ∧ (v = 1 → C1 8 4 = 3) := by
  obtain ⟨⟨hE, -⟩, hK, -⟩ := h
  unfold f_8_isAtSign f_12_isSign
  have no : C1 8 4 ≠ 3 ∨ C1 8 6 ≠ c → C2 12 11 ≠ 3 → ∃ v : Int, (v = 0 ∨ v = 1) ∧ (if C1 8 4 ≠ 3 then some ((0 : Int), C1) else if C1 8 6 ≠ c then some (0, C1) else some (1, C1)) = some (v, C1) ∧ (if C2 12 11 ≠ 3 then some ((0 : Int), C2) else if C2 12 14 ≠ c then some (0, C2) else some (1, C2)) = some (v, C2) ∧ (v = 1 → C1 8 4 = 3) := by
    intro a b
    refine ⟨0, Or.inl rfl, ?_, by rw [if_pos b], fun q => by cases q⟩
    by_cases a1 : C1 8 4 ≠ 3
    · rw [if_pos a1]
    · rw [if_neg a1, if_pos (a.resolve_left a1)]
  rcases hK with ⟨k1, k2⟩ | ⟨k1, k2, -⟩ | ⟨k1, k2, -⟩ | ⟨k1, k2, k3⟩ | ⟨k2, k1⟩
  · exact no (by omega) (by omega)
  · exact no (by omega) (by omega)
  · exact no (by omega) (by omega)
  · by_cases q : C1 8 6 ≠ c
    · exact ⟨0, Or.inl rfl, by rw [if_neg (fun q => q k1), if_pos q], by rw [if_neg (fun q => q k2), ← k3, if_pos q], fun q => by cases q⟩
    · exact ⟨1, Or.inr rfl, by rw [if_neg (fun q => q k1), if_neg q], by rw [if_neg (fun q => q k2), ← k3, if_neg q], fun _ => k1⟩
  · exact no (by rcases k1 with k1 | ⟨k1, k3⟩ <;> omega) (by omega)
theorem z_nhS {C1 C2 : ev_C} {v : Int} (h : z_A C1 C2) (hP : z_P C1 (ev_u C2 35 4 v)) : (∃ i : Nat, (i : Int) < C1 13 0 ∧ f_8_nameHere_53 C1 (C1 13 0) = some ((i : Int), C1) ∧ f_12_looksAt C2 20 (C1 13 0) = some (1, ev_u C2 12 18 i)) ∨ (∃ C1' C2', f_8_nameHere_53 C1 (C1 13 0) = some (-1, C1') ∧ f_12_looksAt C2 20 (C1 13 0) = some (0, C2') ∧ z_X C1' C2') := by
  have hc := hP.1.1
  have ff : z_N (C1 8 8) (C2 12 17) → ∃ i : Int, f_8_indexOf_53 C1 (C1 13 0) (C1 8 8) = some (i, C1) ∧ f_12_find C2 20 (C1 13 0) = some (i, C2) ∧ ((∃ k : Nat, i = k ∧ (k : Int) < C1 13 0) ∨ i = -1) := by
    intro hN
    obtain ⟨i, a1, a2⟩ := z_idx53 C1 (c := C1 13 0) (a := C1 8 8) (by omega)
    obtain ⟨i', b1, b2⟩ := z_find C2 (f := 20) (c := C1 13 0) (by decide) (by omega) (by omega)
    have e : i = i' := z_fst_eq a2 b2 (fun k hk => by
      have e1 : ((20 : Int) + k).toNat = 20 + k := by omega
      rw [e1]
      exact z_N_eq (hP.2.1.1 k hk) hN)
    subst e
    refine ⟨i, a1, b1, ?_⟩
    rcases a2 with ⟨k, e1, e2, -⟩ | ⟨e1, -⟩
    · exact Or.inl ⟨k, e1, e2⟩
    · exact Or.inr e1
  unfold f_8_nameHere_53 f_12_looksAt
  rcases z_name h with ⟨a1, a2, a3⟩ | ⟨a1, a2⟩
  · rw [a1, a2, ev_bdS, ev_bdS, if_pos (by decide), if_pos (by decide)]
    obtain ⟨i, b1, b2, b3⟩ := ff a3
    rw [b1, b2, ev_bdS, ev_bdS]
    rcases b3 with ⟨k, rfl, hk⟩ | rfl
    · rw [if_pos (show (k : Int) ≠ -1 by omega), if_pos (show (0 : Int) ≤ k by omega)]
      exact Or.inl ⟨k, hk, rfl, rfl⟩
    · obtain ⟨C1', C2', g1, g2, g3⟩ := z_fail (k := 3) (h.u18 (v := -1)) (by decide)
      rw [if_neg (by decide), if_neg (by decide), g1, g2, ev_bvS, ev_bdS, if_pos rfl]
      exact Or.inr ⟨C1', C2', rfl, rfl, g3⟩
  · obtain ⟨C1', C2', g1, g2, g3⟩ := z_fail (k := 1) h (by decide)
    rw [a1, a2, ev_bdS, ev_bdS, if_neg (by decide), if_neg (by decide), g1, g2, ev_bvS, ev_bdS, if_pos (by decide)]
    exact Or.inr ⟨C1', C2', rfl, rfl, g3⟩
/-- the class's loop behind a fault -/
theorem z_scF {N : Nat} {C : ev_C} {s k : Int} (h9 : C 8 9 ≠ 0) : f_7_readScene_8_L74 (N + 1) C s k = some C := by
  rw [f_7_readScene_8_L74]
  by_cases h : 6 < k
  · rw [if_pos h]
  · rw [if_neg h]
    unfold f_8_isFine
    rw [if_pos h9, ev_bdS, if_pos rfl]
theorem z_scL {C0 D0 : ev_C} {s : Nat} (hs12 : s < 12) : ∀ (m N1 N2 : Nat) (C1 C2 : ev_C) (k b : Nat), 7 - k ≤ m → m < N1 → m < N2 → z_A C1 C2 → z_P C1 (ev_u C2 35 4 ((s : Int) + 1)) → C2 35 4 = s → C1 65 s = b → b < 64 → z_pc b = k → z_M C0 C1 → C2 12 19 = D0 12 19 →
    ∃ C1' C2' r, f_7_readScene_8_L74 N1 C1 s k = some C1' ∧ f_12_readScene_L65 N2 C2 s = some (r, C2') ∧ z_O C0 D0 C1' C2' r := by
  intro m
  induction m with
  | zero =>
    intro N1 N2 C1 C2 k b hm h1 h2 h hP h4 hb hb2 hk hM h19
    have := z_pc6 (b := b)
    omega
  | succ m ih =>
    intro N1 N2 C1 C2 k b hm h1 h2 h hP h4 hb hb2 hk hM h19
    obtain ⟨N1, rfl⟩ : ∃ n, N1 = n + 1 := ⟨N1 - 1, by omega⟩
    obtain ⟨N2, rfl⟩ : ∃ n, N2 = n + 1 := ⟨N2 - 1, by omega⟩
    have hk6 := z_pc6 (b := b)
    obtain ⟨K, hK⟩ := z_keep (f_7_readScene_8_L74 (N1 + 1) C1 s k)
    obtain ⟨T, hT⟩ := z_keep (f_12_readScene_L65 (N2 + 1) C2 s)
    rw [hK, hT]
    rw [f_7_readScene_8_L74] at hK
    rw [f_12_readScene_L65] at hT
    have h9 : C1 8 9 = 0 := h.1.2.1
    have hfine : f_8_isFine C1 = some (1, C1) := by
      unfold f_8_isFine
      rw [if_neg (fun q => q h9)]
    have w0 : z_h (ev_w ((116 : Int) + s) = 116 + s) := ev_w_id (by omega) (by omega)
    have e0 : ((116 : Int) + s).toNat = 116 + s := by omega
    have g0 : 0 ≤ 116 + (s : Int) ∧ 116 + (s : Int) < 140 := by omega
    have gs : 0 ≤ (s : Int) ∧ (s : Int) < 12 := by omega
    have hrow : C2 35 (116 + s) = b := by
      have := hP.2.2.2.2.1 s hs12
      rw [hb] at this
      rw [this]
      exact (ev_un (fun z => by have := z.2; omega)).symm
    rw [if_neg (show ¬ (6 : Int) < k by omega), hfine, ev_bdS, if_neg (by decide)] at hK
    rw [w0.e, if_pos g0, e0, hrow] at hT
    -- one more part
    have more : ∀ K' T', f_7_readScene_8_J101 (f_7_readScene_8_L74 N1) C1 s k = K' → f_12_readScene_J86 (f_12_readScene_L65 N2) C2 s = T' → ∃ C1' C2' r, K' = some C1' ∧ T' = some (r, C2') ∧ z_O C0 D0 C1' C2' r := by
      intro K' T' hK' hT'
      unfold f_7_readScene_8_J101 f_7_readScene_8_J151 at hK'
      unfold f_12_readScene_J86 at hT'
      obtain ⟨N1, rfl⟩ : ∃ n, N1 = n + 1 := ⟨N1 - 1, by omega⟩
      have k1 : z_h (ev_w ((k : Int) + 1) = ((k + 1 : Nat) : Int)) := by show ev_w ((k : Int) + 1) = ((k + 1 : Nat) : Int); rw [ev_w_id (by omega) (by omega)]; omega
      have hc : C1 13 0 = C2 35 0 := hP.1.1.1
      rw [w0.e, ← hc] at hT'
      rcases z_nhS h hP with ⟨p, hp, d1, d2⟩ | ⟨D1, D2, d1, d2, d3⟩
      · have hp6 : p < 6 := by have := hP.1.1.2.2; omega
        rw [d1, ev_bdS, if_neg (show ¬ (p : Int) = -1 by omega), if_pos gs, Int.toNat_natCast, hb] at hK'
        rw [d2, ev_bdS, if_neg (by decide)] at hT'
        have hAd : z_A C1 (ev_u C2 12 18 p) := h
        rcases z_once (to := 116 + s) (b := (b : Int)) (k := p) hAd g0.1 g0.2 (by rw [e0]; exact hrow) ev_us with ⟨c, G1, G2, g1, g2, g3, g4, g5, g6⟩ | ⟨c, G1, G2, g1, g2, g3, g4⟩
        · rw [g1, ev_bdS, if_pos gs, k1.e] at hK'
          rw [g2, ev_bdS, if_pos (by decide)] at hT'
          obtain ⟨q1, q2, q3⟩ := z_pc1 b hb2 p hp6 c
          rw [e0] at g5
          obtain ⟨b', hb'⟩ : ∃ b' : Nat, ev_or (b : Int) (ev_shl 1 (p : Int)) = b' := ⟨(ev_or (b : Int) (ev_shl 1 (p : Int))).toNat, by omega⟩
          rw [hb'] at q1 q2 q3 g5 hK'
          rw [Int.toNat_natCast] at q3
          have hx : z_P (ev_u C1 65 s b') (ev_u (ev_u C2 35 4 ((s : Int) + 1)) 35 (116 + s) b') := hP.b65 hs12 (by rw [hP.1.2.2.2.2.1.1, ev_us]; omega)
          have hG4 : G2 35 4 = s := by
            rw [g5.1 35 (by decide)]
            show ev_u (ev_u C2 12 18 p) 35 (116 + s) b' 35 4 = s
            rw [ev_un (fun z => by have := z.2; omega)]
            exact h4
          have hy : z_P (ev_u G1 65 s b') (ev_u G2 35 4 ((s : Int) + 1)) := by
            refine (hx.mv (g4.o (by decide)) z_F2.rf).al rfl rfl rfl rfl rfl rfl rfl rfl rfl rfl rfl rfl ?_ ?_
            · funext j
              show (if 35 = 35 ∧ j = 4 then _ else G2 35 j) = _
              by_cases e : j = 4
              · subst e
                rw [if_pos ⟨rfl, rfl⟩, ev_un (fun z => by have := z.2; omega), ev_us]
              · rw [if_neg (fun z => e z.2), g5.1 35 (by decide)]
                show (if 35 = 35 ∧ j = 116 + s then _ else C2 35 j) = (if 35 = 35 ∧ j = 116 + s then _ else if 35 = 35 ∧ j = 4 then _ else C2 35 j)
                rw [if_neg (show ¬ (35 = 35 ∧ j = 4) from fun z => e z.2)]
            · show G2 19 = C2 19
              rw [g5.1 19 (by decide)]
              rfl
          have hz : ev_u G1 65 s b' 65 s = b' := ev_us
          obtain ⟨C1', C2', r, x1, x2, x3⟩ := ih (N1 + 1) N2 (ev_u G1 65 s b') G2 (k + 1) b' (by omega) (by omega) (by omega) g3 hy hG4 hz (by omega) (by omega) (z_M.tr hM.1 g6) ((have m := z_F2_19 g5; m).trans h19)
          exact ⟨C1', C2', r, by rw [← hK']; exact x1, by rw [← hT']; exact x2, x3⟩
        · have h9' : ev_u G1 65 s (b : Int) 8 9 ≠ 0 := g3.2.1
          rw [g1, ev_bdS, if_pos gs, z_scF h9'] at hK'
          rw [g2, ev_bdS, if_neg (by decide)] at hT'
          exact ⟨_, _, _, hK'.symm, hT'.symm, Or.inr ⟨rfl, g3⟩⟩
      · rw [d1, ev_bdS, if_pos rfl, z_scF d3.2.1] at hK'
        rw [d2, ev_bdS, if_pos rfl] at hT'
        exact ⟨_, _, _, hK'.symm, hT'.symm, Or.inr ⟨rfl, d3⟩⟩
    have hz := z_pc0 b hb2
    by_cases hb0 : b = 0
    · rw [if_pos (show (k : Int) ≤ 0 by have := hz.mpr hb0; omega)] at hK
      rw [if_pos (show (b : Int) = 0 by omega)] at hT
      exact more K T hK hT
    · have hk0 : k ≠ 0 := fun e => hb0 (hz.mp (by omega))
      obtain ⟨v, v0, v1, v2, v3⟩ := z_sign (c := 59) h (by decide)
      rw [if_neg (show ¬ (k : Int) ≤ 0 by omega), v1, ev_bdS] at hK
      rw [if_neg (show ¬ (b : Int) = 0 by omega), v2, ev_bdS] at hT
      rcases v0 with v0 | v0
      · rw [if_pos v0] at hK
        rw [if_neg (fun q => q v0)] at hT
        exact more K T hK hT
      · have w4 : z_h (ev_w (C2 35 4 + 1) = (s : Int) + 1) := by show ev_w (C2 35 4 + 1) = (s : Int) + 1; rw [h4]; exact ev_w_id (by omega) (by omega)
        rw [if_neg (by omega)] at hK
        rw [if_pos (by omega), w4.e] at hT
        exact ⟨_, _, _, hK.symm, hT.symm, Or.inl ⟨rfl, h, hP, hM, h19⟩⟩

theorem z_lScene {C1 C2 : ev_C} (h : z_A C1 C2) (hP : z_P C1 C2) (hj : z_wi C1 = 5) : ∃ C1' C2' r, f_7_readScene_8 C1 = some C1' ∧ f_12_line C2 = some (r, C2') ∧ z_O C1 C2 C1' C2' r := by
  obtain ⟨K, hK⟩ := z_keep (f_7_readScene_8 C1)
  obtain ⟨T, hT⟩ := z_keep (f_12_line C2)
  rw [hK, hT]
  unfold f_7_readScene_8 at hK
  unfold f_12_line at hT
  rw [z_wno h hj 0 1885434484 (by decide) rfl (by decide), ev_bdS, if_pos rfl, z_wno h hj 1 1717658484 (by decide) rfl (by decide), ev_bdS, if_pos rfl, z_wno h hj 3 7168366 (by decide) rfl (by decide), ev_bdS, if_pos rfl, z_wno h hj 4 6382452 (by decide) rfl (by decide), ev_bdS, if_pos rfl, z_wno h hj 11 1919251316 (by decide) rfl (by decide), ev_bdS, if_pos rfl, z_wyes h hj 5 495588830821 (by decide) rfl rfl, ev_bdS, if_neg (by decide)] at hT
  unfold f_7_takeOneOf_8 at hK
  unfold f_12_readScene at hT
  have c4 := hP.1.2.2.2.2.1
  have c3 := hP.1.2.2.2.1
  by_cases ha : C1 13 3 ≠ 0
  · rw [if_pos ha] at hK
    rw [if_pos (show C2 35 3 ≠ 0 by omega)] at hT
    by_cases hlt : C1 13 4 < 12
    · obtain ⟨A1, A2, a1, a2, a3, a4, a5, a6⟩ := z_stp h.1
      have p0 : A1 13 = C1 13 := a4.1 13 (by decide)
      have p35 : A2 35 = C2 35 := a5.1 35 (by decide)
      have hPa := hP.mv a4 a5
      obtain ⟨s, hs⟩ : ∃ s : Nat, C1 13 4 = s := ⟨(C1 13 4).toNat, by omega⟩
      have hs2 : C2 35 4 = s := by omega
      have hs12 : s < 12 := by omega
      have hact : C2 35 3 = C1 13 3 := c3.1.symm
      have hw : z_h (ev_w (C1 13 3 - 1) = C1 13 3 - 1 ∧ ev_w ((s : Int) + 1) = (s : Int) + 1 ∧ ev_w ((104 : Int) + s) = 104 + s ∧ ev_w ((116 : Int) + s) = 116 + s) := ⟨ev_w_id (by omega) (by omega), ev_w_id (by omega) (by omega), ev_w_id (by omega) (by omega), ev_w_id (by omega) (by omega)⟩
      have gs : 0 ≤ (s : Int) ∧ (s : Int) < 12 := by omega
      have g4 : 0 ≤ 104 + (s : Int) ∧ 104 + (s : Int) < 140 := by omega
      have g6 : 0 ≤ 116 + (s : Int) ∧ 116 + (s : Int) < 140 := by omega
      have e4 : ((104 : Int) + s).toNat = 104 + s := by omega
      have e6 : ((116 : Int) + s).toNat = 116 + s := by omega
      rw [if_pos hlt, a1, ev_bvS, ev_bdS, if_pos (by decide), p0, hs, if_pos gs, hw.e.1, hw.e.2.1, Int.toNat_natCast] at hK
      rw [if_pos (show C2 35 4 ≠ 12 by omega), a2, ev_bvS, p35, hs2, hact, hw.e.1, hw.e.2.2.1, hw.e.2.2.2, if_pos g4, if_pos g6, e4, e6] at hT
      have hPs := hPa.sc (s := s) (a := C1 13 3 - 1) (by rw [p0]; exact hs) hs12
      have h65 : A1 65 s = 0 := hPa.2.2.2.2.2.2 s (by rw [p0, hs]; exact Int.le_refl _) hs12
      obtain ⟨C1', C2', r, x1, x2, x3⟩ := z_scL (C0 := C1) (D0 := C2) hs12 7 1000 1000 (ev_u (ev_u A1 64 s (C1 13 3 - 1)) 13 4 ((s : Int) + 1)) (ev_u (ev_u A2 35 (104 + s) (C1 13 3 - 1)) 35 (116 + s) 0) 0 0 (by decide) (by decide) (by decide) a3 hPs (by
        rw [ev_un (fun z => by have := z.2; omega), ev_un (fun z => by have := z.2; omega), p35]; exact hs2) h65 (by decide) (by decide) a6 (have m := z_F2_19 a5; m)
      have hK : f_7_readScene_8_L74 1000 (ev_u (ev_u A1 64 s (C1 13 3 - 1)) 13 4 ((s : Int) + 1)) s ((0 : Nat) : Int) = K := hK
      rw [x1] at hK
      rw [x2, ev_bdS] at hT
      have hr : 0 ≤ r ∧ r ≤ 1 := by rcases x3 with ⟨q, -⟩ | ⟨q, -⟩ <;> omega
      rw [if_pos hr] at hT
      exact ⟨_, _, _, hK.symm, hT.symm, x3⟩
    · obtain ⟨F1, F2, f1, f2, f3⟩ := z_fail (k := 4) h (by decide)
      rw [if_neg hlt, f1, ev_bvS, ev_bdS, if_neg (by decide)] at hK
      rw [if_neg (show ¬ C2 35 4 ≠ 12 by omega), f2, ev_bdS, if_pos (by decide), ev_bdS, if_pos (by decide)] at hT
      exact ⟨_, _, _, hK.symm, hT.symm, Or.inr ⟨rfl, f3⟩⟩
  · obtain ⟨F1, F2, f1, f2, f3⟩ := z_fail (k := 1) h (by decide)
    rw [if_neg ha, f1, ev_bvS] at hK
    rw [if_neg (show ¬ C2 35 3 ≠ 0 by omega), f2, ev_bdS, if_pos (by decide), ev_bdS, if_pos (by decide)] at hT
    exact ⟨_, _, _, hK.symm, hT.symm, Or.inr ⟨rfl, f3⟩⟩

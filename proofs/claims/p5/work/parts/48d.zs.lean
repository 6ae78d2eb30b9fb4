/-! THE TWO READERS ALIKE, 4: runs side by side. -/
/-- how far both are in a run: letters, digits, which kind it began as, whether all are of it -/
def z_R (C1 C2 : ev_C) (a d sm al : Int) : Prop :=
  (C1 8 3 = C2 12 4 ∧ 0 ≤ C1 8 3 ∧ C1 8 3 ≤ C1 10 1) ∧ (0 ≤ a ∧ 0 ≤ d ∧ a + d ≤ C1 8 3 ∧ C2 12 13 = a + d) ∧
  (d = 0 → a ≤ 7 → ∃ L : List Int, z_ls L ∧ (L.length : Int) = a ∧ C1 8 8 = z_n32 L ∧ C2 12 17 = z_n256 L) ∧
  (a = 0 → d ≤ 2 → C1 8 6 = C2 12 14 ∧ 0 ≤ C1 8 6 ∧ C1 8 6 ≤ 99 ∧ (d ≤ 1 → C1 8 6 ≤ 9) ∧ (d = 0 → C1 8 6 = 0)) ∧
  (sm = 0 ∨ sm = 1) ∧ ((al = 1 ∧ (sm = 1 ∧ d = 0 ∨ sm = 0 ∧ a = 0)) ∨ (al = 0 ∧ ¬ (sm = 1 ∧ d = 0 ∨ sm = 0 ∧ a = 0)))
/-- what a token is to both -/
def z_K (C1 C2 : ev_C) : Prop := (C1 8 4 = 0 ∧ C2 12 11 = 0) ∨ (C1 8 4 = 1 ∧ C2 12 11 = 1 ∧ z_N (C1 8 8) (C2 12 17) ∧ z_I (C1 8 8) (C1 8 7)) ∨ (C1 8 4 = 2 ∧ C2 12 11 = 2 ∧ C1 8 6 = C2 12 14 ∧ 0 ≤ C1 8 6 ∧ C1 8 6 ≤ 99) ∨ (C1 8 4 = 3 ∧ C2 12 11 = 3 ∧ C1 8 6 = C2 12 14) ∨ (C2 12 11 = 4 ∧ (C1 8 4 = 4 ∨ C1 8 4 = 3 ∧ C1 8 6 = 46))
theorem z_fst_I {C : ev_C} {a i : Int} (hv : ∀ j : Nat, j < 27 → C 16 j = z_V.getD j 0) (h : z_fst (fun k => C 16 k = a) 27 i) : z_I a i := by
  rcases h with ⟨k, rfl, a1, a2, a3⟩ | ⟨rfl, h⟩
  · exact Or.inl ⟨k, by omega, rfl, by rw [← a2]; exact hv k (by omega)⟩
  · exact Or.inr ⟨rfl, fun j hj e => h j (by omega) (by rw [e]; exact hv j hj)⟩
theorem z_bytes {C1 C2 : ev_C} (hE : z_E C1 C2) (hp : C1 8 3 = C2 12 4) (h0 : 0 ≤ C1 8 3) (h1 : C1 8 3 < C1 10 1) : ∃ b : Int, 0 ≤ b ∧ b ≤ 255 ∧ f_10_byteAt C1 (C1 8 3) = some (b, C1) ∧ z_at C2 b := by
  obtain ⟨a1, a2, a3, -⟩ := id hE
  refine ⟨C1 15 (C1 8 3).toNat % 256, by omega, by omega, z_byte hE.b1 h0 (by omega), fun C' e1 e2 e3 => ?_⟩
  have hb := hE.b2
  rw [← e1] at hb
  rw [z_peek hb (by omega) (by omega), if_neg (by omega), e1, e2, ← hp, ← (a1 (C1 8 3).toNat (by omega)).1]
theorem z_end {C1 C2 : ev_C} (hE : z_E C1 C2) (hp : C1 8 3 = C2 12 4) (h0 : 0 ≤ C1 8 3) (h1 : C1 10 1 ≤ C1 8 3) : z_at C2 (-1) := by
  obtain ⟨a1, a2, a3, -⟩ := id hE
  intro C' e1 e2 e3
  have hb := hE.b2
  rw [← e1] at hb
  rw [z_peek hb (by omega) (by omega), if_pos (by omega)]
theorem z_J142 {C : ev_C} {a d : Int} : f_8_readRun_J142 C a d = some (ev_u C 8 4 (if a = 0 ∧ d ≤ 2 then 2 else 4)) := by
  unfold f_8_readRun_J142
  by_cases h1 : a ≠ 0
  · rw [if_pos h1, if_neg (by omega)]
  · rw [if_neg h1]
    by_cases h2 : 2 < d
    · rw [if_pos h2, if_neg (by omega)]
    · rw [if_neg h2, if_pos (by omega)]
theorem z_runX {N1 N2 : Nat} {C1 C2 : ev_C} {a d sm al y1 : Int} (hE : z_E C1 C2) (hR : z_R C1 C2 a d sm al) (hn : (sm = 1 → 1 ≤ a) ∧ (sm = 0 → 1 ≤ d)) {b : Int} (hat : z_at C2 b) (hb : ¬ ((97 ≤ b ∧ b ≤ 122) ∨ (48 ≤ b ∧ b ≤ 57))) (hx : C1 10 1 ≤ C1 8 3 ∨ f_10_byteAt C1 (C1 8 3) = some (b, C1)) :
    ∃ C1' C2', f_8_readRun_L14 (N1 + 1) C1 a d = some C1' ∧ f_12_go_L181 (N2 + 1) C2 y1 sm al = some C2' ∧ z_K C1' C2' ∧ (C1' 8 3 = C2' 12 4 ∧ C1 8 3 ≤ C1' 8 3 ∧ C1' 8 3 ≤ C1 10 1) ∧ z_F1 C1 C1' ∧ z_F2 C2 C2' ∧ C1' 8 5 = C1 8 5 ∧ C2' 12 12 = C2 12 12 := by
  obtain ⟨⟨p1, p2, p3⟩, ⟨q1, q2, q3, q4⟩, r1, r2, r3, r4⟩ := hR
  rw [z_rrX (b := b) (hx.imp id (fun h => ⟨h, hb⟩)), z_goX hat hb]
  unfold f_8_readRun_J104
  by_cases hd : d = 0
  · rw [if_neg (fun q => q hd)]
    have ha : 1 ≤ a := by
      rcases r3 with r3 | r3
      · have := hn.2 r3; omega
      · exact hn.1 r3
    by_cases h7 : 7 < a
    · rw [if_pos h7, z_J142, if_neg (show ¬ (a = 0 ∧ d ≤ 2) by omega)]
      refine ⟨_, _, rfl, rfl, Or.inr (Or.inr (Or.inr (Or.inr ⟨?_, Or.inl rfl⟩))), ⟨p1, Int.le_refl _, p3⟩, z_F1.rf.u (by decide), z_F2.rf.u (by decide), rfl, rfl⟩
      show (if al = 0 then (4 : Int) else if sm = 0 then (if C2 12 13 ≤ 2 then 2 else 4) else (if C2 12 13 ≤ 7 then 1 else 4)) = 4
      rcases r4 with ⟨e1, e2⟩ | ⟨e1, e2⟩
      · have e3 : sm = 1 := by omega
        rw [if_neg (by omega), if_neg (by omega), if_neg (by omega)]
      · rw [if_pos e1]
    · rw [if_neg h7]
      obtain ⟨L, l1, l2, l3, l4⟩ := r1 hd (by omega)
      obtain ⟨i, i1, i2⟩ := z_idx16 (ev_u C1 8 4 1) (c := 27) (a := C1 8 8) (by decide)
      rw [i1]
      have e3 : sm = 1 := by
        rcases r3 with r3 | r3
        · have := hn.2 r3; omega
        · exact r3
      have e4 : al = 1 := by
        rcases r4 with ⟨e1, e2⟩ | ⟨e1, e2⟩
        · exact e1
        · exact absurd (Or.inl ⟨e3, hd⟩) e2
      refine ⟨_, _, rfl, rfl, Or.inr (Or.inl ⟨rfl, ?_, ⟨L, l1, l3, l4⟩, ?_⟩), ⟨p1, Int.le_refl _, p3⟩, (z_F1.rf.u (by decide)).u (by decide), z_F2.rf.u (by decide), rfl, rfl⟩
      · show (if al = 0 then (4 : Int) else if sm = 0 then (if C2 12 13 ≤ 2 then 2 else 4) else (if C2 12 13 ≤ 7 then 1 else 4)) = 1
        rw [if_neg (by omega), if_neg (by omega), if_pos (by omega)]
      · exact z_fst_I (C := C1) (fun j hj => (hE.2.2.2.2.2 j hj).1) i2
  · rw [if_pos hd, z_J142]
    by_cases ha : a = 0 ∧ d ≤ 2
    · rw [if_pos ha]
      have e3 : sm = 0 := by
        rcases r3 with r3 | r3
        · exact r3
        · have := hn.1 r3; omega
      have e4 : al = 1 := by
        rcases r4 with ⟨e1, e2⟩ | ⟨e1, e2⟩
        · exact e1
        · exact absurd (Or.inr ⟨e3, ha.1⟩) e2
      obtain ⟨v1, v2, v3, -⟩ := r2 ha.1 ha.2
      refine ⟨_, _, rfl, rfl, Or.inr (Or.inr (Or.inl ⟨rfl, ?_, v1, v2, v3⟩)), ⟨p1, Int.le_refl _, p3⟩, z_F1.rf.u (by decide), z_F2.rf.u (by decide), rfl, rfl⟩
      show (if al = 0 then (4 : Int) else if sm = 0 then (if C2 12 13 ≤ 2 then 2 else 4) else (if C2 12 13 ≤ 7 then 1 else 4)) = 2
      rw [if_neg (by omega), if_pos e3, if_pos (by omega)]
    · rw [if_neg ha]
      refine ⟨_, _, rfl, rfl, Or.inr (Or.inr (Or.inr (Or.inr ⟨?_, Or.inl rfl⟩))), ⟨p1, Int.le_refl _, p3⟩, z_F1.rf.u (by decide), z_F2.rf.u (by decide), rfl, rfl⟩
      show (if al = 0 then (4 : Int) else if sm = 0 then (if C2 12 13 ≤ 2 then 2 else 4) else (if C2 12 13 ≤ 7 then 1 else 4)) = 4
      rcases r4 with ⟨e1, e2⟩ | ⟨e1, e2⟩
      · have e3 : sm = 0 := by omega
        rw [if_neg (by omega), if_pos e3, if_neg (by omega)]
      · rw [if_pos e1]
theorem z_run : ∀ (m N1 N2 : Nat) (C1 C2 : ev_C) (a d sm al y1 : Int), (C1 10 1 - C1 8 3).toNat ≤ m → m < N1 → m < N2 → z_E C1 C2 → z_R C1 C2 a d sm al → (a + d = 0 → C1 8 3 < C1 10 1 ∧ ∀ b, f_10_byteAt C1 (C1 8 3) = some (b, C1) → (sm = 1 ∧ 97 ≤ b ∧ b ≤ 122) ∨ (sm = 0 ∧ 48 ≤ b ∧ b ≤ 57)) → (0 < a + d → (sm = 1 → 1 ≤ a) ∧ (sm = 0 → 1 ≤ d)) →
    ∃ C1' C2', f_8_readRun_L14 N1 C1 a d = some C1' ∧ f_12_go_L181 N2 C2 y1 sm al = some C2' ∧ z_K C1' C2' ∧ (C1' 8 3 = C2' 12 4 ∧ C1 8 3 ≤ C1' 8 3 ∧ C1' 8 3 ≤ C1 10 1 ∧ (a + d = 0 → C1 8 3 < C1' 8 3)) ∧ z_F1 C1 C1' ∧ z_F2 C2 C2' ∧ C1' 8 5 = C1 8 5 ∧ C2' 12 12 = C2 12 12 := by
  intro m
  induction m with
  | zero =>
    intro N1 N2 C1 C2 a d sm al y1 hm h1 h2 hE hR hs hn
    obtain ⟨N1, rfl⟩ : ∃ n, N1 = n + 1 := ⟨N1 - 1, by omega⟩
    obtain ⟨N2, rfl⟩ : ∃ n, N2 = n + 1 := ⟨N2 - 1, by omega⟩
    have h0 : ¬ a + d = 0 := fun h => by have := (hs h).1; omega
    have hpos : 0 < a + d := by have := hR.2.1; omega
    obtain ⟨C1', C2', g1, g2, g3, ⟨g4, g5, g6⟩, g7, g8, g9⟩ := z_runX (N1 := N1) (N2 := N2) (y1 := y1) hE hR (hn hpos) (z_end hE hR.1.1 hR.1.2.1 (by omega)) (by omega) (Or.inl (by omega))
    exact ⟨C1', C2', g1, g2, g3, ⟨g4, g5, g6, fun h => absurd h h0⟩, g7, g8, g9⟩
  | succ m ih =>
    intro N1 N2 C1 C2 a d sm al y1 hm h1 h2 hE hR hs hn
    obtain ⟨N1, rfl⟩ : ∃ n, N1 = n + 1 := ⟨N1 - 1, by omega⟩
    obtain ⟨N2, rfl⟩ : ∃ n, N2 = n + 1 := ⟨N2 - 1, by omega⟩
    by_cases hp : C1 10 1 ≤ C1 8 3
    · have h0 : ¬ a + d = 0 := fun h => by have := (hs h).1; omega
      have hpos : 0 < a + d := by have := hR.2.1; omega
      obtain ⟨C1', C2', g1, g2, g3, ⟨g4, g5, g6⟩, g7, g8, g9⟩ := z_runX (N1 := N1) (N2 := N2) (y1 := y1) hE hR (hn hpos) (z_end hE hR.1.1 hR.1.2.1 (by omega)) (by omega) (Or.inl (by omega))
      exact ⟨C1', C2', g1, g2, g3, ⟨g4, g5, g6, fun h => absurd h h0⟩, g7, g8, g9⟩
    · obtain ⟨b, b1, b2, b3, b4⟩ := z_bytes hE hR.1.1 hR.1.2.1 (by omega)
      by_cases hb : (97 ≤ b ∧ b ≤ 122) ∨ (48 ≤ b ∧ b ≤ 57)
      · have hbs : a + d = 0 → (sm = 1 ∧ 97 ≤ b ∧ b ≤ 122) ∨ (sm = 0 ∧ 48 ≤ b ∧ b ≤ 57) := fun h => (hs h).2 b b3
        obtain ⟨⟨p1, p2, p3⟩, ⟨q1, q2, q3, q4⟩, r1, r2, r3, r4⟩ := id hR
        have hn9 := hE.2.2.1
        obtain ⟨v4, v13, v12, v17, v14⟩ := z_adv_v (C := C2) (b := b) (by omega) (by omega) (by omega) (by omega)
        rw [z_goS b4 hb]
        rcases hb with hl | hl
        · rw [z_rrL (by omega) b3 hl, ev_w_id (n := a + 1) (by omega) (by omega), ev_w_id (n := C1 8 3 + 1) (by omega) (by omega)]
          obtain ⟨X, hX⟩ : ∃ X, X = ev_u (ev_u C1 8 8 (ev_w64 ((ev_w64 (C1 8 8 * 32)) + (ev_w ((ev_w (b - (97 : Int))) + (1 : Int)))))) 8 3 (C1 8 3 + 1) := ⟨_, rfl⟩
          have x3 : X 8 3 = C1 8 3 + 1 := by rw [hX]; rfl
          have x5 : X 8 5 = C1 8 5 := by rw [hX]; rfl
          have x6 : X 8 6 = C1 8 6 := by rw [hX]; rfl
          have x8 : X 8 8 = ev_w64 ((ev_w64 (C1 8 8 * 32)) + (ev_w ((ev_w (b - (97 : Int))) + (1 : Int)))) := by rw [hX]; rfl
          have x10 : X 10 1 = C1 10 1 := by rw [hX]; rfl
          have xF : z_F1 C1 X := by rw [hX]; exact (z_F1.rf.u (by decide)).u (by decide)
          have hmm : (X 10 1 - X 8 3).toNat ≤ m := by rw [x10, x3]; clear r1 r2 r4 hR hs hn hbs; omega
          rw [← hX]
          obtain ⟨al', hal⟩ : ∃ al', al' = (if al = 0 then (0 : Int) else if (if 97 ≤ b ∧ b ≤ 122 then (1 : Int) else 0) = sm then 1 else 0) := ⟨_, rfl⟩
          rw [← hal]
          rw [if_pos hl] at hal
          have hR' : z_R X (z_adv C2 b) (a + 1) d sm al' := by
            refine ⟨⟨by omega, by omega, by omega⟩, ⟨by omega, q2, by omega, by omega⟩, fun hd ha => ?_, fun ha => by omega, r3, ?_⟩
            · obtain ⟨L, l1, l2, l3, l4⟩ := r1 hd (by omega)
              refine ⟨b :: L, ?_, by rw [List.length_cons]; omega, ?_, ?_⟩
              · intro c hc
                rcases List.mem_cons.mp hc with h | h
                · subst h; exact hl
                · exact l1 c h
              · rw [x8, l3]; exact z_let l1 (by omega) hl.1 hl.2
              · rw [v17, if_neg (by omega), l4]; exact z_let256 l1 (by omega) (by omega) (by omega)
            · by_cases c1 : al = 0
              · rw [if_pos c1] at hal
                refine Or.inr ⟨hal, ?_⟩
                have e2 := (r4.resolve_left (fun q => by omega)).2
                intro hh
                rcases hh with ⟨s1, s2⟩ | ⟨s1, s2⟩
                · exact e2 (Or.inl ⟨s1, s2⟩)
                · omega
              · rw [if_neg c1] at hal
                have e2 := (r4.resolve_right (fun q => c1 q.1)).2
                by_cases c2 : (1 : Int) = sm
                · rw [if_pos c2] at hal
                  refine Or.inl ⟨hal, Or.inl ⟨c2.symm, ?_⟩⟩
                  rcases e2 with ⟨_, s2⟩ | ⟨s1, _⟩
                  · exact s2
                  · omega
                · rw [if_neg c2] at hal
                  exact Or.inr ⟨hal, by omega⟩
          obtain ⟨C1', C2', g1, g2, g3, ⟨g4, g5, g6, g6'⟩, g7, g8, g9, g10⟩ := ih N1 N2 X (z_adv C2 b) (a + 1) d sm al' y1 hmm (by omega) (by omega) (hE.mv xF z_adv_F) hR' (fun h => by omega) (fun _ => ⟨fun _ => by omega, fun hs0 => by
            by_cases h00 : a + d = 0
            · rcases hbs h00 with h | h <;> omega
            · exact (hn (by omega)).2 hs0⟩)
          exact ⟨C1', C2', g1, g2, g3, ⟨g4, by omega, by omega, fun _ => by omega⟩, xF.tr g7, z_adv_F.tr g8, by rw [g9]; exact x5, by rw [g10]; exact v12⟩
        · rw [z_rrD (by omega) b3 hl, ev_w_id (n := d + 1) (by omega) (by omega), ev_w_id (n := C1 8 3 + 1) (by omega) (by omega)]
          obtain ⟨X, hX⟩ : ∃ X, X = ev_u (ev_u C1 8 6 (ev_w ((ev_w (C1 8 6 * (10 : Int))) + (ev_w (b - (48 : Int)))))) 8 3 (C1 8 3 + 1) := ⟨_, rfl⟩
          have x3 : X 8 3 = C1 8 3 + 1 := by rw [hX]; rfl
          have x5 : X 8 5 = C1 8 5 := by rw [hX]; rfl
          have x6 : X 8 6 = ev_w ((ev_w (C1 8 6 * (10 : Int))) + (ev_w (b - (48 : Int)))) := by rw [hX]; rfl
          have x8 : X 8 8 = C1 8 8 := by rw [hX]; rfl
          have x10 : X 10 1 = C1 10 1 := by rw [hX]; rfl
          have xF : z_F1 C1 X := by rw [hX]; exact (z_F1.rf.u (by decide)).u (by decide)
          have hmm : (X 10 1 - X 8 3).toNat ≤ m := by rw [x10, x3]; clear r1 r2 r4 hR hs hn hbs; omega
          rw [← hX]
          obtain ⟨al', hal⟩ : ∃ al', al' = (if al = 0 then (0 : Int) else if (if 97 ≤ b ∧ b ≤ 122 then (1 : Int) else 0) = sm then 1 else 0) := ⟨_, rfl⟩
          rw [← hal]
          rw [if_neg (show ¬ (97 ≤ b ∧ b ≤ 122) by omega)] at hal
          have hR' : z_R X (z_adv C2 b) a (d + 1) sm al' := by
            refine ⟨⟨by omega, by omega, by omega⟩, ⟨q1, by omega, by omega, by omega⟩, fun hd => by omega, fun ha hd => ?_, r3, ?_⟩
            · obtain ⟨w1, w2, w3, w4, w5⟩ := r2 ha (by omega)
              have w4 := w4 (by omega)
              have e1 : X 8 6 = C1 8 6 * 10 + (b - 48) := by
                rw [x6, ev_w_id (n := C1 8 6 * 10) (by omega) (by omega), ev_w_id (n := b - 48) (by omega) (by omega), ev_w_id (by omega) (by omega)]
              have e2 : z_adv C2 b 12 14 = C1 8 6 * 10 + (b - 48) := by
                rw [v14, if_neg (by omega), ← w1, ev_w_id (n := 10 * C1 8 6) (by omega) (by omega), ev_w_id (n := 10 * C1 8 6 + b) (by omega) (by omega), ev_w_id (by omega) (by omega)]
                omega
              refine ⟨by rw [e1, e2], by omega, by omega, fun h => ?_, fun h => by omega⟩
              have := w5 (by omega)
              omega
            · by_cases c1 : al = 0
              · rw [if_pos c1] at hal
                refine Or.inr ⟨hal, ?_⟩
                have e2 := (r4.resolve_left (fun q => by omega)).2
                intro hh
                rcases hh with ⟨s1, s2⟩ | ⟨s1, s2⟩
                · omega
                · exact e2 (Or.inr ⟨s1, s2⟩)
              · rw [if_neg c1] at hal
                have e2 := (r4.resolve_right (fun q => c1 q.1)).2
                by_cases c2 : (0 : Int) = sm
                · rw [if_pos c2] at hal
                  refine Or.inl ⟨hal, Or.inr ⟨c2.symm, ?_⟩⟩
                  rcases e2 with ⟨s1, _⟩ | ⟨_, s2⟩
                  · omega
                  · exact s2
                · rw [if_neg c2] at hal
                  exact Or.inr ⟨hal, by omega⟩
          obtain ⟨C1', C2', g1, g2, g3, ⟨g4, g5, g6, g6'⟩, g7, g8, g9, g10⟩ := ih N1 N2 X (z_adv C2 b) a (d + 1) sm al' y1 hmm (by omega) (by omega) (hE.mv xF z_adv_F) hR' (fun h => by omega) (fun _ => ⟨fun hs1 => by
            by_cases h00 : a + d = 0
            · rcases hbs h00 with h | h <;> omega
            · exact (hn (by omega)).1 hs1, fun _ => by omega⟩)
          exact ⟨C1', C2', g1, g2, g3, ⟨g4, by omega, by omega, fun _ => by omega⟩, xF.tr g7, z_adv_F.tr g8, by rw [g9]; exact x5, by rw [g10]; exact v12⟩
      · have h0 : ¬ a + d = 0 := fun h => by
          rcases (hs h).2 b b3 with q | q <;> omega
        have hpos : 0 < a + d := by have := hR.2.1; omega
        obtain ⟨C1', C2', g1, g2, g3, ⟨g4, g5, g6⟩, g7, g8, g9⟩ := z_runX (N1 := N1) (N2 := N2) (y1 := y1) hE hR (hn hpos) b4 hb (Or.inr b3)
        exact ⟨C1', C2', g1, g2, g3, ⟨g4, g5, g6, fun h => absurd h h0⟩, g7, g8, g9⟩

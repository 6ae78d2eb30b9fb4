/-! THE TWO READERS ALIKE, 5: one token. -/
def z_T (C1 C2 : ev_C) : Prop := z_K C1 C2 ∧ C1 8 3 = C2 12 4 ∧ (0 ≤ C1 8 3 ∧ C1 8 3 ≤ C1 10 1) ∧ C1 8 5 = C2 12 12 ∧ 0 ≤ C1 8 5 ∧ C1 8 5 ≤ 940
theorem z_rr0 {C1 C2 : ev_C} {sm b : Int} (hE : z_E C1 C2) (hp : C1 8 3 = C2 12 4) (h0 : 0 ≤ C1 8 3) (h1 : C1 8 3 < C1 10 1) (h13 : C2 12 13 = 0) (hb : f_10_byteAt C1 (C1 8 3) = some (b, C1)) (hs : (sm = 1 ∧ 97 ≤ b ∧ b ≤ 122) ∨ (sm = 0 ∧ 48 ≤ b ∧ b ≤ 57)) :
    ∃ C1' C2', f_8_readRun C1 = some C1' ∧ f_12_go_L181 1000 (ev_u (ev_u C2 12 17 0) 12 14 0) b sm 1 = some C2' ∧ z_K C1' C2' ∧ (C1' 8 3 = C2' 12 4 ∧ C1 8 3 < C1' 8 3 ∧ C1' 8 3 ≤ C1 10 1) ∧ z_F1 C1 C1' ∧ z_F2 C2 C2' ∧ C1' 8 5 = C1 8 5 ∧ C2' 12 12 = C2 12 12 := by
  have f1 : z_F1 C1 (ev_u (ev_u C1 8 8 0) 8 6 0) := (z_F1.rf.u (by decide)).u (by decide)
  have f2 : z_F2 C2 (ev_u (ev_u C2 12 17 0) 12 14 0) := (z_F2.rf.u (by decide)).u (by decide)
  have hE' := hE.mv f1 f2
  obtain ⟨-, -, hn, -⟩ := id hE
  have hb' : f_10_byteAt (ev_u (ev_u C1 8 8 0) 8 6 0) (C1 8 3) = some (b, ev_u (ev_u C1 8 8 0) 8 6 0) := by
    have e1 := z_byte hE.b1 h0 (show C1 8 3 < 940 by omega)
    have e2 := z_byte hE'.b1 h0 (show C1 8 3 < 940 by omega)
    rw [hb] at e1
    rw [e2, show (ev_u (ev_u C1 8 8 0) 8 6 0) 15 = C1 15 from f1.1 15 (by decide)]
    cases e1
    rfl
  obtain ⟨C1', C2', g1, g2, g3, ⟨g4, g5, g6, g7⟩, g8, g9, g10, g11⟩ := z_run 940 1000 1000 (ev_u (ev_u C1 8 8 0) 8 6 0) (ev_u (ev_u C2 12 17 0) 12 14 0) 0 0 sm 1 b (by show (C1 10 1 - C1 8 3).toNat ≤ 940; omega) (by decide) (by decide) hE'
    ⟨⟨hp, h0, by show C1 8 3 ≤ C1 10 1; omega⟩, ⟨by decide, by decide, h0, h13⟩, fun _ _ => ⟨[], (fun c h => nomatch h), rfl, rfl, rfl⟩, fun _ _ => ⟨rfl, Int.le_refl 0, (by decide : (0 : Int) ≤ 99), fun _ => (by decide : (0 : Int) ≤ 9), fun _ => rfl⟩, by omega, Or.inl ⟨rfl, by omega⟩⟩
    (fun _ => ⟨h1, fun c hc => by
      have hc : f_10_byteAt (ev_u (ev_u C1 8 8 0) 8 6 0) (C1 8 3) = some (c, ev_u (ev_u C1 8 8 0) 8 6 0) := hc
      rw [hb'] at hc
      have e := (Prod.mk.inj (Option.some.inj hc)).1
      rw [← e]
      exact hs⟩) (fun h => absurd h (by decide))
  exact ⟨C1', C2', g1, g2, g3, ⟨g4, g7 rfl, g6⟩, f1.tr g8, f2.tr g9, g10, g11⟩
theorem z_J80X {C : ev_C} {b : Int} (hat : z_at C b) (h0 : 0 ≤ b) (hl : ¬ (97 ≤ b ∧ b ≤ 122)) (hd : ¬ (48 ≤ b ∧ b ≤ 57)) : f_12_go_J80 C = some (ev_u (ev_u (ev_u C 12 11 (if b = 59 ∨ b = 40 ∨ b = 41 ∨ (60 ≤ b ∧ b ≤ 62) then 3 else 4)) 12 14 b) 12 4 (ev_w (C 12 4 + (1 : Int)))) := by
  unfold f_12_go_J80
  rw [hat C rfl rfl rfl, ev_bdS, if_pos h0, z_isSmall, if_neg hl, ev_bdS, if_neg (by decide), z_isDigit2, if_neg hd, ev_bdS, if_neg (by decide)]
  by_cases c1 : b = 59
  · rw [if_pos c1, if_pos (Or.inl c1)]; rfl
  · rw [if_neg c1]
    by_cases c2 : b = 40
    · rw [if_pos c2, if_pos (Or.inr (Or.inl c2))]; rfl
    · rw [if_neg c2]
      by_cases c3 : b = 41
      · rw [if_pos c3, if_pos (Or.inr (Or.inr (Or.inl c3)))]; rfl
      · rw [if_neg c3]
        by_cases c4 : b < 60
        · rw [if_pos c4, if_neg (by omega)]; rfl
        · rw [if_neg c4]
          by_cases c5 : 62 < b
          · rw [if_pos c5, if_neg (by omega)]; rfl
          · rw [if_neg c5, if_pos (by omega)]; rfl
theorem z_tok {C1 C2 : ev_C} (hE : z_E C1 C2) (hp : C1 8 3 = C2 12 4) (h0 : 0 ≤ C1 8 3) (h1 : C1 8 3 ≤ C1 10 1) (h12 : C2 12 12 = C1 8 3) (h13 : C2 12 13 = 0) :
    ∃ C1' C2', f_8_step_J83 C1 = some C1' ∧ f_12_go_J80 C2 = some C2' ∧ z_T C1' C2' ∧ z_F1 C1 C1' ∧ z_F2 C2 C2' ∧ C1 8 3 ≤ C1' 8 3 ∧ (C1' 8 4 = 0 ∨ C1' 8 4 = 4 ∨ C1 8 3 + 1 ≤ C1' 8 3) := by
  obtain ⟨-, -, hn, -⟩ := id hE
  have f1 : z_F1 C1 (ev_u C1 8 5 (C1 8 3)) := z_F1.rf.u (by decide)
  have hE' := hE.mv f1 z_F2.rf
  unfold f_8_step_J83
  by_cases hlt : C1 8 3 < C1 10 1
  · rw [if_pos hlt]
    obtain ⟨b, b1, b2, b3, b4⟩ := z_bytes hE' hp h0 hlt
    have b3 : f_10_byteAt (ev_u C1 8 5 (C1 8 3)) (C1 8 3) = some (b, ev_u C1 8 5 (C1 8 3)) := b3
    rw [b3, ev_bdS, z_isLetter, ev_bdS]
    by_cases hl : 97 ≤ b ∧ b ≤ 122
    · rw [if_pos hl, if_pos (by decide)]
      obtain ⟨C1', C2', g1, g2, g3, ⟨g4, g5, g6⟩, g7, g8, g9, g10⟩ := z_rr0 (sm := 1) hE' hp h0 hlt h13 b3 (Or.inl ⟨rfl, hl⟩)
      have g5 : C1 8 3 < C1' 8 3 := g5
      have g6 : C1' 8 3 ≤ C1 10 1 := g6
      have g9 : C1' 8 5 = C1 8 3 := g9
      have e10 := g7.1 10 (by decide)
      have e10 : C1' 10 1 = C1 10 1 := by rw [e10]; rfl
      refine ⟨C1', C2', by rw [g1, ev_bvS], ?_, ⟨g3, g4, ⟨by omega, by omega⟩, by omega, by omega, by omega⟩, f1.tr g7, g8, by omega, Or.inr (Or.inr (by omega))⟩
      unfold f_12_go_J80
      rw [b4 C2 rfl rfl rfl, ev_bdS, if_pos b1, z_isSmall, if_pos hl, ev_bdS, if_pos (by decide)]
      unfold f_12_go_J164
      rw [z_isSmall, if_pos hl, ev_bdS]
      exact g2
    · rw [if_neg hl, if_neg (by decide), z_isDigit, ev_bdS]
      by_cases hd : 48 ≤ b ∧ b ≤ 57
      · rw [if_pos hd, if_neg (by decide)]
        obtain ⟨C1', C2', g1, g2, g3, ⟨g4, g5, g6⟩, g7, g8, g9, g10⟩ := z_rr0 (sm := 0) hE' hp h0 hlt h13 b3 (Or.inr ⟨rfl, hd⟩)
        have g5 : C1 8 3 < C1' 8 3 := g5
        have g6 : C1' 8 3 ≤ C1 10 1 := g6
        have g9 : C1' 8 5 = C1 8 3 := g9
        have e10 := g7.1 10 (by decide)
        have e10 : C1' 10 1 = C1 10 1 := by rw [e10]; rfl
        refine ⟨C1', C2', by rw [g1, ev_bvS], ?_, ⟨g3, g4, ⟨by omega, by omega⟩, by omega, by omega, by omega⟩, f1.tr g7, g8, by omega, Or.inr (Or.inr (by omega))⟩
        unfold f_12_go_J80
        rw [b4 C2 rfl rfl rfl, ev_bdS, if_pos b1, z_isSmall, if_neg hl, ev_bdS, if_neg (by decide), z_isDigit2, if_pos hd, ev_bdS, if_pos (by decide)]
        unfold f_12_go_J164
        rw [z_isSmall, if_neg hl, ev_bdS]
        exact g2
      · rw [if_neg hd, if_pos rfl, z_isSign, ev_bdS, z_J80X b4 b1 hl hd]
        unfold f_8_step_J157
        have w1 : ev_w (C1 8 3 + 1) = C1 8 3 + 1 := ev_w_id (by omega) (by omega)
        have w2 : ev_w (C2 12 4 + 1) = C1 8 3 + 1 := by rw [← hp]; exact w1
        have F2 : ∀ v : Int, z_F2 C2 (ev_u (ev_u (ev_u C2 12 11 v) 12 14 b) 12 4 (ev_w (C2 12 4 + 1))) := fun v => ((z_F2.rf.u (by decide)).u (by decide)).u (by decide)
        have F1 : ∀ v : Int, z_F1 C1 (ev_u (ev_u (ev_u (ev_u C1 8 5 (C1 8 3)) 8 4 v) 8 6 b) 8 3 (ev_w (C1 8 3 + 1))) := fun v => ((f1.u (by decide)).u (by decide)).u (by decide)
        by_cases hs : b = 59 ∨ b = 60 ∨ b = 61 ∨ b = 62 ∨ b = 40 ∨ b = 41 ∨ b = 46
        · rw [if_pos hs, if_neg (by decide)]
          refine ⟨_, _, rfl, rfl, ⟨?_, ?_, ⟨?_, ?_⟩, ?_, h0, ?_⟩, F1 3, F2 _, ?_, Or.inr (Or.inr ?_)⟩
          · by_cases h46 : b = 46
            · rw [if_neg (by omega)]
              exact Or.inr (Or.inr (Or.inr (Or.inr ⟨rfl, Or.inr ⟨rfl, h46⟩⟩)))
            · rw [if_pos (by omega)]
              exact Or.inr (Or.inr (Or.inr (Or.inl ⟨rfl, rfl, rfl⟩)))
          · show ev_w (C1 8 3 + 1) = ev_w (C2 12 4 + 1); omega
          · show 0 ≤ ev_w (C1 8 3 + 1); omega
          · show ev_w (C1 8 3 + 1) ≤ C1 10 1; omega
          · exact h12.symm
          · show C1 8 3 ≤ 940; omega
          · show C1 8 3 ≤ ev_w (C1 8 3 + 1); omega
          · show C1 8 3 + 1 ≤ ev_w (C1 8 3 + 1); omega
        · rw [if_neg hs, if_pos rfl]
          refine ⟨_, _, rfl, rfl, ⟨?_, ?_, ⟨?_, ?_⟩, ?_, h0, ?_⟩, F1 4, F2 _, ?_, Or.inr (Or.inr ?_)⟩
          · rw [if_neg (by omega)]
            exact Or.inr (Or.inr (Or.inr (Or.inr ⟨rfl, Or.inl rfl⟩)))
          · show ev_w (C1 8 3 + 1) = ev_w (C2 12 4 + 1); omega
          · show 0 ≤ ev_w (C1 8 3 + 1); omega
          · show ev_w (C1 8 3 + 1) ≤ C1 10 1; omega
          · exact h12.symm
          · show C1 8 3 ≤ 940; omega
          · show C1 8 3 ≤ ev_w (C1 8 3 + 1); omega
          · show C1 8 3 + 1 ≤ ev_w (C1 8 3 + 1); omega
  · rw [if_neg hlt]
    have hat := z_end hE hp h0 (by omega)
    refine ⟨_, ev_u C2 12 11 0, rfl, ?_, ⟨Or.inl ⟨rfl, rfl⟩, hp, ⟨h0, h1⟩, h12.symm, h0, by show C1 8 3 ≤ 940; omega⟩, f1.u (by decide), z_F2.rf.u (by decide), Int.le_refl _, Or.inl rfl⟩
    unfold f_12_go_J80
    rw [hat C2 rfl rfl rfl, ev_bdS, if_neg (by decide)]
/-- what both do once the blanks are gone behind -/
def z_mid (C : ev_C) : Option ev_C := if C 12 3 ≤ C 12 5 then f_12_go_J80 (ev_u (ev_u C 12 12 (C 12 4)) 12 13 0) else if C 12 4 < C 12 5 then f_12_go_J80 (ev_u (ev_u C 12 12 (C 12 4)) 12 13 0) else some (ev_u (ev_u (ev_u (ev_u C 12 12 (C 12 4)) 12 13 0) 12 12 (C 12 5)) 12 11 4)
theorem z_midT {C1 C2 : ev_C} (hE : z_E C1 C2) (hp : C1 8 3 = C2 12 4) (h0 : 0 ≤ C1 8 3) (h1 : C1 8 3 ≤ C1 10 1) :
    ∃ C1' C2', f_8_step_J44 C1 = some C1' ∧ z_mid C2 = some C2' ∧ z_T C1' C2' ∧ z_F1 C1 C1' ∧ z_F2 C2 C2' ∧ C1 8 3 ≤ C1' 8 3 ∧ (C1' 8 4 = 0 ∨ C1' 8 4 = 4 ∨ C1 8 3 + 1 ≤ C1' 8 3) := by
  obtain ⟨-, a2, hn, a4, a5, -⟩ := id hE
  have f2 : z_F2 C2 (ev_u (ev_u C2 12 12 (C2 12 4)) 12 13 0) := (z_F2.rf.u (by decide)).u (by decide)
  obtain ⟨C1', C2', g1, g2, g3, g4, g5, g6⟩ := z_tok (hE.mv z_F1.rf f2) hp h0 h1 hp.symm rfl
  have key : (C1 10 1 ≤ C1 8 2 ∨ C1 8 3 < C1 8 2) → ∃ C1' C2', f_8_step_J44 C1 = some C1' ∧ z_mid C2 = some C2' ∧ z_T C1' C2' ∧ z_F1 C1 C1' ∧ z_F2 C2 C2' ∧ C1 8 3 ≤ C1' 8 3 ∧ (C1' 8 4 = 0 ∨ C1' 8 4 = 4 ∨ C1 8 3 + 1 ≤ C1' 8 3) := by
    intro hk
    refine ⟨C1', C2', ?_, ?_, g3, g4, f2.tr g5, g6⟩
    · unfold f_8_step_J44
      by_cases c1 : C1 10 1 ≤ C1 8 2
      · rw [if_pos c1]; exact g1
      · rw [if_neg c1, if_pos (by omega)]; exact g1
    · unfold z_mid
      by_cases c1 : C2 12 3 ≤ C2 12 5
      · rw [if_pos c1]; exact g2
      · rw [if_neg c1, if_pos (by omega)]; exact g2
  by_cases c1 : C1 10 1 ≤ C1 8 2
  · exact key (Or.inl c1)
  · by_cases c2 : C1 8 3 < C1 8 2
    · exact key (Or.inr c2)
    · unfold f_8_step_J44 z_mid
      rw [if_neg c1, if_neg c2, if_neg (by omega), if_neg (by omega)]
      exact ⟨_, _, rfl, rfl, ⟨Or.inr (Or.inr (Or.inr (Or.inr ⟨rfl, Or.inl rfl⟩))), hp, ⟨h0, h1⟩, a4, a5⟩, (z_F1.rf.u (by decide)).u (by decide), (f2.u (by decide)).u (by decide), Int.le_refl _, Or.inr (Or.inl rfl)⟩
theorem z_skip : ∀ (m N1 N2 : Nat) (C1 C2 : ev_C), (C1 10 1 - C1 8 3).toNat ≤ m → m < N1 → m < N2 → z_E C1 C2 → C1 8 3 = C2 12 4 → 0 ≤ C1 8 3 → C1 8 3 ≤ C1 10 1 →
    ∃ C1' C2', f_8_step_L0 N1 C1 = some C1' ∧ f_12_go_L0 N2 C2 = some C2' ∧ z_T C1' C2' ∧ z_F1 C1 C1' ∧ z_F2 C2 C2' ∧ C1 8 3 ≤ C1' 8 3 ∧ (C1' 8 4 = 0 ∨ C1' 8 4 = 4 ∨ C1 8 3 + 1 ≤ C1' 8 3) := by
  intro m
  induction m with
  | zero =>
    intro N1 N2 C1 C2 hm h1 h2 hE hp h0 hle
    obtain ⟨N1, rfl⟩ : ∃ n, N1 = n + 1 := ⟨N1 - 1, by omega⟩
    obtain ⟨N2, rfl⟩ : ∃ n, N2 = n + 1 := ⟨N2 - 1, by omega⟩
    obtain ⟨C1', C2', g1, g2, g3⟩ := z_midT hE hp h0 hle
    refine ⟨C1', C2', ?_, ?_, g3⟩
    · rw [f_8_step_L0, if_pos (by omega)]; exact g1
    · rw [f_12_go_L0, z_end hE hp h0 (by omega) C2 rfl rfl rfl, ev_bdS, if_neg (by decide), z_end hE hp h0 (by omega) C2 rfl rfl rfl, ev_bdS, if_pos (by decide)]
      exact g2
  | succ m ih =>
    intro N1 N2 C1 C2 hm h1 h2 hE hp h0 hle
    obtain ⟨N1, rfl⟩ : ∃ n, N1 = n + 1 := ⟨N1 - 1, by omega⟩
    obtain ⟨N2, rfl⟩ : ∃ n, N2 = n + 1 := ⟨N2 - 1, by omega⟩
    by_cases hlt : C1 10 1 ≤ C1 8 3
    · obtain ⟨C1', C2', g1, g2, g3⟩ := z_midT hE hp h0 hle
      refine ⟨C1', C2', ?_, ?_, g3⟩
      · rw [f_8_step_L0, if_pos (by omega)]; exact g1
      · rw [f_12_go_L0, z_end hE hp h0 (by omega) C2 rfl rfl rfl, ev_bdS, if_neg (by decide), z_end hE hp h0 (by omega) C2 rfl rfl rfl, ev_bdS, if_pos (by decide)]
        exact g2
    · obtain ⟨b, b1, b2, b3, b4⟩ := z_bytes hE hp h0 (by omega)
      by_cases hb : b = 32 ∨ b = 10
      · obtain ⟨-, -, hn, -⟩ := id hE
        have w1 : ev_w (C1 8 3 + 1) = C1 8 3 + 1 := ev_w_id (by omega) (by omega)
        have w2 : ev_w (C2 12 4 + 1) = C1 8 3 + 1 := by rw [← hp]; exact w1
        have f1 : z_F1 C1 (ev_u C1 8 3 (ev_w (C1 8 3 + 1))) := z_F1.rf.u (by decide)
        have f2 : z_F2 C2 (ev_u C2 12 4 (ev_w (C2 12 4 + 1))) := z_F2.rf.u (by decide)
        have k3 : ev_u C1 8 3 (ev_w (C1 8 3 + 1)) 8 3 = C1 8 3 + 1 := w1
        obtain ⟨C1', C2', g1, g2, g3, g4, g5, g6, g7⟩ := ih N1 N2 (ev_u C1 8 3 (ev_w (C1 8 3 + 1))) (ev_u C2 12 4 (ev_w (C2 12 4 + 1))) (by rw [k3]; show (C1 10 1 - (C1 8 3 + 1)).toNat ≤ m; omega) (by omega) (by omega) (hE.mv f1 f2) (by rw [k3]; exact w2.symm) (by omega) (by rw [k3]; show C1 8 3 + 1 ≤ C1 10 1; omega)
        rw [k3] at g6 g7
        refine ⟨C1', C2', ?_, ?_, g3, f1.tr g4, f2.tr g5, by omega, by omega⟩
        · rw [f_8_step_L0, if_neg (by omega), b3, ev_bdS, z_isBlank, if_pos hb, ev_bdS, if_neg (by decide)]
          exact g1
        · rw [f_12_go_L0, b4 C2 rfl rfl rfl, ev_bdS]
          by_cases c1 : b = 32
          · rw [if_pos c1]; exact g2
          · rw [if_neg c1, b4 C2 rfl rfl rfl, ev_bdS, if_neg (by omega)]; exact g2
      · obtain ⟨C1', C2', g1, g2, g3⟩ := z_midT hE hp h0 hle
        refine ⟨C1', C2', ?_, ?_, g3⟩
        · rw [f_8_step_L0, if_neg (by omega), b3, ev_bdS, z_isBlank, if_neg hb, ev_bdS, if_pos rfl]; exact g1
        · rw [f_12_go_L0, b4 C2 rfl rfl rfl, ev_bdS, if_neg (by omega), b4 C2 rfl rfl rfl, ev_bdS, if_pos (by omega)]
          exact g2
theorem z_lex {C1 C2 : ev_C} (hE : z_E C1 C2) (hp : C1 8 3 = C2 12 4) (h0 : 0 ≤ C1 8 3) (h1 : C1 8 3 ≤ C1 10 1) :
    ∃ C1' C2', f_8_step C1 = some C1' ∧ f_12_go C2 = some C2' ∧ z_T C1' C2' ∧ z_F1 C1 C1' ∧ z_F2 C2 C2' ∧ C1 8 3 ≤ C1' 8 3 ∧ (C1' 8 4 = 0 ∨ C1' 8 4 = 4 ∨ C1 8 3 + 1 ≤ C1' 8 3) := by
  obtain ⟨-, -, hn, -⟩ := id hE
  exact z_skip 940 1000 1000 C1 C2 (by omega) (by decide) (by decide) hE hp h0 h1

/-! what writes kept rows: the contracts -/
theorem prNA : ∀ t j, ck_pr (ck_protN t) j → ck_pr (ck_prot1 t) j := by
  intro t j h
  unfold ck_protN at h
  split at h
  · obtain ⟨q, hq, -⟩ := h; cases hq
  · exact h
theorem prNAl : ∀ t, ck_prot1 t = [] → ck_protN t = [] := by
  intro t h
  unfold ck_protN
  split
  · rfl
  · exact h
section CHN
variable {l : Launch} {D : va_G} {cys : Nat → ClassId} {ty : Nat → Option Nat} {Ex : va_W → Prop}
theorem chN (hU : ck_uq ty ck_pvs0) (hun : ck_un ty) (hX : ck_ExP ty ck_protN Ex) : ∀ j, j < 6 → ck_Holds l D cys ty ck_tags ck_pvs0 Ex (ck_tabN j) := by
  have hX1 : ck_ExP ty ck_prot1 Ex := ExP_mono prNA prNAl hX
  have hb := ch2 (l := l) (D := D) (cys := cys) hU hun (ch0 hU hun) (ch1 hU hun (ch0 hU hun)) Ex hX1
  have h0 : ck_Holds l D cys ty ck_tags ck_pvs0 Ex kc_162 := hb 162 (by decide)
  have h1 : ck_Holds l D cys ty ck_tags ck_pvs0 Ex kc_163 := hb 163 (by decide)
  have l2 : ∀ j, j < 2 → ck_Holds l D cys ty ck_tags ck_pvs0 Ex (ck_tabN j) := fun j hj => match j, hj with
    | 0, _ => h0
    | 1, _ => h1
    | n + 2, h => absurd h (by omega)
  have h2 : ck_Holds l D cys ty ck_tags ck_pvs0 Ex (ck_tabN 2) := ck_sound (k := kq_10_append) ⟨lkX_c lkN_n, lkX_f lkN_n, lkN_m, hX, hU, pv_inj, l2⟩ (by decide +kernel) (by decide +kernel) okN_2
  have l3 : ∀ j, j < 3 → ck_Holds l D cys ty ck_tags ck_pvs0 Ex (ck_tabN j) := fun j hj => match j, hj with
    | 0, _ => h0
    | 1, _ => h1
    | 2, _ => h2
    | n + 3, h => absurd h (by omega)
  have h3 : ck_Holds l D cys ty ck_tags ck_pvs0 Ex (ck_tabN 3) := ck_sound (k := kq_12_four) ⟨lkX_c lkN_n, lkX_f lkN_n, lkN_m, hX, hU, pv_inj, l3⟩ (by decide +kernel) (by decide +kernel) okN_3
  have l4 : ∀ j, j < 4 → ck_Holds l D cys ty ck_tags ck_pvs0 Ex (ck_tabN j) := fun j hj => match j, hj with
    | 0, _ => h0
    | 1, _ => h1
    | 2, _ => h2
    | 3, _ => h3
    | n + 4, h => absurd h (by omega)
  have h4 : ck_Holds l D cys ty ck_tags ck_pvs0 Ex (ck_tabN 4) := ck_sound (k := kq_11_feed) ⟨lkX_c lkN_n, lkX_f lkN_n, lkN_m, hX, hU, pv_inj, l4⟩ (by decide +kernel) (by decide +kernel) okN_4
  have l5 : ∀ j, j < 5 → ck_Holds l D cys ty ck_tags ck_pvs0 Ex (ck_tabN j) := fun j hj => match j, hj with
    | 0, _ => h0
    | 1, _ => h1
    | 2, _ => h2
    | 3, _ => h3
    | 4, _ => h4
    | n + 5, h => absurd h (by omega)
  have h5 : ck_Holds l D cys ty ck_tags ck_pvs0 Ex (ck_tabN 5) := ck_sound (k := kq_12_feed) ⟨lkX_c lkN_n, lkX_f lkN_n, lkN_m, hX, hU, pv_inj, l5⟩ (by decide +kernel) (by decide +kernel) okN_5
  exact fun j hj => match j, hj with
    | 0, _ => h0
    | 1, _ => h1
    | 2, _ => h2
    | 3, _ => h3
    | 4, _ => h4
    | 5, _ => h5
    | n + 6, h => absurd h (by omega)
end CHN
theorem prPA : ∀ t j, ck_pr (ck_protP t) j → ck_pr (ck_prot1 t) j := by
  intro t j h
  unfold ck_protP at h
  split at h
  · obtain ⟨q, hq, -⟩ := h; cases hq
  · exact h
theorem prPAl : ∀ t, ck_prot1 t = [] → ck_protP t = [] := by
  intro t h
  unfold ck_protP
  split
  · rfl
  · exact h
section CHP
variable {l : Launch} {D : va_G} {cys : Nat → ClassId} {ty : Nat → Option Nat} {Ex : va_W → Prop}
theorem chP (hU : ck_uq ty ck_pvs0) (hun : ck_un ty) (hX : ck_ExP ty ck_protP Ex) : ∀ j, j < 14 → ck_Holds l D cys ty ck_tags ck_pvs0 Ex (ck_tabP j) := by
  have hX1 : ck_ExP ty ck_prot1 Ex := ExP_mono prPA prPAl hX
  have hb := ch2 (l := l) (D := D) (cys := cys) hU hun (ch0 hU hun) (ch1 hU hun (ch0 hU hun)) Ex hX1
  have h0 : ck_Holds l D cys ty ck_tags ck_pvs0 Ex kc_89 := hb 89 (by decide)
  have h1 : ck_Holds l D cys ty ck_tags ck_pvs0 Ex kc_120 := hb 120 (by decide)
  have h2 : ck_Holds l D cys ty ck_tags ck_pvs0 Ex kc_122 := hb 122 (by decide)
  have h3 : ck_Holds l D cys ty ck_tags ck_pvs0 Ex kc_127 := hb 127 (by decide)
  have h4 : ck_Holds l D cys ty ck_tags ck_pvs0 Ex kc_129 := hb 129 (by decide)
  have h5 : ck_Holds l D cys ty ck_tags ck_pvs0 Ex kc_289 := hb 289 (by decide)
  have h6 : ck_Holds l D cys ty ck_tags ck_pvs0 Ex kc_290 := hb 290 (by decide)
  have h7 : ck_Holds l D cys ty ck_tags ck_pvs0 Ex kc_295 := hb 295 (by decide)
  have l8 : ∀ j, j < 8 → ck_Holds l D cys ty ck_tags ck_pvs0 Ex (ck_tabP j) := fun j hj => match j, hj with
    | 0, _ => h0
    | 1, _ => h1
    | 2, _ => h2
    | 3, _ => h3
    | 4, _ => h4
    | 5, _ => h5
    | 6, _ => h6
    | 7, _ => h7
    | n + 8, h => absurd h (by omega)
  have h8 : ck_Holds l D cys ty ck_tags ck_pvs0 Ex (ck_tabP 8) := ck_sound (k := kq_6_copyFrom_pt) ⟨lkX_c lkP_n, lkX_f lkP_n, lkP_m, hX, hU, pv_inj, l8⟩ (by decide +kernel) (by decide +kernel) okP_8
  have l9 : ∀ j, j < 9 → ck_Holds l D cys ty ck_tags ck_pvs0 Ex (ck_tabP j) := fun j hj => match j, hj with
    | 0, _ => h0
    | 1, _ => h1
    | 2, _ => h2
    | 3, _ => h3
    | 4, _ => h4
    | 5, _ => h5
    | 6, _ => h6
    | 7, _ => h7
    | 8, _ => h8
    | n + 9, h => absurd h (by omega)
  have h9 : ck_Holds l D cys ty ck_tags ck_pvs0 Ex (ck_tabP 9) := ck_sound (k := kq_6_copyFrom_pi) ⟨lkX_c lkP_n, lkX_f lkP_n, lkP_m, hX, hU, pv_inj, l9⟩ (by decide +kernel) (by decide +kernel) okP_9
  have l10 : ∀ j, j < 10 → ck_Holds l D cys ty ck_tags ck_pvs0 Ex (ck_tabP j) := fun j hj => match j, hj with
    | 0, _ => h0
    | 1, _ => h1
    | 2, _ => h2
    | 3, _ => h3
    | 4, _ => h4
    | 5, _ => h5
    | 6, _ => h6
    | 7, _ => h7
    | 8, _ => h8
    | 9, _ => h9
    | n + 10, h => absurd h (by omega)
  have h10 : ck_Holds l D cys ty ck_tags ck_pvs0 Ex (ck_tabP 10) := ck_sound (k := kq_6_copyFrom_pj) ⟨lkX_c lkP_n, lkX_f lkP_n, lkP_m, hX, hU, pv_inj, l10⟩ (by decide +kernel) (by decide +kernel) okP_10
  have l11 : ∀ j, j < 11 → ck_Holds l D cys ty ck_tags ck_pvs0 Ex (ck_tabP j) := fun j hj => match j, hj with
    | 0, _ => h0
    | 1, _ => h1
    | 2, _ => h2
    | 3, _ => h3
    | 4, _ => h4
    | 5, _ => h5
    | 6, _ => h6
    | 7, _ => h7
    | 8, _ => h8
    | 9, _ => h9
    | 10, _ => h10
    | n + 11, h => absurd h (by omega)
  have h11 : ck_Holds l D cys ty ck_tags ck_pvs0 Ex (ck_tabP 11) := ck_sound (k := kq_11_play) ⟨lkX_c lkP_n, lkX_f lkP_n, lkP_m, hX, hU, pv_inj, l11⟩ (by decide +kernel) (by decide +kernel) okP_11
  have l12 : ∀ j, j < 12 → ck_Holds l D cys ty ck_tags ck_pvs0 Ex (ck_tabP j) := fun j hj => match j, hj with
    | 0, _ => h0
    | 1, _ => h1
    | 2, _ => h2
    | 3, _ => h3
    | 4, _ => h4
    | 5, _ => h5
    | 6, _ => h6
    | 7, _ => h7
    | 8, _ => h8
    | 9, _ => h9
    | 10, _ => h10
    | 11, _ => h11
    | n + 12, h => absurd h (by omega)
  have h12 : ck_Holds l D cys ty ck_tags ck_pvs0 Ex (ck_tabP 12) := ck_sound (k := kq_11_restore_0) ⟨lkX_c lkP_n, lkX_f lkP_n, lkP_m, hX, hU, pv_inj, l12⟩ (by decide +kernel) (by decide +kernel) okP_12
  have l13 : ∀ j, j < 13 → ck_Holds l D cys ty ck_tags ck_pvs0 Ex (ck_tabP j) := fun j hj => match j, hj with
    | 0, _ => h0
    | 1, _ => h1
    | 2, _ => h2
    | 3, _ => h3
    | 4, _ => h4
    | 5, _ => h5
    | 6, _ => h6
    | 7, _ => h7
    | 8, _ => h8
    | 9, _ => h9
    | 10, _ => h10
    | 11, _ => h11
    | 12, _ => h12
    | n + 13, h => absurd h (by omega)
  have h13 : ck_Holds l D cys ty ck_tags ck_pvs0 Ex (ck_tabP 13) := ck_sound (k := kq_11_restore_1) ⟨lkX_c lkP_n, lkX_f lkP_n, lkP_m, hX, hU, pv_inj, l13⟩ (by decide +kernel) (by decide +kernel) okP_13
  exact fun j hj => match j, hj with
    | 0, _ => h0
    | 1, _ => h1
    | 2, _ => h2
    | 3, _ => h3
    | 4, _ => h4
    | 5, _ => h5
    | 6, _ => h6
    | 7, _ => h7
    | 8, _ => h8
    | 9, _ => h9
    | 10, _ => h10
    | 11, _ => h11
    | 12, _ => h12
    | 13, _ => h13
    | n + 14, h => absurd h (by omega)
end CHP
theorem prIA : ∀ t j, ck_pr (ck_protI t) j → ck_pr (ck_prot1 t) j := by
  intro t j h
  unfold ck_protI at h
  split at h
  · obtain ⟨q, hq, -⟩ := h; cases hq
  · exact h
theorem prIAl : ∀ t, ck_prot1 t = [] → ck_protI t = [] := by
  intro t h
  unfold ck_protI
  split
  · rfl
  · exact h
section CHI
variable {l : Launch} {D : va_G} {cys : Nat → ClassId} {ty : Nat → Option Nat} {Ex : va_W → Prop}
theorem chI (hU : ck_uq ty ck_pvs0) (hun : ck_un ty) (hX : ck_ExP ty ck_protI Ex) : ∀ j, j < 4 → ck_Holds l D cys ty ck_tags ck_pvs0 Ex (ck_tabI j) := by
  have hX1 : ck_ExP ty ck_prot1 Ex := ExP_mono prIA prIAl hX
  have hb := ch2 (l := l) (D := D) (cys := cys) hU hun (ch0 hU hun) (ch1 hU hun (ch0 hU hun)) Ex hX1
  have h0 : ck_Holds l D cys ty ck_tags ck_pvs0 Ex kc_125 := hb 125 (by decide)
  have h1 : ck_Holds l D cys ty ck_tags ck_pvs0 Ex kc_290 := hb 290 (by decide)
  have l2 : ∀ j, j < 2 → ck_Holds l D cys ty ck_tags ck_pvs0 Ex (ck_tabI j) := fun j hj => match j, hj with
    | 0, _ => h0
    | 1, _ => h1
    | n + 2, h => absurd h (by omega)
  have h2 : ck_Holds l D cys ty ck_tags ck_pvs0 Ex (ck_tabI 2) := ck_sound (k := kq_6_copyFrom_ip) ⟨lkX_c lkI_n, lkX_f lkI_n, lkI_m, hX, hU, pv_inj, l2⟩ (by decide +kernel) (by decide +kernel) okI_2
  have l3 : ∀ j, j < 3 → ck_Holds l D cys ty ck_tags ck_pvs0 Ex (ck_tabI j) := fun j hj => match j, hj with
    | 0, _ => h0
    | 1, _ => h1
    | 2, _ => h2
    | n + 3, h => absurd h (by omega)
  have h3 : ck_Holds l D cys ty ck_tags ck_pvs0 Ex (ck_tabI 3) := ck_sound (k := kq_11_image_0) ⟨lkX_c lkI_n, lkX_f lkI_n, lkI_m, hX, hU, pv_inj, l3⟩ (by decide +kernel) (by decide +kernel) okI_3
  exact fun j hj => match j, hj with
    | 0, _ => h0
    | 1, _ => h1
    | 2, _ => h2
    | 3, _ => h3
    | n + 4, h => absurd h (by omega)
end CHI
theorem prJA : ∀ t j, ck_pr (ck_protJ t) j → ck_pr (ck_prot1 t) j := by
  intro t j h
  unfold ck_protJ at h
  split at h
  · obtain ⟨q, hq, -⟩ := h; cases hq
  · exact h
theorem prJAl : ∀ t, ck_prot1 t = [] → ck_protJ t = [] := by
  intro t h
  unfold ck_protJ
  split
  · rfl
  · exact h
section CHJ
variable {l : Launch} {D : va_G} {cys : Nat → ClassId} {ty : Nat → Option Nat} {Ex : va_W → Prop}
theorem chJ (hU : ck_uq ty ck_pvs0) (hun : ck_un ty) (hX : ck_ExP ty ck_protJ Ex) : ∀ j, j < 4 → ck_Holds l D cys ty ck_tags ck_pvs0 Ex (ck_tabJ j) := by
  have hX1 : ck_ExP ty ck_prot1 Ex := ExP_mono prJA prJAl hX
  have hb := ch2 (l := l) (D := D) (cys := cys) hU hun (ch0 hU hun) (ch1 hU hun (ch0 hU hun)) Ex hX1
  have h0 : ck_Holds l D cys ty ck_tags ck_pvs0 Ex kc_128 := hb 128 (by decide)
  have h1 : ck_Holds l D cys ty ck_tags ck_pvs0 Ex kc_290 := hb 290 (by decide)
  have l2 : ∀ j, j < 2 → ck_Holds l D cys ty ck_tags ck_pvs0 Ex (ck_tabJ j) := fun j hj => match j, hj with
    | 0, _ => h0
    | 1, _ => h1
    | n + 2, h => absurd h (by omega)
  have h2 : ck_Holds l D cys ty ck_tags ck_pvs0 Ex (ck_tabJ 2) := ck_sound (k := kq_6_copyFrom_jp) ⟨lkX_c lkJ_n, lkX_f lkJ_n, lkJ_m, hX, hU, pv_inj, l2⟩ (by decide +kernel) (by decide +kernel) okJ_2
  have l3 : ∀ j, j < 3 → ck_Holds l D cys ty ck_tags ck_pvs0 Ex (ck_tabJ j) := fun j hj => match j, hj with
    | 0, _ => h0
    | 1, _ => h1
    | 2, _ => h2
    | n + 3, h => absurd h (by omega)
  have h3 : ck_Holds l D cys ty ck_tags ck_pvs0 Ex (ck_tabJ 3) := ck_sound (k := kq_11_image_1) ⟨lkX_c lkJ_n, lkX_f lkJ_n, lkJ_m, hX, hU, pv_inj, l3⟩ (by decide +kernel) (by decide +kernel) okJ_3
  exact fun j hj => match j, hj with
    | 0, _ => h0
    | 1, _ => h1
    | 2, _ => h2
    | 3, _ => h3
    | n + 4, h => absurd h (by omega)
end CHJ

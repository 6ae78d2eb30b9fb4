/-! append, four and both feeds: their contracts -/
theorem prNA : ∀ t j, ck_pr (ck_protN t) j → ck_pr (ck_protA t) j := by
  intro t j h
  unfold ck_protN at h
  split at h
  · obtain ⟨q, hq, -⟩ := h; cases hq
  · split at h
    · obtain ⟨q, hq, -⟩ := h; cases hq
    · exact pr0A t j (pr10 t j h)
theorem prNAl : ∀ t, ck_protA t = [] → ck_protN t = [] := by
  intro t h
  unfold ck_protN
  split
  · rfl
  · split
    · rfl
    · exact pr10l t (pr0Al t h)
section CHN
variable {l : Launch} {D : va_G} {cys : Nat → ClassId} {ty : Nat → Option Nat} {Ex : va_W → Prop}
theorem chN (hU : ck_uq ty ck_pvs0) (hun : ck_un ty) (hX : ck_ExP ty ck_protN Ex) : ∀ j, j < 6 → ck_Holds l D cys ty ck_tags ck_pvs0 Ex (ck_tabN j) := by
  have h0 : ck_Holds l D cys ty ck_tags ck_pvs0 Ex kc_164 := ch0 hU hun Ex (ExP_mono prNA prNAl hX) 164 (by decide)
  have h1 : ck_Holds l D cys ty ck_tags ck_pvs0 Ex kc_165 := ch0 hU hun Ex (ExP_mono prNA prNAl hX) 165 (by decide)
  have l2 : ∀ j, j < 2 → ck_Holds l D cys ty ck_tags ck_pvs0 Ex (ck_tabN j) := fun j hj => match j, hj with
    | 0, _ => h0
    | 1, _ => h1
    | n + 2, h => absurd h (by omega)
  have h2 : ck_Holds l D cys ty ck_tags ck_pvs0 Ex (ck_tabN 2) := ck_sound (k := kn_append) ⟨lkN_c, lkN_f, lkN_m, hX, hU, pv_inj, l2⟩ (by decide +kernel) (by decide +kernel) okN_2
  have l3 : ∀ j, j < 3 → ck_Holds l D cys ty ck_tags ck_pvs0 Ex (ck_tabN j) := fun j hj => match j, hj with
    | 0, _ => h0
    | 1, _ => h1
    | 2, _ => h2
    | n + 3, h => absurd h (by omega)
  have h3 : ck_Holds l D cys ty ck_tags ck_pvs0 Ex (ck_tabN 3) := ck_sound (k := kn_four) ⟨lkN_c, lkN_f, lkN_m, hX, hU, pv_inj, l3⟩ (by decide +kernel) (by decide +kernel) okN_3
  have l4 : ∀ j, j < 4 → ck_Holds l D cys ty ck_tags ck_pvs0 Ex (ck_tabN j) := fun j hj => match j, hj with
    | 0, _ => h0
    | 1, _ => h1
    | 2, _ => h2
    | 3, _ => h3
    | n + 4, h => absurd h (by omega)
  have h4 : ck_Holds l D cys ty ck_tags ck_pvs0 Ex (ck_tabN 4) := ck_sound (k := kn_feed11) ⟨lkN_c, lkN_f, lkN_m, hX, hU, pv_inj, l4⟩ (by decide +kernel) (by decide +kernel) okN_4
  have l5 : ∀ j, j < 5 → ck_Holds l D cys ty ck_tags ck_pvs0 Ex (ck_tabN j) := fun j hj => match j, hj with
    | 0, _ => h0
    | 1, _ => h1
    | 2, _ => h2
    | 3, _ => h3
    | 4, _ => h4
    | n + 5, h => absurd h (by omega)
  have h5 : ck_Holds l D cys ty ck_tags ck_pvs0 Ex (ck_tabN 5) := ck_sound (k := kn_feed12) ⟨lkN_c, lkN_f, lkN_m, hX, hU, pv_inj, l5⟩ (by decide +kernel) (by decide +kernel) okN_5
  exact fun j hj => match j, hj with
    | 0, _ => h0
    | 1, _ => h1
    | 2, _ => h2
    | 3, _ => h3
    | 4, _ => h4
    | 5, _ => h5
    | n + 6, h => absurd h (by omega)
end CHN

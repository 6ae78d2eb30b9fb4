/-! a long method checked in pieces -/
theorem ck_allD {α : Type} {l : List α} {f : α → Bool} (n : Nat) (h1 : (l.take n).all f = true) (h2 : (l.drop n).all f = true) : l.all f = true := by
  have h3 : (l.take n ++ l.drop n).all f = true := by
    rw [List.all_append, Bool.and_eq_true]
    exact ⟨h1, h2⟩
  rwa [List.take_append_drop] at h3
set_option maxRecDepth 100000 in
theorem ok_315_h : (decide (((k_pa kc_315).map ck_cat).sum ≤ k_ml kc_315) && decide (k_ml kc_315 < 900) && (k_pa kc_315).all (fun a => ck_le (ck_nod a) a) && (k_pr kc_315).all ck_ev && ck_run ck_tags ck_pvs0 ck_prot0 ck_LK ck_tab 315 kc_315 ck_top ([], [], []) 3000 0 (ck_entry kc_315)) = true := by decide +kernel
set_option maxRecDepth 100000 in
theorem ok_315_0 : ((k_an kc_315).take 5).all (ck_one ck_tags ck_pvs0 ck_prot0 ck_LK ck_tab 315 kc_315 3000) = true := by decide +kernel
set_option maxRecDepth 100000 in
theorem ok_315_1 : (((k_an kc_315).drop 5).take 5).all (ck_one ck_tags ck_pvs0 ck_prot0 ck_LK ck_tab 315 kc_315 3000) = true := by decide +kernel
set_option maxRecDepth 100000 in
theorem ok_315_2 : ((((k_an kc_315).drop 5).drop 5).take 5).all (ck_one ck_tags ck_pvs0 ck_prot0 ck_LK ck_tab 315 kc_315 3000) = true := by decide +kernel
set_option maxRecDepth 100000 in
theorem ok_315_3 : (((((k_an kc_315).drop 5).drop 5).drop 5).take 5).all (ck_one ck_tags ck_pvs0 ck_prot0 ck_LK ck_tab 315 kc_315 3000) = true := by decide +kernel

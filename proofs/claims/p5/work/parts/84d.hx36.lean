/-! BOTH CONTRACTS INSIDE A METHOD, 2: the class's book: judge, read, with the table that they leave. -/
section HX36
variable {l : Launch} {D : va_G} {cys : Nat → ClassId} {ty : Nat → Option Nat}
set_option maxRecDepth 100000 in
set_option maxHeartbeats 4000000 in
theorem hs_judge (hF : ck_LKf ck_LK) (hC : ck_LKc ck_LK) (hM : ck_LKm ck_tags ck_LK ck_tab) (hMh : ∀ q ∈ ck_hl, ck_mOK ck_tags q.1 q.2.1 q.2.2.1 q.2.2.2) (hU : ck_uq ty ck_pvs0) (hun : ck_un ty) (hH1 : ∀ Ex', ck_ExP ty ck_prot1 Ex' → ∀ j, j < 331 → ck_Holds l D cys ty ck_tags ck_pvs0 Ex' (ck_tab j)) {a0 a1 a2 a3 : Nat} {pvv0 : Nat → Int32} {C : Nat → Nat → Int32} (t0 : ty a0 = some 0) (t1 : ty a1 = some 6) (t2 : ty a2 = some 2) (t3 : ty a3 = some 1) (hp : ck_pvo ty (ck_XE pvv0) pP pvv0) (hG : gC C) : hr_Met l D cys ty ck_tags ck_pvs0 (tk ty ck_prot1 C) (ck_tab 331) [.ref a0, .ref a1, .ref a2, .ref a3] pvv0 (fun r pvv' E' => ck_pvo ty (ck_XE pvv') pP pvv' ∧ (∀ j, j < 32 → j ∉ [7] → pvv' j = pvv0 j) ∧ E' = tk ty ck_prot1 C ∧ ∃ z : Int32, r = some (.int z)) := by
  refine hr_enter (by decide +kernel) (by decide +kernel) (by decide +kernel) ⟨hr_aR t0, hr_aR t1, hr_aR t2, hr_aR t3, True.intro⟩ ?_
  intro p e s m below meth c ls B hl hW
  have hx := B.1
  have hb : c.code = cX0_judge := B.2.1
  have hI := pv_inj
  have hS : va_S (ck_own ty) s.heap s.heap [] := va_S.rf
  have hl : lv_has ls 6 [(0, .ref a0), (1, .ref a1), (2, .ref a2), (3, .ref a3)] := hl
  have hp0 := hp
  have hG0 := hG
  obtain ⟨G5, G1, G2, G3, G4⟩ := hG
  have l24 : ∀ (n24 : Nat) (k : Int32) (jo : Int32) (pvv : Nat → Int32) (ls : Array Slot) (H : Heap) (locs : List Loc), 40 - k.toInt < n24 → (0 ≤ k.toInt) → (k.toInt ≤ 40) → (∀ j, j < 32 → j ∉ [7] → pvv j = pvv0 j) → (ck_pvo ty (ck_XE pvv) pP pvv) → lv_has ls 6 [(5, .int k), (4, .int jo), (0, .ref a0), (1, .ref a1), (2, .ref a2), (3, .ref a3)] → ck_Wo D cys ty ck_tags ck_pvs0 (tk ty ck_prot1 C) pvv H → va_S (ck_own ty) s.heap H locs → W p l e (ck_rm (ck_tab 331)) s m [Value.ref a0, Value.ref a1, Value.ref a2, Value.ref a3].toArray below meth c H locs 0 0 (MQ below (hr_Q D cys ty ck_tags ck_pvs0 (fun r pvv' E' => ck_pvo ty (ck_XE pvv') pP pvv' ∧ (∀ j, j < 32 → j ∉ [7] → pvv' j = pvv0 j) ∧ E' = tk ty ck_prot1 C ∧ ∃ z : Int32, r = some (.int z))) [Value.ref a0, Value.ref a1, Value.ref a2, Value.ref a3].toArray s 0 0 (ck_own ty)) (F0 m 24 ls []) := by
    intro n24
    induction n24 with
    | zero => intro k jo pvv ls H locs hm24 k1 k2 sm hp hl hW hS; omega
    | succ n24 ih24 =>
      intro k jo pvv ls H locs hm24 k1 k2 sm hp hl hW hS
      refine lv_iload hx hb dX0_judge_24 (lv_at hl 0 rfl) ?_
      refine lv_aload_n hx hb dX0_judge_26 rfl (lv_at hl 2 rfl) ?_
      refine hr_getI B hF hb hW (ci := 0) (j := 0) (cd := 0) t0 rfl (isF (by decide +kernel)) rfl dX0_judge_27 (fun z27 lz27 uz27 pz27 xz27 => ?_)
      have xz27 := tk_xo xz27 (fun _ h => h) (pq := ck_prot1) (C := C) t0 (by decide); have kz27 := congrArg Int32.toInt xz27
      have e27 : z27.toInt = (C 0 0).toInt := by rw [kz27]
      refine hr_ge (tgt := 76) hx hb dX0_judge_30 (by decide) (fun h30 => ?_) (fun h30 => ?_)
      · refine lv_aload_n hx hb dX0_judge_76 rfl (lv_at hl 2 rfl) ?_
        refine lv_aload_n hx hb dX0_judge_77 rfl (lv_at hl 4 rfl) ?_
        refine hr_getI B hF hb hW (ci := 2) (j := 0) (cd := 0) t2 rfl (isF (by decide +kernel)) rfl dX0_judge_78 (fun z78 lz78 uz78 pz78 xz78 => ?_)
        refine hr_putN B hF hb hU hW hS (ci := 0) (j := 7) (cd := 0) t0 rfl (isF (by decide +kernel)) rfl (ck_lo _) (ck_hi _) (Or.inl rfl) (hr_EO (tk_X1 (C := C)) t0 (by decide)) (by decide) dX0_judge_81 (fun H locs hW hS => ?_)
        refine lv_aload_n hx hb dX0_judge_84 rfl (lv_at hl 2 rfl) ?_
        refine lv_aload_n hx hb dX0_judge_85 rfl (lv_at hl 4 rfl) ?_
        refine hr_getI B hF hb hW (ci := 2) (j := 1) (cd := 0) t2 rfl (isF (by decide +kernel)) rfl dX0_judge_86 (fun z86 lz86 uz86 pz86 xz86 => ?_)
        refine lv_iload hx hb dX0_judge_89 (lv_at hl 1 rfl) ?_
        refine lv_isub hx hb dX0_judge_91 (lv_topi (fun z91 hz91 => ?_))
        refine hr_putN B hF hb hU hW hS (ci := 0) (j := 8) (cd := 0) t0 rfl (isF (by decide +kernel)) rfl (ck_lo _) (ck_hi _) (Or.inl rfl) (hr_EO (tk_X1 (C := C)) t0 (by decide)) (by decide) dX0_judge_92 (fun H locs hW hS => ?_)
        refine lv_aload_n hx hb dX0_judge_95 rfl (lv_at hl 2 rfl) ?_
        refine hr_getI B hF hb hW (ci := 0) (j := 5) (cd := 0) t0 rfl (isF (by decide +kernel)) rfl dX0_judge_96 (fun z96 lz96 uz96 pz96 xz96 => ?_)
        refine hr_ne0 (tgt := 106) hx hb dX0_judge_99 (by decide) (fun h99 => ?_) (fun h99 => ?_)
        · refine lv_aload_n hx hb dX0_judge_106 rfl (lv_at hl 2 rfl) ?_
          refine hr_getI B hF hb hW (ci := 0) (j := 6) (cd := 0) t0 rfl (isF (by decide +kernel)) rfl dX0_judge_107 (fun z107 lz107 uz107 pz107 xz107 => ?_)
          exact hr_iret B hb rfl ⟨hp, sm, rfl, z107, rfl⟩ hW hS dX0_judge_110
        · refine hr_ic hx hb dX0_judge_102 (by decide) (fun z102 hz102 => ?_)
          refine lv_goto (tgt := 110) hx hb dX0_judge_103 (by decide) ?_
          exact hr_iret B hb rfl ⟨hp, sm, rfl, z102, rfl⟩ hW hS dX0_judge_110
      · refine lv_aload_n hx hb dX0_judge_33 rfl (lv_at hl 2 rfl) ?_
        refine hr_getI B hF hb hW (ci := 0) (j := 5) (cd := 0) t0 rfl (isF (by decide +kernel)) rfl dX0_judge_34 (fun z34 lz34 uz34 pz34 xz34 => ?_)
        refine hr_ne0 (tgt := 76) hx hb dX0_judge_37 (by decide) (fun h37 => ?_) (fun h37 => ?_)
        · refine lv_aload_n hx hb dX0_judge_76 rfl (lv_at hl 2 rfl) ?_
          refine lv_aload_n hx hb dX0_judge_77 rfl (lv_at hl 4 rfl) ?_
          refine hr_getI B hF hb hW (ci := 2) (j := 0) (cd := 0) t2 rfl (isF (by decide +kernel)) rfl dX0_judge_78 (fun z78 lz78 uz78 pz78 xz78 => ?_)
          refine hr_putN B hF hb hU hW hS (ci := 0) (j := 7) (cd := 0) t0 rfl (isF (by decide +kernel)) rfl (ck_lo _) (ck_hi _) (Or.inl rfl) (hr_EO (tk_X1 (C := C)) t0 (by decide)) (by decide) dX0_judge_81 (fun H locs hW hS => ?_)
          refine lv_aload_n hx hb dX0_judge_84 rfl (lv_at hl 2 rfl) ?_
          refine lv_aload_n hx hb dX0_judge_85 rfl (lv_at hl 4 rfl) ?_
          refine hr_getI B hF hb hW (ci := 2) (j := 1) (cd := 0) t2 rfl (isF (by decide +kernel)) rfl dX0_judge_86 (fun z86 lz86 uz86 pz86 xz86 => ?_)
          refine lv_iload hx hb dX0_judge_89 (lv_at hl 1 rfl) ?_
          refine lv_isub hx hb dX0_judge_91 (lv_topi (fun z91 hz91 => ?_))
          refine hr_putN B hF hb hU hW hS (ci := 0) (j := 8) (cd := 0) t0 rfl (isF (by decide +kernel)) rfl (ck_lo _) (ck_hi _) (Or.inl rfl) (hr_EO (tk_X1 (C := C)) t0 (by decide)) (by decide) dX0_judge_92 (fun H locs hW hS => ?_)
          refine lv_aload_n hx hb dX0_judge_95 rfl (lv_at hl 2 rfl) ?_
          refine hr_getI B hF hb hW (ci := 0) (j := 5) (cd := 0) t0 rfl (isF (by decide +kernel)) rfl dX0_judge_96 (fun z96 lz96 uz96 pz96 xz96 => ?_)
          refine hr_ne0 (tgt := 106) hx hb dX0_judge_99 (by decide) (fun h99 => ?_) (fun h99 => ?_)
          · refine lv_aload_n hx hb dX0_judge_106 rfl (lv_at hl 2 rfl) ?_
            refine hr_getI B hF hb hW (ci := 0) (j := 6) (cd := 0) t0 rfl (isF (by decide +kernel)) rfl dX0_judge_107 (fun z107 lz107 uz107 pz107 xz107 => ?_)
            exact hr_iret B hb rfl ⟨hp, sm, rfl, z107, rfl⟩ hW hS dX0_judge_110
          · refine hr_ic hx hb dX0_judge_102 (by decide) (fun z102 hz102 => ?_)
            refine lv_goto (tgt := 110) hx hb dX0_judge_103 (by decide) ?_
            exact hr_iret B hb rfl ⟨hp, sm, rfl, z102, rfl⟩ hW hS dX0_judge_110
        · refine lv_aload_n hx hb dX0_judge_40 rfl (lv_at hl 2 rfl) ?_
          refine lv_aload_n hx hb dX0_judge_41 rfl (lv_at hl 2 rfl) ?_
          refine lv_iload hx hb dX0_judge_42 (lv_at hl 0 rfl) ?_
          refine lv_aload_n hx hb dX0_judge_44 rfl (lv_at hl 3 rfl) ?_
          refine lv_aload_n hx hb dX0_judge_45 rfl (lv_at hl 4 rfl) ?_
          refine lv_aload_n hx hb dX0_judge_46 rfl (lv_at hl 5 rfl) ?_
          refine hr_callV (kc := kh_0_whyWrong) B rfl hb hl (hMh _ (List.mem_of_getElem? (i := 1) rfl)) (b := a0) (As := [.int k, .ref a1, .ref a2, .ref a3]) (hs_whyWrong hF hC hM hMh hU hun hH1 t0 t1 t2 t3 hp (by omega) (by omega) (G1 k.toInt.toNat (by omega))) ⟨hr_aR t0, hr_aI (by omega) (by omega), hr_aR t1, hr_aR t2, hr_aR t3, True.intro⟩ hW hS rfl (by decide) (by decide) (Nat.le_of_ble_eq_true rfl) dX0_judge_47 (fun r pvv47 E47 H locs hpost hW hS => ?_)
          obtain ⟨hp, sm1, rfl, z47, rfl, y1, y2⟩ := hpost
          have sm : ∀ j, j < 32 → j ∉ [7] → pvv47 j = pvv0 j := fun j h1 h2 => (sm1 j h1 h2).trans (sm j h1 h2)
          refine hr_putN B hF hb hU hW hS (ci := 0) (j := 5) (cd := 0) t0 rfl (isF (by decide +kernel)) rfl (by omega) (by omega) (Or.inl rfl) (hr_EO (tk_X1 (C := C)) t0 (by decide)) (by decide) dX0_judge_50 (fun H locs hW hS => ?_)
          refine lv_aload_n hx hb dX0_judge_53 rfl (lv_at hl 2 rfl) ?_
          refine hr_getI B hF hb hW (ci := 0) (j := 5) (cd := 0) t0 rfl (isF (by decide +kernel)) rfl dX0_judge_54 (fun z54 lz54 uz54 pz54 xz54 => ?_)
          refine hr_ne0 (tgt := 70) hx hb dX0_judge_57 (by decide) (fun h57 => ?_) (fun h57 => ?_)
          · refine hr_inc hx hb dX0_judge_70 hl (kq := 0) (lv' := fun v => [(5, .int v), (4, .int jo), (0, .ref a0), (1, .ref a1), (2, .ref a2), (3, .ref a3)]) rfl (by decide) (by decide) (by omega) (by omega) (fun _ => rfl) (fun z70 ls hz70 hl => ?_)
            refine lv_goto (tgt := 24) hx hb dX0_judge_73 (by decide) ?_
            exact ih24 z70 jo pvv47 _ _ _ (by omega) (by omega) (by omega) sm hp hl hW hS
          · refine lv_aload_n hx hb dX0_judge_60 rfl (lv_at hl 2 rfl) ?_
            refine lv_dup hx hb dX0_judge_61 rfl ?_
            refine hr_getI B hF hb hW (ci := 0) (j := 6) (cd := 0) t0 rfl (isF (by decide +kernel)) rfl dX0_judge_62 (fun z62 lz62 uz62 pz62 xz62 => ?_)
            refine hr_ic hx hb dX0_judge_65 (by decide) (fun z65 hz65 => ?_)
            refine lv_iadd hx hb dX0_judge_66 (lv_topi (fun z66 hz66 => ?_))
            refine hr_putN B hF hb hU hW hS (ci := 0) (j := 6) (cd := 0) t0 rfl (isF (by decide +kernel)) rfl (ck_lo _) (ck_hi _) (Or.inl rfl) (hr_EO (tk_X1 (C := C)) t0 (by decide)) (by decide) dX0_judge_67 (fun H locs hW hS => ?_)
            refine hr_inc hx hb dX0_judge_70 hl (kq := 0) (lv' := fun v => [(5, .int v), (4, .int jo), (0, .ref a0), (1, .ref a1), (2, .ref a2), (3, .ref a3)]) rfl (by decide) (by decide) (by omega) (by omega) (fun _ => rfl) (fun z70 ls hz70 hl => ?_)
            refine lv_goto (tgt := 24) hx hb dX0_judge_73 (by decide) ?_
            exact ih24 z70 jo pvv47 _ _ _ (by omega) (by omega) (by omega) sm hp hl hW hS
  refine lv_aload_n hx hb dX0_judge_0 rfl (lv_at hl 2 rfl) ?_
  refine hr_getI B hF hb hW (ci := 2) (j := 1) (cd := 0) t2 rfl (isF (by decide +kernel)) rfl dX0_judge_1 (fun z1 lz1 uz1 pz1 xz1 => ?_)
  refine lv_istore hx hb dX0_judge_4 hl (lv' := [(4, .int z1), (0, .ref a0), (1, .ref a1), (2, .ref a2), (3, .ref a3)]) (by decide) rfl (fun ls hl => ?_)
  refine lv_aload_n hx hb dX0_judge_6 rfl (lv_at hl 1 rfl) ?_
  refine hr_ic hx hb dX0_judge_7 (by decide) (fun z7 hz7 => ?_)
  refine hr_putN B hF hb hU hW hS (ci := 0) (j := 4) (cd := 1) t0 rfl (isF (by decide +kernel)) rfl (by omega) (by omega) (Or.inr ⟨rfl, by omega, by omega⟩) (hr_EO (tk_X1 (C := C)) t0 (by decide)) (by decide) dX0_judge_8 (fun H locs hW hS => ?_)
  refine lv_aload_n hx hb dX0_judge_11 rfl (lv_at hl 1 rfl) ?_
  refine hr_ic hx hb dX0_judge_12 (by decide) (fun z12 hz12 => ?_)
  refine hr_putN B hF hb hU hW hS (ci := 0) (j := 5) (cd := 0) t0 rfl (isF (by decide +kernel)) rfl (by omega) (by omega) (Or.inl rfl) (hr_EO (tk_X1 (C := C)) t0 (by decide)) (by decide) dX0_judge_13 (fun H locs hW hS => ?_)
  refine lv_aload_n hx hb dX0_judge_16 rfl (lv_at hl 1 rfl) ?_
  refine hr_ic hx hb dX0_judge_17 (by decide) (fun z17 hz17 => ?_)
  refine hr_putN B hF hb hU hW hS (ci := 0) (j := 6) (cd := 0) t0 rfl (isF (by decide +kernel)) rfl (ck_lo _) (ck_hi _) (Or.inl rfl) (hr_EO (tk_X1 (C := C)) t0 (by decide)) (by decide) dX0_judge_18 (fun H locs hW hS => ?_)
  refine hr_ic hx hb dX0_judge_21 (by decide) (fun z21 hz21 => ?_)
  refine lv_istore hx hb dX0_judge_22 hl (lv' := [(5, .int z21), (4, .int z1), (0, .ref a0), (1, .ref a1), (2, .ref a2), (3, .ref a3)]) (by decide) rfl (fun ls hl => ?_)
  have sm : ∀ j, j < 32 → j ∉ [7] → pvv0 j = pvv0 j := fun _ _ _ => rfl
  exact l24 41 z21 z1 pvv0 _ _ _ (by omega) (by omega) (by omega) sm hp (lv_sub hl [0, 1, 2, 3, 4, 5] rfl) hW hS
set_option maxRecDepth 100000 in
set_option maxHeartbeats 4000000 in
theorem hs_read (hF : ck_LKf ck_LK) (hC : ck_LKc ck_LK) (hM : ck_LKm ck_tags ck_LK ck_tab) (hMh : ∀ q ∈ ck_hl, ck_mOK ck_tags q.1 q.2.1 q.2.2.1 q.2.2.2) (hU : ck_uq ty ck_pvs0) (hun : ck_un ty) (hH1 : ∀ Ex', ck_ExP ty ck_prot1 Ex' → ∀ j, j < 331 → ck_Holds l D cys ty ck_tags ck_pvs0 Ex' (ck_tab j)) {a0 a1 a2 : Nat} {pvv0 : Nat → Int32} {C : Nat → Nat → Int32} (t0 : ty a0 = some 0) (t1 : ty a1 = some 8) (t2 : ty a2 = some 6) (hp : ck_pvo ty (ck_XE pvv0) pP pvv0) (hG : gC C) : hr_Met l D cys ty ck_tags ck_pvs0 (tk ty ck_prot1 C) (ck_tab 332) [.ref a0, .ref a1, .ref a2] pvv0 (fun r pvv' E' => r = none ∧ ck_pvo ty (ck_XE pvv') pP pvv' ∧ (∀ j, j < 32 → j ∉ [1, 25] → pvv' j = pvv0 j) ∧ ∃ C' : Nat → Nat → Int32, E' = tk ty ck_prot1 C' ∧ gC C' ∧ ∀ t j, t ∉ [29, 30, 31] → ¬ (t = 0 ∧ j = 0) → C' t j = C t j) := by
  refine hr_enter (by decide +kernel) (by decide +kernel) (by decide +kernel) ⟨hr_aR t0, hr_aR t1, hr_aR t2, True.intro⟩ ?_
  intro p e s m below meth c ls B hl hW
  have hx := B.1
  have hb : c.code = cX0_read := B.2.1
  have hI := pv_inj
  have hS : va_S (ck_own ty) s.heap s.heap [] := va_S.rf
  have hl : lv_has ls 4 [(0, .ref a0), (1, .ref a1), (2, .ref a2)] := hl
  have hp0 := hp
  have hG0 := hG
  obtain ⟨G5, G1, G2, G3, G4⟩ := hG
  have l7 : ∀ (n7 : Nat) (k : Int32) (pvv : Nat → Int32) (C2 : Nat → Nat → Int32) (ls : Array Slot) (H : Heap) (locs : List Loc), 401 - k.toInt < n7 → (0 ≤ k.toInt) → (k.toInt ≤ 401) → (∀ j, j < 32 → j ∉ [1, 25] → pvv j = pvv0 j) → (∀ t j, t ∉ [29, 30, 31] → ¬ (t = 0 ∧ j = 0) → C2 t j = C t j) → (g1C C2) → (0 ≤ (C2 0 0).toInt ∧ (C2 0 0).toInt ≤ 40) → (ck_pvo ty (ck_XE pvv) pP pvv) → lv_has ls 4 [(3, .int k), (0, .ref a0), (1, .ref a1), (2, .ref a2)] → ck_Wo D cys ty ck_tags ck_pvs0 (tk ty ck_prot1 C2) pvv H → va_S (ck_own ty) s.heap H locs → W p l e (ck_rm (ck_tab 332)) s m [Value.ref a0, Value.ref a1, Value.ref a2].toArray below meth c H locs 0 0 (MQ below (hr_Q D cys ty ck_tags ck_pvs0 (fun r pvv' E' => r = none ∧ ck_pvo ty (ck_XE pvv') pP pvv' ∧ (∀ j, j < 32 → j ∉ [1, 25] → pvv' j = pvv0 j) ∧ ∃ C' : Nat → Nat → Int32, E' = tk ty ck_prot1 C' ∧ gC C' ∧ ∀ t j, t ∉ [29, 30, 31] → ¬ (t = 0 ∧ j = 0) → C' t j = C t j)) [Value.ref a0, Value.ref a1, Value.ref a2].toArray s 0 0 (ck_own ty)) (F0 m 7 ls []) := by
    intro n7
    induction n7 with
    | zero => intro k pvv C2 ls H locs hm7 k1 k2 sm hT g1 tl hp hl hW hS; omega
    | succ n7 ih7 =>
      intro k pvv C2 ls H locs hm7 k1 k2 sm hT g1 tl hp hl hW hS
      refine lv_iload_n hx hb dX0_read_7 rfl (lv_at hl 0 rfl) ?_
      refine hr_sp hx hb dX0_read_8 (by decide) (by decide) (fun z8 hz8 => ?_)
      refine hr_gt (tgt := 64) hx hb dX0_read_11 (by decide) (fun h11 => ?_) (fun h11 => ?_)
      · have hGn : gC C2 := by
          refine ⟨g5_of G5 (fun j => hT 15 j (by decide) (by simp)) (fun j => hT 49 j (by decide) (by simp)) (fun j => hT 16 j (by decide) (by simp)) (fun j => hT 50 j (by decide) (by simp)) (fun t j ht => hT t j (g6_l ht (by decide)) (fun q => g6_ne ht (n := 0) (by decide) q.1)) (fun j _ => hT 34 j (by decide) (by simp)), g1, fun j hj => ?_, fun k hk hk2 => ?_, ?_⟩
          · rw [hT 12 22 (by decide) (by decide)] at hj
            rw [hT 37 _ (by decide) (by simp), hT 34 _ (by decide) (by simp)]
            exact G2 j hj
          · rw [hT 46 k (by decide) (by simp)] at hk2
            rw [hT 45 _ (by decide) (by simp), hT 45 _ (by decide) (by simp)]
            refine ⟨(G3 k hk hk2).1, ?_⟩
            have e9 : (fun i => C2 45 (367 * k + 186 + i)) = (fun i => C 45 (367 * k + 186 + i)) := funext (fun i => hT 45 _ (by decide) (by simp))
            rw [e9]; exact (G3 k hk hk2).2
          · have e9 : (fun i => C2 34 (186 + i)) = (fun i => C 34 (186 + i)) := funext (fun i => hT 34 _ (by decide) (by simp))
            unfold g4C; rw [e9]; exact G4
        exact hr_vret B hb rfl ⟨rfl, hp, sm, C2, rfl, hGn, hT⟩ hW hS dX0_read_64
      · refine lv_aload_n hx hb dX0_read_14 rfl (lv_at hl 2 rfl) ?_
        refine hr_getI B hF hb hW (ci := 8) (j := 4) (cd := 0) t1 rfl (isF (by decide +kernel)) rfl dX0_read_15 (fun z15 lz15 uz15 pz15 xz15 => ?_)
        refine hr_eq0 (tgt := 64) hx hb dX0_read_18 (by decide) (fun h18 => ?_) (fun h18 => ?_)
        · have hGn : gC C2 := by
            refine ⟨g5_of G5 (fun j => hT 15 j (by decide) (by simp)) (fun j => hT 49 j (by decide) (by simp)) (fun j => hT 16 j (by decide) (by simp)) (fun j => hT 50 j (by decide) (by simp)) (fun t j ht => hT t j (g6_l ht (by decide)) (fun q => g6_ne ht (n := 0) (by decide) q.1)) (fun j _ => hT 34 j (by decide) (by simp)), g1, fun j hj => ?_, fun k hk hk2 => ?_, ?_⟩
            · rw [hT 12 22 (by decide) (by decide)] at hj
              rw [hT 37 _ (by decide) (by simp), hT 34 _ (by decide) (by simp)]
              exact G2 j hj
            · rw [hT 46 k (by decide) (by simp)] at hk2
              rw [hT 45 _ (by decide) (by simp), hT 45 _ (by decide) (by simp)]
              refine ⟨(G3 k hk hk2).1, ?_⟩
              have e9 : (fun i => C2 45 (367 * k + 186 + i)) = (fun i => C 45 (367 * k + 186 + i)) := funext (fun i => hT 45 _ (by decide) (by simp))
              rw [e9]; exact (G3 k hk hk2).2
            · have e9 : (fun i => C2 34 (186 + i)) = (fun i => C 34 (186 + i)) := funext (fun i => hT 34 _ (by decide) (by simp))
              unfold g4C; rw [e9]; exact G4
          exact hr_vret B hb rfl ⟨rfl, hp, sm, C2, rfl, hGn, hT⟩ hW hS dX0_read_64
        · refine lv_aload_n hx hb dX0_read_21 rfl (lv_at hl 1 rfl) ?_
          refine lv_aload_n hx hb dX0_read_22 rfl (lv_at hl 2 rfl) ?_
          refine lv_aload_n hx hb dX0_read_23 rfl (lv_at hl 3 rfl) ?_
          refine hr_callV (kc := kh_0_readLine) B rfl hb hl (hMh _ (List.mem_of_getElem? (i := 0) rfl)) (b := a0) (As := [.ref a1, .ref a2]) (hs_readLine hF hC hM hMh hU hun hH1 t0 t1 t2 hp tl) ⟨hr_aR t0, hr_aR t1, hr_aR t2, True.intro⟩ hW hS rfl (by decide) (by decide) (Nat.le_of_ble_eq_true rfl) dX0_read_24 (fun r pvv24 E24 H locs hpost hW hS => ?_)
          obtain ⟨rfl, hp, sm1, C24, rfl, f1, f2, f3⟩ := hpost
          have sm : ∀ j, j < 32 → j ∉ [1, 25] → pvv24 j = pvv0 j := fun j h1 h2 => (sm1 j h1 h2).trans (sm j h1 h2)
          have hT2 : ∀ t j, t ∉ [29, 30, 31] → ¬ (t = 0 ∧ j = 0) → C24 t j = C t j := fun t j h1 h2 => (f1 t j h1).trans (hT t j h1 h2)
          have el : (C24 0 0).toInt = (C2 0 0).toInt := by rw [f1 0 0 (by decide)]
          have g2 : g1C C24 := fun k9 hk9 h9 => by
            rw [el] at hk9
            obtain ⟨q1, q2, q3⟩ := f2 k9 (by omega)
            rw [q1] at h9
            rw [q2, q3]; exact g1 k9 hk9 h9
          refine lv_aload_n hx hb dX0_read_27 rfl (lv_at hl 2 rfl) ?_
          refine cm_callV (kc := kc_36) B rfl hb hl (hM.1 _ _ 0 [36] (isM (by decide +kernel)) 36 (by decide)) (hH1 _ tk_X1 36 (by decide)) (b := a1) (As := []) ⟨hr_aR t1, True.intro⟩ hp hW hS rfl (by decide) (by decide) (Nat.le_of_ble_eq_true rfl) dX0_read_28 (fun cs hcs r pvv28 H locs hca hW hS => ?_)
          rcases List.mem_cons.mp hcs with rfl | hcs
          · obtain ⟨hr, hq, hc⟩ := hca
            obtain ⟨z28, rfl, lz28, uz28⟩ := hr_rvI hr
            have e28r25 := hr_pv hc 25 (lo := 1) (hi := 4) rfl; rw [hr_same1 hc (j := 25) (by decide +kernel)] at e28r25
            have hW := hr_pvE (hr_sameA hc rfl (by decide +kernel)) hW
            refine hr_eq0 (tgt := 40) hx hb dX0_read_31 (by decide) (fun h31 => ?_) (fun h31 => ?_)
            · refine lv_aload_n hx hb dX0_read_40 rfl (lv_at hl 2 rfl) ?_
              refine cm_callV (kc := kc_36) B rfl hb hl (hM.1 _ _ 0 [36] (isM (by decide +kernel)) 36 (by decide)) (hH1 _ tk_X1 36 (by decide)) (b := a1) (As := []) ⟨hr_aR t1, True.intro⟩ hp hW hS rfl (by decide) (by decide) (Nat.le_of_ble_eq_true rfl) dX0_read_41 (fun cs hcs r pvv41 H locs hca hW hS => ?_)
              rcases List.mem_cons.mp hcs with rfl | hcs
              · obtain ⟨hr, hq, hc⟩ := hca
                obtain ⟨z41, rfl, lz41, uz41⟩ := hr_rvI hr
                have e41r25 := hr_pv hc 25 (lo := 1) (hi := 4) rfl; rw [hr_same1 hc (j := 25) (by decide +kernel)] at e41r25
                have hW := hr_pvE (hr_sameA hc rfl (by decide +kernel)) hW
                refine hr_ne0 (tgt := 48) hx hb dX0_read_44 (by decide) (fun h44 => ?_) (fun h44 => ?_)
                · omega
                · have hGn : gC C24 := by
                    refine ⟨g5_of G5 (fun j => hT2 15 j (by decide) (by simp)) (fun j => hT2 49 j (by decide) (by simp)) (fun j => hT2 16 j (by decide) (by simp)) (fun j => hT2 50 j (by decide) (by simp)) (fun t j ht => hT2 t j (g6_l ht (by decide)) (fun q => g6_ne ht (n := 0) (by decide) q.1)) (fun j _ => hT2 34 j (by decide) (by simp)), g2, fun j hj => ?_, fun k hk hk2 => ?_, ?_⟩
                    · rw [hT2 12 22 (by decide) (by decide)] at hj
                      rw [hT2 37 _ (by decide) (by simp), hT2 34 _ (by decide) (by simp)]
                      exact G2 j hj
                    · rw [hT2 46 k (by decide) (by simp)] at hk2
                      rw [hT2 45 _ (by decide) (by simp), hT2 45 _ (by decide) (by simp)]
                      refine ⟨(G3 k hk hk2).1, ?_⟩
                      have e9 : (fun i => C24 45 (367 * k + 186 + i)) = (fun i => C 45 (367 * k + 186 + i)) := funext (fun i => hT2 45 _ (by decide) (by simp))
                      rw [e9]; exact (G3 k hk hk2).2
                    · have e9 : (fun i => C24 34 (186 + i)) = (fun i => C 34 (186 + i)) := funext (fun i => hT2 34 _ (by decide) (by simp))
                      unfold g4C; rw [e9]; exact G4
                  exact hr_vret B hb rfl ⟨rfl, hp, sm, C24, rfl, hGn, hT2⟩ hW hS dX0_read_47
              obtain rfl := List.mem_singleton.mp hcs
              obtain ⟨hr, hq, hc⟩ := hca
              obtain ⟨z41, rfl, lz41, uz41⟩ := hr_rvI hr
              have e41r25 := hr_pv hc 25 (lo := 0) (hi := 0) rfl; rw [hr_same1 hc (j := 25) (by decide +kernel)] at e41r25
              have hW := hr_pvE (hr_sameA hc rfl (by decide +kernel)) hW
              refine hr_ne0 (tgt := 48) hx hb dX0_read_44 (by decide) (fun h44 => ?_) (fun h44 => ?_)
              · refine lv_aload_n hx hb dX0_read_48 rfl (lv_at hl 1 rfl) ?_
                refine lv_dup hx hb dX0_read_49 rfl ?_
                refine hr_getI B hF hb hW (ci := 0) (j := 0) (cd := 0) t0 rfl (isF (by decide +kernel)) rfl dX0_read_50 (fun z50 lz50 uz50 pz50 xz50 => ?_)
                have xz50 := tk_xo xz50 (fun _ h => h) (pq := ck_prot1) (C := C24) t0 (by decide); have kz50 := congrArg Int32.toInt xz50
                have e50 : z50.toInt = (C2 0 0).toInt := by rw [kz50]; exact el
                have f3 := f3 (by omega)
                refine hr_ic hx hb dX0_read_53 (by decide) (fun z53 hz53 => ?_)
                refine hr_add hx hb dX0_read_54 (by omega) (by omega) (fun z54 hz54 => ?_)
                refine hr_putN B hF hb hU hW hS (ci := 0) (j := 0) (cd := 0) t0 rfl (isF (by decide +kernel)) rfl (by omega) (by omega) (Or.inl rfl) (tk_EO t0 (fun a h => hun 0 (by decide) _ _ t0 h) (by decide)) (by decide) dX0_read_55 (fun H locs hW hS => ?_)
                obtain ⟨C55, c55⟩ : ∃ f, f = tk_upd C24 0 (0) z54 := ⟨_, rfl⟩
                rw [← c55] at hW
                refine hr_inc hx hb dX0_read_58 hl (kq := 0) (lv' := fun v => [(3, .int v), (0, .ref a0), (1, .ref a1), (2, .ref a2)]) rfl (by decide) (by decide) (by omega) (by omega) (fun _ => rfl) (fun z58 ls hz58 hl => ?_)
                refine lv_goto (tgt := 7) hx hb dX0_read_61 (by decide) ?_
                refine ih7 z58 pvv24 C55 _ _ _ (by omega) (by omega) (by omega) sm (fun t j h1 h2 => ?_) (fun k9 hk9 h9 => ?_) ?_ hp hl hW hS
                · rw [c55, tk_un h2]; exact hT2 t j h1 h2
                · have e9 : ∀ t j, t ≠ 0 → C55 t j = C24 t j := fun t j h => by rw [c55, tk_unt h]
                  rw [e9 _ _ (by decide)] at h9
                  rw [e9 _ _ (by decide), e9 _ _ (by decide)]
                  rw [c55, tk_us] at hk9
                  by_cases e8 : k9 = (C2 0 0).toInt.toNat
                  · rw [e8] at h9 ⊢; exact f3.2 h9
                  · exact g2 k9 (by omega) h9
                · rw [c55, tk_us]; omega
              · omega
            · omega
          obtain rfl := List.mem_singleton.mp hcs
          obtain ⟨hr, hq, hc⟩ := hca
          obtain ⟨z28, rfl, lz28, uz28⟩ := hr_rvI hr
          have e28r25 := hr_pv hc 25 (lo := 0) (hi := 0) rfl; rw [hr_same1 hc (j := 25) (by decide +kernel)] at e28r25
          have hW := hr_pvE (hr_sameA hc rfl (by decide +kernel)) hW
          refine hr_eq0 (tgt := 40) hx hb dX0_read_31 (by decide) (fun h31 => ?_) (fun h31 => ?_)
          · omega
          · refine lv_aload_n hx hb dX0_read_34 rfl (lv_at hl 2 rfl) ?_
            refine hr_bp hx hb dX0_read_35 (by decide) (by decide) (fun z35 hz35 => ?_)
            refine cm_callV (kc := kc_68) B rfl hb hl (hM.1 _ _ 0 [68] (isM (by decide +kernel)) 68 (by decide)) (hH1 _ tk_X1 68 (by decide)) (b := a1) (As := [.int z35]) ⟨hr_aR t1, hr_aF, True.intro⟩ hp hW hS rfl (by decide) (by decide) (Nat.le_of_ble_eq_true rfl) dX0_read_37 (fun cs hcs r pvv37 H locs hca hW hS => ?_)
            obtain rfl := List.mem_singleton.mp hcs
            obtain ⟨hr, hq, hc⟩ := hca
            obtain rfl := hr_rv0 hr
            have hp := hr_std hp hc (by decide +kernel)
            have e37r25 := hr_pv hc 25 (lo := 0) (hi := 4) rfl
            have sm : ∀ j, j < 32 → j ∉ [1, 25] → pvv37 j = pvv0 j := fun j h1 h2 => (hr_sameX (l := [1, 25]) hc (by decide +kernel) j h1 h2).trans (sm j h1 h2)
            refine lv_aload_n hx hb dX0_read_40 rfl (lv_at hl 2 rfl) ?_
            refine cm_callV (kc := kc_36) B rfl hb hl (hM.1 _ _ 0 [36] (isM (by decide +kernel)) 36 (by decide)) (hH1 _ tk_X1 36 (by decide)) (b := a1) (As := []) ⟨hr_aR t1, True.intro⟩ hp hW hS rfl (by decide) (by decide) (Nat.le_of_ble_eq_true rfl) dX0_read_41 (fun cs hcs r pvv41 H locs hca hW hS => ?_)
            rcases List.mem_cons.mp hcs with rfl | hcs
            · obtain ⟨hr, hq, hc⟩ := hca
              obtain ⟨z41, rfl, lz41, uz41⟩ := hr_rvI hr
              have e41r25 := hr_pv hc 25 (lo := 1) (hi := 4) rfl; rw [hr_same1 hc (j := 25) (by decide +kernel)] at e41r25
              have hW := hr_pvE (hr_sameA hc rfl (by decide +kernel)) hW
              refine hr_ne0 (tgt := 48) hx hb dX0_read_44 (by decide) (fun h44 => ?_) (fun h44 => ?_)
              · omega
              · have hGn : gC C24 := by
                  refine ⟨g5_of G5 (fun j => hT2 15 j (by decide) (by simp)) (fun j => hT2 49 j (by decide) (by simp)) (fun j => hT2 16 j (by decide) (by simp)) (fun j => hT2 50 j (by decide) (by simp)) (fun t j ht => hT2 t j (g6_l ht (by decide)) (fun q => g6_ne ht (n := 0) (by decide) q.1)) (fun j _ => hT2 34 j (by decide) (by simp)), g2, fun j hj => ?_, fun k hk hk2 => ?_, ?_⟩
                  · rw [hT2 12 22 (by decide) (by decide)] at hj
                    rw [hT2 37 _ (by decide) (by simp), hT2 34 _ (by decide) (by simp)]
                    exact G2 j hj
                  · rw [hT2 46 k (by decide) (by simp)] at hk2
                    rw [hT2 45 _ (by decide) (by simp), hT2 45 _ (by decide) (by simp)]
                    refine ⟨(G3 k hk hk2).1, ?_⟩
                    have e9 : (fun i => C24 45 (367 * k + 186 + i)) = (fun i => C 45 (367 * k + 186 + i)) := funext (fun i => hT2 45 _ (by decide) (by simp))
                    rw [e9]; exact (G3 k hk hk2).2
                  · have e9 : (fun i => C24 34 (186 + i)) = (fun i => C 34 (186 + i)) := funext (fun i => hT2 34 _ (by decide) (by simp))
                    unfold g4C; rw [e9]; exact G4
                exact hr_vret B hb rfl ⟨rfl, hp, sm, C24, rfl, hGn, hT2⟩ hW hS dX0_read_47
            obtain rfl := List.mem_singleton.mp hcs
            obtain ⟨hr, hq, hc⟩ := hca
            obtain ⟨z41, rfl, lz41, uz41⟩ := hr_rvI hr
            have e41r25 := hr_pv hc 25 (lo := 0) (hi := 0) rfl; rw [hr_same1 hc (j := 25) (by decide +kernel)] at e41r25
            have hW := hr_pvE (hr_sameA hc rfl (by decide +kernel)) hW
            refine hr_ne0 (tgt := 48) hx hb dX0_read_44 (by decide) (fun h44 => ?_) (fun h44 => ?_)
            · refine lv_aload_n hx hb dX0_read_48 rfl (lv_at hl 1 rfl) ?_
              refine lv_dup hx hb dX0_read_49 rfl ?_
              refine hr_getI B hF hb hW (ci := 0) (j := 0) (cd := 0) t0 rfl (isF (by decide +kernel)) rfl dX0_read_50 (fun z50 lz50 uz50 pz50 xz50 => ?_)
              have xz50 := tk_xo xz50 (fun _ h => h) (pq := ck_prot1) (C := C24) t0 (by decide); have kz50 := congrArg Int32.toInt xz50
              have e50 : z50.toInt = (C2 0 0).toInt := by rw [kz50]; exact el
              have f3 := f3 (by omega)
              refine hr_ic hx hb dX0_read_53 (by decide) (fun z53 hz53 => ?_)
              refine hr_add hx hb dX0_read_54 (by omega) (by omega) (fun z54 hz54 => ?_)
              refine hr_putN B hF hb hU hW hS (ci := 0) (j := 0) (cd := 0) t0 rfl (isF (by decide +kernel)) rfl (by omega) (by omega) (Or.inl rfl) (tk_EO t0 (fun a h => hun 0 (by decide) _ _ t0 h) (by decide)) (by decide) dX0_read_55 (fun H locs hW hS => ?_)
              obtain ⟨C55, c55⟩ : ∃ f, f = tk_upd C24 0 (0) z54 := ⟨_, rfl⟩
              rw [← c55] at hW
              refine hr_inc hx hb dX0_read_58 hl (kq := 0) (lv' := fun v => [(3, .int v), (0, .ref a0), (1, .ref a1), (2, .ref a2)]) rfl (by decide) (by decide) (by omega) (by omega) (fun _ => rfl) (fun z58 ls hz58 hl => ?_)
              refine lv_goto (tgt := 7) hx hb dX0_read_61 (by decide) ?_
              refine ih7 z58 pvv37 C55 _ _ _ (by omega) (by omega) (by omega) sm (fun t j h1 h2 => ?_) (fun k9 hk9 h9 => ?_) ?_ hp hl hW hS
              · rw [c55, tk_un h2]; exact hT2 t j h1 h2
              · have e9 : ∀ t j, t ≠ 0 → C55 t j = C24 t j := fun t j h => by rw [c55, tk_unt h]
                rw [e9 _ _ (by decide)] at h9
                rw [e9 _ _ (by decide), e9 _ _ (by decide)]
                rw [c55, tk_us] at hk9
                by_cases e8 : k9 = (C2 0 0).toInt.toNat
                · rw [e8] at h9 ⊢; exact f3.2 h9
                · exact g2 k9 (by omega) h9
              · rw [c55, tk_us]; omega
            · omega
  refine lv_aload_n hx hb dX0_read_0 rfl (lv_at hl 0 rfl) ?_
  refine hr_ic hx hb dX0_read_1 (by decide) (fun z1 hz1 => ?_)
  refine hr_putN B hF hb hU hW hS (ci := 0) (j := 0) (cd := 0) t0 rfl (isF (by decide +kernel)) rfl (by omega) (by omega) (Or.inl rfl) (tk_EO t0 (fun a h => hun 0 (by decide) _ _ t0 h) (by decide)) (by decide) dX0_read_2 (fun H locs hW hS => ?_)
  obtain ⟨C2, c2⟩ : ∃ f, f = tk_upd C 0 (0) z1 := ⟨_, rfl⟩
  rw [← c2] at hW
  refine hr_ic hx hb dX0_read_5 (by decide) (fun z5 hz5 => ?_)
  refine lv_istore_n hx hb dX0_read_6 rfl hl (lv' := [(3, .int z5), (0, .ref a0), (1, .ref a1), (2, .ref a2)]) (by decide) rfl (fun ls hl => ?_)
  refine l7 402 z5 pvv0 C2 _ _ _ (by omega) (by omega) (by omega) (fun _ _ _ => rfl) (fun t j h1 h2 => ?_) (fun k9 hk9 => ?_) ?_ hp hl hW hS
  · rw [c2, tk_un h2]
  · rw [c2, tk_us] at hk9; omega
  · rw [c2, tk_us]; omega
end HX36

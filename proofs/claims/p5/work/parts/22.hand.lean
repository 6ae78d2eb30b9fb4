/-! BY HAND, 4: facts of the tables; the copies of the evening. -/
theorem pv_inj : ∀ (i j : Nat) (q : Nat × Nat), ck_pvs0[i]? = some q → ck_pvs0[j]? = some q → i = j := by
  have key : (List.range 32).all (fun i => (List.range 32).all (fun j => decide (ck_pvs0[i]? ≠ ck_pvs0[j]?) || decide (i = j))) = true := by decide +kernel
  intro i j q hi hj
  have h1 : i < 32 := (List.getElem?_eq_some_iff.mp hi).1
  have h2 : j < 32 := (List.getElem?_eq_some_iff.mp hj).1
  have h3 := List.all_eq_true.mp (List.all_eq_true.mp key i (List.mem_range.mpr h1)) j (List.mem_range.mpr h2)
  simp only [Bool.or_eq_true, decide_eq_true_eq] at h3
  rcases h3 with h3 | h3
  · exact absurd (hi.trans hj.symm) h3
  · exact h3
def ck_un (ty : Nat → Option Nat) : Prop := ∀ t, t ∈ ck_uns → ∀ a a', ty a = some t → ty a' = some t → a' = a
theorem sg_BS : ∀ i, i < 46 → ck_seg [(1, 0, 6), (6, -2147483648, 2147483647), (14, 0, 6), (40, -2147483648, 2147483647), (46, 0, 8)] i = ck_seg [(2, 0, 6), (3, 0, 8), (4, 0, 6), (5, 0, 12), (140, -2147483648, 2147483647), (141, 0, 6), (146, -2147483648, 2147483647), (154, 0, 6), (180, -2147483648, 2147483647), (186, 0, 8), (187, 0, 45), (367, -2147483648, 2147483647)] (140 + i) := by decide
theorem sg_US : ∀ j, j < 8 → ∀ i, i < 46 → ck_seg [(1, 0, 6), (6, -2147483648, 2147483647), (14, 0, 6), (40, -2147483648, 2147483647), (46, 0, 8), (47, 0, 6), (52, -2147483648, 2147483647), (60, 0, 6), (86, -2147483648, 2147483647), (92, 0, 8), (93, 0, 6), (98, -2147483648, 2147483647), (106, 0, 6), (132, -2147483648, 2147483647), (138, 0, 8), (139, 0, 6), (144, -2147483648, 2147483647), (152, 0, 6), (178, -2147483648, 2147483647), (184, 0, 8), (185, 0, 6), (190, -2147483648, 2147483647), (198, 0, 6), (224, -2147483648, 2147483647), (230, 0, 8), (231, 0, 6), (236, -2147483648, 2147483647), (244, 0, 6), (270, -2147483648, 2147483647), (276, 0, 8), (277, 0, 6), (282, -2147483648, 2147483647), (290, 0, 6), (316, -2147483648, 2147483647), (322, 0, 8), (323, 0, 6), (328, -2147483648, 2147483647), (336, 0, 6), (362, -2147483648, 2147483647), (368, 0, 8)] (46 * j + i) = ck_seg [(2, 0, 6), (3, 0, 8), (4, 0, 6), (5, 0, 12), (140, -2147483648, 2147483647), (141, 0, 6), (146, -2147483648, 2147483647), (154, 0, 6), (180, -2147483648, 2147483647), (186, 0, 8), (187, 0, 45), (367, -2147483648, 2147483647)] (140 + i) := by decide
section H22
variable {l : Launch} {D : va_G} {cys : Nat → ClassId} {ty : Nat → Option Nat} {Ex : va_W → Prop}
theorem dX12_tries_0 : decode cX12_tries 0 = .ok (.iconst 0, 1) := by decide +kernel
theorem dX12_tries_1 : decode cX12_tries 1 = .ok (.istore_n 1, 1) := by decide +kernel
theorem dX12_tries_2 : decode cX12_tries 2 = .ok (.iload_n 1, 1) := by decide +kernel
theorem dX12_tries_3 : decode cX12_tries 3 = .ok (.bipush 46, 2) := by decide +kernel
theorem dX12_tries_5 : decode cX12_tries 5 = .ok (.if_icmp .ge 25, 3) := by decide +kernel
theorem dX12_tries_8 : decode cX12_tries 8 = .ok (.aload_n 0, 1) := by decide +kernel
theorem dX12_tries_9 : decode cX12_tries 9 = .ok (.getfield 53, 3) := by decide +kernel
theorem dX12_tries_12 : decode cX12_tries 12 = .ok (.iload_n 1, 1) := by decide +kernel
theorem dX12_tries_13 : decode cX12_tries 13 = .ok (.aload_n 0, 1) := by decide +kernel
theorem dX12_tries_14 : decode cX12_tries 14 = .ok (.getfield 33, 3) := by decide +kernel
theorem dX12_tries_17 : decode cX12_tries 17 = .ok (.sipush 140, 3) := by decide +kernel
theorem dX12_tries_20 : decode cX12_tries 20 = .ok (.iload_n 1, 1) := by decide +kernel
theorem dX12_tries_21 : decode cX12_tries 21 = .ok (.iadd, 1) := by decide +kernel
theorem dX12_tries_22 : decode cX12_tries 22 = .ok (.iaload, 1) := by decide +kernel
theorem dX12_tries_23 : decode cX12_tries 23 = .ok (.iastore, 1) := by decide +kernel
theorem dX12_tries_24 : decode cX12_tries 24 = .ok (.iinc 1 1, 3) := by decide +kernel
theorem dX12_tries_27 : decode cX12_tries 27 = .ok (.goto (-25), 3) := by decide +kernel
theorem dX12_tries_30 : decode cX12_tries 30 = .ok (.return_, 1) := by decide +kernel
set_option maxRecDepth 100000 in
theorem hk_12_tries (hF : ck_LKf ck_LK) (hM : ck_LKm ck_tags ck_LK ck_tab) (hU : ck_uq ty ck_pvs0) (hun : ck_un ty) (hX : ck_ExP ty ck_protA Ex) (hH : ∀ j, j < 242 → ck_Holds l D cys ty ck_tags ck_pvs0 Ex (ck_tab j)) : ck_Holds l D cys ty ck_tags ck_pvs0 Ex (ck_tab 242) := by
  refine cm_enter (by decide +kernel) (by decide +kernel) (by decide +kernel) ?_
  intro vs pvv0 p e s m below meth c ls ha hp B hl hW
  have hx := B.1
  have hb : c.code = cX12_tries := B.2.1
  have hI := pv_inj
  obtain ⟨_, rfl, a0, rfl, t0⟩ := cm_a1 ha
  have hl : lv_has ls 2 [(0, .ref a0)] := hl
  have loop : ∀ (n : Nat) (i : Int32) (pvv : Nat → Int32) (ls : Array Slot) (H : Heap) (locs : List Loc), 0 ≤ i.toInt → i.toInt ≤ 46 → 46 - i.toInt < n → (∀ j, j ≠ 18 → pvv j = pvv0 j) → (1 ≤ i.toInt → pvv 18 = pvv0 16) → lv_has ls 2 [(1, .int i), (0, .ref a0)] → ck_Wo D cys ty ck_tags ck_pvs0 Ex pvv H → va_S (ck_own ty) s.heap H locs → W p l e (ck_rm (ck_tab 242)) s m [Value.ref a0].toArray below meth c H locs 0 0 (MQ below (ck_Qc D cys ty ck_tags ck_pvs0 Ex (ck_tab 242) [Value.ref a0] pvv0) [Value.ref a0].toArray s 0 0 (ck_own ty)) (F0 m 2 ls []) := by
    intro n
    induction n with
    | zero => intro i pvv ls H locs h1 h2 h3; omega
    | succ n ih =>
      intro i pvv ls H locs i1 i2 i3 hq hb1 hl hW hS
      refine lv_iload_n hx hb dX12_tries_2 rfl (lv_at hl 0 rfl) ?_
      refine hr_bp hx hb dX12_tries_3 (by decide) (by decide) (fun z3 hz3 => ?_)
      refine hr_ge (tgt := 30) hx hb dX12_tries_5 (by decide) (fun h5 => ?_) (fun h5 => ?_)
      · have e0 := hb1 (by omega)
        have r0 := hr_pv hp 16 (lo := 0) (hi := 6) rfl
        refine cm_vret B hb rfl ⟨_, List.mem_cons_self, True.intro, (fun q h => nomatch h), ?_⟩ hW hS dX12_tries_30
        refine hr_set1 (P := pU) (f := pvv0) (j := 18) ?_ (hr_vd (q := 16) (lo := 0) (hi := 6) (a := 0) (b := 0) (by rw [e0]; exact r0.1) (by rw [e0]; exact r0.2) (by rw [e0]; omega) (by rw [e0]; omega)) hq
        exact hr_wk (hr_self hp) (by decide +kernel)
      · refine lv_aload_n hx hb dX12_tries_8 rfl (lv_at hl 1 rfl) ?_
        refine hr_getR B hF hb hW (ci := 12) (j := 21) (cd := 3) t0 rfl (isF (by decide +kernel)) rfl dX12_tries_9 (fun az9 tz9 xz9 => ?_)
        refine lv_iload_n hx hb dX12_tries_12 rfl (lv_at hl 0 rfl) ?_
        refine lv_aload_n hx hb dX12_tries_13 rfl (lv_at hl 1 rfl) ?_
        refine hr_getR B hF hb hW (ci := 12) (j := 6) (cd := 3) t0 rfl (isF (by decide +kernel)) rfl dX12_tries_14 (fun az14 tz14 xz14 => ?_)
        refine hr_sp hx hb dX12_tries_17 (by decide) (by decide) (fun z17 hz17 => ?_)
        refine lv_iload_n hx hb dX12_tries_20 rfl (lv_at hl 0 rfl) ?_
        refine hr_add hx hb dX12_tries_21 (by omega) (by omega) (fun z21 hz21 => ?_)
        refine hr_iald B hb hW tz14 rfl (by omega) (by omega) dX12_tries_22 (fun z22 iz22 pz22 xz22 => ?_)
        refine hr_iastG B hb hU hW hS tz9 rfl (by omega) (by omega) ?_ (hr_EA hX tz9 (u := 0) (v := 45) (by omega) (by omega) (by decide)) dX12_tries_23 (fun H locs pvv' hW hS w1 w2 => ?_)
        · have e1 := sg_BS i.toInt.toNat (by omega)
          rw [show 140 + i.toInt.toNat = z21.toInt.toNat by omega] at e1
          unfold ck_in; rw [e1]; exact iz22
        refine hr_inc hx hb dX12_tries_24 hl (kq := 0) (lv' := fun v => [(1, .int v), (0, .ref a0)]) rfl (by decide) (by decide) (by omega) (by omega) (fun _ => rfl) (fun z24 ls hz24 hl => ?_)
        refine lv_goto (tgt := 2) hx hb dX12_tries_27 (by decide) ?_
        refine ih z24 pvv' ls H locs (by omega) (by omega) (by omega) (fun j hj => ?_) (fun _ => ?_) hl hW hS
        · refine (w2 j (fun h9 => hj ?_)).trans (hq j hj)
          exact (pv_o1 (a := 18) (b := 0) (by decide +kernel) h9).1
        · by_cases h0 : i.toInt = 0
          · rw [w1 18 (by rw [h0]; rfl), pz22 16 (by rw [show z21.toInt.toNat = 140 by omega]; rfl)]; exact hq _ (by decide)
          · refine (w2 18 (fun h9 => ?_)).trans (hb1 (by omega))
            have := pv_o1 (a := 18) (b := 0) (by decide +kernel) h9; omega
  refine hr_ic hx hb dX12_tries_0 (by decide) (fun z0 hz0 => ?_)
  refine lv_istore_n hx hb dX12_tries_1 rfl hl (lv' := [(1, .int z0), (0, .ref a0)]) (by decide) rfl (fun ls hl => ?_)
  exact loop 47 z0 pvv0 _ _ _ (by omega) (by omega) (by omega) (fun _ _ => rfl) (fun h => absurd h (by omega)) hl hW va_S.rf
theorem dX12_back_0 : decode cX12_back 0 = .ok (.iconst 0, 1) := by decide +kernel
theorem dX12_back_1 : decode cX12_back 1 = .ok (.istore_n 1, 1) := by decide +kernel
theorem dX12_back_2 : decode cX12_back 2 = .ok (.iload_n 1, 1) := by decide +kernel
theorem dX12_back_3 : decode cX12_back 3 = .ok (.bipush 46, 2) := by decide +kernel
theorem dX12_back_5 : decode cX12_back 5 = .ok (.if_icmp .ge 25, 3) := by decide +kernel
theorem dX12_back_8 : decode cX12_back 8 = .ok (.aload_n 0, 1) := by decide +kernel
theorem dX12_back_9 : decode cX12_back 9 = .ok (.getfield 33, 3) := by decide +kernel
theorem dX12_back_12 : decode cX12_back 12 = .ok (.sipush 140, 3) := by decide +kernel
theorem dX12_back_15 : decode cX12_back 15 = .ok (.iload_n 1, 1) := by decide +kernel
theorem dX12_back_16 : decode cX12_back 16 = .ok (.iadd, 1) := by decide +kernel
theorem dX12_back_17 : decode cX12_back 17 = .ok (.aload_n 0, 1) := by decide +kernel
theorem dX12_back_18 : decode cX12_back 18 = .ok (.getfield 53, 3) := by decide +kernel
theorem dX12_back_21 : decode cX12_back 21 = .ok (.iload_n 1, 1) := by decide +kernel
theorem dX12_back_22 : decode cX12_back 22 = .ok (.iaload, 1) := by decide +kernel
theorem dX12_back_23 : decode cX12_back 23 = .ok (.iastore, 1) := by decide +kernel
theorem dX12_back_24 : decode cX12_back 24 = .ok (.iinc 1 1, 3) := by decide +kernel
theorem dX12_back_27 : decode cX12_back 27 = .ok (.goto (-25), 3) := by decide +kernel
theorem dX12_back_30 : decode cX12_back 30 = .ok (.return_, 1) := by decide +kernel
set_option maxRecDepth 100000 in
theorem hk_12_back (hF : ck_LKf ck_LK) (hM : ck_LKm ck_tags ck_LK ck_tab) (hU : ck_uq ty ck_pvs0) (hun : ck_un ty) (hX : ck_ExP ty ck_protA Ex) (hH : ∀ j, j < 204 → ck_Holds l D cys ty ck_tags ck_pvs0 Ex (ck_tab j)) : ck_Holds l D cys ty ck_tags ck_pvs0 Ex (ck_tab 204) := by
  refine cm_enter (by decide +kernel) (by decide +kernel) (by decide +kernel) ?_
  intro vs pvv0 p e s m below meth c ls ha hp B hl hW
  have hx := B.1
  have hb : c.code = cX12_back := B.2.1
  have hI := pv_inj
  obtain ⟨_, rfl, a0, rfl, t0⟩ := cm_a1 ha
  have hl : lv_has ls 2 [(0, .ref a0)] := hl
  have loop : ∀ (n : Nat) (i : Int32) (pvv : Nat → Int32) (ls : Array Slot) (H : Heap) (locs : List Loc), 0 ≤ i.toInt → i.toInt ≤ 46 → 46 - i.toInt < n → (∀ j, j ≠ 16 → pvv j = pvv0 j) → (1 ≤ i.toInt → pvv 16 = pvv0 18) → lv_has ls 2 [(1, .int i), (0, .ref a0)] → ck_Wo D cys ty ck_tags ck_pvs0 Ex pvv H → va_S (ck_own ty) s.heap H locs → W p l e (ck_rm (ck_tab 204)) s m [Value.ref a0].toArray below meth c H locs 0 0 (MQ below (ck_Qc D cys ty ck_tags ck_pvs0 Ex (ck_tab 204) [Value.ref a0] pvv0) [Value.ref a0].toArray s 0 0 (ck_own ty)) (F0 m 2 ls []) := by
    intro n
    induction n with
    | zero => intro i pvv ls H locs h1 h2 h3; omega
    | succ n ih =>
      intro i pvv ls H locs i1 i2 i3 hq hb1 hl hW hS
      refine lv_iload_n hx hb dX12_back_2 rfl (lv_at hl 0 rfl) ?_
      refine hr_bp hx hb dX12_back_3 (by decide) (by decide) (fun z3 hz3 => ?_)
      refine hr_ge (tgt := 30) hx hb dX12_back_5 (by decide) (fun h5 => ?_) (fun h5 => ?_)
      · have e0 := hb1 (by omega)
        have r0 := hr_pv hp 18 (lo := 0) (hi := 6) rfl
        refine cm_vret B hb rfl ⟨_, List.mem_cons_self, True.intro, (fun q h => nomatch h), ?_⟩ hW hS dX12_back_30
        refine hr_set1 (P := pU) (f := pvv0) (j := 16) ?_ (hr_vd (q := 18) (lo := 0) (hi := 6) (a := 0) (b := 0) (by rw [e0]; exact r0.1) (by rw [e0]; exact r0.2) (by rw [e0]; omega) (by rw [e0]; omega)) hq
        exact hr_wk (hr_self hp) (by decide +kernel)
      · refine lv_aload_n hx hb dX12_back_8 rfl (lv_at hl 1 rfl) ?_
        refine hr_getR B hF hb hW (ci := 12) (j := 6) (cd := 3) t0 rfl (isF (by decide +kernel)) rfl dX12_back_9 (fun az9 tz9 xz9 => ?_)
        refine hr_sp hx hb dX12_back_12 (by decide) (by decide) (fun z12 hz12 => ?_)
        refine lv_iload_n hx hb dX12_back_15 rfl (lv_at hl 0 rfl) ?_
        refine hr_add hx hb dX12_back_16 (by omega) (by omega) (fun z16 hz16 => ?_)
        refine lv_aload_n hx hb dX12_back_17 rfl (lv_at hl 1 rfl) ?_
        refine hr_getR B hF hb hW (ci := 12) (j := 21) (cd := 3) t0 rfl (isF (by decide +kernel)) rfl dX12_back_18 (fun az18 tz18 xz18 => ?_)
        refine lv_iload_n hx hb dX12_back_21 rfl (lv_at hl 0 rfl) ?_
        refine hr_iald B hb hW tz18 rfl (by omega) (by omega) dX12_back_22 (fun z22 iz22 pz22 xz22 => ?_)
        refine hr_iastG B hb hU hW hS tz9 rfl (by omega) (by omega) ?_ (hr_EA hX tz9 (u := 140) (v := 185) (by omega) (by omega) (by decide)) dX12_back_23 (fun H locs pvv' hW hS w1 w2 => ?_)
        · have e1 := sg_BS i.toInt.toNat (by omega)
          rw [show 140 + i.toInt.toNat = z16.toInt.toNat by omega] at e1
          unfold ck_in; rw [← e1]; exact iz22
        refine hr_inc hx hb dX12_back_24 hl (kq := 0) (lv' := fun v => [(1, .int v), (0, .ref a0)]) rfl (by decide) (by decide) (by omega) (by omega) (fun _ => rfl) (fun z24 ls hz24 hl => ?_)
        refine lv_goto (tgt := 2) hx hb dX12_back_27 (by decide) ?_
        refine ih z24 pvv' ls H locs (by omega) (by omega) (by omega) (fun j hj => ?_) (fun _ => ?_) hl hW hS
        · refine (w2 j (fun h9 => ?_)).trans (hq j hj)
          rcases pv_o2 (a := 16) (b := 140) (a' := 17) (b' := 3) (by decide +kernel) h9 with h | h <;> omega
        · by_cases h0 : i.toInt = 0
          · rw [w1 16 (by rw [show z16.toInt.toNat = 140 by omega]; rfl), pz22 18 (by rw [h0]; rfl)]; exact hq _ (by decide)
          · refine (w2 16 (fun h9 => ?_)).trans (hb1 (by omega))
            rcases pv_o2 (a := 16) (b := 140) (a' := 17) (b' := 3) (by decide +kernel) h9 with h | h <;> omega
  refine hr_ic hx hb dX12_back_0 (by decide) (fun z0 hz0 => ?_)
  refine lv_istore_n hx hb dX12_back_1 rfl hl (lv' := [(1, .int z0), (0, .ref a0)]) (by decide) rfl (fun ls hl => ?_)
  exact loop 47 z0 pvv0 _ _ _ (by omega) (by omega) (by omega) (fun _ _ => rfl) (fun h => absurd h (by omega)) hl hW va_S.rf
end H22

/-! BY HAND, 5: bits; what is read twice: lossBy, rises, prices. -/
section H23
variable {l : Launch} {D : va_G} {cys : Nat → ClassId} {ty : Nat → Option Nat} {tg : List ck_TD} {pvT : List (Nat × Nat)} {Ex : va_W → Prop} {pvv : Nat → Int32} {H : Heap}
def ta (a : Nat) (cy : ClassId) (n : Nat) (f : Nat → Int32) (ws : va_W) : Prop := ∃ (q : Nat) (g : Nat → Int32), ws[q]? = some (a, .inl (cy, n, .inl g)) ∧ ∀ j, j < n → g j = f j
theorem hr_trk (hW : ck_Wo D cys ty tg pvT Ex pvv H) {a t kd n et : Nat} {sg : List (Nat × Int × Int)} (hta : ty a = some t) (htd : tg[t]? = some (.inr (kd, n, sg, et))) (hkd : kd < 3) : ∃ f : Nat → Int32, ck_Wo D cys ty tg pvT (fun ws => Ex ws ∧ ta a (cys kd) n f ws) pvv H := by
  obtain ⟨ws, h1, h2, h3, h4, h5⟩ := hW
  obtain ⟨q, f, g1, -⟩ := ck_arrI h3 hta htd hkd
  exact ⟨f, ws, h1, h2, h3, h4, h5, q, f, g1, fun _ _ => rfl⟩
theorem ta_xa {a n i : Nat} {cy : ClassId} {f : Nat → Int32} {z : Int32} (h : hr_xa ty (fun ws => Ex ws ∧ ta a cy n f ws) a cy n i z) (hi : i < n) : z = f i := by
  obtain ⟨ws, q, g, h1, h2, h3, h4⟩ := h
  obtain ⟨q', g', h5, h6⟩ := h2.2
  have h7 := (ck_D1 h1 h3 h5).2
  cases h7
  rw [← h4]
  exact h6 i hi
theorem cm_bits_fall {v : Int32} (h : v.toInt ≠ 0) : (v &&& (v - 1)).toBitVec.toNat < v.toBitVec.toNat := by
  have h0 : v.toBitVec.toNat ≠ 0 := fun q => h (by
    have : v.toBitVec = 0 := BitVec.eq_of_toNat_eq q
    have : v = 0 := Int32.toBitVec.inj this
    rw [this]; rfl)
  have e1 : (v - 1).toBitVec.toNat = v.toBitVec.toNat - 1 := by
    rw [Int32.toBitVec_sub, BitVec.toNat_sub]
    have h1 : v.toBitVec.toNat < 2 ^ 32 := v.toBitVec.isLt
    have h2 : (1 : Int32).toBitVec.toNat = 1 := rfl
    rw [h2]
    omega
  rw [Int32.toBitVec_and, BitVec.toNat_and, e1]
  exact Nat.lt_of_le_of_lt Nat.and_le_right (by omega)
theorem dX12_bits_0 : decode cX12_bits 0 = .ok (.iconst 0, 1) := by decide +kernel
theorem dX12_bits_1 : decode cX12_bits 1 = .ok (.istore_n 1, 1) := by decide +kernel
theorem dX12_bits_2 : decode cX12_bits 2 = .ok (.iload_n 0, 1) := by decide +kernel
theorem dX12_bits_3 : decode cX12_bits 3 = .ok (.istore_n 2, 1) := by decide +kernel
theorem dX12_bits_4 : decode cX12_bits 4 = .ok (.iload_n 2, 1) := by decide +kernel
theorem dX12_bits_5 : decode cX12_bits 5 = .ok (.ifCond .eq 15, 3) := by decide +kernel
theorem dX12_bits_8 : decode cX12_bits 8 = .ok (.iinc 1 1, 3) := by decide +kernel
theorem dX12_bits_11 : decode cX12_bits 11 = .ok (.iload_n 2, 1) := by decide +kernel
theorem dX12_bits_12 : decode cX12_bits 12 = .ok (.iload_n 2, 1) := by decide +kernel
theorem dX12_bits_13 : decode cX12_bits 13 = .ok (.iconst 1, 1) := by decide +kernel
theorem dX12_bits_14 : decode cX12_bits 14 = .ok (.isub, 1) := by decide +kernel
theorem dX12_bits_15 : decode cX12_bits 15 = .ok (.iand, 1) := by decide +kernel
theorem dX12_bits_16 : decode cX12_bits 16 = .ok (.istore_n 2, 1) := by decide +kernel
theorem dX12_bits_17 : decode cX12_bits 17 = .ok (.goto (-13), 3) := by decide +kernel
theorem dX12_bits_20 : decode cX12_bits 20 = .ok (.iload_n 1, 1) := by decide +kernel
theorem dX12_bits_21 : decode cX12_bits 21 = .ok (.ireturn, 1) := by decide +kernel
set_option maxRecDepth 100000 in
set_option maxHeartbeats 4000000 in
theorem hk_12_bits (hF : ck_LKf ck_LK) (hM : ck_LKm ck_tags ck_LK ck_tab) (hU : ck_uq ty ck_pvs0) (hun : ck_un ty) (hX : ck_ExP ty ck_protA Ex) (hH : ∀ j, j < 212 → ck_Holds l D cys ty ck_tags ck_pvs0 Ex (ck_tab j)) : ck_Holds l D cys ty ck_tags ck_pvs0 Ex (ck_tab 212) := by
  refine cm_enter (by decide +kernel) (by decide +kernel) (by decide +kernel) ?_
  intro vs pvv0 p e s m below meth c ls ha hp B hl hW
  have hx := B.1
  have hb : c.code = cX12_bits := B.2.1
  have hI := pv_inj
  have hS : va_S (ck_own ty) s.heap s.heap [] := va_S.rf
  obtain ⟨_, rfl, ⟨x0, rfl, l0, u0, -⟩⟩ := cm_a1 ha
  dsimp only at l0 u0
  have hl : lv_has ls 3 [(0, .int x0)] := hl
  have hp0 := hp
  have loop : ∀ (n : Nat) (v1 v2 : Int32) (ls : Array Slot), v2.toBitVec.toNat < n → lv_has ls 3 [(2, .int v2), (1, .int v1), (0, .int x0)] → W p l e (ck_rm (ck_tab 212)) s m [Value.int x0].toArray below meth c s.heap [] 0 0 (MQ below (ck_Qc D cys ty ck_tags ck_pvs0 Ex (ck_tab 212) [Value.int x0] pvv0) [Value.int x0].toArray s 0 0 (ck_own ty)) (F0 m 4 ls []) := by
    intro n
    induction n with
    | zero => intro v1 v2 ls h; omega
    | succ n ih =>
      intro v1 v2 ls hn hl
      refine lv_iload_n hx hb dX12_bits_4 rfl (lv_at hl 0 rfl) ?_
      refine hr_eq0 (tgt := 20) hx hb dX12_bits_5 (by decide) (fun h5 => ?_) (fun h5 => ?_)
      · refine lv_iload_n hx hb dX12_bits_20 rfl (lv_at hl 1 rfl) ?_
        exact cm_iret B hb rfl ⟨_, List.mem_cons_self, hr_aF (ty := ty), (fun q h => nomatch h), hr_wk (hr_self hp0) (by decide +kernel)⟩ hW hS dX12_bits_21
      · obtain ⟨z8, hz8⟩ : ∃ z, v1 + Int32.ofInt 1 = z := ⟨_, rfl⟩
        refine lv_iinc hx hb dX12_bits_8 hl (k := 1) (v := z8) (lv' := [(1, .int z8), (2, .int v2), (0, .int x0)]) rfl hz8 (by decide) rfl (fun ls hl => ?_)
        refine lv_iload_n hx hb dX12_bits_11 rfl (lv_at hl 1 rfl) ?_
        refine lv_iload_n hx hb dX12_bits_12 rfl (lv_at hl 1 rfl) ?_
        refine hr_ic hx hb dX12_bits_13 (by decide) (fun z13 hz13 => ?_)
        refine lv_isub hx hb dX12_bits_14 (lv_topi (fun z14 hz14 => ?_))
        refine lv_iand hx hb dX12_bits_15 (lv_topi (fun z15 hz15 => ?_))
        refine lv_istore_n hx hb dX12_bits_16 rfl hl (lv' := [(2, .int z15), (1, .int z8), (0, .int x0)]) (by decide) rfl (fun ls hl => ?_)
        refine lv_goto (tgt := 4) hx hb dX12_bits_17 (by decide) ?_
        have e14 : z14 = v2 - 1 := by rw [hz14]; congr 1; exact Int32.toInt_inj.mp (by rw [hz13]; rfl)
        rw [e14] at hz15
        exact ih z8 z15 _ (by rw [hz15]; have := cm_bits_fall h5; omega) hl
  refine hr_ic hx hb dX12_bits_0 (by decide) (fun z0 hz0 => ?_)
  refine lv_istore_n hx hb dX12_bits_1 rfl hl (lv' := [(1, .int z0), (0, .int x0)]) (by decide) rfl (fun ls hl => ?_)
  refine lv_iload_n hx hb dX12_bits_2 rfl (lv_at hl 1 rfl) ?_
  refine lv_istore_n hx hb dX12_bits_3 rfl hl (lv' := [(2, .int x0), (1, .int z0), (0, .int x0)]) (by decide) rfl (fun ls hl => ?_)
  exact loop _ _ _ _ (Nat.lt_succ_self _) hl
theorem dX2_lossBy_0 : decode cX2_lossBy 0 = .ok (.aload_n 0, 1) := by decide +kernel
theorem dX2_lossBy_1 : decode cX2_lossBy 1 = .ok (.getfield 40, 3) := by decide +kernel
theorem dX2_lossBy_4 : decode cX2_lossBy 4 = .ok (.iload_n 3, 1) := by decide +kernel
theorem dX2_lossBy_5 : decode cX2_lossBy 5 = .ok (.iaload, 1) := by decide +kernel
theorem dX2_lossBy_6 : decode cX2_lossBy 6 = .ok (.iconst (-1), 1) := by decide +kernel
theorem dX2_lossBy_7 : decode cX2_lossBy 7 = .ok (.if_icmp .ne 7, 3) := by decide +kernel
theorem dX2_lossBy_10 : decode cX2_lossBy 10 = .ok (.iconst 0, 1) := by decide +kernel
theorem dX2_lossBy_11 : decode cX2_lossBy 11 = .ok (.goto 24, 3) := by decide +kernel
theorem dX2_lossBy_14 : decode cX2_lossBy 14 = .ok (.aload_n 1, 1) := by decide +kernel
theorem dX2_lossBy_15 : decode cX2_lossBy 15 = .ok (.getfield 98, 3) := by decide +kernel
theorem dX2_lossBy_18 : decode cX2_lossBy 18 = .ok (.aload_n 0, 1) := by decide +kernel
theorem dX2_lossBy_19 : decode cX2_lossBy 19 = .ok (.getfield 40, 3) := by decide +kernel
theorem dX2_lossBy_22 : decode cX2_lossBy 22 = .ok (.iload_n 3, 1) := by decide +kernel
theorem dX2_lossBy_23 : decode cX2_lossBy 23 = .ok (.iaload, 1) := by decide +kernel
theorem dX2_lossBy_24 : decode cX2_lossBy 24 = .ok (.iaload, 1) := by decide +kernel
theorem dX2_lossBy_25 : decode cX2_lossBy 25 = .ok (.aload_n 1, 1) := by decide +kernel
theorem dX2_lossBy_26 : decode cX2_lossBy 26 = .ok (.getfield 98, 3) := by decide +kernel
theorem dX2_lossBy_29 : decode cX2_lossBy 29 = .ok (.iload_n 2, 1) := by decide +kernel
theorem dX2_lossBy_30 : decode cX2_lossBy 30 = .ok (.iaload, 1) := by decide +kernel
theorem dX2_lossBy_31 : decode cX2_lossBy 31 = .ok (.isub, 1) := by decide +kernel
theorem dX2_lossBy_32 : decode cX2_lossBy 32 = .ok (.invokestatic 154, 3) := by decide +kernel
theorem dX2_lossBy_35 : decode cX2_lossBy 35 = .ok (.ireturn, 1) := by decide +kernel
set_option maxRecDepth 100000 in
set_option maxHeartbeats 4000000 in
theorem hk_2_lossBy (hF : ck_LKf ck_LK) (hM : ck_LKm ck_tags ck_LK ck_tab) (hU : ck_uq ty ck_pvs0) (hun : ck_un ty) (hX : ck_ExP ty ck_protA Ex) (hH : ∀ j, j < 32 → ck_Holds l D cys ty ck_tags ck_pvs0 Ex (ck_tab j)) : ck_Holds l D cys ty ck_tags ck_pvs0 Ex (ck_tab 32) := by
  refine cm_enter (by decide +kernel) (by decide +kernel) (by decide +kernel) ?_
  intro vs pvv0 p e s m below meth c ls ha hp B hl hW
  have hx := B.1
  have hb : c.code = cX2_lossBy := B.2.1
  have hI := pv_inj
  have hS : va_S (ck_own ty) s.heap s.heap [] := va_S.rf
  obtain ⟨_, _, _, _, rfl, ⟨a0, rfl, t0⟩, ⟨a1, rfl, t1⟩, ⟨x2, rfl, l2, u2, -⟩, ⟨x3, rfl, l3, u3, -⟩⟩ := cm_a4 ha
  dsimp only at l2 u2
  dsimp only at l3 u3
  have hl : lv_has ls 4 [(0, .ref a0), (1, .ref a1), (2, .int x2), (3, .int x3)] := hl
  have hp0 := hp
  obtain ⟨ws, hP, hD, hT, hV, hE⟩ := id hW
  obtain ⟨q0, fs0, g0, -, f0⟩ := cm_obj hT t0 rfl
  obtain ⟨_, e9, a9, rfl, t9⟩ := f0 9 _ rfl
  obtain ⟨q9, f9, g9, i9⟩ := ck_arrI hT t9 rfl (by decide)
  have i9 := hr_inr (i9 x3.toInt.toNat (by omega)) (a := 0) (b := 5) (lo := -1) (hi := 7) (by omega) (by omega) (by decide +kernel)
  refine lv_aload_n hx hb dX2_lossBy_0 rfl (lv_at hl 0 rfl) ?_
  refine cm_get (ci := 2) (j := 9) (cd := 3) B hF hb hP g0 (isF (by decide +kernel)) e9 dX2_lossBy_1 ?_
  refine lv_iload_n hx hb dX2_lossBy_4 rfl (lv_at hl 3 rfl) ?_
  refine cm_iald B hb hP g9 (by omega) (by omega) dX2_lossBy_5 ?_
  refine hr_ic hx hb dX2_lossBy_6 (by decide) (fun z6 hz6 => ?_)
  refine hr_ne (tgt := 14) hx hb dX2_lossBy_7 (by decide) (fun h7 => ?_) (fun h7 => ?_)
  · refine lv_aload_n hx hb dX2_lossBy_14 rfl (lv_at hl 1 rfl) ?_
    refine hr_getR B hF hb hW (ci := 6) (j := 12) (cd := 3) t1 rfl (isF (by decide +kernel)) rfl dX2_lossBy_15 (fun az15 tz15 xz15 => ?_)
    refine lv_aload_n hx hb dX2_lossBy_18 rfl (lv_at hl 0 rfl) ?_
    refine cm_get (ci := 2) (j := 9) (cd := 3) B hF hb hP g0 (isF (by decide +kernel)) e9 dX2_lossBy_19 ?_
    refine lv_iload_n hx hb dX2_lossBy_22 rfl (lv_at hl 3 rfl) ?_
    refine cm_iald B hb hP g9 (by omega) (by omega) dX2_lossBy_23 ?_
    refine hr_iald B hb hW tz15 rfl (by omega) (by omega) dX2_lossBy_24 (fun z24 iz24 pz24 xz24 => ?_)
    refine lv_aload_n hx hb dX2_lossBy_25 rfl (lv_at hl 1 rfl) ?_
    refine hr_getR B hF hb hW (ci := 6) (j := 12) (cd := 3) t1 rfl (isF (by decide +kernel)) rfl dX2_lossBy_26 (fun az26 tz26 xz26 => ?_)
    refine lv_iload_n hx hb dX2_lossBy_29 rfl (lv_at hl 2 rfl) ?_
    refine hr_iald B hb hW tz26 rfl (by omega) (by omega) dX2_lossBy_30 (fun z30 iz30 pz30 xz30 => ?_)
    refine lv_isub hx hb dX2_lossBy_31 (lv_topi (fun z31 hz31 => ?_))
    refine cm_callS (kc := kc_31) B rfl hb hl (hM.1 _ _ 1 [31] (isM (by decide +kernel)) 31 (by decide)) (hH 31 (by decide)) (As := [.int z31]) ⟨hr_aF, True.intro⟩ hp hW hS rfl (by decide) (by decide) (Nat.le_of_ble_eq_true rfl) dX2_lossBy_32 (fun cs hcs r pvv32 H locs hca hW hS => ?_)
    obtain rfl := List.mem_singleton.mp hcs
    obtain ⟨hr, hq, hc⟩ := hca
    obtain ⟨z32, rfl, lz32, uz32⟩ := hr_rvI hr
    have hW := hr_pvE (hr_sameA hc rfl (by decide +kernel)) hW
    exact cm_iret B hb rfl ⟨_, List.mem_cons_self, hr_aF (ty := ty), (fun q h => nomatch h), hr_wk (hr_self hp0) (by decide +kernel)⟩ hW hS dX2_lossBy_35
  · refine hr_ic hx hb dX2_lossBy_10 (by decide) (fun z10 hz10 => ?_)
    refine lv_goto (tgt := 35) hx hb dX2_lossBy_11 (by decide) ?_
    exact cm_iret B hb rfl ⟨_, List.mem_cons_self, hr_aF (ty := ty), (fun q h => nomatch h), hr_wk (hr_self hp0) (by decide +kernel)⟩ hW hS dX2_lossBy_35
theorem dX12_rises_0 : decode cX12_rises 0 = .ok (.iconst 0, 1) := by decide +kernel
theorem dX12_rises_1 : decode cX12_rises 1 = .ok (.istore_n 1, 1) := by decide +kernel
theorem dX12_rises_2 : decode cX12_rises 2 = .ok (.iload_n 1, 1) := by decide +kernel
theorem dX12_rises_3 : decode cX12_rises 3 = .ok (.aload_n 0, 1) := by decide +kernel
theorem dX12_rises_4 : decode cX12_rises 4 = .ok (.getfield 33, 3) := by decide +kernel
theorem dX12_rises_7 : decode cX12_rises 7 = .ok (.iconst 2, 1) := by decide +kernel
theorem dX12_rises_8 : decode cX12_rises 8 = .ok (.iaload, 1) := by decide +kernel
theorem dX12_rises_9 : decode cX12_rises 9 = .ok (.if_icmp .ge 109, 3) := by decide +kernel
theorem dX12_rises_12 : decode cX12_rises 12 = .ok (.aload_n 0, 1) := by decide +kernel
theorem dX12_rises_13 : decode cX12_rises 13 = .ok (.getfield 33, 3) := by decide +kernel
theorem dX12_rises_16 : decode cX12_rises 16 = .ok (.sipush 146, 3) := by decide +kernel
theorem dX12_rises_19 : decode cX12_rises 19 = .ok (.iload_n 1, 1) := by decide +kernel
theorem dX12_rises_20 : decode cX12_rises 20 = .ok (.iadd, 1) := by decide +kernel
theorem dX12_rises_21 : decode cX12_rises 21 = .ok (.iaload, 1) := by decide +kernel
theorem dX12_rises_22 : decode cX12_rises 22 = .ok (.ifCond .le 6, 3) := by decide +kernel
theorem dX12_rises_25 : decode cX12_rises 25 = .ok (.goto 87, 3) := by decide +kernel
theorem dX12_rises_28 : decode cX12_rises 28 = .ok (.aload_n 0, 1) := by decide +kernel
theorem dX12_rises_29 : decode cX12_rises 29 = .ok (.getfield 33, 3) := by decide +kernel
theorem dX12_rises_32 : decode cX12_rises 32 = .ok (.sipush 144, 3) := by decide +kernel
theorem dX12_rises_35 : decode cX12_rises 35 = .ok (.dup2, 1) := by decide +kernel
theorem dX12_rises_36 : decode cX12_rises 36 = .ok (.iaload, 1) := by decide +kernel
theorem dX12_rises_37 : decode cX12_rises 37 = .ok (.aload_n 0, 1) := by decide +kernel
theorem dX12_rises_38 : decode cX12_rises 38 = .ok (.getfield 33, 3) := by decide +kernel
theorem dX12_rises_41 : decode cX12_rises 41 = .ok (.bipush 26, 2) := by decide +kernel
theorem dX12_rises_43 : decode cX12_rises 43 = .ok (.iload_n 1, 1) := by decide +kernel
theorem dX12_rises_44 : decode cX12_rises 44 = .ok (.iadd, 1) := by decide +kernel
theorem dX12_rises_45 : decode cX12_rises 45 = .ok (.iaload, 1) := by decide +kernel
theorem dX12_rises_46 : decode cX12_rises 46 = .ok (.iadd, 1) := by decide +kernel
theorem dX12_rises_47 : decode cX12_rises 47 = .ok (.iastore, 1) := by decide +kernel
theorem dX12_rises_48 : decode cX12_rises 48 = .ok (.aload_n 0, 1) := by decide +kernel
theorem dX12_rises_49 : decode cX12_rises 49 = .ok (.getfield 33, 3) := by decide +kernel
theorem dX12_rises_52 : decode cX12_rises 52 = .ok (.sipush 154, 3) := by decide +kernel
theorem dX12_rises_55 : decode cX12_rises 55 = .ok (.iload_n 1, 1) := by decide +kernel
theorem dX12_rises_56 : decode cX12_rises 56 = .ok (.iadd, 1) := by decide +kernel
theorem dX12_rises_57 : decode cX12_rises 57 = .ok (.dup2, 1) := by decide +kernel
theorem dX12_rises_58 : decode cX12_rises 58 = .ok (.iaload, 1) := by decide +kernel
theorem dX12_rises_59 : decode cX12_rises 59 = .ok (.aload_n 0, 1) := by decide +kernel
theorem dX12_rises_60 : decode cX12_rises 60 = .ok (.aload_n 0, 1) := by decide +kernel
theorem dX12_rises_61 : decode cX12_rises 61 = .ok (.getfield 33, 3) := by decide +kernel
theorem dX12_rises_64 : decode cX12_rises 64 = .ok (.sipush 140, 3) := by decide +kernel
theorem dX12_rises_67 : decode cX12_rises 67 = .ok (.iaload, 1) := by decide +kernel
theorem dX12_rises_68 : decode cX12_rises 68 = .ok (.invokevirtual 274, 3) := by decide +kernel
theorem dX12_rises_71 : decode cX12_rises 71 = .ok (.ior, 1) := by decide +kernel
theorem dX12_rises_72 : decode cX12_rises 72 = .ok (.iastore, 1) := by decide +kernel
theorem dX12_rises_73 : decode cX12_rises 73 = .ok (.aload_n 0, 1) := by decide +kernel
theorem dX12_rises_74 : decode cX12_rises 74 = .ok (.iload_n 1, 1) := by decide +kernel
theorem dX12_rises_75 : decode cX12_rises 75 = .ok (.invokevirtual 301, 3) := by decide +kernel
theorem dX12_rises_78 : decode cX12_rises 78 = .ok (.istore_n 2, 1) := by decide +kernel
theorem dX12_rises_79 : decode cX12_rises 79 = .ok (.iload_n 2, 1) := by decide +kernel
theorem dX12_rises_80 : decode cX12_rises 80 = .ok (.ifCond .ge 6, 3) := by decide +kernel
theorem dX12_rises_83 : decode cX12_rises 83 = .ok (.goto 29, 3) := by decide +kernel
theorem dX12_rises_86 : decode cX12_rises 86 = .ok (.aload_n 0, 1) := by decide +kernel
theorem dX12_rises_87 : decode cX12_rises 87 = .ok (.getfield 33, 3) := by decide +kernel
theorem dX12_rises_90 : decode cX12_rises 90 = .ok (.sipush 170, 3) := by decide +kernel
theorem dX12_rises_93 : decode cX12_rises 93 = .ok (.iload_n 2, 1) := by decide +kernel
theorem dX12_rises_94 : decode cX12_rises 94 = .ok (.iadd, 1) := by decide +kernel
theorem dX12_rises_95 : decode cX12_rises 95 = .ok (.dup2, 1) := by decide +kernel
theorem dX12_rises_96 : decode cX12_rises 96 = .ok (.iaload, 1) := by decide +kernel
theorem dX12_rises_97 : decode cX12_rises 97 = .ok (.iconst 1, 1) := by decide +kernel
theorem dX12_rises_98 : decode cX12_rises 98 = .ok (.iadd, 1) := by decide +kernel
theorem dX12_rises_99 : decode cX12_rises 99 = .ok (.iastore, 1) := by decide +kernel
theorem dX12_rises_100 : decode cX12_rises 100 = .ok (.aload_n 0, 1) := by decide +kernel
theorem dX12_rises_101 : decode cX12_rises 101 = .ok (.getfield 33, 3) := by decide +kernel
theorem dX12_rises_104 : decode cX12_rises 104 = .ok (.sipush 145, 3) := by decide +kernel
theorem dX12_rises_107 : decode cX12_rises 107 = .ok (.dup2, 1) := by decide +kernel
theorem dX12_rises_108 : decode cX12_rises 108 = .ok (.iaload, 1) := by decide +kernel
theorem dX12_rises_109 : decode cX12_rises 109 = .ok (.iconst 1, 1) := by decide +kernel
theorem dX12_rises_110 : decode cX12_rises 110 = .ok (.iadd, 1) := by decide +kernel
theorem dX12_rises_111 : decode cX12_rises 111 = .ok (.iastore, 1) := by decide +kernel
theorem dX12_rises_112 : decode cX12_rises 112 = .ok (.iinc 1 1, 3) := by decide +kernel
theorem dX12_rises_115 : decode cX12_rises 115 = .ok (.goto (-113), 3) := by decide +kernel
theorem dX12_rises_118 : decode cX12_rises 118 = .ok (.aload_n 0, 1) := by decide +kernel
theorem dX12_rises_119 : decode cX12_rises 119 = .ok (.getfield 33, 3) := by decide +kernel
theorem dX12_rises_122 : decode cX12_rises 122 = .ok (.sipush 178, 3) := by decide +kernel
theorem dX12_rises_125 : decode cX12_rises 125 = .ok (.aload_n 0, 1) := by decide +kernel
theorem dX12_rises_126 : decode cX12_rises 126 = .ok (.invokevirtual 277, 3) := by decide +kernel
theorem dX12_rises_129 : decode cX12_rises 129 = .ok (.iastore, 1) := by decide +kernel
theorem dX12_rises_130 : decode cX12_rises 130 = .ok (.iconst 0, 1) := by decide +kernel
theorem dX12_rises_131 : decode cX12_rises 131 = .ok (.istore_n 1, 1) := by decide +kernel
theorem dX12_rises_132 : decode cX12_rises 132 = .ok (.iload_n 1, 1) := by decide +kernel
theorem dX12_rises_133 : decode cX12_rises 133 = .ok (.aload_n 0, 1) := by decide +kernel
theorem dX12_rises_134 : decode cX12_rises 134 = .ok (.getfield 33, 3) := by decide +kernel
theorem dX12_rises_137 : decode cX12_rises 137 = .ok (.iconst 2, 1) := by decide +kernel
theorem dX12_rises_138 : decode cX12_rises 138 = .ok (.iaload, 1) := by decide +kernel
theorem dX12_rises_139 : decode cX12_rises 139 = .ok (.if_icmp .ge 39, 3) := by decide +kernel
theorem dX12_rises_142 : decode cX12_rises 142 = .ok (.aload_n 0, 1) := by decide +kernel
theorem dX12_rises_143 : decode cX12_rises 143 = .ok (.getfield 33, 3) := by decide +kernel
theorem dX12_rises_146 : decode cX12_rises 146 = .ok (.sipush 146, 3) := by decide +kernel
theorem dX12_rises_149 : decode cX12_rises 149 = .ok (.iload_n 1, 1) := by decide +kernel
theorem dX12_rises_150 : decode cX12_rises 150 = .ok (.iadd, 1) := by decide +kernel
theorem dX12_rises_151 : decode cX12_rises 151 = .ok (.iaload, 1) := by decide +kernel
theorem dX12_rises_152 : decode cX12_rises 152 = .ok (.ifCond .le 20, 3) := by decide +kernel
theorem dX12_rises_155 : decode cX12_rises 155 = .ok (.aload_n 0, 1) := by decide +kernel
theorem dX12_rises_156 : decode cX12_rises 156 = .ok (.iload_n 1, 1) := by decide +kernel
theorem dX12_rises_157 : decode cX12_rises 157 = .ok (.aload_n 0, 1) := by decide +kernel
theorem dX12_rises_158 : decode cX12_rises 158 = .ok (.getfield 33, 3) := by decide +kernel
theorem dX12_rises_161 : decode cX12_rises 161 = .ok (.sipush 146, 3) := by decide +kernel
theorem dX12_rises_164 : decode cX12_rises 164 = .ok (.iload_n 1, 1) := by decide +kernel
theorem dX12_rises_165 : decode cX12_rises 165 = .ok (.iadd, 1) := by decide +kernel
theorem dX12_rises_166 : decode cX12_rises 166 = .ok (.iaload, 1) := by decide +kernel
theorem dX12_rises_167 : decode cX12_rises 167 = .ok (.iconst 1, 1) := by decide +kernel
theorem dX12_rises_168 : decode cX12_rises 168 = .ok (.isub, 1) := by decide +kernel
theorem dX12_rises_169 : decode cX12_rises 169 = .ok (.invokevirtual 304, 3) := by decide +kernel
theorem dX12_rises_172 : decode cX12_rises 172 = .ok (.iinc 1 1, 3) := by decide +kernel
theorem dX12_rises_175 : decode cX12_rises 175 = .ok (.goto (-43), 3) := by decide +kernel
theorem dX12_rises_178 : decode cX12_rises 178 = .ok (.aload_n 0, 1) := by decide +kernel
theorem dX12_rises_179 : decode cX12_rises 179 = .ok (.getfield 33, 3) := by decide +kernel
theorem dX12_rises_182 : decode cX12_rises 182 = .ok (.sipush 140, 3) := by decide +kernel
theorem dX12_rises_185 : decode cX12_rises 185 = .ok (.dup2, 1) := by decide +kernel
theorem dX12_rises_186 : decode cX12_rises 186 = .ok (.iaload, 1) := by decide +kernel
theorem dX12_rises_187 : decode cX12_rises 187 = .ok (.iconst 1, 1) := by decide +kernel
theorem dX12_rises_188 : decode cX12_rises 188 = .ok (.iadd, 1) := by decide +kernel
theorem dX12_rises_189 : decode cX12_rises 189 = .ok (.iastore, 1) := by decide +kernel
theorem dX12_rises_190 : decode cX12_rises 190 = .ok (.aload_n 0, 1) := by decide +kernel
theorem dX12_rises_191 : decode cX12_rises 191 = .ok (.getfield 33, 3) := by decide +kernel
theorem dX12_rises_194 : decode cX12_rises 194 = .ok (.sipush 179, 3) := by decide +kernel
theorem dX12_rises_197 : decode cX12_rises 197 = .ok (.iconst 0, 1) := by decide +kernel
theorem dX12_rises_198 : decode cX12_rises 198 = .ok (.iastore, 1) := by decide +kernel
theorem dX12_rises_199 : decode cX12_rises 199 = .ok (.aload_n 0, 1) := by decide +kernel
theorem dX12_rises_200 : decode cX12_rises 200 = .ok (.invokevirtual 308, 3) := by decide +kernel
theorem dX12_rises_203 : decode cX12_rises 203 = .ok (.return_, 1) := by decide +kernel
set_option maxRecDepth 100000 in
set_option maxHeartbeats 4000000 in
theorem hk_12_rises (hF : ck_LKf ck_LK) (hM : ck_LKm ck_tags ck_LK ck_tab) (hU : ck_uq ty ck_pvs0) (hun : ck_un ty) (hX : ck_ExP ty ck_protA Ex) (hH : ∀ j, j < 234 → ck_Holds l D cys ty ck_tags ck_pvs0 Ex (ck_tab j)) : ck_Holds l D cys ty ck_tags ck_pvs0 Ex (ck_tab 234) := by
  refine cm_enter (by decide +kernel) (by decide +kernel) (by decide +kernel) ?_
  intro vs pvv0 p e s m below meth c ls ha hp B hl hW
  have hx := B.1
  have hb : c.code = cX12_rises := B.2.1
  have hI := pv_inj
  have hS : va_S (ck_own ty) s.heap s.heap [] := va_S.rf
  obtain ⟨_, rfl, ⟨a0, rfl, t0⟩⟩ := cm_a1 ha
  have hl : lv_has ls 3 [(0, .ref a0)] := hl
  have hp0 := hp
  have hp := hr_wk hp0 (Q := pPM) (by decide +kernel)
  have q0 := hr_pd hp0 16 17 (lo := 0) (hi := 5) (a := -6) (b := -1) rfl (by decide)
  have q1 := hr_pv hp0 16 (lo := 0) (hi := 5) rfl
  have loop2 : ∀ (n132 : Nat) (i : Int32) (ls : Array Slot) (H : Heap) (locs : List Loc), 8 - i.toInt < n132 → (0 ≤ i.toInt) → (i.toInt ≤ 8) → lv_has ls 3 [(1, .int i), (0, .ref a0)] → ck_Wo D cys ty ck_tags ck_pvs0 Ex pvv0 H → va_S (ck_own ty) s.heap H locs → W p l e (ck_rm (ck_tab 234)) s m [Value.ref a0].toArray below meth c H locs 0 0 (MQ below (ck_Qc D cys ty ck_tags ck_pvs0 Ex (ck_tab 234) [Value.ref a0] pvv0) [Value.ref a0].toArray s 0 0 (ck_own ty)) (F0 m 132 ls []) := by
    intro n132
    induction n132 with
    | zero => intro i ls H locs hm132 i1 i2 hl hW hS; omega
    | succ n132 ih132 =>
      intro i ls H locs hm132 i1 i2 hl hW hS
      refine lv_iload_n hx hb dX12_rises_132 rfl (lv_at hl 0 rfl) ?_
      refine lv_aload_n hx hb dX12_rises_133 rfl (lv_at hl 1 rfl) ?_
      refine hr_getR B hF hb hW (ci := 12) (j := 6) (cd := 3) t0 rfl (isF (by decide +kernel)) rfl dX12_rises_134 (fun az134 tz134 xz134 => ?_)
      refine hr_ic hx hb dX12_rises_137 (by decide) (fun z137 hz137 => ?_)
      refine hr_iald B hb hW tz134 rfl (by omega) (by omega) dX12_rises_138 (fun z138 iz138 pz138 xz138 => ?_)
      have iz138 := hr_inr iz138 (a := 2) (b := 2) (lo := 0) (hi := 8) (by omega) (by omega) (by decide +kernel)
      refine hr_ge (tgt := 178) hx hb dX12_rises_139 (by decide) (fun h139 => ?_) (fun h139 => ?_)
      · refine lv_aload_n hx hb dX12_rises_178 rfl (lv_at hl 1 rfl) ?_
        refine hr_getR B hF hb hW (ci := 12) (j := 6) (cd := 3) t0 rfl (isF (by decide +kernel)) rfl dX12_rises_179 (fun az179 tz179 xz179 => ?_)
        refine hr_sp hx hb dX12_rises_182 (by decide) (by decide) (fun z182 hz182 => ?_)
        refine lv_dup2_11 hx hb dX12_rises_185 rfl rfl ?_
        refine hr_iald B hb hW tz179 rfl (by omega) (by omega) dX12_rises_186 (fun z186 iz186 pz186 xz186 => ?_)
        have iz186 := hr_inr iz186 (a := 140) (b := 140) (lo := 0) (hi := 6) (by omega) (by omega) (by decide +kernel)
        have pz186 := congrArg Int32.toInt (pz186 16 (by rw [show z182.toInt.toNat = 140 by omega]; rfl))
        refine hr_ic hx hb dX12_rises_187 (by decide) (fun z187 hz187 => ?_)
        refine hr_add hx hb dX12_rises_188 (by omega) (by omega) (fun z188 hz188 => ?_)
        refine hr_iastP B hb hU hW hS tz179 rfl (by omega) (by omega) (hr_ins (a := 140) (b := 140) (lo := 0) (hi := 6) (by omega) (by omega) (by decide +kernel) (by omega) (by omega)) (hr_EA (i := z182) hX tz179 (u := 140) (v := 140) (by omega) (by omega) (by decide)) hI (q0 := 16) (w := 140) (by omega) rfl dX12_rises_189 (fun H locs hW hS => ?_)
        obtain ⟨pvv189, e189⟩ : ∃ f, f = upd pvv0 16 z188 := ⟨_, rfl⟩
        rw [← e189] at hW
        have e189q : pvv189 16 = z188 := by rw [e189, pk_us]
        have e189qi := congrArg Int32.toInt e189q
        have hp := hr_updD hp (q := 16) (lo := 0) (hi := 6) rfl (x := z188) (by omega) (by omega) (fun d hd => by obtain rfl := List.mem_singleton.mp hd; show (-6 : Int) ≤ z188.toInt - (pvv0 17).toInt ∧ z188.toInt - (pvv0 17).toInt ≤ 0; omega) (by decide +kernel); rw [← e189] at hp
        refine lv_aload_n hx hb dX12_rises_190 rfl (lv_at hl 1 rfl) ?_
        refine hr_getR B hF hb hW (ci := 12) (j := 6) (cd := 3) t0 rfl (isF (by decide +kernel)) rfl dX12_rises_191 (fun az191 tz191 xz191 => ?_)
        refine hr_sp hx hb dX12_rises_194 (by decide) (by decide) (fun z194 hz194 => ?_)
        refine hr_ic hx hb dX12_rises_197 (by decide) (fun z197 hz197 => ?_)
        refine hr_iastN B hb hU hW hS tz191 rfl (by omega) (by omega) (hr_ins (a := 179) (b := 179) (lo := -2147483648) (hi := 2147483647) (by omega) (by omega) (by decide +kernel) (ck_lo _) (ck_hi _)) (hr_EA (i := z194) hX tz191 (u := 179) (v := 179) (by omega) (by omega) (by decide)) (u := 179) (v := 179) (by omega) (by omega) (by decide) dX12_rises_198 (fun H locs hW hS => ?_)
        refine lv_aload_n hx hb dX12_rises_199 rfl (lv_at hl 1 rfl) ?_
        refine cm_callV (kc := kc_230) B rfl hb hl (hM.1 _ _ 0 [230] (isM (by decide +kernel)) 230 (by decide)) (hH 230 (by decide)) (b := a0) (As := []) ⟨hr_aR t0, True.intro⟩ hp hW hS rfl (by decide) (by decide) (Nat.le_of_ble_eq_true rfl) dX12_rises_200 (fun cs hcs r pvv200 H locs hca hW hS => ?_)
        obtain rfl := List.mem_singleton.mp hcs
        obtain ⟨hr, hq, hc⟩ := hca
        obtain rfl := hr_rv0 hr
        have hW := hr_pvE (hr_sameA hc rfl (by decide +kernel)) hW
        refine cm_vret B hb rfl ⟨_, List.mem_cons_self, True.intro, (fun q h => nomatch h), ?_⟩ hW hS dX12_rises_203
        refine hr_set1 (P := pU) (f := pvv0) (j := 16) ?_ (hr_vd (q := 16) (lo := 0) (hi := 6) (a := 1) (b := 1) (by rw [e189q]; omega) (by rw [e189q]; omega) (by rw [e189q]; omega) (by rw [e189q]; omega)) (fun i hi => by rw [e189]; exact pk_un hi)
        exact hr_wk (hr_self hp0) (by decide +kernel)
      · refine lv_aload_n hx hb dX12_rises_142 rfl (lv_at hl 1 rfl) ?_
        refine hr_getR B hF hb hW (ci := 12) (j := 6) (cd := 3) t0 rfl (isF (by decide +kernel)) rfl dX12_rises_143 (fun az143 tz143 xz143 => ?_)
        refine hr_sp hx hb dX12_rises_146 (by decide) (by decide) (fun z146 hz146 => ?_)
        refine lv_iload_n hx hb dX12_rises_149 rfl (lv_at hl 0 rfl) ?_
        refine hr_add hx hb dX12_rises_150 (by omega) (by omega) (fun z150 hz150 => ?_)
        obtain ⟨f, hW⟩ := hr_trk hW tz143 rfl (by decide)
        refine hr_iald B hb hW tz143 rfl (by omega) (by omega) dX12_rises_151 (fun z151 iz151 pz151 xz151 => ?_)
        have iz151 := hr_inr iz151 (a := 146) (b := 153) (lo := 0) (hi := 6) (by omega) (by omega) (by decide +kernel)
        have y151 := ta_xa xz151 (by omega)
        refine hr_le0 (tgt := 172) hx hb dX12_rises_152 (by decide) (fun h152 => ?_) (fun h152 => ?_)
        · have hW := hr_mono (fun _ h => h.1) hW
          refine hr_inc hx hb dX12_rises_172 hl (kq := 0) (lv' := fun v => [(1, .int v), (0, .ref a0)]) rfl (by decide) (by decide) (by omega) (by omega) (fun _ => rfl) (fun z172 ls hz172 hl => ?_)
          refine lv_goto (tgt := 132) hx hb dX12_rises_175 (by decide) ?_
          exact ih132 z172 _ _ _ (by omega) (by omega) (by omega) hl hW hS
        · refine lv_aload_n hx hb dX12_rises_155 rfl (lv_at hl 1 rfl) ?_
          refine lv_iload_n hx hb dX12_rises_156 rfl (lv_at hl 0 rfl) ?_
          refine lv_aload_n hx hb dX12_rises_157 rfl (lv_at hl 1 rfl) ?_
          refine hr_getR B hF hb hW (ci := 12) (j := 6) (cd := 3) t0 rfl (isF (by decide +kernel)) rfl dX12_rises_158 (fun az158 tz158 xz158 => ?_)
          refine hr_sp hx hb dX12_rises_161 (by decide) (by decide) (fun z161 hz161 => ?_)
          refine lv_iload_n hx hb dX12_rises_164 rfl (lv_at hl 0 rfl) ?_
          refine hr_add hx hb dX12_rises_165 (by omega) (by omega) (fun z165 hz165 => ?_)
          obtain rfl := hun 34 (by decide) _ _ tz158 tz143
          refine hr_iald B hb hW tz158 rfl (by omega) (by omega) dX12_rises_166 (fun z166 iz166 pz166 xz166 => ?_)
          have iz166 := hr_inr iz166 (a := 146) (b := 153) (lo := 0) (hi := 6) (by omega) (by omega) (by decide +kernel)
          have y166 := ta_xa xz166 (by omega)
          have z165e : z165.toInt.toNat = z150.toInt.toNat := by omega
          rw [z165e, ← y151] at y166
          have y166 : z166.toInt = z151.toInt := by rw [y166]
          have hW := hr_mono (fun _ h => h.1) hW
          refine hr_ic hx hb dX12_rises_167 (by decide) (fun z167 hz167 => ?_)
          refine hr_sub hx hb dX12_rises_168 (by omega) (by omega) (fun z168 hz168 => ?_)
          refine cm_callV (kc := kc_233) B rfl hb hl (hM.1 _ _ 0 [233] (isM (by decide +kernel)) 233 (by decide)) (hH 233 (by decide)) (b := a0) (As := [.int i, .int z168]) ⟨hr_aR t0, hr_aI (by omega) (by omega), hr_aI (by omega) (by omega), True.intro⟩ hp hW hS rfl (by decide) (by decide) (Nat.le_of_ble_eq_true rfl) dX12_rises_169 (fun cs hcs r pvv169 H locs hca hW hS => ?_)
          obtain rfl := List.mem_singleton.mp hcs
          obtain ⟨hr, hq, hc⟩ := hca
          obtain rfl := hr_rv0 hr
          have hW := hr_pvE (hr_sameA hc rfl (by decide +kernel)) hW
          refine hr_inc hx hb dX12_rises_172 hl (kq := 0) (lv' := fun v => [(1, .int v), (0, .ref a0)]) rfl (by decide) (by decide) (by omega) (by omega) (fun _ => rfl) (fun z172 ls hz172 hl => ?_)
          refine lv_goto (tgt := 132) hx hb dX12_rises_175 (by decide) ?_
          exact ih132 z172 _ _ _ (by omega) (by omega) (by omega) hl hW hS
  have loop1 : ∀ (n2 : Nat) (i : Int32) (ls : Array Slot) (H : Heap) (locs : List Loc), 8 - i.toInt < n2 → (0 ≤ i.toInt) → (i.toInt ≤ 8) → lv_has ls 3 [(1, .int i), (0, .ref a0)] → ck_Wo D cys ty ck_tags ck_pvs0 Ex pvv0 H → va_S (ck_own ty) s.heap H locs → W p l e (ck_rm (ck_tab 234)) s m [Value.ref a0].toArray below meth c H locs 0 0 (MQ below (ck_Qc D cys ty ck_tags ck_pvs0 Ex (ck_tab 234) [Value.ref a0] pvv0) [Value.ref a0].toArray s 0 0 (ck_own ty)) (F0 m 2 ls []) := by
    intro n2
    induction n2 with
    | zero => intro i ls H locs hm2 i1 i2 hl hW hS; omega
    | succ n2 ih2 =>
      intro i ls H locs hm2 i1 i2 hl hW hS
      refine lv_iload_n hx hb dX12_rises_2 rfl (lv_at hl 0 rfl) ?_
      refine lv_aload_n hx hb dX12_rises_3 rfl (lv_at hl 1 rfl) ?_
      refine hr_getR B hF hb hW (ci := 12) (j := 6) (cd := 3) t0 rfl (isF (by decide +kernel)) rfl dX12_rises_4 (fun az4 tz4 xz4 => ?_)
      refine hr_ic hx hb dX12_rises_7 (by decide) (fun z7 hz7 => ?_)
      refine hr_iald B hb hW tz4 rfl (by omega) (by omega) dX12_rises_8 (fun z8 iz8 pz8 xz8 => ?_)
      have iz8 := hr_inr iz8 (a := 2) (b := 2) (lo := 0) (hi := 8) (by omega) (by omega) (by decide +kernel)
      refine hr_ge (tgt := 118) hx hb dX12_rises_9 (by decide) (fun h9 => ?_) (fun h9 => ?_)
      · refine lv_aload_n hx hb dX12_rises_118 rfl (lv_at hl 1 rfl) ?_
        refine hr_getR B hF hb hW (ci := 12) (j := 6) (cd := 3) t0 rfl (isF (by decide +kernel)) rfl dX12_rises_119 (fun az119 tz119 xz119 => ?_)
        refine hr_sp hx hb dX12_rises_122 (by decide) (by decide) (fun z122 hz122 => ?_)
        refine lv_aload_n hx hb dX12_rises_125 rfl (lv_at hl 1 rfl) ?_
        refine cm_callV (kc := kc_231) B rfl hb hl (hM.1 _ _ 0 [231] (isM (by decide +kernel)) 231 (by decide)) (hH 231 (by decide)) (b := a0) (As := []) ⟨hr_aR t0, True.intro⟩ hp hW hS rfl (by decide) (by decide) (Nat.le_of_ble_eq_true rfl) dX12_rises_126 (fun cs hcs r pvv126 H locs hca hW hS => ?_)
        obtain rfl := List.mem_singleton.mp hcs
        obtain ⟨hr, hq, hc⟩ := hca
        obtain ⟨z126, rfl, lz126, uz126⟩ := hr_rvI hr
        have hW := hr_pvE (hr_sameA hc rfl (by decide +kernel)) hW
        refine hr_iastN B hb hU hW hS tz119 rfl (by omega) (by omega) (hr_ins (a := 178) (b := 178) (lo := -2147483648) (hi := 2147483647) (by omega) (by omega) (by decide +kernel) (ck_lo _) (ck_hi _)) (hr_EA (i := z122) hX tz119 (u := 178) (v := 178) (by omega) (by omega) (by decide)) (u := 178) (v := 178) (by omega) (by omega) (by decide) dX12_rises_129 (fun H locs hW hS => ?_)
        refine hr_ic hx hb dX12_rises_130 (by decide) (fun z130 hz130 => ?_)
        refine lv_istore_n hx hb dX12_rises_131 rfl hl (lv' := [(1, .int z130), (0, .ref a0)]) (by decide) rfl (fun ls hl => ?_)
        exact loop2 9 z130 _ _ _ (by omega) (by omega) (by omega) hl hW hS
      · refine lv_aload_n hx hb dX12_rises_12 rfl (lv_at hl 1 rfl) ?_
        refine hr_getR B hF hb hW (ci := 12) (j := 6) (cd := 3) t0 rfl (isF (by decide +kernel)) rfl dX12_rises_13 (fun az13 tz13 xz13 => ?_)
        refine hr_sp hx hb dX12_rises_16 (by decide) (by decide) (fun z16 hz16 => ?_)
        refine lv_iload_n hx hb dX12_rises_19 rfl (lv_at hl 0 rfl) ?_
        refine hr_add hx hb dX12_rises_20 (by omega) (by omega) (fun z20 hz20 => ?_)
        refine hr_iald B hb hW tz13 rfl (by omega) (by omega) dX12_rises_21 (fun z21 iz21 pz21 xz21 => ?_)
        have iz21 := hr_inr iz21 (a := 146) (b := 153) (lo := 0) (hi := 6) (by omega) (by omega) (by decide +kernel)
        refine hr_le0 (tgt := 28) hx hb dX12_rises_22 (by decide) (fun h22 => ?_) (fun h22 => ?_)
        · refine lv_aload_n hx hb dX12_rises_28 rfl (lv_at hl 1 rfl) ?_
          refine hr_getR B hF hb hW (ci := 12) (j := 6) (cd := 3) t0 rfl (isF (by decide +kernel)) rfl dX12_rises_29 (fun az29 tz29 xz29 => ?_)
          refine hr_sp hx hb dX12_rises_32 (by decide) (by decide) (fun z32 hz32 => ?_)
          refine lv_dup2_11 hx hb dX12_rises_35 rfl rfl ?_
          refine hr_iald B hb hW tz29 rfl (by omega) (by omega) dX12_rises_36 (fun z36 iz36 pz36 xz36 => ?_)
          refine lv_aload_n hx hb dX12_rises_37 rfl (lv_at hl 1 rfl) ?_
          refine hr_getR B hF hb hW (ci := 12) (j := 6) (cd := 3) t0 rfl (isF (by decide +kernel)) rfl dX12_rises_38 (fun az38 tz38 xz38 => ?_)
          refine hr_bp hx hb dX12_rises_41 (by decide) (by decide) (fun z41 hz41 => ?_)
          refine lv_iload_n hx hb dX12_rises_43 rfl (lv_at hl 0 rfl) ?_
          refine hr_add hx hb dX12_rises_44 (by omega) (by omega) (fun z44 hz44 => ?_)
          refine hr_iald B hb hW tz38 rfl (by omega) (by omega) dX12_rises_45 (fun z45 iz45 pz45 xz45 => ?_)
          refine lv_iadd hx hb dX12_rises_46 (lv_topi (fun z46 hz46 => ?_))
          refine hr_iastN B hb hU hW hS tz29 rfl (by omega) (by omega) (hr_ins (a := 144) (b := 144) (lo := -2147483648) (hi := 2147483647) (by omega) (by omega) (by decide +kernel) (ck_lo _) (ck_hi _)) (hr_EA (i := z32) hX tz29 (u := 144) (v := 144) (by omega) (by omega) (by decide)) (u := 144) (v := 144) (by omega) (by omega) (by decide) dX12_rises_47 (fun H locs hW hS => ?_)
          refine lv_aload_n hx hb dX12_rises_48 rfl (lv_at hl 1 rfl) ?_
          refine hr_getR B hF hb hW (ci := 12) (j := 6) (cd := 3) t0 rfl (isF (by decide +kernel)) rfl dX12_rises_49 (fun az49 tz49 xz49 => ?_)
          refine hr_sp hx hb dX12_rises_52 (by decide) (by decide) (fun z52 hz52 => ?_)
          refine lv_iload_n hx hb dX12_rises_55 rfl (lv_at hl 0 rfl) ?_
          refine hr_add hx hb dX12_rises_56 (by omega) (by omega) (fun z56 hz56 => ?_)
          refine lv_dup2_11 hx hb dX12_rises_57 rfl rfl ?_
          refine hr_iald B hb hW tz49 rfl (by omega) (by omega) dX12_rises_58 (fun z58 iz58 pz58 xz58 => ?_)
          refine lv_aload_n hx hb dX12_rises_59 rfl (lv_at hl 1 rfl) ?_
          refine lv_aload_n hx hb dX12_rises_60 rfl (lv_at hl 1 rfl) ?_
          refine hr_getR B hF hb hW (ci := 12) (j := 6) (cd := 3) t0 rfl (isF (by decide +kernel)) rfl dX12_rises_61 (fun az61 tz61 xz61 => ?_)
          refine hr_sp hx hb dX12_rises_64 (by decide) (by decide) (fun z64 hz64 => ?_)
          refine hr_iald B hb hW tz61 rfl (by omega) (by omega) dX12_rises_67 (fun z67 iz67 pz67 xz67 => ?_)
          have iz67 := hr_inr iz67 (a := 140) (b := 140) (lo := 0) (hi := 6) (by omega) (by omega) (by decide +kernel)
          have pz67 := congrArg Int32.toInt (pz67 16 (by rw [show z64.toInt.toNat = 140 by omega]; rfl))
          refine cm_callV (kc := kc_189) B rfl hb hl (hM.1 _ _ 0 [189] (isM (by decide +kernel)) 189 (by decide)) (hH 189 (by decide)) (b := a0) (As := [.int z67]) ⟨hr_aR t0, hr_aF, True.intro⟩ hp hW hS rfl (by decide) (by decide) (Nat.le_of_ble_eq_true rfl) dX12_rises_68 (fun cs hcs r pvv68 H locs hca hW hS => ?_)
          obtain rfl := List.mem_singleton.mp hcs
          obtain ⟨hr, hq, hc⟩ := hca
          obtain ⟨z68, rfl, lz68, uz68⟩ := hr_rvI hr
          have hW := hr_pvE (hr_sameA hc rfl (by decide +kernel)) hW
          refine lv_ior hx hb dX12_rises_71 (lv_topi (fun z71 hz71 => ?_))
          refine hr_iastN B hb hU hW hS tz49 rfl (by omega) (by omega) (hr_ins (a := 154) (b := 161) (lo := -2147483648) (hi := 2147483647) (by omega) (by omega) (by decide +kernel) (ck_lo _) (ck_hi _)) (hr_EA (i := z56) hX tz49 (u := 154) (v := 161) (by omega) (by omega) (by decide)) (u := 154) (v := 161) (by omega) (by omega) (by decide) dX12_rises_72 (fun H locs hW hS => ?_)
          refine lv_aload_n hx hb dX12_rises_73 rfl (lv_at hl 1 rfl) ?_
          refine lv_iload_n hx hb dX12_rises_74 rfl (lv_at hl 0 rfl) ?_
          refine cm_callV (kc := kc_232) B rfl hb hl (hM.1 _ _ 0 [232] (isM (by decide +kernel)) 232 (by decide)) (hH 232 (by decide)) (b := a0) (As := [.int i]) ⟨hr_aR t0, hr_aI (by omega) (by omega), True.intro⟩ hp hW hS rfl (by decide) (by decide) (Nat.le_of_ble_eq_true rfl) dX12_rises_75 (fun cs hcs r pvv75 H locs hca hW hS => ?_)
          obtain rfl := List.mem_singleton.mp hcs
          obtain ⟨hr, hq, hc⟩ := hca
          obtain ⟨z75, rfl, lz75, uz75⟩ := hr_rvI hr
          have hW := hr_pvE (hr_sameA hc rfl (by decide +kernel)) hW
          refine lv_istore_n hx hb dX12_rises_78 rfl hl (lv' := [(2, .int z75), (1, .int i), (0, .ref a0)]) (by decide) rfl (fun ls hl => ?_)
          refine lv_iload_n hx hb dX12_rises_79 rfl (lv_at hl 0 rfl) ?_
          refine hr_ge0 (tgt := 86) hx hb dX12_rises_80 (by decide) (fun h80 => ?_) (fun h80 => ?_)
          · refine lv_aload_n hx hb dX12_rises_86 rfl (lv_at hl 2 rfl) ?_
            refine hr_getR B hF hb hW (ci := 12) (j := 6) (cd := 3) t0 rfl (isF (by decide +kernel)) rfl dX12_rises_87 (fun az87 tz87 xz87 => ?_)
            refine hr_sp hx hb dX12_rises_90 (by decide) (by decide) (fun z90 hz90 => ?_)
            refine lv_iload_n hx hb dX12_rises_93 rfl (lv_at hl 0 rfl) ?_
            refine hr_add hx hb dX12_rises_94 (by omega) (by omega) (fun z94 hz94 => ?_)
            refine lv_dup2_11 hx hb dX12_rises_95 rfl rfl ?_
            refine hr_iald B hb hW tz87 rfl (by omega) (by omega) dX12_rises_96 (fun z96 iz96 pz96 xz96 => ?_)
            refine hr_ic hx hb dX12_rises_97 (by decide) (fun z97 hz97 => ?_)
            refine lv_iadd hx hb dX12_rises_98 (lv_topi (fun z98 hz98 => ?_))
            refine hr_iastN B hb hU hW hS tz87 rfl (by omega) (by omega) (hr_ins (a := 170) (b := 177) (lo := -2147483648) (hi := 2147483647) (by omega) (by omega) (by decide +kernel) (ck_lo _) (ck_hi _)) (hr_EA (i := z94) hX tz87 (u := 170) (v := 177) (by omega) (by omega) (by decide)) (u := 170) (v := 177) (by omega) (by omega) (by decide) dX12_rises_99 (fun H locs hW hS => ?_)
            refine lv_aload_n hx hb dX12_rises_100 rfl (lv_at hl 2 rfl) ?_
            refine hr_getR B hF hb hW (ci := 12) (j := 6) (cd := 3) t0 rfl (isF (by decide +kernel)) rfl dX12_rises_101 (fun az101 tz101 xz101 => ?_)
            refine hr_sp hx hb dX12_rises_104 (by decide) (by decide) (fun z104 hz104 => ?_)
            refine lv_dup2_11 hx hb dX12_rises_107 rfl rfl ?_
            refine hr_iald B hb hW tz101 rfl (by omega) (by omega) dX12_rises_108 (fun z108 iz108 pz108 xz108 => ?_)
            refine hr_ic hx hb dX12_rises_109 (by decide) (fun z109 hz109 => ?_)
            refine lv_iadd hx hb dX12_rises_110 (lv_topi (fun z110 hz110 => ?_))
            refine hr_iastN B hb hU hW hS tz101 rfl (by omega) (by omega) (hr_ins (a := 145) (b := 145) (lo := -2147483648) (hi := 2147483647) (by omega) (by omega) (by decide +kernel) (ck_lo _) (ck_hi _)) (hr_EA (i := z104) hX tz101 (u := 145) (v := 145) (by omega) (by omega) (by decide)) (u := 145) (v := 145) (by omega) (by omega) (by decide) dX12_rises_111 (fun H locs hW hS => ?_)
            refine hr_inc hx hb dX12_rises_112 hl (kq := 1) (lv' := fun v => [(1, .int v), (2, .int z75), (0, .ref a0)]) rfl (by decide) (by decide) (by omega) (by omega) (fun _ => rfl) (fun z112 ls hz112 hl => ?_)
            refine lv_goto (tgt := 2) hx hb dX12_rises_115 (by decide) ?_
            exact ih2 z112 _ _ _ (by omega) (by omega) (by omega) (lv_sub hl [0, 2] rfl) hW hS
          · refine lv_goto (tgt := 112) hx hb dX12_rises_83 (by decide) ?_
            refine hr_inc hx hb dX12_rises_112 hl (kq := 1) (lv' := fun v => [(1, .int v), (2, .int z75), (0, .ref a0)]) rfl (by decide) (by decide) (by omega) (by omega) (fun _ => rfl) (fun z112 ls hz112 hl => ?_)
            refine lv_goto (tgt := 2) hx hb dX12_rises_115 (by decide) ?_
            exact ih2 z112 _ _ _ (by omega) (by omega) (by omega) (lv_sub hl [0, 2] rfl) hW hS
        · refine lv_goto (tgt := 112) hx hb dX12_rises_25 (by decide) ?_
          refine hr_inc hx hb dX12_rises_112 hl (kq := 0) (lv' := fun v => [(1, .int v), (0, .ref a0)]) rfl (by decide) (by decide) (by omega) (by omega) (fun _ => rfl) (fun z112 ls hz112 hl => ?_)
          refine lv_goto (tgt := 2) hx hb dX12_rises_115 (by decide) ?_
          exact ih2 z112 _ _ _ (by omega) (by omega) (by omega) hl hW hS
  refine hr_ic hx hb dX12_rises_0 (by decide) (fun z0 hz0 => ?_)
  refine lv_istore_n hx hb dX12_rises_1 rfl hl (lv' := [(1, .int z0), (0, .ref a0)]) (by decide) rfl (fun ls hl => ?_)
  exact loop1 9 z0 _ _ _ (by omega) (by omega) (by omega) hl hW hS
end H23

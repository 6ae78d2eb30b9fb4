/-! BY HAND, 2: what is read twice; bits. -/
theorem dX12_bits_0 : decode cX12_bits 0 = .ok (.iconst 0, 1) := by decide +kernel
theorem dX12_bits_1 : decode cX12_bits 1 = .ok (.istore_n 1, 1) := by decide +kernel
theorem dX12_bits_2 : decode cX12_bits 2 = .ok (.iload_n 0, 1) := by decide +kernel
theorem dX12_bits_3 : decode cX12_bits 3 = .ok (.istore_n 2, 1) := by decide +kernel
theorem dX12_bits_4 : decode cX12_bits 4 = .ok (.iload_n 2, 1) := by decide +kernel
theorem dX12_bits_5 : decode cX12_bits 5 = .ok (.ifCond .eq 15, 3) := by decide +kernel
theorem dX12_bits_8 : decode cX12_bits 8 = .ok (.iinc 1 1, 3) := by decide +kernel
theorem dX12_bits_11 : decode cX12_bits 11 = .ok (.iload_n 2, 1) := by decide +kernel
theorem dX12_bits_12 : decode cX12_bits 12 = .ok (.iload_n 2, 1) := by decide +kernel
theorem dX12_bits_13 : decode cX12_bits 13 = .ok (.iconst 1, 1) := by decide +kernel
theorem dX12_bits_14 : decode cX12_bits 14 = .ok (.isub, 1) := by decide +kernel
theorem dX12_bits_15 : decode cX12_bits 15 = .ok (.iand, 1) := by decide +kernel
theorem dX12_bits_16 : decode cX12_bits 16 = .ok (.istore_n 2, 1) := by decide +kernel
theorem dX12_bits_17 : decode cX12_bits 17 = .ok (.goto (-13), 3) := by decide +kernel
theorem dX12_bits_20 : decode cX12_bits 20 = .ok (.iload_n 1, 1) := by decide +kernel
theorem dX12_bits_21 : decode cX12_bits 21 = .ok (.ireturn, 1) := by decide +kernel
theorem dX2_lossBy_0 : decode cX2_lossBy 0 = .ok (.aload_n 0, 1) := by decide +kernel
theorem dX2_lossBy_1 : decode cX2_lossBy 1 = .ok (.getfield 40, 3) := by decide +kernel
theorem dX2_lossBy_4 : decode cX2_lossBy 4 = .ok (.iload_n 3, 1) := by decide +kernel
theorem dX2_lossBy_5 : decode cX2_lossBy 5 = .ok (.iaload, 1) := by decide +kernel
theorem dX2_lossBy_6 : decode cX2_lossBy 6 = .ok (.iconst (-1), 1) := by decide +kernel
theorem dX2_lossBy_7 : decode cX2_lossBy 7 = .ok (.if_icmp .ne 7, 3) := by decide +kernel
theorem dX2_lossBy_10 : decode cX2_lossBy 10 = .ok (.iconst 0, 1) := by decide +kernel
theorem dX2_lossBy_11 : decode cX2_lossBy 11 = .ok (.goto 24, 3) := by decide +kernel
theorem dX2_lossBy_14 : decode cX2_lossBy 14 = .ok (.aload_n 1, 1) := by decide +kernel
theorem dX2_lossBy_15 : decode cX2_lossBy 15 = .ok (.getfield 98, 3) := by decide +kernel
theorem dX2_lossBy_18 : decode cX2_lossBy 18 = .ok (.aload_n 0, 1) := by decide +kernel
theorem dX2_lossBy_19 : decode cX2_lossBy 19 = .ok (.getfield 40, 3) := by decide +kernel
theorem dX2_lossBy_22 : decode cX2_lossBy 22 = .ok (.iload_n 3, 1) := by decide +kernel
theorem dX2_lossBy_23 : decode cX2_lossBy 23 = .ok (.iaload, 1) := by decide +kernel
theorem dX2_lossBy_24 : decode cX2_lossBy 24 = .ok (.iaload, 1) := by decide +kernel
theorem dX2_lossBy_25 : decode cX2_lossBy 25 = .ok (.aload_n 1, 1) := by decide +kernel
theorem dX2_lossBy_26 : decode cX2_lossBy 26 = .ok (.getfield 98, 3) := by decide +kernel
theorem dX2_lossBy_29 : decode cX2_lossBy 29 = .ok (.iload_n 2, 1) := by decide +kernel
theorem dX2_lossBy_30 : decode cX2_lossBy 30 = .ok (.iaload, 1) := by decide +kernel
theorem dX2_lossBy_31 : decode cX2_lossBy 31 = .ok (.isub, 1) := by decide +kernel
theorem dX2_lossBy_32 : decode cX2_lossBy 32 = .ok (.invokestatic 154, 3) := by decide +kernel
theorem dX2_lossBy_35 : decode cX2_lossBy 35 = .ok (.ireturn, 1) := by decide +kernel
theorem pU_eq : pU = ck_addP pP 2000 := by decide +kernel
theorem pUM_eq : pUM = ck_addP pPM 2000 := by decide +kernel
theorem cm_same {ty : Nat → Option Nat} {P : List ck_AV} {f : Nat → Int32} (h : ck_pvo ty (ck_XE f) P f) : ck_pvo ty (ck_XE f) (ck_addP P 2000) f := ck_addP_ok h (fun j => by unfold ck_XE; rw [show (2000 + 2 * j) / 2 - 1000 = j by omega])
theorem cm_m1 {x : Int32} (h : ¬ x = Int32.ofInt (-1)) (h1 : -1 ≤ x.toInt) : 0 ≤ x.toInt := by
  have h2 : x.toInt ≠ -1 := fun q => h (Int32.toInt_inj.mp (by rw [q]; decide))
  omega
theorem cm_a1 {ty : Nat → Option Nat} {a : ck_AV} {vs : List Value} (h : ck_args ty [a] vs) : ∃ v0, vs = [v0] ∧ ck_v ty (fun _ => 0) a v0 := by
  match vs, h with
  | [v0], h => exact ⟨v0, rfl, h.1⟩
theorem cm_a2 {ty : Nat → Option Nat} {a b : ck_AV} {vs : List Value} (h : ck_args ty [a, b] vs) : ∃ v0 v1, vs = [v0, v1] ∧ ck_v ty (fun _ => 0) a v0 ∧ ck_v ty (fun _ => 0) b v1 := by
  match vs, h with
  | [v0, v1], h => exact ⟨v0, v1, rfl, h.1, h.2.1⟩
theorem cm_a3 {ty : Nat → Option Nat} {a b c : ck_AV} {vs : List Value} (h : ck_args ty [a, b, c] vs) : ∃ v0 v1 v2, vs = [v0, v1, v2] ∧ ck_v ty (fun _ => 0) a v0 ∧ ck_v ty (fun _ => 0) b v1 ∧ ck_v ty (fun _ => 0) c v2 := by
  match vs, h with
  | [v0, v1, v2], h => exact ⟨v0, v1, v2, rfl, h.1, h.2.1, h.2.2.1⟩
theorem cm_a4 {ty : Nat → Option Nat} {a b c d : ck_AV} {vs : List Value} (h : ck_args ty [a, b, c, d] vs) : ∃ v0 v1 v2 v3, vs = [v0, v1, v2, v3] ∧ ck_v ty (fun _ => 0) a v0 ∧ ck_v ty (fun _ => 0) b v1 ∧ ck_v ty (fun _ => 0) c v2 ∧ ck_v ty (fun _ => 0) d v3 := by
  match vs, h with
  | [v0, v1, v2, v3], h => exact ⟨v0, v1, v2, v3, rfl, h.1, h.2.1, h.2.2.1, h.2.2.2.1⟩
section H22
variable {l : Launch} {D : va_G} {cys : Nat → ClassId} {ty : Nat → Option Nat} {Ex : va_W → Prop}
theorem cm_bits_fall {v : Int32} (h : ¬ v = 0) : (v &&& (v - Int32.ofInt 1)).toUInt32.toNat < v.toUInt32.toNat := by
  have h0 : v.toUInt32.toNat ≠ 0 := fun q => h (by
    have : v.toUInt32 = 0 := UInt32.toNat_inj.mp q
    exact Int32.toUInt32_inj.mp this)
  have e1 : (v - Int32.ofInt 1).toUInt32.toNat = v.toUInt32.toNat - 1 := by
    have : (v - Int32.ofInt 1).toUInt32 = v.toUInt32 - 1 := rfl
    rw [this, UInt32.toNat_sub_of_le _ _ (by rw [UInt32.le_iff_toNat_le]; show 1 ≤ _; omega)]
    rfl
  have e2 : (v &&& (v - Int32.ofInt 1)).toUInt32 = v.toUInt32 &&& (v - Int32.ofInt 1).toUInt32 := rfl
  rw [e2, UInt32.toNat_and, e1]
  exact Nat.lt_of_le_of_lt Nat.and_le_right (by omega)
theorem hk_bits : ck_Holds l D cys ty ck_tags ck_pvs0 Ex kn_12_bits := by
  refine cm_enter (by decide +kernel) (by decide +kernel) (by decide +kernel) ?_
  intro vs pvv0 p e s m below meth c ls ha hpre B hl hW
  have hx := B.1
  have hb : c.code = cX12_bits := B.2.1
  obtain ⟨_, rfl, x0, rfl, -⟩ := cm_a1 ha
  have hl : lv_has ls 3 [(0, .int x0)] := hl
  have loop : ∀ (n : Nat) (v1 v2 : Int32) (ls : Array Slot), v2.toUInt32.toNat < n → lv_has ls 3 [(2, .int v2), (1, .int v1), (0, .int x0)] → W p l e (ck_rm kn_12_bits) s m [.int x0].toArray below meth c s.heap [] 0 0 (MQ below (ck_Qc D cys ty ck_tags ck_pvs0 Ex kn_12_bits [.int x0] pvv0) [.int x0].toArray s 0 0 (ck_own ty)) (F0 m 4 ls []) := by
    intro n
    induction n with
    | zero => intro v1 v2 ls h; omega
    | succ n ih =>
      intro v1 v2 ls hn hl

      refine lv_iload_n hx hb dX12_bits_4 rfl (lv_at hl 0 rfl) ?_
      refine lv_if_eq (tgt := 20) hx hb dX12_bits_5 (by decide) (fun hc => ?_) (fun hc => ?_)
      · refine lv_iload_n hx hb dX12_bits_20 rfl (lv_at hl 1 rfl) ?_
        exact cm_iret B hb rfl ⟨_, List.mem_cons_self, ⟨v1, rfl, by have := Int32.le_toInt v1; show (-2147483648 : Int) ≤ _; omega, by have := Int32.toInt_lt v1; show _ ≤ (2147483647 : Int); omega, fun d h => nomatch h⟩, (fun q h => nomatch h), by rw [pUM_eq]; exact cm_same hpre⟩ hW va_S.rf dX12_bits_21
      · refine lv_iinc hx hb dX12_bits_8 hl (k := 1) rfl rfl (by decide) rfl (fun ls hl => ?_)
        refine lv_iload_n hx hb dX12_bits_11 rfl (lv_at hl 1 rfl) ?_
        refine lv_iload_n hx hb dX12_bits_12 rfl (lv_at hl 1 rfl) ?_
        refine lv_iconst hx hb dX12_bits_13 rfl ?_
        refine lv_isub hx hb dX12_bits_14 ?_
        refine lv_iand hx hb dX12_bits_15 ?_
        refine lv_istore_n hx hb dX12_bits_16 rfl hl (by decide) rfl (fun ls hl => ?_)
        refine lv_goto (tgt := 4) hx hb dX12_bits_17 (by decide) ?_
        refine ih (v1 + Int32.ofInt 1) (v2 &&& (v2 - Int32.ofInt 1)) _ ?_ ?_
        · have := cm_bits_fall hc; omega
        · exact ⟨hl.1, hl.2.1, fun q hq => hl.2.2 q (by simpa using hq)⟩
  refine lv_iconst hx hb dX12_bits_0 rfl ?_
  refine lv_istore_n hx hb dX12_bits_1 rfl hl (by decide) rfl (fun ls hl => ?_)
  refine lv_iload_n hx hb dX12_bits_2 rfl (lv_at hl 1 rfl) ?_
  refine lv_istore_n hx hb dX12_bits_3 rfl hl (by decide) rfl (fun ls hl => ?_)
  exact loop _ _ _ _ (Nat.lt_succ_self _) hl
theorem hk_lossBy (hF : ck_LKf ck_LK) (hM : ck_LKm ck_tags ck_LK ck_tab) (habs : ck_Holds l D cys ty ck_tags ck_pvs0 Ex kn_14_abs) : ck_Holds l D cys ty ck_tags ck_pvs0 Ex kn_2_lossBy := by
  refine cm_enter (by decide +kernel) (by decide +kernel) (by decide +kernel) ?_
  intro vs pvv0 p e s m below meth c ls ha hpre B hl hW
  have hx := B.1
  have hb : c.code = cX2_lossBy := B.2.1
  obtain ⟨_, _, _, _, rfl, ⟨a0, rfl, t0⟩, ⟨a1, rfl, t1⟩, ⟨x2, rfl, l2, u2, -⟩, x3, rfl, l3, u3, -⟩ := cm_a4 ha
  dsimp only at l2 u2 l3 u3
  have hl : lv_has ls 4 [(0, .ref a0), (1, .ref a1), (2, .int x2), (3, .int x3)] := hl
  obtain ⟨ws, hP, hD, hT, hV, hE⟩ := id hW
  obtain ⟨q0, fs0, g0, -, f0⟩ := cm_obj hT t0 rfl
  obtain ⟨_, e9, a9, rfl, t9⟩ := f0 9 _ rfl
  obtain ⟨q9, f9, g9, i9⟩ := ck_arrI hT t9 rfl (by decide)
  obtain ⟨q1, fs1, g1, -, f1⟩ := cm_obj hT t1 rfl
  obtain ⟨_, e12, a12, rfl, t12⟩ := f1 12 _ rfl
  obtain ⟨q12, f12, g12, -⟩ := ck_arrI hT t12 rfl (by decide)
  have i9 := i9 x3.toInt.toNat (by omega)
  have i9 : -1 ≤ (f9 x3.toInt.toNat).toInt ∧ (f9 x3.toInt.toNat).toInt ≤ 7 := by
    have h3 : x3.toInt.toNat < 6 := by omega
    simpa [ck_in, ck_seg, h3] using i9
  have ret : ∀ (y : Int32) (pvv : Nat → Int32) (H : Heap) (locs : List Loc), ck_pvo ty (ck_XE pvv0) pU pvv → ck_Wo D cys ty ck_tags ck_pvs0 Ex pvv H → va_S (ck_own ty) s.heap H locs → W p l e (ck_rm kn_2_lossBy) s m [Value.ref a0, Value.ref a1, Value.int x2, Value.int x3].toArray below meth c H locs 0 0 (MQ below (ck_Qc D cys ty ck_tags ck_pvs0 Ex kn_2_lossBy [Value.ref a0, Value.ref a1, Value.int x2, Value.int x3] pvv0) [Value.ref a0, Value.ref a1, Value.int x2, Value.int x3].toArray s 0 0 (ck_own ty)) (F0 m 35 ls [.int y]) := by
    intro y pvv H locs hp hW hS
    exact cm_iret B hb rfl ⟨_, List.mem_cons_self, ⟨y, rfl, by have := Int32.le_toInt y; show (-2147483648 : Int) ≤ _; omega, by have := Int32.toInt_lt y; show _ ≤ (2147483647 : Int); omega, fun d h => nomatch h⟩, (fun q h => nomatch h), hp⟩ hW hS dX2_lossBy_35
  refine lv_aload_n hx hb dX2_lossBy_0 rfl (lv_at hl 0 rfl) ?_
  refine cm_get (ci := 2) (j := 9) (cd := 3) B hF hb hP g0 (by decide +kernel) e9 dX2_lossBy_1 ?_
  refine lv_iload_n hx hb dX2_lossBy_4 rfl (lv_at hl 3 rfl) ?_
  refine cm_iald B hb hP g9 (by omega) (by omega) dX2_lossBy_5 ?_
  refine lv_iconst hx hb dX2_lossBy_6 rfl ?_
  refine lv_icmp_ne (tgt := 14) hx hb dX2_lossBy_7 (by decide) (fun hc => ?_) (fun hc => ?_)
  · have h0 := cm_m1 hc i9.1
    refine lv_aload_n hx hb dX2_lossBy_14 rfl (lv_at hl 1 rfl) ?_
    refine cm_get (ci := 6) (j := 12) (cd := 3) B hF hb hP g1 (by decide +kernel) e12 dX2_lossBy_15 ?_
    refine lv_aload_n hx hb dX2_lossBy_18 rfl (lv_at hl 0 rfl) ?_
    refine cm_get (ci := 2) (j := 9) (cd := 3) B hF hb hP g0 (by decide +kernel) e9 dX2_lossBy_19 ?_
    refine lv_iload_n hx hb dX2_lossBy_22 rfl (lv_at hl 3 rfl) ?_
    refine cm_iald B hb hP g9 (by omega) (by omega) dX2_lossBy_23 ?_
    refine cm_iald B hb hP g12 (by omega) (by omega) dX2_lossBy_24 ?_
    refine lv_aload_n hx hb dX2_lossBy_25 rfl (lv_at hl 1 rfl) ?_
    refine cm_get (ci := 6) (j := 12) (cd := 3) B hF hb hP g1 (by decide +kernel) e12 dX2_lossBy_26 ?_
    refine lv_iload_n hx hb dX2_lossBy_29 rfl (lv_at hl 2 rfl) ?_
    refine cm_iald B hb hP g12 (by omega) (by omega) dX2_lossBy_30 ?_
    refine lv_isub hx hb dX2_lossBy_31 ?_
    refine cm_callS (kc := kn_14_abs) B rfl hb hl (hM.1 _ _ 1 [38] (by decide +kernel) 38 (by decide)) habs (As := [.int _]) ⟨⟨_, rfl, by have := Int32.le_toInt (f12 (f9 x3.toInt.toNat).toInt.toNat - f12 x2.toInt.toNat); show (-2147483648 : Int) ≤ _; omega, by have := Int32.toInt_lt (f12 (f9 x3.toInt.toNat).toInt.toNat - f12 x2.toInt.toNat); show _ ≤ (2147483647 : Int); omega, fun d h => nomatch h⟩, True.intro⟩ hpre hW va_S.rf rfl (by decide) (by decide) (by decide) dX2_lossBy_32 (fun cs hcs r pvv1 H1 locs1 hca hW1 hS1 => ?_)
    obtain ⟨rfl⟩ := List.mem_singleton.mp hcs
    match r, hca with
    | some _, ⟨⟨y, rfl, _⟩, _, hp⟩ => exact ret y pvv1 H1 locs1 hp hW1 hS1
  · refine lv_iconst hx hb dX2_lossBy_10 rfl ?_
    refine lv_goto (tgt := 35) hx hb dX2_lossBy_11 (by decide) ?_
    exact ret _ pvv0 _ _ (by rw [pU_eq]; exact cm_same hpre) hW va_S.rf
end H22

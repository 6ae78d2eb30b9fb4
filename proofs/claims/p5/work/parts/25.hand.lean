/-! BY HAND, 7: a scene's parts are set one by one: bitOf, sets, readScene. (bt and the rows b_ began as rows of kit/laws/BITS.) -/
def bt (x : Int32) (i : Nat) : Bool := x.toBitVec.getLsbD i
theorem b_ext {x y : Int32} (h : ∀ i, i < 32 → bt x i = bt y i) : x = y := Int32.toBitVec_inj.mp (BitVec.eq_of_getLsbD_eq (fun i hi => h i hi))
theorem b_or (x y : Int32) (i : Nat) : bt (x ||| y) i = (bt x i || bt y i) := by unfold bt; rw [Int32.toBitVec_or, BitVec.getLsbD_or]
theorem b_and (x y : Int32) (i : Nat) : bt (x &&& y) i = (bt x i && bt y i) := by unfold bt; rw [Int32.toBitVec_and, BitVec.getLsbD_and]
theorem s_l : ∀ n, n < 32 → ((nI n &&& 31).toBitVec.smod 32).toNat = n := by decide +kernel
theorem b_shl (n : Nat) (hn : n < 32) (x : Int32) {i : Nat} (hi : i < 32) : bt (x <<< (nI n &&& 31)) i = (decide (n ≤ i) && bt x (i - n)) := by
  unfold bt
  rw [Int32.toBitVec_shiftLeft]
  show (x.toBitVec <<< ((nI n &&& 31).toBitVec.smod 32).toNat).getLsbD i = _
  rw [s_l n hn, BitVec.getLsbD_shiftLeft]
  rcases Nat.lt_or_ge i n with h | h
  · simp [h, Nat.not_le.mpr h]
  · simp [hi, h, Nat.not_lt.mpr h]
theorem b_sshr (n : Nat) (hn : n < 32) (x : Int32) {i : Nat} (hi : i < 32) : bt (x >>> (nI n &&& 31)) i = if n + i < 32 then bt x (n + i) else bt x 31 := by
  unfold bt
  rw [Int32.toBitVec_shiftRight]
  show (x.toBitVec.sshiftRight ((nI n &&& 31).toBitVec.smod 32).toNat).getLsbD i = _
  rw [s_l n hn, BitVec.getLsbD_sshiftRight, BitVec.msb_eq_getLsbD_last]
  simp [hi]
theorem b_1 : ∀ i, i < 32 → bt 1 i = decide (i = 0) := by decide +kernel
theorem b_get {v k : Int32} (h0 : 0 ≤ k.toInt) (h5 : k.toInt ≤ 5) (h : ((v >>> (k &&& 31)) &&& 1).toInt ≠ 1) : bt v k.toInt.toNat = false := by
  obtain ⟨j, hj, rfl⟩ := ck_nn h0
  rw [nI_toInt hj] at h5 ⊢
  have e : ((j : Int)).toNat = j := by omega
  rw [e]
  cases hb : bt v j with
  | false => rfl
  | true =>
    exfalso
    apply h
    have : (v >>> (nI j &&& 31)) &&& 1 = 1 := b_ext (fun i hi => by
      rw [b_and, b_sshr j (by omega) v hi, b_1 i hi]
      by_cases e0 : i = 0
      · subst e0
        rw [if_pos (by omega), Nat.add_zero, hb]
        rfl
      · simp [e0])
    rw [this]
    rfl
def b_m (v : Int32) : Nat := (if bt v 0 then 0 else 1) + (if bt v 1 then 0 else 1) + (if bt v 2 then 0 else 1) + (if bt v 3 then 0 else 1) + (if bt v 4 then 0 else 1) + (if bt v 5 then 0 else 1)
theorem b_m6 (v : Int32) : b_m v ≤ 6 := by
  unfold b_m
  repeat' split
  all_goals omega
theorem b_fall {v k : Int32} (h0 : 0 ≤ k.toInt) (h5 : k.toInt ≤ 5) (h : bt v k.toInt.toNat = false) : b_m (v ||| ((1 : Int32) <<< (k &&& 31))) < b_m v := by
  obtain ⟨j, hj, rfl⟩ := ck_nn h0
  rw [nI_toInt hj] at h5 h
  have e : ((j : Int)).toNat = j := by omega
  rw [e] at h
  have key : ∀ i, i < 32 → bt (v ||| ((1 : Int32) <<< (nI j &&& 31))) i = (bt v i || decide (i = j)) := fun i hi => by
    rw [b_or, b_shl j (by omega) _ hi, b_1 _ (by omega)]
    by_cases e1 : i = j
    · subst e1; simp
    · by_cases e2 : j ≤ i
      · have : ¬ i - j = 0 := by omega
        simp [e1, e2, this]
      · simp [e1, e2]
  unfold b_m
  rw [key 0 (by omega), key 1 (by omega), key 2 (by omega), key 3 (by omega), key 4 (by omega), key 5 (by omega)]
  have hj5 : j ≤ 5 := by omega
  match j, hj5, h with
  | 0, _, h => simp [h]
  | 1, _, h => simp [h]
  | 2, _, h => simp [h]
  | 3, _, h => simp [h]
  | 4, _, h => simp [h]
  | 5, _, h => simp [h]
section H25
variable {l : Launch} {D : va_G} {cys : Nat → ClassId} {ty : Nat → Option Nat} {Ex : va_W → Prop} {pvv : Nat → Int32}
theorem dX12_bitOf_0 : decode cX12_bitOf 0 = .ok (.iload_n 0, 1) := by decide +kernel
theorem dX12_bitOf_1 : decode cX12_bitOf 1 = .ok (.iload_n 1, 1) := by decide +kernel
theorem dX12_bitOf_2 : decode cX12_bitOf 2 = .ok (.ishr, 1) := by decide +kernel
theorem dX12_bitOf_3 : decode cX12_bitOf 3 = .ok (.iconst 1, 1) := by decide +kernel
theorem dX12_bitOf_4 : decode cX12_bitOf 4 = .ok (.iand, 1) := by decide +kernel
theorem dX12_bitOf_5 : decode cX12_bitOf 5 = .ok (.iconst 1, 1) := by decide +kernel
theorem dX12_bitOf_6 : decode cX12_bitOf 6 = .ok (.if_icmp .ne 7, 3) := by decide +kernel
theorem dX12_bitOf_9 : decode cX12_bitOf 9 = .ok (.iconst 1, 1) := by decide +kernel
theorem dX12_bitOf_10 : decode cX12_bitOf 10 = .ok (.goto 4, 3) := by decide +kernel
theorem dX12_bitOf_13 : decode cX12_bitOf 13 = .ok (.iconst 0, 1) := by decide +kernel
theorem dX12_bitOf_14 : decode cX12_bitOf 14 = .ok (.ireturn, 1) := by decide +kernel
set_option maxRecDepth 100000 in
theorem hs_bitOf (x0 x1 : Int32) : hr_Met l D cys ty ck_tags ck_pvs0 Ex (ck_tab 202) [.int x0, .int x1] pvv (fun r pvv' E' => pvv' = pvv ∧ E' = Ex ∧ ∃ z : Int32, r = some (.int z) ∧ ((z.toInt = 0 ∧ ((x0 >>> (x1 &&& 31)) &&& 1).toInt ≠ 1) ∨ (z.toInt = 1 ∧ ((x0 >>> (x1 &&& 31)) &&& 1).toInt = 1))) := by
  refine hr_enter (by decide +kernel) (by decide +kernel) (by decide +kernel) ⟨hr_aF, hr_aF, True.intro⟩ ?_
  intro p e s m below meth c ls B hl hW
  have hx := B.1
  have hb : c.code = cX12_bitOf := B.2.1
  have hI := pv_inj
  have hS : va_S (ck_own ty) s.heap s.heap [] := va_S.rf
  have hl : lv_has ls 2 [(0, .int x0), (1, .int x1)] := hl
  refine lv_iload_n hx hb dX12_bitOf_0 rfl (lv_at hl 0 rfl) ?_
  refine lv_iload_n hx hb dX12_bitOf_1 rfl (lv_at hl 1 rfl) ?_
  refine lv_ishr hx hb dX12_bitOf_2 (lv_topi (fun z2 hz2 => ?_))
  refine hr_ic hx hb dX12_bitOf_3 (by decide) (fun z3 hz3 => ?_)
  refine lv_iand hx hb dX12_bitOf_4 (lv_topi (fun z4 hz4 => ?_))
  refine hr_ic hx hb dX12_bitOf_5 (by decide) (fun z5 hz5 => ?_)
  refine hr_ne (tgt := 13) hx hb dX12_bitOf_6 (by decide) (fun h6 => ?_) (fun h6 => ?_)
  · refine hr_ic hx hb dX12_bitOf_13 (by decide) (fun z13 hz13 => ?_)
    have e4 : z4 = (x0 >>> (x1 &&& 31)) &&& 1 := by rw [hz4, hz2]; congr 1; exact Int32.toInt_inj.mp (by rw [hz3]; rfl)
    have e4 := congrArg Int32.toInt e4
    exact hr_zret B hb rfl ⟨by omega, by omega⟩ ⟨rfl, rfl, z13, rfl, by omega⟩ hW hS dX12_bitOf_14
  · refine hr_ic hx hb dX12_bitOf_9 (by decide) (fun z9 hz9 => ?_)
    refine lv_goto (tgt := 14) hx hb dX12_bitOf_10 (by decide) ?_
    have e4 : z4 = (x0 >>> (x1 &&& 31)) &&& 1 := by rw [hz4, hz2]; congr 1; exact Int32.toInt_inj.mp (by rw [hz3]; rfl)
    have e4 := congrArg Int32.toInt e4
    exact hr_zret B hb rfl ⟨by omega, by omega⟩ ⟨rfl, rfl, z9, rfl, by omega⟩ hW hS dX12_bitOf_14
theorem dX12_sets_0 : decode cX12_sets 0 = .ok (.aload_n 0, 1) := by decide +kernel
theorem dX12_sets_1 : decode cX12_sets 1 = .ok (.getfield 37, 3) := by decide +kernel
theorem dX12_sets_4 : decode cX12_sets 4 = .ok (.iload_n 1, 1) := by decide +kernel
theorem dX12_sets_5 : decode cX12_sets 5 = .ok (.iaload, 1) := by decide +kernel
theorem dX12_sets_6 : decode cX12_sets 6 = .ok (.aload_n 0, 1) := by decide +kernel
theorem dX12_sets_7 : decode cX12_sets 7 = .ok (.getfield 202, 3) := by decide +kernel
theorem dX12_sets_10 : decode cX12_sets 10 = .ok (.invokestatic 217, 3) := by decide +kernel
theorem dX12_sets_13 : decode cX12_sets 13 = .ok (.ifCond .eq 9, 3) := by decide +kernel
theorem dX12_sets_16 : decode cX12_sets 16 = .ok (.aload_n 0, 1) := by decide +kernel
theorem dX12_sets_17 : decode cX12_sets 17 = .ok (.iconst 3, 1) := by decide +kernel
theorem dX12_sets_18 : decode cX12_sets 18 = .ok (.invokevirtual 192, 3) := by decide +kernel
theorem dX12_sets_21 : decode cX12_sets 21 = .ok (.ireturn, 1) := by decide +kernel
theorem dX12_sets_22 : decode cX12_sets 22 = .ok (.aload_n 0, 1) := by decide +kernel
theorem dX12_sets_23 : decode cX12_sets 23 = .ok (.getfield 37, 3) := by decide +kernel
theorem dX12_sets_26 : decode cX12_sets 26 = .ok (.iload_n 1, 1) := by decide +kernel
theorem dX12_sets_27 : decode cX12_sets 27 = .ok (.dup2, 1) := by decide +kernel
theorem dX12_sets_28 : decode cX12_sets 28 = .ok (.iaload, 1) := by decide +kernel
theorem dX12_sets_29 : decode cX12_sets 29 = .ok (.iconst 1, 1) := by decide +kernel
theorem dX12_sets_30 : decode cX12_sets 30 = .ok (.aload_n 0, 1) := by decide +kernel
theorem dX12_sets_31 : decode cX12_sets 31 = .ok (.getfield 202, 3) := by decide +kernel
theorem dX12_sets_34 : decode cX12_sets 34 = .ok (.ishl, 1) := by decide +kernel
theorem dX12_sets_35 : decode cX12_sets 35 = .ok (.ior, 1) := by decide +kernel
theorem dX12_sets_36 : decode cX12_sets 36 = .ok (.iastore, 1) := by decide +kernel
theorem dX12_sets_37 : decode cX12_sets 37 = .ok (.aload_n 0, 1) := by decide +kernel
theorem dX12_sets_38 : decode cX12_sets 38 = .ok (.invokevirtual 195, 3) := by decide +kernel
theorem dX12_sets_41 : decode cX12_sets 41 = .ok (.iconst 1, 1) := by decide +kernel
theorem dX12_sets_42 : decode cX12_sets 42 = .ok (.ireturn, 1) := by decide +kernel
def pqH (t : Nat) : List (Nat × Nat) := if t = 35 then [(0, 139)] else []
theorem pqH_A : ∀ t j, ck_pr (pqH t) j → ck_pr (ck_protA t) j := by
  intro t j h
  by_cases e : t = 35
  · subst e; exact h
  · obtain ⟨q, hq, -⟩ := h
    rw [pqH, if_neg e] at hq
    cases hq
/-- what a call of go leaves: all but three followed places, the place no less, more behind a sign -/
def goes (f g : Nat → Int32) : Prop := (∀ j, j < 32 → j ∉ [13, 14, 24, 31] → g j = f j) ∧ 0 ≤ (g 13).toInt - (f 13).toInt ∧ ((g 14).toInt = 3 → 1 ≤ (g 13).toInt - (f 13).toInt)
set_option maxRecDepth 100000 in
set_option maxHeartbeats 4000000 in
theorem hs_sets (hF : ck_LKf ck_LK) (hM : ck_LKm ck_tags ck_LK ck_tab) (hU : ck_uq ty ck_pvs0) (hun : ck_un ty) (hX : ck_ExP ty ck_prot0 Ex) (hHA : ∀ Ex', ck_ExP ty ck_protA Ex' → ∀ j, j < 273 → ck_Holds l D cys ty ck_tags ck_pvs0 Ex' (ck_tab j)) {C : Nat → Nat → Int32} {a0 : Nat} {x1 : Int32} (t0 : ty a0 = some 12) (l1 : 5 ≤ x1.toInt) (u1 : x1.toInt ≤ 139) (hp : ck_pvo ty (ck_XE pvv) pPM pvv) (g1 : 0 ≤ (pvv 24).toInt) (g2 : (pvv 24).toInt ≤ 5) : hr_Met l D cys ty ck_tags ck_pvs0 (fun ws => Ex ws ∧ tk ty pqH C ws) (ck_tab 314) [.ref a0, .int x1] pvv (fun r pvv' E' => ck_pvo ty (ck_XE pvv') pPM pvv' ∧ ∃ z : Int32, r = some (.int z) ∧ ((z.toInt = 0 ∧ E' = (fun ws => Ex ws ∧ tk ty pqH C ws) ∧ ∀ j, j < 32 → j ∉ [31] → pvv' j = pvv j) ∨ (z.toInt = 1 ∧ goes pvv pvv' ∧ ∃ C' : Nat → Nat → Int32, E' = (fun ws => Ex ws ∧ tk ty pqH C' ws) ∧ b_m (C' 35 x1.toInt.toNat) < b_m (C 35 x1.toInt.toNat)))) := by
  have hX2 : ∀ C, ck_ExP ty ck_protA (fun ws => Ex ws ∧ tk ty pqH C ws) := fun C => ExP_and (ExP_mono pr0A pr0Al hX) (tk_ExP pqH_A)
  refine hr_enter (by decide +kernel) (by decide +kernel) (by decide +kernel) ⟨hr_aR t0, hr_aI l1 u1, True.intro⟩ ?_
  intro p e s m below meth c ls B hl hW
  have hx := B.1
  have hb : c.code = cX12_sets := B.2.1
  have hI := pv_inj
  have hS : va_S (ck_own ty) s.heap s.heap [] := va_S.rf
  have hl : lv_has ls 2 [(0, .ref a0), (1, .int x1)] := hl
  refine lv_aload_n hx hb dX12_sets_0 rfl (lv_at hl 0 rfl) ?_
  refine hr_getR B hF hb hW (ci := 12) (j := 7) (cd := 3) t0 rfl (isF (by decide +kernel)) rfl dX12_sets_1 (fun az1 tz1 xz1 => ?_)
  refine lv_iload_n hx hb dX12_sets_4 rfl (lv_at hl 1 rfl) ?_
  refine hr_iald B hb hW tz1 rfl (by omega) (by omega) dX12_sets_5 (fun z5 iz5 pz5 xz5 => ?_)
  have xz5 := tk_xa xz5 (fun _ h => h.2) (pq := pqH) (C := C) tz1 ⟨(0, 139), by decide, by dsimp only; omega, by dsimp only; omega⟩; have kz5 := congrArg Int32.toInt xz5
  refine lv_aload_n hx hb dX12_sets_6 rfl (lv_at hl 0 rfl) ?_
  refine hr_getI B hF hb hW (ci := 12) (j := 18) (cd := 0) t0 rfl (isF (by decide +kernel)) rfl dX12_sets_7 (fun z7 lz7 uz7 pz7 xz7 => ?_)
  have pz7 := congrArg Int32.toInt (pz7 24 rfl)
  refine hr_callS (kc := ck_tab 202) B rfl hb hl (hM.1 _ _ 1 [202] (isM (by decide +kernel)) 202 (by decide)) (hs_bitOf z5 z7) ⟨hr_aF, hr_aF, True.intro⟩ hW hS rfl (by decide) (by decide) (Nat.le_of_ble_eq_true rfl) dX12_sets_10 (fun r pvv' E' H locs hpost hW hS => ?_)
  obtain ⟨rfl, rfl, z10, rfl, b10⟩ := hpost
  refine hr_eq0 (tgt := 22) hx hb dX12_sets_13 (by decide) (fun h13 => ?_) (fun h13 => ?_)
  · refine lv_aload_n hx hb dX12_sets_22 rfl (lv_at hl 0 rfl) ?_
    refine hr_getR B hF hb hW (ci := 12) (j := 7) (cd := 3) t0 rfl (isF (by decide +kernel)) rfl dX12_sets_23 (fun az23 tz23 xz23 => ?_)
    refine lv_iload_n hx hb dX12_sets_26 rfl (lv_at hl 1 rfl) ?_
    refine lv_dup2_11 hx hb dX12_sets_27 rfl rfl ?_
    refine hr_iald B hb hW tz23 rfl (by omega) (by omega) dX12_sets_28 (fun z28 iz28 pz28 xz28 => ?_)
    have xz28 := tk_xa xz28 (fun _ h => h.2) (pq := pqH) (C := C) tz23 ⟨(0, 139), by decide, by dsimp only; omega, by dsimp only; omega⟩; have kz28 := congrArg Int32.toInt xz28
    refine hr_ic hx hb dX12_sets_29 (by decide) (fun z29 hz29 => ?_)
    refine lv_aload_n hx hb dX12_sets_30 rfl (lv_at hl 0 rfl) ?_
    refine hr_getI B hF hb hW (ci := 12) (j := 18) (cd := 0) t0 rfl (isF (by decide +kernel)) rfl dX12_sets_31 (fun z31 lz31 uz31 pz31 xz31 => ?_)
    have pz31 := congrArg Int32.toInt (pz31 24 rfl)
    refine lv_ishl hx hb dX12_sets_34 (lv_topi (fun z34 hz34 => ?_))
    refine lv_ior hx hb dX12_sets_35 (lv_topi (fun z35 hz35 => ?_))
    refine hr_iastN (Ex' := fun ws => Ex ws ∧ tk ty pqH (tk_upd C 35 x1.toInt.toNat z35) ws) B hb hU hW hS tz23 rfl (by omega) (by omega) (hr_ins (a := 5) (b := 139) (lo := -2147483648) (hi := 2147483647) (by omega) (by omega) (by decide +kernel) (ck_lo _) (ck_hi _)) (fun ws q f hD hE hq => ⟨hr_EA (i := x1) hX tz23 (u := 5) (v := 139) (by omega) (by omega) (by decide) ws q f hD hE.1 hq, tk_EA tz23 (fun a h => hun 35 (by decide) _ _ tz23 h) ws q f hD hE.2 hq⟩) (u := 5) (v := 139) (by omega) (by omega) (by decide) dX12_sets_36 (fun H locs hW hS => ?_)
    refine lv_aload_n hx hb dX12_sets_37 rfl (lv_at hl 0 rfl) ?_
    refine cm_callV (kc := kc_209) B rfl hb hl (hM.1 _ _ 0 [209] (isM (by decide +kernel)) 209 (by decide)) (hHA _ (hX2 _) 209 (by decide)) (b := a0) (As := []) ⟨hr_aR t0, True.intro⟩ hp hW hS rfl (by decide) (by decide) (Nat.le_of_ble_eq_true rfl) dX12_sets_38 (fun cs hcs r pvv38 H locs hca hW hS => ?_)
    rcases List.mem_cons.mp hcs with rfl | hcs
    · obtain ⟨hr, hq, hc⟩ := hca
      obtain rfl := hr_rv0 hr
      have hp := hr_std hp hc (by decide +kernel)
      have e38r13 := hr_pv hc 13 (lo := 0) (hi := 940) rfl
      have e38d13_2026 := hr_pd hc 13 13 (lo := 0) (hi := 940) (a := 0) (b := 940) rfl (by decide)
      have e38r14 := hr_pv hc 14 (lo := 0) (hi := 0) rfl
      refine hr_ic hx hb dX12_sets_41 (by decide) (fun z41 hz41 => ?_)
      refine hr_zret B hb rfl ⟨by omega, by omega⟩ ⟨hp, z41, rfl, Or.inr ⟨by omega, ⟨hr_sameX hc (by decide +kernel), by omega, fun h9 => by omega⟩, _, rfl, ?_⟩⟩ hW hS dX12_sets_42
      rw [tk_us]
      have e28 : z28 = C 35 x1.toInt.toNat := xz28
      have e5 : z5 = C 35 x1.toInt.toNat := xz5
      have e29 : z29 = 1 := Int32.toInt_inj.mp (by rw [hz29]; rfl)
      have e35 : z35 = C 35 x1.toInt.toNat ||| ((1 : Int32) <<< (z31 &&& 31)) := by rw [hz35, hz34, e28, e29]
      rw [e35]
      refine b_fall (by omega) (by omega) (b_get (by omega) (by omega) ?_)
      have e7 : z31 = z7 := Int32.toInt_inj.mp (by omega)
      rw [e7, ← e5]
      rcases b10 with ⟨q1, q2⟩ | ⟨q1, q2⟩
      · exact q2
      · omega
    rcases List.mem_cons.mp hcs with rfl | hcs
    · obtain ⟨hr, hq, hc⟩ := hca
      obtain rfl := hr_rv0 hr
      have hp := hr_std hp hc (by decide +kernel)
      have e38r13 := hr_pv hc 13 (lo := 0) (hi := 940) rfl
      have e38d13_2026 := hr_pd hc 13 13 (lo := 0) (hi := 940) (a := 0) (b := 940) rfl (by decide)
      have e38r14 := hr_pv hc 14 (lo := 4) (hi := 4) rfl
      refine hr_ic hx hb dX12_sets_41 (by decide) (fun z41 hz41 => ?_)
      refine hr_zret B hb rfl ⟨by omega, by omega⟩ ⟨hp, z41, rfl, Or.inr ⟨by omega, ⟨hr_sameX hc (by decide +kernel), by omega, fun h9 => by omega⟩, _, rfl, ?_⟩⟩ hW hS dX12_sets_42
      rw [tk_us]
      have e28 : z28 = C 35 x1.toInt.toNat := xz28
      have e5 : z5 = C 35 x1.toInt.toNat := xz5
      have e29 : z29 = 1 := Int32.toInt_inj.mp (by rw [hz29]; rfl)
      have e35 : z35 = C 35 x1.toInt.toNat ||| ((1 : Int32) <<< (z31 &&& 31)) := by rw [hz35, hz34, e28, e29]
      rw [e35]
      refine b_fall (by omega) (by omega) (b_get (by omega) (by omega) ?_)
      have e7 : z31 = z7 := Int32.toInt_inj.mp (by omega)
      rw [e7, ← e5]
      rcases b10 with ⟨q1, q2⟩ | ⟨q1, q2⟩
      · exact q2
      · omega
    rcases List.mem_cons.mp hcs with rfl | hcs
    · obtain ⟨hr, hq, hc⟩ := hca
      obtain rfl := hr_rv0 hr
      have hp := hr_std hp hc (by decide +kernel)
      have e38r13 := hr_pv hc 13 (lo := 1) (hi := 940) rfl
      have e38d13_2026 := hr_pd hc 13 13 (lo := 1) (hi := 940) (a := 1) (b := 940) rfl (by decide)
      have e38r14 := hr_pv hc 14 (lo := 3) (hi := 3) rfl
      refine hr_ic hx hb dX12_sets_41 (by decide) (fun z41 hz41 => ?_)
      refine hr_zret B hb rfl ⟨by omega, by omega⟩ ⟨hp, z41, rfl, Or.inr ⟨by omega, ⟨hr_sameX hc (by decide +kernel), by omega, fun h9 => by omega⟩, _, rfl, ?_⟩⟩ hW hS dX12_sets_42
      rw [tk_us]
      have e28 : z28 = C 35 x1.toInt.toNat := xz28
      have e5 : z5 = C 35 x1.toInt.toNat := xz5
      have e29 : z29 = 1 := Int32.toInt_inj.mp (by rw [hz29]; rfl)
      have e35 : z35 = C 35 x1.toInt.toNat ||| ((1 : Int32) <<< (z31 &&& 31)) := by rw [hz35, hz34, e28, e29]
      rw [e35]
      refine b_fall (by omega) (by omega) (b_get (by omega) (by omega) ?_)
      have e7 : z31 = z7 := Int32.toInt_inj.mp (by omega)
      rw [e7, ← e5]
      rcases b10 with ⟨q1, q2⟩ | ⟨q1, q2⟩
      · exact q2
      · omega
    obtain rfl := List.mem_singleton.mp hcs
    obtain ⟨hr, hq, hc⟩ := hca
    obtain rfl := hr_rv0 hr
    have hp := hr_std hp hc (by decide +kernel)
    have e38r13 := hr_pv hc 13 (lo := 0) (hi := 940) rfl
    have e38d13_2026 := hr_pd hc 13 13 (lo := 0) (hi := 940) (a := 0) (b := 940) rfl (by decide)
    have e38r14 := hr_pv hc 14 (lo := 1) (hi := 2) rfl
    refine hr_ic hx hb dX12_sets_41 (by decide) (fun z41 hz41 => ?_)
    refine hr_zret B hb rfl ⟨by omega, by omega⟩ ⟨hp, z41, rfl, Or.inr ⟨by omega, ⟨hr_sameX hc (by decide +kernel), by omega, fun h9 => by omega⟩, _, rfl, ?_⟩⟩ hW hS dX12_sets_42
    rw [tk_us]
    have e28 : z28 = C 35 x1.toInt.toNat := xz28
    have e5 : z5 = C 35 x1.toInt.toNat := xz5
    have e29 : z29 = 1 := Int32.toInt_inj.mp (by rw [hz29]; rfl)
    have e35 : z35 = C 35 x1.toInt.toNat ||| ((1 : Int32) <<< (z31 &&& 31)) := by rw [hz35, hz34, e28, e29]
    rw [e35]
    refine b_fall (by omega) (by omega) (b_get (by omega) (by omega) ?_)
    have e7 : z31 = z7 := Int32.toInt_inj.mp (by omega)
    rw [e7, ← e5]
    rcases b10 with ⟨q1, q2⟩ | ⟨q1, q2⟩
    · exact q2
    · omega
  · refine lv_aload_n hx hb dX12_sets_16 rfl (lv_at hl 0 rfl) ?_
    refine hr_ic hx hb dX12_sets_17 (by decide) (fun z17 hz17 => ?_)
    refine cm_callV (kc := kc_205) B rfl hb hl (hM.1 _ _ 0 [205] (isM (by decide +kernel)) 205 (by decide)) (hHA _ (hX2 _) 205 (by decide)) (b := a0) (As := [.int z17]) ⟨hr_aR t0, hr_aI (by omega) (by omega), True.intro⟩ hp hW hS rfl (by decide) (by decide) (Nat.le_of_ble_eq_true rfl) dX12_sets_18 (fun cs hcs r pvv18 H locs hca hW hS => ?_)
    obtain rfl := List.mem_singleton.mp hcs
    obtain ⟨hr, hq, hc⟩ := hca
    obtain ⟨z18, rfl, lz18, uz18⟩ := hr_rvI hr
    have hp := hr_std hp hc (by decide +kernel)
    have e18w13 := congrArg Int32.toInt (hr_same1 hc (j := 13) (by decide +kernel))
    have e18w14 := congrArg Int32.toInt (hr_same1 hc (j := 14) (by decide +kernel))
    exact hr_zret B hb rfl ⟨by omega, by omega⟩ ⟨hp, z18, rfl, Or.inl ⟨by omega, rfl, hr_sameX (l := [31]) hc (by decide +kernel)⟩⟩ hW hS dX12_sets_21
theorem goes_rf {f : Nat → Int32} (h : (f 14).toInt ≠ 3) : goes f f := ⟨fun _ _ _ => rfl, by omega, fun q => absurd q h⟩
theorem goes_tr {f g h : Nat → Int32} (a : 0 ≤ (g 13).toInt - (f 13).toInt) (a2 : ∀ j, j < 32 → j ∉ [13, 14, 24, 31] → g j = f j) (b : goes g h) : goes f h := ⟨fun j hj hn => (b.1 j hj hn).trans (a2 j hj hn), by have := b.2.1; omega, fun q => by have := b.2.2 q; omega⟩
theorem goes_got {f g h : Nat → Int32} (a : goes f g) (b : ∀ j, j < 32 → j ∉ [24, 31] → h j = g j) : goes f h := by
  obtain ⟨a1, a2, a3⟩ := a
  have e1 := b 13 (by decide) (by decide)
  have e2 := b 14 (by decide) (by decide)
  refine ⟨fun j hj hn => (b j hj (fun q => hn ?_)).trans (a1 j hj hn), ?_, ?_⟩
  · simp only [List.mem_cons, List.not_mem_nil, or_false] at q ⊢; omega
  · rw [e1]; exact a2
  · rw [e1, e2]; exact a3
theorem hr_trkH {H : Heap} (hW : ck_Wo D cys ty ck_tags ck_pvs0 Ex pvv H) (hun : ck_un ty) {a : Nat} (hta : ty a = some 35) : ∃ C : Nat → Nat → Int32, ck_Wo D cys ty ck_tags ck_pvs0 (fun ws => Ex ws ∧ tk ty pqH C ws) pvv H := by
  obtain ⟨ws, h1, h2, h3, h4, h5⟩ := hW
  obtain ⟨q, f, g1, -⟩ := ck_arrI h3 hta rfl (by decide)
  refine ⟨fun _ j => f j, ws, h1, h2, h3, h4, h5, ?_⟩
  intro a' t q' en ha' hq' j hj
  have et : t = 35 := by
    by_cases e : t = 35
    · exact e
    · obtain ⟨r, hr, -⟩ := hj
      rw [pqH, if_neg e] at hr
      cases hr
  subst et
  obtain rfl := hun 35 (by decide) _ _ hta ha'
  obtain ⟨-, rfl⟩ := ck_D1 h2 g1 hq'
  rfl
theorem dX12_readScene_0 : decode cX12_readScene 0 = .ok (.aload_n 0, 1) := by decide +kernel
theorem dX12_readScene_1 : decode cX12_readScene 1 = .ok (.getfield 37, 3) := by decide +kernel
theorem dX12_readScene_4 : decode cX12_readScene 4 = .ok (.iconst 3, 1) := by decide +kernel
theorem dX12_readScene_5 : decode cX12_readScene 5 = .ok (.iaload, 1) := by decide +kernel
theorem dX12_readScene_6 : decode cX12_readScene 6 = .ok (.ifCond .ne 9, 3) := by decide +kernel
theorem dX12_readScene_9 : decode cX12_readScene 9 = .ok (.aload_n 0, 1) := by decide +kernel
theorem dX12_readScene_10 : decode cX12_readScene 10 = .ok (.iconst 1, 1) := by decide +kernel
theorem dX12_readScene_11 : decode cX12_readScene 11 = .ok (.invokevirtual 192, 3) := by decide +kernel
theorem dX12_readScene_14 : decode cX12_readScene 14 = .ok (.ireturn, 1) := by decide +kernel
theorem dX12_readScene_15 : decode cX12_readScene 15 = .ok (.aload_n 0, 1) := by decide +kernel
theorem dX12_readScene_16 : decode cX12_readScene 16 = .ok (.getfield 37, 3) := by decide +kernel
theorem dX12_readScene_19 : decode cX12_readScene 19 = .ok (.iconst 4, 1) := by decide +kernel
theorem dX12_readScene_20 : decode cX12_readScene 20 = .ok (.iaload, 1) := by decide +kernel
theorem dX12_readScene_21 : decode cX12_readScene 21 = .ok (.istore_n 1, 1) := by decide +kernel
theorem dX12_readScene_22 : decode cX12_readScene 22 = .ok (.iload_n 1, 1) := by decide +kernel
theorem dX12_readScene_23 : decode cX12_readScene 23 = .ok (.bipush 12, 2) := by decide +kernel
theorem dX12_readScene_25 : decode cX12_readScene 25 = .ok (.if_icmp .ne 9, 3) := by decide +kernel
theorem dX12_readScene_28 : decode cX12_readScene 28 = .ok (.aload_n 0, 1) := by decide +kernel
theorem dX12_readScene_29 : decode cX12_readScene 29 = .ok (.iconst 4, 1) := by decide +kernel
theorem dX12_readScene_30 : decode cX12_readScene 30 = .ok (.invokevirtual 192, 3) := by decide +kernel
theorem dX12_readScene_33 : decode cX12_readScene 33 = .ok (.ireturn, 1) := by decide +kernel
theorem dX12_readScene_34 : decode cX12_readScene 34 = .ok (.aload_n 0, 1) := by decide +kernel
theorem dX12_readScene_35 : decode cX12_readScene 35 = .ok (.invokevirtual 195, 3) := by decide +kernel
theorem dX12_readScene_38 : decode cX12_readScene 38 = .ok (.aload_n 0, 1) := by decide +kernel
theorem dX12_readScene_39 : decode cX12_readScene 39 = .ok (.getfield 37, 3) := by decide +kernel
theorem dX12_readScene_42 : decode cX12_readScene 42 = .ok (.bipush 104, 2) := by decide +kernel
theorem dX12_readScene_44 : decode cX12_readScene 44 = .ok (.iload_n 1, 1) := by decide +kernel
theorem dX12_readScene_45 : decode cX12_readScene 45 = .ok (.iadd, 1) := by decide +kernel
theorem dX12_readScene_46 : decode cX12_readScene 46 = .ok (.aload_n 0, 1) := by decide +kernel
theorem dX12_readScene_47 : decode cX12_readScene 47 = .ok (.getfield 37, 3) := by decide +kernel
theorem dX12_readScene_50 : decode cX12_readScene 50 = .ok (.iconst 3, 1) := by decide +kernel
theorem dX12_readScene_51 : decode cX12_readScene 51 = .ok (.iaload, 1) := by decide +kernel
theorem dX12_readScene_52 : decode cX12_readScene 52 = .ok (.iconst 1, 1) := by decide +kernel
theorem dX12_readScene_53 : decode cX12_readScene 53 = .ok (.isub, 1) := by decide +kernel
theorem dX12_readScene_54 : decode cX12_readScene 54 = .ok (.iastore, 1) := by decide +kernel
theorem dX12_readScene_55 : decode cX12_readScene 55 = .ok (.aload_n 0, 1) := by decide +kernel
theorem dX12_readScene_56 : decode cX12_readScene 56 = .ok (.getfield 37, 3) := by decide +kernel
theorem dX12_readScene_59 : decode cX12_readScene 59 = .ok (.bipush 116, 2) := by decide +kernel
theorem dX12_readScene_61 : decode cX12_readScene 61 = .ok (.iload_n 1, 1) := by decide +kernel
theorem dX12_readScene_62 : decode cX12_readScene 62 = .ok (.iadd, 1) := by decide +kernel
theorem dX12_readScene_63 : decode cX12_readScene 63 = .ok (.iconst 0, 1) := by decide +kernel
theorem dX12_readScene_64 : decode cX12_readScene 64 = .ok (.iastore, 1) := by decide +kernel
theorem dX12_readScene_65 : decode cX12_readScene 65 = .ok (.aload_n 0, 1) := by decide +kernel
theorem dX12_readScene_66 : decode cX12_readScene 66 = .ok (.getfield 37, 3) := by decide +kernel
theorem dX12_readScene_69 : decode cX12_readScene 69 = .ok (.bipush 116, 2) := by decide +kernel
theorem dX12_readScene_71 : decode cX12_readScene 71 = .ok (.iload_n 1, 1) := by decide +kernel
theorem dX12_readScene_72 : decode cX12_readScene 72 = .ok (.iadd, 1) := by decide +kernel
theorem dX12_readScene_73 : decode cX12_readScene 73 = .ok (.iaload, 1) := by decide +kernel
theorem dX12_readScene_74 : decode cX12_readScene 74 = .ok (.ifCond .eq 12, 3) := by decide +kernel
theorem dX12_readScene_77 : decode cX12_readScene 77 = .ok (.aload_n 0, 1) := by decide +kernel
theorem dX12_readScene_78 : decode cX12_readScene 78 = .ok (.bipush 59, 2) := by decide +kernel
theorem dX12_readScene_80 : decode cX12_readScene 80 = .ok (.invokevirtual 189, 3) := by decide +kernel
theorem dX12_readScene_83 : decode cX12_readScene 83 = .ok (.ifCond .ne 31, 3) := by decide +kernel
theorem dX12_readScene_86 : decode cX12_readScene 86 = .ok (.aload_n 0, 1) := by decide +kernel
theorem dX12_readScene_87 : decode cX12_readScene 87 = .ok (.bipush 20, 2) := by decide +kernel
theorem dX12_readScene_89 : decode cX12_readScene 89 = .ok (.aload_n 0, 1) := by decide +kernel
theorem dX12_readScene_90 : decode cX12_readScene 90 = .ok (.getfield 37, 3) := by decide +kernel
theorem dX12_readScene_93 : decode cX12_readScene 93 = .ok (.iconst 0, 1) := by decide +kernel
theorem dX12_readScene_94 : decode cX12_readScene 94 = .ok (.iaload, 1) := by decide +kernel
theorem dX12_readScene_95 : decode cX12_readScene 95 = .ok (.invokevirtual 213, 3) := by decide +kernel
theorem dX12_readScene_98 : decode cX12_readScene 98 = .ok (.ifCond .eq 14, 3) := by decide +kernel
theorem dX12_readScene_101 : decode cX12_readScene 101 = .ok (.aload_n 0, 1) := by decide +kernel
theorem dX12_readScene_102 : decode cX12_readScene 102 = .ok (.bipush 116, 2) := by decide +kernel
theorem dX12_readScene_104 : decode cX12_readScene 104 = .ok (.iload_n 1, 1) := by decide +kernel
theorem dX12_readScene_105 : decode cX12_readScene 105 = .ok (.iadd, 1) := by decide +kernel
theorem dX12_readScene_106 : decode cX12_readScene 106 = .ok (.invokevirtual 233, 3) := by decide +kernel
theorem dX12_readScene_109 : decode cX12_readScene 109 = .ok (.ifCond .ne (-44), 3) := by decide +kernel
theorem dX12_readScene_112 : decode cX12_readScene 112 = .ok (.iconst 0, 1) := by decide +kernel
theorem dX12_readScene_113 : decode cX12_readScene 113 = .ok (.ireturn, 1) := by decide +kernel
theorem dX12_readScene_114 : decode cX12_readScene 114 = .ok (.aload_n 0, 1) := by decide +kernel
theorem dX12_readScene_115 : decode cX12_readScene 115 = .ok (.getfield 37, 3) := by decide +kernel
theorem dX12_readScene_118 : decode cX12_readScene 118 = .ok (.iconst 4, 1) := by decide +kernel
theorem dX12_readScene_119 : decode cX12_readScene 119 = .ok (.dup2, 1) := by decide +kernel
theorem dX12_readScene_120 : decode cX12_readScene 120 = .ok (.iaload, 1) := by decide +kernel
theorem dX12_readScene_121 : decode cX12_readScene 121 = .ok (.iconst 1, 1) := by decide +kernel
theorem dX12_readScene_122 : decode cX12_readScene 122 = .ok (.iadd, 1) := by decide +kernel
theorem dX12_readScene_123 : decode cX12_readScene 123 = .ok (.iastore, 1) := by decide +kernel
theorem dX12_readScene_124 : decode cX12_readScene 124 = .ok (.iconst 1, 1) := by decide +kernel
theorem dX12_readScene_125 : decode cX12_readScene 125 = .ok (.ireturn, 1) := by decide +kernel
set_option maxRecDepth 100000 in
set_option maxHeartbeats 4000000 in
theorem hk_12_readScene (hF : ck_LKf ck_LK) (hM : ck_LKm ck_tags ck_LK ck_tab) (hU : ck_uq ty ck_pvs0) (hun : ck_un ty) (hX : ck_ExP ty ck_prot0 Ex) (hHA : ∀ Ex', ck_ExP ty ck_protA Ex' → ∀ j, j < 273 → ck_Holds l D cys ty ck_tags ck_pvs0 Ex' (ck_tab j)) (hH : ∀ j, j < 316 → ck_Holds l D cys ty ck_tags ck_pvs0 Ex (ck_tab j)) : ck_Holds l D cys ty ck_tags ck_pvs0 Ex (ck_tab 316) := by
  refine cm_enter (by decide +kernel) (by decide +kernel) (by decide +kernel) ?_
  intro vs pvv0 p e s m below meth c ls ha hp B hl hW
  have hx := B.1
  have hb : c.code = cX12_readScene := B.2.1
  have hI := pv_inj
  have hS : va_S (ck_own ty) s.heap s.heap [] := va_S.rf
  obtain ⟨_, rfl, ⟨a0, rfl, t0⟩⟩ := cm_a1 ha
  have hl : lv_has ls 2 [(0, .ref a0)] := hl
  have hp0 := hp
  have hX2 : ∀ C, ck_ExP ty ck_protA (fun ws => Ex ws ∧ tk ty pqH C ws) := fun C => ExP_and (ExP_mono pr0A pr0Al hX) (tk_ExP pqH_A)
  have r13 := hr_pv hp0 13 (lo := 0) (hi := 940) rfl
  have r14 := hr_pv hp0 14 (lo := 0) (hi := 4) rfl
  have r23 := hr_pv hp0 23 (lo := 0) (hi := 12) rfl
  have l65 : ∀ (n65 : Nat) (k : Int32) (pvv : Nat → Int32) (C : Nat → Nat → Int32) (ls : Array Slot) (H : Heap) (locs : List Loc), ((b_m (C 35 (116 + k.toInt).toNat) : Nat) : Int) < n65 → (0 ≤ k.toInt) → (k.toInt ≤ 11) → (k.toInt = (pvv0 23).toInt) → (goes pvv0 pvv) → (ck_pvo ty (ck_XE pvv) pPM pvv) → lv_has ls 2 [(1, .int k), (0, .ref a0)] → ck_Wo D cys ty ck_tags ck_pvs0 (fun ws => Ex ws ∧ tk ty pqH C ws) pvv H → va_S (ck_own ty) s.heap H locs → W p l e (ck_rm (ck_tab 316)) s m [Value.ref a0].toArray below meth c H locs 0 0 (MQ below (ck_Qc D cys ty ck_tags ck_pvs0 Ex (ck_tab 316) [Value.ref a0] pvv0) [Value.ref a0].toArray s 0 0 (ck_own ty)) (F0 m 65 ls []) := by
    intro n65
    induction n65 with
    | zero => intro k pvv C ls H locs hm65 k1 k2 k3 ge hp hl hW hS; omega
    | succ n65 ih65 =>
      intro k pvv C ls H locs hm65 k1 k2 k3 ge hp hl hW hS
      refine lv_aload_n hx hb dX12_readScene_65 rfl (lv_at hl 1 rfl) ?_
      refine hr_getR B hF hb hW (ci := 12) (j := 7) (cd := 3) t0 rfl (isF (by decide +kernel)) rfl dX12_readScene_66 (fun az66 tz66 xz66 => ?_)
      refine hr_bp hx hb dX12_readScene_69 (by decide) (by decide) (fun z69 hz69 => ?_)
      refine lv_iload_n hx hb dX12_readScene_71 rfl (lv_at hl 0 rfl) ?_
      refine hr_add hx hb dX12_readScene_72 (by omega) (by omega) (fun z72 hz72 => ?_)
      refine hr_iald B hb hW tz66 rfl (by omega) (by omega) dX12_readScene_73 (fun z73 iz73 pz73 xz73 => ?_)
      have xz73 := tk_xa xz73 (fun _ h => h.2) (pq := pqH) (C := C) tz66 ⟨(0, 139), by decide, by dsimp only; omega, by dsimp only; omega⟩; have kz73 := congrArg Int32.toInt xz73
      refine hr_eq0 (tgt := 86) hx hb dX12_readScene_74 (by decide) (fun h74 => ?_) (fun h74 => ?_)
      · refine lv_aload_n hx hb dX12_readScene_86 rfl (lv_at hl 1 rfl) ?_
        refine hr_bp hx hb dX12_readScene_87 (by decide) (by decide) (fun z87 hz87 => ?_)
        refine lv_aload_n hx hb dX12_readScene_89 rfl (lv_at hl 1 rfl) ?_
        refine hr_getR B hF hb hW (ci := 12) (j := 7) (cd := 3) t0 rfl (isF (by decide +kernel)) rfl dX12_readScene_90 (fun az90 tz90 xz90 => ?_)
        refine hr_ic hx hb dX12_readScene_93 (by decide) (fun z93 hz93 => ?_)
        refine hr_iald B hb hW tz90 rfl (by omega) (by omega) dX12_readScene_94 (fun z94 iz94 pz94 xz94 => ?_)
        have iz94 := hr_inr iz94 (a := 0) (b := 0) (lo := 0) (hi := 6) (by omega) (by omega) (by decide +kernel)
        have pz94 := congrArg Int32.toInt (pz94 19 (by rw [show z93.toInt.toNat = 0 by omega]; rfl))
        have xz94 := tk_xa xz94 (fun _ h => h.2) (pq := pqH) (C := C) tz90 ⟨(0, 139), by decide, by dsimp only; omega, by dsimp only; omega⟩; have kz94 := congrArg Int32.toInt xz94
        refine cm_callV (kc := kc_224) B rfl hb hl (hM.1 _ _ 0 [224, 225] (isM (by decide +kernel)) 224 (by decide)) (hHA _ (hX2 _) 224 (by decide)) (b := a0) (As := [.int z87, .int z94]) ⟨hr_aR t0, hr_aI (by omega) (by omega), hr_aI (by omega) (by omega), True.intro⟩ hp hW hS rfl (by decide) (by decide) (Nat.le_of_ble_eq_true rfl) dX12_readScene_95 (fun cs hcs r pvv95 H locs hca hW hS => ?_)
        rcases List.mem_cons.mp hcs with rfl | hcs
        · obtain ⟨hr, hq, hc⟩ := hca
          obtain ⟨z95, rfl, lz95, uz95⟩ := hr_rvI hr
          have hp := hr_std hp hc (by decide +kernel)
          have e95w13 := congrArg Int32.toInt (hr_same1 hc (j := 13) (by decide +kernel))
          have e95w14 := congrArg Int32.toInt (hr_same1 hc (j := 14) (by decide +kernel))
          have e95w23 := congrArg Int32.toInt (hr_same1 hc (j := 23) (by decide +kernel))
          have ge := goes_got ge (hr_sameX (l := [24, 31]) hc (by decide +kernel))
          refine hr_eq0 (tgt := 112) hx hb dX12_readScene_98 (by decide) (fun h98 => ?_) (fun h98 => ?_)
          · refine hr_ic hx hb dX12_readScene_112 (by decide) (fun z112 hz112 => ?_)
            have hW := hr_mono (fun _ h => h.1) hW
            refine cm_zret B hb rfl ⟨by omega, by omega⟩ ⟨_, List.mem_cons_self, hr_aI (ty := ty) (by omega) (by omega), (fun q h => nomatch h), ?_⟩ hW hS dX12_readScene_113
            have s31 := hr_pv hp 31 (lo := 0) (hi := 4) rfl
            have s13 := hr_pv hp 13 (lo := 0) (hi := 940) rfl
            have s14 := hr_pv hp 14 (lo := 0) (hi := 4) rfl
            have s23 := hr_pv hp 23 (lo := 0) (hi := 12) rfl
            obtain ⟨ge1, ge2, ge3⟩ := ge
            refine hr_mk (n := 32) [13, 14, 24, 23, 31] hp0 (fun j h1 h2 => ge1 j h1 (fun q => h2 (by simp only [List.mem_cons, List.not_mem_nil, or_false] at q ⊢; omega))) (by decide +kernel) (fun j hj av hav => ?_)
            rcases List.mem_cons.mp hj with rfl | hj
            · have hav : some (.inl (0, 940, [(2026, 0, 940)]) : ck_AV) = some av := hav
              cases hav
              exact hr_vd (q := 13) (by omega) (by omega) (by omega) (by omega)
            rcases List.mem_cons.mp hj with rfl | hj
            · have hav : some (.inl (0, 4, []) : ck_AV) = some av := hav
              cases hav
              exact hr_aI (by omega) (by omega)
            rcases List.mem_cons.mp hj with rfl | hj
            · have hav : some (.inl (-2147483648, 2147483647, []) : ck_AV) = some av := hav
              cases hav
              exact hr_aF
            rcases List.mem_cons.mp hj with rfl | hj
            · have hav : some (.inl (0, 12, []) : ck_AV) = some av := hav
              cases hav
              exact hr_aI (by omega) (by omega)
            obtain rfl := List.mem_singleton.mp hj
            have hav : some (.inl (0, 4, []) : ck_AV) = some av := hav
            cases hav
            exact hr_aI (by omega) (by omega)
          · omega
        obtain rfl := List.mem_singleton.mp hcs
        obtain ⟨hr, hq, hc⟩ := hca
        obtain ⟨z95, rfl, lz95, uz95⟩ := hr_rvI hr
        have hp := hr_std hp hc (by decide +kernel)
        have e95w13 := congrArg Int32.toInt (hr_same1 hc (j := 13) (by decide +kernel))
        have e95w14 := congrArg Int32.toInt (hr_same1 hc (j := 14) (by decide +kernel))
        have e95r24 := hr_pv hc 24 (lo := 0) (hi := 5) rfl
        have e95w23 := congrArg Int32.toInt (hr_same1 hc (j := 23) (by decide +kernel))
        have ge := goes_got ge (hr_sameX (l := [24, 31]) hc (by decide +kernel))
        refine hr_eq0 (tgt := 112) hx hb dX12_readScene_98 (by decide) (fun h98 => ?_) (fun h98 => ?_)
        · omega
        · refine lv_aload_n hx hb dX12_readScene_101 rfl (lv_at hl 1 rfl) ?_
          refine hr_bp hx hb dX12_readScene_102 (by decide) (by decide) (fun z102 hz102 => ?_)
          refine lv_iload_n hx hb dX12_readScene_104 rfl (lv_at hl 0 rfl) ?_
          refine hr_add hx hb dX12_readScene_105 (by omega) (by omega) (fun z105 hz105 => ?_)
          refine hr_callV (kc := ck_tab 314) B rfl hb hl (hM.1 _ _ 0 [314] (isM (by decide +kernel)) 314 (by decide)) (hs_sets hF hM hU hun hX hHA t0 (by omega) (by omega) hp (by omega) (by omega)) ⟨hr_aR t0, hr_aI (by omega) (by omega), True.intro⟩ hW hS rfl (by decide) (by decide) (Nat.le_of_ble_eq_true rfl) dX12_readScene_106 (fun r pvv106 E106 H locs hpost hW hS => ?_)
          obtain ⟨hp, z106, rfl, hpost⟩ := hpost
          rcases hpost with ⟨q1, rfl, q3⟩ | ⟨q1, q2, C2, rfl, q3⟩
          · have ge := goes_got ge (fun j hj hn => q3 j hj (fun q => hn (by rw [List.mem_singleton.mp q]; decide)))
            refine hr_ne0 (tgt := 65) hx hb dX12_readScene_109 (by decide) (fun h109 => ?_) (fun h109 => ?_)
            · omega
            refine hr_ic hx hb dX12_readScene_112 (by decide) (fun z112 hz112 => ?_)
            have hW := hr_mono (fun _ h => h.1) hW
            refine cm_zret B hb rfl ⟨by omega, by omega⟩ ⟨_, List.mem_cons_self, hr_aI (ty := ty) (by omega) (by omega), (fun q h => nomatch h), ?_⟩ hW hS dX12_readScene_113
            have s31 := hr_pv hp 31 (lo := 0) (hi := 4) rfl
            have s13 := hr_pv hp 13 (lo := 0) (hi := 940) rfl
            have s14 := hr_pv hp 14 (lo := 0) (hi := 4) rfl
            have s23 := hr_pv hp 23 (lo := 0) (hi := 12) rfl
            obtain ⟨ge1, ge2, ge3⟩ := ge
            refine hr_mk (n := 32) [13, 14, 24, 23, 31] hp0 (fun j h1 h2 => ge1 j h1 (fun q => h2 (by simp only [List.mem_cons, List.not_mem_nil, or_false] at q ⊢; omega))) (by decide +kernel) (fun j hj av hav => ?_)
            rcases List.mem_cons.mp hj with rfl | hj
            · have hav : some (.inl (0, 940, [(2026, 0, 940)]) : ck_AV) = some av := hav
              cases hav
              exact hr_vd (q := 13) (by omega) (by omega) (by omega) (by omega)
            rcases List.mem_cons.mp hj with rfl | hj
            · have hav : some (.inl (0, 4, []) : ck_AV) = some av := hav
              cases hav
              exact hr_aI (by omega) (by omega)
            rcases List.mem_cons.mp hj with rfl | hj
            · have hav : some (.inl (-2147483648, 2147483647, []) : ck_AV) = some av := hav
              cases hav
              exact hr_aF
            rcases List.mem_cons.mp hj with rfl | hj
            · have hav : some (.inl (0, 12, []) : ck_AV) = some av := hav
              cases hav
              exact hr_aI (by omega) (by omega)
            obtain rfl := List.mem_singleton.mp hj
            have hav : some (.inl (0, 4, []) : ck_AV) = some av := hav
            cases hav
            exact hr_aI (by omega) (by omega)
          have ge := goes_tr (by have := ge.2.1; omega) ge.1 q2
          refine hr_ne0 (tgt := 65) hx hb dX12_readScene_109 (by decide) (fun h109 => ?_) (fun h109 => ?_)
          · rw [show z105.toInt.toNat = (116 + k.toInt).toNat by omega] at q3
            exact ih65 k pvv106 C2 _ _ _ (by omega) (by omega) (by omega) (by omega) ge hp hl hW hS
          · omega
      · refine lv_aload_n hx hb dX12_readScene_77 rfl (lv_at hl 1 rfl) ?_
        refine hr_bp hx hb dX12_readScene_78 (by decide) (by decide) (fun z78 hz78 => ?_)
        refine cm_callV (kc := kc_210) B rfl hb hl (hM.1 _ _ 0 [210] (isM (by decide +kernel)) 210 (by decide)) (hHA _ (hX2 _) 210 (by decide)) (b := a0) (As := [.int z78]) ⟨hr_aR t0, hr_aF, True.intro⟩ hp hW hS rfl (by decide) (by decide) (Nat.le_of_ble_eq_true rfl) dX12_readScene_80 (fun cs hcs r pvv80 H locs hca hW hS => ?_)
        rcases List.mem_cons.mp hcs with rfl | hcs
        · obtain ⟨hr, hq, hc⟩ := hca
          obtain ⟨z80, rfl, lz80, uz80⟩ := hr_rvI hr
          have hW := hr_pvE (hr_sameA hc rfl (by decide +kernel)) hW
          refine hr_ne0 (tgt := 114) hx hb dX12_readScene_83 (by decide) (fun h83 => ?_) (fun h83 => ?_)
          · omega
          · refine lv_aload_n hx hb dX12_readScene_86 rfl (lv_at hl 1 rfl) ?_
            refine hr_bp hx hb dX12_readScene_87 (by decide) (by decide) (fun z87 hz87 => ?_)
            refine lv_aload_n hx hb dX12_readScene_89 rfl (lv_at hl 1 rfl) ?_
            refine hr_getR B hF hb hW (ci := 12) (j := 7) (cd := 3) t0 rfl (isF (by decide +kernel)) rfl dX12_readScene_90 (fun az90 tz90 xz90 => ?_)
            refine hr_ic hx hb dX12_readScene_93 (by decide) (fun z93 hz93 => ?_)
            refine hr_iald B hb hW tz90 rfl (by omega) (by omega) dX12_readScene_94 (fun z94 iz94 pz94 xz94 => ?_)
            have iz94 := hr_inr iz94 (a := 0) (b := 0) (lo := 0) (hi := 6) (by omega) (by omega) (by decide +kernel)
            have pz94 := congrArg Int32.toInt (pz94 19 (by rw [show z93.toInt.toNat = 0 by omega]; rfl))
            have xz94 := tk_xa xz94 (fun _ h => h.2) (pq := pqH) (C := C) tz90 ⟨(0, 139), by decide, by dsimp only; omega, by dsimp only; omega⟩; have kz94 := congrArg Int32.toInt xz94
            refine cm_callV (kc := kc_224) B rfl hb hl (hM.1 _ _ 0 [224, 225] (isM (by decide +kernel)) 224 (by decide)) (hHA _ (hX2 _) 224 (by decide)) (b := a0) (As := [.int z87, .int z94]) ⟨hr_aR t0, hr_aI (by omega) (by omega), hr_aI (by omega) (by omega), True.intro⟩ hp hW hS rfl (by decide) (by decide) (Nat.le_of_ble_eq_true rfl) dX12_readScene_95 (fun cs hcs r pvv95 H locs hca hW hS => ?_)
            rcases List.mem_cons.mp hcs with rfl | hcs
            · obtain ⟨hr, hq, hc⟩ := hca
              obtain ⟨z95, rfl, lz95, uz95⟩ := hr_rvI hr
              have hp := hr_std hp hc (by decide +kernel)
              have e95w13 := congrArg Int32.toInt (hr_same1 hc (j := 13) (by decide +kernel))
              have e95w14 := congrArg Int32.toInt (hr_same1 hc (j := 14) (by decide +kernel))
              have e95w23 := congrArg Int32.toInt (hr_same1 hc (j := 23) (by decide +kernel))
              have ge := goes_got ge (hr_sameX (l := [24, 31]) hc (by decide +kernel))
              refine hr_eq0 (tgt := 112) hx hb dX12_readScene_98 (by decide) (fun h98 => ?_) (fun h98 => ?_)
              · refine hr_ic hx hb dX12_readScene_112 (by decide) (fun z112 hz112 => ?_)
                have hW := hr_mono (fun _ h => h.1) hW
                refine cm_zret B hb rfl ⟨by omega, by omega⟩ ⟨_, List.mem_cons_self, hr_aI (ty := ty) (by omega) (by omega), (fun q h => nomatch h), ?_⟩ hW hS dX12_readScene_113
                have s31 := hr_pv hp 31 (lo := 0) (hi := 4) rfl
                have s13 := hr_pv hp 13 (lo := 0) (hi := 940) rfl
                have s14 := hr_pv hp 14 (lo := 0) (hi := 4) rfl
                have s23 := hr_pv hp 23 (lo := 0) (hi := 12) rfl
                obtain ⟨ge1, ge2, ge3⟩ := ge
                refine hr_mk (n := 32) [13, 14, 24, 23, 31] hp0 (fun j h1 h2 => ge1 j h1 (fun q => h2 (by simp only [List.mem_cons, List.not_mem_nil, or_false] at q ⊢; omega))) (by decide +kernel) (fun j hj av hav => ?_)
                rcases List.mem_cons.mp hj with rfl | hj
                · have hav : some (.inl (0, 940, [(2026, 0, 940)]) : ck_AV) = some av := hav
                  cases hav
                  exact hr_vd (q := 13) (by omega) (by omega) (by omega) (by omega)
                rcases List.mem_cons.mp hj with rfl | hj
                · have hav : some (.inl (0, 4, []) : ck_AV) = some av := hav
                  cases hav
                  exact hr_aI (by omega) (by omega)
                rcases List.mem_cons.mp hj with rfl | hj
                · have hav : some (.inl (-2147483648, 2147483647, []) : ck_AV) = some av := hav
                  cases hav
                  exact hr_aF
                rcases List.mem_cons.mp hj with rfl | hj
                · have hav : some (.inl (0, 12, []) : ck_AV) = some av := hav
                  cases hav
                  exact hr_aI (by omega) (by omega)
                obtain rfl := List.mem_singleton.mp hj
                have hav : some (.inl (0, 4, []) : ck_AV) = some av := hav
                cases hav
                exact hr_aI (by omega) (by omega)
              · omega
            obtain rfl := List.mem_singleton.mp hcs
            obtain ⟨hr, hq, hc⟩ := hca
            obtain ⟨z95, rfl, lz95, uz95⟩ := hr_rvI hr
            have hp := hr_std hp hc (by decide +kernel)
            have e95w13 := congrArg Int32.toInt (hr_same1 hc (j := 13) (by decide +kernel))
            have e95w14 := congrArg Int32.toInt (hr_same1 hc (j := 14) (by decide +kernel))
            have e95r24 := hr_pv hc 24 (lo := 0) (hi := 5) rfl
            have e95w23 := congrArg Int32.toInt (hr_same1 hc (j := 23) (by decide +kernel))
            have ge := goes_got ge (hr_sameX (l := [24, 31]) hc (by decide +kernel))
            refine hr_eq0 (tgt := 112) hx hb dX12_readScene_98 (by decide) (fun h98 => ?_) (fun h98 => ?_)
            · omega
            · refine lv_aload_n hx hb dX12_readScene_101 rfl (lv_at hl 1 rfl) ?_
              refine hr_bp hx hb dX12_readScene_102 (by decide) (by decide) (fun z102 hz102 => ?_)
              refine lv_iload_n hx hb dX12_readScene_104 rfl (lv_at hl 0 rfl) ?_
              refine hr_add hx hb dX12_readScene_105 (by omega) (by omega) (fun z105 hz105 => ?_)
              refine hr_callV (kc := ck_tab 314) B rfl hb hl (hM.1 _ _ 0 [314] (isM (by decide +kernel)) 314 (by decide)) (hs_sets hF hM hU hun hX hHA t0 (by omega) (by omega) hp (by omega) (by omega)) ⟨hr_aR t0, hr_aI (by omega) (by omega), True.intro⟩ hW hS rfl (by decide) (by decide) (Nat.le_of_ble_eq_true rfl) dX12_readScene_106 (fun r pvv106 E106 H locs hpost hW hS => ?_)
              obtain ⟨hp, z106, rfl, hpost⟩ := hpost
              rcases hpost with ⟨q1, rfl, q3⟩ | ⟨q1, q2, C2, rfl, q3⟩
              · have ge := goes_got ge (fun j hj hn => q3 j hj (fun q => hn (by rw [List.mem_singleton.mp q]; decide)))
                refine hr_ne0 (tgt := 65) hx hb dX12_readScene_109 (by decide) (fun h109 => ?_) (fun h109 => ?_)
                · omega
                refine hr_ic hx hb dX12_readScene_112 (by decide) (fun z112 hz112 => ?_)
                have hW := hr_mono (fun _ h => h.1) hW
                refine cm_zret B hb rfl ⟨by omega, by omega⟩ ⟨_, List.mem_cons_self, hr_aI (ty := ty) (by omega) (by omega), (fun q h => nomatch h), ?_⟩ hW hS dX12_readScene_113
                have s31 := hr_pv hp 31 (lo := 0) (hi := 4) rfl
                have s13 := hr_pv hp 13 (lo := 0) (hi := 940) rfl
                have s14 := hr_pv hp 14 (lo := 0) (hi := 4) rfl
                have s23 := hr_pv hp 23 (lo := 0) (hi := 12) rfl
                obtain ⟨ge1, ge2, ge3⟩ := ge
                refine hr_mk (n := 32) [13, 14, 24, 23, 31] hp0 (fun j h1 h2 => ge1 j h1 (fun q => h2 (by simp only [List.mem_cons, List.not_mem_nil, or_false] at q ⊢; omega))) (by decide +kernel) (fun j hj av hav => ?_)
                rcases List.mem_cons.mp hj with rfl | hj
                · have hav : some (.inl (0, 940, [(2026, 0, 940)]) : ck_AV) = some av := hav
                  cases hav
                  exact hr_vd (q := 13) (by omega) (by omega) (by omega) (by omega)
                rcases List.mem_cons.mp hj with rfl | hj
                · have hav : some (.inl (0, 4, []) : ck_AV) = some av := hav
                  cases hav
                  exact hr_aI (by omega) (by omega)
                rcases List.mem_cons.mp hj with rfl | hj
                · have hav : some (.inl (-2147483648, 2147483647, []) : ck_AV) = some av := hav
                  cases hav
                  exact hr_aF
                rcases List.mem_cons.mp hj with rfl | hj
                · have hav : some (.inl (0, 12, []) : ck_AV) = some av := hav
                  cases hav
                  exact hr_aI (by omega) (by omega)
                obtain rfl := List.mem_singleton.mp hj
                have hav : some (.inl (0, 4, []) : ck_AV) = some av := hav
                cases hav
                exact hr_aI (by omega) (by omega)
              have ge := goes_tr (by have := ge.2.1; omega) ge.1 q2
              refine hr_ne0 (tgt := 65) hx hb dX12_readScene_109 (by decide) (fun h109 => ?_) (fun h109 => ?_)
              · rw [show z105.toInt.toNat = (116 + k.toInt).toNat by omega] at q3
                exact ih65 k pvv106 C2 _ _ _ (by omega) (by omega) (by omega) (by omega) ge hp hl hW hS
              · omega
        obtain rfl := List.mem_singleton.mp hcs
        obtain ⟨hr, hq, hc⟩ := hca
        obtain ⟨z80, rfl, lz80, uz80⟩ := hr_rvI hr
        have e80r14 := hr_pv hc 14 (lo := 3) (hi := 3) rfl; rw [hr_same1 hc (j := 14) (by decide +kernel)] at e80r14
        have hW := hr_pvE (hr_sameA hc rfl (by decide +kernel)) hW
        refine hr_ne0 (tgt := 114) hx hb dX12_readScene_83 (by decide) (fun h83 => ?_) (fun h83 => ?_)
        · have hW := hr_mono (fun _ h => h.1) hW
          have k9 : (pvv 23).toInt = (pvv0 23).toInt := by rw [ge.1 23 (by decide) (by decide)]
          refine lv_aload_n hx hb dX12_readScene_114 rfl (lv_at hl 1 rfl) ?_
          refine hr_getR B hF hb hW (ci := 12) (j := 7) (cd := 3) t0 rfl (isF (by decide +kernel)) rfl dX12_readScene_115 (fun az115 tz115 xz115 => ?_)
          refine hr_ic hx hb dX12_readScene_118 (by decide) (fun z118 hz118 => ?_)
          refine lv_dup2_11 hx hb dX12_readScene_119 rfl rfl ?_
          refine hr_iald B hb hW tz115 rfl (by omega) (by omega) dX12_readScene_120 (fun z120 iz120 pz120 xz120 => ?_)
          have iz120 := hr_inr iz120 (a := 4) (b := 4) (lo := 0) (hi := 12) (by omega) (by omega) (by decide +kernel)
          have pz120 := congrArg Int32.toInt (pz120 23 (by rw [show z118.toInt.toNat = 4 by omega]; rfl))
          refine hr_ic hx hb dX12_readScene_121 (by decide) (fun z121 hz121 => ?_)
          refine hr_add hx hb dX12_readScene_122 (by omega) (by omega) (fun z122 hz122 => ?_)
          refine hr_iastP B hb hU hW hS tz115 rfl (by omega) (by omega) (hr_ins (a := 4) (b := 4) (lo := 0) (hi := 12) (by omega) (by omega) (by decide +kernel) (by omega) (by omega)) (hr_EA (i := z118) hX tz115 (u := 4) (v := 4) (by omega) (by omega) (by decide)) hI (q0 := 23) (w := 4) (by omega) rfl dX12_readScene_123 (fun H locs hW hS => ?_)
          obtain ⟨pvv123, e123⟩ : ∃ f, f = upd pvv 23 z122 := ⟨_, rfl⟩
          rw [← e123] at hW
          have e123q : pvv123 23 = z122 := by rw [e123, pk_us]
          have e123qi := congrArg Int32.toInt e123q
          have e123w13 : (pvv123 13).toInt = (pvv 13).toInt := by rw [e123, pk_un (by decide)]
          have e123w14 : (pvv123 14).toInt = (pvv 14).toInt := by rw [e123, pk_un (by decide)]
          have e123w24 : (pvv123 24).toInt = (pvv 24).toInt := by rw [e123, pk_un (by decide)]
          have hp := hr_updS hp (q := 23) (x := z122) (lo := 0) (hi := 12) rfl (by omega) (by omega) (by decide +kernel); rw [← e123] at hp
          refine hr_ic hx hb dX12_readScene_124 (by decide) (fun z124 hz124 => ?_)
          refine cm_zret B hb rfl ⟨by omega, by omega⟩ ⟨_, (List.mem_cons_of_mem _ List.mem_cons_self), hr_aI (ty := ty) (by omega) (by omega), (fun q h => nomatch h), ?_⟩ hW hS dX12_readScene_125
          have s31 := hr_pv hp 31 (lo := 0) (hi := 4) rfl
          have s13 := hr_pv hp 13 (lo := 0) (hi := 940) rfl
          have s14 := hr_pv hp 14 (lo := 0) (hi := 4) rfl
          have s23 := hr_pv hp 23 (lo := 0) (hi := 12) rfl
          obtain ⟨ge1, ge2, ge3⟩ := ge
          refine hr_mk (n := 32) [13, 14, 24, 23, 31] hp0 (fun j h1 h2 => by rw [e123, pk_un (fun q => h2 (by rw [q]; decide))]; exact ge1 j h1 (fun q => h2 (by simp only [List.mem_cons, List.not_mem_nil, or_false] at q ⊢; omega))) (by decide +kernel) (fun j hj av hav => ?_)
          rcases List.mem_cons.mp hj with rfl | hj
          · have hav : some (.inl (0, 940, [(2026, 1, 940)]) : ck_AV) = some av := hav
            cases hav
            exact hr_vd (q := 13) (by omega) (by omega) (by omega) (by omega)
          rcases List.mem_cons.mp hj with rfl | hj
          · have hav : some (.inl (3, 3, []) : ck_AV) = some av := hav
            cases hav
            exact hr_aI (by omega) (by omega)
          rcases List.mem_cons.mp hj with rfl | hj
          · have hav : some (.inl (-2147483648, 2147483647, []) : ck_AV) = some av := hav
            cases hav
            exact hr_aF
          rcases List.mem_cons.mp hj with rfl | hj
          · have hav : some (.inl (0, 12, []) : ck_AV) = some av := hav
            cases hav
            exact hr_aI (by omega) (by omega)
          obtain rfl := List.mem_singleton.mp hj
          have hav : some (.inl (0, 4, []) : ck_AV) = some av := hav
          cases hav
          exact hr_aI (by omega) (by omega)
        · omega
  refine lv_aload_n hx hb dX12_readScene_0 rfl (lv_at hl 0 rfl) ?_
  refine hr_getR B hF hb hW (ci := 12) (j := 7) (cd := 3) t0 rfl (isF (by decide +kernel)) rfl dX12_readScene_1 (fun az1 tz1 xz1 => ?_)
  refine hr_ic hx hb dX12_readScene_4 (by decide) (fun z4 hz4 => ?_)
  refine hr_iald B hb hW tz1 rfl (by omega) (by omega) dX12_readScene_5 (fun z5 iz5 pz5 xz5 => ?_)
  have iz5 := hr_inr iz5 (a := 3) (b := 3) (lo := 0) (hi := 6) (by omega) (by omega) (by decide +kernel)
  have pz5 := congrArg Int32.toInt (pz5 22 (by rw [show z4.toInt.toNat = 3 by omega]; rfl))
  refine hr_ne0 (tgt := 15) hx hb dX12_readScene_6 (by decide) (fun h6 => ?_) (fun h6 => ?_)
  · refine lv_aload_n hx hb dX12_readScene_15 rfl (lv_at hl 0 rfl) ?_
    refine hr_getR B hF hb hW (ci := 12) (j := 7) (cd := 3) t0 rfl (isF (by decide +kernel)) rfl dX12_readScene_16 (fun az16 tz16 xz16 => ?_)
    refine hr_ic hx hb dX12_readScene_19 (by decide) (fun z19 hz19 => ?_)
    refine hr_iald B hb hW tz16 rfl (by omega) (by omega) dX12_readScene_20 (fun z20 iz20 pz20 xz20 => ?_)
    have iz20 := hr_inr iz20 (a := 4) (b := 4) (lo := 0) (hi := 12) (by omega) (by omega) (by decide +kernel)
    have pz20 := congrArg Int32.toInt (pz20 23 (by rw [show z19.toInt.toNat = 4 by omega]; rfl))
    refine lv_istore_n hx hb dX12_readScene_21 rfl hl (lv' := [(1, .int z20), (0, .ref a0)]) (by decide) rfl (fun ls hl => ?_)
    refine lv_iload_n hx hb dX12_readScene_22 rfl (lv_at hl 0 rfl) ?_
    refine hr_bp hx hb dX12_readScene_23 (by decide) (by decide) (fun z23 hz23 => ?_)
    refine hr_ne (tgt := 34) hx hb dX12_readScene_25 (by decide) (fun h25 => ?_) (fun h25 => ?_)
    · refine lv_aload_n hx hb dX12_readScene_34 rfl (lv_at hl 1 rfl) ?_
      refine cm_callV (kc := kc_209) B rfl hb hl (hM.1 _ _ 0 [209] (isM (by decide +kernel)) 209 (by decide)) (hH 209 (by decide)) (b := a0) (As := []) ⟨hr_aR t0, True.intro⟩ hp hW hS rfl (by decide) (by decide) (Nat.le_of_ble_eq_true rfl) dX12_readScene_35 (fun cs hcs r pvv35 H locs hca hW hS => ?_)
      rcases List.mem_cons.mp hcs with rfl | hcs
      · obtain ⟨hr, hq, hc⟩ := hca
        obtain rfl := hr_rv0 hr
        have hp := hr_std hp hc (by decide +kernel)
        have e35r13 := hr_pv hc 13 (lo := 0) (hi := 940) rfl
        have e35d13_2026 := hr_pd hc 13 13 (lo := 0) (hi := 940) (a := 0) (b := 940) rfl (by decide)
        have e35r14 := hr_pv hc 14 (lo := 0) (hi := 0) rfl
        have e35w24 := congrArg Int32.toInt (hr_same1 hc (j := 24) (by decide +kernel))
        have e35w23 := congrArg Int32.toInt (hr_same1 hc (j := 23) (by decide +kernel))
        have ge : goes pvv0 pvv35 := ⟨hr_sameX hc (by decide +kernel), by omega, fun h9 => by omega⟩
        refine lv_aload_n hx hb dX12_readScene_38 rfl (lv_at hl 1 rfl) ?_
        refine hr_getR B hF hb hW (ci := 12) (j := 7) (cd := 3) t0 rfl (isF (by decide +kernel)) rfl dX12_readScene_39 (fun az39 tz39 xz39 => ?_)
        refine hr_bp hx hb dX12_readScene_42 (by decide) (by decide) (fun z42 hz42 => ?_)
        refine lv_iload_n hx hb dX12_readScene_44 rfl (lv_at hl 0 rfl) ?_
        refine hr_add hx hb dX12_readScene_45 (by omega) (by omega) (fun z45 hz45 => ?_)
        refine lv_aload_n hx hb dX12_readScene_46 rfl (lv_at hl 1 rfl) ?_
        refine hr_getR B hF hb hW (ci := 12) (j := 7) (cd := 3) t0 rfl (isF (by decide +kernel)) rfl dX12_readScene_47 (fun az47 tz47 xz47 => ?_)
        refine hr_ic hx hb dX12_readScene_50 (by decide) (fun z50 hz50 => ?_)
        refine hr_iald B hb hW tz47 rfl (by omega) (by omega) dX12_readScene_51 (fun z51 iz51 pz51 xz51 => ?_)
        have iz51 := hr_inr iz51 (a := 3) (b := 3) (lo := 0) (hi := 6) (by omega) (by omega) (by decide +kernel)
        have pz51 := congrArg Int32.toInt (pz51 22 (by rw [show z50.toInt.toNat = 3 by omega]; rfl))
        refine hr_ic hx hb dX12_readScene_52 (by decide) (fun z52 hz52 => ?_)
        refine hr_sub hx hb dX12_readScene_53 (by omega) (by omega) (fun z53 hz53 => ?_)
        refine hr_iastN B hb hU hW hS tz39 rfl (by omega) (by omega) (hr_ins (a := 104) (b := 115) (lo := -2147483648) (hi := 2147483647) (by omega) (by omega) (by decide +kernel) (ck_lo _) (ck_hi _)) (hr_EA (i := z45) hX tz39 (u := 104) (v := 115) (by omega) (by omega) (by decide)) (u := 104) (v := 115) (by omega) (by omega) (by decide) dX12_readScene_54 (fun H locs hW hS => ?_)
        refine lv_aload_n hx hb dX12_readScene_55 rfl (lv_at hl 1 rfl) ?_
        refine hr_getR B hF hb hW (ci := 12) (j := 7) (cd := 3) t0 rfl (isF (by decide +kernel)) rfl dX12_readScene_56 (fun az56 tz56 xz56 => ?_)
        refine hr_bp hx hb dX12_readScene_59 (by decide) (by decide) (fun z59 hz59 => ?_)
        refine lv_iload_n hx hb dX12_readScene_61 rfl (lv_at hl 0 rfl) ?_
        refine hr_add hx hb dX12_readScene_62 (by omega) (by omega) (fun z62 hz62 => ?_)
        refine hr_ic hx hb dX12_readScene_63 (by decide) (fun z63 hz63 => ?_)
        refine hr_iastN B hb hU hW hS tz56 rfl (by omega) (by omega) (hr_ins (a := 116) (b := 127) (lo := -2147483648) (hi := 2147483647) (by omega) (by omega) (by decide +kernel) (ck_lo _) (ck_hi _)) (hr_EA (i := z62) hX tz56 (u := 116) (v := 127) (by omega) (by omega) (by decide)) (u := 116) (v := 127) (by omega) (by omega) (by decide) dX12_readScene_64 (fun H locs hW hS => ?_)
        obtain ⟨C, hW⟩ := hr_trkH hW hun (a := az56) tz56
        have b6 := b_m6 (C 35 (116 + z20.toInt).toNat)
        exact l65 7 z20 pvv35 C _ _ _ (by omega) (by omega) (by omega) (by omega) ge hp hl hW hS
      rcases List.mem_cons.mp hcs with rfl | hcs
      · obtain ⟨hr, hq, hc⟩ := hca
        obtain rfl := hr_rv0 hr
        have hp := hr_std hp hc (by decide +kernel)
        have e35r13 := hr_pv hc 13 (lo := 0) (hi := 940) rfl
        have e35d13_2026 := hr_pd hc 13 13 (lo := 0) (hi := 940) (a := 0) (b := 940) rfl (by decide)
        have e35r14 := hr_pv hc 14 (lo := 4) (hi := 4) rfl
        have e35w24 := congrArg Int32.toInt (hr_same1 hc (j := 24) (by decide +kernel))
        have e35w23 := congrArg Int32.toInt (hr_same1 hc (j := 23) (by decide +kernel))
        have ge : goes pvv0 pvv35 := ⟨hr_sameX hc (by decide +kernel), by omega, fun h9 => by omega⟩
        refine lv_aload_n hx hb dX12_readScene_38 rfl (lv_at hl 1 rfl) ?_
        refine hr_getR B hF hb hW (ci := 12) (j := 7) (cd := 3) t0 rfl (isF (by decide +kernel)) rfl dX12_readScene_39 (fun az39 tz39 xz39 => ?_)
        refine hr_bp hx hb dX12_readScene_42 (by decide) (by decide) (fun z42 hz42 => ?_)
        refine lv_iload_n hx hb dX12_readScene_44 rfl (lv_at hl 0 rfl) ?_
        refine hr_add hx hb dX12_readScene_45 (by omega) (by omega) (fun z45 hz45 => ?_)
        refine lv_aload_n hx hb dX12_readScene_46 rfl (lv_at hl 1 rfl) ?_
        refine hr_getR B hF hb hW (ci := 12) (j := 7) (cd := 3) t0 rfl (isF (by decide +kernel)) rfl dX12_readScene_47 (fun az47 tz47 xz47 => ?_)
        refine hr_ic hx hb dX12_readScene_50 (by decide) (fun z50 hz50 => ?_)
        refine hr_iald B hb hW tz47 rfl (by omega) (by omega) dX12_readScene_51 (fun z51 iz51 pz51 xz51 => ?_)
        have iz51 := hr_inr iz51 (a := 3) (b := 3) (lo := 0) (hi := 6) (by omega) (by omega) (by decide +kernel)
        have pz51 := congrArg Int32.toInt (pz51 22 (by rw [show z50.toInt.toNat = 3 by omega]; rfl))
        refine hr_ic hx hb dX12_readScene_52 (by decide) (fun z52 hz52 => ?_)
        refine hr_sub hx hb dX12_readScene_53 (by omega) (by omega) (fun z53 hz53 => ?_)
        refine hr_iastN B hb hU hW hS tz39 rfl (by omega) (by omega) (hr_ins (a := 104) (b := 115) (lo := -2147483648) (hi := 2147483647) (by omega) (by omega) (by decide +kernel) (ck_lo _) (ck_hi _)) (hr_EA (i := z45) hX tz39 (u := 104) (v := 115) (by omega) (by omega) (by decide)) (u := 104) (v := 115) (by omega) (by omega) (by decide) dX12_readScene_54 (fun H locs hW hS => ?_)
        refine lv_aload_n hx hb dX12_readScene_55 rfl (lv_at hl 1 rfl) ?_
        refine hr_getR B hF hb hW (ci := 12) (j := 7) (cd := 3) t0 rfl (isF (by decide +kernel)) rfl dX12_readScene_56 (fun az56 tz56 xz56 => ?_)
        refine hr_bp hx hb dX12_readScene_59 (by decide) (by decide) (fun z59 hz59 => ?_)
        refine lv_iload_n hx hb dX12_readScene_61 rfl (lv_at hl 0 rfl) ?_
        refine hr_add hx hb dX12_readScene_62 (by omega) (by omega) (fun z62 hz62 => ?_)
        refine hr_ic hx hb dX12_readScene_63 (by decide) (fun z63 hz63 => ?_)
        refine hr_iastN B hb hU hW hS tz56 rfl (by omega) (by omega) (hr_ins (a := 116) (b := 127) (lo := -2147483648) (hi := 2147483647) (by omega) (by omega) (by decide +kernel) (ck_lo _) (ck_hi _)) (hr_EA (i := z62) hX tz56 (u := 116) (v := 127) (by omega) (by omega) (by decide)) (u := 116) (v := 127) (by omega) (by omega) (by decide) dX12_readScene_64 (fun H locs hW hS => ?_)
        obtain ⟨C, hW⟩ := hr_trkH hW hun (a := az56) tz56
        have b6 := b_m6 (C 35 (116 + z20.toInt).toNat)
        exact l65 7 z20 pvv35 C _ _ _ (by omega) (by omega) (by omega) (by omega) ge hp hl hW hS
      rcases List.mem_cons.mp hcs with rfl | hcs
      · obtain ⟨hr, hq, hc⟩ := hca
        obtain rfl := hr_rv0 hr
        have hp := hr_std hp hc (by decide +kernel)
        have e35r13 := hr_pv hc 13 (lo := 1) (hi := 940) rfl
        have e35d13_2026 := hr_pd hc 13 13 (lo := 1) (hi := 940) (a := 1) (b := 940) rfl (by decide)
        have e35r14 := hr_pv hc 14 (lo := 3) (hi := 3) rfl
        have e35w24 := congrArg Int32.toInt (hr_same1 hc (j := 24) (by decide +kernel))
        have e35w23 := congrArg Int32.toInt (hr_same1 hc (j := 23) (by decide +kernel))
        have ge : goes pvv0 pvv35 := ⟨hr_sameX hc (by decide +kernel), by omega, fun h9 => by omega⟩
        refine lv_aload_n hx hb dX12_readScene_38 rfl (lv_at hl 1 rfl) ?_
        refine hr_getR B hF hb hW (ci := 12) (j := 7) (cd := 3) t0 rfl (isF (by decide +kernel)) rfl dX12_readScene_39 (fun az39 tz39 xz39 => ?_)
        refine hr_bp hx hb dX12_readScene_42 (by decide) (by decide) (fun z42 hz42 => ?_)
        refine lv_iload_n hx hb dX12_readScene_44 rfl (lv_at hl 0 rfl) ?_
        refine hr_add hx hb dX12_readScene_45 (by omega) (by omega) (fun z45 hz45 => ?_)
        refine lv_aload_n hx hb dX12_readScene_46 rfl (lv_at hl 1 rfl) ?_
        refine hr_getR B hF hb hW (ci := 12) (j := 7) (cd := 3) t0 rfl (isF (by decide +kernel)) rfl dX12_readScene_47 (fun az47 tz47 xz47 => ?_)
        refine hr_ic hx hb dX12_readScene_50 (by decide) (fun z50 hz50 => ?_)
        refine hr_iald B hb hW tz47 rfl (by omega) (by omega) dX12_readScene_51 (fun z51 iz51 pz51 xz51 => ?_)
        have iz51 := hr_inr iz51 (a := 3) (b := 3) (lo := 0) (hi := 6) (by omega) (by omega) (by decide +kernel)
        have pz51 := congrArg Int32.toInt (pz51 22 (by rw [show z50.toInt.toNat = 3 by omega]; rfl))
        refine hr_ic hx hb dX12_readScene_52 (by decide) (fun z52 hz52 => ?_)
        refine hr_sub hx hb dX12_readScene_53 (by omega) (by omega) (fun z53 hz53 => ?_)
        refine hr_iastN B hb hU hW hS tz39 rfl (by omega) (by omega) (hr_ins (a := 104) (b := 115) (lo := -2147483648) (hi := 2147483647) (by omega) (by omega) (by decide +kernel) (ck_lo _) (ck_hi _)) (hr_EA (i := z45) hX tz39 (u := 104) (v := 115) (by omega) (by omega) (by decide)) (u := 104) (v := 115) (by omega) (by omega) (by decide) dX12_readScene_54 (fun H locs hW hS => ?_)
        refine lv_aload_n hx hb dX12_readScene_55 rfl (lv_at hl 1 rfl) ?_
        refine hr_getR B hF hb hW (ci := 12) (j := 7) (cd := 3) t0 rfl (isF (by decide +kernel)) rfl dX12_readScene_56 (fun az56 tz56 xz56 => ?_)
        refine hr_bp hx hb dX12_readScene_59 (by decide) (by decide) (fun z59 hz59 => ?_)
        refine lv_iload_n hx hb dX12_readScene_61 rfl (lv_at hl 0 rfl) ?_
        refine hr_add hx hb dX12_readScene_62 (by omega) (by omega) (fun z62 hz62 => ?_)
        refine hr_ic hx hb dX12_readScene_63 (by decide) (fun z63 hz63 => ?_)
        refine hr_iastN B hb hU hW hS tz56 rfl (by omega) (by omega) (hr_ins (a := 116) (b := 127) (lo := -2147483648) (hi := 2147483647) (by omega) (by omega) (by decide +kernel) (ck_lo _) (ck_hi _)) (hr_EA (i := z62) hX tz56 (u := 116) (v := 127) (by omega) (by omega) (by decide)) (u := 116) (v := 127) (by omega) (by omega) (by decide) dX12_readScene_64 (fun H locs hW hS => ?_)
        obtain ⟨C, hW⟩ := hr_trkH hW hun (a := az56) tz56
        have b6 := b_m6 (C 35 (116 + z20.toInt).toNat)
        exact l65 7 z20 pvv35 C _ _ _ (by omega) (by omega) (by omega) (by omega) ge hp hl hW hS
      obtain rfl := List.mem_singleton.mp hcs
      obtain ⟨hr, hq, hc⟩ := hca
      obtain rfl := hr_rv0 hr
      have hp := hr_std hp hc (by decide +kernel)
      have e35r13 := hr_pv hc 13 (lo := 0) (hi := 940) rfl
      have e35d13_2026 := hr_pd hc 13 13 (lo := 0) (hi := 940) (a := 0) (b := 940) rfl (by decide)
      have e35r14 := hr_pv hc 14 (lo := 1) (hi := 2) rfl
      have e35w24 := congrArg Int32.toInt (hr_same1 hc (j := 24) (by decide +kernel))
      have e35w23 := congrArg Int32.toInt (hr_same1 hc (j := 23) (by decide +kernel))
      have ge : goes pvv0 pvv35 := ⟨hr_sameX hc (by decide +kernel), by omega, fun h9 => by omega⟩
      refine lv_aload_n hx hb dX12_readScene_38 rfl (lv_at hl 1 rfl) ?_
      refine hr_getR B hF hb hW (ci := 12) (j := 7) (cd := 3) t0 rfl (isF (by decide +kernel)) rfl dX12_readScene_39 (fun az39 tz39 xz39 => ?_)
      refine hr_bp hx hb dX12_readScene_42 (by decide) (by decide) (fun z42 hz42 => ?_)
      refine lv_iload_n hx hb dX12_readScene_44 rfl (lv_at hl 0 rfl) ?_
      refine hr_add hx hb dX12_readScene_45 (by omega) (by omega) (fun z45 hz45 => ?_)
      refine lv_aload_n hx hb dX12_readScene_46 rfl (lv_at hl 1 rfl) ?_
      refine hr_getR B hF hb hW (ci := 12) (j := 7) (cd := 3) t0 rfl (isF (by decide +kernel)) rfl dX12_readScene_47 (fun az47 tz47 xz47 => ?_)
      refine hr_ic hx hb dX12_readScene_50 (by decide) (fun z50 hz50 => ?_)
      refine hr_iald B hb hW tz47 rfl (by omega) (by omega) dX12_readScene_51 (fun z51 iz51 pz51 xz51 => ?_)
      have iz51 := hr_inr iz51 (a := 3) (b := 3) (lo := 0) (hi := 6) (by omega) (by omega) (by decide +kernel)
      have pz51 := congrArg Int32.toInt (pz51 22 (by rw [show z50.toInt.toNat = 3 by omega]; rfl))
      refine hr_ic hx hb dX12_readScene_52 (by decide) (fun z52 hz52 => ?_)
      refine hr_sub hx hb dX12_readScene_53 (by omega) (by omega) (fun z53 hz53 => ?_)
      refine hr_iastN B hb hU hW hS tz39 rfl (by omega) (by omega) (hr_ins (a := 104) (b := 115) (lo := -2147483648) (hi := 2147483647) (by omega) (by omega) (by decide +kernel) (ck_lo _) (ck_hi _)) (hr_EA (i := z45) hX tz39 (u := 104) (v := 115) (by omega) (by omega) (by decide)) (u := 104) (v := 115) (by omega) (by omega) (by decide) dX12_readScene_54 (fun H locs hW hS => ?_)
      refine lv_aload_n hx hb dX12_readScene_55 rfl (lv_at hl 1 rfl) ?_
      refine hr_getR B hF hb hW (ci := 12) (j := 7) (cd := 3) t0 rfl (isF (by decide +kernel)) rfl dX12_readScene_56 (fun az56 tz56 xz56 => ?_)
      refine hr_bp hx hb dX12_readScene_59 (by decide) (by decide) (fun z59 hz59 => ?_)
      refine lv_iload_n hx hb dX12_readScene_61 rfl (lv_at hl 0 rfl) ?_
      refine hr_add hx hb dX12_readScene_62 (by omega) (by omega) (fun z62 hz62 => ?_)
      refine hr_ic hx hb dX12_readScene_63 (by decide) (fun z63 hz63 => ?_)
      refine hr_iastN B hb hU hW hS tz56 rfl (by omega) (by omega) (hr_ins (a := 116) (b := 127) (lo := -2147483648) (hi := 2147483647) (by omega) (by omega) (by decide +kernel) (ck_lo _) (ck_hi _)) (hr_EA (i := z62) hX tz56 (u := 116) (v := 127) (by omega) (by omega) (by decide)) (u := 116) (v := 127) (by omega) (by omega) (by decide) dX12_readScene_64 (fun H locs hW hS => ?_)
      obtain ⟨C, hW⟩ := hr_trkH hW hun (a := az56) tz56
      have b6 := b_m6 (C 35 (116 + z20.toInt).toNat)
      exact l65 7 z20 pvv35 C _ _ _ (by omega) (by omega) (by omega) (by omega) ge hp hl hW hS
    · refine lv_aload_n hx hb dX12_readScene_28 rfl (lv_at hl 1 rfl) ?_
      refine hr_ic hx hb dX12_readScene_29 (by decide) (fun z29 hz29 => ?_)
      refine cm_callV (kc := kc_205) B rfl hb hl (hM.1 _ _ 0 [205] (isM (by decide +kernel)) 205 (by decide)) (hH 205 (by decide)) (b := a0) (As := [.int z29]) ⟨hr_aR t0, hr_aI (by omega) (by omega), True.intro⟩ hp hW hS rfl (by decide) (by decide) (Nat.le_of_ble_eq_true rfl) dX12_readScene_30 (fun cs hcs r pvv30 H locs hca hW hS => ?_)
      obtain rfl := List.mem_singleton.mp hcs
      obtain ⟨hr, hq, hc⟩ := hca
      obtain ⟨z30, rfl, lz30, uz30⟩ := hr_rvI hr
      have hp := hr_std hp hc (by decide +kernel)
      have e30w13 := congrArg Int32.toInt (hr_same1 hc (j := 13) (by decide +kernel))
      have e30w14 := congrArg Int32.toInt (hr_same1 hc (j := 14) (by decide +kernel))
      have e30w24 := congrArg Int32.toInt (hr_same1 hc (j := 24) (by decide +kernel))
      have e30w23 := congrArg Int32.toInt (hr_same1 hc (j := 23) (by decide +kernel))
      refine cm_zret B hb rfl ⟨by omega, by omega⟩ ⟨_, List.mem_cons_self, hr_aI (ty := ty) (by omega) (by omega), (fun q h => nomatch h), ?_⟩ hW hS dX12_readScene_33
      have s31 := hr_pv hp 31 (lo := 0) (hi := 4) rfl
      have s13 := hr_pv hp 13 (lo := 0) (hi := 940) rfl
      have s14 := hr_pv hp 14 (lo := 0) (hi := 4) rfl
      have s23 := hr_pv hp 23 (lo := 0) (hi := 12) rfl
      refine hr_mk (n := 32) [13, 14, 24, 23, 31] hp0 (hr_sameX hc (by decide +kernel)) (by decide +kernel) (fun j hj av hav => ?_)
      rcases List.mem_cons.mp hj with rfl | hj
      · have hav : some (.inl (0, 940, [(2026, 0, 940)]) : ck_AV) = some av := hav
        cases hav
        exact hr_vd (q := 13) (by omega) (by omega) (by omega) (by omega)
      rcases List.mem_cons.mp hj with rfl | hj
      · have hav : some (.inl (0, 4, []) : ck_AV) = some av := hav
        cases hav
        exact hr_aI (by omega) (by omega)
      rcases List.mem_cons.mp hj with rfl | hj
      · have hav : some (.inl (-2147483648, 2147483647, []) : ck_AV) = some av := hav
        cases hav
        exact hr_aF
      rcases List.mem_cons.mp hj with rfl | hj
      · have hav : some (.inl (0, 12, []) : ck_AV) = some av := hav
        cases hav
        exact hr_aI (by omega) (by omega)
      obtain rfl := List.mem_singleton.mp hj
      have hav : some (.inl (0, 4, []) : ck_AV) = some av := hav
      cases hav
      exact hr_aI (by omega) (by omega)
  · refine lv_aload_n hx hb dX12_readScene_9 rfl (lv_at hl 0 rfl) ?_
    refine hr_ic hx hb dX12_readScene_10 (by decide) (fun z10 hz10 => ?_)
    refine cm_callV (kc := kc_205) B rfl hb hl (hM.1 _ _ 0 [205] (isM (by decide +kernel)) 205 (by decide)) (hH 205 (by decide)) (b := a0) (As := [.int z10]) ⟨hr_aR t0, hr_aI (by omega) (by omega), True.intro⟩ hp hW hS rfl (by decide) (by decide) (Nat.le_of_ble_eq_true rfl) dX12_readScene_11 (fun cs hcs r pvv11 H locs hca hW hS => ?_)
    obtain rfl := List.mem_singleton.mp hcs
    obtain ⟨hr, hq, hc⟩ := hca
    obtain ⟨z11, rfl, lz11, uz11⟩ := hr_rvI hr
    have hp := hr_std hp hc (by decide +kernel)
    have e11w13 := congrArg Int32.toInt (hr_same1 hc (j := 13) (by decide +kernel))
    have e11w14 := congrArg Int32.toInt (hr_same1 hc (j := 14) (by decide +kernel))
    have e11w24 := congrArg Int32.toInt (hr_same1 hc (j := 24) (by decide +kernel))
    have e11w23 := congrArg Int32.toInt (hr_same1 hc (j := 23) (by decide +kernel))
    refine cm_zret B hb rfl ⟨by omega, by omega⟩ ⟨_, List.mem_cons_self, hr_aI (ty := ty) (by omega) (by omega), (fun q h => nomatch h), ?_⟩ hW hS dX12_readScene_14
    have s31 := hr_pv hp 31 (lo := 0) (hi := 4) rfl
    have s13 := hr_pv hp 13 (lo := 0) (hi := 940) rfl
    have s14 := hr_pv hp 14 (lo := 0) (hi := 4) rfl
    have s23 := hr_pv hp 23 (lo := 0) (hi := 12) rfl
    refine hr_mk (n := 32) [13, 14, 24, 23, 31] hp0 (hr_sameX hc (by decide +kernel)) (by decide +kernel) (fun j hj av hav => ?_)
    rcases List.mem_cons.mp hj with rfl | hj
    · have hav : some (.inl (0, 940, [(2026, 0, 940)]) : ck_AV) = some av := hav
      cases hav
      exact hr_vd (q := 13) (by omega) (by omega) (by omega) (by omega)
    rcases List.mem_cons.mp hj with rfl | hj
    · have hav : some (.inl (0, 4, []) : ck_AV) = some av := hav
      cases hav
      exact hr_aI (by omega) (by omega)
    rcases List.mem_cons.mp hj with rfl | hj
    · have hav : some (.inl (-2147483648, 2147483647, []) : ck_AV) = some av := hav
      cases hav
      exact hr_aF
    rcases List.mem_cons.mp hj with rfl | hj
    · have hav : some (.inl (0, 12, []) : ck_AV) = some av := hav
      cases hav
      exact hr_aI (by omega) (by omega)
    obtain rfl := List.mem_singleton.mp hj
    have hav : some (.inl (0, 4, []) : ck_AV) = some av := hav
    cases hav
    exact hr_aI (by omega) (by omega)
end H25

/-! BY HAND, 10: image, restore, play. -/
theorem sg_KS : ∀ k, k < 2 → ∀ i, i < 367 → ck_seg [(2, 0, 6), (3, 0, 8), (4, 0, 6), (5, 0, 12), (140, -2147483648, 2147483647), (141, 0, 6), (146, -2147483648, 2147483647), (154, 0, 6), (180, -2147483648, 2147483647), (186, 0, 8), (187, 0, 45), (367, -2147483648, 2147483647), (369, 0, 6), (370, 0, 8), (371, 0, 6), (372, 0, 12), (507, -2147483648, 2147483647), (508, 0, 6), (513, -2147483648, 2147483647), (521, 0, 6), (547, -2147483648, 2147483647), (553, 0, 8), (554, 0, 45), (734, -2147483648, 2147483647)] (367 * k + i) = ck_seg [(2, 0, 6), (3, 0, 8), (4, 0, 6), (5, 0, 12), (140, -2147483648, 2147483647), (141, 0, 6), (146, -2147483648, 2147483647), (154, 0, 6), (180, -2147483648, 2147483647), (186, 0, 8), (187, 0, 45), (367, -2147483648, 2147483647)] i := by decide +kernel
theorem sg_HS : ∀ i, i < 140 → ck_seg [(2, 0, 6), (3, 0, 8), (4, 0, 6), (5, 0, 12)] i = ck_seg [(2, 0, 6), (3, 0, 8), (4, 0, 6), (5, 0, 12), (140, -2147483648, 2147483647), (141, 0, 6), (146, -2147483648, 2147483647), (154, 0, 6), (180, -2147483648, 2147483647), (186, 0, 8), (187, 0, 45), (367, -2147483648, 2147483647)] i := by decide +kernel
theorem sg_S0 : ∀ i, i < 367 → (ck_seg [(2, 0, 6), (3, 0, 8), (4, 0, 6), (5, 0, 12), (140, -2147483648, 2147483647), (141, 0, 6), (146, -2147483648, 2147483647), (154, 0, 6), (180, -2147483648, 2147483647), (186, 0, 8), (187, 0, 45), (367, -2147483648, 2147483647)] i).1 ≤ 0 ∧ 0 ≤ (ck_seg [(2, 0, 6), (3, 0, 8), (4, 0, 6), (5, 0, 12), (140, -2147483648, 2147483647), (141, 0, 6), (146, -2147483648, 2147483647), (154, 0, 6), (180, -2147483648, 2147483647), (186, 0, 8), (187, 0, 45), (367, -2147483648, 2147483647)] i).2 := by decide +kernel
theorem sg_H0 : ∀ i, i < 140 → (ck_seg [(2, 0, 6), (3, 0, 8), (4, 0, 6), (5, 0, 12)] i).1 ≤ 0 ∧ 0 ≤ (ck_seg [(2, 0, 6), (3, 0, 8), (4, 0, 6), (5, 0, 12)] i).2 := by decide +kernel
section H28
variable {l : Launch} {D : va_G} {cys : Nat → ClassId} {ty : Nat → Option Nat} {pvv : Nat → Int32} {H : Heap}
/-- what is followed in a row of a sort is in its range -/
theorem hr_pvA {E : va_W → Prop} (hW : ck_Wo D cys ty ck_tags ck_pvs0 E pvv H) {a t q k n et : Nat} {sg : List (Nat × Int × Int)} {lo hi : Int} (hta : ty a = some t) (htd : ck_tags[t]? = some (.inr (0, n, sg, et))) (hq : ck_pvs0[q]? = some (t, k)) (hk : k < n) (hs : ck_seg sg k = (lo, hi)) : lo ≤ (pvv q).toInt ∧ (pvv q).toInt ≤ hi := by
  obtain ⟨ws, h1, h2, h3, h4, h5⟩ := hW
  obtain ⟨q', f, f1, f2⟩ := ck_arrI h3 hta htd (by decide)
  obtain ⟨q2, en, g1, g2⟩ := h4 q t k hq a hta
  have g3 := (ck_D1 h2 f1 g1).2
  subst g3
  have g2 : f k = pvv q := g2
  have := f2 k hk
  unfold ck_in at this
  rw [hs, g2] at this
  exact this
theorem hr_tkA {E : va_W → Prop} {pq : Nat → List (Nat × Nat)} {C : Nat → Nat → Int32} (hW : ck_Wo D cys ty ck_tags ck_pvs0 E pvv H) (hE : ∀ ws, E ws → tk ty pq C ws) {a t n et i : Nat} {sg : List (Nat × Int × Int)} {lo hi : Int} (hta : ty a = some t) (htd : ck_tags[t]? = some (.inr (0, n, sg, et))) (hin : i < n) (hs : ck_seg sg i = (lo, hi)) (hp : ck_pr (pq t) i) : lo ≤ (C t i).toInt ∧ (C t i).toInt ≤ hi := by
  obtain ⟨ws, h1, h2, h3, h4, h5⟩ := hW
  obtain ⟨q', f, f1, f2⟩ := ck_arrI h3 hta htd (by decide)
  have e : f i = C t i := hE ws h5 a t q' _ hta f1 i hp
  have := f2 i hin
  unfold ck_in at this
  rw [hs, e] at this
  exact this
theorem hr_std2 {P Q post : List ck_AV} {f g : Nat → Int32} (h : ck_pvo ty (ck_XE f) P f) (hp : ck_pvo ty (ck_XE f) post g) (hc : ck_pre2 (post.map (ck_pvp (ck_addP P 2000))) (post.map (ck_pvp (ck_addP P 2000))) Q = true) : ck_pvo ty (ck_XE g) Q g := by
  have h1 : ck_pvo ty (ck_XE f) (post.map (ck_pvp (ck_addP P 2000))) g := by
    intro j av hj
    rw [List.getElem?_map] at hj
    cases hq : post[j]? with
    | none => rw [hq] at hj; cases hj
    | some bv =>
      rw [hq] at hj
      cases hj
      exact ck_pvp_ok (hr_self h) (hp j bv hq)
  exact ck_pre2_ok h1 hc h1
/-- a store of 0 over a row some of whose places are followed -/
def ck_stzB (pvT : List (Nat × Nat)) (t : Nat) (P : List ck_AV) : Bool := (List.range P.length).all (fun j => match P[j]? with
  | some (.inl r) => r.2.2.all (fun d => match pvT[d.1 / 2 - 1000]? with
    | some q => decide (q.1 ≠ t)
    | none => true) && (match pvT[j]? with
    | some q => decide (q.1 ≠ t) || (decide (r.1 ≤ 0) && decide (0 ≤ r.2.1) && r.2.2.isEmpty)
    | none => true)
  | _ => false)
theorem hr_stz {pvT : List (Nat × Nat)} {t i : Nat} {P : List ck_AV} {f g : Nat → Int32} {x : Int32} (h : ck_pvo ty (ck_XE f) P f) (w1 : ∀ q : Nat, pvT[q]? = some (t, i) → g q = x) (w2 : ∀ q : Nat, pvT[q]? ≠ some (t, i) → g q = f q) (hx : x.toInt = 0) (hc : ck_stzB pvT t P = true) : ck_pvo ty (ck_XE g) P g := by
  intro j av hj
  have hl : j < P.length := (List.getElem?_eq_some_iff.mp hj).1
  have h1 := List.all_eq_true.mp hc j (List.mem_range.mpr hl)
  rw [hj] at h1
  match av, h1, hj with
  | .inl r, h1, hj =>
    simp only [Bool.and_eq_true] at h1
    obtain ⟨h1, h2⟩ := h1
    have key : ∀ d ∈ r.2.2, ck_XE g d.1 = ck_XE f d.1 := by
      intro d hd
      have h3 := List.all_eq_true.mp h1 d hd
      unfold ck_XE
      rw [w2 _ (fun h9 => by rw [h9] at h3; simp at h3)]
    by_cases e : pvT[j]? = some (t, i)
    · rw [e] at h2
      simp at h2
      rw [w1 j e]
      exact ⟨x, rfl, by omega, by omega, fun d hd => by rw [h2.2] at hd; cases hd⟩
    · rw [w2 j e]
      obtain ⟨y, ey, a1, a2, a3⟩ := h j _ hj
      exact ⟨y, ey, a1, a2, fun d hd => by rw [key d hd]; exact a3 d hd⟩
theorem dX12_image_0 : decode cX12_image 0 = .ok (.aload_n 0, 1) := by decide +kernel
theorem dX12_image_1 : decode cX12_image 1 = .ok (.iconst 0, 1) := by decide +kernel
theorem dX12_image_2 : decode cX12_image 2 = .ok (.putfield 1, 3) := by decide +kernel
theorem dX12_image_5 : decode cX12_image 5 = .ok (.iload_n 1, 1) := by decide +kernel
theorem dX12_image_6 : decode cX12_image 6 = .ok (.iconst 0, 1) := by decide +kernel
theorem dX12_image_7 : decode cX12_image 7 = .ok (.iconst 1, 1) := by decide +kernel
theorem dX12_image_8 : decode cX12_image 8 = .ok (.invokestatic 198, 3) := by decide +kernel
theorem dX12_image_11 : decode cX12_image 11 = .ok (.ifCond .ne 5, 3) := by decide +kernel
theorem dX12_image_14 : decode cX12_image 14 = .ok (.iconst 0, 1) := by decide +kernel
theorem dX12_image_15 : decode cX12_image 15 = .ok (.ireturn, 1) := by decide +kernel
theorem dX12_image_16 : decode cX12_image 16 = .ok (.iconst 0, 1) := by decide +kernel
theorem dX12_image_17 : decode cX12_image 17 = .ok (.istore_n 2, 1) := by decide +kernel
theorem dX12_image_18 : decode cX12_image 18 = .ok (.iload_n 2, 1) := by decide +kernel
theorem dX12_image_19 : decode cX12_image 19 = .ok (.sipush 367, 3) := by decide +kernel
theorem dX12_image_22 : decode cX12_image 22 = .ok (.if_icmp .ge 27, 3) := by decide +kernel
theorem dX12_image_25 : decode cX12_image 25 = .ok (.aload_n 0, 1) := by decide +kernel
theorem dX12_image_26 : decode cX12_image 26 = .ok (.getfield 93, 3) := by decide +kernel
theorem dX12_image_29 : decode cX12_image 29 = .ok (.sipush 367, 3) := by decide +kernel
theorem dX12_image_32 : decode cX12_image 32 = .ok (.iload_n 1, 1) := by decide +kernel
theorem dX12_image_33 : decode cX12_image 33 = .ok (.imul, 1) := by decide +kernel
theorem dX12_image_34 : decode cX12_image 34 = .ok (.iload_n 2, 1) := by decide +kernel
theorem dX12_image_35 : decode cX12_image 35 = .ok (.iadd, 1) := by decide +kernel
theorem dX12_image_36 : decode cX12_image 36 = .ok (.aload_n 0, 1) := by decide +kernel
theorem dX12_image_37 : decode cX12_image 37 = .ok (.getfield 33, 3) := by decide +kernel
theorem dX12_image_40 : decode cX12_image 40 = .ok (.iload_n 2, 1) := by decide +kernel
theorem dX12_image_41 : decode cX12_image 41 = .ok (.iaload, 1) := by decide +kernel
theorem dX12_image_42 : decode cX12_image 42 = .ok (.iastore, 1) := by decide +kernel
theorem dX12_image_43 : decode cX12_image 43 = .ok (.iinc 2 1, 3) := by decide +kernel
theorem dX12_image_46 : decode cX12_image 46 = .ok (.goto (-28), 3) := by decide +kernel
theorem dX12_image_49 : decode cX12_image 49 = .ok (.iconst 0, 1) := by decide +kernel
theorem dX12_image_50 : decode cX12_image 50 = .ok (.istore_n 2, 1) := by decide +kernel
theorem dX12_image_51 : decode cX12_image 51 = .ok (.iload_n 2, 1) := by decide +kernel
theorem dX12_image_52 : decode cX12_image 52 = .ok (.bipush 20, 2) := by decide +kernel
theorem dX12_image_54 : decode cX12_image 54 = .ok (.if_icmp .ge 26, 3) := by decide +kernel
theorem dX12_image_57 : decode cX12_image 57 = .ok (.aload_n 0, 1) := by decide +kernel
theorem dX12_image_58 : decode cX12_image 58 = .ok (.getfield 96, 3) := by decide +kernel
theorem dX12_image_61 : decode cX12_image 61 = .ok (.bipush 20, 2) := by decide +kernel
theorem dX12_image_63 : decode cX12_image 63 = .ok (.iload_n 1, 1) := by decide +kernel
theorem dX12_image_64 : decode cX12_image 64 = .ok (.imul, 1) := by decide +kernel
theorem dX12_image_65 : decode cX12_image 65 = .ok (.iload_n 2, 1) := by decide +kernel
theorem dX12_image_66 : decode cX12_image 66 = .ok (.iadd, 1) := by decide +kernel
theorem dX12_image_67 : decode cX12_image 67 = .ok (.aload_n 0, 1) := by decide +kernel
theorem dX12_image_68 : decode cX12_image 68 = .ok (.getfield 43, 3) := by decide +kernel
theorem dX12_image_71 : decode cX12_image 71 = .ok (.iload_n 2, 1) := by decide +kernel
theorem dX12_image_72 : decode cX12_image 72 = .ok (.laload, 1) := by decide +kernel
theorem dX12_image_73 : decode cX12_image 73 = .ok (.lastore, 1) := by decide +kernel
theorem dX12_image_74 : decode cX12_image 74 = .ok (.iinc 2 1, 3) := by decide +kernel
theorem dX12_image_77 : decode cX12_image 77 = .ok (.goto (-26), 3) := by decide +kernel
theorem dX12_image_80 : decode cX12_image 80 = .ok (.aload_n 0, 1) := by decide +kernel
theorem dX12_image_81 : decode cX12_image 81 = .ok (.getfield 99, 3) := by decide +kernel
theorem dX12_image_84 : decode cX12_image 84 = .ok (.iload_n 1, 1) := by decide +kernel
theorem dX12_image_85 : decode cX12_image 85 = .ok (.iconst 1, 1) := by decide +kernel
theorem dX12_image_86 : decode cX12_image 86 = .ok (.bastore, 1) := by decide +kernel
theorem dX12_image_87 : decode cX12_image 87 = .ok (.iconst 1, 1) := by decide +kernel
theorem dX12_image_88 : decode cX12_image 88 = .ok (.ireturn, 1) := by decide +kernel
set_option maxRecDepth 100000 in
set_option maxHeartbeats 4000000 in
theorem hk_12_image_0 (hF : ck_LKf ck_LK) (hM : ck_LKm ck_tags ck_LK ck_tab) (hU : ck_uq ty ck_pvs0) (hun : ck_un ty) (hH1 : ∀ Ex', ck_ExP ty ck_prot1 Ex' → ∀ j, j < 331 → ck_Holds l D cys ty ck_tags ck_pvs0 Ex' (ck_tab j)) {K : Nat → Nat → Int32} : ck_Holds l D cys ty ck_tags ck_pvs0 (GX ty ck_protT gx_i K) kh_12_image_0 := by
  refine cm_enter (by decide +kernel) (by decide +kernel) (by decide +kernel) ?_
  intro vs pvv0 p e s m below meth c ls ha hp B hl hW
  have hx := B.1
  have hb : c.code = cX12_image := B.2.1
  have hI := pv_inj
  have hS : va_S (ck_own ty) s.heap s.heap [] := va_S.rf
  obtain ⟨C, hG, hK0, hW⟩ := gx_out hW
  obtain ⟨_, _, rfl, ⟨a0, rfl, t0⟩, ⟨x1, rfl, l1, u1, -⟩⟩ := cm_a2 ha
  dsimp only at l1 u1
  have hl : lv_has ls 3 [(0, .ref a0), (1, .int x1)] := hl
  have hp0 := hp
  have hG0 := hG
  obtain ⟨G5, G1, G2, G3, G4⟩ := hG
  obtain ⟨bs, ts⟩ := hr_fld hW t0 rfl (j := 6) (t' := 34) rfl
  have k17 := congrArg Int32.toInt (hr_lnk hW (pq := ck_protT) (fun _ h => h) ts (q := 17) (k := 3) rfl (by decide))
  have r16 := hr_pd hp0 16 17 (lo := 0) (hi := 6) (a := -6) (b := 0) rfl (by decide)
  have hW0 := hW
  refine lv_aload_n hx hb dX12_image_0 rfl (lv_at hl 0 rfl) ?_
  refine hr_ic hx hb dX12_image_1 (by decide) (fun z1 hz1 => ?_)
  refine hr_putN B hF hb hU hW hS (ci := 12) (j := 0) (cd := 0) t0 rfl (isF (by decide +kernel)) rfl (by omega) (by omega) (Or.inl rfl) (hr_EO (tk_XT (C := C)) t0 (by decide)) (by decide) dX12_image_2 (fun H locs hW hS => ?_)
  refine lv_iload_n hx hb dX12_image_5 rfl (lv_at hl 1 rfl) ?_
  refine hr_ic hx hb dX12_image_6 (by decide) (fun z6 hz6 => ?_)
  refine hr_ic hx hb dX12_image_7 (by decide) (fun z7 hz7 => ?_)
  refine cm_callS (kc := kc_190) B rfl hb hl (hM.1 _ _ 1 [190, 191, 192, 193, 194, 195, 196, 197, 198, 199] (isM (by decide +kernel)) 190 (by decide)) (hH1 _ tk_XT 190 (by decide)) (As := [.int x1, .int z6, .int z7]) ⟨hr_aI (by omega) (by omega), hr_aI (by omega) (by omega), hr_aI (by omega) (by omega), True.intro⟩ hp hW hS rfl (by decide) (by decide) (Nat.le_of_ble_eq_true rfl) dX12_image_8 (fun cs hcs r pvv8 H locs hca hW hS => ?_)
  obtain rfl := List.mem_singleton.mp hcs
  obtain ⟨hr, hq, hc⟩ := hca
  obtain ⟨z8, rfl, lz8, uz8⟩ := hr_rvI hr
  have hW := hr_pvE (hr_sameA hc rfl (by decide +kernel)) hW
  refine hr_ne0 (tgt := 16) hx hb dX12_image_11 (by decide) (fun h11 => ?_) (fun h11 => ?_)
  · have l51 : ∀ (n51 : Nat) (i : Int32) (C2 : Nat → Nat → Int32) (ls : Array Slot) (H : Heap) (locs : List Loc), 20 - i.toInt < n51 → (0 ≤ i.toInt) → (i.toInt ≤ 20) → (∀ t j, ¬ (t = 45 ∧ (367 * x1.toInt.toNat ≤ j ∧ j < 367 * x1.toInt.toNat + 367)) → C2 t j = C t j) → (∀ j : Nat, (j : Int) < 367 → (j < 140 ∨ 186 ≤ j) → C2 45 (367 * x1.toInt.toNat + j) = C 34 j) → ((140 : Int) < 367 → (C2 45 (367 * x1.toInt.toNat + 140)).toInt = (pvv0 16).toInt) → lv_has ls 3 [(2, .int i), (0, .ref a0), (1, .int x1)] → ck_Wo D cys ty ck_tags ck_pvs0 (tk ty ck_protT C2) pvv0 H → va_S (ck_own ty) s.heap H locs → W p l e (ck_rm kh_12_image_0) s m [Value.ref a0, Value.int x1].toArray below meth c H locs 0 0 (MQ below (ck_Qc D cys ty ck_tags ck_pvs0 (GX ty ck_protT gx_i K) kh_12_image_0 [Value.ref a0, Value.int x1] pvv0) [Value.ref a0, Value.int x1].toArray s 0 0 (ck_own ty)) (F0 m 51 ls []) := by
      intro n51
      induction n51 with
      | zero => intro i C2 ls H locs hm51 i1 i2 hC hk3 h140 hl hW hS; omega
      | succ n51 ih51 =>
        intro i C2 ls H locs hm51 i1 i2 hC hk3 h140 hl hW hS
        refine lv_iload_n hx hb dX12_image_51 rfl (lv_at hl 0 rfl) ?_
        refine hr_bp hx hb dX12_image_52 (by decide) (by decide) (fun z52 hz52 => ?_)
        refine hr_ge (tgt := 80) hx hb dX12_image_54 (by decide) (fun h54 => ?_) (fun h54 => ?_)
        · refine lv_aload_n hx hb dX12_image_80 rfl (lv_at hl 1 rfl) ?_
          refine hr_getR B hF hb hW (ci := 12) (j := 53) (cd := 3) t0 rfl (isF (by decide +kernel)) rfl dX12_image_81 (fun az81 tz81 xz81 => ?_)
          refine lv_iload_n hx hb dX12_image_84 rfl (lv_at hl 2 rfl) ?_
          refine hr_ic hx hb dX12_image_85 (by decide) (fun z85 hz85 => ?_)
          refine hr_zastP B hb hU hW hS tz81 rfl (by omega) (by omega) (hr_ins (a := 0) (b := 0) (lo := 0) (hi := 1) (by omega) (by omega) (by decide +kernel) (by omega) (by omega)) ⟨by omega, by omega⟩ (tk_EA tz81 (fun a h => hun 46 (by decide) _ _ tz81 h)) hI (q0 := 28) (w := 0) (by omega) rfl dX12_image_86 (fun H locs hW hS => ?_)
          obtain ⟨pvv86, e86⟩ : ∃ f, f = upd pvv0 28 z85 := ⟨_, rfl⟩
          rw [← e86] at hW
          have e86q : pvv86 28 = z85 := by rw [e86, pk_us]
          have e86qi := congrArg Int32.toInt e86q
          obtain ⟨C86, c86⟩ : ∃ f, f = tk_upd C2 46 (x1.toInt.toNat) z85 := ⟨_, rfl⟩
          rw [← c86] at hW
          refine hr_ic hx hb dX12_image_87 (by decide) (fun z87 hz87 => ?_)
          have hCC : ∀ t j, t ≠ 46 → ¬ (t = 45 ∧ (367 * x1.toInt.toNat ≤ j ∧ j < 367 * x1.toInt.toNat + 367)) → C86 t j = C t j := fun t j h1 h2 => by rw [c86, tk_unt h1]; exact hC t j h2
          refine cm_zret B hb rfl ⟨by omega, by omega⟩ ⟨_, List.mem_cons_self, hr_aI (ty := ty) (by omega) (by omega), (fun q h => nomatch h), hr_set1 (P := pU) (f := pvv0) (j := 28) (hr_wk (hr_self hp0) (by decide +kernel)) (hr_aI (by omega) (by omega)) (fun i hi => by rw [e86, pk_un hi])⟩ (gx_in hW ?_ ?_) hS dX12_image_88
          rotate_left
          · exact fun t ht j => (hCC t j (gx_ne ht (by decide)) (fun q => gx_ne ht (n := 45) (by decide) q.1)).trans (hK0 t ht j)
          refine ⟨g50_of G5 (fun j => hCC 15 j (by decide) (by simp)) (fun j => hCC 49 j (by decide) (by simp)) (fun j => hCC 16 j (by decide) (by simp)) (fun j => hCC 50 j (by decide) (by simp)), fun k hk => ?_, fun j hj => ?_, fun k hk hk2 => ?_, ?_⟩
          · rw [hCC 0 0 (by decide) (by simp)] at hk
            rw [hCC 29 k (by decide) (by simp), hCC 30 k (by decide) (by simp), hCC 31 k (by decide) (by simp)]
            exact G1 k hk
          · rw [hCC 12 22 (by decide) (by simp)] at hj
            rw [hCC 37 _ (by decide) (by simp), hCC 34 _ (by decide) (by simp)]
            exact G2 j hj
          · by_cases e9 : k = x1.toInt.toNat
            · have eK : ∀ j, C86 45 j = C2 45 j := fun j => by rw [c86, tk_unt (by decide)]
              rw [eK, eK, e9, h140 (by omega), hk3 3 (by omega) (by omega)]
              refine ⟨by omega, ?_⟩
              refine cwf_co (f := fun i => C 34 (186 + i)) (fun j hj => ?_) ?_ G4
              · show C86 45 _ = C 34 _
                rw [eK, show 367 * x1.toInt.toNat + 186 + j = 367 * x1.toInt.toNat + (186 + j) by omega]; exact hk3 (186 + j) (by omega) (by omega)
              · have := hr_tkA hW0 (fun _ h => h) (pq := ck_protT) ts rfl (i := 186) (lo := 0) (hi := 45) (by decide) (by decide +kernel) ⟨(186, 366), by decide, by decide, by decide⟩; show (C 34 186).toInt ≤ 60; omega
            · rw [show C86 46 k = C 46 k by rw [c86, tk_unj e9]; exact hC _ _ (fun q => absurd q.1 (by decide))] at hk2
              rw [hCC 45 _ (by decide) (by omega), hCC 45 _ (by decide) (by omega)]
              refine ⟨(G3 k hk hk2).1, ?_⟩
              refine cwf_co (f := fun i => C 45 (367 * k + 186 + i)) (fun j hj => hCC 45 _ (by decide) (by omega)) ?_ (G3 k hk hk2).2
              obtain ⟨bk, tk9⟩ := hr_fld hW t0 rfl (j := 51) (t' := 45) rfl
              have := hr_tkA hW0 (fun _ h => h) (pq := ck_protT) tk9 rfl (i := 367 * k + 186) (lo := 0) (hi := 45) (by omega) (by rw [sg_KS k hk 186 (by decide)]; decide +kernel) ⟨(367 * k + 186, 367 * k + 366), by (have : k = 0 ∨ k = 1 := by omega); rcases this with rfl | rfl <;> decide, by dsimp only; omega, by dsimp only; omega⟩
              show (C 45 (367 * k + 186)).toInt ≤ 60
              omega
          · have e9 : (fun i => C86 34 (186 + i)) = (fun i => C 34 (186 + i)) := funext (fun i => hCC 34 _ (by decide) (by simp))
            unfold g4C; rw [e9]; exact G4
        · refine lv_aload_n hx hb dX12_image_57 rfl (lv_at hl 1 rfl) ?_
          refine hr_getR B hF hb hW (ci := 12) (j := 52) (cd := 3) t0 rfl (isF (by decide +kernel)) rfl dX12_image_58 (fun az58 tz58 xz58 => ?_)
          refine hr_bp hx hb dX12_image_61 (by decide) (by decide) (fun z61 hz61 => ?_)
          refine lv_iload_n hx hb dX12_image_63 rfl (lv_at hl 2 rfl) ?_
          refine hr_mulL hx hb dX12_image_64 hz61 (by omega) (by omega) (fun z64 hz64 => ?_)
          refine lv_iload_n hx hb dX12_image_65 rfl (lv_at hl 0 rfl) ?_
          refine hr_add hx hb dX12_image_66 (by omega) (by omega) (fun z66 hz66 => ?_)
          refine lv_aload_n hx hb dX12_image_67 rfl (lv_at hl 1 rfl) ?_
          refine hr_getR B hF hb hW (ci := 12) (j := 9) (cd := 3) t0 rfl (isF (by decide +kernel)) rfl dX12_image_68 (fun az68 tz68 xz68 => ?_)
          refine lv_iload_n hx hb dX12_image_71 rfl (lv_at hl 0 rfl) ?_
          refine ck_lald B.1 hb B.2.2.2.2.2.2.2.1 hW tz68 rfl (by omega) (by omega) dX12_image_72 (fun z72 => ?_)
          refine ck_last B.1 hb B.2.2.2.2.2.2.2.1 (prot := ck_protT) (tk_YT (C := C2)) hW hS (ck_nfa_ok (by decide)) tz58 rfl (by omega) (by omega) (fun j hj => absurd hj (pr_e rfl)) dX12_image_73 (fun H locs hW hS => ?_)
          refine hr_inc hx hb dX12_image_74 hl (kq := 0) (lv' := fun v => [(2, .int v), (0, .ref a0), (1, .int x1)]) rfl (by decide) (by decide) (by omega) (by omega) (fun _ => rfl) (fun z74 ls hz74 hl => ?_)
          refine lv_goto (tgt := 51) hx hb dX12_image_77 (by decide) ?_
          exact ih51 z74 C2 _ _ _ (by omega) (by omega) (by omega) hC hk3 h140 hl hW hS
    have l18 : ∀ (n18 : Nat) (i : Int32) (C2 : Nat → Nat → Int32) (ls : Array Slot) (H : Heap) (locs : List Loc), 367 - i.toInt < n18 → (0 ≤ i.toInt) → (i.toInt ≤ 367) → (∀ t j, ¬ (t = 45 ∧ (367 * x1.toInt.toNat ≤ j ∧ j < 367 * x1.toInt.toNat + 367)) → C2 t j = C t j) → (∀ j : Nat, (j : Int) < i.toInt → (j < 140 ∨ 186 ≤ j) → C2 45 (367 * x1.toInt.toNat + j) = C 34 j) → (140 < i.toInt → (C2 45 (367 * x1.toInt.toNat + 140)).toInt = (pvv0 16).toInt) → lv_has ls 3 [(2, .int i), (0, .ref a0), (1, .int x1)] → ck_Wo D cys ty ck_tags ck_pvs0 (tk ty ck_protT C2) pvv0 H → va_S (ck_own ty) s.heap H locs → W p l e (ck_rm kh_12_image_0) s m [Value.ref a0, Value.int x1].toArray below meth c H locs 0 0 (MQ below (ck_Qc D cys ty ck_tags ck_pvs0 (GX ty ck_protT gx_i K) kh_12_image_0 [Value.ref a0, Value.int x1] pvv0) [Value.ref a0, Value.int x1].toArray s 0 0 (ck_own ty)) (F0 m 18 ls []) := by
      intro n18
      induction n18 with
      | zero => intro i C2 ls H locs hm18 i1 i2 hC hk h140 hl hW hS; omega
      | succ n18 ih18 =>
        intro i C2 ls H locs hm18 i1 i2 hC hk h140 hl hW hS
        refine lv_iload_n hx hb dX12_image_18 rfl (lv_at hl 0 rfl) ?_
        refine hr_sp hx hb dX12_image_19 (by decide) (by decide) (fun z19 hz19 => ?_)
        refine hr_ge (tgt := 49) hx hb dX12_image_22 (by decide) (fun h22 => ?_) (fun h22 => ?_)
        · refine hr_ic hx hb dX12_image_49 (by decide) (fun z49 hz49 => ?_)
          refine lv_istore_n hx hb dX12_image_50 rfl hl (lv' := [(2, .int z49), (0, .ref a0), (1, .int x1)]) (by decide) rfl (fun ls hl => ?_)
          have hk3 : ∀ j : Nat, (j : Int) < 367 → (j < 140 ∨ 186 ≤ j) → C2 45 (367 * x1.toInt.toNat + j) = C 34 j := fun j h1 h2 => hk j (by omega) h2
          have h140 : (140 : Int) < 367 → (C2 45 (367 * x1.toInt.toNat + 140)).toInt = (pvv0 16).toInt := fun _ => h140 (by omega)
          exact l51 21 z49 C2 _ _ _ (by omega) (by omega) (by omega) hC hk3 h140 hl hW hS
        · refine lv_aload_n hx hb dX12_image_25 rfl (lv_at hl 1 rfl) ?_
          refine hr_getR B hF hb hW (ci := 12) (j := 51) (cd := 3) t0 rfl (isF (by decide +kernel)) rfl dX12_image_26 (fun az26 tz26 xz26 => ?_)
          refine hr_sp hx hb dX12_image_29 (by decide) (by decide) (fun z29 hz29 => ?_)
          refine lv_iload_n hx hb dX12_image_32 rfl (lv_at hl 2 rfl) ?_
          refine hr_mulL hx hb dX12_image_33 hz29 (by omega) (by omega) (fun z33 hz33 => ?_)
          refine lv_iload_n hx hb dX12_image_34 rfl (lv_at hl 0 rfl) ?_
          refine hr_add hx hb dX12_image_35 (by omega) (by omega) (fun z35 hz35 => ?_)
          refine lv_aload_n hx hb dX12_image_36 rfl (lv_at hl 1 rfl) ?_
          refine hr_getR B hF hb hW (ci := 12) (j := 6) (cd := 3) t0 rfl (isF (by decide +kernel)) rfl dX12_image_37 (fun az37 tz37 xz37 => ?_)
          refine lv_iload_n hx hb dX12_image_40 rfl (lv_at hl 0 rfl) ?_
          refine hr_iald B hb hW tz37 rfl (by omega) (by omega) dX12_image_41 (fun z41 iz41 pz41 xz41 => ?_)
          have e1 := sg_KS x1.toInt.toNat (by omega) i.toInt.toNat (by omega)
          rw [show 367 * x1.toInt.toNat + i.toInt.toNat = z35.toInt.toNat by omega] at e1
          refine hr_iastN (Ex' := tk ty ck_protT (tk_upd C2 45 (z35.toInt.toNat) z41)) B hb hU hW hS tz26 rfl (by omega) (by omega) (by unfold ck_in; rw [e1]; exact iz41) (tk_EA tz26 (fun a h => hun 45 (by decide) _ _ tz26 h)) (u := 0) (v := 733) (by omega) (by omega) (by decide +kernel) dX12_image_42 (fun H locs hW hS => ?_)
          obtain ⟨C42, c42⟩ : ∃ f, f = tk_upd C2 45 (z35.toInt.toNat) z41 := ⟨_, rfl⟩
          rw [← c42] at hW
          refine hr_inc hx hb dX12_image_43 hl (kq := 0) (lv' := fun v => [(2, .int v), (0, .ref a0), (1, .int x1)]) rfl (by decide) (by decide) (by omega) (by omega) (fun _ => rfl) (fun z43 ls hz43 hl => ?_)
          refine lv_goto (tgt := 18) hx hb dX12_image_46 (by decide) ?_
          refine ih18 z43 C42 _ _ _ (by omega) (by omega) (by omega) (fun t j ht => ?_) (fun j h1 h2 => ?_) (fun h1 => ?_) hl hW hS
          · rw [c42, tk_un (fun q => ht ⟨q.1, by omega, by omega⟩)]; exact hC t j ht
          · by_cases e9 : j = i.toInt.toNat
            · subst e9
              rw [show 367 * x1.toInt.toNat + i.toInt.toNat = z35.toInt.toNat by omega, c42, tk_us]
              have x9 : z41 = C2 34 i.toInt.toNat := by
                rcases h2 with h2 | h2
                · exact tk_xa xz41 (fun _ h => h) (pq := ck_protT) tz37 ⟨(0, 139), by decide, by dsimp only; omega, by dsimp only; omega⟩
                · exact tk_xa xz41 (fun _ h => h) (pq := ck_protT) tz37 ⟨(186, 366), by decide, by dsimp only; omega, by dsimp only; omega⟩
              rw [x9]; exact hC _ _ (fun q => absurd q.1 (by decide))
            · rw [c42, tk_unj (by omega)]; exact hk j (by omega) h2
          · by_cases e9 : i.toInt = 140
            · rw [show 367 * x1.toInt.toNat + 140 = z35.toInt.toNat by omega, c42, tk_us]
              rw [pz41 16 (by rw [e9]; rfl)]
            · rw [c42, tk_unj (by omega)]; exact h140 (by omega)
    refine hr_ic hx hb dX12_image_16 (by decide) (fun z16 hz16 => ?_)
    refine lv_istore_n hx hb dX12_image_17 rfl hl (lv' := [(2, .int z16), (0, .ref a0), (1, .int x1)]) (by decide) rfl (fun ls hl => ?_)
    exact l18 368 z16 C _ _ _ (by omega) (by omega) (by omega) (fun _ _ _ => rfl) (fun j h1 _ => absurd h1 (by omega)) (fun h => absurd h (by omega)) hl hW hS
  · omega
set_option maxRecDepth 100000 in
set_option maxHeartbeats 4000000 in
theorem hk_12_image_1 (hF : ck_LKf ck_LK) (hM : ck_LKm ck_tags ck_LK ck_tab) (hU : ck_uq ty ck_pvs0) (hun : ck_un ty) (hH1 : ∀ Ex', ck_ExP ty ck_prot1 Ex' → ∀ j, j < 331 → ck_Holds l D cys ty ck_tags ck_pvs0 Ex' (ck_tab j)) {K : Nat → Nat → Int32} : ck_Holds l D cys ty ck_tags ck_pvs0 (GX ty ck_protT gx_i K) kh_12_image_1 := by
  refine cm_enter (by decide +kernel) (by decide +kernel) (by decide +kernel) ?_
  intro vs pvv0 p e s m below meth c ls ha hp B hl hW
  have hx := B.1
  have hb : c.code = cX12_image := B.2.1
  have hI := pv_inj
  have hS : va_S (ck_own ty) s.heap s.heap [] := va_S.rf
  obtain ⟨C, hG, hK0, hW⟩ := gx_out hW
  obtain ⟨_, _, rfl, ⟨a0, rfl, t0⟩, ⟨x1, rfl, l1, u1, -⟩⟩ := cm_a2 ha
  dsimp only at l1 u1
  have hl : lv_has ls 3 [(0, .ref a0), (1, .int x1)] := hl
  have hp0 := hp
  have hG0 := hG
  obtain ⟨G5, G1, G2, G3, G4⟩ := hG
  obtain ⟨bs, ts⟩ := hr_fld hW t0 rfl (j := 6) (t' := 34) rfl
  have k17 := congrArg Int32.toInt (hr_lnk hW (pq := ck_protT) (fun _ h => h) ts (q := 17) (k := 3) rfl (by decide))
  have r16 := hr_pd hp0 16 17 (lo := 0) (hi := 6) (a := -6) (b := 0) rfl (by decide)
  have hW0 := hW
  refine lv_aload_n hx hb dX12_image_0 rfl (lv_at hl 0 rfl) ?_
  refine hr_ic hx hb dX12_image_1 (by decide) (fun z1 hz1 => ?_)
  refine hr_putN B hF hb hU hW hS (ci := 12) (j := 0) (cd := 0) t0 rfl (isF (by decide +kernel)) rfl (by omega) (by omega) (Or.inl rfl) (hr_EO (tk_XT (C := C)) t0 (by decide)) (by decide) dX12_image_2 (fun H locs hW hS => ?_)
  refine lv_iload_n hx hb dX12_image_5 rfl (lv_at hl 1 rfl) ?_
  refine hr_ic hx hb dX12_image_6 (by decide) (fun z6 hz6 => ?_)
  refine hr_ic hx hb dX12_image_7 (by decide) (fun z7 hz7 => ?_)
  refine cm_callS (kc := kc_191) B rfl hb hl (hM.1 _ _ 1 [190, 191, 192, 193, 194, 195, 196, 197, 198, 199] (isM (by decide +kernel)) 191 (by decide)) (hH1 _ tk_XT 191 (by decide)) (As := [.int x1, .int z6, .int z7]) ⟨hr_aI (by omega) (by omega), hr_aI (by omega) (by omega), hr_aI (by omega) (by omega), True.intro⟩ hp hW hS rfl (by decide) (by decide) (Nat.le_of_ble_eq_true rfl) dX12_image_8 (fun cs hcs r pvv8 H locs hca hW hS => ?_)
  obtain rfl := List.mem_singleton.mp hcs
  obtain ⟨hr, hq, hc⟩ := hca
  obtain ⟨z8, rfl, lz8, uz8⟩ := hr_rvI hr
  have hW := hr_pvE (hr_sameA hc rfl (by decide +kernel)) hW
  refine hr_ne0 (tgt := 16) hx hb dX12_image_11 (by decide) (fun h11 => ?_) (fun h11 => ?_)
  · have l51 : ∀ (n51 : Nat) (i : Int32) (C2 : Nat → Nat → Int32) (ls : Array Slot) (H : Heap) (locs : List Loc), 20 - i.toInt < n51 → (0 ≤ i.toInt) → (i.toInt ≤ 20) → (∀ t j, ¬ (t = 45 ∧ (367 * x1.toInt.toNat ≤ j ∧ j < 367 * x1.toInt.toNat + 367)) → C2 t j = C t j) → (∀ j : Nat, (j : Int) < 367 → (j < 140 ∨ 186 ≤ j) → C2 45 (367 * x1.toInt.toNat + j) = C 34 j) → ((140 : Int) < 367 → (C2 45 (367 * x1.toInt.toNat + 140)).toInt = (pvv0 16).toInt) → lv_has ls 3 [(2, .int i), (0, .ref a0), (1, .int x1)] → ck_Wo D cys ty ck_tags ck_pvs0 (tk ty ck_protT C2) pvv0 H → va_S (ck_own ty) s.heap H locs → W p l e (ck_rm kh_12_image_1) s m [Value.ref a0, Value.int x1].toArray below meth c H locs 0 0 (MQ below (ck_Qc D cys ty ck_tags ck_pvs0 (GX ty ck_protT gx_i K) kh_12_image_1 [Value.ref a0, Value.int x1] pvv0) [Value.ref a0, Value.int x1].toArray s 0 0 (ck_own ty)) (F0 m 51 ls []) := by
      intro n51
      induction n51 with
      | zero => intro i C2 ls H locs hm51 i1 i2 hC hk3 h140 hl hW hS; omega
      | succ n51 ih51 =>
        intro i C2 ls H locs hm51 i1 i2 hC hk3 h140 hl hW hS
        refine lv_iload_n hx hb dX12_image_51 rfl (lv_at hl 0 rfl) ?_
        refine hr_bp hx hb dX12_image_52 (by decide) (by decide) (fun z52 hz52 => ?_)
        refine hr_ge (tgt := 80) hx hb dX12_image_54 (by decide) (fun h54 => ?_) (fun h54 => ?_)
        · refine lv_aload_n hx hb dX12_image_80 rfl (lv_at hl 1 rfl) ?_
          refine hr_getR B hF hb hW (ci := 12) (j := 53) (cd := 3) t0 rfl (isF (by decide +kernel)) rfl dX12_image_81 (fun az81 tz81 xz81 => ?_)
          refine lv_iload_n hx hb dX12_image_84 rfl (lv_at hl 2 rfl) ?_
          refine hr_ic hx hb dX12_image_85 (by decide) (fun z85 hz85 => ?_)
          refine hr_zastP B hb hU hW hS tz81 rfl (by omega) (by omega) (hr_ins (a := 1) (b := 1) (lo := 0) (hi := 1) (by omega) (by omega) (by decide +kernel) (by omega) (by omega)) ⟨by omega, by omega⟩ (tk_EA tz81 (fun a h => hun 46 (by decide) _ _ tz81 h)) hI (q0 := 29) (w := 1) (by omega) rfl dX12_image_86 (fun H locs hW hS => ?_)
          obtain ⟨pvv86, e86⟩ : ∃ f, f = upd pvv0 29 z85 := ⟨_, rfl⟩
          rw [← e86] at hW
          have e86q : pvv86 29 = z85 := by rw [e86, pk_us]
          have e86qi := congrArg Int32.toInt e86q
          obtain ⟨C86, c86⟩ : ∃ f, f = tk_upd C2 46 (x1.toInt.toNat) z85 := ⟨_, rfl⟩
          rw [← c86] at hW
          refine hr_ic hx hb dX12_image_87 (by decide) (fun z87 hz87 => ?_)
          have hCC : ∀ t j, t ≠ 46 → ¬ (t = 45 ∧ (367 * x1.toInt.toNat ≤ j ∧ j < 367 * x1.toInt.toNat + 367)) → C86 t j = C t j := fun t j h1 h2 => by rw [c86, tk_unt h1]; exact hC t j h2
          refine cm_zret B hb rfl ⟨by omega, by omega⟩ ⟨_, List.mem_cons_self, hr_aI (ty := ty) (by omega) (by omega), (fun q h => nomatch h), hr_set1 (P := pU) (f := pvv0) (j := 29) (hr_wk (hr_self hp0) (by decide +kernel)) (hr_aI (by omega) (by omega)) (fun i hi => by rw [e86, pk_un hi])⟩ (gx_in hW ?_ ?_) hS dX12_image_88
          rotate_left
          · exact fun t ht j => (hCC t j (gx_ne ht (by decide)) (fun q => gx_ne ht (n := 45) (by decide) q.1)).trans (hK0 t ht j)
          refine ⟨g50_of G5 (fun j => hCC 15 j (by decide) (by simp)) (fun j => hCC 49 j (by decide) (by simp)) (fun j => hCC 16 j (by decide) (by simp)) (fun j => hCC 50 j (by decide) (by simp)), fun k hk => ?_, fun j hj => ?_, fun k hk hk2 => ?_, ?_⟩
          · rw [hCC 0 0 (by decide) (by simp)] at hk
            rw [hCC 29 k (by decide) (by simp), hCC 30 k (by decide) (by simp), hCC 31 k (by decide) (by simp)]
            exact G1 k hk
          · rw [hCC 12 22 (by decide) (by simp)] at hj
            rw [hCC 37 _ (by decide) (by simp), hCC 34 _ (by decide) (by simp)]
            exact G2 j hj
          · by_cases e9 : k = x1.toInt.toNat
            · have eK : ∀ j, C86 45 j = C2 45 j := fun j => by rw [c86, tk_unt (by decide)]
              rw [eK, eK, e9, h140 (by omega), hk3 3 (by omega) (by omega)]
              refine ⟨by omega, ?_⟩
              refine cwf_co (f := fun i => C 34 (186 + i)) (fun j hj => ?_) ?_ G4
              · show C86 45 _ = C 34 _
                rw [eK, show 367 * x1.toInt.toNat + 186 + j = 367 * x1.toInt.toNat + (186 + j) by omega]; exact hk3 (186 + j) (by omega) (by omega)
              · have := hr_tkA hW0 (fun _ h => h) (pq := ck_protT) ts rfl (i := 186) (lo := 0) (hi := 45) (by decide) (by decide +kernel) ⟨(186, 366), by decide, by decide, by decide⟩; show (C 34 186).toInt ≤ 60; omega
            · rw [show C86 46 k = C 46 k by rw [c86, tk_unj e9]; exact hC _ _ (fun q => absurd q.1 (by decide))] at hk2
              rw [hCC 45 _ (by decide) (by omega), hCC 45 _ (by decide) (by omega)]
              refine ⟨(G3 k hk hk2).1, ?_⟩
              refine cwf_co (f := fun i => C 45 (367 * k + 186 + i)) (fun j hj => hCC 45 _ (by decide) (by omega)) ?_ (G3 k hk hk2).2
              obtain ⟨bk, tk9⟩ := hr_fld hW t0 rfl (j := 51) (t' := 45) rfl
              have := hr_tkA hW0 (fun _ h => h) (pq := ck_protT) tk9 rfl (i := 367 * k + 186) (lo := 0) (hi := 45) (by omega) (by rw [sg_KS k hk 186 (by decide)]; decide +kernel) ⟨(367 * k + 186, 367 * k + 366), by (have : k = 0 ∨ k = 1 := by omega); rcases this with rfl | rfl <;> decide, by dsimp only; omega, by dsimp only; omega⟩
              show (C 45 (367 * k + 186)).toInt ≤ 60
              omega
          · have e9 : (fun i => C86 34 (186 + i)) = (fun i => C 34 (186 + i)) := funext (fun i => hCC 34 _ (by decide) (by simp))
            unfold g4C; rw [e9]; exact G4
        · refine lv_aload_n hx hb dX12_image_57 rfl (lv_at hl 1 rfl) ?_
          refine hr_getR B hF hb hW (ci := 12) (j := 52) (cd := 3) t0 rfl (isF (by decide +kernel)) rfl dX12_image_58 (fun az58 tz58 xz58 => ?_)
          refine hr_bp hx hb dX12_image_61 (by decide) (by decide) (fun z61 hz61 => ?_)
          refine lv_iload_n hx hb dX12_image_63 rfl (lv_at hl 2 rfl) ?_
          refine hr_mulL hx hb dX12_image_64 hz61 (by omega) (by omega) (fun z64 hz64 => ?_)
          refine lv_iload_n hx hb dX12_image_65 rfl (lv_at hl 0 rfl) ?_
          refine hr_add hx hb dX12_image_66 (by omega) (by omega) (fun z66 hz66 => ?_)
          refine lv_aload_n hx hb dX12_image_67 rfl (lv_at hl 1 rfl) ?_
          refine hr_getR B hF hb hW (ci := 12) (j := 9) (cd := 3) t0 rfl (isF (by decide +kernel)) rfl dX12_image_68 (fun az68 tz68 xz68 => ?_)
          refine lv_iload_n hx hb dX12_image_71 rfl (lv_at hl 0 rfl) ?_
          refine ck_lald B.1 hb B.2.2.2.2.2.2.2.1 hW tz68 rfl (by omega) (by omega) dX12_image_72 (fun z72 => ?_)
          refine ck_last B.1 hb B.2.2.2.2.2.2.2.1 (prot := ck_protT) (tk_YT (C := C2)) hW hS (ck_nfa_ok (by decide)) tz58 rfl (by omega) (by omega) (fun j hj => absurd hj (pr_e rfl)) dX12_image_73 (fun H locs hW hS => ?_)
          refine hr_inc hx hb dX12_image_74 hl (kq := 0) (lv' := fun v => [(2, .int v), (0, .ref a0), (1, .int x1)]) rfl (by decide) (by decide) (by omega) (by omega) (fun _ => rfl) (fun z74 ls hz74 hl => ?_)
          refine lv_goto (tgt := 51) hx hb dX12_image_77 (by decide) ?_
          exact ih51 z74 C2 _ _ _ (by omega) (by omega) (by omega) hC hk3 h140 hl hW hS
    have l18 : ∀ (n18 : Nat) (i : Int32) (C2 : Nat → Nat → Int32) (ls : Array Slot) (H : Heap) (locs : List Loc), 367 - i.toInt < n18 → (0 ≤ i.toInt) → (i.toInt ≤ 367) → (∀ t j, ¬ (t = 45 ∧ (367 * x1.toInt.toNat ≤ j ∧ j < 367 * x1.toInt.toNat + 367)) → C2 t j = C t j) → (∀ j : Nat, (j : Int) < i.toInt → (j < 140 ∨ 186 ≤ j) → C2 45 (367 * x1.toInt.toNat + j) = C 34 j) → (140 < i.toInt → (C2 45 (367 * x1.toInt.toNat + 140)).toInt = (pvv0 16).toInt) → lv_has ls 3 [(2, .int i), (0, .ref a0), (1, .int x1)] → ck_Wo D cys ty ck_tags ck_pvs0 (tk ty ck_protT C2) pvv0 H → va_S (ck_own ty) s.heap H locs → W p l e (ck_rm kh_12_image_1) s m [Value.ref a0, Value.int x1].toArray below meth c H locs 0 0 (MQ below (ck_Qc D cys ty ck_tags ck_pvs0 (GX ty ck_protT gx_i K) kh_12_image_1 [Value.ref a0, Value.int x1] pvv0) [Value.ref a0, Value.int x1].toArray s 0 0 (ck_own ty)) (F0 m 18 ls []) := by
      intro n18
      induction n18 with
      | zero => intro i C2 ls H locs hm18 i1 i2 hC hk h140 hl hW hS; omega
      | succ n18 ih18 =>
        intro i C2 ls H locs hm18 i1 i2 hC hk h140 hl hW hS
        refine lv_iload_n hx hb dX12_image_18 rfl (lv_at hl 0 rfl) ?_
        refine hr_sp hx hb dX12_image_19 (by decide) (by decide) (fun z19 hz19 => ?_)
        refine hr_ge (tgt := 49) hx hb dX12_image_22 (by decide) (fun h22 => ?_) (fun h22 => ?_)
        · refine hr_ic hx hb dX12_image_49 (by decide) (fun z49 hz49 => ?_)
          refine lv_istore_n hx hb dX12_image_50 rfl hl (lv' := [(2, .int z49), (0, .ref a0), (1, .int x1)]) (by decide) rfl (fun ls hl => ?_)
          have hk3 : ∀ j : Nat, (j : Int) < 367 → (j < 140 ∨ 186 ≤ j) → C2 45 (367 * x1.toInt.toNat + j) = C 34 j := fun j h1 h2 => hk j (by omega) h2
          have h140 : (140 : Int) < 367 → (C2 45 (367 * x1.toInt.toNat + 140)).toInt = (pvv0 16).toInt := fun _ => h140 (by omega)
          exact l51 21 z49 C2 _ _ _ (by omega) (by omega) (by omega) hC hk3 h140 hl hW hS
        · refine lv_aload_n hx hb dX12_image_25 rfl (lv_at hl 1 rfl) ?_
          refine hr_getR B hF hb hW (ci := 12) (j := 51) (cd := 3) t0 rfl (isF (by decide +kernel)) rfl dX12_image_26 (fun az26 tz26 xz26 => ?_)
          refine hr_sp hx hb dX12_image_29 (by decide) (by decide) (fun z29 hz29 => ?_)
          refine lv_iload_n hx hb dX12_image_32 rfl (lv_at hl 2 rfl) ?_
          refine hr_mulL hx hb dX12_image_33 hz29 (by omega) (by omega) (fun z33 hz33 => ?_)
          refine lv_iload_n hx hb dX12_image_34 rfl (lv_at hl 0 rfl) ?_
          refine hr_add hx hb dX12_image_35 (by omega) (by omega) (fun z35 hz35 => ?_)
          refine lv_aload_n hx hb dX12_image_36 rfl (lv_at hl 1 rfl) ?_
          refine hr_getR B hF hb hW (ci := 12) (j := 6) (cd := 3) t0 rfl (isF (by decide +kernel)) rfl dX12_image_37 (fun az37 tz37 xz37 => ?_)
          refine lv_iload_n hx hb dX12_image_40 rfl (lv_at hl 0 rfl) ?_
          refine hr_iald B hb hW tz37 rfl (by omega) (by omega) dX12_image_41 (fun z41 iz41 pz41 xz41 => ?_)
          have e1 := sg_KS x1.toInt.toNat (by omega) i.toInt.toNat (by omega)
          rw [show 367 * x1.toInt.toNat + i.toInt.toNat = z35.toInt.toNat by omega] at e1
          refine hr_iastN (Ex' := tk ty ck_protT (tk_upd C2 45 (z35.toInt.toNat) z41)) B hb hU hW hS tz26 rfl (by omega) (by omega) (by unfold ck_in; rw [e1]; exact iz41) (tk_EA tz26 (fun a h => hun 45 (by decide) _ _ tz26 h)) (u := 0) (v := 733) (by omega) (by omega) (by decide +kernel) dX12_image_42 (fun H locs hW hS => ?_)
          obtain ⟨C42, c42⟩ : ∃ f, f = tk_upd C2 45 (z35.toInt.toNat) z41 := ⟨_, rfl⟩
          rw [← c42] at hW
          refine hr_inc hx hb dX12_image_43 hl (kq := 0) (lv' := fun v => [(2, .int v), (0, .ref a0), (1, .int x1)]) rfl (by decide) (by decide) (by omega) (by omega) (fun _ => rfl) (fun z43 ls hz43 hl => ?_)
          refine lv_goto (tgt := 18) hx hb dX12_image_46 (by decide) ?_
          refine ih18 z43 C42 _ _ _ (by omega) (by omega) (by omega) (fun t j ht => ?_) (fun j h1 h2 => ?_) (fun h1 => ?_) hl hW hS
          · rw [c42, tk_un (fun q => ht ⟨q.1, by omega, by omega⟩)]; exact hC t j ht
          · by_cases e9 : j = i.toInt.toNat
            · subst e9
              rw [show 367 * x1.toInt.toNat + i.toInt.toNat = z35.toInt.toNat by omega, c42, tk_us]
              have x9 : z41 = C2 34 i.toInt.toNat := by
                rcases h2 with h2 | h2
                · exact tk_xa xz41 (fun _ h => h) (pq := ck_protT) tz37 ⟨(0, 139), by decide, by dsimp only; omega, by dsimp only; omega⟩
                · exact tk_xa xz41 (fun _ h => h) (pq := ck_protT) tz37 ⟨(186, 366), by decide, by dsimp only; omega, by dsimp only; omega⟩
              rw [x9]; exact hC _ _ (fun q => absurd q.1 (by decide))
            · rw [c42, tk_unj (by omega)]; exact hk j (by omega) h2
          · by_cases e9 : i.toInt = 140
            · rw [show 367 * x1.toInt.toNat + 140 = z35.toInt.toNat by omega, c42, tk_us]
              rw [pz41 16 (by rw [e9]; rfl)]
            · rw [c42, tk_unj (by omega)]; exact h140 (by omega)
    refine hr_ic hx hb dX12_image_16 (by decide) (fun z16 hz16 => ?_)
    refine lv_istore_n hx hb dX12_image_17 rfl hl (lv' := [(2, .int z16), (0, .ref a0), (1, .int x1)]) (by decide) rfl (fun ls hl => ?_)
    exact l18 368 z16 C _ _ _ (by omega) (by omega) (by omega) (fun _ _ _ => rfl) (fun j h1 _ => absurd h1 (by omega)) (fun h => absurd h (by omega)) hl hW hS
  · omega
theorem dX12_restore_0 : decode cX12_restore 0 = .ok (.aload_n 0, 1) := by decide +kernel
theorem dX12_restore_1 : decode cX12_restore 1 = .ok (.iconst 0, 1) := by decide +kernel
theorem dX12_restore_2 : decode cX12_restore 2 = .ok (.putfield 1, 3) := by decide +kernel
theorem dX12_restore_5 : decode cX12_restore 5 = .ok (.iload_n 1, 1) := by decide +kernel
theorem dX12_restore_6 : decode cX12_restore 6 = .ok (.iconst 0, 1) := by decide +kernel
theorem dX12_restore_7 : decode cX12_restore 7 = .ok (.iconst 1, 1) := by decide +kernel
theorem dX12_restore_8 : decode cX12_restore 8 = .ok (.invokestatic 198, 3) := by decide +kernel
theorem dX12_restore_11 : decode cX12_restore 11 = .ok (.ifCond .eq 12, 3) := by decide +kernel
theorem dX12_restore_14 : decode cX12_restore 14 = .ok (.aload_n 0, 1) := by decide +kernel
theorem dX12_restore_15 : decode cX12_restore 15 = .ok (.getfield 99, 3) := by decide +kernel
theorem dX12_restore_18 : decode cX12_restore 18 = .ok (.iload_n 1, 1) := by decide +kernel
theorem dX12_restore_19 : decode cX12_restore 19 = .ok (.baload, 1) := by decide +kernel
theorem dX12_restore_20 : decode cX12_restore 20 = .ok (.ifCond .ne 5, 3) := by decide +kernel
theorem dX12_restore_23 : decode cX12_restore 23 = .ok (.iconst 0, 1) := by decide +kernel
theorem dX12_restore_24 : decode cX12_restore 24 = .ok (.ireturn, 1) := by decide +kernel
theorem dX12_restore_25 : decode cX12_restore 25 = .ok (.iconst 0, 1) := by decide +kernel
theorem dX12_restore_26 : decode cX12_restore 26 = .ok (.istore_n 2, 1) := by decide +kernel
theorem dX12_restore_27 : decode cX12_restore 27 = .ok (.iload_n 2, 1) := by decide +kernel
theorem dX12_restore_28 : decode cX12_restore 28 = .ok (.sipush 367, 3) := by decide +kernel
theorem dX12_restore_31 : decode cX12_restore 31 = .ok (.if_icmp .ge 27, 3) := by decide +kernel
theorem dX12_restore_34 : decode cX12_restore 34 = .ok (.aload_n 0, 1) := by decide +kernel
theorem dX12_restore_35 : decode cX12_restore 35 = .ok (.getfield 33, 3) := by decide +kernel
theorem dX12_restore_38 : decode cX12_restore 38 = .ok (.iload_n 2, 1) := by decide +kernel
theorem dX12_restore_39 : decode cX12_restore 39 = .ok (.aload_n 0, 1) := by decide +kernel
theorem dX12_restore_40 : decode cX12_restore 40 = .ok (.getfield 93, 3) := by decide +kernel
theorem dX12_restore_43 : decode cX12_restore 43 = .ok (.sipush 367, 3) := by decide +kernel
theorem dX12_restore_46 : decode cX12_restore 46 = .ok (.iload_n 1, 1) := by decide +kernel
theorem dX12_restore_47 : decode cX12_restore 47 = .ok (.imul, 1) := by decide +kernel
theorem dX12_restore_48 : decode cX12_restore 48 = .ok (.iload_n 2, 1) := by decide +kernel
theorem dX12_restore_49 : decode cX12_restore 49 = .ok (.iadd, 1) := by decide +kernel
theorem dX12_restore_50 : decode cX12_restore 50 = .ok (.iaload, 1) := by decide +kernel
theorem dX12_restore_51 : decode cX12_restore 51 = .ok (.iastore, 1) := by decide +kernel
theorem dX12_restore_52 : decode cX12_restore 52 = .ok (.iinc 2 1, 3) := by decide +kernel
theorem dX12_restore_55 : decode cX12_restore 55 = .ok (.goto (-28), 3) := by decide +kernel
theorem dX12_restore_58 : decode cX12_restore 58 = .ok (.iconst 0, 1) := by decide +kernel
theorem dX12_restore_59 : decode cX12_restore 59 = .ok (.istore_n 2, 1) := by decide +kernel
theorem dX12_restore_60 : decode cX12_restore 60 = .ok (.iload_n 2, 1) := by decide +kernel
theorem dX12_restore_61 : decode cX12_restore 61 = .ok (.bipush 20, 2) := by decide +kernel
theorem dX12_restore_63 : decode cX12_restore 63 = .ok (.if_icmp .ge 26, 3) := by decide +kernel
theorem dX12_restore_66 : decode cX12_restore 66 = .ok (.aload_n 0, 1) := by decide +kernel
theorem dX12_restore_67 : decode cX12_restore 67 = .ok (.getfield 43, 3) := by decide +kernel
theorem dX12_restore_70 : decode cX12_restore 70 = .ok (.iload_n 2, 1) := by decide +kernel
theorem dX12_restore_71 : decode cX12_restore 71 = .ok (.aload_n 0, 1) := by decide +kernel
theorem dX12_restore_72 : decode cX12_restore 72 = .ok (.getfield 96, 3) := by decide +kernel
theorem dX12_restore_75 : decode cX12_restore 75 = .ok (.bipush 20, 2) := by decide +kernel
theorem dX12_restore_77 : decode cX12_restore 77 = .ok (.iload_n 1, 1) := by decide +kernel
theorem dX12_restore_78 : decode cX12_restore 78 = .ok (.imul, 1) := by decide +kernel
theorem dX12_restore_79 : decode cX12_restore 79 = .ok (.iload_n 2, 1) := by decide +kernel
theorem dX12_restore_80 : decode cX12_restore 80 = .ok (.iadd, 1) := by decide +kernel
theorem dX12_restore_81 : decode cX12_restore 81 = .ok (.laload, 1) := by decide +kernel
theorem dX12_restore_82 : decode cX12_restore 82 = .ok (.lastore, 1) := by decide +kernel
theorem dX12_restore_83 : decode cX12_restore 83 = .ok (.iinc 2 1, 3) := by decide +kernel
theorem dX12_restore_86 : decode cX12_restore 86 = .ok (.goto (-26), 3) := by decide +kernel
theorem dX12_restore_89 : decode cX12_restore 89 = .ok (.aload_n 0, 1) := by decide +kernel
theorem dX12_restore_90 : decode cX12_restore 90 = .ok (.iconst 0, 1) := by decide +kernel
theorem dX12_restore_91 : decode cX12_restore 91 = .ok (.putfield 254, 3) := by decide +kernel
theorem dX12_restore_94 : decode cX12_restore 94 = .ok (.iconst 1, 1) := by decide +kernel
theorem dX12_restore_95 : decode cX12_restore 95 = .ok (.ireturn, 1) := by decide +kernel
set_option maxRecDepth 100000 in
set_option maxHeartbeats 4000000 in
theorem hk_12_restore_0 (hF : ck_LKf ck_LK) (hM : ck_LKm ck_tags ck_LK ck_tab) (hU : ck_uq ty ck_pvs0) (hun : ck_un ty) (hH1 : ∀ Ex', ck_ExP ty ck_prot1 Ex' → ∀ j, j < 331 → ck_Holds l D cys ty ck_tags ck_pvs0 Ex' (ck_tab j)) {K : Nat → Nat → Int32} : ck_Holds l D cys ty ck_tags ck_pvs0 (GX ty ck_protR gx_r K) kh_12_restore_0 := by
  refine cm_enter (by decide +kernel) (by decide +kernel) (by decide +kernel) ?_
  intro vs pvv0 p e s m below meth c ls ha hp B hl hW
  have hx := B.1
  have hb : c.code = cX12_restore := B.2.1
  have hI := pv_inj
  have hS : va_S (ck_own ty) s.heap s.heap [] := va_S.rf
  obtain ⟨C, hG, hK0, hW⟩ := gx_out hW
  obtain ⟨_, _, rfl, ⟨a0, rfl, t0⟩, ⟨x1, rfl, l1, u1, -⟩⟩ := cm_a2 ha
  dsimp only at l1 u1
  have hl : lv_has ls 3 [(0, .ref a0), (1, .int x1)] := hl
  have hp0 := hp
  have hG0 := hG
  obtain ⟨G5, G1, G2, G3, G4⟩ := hG
  have hW0 := hW
  obtain ⟨bs, ts⟩ := hr_fld hW t0 rfl (j := 6) (t' := 34) rfl
  obtain ⟨bk, tk9⟩ := hr_fld hW t0 rfl (j := 51) (t' := 45) rfl
  refine lv_aload_n hx hb dX12_restore_0 rfl (lv_at hl 0 rfl) ?_
  refine hr_ic hx hb dX12_restore_1 (by decide) (fun z1 hz1 => ?_)
  refine hr_putN B hF hb hU hW hS (ci := 12) (j := 0) (cd := 0) t0 rfl (isF (by decide +kernel)) rfl (by omega) (by omega) (Or.inl rfl) (hr_EO (tk_XR (C := C)) t0 (by decide)) (by decide) dX12_restore_2 (fun H locs hW hS => ?_)
  refine lv_iload_n hx hb dX12_restore_5 rfl (lv_at hl 1 rfl) ?_
  refine hr_ic hx hb dX12_restore_6 (by decide) (fun z6 hz6 => ?_)
  refine hr_ic hx hb dX12_restore_7 (by decide) (fun z7 hz7 => ?_)
  refine cm_callS (kc := kc_190) B rfl hb hl (hM.1 _ _ 1 [190, 191, 192, 193, 194, 195, 196, 197, 198, 199] (isM (by decide +kernel)) 190 (by decide)) (hH1 _ tk_XR 190 (by decide)) (As := [.int x1, .int z6, .int z7]) ⟨hr_aI (by omega) (by omega), hr_aI (by omega) (by omega), hr_aI (by omega) (by omega), True.intro⟩ hp hW hS rfl (by decide) (by decide) (Nat.le_of_ble_eq_true rfl) dX12_restore_8 (fun cs hcs r pvv8 H locs hca hW hS => ?_)
  obtain rfl := List.mem_singleton.mp hcs
  obtain ⟨hr, hq, hc⟩ := hca
  obtain ⟨z8, rfl, lz8, uz8⟩ := hr_rvI hr
  have hW := hr_pvE (hr_sameA hc rfl (by decide +kernel)) hW
  refine hr_eq0 (tgt := 23) hx hb dX12_restore_11 (by decide) (fun h11 => ?_) (fun h11 => ?_)
  · omega
  · refine lv_aload_n hx hb dX12_restore_14 rfl (lv_at hl 0 rfl) ?_
    refine hr_getR B hF hb hW (ci := 12) (j := 53) (cd := 3) t0 rfl (isF (by decide +kernel)) rfl dX12_restore_15 (fun az15 tz15 xz15 => ?_)
    refine lv_iload_n hx hb dX12_restore_18 rfl (lv_at hl 1 rfl) ?_
    refine hr_zald B hb hW tz15 rfl (by omega) (by omega) dX12_restore_19 (fun z19 iz19 pz19 xz19 => ?_)
    have iz19 := hr_inr iz19 (a := 0) (b := 1) (lo := 0) (hi := 1) (by omega) (by omega) (by decide +kernel)
    have xz19 := tk_xa xz19 (fun _ h => h) (pq := ck_protR) (C := C) tz15 ⟨(0, 1), by decide, by dsimp only; omega, by dsimp only; omega⟩; have kz19 := congrArg Int32.toInt xz19
    refine hr_ne0 (tgt := 25) hx hb dX12_restore_20 (by decide) (fun h20 => ?_) (fun h20 => ?_)
    · have hk9 : (pvv0 28).toInt = 1 := by have := pz19 28 (by rw [show x1.toInt.toNat = 0 by omega]; rfl); rw [← this]; omega
      have hak : (C 46 x1.toInt.toNat).toInt ≠ 0 := by rw [← kz19]; exact h20
      have l60 : ∀ (n60 : Nat) (i : Int32) (pvv : Nat → Int32) (C2 : Nat → Nat → Int32) (ls : Array Slot) (H : Heap) (locs : List Loc), 20 - i.toInt < n60 → (0 ≤ i.toInt) → (i.toInt ≤ 20) → (∀ t j, t ≠ 34 → C2 t j = C t j) → (∀ j : Nat, (j : Int) < (367 : Int) → (j < 140 ∨ 186 ≤ j) → C2 34 j = C 45 (367 * x1.toInt.toNat + j)) → (∀ j, j ≠ 16 → j ≠ 17 → pvv j = pvv0 j) → (3 < (367 : Int) → (pvv 17).toInt = (C 45 (367 * x1.toInt.toNat + 3)).toInt) → (140 < (367 : Int) → (pvv 16).toInt = (C 45 (367 * x1.toInt.toNat + 140)).toInt) → lv_has ls 3 [(2, .int i), (0, .ref a0), (1, .int x1)] → ck_Wo D cys ty ck_tags ck_pvs0 (tk ty ck_protR C2) pvv H → va_S (ck_own ty) s.heap H locs → W p l e (ck_rm kh_12_restore_0) s m [Value.ref a0, Value.int x1].toArray below meth c H locs 0 0 (MQ below (ck_Qc D cys ty ck_tags ck_pvs0 (GX ty ck_protR gx_r K) kh_12_restore_0 [Value.ref a0, Value.int x1] pvv0) [Value.ref a0, Value.int x1].toArray s 0 0 (ck_own ty)) (F0 m 60 ls []) := by
        intro n60
        induction n60 with
        | zero => intro i pvv C2 ls H locs hm60 i1 i2 hC hs hq h3 h140 hl hW hS; omega
        | succ n60 ih60 =>
          intro i pvv C2 ls H locs hm60 i1 i2 hC hs hq h3 h140 hl hW hS
          refine lv_iload_n hx hb dX12_restore_60 rfl (lv_at hl 0 rfl) ?_
          refine hr_bp hx hb dX12_restore_61 (by decide) (by decide) (fun z61 hz61 => ?_)
          refine hr_ge (tgt := 89) hx hb dX12_restore_63 (by decide) (fun h63 => ?_) (fun h63 => ?_)
          · refine lv_aload_n hx hb dX12_restore_89 rfl (lv_at hl 1 rfl) ?_
            refine hr_ic hx hb dX12_restore_90 (by decide) (fun z90 hz90 => ?_)
            refine hr_putP B hF hb hU hW hS (ci := 12) (j := 22) (cd := 0) t0 rfl (isF (by decide +kernel)) rfl (by omega) (by omega) (Or.inl rfl) (tk_EO t0 (fun a h => hun 12 (by decide) _ _ t0 h) (by decide)) hI (q0 := 15) rfl dX12_restore_91 (fun H locs hW hS => ?_)
            obtain ⟨pvv91, e91⟩ : ∃ f, f = upd pvv 15 z90 := ⟨_, rfl⟩
            rw [← e91] at hW
            have e91q : pvv91 15 = z90 := by rw [e91, pk_us]
            have e91qi := congrArg Int32.toInt e91q
            obtain ⟨C91, c91⟩ : ∃ f, f = tk_upd C2 12 (22) z90 := ⟨_, rfl⟩
            rw [← c91] at hW
            refine hr_ic hx hb dX12_restore_94 (by decide) (fun z94 hz94 => ?_)
            have g3 := G3 x1.toInt.toNat (by omega) hak
            have hGn : g0C C91 := by
              have hCC : ∀ t j, t ≠ 34 → t ≠ 12 → C91 t j = C t j := fun t j h1 h2 => by rw [c91, tk_unt h2]; exact hC t j h1
              refine ⟨g50_of G5 (fun j => hCC 15 j (by decide) (by decide)) (fun j => hCC 49 j (by decide) (by decide)) (fun j => hCC 16 j (by decide) (by decide)) (fun j => hCC 50 j (by decide) (by decide)), fun k hk => ?_, fun j hj => ?_, fun k hk hk2 => ?_, ?_⟩
              · rw [hCC 0 0 (by decide) (by decide)] at hk
                rw [hCC 29 k (by decide) (by decide), hCC 30 k (by decide) (by decide), hCC 31 k (by decide) (by decide)]
                exact G1 k hk
              · rw [show C91 12 22 = z90 by rw [c91, tk_us]] at hj; omega
              · rw [hCC 46 k (by decide) (by decide)] at hk2
                rw [hCC 45 _ (by decide) (by decide), hCC 45 _ (by decide) (by decide)]
                refine ⟨(G3 k hk hk2).1, ?_⟩
                have e9 : (fun i => C91 45 (367 * k + 186 + i)) = (fun i => C 45 (367 * k + 186 + i)) := funext (fun i => hCC 45 _ (by decide) (by decide))
                rw [e9]; exact (G3 k hk hk2).2
              · refine cwf_co (f := fun i => C 45 (367 * x1.toInt.toNat + 186 + i)) (fun j hj => ?_) ?_ g3.2
                · show C91 34 _ = C 45 _
                  rw [c91, tk_unt (by decide), show 367 * x1.toInt.toNat + 186 + j = 367 * x1.toInt.toNat + (186 + j) by omega]; exact hs (186 + j) (by omega) (by omega)
                · have := hr_tkA hW0 (fun _ h => h) (pq := ck_protR) tk9 rfl (i := 367 * x1.toInt.toNat + 186) (lo := 0) (hi := 45) (by omega) (by rw [sg_KS _ (by omega) 186 (by decide)]; decide +kernel) ⟨(367 * x1.toInt.toNat + 186, 367 * x1.toInt.toNat + 366), by (have : x1.toInt.toNat = 0 ∨ x1.toInt.toNat = 1 := by omega); rcases this with h | h <;> rw [h] <;> decide, by dsimp only; omega, by dsimp only; omega⟩
                  show (C 45 (367 * x1.toInt.toNat + 186)).toInt ≤ 60
                  omega
            have hKn : ∀ t, gx_r t = true → ∀ j, C91 t j = K t j := fun t ht j => by
              have hCC : ∀ t j, t ≠ 34 → t ≠ 12 → C91 t j = C t j := fun t j h1 h2 => by rw [c91, tk_unt h2]; exact hC t j h1
              exact (hCC t j (gx_ne ht (by decide)) (gx_ne ht (by decide))).trans (hK0 t ht j)
            have s17 := hr_pvA hW ts rfl (q := 17) (k := 3) (lo := 0) (hi := 6) rfl (by decide) (by decide +kernel)
            have s16 := hr_pvA hW ts rfl (q := 16) (k := 140) (lo := 0) (hi := 6) rfl (by decide) (by decide +kernel)
            have u17 : (pvv91 17).toInt = (pvv 17).toInt := by rw [e91, pk_un (by decide)]
            have u16 : (pvv91 16).toInt = (pvv 16).toInt := by rw [e91, pk_un (by decide)]
            have h3 := h3 (by omega)
            have h140 := h140 (by omega)
            have hsam3 : ∀ j, j < 32 → j ∉ [15, 16, 17] → pvv91 j = pvv0 j := fun j h1 h2 => by rw [e91, pk_un (fun q => h2 (by rw [q]; decide))]; exact hq j (fun q => h2 (by rw [q]; decide)) (fun q => h2 (by rw [q]; decide))
            have hk8 : (pvv91 28).toInt = (pvv0 28).toInt := by rw [hsam3 28 (by decide) (by decide)]
            have hsame : ∀ j, j < 32 → j ∉ [15, 16, 17, 28] → pvv91 j = pvv0 j := fun j h1 h2 => hsam3 j h1 (fun h => h2 (List.mem_append_left [28] h))
            (have h7 : (pvv91 17).toInt = 0 ∨ (pvv91 17).toInt = 1 ∨ (pvv91 17).toInt = 2 ∨ (pvv91 17).toInt = 3 ∨ (pvv91 17).toInt = 4 ∨ (pvv91 17).toInt = 5 ∨ (pvv91 17).toInt = 6 := by omega)
            rcases h7 with h7 | h7 | h7 | h7 | h7 | h7 | h7
            · refine cm_zret B hb rfl ⟨by omega, by omega⟩ ⟨_, (List.mem_cons_of_mem _ List.mem_cons_self), hr_aI (ty := ty) (by omega) (by omega), (fun q h => nomatch h), ?_⟩ (gx_in hW hGn hKn) hS dX12_restore_95
              refine hr_mk (n := 32) [15, 16, 17, 28] hp0 hsame (by decide +kernel) (fun j hj av hav => ?_)
              rcases List.mem_cons.mp hj with rfl | hj
              · have hav : some (.inl (0, 0, []) : ck_AV) = some av := hav
                cases hav
                exact hr_aI (by omega) (by omega)
              rcases List.mem_cons.mp hj with rfl | hj
              · have hav : some (.inl (0, 0, []) : ck_AV) = some av := hav
                cases hav
                exact hr_aI (by omega) (by omega)
              rcases List.mem_cons.mp hj with rfl | hj
              · have hav : some (.inl (0, 0, []) : ck_AV) = some av := hav
                cases hav
                exact hr_aI (by omega) (by omega)
              obtain rfl := List.mem_singleton.mp hj
              have hav : some (.inl (1, 1, [(2056, 0, 0)]) : ck_AV) = some av := hav
              cases hav
              exact hr_vd (q := 28) (by omega) (by omega) (by omega) (by omega)
            · refine cm_zret B hb rfl ⟨by omega, by omega⟩ ⟨_, (List.mem_cons_of_mem _ (List.mem_cons_of_mem _ List.mem_cons_self)), hr_aI (ty := ty) (by omega) (by omega), (fun q h => nomatch h), ?_⟩ (gx_in hW hGn hKn) hS dX12_restore_95
              refine hr_mk (n := 32) [15, 16, 17, 28] hp0 hsame (by decide +kernel) (fun j hj av hav => ?_)
              rcases List.mem_cons.mp hj with rfl | hj
              · have hav : some (.inl (0, 0, []) : ck_AV) = some av := hav
                cases hav
                exact hr_aI (by omega) (by omega)
              rcases List.mem_cons.mp hj with rfl | hj
              · have hav : some (.inl (0, 1, []) : ck_AV) = some av := hav
                cases hav
                exact hr_aI (by omega) (by omega)
              rcases List.mem_cons.mp hj with rfl | hj
              · have hav : some (.inl (1, 1, []) : ck_AV) = some av := hav
                cases hav
                exact hr_aI (by omega) (by omega)
              obtain rfl := List.mem_singleton.mp hj
              have hav : some (.inl (1, 1, [(2056, 0, 0)]) : ck_AV) = some av := hav
              cases hav
              exact hr_vd (q := 28) (by omega) (by omega) (by omega) (by omega)
            · refine cm_zret B hb rfl ⟨by omega, by omega⟩ ⟨_, (List.mem_cons_of_mem _ (List.mem_cons_of_mem _ (List.mem_cons_of_mem _ List.mem_cons_self))), hr_aI (ty := ty) (by omega) (by omega), (fun q h => nomatch h), ?_⟩ (gx_in hW hGn hKn) hS dX12_restore_95
              refine hr_mk (n := 32) [15, 16, 17, 28] hp0 hsame (by decide +kernel) (fun j hj av hav => ?_)
              rcases List.mem_cons.mp hj with rfl | hj
              · have hav : some (.inl (0, 0, []) : ck_AV) = some av := hav
                cases hav
                exact hr_aI (by omega) (by omega)
              rcases List.mem_cons.mp hj with rfl | hj
              · have hav : some (.inl (0, 2, []) : ck_AV) = some av := hav
                cases hav
                exact hr_aI (by omega) (by omega)
              rcases List.mem_cons.mp hj with rfl | hj
              · have hav : some (.inl (2, 2, []) : ck_AV) = some av := hav
                cases hav
                exact hr_aI (by omega) (by omega)
              obtain rfl := List.mem_singleton.mp hj
              have hav : some (.inl (1, 1, [(2056, 0, 0)]) : ck_AV) = some av := hav
              cases hav
              exact hr_vd (q := 28) (by omega) (by omega) (by omega) (by omega)
            · refine cm_zret B hb rfl ⟨by omega, by omega⟩ ⟨_, (List.mem_cons_of_mem _ (List.mem_cons_of_mem _ (List.mem_cons_of_mem _ (List.mem_cons_of_mem _ List.mem_cons_self)))), hr_aI (ty := ty) (by omega) (by omega), (fun q h => nomatch h), ?_⟩ (gx_in hW hGn hKn) hS dX12_restore_95
              refine hr_mk (n := 32) [15, 16, 17, 28] hp0 hsame (by decide +kernel) (fun j hj av hav => ?_)
              rcases List.mem_cons.mp hj with rfl | hj
              · have hav : some (.inl (0, 0, []) : ck_AV) = some av := hav
                cases hav
                exact hr_aI (by omega) (by omega)
              rcases List.mem_cons.mp hj with rfl | hj
              · have hav : some (.inl (0, 3, []) : ck_AV) = some av := hav
                cases hav
                exact hr_aI (by omega) (by omega)
              rcases List.mem_cons.mp hj with rfl | hj
              · have hav : some (.inl (3, 3, []) : ck_AV) = some av := hav
                cases hav
                exact hr_aI (by omega) (by omega)
              obtain rfl := List.mem_singleton.mp hj
              have hav : some (.inl (1, 1, [(2056, 0, 0)]) : ck_AV) = some av := hav
              cases hav
              exact hr_vd (q := 28) (by omega) (by omega) (by omega) (by omega)
            · refine cm_zret B hb rfl ⟨by omega, by omega⟩ ⟨_, (List.mem_cons_of_mem _ (List.mem_cons_of_mem _ (List.mem_cons_of_mem _ (List.mem_cons_of_mem _ (List.mem_cons_of_mem _ List.mem_cons_self))))), hr_aI (ty := ty) (by omega) (by omega), (fun q h => nomatch h), ?_⟩ (gx_in hW hGn hKn) hS dX12_restore_95
              refine hr_mk (n := 32) [15, 16, 17, 28] hp0 hsame (by decide +kernel) (fun j hj av hav => ?_)
              rcases List.mem_cons.mp hj with rfl | hj
              · have hav : some (.inl (0, 0, []) : ck_AV) = some av := hav
                cases hav
                exact hr_aI (by omega) (by omega)
              rcases List.mem_cons.mp hj with rfl | hj
              · have hav : some (.inl (0, 4, []) : ck_AV) = some av := hav
                cases hav
                exact hr_aI (by omega) (by omega)
              rcases List.mem_cons.mp hj with rfl | hj
              · have hav : some (.inl (4, 4, []) : ck_AV) = some av := hav
                cases hav
                exact hr_aI (by omega) (by omega)
              obtain rfl := List.mem_singleton.mp hj
              have hav : some (.inl (1, 1, [(2056, 0, 0)]) : ck_AV) = some av := hav
              cases hav
              exact hr_vd (q := 28) (by omega) (by omega) (by omega) (by omega)
            · refine cm_zret B hb rfl ⟨by omega, by omega⟩ ⟨_, (List.mem_cons_of_mem _ (List.mem_cons_of_mem _ (List.mem_cons_of_mem _ (List.mem_cons_of_mem _ (List.mem_cons_of_mem _ (List.mem_cons_of_mem _ List.mem_cons_self)))))), hr_aI (ty := ty) (by omega) (by omega), (fun q h => nomatch h), ?_⟩ (gx_in hW hGn hKn) hS dX12_restore_95
              refine hr_mk (n := 32) [15, 16, 17, 28] hp0 hsame (by decide +kernel) (fun j hj av hav => ?_)
              rcases List.mem_cons.mp hj with rfl | hj
              · have hav : some (.inl (0, 0, []) : ck_AV) = some av := hav
                cases hav
                exact hr_aI (by omega) (by omega)
              rcases List.mem_cons.mp hj with rfl | hj
              · have hav : some (.inl (0, 5, []) : ck_AV) = some av := hav
                cases hav
                exact hr_aI (by omega) (by omega)
              rcases List.mem_cons.mp hj with rfl | hj
              · have hav : some (.inl (5, 5, []) : ck_AV) = some av := hav
                cases hav
                exact hr_aI (by omega) (by omega)
              obtain rfl := List.mem_singleton.mp hj
              have hav : some (.inl (1, 1, [(2056, 0, 0)]) : ck_AV) = some av := hav
              cases hav
              exact hr_vd (q := 28) (by omega) (by omega) (by omega) (by omega)
            · refine cm_zret B hb rfl ⟨by omega, by omega⟩ ⟨_, (List.mem_cons_of_mem _ (List.mem_cons_of_mem _ (List.mem_cons_of_mem _ (List.mem_cons_of_mem _ (List.mem_cons_of_mem _ (List.mem_cons_of_mem _ (List.mem_cons_of_mem _ List.mem_cons_self))))))), hr_aI (ty := ty) (by omega) (by omega), (fun q h => nomatch h), ?_⟩ (gx_in hW hGn hKn) hS dX12_restore_95
              refine hr_mk (n := 32) [15, 16, 17, 28] hp0 hsame (by decide +kernel) (fun j hj av hav => ?_)
              rcases List.mem_cons.mp hj with rfl | hj
              · have hav : some (.inl (0, 0, []) : ck_AV) = some av := hav
                cases hav
                exact hr_aI (by omega) (by omega)
              rcases List.mem_cons.mp hj with rfl | hj
              · have hav : some (.inl (0, 6, []) : ck_AV) = some av := hav
                cases hav
                exact hr_aI (by omega) (by omega)
              rcases List.mem_cons.mp hj with rfl | hj
              · have hav : some (.inl (6, 6, []) : ck_AV) = some av := hav
                cases hav
                exact hr_aI (by omega) (by omega)
              obtain rfl := List.mem_singleton.mp hj
              have hav : some (.inl (1, 1, [(2056, 0, 0)]) : ck_AV) = some av := hav
              cases hav
              exact hr_vd (q := 28) (by omega) (by omega) (by omega) (by omega)
          · refine lv_aload_n hx hb dX12_restore_66 rfl (lv_at hl 1 rfl) ?_
            refine hr_getR B hF hb hW (ci := 12) (j := 9) (cd := 3) t0 rfl (isF (by decide +kernel)) rfl dX12_restore_67 (fun az67 tz67 xz67 => ?_)
            refine lv_iload_n hx hb dX12_restore_70 rfl (lv_at hl 0 rfl) ?_
            refine lv_aload_n hx hb dX12_restore_71 rfl (lv_at hl 1 rfl) ?_
            refine hr_getR B hF hb hW (ci := 12) (j := 52) (cd := 3) t0 rfl (isF (by decide +kernel)) rfl dX12_restore_72 (fun az72 tz72 xz72 => ?_)
            refine hr_bp hx hb dX12_restore_75 (by decide) (by decide) (fun z75 hz75 => ?_)
            refine lv_iload_n hx hb dX12_restore_77 rfl (lv_at hl 2 rfl) ?_
            refine hr_mulL hx hb dX12_restore_78 hz75 (by omega) (by omega) (fun z78 hz78 => ?_)
            refine lv_iload_n hx hb dX12_restore_79 rfl (lv_at hl 0 rfl) ?_
            refine hr_add hx hb dX12_restore_80 (by omega) (by omega) (fun z80 hz80 => ?_)
            refine ck_lald B.1 hb B.2.2.2.2.2.2.2.1 hW tz72 rfl (by omega) (by omega) dX12_restore_81 (fun z81 => ?_)
            refine ck_last B.1 hb B.2.2.2.2.2.2.2.1 (prot := ck_protR) (tk_YR (C := C2)) hW hS (ck_nfa_ok (by decide)) tz67 rfl (by omega) (by omega) (fun j hj => absurd hj (pr_e rfl)) dX12_restore_82 (fun H locs hW hS => ?_)
            refine hr_inc hx hb dX12_restore_83 hl (kq := 0) (lv' := fun v => [(2, .int v), (0, .ref a0), (1, .int x1)]) rfl (by decide) (by decide) (by omega) (by omega) (fun _ => rfl) (fun z83 ls hz83 hl => ?_)
            refine lv_goto (tgt := 60) hx hb dX12_restore_86 (by decide) ?_
            exact ih60 z83 pvv C2 _ _ _ (by omega) (by omega) (by omega) hC hs hq h3 h140 hl hW hS
      have l27 : ∀ (n27 : Nat) (i : Int32) (pvv : Nat → Int32) (C2 : Nat → Nat → Int32) (ls : Array Slot) (H : Heap) (locs : List Loc), 367 - i.toInt < n27 → (0 ≤ i.toInt) → (i.toInt ≤ 367) → (∀ t j, t ≠ 34 → C2 t j = C t j) → (∀ j : Nat, (j : Int) < i.toInt → (j < 140 ∨ 186 ≤ j) → C2 34 j = C 45 (367 * x1.toInt.toNat + j)) → (∀ j, j ≠ 16 → j ≠ 17 → pvv j = pvv0 j) → (3 < i.toInt → (pvv 17).toInt = (C 45 (367 * x1.toInt.toNat + 3)).toInt) → (140 < i.toInt → (pvv 16).toInt = (C 45 (367 * x1.toInt.toNat + 140)).toInt) → lv_has ls 3 [(2, .int i), (0, .ref a0), (1, .int x1)] → ck_Wo D cys ty ck_tags ck_pvs0 (tk ty ck_protR C2) pvv H → va_S (ck_own ty) s.heap H locs → W p l e (ck_rm kh_12_restore_0) s m [Value.ref a0, Value.int x1].toArray below meth c H locs 0 0 (MQ below (ck_Qc D cys ty ck_tags ck_pvs0 (GX ty ck_protR gx_r K) kh_12_restore_0 [Value.ref a0, Value.int x1] pvv0) [Value.ref a0, Value.int x1].toArray s 0 0 (ck_own ty)) (F0 m 27 ls []) := by
        intro n27
        induction n27 with
        | zero => intro i pvv C2 ls H locs hm27 i1 i2 hC hs hq h3 h140 hl hW hS; omega
        | succ n27 ih27 =>
          intro i pvv C2 ls H locs hm27 i1 i2 hC hs hq h3 h140 hl hW hS
          refine lv_iload_n hx hb dX12_restore_27 rfl (lv_at hl 0 rfl) ?_
          refine hr_sp hx hb dX12_restore_28 (by decide) (by decide) (fun z28 hz28 => ?_)
          refine hr_ge (tgt := 58) hx hb dX12_restore_31 (by decide) (fun h31 => ?_) (fun h31 => ?_)
          · refine hr_ic hx hb dX12_restore_58 (by decide) (fun z58 hz58 => ?_)
            refine lv_istore_n hx hb dX12_restore_59 rfl hl (lv' := [(2, .int z58), (0, .ref a0), (1, .int x1)]) (by decide) rfl (fun ls hl => ?_)
            have hs : ∀ j : Nat, (j : Int) < (367 : Int) → (j < 140 ∨ 186 ≤ j) → C2 34 j = C 45 (367 * x1.toInt.toNat + j) := fun j h1 h2 => hs j (by omega) h2
            have h3 : 3 < (367 : Int) → (pvv 17).toInt = (C 45 (367 * x1.toInt.toNat + 3)).toInt := fun _ => h3 (by omega)
            have h140 : 140 < (367 : Int) → (pvv 16).toInt = (C 45 (367 * x1.toInt.toNat + 140)).toInt := fun _ => h140 (by omega)
            exact l60 21 z58 pvv C2 _ _ _ (by omega) (by omega) (by omega) hC hs hq h3 h140 hl hW hS
          · refine lv_aload_n hx hb dX12_restore_34 rfl (lv_at hl 1 rfl) ?_
            refine hr_getR B hF hb hW (ci := 12) (j := 6) (cd := 3) t0 rfl (isF (by decide +kernel)) rfl dX12_restore_35 (fun az35 tz35 xz35 => ?_)
            refine lv_iload_n hx hb dX12_restore_38 rfl (lv_at hl 0 rfl) ?_
            refine lv_aload_n hx hb dX12_restore_39 rfl (lv_at hl 1 rfl) ?_
            refine hr_getR B hF hb hW (ci := 12) (j := 51) (cd := 3) t0 rfl (isF (by decide +kernel)) rfl dX12_restore_40 (fun az40 tz40 xz40 => ?_)
            refine hr_sp hx hb dX12_restore_43 (by decide) (by decide) (fun z43 hz43 => ?_)
            refine lv_iload_n hx hb dX12_restore_46 rfl (lv_at hl 2 rfl) ?_
            refine hr_mulL hx hb dX12_restore_47 hz43 (by omega) (by omega) (fun z47 hz47 => ?_)
            refine lv_iload_n hx hb dX12_restore_48 rfl (lv_at hl 0 rfl) ?_
            refine hr_add hx hb dX12_restore_49 (by omega) (by omega) (fun z49 hz49 => ?_)
            refine hr_iald B hb hW tz40 rfl (by omega) (by omega) dX12_restore_50 (fun z50 iz50 pz50 xz50 => ?_)
            have e1 := sg_KS x1.toInt.toNat (by omega) i.toInt.toNat (by omega)
            rw [show 367 * x1.toInt.toNat + i.toInt.toNat = z49.toInt.toNat by omega] at e1
            refine hr_iastG (Ex' := tk ty ck_protR (tk_upd C2 34 (i.toInt.toNat) z50)) B hb hU hW hS tz35 rfl (by omega) (by omega) (by unfold ck_in; rw [← e1]; exact iz50) (tk_EA tz35 (fun a h => hun 34 (by decide) _ _ tz35 h)) dX12_restore_51 (fun H locs pvv' hW hS w1 w2 => ?_)
            obtain ⟨C51, c51⟩ : ∃ f, f = tk_upd C2 34 (i.toInt.toNat) z50 := ⟨_, rfl⟩
            rw [← c51] at hW
            refine hr_inc hx hb dX12_restore_52 hl (kq := 0) (lv' := fun v => [(2, .int v), (0, .ref a0), (1, .int x1)]) rfl (by decide) (by decide) (by omega) (by omega) (fun _ => rfl) (fun z52 ls hz52 hl => ?_)
            refine lv_goto (tgt := 27) hx hb dX12_restore_55 (by decide) ?_
            refine ih27 z52 pvv' C51 _ _ _ (by omega) (by omega) (by omega) (fun t j ht => ?_) (fun j h1 h2 => ?_) (fun j h1 h2 => ?_) (fun h1 => ?_) (fun h1 => ?_) hl hW hS
            · rw [c51, tk_unt ht]; exact hC t j ht
            · by_cases e9 : j = i.toInt.toNat
              · subst e9
                rw [c51, tk_us]
                have x9 : z50 = C2 45 z49.toInt.toNat := by
                  (have : x1.toInt.toNat = 0 ∨ x1.toInt.toNat = 1 := by omega)
                  rcases h2 with h2 | h2
                  · exact tk_xa xz50 (fun _ h => h) (pq := ck_protR) tz40 ⟨(367 * x1.toInt.toNat, 367 * x1.toInt.toNat + 139), by rcases this with h | h <;> rw [h] <;> decide, by dsimp only; omega, by dsimp only; omega⟩
                  · exact tk_xa xz50 (fun _ h => h) (pq := ck_protR) tz40 ⟨(367 * x1.toInt.toNat + 186, 367 * x1.toInt.toNat + 366), by rcases this with h | h <;> rw [h] <;> decide, by dsimp only; omega, by dsimp only; omega⟩
                rw [x9, hC _ _ (by decide), show z49.toInt.toNat = 367 * x1.toInt.toNat + i.toInt.toNat by omega]
              · rw [c51, tk_unj e9]; exact hs j (by omega) h2
            · refine (w2 j (fun h9 => ?_)).trans (hq j h1 h2)
              rcases pv_o2 (a := 16) (b := 140) (a' := 17) (b' := 3) (by decide +kernel) h9 with h | h <;> omega
            · by_cases e9 : i.toInt = 3
              · rw [w1 17 (by rw [e9]; rfl)]
                (have : x1.toInt.toNat = 0 ∨ x1.toInt.toNat = 1 := by omega)
                have x9 := tk_xa xz50 (fun _ h => h) (pq := ck_protR) tz40 ⟨(367 * x1.toInt.toNat, 367 * x1.toInt.toNat + 139), by rcases this with h | h <;> rw [h] <;> decide, by dsimp only; omega, by dsimp only; omega⟩
                rw [x9, hC _ _ (by decide), show z49.toInt.toNat = 367 * x1.toInt.toNat + 3 by omega]
              · rw [w2 17 (fun h9 => by rcases pv_o2 (a := 16) (b := 140) (a' := 17) (b' := 3) (by decide +kernel) h9 with h | h <;> omega)]; exact h3 (by omega)
            · by_cases e9 : i.toInt = 140
              · rw [w1 16 (by rw [e9]; rfl)]
                (have : x1.toInt.toNat = 0 ∨ x1.toInt.toNat = 1 := by omega)
                have x9 := tk_xa xz50 (fun _ h => h) (pq := ck_protR) tz40 ⟨(367 * x1.toInt.toNat + 140, 367 * x1.toInt.toNat + 140), by rcases this with h | h <;> rw [h] <;> decide, by dsimp only; omega, by dsimp only; omega⟩
                rw [x9, hC _ _ (by decide), show z49.toInt.toNat = 367 * x1.toInt.toNat + 140 by omega]
              · rw [w2 16 (fun h9 => by rcases pv_o2 (a := 16) (b := 140) (a' := 17) (b' := 3) (by decide +kernel) h9 with h | h <;> omega)]; exact h140 (by omega)
      refine hr_ic hx hb dX12_restore_25 (by decide) (fun z25 hz25 => ?_)
      refine lv_istore_n hx hb dX12_restore_26 rfl hl (lv' := [(2, .int z25), (0, .ref a0), (1, .int x1)]) (by decide) rfl (fun ls hl => ?_)
      exact l27 368 z25 pvv0 C _ _ _ (by omega) (by omega) (by omega) (fun _ _ _ => rfl) (fun j h1 _ => absurd h1 (by omega)) (fun _ _ _ => rfl) (fun h => absurd h (by omega)) (fun h => absurd h (by omega)) hl hW hS
    · refine hr_ic hx hb dX12_restore_23 (by decide) (fun z23 hz23 => ?_)
      have hk9 : pvv0 28 = z19 := (pz19 28 (by rw [show x1.toInt.toNat = 0 by omega]; rfl)).symm
      have hk8 := congrArg Int32.toInt hk9
      exact cm_zret B hb rfl ⟨by omega, by omega⟩ ⟨_, List.mem_cons_self, hr_aI (ty := ty) (by omega) (by omega), (fun q h => nomatch h), hr_set1 (P := pU) (f := pvv0) (g := pvv0) (j := 28) (hr_wk (hr_self hp0) (by decide +kernel)) (hr_vd (q := 28) (by omega) (by omega) (by omega) (by omega)) (fun _ _ => rfl)⟩ (gx_in hW hG0 hK0) hS dX12_restore_24
set_option maxRecDepth 100000 in
set_option maxHeartbeats 4000000 in
theorem hk_12_restore_1 (hF : ck_LKf ck_LK) (hM : ck_LKm ck_tags ck_LK ck_tab) (hU : ck_uq ty ck_pvs0) (hun : ck_un ty) (hH1 : ∀ Ex', ck_ExP ty ck_prot1 Ex' → ∀ j, j < 331 → ck_Holds l D cys ty ck_tags ck_pvs0 Ex' (ck_tab j)) {K : Nat → Nat → Int32} : ck_Holds l D cys ty ck_tags ck_pvs0 (GX ty ck_protR gx_r K) kh_12_restore_1 := by
  refine cm_enter (by decide +kernel) (by decide +kernel) (by decide +kernel) ?_
  intro vs pvv0 p e s m below meth c ls ha hp B hl hW
  have hx := B.1
  have hb : c.code = cX12_restore := B.2.1
  have hI := pv_inj
  have hS : va_S (ck_own ty) s.heap s.heap [] := va_S.rf
  obtain ⟨C, hG, hK0, hW⟩ := gx_out hW
  obtain ⟨_, _, rfl, ⟨a0, rfl, t0⟩, ⟨x1, rfl, l1, u1, -⟩⟩ := cm_a2 ha
  dsimp only at l1 u1
  have hl : lv_has ls 3 [(0, .ref a0), (1, .int x1)] := hl
  have hp0 := hp
  have hG0 := hG
  obtain ⟨G5, G1, G2, G3, G4⟩ := hG
  have hW0 := hW
  obtain ⟨bs, ts⟩ := hr_fld hW t0 rfl (j := 6) (t' := 34) rfl
  obtain ⟨bk, tk9⟩ := hr_fld hW t0 rfl (j := 51) (t' := 45) rfl
  refine lv_aload_n hx hb dX12_restore_0 rfl (lv_at hl 0 rfl) ?_
  refine hr_ic hx hb dX12_restore_1 (by decide) (fun z1 hz1 => ?_)
  refine hr_putN B hF hb hU hW hS (ci := 12) (j := 0) (cd := 0) t0 rfl (isF (by decide +kernel)) rfl (by omega) (by omega) (Or.inl rfl) (hr_EO (tk_XR (C := C)) t0 (by decide)) (by decide) dX12_restore_2 (fun H locs hW hS => ?_)
  refine lv_iload_n hx hb dX12_restore_5 rfl (lv_at hl 1 rfl) ?_
  refine hr_ic hx hb dX12_restore_6 (by decide) (fun z6 hz6 => ?_)
  refine hr_ic hx hb dX12_restore_7 (by decide) (fun z7 hz7 => ?_)
  refine cm_callS (kc := kc_191) B rfl hb hl (hM.1 _ _ 1 [190, 191, 192, 193, 194, 195, 196, 197, 198, 199] (isM (by decide +kernel)) 191 (by decide)) (hH1 _ tk_XR 191 (by decide)) (As := [.int x1, .int z6, .int z7]) ⟨hr_aI (by omega) (by omega), hr_aI (by omega) (by omega), hr_aI (by omega) (by omega), True.intro⟩ hp hW hS rfl (by decide) (by decide) (Nat.le_of_ble_eq_true rfl) dX12_restore_8 (fun cs hcs r pvv8 H locs hca hW hS => ?_)
  obtain rfl := List.mem_singleton.mp hcs
  obtain ⟨hr, hq, hc⟩ := hca
  obtain ⟨z8, rfl, lz8, uz8⟩ := hr_rvI hr
  have hW := hr_pvE (hr_sameA hc rfl (by decide +kernel)) hW
  refine hr_eq0 (tgt := 23) hx hb dX12_restore_11 (by decide) (fun h11 => ?_) (fun h11 => ?_)
  · omega
  · refine lv_aload_n hx hb dX12_restore_14 rfl (lv_at hl 0 rfl) ?_
    refine hr_getR B hF hb hW (ci := 12) (j := 53) (cd := 3) t0 rfl (isF (by decide +kernel)) rfl dX12_restore_15 (fun az15 tz15 xz15 => ?_)
    refine lv_iload_n hx hb dX12_restore_18 rfl (lv_at hl 1 rfl) ?_
    refine hr_zald B hb hW tz15 rfl (by omega) (by omega) dX12_restore_19 (fun z19 iz19 pz19 xz19 => ?_)
    have iz19 := hr_inr iz19 (a := 0) (b := 1) (lo := 0) (hi := 1) (by omega) (by omega) (by decide +kernel)
    have xz19 := tk_xa xz19 (fun _ h => h) (pq := ck_protR) (C := C) tz15 ⟨(0, 1), by decide, by dsimp only; omega, by dsimp only; omega⟩; have kz19 := congrArg Int32.toInt xz19
    refine hr_ne0 (tgt := 25) hx hb dX12_restore_20 (by decide) (fun h20 => ?_) (fun h20 => ?_)
    · have hk9 : (pvv0 29).toInt = 1 := by have := pz19 29 (by rw [show x1.toInt.toNat = 1 by omega]; rfl); rw [← this]; omega
      have hak : (C 46 x1.toInt.toNat).toInt ≠ 0 := by rw [← kz19]; exact h20
      have l60 : ∀ (n60 : Nat) (i : Int32) (pvv : Nat → Int32) (C2 : Nat → Nat → Int32) (ls : Array Slot) (H : Heap) (locs : List Loc), 20 - i.toInt < n60 → (0 ≤ i.toInt) → (i.toInt ≤ 20) → (∀ t j, t ≠ 34 → C2 t j = C t j) → (∀ j : Nat, (j : Int) < (367 : Int) → (j < 140 ∨ 186 ≤ j) → C2 34 j = C 45 (367 * x1.toInt.toNat + j)) → (∀ j, j ≠ 16 → j ≠ 17 → pvv j = pvv0 j) → (3 < (367 : Int) → (pvv 17).toInt = (C 45 (367 * x1.toInt.toNat + 3)).toInt) → (140 < (367 : Int) → (pvv 16).toInt = (C 45 (367 * x1.toInt.toNat + 140)).toInt) → lv_has ls 3 [(2, .int i), (0, .ref a0), (1, .int x1)] → ck_Wo D cys ty ck_tags ck_pvs0 (tk ty ck_protR C2) pvv H → va_S (ck_own ty) s.heap H locs → W p l e (ck_rm kh_12_restore_1) s m [Value.ref a0, Value.int x1].toArray below meth c H locs 0 0 (MQ below (ck_Qc D cys ty ck_tags ck_pvs0 (GX ty ck_protR gx_r K) kh_12_restore_1 [Value.ref a0, Value.int x1] pvv0) [Value.ref a0, Value.int x1].toArray s 0 0 (ck_own ty)) (F0 m 60 ls []) := by
        intro n60
        induction n60 with
        | zero => intro i pvv C2 ls H locs hm60 i1 i2 hC hs hq h3 h140 hl hW hS; omega
        | succ n60 ih60 =>
          intro i pvv C2 ls H locs hm60 i1 i2 hC hs hq h3 h140 hl hW hS
          refine lv_iload_n hx hb dX12_restore_60 rfl (lv_at hl 0 rfl) ?_
          refine hr_bp hx hb dX12_restore_61 (by decide) (by decide) (fun z61 hz61 => ?_)
          refine hr_ge (tgt := 89) hx hb dX12_restore_63 (by decide) (fun h63 => ?_) (fun h63 => ?_)
          · refine lv_aload_n hx hb dX12_restore_89 rfl (lv_at hl 1 rfl) ?_
            refine hr_ic hx hb dX12_restore_90 (by decide) (fun z90 hz90 => ?_)
            refine hr_putP B hF hb hU hW hS (ci := 12) (j := 22) (cd := 0) t0 rfl (isF (by decide +kernel)) rfl (by omega) (by omega) (Or.inl rfl) (tk_EO t0 (fun a h => hun 12 (by decide) _ _ t0 h) (by decide)) hI (q0 := 15) rfl dX12_restore_91 (fun H locs hW hS => ?_)
            obtain ⟨pvv91, e91⟩ : ∃ f, f = upd pvv 15 z90 := ⟨_, rfl⟩
            rw [← e91] at hW
            have e91q : pvv91 15 = z90 := by rw [e91, pk_us]
            have e91qi := congrArg Int32.toInt e91q
            obtain ⟨C91, c91⟩ : ∃ f, f = tk_upd C2 12 (22) z90 := ⟨_, rfl⟩
            rw [← c91] at hW
            refine hr_ic hx hb dX12_restore_94 (by decide) (fun z94 hz94 => ?_)
            have g3 := G3 x1.toInt.toNat (by omega) hak
            have hGn : g0C C91 := by
              have hCC : ∀ t j, t ≠ 34 → t ≠ 12 → C91 t j = C t j := fun t j h1 h2 => by rw [c91, tk_unt h2]; exact hC t j h1
              refine ⟨g50_of G5 (fun j => hCC 15 j (by decide) (by decide)) (fun j => hCC 49 j (by decide) (by decide)) (fun j => hCC 16 j (by decide) (by decide)) (fun j => hCC 50 j (by decide) (by decide)), fun k hk => ?_, fun j hj => ?_, fun k hk hk2 => ?_, ?_⟩
              · rw [hCC 0 0 (by decide) (by decide)] at hk
                rw [hCC 29 k (by decide) (by decide), hCC 30 k (by decide) (by decide), hCC 31 k (by decide) (by decide)]
                exact G1 k hk
              · rw [show C91 12 22 = z90 by rw [c91, tk_us]] at hj; omega
              · rw [hCC 46 k (by decide) (by decide)] at hk2
                rw [hCC 45 _ (by decide) (by decide), hCC 45 _ (by decide) (by decide)]
                refine ⟨(G3 k hk hk2).1, ?_⟩
                have e9 : (fun i => C91 45 (367 * k + 186 + i)) = (fun i => C 45 (367 * k + 186 + i)) := funext (fun i => hCC 45 _ (by decide) (by decide))
                rw [e9]; exact (G3 k hk hk2).2
              · refine cwf_co (f := fun i => C 45 (367 * x1.toInt.toNat + 186 + i)) (fun j hj => ?_) ?_ g3.2
                · show C91 34 _ = C 45 _
                  rw [c91, tk_unt (by decide), show 367 * x1.toInt.toNat + 186 + j = 367 * x1.toInt.toNat + (186 + j) by omega]; exact hs (186 + j) (by omega) (by omega)
                · have := hr_tkA hW0 (fun _ h => h) (pq := ck_protR) tk9 rfl (i := 367 * x1.toInt.toNat + 186) (lo := 0) (hi := 45) (by omega) (by rw [sg_KS _ (by omega) 186 (by decide)]; decide +kernel) ⟨(367 * x1.toInt.toNat + 186, 367 * x1.toInt.toNat + 366), by (have : x1.toInt.toNat = 0 ∨ x1.toInt.toNat = 1 := by omega); rcases this with h | h <;> rw [h] <;> decide, by dsimp only; omega, by dsimp only; omega⟩
                  show (C 45 (367 * x1.toInt.toNat + 186)).toInt ≤ 60
                  omega
            have hKn : ∀ t, gx_r t = true → ∀ j, C91 t j = K t j := fun t ht j => by
              have hCC : ∀ t j, t ≠ 34 → t ≠ 12 → C91 t j = C t j := fun t j h1 h2 => by rw [c91, tk_unt h2]; exact hC t j h1
              exact (hCC t j (gx_ne ht (by decide)) (gx_ne ht (by decide))).trans (hK0 t ht j)
            have s17 := hr_pvA hW ts rfl (q := 17) (k := 3) (lo := 0) (hi := 6) rfl (by decide) (by decide +kernel)
            have s16 := hr_pvA hW ts rfl (q := 16) (k := 140) (lo := 0) (hi := 6) rfl (by decide) (by decide +kernel)
            have u17 : (pvv91 17).toInt = (pvv 17).toInt := by rw [e91, pk_un (by decide)]
            have u16 : (pvv91 16).toInt = (pvv 16).toInt := by rw [e91, pk_un (by decide)]
            have h3 := h3 (by omega)
            have h140 := h140 (by omega)
            have hsam3 : ∀ j, j < 32 → j ∉ [15, 16, 17] → pvv91 j = pvv0 j := fun j h1 h2 => by rw [e91, pk_un (fun q => h2 (by rw [q]; decide))]; exact hq j (fun q => h2 (by rw [q]; decide)) (fun q => h2 (by rw [q]; decide))
            have hk8 : (pvv91 29).toInt = (pvv0 29).toInt := by rw [hsam3 29 (by decide) (by decide)]
            have hsame : ∀ j, j < 32 → j ∉ [15, 16, 17, 29] → pvv91 j = pvv0 j := fun j h1 h2 => hsam3 j h1 (fun h => h2 (List.mem_append_left [29] h))
            (have h7 : (pvv91 17).toInt = 0 ∨ (pvv91 17).toInt = 1 ∨ (pvv91 17).toInt = 2 ∨ (pvv91 17).toInt = 3 ∨ (pvv91 17).toInt = 4 ∨ (pvv91 17).toInt = 5 ∨ (pvv91 17).toInt = 6 := by omega)
            rcases h7 with h7 | h7 | h7 | h7 | h7 | h7 | h7
            · refine cm_zret B hb rfl ⟨by omega, by omega⟩ ⟨_, (List.mem_cons_of_mem _ List.mem_cons_self), hr_aI (ty := ty) (by omega) (by omega), (fun q h => nomatch h), ?_⟩ (gx_in hW hGn hKn) hS dX12_restore_95
              refine hr_mk (n := 32) [15, 16, 17, 29] hp0 hsame (by decide +kernel) (fun j hj av hav => ?_)
              rcases List.mem_cons.mp hj with rfl | hj
              · have hav : some (.inl (0, 0, []) : ck_AV) = some av := hav
                cases hav
                exact hr_aI (by omega) (by omega)
              rcases List.mem_cons.mp hj with rfl | hj
              · have hav : some (.inl (0, 0, []) : ck_AV) = some av := hav
                cases hav
                exact hr_aI (by omega) (by omega)
              rcases List.mem_cons.mp hj with rfl | hj
              · have hav : some (.inl (0, 0, []) : ck_AV) = some av := hav
                cases hav
                exact hr_aI (by omega) (by omega)
              obtain rfl := List.mem_singleton.mp hj
              have hav : some (.inl (1, 1, [(2058, 0, 0)]) : ck_AV) = some av := hav
              cases hav
              exact hr_vd (q := 29) (by omega) (by omega) (by omega) (by omega)
            · refine cm_zret B hb rfl ⟨by omega, by omega⟩ ⟨_, (List.mem_cons_of_mem _ (List.mem_cons_of_mem _ List.mem_cons_self)), hr_aI (ty := ty) (by omega) (by omega), (fun q h => nomatch h), ?_⟩ (gx_in hW hGn hKn) hS dX12_restore_95
              refine hr_mk (n := 32) [15, 16, 17, 29] hp0 hsame (by decide +kernel) (fun j hj av hav => ?_)
              rcases List.mem_cons.mp hj with rfl | hj
              · have hav : some (.inl (0, 0, []) : ck_AV) = some av := hav
                cases hav
                exact hr_aI (by omega) (by omega)
              rcases List.mem_cons.mp hj with rfl | hj
              · have hav : some (.inl (0, 1, []) : ck_AV) = some av := hav
                cases hav
                exact hr_aI (by omega) (by omega)
              rcases List.mem_cons.mp hj with rfl | hj
              · have hav : some (.inl (1, 1, []) : ck_AV) = some av := hav
                cases hav
                exact hr_aI (by omega) (by omega)
              obtain rfl := List.mem_singleton.mp hj
              have hav : some (.inl (1, 1, [(2058, 0, 0)]) : ck_AV) = some av := hav
              cases hav
              exact hr_vd (q := 29) (by omega) (by omega) (by omega) (by omega)
            · refine cm_zret B hb rfl ⟨by omega, by omega⟩ ⟨_, (List.mem_cons_of_mem _ (List.mem_cons_of_mem _ (List.mem_cons_of_mem _ List.mem_cons_self))), hr_aI (ty := ty) (by omega) (by omega), (fun q h => nomatch h), ?_⟩ (gx_in hW hGn hKn) hS dX12_restore_95
              refine hr_mk (n := 32) [15, 16, 17, 29] hp0 hsame (by decide +kernel) (fun j hj av hav => ?_)
              rcases List.mem_cons.mp hj with rfl | hj
              · have hav : some (.inl (0, 0, []) : ck_AV) = some av := hav
                cases hav
                exact hr_aI (by omega) (by omega)
              rcases List.mem_cons.mp hj with rfl | hj
              · have hav : some (.inl (0, 2, []) : ck_AV) = some av := hav
                cases hav
                exact hr_aI (by omega) (by omega)
              rcases List.mem_cons.mp hj with rfl | hj
              · have hav : some (.inl (2, 2, []) : ck_AV) = some av := hav
                cases hav
                exact hr_aI (by omega) (by omega)
              obtain rfl := List.mem_singleton.mp hj
              have hav : some (.inl (1, 1, [(2058, 0, 0)]) : ck_AV) = some av := hav
              cases hav
              exact hr_vd (q := 29) (by omega) (by omega) (by omega) (by omega)
            · refine cm_zret B hb rfl ⟨by omega, by omega⟩ ⟨_, (List.mem_cons_of_mem _ (List.mem_cons_of_mem _ (List.mem_cons_of_mem _ (List.mem_cons_of_mem _ List.mem_cons_self)))), hr_aI (ty := ty) (by omega) (by omega), (fun q h => nomatch h), ?_⟩ (gx_in hW hGn hKn) hS dX12_restore_95
              refine hr_mk (n := 32) [15, 16, 17, 29] hp0 hsame (by decide +kernel) (fun j hj av hav => ?_)
              rcases List.mem_cons.mp hj with rfl | hj
              · have hav : some (.inl (0, 0, []) : ck_AV) = some av := hav
                cases hav
                exact hr_aI (by omega) (by omega)
              rcases List.mem_cons.mp hj with rfl | hj
              · have hav : some (.inl (0, 3, []) : ck_AV) = some av := hav
                cases hav
                exact hr_aI (by omega) (by omega)
              rcases List.mem_cons.mp hj with rfl | hj
              · have hav : some (.inl (3, 3, []) : ck_AV) = some av := hav
                cases hav
                exact hr_aI (by omega) (by omega)
              obtain rfl := List.mem_singleton.mp hj
              have hav : some (.inl (1, 1, [(2058, 0, 0)]) : ck_AV) = some av := hav
              cases hav
              exact hr_vd (q := 29) (by omega) (by omega) (by omega) (by omega)
            · refine cm_zret B hb rfl ⟨by omega, by omega⟩ ⟨_, (List.mem_cons_of_mem _ (List.mem_cons_of_mem _ (List.mem_cons_of_mem _ (List.mem_cons_of_mem _ (List.mem_cons_of_mem _ List.mem_cons_self))))), hr_aI (ty := ty) (by omega) (by omega), (fun q h => nomatch h), ?_⟩ (gx_in hW hGn hKn) hS dX12_restore_95
              refine hr_mk (n := 32) [15, 16, 17, 29] hp0 hsame (by decide +kernel) (fun j hj av hav => ?_)
              rcases List.mem_cons.mp hj with rfl | hj
              · have hav : some (.inl (0, 0, []) : ck_AV) = some av := hav
                cases hav
                exact hr_aI (by omega) (by omega)
              rcases List.mem_cons.mp hj with rfl | hj
              · have hav : some (.inl (0, 4, []) : ck_AV) = some av := hav
                cases hav
                exact hr_aI (by omega) (by omega)
              rcases List.mem_cons.mp hj with rfl | hj
              · have hav : some (.inl (4, 4, []) : ck_AV) = some av := hav
                cases hav
                exact hr_aI (by omega) (by omega)
              obtain rfl := List.mem_singleton.mp hj
              have hav : some (.inl (1, 1, [(2058, 0, 0)]) : ck_AV) = some av := hav
              cases hav
              exact hr_vd (q := 29) (by omega) (by omega) (by omega) (by omega)
            · refine cm_zret B hb rfl ⟨by omega, by omega⟩ ⟨_, (List.mem_cons_of_mem _ (List.mem_cons_of_mem _ (List.mem_cons_of_mem _ (List.mem_cons_of_mem _ (List.mem_cons_of_mem _ (List.mem_cons_of_mem _ List.mem_cons_self)))))), hr_aI (ty := ty) (by omega) (by omega), (fun q h => nomatch h), ?_⟩ (gx_in hW hGn hKn) hS dX12_restore_95
              refine hr_mk (n := 32) [15, 16, 17, 29] hp0 hsame (by decide +kernel) (fun j hj av hav => ?_)
              rcases List.mem_cons.mp hj with rfl | hj
              · have hav : some (.inl (0, 0, []) : ck_AV) = some av := hav
                cases hav
                exact hr_aI (by omega) (by omega)
              rcases List.mem_cons.mp hj with rfl | hj
              · have hav : some (.inl (0, 5, []) : ck_AV) = some av := hav
                cases hav
                exact hr_aI (by omega) (by omega)
              rcases List.mem_cons.mp hj with rfl | hj
              · have hav : some (.inl (5, 5, []) : ck_AV) = some av := hav
                cases hav
                exact hr_aI (by omega) (by omega)
              obtain rfl := List.mem_singleton.mp hj
              have hav : some (.inl (1, 1, [(2058, 0, 0)]) : ck_AV) = some av := hav
              cases hav
              exact hr_vd (q := 29) (by omega) (by omega) (by omega) (by omega)
            · refine cm_zret B hb rfl ⟨by omega, by omega⟩ ⟨_, (List.mem_cons_of_mem _ (List.mem_cons_of_mem _ (List.mem_cons_of_mem _ (List.mem_cons_of_mem _ (List.mem_cons_of_mem _ (List.mem_cons_of_mem _ (List.mem_cons_of_mem _ List.mem_cons_self))))))), hr_aI (ty := ty) (by omega) (by omega), (fun q h => nomatch h), ?_⟩ (gx_in hW hGn hKn) hS dX12_restore_95
              refine hr_mk (n := 32) [15, 16, 17, 29] hp0 hsame (by decide +kernel) (fun j hj av hav => ?_)
              rcases List.mem_cons.mp hj with rfl | hj
              · have hav : some (.inl (0, 0, []) : ck_AV) = some av := hav
                cases hav
                exact hr_aI (by omega) (by omega)
              rcases List.mem_cons.mp hj with rfl | hj
              · have hav : some (.inl (0, 6, []) : ck_AV) = some av := hav
                cases hav
                exact hr_aI (by omega) (by omega)
              rcases List.mem_cons.mp hj with rfl | hj
              · have hav : some (.inl (6, 6, []) : ck_AV) = some av := hav
                cases hav
                exact hr_aI (by omega) (by omega)
              obtain rfl := List.mem_singleton.mp hj
              have hav : some (.inl (1, 1, [(2058, 0, 0)]) : ck_AV) = some av := hav
              cases hav
              exact hr_vd (q := 29) (by omega) (by omega) (by omega) (by omega)
          · refine lv_aload_n hx hb dX12_restore_66 rfl (lv_at hl 1 rfl) ?_
            refine hr_getR B hF hb hW (ci := 12) (j := 9) (cd := 3) t0 rfl (isF (by decide +kernel)) rfl dX12_restore_67 (fun az67 tz67 xz67 => ?_)
            refine lv_iload_n hx hb dX12_restore_70 rfl (lv_at hl 0 rfl) ?_
            refine lv_aload_n hx hb dX12_restore_71 rfl (lv_at hl 1 rfl) ?_
            refine hr_getR B hF hb hW (ci := 12) (j := 52) (cd := 3) t0 rfl (isF (by decide +kernel)) rfl dX12_restore_72 (fun az72 tz72 xz72 => ?_)
            refine hr_bp hx hb dX12_restore_75 (by decide) (by decide) (fun z75 hz75 => ?_)
            refine lv_iload_n hx hb dX12_restore_77 rfl (lv_at hl 2 rfl) ?_
            refine hr_mulL hx hb dX12_restore_78 hz75 (by omega) (by omega) (fun z78 hz78 => ?_)
            refine lv_iload_n hx hb dX12_restore_79 rfl (lv_at hl 0 rfl) ?_
            refine hr_add hx hb dX12_restore_80 (by omega) (by omega) (fun z80 hz80 => ?_)
            refine ck_lald B.1 hb B.2.2.2.2.2.2.2.1 hW tz72 rfl (by omega) (by omega) dX12_restore_81 (fun z81 => ?_)
            refine ck_last B.1 hb B.2.2.2.2.2.2.2.1 (prot := ck_protR) (tk_YR (C := C2)) hW hS (ck_nfa_ok (by decide)) tz67 rfl (by omega) (by omega) (fun j hj => absurd hj (pr_e rfl)) dX12_restore_82 (fun H locs hW hS => ?_)
            refine hr_inc hx hb dX12_restore_83 hl (kq := 0) (lv' := fun v => [(2, .int v), (0, .ref a0), (1, .int x1)]) rfl (by decide) (by decide) (by omega) (by omega) (fun _ => rfl) (fun z83 ls hz83 hl => ?_)
            refine lv_goto (tgt := 60) hx hb dX12_restore_86 (by decide) ?_
            exact ih60 z83 pvv C2 _ _ _ (by omega) (by omega) (by omega) hC hs hq h3 h140 hl hW hS
      have l27 : ∀ (n27 : Nat) (i : Int32) (pvv : Nat → Int32) (C2 : Nat → Nat → Int32) (ls : Array Slot) (H : Heap) (locs : List Loc), 367 - i.toInt < n27 → (0 ≤ i.toInt) → (i.toInt ≤ 367) → (∀ t j, t ≠ 34 → C2 t j = C t j) → (∀ j : Nat, (j : Int) < i.toInt → (j < 140 ∨ 186 ≤ j) → C2 34 j = C 45 (367 * x1.toInt.toNat + j)) → (∀ j, j ≠ 16 → j ≠ 17 → pvv j = pvv0 j) → (3 < i.toInt → (pvv 17).toInt = (C 45 (367 * x1.toInt.toNat + 3)).toInt) → (140 < i.toInt → (pvv 16).toInt = (C 45 (367 * x1.toInt.toNat + 140)).toInt) → lv_has ls 3 [(2, .int i), (0, .ref a0), (1, .int x1)] → ck_Wo D cys ty ck_tags ck_pvs0 (tk ty ck_protR C2) pvv H → va_S (ck_own ty) s.heap H locs → W p l e (ck_rm kh_12_restore_1) s m [Value.ref a0, Value.int x1].toArray below meth c H locs 0 0 (MQ below (ck_Qc D cys ty ck_tags ck_pvs0 (GX ty ck_protR gx_r K) kh_12_restore_1 [Value.ref a0, Value.int x1] pvv0) [Value.ref a0, Value.int x1].toArray s 0 0 (ck_own ty)) (F0 m 27 ls []) := by
        intro n27
        induction n27 with
        | zero => intro i pvv C2 ls H locs hm27 i1 i2 hC hs hq h3 h140 hl hW hS; omega
        | succ n27 ih27 =>
          intro i pvv C2 ls H locs hm27 i1 i2 hC hs hq h3 h140 hl hW hS
          refine lv_iload_n hx hb dX12_restore_27 rfl (lv_at hl 0 rfl) ?_
          refine hr_sp hx hb dX12_restore_28 (by decide) (by decide) (fun z28 hz28 => ?_)
          refine hr_ge (tgt := 58) hx hb dX12_restore_31 (by decide) (fun h31 => ?_) (fun h31 => ?_)
          · refine hr_ic hx hb dX12_restore_58 (by decide) (fun z58 hz58 => ?_)
            refine lv_istore_n hx hb dX12_restore_59 rfl hl (lv' := [(2, .int z58), (0, .ref a0), (1, .int x1)]) (by decide) rfl (fun ls hl => ?_)
            have hs : ∀ j : Nat, (j : Int) < (367 : Int) → (j < 140 ∨ 186 ≤ j) → C2 34 j = C 45 (367 * x1.toInt.toNat + j) := fun j h1 h2 => hs j (by omega) h2
            have h3 : 3 < (367 : Int) → (pvv 17).toInt = (C 45 (367 * x1.toInt.toNat + 3)).toInt := fun _ => h3 (by omega)
            have h140 : 140 < (367 : Int) → (pvv 16).toInt = (C 45 (367 * x1.toInt.toNat + 140)).toInt := fun _ => h140 (by omega)
            exact l60 21 z58 pvv C2 _ _ _ (by omega) (by omega) (by omega) hC hs hq h3 h140 hl hW hS
          · refine lv_aload_n hx hb dX12_restore_34 rfl (lv_at hl 1 rfl) ?_
            refine hr_getR B hF hb hW (ci := 12) (j := 6) (cd := 3) t0 rfl (isF (by decide +kernel)) rfl dX12_restore_35 (fun az35 tz35 xz35 => ?_)
            refine lv_iload_n hx hb dX12_restore_38 rfl (lv_at hl 0 rfl) ?_
            refine lv_aload_n hx hb dX12_restore_39 rfl (lv_at hl 1 rfl) ?_
            refine hr_getR B hF hb hW (ci := 12) (j := 51) (cd := 3) t0 rfl (isF (by decide +kernel)) rfl dX12_restore_40 (fun az40 tz40 xz40 => ?_)
            refine hr_sp hx hb dX12_restore_43 (by decide) (by decide) (fun z43 hz43 => ?_)
            refine lv_iload_n hx hb dX12_restore_46 rfl (lv_at hl 2 rfl) ?_
            refine hr_mulL hx hb dX12_restore_47 hz43 (by omega) (by omega) (fun z47 hz47 => ?_)
            refine lv_iload_n hx hb dX12_restore_48 rfl (lv_at hl 0 rfl) ?_
            refine hr_add hx hb dX12_restore_49 (by omega) (by omega) (fun z49 hz49 => ?_)
            refine hr_iald B hb hW tz40 rfl (by omega) (by omega) dX12_restore_50 (fun z50 iz50 pz50 xz50 => ?_)
            have e1 := sg_KS x1.toInt.toNat (by omega) i.toInt.toNat (by omega)
            rw [show 367 * x1.toInt.toNat + i.toInt.toNat = z49.toInt.toNat by omega] at e1
            refine hr_iastG (Ex' := tk ty ck_protR (tk_upd C2 34 (i.toInt.toNat) z50)) B hb hU hW hS tz35 rfl (by omega) (by omega) (by unfold ck_in; rw [← e1]; exact iz50) (tk_EA tz35 (fun a h => hun 34 (by decide) _ _ tz35 h)) dX12_restore_51 (fun H locs pvv' hW hS w1 w2 => ?_)
            obtain ⟨C51, c51⟩ : ∃ f, f = tk_upd C2 34 (i.toInt.toNat) z50 := ⟨_, rfl⟩
            rw [← c51] at hW
            refine hr_inc hx hb dX12_restore_52 hl (kq := 0) (lv' := fun v => [(2, .int v), (0, .ref a0), (1, .int x1)]) rfl (by decide) (by decide) (by omega) (by omega) (fun _ => rfl) (fun z52 ls hz52 hl => ?_)
            refine lv_goto (tgt := 27) hx hb dX12_restore_55 (by decide) ?_
            refine ih27 z52 pvv' C51 _ _ _ (by omega) (by omega) (by omega) (fun t j ht => ?_) (fun j h1 h2 => ?_) (fun j h1 h2 => ?_) (fun h1 => ?_) (fun h1 => ?_) hl hW hS
            · rw [c51, tk_unt ht]; exact hC t j ht
            · by_cases e9 : j = i.toInt.toNat
              · subst e9
                rw [c51, tk_us]
                have x9 : z50 = C2 45 z49.toInt.toNat := by
                  (have : x1.toInt.toNat = 0 ∨ x1.toInt.toNat = 1 := by omega)
                  rcases h2 with h2 | h2
                  · exact tk_xa xz50 (fun _ h => h) (pq := ck_protR) tz40 ⟨(367 * x1.toInt.toNat, 367 * x1.toInt.toNat + 139), by rcases this with h | h <;> rw [h] <;> decide, by dsimp only; omega, by dsimp only; omega⟩
                  · exact tk_xa xz50 (fun _ h => h) (pq := ck_protR) tz40 ⟨(367 * x1.toInt.toNat + 186, 367 * x1.toInt.toNat + 366), by rcases this with h | h <;> rw [h] <;> decide, by dsimp only; omega, by dsimp only; omega⟩
                rw [x9, hC _ _ (by decide), show z49.toInt.toNat = 367 * x1.toInt.toNat + i.toInt.toNat by omega]
              · rw [c51, tk_unj e9]; exact hs j (by omega) h2
            · refine (w2 j (fun h9 => ?_)).trans (hq j h1 h2)
              rcases pv_o2 (a := 16) (b := 140) (a' := 17) (b' := 3) (by decide +kernel) h9 with h | h <;> omega
            · by_cases e9 : i.toInt = 3
              · rw [w1 17 (by rw [e9]; rfl)]
                (have : x1.toInt.toNat = 0 ∨ x1.toInt.toNat = 1 := by omega)
                have x9 := tk_xa xz50 (fun _ h => h) (pq := ck_protR) tz40 ⟨(367 * x1.toInt.toNat, 367 * x1.toInt.toNat + 139), by rcases this with h | h <;> rw [h] <;> decide, by dsimp only; omega, by dsimp only; omega⟩
                rw [x9, hC _ _ (by decide), show z49.toInt.toNat = 367 * x1.toInt.toNat + 3 by omega]
              · rw [w2 17 (fun h9 => by rcases pv_o2 (a := 16) (b := 140) (a' := 17) (b' := 3) (by decide +kernel) h9 with h | h <;> omega)]; exact h3 (by omega)
            · by_cases e9 : i.toInt = 140
              · rw [w1 16 (by rw [e9]; rfl)]
                (have : x1.toInt.toNat = 0 ∨ x1.toInt.toNat = 1 := by omega)
                have x9 := tk_xa xz50 (fun _ h => h) (pq := ck_protR) tz40 ⟨(367 * x1.toInt.toNat + 140, 367 * x1.toInt.toNat + 140), by rcases this with h | h <;> rw [h] <;> decide, by dsimp only; omega, by dsimp only; omega⟩
                rw [x9, hC _ _ (by decide), show z49.toInt.toNat = 367 * x1.toInt.toNat + 140 by omega]
              · rw [w2 16 (fun h9 => by rcases pv_o2 (a := 16) (b := 140) (a' := 17) (b' := 3) (by decide +kernel) h9 with h | h <;> omega)]; exact h140 (by omega)
      refine hr_ic hx hb dX12_restore_25 (by decide) (fun z25 hz25 => ?_)
      refine lv_istore_n hx hb dX12_restore_26 rfl hl (lv' := [(2, .int z25), (0, .ref a0), (1, .int x1)]) (by decide) rfl (fun ls hl => ?_)
      exact l27 368 z25 pvv0 C _ _ _ (by omega) (by omega) (by omega) (fun _ _ _ => rfl) (fun j h1 _ => absurd h1 (by omega)) (fun _ _ _ => rfl) (fun h => absurd h (by omega)) (fun h => absurd h (by omega)) hl hW hS
    · refine hr_ic hx hb dX12_restore_23 (by decide) (fun z23 hz23 => ?_)
      have hk9 : pvv0 29 = z19 := (pz19 29 (by rw [show x1.toInt.toNat = 1 by omega]; rfl)).symm
      have hk8 := congrArg Int32.toInt hk9
      exact cm_zret B hb rfl ⟨by omega, by omega⟩ ⟨_, List.mem_cons_self, hr_aI (ty := ty) (by omega) (by omega), (fun q h => nomatch h), hr_set1 (P := pU) (f := pvv0) (g := pvv0) (j := 29) (hr_wk (hr_self hp0) (by decide +kernel)) (hr_vd (q := 29) (by omega) (by omega) (by omega) (by omega)) (fun _ _ => rfl)⟩ (gx_in hW hG0 hK0) hS dX12_restore_24
end H28

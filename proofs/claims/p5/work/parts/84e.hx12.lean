/-! BOTH CONTRACTS INSIDE A METHOD, 3: the reference's book. -/
section HX12
variable {l : Launch} {D : va_G} {cys : Nat → ClassId} {ty : Nat → Option Nat}
theorem mS_12_sign (hU : ev_uq ty ev_TR) {C : ev_C} {x1 r : Int} {C' : ev_C} (h : f_12_sign C x1 = some (r, C')) : ev_Met l D cys ty ck_tags ev_TR kc_240 [.inr (.inl 12), .inl x1] C (fun r0 C0 => r0 = some (.inl r) ∧ C0 = C') :=
  evm_c (k := kc_237) ((rfl : k_y kc_237 = yX12_sign).trans (rfl : yX12_sign = k_y kc_240)) ((rfl : ck_ws kc_237 = (Jvm.Cond.code yX12_sign cX12_sign 2 (some .boolean) :: wsL_law0)).trans (rfl : (Jvm.Cond.code yX12_sign cX12_sign 2 (some .boolean) :: wsL_law0) = ck_ws kc_240)) ((rfl : ck_rm kc_237 = ({ frames := 3, cells := 0, slots := 0, locals := 55 } : Room)).trans (rfl : ({ frames := 3, cells := 0, slots := 0, locals := 55 } : Room) = ck_rm kc_240)) (m_12_sign hU h)
set_option maxRecDepth 100000 in
set_option maxHeartbeats 4000000 in
theorem hx_12_book (hF : ck_LKf ck_LK) (hM : ck_LKm ck_tags ck_LK ck_tab) (hU : ck_uq ty ck_pvs0) (hun : ck_un ty) (hC : ck_LKc ck_LK) (hMh : ∀ q ∈ ck_hl, ck_mOK ck_tags q.1 q.2.1 q.2.2.1 q.2.2.2) (hH1 : ∀ Ex', ck_ExP ty ck_prot1 Ex' → ∀ j, j < 331 → ck_Holds l D cys ty ck_tags ck_pvs0 Ex' (ck_tab j)) (hH : ∀ j, j < 337 → ck_Holds l D cys ty ck_tags ck_pvs0 (GE ty) (ck_tab j)) {a0 : Nat} {x1 : Int32} {pvv0 : Nat → Int32} {M0 T0 G9 Z9 : ev_C} {r9 v9 : Int} (t0 : ty a0 = some 12) (hp : ck_pvo ty (ck_XE pvv0) pPM pvv0) (hX1 : 0 ≤ x1.toInt ∧ x1.toInt ≤ 1) (k1 : f_12_taken (ev_u M0 12 0 0) 400 = some T0) (k2 : f_12_go (ev_u (ev_u T0 12 15 0) 12 41 0) = some G9) (k3 : x_L12 1000 G9 = some (r9, Z9)) (k4 : Z9 12 15 = v9) : hr_Met l D cys ty ck_tags ck_pvs0 (fun ws => GE ty ws ∧ ev_T ty cys ck_tags ev_TR M0 ws) (ck_tab 337) [.ref a0, .int x1] pvv0 (fun r pvv' E' => (∃ z : Int32, r = some (.int z)) ∧ E' = GE ty ∧ (pvv' 31).toInt = v9) := by
  refine hr_enter (by decide +kernel) (by decide +kernel) (by decide +kernel) ⟨hr_aR t0, hr_aF, True.intro⟩ ?_
  intro p e s m below meth c ls B hl hW
  have hx := B.1
  have hb : c.code = cX12_book := B.2.1
  have hI := pv_inj
  have hS : va_S (ck_own ty) s.heap s.heap [] := va_S.rf
  have hUx := ev_uqT hun
  have hMv := hx_ev hW
  have hW := hr_mono (fun _ h => h.1) hW
  obtain ⟨C, hG, hW⟩ := ge_out hW
  have hl : lv_has ls 5 [(0, .ref a0), (1, .int x1)] := hl
  have hp0 := hp
  have hG0 := hG
  obtain ⟨G5, G1, G2, G3, G4⟩ := hG
  obtain ⟨bs, ts⟩ := hr_fld hW t0 rfl (j := 6) (t' := 34) rfl
  obtain ⟨x01, hx01⟩ : ∃ b : Prop, b = (0 ≤ x1.toInt ∧ x1.toInt ≤ 1) := ⟨_, rfl⟩
  have l272 : ∀ (n272 : Nat) (wr : Int32) (pvv : Nat → Int32) (ls : Array Slot) (H : Heap) (locs : List Loc), (0 : Int) < n272 → (0 ≤ x1.toInt ∧ x1.toInt ≤ 1) → (∀ j, j < 32 → j ∉ [11, 12, 13, 14, 24, 15, 16, 18, 31] → pvv j = pvv0 j) → ((pvv 11).toInt = 0) → ((pvv 31).toInt = v9) → ((pvv 18).toInt ≤ (pvv0 17).toInt) → (ck_pvo ty (ck_XE pvv) pPM pvv) → lv_has ls 5 [(3, .int wr), (1, .int x1), (0, .ref a0)] → ck_Wo D cys ty ck_tags ck_pvs0 (GE ty) pvv H → va_S (ck_own ty) s.heap H locs → W p l e (ck_rm (ck_tab 337)) s m [Value.ref a0, Value.int x1].toArray below meth c H locs 0 0 (MQ below (hr_Q D cys ty ck_tags ck_pvs0 (fun r pvv' E' => (∃ z : Int32, r = some (.int z)) ∧ E' = GE ty ∧ (pvv' 31).toInt = v9)) [Value.ref a0, Value.int x1].toArray s 0 0 (ck_own ty)) (F0 m 272 ls []) := by
    intro n272
    induction n272 with
    | zero => intro wr pvv ls H locs hm272 hX1 sm len hv hb18 hp hl hW hS; omega
    | succ n272 ih272 =>
      intro wr pvv ls H locs hm272 hX1 sm len hv hb18 hp hl hW hS
      refine lv_iload_n hx hb dX12_book_272 rfl (lv_at hl 1 rfl) ?_
      refine hr_ne0 (tgt := 280) hx hb dX12_book_273 (by decide) (fun h273 => ?_) (fun h273 => ?_)
      · refine lv_iload_n hx hb dX12_book_280 rfl (lv_at hl 0 rfl) ?_
        exact hr_iret B hb rfl ⟨⟨_, rfl⟩, rfl, hv⟩ hW hS dX12_book_281
      · refine lv_aload_n hx hb dX12_book_276 rfl (lv_at hl 2 rfl) ?_
        refine cm_callV (kc := kc_204) B rfl hb hl (hM.1 _ _ 0 [204] (isM (by decide +kernel)) 204 (by decide)) (hH 204 (by decide)) (b := a0) (As := []) ⟨hr_aR t0, True.intro⟩ hp hW hS rfl (by decide) (by decide) (Nat.le_of_ble_eq_true rfl) dX12_book_277 (fun cs hcs r pvv277 H locs hca hW hS => ?_)
        obtain rfl := List.mem_singleton.mp hcs
        have rs := congrArg Int32.toInt (sm 17 (by decide) (by decide))
        have r18 := hr_pv hp 18 (lo := 0) (hi := 6) rfl
        have hp277 := hp
        obtain ⟨hr, hq, hc⟩ := hca
        obtain rfl := hr_rv0 hr
        have d16 := hr_pd hc 16 18 (lo := 0) (hi := 6) (a := 0) (b := 0) rfl (by decide)
        have d17 := congrArg Int32.toInt (hr_same1 hc (j := 17) (by decide +kernel))
        have r16 := hr_pv hc 16 (lo := 0) (hi := 6) rfl
        have r17 := hr_pv hp 17 (lo := 0) (hi := 6) rfl
        have hp : ck_pvo ty (ck_XE pvv277) pPM pvv277 := hr_bk hp277 hc (by omega) (by omega) (by omega) (by omega)
        have sm : ∀ j, j < 32 → j ∉ [11, 12, 13, 14, 24, 15, 16, 18, 31] → pvv277 j = pvv0 j := fun j h1 h2 => (hr_sameX (l := [11, 12, 13, 14, 24, 15, 16, 18, 31]) hc (by decide +kernel) j h1 h2).trans (sm j h1 h2)
        have len : (pvv277 11).toInt = 0 := by rw [hr_same1 hc (j := 11) (by decide +kernel)]; exact len
        have hv : (pvv277 31).toInt = v9 := by rw [hr_same1 hc (j := 31) (by decide +kernel)]; exact hv
        refine lv_iload_n hx hb dX12_book_280 rfl (lv_at hl 0 rfl) ?_
        exact hr_iret B hb rfl ⟨⟨_, rfl⟩, rfl, hv⟩ hW hS dX12_book_281
  have lu : ∀ (pvv : Nat → Int32) (C3 : Nat → Nat → Int32) (wr z0 : Int32) (ls : Array Slot) (H : Heap) (locs : List Loc), z0.toInt = 0 → (0 ≤ x1.toInt ∧ x1.toInt ≤ 1) → ck_pvo ty (ck_XE pvv) pPM pvv → (∀ j, j < 32 → j ∉ [11, 12, 13, 14, 24, 15, 16, 18, 31] → pvv j = pvv0 j) → (pvv 11).toInt = 0 → ((pvv 31).toInt = v9) → ((pvv 18).toInt ≤ (pvv0 17).toInt) → 1 ≤ (pvv 15).toInt → gC C3 → lv_has ls 5 [(4, .int z0), (3, .int wr), (1, .int x1), (0, .ref a0)] → ck_Wo D cys ty ck_tags ck_pvs0 (tk ty ck_prot1 C3) pvv H → va_S (ck_own ty) s.heap H locs → W p l e (ck_rm (ck_tab 337)) s m [Value.ref a0, Value.int x1].toArray below meth c H locs 0 0 (MQ below (hr_Q D cys ty ck_tags ck_pvs0 (fun r pvv' E' => (∃ z : Int32, r = some (.int z)) ∧ E' = GE ty ∧ (pvv' 31).toInt = v9)) [Value.ref a0, Value.int x1].toArray s 0 0 (ck_own ty)) (F0 m 235 ls []) := by
    intro pvv C3 wr z0 ls0 H0 locs0 hz0 hX1 hp sm len hv hb18 um1 hG3 hl0 hW0 hS0
    obtain ⟨G5, G1, G2, G3, G4⟩ := id hG3
    have k17 := congrArg Int32.toInt (hr_lnk hW0 (pq := ck_prot1) (fun _ h => h) ts (q := 17) (k := 3) rfl (by decide))
    have k15 := congrArg Int32.toInt (hr_lnk hW0 (pq := ck_prot1) (fun _ h => h) t0 (q := 15) (k := 22) rfl (by decide))
    have rs := congrArg Int32.toInt (sm 17 (by decide) (by decide))
    have r15 := hr_pv hp 15 (lo := 0) (hi := 8) rfl
    have r18 := hr_pv hp 18 (lo := 0) (hi := 6) rfl
    have l235 : ∀ (n235 : Nat) (i : Int32) (C2 : Nat → Nat → Int32) (ls : Array Slot) (H : Heap) (locs : List Loc), 46 - i.toInt < n235 → (0 ≤ i.toInt) → (i.toInt ≤ 46) → (∀ t j, t ≠ 37 → C2 t j = C3 t j) → (∀ j : Nat, (j : Int) < (pvv 15).toInt → (C2 37 (46 * j)).toInt ≤ (C3 34 3).toInt) → lv_has ls 5 [(4, .int i), (3, .int wr), (1, .int x1), (0, .ref a0)] → ck_Wo D cys ty ck_tags ck_pvs0 (tk ty ck_prot1 C2) pvv H → va_S (ck_own ty) s.heap H locs → W p l e (ck_rm (ck_tab 337)) s m [Value.ref a0, Value.int x1].toArray below meth c H locs 0 0 (MQ below (hr_Q D cys ty ck_tags ck_pvs0 (fun r pvv' E' => (∃ z : Int32, r = some (.int z)) ∧ E' = GE ty ∧ (pvv' 31).toInt = v9)) [Value.ref a0, Value.int x1].toArray s 0 0 (ck_own ty)) (F0 m 235 ls []) := by
      intro n235
      induction n235 with
      | zero => intro i C2 ls H locs hm235 i1 i2 hT hu hl hW hS; omega
      | succ n235 ih235 =>
        intro i C2 ls H locs hm235 i1 i2 hT hu hl hW hS
        refine lv_iload hx hb dX12_book_235 (lv_at hl 0 rfl) ?_
        refine hr_bp hx hb dX12_book_237 (by decide) (by decide) (fun z237 hz237 => ?_)
        refine hr_ge (tgt := 272) hx hb dX12_book_239 (by decide) (fun h239 => ?_) (fun h239 => ?_)
        · have hGn : gC C2 := by
            refine ⟨g5_of G5 (fun j => hT 15 j (by decide)) (fun j => hT 49 j (by decide)) (fun j => hT 16 j (by decide)) (fun j => hT 50 j (by decide)) (fun t j ht => hT t j (g6_ne ht (by decide))) (fun j _ => hT 34 j (by decide)), fun k hk => ?_, fun j hj => ?_, fun k hk hk2 => ?_, ?_⟩
            · rw [hT 0 0 (by decide)] at hk
              rw [hT 29 k (by decide), hT 30 k (by decide), hT 31 k (by decide)]
              exact G1 k hk
            · rw [hT 12 22 (by decide)] at hj
              rw [hT 34 3 (by decide)]
              exact hu j (by omega)
            · rw [hT 46 k (by decide)] at hk2
              rw [hT 45 _ (by decide), hT 45 _ (by decide)]
              refine ⟨(G3 k hk hk2).1, ?_⟩
              have e9 : (fun i => C2 45 (367 * k + 186 + i)) = (fun i => C3 45 (367 * k + 186 + i)) := funext (fun i => hT 45 _ (by decide))
              rw [e9]; exact (G3 k hk hk2).2
            · have e9 : (fun i => C2 34 (186 + i)) = (fun i => C3 34 (186 + i)) := funext (fun i => hT 34 _ (by decide))
              unfold g4C; rw [e9]; exact G4
          have hW := ge_in hW hGn
          exact l272 1 wr pvv _ _ _ (by decide) hX1 sm len hv hb18 hp (lv_sub hl [1, 2, 3] rfl) hW hS
        · refine lv_aload_n hx hb dX12_book_242 rfl (lv_at hl 3 rfl) ?_
          refine hr_getR B hF hb hW (ci := 12) (j := 20) (cd := 3) t0 rfl (isF (by decide +kernel)) rfl dX12_book_243 (fun az243 tz243 xz243 => ?_)
          refine hr_bp hx hb dX12_book_246 (by decide) (by decide) (fun z246 hz246 => ?_)
          refine lv_aload_n hx hb dX12_book_248 rfl (lv_at hl 3 rfl) ?_
          refine hr_getI B hF hb hW (ci := 12) (j := 22) (cd := 0) t0 rfl (isF (by decide +kernel)) rfl dX12_book_249 (fun z249 lz249 uz249 pz249 xz249 => ?_)
          have pz249 := congrArg Int32.toInt (pz249 15 rfl)
          have xz249 := tk_xo xz249 (fun _ h => h) (pq := ck_prot1) (C := C2) t0 (by decide); have kz249 := congrArg Int32.toInt xz249
          refine hr_ic hx hb dX12_book_252 (by decide) (fun z252 hz252 => ?_)
          refine hr_sub hx hb dX12_book_253 (by omega) (by omega) (fun z253 hz253 => ?_)
          refine hr_mulL hx hb dX12_book_254 hz246 (by omega) (by omega) (fun z254 hz254 => ?_)
          refine lv_iload hx hb dX12_book_255 (lv_at hl 0 rfl) ?_
          refine hr_add hx hb dX12_book_257 (by omega) (by omega) (fun z257 hz257 => ?_)
          refine lv_aload_n hx hb dX12_book_258 rfl (lv_at hl 3 rfl) ?_
          refine hr_getR B hF hb hW (ci := 12) (j := 21) (cd := 3) t0 rfl (isF (by decide +kernel)) rfl dX12_book_259 (fun az259 tz259 xz259 => ?_)
          refine lv_iload hx hb dX12_book_262 (lv_at hl 0 rfl) ?_
          refine hr_iald B hb hW tz259 rfl (by omega) (by omega) dX12_book_264 (fun z264 iz264 pz264 xz264 => ?_)
          have e1 := sg_US z253.toInt.toNat (by omega) i.toInt.toNat (by omega)
          have e2 := sg_BS i.toInt.toNat (by omega)
          rw [show 46 * z253.toInt.toNat + i.toInt.toNat = z257.toInt.toNat by omega] at e1
          refine hr_iastN (Ex' := tk ty ck_prot1 (tk_upd C2 37 (z257.toInt.toNat) z264)) B hb hU hW hS tz243 rfl (by omega) (by omega) (by unfold ck_in; rw [e1, ← e2]; exact iz264) (tk_EA tz243 (fun a h => hun 37 (by decide) _ _ tz243 h)) (u := 0) (v := 367) (by omega) (by omega) (by decide +kernel) dX12_book_265 (fun H locs hW hS => ?_)
          obtain ⟨C265, c265⟩ : ∃ f, f = tk_upd C2 37 (z257.toInt.toNat) z264 := ⟨_, rfl⟩
          rw [← c265] at hW
          refine hr_inc hx hb dX12_book_266 hl (kq := 0) (lv' := fun v => [(4, .int v), (3, .int wr), (1, .int x1), (0, .ref a0)]) rfl (by decide) (by decide) (by omega) (by omega) (fun _ => rfl) (fun z266 ls hz266 hl => ?_)
          refine lv_goto (tgt := 235) hx hb dX12_book_269 (by decide) ?_
          refine ih235 z266 C265 _ _ _ (by omega) (by omega) (by omega) (fun t j h => ?_) (fun j hj => ?_) (lv_sub hl [0, 1, 2, 3] rfl) hW hS
          · rw [c265, tk_unt h]; exact hT t j h
          · by_cases e9 : 46 * j = z257.toInt.toNat
            · rw [e9, c265, tk_us]
              have i0 : i.toInt = 0 := by omega
              have := congrArg Int32.toInt (pz264 18 (by rw [i0]; rfl))
              omega
            · rw [c265, tk_unj e9]; exact hu j hj
    exact l235 47 z0 C3 _ _ _ (by omega) (by omega) (by omega) (fun _ _ _ => rfl) (fun j hj => G2 j (by omega)) hl0 hW0 hS0
  have l121 : ∀ (n121 : Nat) (i : Int32) (wr : Int32) (had : Int32) (pvv : Nat → Int32) (C2 : Nat → Nat → Int32) (ls : Array Slot) (H : Heap) (locs : List Loc), (C2 12 41).toInt - i.toInt < n121 → (0 ≤ i.toInt) → (0 ≤ x1.toInt ∧ x1.toInt ≤ 1) → (∀ j, j < 32 → j ∉ [11, 12, 13, 14, 24, 15, 16, 18, 31] → pvv j = pvv0 j) → ((pvv 11).toInt = 0) → ((pvv 31).toInt = v9) → ((pvv 18).toInt ≤ (pvv0 17).toInt) → (∀ t j, t ≠ 36 → ¬ (t = 12 ∧ j = 41) → C2 t j = C t j) → (∀ i : Nat, (i : Int) < (C2 12 41).toInt → lineOK C2 i) → (0 ≤ (C2 12 41).toInt ∧ (C2 12 41).toInt ≤ 40) → (i.toInt ≤ (C2 12 41).toInt) → (ck_pvo ty (ck_XE pvv) pPM pvv) → lv_has ls 5 [(4, .int i), (3, .int wr), (2, .int had), (1, .int x1), (0, .ref a0)] → ck_Wo D cys ty ck_tags ck_pvs0 (tk ty ck_prot1 C2) pvv H → va_S (ck_own ty) s.heap H locs → W p l e (ck_rm (ck_tab 337)) s m [Value.ref a0, Value.int x1].toArray below meth c H locs 0 0 (MQ below (hr_Q D cys ty ck_tags ck_pvs0 (fun r pvv' E' => (∃ z : Int32, r = some (.int z)) ∧ E' = GE ty ∧ (pvv' 31).toInt = v9)) [Value.ref a0, Value.int x1].toArray s 0 0 (ck_own ty)) (F0 m 121 ls []) := by
    intro n121
    induction n121 with
    | zero => intro i wr had pvv C2 ls H locs hm121 i1 hX1 sm len hv hb18 hT hBL tl i2 hp hl hW hS; omega
    | succ n121 ih121 =>
      intro i wr had pvv C2 ls H locs hm121 i1 hX1 sm len hv hb18 hT hBL tl i2 hp hl hW hS
      refine lv_iload hx hb dX12_book_121 (lv_at hl 0 rfl) ?_
      refine lv_aload_n hx hb dX12_book_123 rfl (lv_at hl 4 rfl) ?_
      refine hr_getI B hF hb hW (ci := 12) (j := 41) (cd := 0) t0 rfl (isF (by decide +kernel)) rfl dX12_book_124 (fun z124 lz124 uz124 pz124 xz124 => ?_)
      have xz124 := tk_xo xz124 (fun _ h => h) (pq := ck_prot1) (C := C2) t0 (by decide); have kz124 := congrArg Int32.toInt xz124
      refine hr_ge (tgt := 179) hx hb dX12_book_127 (by decide) (fun h127 => ?_) (fun h127 => ?_)
      · refine lv_aload_n hx hb dX12_book_179 rfl (lv_at hl 4 rfl) ?_
        refine hr_getR B hF hb hW (ci := 12) (j := 42) (cd := 3) t0 rfl (isF (by decide +kernel)) rfl dX12_book_180 (fun az180 tz180 xz180 => ?_)
        refine hr_ic hx hb dX12_book_183 (by decide) (fun z183 hz183 => ?_)
        refine lv_aload_n hx hb dX12_book_184 rfl (lv_at hl 4 rfl) ?_
        refine hr_getR B hF hb hW (ci := 12) (j := 6) (cd := 3) t0 rfl (isF (by decide +kernel)) rfl dX12_book_185 (fun az185 tz185 xz185 => ?_)
        refine hr_sp hx hb dX12_book_188 (by decide) (by decide) (fun z188 hz188 => ?_)
        refine hr_iald B hb hW tz185 rfl (by omega) (by omega) dX12_book_191 (fun z191 iz191 pz191 xz191 => ?_)
        have iz191 := hr_inr iz191 (a := 140) (b := 140) (lo := 0) (hi := 6) (by omega) (by omega) (by decide +kernel)
        have pz191 := congrArg Int32.toInt (pz191 16 (by rw [show z188.toInt.toNat = 140 by omega]; rfl))
        refine hr_iastN B hb hU hW hS tz180 rfl (by omega) (by omega) ⟨ck_lo _, ck_hi _⟩ (hr_EA (i := z183) (tk_X1 (C := C2)) tz180 (u := 2) (v := 2) (by omega) (by omega) (by decide)) (u := 2) (v := 2) (by omega) (by omega) (by decide) dX12_book_192 (fun H locs hW hS => ?_)
        refine lv_aload_n hx hb dX12_book_193 rfl (lv_at hl 4 rfl) ?_
        refine hr_getR B hF hb hW (ci := 12) (j := 42) (cd := 3) t0 rfl (isF (by decide +kernel)) rfl dX12_book_194 (fun az194 tz194 xz194 => ?_)
        refine hr_ic hx hb dX12_book_197 (by decide) (fun z197 hz197 => ?_)
        refine lv_aload_n hx hb dX12_book_198 rfl (lv_at hl 4 rfl) ?_
        refine hr_getR B hF hb hW (ci := 12) (j := 6) (cd := 3) t0 rfl (isF (by decide +kernel)) rfl dX12_book_199 (fun az199 tz199 xz199 => ?_)
        refine hr_sp hx hb dX12_book_202 (by decide) (by decide) (fun z202 hz202 => ?_)
        refine hr_iald B hb hW tz199 rfl (by omega) (by omega) dX12_book_205 (fun z205 iz205 pz205 xz205 => ?_)
        refine lv_iload_n hx hb dX12_book_206 rfl (lv_at hl 2 rfl) ?_
        refine lv_isub hx hb dX12_book_207 (lv_topi (fun z207 hz207 => ?_))
        refine hr_iastN B hb hU hW hS tz194 rfl (by omega) (by omega) ⟨ck_lo _, ck_hi _⟩ (hr_EA (i := z197) (tk_X1 (C := C2)) tz194 (u := 3) (v := 3) (by omega) (by omega) (by decide)) (u := 3) (v := 3) (by omega) (by omega) (by decide) dX12_book_208 (fun H locs hW hS => ?_)
        refine lv_aload_n hx hb dX12_book_209 rfl (lv_at hl 4 rfl) ?_
        refine hr_ic hx hb dX12_book_210 (by decide) (fun z210 hz210 => ?_)
        refine hr_putN B hF hb hU hW hS (ci := 12) (j := 43) (cd := 1) t0 rfl (isF (by decide +kernel)) rfl (by omega) (by omega) (Or.inr ⟨rfl, by omega, by omega⟩) (hr_EO (tk_X1 (C := C2)) t0 (by decide)) (by decide) dX12_book_211 (fun H locs hW hS => ?_)
        refine lv_iload_n hx hb dX12_book_214 rfl (lv_at hl 3 rfl) ?_
        refine hr_ic hx hb dX12_book_215 (by decide) (fun z215 hz215 => ?_)
        refine hr_ne (tgt := 272) hx hb dX12_book_216 (by decide) (fun h216 => ?_) (fun h216 => ?_)
        · have hGn : gC C2 := by
            refine ⟨g5_of G5 (fun j => hT 15 j (by decide) (by simp)) (fun j => hT 49 j (by decide) (by simp)) (fun j => hT 16 j (by decide) (by simp)) (fun j => hT 50 j (by decide) (by simp)) (fun t j ht => hT t j (g6_ne ht (by decide)) (fun q => g6_ne ht (n := 12) (by decide) q.1)) (fun j _ => hT 34 j (by decide) (by simp)), fun k hk => ?_, fun j hj => ?_, fun k hk hk2 => ?_, ?_⟩
            · rw [hT 0 0 (by decide) (by decide)] at hk
              rw [hT 29 k (by decide) (by simp), hT 30 k (by decide) (by simp), hT 31 k (by decide) (by simp)]
              exact G1 k hk
            · rw [hT 12 22 (by decide) (by decide)] at hj
              rw [hT 37 _ (by decide) (by simp), hT 34 _ (by decide) (by simp)]
              exact G2 j hj
            · rw [hT 46 k (by decide) (by simp)] at hk2
              rw [hT 45 _ (by decide) (by simp), hT 45 _ (by decide) (by simp)]
              refine ⟨(G3 k hk hk2).1, ?_⟩
              have e9 : (fun i => C2 45 (367 * k + 186 + i)) = (fun i => C 45 (367 * k + 186 + i)) := funext (fun i => hT 45 _ (by decide) (by simp))
              rw [e9]; exact (G3 k hk hk2).2
            · have e9 : (fun i => C2 34 (186 + i)) = (fun i => C 34 (186 + i)) := funext (fun i => hT 34 _ (by decide) (by simp))
              unfold g4C; rw [e9]; exact G4
          have hW := ge_in hW hGn
          exact l272 1 wr pvv _ _ _ (by decide) hX1 sm len hv hb18 hp (lv_sub hl [1, 3, 4] rfl) hW hS
        · refine lv_aload_n hx hb dX12_book_219 rfl (lv_at hl 4 rfl) ?_
          refine hr_getR B hF hb hW (ci := 12) (j := 42) (cd := 3) t0 rfl (isF (by decide +kernel)) rfl dX12_book_220 (fun az220 tz220 xz220 => ?_)
          refine hr_ic hx hb dX12_book_223 (by decide) (fun z223 hz223 => ?_)
          refine hr_iald B hb hW tz220 rfl (by omega) (by omega) dX12_book_224 (fun z224 iz224 pz224 xz224 => ?_)
          refine hr_le0 (tgt := 272) hx hb dX12_book_225 (by decide) (fun h225 => ?_) (fun h225 => ?_)
          · have hGn : gC C2 := by
              refine ⟨g5_of G5 (fun j => hT 15 j (by decide) (by simp)) (fun j => hT 49 j (by decide) (by simp)) (fun j => hT 16 j (by decide) (by simp)) (fun j => hT 50 j (by decide) (by simp)) (fun t j ht => hT t j (g6_ne ht (by decide)) (fun q => g6_ne ht (n := 12) (by decide) q.1)) (fun j _ => hT 34 j (by decide) (by simp)), fun k hk => ?_, fun j hj => ?_, fun k hk hk2 => ?_, ?_⟩
              · rw [hT 0 0 (by decide) (by decide)] at hk
                rw [hT 29 k (by decide) (by simp), hT 30 k (by decide) (by simp), hT 31 k (by decide) (by simp)]
                exact G1 k hk
              · rw [hT 12 22 (by decide) (by decide)] at hj
                rw [hT 37 _ (by decide) (by simp), hT 34 _ (by decide) (by simp)]
                exact G2 j hj
              · rw [hT 46 k (by decide) (by simp)] at hk2
                rw [hT 45 _ (by decide) (by simp), hT 45 _ (by decide) (by simp)]
                refine ⟨(G3 k hk hk2).1, ?_⟩
                have e9 : (fun i => C2 45 (367 * k + 186 + i)) = (fun i => C 45 (367 * k + 186 + i)) := funext (fun i => hT 45 _ (by decide) (by simp))
                rw [e9]; exact (G3 k hk hk2).2
              · have e9 : (fun i => C2 34 (186 + i)) = (fun i => C 34 (186 + i)) := funext (fun i => hT 34 _ (by decide) (by simp))
                unfold g4C; rw [e9]; exact G4
            have hW := ge_in hW hGn
            exact l272 1 wr pvv _ _ _ (by decide) hX1 sm len hv hb18 hp (lv_sub hl [1, 3, 4] rfl) hW hS
          · refine lv_aload_n hx hb dX12_book_228 rfl (lv_at hl 4 rfl) ?_
            have hGn : gC C2 := by
              refine ⟨g5_of G5 (fun j => hT 15 j (by decide) (by simp)) (fun j => hT 49 j (by decide) (by simp)) (fun j => hT 16 j (by decide) (by simp)) (fun j => hT 50 j (by decide) (by simp)) (fun t j ht => hT t j (g6_ne ht (by decide)) (fun q => g6_ne ht (n := 12) (by decide) q.1)) (fun j _ => hT 34 j (by decide) (by simp)), fun k hk => ?_, fun j hj => ?_, fun k hk hk2 => ?_, ?_⟩
              · rw [hT 0 0 (by decide) (by decide)] at hk
                rw [hT 29 k (by decide) (by simp), hT 30 k (by decide) (by simp), hT 31 k (by decide) (by simp)]
                exact G1 k hk
              · rw [hT 12 22 (by decide) (by decide)] at hj
                rw [hT 37 _ (by decide) (by simp), hT 34 _ (by decide) (by simp)]
                exact G2 j hj
              · rw [hT 46 k (by decide) (by simp)] at hk2
                rw [hT 45 _ (by decide) (by simp), hT 45 _ (by decide) (by simp)]
                refine ⟨(G3 k hk hk2).1, ?_⟩
                have e9 : (fun i => C2 45 (367 * k + 186 + i)) = (fun i => C 45 (367 * k + 186 + i)) := funext (fun i => hT 45 _ (by decide) (by simp))
                rw [e9]; exact (G3 k hk hk2).2
              · have e9 : (fun i => C2 34 (186 + i)) = (fun i => C 34 (186 + i)) := funext (fun i => hT 34 _ (by decide) (by simp))
                unfold g4C; rw [e9]; exact G4
            have hW := ge_in hW hGn
            refine cm_callV (kc := kc_336) B rfl hb hl (hM.1 _ _ 0 [336] (isM (by decide +kernel)) 336 (by decide)) (hH 336 (by decide)) (b := a0) (As := []) ⟨hr_aR t0, True.intro⟩ hp hW hS rfl (by decide) (by decide) (Nat.le_of_ble_eq_true rfl) dX12_book_229 (fun cs hcs r pvv229 H locs hca hW hS => ?_)
            obtain rfl := List.mem_singleton.mp hcs
            obtain ⟨hr, hq, hc⟩ := hca
            obtain rfl := hr_rv0 hr
            have hp := hr_std hp hc (by decide +kernel)
            have e229w11 := congrArg Int32.toInt (hr_same1 hc (j := 11) (by decide +kernel))
            have e229w16 := congrArg Int32.toInt (hr_same1 hc (j := 16) (by decide +kernel))
            have e229w17 := congrArg Int32.toInt (hr_same1 hc (j := 17) (by decide +kernel))
            have e229w18 := congrArg Int32.toInt (hr_same1 hc (j := 18) (by decide +kernel))
            have e229r15 := hr_pv hc 15 (lo := 1) (hi := 8) rfl
            have sm : ∀ j, j < 32 → j ∉ [11, 12, 13, 14, 24, 15, 16, 18, 31] → pvv229 j = pvv0 j := fun j h1 h2 => (hr_sameX (l := [11, 12, 13, 14, 24, 15, 16, 18, 31]) hc (by decide +kernel) j h1 h2).trans (sm j h1 h2)
            have len : (pvv229 11).toInt = 0 := by omega
            have hv : (pvv229 31).toInt = v9 := by rw [hr_same1 hc (j := 31) (by decide +kernel)]; exact hv
            refine hr_ic hx hb dX12_book_232 (by decide) (fun z232 hz232 => ?_)
            refine lv_istore hx hb dX12_book_233 hl (lv' := [(4, .int z232), (3, .int wr), (2, .int had), (1, .int x1), (0, .ref a0)]) (by decide) rfl (fun ls hl => ?_)
            obtain ⟨C3, hG3, hW⟩ := ge_out hW
            have hb18 : (pvv229 18).toInt ≤ (pvv0 17).toInt := by omega
            exact lu pvv229 C3 wr z232 _ _ _ (by omega) hX1 hp sm len hv hb18 (by omega) hG3 (lv_sub hl [0, 1, 3, 4] rfl) hW hS
      · refine lv_iload_n hx hb dX12_book_130 rfl (lv_at hl 1 rfl) ?_
        refine hr_ge0 (tgt := 179) hx hb dX12_book_131 (by decide) (fun h131 => ?_) (fun h131 => ?_)
        · refine lv_aload_n hx hb dX12_book_179 rfl (lv_at hl 4 rfl) ?_
          refine hr_getR B hF hb hW (ci := 12) (j := 42) (cd := 3) t0 rfl (isF (by decide +kernel)) rfl dX12_book_180 (fun az180 tz180 xz180 => ?_)
          refine hr_ic hx hb dX12_book_183 (by decide) (fun z183 hz183 => ?_)
          refine lv_aload_n hx hb dX12_book_184 rfl (lv_at hl 4 rfl) ?_
          refine hr_getR B hF hb hW (ci := 12) (j := 6) (cd := 3) t0 rfl (isF (by decide +kernel)) rfl dX12_book_185 (fun az185 tz185 xz185 => ?_)
          refine hr_sp hx hb dX12_book_188 (by decide) (by decide) (fun z188 hz188 => ?_)
          refine hr_iald B hb hW tz185 rfl (by omega) (by omega) dX12_book_191 (fun z191 iz191 pz191 xz191 => ?_)
          have iz191 := hr_inr iz191 (a := 140) (b := 140) (lo := 0) (hi := 6) (by omega) (by omega) (by decide +kernel)
          have pz191 := congrArg Int32.toInt (pz191 16 (by rw [show z188.toInt.toNat = 140 by omega]; rfl))
          refine hr_iastN B hb hU hW hS tz180 rfl (by omega) (by omega) ⟨ck_lo _, ck_hi _⟩ (hr_EA (i := z183) (tk_X1 (C := C2)) tz180 (u := 2) (v := 2) (by omega) (by omega) (by decide)) (u := 2) (v := 2) (by omega) (by omega) (by decide) dX12_book_192 (fun H locs hW hS => ?_)
          refine lv_aload_n hx hb dX12_book_193 rfl (lv_at hl 4 rfl) ?_
          refine hr_getR B hF hb hW (ci := 12) (j := 42) (cd := 3) t0 rfl (isF (by decide +kernel)) rfl dX12_book_194 (fun az194 tz194 xz194 => ?_)
          refine hr_ic hx hb dX12_book_197 (by decide) (fun z197 hz197 => ?_)
          refine lv_aload_n hx hb dX12_book_198 rfl (lv_at hl 4 rfl) ?_
          refine hr_getR B hF hb hW (ci := 12) (j := 6) (cd := 3) t0 rfl (isF (by decide +kernel)) rfl dX12_book_199 (fun az199 tz199 xz199 => ?_)
          refine hr_sp hx hb dX12_book_202 (by decide) (by decide) (fun z202 hz202 => ?_)
          refine hr_iald B hb hW tz199 rfl (by omega) (by omega) dX12_book_205 (fun z205 iz205 pz205 xz205 => ?_)
          refine lv_iload_n hx hb dX12_book_206 rfl (lv_at hl 2 rfl) ?_
          refine lv_isub hx hb dX12_book_207 (lv_topi (fun z207 hz207 => ?_))
          refine hr_iastN B hb hU hW hS tz194 rfl (by omega) (by omega) ⟨ck_lo _, ck_hi _⟩ (hr_EA (i := z197) (tk_X1 (C := C2)) tz194 (u := 3) (v := 3) (by omega) (by omega) (by decide)) (u := 3) (v := 3) (by omega) (by omega) (by decide) dX12_book_208 (fun H locs hW hS => ?_)
          refine lv_aload_n hx hb dX12_book_209 rfl (lv_at hl 4 rfl) ?_
          refine hr_ic hx hb dX12_book_210 (by decide) (fun z210 hz210 => ?_)
          refine hr_putN B hF hb hU hW hS (ci := 12) (j := 43) (cd := 1) t0 rfl (isF (by decide +kernel)) rfl (by omega) (by omega) (Or.inr ⟨rfl, by omega, by omega⟩) (hr_EO (tk_X1 (C := C2)) t0 (by decide)) (by decide) dX12_book_211 (fun H locs hW hS => ?_)
          refine lv_iload_n hx hb dX12_book_214 rfl (lv_at hl 3 rfl) ?_
          refine hr_ic hx hb dX12_book_215 (by decide) (fun z215 hz215 => ?_)
          refine hr_ne (tgt := 272) hx hb dX12_book_216 (by decide) (fun h216 => ?_) (fun h216 => ?_)
          · have hGn : gC C2 := by
              refine ⟨g5_of G5 (fun j => hT 15 j (by decide) (by simp)) (fun j => hT 49 j (by decide) (by simp)) (fun j => hT 16 j (by decide) (by simp)) (fun j => hT 50 j (by decide) (by simp)) (fun t j ht => hT t j (g6_ne ht (by decide)) (fun q => g6_ne ht (n := 12) (by decide) q.1)) (fun j _ => hT 34 j (by decide) (by simp)), fun k hk => ?_, fun j hj => ?_, fun k hk hk2 => ?_, ?_⟩
              · rw [hT 0 0 (by decide) (by decide)] at hk
                rw [hT 29 k (by decide) (by simp), hT 30 k (by decide) (by simp), hT 31 k (by decide) (by simp)]
                exact G1 k hk
              · rw [hT 12 22 (by decide) (by decide)] at hj
                rw [hT 37 _ (by decide) (by simp), hT 34 _ (by decide) (by simp)]
                exact G2 j hj
              · rw [hT 46 k (by decide) (by simp)] at hk2
                rw [hT 45 _ (by decide) (by simp), hT 45 _ (by decide) (by simp)]
                refine ⟨(G3 k hk hk2).1, ?_⟩
                have e9 : (fun i => C2 45 (367 * k + 186 + i)) = (fun i => C 45 (367 * k + 186 + i)) := funext (fun i => hT 45 _ (by decide) (by simp))
                rw [e9]; exact (G3 k hk hk2).2
              · have e9 : (fun i => C2 34 (186 + i)) = (fun i => C 34 (186 + i)) := funext (fun i => hT 34 _ (by decide) (by simp))
                unfold g4C; rw [e9]; exact G4
            have hW := ge_in hW hGn
            exact l272 1 wr pvv _ _ _ (by decide) hX1 sm len hv hb18 hp (lv_sub hl [1, 3, 4] rfl) hW hS
          · refine lv_aload_n hx hb dX12_book_219 rfl (lv_at hl 4 rfl) ?_
            refine hr_getR B hF hb hW (ci := 12) (j := 42) (cd := 3) t0 rfl (isF (by decide +kernel)) rfl dX12_book_220 (fun az220 tz220 xz220 => ?_)
            refine hr_ic hx hb dX12_book_223 (by decide) (fun z223 hz223 => ?_)
            refine hr_iald B hb hW tz220 rfl (by omega) (by omega) dX12_book_224 (fun z224 iz224 pz224 xz224 => ?_)
            refine hr_le0 (tgt := 272) hx hb dX12_book_225 (by decide) (fun h225 => ?_) (fun h225 => ?_)
            · have hGn : gC C2 := by
                refine ⟨g5_of G5 (fun j => hT 15 j (by decide) (by simp)) (fun j => hT 49 j (by decide) (by simp)) (fun j => hT 16 j (by decide) (by simp)) (fun j => hT 50 j (by decide) (by simp)) (fun t j ht => hT t j (g6_ne ht (by decide)) (fun q => g6_ne ht (n := 12) (by decide) q.1)) (fun j _ => hT 34 j (by decide) (by simp)), fun k hk => ?_, fun j hj => ?_, fun k hk hk2 => ?_, ?_⟩
                · rw [hT 0 0 (by decide) (by decide)] at hk
                  rw [hT 29 k (by decide) (by simp), hT 30 k (by decide) (by simp), hT 31 k (by decide) (by simp)]
                  exact G1 k hk
                · rw [hT 12 22 (by decide) (by decide)] at hj
                  rw [hT 37 _ (by decide) (by simp), hT 34 _ (by decide) (by simp)]
                  exact G2 j hj
                · rw [hT 46 k (by decide) (by simp)] at hk2
                  rw [hT 45 _ (by decide) (by simp), hT 45 _ (by decide) (by simp)]
                  refine ⟨(G3 k hk hk2).1, ?_⟩
                  have e9 : (fun i => C2 45 (367 * k + 186 + i)) = (fun i => C 45 (367 * k + 186 + i)) := funext (fun i => hT 45 _ (by decide) (by simp))
                  rw [e9]; exact (G3 k hk hk2).2
                · have e9 : (fun i => C2 34 (186 + i)) = (fun i => C 34 (186 + i)) := funext (fun i => hT 34 _ (by decide) (by simp))
                  unfold g4C; rw [e9]; exact G4
              have hW := ge_in hW hGn
              exact l272 1 wr pvv _ _ _ (by decide) hX1 sm len hv hb18 hp (lv_sub hl [1, 3, 4] rfl) hW hS
            · refine lv_aload_n hx hb dX12_book_228 rfl (lv_at hl 4 rfl) ?_
              have hGn : gC C2 := by
                refine ⟨g5_of G5 (fun j => hT 15 j (by decide) (by simp)) (fun j => hT 49 j (by decide) (by simp)) (fun j => hT 16 j (by decide) (by simp)) (fun j => hT 50 j (by decide) (by simp)) (fun t j ht => hT t j (g6_ne ht (by decide)) (fun q => g6_ne ht (n := 12) (by decide) q.1)) (fun j _ => hT 34 j (by decide) (by simp)), fun k hk => ?_, fun j hj => ?_, fun k hk hk2 => ?_, ?_⟩
                · rw [hT 0 0 (by decide) (by decide)] at hk
                  rw [hT 29 k (by decide) (by simp), hT 30 k (by decide) (by simp), hT 31 k (by decide) (by simp)]
                  exact G1 k hk
                · rw [hT 12 22 (by decide) (by decide)] at hj
                  rw [hT 37 _ (by decide) (by simp), hT 34 _ (by decide) (by simp)]
                  exact G2 j hj
                · rw [hT 46 k (by decide) (by simp)] at hk2
                  rw [hT 45 _ (by decide) (by simp), hT 45 _ (by decide) (by simp)]
                  refine ⟨(G3 k hk hk2).1, ?_⟩
                  have e9 : (fun i => C2 45 (367 * k + 186 + i)) = (fun i => C 45 (367 * k + 186 + i)) := funext (fun i => hT 45 _ (by decide) (by simp))
                  rw [e9]; exact (G3 k hk hk2).2
                · have e9 : (fun i => C2 34 (186 + i)) = (fun i => C 34 (186 + i)) := funext (fun i => hT 34 _ (by decide) (by simp))
                  unfold g4C; rw [e9]; exact G4
              have hW := ge_in hW hGn
              refine cm_callV (kc := kc_336) B rfl hb hl (hM.1 _ _ 0 [336] (isM (by decide +kernel)) 336 (by decide)) (hH 336 (by decide)) (b := a0) (As := []) ⟨hr_aR t0, True.intro⟩ hp hW hS rfl (by decide) (by decide) (Nat.le_of_ble_eq_true rfl) dX12_book_229 (fun cs hcs r pvv229 H locs hca hW hS => ?_)
              obtain rfl := List.mem_singleton.mp hcs
              obtain ⟨hr, hq, hc⟩ := hca
              obtain rfl := hr_rv0 hr
              have hp := hr_std hp hc (by decide +kernel)
              have e229w11 := congrArg Int32.toInt (hr_same1 hc (j := 11) (by decide +kernel))
              have e229w16 := congrArg Int32.toInt (hr_same1 hc (j := 16) (by decide +kernel))
              have e229w17 := congrArg Int32.toInt (hr_same1 hc (j := 17) (by decide +kernel))
              have e229w18 := congrArg Int32.toInt (hr_same1 hc (j := 18) (by decide +kernel))
              have e229r15 := hr_pv hc 15 (lo := 1) (hi := 8) rfl
              have sm : ∀ j, j < 32 → j ∉ [11, 12, 13, 14, 24, 15, 16, 18, 31] → pvv229 j = pvv0 j := fun j h1 h2 => (hr_sameX (l := [11, 12, 13, 14, 24, 15, 16, 18, 31]) hc (by decide +kernel) j h1 h2).trans (sm j h1 h2)
              have len : (pvv229 11).toInt = 0 := by omega
              have hv : (pvv229 31).toInt = v9 := by rw [hr_same1 hc (j := 31) (by decide +kernel)]; exact hv
              refine hr_ic hx hb dX12_book_232 (by decide) (fun z232 hz232 => ?_)
              refine lv_istore hx hb dX12_book_233 hl (lv' := [(4, .int z232), (3, .int wr), (2, .int had), (1, .int x1), (0, .ref a0)]) (by decide) rfl (fun ls hl => ?_)
              obtain ⟨C3, hG3, hW⟩ := ge_out hW
              have hb18 : (pvv229 18).toInt ≤ (pvv0 17).toInt := by omega
              exact lu pvv229 C3 wr z232 _ _ _ (by omega) hX1 hp sm len hv hb18 (by omega) hG3 (lv_sub hl [0, 1, 3, 4] rfl) hW hS
        · refine lv_aload_n hx hb dX12_book_134 rfl (lv_at hl 4 rfl) ?_
          refine hr_getR B hF hb hW (ci := 12) (j := 42) (cd := 3) t0 rfl (isF (by decide +kernel)) rfl dX12_book_135 (fun az135 tz135 xz135 => ?_)
          refine hr_ic hx hb dX12_book_138 (by decide) (fun z138 hz138 => ?_)
          refine lv_aload_n hx hb dX12_book_139 rfl (lv_at hl 4 rfl) ?_
          refine hr_ic hx hb dX12_book_140 (by decide) (fun z140 hz140 => ?_)
          refine lv_iload hx hb dX12_book_141 (lv_at hl 0 rfl) ?_
          refine hr_mulL hx hb dX12_book_143 hz140 (by omega) (by omega) (fun z143 hz143 => ?_)
          have e143 : z143.toInt.toNat = 3 * i.toInt.toNat := by omega
          have hk := hBL i.toInt.toNat (by omega)
          unfold lineOK at hk
          rw [← e143] at hk
          refine hr_callV (kc := kh_12_does) B rfl hb hl (hMh _ (List.mem_of_getElem? (i := 10) rfl)) (b := a0) (As := [.int z143]) (hs_does hF hC hM hMh hU hun hH1 t0 hp (by omega) (by omega) hk) ⟨hr_aR t0, hr_aI (by omega) (by omega), True.intro⟩ hW hS rfl (by decide) (by decide) (Nat.le_of_ble_eq_true rfl) dX12_book_144 (fun r pvv144 E144 H locs hpost hW hS => ?_)
          obtain ⟨hp, sm1, rfl, z144, rfl⟩ := hpost
          have sm : ∀ j, j < 32 → j ∉ [11, 12, 13, 14, 24, 15, 16, 18, 31] → pvv144 j = pvv0 j := fun j h1 h2 => (sm1 j h1 (fun q => h2 (by rw [List.mem_singleton.mp q]; decide))).trans (sm j h1 h2)
          have len : (pvv144 11).toInt = 0 := by rw [sm1 11 (by decide) (by decide)]; exact len
          have hv : (pvv144 31).toInt = v9 := by rw [sm1 31 (by decide) (by decide)]; exact hv
          have hb18 : (pvv144 18).toInt ≤ (pvv0 17).toInt := by rw [sm1 18 (by decide) (by decide)]; exact hb18
          refine hr_iastN B hb hU hW hS tz135 rfl (by omega) (by omega) ⟨ck_lo _, ck_hi _⟩ (hr_EA (i := z138) (tk_X1 (C := C2)) tz135 (u := 0) (v := 0) (by omega) (by omega) (by decide)) (u := 0) (v := 0) (by omega) (by omega) (by decide) dX12_book_147 (fun H locs hW hS => ?_)
          refine lv_aload_n hx hb dX12_book_148 rfl (lv_at hl 4 rfl) ?_
          refine hr_getR B hF hb hW (ci := 12) (j := 42) (cd := 3) t0 rfl (isF (by decide +kernel)) rfl dX12_book_149 (fun az149 tz149 xz149 => ?_)
          refine hr_ic hx hb dX12_book_152 (by decide) (fun z152 hz152 => ?_)
          refine hr_iald B hb hW tz149 rfl (by omega) (by omega) dX12_book_153 (fun z153 iz153 pz153 xz153 => ?_)
          refine hr_le0 (tgt := 163) hx hb dX12_book_154 (by decide) (fun h154 => ?_) (fun h154 => ?_)
          · refine lv_aload_n hx hb dX12_book_163 rfl (lv_at hl 4 rfl) ?_
            refine hr_getR B hF hb hW (ci := 12) (j := 42) (cd := 3) t0 rfl (isF (by decide +kernel)) rfl dX12_book_164 (fun az164 tz164 xz164 => ?_)
            refine hr_ic hx hb dX12_book_167 (by decide) (fun z167 hz167 => ?_)
            refine lv_dup2_11 hx hb dX12_book_168 rfl rfl ?_
            refine hr_iald B hb hW tz164 rfl (by omega) (by omega) dX12_book_169 (fun z169 iz169 pz169 xz169 => ?_)
            refine hr_ic hx hb dX12_book_170 (by decide) (fun z170 hz170 => ?_)
            refine lv_iadd hx hb dX12_book_171 (lv_topi (fun z171 hz171 => ?_))
            refine hr_iastN B hb hU hW hS tz164 rfl (by omega) (by omega) ⟨ck_lo _, ck_hi _⟩ (hr_EA (i := z167) (tk_X1 (C := C2)) tz164 (u := 1) (v := 1) (by omega) (by omega) (by decide)) (u := 1) (v := 1) (by omega) (by omega) (by decide) dX12_book_172 (fun H locs hW hS => ?_)
            refine hr_inc hx hb dX12_book_173 hl (kq := 0) (lv' := fun v => [(4, .int v), (3, .int wr), (2, .int had), (1, .int x1), (0, .ref a0)]) rfl (by decide) (by decide) (by omega) (by omega) (fun _ => rfl) (fun z173 ls hz173 hl => ?_)
            refine lv_goto (tgt := 121) hx hb dX12_book_176 (by decide) ?_
            exact ih121 z173 wr had pvv144 C2 _ _ _ (by omega) (by omega) hX1 sm len hv hb18 hT hBL tl (by omega) hp hl hW hS
          · refine lv_iload hx hb dX12_book_157 (lv_at hl 0 rfl) ?_
            refine lv_istore_n hx hb dX12_book_159 rfl hl (lv' := [(3, .int i), (4, .int i), (2, .int had), (1, .int x1), (0, .ref a0)]) (by decide) rfl (fun ls hl => ?_)
            refine lv_goto (tgt := 173) hx hb dX12_book_160 (by decide) ?_
            refine hr_inc hx hb dX12_book_173 hl (kq := 1) (lv' := fun v => [(4, .int v), (3, .int i), (2, .int had), (1, .int x1), (0, .ref a0)]) rfl (by decide) (by decide) (by omega) (by omega) (fun _ => rfl) (fun z173 ls hz173 hl => ?_)
            refine lv_goto (tgt := 121) hx hb dX12_book_176 (by decide) ?_
            exact ih121 z173 i had pvv144 C2 _ _ _ (by omega) (by omega) hX1 sm len hv hb18 hT hBL tl (by omega) hp hl hW hS
  have l89 : ∀ (n89 : Nat) (i : Int32) (pvv : Nat → Int32) (C2 : Nat → Nat → Int32) (ls : Array Slot) (H : Heap) (locs : List Loc), 4 - i.toInt < n89 → (0 ≤ i.toInt) → (i.toInt ≤ 4) → (0 ≤ x1.toInt ∧ x1.toInt ≤ 1) → (∀ j, j < 32 → j ∉ [11, 12, 13, 14, 24, 15, 16, 18, 31] → pvv j = pvv0 j) → ((pvv 11).toInt = 0) → ((pvv 31).toInt = v9) → ((pvv 18).toInt ≤ (pvv0 17).toInt) → (∀ t j, t ≠ 36 → ¬ (t = 12 ∧ j = 41) → C2 t j = C t j) → (∀ i : Nat, (i : Int) < (C2 12 41).toInt → lineOK C2 i) → (0 ≤ (C2 12 41).toInt ∧ (C2 12 41).toInt ≤ 40) → (ck_pvo ty (ck_XE pvv) pPM pvv) → lv_has ls 5 [(2, .int i), (1, .int x1), (0, .ref a0)] → ck_Wo D cys ty ck_tags ck_pvs0 (tk ty ck_prot1 C2) pvv H → va_S (ck_own ty) s.heap H locs → W p l e (ck_rm (ck_tab 337)) s m [Value.ref a0, Value.int x1].toArray below meth c H locs 0 0 (MQ below (hr_Q D cys ty ck_tags ck_pvs0 (fun r pvv' E' => (∃ z : Int32, r = some (.int z)) ∧ E' = GE ty ∧ (pvv' 31).toInt = v9)) [Value.ref a0, Value.int x1].toArray s 0 0 (ck_own ty)) (F0 m 89 ls []) := by
    intro n89
    induction n89 with
    | zero => intro i pvv C2 ls H locs hm89 i1 i2 hX1 sm len hv hb18 hT hBL tl hp hl hW hS; omega
    | succ n89 ih89 =>
      intro i pvv C2 ls H locs hm89 i1 i2 hX1 sm len hv hb18 hT hBL tl hp hl hW hS
      refine lv_iload_n hx hb dX12_book_89 rfl (lv_at hl 0 rfl) ?_
      refine hr_ic hx hb dX12_book_90 (by decide) (fun z90 hz90 => ?_)
      refine hr_ge (tgt := 107) hx hb dX12_book_91 (by decide) (fun h91 => ?_) (fun h91 => ?_)
      · refine lv_aload_n hx hb dX12_book_107 rfl (lv_at hl 2 rfl) ?_
        refine hr_getR B hF hb hW (ci := 12) (j := 6) (cd := 3) t0 rfl (isF (by decide +kernel)) rfl dX12_book_108 (fun az108 tz108 xz108 => ?_)
        refine hr_sp hx hb dX12_book_111 (by decide) (by decide) (fun z111 hz111 => ?_)
        refine hr_iald B hb hW tz108 rfl (by omega) (by omega) dX12_book_114 (fun z114 iz114 pz114 xz114 => ?_)
        refine lv_istore_n hx hb dX12_book_115 rfl hl (lv' := [(2, .int z114), (1, .int x1), (0, .ref a0)]) (by decide) rfl (fun ls hl => ?_)
        refine hr_ic hx hb dX12_book_116 (by decide) (fun z116 hz116 => ?_)
        refine lv_istore_n hx hb dX12_book_117 rfl hl (lv' := [(3, .int z116), (2, .int z114), (1, .int x1), (0, .ref a0)]) (by decide) rfl (fun ls hl => ?_)
        refine hr_ic hx hb dX12_book_118 (by decide) (fun z118 hz118 => ?_)
        refine lv_istore hx hb dX12_book_119 hl (lv' := [(4, .int z118), (3, .int z116), (2, .int z114), (1, .int x1), (0, .ref a0)]) (by decide) rfl (fun ls hl => ?_)
        exact l121 41 z118 z116 z114 pvv C2 _ _ _ (by omega) (by omega) hX1 sm len hv hb18 hT hBL tl (by omega) hp (lv_sub hl [0, 1, 2, 3, 4] rfl) hW hS
      · refine lv_aload_n hx hb dX12_book_94 rfl (lv_at hl 2 rfl) ?_
        refine hr_getR B hF hb hW (ci := 12) (j := 42) (cd := 3) t0 rfl (isF (by decide +kernel)) rfl dX12_book_95 (fun az95 tz95 xz95 => ?_)
        refine lv_iload_n hx hb dX12_book_98 rfl (lv_at hl 0 rfl) ?_
        refine hr_ic hx hb dX12_book_99 (by decide) (fun z99 hz99 => ?_)
        refine hr_iastN B hb hU hW hS tz95 rfl (by omega) (by omega) ⟨ck_lo _, ck_hi _⟩ (hr_EA (i := i) (tk_X1 (C := C2)) tz95 (u := 0) (v := 3) (by omega) (by omega) (by decide)) (u := 0) (v := 3) (by omega) (by omega) (by decide) dX12_book_100 (fun H locs hW hS => ?_)
        refine hr_inc hx hb dX12_book_101 hl (kq := 0) (lv' := fun v => [(2, .int v), (1, .int x1), (0, .ref a0)]) rfl (by decide) (by decide) (by omega) (by omega) (fun _ => rfl) (fun z101 ls hz101 hl => ?_)
        refine lv_goto (tgt := 89) hx hb dX12_book_104 (by decide) ?_
        exact ih89 z101 pvv C2 _ _ _ (by omega) (by omega) (by omega) hX1 sm len hv hb18 hT hBL tl hp hl hW hS
  have l39 : ∀ (n39 : Nat)  (pvv : Nat → Int32) (C2 : Nat → Nat → Int32) (ls : Array Slot) (H : Heap) (locs : List Loc), 41 - (C2 12 41).toInt < n39 → (0 ≤ x1.toInt ∧ x1.toInt ≤ 1) → (∀ j, j < 32 → j ∉ [11, 12, 13, 14, 24, 15, 16, 18, 31] → pvv j = pvv0 j) → ((pvv 11).toInt = 0) → (∀ t j, t ≠ 36 → ¬ (t = 12 ∧ j = 41) → C2 t j = C t j) → (∀ i : Nat, (i : Int) < (C2 12 41).toInt → lineOK C2 i) → (0 ≤ (C2 12 41).toInt ∧ (C2 12 41).toInt ≤ 40) → (∃ (M2 : ev_C) (n9 : Nat), ev_Wo D cys ty ck_tags ev_TR M2 H ∧ x_L12 n9 M2 = some (r9, Z9)) → (ck_pvo ty (ck_XE pvv) pPM pvv) → lv_has ls 5 [(0, .ref a0), (1, .int x1)] → ck_Wo D cys ty ck_tags ck_pvs0 (tk ty ck_prot1 C2) pvv H → va_S (ck_own ty) s.heap H locs → W p l e (ck_rm (ck_tab 337)) s m [Value.ref a0, Value.int x1].toArray below meth c H locs 0 0 (MQ below (hr_Q D cys ty ck_tags ck_pvs0 (fun r pvv' E' => (∃ z : Int32, r = some (.int z)) ∧ E' = GE ty ∧ (pvv' 31).toInt = v9)) [Value.ref a0, Value.int x1].toArray s 0 0 (ck_own ty)) (F0 m 39 ls []) := by
    intro n39
    induction n39 with
    | zero => intro pvv C2 ls H locs hm39 hX1 sm len hT hBL tl hMx hp hl hW hS; omega
    | succ n39 ih39 =>
      intro pvv C2 ls H locs hm39 hX1 sm len hT hBL tl hMx hp hl hW hS
      obtain ⟨M2, n9, hMv, hL⟩ := hMx
      obtain ⟨n9, rfl⟩ : ∃ k, n9 = k + 1 := by
        cases n9 with
        | zero => exact absurd (show (none : Option (Int × ev_C)) = some (r9, Z9) from hL) (fun h => nomatch h)
        | succ k => exact ⟨k, rfl⟩
      rw [x_L12] at hL
      have etok := (hx_pv12 hW hMv t0).1
      refine lv_aload_n hx hb dX12_book_39 rfl (lv_at hl 0 rfl) ?_
      refine hr_getI B hF hb hW (ci := 12) (j := 11) (cd := 0) t0 rfl (isF (by decide +kernel)) rfl dX12_book_40 (fun z40 lz40 uz40 pz40 xz40 => ?_)
      have pz40 := congrArg Int32.toInt (pz40 14 rfl)
      refine hr_eq0 (tgt := 83) hx hb dX12_book_43 (by decide) (fun h43 => ?_) (fun h43 => ?_)
      · rw [if_pos (show M2 12 11 = 0 by omega)] at hL
        have hv : (pvv 31).toInt = v9 := by have e9 := (Prod.mk.inj (Option.some.inj hL)).2; have e8 := (hx_pv12 hW hMv t0).2.1; rw [e9] at e8; omega
        refine lv_aload_n hx hb dX12_book_83 rfl (lv_at hl 0 rfl) ?_
        refine cm_callV (kc := kc_242) B rfl hb hl (hM.1 _ _ 0 [242] (isM (by decide +kernel)) 242 (by decide)) (hH1 _ tk_X1 242 (by decide)) (b := a0) (As := []) ⟨hr_aR t0, True.intro⟩ hp hW hS rfl (by decide) (by decide) (Nat.le_of_ble_eq_true rfl) dX12_book_84 (fun cs hcs r pvv84 H locs hca hW hS => ?_)
        obtain rfl := List.mem_singleton.mp hcs
        obtain ⟨hr, hq, hc⟩ := hca
        obtain rfl := hr_rv0 hr
        have hp := hr_std hp hc (by decide +kernel)
        have e84w11 := congrArg Int32.toInt (hr_same1 hc (j := 11) (by decide +kernel))
        have e84w16 := congrArg Int32.toInt (hr_same1 hc (j := 16) (by decide +kernel))
        have e84w17 := congrArg Int32.toInt (hr_same1 hc (j := 17) (by decide +kernel))
        have e84r18 := hr_pv hc 18 (lo := 0) (hi := 6) rfl
        have e84d18_2032 := hr_pd hc 18 16 (lo := 0) (hi := 6) (a := 0) (b := 0) rfl (by decide)
        have e84w15 := congrArg Int32.toInt (hr_same1 hc (j := 15) (by decide +kernel))
        have sm : ∀ j, j < 32 → j ∉ [11, 12, 13, 14, 24, 15, 16, 18, 31] → pvv84 j = pvv0 j := fun j h1 h2 => (hr_sameX (l := [11, 12, 13, 14, 24, 15, 16, 18, 31]) hc (by decide +kernel) j h1 h2).trans (sm j h1 h2)
        have len : (pvv84 11).toInt = 0 := by omega
        have hv : (pvv84 31).toInt = v9 := by rw [hr_same1 hc (j := 31) (by decide +kernel)]; exact hv
        have rd := hr_pd hp 16 17 (lo := 0) (hi := 6) (a := -6) (b := 0) rfl (by decide)
        have rs := congrArg Int32.toInt (sm 17 (by decide) (by decide))
        have hb18 : (pvv84 18).toInt ≤ (pvv0 17).toInt := by omega
        refine hr_ic hx hb dX12_book_87 (by decide) (fun z87 hz87 => ?_)
        refine lv_istore_n hx hb dX12_book_88 rfl hl (lv' := [(2, .int z87), (0, .ref a0), (1, .int x1)]) (by decide) rfl (fun ls hl => ?_)
        exact l89 5 z87 pvv84 C2 _ _ _ (by omega) (by omega) (by omega) hX1 sm len hv hb18 hT hBL tl hp (lv_sub hl [0, 2, 1] rfl) hW hS
      · rw [if_neg (show ¬ M2 12 11 = 0 by omega)] at hL
        obtain ⟨r1, N1, g1, hL⟩ := ev_bd_some hL
        refine lv_aload_n hx hb dX12_book_46 rfl (lv_at hl 0 rfl) ?_
        refine hr_callV (kc := kh_12_bookLine) B rfl hb hl (hMh _ (List.mem_of_getElem? (i := 9) rfl)) (b := a0) (As := []) (hx_met (A := [.inr (.inl 12)]) (hs_bookLine hF hC hM hMh hU hun hH1 t0 hp tl) (m_12_bookLine hUx g1) ⟨⟨_, rfl, t0⟩, trivial⟩) ⟨hr_aR t0, True.intro⟩ (hx_mk hW hMv) hS rfl (by decide) (by decide) (Nat.le_of_ble_eq_true rfl) dX12_book_47 (fun r pvv47 E47 H locs hpost hW hS => ?_)
        obtain ⟨_, M47, rx, rfl, ⟨hp, sm1, z47, rfl, C47, rfl, f1, hz⟩, hrv, e1, e2⟩ := hpost
        have hMv := hx_ev hW
        have hW := hr_mono (fun _ h => h.1) hW
        rw [e2] at hMv
        have ez47 := hx_rv e1 hrv
        have sm : ∀ j, j < 32 → j ∉ [11, 12, 13, 14, 24, 15, 16, 18, 31] → pvv47 j = pvv0 j := fun j h1 h2 => (sm1 j h1 (fun q => h2 (by simp only [List.mem_cons, List.not_mem_nil, or_false] at q ⊢; omega))).trans (sm j h1 h2)
        have len : (pvv47 11).toInt = 0 := by rw [sm1 11 (by decide) (by decide)]; exact len
        have hT2 : ∀ t j, t ≠ 36 → ¬ (t = 12 ∧ j = 41) → C47 t j = C t j := fun t j h1 h2 => (f1 t j h1).trans (hT t j h1 h2)
        have et : (C47 12 41).toInt = (C2 12 41).toInt := by rw [f1 12 41 (by decide)]
        rcases hz with hz | ⟨hz, q1, q2, q3⟩
        · refine hr_eq0 (tgt := 62) hx hb dX12_book_50 (by decide) (fun h9 => ?_) (fun h9 => ?_)
          · rw [if_pos (show r1 = 0 by omega)] at hL
            have hv : (pvv47 31).toInt = v9 := by have e9 := (Prod.mk.inj (Option.some.inj hL)).2; have e8 := (hx_pv12 hW hMv t0).2.1; rw [e9] at e8; omega
            refine hr_bp hx hb dX12_book_62 (by decide) (by decide) (fun z62 hz62 => ?_)
            refine lv_aload_n hx hb dX12_book_64 rfl (lv_at hl 0 rfl) ?_
            refine hr_getI B hF hb hW (ci := 12) (j := 16) (cd := 0) t0 rfl (isF (by decide +kernel)) rfl dX12_book_65 (fun z65 lz65 uz65 pz65 xz65 => ?_)
            refine lv_isub hx hb dX12_book_68 (lv_topi (fun z68 hz68 => ?_))
            have hGn : gC C47 := by
              refine ⟨g5_of G5 (fun j => hT2 15 j (by decide) (by simp)) (fun j => hT2 49 j (by decide) (by simp)) (fun j => hT2 16 j (by decide) (by simp)) (fun j => hT2 50 j (by decide) (by simp)) (fun t j ht => hT2 t j (g6_ne ht (by decide)) (fun q => g6_ne ht (n := 12) (by decide) q.1)) (fun j _ => hT2 34 j (by decide) (by simp)), fun k hk => ?_, fun j hj => ?_, fun k hk hk2 => ?_, ?_⟩
              · rw [hT2 0 0 (by decide) (by decide)] at hk
                rw [hT2 29 k (by decide) (by simp), hT2 30 k (by decide) (by simp), hT2 31 k (by decide) (by simp)]
                exact G1 k hk
              · rw [hT2 12 22 (by decide) (by decide)] at hj
                rw [hT2 37 _ (by decide) (by simp), hT2 34 _ (by decide) (by simp)]
                exact G2 j hj
              · rw [hT2 46 k (by decide) (by simp)] at hk2
                rw [hT2 45 _ (by decide) (by simp), hT2 45 _ (by decide) (by simp)]
                refine ⟨(G3 k hk hk2).1, ?_⟩
                have e9 : (fun i => C47 45 (367 * k + 186 + i)) = (fun i => C 45 (367 * k + 186 + i)) := funext (fun i => hT2 45 _ (by decide) (by simp))
                rw [e9]; exact (G3 k hk hk2).2
              · have e9 : (fun i => C47 34 (186 + i)) = (fun i => C 34 (186 + i)) := funext (fun i => hT2 34 _ (by decide) (by simp))
                unfold g4C; rw [e9]; exact G4
            exact hr_iret B hb rfl ⟨⟨_, rfl⟩, rfl, hv⟩ (ge_in hW hGn) hS dX12_book_69
          · omega
        · refine hr_eq0 (tgt := 62) hx hb dX12_book_50 (by decide) (fun h9 => ?_) (fun h9 => ?_)
          · omega
          rw [if_neg (show ¬ r1 = 0 by omega)] at hL
          obtain ⟨r2, N2, g2, hL⟩ := ev_bd_some hL
          refine lv_aload_n hx hb dX12_book_53 rfl (lv_at hl 0 rfl) ?_
          refine hr_bp hx hb dX12_book_54 (by decide) (by decide) (fun z54 hz54 => ?_)
          refine hr_callV (kc := kc_240) B rfl hb hl (hM.1 _ _ 0 [237, 238, 239, 240] (isM (by decide +kernel)) 240 (by decide)) (b := a0) (As := [.int z54]) (hx_met (A := [.inr (.inl 12), .inl 59]) (hx_hr (hH1 _ tk_X1 240 (by decide)) ⟨hr_aR t0, hr_aF, True.intro⟩ hp) (mS_12_sign hUx g2) ⟨⟨_, rfl, t0⟩, ⟨_, rfl, hz54⟩, trivial⟩) ⟨hr_aR t0, hr_aF, True.intro⟩ (hx_mk hW hMv) hS rfl (by decide) (by decide) (Nat.le_of_ble_eq_true rfl) dX12_book_56 (fun r pvv56 E56 H locs hpost hW hS => ?_)
          obtain ⟨_, M56, rx, rfl, ⟨rfl, cs, hcs, hca⟩, hrv, e1, e2⟩ := hpost
          have hMv := hx_ev hW
          have hW := hr_mono (fun _ h => h.1) hW
          rw [e2] at hMv
          rcases List.mem_cons.mp hcs with rfl | hcs
          · obtain ⟨hr, hq, hc⟩ := hca
            obtain ⟨z56, rfl, lz56, uz56⟩ := hr_rvI hr
            have hp := hr_std hp hc (by decide +kernel)
            have e56w11 := congrArg Int32.toInt (hr_same1 hc (j := 11) (by decide +kernel))
            have e56w16 := congrArg Int32.toInt (hr_same1 hc (j := 16) (by decide +kernel))
            have e56w17 := congrArg Int32.toInt (hr_same1 hc (j := 17) (by decide +kernel))
            have e56w18 := congrArg Int32.toInt (hr_same1 hc (j := 18) (by decide +kernel))
            have e56w15 := congrArg Int32.toInt (hr_same1 hc (j := 15) (by decide +kernel))
            have sm : ∀ j, j < 32 → j ∉ [11, 12, 13, 14, 24, 15, 16, 18, 31] → pvv56 j = pvv0 j := fun j h1 h2 => (hr_sameX (l := [11, 12, 13, 14, 24, 15, 16, 18, 31]) hc (by decide +kernel) j h1 h2).trans (sm j h1 h2)
            have len : (pvv56 11).toInt = 0 := by omega
            have ez56 := hx_rv e1 hrv
            refine hr_ne0 (tgt := 70) hx hb dX12_book_59 (by decide) (fun h59 => ?_) (fun h59 => ?_)
            · omega
            · rw [if_pos (show r2 = 0 by omega)] at hL
              have hv : (pvv56 31).toInt = v9 := by have e9 := (Prod.mk.inj (Option.some.inj hL)).2; have e8 := (hx_pv12 hW hMv t0).2.1; rw [e9] at e8; omega
              refine hr_bp hx hb dX12_book_62 (by decide) (by decide) (fun z62 hz62 => ?_)
              refine lv_aload_n hx hb dX12_book_64 rfl (lv_at hl 0 rfl) ?_
              refine hr_getI B hF hb hW (ci := 12) (j := 16) (cd := 0) t0 rfl (isF (by decide +kernel)) rfl dX12_book_65 (fun z65 lz65 uz65 pz65 xz65 => ?_)
              refine lv_isub hx hb dX12_book_68 (lv_topi (fun z68 hz68 => ?_))
              have hGn : gC C47 := by
                refine ⟨g5_of G5 (fun j => hT2 15 j (by decide) (by simp)) (fun j => hT2 49 j (by decide) (by simp)) (fun j => hT2 16 j (by decide) (by simp)) (fun j => hT2 50 j (by decide) (by simp)) (fun t j ht => hT2 t j (g6_ne ht (by decide)) (fun q => g6_ne ht (n := 12) (by decide) q.1)) (fun j _ => hT2 34 j (by decide) (by simp)), fun k hk => ?_, fun j hj => ?_, fun k hk hk2 => ?_, ?_⟩
                · rw [hT2 0 0 (by decide) (by decide)] at hk
                  rw [hT2 29 k (by decide) (by simp), hT2 30 k (by decide) (by simp), hT2 31 k (by decide) (by simp)]
                  exact G1 k hk
                · rw [hT2 12 22 (by decide) (by decide)] at hj
                  rw [hT2 37 _ (by decide) (by simp), hT2 34 _ (by decide) (by simp)]
                  exact G2 j hj
                · rw [hT2 46 k (by decide) (by simp)] at hk2
                  rw [hT2 45 _ (by decide) (by simp), hT2 45 _ (by decide) (by simp)]
                  refine ⟨(G3 k hk hk2).1, ?_⟩
                  have e9 : (fun i => C47 45 (367 * k + 186 + i)) = (fun i => C 45 (367 * k + 186 + i)) := funext (fun i => hT2 45 _ (by decide) (by simp))
                  rw [e9]; exact (G3 k hk hk2).2
                · have e9 : (fun i => C47 34 (186 + i)) = (fun i => C 34 (186 + i)) := funext (fun i => hT2 34 _ (by decide) (by simp))
                  unfold g4C; rw [e9]; exact G4
              exact hr_iret B hb rfl ⟨⟨_, rfl⟩, rfl, hv⟩ (ge_in hW hGn) hS dX12_book_69
          obtain rfl := List.mem_singleton.mp hcs
          obtain ⟨hr, hq, hc⟩ := hca
          obtain ⟨z56, rfl, lz56, uz56⟩ := hr_rvI hr
          have hp := hr_std hp hc (by decide +kernel)
          have e56w11 := congrArg Int32.toInt (hr_same1 hc (j := 11) (by decide +kernel))
          have e56w16 := congrArg Int32.toInt (hr_same1 hc (j := 16) (by decide +kernel))
          have e56w17 := congrArg Int32.toInt (hr_same1 hc (j := 17) (by decide +kernel))
          have e56w18 := congrArg Int32.toInt (hr_same1 hc (j := 18) (by decide +kernel))
          have e56w15 := congrArg Int32.toInt (hr_same1 hc (j := 15) (by decide +kernel))
          have sm : ∀ j, j < 32 → j ∉ [11, 12, 13, 14, 24, 15, 16, 18, 31] → pvv56 j = pvv0 j := fun j h1 h2 => (hr_sameX (l := [11, 12, 13, 14, 24, 15, 16, 18, 31]) hc (by decide +kernel) j h1 h2).trans (sm j h1 h2)
          have len : (pvv56 11).toInt = 0 := by omega
          have ez56 := hx_rv e1 hrv
          refine hr_ne0 (tgt := 70) hx hb dX12_book_59 (by decide) (fun h59 => ?_) (fun h59 => ?_)
          · rw [if_neg (show ¬ r2 = 0 by omega)] at hL
            refine lv_aload_n hx hb dX12_book_70 rfl (lv_at hl 0 rfl) ?_
            refine lv_dup hx hb dX12_book_71 rfl ?_
            refine hr_getI B hF hb hW (ci := 12) (j := 41) (cd := 0) t0 rfl (isF (by decide +kernel)) rfl dX12_book_72 (fun z72 lz72 uz72 pz72 xz72 => ?_)
            have xz72 := tk_xo xz72 (fun _ h => h) (pq := ck_prot1) (C := C47) t0 (by decide); have kz72 := congrArg Int32.toInt xz72
            have e72 : z72.toInt = (C2 12 41).toInt := by rw [kz72]; exact et
            refine hr_ic hx hb dX12_book_75 (by decide) (fun z75 hz75 => ?_)
            refine hr_add hx hb dX12_book_76 (by omega) (by omega) (fun z76 hz76 => ?_)
            have em := hx_told hW hMv t0
            have ew : ev_w (N2 12 41 + (1 : Int)) = z76.toInt := by rw [em, ev_w_id (by omega) (by omega)]; omega
            rw [ew] at hL
            clear ew
            refine hx_putN B hF hb hU hUx hW hMv hS (ci := 12) (j := 41) (cd := 0) t0 rfl (isF (by decide +kernel)) rfl (by omega) (by omega) (Or.inl rfl) (tk_EO t0 (fun a h => hun 12 (by decide) _ _ t0 h) (by decide)) (by decide) (by decide +kernel) dX12_book_77 (fun H locs hW hMv hS => ?_)
            obtain ⟨C77, c77⟩ : ∃ f, f = tk_upd C47 12 (41) z76 := ⟨_, rfl⟩
            rw [← c77] at hW
            refine lv_goto (tgt := 39) hx hb dX12_book_80 (by decide) ?_
            refine ih39 pvv56 C77 _ _ _ ?_ hX1 sm len (fun t j h1 h2 => ?_) (fun i hi => ?_) ?_ ⟨_, _, hMv, hL⟩ hp hl hW hS
            · rw [c77, tk_us]; omega
            · rw [c77, tk_un h2]; exact hT2 t j h1 h2
            · have hi : (i : Int) < z76.toInt := by rw [c77, tk_us] at hi; exact hi
              have e9 : ∀ j, C77 36 j = C47 36 j := fun j => by rw [c77, tk_unt (by decide)]
              unfold lineOK; rw [e9, e9, e9]
              by_cases e8 : i = (C2 12 41).toInt.toNat
              · rw [e8]; exact q3
              · rw [q2 _ (by omega), q2 _ (by omega), q2 _ (by omega)]; exact hBL i (by omega)
            · rw [c77, tk_us]; omega
          · omega
  refine lv_aload_n hx hb dX12_book_0 rfl (lv_at hl 0 rfl) ?_
  refine hr_ic hx hb dX12_book_1 (by decide) (fun z1 hz1 => ?_)
  refine hx_putN B hF hb hU hUx hW hMv hS (ci := 12) (j := 0) (cd := 0) t0 rfl (isF (by decide +kernel)) rfl (by omega) (by omega) (Or.inl rfl) (hr_EO (tk_X1 (C := C)) t0 (by decide)) (by decide) (by decide +kernel) dX12_book_2 (fun H locs hW hMv hS => ?_)
  rw [hz1] at hMv
  refine lv_iload_n hx hb dX12_book_5 rfl (lv_at hl 1 rfl) ?_
  refine hr_ic hx hb dX12_book_6 (by decide) (fun z6 hz6 => ?_)
  refine hr_ic hx hb dX12_book_7 (by decide) (fun z7 hz7 => ?_)
  refine hr_callS (kc := ck_tab 192) B rfl hb hl (hM.1 _ _ 1 [190, 191, 192, 193, 194, 195, 196, 197, 198, 199] (isM (by decide +kernel)) 192 (by decide)) (hs_isIn (by omega) (by omega) (by omega)) ⟨hr_aF, hr_aI (by omega) (by omega), hr_aI (by omega) (by omega), True.intro⟩ (hx_mk hW hMv) hS rfl (by decide) (by decide) (Nat.le_of_ble_eq_true rfl) dX12_book_8 (fun r pvv8 E8 H locs hpost hW hS => ?_)
  obtain ⟨ep, rfl, z8, rfl, b8⟩ := hpost
  rw [ep] at hW
  have hMv := hx_ev hW
  have hW := hr_mono (fun _ h => h.1) hW
  refine hr_ne0 (tgt := 18) hx hb dX12_book_11 (by decide) (fun h11 => ?_) (fun h11 => ?_)
  · have hX1 : 0 ≤ x1.toInt ∧ x1.toInt ≤ 1 := by omega
    refine lv_aload_n hx hb dX12_book_18 rfl (lv_at hl 0 rfl) ?_
    refine hr_sp hx hb dX12_book_19 (by decide) (by decide) (fun z19 hz19 => ?_)
    refine hr_callV (kc := kc_241) B rfl hb hl (hM.1 _ _ 0 [241] (isM (by decide +kernel)) 241 (by decide)) (b := a0) (As := [.int z19]) (hx_met (A := [.inr (.inl 12), .inl 400]) (hx_hr (hH1 _ tk_X1 241 (by decide)) ⟨hr_aR t0, hr_aI (by omega) (by omega), True.intro⟩ hp) (m_12_taken hUx k1) ⟨⟨_, rfl, t0⟩, ⟨_, rfl, hz19⟩, trivial⟩) ⟨hr_aR t0, hr_aI (by omega) (by omega), True.intro⟩ (hx_mk hW hMv) hS rfl (by decide) (by decide) (Nat.le_of_ble_eq_true rfl) dX12_book_22 (fun r pvv22 E22 H locs hpost hW hS => ?_)
    obtain ⟨_, M22, rx, rfl, ⟨rfl, cs, hcs, hca⟩, hrv, e1, e2⟩ := hpost
    have hMv := hx_ev hW
    have hW := hr_mono (fun _ h => h.1) hW
    rw [e2] at hMv
    obtain rfl := List.mem_singleton.mp hcs
    obtain ⟨hr, hq, hc⟩ := hca
    obtain rfl := hr_rv0 hr
    have hp := hr_std hp hc (by decide +kernel)
    have e22r11 := hr_pv hc 11 (lo := 0) (hi := 0) rfl
    have e22w16 := congrArg Int32.toInt (hr_same1 hc (j := 16) (by decide +kernel))
    have e22w17 := congrArg Int32.toInt (hr_same1 hc (j := 17) (by decide +kernel))
    have e22w18 := congrArg Int32.toInt (hr_same1 hc (j := 18) (by decide +kernel))
    have e22w15 := congrArg Int32.toInt (hr_same1 hc (j := 15) (by decide +kernel))
    have sm : ∀ j, j < 32 → j ∉ [11, 12, 13, 14, 24, 15, 16, 18, 31] → pvv22 j = pvv0 j := hr_sameX hc (by decide +kernel)
    have len : (pvv22 11).toInt = 0 := by omega
    refine lv_aload_n hx hb dX12_book_25 rfl (lv_at hl 0 rfl) ?_
    refine hr_ic hx hb dX12_book_26 (by decide) (fun z26 hz26 => ?_)
    refine hx_putP B hF hb hU hUx hW hMv hS (ci := 12) (j := 15) (cd := 0) t0 rfl (isF (by decide +kernel)) rfl (by omega) (by omega) (Or.inl rfl) (hr_EO (tk_X1 (C := C)) t0 (by decide)) hI (q0 := 31) rfl (by decide +kernel) dX12_book_27 (fun H locs hW hMv hS => ?_)
    obtain ⟨pvv27, e27⟩ : ∃ f, f = upd pvv22 31 z26 := ⟨_, rfl⟩
    rw [← e27] at hW
    have e27q : pvv27 31 = z26 := by rw [e27, pk_us]
    have e27qi := congrArg Int32.toInt e27q
    have e27w11 : (pvv27 11).toInt = (pvv22 11).toInt := by rw [e27, pk_un (by decide)]
    have e27w16 : (pvv27 16).toInt = (pvv22 16).toInt := by rw [e27, pk_un (by decide)]
    have e27w17 : (pvv27 17).toInt = (pvv22 17).toInt := by rw [e27, pk_un (by decide)]
    have e27w18 : (pvv27 18).toInt = (pvv22 18).toInt := by rw [e27, pk_un (by decide)]
    have e27w15 : (pvv27 15).toInt = (pvv22 15).toInt := by rw [e27, pk_un (by decide)]
    have hp := hr_updS hp (q := 31) (x := z26) (lo := 0) (hi := 4) rfl (by omega) (by omega) (by decide +kernel); rw [← e27] at hp
    have sm : ∀ j, j < 32 → j ∉ [11, 12, 13, 14, 24, 15, 16, 18, 31] → pvv27 j = pvv0 j := fun j h1 h2 => (by rw [e27, pk_un (fun q => h2 (by rw [q]; decide))]; exact sm j h1 h2)
    have len : (pvv27 11).toInt = 0 := by rw [e27, pk_un (by decide)]; exact len
    rw [hz26] at hMv
    refine lv_aload_n hx hb dX12_book_30 rfl (lv_at hl 0 rfl) ?_
    refine hr_ic hx hb dX12_book_31 (by decide) (fun z31 hz31 => ?_)
    refine hx_putN B hF hb hU hUx hW hMv hS (ci := 12) (j := 41) (cd := 0) t0 rfl (isF (by decide +kernel)) rfl (by omega) (by omega) (Or.inl rfl) (tk_EO t0 (fun a h => hun 12 (by decide) _ _ t0 h) (by decide)) (by decide) (by decide +kernel) dX12_book_32 (fun H locs hW hMv hS => ?_)
    obtain ⟨C32, c32⟩ : ∃ f, f = tk_upd C 12 (41) z31 := ⟨_, rfl⟩
    rw [← c32] at hW
    rw [hz31] at hMv
    refine lv_aload_n hx hb dX12_book_35 rfl (lv_at hl 0 rfl) ?_
    refine hr_callV (kc := kc_209) B rfl hb hl (hM.1 _ _ 0 [209] (isM (by decide +kernel)) 209 (by decide)) (b := a0) (As := []) (hx_met (A := [.inr (.inl 12)]) (hx_hr (hH1 _ tk_X1 209 (by decide)) ⟨hr_aR t0, True.intro⟩ hp) (m_12_go hUx k2) ⟨⟨_, rfl, t0⟩, trivial⟩) ⟨hr_aR t0, True.intro⟩ (hx_mk hW hMv) hS rfl (by decide) (by decide) (Nat.le_of_ble_eq_true rfl) dX12_book_36 (fun r pvv36 E36 H locs hpost hW hS => ?_)
    obtain ⟨_, M36, rx, rfl, ⟨rfl, cs, hcs, hca⟩, hrv, e1, e2⟩ := hpost
    have hMv := hx_ev hW
    have hW := hr_mono (fun _ h => h.1) hW
    rw [e2] at hMv
    rcases List.mem_cons.mp hcs with rfl | hcs
    · obtain ⟨hr, hq, hc⟩ := hca
      obtain rfl := hr_rv0 hr
      have hp := hr_std hp hc (by decide +kernel)
      have e36w11 := congrArg Int32.toInt (hr_same1 hc (j := 11) (by decide +kernel))
      have e36w16 := congrArg Int32.toInt (hr_same1 hc (j := 16) (by decide +kernel))
      have e36w17 := congrArg Int32.toInt (hr_same1 hc (j := 17) (by decide +kernel))
      have e36w18 := congrArg Int32.toInt (hr_same1 hc (j := 18) (by decide +kernel))
      have e36w15 := congrArg Int32.toInt (hr_same1 hc (j := 15) (by decide +kernel))
      have sm : ∀ j, j < 32 → j ∉ [11, 12, 13, 14, 24, 15, 16, 18, 31] → pvv36 j = pvv0 j := fun j h1 h2 => (hr_sameX (l := [11, 12, 13, 14, 24, 15, 16, 18, 31]) hc (by decide +kernel) j h1 h2).trans (sm j h1 h2)
      have len : (pvv36 11).toInt = 0 := by omega
      have hL := k3
      refine l39 42 pvv36 C32 _ _ _ ?_ hX1 sm len (fun t j h1 h2 => ?_) (fun i hi => ?_) ?_ ⟨_, _, hMv, hL⟩ hp hl hW hS
      · rw [c32, tk_us]; omega
      · rw [c32, tk_un h2]
      · rw [c32, tk_us] at hi; omega
      · rw [c32, tk_us]; omega
    rcases List.mem_cons.mp hcs with rfl | hcs
    · obtain ⟨hr, hq, hc⟩ := hca
      obtain rfl := hr_rv0 hr
      have hp := hr_std hp hc (by decide +kernel)
      have e36w11 := congrArg Int32.toInt (hr_same1 hc (j := 11) (by decide +kernel))
      have e36w16 := congrArg Int32.toInt (hr_same1 hc (j := 16) (by decide +kernel))
      have e36w17 := congrArg Int32.toInt (hr_same1 hc (j := 17) (by decide +kernel))
      have e36w18 := congrArg Int32.toInt (hr_same1 hc (j := 18) (by decide +kernel))
      have e36w15 := congrArg Int32.toInt (hr_same1 hc (j := 15) (by decide +kernel))
      have sm : ∀ j, j < 32 → j ∉ [11, 12, 13, 14, 24, 15, 16, 18, 31] → pvv36 j = pvv0 j := fun j h1 h2 => (hr_sameX (l := [11, 12, 13, 14, 24, 15, 16, 18, 31]) hc (by decide +kernel) j h1 h2).trans (sm j h1 h2)
      have len : (pvv36 11).toInt = 0 := by omega
      have hL := k3
      refine l39 42 pvv36 C32 _ _ _ ?_ hX1 sm len (fun t j h1 h2 => ?_) (fun i hi => ?_) ?_ ⟨_, _, hMv, hL⟩ hp hl hW hS
      · rw [c32, tk_us]; omega
      · rw [c32, tk_un h2]
      · rw [c32, tk_us] at hi; omega
      · rw [c32, tk_us]; omega
    rcases List.mem_cons.mp hcs with rfl | hcs
    · obtain ⟨hr, hq, hc⟩ := hca
      obtain rfl := hr_rv0 hr
      have hp := hr_std hp hc (by decide +kernel)
      have e36w11 := congrArg Int32.toInt (hr_same1 hc (j := 11) (by decide +kernel))
      have e36w16 := congrArg Int32.toInt (hr_same1 hc (j := 16) (by decide +kernel))
      have e36w17 := congrArg Int32.toInt (hr_same1 hc (j := 17) (by decide +kernel))
      have e36w18 := congrArg Int32.toInt (hr_same1 hc (j := 18) (by decide +kernel))
      have e36w15 := congrArg Int32.toInt (hr_same1 hc (j := 15) (by decide +kernel))
      have sm : ∀ j, j < 32 → j ∉ [11, 12, 13, 14, 24, 15, 16, 18, 31] → pvv36 j = pvv0 j := fun j h1 h2 => (hr_sameX (l := [11, 12, 13, 14, 24, 15, 16, 18, 31]) hc (by decide +kernel) j h1 h2).trans (sm j h1 h2)
      have len : (pvv36 11).toInt = 0 := by omega
      have hL := k3
      refine l39 42 pvv36 C32 _ _ _ ?_ hX1 sm len (fun t j h1 h2 => ?_) (fun i hi => ?_) ?_ ⟨_, _, hMv, hL⟩ hp hl hW hS
      · rw [c32, tk_us]; omega
      · rw [c32, tk_un h2]
      · rw [c32, tk_us] at hi; omega
      · rw [c32, tk_us]; omega
    obtain rfl := List.mem_singleton.mp hcs
    obtain ⟨hr, hq, hc⟩ := hca
    obtain rfl := hr_rv0 hr
    have hp := hr_std hp hc (by decide +kernel)
    have e36w11 := congrArg Int32.toInt (hr_same1 hc (j := 11) (by decide +kernel))
    have e36w16 := congrArg Int32.toInt (hr_same1 hc (j := 16) (by decide +kernel))
    have e36w17 := congrArg Int32.toInt (hr_same1 hc (j := 17) (by decide +kernel))
    have e36w18 := congrArg Int32.toInt (hr_same1 hc (j := 18) (by decide +kernel))
    have e36w15 := congrArg Int32.toInt (hr_same1 hc (j := 15) (by decide +kernel))
    have sm : ∀ j, j < 32 → j ∉ [11, 12, 13, 14, 24, 15, 16, 18, 31] → pvv36 j = pvv0 j := fun j h1 h2 => (hr_sameX (l := [11, 12, 13, 14, 24, 15, 16, 18, 31]) hc (by decide +kernel) j h1 h2).trans (sm j h1 h2)
    have len : (pvv36 11).toInt = 0 := by omega
    have hL := k3
    refine l39 42 pvv36 C32 _ _ _ ?_ hX1 sm len (fun t j h1 h2 => ?_) (fun i hi => ?_) ?_ ⟨_, _, hMv, hL⟩ hp hl hW hS
    · rw [c32, tk_us]; omega
    · rw [c32, tk_un h2]
    · rw [c32, tk_us] at hi; omega
    · rw [c32, tk_us]; omega
  · refine hr_sp hx hb dX12_book_14 (by decide) (by decide) (fun z14 hz14 => ?_)
    exfalso; omega
end HX12

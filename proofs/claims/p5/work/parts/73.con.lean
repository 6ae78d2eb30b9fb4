/-! printed: constructors -/
theorem bv_i {ty : Nat → Option Nat} {X : Nat → Int} {lo hi : Int} {x : Int32} (h1 : lo ≤ x.toInt) (h2 : x.toInt ≤ hi) : ck_v ty X (.inl (lo, hi, [])) (.int x) := ⟨x, rfl, h1, h2, fun d hd => by cases hd⟩
section CON
variable {l : Launch} {D : va_G} {cys : Nat → ClassId}
abbrev tg_10 : List ck_AV := [.inr (.inl 15), .inl (0, 940, [])]
theorem b_d10 : ∀ j, j < 2 → defaultValue (tyX10 j) = vp_V [.null, .int 0] j := fun j hj => match j, hj with
  | 0, _ => rfl
  | 1, _ => rfl
  | n + 2, h => absurd h (by omega)
theorem dX10_init_0 : decode cX10_init 0 = .ok (.aload_n 0, 1) := by decide +kernel
theorem dX10_init_1 : decode cX10_init 1 = .ok (.invokespecial 3, 3) := by decide +kernel
theorem dX10_init_4 : decode cX10_init 4 = .ok (.aload_n 0, 1) := by decide +kernel
theorem dX10_init_5 : decode cX10_init 5 = .ok (.sipush 940, 3) := by decide +kernel
theorem dX10_init_8 : decode cX10_init 8 = .ok (.newarray .byte, 2) := by decide +kernel
theorem dX10_init_10 : decode cX10_init 10 = .ok (.putfield 9, 3) := by decide +kernel
theorem dX10_init_13 : decode cX10_init 13 = .ok (.aload_n 0, 1) := by decide +kernel
theorem dX10_init_14 : decode cX10_init 14 = .ok (.iconst 0, 1) := by decide +kernel
theorem dX10_init_15 : decode cX10_init 15 = .ok (.putfield 15, 3) := by decide +kernel
theorem dX10_init_18 : decode cX10_init 18 = .ok (.return_, 1) := by decide +kernel
set_option maxRecDepth 100000 in
set_option maxHeartbeats 4000000 in
theorem con_10 : bCon l D cys yX10_init cX10_init 1 1 12 1 940 10 [.null, .int 0] 10 [10, 15] := by
  refine bw_enter (o := 10) (by decide) rfl rfl (by decide) ?_
  intro a p e s m below meth c ls hx hb hml hr hlk hts hown hT hin2 hl hA hB
  have hin : ∀ w ∈ wsL_law0, w ∈ Jvm.Cond.code yX10_init cX10_init 1 none :: wsL_law0 := fun w hw => List.mem_cons_of_mem _ hw
  have hK := hT.1
  refine lv_aload_n hx hb dX10_init_0 rfl (lv_at hl 0 rfl) ?_
  refine W.objInit hx hb hown (hts _ (hin _ (in_r4 _ (List.mem_of_getElem? (i := 6) rfl)))) (hts _ (hin _ (in_r1 _ (List.mem_of_getElem? (i := 11) rfl)))) (hts _ (hin _ (in_r1 _ (List.mem_of_getElem? (i := 12) rfl)))) rfl (by rw [hml]; exact hl.1) rfl dX10_init_1 (Nat.le_of_ble_eq_true rfl) (Nat.le_of_ble_eq_true rfl) ?_
  refine W.eq (g2 := F0 m 4 ls []) rfl ?_
  refine lv_aload_n hx hb dX10_init_4 rfl (lv_at hl 0 rfl) ?_
  refine lv_sipush (v := 940) hx hb dX10_init_5 (by decide) ?_
  refine bw_newa hx hb hK hA hB (ty := .byte) (hts _ (hin _ (in_r4 _ (List.mem_of_getElem? (i := 7) rfl)))) rfl 15 1 rfl (by decide) (by decide +kernel) rfl rfl (by decide) (by decide) (by decide) (Nat.le_of_ble_eq_true rfl) (Nat.le_of_ble_eq_true rfl) dX10_init_8 (fun q8 H hB => ?_)
  have hB : bS D cys (bA a s.heap.size) s.heap [(a, .inr (10, [.null, .int 0]))] [(q8, 15)] [15] _ _ := hB
  refine bw_put (v := .ref q8) (fty := (.array .byte)) hx hb hts hin hown hK hin2 hB rfl 0 (by decide) (in_r4 _ (List.mem_of_getElem? (i := 8) rfl)) rfl (by decide +kernel) rfl rfl (Nat.le_of_ble_eq_true rfl) dX10_init_10 (fun H locs hB => ?_)
  have hB : bS D cys (bA a s.heap.size) s.heap [(a, .inr (10, [.ref q8, .int 0]))] [(q8, 15)] [15] _ _ := hB
  refine lv_aload_n hx hb dX10_init_13 rfl (lv_at hl 0 rfl) ?_
  refine lv_iconst (v := 0) hx hb dX10_init_14 (by decide) ?_
  refine bw_put (v := .int 0) (fty := (.int)) hx hb hts hin hown hK hin2 hB rfl 1 (by decide) (in_r4 _ (List.mem_of_getElem? (i := 9) rfl)) rfl (by decide +kernel) rfl rfl (Nat.le_of_ble_eq_true rfl) dX10_init_15 (fun H locs hB => ?_)
  have hB : bS D cys (bA a s.heap.size) s.heap [(a, .inr (10, [.ref q8, .int 0]))] [(q8, 15)] [15] _ _ := hB
  refine bw_ret (zs := [1]) hx hb hr hlk hB rfl rfl (fun ty hty k ft hk => ?_) (by decide +kernel) (List.forall_mem_cons.mpr ⟨rfl, (fun k hk => by cases hk)⟩) ⟨rfl, rfl⟩ dX10_init_18
  exact match k, hk with
    | 0, hk => by cases hk; exact ⟨_, rfl, ⟨_, rfl, hty _ (List.mem_of_getElem? (i := 0) rfl)⟩⟩
    | 1, hk => by cases hk; exact ⟨_, rfl, bv_i (by decide) (by decide)⟩
    | n + 2, hk => by cases hk
abbrev tg_5 : List ck_AV := [.inl (0, 1, []), .inr (.inl 20), .inr (.inl 21)]
theorem b_d5 : ∀ j, j < 3 → defaultValue (tyX5 j) = vp_V [.int 0, .null, .null] j := fun j hj => match j, hj with
  | 0, _ => rfl
  | 1, _ => rfl
  | 2, _ => rfl
  | n + 3, h => absurd h (by omega)
theorem dX5_init_0 : decode cX5_init 0 = .ok (.aload_n 0, 1) := by decide +kernel
theorem dX5_init_1 : decode cX5_init 1 = .ok (.invokespecial 3, 3) := by decide +kernel
theorem dX5_init_4 : decode cX5_init 4 = .ok (.aload_n 0, 1) := by decide +kernel
theorem dX5_init_5 : decode cX5_init 5 = .ok (.iconst 0, 1) := by decide +kernel
theorem dX5_init_6 : decode cX5_init 6 = .ok (.putfield 9, 3) := by decide +kernel
theorem dX5_init_9 : decode cX5_init 9 = .ok (.aload_n 0, 1) := by decide +kernel
theorem dX5_init_10 : decode cX5_init 10 = .ok (.bipush 6, 2) := by decide +kernel
theorem dX5_init_12 : decode cX5_init 12 = .ok (.newarray .int, 2) := by decide +kernel
theorem dX5_init_14 : decode cX5_init 14 = .ok (.putfield 15, 3) := by decide +kernel
theorem dX5_init_17 : decode cX5_init 17 = .ok (.aload_n 0, 1) := by decide +kernel
theorem dX5_init_18 : decode cX5_init 18 = .ok (.bipush 8, 2) := by decide +kernel
theorem dX5_init_20 : decode cX5_init 20 = .ok (.newarray .int, 2) := by decide +kernel
theorem dX5_init_22 : decode cX5_init 22 = .ok (.putfield 19, 3) := by decide +kernel
theorem dX5_init_25 : decode cX5_init 25 = .ok (.return_, 1) := by decide +kernel
set_option maxRecDepth 100000 in
set_option maxHeartbeats 4000000 in
theorem con_5 : bCon l D cys yX5_init cX5_init 1 1 12 2 14 5 [.int 0, .null, .null] 5 [5, 20, 21] := by
  refine bw_enter (o := 5) (by decide) rfl rfl (by decide) ?_
  intro a p e s m below meth c ls hx hb hml hr hlk hts hown hT hin2 hl hA hB
  have hin : ∀ w ∈ wsL_law0, w ∈ Jvm.Cond.code yX5_init cX5_init 1 none :: wsL_law0 := fun w hw => List.mem_cons_of_mem _ hw
  have hK := hT.1
  refine lv_aload_n hx hb dX5_init_0 rfl (lv_at hl 0 rfl) ?_
  refine W.objInit hx hb hown (hts _ (hin _ (in_r10 _ (List.mem_of_getElem? (i := 8) rfl)))) (hts _ (hin _ (in_r1 _ (List.mem_of_getElem? (i := 11) rfl)))) (hts _ (hin _ (in_r1 _ (List.mem_of_getElem? (i := 12) rfl)))) rfl (by rw [hml]; exact hl.1) rfl dX5_init_1 (Nat.le_of_ble_eq_true rfl) (Nat.le_of_ble_eq_true rfl) ?_
  refine W.eq (g2 := F0 m 4 ls []) rfl ?_
  refine lv_aload_n hx hb dX5_init_4 rfl (lv_at hl 0 rfl) ?_
  refine lv_iconst (v := 0) hx hb dX5_init_5 (by decide) ?_
  refine bw_put (v := .int 0) (fty := (.boolean)) hx hb hts hin hown hK hin2 hB rfl 0 (by decide) (in_r10 _ (List.mem_of_getElem? (i := 9) rfl)) rfl (by decide +kernel) rfl rfl (Nat.le_of_ble_eq_true rfl) dX5_init_6 (fun H locs hB => ?_)
  have hB : bS D cys (bA a s.heap.size) s.heap [(a, .inr (5, [.int 0, .null, .null]))] [] [] _ _ := hB
  refine lv_aload_n hx hb dX5_init_9 rfl (lv_at hl 0 rfl) ?_
  refine lv_bipush (v := 6) hx hb dX5_init_10 (by decide) ?_
  refine bw_newa hx hb hK hA hB (ty := .int) (hts _ (hin _ (in_r3 _ (List.mem_of_getElem? (i := 5) rfl)))) rfl 20 0 rfl (by decide) (by decide +kernel) rfl rfl (by decide) (by decide) (by decide) (Nat.le_of_ble_eq_true rfl) (Nat.le_of_ble_eq_true rfl) dX5_init_12 (fun q12 H hB => ?_)
  have hB : bS D cys (bA a s.heap.size) s.heap [(a, .inr (5, [.int 0, .null, .null]))] [(q12, 20)] [20] _ _ := hB
  refine bw_put (v := .ref q12) (fty := (.array .int)) hx hb hts hin hown hK hin2 hB rfl 1 (by decide) (in_r10 _ (List.mem_of_getElem? (i := 10) rfl)) rfl (by decide +kernel) rfl rfl (Nat.le_of_ble_eq_true rfl) dX5_init_14 (fun H locs hB => ?_)
  have hB : bS D cys (bA a s.heap.size) s.heap [(a, .inr (5, [.int 0, .ref q12, .null]))] [(q12, 20)] [20] _ _ := hB
  refine lv_aload_n hx hb dX5_init_17 rfl (lv_at hl 0 rfl) ?_
  refine lv_bipush (v := 8) hx hb dX5_init_18 (by decide) ?_
  refine bw_newa hx hb hK hA hB (ty := .int) (hts _ (hin _ (in_r3 _ (List.mem_of_getElem? (i := 5) rfl)))) rfl 21 0 rfl (by decide) (by decide +kernel) rfl rfl (by decide) (by decide) (by decide) (Nat.le_of_ble_eq_true rfl) (Nat.le_of_ble_eq_true rfl) dX5_init_20 (fun q20 H hB => ?_)
  have hB : bS D cys (bA a s.heap.size) s.heap [(a, .inr (5, [.int 0, .ref q12, .null]))] [(q20, 21), (q12, 20)] [20, 21] _ _ := hB
  refine bw_put (v := .ref q20) (fty := (.array .int)) hx hb hts hin hown hK hin2 hB rfl 2 (by decide) (in_r10 _ (List.mem_of_getElem? (i := 11) rfl)) rfl (by decide +kernel) rfl rfl (Nat.le_of_ble_eq_true rfl) dX5_init_22 (fun H locs hB => ?_)
  have hB : bS D cys (bA a s.heap.size) s.heap [(a, .inr (5, [.int 0, .ref q12, .ref q20]))] [(q20, 21), (q12, 20)] [20, 21] _ _ := hB
  refine bw_ret (zs := []) hx hb hr hlk hB rfl rfl (fun ty hty k ft hk => ?_) (by decide +kernel) (fun k hk => by cases hk) ⟨rfl, rfl⟩ dX5_init_25
  exact match k, hk with
    | 0, hk => by cases hk; exact ⟨_, rfl, bv_i (by decide) (by decide)⟩
    | 1, hk => by cases hk; exact ⟨_, rfl, ⟨_, rfl, hty _ (List.mem_of_getElem? (i := 1) rfl)⟩⟩
    | 2, hk => by cases hk; exact ⟨_, rfl, ⟨_, rfl, hty _ (List.mem_of_getElem? (i := 0) rfl)⟩⟩
    | n + 3, hk => by cases hk
abbrev tg_9 : List ck_AV := [.inl (0, 20, []), .inl (0, 40, []), .inr (.inl 25), .inr (.inl 25), .inr (.inl 25), .inr (.inl 25)]
theorem b_d9 : ∀ j, j < 6 → defaultValue (tyX9 j) = vp_V [.int 0, .int 0, .null, .null, .null, .null] j := fun j hj => match j, hj with
  | 0, _ => rfl
  | 1, _ => rfl
  | 2, _ => rfl
  | 3, _ => rfl
  | 4, _ => rfl
  | 5, _ => rfl
  | n + 6, h => absurd h (by omega)
theorem dX9_init_0 : decode cX9_init 0 = .ok (.aload_n 0, 1) := by decide +kernel
theorem dX9_init_1 : decode cX9_init 1 = .ok (.invokespecial 3, 3) := by decide +kernel
theorem dX9_init_4 : decode cX9_init 4 = .ok (.aload_n 0, 1) := by decide +kernel
theorem dX9_init_5 : decode cX9_init 5 = .ok (.iconst 0, 1) := by decide +kernel
theorem dX9_init_6 : decode cX9_init 6 = .ok (.putfield 9, 3) := by decide +kernel
theorem dX9_init_9 : decode cX9_init 9 = .ok (.aload_n 0, 1) := by decide +kernel
theorem dX9_init_10 : decode cX9_init 10 = .ok (.iconst 0, 1) := by decide +kernel
theorem dX9_init_11 : decode cX9_init 11 = .ok (.putfield 15, 3) := by decide +kernel
theorem dX9_init_14 : decode cX9_init 14 = .ok (.aload_n 0, 1) := by decide +kernel
theorem dX9_init_15 : decode cX9_init 15 = .ok (.bipush 40, 2) := by decide +kernel
theorem dX9_init_17 : decode cX9_init 17 = .ok (.newarray .int, 2) := by decide +kernel
theorem dX9_init_19 : decode cX9_init 19 = .ok (.putfield 18, 3) := by decide +kernel
theorem dX9_init_22 : decode cX9_init 22 = .ok (.aload_n 0, 1) := by decide +kernel
theorem dX9_init_23 : decode cX9_init 23 = .ok (.bipush 40, 2) := by decide +kernel
theorem dX9_init_25 : decode cX9_init 25 = .ok (.newarray .int, 2) := by decide +kernel
theorem dX9_init_27 : decode cX9_init 27 = .ok (.putfield 22, 3) := by decide +kernel
theorem dX9_init_30 : decode cX9_init 30 = .ok (.aload_n 0, 1) := by decide +kernel
theorem dX9_init_31 : decode cX9_init 31 = .ok (.bipush 40, 2) := by decide +kernel
theorem dX9_init_33 : decode cX9_init 33 = .ok (.newarray .int, 2) := by decide +kernel
theorem dX9_init_35 : decode cX9_init 35 = .ok (.putfield 25, 3) := by decide +kernel
theorem dX9_init_38 : decode cX9_init 38 = .ok (.aload_n 0, 1) := by decide +kernel
theorem dX9_init_39 : decode cX9_init 39 = .ok (.bipush 40, 2) := by decide +kernel
theorem dX9_init_41 : decode cX9_init 41 = .ok (.newarray .int, 2) := by decide +kernel
theorem dX9_init_43 : decode cX9_init 43 = .ok (.putfield 28, 3) := by decide +kernel
theorem dX9_init_46 : decode cX9_init 46 = .ok (.return_, 1) := by decide +kernel
set_option maxRecDepth 100000 in
set_option maxHeartbeats 4000000 in
theorem con_9 (t : Nat) (ht : ck_tags[t]? = some (.inl (9, tg_9))) (hz : bzB t [0, 1] = true) : bCon l D cys yX9_init cX9_init 1 1 12 4 160 9 [.int 0, .int 0, .null, .null, .null, .null] t [t, 25, 25, 25, 25] := by
  refine bw_enter (o := 9) (by decide) rfl rfl (by decide) ?_
  intro a p e s m below meth c ls hx hb hml hr hlk hts hown hT hin2 hl hA hB
  have hin : ∀ w ∈ wsL_law0, w ∈ Jvm.Cond.code yX9_init cX9_init 1 none :: wsL_law0 := fun w hw => List.mem_cons_of_mem _ hw
  have hK := hT.1
  refine lv_aload_n hx hb dX9_init_0 rfl (lv_at hl 0 rfl) ?_
  refine W.objInit hx hb hown (hts _ (hin _ (in_r9 _ (List.mem_of_getElem? (i := 6) rfl)))) (hts _ (hin _ (in_r1 _ (List.mem_of_getElem? (i := 11) rfl)))) (hts _ (hin _ (in_r1 _ (List.mem_of_getElem? (i := 12) rfl)))) rfl (by rw [hml]; exact hl.1) rfl dX9_init_1 (Nat.le_of_ble_eq_true rfl) (Nat.le_of_ble_eq_true rfl) ?_
  refine W.eq (g2 := F0 m 4 ls []) rfl ?_
  refine lv_aload_n hx hb dX9_init_4 rfl (lv_at hl 0 rfl) ?_
  refine lv_iconst (v := 0) hx hb dX9_init_5 (by decide) ?_
  refine bw_put (v := .int 0) (fty := (.int)) hx hb hts hin hown hK hin2 hB rfl 0 (by decide) (in_r9 _ (List.mem_of_getElem? (i := 7) rfl)) rfl (by decide +kernel) rfl rfl (Nat.le_of_ble_eq_true rfl) dX9_init_6 (fun H locs hB => ?_)
  have hB : bS D cys (bA a s.heap.size) s.heap [(a, .inr (9, [.int 0, .int 0, .null, .null, .null, .null]))] [] [] _ _ := hB
  refine lv_aload_n hx hb dX9_init_9 rfl (lv_at hl 0 rfl) ?_
  refine lv_iconst (v := 0) hx hb dX9_init_10 (by decide) ?_
  refine bw_put (v := .int 0) (fty := (.int)) hx hb hts hin hown hK hin2 hB rfl 1 (by decide) (in_r9 _ (List.mem_of_getElem? (i := 8) rfl)) rfl (by decide +kernel) rfl rfl (Nat.le_of_ble_eq_true rfl) dX9_init_11 (fun H locs hB => ?_)
  have hB : bS D cys (bA a s.heap.size) s.heap [(a, .inr (9, [.int 0, .int 0, .null, .null, .null, .null]))] [] [] _ _ := hB
  refine lv_aload_n hx hb dX9_init_14 rfl (lv_at hl 0 rfl) ?_
  refine lv_bipush (v := 40) hx hb dX9_init_15 (by decide) ?_
  refine bw_newa hx hb hK hA hB (ty := .int) (hts _ (hin _ (in_r3 _ (List.mem_of_getElem? (i := 5) rfl)))) rfl 25 0 rfl (by decide) (by decide +kernel) rfl rfl (by decide) (by decide) (by decide) (Nat.le_of_ble_eq_true rfl) (Nat.le_of_ble_eq_true rfl) dX9_init_17 (fun q17 H hB => ?_)
  have hB : bS D cys (bA a s.heap.size) s.heap [(a, .inr (9, [.int 0, .int 0, .null, .null, .null, .null]))] [(q17, 25)] [25] _ _ := hB
  refine bw_put (v := .ref q17) (fty := (.array .int)) hx hb hts hin hown hK hin2 hB rfl 2 (by decide) (in_r9 _ (List.mem_of_getElem? (i := 9) rfl)) rfl (by decide +kernel) rfl rfl (Nat.le_of_ble_eq_true rfl) dX9_init_19 (fun H locs hB => ?_)
  have hB : bS D cys (bA a s.heap.size) s.heap [(a, .inr (9, [.int 0, .int 0, .ref q17, .null, .null, .null]))] [(q17, 25)] [25] _ _ := hB
  refine lv_aload_n hx hb dX9_init_22 rfl (lv_at hl 0 rfl) ?_
  refine lv_bipush (v := 40) hx hb dX9_init_23 (by decide) ?_
  refine bw_newa hx hb hK hA hB (ty := .int) (hts _ (hin _ (in_r3 _ (List.mem_of_getElem? (i := 5) rfl)))) rfl 25 0 rfl (by decide) (by decide +kernel) rfl rfl (by decide) (by decide) (by decide) (Nat.le_of_ble_eq_true rfl) (Nat.le_of_ble_eq_true rfl) dX9_init_25 (fun q25 H hB => ?_)
  have hB : bS D cys (bA a s.heap.size) s.heap [(a, .inr (9, [.int 0, .int 0, .ref q17, .null, .null, .null]))] [(q25, 25), (q17, 25)] [25, 25] _ _ := hB
  refine bw_put (v := .ref q25) (fty := (.array .int)) hx hb hts hin hown hK hin2 hB rfl 3 (by decide) (in_r9 _ (List.mem_of_getElem? (i := 10) rfl)) rfl (by decide +kernel) rfl rfl (Nat.le_of_ble_eq_true rfl) dX9_init_27 (fun H locs hB => ?_)
  have hB : bS D cys (bA a s.heap.size) s.heap [(a, .inr (9, [.int 0, .int 0, .ref q17, .ref q25, .null, .null]))] [(q25, 25), (q17, 25)] [25, 25] _ _ := hB
  refine lv_aload_n hx hb dX9_init_30 rfl (lv_at hl 0 rfl) ?_
  refine lv_bipush (v := 40) hx hb dX9_init_31 (by decide) ?_
  refine bw_newa hx hb hK hA hB (ty := .int) (hts _ (hin _ (in_r3 _ (List.mem_of_getElem? (i := 5) rfl)))) rfl 25 0 rfl (by decide) (by decide +kernel) rfl rfl (by decide) (by decide) (by decide) (Nat.le_of_ble_eq_true rfl) (Nat.le_of_ble_eq_true rfl) dX9_init_33 (fun q33 H hB => ?_)
  have hB : bS D cys (bA a s.heap.size) s.heap [(a, .inr (9, [.int 0, .int 0, .ref q17, .ref q25, .null, .null]))] [(q33, 25), (q25, 25), (q17, 25)] [25, 25, 25] _ _ := hB
  refine bw_put (v := .ref q33) (fty := (.array .int)) hx hb hts hin hown hK hin2 hB rfl 4 (by decide) (in_r9 _ (List.mem_of_getElem? (i := 11) rfl)) rfl (by decide +kernel) rfl rfl (Nat.le_of_ble_eq_true rfl) dX9_init_35 (fun H locs hB => ?_)
  have hB : bS D cys (bA a s.heap.size) s.heap [(a, .inr (9, [.int 0, .int 0, .ref q17, .ref q25, .ref q33, .null]))] [(q33, 25), (q25, 25), (q17, 25)] [25, 25, 25] _ _ := hB
  refine lv_aload_n hx hb dX9_init_38 rfl (lv_at hl 0 rfl) ?_
  refine lv_bipush (v := 40) hx hb dX9_init_39 (by decide) ?_
  refine bw_newa hx hb hK hA hB (ty := .int) (hts _ (hin _ (in_r3 _ (List.mem_of_getElem? (i := 5) rfl)))) rfl 25 0 rfl (by decide) (by decide +kernel) rfl rfl (by decide) (by decide) (by decide) (Nat.le_of_ble_eq_true rfl) (Nat.le_of_ble_eq_true rfl) dX9_init_41 (fun q41 H hB => ?_)
  have hB : bS D cys (bA a s.heap.size) s.heap [(a, .inr (9, [.int 0, .int 0, .ref q17, .ref q25, .ref q33, .null]))] [(q41, 25), (q33, 25), (q25, 25), (q17, 25)] [25, 25, 25, 25] _ _ := hB
  refine bw_put (v := .ref q41) (fty := (.array .int)) hx hb hts hin hown hK hin2 hB rfl 5 (by decide) (in_r9 _ (List.mem_of_getElem? (i := 12) rfl)) rfl (by decide +kernel) rfl rfl (Nat.le_of_ble_eq_true rfl) dX9_init_43 (fun H locs hB => ?_)
  have hB : bS D cys (bA a s.heap.size) s.heap [(a, .inr (9, [.int 0, .int 0, .ref q17, .ref q25, .ref q33, .ref q41]))] [(q41, 25), (q33, 25), (q25, 25), (q17, 25)] [25, 25, 25, 25] _ _ := hB
  refine bw_ret (zs := [0, 1]) hx hb hr hlk hB ht rfl (fun ty hty k ft hk => ?_) hz (List.forall_mem_cons.mpr ⟨rfl, (List.forall_mem_cons.mpr ⟨rfl, (fun k hk => by cases hk)⟩)⟩) ⟨rfl, rfl⟩ dX9_init_46
  exact match k, hk with
    | 0, hk => by cases hk; exact ⟨_, rfl, bv_i (by decide) (by decide)⟩
    | 1, hk => by cases hk; exact ⟨_, rfl, bv_i (by decide) (by decide)⟩
    | 2, hk => by cases hk; exact ⟨_, rfl, ⟨_, rfl, hty _ (List.mem_of_getElem? (i := 3) rfl)⟩⟩
    | 3, hk => by cases hk; exact ⟨_, rfl, ⟨_, rfl, hty _ (List.mem_of_getElem? (i := 2) rfl)⟩⟩
    | 4, hk => by cases hk; exact ⟨_, rfl, ⟨_, rfl, hty _ (List.mem_of_getElem? (i := 1) rfl)⟩⟩
    | 5, hk => by cases hk; exact ⟨_, rfl, ⟨_, rfl, hty _ (List.mem_of_getElem? (i := 0) rfl)⟩⟩
    | n + 6, hk => by cases hk
abbrev tg_6p : List ck_AV := [.inl (0, 6, []), .inl (0, 6, []), .inl (0, 8, []), .inl (0, 6, []), .inl (0, 12, []), .inl (0, 1, []), .inr (.inl 67), .inr (.inl 68), .inr (.inl 69), .inr (.inl 70), .inr (.inl 71), .inr (.inl 72), .inr (.inl 73), .inr (.inl 74), .inr (.inl 75), .inr (.inl 76), .inr (.inl 77), .inr (.inl 78), .inr (.inl 79), .inr (.inl 80)]
theorem b_d6 : ∀ j, j < 20 → defaultValue (tyX6 j) = vp_V [.int 0, .int 0, .int 0, .int 0, .int 0, .int 0, .null, .null, .null, .null, .null, .null, .null, .null, .null, .null, .null, .null, .null, .null] j := fun j hj => match j, hj with
  | 0, _ => rfl
  | 1, _ => rfl
  | 2, _ => rfl
  | 3, _ => rfl
  | 4, _ => rfl
  | 5, _ => rfl
  | 6, _ => rfl
  | 7, _ => rfl
  | 8, _ => rfl
  | 9, _ => rfl
  | 10, _ => rfl
  | 11, _ => rfl
  | 12, _ => rfl
  | 13, _ => rfl
  | 14, _ => rfl
  | 15, _ => rfl
  | 16, _ => rfl
  | 17, _ => rfl
  | 18, _ => rfl
  | 19, _ => rfl
  | n + 20, h => absurd h (by omega)
theorem dX6_init_0 : decode cX6_init 0 = .ok (.aload_n 0, 1) := by decide +kernel
theorem dX6_init_1 : decode cX6_init 1 = .ok (.invokespecial 3, 3) := by decide +kernel
theorem dX6_init_4 : decode cX6_init 4 = .ok (.aload_n 0, 1) := by decide +kernel
theorem dX6_init_5 : decode cX6_init 5 = .ok (.iconst 0, 1) := by decide +kernel
theorem dX6_init_6 : decode cX6_init 6 = .ok (.putfield 9, 3) := by decide +kernel
theorem dX6_init_9 : decode cX6_init 9 = .ok (.aload_n 0, 1) := by decide +kernel
theorem dX6_init_10 : decode cX6_init 10 = .ok (.iconst 0, 1) := by decide +kernel
theorem dX6_init_11 : decode cX6_init 11 = .ok (.putfield 15, 3) := by decide +kernel
theorem dX6_init_14 : decode cX6_init 14 = .ok (.aload_n 0, 1) := by decide +kernel
theorem dX6_init_15 : decode cX6_init 15 = .ok (.iconst 0, 1) := by decide +kernel
theorem dX6_init_16 : decode cX6_init 16 = .ok (.putfield 18, 3) := by decide +kernel
theorem dX6_init_19 : decode cX6_init 19 = .ok (.aload_n 0, 1) := by decide +kernel
theorem dX6_init_20 : decode cX6_init 20 = .ok (.iconst 0, 1) := by decide +kernel
theorem dX6_init_21 : decode cX6_init 21 = .ok (.putfield 21, 3) := by decide +kernel
theorem dX6_init_24 : decode cX6_init 24 = .ok (.aload_n 0, 1) := by decide +kernel
theorem dX6_init_25 : decode cX6_init 25 = .ok (.iconst 0, 1) := by decide +kernel
theorem dX6_init_26 : decode cX6_init 26 = .ok (.putfield 24, 3) := by decide +kernel
theorem dX6_init_29 : decode cX6_init 29 = .ok (.aload_n 0, 1) := by decide +kernel
theorem dX6_init_30 : decode cX6_init 30 = .ok (.iconst 0, 1) := by decide +kernel
theorem dX6_init_31 : decode cX6_init 31 = .ok (.putfield 27, 3) := by decide +kernel
theorem dX6_init_34 : decode cX6_init 34 = .ok (.aload_n 0, 1) := by decide +kernel
theorem dX6_init_35 : decode cX6_init 35 = .ok (.bipush 6, 2) := by decide +kernel
theorem dX6_init_37 : decode cX6_init 37 = .ok (.newarray .long, 2) := by decide +kernel
theorem dX6_init_39 : decode cX6_init 39 = .ok (.putfield 31, 3) := by decide +kernel
theorem dX6_init_42 : decode cX6_init 42 = .ok (.aload_n 0, 1) := by decide +kernel
theorem dX6_init_43 : decode cX6_init 43 = .ok (.bipush 6, 2) := by decide +kernel
theorem dX6_init_45 : decode cX6_init 45 = .ok (.newarray .long, 2) := by decide +kernel
theorem dX6_init_47 : decode cX6_init 47 = .ok (.putfield 35, 3) := by decide +kernel
theorem dX6_init_50 : decode cX6_init 50 = .ok (.aload_n 0, 1) := by decide +kernel
theorem dX6_init_51 : decode cX6_init 51 = .ok (.bipush 8, 2) := by decide +kernel
theorem dX6_init_53 : decode cX6_init 53 = .ok (.newarray .long, 2) := by decide +kernel
theorem dX6_init_55 : decode cX6_init 55 = .ok (.putfield 38, 3) := by decide +kernel
theorem dX6_init_58 : decode cX6_init 58 = .ok (.aload_n 0, 1) := by decide +kernel
theorem dX6_init_59 : decode cX6_init 59 = .ok (.bipush 6, 2) := by decide +kernel
theorem dX6_init_61 : decode cX6_init 61 = .ok (.newarray .int, 2) := by decide +kernel
theorem dX6_init_63 : decode cX6_init 63 = .ok (.putfield 41, 3) := by decide +kernel
theorem dX6_init_66 : decode cX6_init 66 = .ok (.aload_n 0, 1) := by decide +kernel
theorem dX6_init_67 : decode cX6_init 67 = .ok (.bipush 6, 2) := by decide +kernel
theorem dX6_init_69 : decode cX6_init 69 = .ok (.newarray .int, 2) := by decide +kernel
theorem dX6_init_71 : decode cX6_init 71 = .ok (.putfield 45, 3) := by decide +kernel
theorem dX6_init_74 : decode cX6_init 74 = .ok (.aload_n 0, 1) := by decide +kernel
theorem dX6_init_75 : decode cX6_init 75 = .ok (.bipush 6, 2) := by decide +kernel
theorem dX6_init_77 : decode cX6_init 77 = .ok (.newarray .int, 2) := by decide +kernel
theorem dX6_init_79 : decode cX6_init 79 = .ok (.putfield 48, 3) := by decide +kernel
theorem dX6_init_82 : decode cX6_init 82 = .ok (.aload_n 0, 1) := by decide +kernel
theorem dX6_init_83 : decode cX6_init 83 = .ok (.bipush 8, 2) := by decide +kernel
theorem dX6_init_85 : decode cX6_init 85 = .ok (.newarray .int, 2) := by decide +kernel
theorem dX6_init_87 : decode cX6_init 87 = .ok (.putfield 51, 3) := by decide +kernel
theorem dX6_init_90 : decode cX6_init 90 = .ok (.aload_n 0, 1) := by decide +kernel
theorem dX6_init_91 : decode cX6_init 91 = .ok (.bipush 8, 2) := by decide +kernel
theorem dX6_init_93 : decode cX6_init 93 = .ok (.newarray .int, 2) := by decide +kernel
theorem dX6_init_95 : decode cX6_init 95 = .ok (.putfield 54, 3) := by decide +kernel
theorem dX6_init_98 : decode cX6_init 98 = .ok (.aload_n 0, 1) := by decide +kernel
theorem dX6_init_99 : decode cX6_init 99 = .ok (.bipush 8, 2) := by decide +kernel
theorem dX6_init_101 : decode cX6_init 101 = .ok (.newarray .int, 2) := by decide +kernel
theorem dX6_init_103 : decode cX6_init 103 = .ok (.putfield 57, 3) := by decide +kernel
theorem dX6_init_106 : decode cX6_init 106 = .ok (.aload_n 0, 1) := by decide +kernel
theorem dX6_init_107 : decode cX6_init 107 = .ok (.bipush 8, 2) := by decide +kernel
theorem dX6_init_109 : decode cX6_init 109 = .ok (.newarray .int, 2) := by decide +kernel
theorem dX6_init_111 : decode cX6_init 111 = .ok (.putfield 60, 3) := by decide +kernel
theorem dX6_init_114 : decode cX6_init 114 = .ok (.aload_n 0, 1) := by decide +kernel
theorem dX6_init_115 : decode cX6_init 115 = .ok (.bipush 48, 2) := by decide +kernel
theorem dX6_init_117 : decode cX6_init 117 = .ok (.newarray .int, 2) := by decide +kernel
theorem dX6_init_119 : decode cX6_init 119 = .ok (.putfield 63, 3) := by decide +kernel
theorem dX6_init_122 : decode cX6_init 122 = .ok (.aload_n 0, 1) := by decide +kernel
theorem dX6_init_123 : decode cX6_init 123 = .ok (.bipush 12, 2) := by decide +kernel
theorem dX6_init_125 : decode cX6_init 125 = .ok (.newarray .int, 2) := by decide +kernel
theorem dX6_init_127 : decode cX6_init 127 = .ok (.putfield 66, 3) := by decide +kernel
theorem dX6_init_130 : decode cX6_init 130 = .ok (.aload_n 0, 1) := by decide +kernel
theorem dX6_init_131 : decode cX6_init 131 = .ok (.bipush 12, 2) := by decide +kernel
theorem dX6_init_133 : decode cX6_init 133 = .ok (.newarray .int, 2) := by decide +kernel
theorem dX6_init_135 : decode cX6_init 135 = .ok (.putfield 69, 3) := by decide +kernel
theorem dX6_init_138 : decode cX6_init 138 = .ok (.aload_n 0, 1) := by decide +kernel
theorem dX6_init_139 : decode cX6_init 139 = .ok (.bipush 12, 2) := by decide +kernel
theorem dX6_init_141 : decode cX6_init 141 = .ok (.newarray .int, 2) := by decide +kernel
theorem dX6_init_143 : decode cX6_init 143 = .ok (.putfield 72, 3) := by decide +kernel
theorem dX6_init_146 : decode cX6_init 146 = .ok (.return_, 1) := by decide +kernel
set_option maxRecDepth 100000 in
set_option maxHeartbeats 4000000 in
theorem con_6p : bCon l D cys yX6_init cX6_init 1 1 12 14 154 6 [.int 0, .int 0, .int 0, .int 0, .int 0, .int 0, .null, .null, .null, .null, .null, .null, .null, .null, .null, .null, .null, .null, .null, .null] 6 [6, 67, 68, 69, 70, 71, 72, 73, 74, 75, 76, 77, 78, 79, 80] := by
  refine bw_enter (o := 6) (by decide) rfl rfl (by decide) ?_
  intro a p e s m below meth c ls hx hb hml hr hlk hts hown hT hin2 hl hA hB
  have hin : ∀ w ∈ wsL_law0, w ∈ Jvm.Cond.code yX6_init cX6_init 1 none :: wsL_law0 := fun w hw => List.mem_cons_of_mem _ hw
  have hK := hT.1
  refine lv_aload_n hx hb dX6_init_0 rfl (lv_at hl 0 rfl) ?_
  refine W.objInit hx hb hown (hts _ (hin _ (in_r7 _ (List.mem_of_getElem? (i := 1) rfl)))) (hts _ (hin _ (in_r1 _ (List.mem_of_getElem? (i := 11) rfl)))) (hts _ (hin _ (in_r1 _ (List.mem_of_getElem? (i := 12) rfl)))) rfl (by rw [hml]; exact hl.1) rfl dX6_init_1 (Nat.le_of_ble_eq_true rfl) (Nat.le_of_ble_eq_true rfl) ?_
  refine W.eq (g2 := F0 m 4 ls []) rfl ?_
  refine lv_aload_n hx hb dX6_init_4 rfl (lv_at hl 0 rfl) ?_
  refine lv_iconst (v := 0) hx hb dX6_init_5 (by decide) ?_
  refine bw_put (v := .int 0) (fty := (.int)) hx hb hts hin hown hK hin2 hB rfl 0 (by decide) (in_r7 _ (List.mem_of_getElem? (i := 2) rfl)) rfl (by decide +kernel) rfl rfl (Nat.le_of_ble_eq_true rfl) dX6_init_6 (fun H locs hB => ?_)
  have hB : bS D cys (bA a s.heap.size) s.heap [(a, .inr (6, [.int 0, .int 0, .int 0, .int 0, .int 0, .int 0, .null, .null, .null, .null, .null, .null, .null, .null, .null, .null, .null, .null, .null, .null]))] [] [] _ _ := hB
  refine lv_aload_n hx hb dX6_init_9 rfl (lv_at hl 0 rfl) ?_
  refine lv_iconst (v := 0) hx hb dX6_init_10 (by decide) ?_
  refine bw_put (v := .int 0) (fty := (.int)) hx hb hts hin hown hK hin2 hB rfl 1 (by decide) (in_r7 _ (List.mem_of_getElem? (i := 3) rfl)) rfl (by decide +kernel) rfl rfl (Nat.le_of_ble_eq_true rfl) dX6_init_11 (fun H locs hB => ?_)
  have hB : bS D cys (bA a s.heap.size) s.heap [(a, .inr (6, [.int 0, .int 0, .int 0, .int 0, .int 0, .int 0, .null, .null, .null, .null, .null, .null, .null, .null, .null, .null, .null, .null, .null, .null]))] [] [] _ _ := hB
  refine lv_aload_n hx hb dX6_init_14 rfl (lv_at hl 0 rfl) ?_
  refine lv_iconst (v := 0) hx hb dX6_init_15 (by decide) ?_
  refine bw_put (v := .int 0) (fty := (.int)) hx hb hts hin hown hK hin2 hB rfl 2 (by decide) (in_r7 _ (List.mem_of_getElem? (i := 4) rfl)) rfl (by decide +kernel) rfl rfl (Nat.le_of_ble_eq_true rfl) dX6_init_16 (fun H locs hB => ?_)
  have hB : bS D cys (bA a s.heap.size) s.heap [(a, .inr (6, [.int 0, .int 0, .int 0, .int 0, .int 0, .int 0, .null, .null, .null, .null, .null, .null, .null, .null, .null, .null, .null, .null, .null, .null]))] [] [] _ _ := hB
  refine lv_aload_n hx hb dX6_init_19 rfl (lv_at hl 0 rfl) ?_
  refine lv_iconst (v := 0) hx hb dX6_init_20 (by decide) ?_
  refine bw_put (v := .int 0) (fty := (.int)) hx hb hts hin hown hK hin2 hB rfl 3 (by decide) (in_r7 _ (List.mem_of_getElem? (i := 5) rfl)) rfl (by decide +kernel) rfl rfl (Nat.le_of_ble_eq_true rfl) dX6_init_21 (fun H locs hB => ?_)
  have hB : bS D cys (bA a s.heap.size) s.heap [(a, .inr (6, [.int 0, .int 0, .int 0, .int 0, .int 0, .int 0, .null, .null, .null, .null, .null, .null, .null, .null, .null, .null, .null, .null, .null, .null]))] [] [] _ _ := hB
  refine lv_aload_n hx hb dX6_init_24 rfl (lv_at hl 0 rfl) ?_
  refine lv_iconst (v := 0) hx hb dX6_init_25 (by decide) ?_
  refine bw_put (v := .int 0) (fty := (.int)) hx hb hts hin hown hK hin2 hB rfl 4 (by decide) (in_r7 _ (List.mem_of_getElem? (i := 6) rfl)) rfl (by decide +kernel) rfl rfl (Nat.le_of_ble_eq_true rfl) dX6_init_26 (fun H locs hB => ?_)
  have hB : bS D cys (bA a s.heap.size) s.heap [(a, .inr (6, [.int 0, .int 0, .int 0, .int 0, .int 0, .int 0, .null, .null, .null, .null, .null, .null, .null, .null, .null, .null, .null, .null, .null, .null]))] [] [] _ _ := hB
  refine lv_aload_n hx hb dX6_init_29 rfl (lv_at hl 0 rfl) ?_
  refine lv_iconst (v := 0) hx hb dX6_init_30 (by decide) ?_
  refine bw_put (v := .int 0) (fty := (.boolean)) hx hb hts hin hown hK hin2 hB rfl 5 (by decide) (in_r7 _ (List.mem_of_getElem? (i := 7) rfl)) rfl (by decide +kernel) rfl rfl (Nat.le_of_ble_eq_true rfl) dX6_init_31 (fun H locs hB => ?_)
  have hB : bS D cys (bA a s.heap.size) s.heap [(a, .inr (6, [.int 0, .int 0, .int 0, .int 0, .int 0, .int 0, .null, .null, .null, .null, .null, .null, .null, .null, .null, .null, .null, .null, .null, .null]))] [] [] _ _ := hB
  refine lv_aload_n hx hb dX6_init_34 rfl (lv_at hl 0 rfl) ?_
  refine lv_bipush (v := 6) hx hb dX6_init_35 (by decide) ?_
  refine bw_newl hx hb hK hA hB (hts _ (hin _ (in_r1 _ (List.mem_of_getElem? (i := 6) rfl)))) 67 rfl (by decide +kernel) (by decide) (by decide) (by decide) (by decide) (Nat.le_of_ble_eq_true rfl) (Nat.le_of_ble_eq_true rfl) dX6_init_37 (fun q37 H hB => ?_)
  have hB : bS D cys (bA a s.heap.size) s.heap [(a, .inr (6, [.int 0, .int 0, .int 0, .int 0, .int 0, .int 0, .null, .null, .null, .null, .null, .null, .null, .null, .null, .null, .null, .null, .null, .null]))] [(q37, 67)] [67] _ _ := hB
  refine bw_put (v := .ref q37) (fty := (.array .long)) hx hb hts hin hown hK hin2 hB rfl 6 (by decide) (in_r7 _ (List.mem_of_getElem? (i := 8) rfl)) rfl (by decide +kernel) rfl rfl (Nat.le_of_ble_eq_true rfl) dX6_init_39 (fun H locs hB => ?_)
  have hB : bS D cys (bA a s.heap.size) s.heap [(a, .inr (6, [.int 0, .int 0, .int 0, .int 0, .int 0, .int 0, .ref q37, .null, .null, .null, .null, .null, .null, .null, .null, .null, .null, .null, .null, .null]))] [(q37, 67)] [67] _ _ := hB
  refine lv_aload_n hx hb dX6_init_42 rfl (lv_at hl 0 rfl) ?_
  refine lv_bipush (v := 6) hx hb dX6_init_43 (by decide) ?_
  refine bw_newl hx hb hK hA hB (hts _ (hin _ (in_r1 _ (List.mem_of_getElem? (i := 6) rfl)))) 68 rfl (by decide +kernel) (by decide) (by decide) (by decide) (by decide) (Nat.le_of_ble_eq_true rfl) (Nat.le_of_ble_eq_true rfl) dX6_init_45 (fun q45 H hB => ?_)
  have hB : bS D cys (bA a s.heap.size) s.heap [(a, .inr (6, [.int 0, .int 0, .int 0, .int 0, .int 0, .int 0, .ref q37, .null, .null, .null, .null, .null, .null, .null, .null, .null, .null, .null, .null, .null]))] [(q45, 68), (q37, 67)] [67, 68] _ _ := hB
  refine bw_put (v := .ref q45) (fty := (.array .long)) hx hb hts hin hown hK hin2 hB rfl 7 (by decide) (in_r7 _ (List.mem_of_getElem? (i := 9) rfl)) rfl (by decide +kernel) rfl rfl (Nat.le_of_ble_eq_true rfl) dX6_init_47 (fun H locs hB => ?_)
  have hB : bS D cys (bA a s.heap.size) s.heap [(a, .inr (6, [.int 0, .int 0, .int 0, .int 0, .int 0, .int 0, .ref q37, .ref q45, .null, .null, .null, .null, .null, .null, .null, .null, .null, .null, .null, .null]))] [(q45, 68), (q37, 67)] [67, 68] _ _ := hB
  refine lv_aload_n hx hb dX6_init_50 rfl (lv_at hl 0 rfl) ?_
  refine lv_bipush (v := 8) hx hb dX6_init_51 (by decide) ?_
  refine bw_newl hx hb hK hA hB (hts _ (hin _ (in_r1 _ (List.mem_of_getElem? (i := 6) rfl)))) 69 rfl (by decide +kernel) (by decide) (by decide) (by decide) (by decide) (Nat.le_of_ble_eq_true rfl) (Nat.le_of_ble_eq_true rfl) dX6_init_53 (fun q53 H hB => ?_)
  have hB : bS D cys (bA a s.heap.size) s.heap [(a, .inr (6, [.int 0, .int 0, .int 0, .int 0, .int 0, .int 0, .ref q37, .ref q45, .null, .null, .null, .null, .null, .null, .null, .null, .null, .null, .null, .null]))] [(q53, 69), (q45, 68), (q37, 67)] [67, 68, 69] _ _ := hB
  refine bw_put (v := .ref q53) (fty := (.array .long)) hx hb hts hin hown hK hin2 hB rfl 8 (by decide) (in_r7 _ (List.mem_of_getElem? (i := 10) rfl)) rfl (by decide +kernel) rfl rfl (Nat.le_of_ble_eq_true rfl) dX6_init_55 (fun H locs hB => ?_)
  have hB : bS D cys (bA a s.heap.size) s.heap [(a, .inr (6, [.int 0, .int 0, .int 0, .int 0, .int 0, .int 0, .ref q37, .ref q45, .ref q53, .null, .null, .null, .null, .null, .null, .null, .null, .null, .null, .null]))] [(q53, 69), (q45, 68), (q37, 67)] [67, 68, 69] _ _ := hB
  refine lv_aload_n hx hb dX6_init_58 rfl (lv_at hl 0 rfl) ?_
  refine lv_bipush (v := 6) hx hb dX6_init_59 (by decide) ?_
  refine bw_newa hx hb hK hA hB (ty := .int) (hts _ (hin _ (in_r3 _ (List.mem_of_getElem? (i := 5) rfl)))) rfl 70 0 rfl (by decide) (by decide +kernel) rfl rfl (by decide) (by decide) (by decide) (Nat.le_of_ble_eq_true rfl) (Nat.le_of_ble_eq_true rfl) dX6_init_61 (fun q61 H hB => ?_)
  have hB : bS D cys (bA a s.heap.size) s.heap [(a, .inr (6, [.int 0, .int 0, .int 0, .int 0, .int 0, .int 0, .ref q37, .ref q45, .ref q53, .null, .null, .null, .null, .null, .null, .null, .null, .null, .null, .null]))] [(q61, 70), (q53, 69), (q45, 68), (q37, 67)] [67, 68, 69, 70] _ _ := hB
  refine bw_put (v := .ref q61) (fty := (.array .int)) hx hb hts hin hown hK hin2 hB rfl 9 (by decide) (in_r7 _ (List.mem_of_getElem? (i := 11) rfl)) rfl (by decide +kernel) rfl rfl (Nat.le_of_ble_eq_true rfl) dX6_init_63 (fun H locs hB => ?_)
  have hB : bS D cys (bA a s.heap.size) s.heap [(a, .inr (6, [.int 0, .int 0, .int 0, .int 0, .int 0, .int 0, .ref q37, .ref q45, .ref q53, .ref q61, .null, .null, .null, .null, .null, .null, .null, .null, .null, .null]))] [(q61, 70), (q53, 69), (q45, 68), (q37, 67)] [67, 68, 69, 70] _ _ := hB
  refine lv_aload_n hx hb dX6_init_66 rfl (lv_at hl 0 rfl) ?_
  refine lv_bipush (v := 6) hx hb dX6_init_67 (by decide) ?_
  refine bw_newa hx hb hK hA hB (ty := .int) (hts _ (hin _ (in_r3 _ (List.mem_of_getElem? (i := 5) rfl)))) rfl 71 0 rfl (by decide) (by decide +kernel) rfl rfl (by decide) (by decide) (by decide) (Nat.le_of_ble_eq_true rfl) (Nat.le_of_ble_eq_true rfl) dX6_init_69 (fun q69 H hB => ?_)
  have hB : bS D cys (bA a s.heap.size) s.heap [(a, .inr (6, [.int 0, .int 0, .int 0, .int 0, .int 0, .int 0, .ref q37, .ref q45, .ref q53, .ref q61, .null, .null, .null, .null, .null, .null, .null, .null, .null, .null]))] [(q69, 71), (q61, 70), (q53, 69), (q45, 68), (q37, 67)] [67, 68, 69, 70, 71] _ _ := hB
  refine bw_put (v := .ref q69) (fty := (.array .int)) hx hb hts hin hown hK hin2 hB rfl 10 (by decide) (in_r7 _ (List.mem_of_getElem? (i := 12) rfl)) rfl (by decide +kernel) rfl rfl (Nat.le_of_ble_eq_true rfl) dX6_init_71 (fun H locs hB => ?_)
  have hB : bS D cys (bA a s.heap.size) s.heap [(a, .inr (6, [.int 0, .int 0, .int 0, .int 0, .int 0, .int 0, .ref q37, .ref q45, .ref q53, .ref q61, .ref q69, .null, .null, .null, .null, .null, .null, .null, .null, .null]))] [(q69, 71), (q61, 70), (q53, 69), (q45, 68), (q37, 67)] [67, 68, 69, 70, 71] _ _ := hB
  refine lv_aload_n hx hb dX6_init_74 rfl (lv_at hl 0 rfl) ?_
  refine lv_bipush (v := 6) hx hb dX6_init_75 (by decide) ?_
  refine bw_newa hx hb hK hA hB (ty := .int) (hts _ (hin _ (in_r3 _ (List.mem_of_getElem? (i := 5) rfl)))) rfl 72 0 rfl (by decide) (by decide +kernel) rfl rfl (by decide) (by decide) (by decide) (Nat.le_of_ble_eq_true rfl) (Nat.le_of_ble_eq_true rfl) dX6_init_77 (fun q77 H hB => ?_)
  have hB : bS D cys (bA a s.heap.size) s.heap [(a, .inr (6, [.int 0, .int 0, .int 0, .int 0, .int 0, .int 0, .ref q37, .ref q45, .ref q53, .ref q61, .ref q69, .null, .null, .null, .null, .null, .null, .null, .null, .null]))] [(q77, 72), (q69, 71), (q61, 70), (q53, 69), (q45, 68), (q37, 67)] [67, 68, 69, 70, 71, 72] _ _ := hB
  refine bw_put (v := .ref q77) (fty := (.array .int)) hx hb hts hin hown hK hin2 hB rfl 11 (by decide) (in_r7 _ (List.mem_of_getElem? (i := 13) rfl)) rfl (by decide +kernel) rfl rfl (Nat.le_of_ble_eq_true rfl) dX6_init_79 (fun H locs hB => ?_)
  have hB : bS D cys (bA a s.heap.size) s.heap [(a, .inr (6, [.int 0, .int 0, .int 0, .int 0, .int 0, .int 0, .ref q37, .ref q45, .ref q53, .ref q61, .ref q69, .ref q77, .null, .null, .null, .null, .null, .null, .null, .null]))] [(q77, 72), (q69, 71), (q61, 70), (q53, 69), (q45, 68), (q37, 67)] [67, 68, 69, 70, 71, 72] _ _ := hB
  refine lv_aload_n hx hb dX6_init_82 rfl (lv_at hl 0 rfl) ?_
  refine lv_bipush (v := 8) hx hb dX6_init_83 (by decide) ?_
  refine bw_newa hx hb hK hA hB (ty := .int) (hts _ (hin _ (in_r3 _ (List.mem_of_getElem? (i := 5) rfl)))) rfl 73 0 rfl (by decide) (by decide +kernel) rfl rfl (by decide) (by decide) (by decide) (Nat.le_of_ble_eq_true rfl) (Nat.le_of_ble_eq_true rfl) dX6_init_85 (fun q85 H hB => ?_)
  have hB : bS D cys (bA a s.heap.size) s.heap [(a, .inr (6, [.int 0, .int 0, .int 0, .int 0, .int 0, .int 0, .ref q37, .ref q45, .ref q53, .ref q61, .ref q69, .ref q77, .null, .null, .null, .null, .null, .null, .null, .null]))] [(q85, 73), (q77, 72), (q69, 71), (q61, 70), (q53, 69), (q45, 68), (q37, 67)] [67, 68, 69, 70, 71, 72, 73] _ _ := hB
  refine bw_put (v := .ref q85) (fty := (.array .int)) hx hb hts hin hown hK hin2 hB rfl 12 (by decide) (in_r7 _ (List.mem_of_getElem? (i := 14) rfl)) rfl (by decide +kernel) rfl rfl (Nat.le_of_ble_eq_true rfl) dX6_init_87 (fun H locs hB => ?_)
  have hB : bS D cys (bA a s.heap.size) s.heap [(a, .inr (6, [.int 0, .int 0, .int 0, .int 0, .int 0, .int 0, .ref q37, .ref q45, .ref q53, .ref q61, .ref q69, .ref q77, .ref q85, .null, .null, .null, .null, .null, .null, .null]))] [(q85, 73), (q77, 72), (q69, 71), (q61, 70), (q53, 69), (q45, 68), (q37, 67)] [67, 68, 69, 70, 71, 72, 73] _ _ := hB
  refine lv_aload_n hx hb dX6_init_90 rfl (lv_at hl 0 rfl) ?_
  refine lv_bipush (v := 8) hx hb dX6_init_91 (by decide) ?_
  refine bw_newa hx hb hK hA hB (ty := .int) (hts _ (hin _ (in_r3 _ (List.mem_of_getElem? (i := 5) rfl)))) rfl 74 0 rfl (by decide) (by decide +kernel) rfl rfl (by decide) (by decide) (by decide) (Nat.le_of_ble_eq_true rfl) (Nat.le_of_ble_eq_true rfl) dX6_init_93 (fun q93 H hB => ?_)
  have hB : bS D cys (bA a s.heap.size) s.heap [(a, .inr (6, [.int 0, .int 0, .int 0, .int 0, .int 0, .int 0, .ref q37, .ref q45, .ref q53, .ref q61, .ref q69, .ref q77, .ref q85, .null, .null, .null, .null, .null, .null, .null]))] [(q93, 74), (q85, 73), (q77, 72), (q69, 71), (q61, 70), (q53, 69), (q45, 68), (q37, 67)] [67, 68, 69, 70, 71, 72, 73, 74] _ _ := hB
  refine bw_put (v := .ref q93) (fty := (.array .int)) hx hb hts hin hown hK hin2 hB rfl 13 (by decide) (in_r7 _ (List.mem_of_getElem? (i := 15) rfl)) rfl (by decide +kernel) rfl rfl (Nat.le_of_ble_eq_true rfl) dX6_init_95 (fun H locs hB => ?_)
  have hB : bS D cys (bA a s.heap.size) s.heap [(a, .inr (6, [.int 0, .int 0, .int 0, .int 0, .int 0, .int 0, .ref q37, .ref q45, .ref q53, .ref q61, .ref q69, .ref q77, .ref q85, .ref q93, .null, .null, .null, .null, .null, .null]))] [(q93, 74), (q85, 73), (q77, 72), (q69, 71), (q61, 70), (q53, 69), (q45, 68), (q37, 67)] [67, 68, 69, 70, 71, 72, 73, 74] _ _ := hB
  refine lv_aload_n hx hb dX6_init_98 rfl (lv_at hl 0 rfl) ?_
  refine lv_bipush (v := 8) hx hb dX6_init_99 (by decide) ?_
  refine bw_newa hx hb hK hA hB (ty := .int) (hts _ (hin _ (in_r3 _ (List.mem_of_getElem? (i := 5) rfl)))) rfl 75 0 rfl (by decide) (by decide +kernel) rfl rfl (by decide) (by decide) (by decide) (Nat.le_of_ble_eq_true rfl) (Nat.le_of_ble_eq_true rfl) dX6_init_101 (fun q101 H hB => ?_)
  have hB : bS D cys (bA a s.heap.size) s.heap [(a, .inr (6, [.int 0, .int 0, .int 0, .int 0, .int 0, .int 0, .ref q37, .ref q45, .ref q53, .ref q61, .ref q69, .ref q77, .ref q85, .ref q93, .null, .null, .null, .null, .null, .null]))] [(q101, 75), (q93, 74), (q85, 73), (q77, 72), (q69, 71), (q61, 70), (q53, 69), (q45, 68), (q37, 67)] [67, 68, 69, 70, 71, 72, 73, 74, 75] _ _ := hB
  refine bw_put (v := .ref q101) (fty := (.array .int)) hx hb hts hin hown hK hin2 hB rfl 14 (by decide) (in_r7 _ (List.mem_of_getElem? (i := 16) rfl)) rfl (by decide +kernel) rfl rfl (Nat.le_of_ble_eq_true rfl) dX6_init_103 (fun H locs hB => ?_)
  have hB : bS D cys (bA a s.heap.size) s.heap [(a, .inr (6, [.int 0, .int 0, .int 0, .int 0, .int 0, .int 0, .ref q37, .ref q45, .ref q53, .ref q61, .ref q69, .ref q77, .ref q85, .ref q93, .ref q101, .null, .null, .null, .null, .null]))] [(q101, 75), (q93, 74), (q85, 73), (q77, 72), (q69, 71), (q61, 70), (q53, 69), (q45, 68), (q37, 67)] [67, 68, 69, 70, 71, 72, 73, 74, 75] _ _ := hB
  refine lv_aload_n hx hb dX6_init_106 rfl (lv_at hl 0 rfl) ?_
  refine lv_bipush (v := 8) hx hb dX6_init_107 (by decide) ?_
  refine bw_newa hx hb hK hA hB (ty := .int) (hts _ (hin _ (in_r3 _ (List.mem_of_getElem? (i := 5) rfl)))) rfl 76 0 rfl (by decide) (by decide +kernel) rfl rfl (by decide) (by decide) (by decide) (Nat.le_of_ble_eq_true rfl) (Nat.le_of_ble_eq_true rfl) dX6_init_109 (fun q109 H hB => ?_)
  have hB : bS D cys (bA a s.heap.size) s.heap [(a, .inr (6, [.int 0, .int 0, .int 0, .int 0, .int 0, .int 0, .ref q37, .ref q45, .ref q53, .ref q61, .ref q69, .ref q77, .ref q85, .ref q93, .ref q101, .null, .null, .null, .null, .null]))] [(q109, 76), (q101, 75), (q93, 74), (q85, 73), (q77, 72), (q69, 71), (q61, 70), (q53, 69), (q45, 68), (q37, 67)] [67, 68, 69, 70, 71, 72, 73, 74, 75, 76] _ _ := hB
  refine bw_put (v := .ref q109) (fty := (.array .int)) hx hb hts hin hown hK hin2 hB rfl 15 (by decide) (in_r7 _ (List.mem_of_getElem? (i := 17) rfl)) rfl (by decide +kernel) rfl rfl (Nat.le_of_ble_eq_true rfl) dX6_init_111 (fun H locs hB => ?_)
  have hB : bS D cys (bA a s.heap.size) s.heap [(a, .inr (6, [.int 0, .int 0, .int 0, .int 0, .int 0, .int 0, .ref q37, .ref q45, .ref q53, .ref q61, .ref q69, .ref q77, .ref q85, .ref q93, .ref q101, .ref q109, .null, .null, .null, .null]))] [(q109, 76), (q101, 75), (q93, 74), (q85, 73), (q77, 72), (q69, 71), (q61, 70), (q53, 69), (q45, 68), (q37, 67)] [67, 68, 69, 70, 71, 72, 73, 74, 75, 76] _ _ := hB
  refine lv_aload_n hx hb dX6_init_114 rfl (lv_at hl 0 rfl) ?_
  refine lv_bipush (v := 48) hx hb dX6_init_115 (by decide) ?_
  refine bw_newa hx hb hK hA hB (ty := .int) (hts _ (hin _ (in_r3 _ (List.mem_of_getElem? (i := 5) rfl)))) rfl 77 0 rfl (by decide) (by decide +kernel) rfl rfl (by decide) (by decide) (by decide) (Nat.le_of_ble_eq_true rfl) (Nat.le_of_ble_eq_true rfl) dX6_init_117 (fun q117 H hB => ?_)
  have hB : bS D cys (bA a s.heap.size) s.heap [(a, .inr (6, [.int 0, .int 0, .int 0, .int 0, .int 0, .int 0, .ref q37, .ref q45, .ref q53, .ref q61, .ref q69, .ref q77, .ref q85, .ref q93, .ref q101, .ref q109, .null, .null, .null, .null]))] [(q117, 77), (q109, 76), (q101, 75), (q93, 74), (q85, 73), (q77, 72), (q69, 71), (q61, 70), (q53, 69), (q45, 68), (q37, 67)] [67, 68, 69, 70, 71, 72, 73, 74, 75, 76, 77] _ _ := hB
  refine bw_put (v := .ref q117) (fty := (.array .int)) hx hb hts hin hown hK hin2 hB rfl 16 (by decide) (in_r7 _ (List.mem_of_getElem? (i := 18) rfl)) rfl (by decide +kernel) rfl rfl (Nat.le_of_ble_eq_true rfl) dX6_init_119 (fun H locs hB => ?_)
  have hB : bS D cys (bA a s.heap.size) s.heap [(a, .inr (6, [.int 0, .int 0, .int 0, .int 0, .int 0, .int 0, .ref q37, .ref q45, .ref q53, .ref q61, .ref q69, .ref q77, .ref q85, .ref q93, .ref q101, .ref q109, .ref q117, .null, .null, .null]))] [(q117, 77), (q109, 76), (q101, 75), (q93, 74), (q85, 73), (q77, 72), (q69, 71), (q61, 70), (q53, 69), (q45, 68), (q37, 67)] [67, 68, 69, 70, 71, 72, 73, 74, 75, 76, 77] _ _ := hB
  refine lv_aload_n hx hb dX6_init_122 rfl (lv_at hl 0 rfl) ?_
  refine lv_bipush (v := 12) hx hb dX6_init_123 (by decide) ?_
  refine bw_newa hx hb hK hA hB (ty := .int) (hts _ (hin _ (in_r3 _ (List.mem_of_getElem? (i := 5) rfl)))) rfl 78 0 rfl (by decide) (by decide +kernel) rfl rfl (by decide) (by decide) (by decide) (Nat.le_of_ble_eq_true rfl) (Nat.le_of_ble_eq_true rfl) dX6_init_125 (fun q125 H hB => ?_)
  have hB : bS D cys (bA a s.heap.size) s.heap [(a, .inr (6, [.int 0, .int 0, .int 0, .int 0, .int 0, .int 0, .ref q37, .ref q45, .ref q53, .ref q61, .ref q69, .ref q77, .ref q85, .ref q93, .ref q101, .ref q109, .ref q117, .null, .null, .null]))] [(q125, 78), (q117, 77), (q109, 76), (q101, 75), (q93, 74), (q85, 73), (q77, 72), (q69, 71), (q61, 70), (q53, 69), (q45, 68), (q37, 67)] [67, 68, 69, 70, 71, 72, 73, 74, 75, 76, 77, 78] _ _ := hB
  refine bw_put (v := .ref q125) (fty := (.array .int)) hx hb hts hin hown hK hin2 hB rfl 17 (by decide) (in_r7 _ (List.mem_of_getElem? (i := 19) rfl)) rfl (by decide +kernel) rfl rfl (Nat.le_of_ble_eq_true rfl) dX6_init_127 (fun H locs hB => ?_)
  have hB : bS D cys (bA a s.heap.size) s.heap [(a, .inr (6, [.int 0, .int 0, .int 0, .int 0, .int 0, .int 0, .ref q37, .ref q45, .ref q53, .ref q61, .ref q69, .ref q77, .ref q85, .ref q93, .ref q101, .ref q109, .ref q117, .ref q125, .null, .null]))] [(q125, 78), (q117, 77), (q109, 76), (q101, 75), (q93, 74), (q85, 73), (q77, 72), (q69, 71), (q61, 70), (q53, 69), (q45, 68), (q37, 67)] [67, 68, 69, 70, 71, 72, 73, 74, 75, 76, 77, 78] _ _ := hB
  refine lv_aload_n hx hb dX6_init_130 rfl (lv_at hl 0 rfl) ?_
  refine lv_bipush (v := 12) hx hb dX6_init_131 (by decide) ?_
  refine bw_newa hx hb hK hA hB (ty := .int) (hts _ (hin _ (in_r3 _ (List.mem_of_getElem? (i := 5) rfl)))) rfl 79 0 rfl (by decide) (by decide +kernel) rfl rfl (by decide) (by decide) (by decide) (Nat.le_of_ble_eq_true rfl) (Nat.le_of_ble_eq_true rfl) dX6_init_133 (fun q133 H hB => ?_)
  have hB : bS D cys (bA a s.heap.size) s.heap [(a, .inr (6, [.int 0, .int 0, .int 0, .int 0, .int 0, .int 0, .ref q37, .ref q45, .ref q53, .ref q61, .ref q69, .ref q77, .ref q85, .ref q93, .ref q101, .ref q109, .ref q117, .ref q125, .null, .null]))] [(q133, 79), (q125, 78), (q117, 77), (q109, 76), (q101, 75), (q93, 74), (q85, 73), (q77, 72), (q69, 71), (q61, 70), (q53, 69), (q45, 68), (q37, 67)] [67, 68, 69, 70, 71, 72, 73, 74, 75, 76, 77, 78, 79] _ _ := hB
  refine bw_put (v := .ref q133) (fty := (.array .int)) hx hb hts hin hown hK hin2 hB rfl 18 (by decide) (in_r7 _ (List.mem_of_getElem? (i := 20) rfl)) rfl (by decide +kernel) rfl rfl (Nat.le_of_ble_eq_true rfl) dX6_init_135 (fun H locs hB => ?_)
  have hB : bS D cys (bA a s.heap.size) s.heap [(a, .inr (6, [.int 0, .int 0, .int 0, .int 0, .int 0, .int 0, .ref q37, .ref q45, .ref q53, .ref q61, .ref q69, .ref q77, .ref q85, .ref q93, .ref q101, .ref q109, .ref q117, .ref q125, .ref q133, .null]))] [(q133, 79), (q125, 78), (q117, 77), (q109, 76), (q101, 75), (q93, 74), (q85, 73), (q77, 72), (q69, 71), (q61, 70), (q53, 69), (q45, 68), (q37, 67)] [67, 68, 69, 70, 71, 72, 73, 74, 75, 76, 77, 78, 79] _ _ := hB
  refine lv_aload_n hx hb dX6_init_138 rfl (lv_at hl 0 rfl) ?_
  refine lv_bipush (v := 12) hx hb dX6_init_139 (by decide) ?_
  refine bw_newa hx hb hK hA hB (ty := .int) (hts _ (hin _ (in_r3 _ (List.mem_of_getElem? (i := 5) rfl)))) rfl 80 0 rfl (by decide) (by decide +kernel) rfl rfl (by decide) (by decide) (by decide) (Nat.le_of_ble_eq_true rfl) (Nat.le_of_ble_eq_true rfl) dX6_init_141 (fun q141 H hB => ?_)
  have hB : bS D cys (bA a s.heap.size) s.heap [(a, .inr (6, [.int 0, .int 0, .int 0, .int 0, .int 0, .int 0, .ref q37, .ref q45, .ref q53, .ref q61, .ref q69, .ref q77, .ref q85, .ref q93, .ref q101, .ref q109, .ref q117, .ref q125, .ref q133, .null]))] [(q141, 80), (q133, 79), (q125, 78), (q117, 77), (q109, 76), (q101, 75), (q93, 74), (q85, 73), (q77, 72), (q69, 71), (q61, 70), (q53, 69), (q45, 68), (q37, 67)] [67, 68, 69, 70, 71, 72, 73, 74, 75, 76, 77, 78, 79, 80] _ _ := hB
  refine bw_put (v := .ref q141) (fty := (.array .int)) hx hb hts hin hown hK hin2 hB rfl 19 (by decide) (in_r7 _ (List.mem_of_getElem? (i := 21) rfl)) rfl (by decide +kernel) rfl rfl (Nat.le_of_ble_eq_true rfl) dX6_init_143 (fun H locs hB => ?_)
  have hB : bS D cys (bA a s.heap.size) s.heap [(a, .inr (6, [.int 0, .int 0, .int 0, .int 0, .int 0, .int 0, .ref q37, .ref q45, .ref q53, .ref q61, .ref q69, .ref q77, .ref q85, .ref q93, .ref q101, .ref q109, .ref q117, .ref q125, .ref q133, .ref q141]))] [(q141, 80), (q133, 79), (q125, 78), (q117, 77), (q109, 76), (q101, 75), (q93, 74), (q85, 73), (q77, 72), (q69, 71), (q61, 70), (q53, 69), (q45, 68), (q37, 67)] [67, 68, 69, 70, 71, 72, 73, 74, 75, 76, 77, 78, 79, 80] _ _ := hB
  refine bw_ret (zs := [0, 1, 2, 3, 4, 5]) hx hb hr hlk hB rfl rfl (fun ty hty k ft hk => ?_) (by decide +kernel) (List.forall_mem_cons.mpr ⟨rfl, (List.forall_mem_cons.mpr ⟨rfl, (List.forall_mem_cons.mpr ⟨rfl, (List.forall_mem_cons.mpr ⟨rfl, (List.forall_mem_cons.mpr ⟨rfl, (List.forall_mem_cons.mpr ⟨rfl, (fun k hk => by cases hk)⟩)⟩)⟩)⟩)⟩)⟩) ⟨rfl, rfl⟩ dX6_init_146
  exact match k, hk with
    | 0, hk => by cases hk; exact ⟨_, rfl, bv_i (by decide) (by decide)⟩
    | 1, hk => by cases hk; exact ⟨_, rfl, bv_i (by decide) (by decide)⟩
    | 2, hk => by cases hk; exact ⟨_, rfl, bv_i (by decide) (by decide)⟩
    | 3, hk => by cases hk; exact ⟨_, rfl, bv_i (by decide) (by decide)⟩
    | 4, hk => by cases hk; exact ⟨_, rfl, bv_i (by decide) (by decide)⟩
    | 5, hk => by cases hk; exact ⟨_, rfl, bv_i (by decide) (by decide)⟩
    | 6, hk => by cases hk; exact ⟨_, rfl, ⟨_, rfl, hty _ (List.mem_of_getElem? (i := 13) rfl)⟩⟩
    | 7, hk => by cases hk; exact ⟨_, rfl, ⟨_, rfl, hty _ (List.mem_of_getElem? (i := 12) rfl)⟩⟩
    | 8, hk => by cases hk; exact ⟨_, rfl, ⟨_, rfl, hty _ (List.mem_of_getElem? (i := 11) rfl)⟩⟩
    | 9, hk => by cases hk; exact ⟨_, rfl, ⟨_, rfl, hty _ (List.mem_of_getElem? (i := 10) rfl)⟩⟩
    | 10, hk => by cases hk; exact ⟨_, rfl, ⟨_, rfl, hty _ (List.mem_of_getElem? (i := 9) rfl)⟩⟩
    | 11, hk => by cases hk; exact ⟨_, rfl, ⟨_, rfl, hty _ (List.mem_of_getElem? (i := 8) rfl)⟩⟩
    | 12, hk => by cases hk; exact ⟨_, rfl, ⟨_, rfl, hty _ (List.mem_of_getElem? (i := 7) rfl)⟩⟩
    | 13, hk => by cases hk; exact ⟨_, rfl, ⟨_, rfl, hty _ (List.mem_of_getElem? (i := 6) rfl)⟩⟩
    | 14, hk => by cases hk; exact ⟨_, rfl, ⟨_, rfl, hty _ (List.mem_of_getElem? (i := 5) rfl)⟩⟩
    | 15, hk => by cases hk; exact ⟨_, rfl, ⟨_, rfl, hty _ (List.mem_of_getElem? (i := 4) rfl)⟩⟩
    | 16, hk => by cases hk; exact ⟨_, rfl, ⟨_, rfl, hty _ (List.mem_of_getElem? (i := 3) rfl)⟩⟩
    | 17, hk => by cases hk; exact ⟨_, rfl, ⟨_, rfl, hty _ (List.mem_of_getElem? (i := 2) rfl)⟩⟩
    | 18, hk => by cases hk; exact ⟨_, rfl, ⟨_, rfl, hty _ (List.mem_of_getElem? (i := 1) rfl)⟩⟩
    | 19, hk => by cases hk; exact ⟨_, rfl, ⟨_, rfl, hty _ (List.mem_of_getElem? (i := 0) rfl)⟩⟩
    | n + 20, hk => by cases hk
abbrev tg_6t : List ck_AV := [.inl (0, 6, []), .inl (0, 6, []), .inl (0, 8, []), .inl (0, 6, []), .inl (0, 12, []), .inl (0, 1, []), .inr (.inl 53), .inr (.inl 54), .inr (.inl 55), .inr (.inl 56), .inr (.inl 57), .inr (.inl 58), .inr (.inl 59), .inr (.inl 60), .inr (.inl 61), .inr (.inl 62), .inr (.inl 63), .inr (.inl 64), .inr (.inl 65), .inr (.inl 66)]
set_option maxRecDepth 100000 in
set_option maxHeartbeats 4000000 in
theorem con_6t : bCon l D cys yX6_init cX6_init 1 1 12 14 154 6 [.int 0, .int 0, .int 0, .int 0, .int 0, .int 0, .null, .null, .null, .null, .null, .null, .null, .null, .null, .null, .null, .null, .null, .null] 13 [13, 53, 54, 55, 56, 57, 58, 59, 60, 61, 62, 63, 64, 65, 66] := by
  refine bw_enter (o := 6) (by decide) rfl rfl (by decide) ?_
  intro a p e s m below meth c ls hx hb hml hr hlk hts hown hT hin2 hl hA hB
  have hin : ∀ w ∈ wsL_law0, w ∈ Jvm.Cond.code yX6_init cX6_init 1 none :: wsL_law0 := fun w hw => List.mem_cons_of_mem _ hw
  have hK := hT.1
  refine lv_aload_n hx hb dX6_init_0 rfl (lv_at hl 0 rfl) ?_
  refine W.objInit hx hb hown (hts _ (hin _ (in_r7 _ (List.mem_of_getElem? (i := 1) rfl)))) (hts _ (hin _ (in_r1 _ (List.mem_of_getElem? (i := 11) rfl)))) (hts _ (hin _ (in_r1 _ (List.mem_of_getElem? (i := 12) rfl)))) rfl (by rw [hml]; exact hl.1) rfl dX6_init_1 (Nat.le_of_ble_eq_true rfl) (Nat.le_of_ble_eq_true rfl) ?_
  refine W.eq (g2 := F0 m 4 ls []) rfl ?_
  refine lv_aload_n hx hb dX6_init_4 rfl (lv_at hl 0 rfl) ?_
  refine lv_iconst (v := 0) hx hb dX6_init_5 (by decide) ?_
  refine bw_put (v := .int 0) (fty := (.int)) hx hb hts hin hown hK hin2 hB rfl 0 (by decide) (in_r7 _ (List.mem_of_getElem? (i := 2) rfl)) rfl (by decide +kernel) rfl rfl (Nat.le_of_ble_eq_true rfl) dX6_init_6 (fun H locs hB => ?_)
  have hB : bS D cys (bA a s.heap.size) s.heap [(a, .inr (6, [.int 0, .int 0, .int 0, .int 0, .int 0, .int 0, .null, .null, .null, .null, .null, .null, .null, .null, .null, .null, .null, .null, .null, .null]))] [] [] _ _ := hB
  refine lv_aload_n hx hb dX6_init_9 rfl (lv_at hl 0 rfl) ?_
  refine lv_iconst (v := 0) hx hb dX6_init_10 (by decide) ?_
  refine bw_put (v := .int 0) (fty := (.int)) hx hb hts hin hown hK hin2 hB rfl 1 (by decide) (in_r7 _ (List.mem_of_getElem? (i := 3) rfl)) rfl (by decide +kernel) rfl rfl (Nat.le_of_ble_eq_true rfl) dX6_init_11 (fun H locs hB => ?_)
  have hB : bS D cys (bA a s.heap.size) s.heap [(a, .inr (6, [.int 0, .int 0, .int 0, .int 0, .int 0, .int 0, .null, .null, .null, .null, .null, .null, .null, .null, .null, .null, .null, .null, .null, .null]))] [] [] _ _ := hB
  refine lv_aload_n hx hb dX6_init_14 rfl (lv_at hl 0 rfl) ?_
  refine lv_iconst (v := 0) hx hb dX6_init_15 (by decide) ?_
  refine bw_put (v := .int 0) (fty := (.int)) hx hb hts hin hown hK hin2 hB rfl 2 (by decide) (in_r7 _ (List.mem_of_getElem? (i := 4) rfl)) rfl (by decide +kernel) rfl rfl (Nat.le_of_ble_eq_true rfl) dX6_init_16 (fun H locs hB => ?_)
  have hB : bS D cys (bA a s.heap.size) s.heap [(a, .inr (6, [.int 0, .int 0, .int 0, .int 0, .int 0, .int 0, .null, .null, .null, .null, .null, .null, .null, .null, .null, .null, .null, .null, .null, .null]))] [] [] _ _ := hB
  refine lv_aload_n hx hb dX6_init_19 rfl (lv_at hl 0 rfl) ?_
  refine lv_iconst (v := 0) hx hb dX6_init_20 (by decide) ?_
  refine bw_put (v := .int 0) (fty := (.int)) hx hb hts hin hown hK hin2 hB rfl 3 (by decide) (in_r7 _ (List.mem_of_getElem? (i := 5) rfl)) rfl (by decide +kernel) rfl rfl (Nat.le_of_ble_eq_true rfl) dX6_init_21 (fun H locs hB => ?_)
  have hB : bS D cys (bA a s.heap.size) s.heap [(a, .inr (6, [.int 0, .int 0, .int 0, .int 0, .int 0, .int 0, .null, .null, .null, .null, .null, .null, .null, .null, .null, .null, .null, .null, .null, .null]))] [] [] _ _ := hB
  refine lv_aload_n hx hb dX6_init_24 rfl (lv_at hl 0 rfl) ?_
  refine lv_iconst (v := 0) hx hb dX6_init_25 (by decide) ?_
  refine bw_put (v := .int 0) (fty := (.int)) hx hb hts hin hown hK hin2 hB rfl 4 (by decide) (in_r7 _ (List.mem_of_getElem? (i := 6) rfl)) rfl (by decide +kernel) rfl rfl (Nat.le_of_ble_eq_true rfl) dX6_init_26 (fun H locs hB => ?_)
  have hB : bS D cys (bA a s.heap.size) s.heap [(a, .inr (6, [.int 0, .int 0, .int 0, .int 0, .int 0, .int 0, .null, .null, .null, .null, .null, .null, .null, .null, .null, .null, .null, .null, .null, .null]))] [] [] _ _ := hB
  refine lv_aload_n hx hb dX6_init_29 rfl (lv_at hl 0 rfl) ?_
  refine lv_iconst (v := 0) hx hb dX6_init_30 (by decide) ?_
  refine bw_put (v := .int 0) (fty := (.boolean)) hx hb hts hin hown hK hin2 hB rfl 5 (by decide) (in_r7 _ (List.mem_of_getElem? (i := 7) rfl)) rfl (by decide +kernel) rfl rfl (Nat.le_of_ble_eq_true rfl) dX6_init_31 (fun H locs hB => ?_)
  have hB : bS D cys (bA a s.heap.size) s.heap [(a, .inr (6, [.int 0, .int 0, .int 0, .int 0, .int 0, .int 0, .null, .null, .null, .null, .null, .null, .null, .null, .null, .null, .null, .null, .null, .null]))] [] [] _ _ := hB
  refine lv_aload_n hx hb dX6_init_34 rfl (lv_at hl 0 rfl) ?_
  refine lv_bipush (v := 6) hx hb dX6_init_35 (by decide) ?_
  refine bw_newl hx hb hK hA hB (hts _ (hin _ (in_r1 _ (List.mem_of_getElem? (i := 6) rfl)))) 53 rfl (by decide +kernel) (by decide) (by decide) (by decide) (by decide) (Nat.le_of_ble_eq_true rfl) (Nat.le_of_ble_eq_true rfl) dX6_init_37 (fun q37 H hB => ?_)
  have hB : bS D cys (bA a s.heap.size) s.heap [(a, .inr (6, [.int 0, .int 0, .int 0, .int 0, .int 0, .int 0, .null, .null, .null, .null, .null, .null, .null, .null, .null, .null, .null, .null, .null, .null]))] [(q37, 53)] [53] _ _ := hB
  refine bw_put (v := .ref q37) (fty := (.array .long)) hx hb hts hin hown hK hin2 hB rfl 6 (by decide) (in_r7 _ (List.mem_of_getElem? (i := 8) rfl)) rfl (by decide +kernel) rfl rfl (Nat.le_of_ble_eq_true rfl) dX6_init_39 (fun H locs hB => ?_)
  have hB : bS D cys (bA a s.heap.size) s.heap [(a, .inr (6, [.int 0, .int 0, .int 0, .int 0, .int 0, .int 0, .ref q37, .null, .null, .null, .null, .null, .null, .null, .null, .null, .null, .null, .null, .null]))] [(q37, 53)] [53] _ _ := hB
  refine lv_aload_n hx hb dX6_init_42 rfl (lv_at hl 0 rfl) ?_
  refine lv_bipush (v := 6) hx hb dX6_init_43 (by decide) ?_
  refine bw_newl hx hb hK hA hB (hts _ (hin _ (in_r1 _ (List.mem_of_getElem? (i := 6) rfl)))) 54 rfl (by decide +kernel) (by decide) (by decide) (by decide) (by decide) (Nat.le_of_ble_eq_true rfl) (Nat.le_of_ble_eq_true rfl) dX6_init_45 (fun q45 H hB => ?_)
  have hB : bS D cys (bA a s.heap.size) s.heap [(a, .inr (6, [.int 0, .int 0, .int 0, .int 0, .int 0, .int 0, .ref q37, .null, .null, .null, .null, .null, .null, .null, .null, .null, .null, .null, .null, .null]))] [(q45, 54), (q37, 53)] [53, 54] _ _ := hB
  refine bw_put (v := .ref q45) (fty := (.array .long)) hx hb hts hin hown hK hin2 hB rfl 7 (by decide) (in_r7 _ (List.mem_of_getElem? (i := 9) rfl)) rfl (by decide +kernel) rfl rfl (Nat.le_of_ble_eq_true rfl) dX6_init_47 (fun H locs hB => ?_)
  have hB : bS D cys (bA a s.heap.size) s.heap [(a, .inr (6, [.int 0, .int 0, .int 0, .int 0, .int 0, .int 0, .ref q37, .ref q45, .null, .null, .null, .null, .null, .null, .null, .null, .null, .null, .null, .null]))] [(q45, 54), (q37, 53)] [53, 54] _ _ := hB
  refine lv_aload_n hx hb dX6_init_50 rfl (lv_at hl 0 rfl) ?_
  refine lv_bipush (v := 8) hx hb dX6_init_51 (by decide) ?_
  refine bw_newl hx hb hK hA hB (hts _ (hin _ (in_r1 _ (List.mem_of_getElem? (i := 6) rfl)))) 55 rfl (by decide +kernel) (by decide) (by decide) (by decide) (by decide) (Nat.le_of_ble_eq_true rfl) (Nat.le_of_ble_eq_true rfl) dX6_init_53 (fun q53 H hB => ?_)
  have hB : bS D cys (bA a s.heap.size) s.heap [(a, .inr (6, [.int 0, .int 0, .int 0, .int 0, .int 0, .int 0, .ref q37, .ref q45, .null, .null, .null, .null, .null, .null, .null, .null, .null, .null, .null, .null]))] [(q53, 55), (q45, 54), (q37, 53)] [53, 54, 55] _ _ := hB
  refine bw_put (v := .ref q53) (fty := (.array .long)) hx hb hts hin hown hK hin2 hB rfl 8 (by decide) (in_r7 _ (List.mem_of_getElem? (i := 10) rfl)) rfl (by decide +kernel) rfl rfl (Nat.le_of_ble_eq_true rfl) dX6_init_55 (fun H locs hB => ?_)
  have hB : bS D cys (bA a s.heap.size) s.heap [(a, .inr (6, [.int 0, .int 0, .int 0, .int 0, .int 0, .int 0, .ref q37, .ref q45, .ref q53, .null, .null, .null, .null, .null, .null, .null, .null, .null, .null, .null]))] [(q53, 55), (q45, 54), (q37, 53)] [53, 54, 55] _ _ := hB
  refine lv_aload_n hx hb dX6_init_58 rfl (lv_at hl 0 rfl) ?_
  refine lv_bipush (v := 6) hx hb dX6_init_59 (by decide) ?_
  refine bw_newa hx hb hK hA hB (ty := .int) (hts _ (hin _ (in_r3 _ (List.mem_of_getElem? (i := 5) rfl)))) rfl 56 0 rfl (by decide) (by decide +kernel) rfl rfl (by decide) (by decide) (by decide) (Nat.le_of_ble_eq_true rfl) (Nat.le_of_ble_eq_true rfl) dX6_init_61 (fun q61 H hB => ?_)
  have hB : bS D cys (bA a s.heap.size) s.heap [(a, .inr (6, [.int 0, .int 0, .int 0, .int 0, .int 0, .int 0, .ref q37, .ref q45, .ref q53, .null, .null, .null, .null, .null, .null, .null, .null, .null, .null, .null]))] [(q61, 56), (q53, 55), (q45, 54), (q37, 53)] [53, 54, 55, 56] _ _ := hB
  refine bw_put (v := .ref q61) (fty := (.array .int)) hx hb hts hin hown hK hin2 hB rfl 9 (by decide) (in_r7 _ (List.mem_of_getElem? (i := 11) rfl)) rfl (by decide +kernel) rfl rfl (Nat.le_of_ble_eq_true rfl) dX6_init_63 (fun H locs hB => ?_)
  have hB : bS D cys (bA a s.heap.size) s.heap [(a, .inr (6, [.int 0, .int 0, .int 0, .int 0, .int 0, .int 0, .ref q37, .ref q45, .ref q53, .ref q61, .null, .null, .null, .null, .null, .null, .null, .null, .null, .null]))] [(q61, 56), (q53, 55), (q45, 54), (q37, 53)] [53, 54, 55, 56] _ _ := hB
  refine lv_aload_n hx hb dX6_init_66 rfl (lv_at hl 0 rfl) ?_
  refine lv_bipush (v := 6) hx hb dX6_init_67 (by decide) ?_
  refine bw_newa hx hb hK hA hB (ty := .int) (hts _ (hin _ (in_r3 _ (List.mem_of_getElem? (i := 5) rfl)))) rfl 57 0 rfl (by decide) (by decide +kernel) rfl rfl (by decide) (by decide) (by decide) (Nat.le_of_ble_eq_true rfl) (Nat.le_of_ble_eq_true rfl) dX6_init_69 (fun q69 H hB => ?_)
  have hB : bS D cys (bA a s.heap.size) s.heap [(a, .inr (6, [.int 0, .int 0, .int 0, .int 0, .int 0, .int 0, .ref q37, .ref q45, .ref q53, .ref q61, .null, .null, .null, .null, .null, .null, .null, .null, .null, .null]))] [(q69, 57), (q61, 56), (q53, 55), (q45, 54), (q37, 53)] [53, 54, 55, 56, 57] _ _ := hB
  refine bw_put (v := .ref q69) (fty := (.array .int)) hx hb hts hin hown hK hin2 hB rfl 10 (by decide) (in_r7 _ (List.mem_of_getElem? (i := 12) rfl)) rfl (by decide +kernel) rfl rfl (Nat.le_of_ble_eq_true rfl) dX6_init_71 (fun H locs hB => ?_)
  have hB : bS D cys (bA a s.heap.size) s.heap [(a, .inr (6, [.int 0, .int 0, .int 0, .int 0, .int 0, .int 0, .ref q37, .ref q45, .ref q53, .ref q61, .ref q69, .null, .null, .null, .null, .null, .null, .null, .null, .null]))] [(q69, 57), (q61, 56), (q53, 55), (q45, 54), (q37, 53)] [53, 54, 55, 56, 57] _ _ := hB
  refine lv_aload_n hx hb dX6_init_74 rfl (lv_at hl 0 rfl) ?_
  refine lv_bipush (v := 6) hx hb dX6_init_75 (by decide) ?_
  refine bw_newa hx hb hK hA hB (ty := .int) (hts _ (hin _ (in_r3 _ (List.mem_of_getElem? (i := 5) rfl)))) rfl 58 0 rfl (by decide) (by decide +kernel) rfl rfl (by decide) (by decide) (by decide) (Nat.le_of_ble_eq_true rfl) (Nat.le_of_ble_eq_true rfl) dX6_init_77 (fun q77 H hB => ?_)
  have hB : bS D cys (bA a s.heap.size) s.heap [(a, .inr (6, [.int 0, .int 0, .int 0, .int 0, .int 0, .int 0, .ref q37, .ref q45, .ref q53, .ref q61, .ref q69, .null, .null, .null, .null, .null, .null, .null, .null, .null]))] [(q77, 58), (q69, 57), (q61, 56), (q53, 55), (q45, 54), (q37, 53)] [53, 54, 55, 56, 57, 58] _ _ := hB
  refine bw_put (v := .ref q77) (fty := (.array .int)) hx hb hts hin hown hK hin2 hB rfl 11 (by decide) (in_r7 _ (List.mem_of_getElem? (i := 13) rfl)) rfl (by decide +kernel) rfl rfl (Nat.le_of_ble_eq_true rfl) dX6_init_79 (fun H locs hB => ?_)
  have hB : bS D cys (bA a s.heap.size) s.heap [(a, .inr (6, [.int 0, .int 0, .int 0, .int 0, .int 0, .int 0, .ref q37, .ref q45, .ref q53, .ref q61, .ref q69, .ref q77, .null, .null, .null, .null, .null, .null, .null, .null]))] [(q77, 58), (q69, 57), (q61, 56), (q53, 55), (q45, 54), (q37, 53)] [53, 54, 55, 56, 57, 58] _ _ := hB
  refine lv_aload_n hx hb dX6_init_82 rfl (lv_at hl 0 rfl) ?_
  refine lv_bipush (v := 8) hx hb dX6_init_83 (by decide) ?_
  refine bw_newa hx hb hK hA hB (ty := .int) (hts _ (hin _ (in_r3 _ (List.mem_of_getElem? (i := 5) rfl)))) rfl 59 0 rfl (by decide) (by decide +kernel) rfl rfl (by decide) (by decide) (by decide) (Nat.le_of_ble_eq_true rfl) (Nat.le_of_ble_eq_true rfl) dX6_init_85 (fun q85 H hB => ?_)
  have hB : bS D cys (bA a s.heap.size) s.heap [(a, .inr (6, [.int 0, .int 0, .int 0, .int 0, .int 0, .int 0, .ref q37, .ref q45, .ref q53, .ref q61, .ref q69, .ref q77, .null, .null, .null, .null, .null, .null, .null, .null]))] [(q85, 59), (q77, 58), (q69, 57), (q61, 56), (q53, 55), (q45, 54), (q37, 53)] [53, 54, 55, 56, 57, 58, 59] _ _ := hB
  refine bw_put (v := .ref q85) (fty := (.array .int)) hx hb hts hin hown hK hin2 hB rfl 12 (by decide) (in_r7 _ (List.mem_of_getElem? (i := 14) rfl)) rfl (by decide +kernel) rfl rfl (Nat.le_of_ble_eq_true rfl) dX6_init_87 (fun H locs hB => ?_)
  have hB : bS D cys (bA a s.heap.size) s.heap [(a, .inr (6, [.int 0, .int 0, .int 0, .int 0, .int 0, .int 0, .ref q37, .ref q45, .ref q53, .ref q61, .ref q69, .ref q77, .ref q85, .null, .null, .null, .null, .null, .null, .null]))] [(q85, 59), (q77, 58), (q69, 57), (q61, 56), (q53, 55), (q45, 54), (q37, 53)] [53, 54, 55, 56, 57, 58, 59] _ _ := hB
  refine lv_aload_n hx hb dX6_init_90 rfl (lv_at hl 0 rfl) ?_
  refine lv_bipush (v := 8) hx hb dX6_init_91 (by decide) ?_
  refine bw_newa hx hb hK hA hB (ty := .int) (hts _ (hin _ (in_r3 _ (List.mem_of_getElem? (i := 5) rfl)))) rfl 60 0 rfl (by decide) (by decide +kernel) rfl rfl (by decide) (by decide) (by decide) (Nat.le_of_ble_eq_true rfl) (Nat.le_of_ble_eq_true rfl) dX6_init_93 (fun q93 H hB => ?_)
  have hB : bS D cys (bA a s.heap.size) s.heap [(a, .inr (6, [.int 0, .int 0, .int 0, .int 0, .int 0, .int 0, .ref q37, .ref q45, .ref q53, .ref q61, .ref q69, .ref q77, .ref q85, .null, .null, .null, .null, .null, .null, .null]))] [(q93, 60), (q85, 59), (q77, 58), (q69, 57), (q61, 56), (q53, 55), (q45, 54), (q37, 53)] [53, 54, 55, 56, 57, 58, 59, 60] _ _ := hB
  refine bw_put (v := .ref q93) (fty := (.array .int)) hx hb hts hin hown hK hin2 hB rfl 13 (by decide) (in_r7 _ (List.mem_of_getElem? (i := 15) rfl)) rfl (by decide +kernel) rfl rfl (Nat.le_of_ble_eq_true rfl) dX6_init_95 (fun H locs hB => ?_)
  have hB : bS D cys (bA a s.heap.size) s.heap [(a, .inr (6, [.int 0, .int 0, .int 0, .int 0, .int 0, .int 0, .ref q37, .ref q45, .ref q53, .ref q61, .ref q69, .ref q77, .ref q85, .ref q93, .null, .null, .null, .null, .null, .null]))] [(q93, 60), (q85, 59), (q77, 58), (q69, 57), (q61, 56), (q53, 55), (q45, 54), (q37, 53)] [53, 54, 55, 56, 57, 58, 59, 60] _ _ := hB
  refine lv_aload_n hx hb dX6_init_98 rfl (lv_at hl 0 rfl) ?_
  refine lv_bipush (v := 8) hx hb dX6_init_99 (by decide) ?_
  refine bw_newa hx hb hK hA hB (ty := .int) (hts _ (hin _ (in_r3 _ (List.mem_of_getElem? (i := 5) rfl)))) rfl 61 0 rfl (by decide) (by decide +kernel) rfl rfl (by decide) (by decide) (by decide) (Nat.le_of_ble_eq_true rfl) (Nat.le_of_ble_eq_true rfl) dX6_init_101 (fun q101 H hB => ?_)
  have hB : bS D cys (bA a s.heap.size) s.heap [(a, .inr (6, [.int 0, .int 0, .int 0, .int 0, .int 0, .int 0, .ref q37, .ref q45, .ref q53, .ref q61, .ref q69, .ref q77, .ref q85, .ref q93, .null, .null, .null, .null, .null, .null]))] [(q101, 61), (q93, 60), (q85, 59), (q77, 58), (q69, 57), (q61, 56), (q53, 55), (q45, 54), (q37, 53)] [53, 54, 55, 56, 57, 58, 59, 60, 61] _ _ := hB
  refine bw_put (v := .ref q101) (fty := (.array .int)) hx hb hts hin hown hK hin2 hB rfl 14 (by decide) (in_r7 _ (List.mem_of_getElem? (i := 16) rfl)) rfl (by decide +kernel) rfl rfl (Nat.le_of_ble_eq_true rfl) dX6_init_103 (fun H locs hB => ?_)
  have hB : bS D cys (bA a s.heap.size) s.heap [(a, .inr (6, [.int 0, .int 0, .int 0, .int 0, .int 0, .int 0, .ref q37, .ref q45, .ref q53, .ref q61, .ref q69, .ref q77, .ref q85, .ref q93, .ref q101, .null, .null, .null, .null, .null]))] [(q101, 61), (q93, 60), (q85, 59), (q77, 58), (q69, 57), (q61, 56), (q53, 55), (q45, 54), (q37, 53)] [53, 54, 55, 56, 57, 58, 59, 60, 61] _ _ := hB
  refine lv_aload_n hx hb dX6_init_106 rfl (lv_at hl 0 rfl) ?_
  refine lv_bipush (v := 8) hx hb dX6_init_107 (by decide) ?_
  refine bw_newa hx hb hK hA hB (ty := .int) (hts _ (hin _ (in_r3 _ (List.mem_of_getElem? (i := 5) rfl)))) rfl 62 0 rfl (by decide) (by decide +kernel) rfl rfl (by decide) (by decide) (by decide) (Nat.le_of_ble_eq_true rfl) (Nat.le_of_ble_eq_true rfl) dX6_init_109 (fun q109 H hB => ?_)
  have hB : bS D cys (bA a s.heap.size) s.heap [(a, .inr (6, [.int 0, .int 0, .int 0, .int 0, .int 0, .int 0, .ref q37, .ref q45, .ref q53, .ref q61, .ref q69, .ref q77, .ref q85, .ref q93, .ref q101, .null, .null, .null, .null, .null]))] [(q109, 62), (q101, 61), (q93, 60), (q85, 59), (q77, 58), (q69, 57), (q61, 56), (q53, 55), (q45, 54), (q37, 53)] [53, 54, 55, 56, 57, 58, 59, 60, 61, 62] _ _ := hB
  refine bw_put (v := .ref q109) (fty := (.array .int)) hx hb hts hin hown hK hin2 hB rfl 15 (by decide) (in_r7 _ (List.mem_of_getElem? (i := 17) rfl)) rfl (by decide +kernel) rfl rfl (Nat.le_of_ble_eq_true rfl) dX6_init_111 (fun H locs hB => ?_)
  have hB : bS D cys (bA a s.heap.size) s.heap [(a, .inr (6, [.int 0, .int 0, .int 0, .int 0, .int 0, .int 0, .ref q37, .ref q45, .ref q53, .ref q61, .ref q69, .ref q77, .ref q85, .ref q93, .ref q101, .ref q109, .null, .null, .null, .null]))] [(q109, 62), (q101, 61), (q93, 60), (q85, 59), (q77, 58), (q69, 57), (q61, 56), (q53, 55), (q45, 54), (q37, 53)] [53, 54, 55, 56, 57, 58, 59, 60, 61, 62] _ _ := hB
  refine lv_aload_n hx hb dX6_init_114 rfl (lv_at hl 0 rfl) ?_
  refine lv_bipush (v := 48) hx hb dX6_init_115 (by decide) ?_
  refine bw_newa hx hb hK hA hB (ty := .int) (hts _ (hin _ (in_r3 _ (List.mem_of_getElem? (i := 5) rfl)))) rfl 63 0 rfl (by decide) (by decide +kernel) rfl rfl (by decide) (by decide) (by decide) (Nat.le_of_ble_eq_true rfl) (Nat.le_of_ble_eq_true rfl) dX6_init_117 (fun q117 H hB => ?_)
  have hB : bS D cys (bA a s.heap.size) s.heap [(a, .inr (6, [.int 0, .int 0, .int 0, .int 0, .int 0, .int 0, .ref q37, .ref q45, .ref q53, .ref q61, .ref q69, .ref q77, .ref q85, .ref q93, .ref q101, .ref q109, .null, .null, .null, .null]))] [(q117, 63), (q109, 62), (q101, 61), (q93, 60), (q85, 59), (q77, 58), (q69, 57), (q61, 56), (q53, 55), (q45, 54), (q37, 53)] [53, 54, 55, 56, 57, 58, 59, 60, 61, 62, 63] _ _ := hB
  refine bw_put (v := .ref q117) (fty := (.array .int)) hx hb hts hin hown hK hin2 hB rfl 16 (by decide) (in_r7 _ (List.mem_of_getElem? (i := 18) rfl)) rfl (by decide +kernel) rfl rfl (Nat.le_of_ble_eq_true rfl) dX6_init_119 (fun H locs hB => ?_)
  have hB : bS D cys (bA a s.heap.size) s.heap [(a, .inr (6, [.int 0, .int 0, .int 0, .int 0, .int 0, .int 0, .ref q37, .ref q45, .ref q53, .ref q61, .ref q69, .ref q77, .ref q85, .ref q93, .ref q101, .ref q109, .ref q117, .null, .null, .null]))] [(q117, 63), (q109, 62), (q101, 61), (q93, 60), (q85, 59), (q77, 58), (q69, 57), (q61, 56), (q53, 55), (q45, 54), (q37, 53)] [53, 54, 55, 56, 57, 58, 59, 60, 61, 62, 63] _ _ := hB
  refine lv_aload_n hx hb dX6_init_122 rfl (lv_at hl 0 rfl) ?_
  refine lv_bipush (v := 12) hx hb dX6_init_123 (by decide) ?_
  refine bw_newa hx hb hK hA hB (ty := .int) (hts _ (hin _ (in_r3 _ (List.mem_of_getElem? (i := 5) rfl)))) rfl 64 0 rfl (by decide) (by decide +kernel) rfl rfl (by decide) (by decide) (by decide) (Nat.le_of_ble_eq_true rfl) (Nat.le_of_ble_eq_true rfl) dX6_init_125 (fun q125 H hB => ?_)
  have hB : bS D cys (bA a s.heap.size) s.heap [(a, .inr (6, [.int 0, .int 0, .int 0, .int 0, .int 0, .int 0, .ref q37, .ref q45, .ref q53, .ref q61, .ref q69, .ref q77, .ref q85, .ref q93, .ref q101, .ref q109, .ref q117, .null, .null, .null]))] [(q125, 64), (q117, 63), (q109, 62), (q101, 61), (q93, 60), (q85, 59), (q77, 58), (q69, 57), (q61, 56), (q53, 55), (q45, 54), (q37, 53)] [53, 54, 55, 56, 57, 58, 59, 60, 61, 62, 63, 64] _ _ := hB
  refine bw_put (v := .ref q125) (fty := (.array .int)) hx hb hts hin hown hK hin2 hB rfl 17 (by decide) (in_r7 _ (List.mem_of_getElem? (i := 19) rfl)) rfl (by decide +kernel) rfl rfl (Nat.le_of_ble_eq_true rfl) dX6_init_127 (fun H locs hB => ?_)
  have hB : bS D cys (bA a s.heap.size) s.heap [(a, .inr (6, [.int 0, .int 0, .int 0, .int 0, .int 0, .int 0, .ref q37, .ref q45, .ref q53, .ref q61, .ref q69, .ref q77, .ref q85, .ref q93, .ref q101, .ref q109, .ref q117, .ref q125, .null, .null]))] [(q125, 64), (q117, 63), (q109, 62), (q101, 61), (q93, 60), (q85, 59), (q77, 58), (q69, 57), (q61, 56), (q53, 55), (q45, 54), (q37, 53)] [53, 54, 55, 56, 57, 58, 59, 60, 61, 62, 63, 64] _ _ := hB
  refine lv_aload_n hx hb dX6_init_130 rfl (lv_at hl 0 rfl) ?_
  refine lv_bipush (v := 12) hx hb dX6_init_131 (by decide) ?_
  refine bw_newa hx hb hK hA hB (ty := .int) (hts _ (hin _ (in_r3 _ (List.mem_of_getElem? (i := 5) rfl)))) rfl 65 0 rfl (by decide) (by decide +kernel) rfl rfl (by decide) (by decide) (by decide) (Nat.le_of_ble_eq_true rfl) (Nat.le_of_ble_eq_true rfl) dX6_init_133 (fun q133 H hB => ?_)
  have hB : bS D cys (bA a s.heap.size) s.heap [(a, .inr (6, [.int 0, .int 0, .int 0, .int 0, .int 0, .int 0, .ref q37, .ref q45, .ref q53, .ref q61, .ref q69, .ref q77, .ref q85, .ref q93, .ref q101, .ref q109, .ref q117, .ref q125, .null, .null]))] [(q133, 65), (q125, 64), (q117, 63), (q109, 62), (q101, 61), (q93, 60), (q85, 59), (q77, 58), (q69, 57), (q61, 56), (q53, 55), (q45, 54), (q37, 53)] [53, 54, 55, 56, 57, 58, 59, 60, 61, 62, 63, 64, 65] _ _ := hB
  refine bw_put (v := .ref q133) (fty := (.array .int)) hx hb hts hin hown hK hin2 hB rfl 18 (by decide) (in_r7 _ (List.mem_of_getElem? (i := 20) rfl)) rfl (by decide +kernel) rfl rfl (Nat.le_of_ble_eq_true rfl) dX6_init_135 (fun H locs hB => ?_)
  have hB : bS D cys (bA a s.heap.size) s.heap [(a, .inr (6, [.int 0, .int 0, .int 0, .int 0, .int 0, .int 0, .ref q37, .ref q45, .ref q53, .ref q61, .ref q69, .ref q77, .ref q85, .ref q93, .ref q101, .ref q109, .ref q117, .ref q125, .ref q133, .null]))] [(q133, 65), (q125, 64), (q117, 63), (q109, 62), (q101, 61), (q93, 60), (q85, 59), (q77, 58), (q69, 57), (q61, 56), (q53, 55), (q45, 54), (q37, 53)] [53, 54, 55, 56, 57, 58, 59, 60, 61, 62, 63, 64, 65] _ _ := hB
  refine lv_aload_n hx hb dX6_init_138 rfl (lv_at hl 0 rfl) ?_
  refine lv_bipush (v := 12) hx hb dX6_init_139 (by decide) ?_
  refine bw_newa hx hb hK hA hB (ty := .int) (hts _ (hin _ (in_r3 _ (List.mem_of_getElem? (i := 5) rfl)))) rfl 66 0 rfl (by decide) (by decide +kernel) rfl rfl (by decide) (by decide) (by decide) (Nat.le_of_ble_eq_true rfl) (Nat.le_of_ble_eq_true rfl) dX6_init_141 (fun q141 H hB => ?_)
  have hB : bS D cys (bA a s.heap.size) s.heap [(a, .inr (6, [.int 0, .int 0, .int 0, .int 0, .int 0, .int 0, .ref q37, .ref q45, .ref q53, .ref q61, .ref q69, .ref q77, .ref q85, .ref q93, .ref q101, .ref q109, .ref q117, .ref q125, .ref q133, .null]))] [(q141, 66), (q133, 65), (q125, 64), (q117, 63), (q109, 62), (q101, 61), (q93, 60), (q85, 59), (q77, 58), (q69, 57), (q61, 56), (q53, 55), (q45, 54), (q37, 53)] [53, 54, 55, 56, 57, 58, 59, 60, 61, 62, 63, 64, 65, 66] _ _ := hB
  refine bw_put (v := .ref q141) (fty := (.array .int)) hx hb hts hin hown hK hin2 hB rfl 19 (by decide) (in_r7 _ (List.mem_of_getElem? (i := 21) rfl)) rfl (by decide +kernel) rfl rfl (Nat.le_of_ble_eq_true rfl) dX6_init_143 (fun H locs hB => ?_)
  have hB : bS D cys (bA a s.heap.size) s.heap [(a, .inr (6, [.int 0, .int 0, .int 0, .int 0, .int 0, .int 0, .ref q37, .ref q45, .ref q53, .ref q61, .ref q69, .ref q77, .ref q85, .ref q93, .ref q101, .ref q109, .ref q117, .ref q125, .ref q133, .ref q141]))] [(q141, 66), (q133, 65), (q125, 64), (q117, 63), (q109, 62), (q101, 61), (q93, 60), (q85, 59), (q77, 58), (q69, 57), (q61, 56), (q53, 55), (q45, 54), (q37, 53)] [53, 54, 55, 56, 57, 58, 59, 60, 61, 62, 63, 64, 65, 66] _ _ := hB
  refine bw_ret (zs := [0, 1, 2, 3, 4]) hx hb hr hlk hB rfl rfl (fun ty hty k ft hk => ?_) (by decide +kernel) (List.forall_mem_cons.mpr ⟨rfl, (List.forall_mem_cons.mpr ⟨rfl, (List.forall_mem_cons.mpr ⟨rfl, (List.forall_mem_cons.mpr ⟨rfl, (List.forall_mem_cons.mpr ⟨rfl, (fun k hk => by cases hk)⟩)⟩)⟩)⟩)⟩) ⟨rfl, rfl⟩ dX6_init_146
  exact match k, hk with
    | 0, hk => by cases hk; exact ⟨_, rfl, bv_i (by decide) (by decide)⟩
    | 1, hk => by cases hk; exact ⟨_, rfl, bv_i (by decide) (by decide)⟩
    | 2, hk => by cases hk; exact ⟨_, rfl, bv_i (by decide) (by decide)⟩
    | 3, hk => by cases hk; exact ⟨_, rfl, bv_i (by decide) (by decide)⟩
    | 4, hk => by cases hk; exact ⟨_, rfl, bv_i (by decide) (by decide)⟩
    | 5, hk => by cases hk; exact ⟨_, rfl, bv_i (by decide) (by decide)⟩
    | 6, hk => by cases hk; exact ⟨_, rfl, ⟨_, rfl, hty _ (List.mem_of_getElem? (i := 13) rfl)⟩⟩
    | 7, hk => by cases hk; exact ⟨_, rfl, ⟨_, rfl, hty _ (List.mem_of_getElem? (i := 12) rfl)⟩⟩
    | 8, hk => by cases hk; exact ⟨_, rfl, ⟨_, rfl, hty _ (List.mem_of_getElem? (i := 11) rfl)⟩⟩
    | 9, hk => by cases hk; exact ⟨_, rfl, ⟨_, rfl, hty _ (List.mem_of_getElem? (i := 10) rfl)⟩⟩
    | 10, hk => by cases hk; exact ⟨_, rfl, ⟨_, rfl, hty _ (List.mem_of_getElem? (i := 9) rfl)⟩⟩
    | 11, hk => by cases hk; exact ⟨_, rfl, ⟨_, rfl, hty _ (List.mem_of_getElem? (i := 8) rfl)⟩⟩
    | 12, hk => by cases hk; exact ⟨_, rfl, ⟨_, rfl, hty _ (List.mem_of_getElem? (i := 7) rfl)⟩⟩
    | 13, hk => by cases hk; exact ⟨_, rfl, ⟨_, rfl, hty _ (List.mem_of_getElem? (i := 6) rfl)⟩⟩
    | 14, hk => by cases hk; exact ⟨_, rfl, ⟨_, rfl, hty _ (List.mem_of_getElem? (i := 5) rfl)⟩⟩
    | 15, hk => by cases hk; exact ⟨_, rfl, ⟨_, rfl, hty _ (List.mem_of_getElem? (i := 4) rfl)⟩⟩
    | 16, hk => by cases hk; exact ⟨_, rfl, ⟨_, rfl, hty _ (List.mem_of_getElem? (i := 3) rfl)⟩⟩
    | 17, hk => by cases hk; exact ⟨_, rfl, ⟨_, rfl, hty _ (List.mem_of_getElem? (i := 2) rfl)⟩⟩
    | 18, hk => by cases hk; exact ⟨_, rfl, ⟨_, rfl, hty _ (List.mem_of_getElem? (i := 1) rfl)⟩⟩
    | 19, hk => by cases hk; exact ⟨_, rfl, ⟨_, rfl, hty _ (List.mem_of_getElem? (i := 0) rfl)⟩⟩
    | n + 20, hk => by cases hk
abbrev tg_6i : List ck_AV := [.inl (0, 6, []), .inl (0, 6, []), .inl (0, 8, []), .inl (0, 6, []), .inl (0, 12, []), .inl (0, 1, []), .inr (.inl 81), .inr (.inl 82), .inr (.inl 83), .inr (.inl 84), .inr (.inl 85), .inr (.inl 86), .inr (.inl 87), .inr (.inl 88), .inr (.inl 89), .inr (.inl 90), .inr (.inl 91), .inr (.inl 92), .inr (.inl 93), .inr (.inl 94)]
set_option maxRecDepth 100000 in
set_option maxHeartbeats 4000000 in
theorem con_6i : bCon l D cys yX6_init cX6_init 1 1 12 14 154 6 [.int 0, .int 0, .int 0, .int 0, .int 0, .int 0, .null, .null, .null, .null, .null, .null, .null, .null, .null, .null, .null, .null, .null, .null] 51 [51, 81, 82, 83, 84, 85, 86, 87, 88, 89, 90, 91, 92, 93, 94] := by
  refine bw_enter (o := 6) (by decide) rfl rfl (by decide) ?_
  intro a p e s m below meth c ls hx hb hml hr hlk hts hown hT hin2 hl hA hB
  have hin : ∀ w ∈ wsL_law0, w ∈ Jvm.Cond.code yX6_init cX6_init 1 none :: wsL_law0 := fun w hw => List.mem_cons_of_mem _ hw
  have hK := hT.1
  refine lv_aload_n hx hb dX6_init_0 rfl (lv_at hl 0 rfl) ?_
  refine W.objInit hx hb hown (hts _ (hin _ (in_r7 _ (List.mem_of_getElem? (i := 1) rfl)))) (hts _ (hin _ (in_r1 _ (List.mem_of_getElem? (i := 11) rfl)))) (hts _ (hin _ (in_r1 _ (List.mem_of_getElem? (i := 12) rfl)))) rfl (by rw [hml]; exact hl.1) rfl dX6_init_1 (Nat.le_of_ble_eq_true rfl) (Nat.le_of_ble_eq_true rfl) ?_
  refine W.eq (g2 := F0 m 4 ls []) rfl ?_
  refine lv_aload_n hx hb dX6_init_4 rfl (lv_at hl 0 rfl) ?_
  refine lv_iconst (v := 0) hx hb dX6_init_5 (by decide) ?_
  refine bw_put (v := .int 0) (fty := (.int)) hx hb hts hin hown hK hin2 hB rfl 0 (by decide) (in_r7 _ (List.mem_of_getElem? (i := 2) rfl)) rfl (by decide +kernel) rfl rfl (Nat.le_of_ble_eq_true rfl) dX6_init_6 (fun H locs hB => ?_)
  have hB : bS D cys (bA a s.heap.size) s.heap [(a, .inr (6, [.int 0, .int 0, .int 0, .int 0, .int 0, .int 0, .null, .null, .null, .null, .null, .null, .null, .null, .null, .null, .null, .null, .null, .null]))] [] [] _ _ := hB
  refine lv_aload_n hx hb dX6_init_9 rfl (lv_at hl 0 rfl) ?_
  refine lv_iconst (v := 0) hx hb dX6_init_10 (by decide) ?_
  refine bw_put (v := .int 0) (fty := (.int)) hx hb hts hin hown hK hin2 hB rfl 1 (by decide) (in_r7 _ (List.mem_of_getElem? (i := 3) rfl)) rfl (by decide +kernel) rfl rfl (Nat.le_of_ble_eq_true rfl) dX6_init_11 (fun H locs hB => ?_)
  have hB : bS D cys (bA a s.heap.size) s.heap [(a, .inr (6, [.int 0, .int 0, .int 0, .int 0, .int 0, .int 0, .null, .null, .null, .null, .null, .null, .null, .null, .null, .null, .null, .null, .null, .null]))] [] [] _ _ := hB
  refine lv_aload_n hx hb dX6_init_14 rfl (lv_at hl 0 rfl) ?_
  refine lv_iconst (v := 0) hx hb dX6_init_15 (by decide) ?_
  refine bw_put (v := .int 0) (fty := (.int)) hx hb hts hin hown hK hin2 hB rfl 2 (by decide) (in_r7 _ (List.mem_of_getElem? (i := 4) rfl)) rfl (by decide +kernel) rfl rfl (Nat.le_of_ble_eq_true rfl) dX6_init_16 (fun H locs hB => ?_)
  have hB : bS D cys (bA a s.heap.size) s.heap [(a, .inr (6, [.int 0, .int 0, .int 0, .int 0, .int 0, .int 0, .null, .null, .null, .null, .null, .null, .null, .null, .null, .null, .null, .null, .null, .null]))] [] [] _ _ := hB
  refine lv_aload_n hx hb dX6_init_19 rfl (lv_at hl 0 rfl) ?_
  refine lv_iconst (v := 0) hx hb dX6_init_20 (by decide) ?_
  refine bw_put (v := .int 0) (fty := (.int)) hx hb hts hin hown hK hin2 hB rfl 3 (by decide) (in_r7 _ (List.mem_of_getElem? (i := 5) rfl)) rfl (by decide +kernel) rfl rfl (Nat.le_of_ble_eq_true rfl) dX6_init_21 (fun H locs hB => ?_)
  have hB : bS D cys (bA a s.heap.size) s.heap [(a, .inr (6, [.int 0, .int 0, .int 0, .int 0, .int 0, .int 0, .null, .null, .null, .null, .null, .null, .null, .null, .null, .null, .null, .null, .null, .null]))] [] [] _ _ := hB
  refine lv_aload_n hx hb dX6_init_24 rfl (lv_at hl 0 rfl) ?_
  refine lv_iconst (v := 0) hx hb dX6_init_25 (by decide) ?_
  refine bw_put (v := .int 0) (fty := (.int)) hx hb hts hin hown hK hin2 hB rfl 4 (by decide) (in_r7 _ (List.mem_of_getElem? (i := 6) rfl)) rfl (by decide +kernel) rfl rfl (Nat.le_of_ble_eq_true rfl) dX6_init_26 (fun H locs hB => ?_)
  have hB : bS D cys (bA a s.heap.size) s.heap [(a, .inr (6, [.int 0, .int 0, .int 0, .int 0, .int 0, .int 0, .null, .null, .null, .null, .null, .null, .null, .null, .null, .null, .null, .null, .null, .null]))] [] [] _ _ := hB
  refine lv_aload_n hx hb dX6_init_29 rfl (lv_at hl 0 rfl) ?_
  refine lv_iconst (v := 0) hx hb dX6_init_30 (by decide) ?_
  refine bw_put (v := .int 0) (fty := (.boolean)) hx hb hts hin hown hK hin2 hB rfl 5 (by decide) (in_r7 _ (List.mem_of_getElem? (i := 7) rfl)) rfl (by decide +kernel) rfl rfl (Nat.le_of_ble_eq_true rfl) dX6_init_31 (fun H locs hB => ?_)
  have hB : bS D cys (bA a s.heap.size) s.heap [(a, .inr (6, [.int 0, .int 0, .int 0, .int 0, .int 0, .int 0, .null, .null, .null, .null, .null, .null, .null, .null, .null, .null, .null, .null, .null, .null]))] [] [] _ _ := hB
  refine lv_aload_n hx hb dX6_init_34 rfl (lv_at hl 0 rfl) ?_
  refine lv_bipush (v := 6) hx hb dX6_init_35 (by decide) ?_
  refine bw_newl hx hb hK hA hB (hts _ (hin _ (in_r1 _ (List.mem_of_getElem? (i := 6) rfl)))) 81 rfl (by decide +kernel) (by decide) (by decide) (by decide) (by decide) (Nat.le_of_ble_eq_true rfl) (Nat.le_of_ble_eq_true rfl) dX6_init_37 (fun q37 H hB => ?_)
  have hB : bS D cys (bA a s.heap.size) s.heap [(a, .inr (6, [.int 0, .int 0, .int 0, .int 0, .int 0, .int 0, .null, .null, .null, .null, .null, .null, .null, .null, .null, .null, .null, .null, .null, .null]))] [(q37, 81)] [81] _ _ := hB
  refine bw_put (v := .ref q37) (fty := (.array .long)) hx hb hts hin hown hK hin2 hB rfl 6 (by decide) (in_r7 _ (List.mem_of_getElem? (i := 8) rfl)) rfl (by decide +kernel) rfl rfl (Nat.le_of_ble_eq_true rfl) dX6_init_39 (fun H locs hB => ?_)
  have hB : bS D cys (bA a s.heap.size) s.heap [(a, .inr (6, [.int 0, .int 0, .int 0, .int 0, .int 0, .int 0, .ref q37, .null, .null, .null, .null, .null, .null, .null, .null, .null, .null, .null, .null, .null]))] [(q37, 81)] [81] _ _ := hB
  refine lv_aload_n hx hb dX6_init_42 rfl (lv_at hl 0 rfl) ?_
  refine lv_bipush (v := 6) hx hb dX6_init_43 (by decide) ?_
  refine bw_newl hx hb hK hA hB (hts _ (hin _ (in_r1 _ (List.mem_of_getElem? (i := 6) rfl)))) 82 rfl (by decide +kernel) (by decide) (by decide) (by decide) (by decide) (Nat.le_of_ble_eq_true rfl) (Nat.le_of_ble_eq_true rfl) dX6_init_45 (fun q45 H hB => ?_)
  have hB : bS D cys (bA a s.heap.size) s.heap [(a, .inr (6, [.int 0, .int 0, .int 0, .int 0, .int 0, .int 0, .ref q37, .null, .null, .null, .null, .null, .null, .null, .null, .null, .null, .null, .null, .null]))] [(q45, 82), (q37, 81)] [81, 82] _ _ := hB
  refine bw_put (v := .ref q45) (fty := (.array .long)) hx hb hts hin hown hK hin2 hB rfl 7 (by decide) (in_r7 _ (List.mem_of_getElem? (i := 9) rfl)) rfl (by decide +kernel) rfl rfl (Nat.le_of_ble_eq_true rfl) dX6_init_47 (fun H locs hB => ?_)
  have hB : bS D cys (bA a s.heap.size) s.heap [(a, .inr (6, [.int 0, .int 0, .int 0, .int 0, .int 0, .int 0, .ref q37, .ref q45, .null, .null, .null, .null, .null, .null, .null, .null, .null, .null, .null, .null]))] [(q45, 82), (q37, 81)] [81, 82] _ _ := hB
  refine lv_aload_n hx hb dX6_init_50 rfl (lv_at hl 0 rfl) ?_
  refine lv_bipush (v := 8) hx hb dX6_init_51 (by decide) ?_
  refine bw_newl hx hb hK hA hB (hts _ (hin _ (in_r1 _ (List.mem_of_getElem? (i := 6) rfl)))) 83 rfl (by decide +kernel) (by decide) (by decide) (by decide) (by decide) (Nat.le_of_ble_eq_true rfl) (Nat.le_of_ble_eq_true rfl) dX6_init_53 (fun q53 H hB => ?_)
  have hB : bS D cys (bA a s.heap.size) s.heap [(a, .inr (6, [.int 0, .int 0, .int 0, .int 0, .int 0, .int 0, .ref q37, .ref q45, .null, .null, .null, .null, .null, .null, .null, .null, .null, .null, .null, .null]))] [(q53, 83), (q45, 82), (q37, 81)] [81, 82, 83] _ _ := hB
  refine bw_put (v := .ref q53) (fty := (.array .long)) hx hb hts hin hown hK hin2 hB rfl 8 (by decide) (in_r7 _ (List.mem_of_getElem? (i := 10) rfl)) rfl (by decide +kernel) rfl rfl (Nat.le_of_ble_eq_true rfl) dX6_init_55 (fun H locs hB => ?_)
  have hB : bS D cys (bA a s.heap.size) s.heap [(a, .inr (6, [.int 0, .int 0, .int 0, .int 0, .int 0, .int 0, .ref q37, .ref q45, .ref q53, .null, .null, .null, .null, .null, .null, .null, .null, .null, .null, .null]))] [(q53, 83), (q45, 82), (q37, 81)] [81, 82, 83] _ _ := hB
  refine lv_aload_n hx hb dX6_init_58 rfl (lv_at hl 0 rfl) ?_
  refine lv_bipush (v := 6) hx hb dX6_init_59 (by decide) ?_
  refine bw_newa hx hb hK hA hB (ty := .int) (hts _ (hin _ (in_r3 _ (List.mem_of_getElem? (i := 5) rfl)))) rfl 84 0 rfl (by decide) (by decide +kernel) rfl rfl (by decide) (by decide) (by decide) (Nat.le_of_ble_eq_true rfl) (Nat.le_of_ble_eq_true rfl) dX6_init_61 (fun q61 H hB => ?_)
  have hB : bS D cys (bA a s.heap.size) s.heap [(a, .inr (6, [.int 0, .int 0, .int 0, .int 0, .int 0, .int 0, .ref q37, .ref q45, .ref q53, .null, .null, .null, .null, .null, .null, .null, .null, .null, .null, .null]))] [(q61, 84), (q53, 83), (q45, 82), (q37, 81)] [81, 82, 83, 84] _ _ := hB
  refine bw_put (v := .ref q61) (fty := (.array .int)) hx hb hts hin hown hK hin2 hB rfl 9 (by decide) (in_r7 _ (List.mem_of_getElem? (i := 11) rfl)) rfl (by decide +kernel) rfl rfl (Nat.le_of_ble_eq_true rfl) dX6_init_63 (fun H locs hB => ?_)
  have hB : bS D cys (bA a s.heap.size) s.heap [(a, .inr (6, [.int 0, .int 0, .int 0, .int 0, .int 0, .int 0, .ref q37, .ref q45, .ref q53, .ref q61, .null, .null, .null, .null, .null, .null, .null, .null, .null, .null]))] [(q61, 84), (q53, 83), (q45, 82), (q37, 81)] [81, 82, 83, 84] _ _ := hB
  refine lv_aload_n hx hb dX6_init_66 rfl (lv_at hl 0 rfl) ?_
  refine lv_bipush (v := 6) hx hb dX6_init_67 (by decide) ?_
  refine bw_newa hx hb hK hA hB (ty := .int) (hts _ (hin _ (in_r3 _ (List.mem_of_getElem? (i := 5) rfl)))) rfl 85 0 rfl (by decide) (by decide +kernel) rfl rfl (by decide) (by decide) (by decide) (Nat.le_of_ble_eq_true rfl) (Nat.le_of_ble_eq_true rfl) dX6_init_69 (fun q69 H hB => ?_)
  have hB : bS D cys (bA a s.heap.size) s.heap [(a, .inr (6, [.int 0, .int 0, .int 0, .int 0, .int 0, .int 0, .ref q37, .ref q45, .ref q53, .ref q61, .null, .null, .null, .null, .null, .null, .null, .null, .null, .null]))] [(q69, 85), (q61, 84), (q53, 83), (q45, 82), (q37, 81)] [81, 82, 83, 84, 85] _ _ := hB
  refine bw_put (v := .ref q69) (fty := (.array .int)) hx hb hts hin hown hK hin2 hB rfl 10 (by decide) (in_r7 _ (List.mem_of_getElem? (i := 12) rfl)) rfl (by decide +kernel) rfl rfl (Nat.le_of_ble_eq_true rfl) dX6_init_71 (fun H locs hB => ?_)
  have hB : bS D cys (bA a s.heap.size) s.heap [(a, .inr (6, [.int 0, .int 0, .int 0, .int 0, .int 0, .int 0, .ref q37, .ref q45, .ref q53, .ref q61, .ref q69, .null, .null, .null, .null, .null, .null, .null, .null, .null]))] [(q69, 85), (q61, 84), (q53, 83), (q45, 82), (q37, 81)] [81, 82, 83, 84, 85] _ _ := hB
  refine lv_aload_n hx hb dX6_init_74 rfl (lv_at hl 0 rfl) ?_
  refine lv_bipush (v := 6) hx hb dX6_init_75 (by decide) ?_
  refine bw_newa hx hb hK hA hB (ty := .int) (hts _ (hin _ (in_r3 _ (List.mem_of_getElem? (i := 5) rfl)))) rfl 86 0 rfl (by decide) (by decide +kernel) rfl rfl (by decide) (by decide) (by decide) (Nat.le_of_ble_eq_true rfl) (Nat.le_of_ble_eq_true rfl) dX6_init_77 (fun q77 H hB => ?_)
  have hB : bS D cys (bA a s.heap.size) s.heap [(a, .inr (6, [.int 0, .int 0, .int 0, .int 0, .int 0, .int 0, .ref q37, .ref q45, .ref q53, .ref q61, .ref q69, .null, .null, .null, .null, .null, .null, .null, .null, .null]))] [(q77, 86), (q69, 85), (q61, 84), (q53, 83), (q45, 82), (q37, 81)] [81, 82, 83, 84, 85, 86] _ _ := hB
  refine bw_put (v := .ref q77) (fty := (.array .int)) hx hb hts hin hown hK hin2 hB rfl 11 (by decide) (in_r7 _ (List.mem_of_getElem? (i := 13) rfl)) rfl (by decide +kernel) rfl rfl (Nat.le_of_ble_eq_true rfl) dX6_init_79 (fun H locs hB => ?_)
  have hB : bS D cys (bA a s.heap.size) s.heap [(a, .inr (6, [.int 0, .int 0, .int 0, .int 0, .int 0, .int 0, .ref q37, .ref q45, .ref q53, .ref q61, .ref q69, .ref q77, .null, .null, .null, .null, .null, .null, .null, .null]))] [(q77, 86), (q69, 85), (q61, 84), (q53, 83), (q45, 82), (q37, 81)] [81, 82, 83, 84, 85, 86] _ _ := hB
  refine lv_aload_n hx hb dX6_init_82 rfl (lv_at hl 0 rfl) ?_
  refine lv_bipush (v := 8) hx hb dX6_init_83 (by decide) ?_
  refine bw_newa hx hb hK hA hB (ty := .int) (hts _ (hin _ (in_r3 _ (List.mem_of_getElem? (i := 5) rfl)))) rfl 87 0 rfl (by decide) (by decide +kernel) rfl rfl (by decide) (by decide) (by decide) (Nat.le_of_ble_eq_true rfl) (Nat.le_of_ble_eq_true rfl) dX6_init_85 (fun q85 H hB => ?_)
  have hB : bS D cys (bA a s.heap.size) s.heap [(a, .inr (6, [.int 0, .int 0, .int 0, .int 0, .int 0, .int 0, .ref q37, .ref q45, .ref q53, .ref q61, .ref q69, .ref q77, .null, .null, .null, .null, .null, .null, .null, .null]))] [(q85, 87), (q77, 86), (q69, 85), (q61, 84), (q53, 83), (q45, 82), (q37, 81)] [81, 82, 83, 84, 85, 86, 87] _ _ := hB
  refine bw_put (v := .ref q85) (fty := (.array .int)) hx hb hts hin hown hK hin2 hB rfl 12 (by decide) (in_r7 _ (List.mem_of_getElem? (i := 14) rfl)) rfl (by decide +kernel) rfl rfl (Nat.le_of_ble_eq_true rfl) dX6_init_87 (fun H locs hB => ?_)
  have hB : bS D cys (bA a s.heap.size) s.heap [(a, .inr (6, [.int 0, .int 0, .int 0, .int 0, .int 0, .int 0, .ref q37, .ref q45, .ref q53, .ref q61, .ref q69, .ref q77, .ref q85, .null, .null, .null, .null, .null, .null, .null]))] [(q85, 87), (q77, 86), (q69, 85), (q61, 84), (q53, 83), (q45, 82), (q37, 81)] [81, 82, 83, 84, 85, 86, 87] _ _ := hB
  refine lv_aload_n hx hb dX6_init_90 rfl (lv_at hl 0 rfl) ?_
  refine lv_bipush (v := 8) hx hb dX6_init_91 (by decide) ?_
  refine bw_newa hx hb hK hA hB (ty := .int) (hts _ (hin _ (in_r3 _ (List.mem_of_getElem? (i := 5) rfl)))) rfl 88 0 rfl (by decide) (by decide +kernel) rfl rfl (by decide) (by decide) (by decide) (Nat.le_of_ble_eq_true rfl) (Nat.le_of_ble_eq_true rfl) dX6_init_93 (fun q93 H hB => ?_)
  have hB : bS D cys (bA a s.heap.size) s.heap [(a, .inr (6, [.int 0, .int 0, .int 0, .int 0, .int 0, .int 0, .ref q37, .ref q45, .ref q53, .ref q61, .ref q69, .ref q77, .ref q85, .null, .null, .null, .null, .null, .null, .null]))] [(q93, 88), (q85, 87), (q77, 86), (q69, 85), (q61, 84), (q53, 83), (q45, 82), (q37, 81)] [81, 82, 83, 84, 85, 86, 87, 88] _ _ := hB
  refine bw_put (v := .ref q93) (fty := (.array .int)) hx hb hts hin hown hK hin2 hB rfl 13 (by decide) (in_r7 _ (List.mem_of_getElem? (i := 15) rfl)) rfl (by decide +kernel) rfl rfl (Nat.le_of_ble_eq_true rfl) dX6_init_95 (fun H locs hB => ?_)
  have hB : bS D cys (bA a s.heap.size) s.heap [(a, .inr (6, [.int 0, .int 0, .int 0, .int 0, .int 0, .int 0, .ref q37, .ref q45, .ref q53, .ref q61, .ref q69, .ref q77, .ref q85, .ref q93, .null, .null, .null, .null, .null, .null]))] [(q93, 88), (q85, 87), (q77, 86), (q69, 85), (q61, 84), (q53, 83), (q45, 82), (q37, 81)] [81, 82, 83, 84, 85, 86, 87, 88] _ _ := hB
  refine lv_aload_n hx hb dX6_init_98 rfl (lv_at hl 0 rfl) ?_
  refine lv_bipush (v := 8) hx hb dX6_init_99 (by decide) ?_
  refine bw_newa hx hb hK hA hB (ty := .int) (hts _ (hin _ (in_r3 _ (List.mem_of_getElem? (i := 5) rfl)))) rfl 89 0 rfl (by decide) (by decide +kernel) rfl rfl (by decide) (by decide) (by decide) (Nat.le_of_ble_eq_true rfl) (Nat.le_of_ble_eq_true rfl) dX6_init_101 (fun q101 H hB => ?_)
  have hB : bS D cys (bA a s.heap.size) s.heap [(a, .inr (6, [.int 0, .int 0, .int 0, .int 0, .int 0, .int 0, .ref q37, .ref q45, .ref q53, .ref q61, .ref q69, .ref q77, .ref q85, .ref q93, .null, .null, .null, .null, .null, .null]))] [(q101, 89), (q93, 88), (q85, 87), (q77, 86), (q69, 85), (q61, 84), (q53, 83), (q45, 82), (q37, 81)] [81, 82, 83, 84, 85, 86, 87, 88, 89] _ _ := hB
  refine bw_put (v := .ref q101) (fty := (.array .int)) hx hb hts hin hown hK hin2 hB rfl 14 (by decide) (in_r7 _ (List.mem_of_getElem? (i := 16) rfl)) rfl (by decide +kernel) rfl rfl (Nat.le_of_ble_eq_true rfl) dX6_init_103 (fun H locs hB => ?_)
  have hB : bS D cys (bA a s.heap.size) s.heap [(a, .inr (6, [.int 0, .int 0, .int 0, .int 0, .int 0, .int 0, .ref q37, .ref q45, .ref q53, .ref q61, .ref q69, .ref q77, .ref q85, .ref q93, .ref q101, .null, .null, .null, .null, .null]))] [(q101, 89), (q93, 88), (q85, 87), (q77, 86), (q69, 85), (q61, 84), (q53, 83), (q45, 82), (q37, 81)] [81, 82, 83, 84, 85, 86, 87, 88, 89] _ _ := hB
  refine lv_aload_n hx hb dX6_init_106 rfl (lv_at hl 0 rfl) ?_
  refine lv_bipush (v := 8) hx hb dX6_init_107 (by decide) ?_
  refine bw_newa hx hb hK hA hB (ty := .int) (hts _ (hin _ (in_r3 _ (List.mem_of_getElem? (i := 5) rfl)))) rfl 90 0 rfl (by decide) (by decide +kernel) rfl rfl (by decide) (by decide) (by decide) (Nat.le_of_ble_eq_true rfl) (Nat.le_of_ble_eq_true rfl) dX6_init_109 (fun q109 H hB => ?_)
  have hB : bS D cys (bA a s.heap.size) s.heap [(a, .inr (6, [.int 0, .int 0, .int 0, .int 0, .int 0, .int 0, .ref q37, .ref q45, .ref q53, .ref q61, .ref q69, .ref q77, .ref q85, .ref q93, .ref q101, .null, .null, .null, .null, .null]))] [(q109, 90), (q101, 89), (q93, 88), (q85, 87), (q77, 86), (q69, 85), (q61, 84), (q53, 83), (q45, 82), (q37, 81)] [81, 82, 83, 84, 85, 86, 87, 88, 89, 90] _ _ := hB
  refine bw_put (v := .ref q109) (fty := (.array .int)) hx hb hts hin hown hK hin2 hB rfl 15 (by decide) (in_r7 _ (List.mem_of_getElem? (i := 17) rfl)) rfl (by decide +kernel) rfl rfl (Nat.le_of_ble_eq_true rfl) dX6_init_111 (fun H locs hB => ?_)
  have hB : bS D cys (bA a s.heap.size) s.heap [(a, .inr (6, [.int 0, .int 0, .int 0, .int 0, .int 0, .int 0, .ref q37, .ref q45, .ref q53, .ref q61, .ref q69, .ref q77, .ref q85, .ref q93, .ref q101, .ref q109, .null, .null, .null, .null]))] [(q109, 90), (q101, 89), (q93, 88), (q85, 87), (q77, 86), (q69, 85), (q61, 84), (q53, 83), (q45, 82), (q37, 81)] [81, 82, 83, 84, 85, 86, 87, 88, 89, 90] _ _ := hB
  refine lv_aload_n hx hb dX6_init_114 rfl (lv_at hl 0 rfl) ?_
  refine lv_bipush (v := 48) hx hb dX6_init_115 (by decide) ?_
  refine bw_newa hx hb hK hA hB (ty := .int) (hts _ (hin _ (in_r3 _ (List.mem_of_getElem? (i := 5) rfl)))) rfl 91 0 rfl (by decide) (by decide +kernel) rfl rfl (by decide) (by decide) (by decide) (Nat.le_of_ble_eq_true rfl) (Nat.le_of_ble_eq_true rfl) dX6_init_117 (fun q117 H hB => ?_)
  have hB : bS D cys (bA a s.heap.size) s.heap [(a, .inr (6, [.int 0, .int 0, .int 0, .int 0, .int 0, .int 0, .ref q37, .ref q45, .ref q53, .ref q61, .ref q69, .ref q77, .ref q85, .ref q93, .ref q101, .ref q109, .null, .null, .null, .null]))] [(q117, 91), (q109, 90), (q101, 89), (q93, 88), (q85, 87), (q77, 86), (q69, 85), (q61, 84), (q53, 83), (q45, 82), (q37, 81)] [81, 82, 83, 84, 85, 86, 87, 88, 89, 90, 91] _ _ := hB
  refine bw_put (v := .ref q117) (fty := (.array .int)) hx hb hts hin hown hK hin2 hB rfl 16 (by decide) (in_r7 _ (List.mem_of_getElem? (i := 18) rfl)) rfl (by decide +kernel) rfl rfl (Nat.le_of_ble_eq_true rfl) dX6_init_119 (fun H locs hB => ?_)
  have hB : bS D cys (bA a s.heap.size) s.heap [(a, .inr (6, [.int 0, .int 0, .int 0, .int 0, .int 0, .int 0, .ref q37, .ref q45, .ref q53, .ref q61, .ref q69, .ref q77, .ref q85, .ref q93, .ref q101, .ref q109, .ref q117, .null, .null, .null]))] [(q117, 91), (q109, 90), (q101, 89), (q93, 88), (q85, 87), (q77, 86), (q69, 85), (q61, 84), (q53, 83), (q45, 82), (q37, 81)] [81, 82, 83, 84, 85, 86, 87, 88, 89, 90, 91] _ _ := hB
  refine lv_aload_n hx hb dX6_init_122 rfl (lv_at hl 0 rfl) ?_
  refine lv_bipush (v := 12) hx hb dX6_init_123 (by decide) ?_
  refine bw_newa hx hb hK hA hB (ty := .int) (hts _ (hin _ (in_r3 _ (List.mem_of_getElem? (i := 5) rfl)))) rfl 92 0 rfl (by decide) (by decide +kernel) rfl rfl (by decide) (by decide) (by decide) (Nat.le_of_ble_eq_true rfl) (Nat.le_of_ble_eq_true rfl) dX6_init_125 (fun q125 H hB => ?_)
  have hB : bS D cys (bA a s.heap.size) s.heap [(a, .inr (6, [.int 0, .int 0, .int 0, .int 0, .int 0, .int 0, .ref q37, .ref q45, .ref q53, .ref q61, .ref q69, .ref q77, .ref q85, .ref q93, .ref q101, .ref q109, .ref q117, .null, .null, .null]))] [(q125, 92), (q117, 91), (q109, 90), (q101, 89), (q93, 88), (q85, 87), (q77, 86), (q69, 85), (q61, 84), (q53, 83), (q45, 82), (q37, 81)] [81, 82, 83, 84, 85, 86, 87, 88, 89, 90, 91, 92] _ _ := hB
  refine bw_put (v := .ref q125) (fty := (.array .int)) hx hb hts hin hown hK hin2 hB rfl 17 (by decide) (in_r7 _ (List.mem_of_getElem? (i := 19) rfl)) rfl (by decide +kernel) rfl rfl (Nat.le_of_ble_eq_true rfl) dX6_init_127 (fun H locs hB => ?_)
  have hB : bS D cys (bA a s.heap.size) s.heap [(a, .inr (6, [.int 0, .int 0, .int 0, .int 0, .int 0, .int 0, .ref q37, .ref q45, .ref q53, .ref q61, .ref q69, .ref q77, .ref q85, .ref q93, .ref q101, .ref q109, .ref q117, .ref q125, .null, .null]))] [(q125, 92), (q117, 91), (q109, 90), (q101, 89), (q93, 88), (q85, 87), (q77, 86), (q69, 85), (q61, 84), (q53, 83), (q45, 82), (q37, 81)] [81, 82, 83, 84, 85, 86, 87, 88, 89, 90, 91, 92] _ _ := hB
  refine lv_aload_n hx hb dX6_init_130 rfl (lv_at hl 0 rfl) ?_
  refine lv_bipush (v := 12) hx hb dX6_init_131 (by decide) ?_
  refine bw_newa hx hb hK hA hB (ty := .int) (hts _ (hin _ (in_r3 _ (List.mem_of_getElem? (i := 5) rfl)))) rfl 93 0 rfl (by decide) (by decide +kernel) rfl rfl (by decide) (by decide) (by decide) (Nat.le_of_ble_eq_true rfl) (Nat.le_of_ble_eq_true rfl) dX6_init_133 (fun q133 H hB => ?_)
  have hB : bS D cys (bA a s.heap.size) s.heap [(a, .inr (6, [.int 0, .int 0, .int 0, .int 0, .int 0, .int 0, .ref q37, .ref q45, .ref q53, .ref q61, .ref q69, .ref q77, .ref q85, .ref q93, .ref q101, .ref q109, .ref q117, .ref q125, .null, .null]))] [(q133, 93), (q125, 92), (q117, 91), (q109, 90), (q101, 89), (q93, 88), (q85, 87), (q77, 86), (q69, 85), (q61, 84), (q53, 83), (q45, 82), (q37, 81)] [81, 82, 83, 84, 85, 86, 87, 88, 89, 90, 91, 92, 93] _ _ := hB
  refine bw_put (v := .ref q133) (fty := (.array .int)) hx hb hts hin hown hK hin2 hB rfl 18 (by decide) (in_r7 _ (List.mem_of_getElem? (i := 20) rfl)) rfl (by decide +kernel) rfl rfl (Nat.le_of_ble_eq_true rfl) dX6_init_135 (fun H locs hB => ?_)
  have hB : bS D cys (bA a s.heap.size) s.heap [(a, .inr (6, [.int 0, .int 0, .int 0, .int 0, .int 0, .int 0, .ref q37, .ref q45, .ref q53, .ref q61, .ref q69, .ref q77, .ref q85, .ref q93, .ref q101, .ref q109, .ref q117, .ref q125, .ref q133, .null]))] [(q133, 93), (q125, 92), (q117, 91), (q109, 90), (q101, 89), (q93, 88), (q85, 87), (q77, 86), (q69, 85), (q61, 84), (q53, 83), (q45, 82), (q37, 81)] [81, 82, 83, 84, 85, 86, 87, 88, 89, 90, 91, 92, 93] _ _ := hB
  refine lv_aload_n hx hb dX6_init_138 rfl (lv_at hl 0 rfl) ?_
  refine lv_bipush (v := 12) hx hb dX6_init_139 (by decide) ?_
  refine bw_newa hx hb hK hA hB (ty := .int) (hts _ (hin _ (in_r3 _ (List.mem_of_getElem? (i := 5) rfl)))) rfl 94 0 rfl (by decide) (by decide +kernel) rfl rfl (by decide) (by decide) (by decide) (Nat.le_of_ble_eq_true rfl) (Nat.le_of_ble_eq_true rfl) dX6_init_141 (fun q141 H hB => ?_)
  have hB : bS D cys (bA a s.heap.size) s.heap [(a, .inr (6, [.int 0, .int 0, .int 0, .int 0, .int 0, .int 0, .ref q37, .ref q45, .ref q53, .ref q61, .ref q69, .ref q77, .ref q85, .ref q93, .ref q101, .ref q109, .ref q117, .ref q125, .ref q133, .null]))] [(q141, 94), (q133, 93), (q125, 92), (q117, 91), (q109, 90), (q101, 89), (q93, 88), (q85, 87), (q77, 86), (q69, 85), (q61, 84), (q53, 83), (q45, 82), (q37, 81)] [81, 82, 83, 84, 85, 86, 87, 88, 89, 90, 91, 92, 93, 94] _ _ := hB
  refine bw_put (v := .ref q141) (fty := (.array .int)) hx hb hts hin hown hK hin2 hB rfl 19 (by decide) (in_r7 _ (List.mem_of_getElem? (i := 21) rfl)) rfl (by decide +kernel) rfl rfl (Nat.le_of_ble_eq_true rfl) dX6_init_143 (fun H locs hB => ?_)
  have hB : bS D cys (bA a s.heap.size) s.heap [(a, .inr (6, [.int 0, .int 0, .int 0, .int 0, .int 0, .int 0, .ref q37, .ref q45, .ref q53, .ref q61, .ref q69, .ref q77, .ref q85, .ref q93, .ref q101, .ref q109, .ref q117, .ref q125, .ref q133, .ref q141]))] [(q141, 94), (q133, 93), (q125, 92), (q117, 91), (q109, 90), (q101, 89), (q93, 88), (q85, 87), (q77, 86), (q69, 85), (q61, 84), (q53, 83), (q45, 82), (q37, 81)] [81, 82, 83, 84, 85, 86, 87, 88, 89, 90, 91, 92, 93, 94] _ _ := hB
  refine bw_ret (zs := [0, 1, 2, 3, 4, 5]) hx hb hr hlk hB rfl rfl (fun ty hty k ft hk => ?_) (by decide +kernel) (List.forall_mem_cons.mpr ⟨rfl, (List.forall_mem_cons.mpr ⟨rfl, (List.forall_mem_cons.mpr ⟨rfl, (List.forall_mem_cons.mpr ⟨rfl, (List.forall_mem_cons.mpr ⟨rfl, (List.forall_mem_cons.mpr ⟨rfl, (fun k hk => by cases hk)⟩)⟩)⟩)⟩)⟩)⟩) ⟨rfl, rfl⟩ dX6_init_146
  exact match k, hk with
    | 0, hk => by cases hk; exact ⟨_, rfl, bv_i (by decide) (by decide)⟩
    | 1, hk => by cases hk; exact ⟨_, rfl, bv_i (by decide) (by decide)⟩
    | 2, hk => by cases hk; exact ⟨_, rfl, bv_i (by decide) (by decide)⟩
    | 3, hk => by cases hk; exact ⟨_, rfl, bv_i (by decide) (by decide)⟩
    | 4, hk => by cases hk; exact ⟨_, rfl, bv_i (by decide) (by decide)⟩
    | 5, hk => by cases hk; exact ⟨_, rfl, bv_i (by decide) (by decide)⟩
    | 6, hk => by cases hk; exact ⟨_, rfl, ⟨_, rfl, hty _ (List.mem_of_getElem? (i := 13) rfl)⟩⟩
    | 7, hk => by cases hk; exact ⟨_, rfl, ⟨_, rfl, hty _ (List.mem_of_getElem? (i := 12) rfl)⟩⟩
    | 8, hk => by cases hk; exact ⟨_, rfl, ⟨_, rfl, hty _ (List.mem_of_getElem? (i := 11) rfl)⟩⟩
    | 9, hk => by cases hk; exact ⟨_, rfl, ⟨_, rfl, hty _ (List.mem_of_getElem? (i := 10) rfl)⟩⟩
    | 10, hk => by cases hk; exact ⟨_, rfl, ⟨_, rfl, hty _ (List.mem_of_getElem? (i := 9) rfl)⟩⟩
    | 11, hk => by cases hk; exact ⟨_, rfl, ⟨_, rfl, hty _ (List.mem_of_getElem? (i := 8) rfl)⟩⟩
    | 12, hk => by cases hk; exact ⟨_, rfl, ⟨_, rfl, hty _ (List.mem_of_getElem? (i := 7) rfl)⟩⟩
    | 13, hk => by cases hk; exact ⟨_, rfl, ⟨_, rfl, hty _ (List.mem_of_getElem? (i := 6) rfl)⟩⟩
    | 14, hk => by cases hk; exact ⟨_, rfl, ⟨_, rfl, hty _ (List.mem_of_getElem? (i := 5) rfl)⟩⟩
    | 15, hk => by cases hk; exact ⟨_, rfl, ⟨_, rfl, hty _ (List.mem_of_getElem? (i := 4) rfl)⟩⟩
    | 16, hk => by cases hk; exact ⟨_, rfl, ⟨_, rfl, hty _ (List.mem_of_getElem? (i := 3) rfl)⟩⟩
    | 17, hk => by cases hk; exact ⟨_, rfl, ⟨_, rfl, hty _ (List.mem_of_getElem? (i := 2) rfl)⟩⟩
    | 18, hk => by cases hk; exact ⟨_, rfl, ⟨_, rfl, hty _ (List.mem_of_getElem? (i := 1) rfl)⟩⟩
    | 19, hk => by cases hk; exact ⟨_, rfl, ⟨_, rfl, hty _ (List.mem_of_getElem? (i := 0) rfl)⟩⟩
    | n + 20, hk => by cases hk
abbrev tg_6j : List ck_AV := [.inl (0, 6, []), .inl (0, 6, []), .inl (0, 8, []), .inl (0, 6, []), .inl (0, 12, []), .inl (0, 1, []), .inr (.inl 95), .inr (.inl 96), .inr (.inl 97), .inr (.inl 98), .inr (.inl 99), .inr (.inl 100), .inr (.inl 101), .inr (.inl 102), .inr (.inl 103), .inr (.inl 104), .inr (.inl 105), .inr (.inl 106), .inr (.inl 107), .inr (.inl 108)]
set_option maxRecDepth 100000 in
set_option maxHeartbeats 4000000 in
theorem con_6j : bCon l D cys yX6_init cX6_init 1 1 12 14 154 6 [.int 0, .int 0, .int 0, .int 0, .int 0, .int 0, .null, .null, .null, .null, .null, .null, .null, .null, .null, .null, .null, .null, .null, .null] 52 [52, 95, 96, 97, 98, 99, 100, 101, 102, 103, 104, 105, 106, 107, 108] := by
  refine bw_enter (o := 6) (by decide) rfl rfl (by decide) ?_
  intro a p e s m below meth c ls hx hb hml hr hlk hts hown hT hin2 hl hA hB
  have hin : ∀ w ∈ wsL_law0, w ∈ Jvm.Cond.code yX6_init cX6_init 1 none :: wsL_law0 := fun w hw => List.mem_cons_of_mem _ hw
  have hK := hT.1
  refine lv_aload_n hx hb dX6_init_0 rfl (lv_at hl 0 rfl) ?_
  refine W.objInit hx hb hown (hts _ (hin _ (in_r7 _ (List.mem_of_getElem? (i := 1) rfl)))) (hts _ (hin _ (in_r1 _ (List.mem_of_getElem? (i := 11) rfl)))) (hts _ (hin _ (in_r1 _ (List.mem_of_getElem? (i := 12) rfl)))) rfl (by rw [hml]; exact hl.1) rfl dX6_init_1 (Nat.le_of_ble_eq_true rfl) (Nat.le_of_ble_eq_true rfl) ?_
  refine W.eq (g2 := F0 m 4 ls []) rfl ?_
  refine lv_aload_n hx hb dX6_init_4 rfl (lv_at hl 0 rfl) ?_
  refine lv_iconst (v := 0) hx hb dX6_init_5 (by decide) ?_
  refine bw_put (v := .int 0) (fty := (.int)) hx hb hts hin hown hK hin2 hB rfl 0 (by decide) (in_r7 _ (List.mem_of_getElem? (i := 2) rfl)) rfl (by decide +kernel) rfl rfl (Nat.le_of_ble_eq_true rfl) dX6_init_6 (fun H locs hB => ?_)
  have hB : bS D cys (bA a s.heap.size) s.heap [(a, .inr (6, [.int 0, .int 0, .int 0, .int 0, .int 0, .int 0, .null, .null, .null, .null, .null, .null, .null, .null, .null, .null, .null, .null, .null, .null]))] [] [] _ _ := hB
  refine lv_aload_n hx hb dX6_init_9 rfl (lv_at hl 0 rfl) ?_
  refine lv_iconst (v := 0) hx hb dX6_init_10 (by decide) ?_
  refine bw_put (v := .int 0) (fty := (.int)) hx hb hts hin hown hK hin2 hB rfl 1 (by decide) (in_r7 _ (List.mem_of_getElem? (i := 3) rfl)) rfl (by decide +kernel) rfl rfl (Nat.le_of_ble_eq_true rfl) dX6_init_11 (fun H locs hB => ?_)
  have hB : bS D cys (bA a s.heap.size) s.heap [(a, .inr (6, [.int 0, .int 0, .int 0, .int 0, .int 0, .int 0, .null, .null, .null, .null, .null, .null, .null, .null, .null, .null, .null, .null, .null, .null]))] [] [] _ _ := hB
  refine lv_aload_n hx hb dX6_init_14 rfl (lv_at hl 0 rfl) ?_
  refine lv_iconst (v := 0) hx hb dX6_init_15 (by decide) ?_
  refine bw_put (v := .int 0) (fty := (.int)) hx hb hts hin hown hK hin2 hB rfl 2 (by decide) (in_r7 _ (List.mem_of_getElem? (i := 4) rfl)) rfl (by decide +kernel) rfl rfl (Nat.le_of_ble_eq_true rfl) dX6_init_16 (fun H locs hB => ?_)
  have hB : bS D cys (bA a s.heap.size) s.heap [(a, .inr (6, [.int 0, .int 0, .int 0, .int 0, .int 0, .int 0, .null, .null, .null, .null, .null, .null, .null, .null, .null, .null, .null, .null, .null, .null]))] [] [] _ _ := hB
  refine lv_aload_n hx hb dX6_init_19 rfl (lv_at hl 0 rfl) ?_
  refine lv_iconst (v := 0) hx hb dX6_init_20 (by decide) ?_
  refine bw_put (v := .int 0) (fty := (.int)) hx hb hts hin hown hK hin2 hB rfl 3 (by decide) (in_r7 _ (List.mem_of_getElem? (i := 5) rfl)) rfl (by decide +kernel) rfl rfl (Nat.le_of_ble_eq_true rfl) dX6_init_21 (fun H locs hB => ?_)
  have hB : bS D cys (bA a s.heap.size) s.heap [(a, .inr (6, [.int 0, .int 0, .int 0, .int 0, .int 0, .int 0, .null, .null, .null, .null, .null, .null, .null, .null, .null, .null, .null, .null, .null, .null]))] [] [] _ _ := hB
  refine lv_aload_n hx hb dX6_init_24 rfl (lv_at hl 0 rfl) ?_
  refine lv_iconst (v := 0) hx hb dX6_init_25 (by decide) ?_
  refine bw_put (v := .int 0) (fty := (.int)) hx hb hts hin hown hK hin2 hB rfl 4 (by decide) (in_r7 _ (List.mem_of_getElem? (i := 6) rfl)) rfl (by decide +kernel) rfl rfl (Nat.le_of_ble_eq_true rfl) dX6_init_26 (fun H locs hB => ?_)
  have hB : bS D cys (bA a s.heap.size) s.heap [(a, .inr (6, [.int 0, .int 0, .int 0, .int 0, .int 0, .int 0, .null, .null, .null, .null, .null, .null, .null, .null, .null, .null, .null, .null, .null, .null]))] [] [] _ _ := hB
  refine lv_aload_n hx hb dX6_init_29 rfl (lv_at hl 0 rfl) ?_
  refine lv_iconst (v := 0) hx hb dX6_init_30 (by decide) ?_
  refine bw_put (v := .int 0) (fty := (.boolean)) hx hb hts hin hown hK hin2 hB rfl 5 (by decide) (in_r7 _ (List.mem_of_getElem? (i := 7) rfl)) rfl (by decide +kernel) rfl rfl (Nat.le_of_ble_eq_true rfl) dX6_init_31 (fun H locs hB => ?_)
  have hB : bS D cys (bA a s.heap.size) s.heap [(a, .inr (6, [.int 0, .int 0, .int 0, .int 0, .int 0, .int 0, .null, .null, .null, .null, .null, .null, .null, .null, .null, .null, .null, .null, .null, .null]))] [] [] _ _ := hB
  refine lv_aload_n hx hb dX6_init_34 rfl (lv_at hl 0 rfl) ?_
  refine lv_bipush (v := 6) hx hb dX6_init_35 (by decide) ?_
  refine bw_newl hx hb hK hA hB (hts _ (hin _ (in_r1 _ (List.mem_of_getElem? (i := 6) rfl)))) 95 rfl (by decide +kernel) (by decide) (by decide) (by decide) (by decide) (Nat.le_of_ble_eq_true rfl) (Nat.le_of_ble_eq_true rfl) dX6_init_37 (fun q37 H hB => ?_)
  have hB : bS D cys (bA a s.heap.size) s.heap [(a, .inr (6, [.int 0, .int 0, .int 0, .int 0, .int 0, .int 0, .null, .null, .null, .null, .null, .null, .null, .null, .null, .null, .null, .null, .null, .null]))] [(q37, 95)] [95] _ _ := hB
  refine bw_put (v := .ref q37) (fty := (.array .long)) hx hb hts hin hown hK hin2 hB rfl 6 (by decide) (in_r7 _ (List.mem_of_getElem? (i := 8) rfl)) rfl (by decide +kernel) rfl rfl (Nat.le_of_ble_eq_true rfl) dX6_init_39 (fun H locs hB => ?_)
  have hB : bS D cys (bA a s.heap.size) s.heap [(a, .inr (6, [.int 0, .int 0, .int 0, .int 0, .int 0, .int 0, .ref q37, .null, .null, .null, .null, .null, .null, .null, .null, .null, .null, .null, .null, .null]))] [(q37, 95)] [95] _ _ := hB
  refine lv_aload_n hx hb dX6_init_42 rfl (lv_at hl 0 rfl) ?_
  refine lv_bipush (v := 6) hx hb dX6_init_43 (by decide) ?_
  refine bw_newl hx hb hK hA hB (hts _ (hin _ (in_r1 _ (List.mem_of_getElem? (i := 6) rfl)))) 96 rfl (by decide +kernel) (by decide) (by decide) (by decide) (by decide) (Nat.le_of_ble_eq_true rfl) (Nat.le_of_ble_eq_true rfl) dX6_init_45 (fun q45 H hB => ?_)
  have hB : bS D cys (bA a s.heap.size) s.heap [(a, .inr (6, [.int 0, .int 0, .int 0, .int 0, .int 0, .int 0, .ref q37, .null, .null, .null, .null, .null, .null, .null, .null, .null, .null, .null, .null, .null]))] [(q45, 96), (q37, 95)] [95, 96] _ _ := hB
  refine bw_put (v := .ref q45) (fty := (.array .long)) hx hb hts hin hown hK hin2 hB rfl 7 (by decide) (in_r7 _ (List.mem_of_getElem? (i := 9) rfl)) rfl (by decide +kernel) rfl rfl (Nat.le_of_ble_eq_true rfl) dX6_init_47 (fun H locs hB => ?_)
  have hB : bS D cys (bA a s.heap.size) s.heap [(a, .inr (6, [.int 0, .int 0, .int 0, .int 0, .int 0, .int 0, .ref q37, .ref q45, .null, .null, .null, .null, .null, .null, .null, .null, .null, .null, .null, .null]))] [(q45, 96), (q37, 95)] [95, 96] _ _ := hB
  refine lv_aload_n hx hb dX6_init_50 rfl (lv_at hl 0 rfl) ?_
  refine lv_bipush (v := 8) hx hb dX6_init_51 (by decide) ?_
  refine bw_newl hx hb hK hA hB (hts _ (hin _ (in_r1 _ (List.mem_of_getElem? (i := 6) rfl)))) 97 rfl (by decide +kernel) (by decide) (by decide) (by decide) (by decide) (Nat.le_of_ble_eq_true rfl) (Nat.le_of_ble_eq_true rfl) dX6_init_53 (fun q53 H hB => ?_)
  have hB : bS D cys (bA a s.heap.size) s.heap [(a, .inr (6, [.int 0, .int 0, .int 0, .int 0, .int 0, .int 0, .ref q37, .ref q45, .null, .null, .null, .null, .null, .null, .null, .null, .null, .null, .null, .null]))] [(q53, 97), (q45, 96), (q37, 95)] [95, 96, 97] _ _ := hB
  refine bw_put (v := .ref q53) (fty := (.array .long)) hx hb hts hin hown hK hin2 hB rfl 8 (by decide) (in_r7 _ (List.mem_of_getElem? (i := 10) rfl)) rfl (by decide +kernel) rfl rfl (Nat.le_of_ble_eq_true rfl) dX6_init_55 (fun H locs hB => ?_)
  have hB : bS D cys (bA a s.heap.size) s.heap [(a, .inr (6, [.int 0, .int 0, .int 0, .int 0, .int 0, .int 0, .ref q37, .ref q45, .ref q53, .null, .null, .null, .null, .null, .null, .null, .null, .null, .null, .null]))] [(q53, 97), (q45, 96), (q37, 95)] [95, 96, 97] _ _ := hB
  refine lv_aload_n hx hb dX6_init_58 rfl (lv_at hl 0 rfl) ?_
  refine lv_bipush (v := 6) hx hb dX6_init_59 (by decide) ?_
  refine bw_newa hx hb hK hA hB (ty := .int) (hts _ (hin _ (in_r3 _ (List.mem_of_getElem? (i := 5) rfl)))) rfl 98 0 rfl (by decide) (by decide +kernel) rfl rfl (by decide) (by decide) (by decide) (Nat.le_of_ble_eq_true rfl) (Nat.le_of_ble_eq_true rfl) dX6_init_61 (fun q61 H hB => ?_)
  have hB : bS D cys (bA a s.heap.size) s.heap [(a, .inr (6, [.int 0, .int 0, .int 0, .int 0, .int 0, .int 0, .ref q37, .ref q45, .ref q53, .null, .null, .null, .null, .null, .null, .null, .null, .null, .null, .null]))] [(q61, 98), (q53, 97), (q45, 96), (q37, 95)] [95, 96, 97, 98] _ _ := hB
  refine bw_put (v := .ref q61) (fty := (.array .int)) hx hb hts hin hown hK hin2 hB rfl 9 (by decide) (in_r7 _ (List.mem_of_getElem? (i := 11) rfl)) rfl (by decide +kernel) rfl rfl (Nat.le_of_ble_eq_true rfl) dX6_init_63 (fun H locs hB => ?_)
  have hB : bS D cys (bA a s.heap.size) s.heap [(a, .inr (6, [.int 0, .int 0, .int 0, .int 0, .int 0, .int 0, .ref q37, .ref q45, .ref q53, .ref q61, .null, .null, .null, .null, .null, .null, .null, .null, .null, .null]))] [(q61, 98), (q53, 97), (q45, 96), (q37, 95)] [95, 96, 97, 98] _ _ := hB
  refine lv_aload_n hx hb dX6_init_66 rfl (lv_at hl 0 rfl) ?_
  refine lv_bipush (v := 6) hx hb dX6_init_67 (by decide) ?_
  refine bw_newa hx hb hK hA hB (ty := .int) (hts _ (hin _ (in_r3 _ (List.mem_of_getElem? (i := 5) rfl)))) rfl 99 0 rfl (by decide) (by decide +kernel) rfl rfl (by decide) (by decide) (by decide) (Nat.le_of_ble_eq_true rfl) (Nat.le_of_ble_eq_true rfl) dX6_init_69 (fun q69 H hB => ?_)
  have hB : bS D cys (bA a s.heap.size) s.heap [(a, .inr (6, [.int 0, .int 0, .int 0, .int 0, .int 0, .int 0, .ref q37, .ref q45, .ref q53, .ref q61, .null, .null, .null, .null, .null, .null, .null, .null, .null, .null]))] [(q69, 99), (q61, 98), (q53, 97), (q45, 96), (q37, 95)] [95, 96, 97, 98, 99] _ _ := hB
  refine bw_put (v := .ref q69) (fty := (.array .int)) hx hb hts hin hown hK hin2 hB rfl 10 (by decide) (in_r7 _ (List.mem_of_getElem? (i := 12) rfl)) rfl (by decide +kernel) rfl rfl (Nat.le_of_ble_eq_true rfl) dX6_init_71 (fun H locs hB => ?_)
  have hB : bS D cys (bA a s.heap.size) s.heap [(a, .inr (6, [.int 0, .int 0, .int 0, .int 0, .int 0, .int 0, .ref q37, .ref q45, .ref q53, .ref q61, .ref q69, .null, .null, .null, .null, .null, .null, .null, .null, .null]))] [(q69, 99), (q61, 98), (q53, 97), (q45, 96), (q37, 95)] [95, 96, 97, 98, 99] _ _ := hB
  refine lv_aload_n hx hb dX6_init_74 rfl (lv_at hl 0 rfl) ?_
  refine lv_bipush (v := 6) hx hb dX6_init_75 (by decide) ?_
  refine bw_newa hx hb hK hA hB (ty := .int) (hts _ (hin _ (in_r3 _ (List.mem_of_getElem? (i := 5) rfl)))) rfl 100 0 rfl (by decide) (by decide +kernel) rfl rfl (by decide) (by decide) (by decide) (Nat.le_of_ble_eq_true rfl) (Nat.le_of_ble_eq_true rfl) dX6_init_77 (fun q77 H hB => ?_)
  have hB : bS D cys (bA a s.heap.size) s.heap [(a, .inr (6, [.int 0, .int 0, .int 0, .int 0, .int 0, .int 0, .ref q37, .ref q45, .ref q53, .ref q61, .ref q69, .null, .null, .null, .null, .null, .null, .null, .null, .null]))] [(q77, 100), (q69, 99), (q61, 98), (q53, 97), (q45, 96), (q37, 95)] [95, 96, 97, 98, 99, 100] _ _ := hB
  refine bw_put (v := .ref q77) (fty := (.array .int)) hx hb hts hin hown hK hin2 hB rfl 11 (by decide) (in_r7 _ (List.mem_of_getElem? (i := 13) rfl)) rfl (by decide +kernel) rfl rfl (Nat.le_of_ble_eq_true rfl) dX6_init_79 (fun H locs hB => ?_)
  have hB : bS D cys (bA a s.heap.size) s.heap [(a, .inr (6, [.int 0, .int 0, .int 0, .int 0, .int 0, .int 0, .ref q37, .ref q45, .ref q53, .ref q61, .ref q69, .ref q77, .null, .null, .null, .null, .null, .null, .null, .null]))] [(q77, 100), (q69, 99), (q61, 98), (q53, 97), (q45, 96), (q37, 95)] [95, 96, 97, 98, 99, 100] _ _ := hB
  refine lv_aload_n hx hb dX6_init_82 rfl (lv_at hl 0 rfl) ?_
  refine lv_bipush (v := 8) hx hb dX6_init_83 (by decide) ?_
  refine bw_newa hx hb hK hA hB (ty := .int) (hts _ (hin _ (in_r3 _ (List.mem_of_getElem? (i := 5) rfl)))) rfl 101 0 rfl (by decide) (by decide +kernel) rfl rfl (by decide) (by decide) (by decide) (Nat.le_of_ble_eq_true rfl) (Nat.le_of_ble_eq_true rfl) dX6_init_85 (fun q85 H hB => ?_)
  have hB : bS D cys (bA a s.heap.size) s.heap [(a, .inr (6, [.int 0, .int 0, .int 0, .int 0, .int 0, .int 0, .ref q37, .ref q45, .ref q53, .ref q61, .ref q69, .ref q77, .null, .null, .null, .null, .null, .null, .null, .null]))] [(q85, 101), (q77, 100), (q69, 99), (q61, 98), (q53, 97), (q45, 96), (q37, 95)] [95, 96, 97, 98, 99, 100, 101] _ _ := hB
  refine bw_put (v := .ref q85) (fty := (.array .int)) hx hb hts hin hown hK hin2 hB rfl 12 (by decide) (in_r7 _ (List.mem_of_getElem? (i := 14) rfl)) rfl (by decide +kernel) rfl rfl (Nat.le_of_ble_eq_true rfl) dX6_init_87 (fun H locs hB => ?_)
  have hB : bS D cys (bA a s.heap.size) s.heap [(a, .inr (6, [.int 0, .int 0, .int 0, .int 0, .int 0, .int 0, .ref q37, .ref q45, .ref q53, .ref q61, .ref q69, .ref q77, .ref q85, .null, .null, .null, .null, .null, .null, .null]))] [(q85, 101), (q77, 100), (q69, 99), (q61, 98), (q53, 97), (q45, 96), (q37, 95)] [95, 96, 97, 98, 99, 100, 101] _ _ := hB
  refine lv_aload_n hx hb dX6_init_90 rfl (lv_at hl 0 rfl) ?_
  refine lv_bipush (v := 8) hx hb dX6_init_91 (by decide) ?_
  refine bw_newa hx hb hK hA hB (ty := .int) (hts _ (hin _ (in_r3 _ (List.mem_of_getElem? (i := 5) rfl)))) rfl 102 0 rfl (by decide) (by decide +kernel) rfl rfl (by decide) (by decide) (by decide) (Nat.le_of_ble_eq_true rfl) (Nat.le_of_ble_eq_true rfl) dX6_init_93 (fun q93 H hB => ?_)
  have hB : bS D cys (bA a s.heap.size) s.heap [(a, .inr (6, [.int 0, .int 0, .int 0, .int 0, .int 0, .int 0, .ref q37, .ref q45, .ref q53, .ref q61, .ref q69, .ref q77, .ref q85, .null, .null, .null, .null, .null, .null, .null]))] [(q93, 102), (q85, 101), (q77, 100), (q69, 99), (q61, 98), (q53, 97), (q45, 96), (q37, 95)] [95, 96, 97, 98, 99, 100, 101, 102] _ _ := hB
  refine bw_put (v := .ref q93) (fty := (.array .int)) hx hb hts hin hown hK hin2 hB rfl 13 (by decide) (in_r7 _ (List.mem_of_getElem? (i := 15) rfl)) rfl (by decide +kernel) rfl rfl (Nat.le_of_ble_eq_true rfl) dX6_init_95 (fun H locs hB => ?_)
  have hB : bS D cys (bA a s.heap.size) s.heap [(a, .inr (6, [.int 0, .int 0, .int 0, .int 0, .int 0, .int 0, .ref q37, .ref q45, .ref q53, .ref q61, .ref q69, .ref q77, .ref q85, .ref q93, .null, .null, .null, .null, .null, .null]))] [(q93, 102), (q85, 101), (q77, 100), (q69, 99), (q61, 98), (q53, 97), (q45, 96), (q37, 95)] [95, 96, 97, 98, 99, 100, 101, 102] _ _ := hB
  refine lv_aload_n hx hb dX6_init_98 rfl (lv_at hl 0 rfl) ?_
  refine lv_bipush (v := 8) hx hb dX6_init_99 (by decide) ?_
  refine bw_newa hx hb hK hA hB (ty := .int) (hts _ (hin _ (in_r3 _ (List.mem_of_getElem? (i := 5) rfl)))) rfl 103 0 rfl (by decide) (by decide +kernel) rfl rfl (by decide) (by decide) (by decide) (Nat.le_of_ble_eq_true rfl) (Nat.le_of_ble_eq_true rfl) dX6_init_101 (fun q101 H hB => ?_)
  have hB : bS D cys (bA a s.heap.size) s.heap [(a, .inr (6, [.int 0, .int 0, .int 0, .int 0, .int 0, .int 0, .ref q37, .ref q45, .ref q53, .ref q61, .ref q69, .ref q77, .ref q85, .ref q93, .null, .null, .null, .null, .null, .null]))] [(q101, 103), (q93, 102), (q85, 101), (q77, 100), (q69, 99), (q61, 98), (q53, 97), (q45, 96), (q37, 95)] [95, 96, 97, 98, 99, 100, 101, 102, 103] _ _ := hB
  refine bw_put (v := .ref q101) (fty := (.array .int)) hx hb hts hin hown hK hin2 hB rfl 14 (by decide) (in_r7 _ (List.mem_of_getElem? (i := 16) rfl)) rfl (by decide +kernel) rfl rfl (Nat.le_of_ble_eq_true rfl) dX6_init_103 (fun H locs hB => ?_)
  have hB : bS D cys (bA a s.heap.size) s.heap [(a, .inr (6, [.int 0, .int 0, .int 0, .int 0, .int 0, .int 0, .ref q37, .ref q45, .ref q53, .ref q61, .ref q69, .ref q77, .ref q85, .ref q93, .ref q101, .null, .null, .null, .null, .null]))] [(q101, 103), (q93, 102), (q85, 101), (q77, 100), (q69, 99), (q61, 98), (q53, 97), (q45, 96), (q37, 95)] [95, 96, 97, 98, 99, 100, 101, 102, 103] _ _ := hB
  refine lv_aload_n hx hb dX6_init_106 rfl (lv_at hl 0 rfl) ?_
  refine lv_bipush (v := 8) hx hb dX6_init_107 (by decide) ?_
  refine bw_newa hx hb hK hA hB (ty := .int) (hts _ (hin _ (in_r3 _ (List.mem_of_getElem? (i := 5) rfl)))) rfl 104 0 rfl (by decide) (by decide +kernel) rfl rfl (by decide) (by decide) (by decide) (Nat.le_of_ble_eq_true rfl) (Nat.le_of_ble_eq_true rfl) dX6_init_109 (fun q109 H hB => ?_)
  have hB : bS D cys (bA a s.heap.size) s.heap [(a, .inr (6, [.int 0, .int 0, .int 0, .int 0, .int 0, .int 0, .ref q37, .ref q45, .ref q53, .ref q61, .ref q69, .ref q77, .ref q85, .ref q93, .ref q101, .null, .null, .null, .null, .null]))] [(q109, 104), (q101, 103), (q93, 102), (q85, 101), (q77, 100), (q69, 99), (q61, 98), (q53, 97), (q45, 96), (q37, 95)] [95, 96, 97, 98, 99, 100, 101, 102, 103, 104] _ _ := hB
  refine bw_put (v := .ref q109) (fty := (.array .int)) hx hb hts hin hown hK hin2 hB rfl 15 (by decide) (in_r7 _ (List.mem_of_getElem? (i := 17) rfl)) rfl (by decide +kernel) rfl rfl (Nat.le_of_ble_eq_true rfl) dX6_init_111 (fun H locs hB => ?_)
  have hB : bS D cys (bA a s.heap.size) s.heap [(a, .inr (6, [.int 0, .int 0, .int 0, .int 0, .int 0, .int 0, .ref q37, .ref q45, .ref q53, .ref q61, .ref q69, .ref q77, .ref q85, .ref q93, .ref q101, .ref q109, .null, .null, .null, .null]))] [(q109, 104), (q101, 103), (q93, 102), (q85, 101), (q77, 100), (q69, 99), (q61, 98), (q53, 97), (q45, 96), (q37, 95)] [95, 96, 97, 98, 99, 100, 101, 102, 103, 104] _ _ := hB
  refine lv_aload_n hx hb dX6_init_114 rfl (lv_at hl 0 rfl) ?_
  refine lv_bipush (v := 48) hx hb dX6_init_115 (by decide) ?_
  refine bw_newa hx hb hK hA hB (ty := .int) (hts _ (hin _ (in_r3 _ (List.mem_of_getElem? (i := 5) rfl)))) rfl 105 0 rfl (by decide) (by decide +kernel) rfl rfl (by decide) (by decide) (by decide) (Nat.le_of_ble_eq_true rfl) (Nat.le_of_ble_eq_true rfl) dX6_init_117 (fun q117 H hB => ?_)
  have hB : bS D cys (bA a s.heap.size) s.heap [(a, .inr (6, [.int 0, .int 0, .int 0, .int 0, .int 0, .int 0, .ref q37, .ref q45, .ref q53, .ref q61, .ref q69, .ref q77, .ref q85, .ref q93, .ref q101, .ref q109, .null, .null, .null, .null]))] [(q117, 105), (q109, 104), (q101, 103), (q93, 102), (q85, 101), (q77, 100), (q69, 99), (q61, 98), (q53, 97), (q45, 96), (q37, 95)] [95, 96, 97, 98, 99, 100, 101, 102, 103, 104, 105] _ _ := hB
  refine bw_put (v := .ref q117) (fty := (.array .int)) hx hb hts hin hown hK hin2 hB rfl 16 (by decide) (in_r7 _ (List.mem_of_getElem? (i := 18) rfl)) rfl (by decide +kernel) rfl rfl (Nat.le_of_ble_eq_true rfl) dX6_init_119 (fun H locs hB => ?_)
  have hB : bS D cys (bA a s.heap.size) s.heap [(a, .inr (6, [.int 0, .int 0, .int 0, .int 0, .int 0, .int 0, .ref q37, .ref q45, .ref q53, .ref q61, .ref q69, .ref q77, .ref q85, .ref q93, .ref q101, .ref q109, .ref q117, .null, .null, .null]))] [(q117, 105), (q109, 104), (q101, 103), (q93, 102), (q85, 101), (q77, 100), (q69, 99), (q61, 98), (q53, 97), (q45, 96), (q37, 95)] [95, 96, 97, 98, 99, 100, 101, 102, 103, 104, 105] _ _ := hB
  refine lv_aload_n hx hb dX6_init_122 rfl (lv_at hl 0 rfl) ?_
  refine lv_bipush (v := 12) hx hb dX6_init_123 (by decide) ?_
  refine bw_newa hx hb hK hA hB (ty := .int) (hts _ (hin _ (in_r3 _ (List.mem_of_getElem? (i := 5) rfl)))) rfl 106 0 rfl (by decide) (by decide +kernel) rfl rfl (by decide) (by decide) (by decide) (Nat.le_of_ble_eq_true rfl) (Nat.le_of_ble_eq_true rfl) dX6_init_125 (fun q125 H hB => ?_)
  have hB : bS D cys (bA a s.heap.size) s.heap [(a, .inr (6, [.int 0, .int 0, .int 0, .int 0, .int 0, .int 0, .ref q37, .ref q45, .ref q53, .ref q61, .ref q69, .ref q77, .ref q85, .ref q93, .ref q101, .ref q109, .ref q117, .null, .null, .null]))] [(q125, 106), (q117, 105), (q109, 104), (q101, 103), (q93, 102), (q85, 101), (q77, 100), (q69, 99), (q61, 98), (q53, 97), (q45, 96), (q37, 95)] [95, 96, 97, 98, 99, 100, 101, 102, 103, 104, 105, 106] _ _ := hB
  refine bw_put (v := .ref q125) (fty := (.array .int)) hx hb hts hin hown hK hin2 hB rfl 17 (by decide) (in_r7 _ (List.mem_of_getElem? (i := 19) rfl)) rfl (by decide +kernel) rfl rfl (Nat.le_of_ble_eq_true rfl) dX6_init_127 (fun H locs hB => ?_)
  have hB : bS D cys (bA a s.heap.size) s.heap [(a, .inr (6, [.int 0, .int 0, .int 0, .int 0, .int 0, .int 0, .ref q37, .ref q45, .ref q53, .ref q61, .ref q69, .ref q77, .ref q85, .ref q93, .ref q101, .ref q109, .ref q117, .ref q125, .null, .null]))] [(q125, 106), (q117, 105), (q109, 104), (q101, 103), (q93, 102), (q85, 101), (q77, 100), (q69, 99), (q61, 98), (q53, 97), (q45, 96), (q37, 95)] [95, 96, 97, 98, 99, 100, 101, 102, 103, 104, 105, 106] _ _ := hB
  refine lv_aload_n hx hb dX6_init_130 rfl (lv_at hl 0 rfl) ?_
  refine lv_bipush (v := 12) hx hb dX6_init_131 (by decide) ?_
  refine bw_newa hx hb hK hA hB (ty := .int) (hts _ (hin _ (in_r3 _ (List.mem_of_getElem? (i := 5) rfl)))) rfl 107 0 rfl (by decide) (by decide +kernel) rfl rfl (by decide) (by decide) (by decide) (Nat.le_of_ble_eq_true rfl) (Nat.le_of_ble_eq_true rfl) dX6_init_133 (fun q133 H hB => ?_)
  have hB : bS D cys (bA a s.heap.size) s.heap [(a, .inr (6, [.int 0, .int 0, .int 0, .int 0, .int 0, .int 0, .ref q37, .ref q45, .ref q53, .ref q61, .ref q69, .ref q77, .ref q85, .ref q93, .ref q101, .ref q109, .ref q117, .ref q125, .null, .null]))] [(q133, 107), (q125, 106), (q117, 105), (q109, 104), (q101, 103), (q93, 102), (q85, 101), (q77, 100), (q69, 99), (q61, 98), (q53, 97), (q45, 96), (q37, 95)] [95, 96, 97, 98, 99, 100, 101, 102, 103, 104, 105, 106, 107] _ _ := hB
  refine bw_put (v := .ref q133) (fty := (.array .int)) hx hb hts hin hown hK hin2 hB rfl 18 (by decide) (in_r7 _ (List.mem_of_getElem? (i := 20) rfl)) rfl (by decide +kernel) rfl rfl (Nat.le_of_ble_eq_true rfl) dX6_init_135 (fun H locs hB => ?_)
  have hB : bS D cys (bA a s.heap.size) s.heap [(a, .inr (6, [.int 0, .int 0, .int 0, .int 0, .int 0, .int 0, .ref q37, .ref q45, .ref q53, .ref q61, .ref q69, .ref q77, .ref q85, .ref q93, .ref q101, .ref q109, .ref q117, .ref q125, .ref q133, .null]))] [(q133, 107), (q125, 106), (q117, 105), (q109, 104), (q101, 103), (q93, 102), (q85, 101), (q77, 100), (q69, 99), (q61, 98), (q53, 97), (q45, 96), (q37, 95)] [95, 96, 97, 98, 99, 100, 101, 102, 103, 104, 105, 106, 107] _ _ := hB
  refine lv_aload_n hx hb dX6_init_138 rfl (lv_at hl 0 rfl) ?_
  refine lv_bipush (v := 12) hx hb dX6_init_139 (by decide) ?_
  refine bw_newa hx hb hK hA hB (ty := .int) (hts _ (hin _ (in_r3 _ (List.mem_of_getElem? (i := 5) rfl)))) rfl 108 0 rfl (by decide) (by decide +kernel) rfl rfl (by decide) (by decide) (by decide) (Nat.le_of_ble_eq_true rfl) (Nat.le_of_ble_eq_true rfl) dX6_init_141 (fun q141 H hB => ?_)
  have hB : bS D cys (bA a s.heap.size) s.heap [(a, .inr (6, [.int 0, .int 0, .int 0, .int 0, .int 0, .int 0, .ref q37, .ref q45, .ref q53, .ref q61, .ref q69, .ref q77, .ref q85, .ref q93, .ref q101, .ref q109, .ref q117, .ref q125, .ref q133, .null]))] [(q141, 108), (q133, 107), (q125, 106), (q117, 105), (q109, 104), (q101, 103), (q93, 102), (q85, 101), (q77, 100), (q69, 99), (q61, 98), (q53, 97), (q45, 96), (q37, 95)] [95, 96, 97, 98, 99, 100, 101, 102, 103, 104, 105, 106, 107, 108] _ _ := hB
  refine bw_put (v := .ref q141) (fty := (.array .int)) hx hb hts hin hown hK hin2 hB rfl 19 (by decide) (in_r7 _ (List.mem_of_getElem? (i := 21) rfl)) rfl (by decide +kernel) rfl rfl (Nat.le_of_ble_eq_true rfl) dX6_init_143 (fun H locs hB => ?_)
  have hB : bS D cys (bA a s.heap.size) s.heap [(a, .inr (6, [.int 0, .int 0, .int 0, .int 0, .int 0, .int 0, .ref q37, .ref q45, .ref q53, .ref q61, .ref q69, .ref q77, .ref q85, .ref q93, .ref q101, .ref q109, .ref q117, .ref q125, .ref q133, .ref q141]))] [(q141, 108), (q133, 107), (q125, 106), (q117, 105), (q109, 104), (q101, 103), (q93, 102), (q85, 101), (q77, 100), (q69, 99), (q61, 98), (q53, 97), (q45, 96), (q37, 95)] [95, 96, 97, 98, 99, 100, 101, 102, 103, 104, 105, 106, 107, 108] _ _ := hB
  refine bw_ret (zs := [0, 1, 2, 3, 4, 5]) hx hb hr hlk hB rfl rfl (fun ty hty k ft hk => ?_) (by decide +kernel) (List.forall_mem_cons.mpr ⟨rfl, (List.forall_mem_cons.mpr ⟨rfl, (List.forall_mem_cons.mpr ⟨rfl, (List.forall_mem_cons.mpr ⟨rfl, (List.forall_mem_cons.mpr ⟨rfl, (List.forall_mem_cons.mpr ⟨rfl, (fun k hk => by cases hk)⟩)⟩)⟩)⟩)⟩)⟩) ⟨rfl, rfl⟩ dX6_init_146
  exact match k, hk with
    | 0, hk => by cases hk; exact ⟨_, rfl, bv_i (by decide) (by decide)⟩
    | 1, hk => by cases hk; exact ⟨_, rfl, bv_i (by decide) (by decide)⟩
    | 2, hk => by cases hk; exact ⟨_, rfl, bv_i (by decide) (by decide)⟩
    | 3, hk => by cases hk; exact ⟨_, rfl, bv_i (by decide) (by decide)⟩
    | 4, hk => by cases hk; exact ⟨_, rfl, bv_i (by decide) (by decide)⟩
    | 5, hk => by cases hk; exact ⟨_, rfl, bv_i (by decide) (by decide)⟩
    | 6, hk => by cases hk; exact ⟨_, rfl, ⟨_, rfl, hty _ (List.mem_of_getElem? (i := 13) rfl)⟩⟩
    | 7, hk => by cases hk; exact ⟨_, rfl, ⟨_, rfl, hty _ (List.mem_of_getElem? (i := 12) rfl)⟩⟩
    | 8, hk => by cases hk; exact ⟨_, rfl, ⟨_, rfl, hty _ (List.mem_of_getElem? (i := 11) rfl)⟩⟩
    | 9, hk => by cases hk; exact ⟨_, rfl, ⟨_, rfl, hty _ (List.mem_of_getElem? (i := 10) rfl)⟩⟩
    | 10, hk => by cases hk; exact ⟨_, rfl, ⟨_, rfl, hty _ (List.mem_of_getElem? (i := 9) rfl)⟩⟩
    | 11, hk => by cases hk; exact ⟨_, rfl, ⟨_, rfl, hty _ (List.mem_of_getElem? (i := 8) rfl)⟩⟩
    | 12, hk => by cases hk; exact ⟨_, rfl, ⟨_, rfl, hty _ (List.mem_of_getElem? (i := 7) rfl)⟩⟩
    | 13, hk => by cases hk; exact ⟨_, rfl, ⟨_, rfl, hty _ (List.mem_of_getElem? (i := 6) rfl)⟩⟩
    | 14, hk => by cases hk; exact ⟨_, rfl, ⟨_, rfl, hty _ (List.mem_of_getElem? (i := 5) rfl)⟩⟩
    | 15, hk => by cases hk; exact ⟨_, rfl, ⟨_, rfl, hty _ (List.mem_of_getElem? (i := 4) rfl)⟩⟩
    | 16, hk => by cases hk; exact ⟨_, rfl, ⟨_, rfl, hty _ (List.mem_of_getElem? (i := 3) rfl)⟩⟩
    | 17, hk => by cases hk; exact ⟨_, rfl, ⟨_, rfl, hty _ (List.mem_of_getElem? (i := 2) rfl)⟩⟩
    | 18, hk => by cases hk; exact ⟨_, rfl, ⟨_, rfl, hty _ (List.mem_of_getElem? (i := 1) rfl)⟩⟩
    | 19, hk => by cases hk; exact ⟨_, rfl, ⟨_, rfl, hty _ (List.mem_of_getElem? (i := 0) rfl)⟩⟩
    | n + 20, hk => by cases hk
abbrev tg_0 : List ck_AV := [.inl (0, 40, []), .inr (.inl 29), .inr (.inl 30), .inr (.inl 31), .inl (0, 1, []), .inl (0, 13, []), .inl (-2147483648, 2147483647, []), .inl (-2147483648, 2147483647, []), .inl (-2147483648, 2147483647, [])]
theorem b_d0 : ∀ j, j < 9 → defaultValue (tyX0 j) = vp_V [.int 0, .null, .null, .null, .int 0, .int 0, .int 0, .int 0, .int 0] j := fun j hj => match j, hj with
  | 0, _ => rfl
  | 1, _ => rfl
  | 2, _ => rfl
  | 3, _ => rfl
  | 4, _ => rfl
  | 5, _ => rfl
  | 6, _ => rfl
  | 7, _ => rfl
  | 8, _ => rfl
  | n + 9, h => absurd h (by omega)
theorem dX0_init_0 : decode cX0_init 0 = .ok (.aload_n 0, 1) := by decide +kernel
theorem dX0_init_1 : decode cX0_init 1 = .ok (.invokespecial 3, 3) := by decide +kernel
theorem dX0_init_4 : decode cX0_init 4 = .ok (.aload_n 0, 1) := by decide +kernel
theorem dX0_init_5 : decode cX0_init 5 = .ok (.iconst 0, 1) := by decide +kernel
theorem dX0_init_6 : decode cX0_init 6 = .ok (.putfield 9, 3) := by decide +kernel
theorem dX0_init_9 : decode cX0_init 9 = .ok (.aload_n 0, 1) := by decide +kernel
theorem dX0_init_10 : decode cX0_init 10 = .ok (.bipush 40, 2) := by decide +kernel
theorem dX0_init_12 : decode cX0_init 12 = .ok (.newarray .int, 2) := by decide +kernel
theorem dX0_init_14 : decode cX0_init 14 = .ok (.putfield 15, 3) := by decide +kernel
theorem dX0_init_17 : decode cX0_init 17 = .ok (.aload_n 0, 1) := by decide +kernel
theorem dX0_init_18 : decode cX0_init 18 = .ok (.bipush 40, 2) := by decide +kernel
theorem dX0_init_20 : decode cX0_init 20 = .ok (.newarray .int, 2) := by decide +kernel
theorem dX0_init_22 : decode cX0_init 22 = .ok (.putfield 19, 3) := by decide +kernel
theorem dX0_init_25 : decode cX0_init 25 = .ok (.aload_n 0, 1) := by decide +kernel
theorem dX0_init_26 : decode cX0_init 26 = .ok (.bipush 40, 2) := by decide +kernel
theorem dX0_init_28 : decode cX0_init 28 = .ok (.newarray .int, 2) := by decide +kernel
theorem dX0_init_30 : decode cX0_init 30 = .ok (.putfield 22, 3) := by decide +kernel
theorem dX0_init_33 : decode cX0_init 33 = .ok (.aload_n 0, 1) := by decide +kernel
theorem dX0_init_34 : decode cX0_init 34 = .ok (.iconst 0, 1) := by decide +kernel
theorem dX0_init_35 : decode cX0_init 35 = .ok (.putfield 25, 3) := by decide +kernel
theorem dX0_init_38 : decode cX0_init 38 = .ok (.aload_n 0, 1) := by decide +kernel
theorem dX0_init_39 : decode cX0_init 39 = .ok (.iconst 0, 1) := by decide +kernel
theorem dX0_init_40 : decode cX0_init 40 = .ok (.putfield 29, 3) := by decide +kernel
theorem dX0_init_43 : decode cX0_init 43 = .ok (.aload_n 0, 1) := by decide +kernel
theorem dX0_init_44 : decode cX0_init 44 = .ok (.iconst 0, 1) := by decide +kernel
theorem dX0_init_45 : decode cX0_init 45 = .ok (.putfield 32, 3) := by decide +kernel
theorem dX0_init_48 : decode cX0_init 48 = .ok (.aload_n 0, 1) := by decide +kernel
theorem dX0_init_49 : decode cX0_init 49 = .ok (.iconst 0, 1) := by decide +kernel
theorem dX0_init_50 : decode cX0_init 50 = .ok (.putfield 35, 3) := by decide +kernel
theorem dX0_init_53 : decode cX0_init 53 = .ok (.aload_n 0, 1) := by decide +kernel
theorem dX0_init_54 : decode cX0_init 54 = .ok (.iconst 0, 1) := by decide +kernel
theorem dX0_init_55 : decode cX0_init 55 = .ok (.putfield 38, 3) := by decide +kernel
theorem dX0_init_58 : decode cX0_init 58 = .ok (.return_, 1) := by decide +kernel
set_option maxRecDepth 100000 in
set_option maxHeartbeats 4000000 in
theorem con_0 : bCon l D cys yX0_init cX0_init 1 1 12 3 120 0 [.int 0, .null, .null, .null, .int 0, .int 0, .int 0, .int 0, .int 0] 0 [0, 29, 30, 31] := by
  refine bw_enter (o := 0) (by decide) rfl rfl (by decide) ?_
  intro a p e s m below meth c ls hx hb hml hr hlk hts hown hT hin2 hl hA hB
  have hin : ∀ w ∈ wsL_law0, w ∈ Jvm.Cond.code yX0_init cX0_init 1 none :: wsL_law0 := fun w hw => List.mem_cons_of_mem _ hw
  have hK := hT.1
  refine lv_aload_n hx hb dX0_init_0 rfl (lv_at hl 0 rfl) ?_
  refine W.objInit hx hb hown (hts _ (hin _ (in_r10 _ (List.mem_of_getElem? (i := 14) rfl)))) (hts _ (hin _ (in_r1 _ (List.mem_of_getElem? (i := 11) rfl)))) (hts _ (hin _ (in_r1 _ (List.mem_of_getElem? (i := 12) rfl)))) rfl (by rw [hml]; exact hl.1) rfl dX0_init_1 (Nat.le_of_ble_eq_true rfl) (Nat.le_of_ble_eq_true rfl) ?_
  refine W.eq (g2 := F0 m 4 ls []) rfl ?_
  refine lv_aload_n hx hb dX0_init_4 rfl (lv_at hl 0 rfl) ?_
  refine lv_iconst (v := 0) hx hb dX0_init_5 (by decide) ?_
  refine bw_put (v := .int 0) (fty := (.int)) hx hb hts hin hown hK hin2 hB rfl 0 (by decide) (in_r10 _ (List.mem_of_getElem? (i := 15) rfl)) rfl (by decide +kernel) rfl rfl (Nat.le_of_ble_eq_true rfl) dX0_init_6 (fun H locs hB => ?_)
  have hB : bS D cys (bA a s.heap.size) s.heap [(a, .inr (0, [.int 0, .null, .null, .null, .int 0, .int 0, .int 0, .int 0, .int 0]))] [] [] _ _ := hB
  refine lv_aload_n hx hb dX0_init_9 rfl (lv_at hl 0 rfl) ?_
  refine lv_bipush (v := 40) hx hb dX0_init_10 (by decide) ?_
  refine bw_newa hx hb hK hA hB (ty := .int) (hts _ (hin _ (in_r3 _ (List.mem_of_getElem? (i := 5) rfl)))) rfl 29 0 rfl (by decide) (by decide +kernel) rfl rfl (by decide) (by decide) (by decide) (Nat.le_of_ble_eq_true rfl) (Nat.le_of_ble_eq_true rfl) dX0_init_12 (fun q12 H hB => ?_)
  have hB : bS D cys (bA a s.heap.size) s.heap [(a, .inr (0, [.int 0, .null, .null, .null, .int 0, .int 0, .int 0, .int 0, .int 0]))] [(q12, 29)] [29] _ _ := hB
  refine bw_put (v := .ref q12) (fty := (.array .int)) hx hb hts hin hown hK hin2 hB rfl 1 (by decide) (in_r10 _ (List.mem_of_getElem? (i := 16) rfl)) rfl (by decide +kernel) rfl rfl (Nat.le_of_ble_eq_true rfl) dX0_init_14 (fun H locs hB => ?_)
  have hB : bS D cys (bA a s.heap.size) s.heap [(a, .inr (0, [.int 0, .ref q12, .null, .null, .int 0, .int 0, .int 0, .int 0, .int 0]))] [(q12, 29)] [29] _ _ := hB
  refine lv_aload_n hx hb dX0_init_17 rfl (lv_at hl 0 rfl) ?_
  refine lv_bipush (v := 40) hx hb dX0_init_18 (by decide) ?_
  refine bw_newa hx hb hK hA hB (ty := .int) (hts _ (hin _ (in_r3 _ (List.mem_of_getElem? (i := 5) rfl)))) rfl 30 0 rfl (by decide) (by decide +kernel) rfl rfl (by decide) (by decide) (by decide) (Nat.le_of_ble_eq_true rfl) (Nat.le_of_ble_eq_true rfl) dX0_init_20 (fun q20 H hB => ?_)
  have hB : bS D cys (bA a s.heap.size) s.heap [(a, .inr (0, [.int 0, .ref q12, .null, .null, .int 0, .int 0, .int 0, .int 0, .int 0]))] [(q20, 30), (q12, 29)] [29, 30] _ _ := hB
  refine bw_put (v := .ref q20) (fty := (.array .int)) hx hb hts hin hown hK hin2 hB rfl 2 (by decide) (in_r10 _ (List.mem_of_getElem? (i := 17) rfl)) rfl (by decide +kernel) rfl rfl (Nat.le_of_ble_eq_true rfl) dX0_init_22 (fun H locs hB => ?_)
  have hB : bS D cys (bA a s.heap.size) s.heap [(a, .inr (0, [.int 0, .ref q12, .ref q20, .null, .int 0, .int 0, .int 0, .int 0, .int 0]))] [(q20, 30), (q12, 29)] [29, 30] _ _ := hB
  refine lv_aload_n hx hb dX0_init_25 rfl (lv_at hl 0 rfl) ?_
  refine lv_bipush (v := 40) hx hb dX0_init_26 (by decide) ?_
  refine bw_newa hx hb hK hA hB (ty := .int) (hts _ (hin _ (in_r3 _ (List.mem_of_getElem? (i := 5) rfl)))) rfl 31 0 rfl (by decide) (by decide +kernel) rfl rfl (by decide) (by decide) (by decide) (Nat.le_of_ble_eq_true rfl) (Nat.le_of_ble_eq_true rfl) dX0_init_28 (fun q28 H hB => ?_)
  have hB : bS D cys (bA a s.heap.size) s.heap [(a, .inr (0, [.int 0, .ref q12, .ref q20, .null, .int 0, .int 0, .int 0, .int 0, .int 0]))] [(q28, 31), (q20, 30), (q12, 29)] [29, 30, 31] _ _ := hB
  refine bw_put (v := .ref q28) (fty := (.array .int)) hx hb hts hin hown hK hin2 hB rfl 3 (by decide) (in_r10 _ (List.mem_of_getElem? (i := 18) rfl)) rfl (by decide +kernel) rfl rfl (Nat.le_of_ble_eq_true rfl) dX0_init_30 (fun H locs hB => ?_)
  have hB : bS D cys (bA a s.heap.size) s.heap [(a, .inr (0, [.int 0, .ref q12, .ref q20, .ref q28, .int 0, .int 0, .int 0, .int 0, .int 0]))] [(q28, 31), (q20, 30), (q12, 29)] [29, 30, 31] _ _ := hB
  refine lv_aload_n hx hb dX0_init_33 rfl (lv_at hl 0 rfl) ?_
  refine lv_iconst (v := 0) hx hb dX0_init_34 (by decide) ?_
  refine bw_put (v := .int 0) (fty := (.boolean)) hx hb hts hin hown hK hin2 hB rfl 4 (by decide) (in_r10 _ (List.mem_of_getElem? (i := 19) rfl)) rfl (by decide +kernel) rfl rfl (Nat.le_of_ble_eq_true rfl) dX0_init_35 (fun H locs hB => ?_)
  have hB : bS D cys (bA a s.heap.size) s.heap [(a, .inr (0, [.int 0, .ref q12, .ref q20, .ref q28, .int 0, .int 0, .int 0, .int 0, .int 0]))] [(q28, 31), (q20, 30), (q12, 29)] [29, 30, 31] _ _ := hB
  refine lv_aload_n hx hb dX0_init_38 rfl (lv_at hl 0 rfl) ?_
  refine lv_iconst (v := 0) hx hb dX0_init_39 (by decide) ?_
  refine bw_put (v := .int 0) (fty := (.int)) hx hb hts hin hown hK hin2 hB rfl 5 (by decide) (in_r10 _ (List.mem_of_getElem? (i := 20) rfl)) rfl (by decide +kernel) rfl rfl (Nat.le_of_ble_eq_true rfl) dX0_init_40 (fun H locs hB => ?_)
  have hB : bS D cys (bA a s.heap.size) s.heap [(a, .inr (0, [.int 0, .ref q12, .ref q20, .ref q28, .int 0, .int 0, .int 0, .int 0, .int 0]))] [(q28, 31), (q20, 30), (q12, 29)] [29, 30, 31] _ _ := hB
  refine lv_aload_n hx hb dX0_init_43 rfl (lv_at hl 0 rfl) ?_
  refine lv_iconst (v := 0) hx hb dX0_init_44 (by decide) ?_
  refine bw_put (v := .int 0) (fty := (.int)) hx hb hts hin hown hK hin2 hB rfl 6 (by decide) (in_r10 _ (List.mem_of_getElem? (i := 21) rfl)) rfl (by decide +kernel) rfl rfl (Nat.le_of_ble_eq_true rfl) dX0_init_45 (fun H locs hB => ?_)
  have hB : bS D cys (bA a s.heap.size) s.heap [(a, .inr (0, [.int 0, .ref q12, .ref q20, .ref q28, .int 0, .int 0, .int 0, .int 0, .int 0]))] [(q28, 31), (q20, 30), (q12, 29)] [29, 30, 31] _ _ := hB
  refine lv_aload_n hx hb dX0_init_48 rfl (lv_at hl 0 rfl) ?_
  refine lv_iconst (v := 0) hx hb dX0_init_49 (by decide) ?_
  refine bw_put (v := .int 0) (fty := (.int)) hx hb hts hin hown hK hin2 hB rfl 7 (by decide) (in_r10 _ (List.mem_of_getElem? (i := 22) rfl)) rfl (by decide +kernel) rfl rfl (Nat.le_of_ble_eq_true rfl) dX0_init_50 (fun H locs hB => ?_)
  have hB : bS D cys (bA a s.heap.size) s.heap [(a, .inr (0, [.int 0, .ref q12, .ref q20, .ref q28, .int 0, .int 0, .int 0, .int 0, .int 0]))] [(q28, 31), (q20, 30), (q12, 29)] [29, 30, 31] _ _ := hB
  refine lv_aload_n hx hb dX0_init_53 rfl (lv_at hl 0 rfl) ?_
  refine lv_iconst (v := 0) hx hb dX0_init_54 (by decide) ?_
  refine bw_put (v := .int 0) (fty := (.int)) hx hb hts hin hown hK hin2 hB rfl 8 (by decide) (in_r10 _ (List.mem_of_getElem? (i := 23) rfl)) rfl (by decide +kernel) rfl rfl (Nat.le_of_ble_eq_true rfl) dX0_init_55 (fun H locs hB => ?_)
  have hB : bS D cys (bA a s.heap.size) s.heap [(a, .inr (0, [.int 0, .ref q12, .ref q20, .ref q28, .int 0, .int 0, .int 0, .int 0, .int 0]))] [(q28, 31), (q20, 30), (q12, 29)] [29, 30, 31] _ _ := hB
  refine bw_ret (zs := [0]) hx hb hr hlk hB rfl rfl (fun ty hty k ft hk => ?_) (by decide +kernel) (List.forall_mem_cons.mpr ⟨rfl, (fun k hk => by cases hk)⟩) ⟨rfl, rfl⟩ dX0_init_58
  exact match k, hk with
    | 0, hk => by cases hk; exact ⟨_, rfl, bv_i (by decide) (by decide)⟩
    | 1, hk => by cases hk; exact ⟨_, rfl, ⟨_, rfl, hty _ (List.mem_of_getElem? (i := 2) rfl)⟩⟩
    | 2, hk => by cases hk; exact ⟨_, rfl, ⟨_, rfl, hty _ (List.mem_of_getElem? (i := 1) rfl)⟩⟩
    | 3, hk => by cases hk; exact ⟨_, rfl, ⟨_, rfl, hty _ (List.mem_of_getElem? (i := 0) rfl)⟩⟩
    | 4, hk => by cases hk; exact ⟨_, rfl, bv_i (by decide) (by decide)⟩
    | 5, hk => by cases hk; exact ⟨_, rfl, bv_i (by decide) (by decide)⟩
    | 6, hk => by cases hk; exact ⟨_, rfl, bv_i (by decide) (by decide)⟩
    | 7, hk => by cases hk; exact ⟨_, rfl, bv_i (by decide) (by decide)⟩
    | 8, hk => by cases hk; exact ⟨_, rfl, bv_i (by decide) (by decide)⟩
    | n + 9, hk => by cases hk
abbrev tg_1 : List ck_AV := [.inl (0, 8, []), .inr (.inl 21), .inl (0, 6, []), .inr (.inl 28), .inr (.inl 20), .inr (.inl 20), .inr (.inl 22), .inr (.inl 24), .inr (.inl 27), .inr (.inl 27), .inl (-2147483648, 2147483647, []), .inl (-2147483648, 2147483647, []), .inl (-2147483648, 2147483647, [])]
theorem b_d1 : ∀ j, j < 13 → defaultValue (tyX1 j) = vp_V [.int 0, .null, .int 0, .null, .null, .null, .null, .null, .null, .null, .int 0, .int 0, .int 0] j := fun j hj => match j, hj with
  | 0, _ => rfl
  | 1, _ => rfl
  | 2, _ => rfl
  | 3, _ => rfl
  | 4, _ => rfl
  | 5, _ => rfl
  | 6, _ => rfl
  | 7, _ => rfl
  | 8, _ => rfl
  | 9, _ => rfl
  | 10, _ => rfl
  | 11, _ => rfl
  | 12, _ => rfl
  | n + 13, h => absurd h (by omega)
theorem dX1_init_0 : decode cX1_init 0 = .ok (.aload_n 0, 1) := by decide +kernel
theorem dX1_init_1 : decode cX1_init 1 = .ok (.invokespecial 3, 3) := by decide +kernel
theorem dX1_init_4 : decode cX1_init 4 = .ok (.aload_n 0, 1) := by decide +kernel
theorem dX1_init_5 : decode cX1_init 5 = .ok (.iconst 0, 1) := by decide +kernel
theorem dX1_init_6 : decode cX1_init 6 = .ok (.putfield 9, 3) := by decide +kernel
theorem dX1_init_9 : decode cX1_init 9 = .ok (.aload_n 0, 1) := by decide +kernel
theorem dX1_init_10 : decode cX1_init 10 = .ok (.bipush 8, 2) := by decide +kernel
theorem dX1_init_12 : decode cX1_init 12 = .ok (.newarray .int, 2) := by decide +kernel
theorem dX1_init_14 : decode cX1_init 14 = .ok (.putfield 15, 3) := by decide +kernel
theorem dX1_init_17 : decode cX1_init 17 = .ok (.aload_n 0, 1) := by decide +kernel
theorem dX1_init_18 : decode cX1_init 18 = .ok (.iconst 0, 1) := by decide +kernel
theorem dX1_init_19 : decode cX1_init 19 = .ok (.putfield 19, 3) := by decide +kernel
theorem dX1_init_22 : decode cX1_init 22 = .ok (.aload_n 0, 1) := by decide +kernel
theorem dX1_init_23 : decode cX1_init 23 = .ok (.bipush 6, 2) := by decide +kernel
theorem dX1_init_25 : decode cX1_init 25 = .ok (.newarray .int, 2) := by decide +kernel
theorem dX1_init_27 : decode cX1_init 27 = .ok (.putfield 22, 3) := by decide +kernel
theorem dX1_init_30 : decode cX1_init 30 = .ok (.aload_n 0, 1) := by decide +kernel
theorem dX1_init_31 : decode cX1_init 31 = .ok (.bipush 6, 2) := by decide +kernel
theorem dX1_init_33 : decode cX1_init 33 = .ok (.newarray .int, 2) := by decide +kernel
theorem dX1_init_35 : decode cX1_init 35 = .ok (.putfield 25, 3) := by decide +kernel
theorem dX1_init_38 : decode cX1_init 38 = .ok (.aload_n 0, 1) := by decide +kernel
theorem dX1_init_39 : decode cX1_init 39 = .ok (.bipush 6, 2) := by decide +kernel
theorem dX1_init_41 : decode cX1_init 41 = .ok (.newarray .int, 2) := by decide +kernel
theorem dX1_init_43 : decode cX1_init 43 = .ok (.putfield 28, 3) := by decide +kernel
theorem dX1_init_46 : decode cX1_init 46 = .ok (.aload_n 0, 1) := by decide +kernel
theorem dX1_init_47 : decode cX1_init 47 = .ok (.bipush 48, 2) := by decide +kernel
theorem dX1_init_49 : decode cX1_init 49 = .ok (.newarray .int, 2) := by decide +kernel
theorem dX1_init_51 : decode cX1_init 51 = .ok (.putfield 31, 3) := by decide +kernel
theorem dX1_init_54 : decode cX1_init 54 = .ok (.aload_n 0, 1) := by decide +kernel
theorem dX1_init_55 : decode cX1_init 55 = .ok (.bipush 7, 2) := by decide +kernel
theorem dX1_init_57 : decode cX1_init 57 = .ok (.newarray .int, 2) := by decide +kernel
theorem dX1_init_59 : decode cX1_init 59 = .ok (.putfield 34, 3) := by decide +kernel
theorem dX1_init_62 : decode cX1_init 62 = .ok (.aload_n 0, 1) := by decide +kernel
theorem dX1_init_63 : decode cX1_init 63 = .ok (.bipush 6, 2) := by decide +kernel
theorem dX1_init_65 : decode cX1_init 65 = .ok (.newarray .int, 2) := by decide +kernel
theorem dX1_init_67 : decode cX1_init 67 = .ok (.putfield 37, 3) := by decide +kernel
theorem dX1_init_70 : decode cX1_init 70 = .ok (.aload_n 0, 1) := by decide +kernel
theorem dX1_init_71 : decode cX1_init 71 = .ok (.bipush 6, 2) := by decide +kernel
theorem dX1_init_73 : decode cX1_init 73 = .ok (.newarray .int, 2) := by decide +kernel
theorem dX1_init_75 : decode cX1_init 75 = .ok (.putfield 40, 3) := by decide +kernel
theorem dX1_init_78 : decode cX1_init 78 = .ok (.aload_n 0, 1) := by decide +kernel
theorem dX1_init_79 : decode cX1_init 79 = .ok (.ldc 43, 2) := by decide +kernel
theorem dX1_init_81 : decode cX1_init 81 = .ok (.putfield 44, 3) := by decide +kernel
theorem dX1_init_84 : decode cX1_init 84 = .ok (.aload_n 0, 1) := by decide +kernel
theorem dX1_init_85 : decode cX1_init 85 = .ok (.iconst 0, 1) := by decide +kernel
theorem dX1_init_86 : decode cX1_init 86 = .ok (.putfield 47, 3) := by decide +kernel
theorem dX1_init_89 : decode cX1_init 89 = .ok (.aload_n 0, 1) := by decide +kernel
theorem dX1_init_90 : decode cX1_init 90 = .ok (.iconst 0, 1) := by decide +kernel
theorem dX1_init_91 : decode cX1_init 91 = .ok (.putfield 50, 3) := by decide +kernel
theorem dX1_init_94 : decode cX1_init 94 = .ok (.return_, 1) := by decide +kernel
set_option maxRecDepth 100000 in
set_option maxHeartbeats 4000000 in
theorem con_1 : bCon l D cys yX1_init cX1_init 1 1 12 8 93 1 [.int 0, .null, .int 0, .null, .null, .null, .null, .null, .null, .null, .int 0, .int 0, .int 0] 1 [1, 21, 28, 20, 20, 22, 24, 27, 27] := by
  refine bw_enter (o := 1) (by decide) rfl rfl (by decide) ?_
  intro a p e s m below meth c ls hx hb hml hr hlk hts hown hT hin2 hl hA hB
  have hin : ∀ w ∈ wsL_law0, w ∈ Jvm.Cond.code yX1_init cX1_init 1 none :: wsL_law0 := fun w hw => List.mem_cons_of_mem _ hw
  have hK := hT.1
  refine lv_aload_n hx hb dX1_init_0 rfl (lv_at hl 0 rfl) ?_
  refine W.objInit hx hb hown (hts _ (hin _ (in_r9 _ (List.mem_of_getElem? (i := 15) rfl)))) (hts _ (hin _ (in_r1 _ (List.mem_of_getElem? (i := 11) rfl)))) (hts _ (hin _ (in_r1 _ (List.mem_of_getElem? (i := 12) rfl)))) rfl (by rw [hml]; exact hl.1) rfl dX1_init_1 (Nat.le_of_ble_eq_true rfl) (Nat.le_of_ble_eq_true rfl) ?_
  refine W.eq (g2 := F0 m 4 ls []) rfl ?_
  refine lv_aload_n hx hb dX1_init_4 rfl (lv_at hl 0 rfl) ?_
  refine lv_iconst (v := 0) hx hb dX1_init_5 (by decide) ?_
  refine bw_put (v := .int 0) (fty := (.int)) hx hb hts hin hown hK hin2 hB rfl 0 (by decide) (in_r9 _ (List.mem_of_getElem? (i := 16) rfl)) rfl (by decide +kernel) rfl rfl (Nat.le_of_ble_eq_true rfl) dX1_init_6 (fun H locs hB => ?_)
  have hB : bS D cys (bA a s.heap.size) s.heap [(a, .inr (1, [.int 0, .null, .int 0, .null, .null, .null, .null, .null, .null, .null, .int 0, .int 0, .int 0]))] [] [] _ _ := hB
  refine lv_aload_n hx hb dX1_init_9 rfl (lv_at hl 0 rfl) ?_
  refine lv_bipush (v := 8) hx hb dX1_init_10 (by decide) ?_
  refine bw_newa hx hb hK hA hB (ty := .int) (hts _ (hin _ (in_r3 _ (List.mem_of_getElem? (i := 5) rfl)))) rfl 21 0 rfl (by decide) (by decide +kernel) rfl rfl (by decide) (by decide) (by decide) (Nat.le_of_ble_eq_true rfl) (Nat.le_of_ble_eq_true rfl) dX1_init_12 (fun q12 H hB => ?_)
  have hB : bS D cys (bA a s.heap.size) s.heap [(a, .inr (1, [.int 0, .null, .int 0, .null, .null, .null, .null, .null, .null, .null, .int 0, .int 0, .int 0]))] [(q12, 21)] [21] _ _ := hB
  refine bw_put (v := .ref q12) (fty := (.array .int)) hx hb hts hin hown hK hin2 hB rfl 1 (by decide) (in_r9 _ (List.mem_of_getElem? (i := 17) rfl)) rfl (by decide +kernel) rfl rfl (Nat.le_of_ble_eq_true rfl) dX1_init_14 (fun H locs hB => ?_)
  have hB : bS D cys (bA a s.heap.size) s.heap [(a, .inr (1, [.int 0, .ref q12, .int 0, .null, .null, .null, .null, .null, .null, .null, .int 0, .int 0, .int 0]))] [(q12, 21)] [21] _ _ := hB
  refine lv_aload_n hx hb dX1_init_17 rfl (lv_at hl 0 rfl) ?_
  refine lv_iconst (v := 0) hx hb dX1_init_18 (by decide) ?_
  refine bw_put (v := .int 0) (fty := (.int)) hx hb hts hin hown hK hin2 hB rfl 2 (by decide) (in_r9 _ (List.mem_of_getElem? (i := 18) rfl)) rfl (by decide +kernel) rfl rfl (Nat.le_of_ble_eq_true rfl) dX1_init_19 (fun H locs hB => ?_)
  have hB : bS D cys (bA a s.heap.size) s.heap [(a, .inr (1, [.int 0, .ref q12, .int 0, .null, .null, .null, .null, .null, .null, .null, .int 0, .int 0, .int 0]))] [(q12, 21)] [21] _ _ := hB
  refine lv_aload_n hx hb dX1_init_22 rfl (lv_at hl 0 rfl) ?_
  refine lv_bipush (v := 6) hx hb dX1_init_23 (by decide) ?_
  refine bw_newa hx hb hK hA hB (ty := .int) (hts _ (hin _ (in_r3 _ (List.mem_of_getElem? (i := 5) rfl)))) rfl 28 0 rfl (by decide) (by decide +kernel) rfl rfl (by decide) (by decide) (by decide) (Nat.le_of_ble_eq_true rfl) (Nat.le_of_ble_eq_true rfl) dX1_init_25 (fun q25 H hB => ?_)
  have hB : bS D cys (bA a s.heap.size) s.heap [(a, .inr (1, [.int 0, .ref q12, .int 0, .null, .null, .null, .null, .null, .null, .null, .int 0, .int 0, .int 0]))] [(q25, 28), (q12, 21)] [21, 28] _ _ := hB
  refine bw_put (v := .ref q25) (fty := (.array .int)) hx hb hts hin hown hK hin2 hB rfl 3 (by decide) (in_r9 _ (List.mem_of_getElem? (i := 19) rfl)) rfl (by decide +kernel) rfl rfl (Nat.le_of_ble_eq_true rfl) dX1_init_27 (fun H locs hB => ?_)
  have hB : bS D cys (bA a s.heap.size) s.heap [(a, .inr (1, [.int 0, .ref q12, .int 0, .ref q25, .null, .null, .null, .null, .null, .null, .int 0, .int 0, .int 0]))] [(q25, 28), (q12, 21)] [21, 28] _ _ := hB
  refine lv_aload_n hx hb dX1_init_30 rfl (lv_at hl 0 rfl) ?_
  refine lv_bipush (v := 6) hx hb dX1_init_31 (by decide) ?_
  refine bw_newa hx hb hK hA hB (ty := .int) (hts _ (hin _ (in_r3 _ (List.mem_of_getElem? (i := 5) rfl)))) rfl 20 0 rfl (by decide) (by decide +kernel) rfl rfl (by decide) (by decide) (by decide) (Nat.le_of_ble_eq_true rfl) (Nat.le_of_ble_eq_true rfl) dX1_init_33 (fun q33 H hB => ?_)
  have hB : bS D cys (bA a s.heap.size) s.heap [(a, .inr (1, [.int 0, .ref q12, .int 0, .ref q25, .null, .null, .null, .null, .null, .null, .int 0, .int 0, .int 0]))] [(q33, 20), (q25, 28), (q12, 21)] [21, 28, 20] _ _ := hB
  refine bw_put (v := .ref q33) (fty := (.array .int)) hx hb hts hin hown hK hin2 hB rfl 4 (by decide) (in_r9 _ (List.mem_of_getElem? (i := 20) rfl)) rfl (by decide +kernel) rfl rfl (Nat.le_of_ble_eq_true rfl) dX1_init_35 (fun H locs hB => ?_)
  have hB : bS D cys (bA a s.heap.size) s.heap [(a, .inr (1, [.int 0, .ref q12, .int 0, .ref q25, .ref q33, .null, .null, .null, .null, .null, .int 0, .int 0, .int 0]))] [(q33, 20), (q25, 28), (q12, 21)] [21, 28, 20] _ _ := hB
  refine lv_aload_n hx hb dX1_init_38 rfl (lv_at hl 0 rfl) ?_
  refine lv_bipush (v := 6) hx hb dX1_init_39 (by decide) ?_
  refine bw_newa hx hb hK hA hB (ty := .int) (hts _ (hin _ (in_r3 _ (List.mem_of_getElem? (i := 5) rfl)))) rfl 20 0 rfl (by decide) (by decide +kernel) rfl rfl (by decide) (by decide) (by decide) (Nat.le_of_ble_eq_true rfl) (Nat.le_of_ble_eq_true rfl) dX1_init_41 (fun q41 H hB => ?_)
  have hB : bS D cys (bA a s.heap.size) s.heap [(a, .inr (1, [.int 0, .ref q12, .int 0, .ref q25, .ref q33, .null, .null, .null, .null, .null, .int 0, .int 0, .int 0]))] [(q41, 20), (q33, 20), (q25, 28), (q12, 21)] [21, 28, 20, 20] _ _ := hB
  refine bw_put (v := .ref q41) (fty := (.array .int)) hx hb hts hin hown hK hin2 hB rfl 5 (by decide) (in_r9 _ (List.mem_of_getElem? (i := 21) rfl)) rfl (by decide +kernel) rfl rfl (Nat.le_of_ble_eq_true rfl) dX1_init_43 (fun H locs hB => ?_)
  have hB : bS D cys (bA a s.heap.size) s.heap [(a, .inr (1, [.int 0, .ref q12, .int 0, .ref q25, .ref q33, .ref q41, .null, .null, .null, .null, .int 0, .int 0, .int 0]))] [(q41, 20), (q33, 20), (q25, 28), (q12, 21)] [21, 28, 20, 20] _ _ := hB
  refine lv_aload_n hx hb dX1_init_46 rfl (lv_at hl 0 rfl) ?_
  refine lv_bipush (v := 48) hx hb dX1_init_47 (by decide) ?_
  refine bw_newa hx hb hK hA hB (ty := .int) (hts _ (hin _ (in_r3 _ (List.mem_of_getElem? (i := 5) rfl)))) rfl 22 0 rfl (by decide) (by decide +kernel) rfl rfl (by decide) (by decide) (by decide) (Nat.le_of_ble_eq_true rfl) (Nat.le_of_ble_eq_true rfl) dX1_init_49 (fun q49 H hB => ?_)
  have hB : bS D cys (bA a s.heap.size) s.heap [(a, .inr (1, [.int 0, .ref q12, .int 0, .ref q25, .ref q33, .ref q41, .null, .null, .null, .null, .int 0, .int 0, .int 0]))] [(q49, 22), (q41, 20), (q33, 20), (q25, 28), (q12, 21)] [21, 28, 20, 20, 22] _ _ := hB
  refine bw_put (v := .ref q49) (fty := (.array .int)) hx hb hts hin hown hK hin2 hB rfl 6 (by decide) (in_r9 _ (List.mem_of_getElem? (i := 22) rfl)) rfl (by decide +kernel) rfl rfl (Nat.le_of_ble_eq_true rfl) dX1_init_51 (fun H locs hB => ?_)
  have hB : bS D cys (bA a s.heap.size) s.heap [(a, .inr (1, [.int 0, .ref q12, .int 0, .ref q25, .ref q33, .ref q41, .ref q49, .null, .null, .null, .int 0, .int 0, .int 0]))] [(q49, 22), (q41, 20), (q33, 20), (q25, 28), (q12, 21)] [21, 28, 20, 20, 22] _ _ := hB
  refine lv_aload_n hx hb dX1_init_54 rfl (lv_at hl 0 rfl) ?_
  refine lv_bipush (v := 7) hx hb dX1_init_55 (by decide) ?_
  refine bw_newa hx hb hK hA hB (ty := .int) (hts _ (hin _ (in_r3 _ (List.mem_of_getElem? (i := 5) rfl)))) rfl 24 0 rfl (by decide) (by decide +kernel) rfl rfl (by decide) (by decide) (by decide) (Nat.le_of_ble_eq_true rfl) (Nat.le_of_ble_eq_true rfl) dX1_init_57 (fun q57 H hB => ?_)
  have hB : bS D cys (bA a s.heap.size) s.heap [(a, .inr (1, [.int 0, .ref q12, .int 0, .ref q25, .ref q33, .ref q41, .ref q49, .null, .null, .null, .int 0, .int 0, .int 0]))] [(q57, 24), (q49, 22), (q41, 20), (q33, 20), (q25, 28), (q12, 21)] [21, 28, 20, 20, 22, 24] _ _ := hB
  refine bw_put (v := .ref q57) (fty := (.array .int)) hx hb hts hin hown hK hin2 hB rfl 7 (by decide) (in_r9 _ (List.mem_of_getElem? (i := 23) rfl)) rfl (by decide +kernel) rfl rfl (Nat.le_of_ble_eq_true rfl) dX1_init_59 (fun H locs hB => ?_)
  have hB : bS D cys (bA a s.heap.size) s.heap [(a, .inr (1, [.int 0, .ref q12, .int 0, .ref q25, .ref q33, .ref q41, .ref q49, .ref q57, .null, .null, .int 0, .int 0, .int 0]))] [(q57, 24), (q49, 22), (q41, 20), (q33, 20), (q25, 28), (q12, 21)] [21, 28, 20, 20, 22, 24] _ _ := hB
  refine lv_aload_n hx hb dX1_init_62 rfl (lv_at hl 0 rfl) ?_
  refine lv_bipush (v := 6) hx hb dX1_init_63 (by decide) ?_
  refine bw_newa hx hb hK hA hB (ty := .int) (hts _ (hin _ (in_r3 _ (List.mem_of_getElem? (i := 5) rfl)))) rfl 27 0 rfl (by decide) (by decide +kernel) rfl rfl (by decide) (by decide) (by decide) (Nat.le_of_ble_eq_true rfl) (Nat.le_of_ble_eq_true rfl) dX1_init_65 (fun q65 H hB => ?_)
  have hB : bS D cys (bA a s.heap.size) s.heap [(a, .inr (1, [.int 0, .ref q12, .int 0, .ref q25, .ref q33, .ref q41, .ref q49, .ref q57, .null, .null, .int 0, .int 0, .int 0]))] [(q65, 27), (q57, 24), (q49, 22), (q41, 20), (q33, 20), (q25, 28), (q12, 21)] [21, 28, 20, 20, 22, 24, 27] _ _ := hB
  refine bw_put (v := .ref q65) (fty := (.array .int)) hx hb hts hin hown hK hin2 hB rfl 8 (by decide) (in_r10 _ (List.mem_of_getElem? (i := 0) rfl)) rfl (by decide +kernel) rfl rfl (Nat.le_of_ble_eq_true rfl) dX1_init_67 (fun H locs hB => ?_)
  have hB : bS D cys (bA a s.heap.size) s.heap [(a, .inr (1, [.int 0, .ref q12, .int 0, .ref q25, .ref q33, .ref q41, .ref q49, .ref q57, .ref q65, .null, .int 0, .int 0, .int 0]))] [(q65, 27), (q57, 24), (q49, 22), (q41, 20), (q33, 20), (q25, 28), (q12, 21)] [21, 28, 20, 20, 22, 24, 27] _ _ := hB
  refine lv_aload_n hx hb dX1_init_70 rfl (lv_at hl 0 rfl) ?_
  refine lv_bipush (v := 6) hx hb dX1_init_71 (by decide) ?_
  refine bw_newa hx hb hK hA hB (ty := .int) (hts _ (hin _ (in_r3 _ (List.mem_of_getElem? (i := 5) rfl)))) rfl 27 0 rfl (by decide) (by decide +kernel) rfl rfl (by decide) (by decide) (by decide) (Nat.le_of_ble_eq_true rfl) (Nat.le_of_ble_eq_true rfl) dX1_init_73 (fun q73 H hB => ?_)
  have hB : bS D cys (bA a s.heap.size) s.heap [(a, .inr (1, [.int 0, .ref q12, .int 0, .ref q25, .ref q33, .ref q41, .ref q49, .ref q57, .ref q65, .null, .int 0, .int 0, .int 0]))] [(q73, 27), (q65, 27), (q57, 24), (q49, 22), (q41, 20), (q33, 20), (q25, 28), (q12, 21)] [21, 28, 20, 20, 22, 24, 27, 27] _ _ := hB
  refine bw_put (v := .ref q73) (fty := (.array .int)) hx hb hts hin hown hK hin2 hB rfl 9 (by decide) (in_r10 _ (List.mem_of_getElem? (i := 1) rfl)) rfl (by decide +kernel) rfl rfl (Nat.le_of_ble_eq_true rfl) dX1_init_75 (fun H locs hB => ?_)
  have hB : bS D cys (bA a s.heap.size) s.heap [(a, .inr (1, [.int 0, .ref q12, .int 0, .ref q25, .ref q33, .ref q41, .ref q49, .ref q57, .ref q65, .ref q73, .int 0, .int 0, .int 0]))] [(q73, 27), (q65, 27), (q57, 24), (q49, 22), (q41, 20), (q33, 20), (q25, 28), (q12, 21)] [21, 28, 20, 20, 22, 24, 27, 27] _ _ := hB
  refine lv_aload_n hx hb dX1_init_78 rfl (lv_at hl 0 rfl) ?_
  refine lv_ldc hx hb hown (hts _ (hin _ (in_r10 _ (List.mem_of_getElem? (i := 2) rfl)))) dX1_init_79 ?_
  refine bw_put (v := .int 1000000) (fty := (.int)) hx hb hts hin hown hK hin2 hB rfl 10 (by decide) (in_r10 _ (List.mem_of_getElem? (i := 3) rfl)) rfl (by decide +kernel) rfl rfl (Nat.le_of_ble_eq_true rfl) dX1_init_81 (fun H locs hB => ?_)
  have hB : bS D cys (bA a s.heap.size) s.heap [(a, .inr (1, [.int 0, .ref q12, .int 0, .ref q25, .ref q33, .ref q41, .ref q49, .ref q57, .ref q65, .ref q73, .int 1000000, .int 0, .int 0]))] [(q73, 27), (q65, 27), (q57, 24), (q49, 22), (q41, 20), (q33, 20), (q25, 28), (q12, 21)] [21, 28, 20, 20, 22, 24, 27, 27] _ _ := hB
  refine lv_aload_n hx hb dX1_init_84 rfl (lv_at hl 0 rfl) ?_
  refine lv_iconst (v := 0) hx hb dX1_init_85 (by decide) ?_
  refine bw_put (v := .int 0) (fty := (.int)) hx hb hts hin hown hK hin2 hB rfl 11 (by decide) (in_r10 _ (List.mem_of_getElem? (i := 4) rfl)) rfl (by decide +kernel) rfl rfl (Nat.le_of_ble_eq_true rfl) dX1_init_86 (fun H locs hB => ?_)
  have hB : bS D cys (bA a s.heap.size) s.heap [(a, .inr (1, [.int 0, .ref q12, .int 0, .ref q25, .ref q33, .ref q41, .ref q49, .ref q57, .ref q65, .ref q73, .int 1000000, .int 0, .int 0]))] [(q73, 27), (q65, 27), (q57, 24), (q49, 22), (q41, 20), (q33, 20), (q25, 28), (q12, 21)] [21, 28, 20, 20, 22, 24, 27, 27] _ _ := hB
  refine lv_aload_n hx hb dX1_init_89 rfl (lv_at hl 0 rfl) ?_
  refine lv_iconst (v := 0) hx hb dX1_init_90 (by decide) ?_
  refine bw_put (v := .int 0) (fty := (.int)) hx hb hts hin hown hK hin2 hB rfl 12 (by decide) (in_r10 _ (List.mem_of_getElem? (i := 5) rfl)) rfl (by decide +kernel) rfl rfl (Nat.le_of_ble_eq_true rfl) dX1_init_91 (fun H locs hB => ?_)
  have hB : bS D cys (bA a s.heap.size) s.heap [(a, .inr (1, [.int 0, .ref q12, .int 0, .ref q25, .ref q33, .ref q41, .ref q49, .ref q57, .ref q65, .ref q73, .int 1000000, .int 0, .int 0]))] [(q73, 27), (q65, 27), (q57, 24), (q49, 22), (q41, 20), (q33, 20), (q25, 28), (q12, 21)] [21, 28, 20, 20, 22, 24, 27, 27] _ _ := hB
  refine bw_ret (zs := [2]) hx hb hr hlk hB rfl rfl (fun ty hty k ft hk => ?_) (by decide +kernel) (List.forall_mem_cons.mpr ⟨rfl, (fun k hk => by cases hk)⟩) ⟨rfl, rfl⟩ dX1_init_94
  exact match k, hk with
    | 0, hk => by cases hk; exact ⟨_, rfl, bv_i (by decide) (by decide)⟩
    | 1, hk => by cases hk; exact ⟨_, rfl, ⟨_, rfl, hty _ (List.mem_of_getElem? (i := 7) rfl)⟩⟩
    | 2, hk => by cases hk; exact ⟨_, rfl, bv_i (by decide) (by decide)⟩
    | 3, hk => by cases hk; exact ⟨_, rfl, ⟨_, rfl, hty _ (List.mem_of_getElem? (i := 6) rfl)⟩⟩
    | 4, hk => by cases hk; exact ⟨_, rfl, ⟨_, rfl, hty _ (List.mem_of_getElem? (i := 5) rfl)⟩⟩
    | 5, hk => by cases hk; exact ⟨_, rfl, ⟨_, rfl, hty _ (List.mem_of_getElem? (i := 4) rfl)⟩⟩
    | 6, hk => by cases hk; exact ⟨_, rfl, ⟨_, rfl, hty _ (List.mem_of_getElem? (i := 3) rfl)⟩⟩
    | 7, hk => by cases hk; exact ⟨_, rfl, ⟨_, rfl, hty _ (List.mem_of_getElem? (i := 2) rfl)⟩⟩
    | 8, hk => by cases hk; exact ⟨_, rfl, ⟨_, rfl, hty _ (List.mem_of_getElem? (i := 1) rfl)⟩⟩
    | 9, hk => by cases hk; exact ⟨_, rfl, ⟨_, rfl, hty _ (List.mem_of_getElem? (i := 0) rfl)⟩⟩
    | 10, hk => by cases hk; exact ⟨_, rfl, bv_i (by decide) (by decide)⟩
    | 11, hk => by cases hk; exact ⟨_, rfl, bv_i (by decide) (by decide)⟩
    | 12, hk => by cases hk; exact ⟨_, rfl, bv_i (by decide) (by decide)⟩
    | n + 13, hk => by cases hk
abbrev tg_7 : List ck_AV := [.inr (.inl 13)]
theorem b_d7 : ∀ j, j < 1 → defaultValue (tyX7 j) = vp_V [.null] j := fun j hj => match j, hj with
  | 0, _ => rfl
  | n + 1, h => absurd h (by omega)
theorem dX7_init_0 : decode cX7_init 0 = .ok (.aload_n 0, 1) := by decide +kernel
theorem dX7_init_1 : decode cX7_init 1 = .ok (.invokespecial 3, 3) := by decide +kernel
theorem dX7_init_4 : decode cX7_init 4 = .ok (.aload_n 0, 1) := by decide +kernel
theorem dX7_init_5 : decode cX7_init 5 = .ok (.new 9, 3) := by decide +kernel
theorem dX7_init_8 : decode cX7_init 8 = .ok (.dup, 1) := by decide +kernel
theorem dX7_init_9 : decode cX7_init 9 = .ok (.invokespecial 11, 3) := by decide +kernel
theorem dX7_init_12 : decode cX7_init 12 = .ok (.putfield 12, 3) := by decide +kernel
theorem dX7_init_15 : decode cX7_init 15 = .ok (.return_, 1) := by decide +kernel
set_option maxRecDepth 100000 in
set_option maxHeartbeats 4000000 in
theorem con_7 : bCon l D cys yX7_init cX7_init 1 2 32 15 174 7 [.null] 7 [7, 13, 53, 54, 55, 56, 57, 58, 59, 60, 61, 62, 63, 64, 65, 66] := by
  refine bw_enter (o := 7) (by decide) rfl rfl (by decide) ?_
  intro a p e s m below meth c ls hx hb hml hr hlk hts hown hT hin2 hl hA hB
  have hin : ∀ w ∈ wsL_law0, w ∈ Jvm.Cond.code yX7_init cX7_init 1 none :: wsL_law0 := fun w hw => List.mem_cons_of_mem _ hw
  have hK := hT.1
  refine lv_aload_n hx hb dX7_init_0 rfl (lv_at hl 0 rfl) ?_
  refine W.objInit hx hb hown (hts _ (hin _ (in_r6 _ (List.mem_of_getElem? (i := 20) rfl)))) (hts _ (hin _ (in_r1 _ (List.mem_of_getElem? (i := 11) rfl)))) (hts _ (hin _ (in_r1 _ (List.mem_of_getElem? (i := 12) rfl)))) rfl (by rw [hml]; exact hl.1) rfl dX7_init_1 (Nat.le_of_ble_eq_true rfl) (Nat.le_of_ble_eq_true rfl) ?_
  refine W.eq (g2 := F0 m 4 ls []) rfl ?_
  refine lv_aload_n hx hb dX7_init_4 rfl (lv_at hl 0 rfl) ?_
  refine bw_newn (con_6t) hx hb hml hl hts hin hown hT hA hB rfl tyX6_ok b_d6 (in_r6 _ (List.mem_of_getElem? (i := 21) rfl)) (in_r1 _ (List.mem_of_getElem? (i := 22) rfl)) (in_r1 _ (List.mem_of_getElem? (i := 23) rfl)) (in_r6 _ (List.mem_of_getElem? (i := 23) rfl)) (in_r7 _ (List.mem_of_getElem? (i := 0) rfl)) (List.mem_of_getElem? (i := 9) rfl) rfl (by decide +kernel) ⟨Nat.le_of_ble_eq_true rfl, Nat.le_of_ble_eq_true rfl⟩ (Nat.le_of_ble_eq_true rfl) (Nat.le_of_ble_eq_true rfl) (Nat.le_of_ble_eq_true rfl) dX7_init_5 dX7_init_8 dX7_init_9 (fun q5 H locs hB => ?_)
  have hB : bS D cys (bA a s.heap.size) s.heap [(a, .inr (7, [.null]))] [(q5, 13)] [13, 53, 54, 55, 56, 57, 58, 59, 60, 61, 62, 63, 64, 65, 66] _ _ := hB
  refine bw_put (v := .ref q5) (fty := (.object "RecastStage$Play")) hx hb hts hin hown hK hin2 hB rfl 0 (by decide) (in_r6 _ (List.mem_of_getElem? (i := 22) rfl)) rfl (by decide +kernel) rfl rfl (Nat.le_of_ble_eq_true rfl) dX7_init_12 (fun H locs hB => ?_)
  have hB : bS D cys (bA a s.heap.size) s.heap [(a, .inr (7, [.ref q5]))] [(q5, 13)] [13, 53, 54, 55, 56, 57, 58, 59, 60, 61, 62, 63, 64, 65, 66] _ _ := hB
  refine bw_ret (zs := []) hx hb hr hlk hB rfl rfl (fun ty hty k ft hk => ?_) (by decide +kernel) (fun k hk => by cases hk) ⟨rfl, rfl⟩ dX7_init_15
  exact match k, hk with
    | 0, hk => by cases hk; exact ⟨_, rfl, ⟨_, rfl, hty _ (List.mem_of_getElem? (i := 0) rfl)⟩⟩
    | n + 1, hk => by cases hk
abbrev tg_2 : List ck_AV := [.inl (-2147483648, 2147483647, []), .inl (-2147483648, 2147483647, []), .inl (-2147483648, 2147483647, []), .inl (-2147483648, 2147483647, []), .inl (-2147483648, 2147483647, []), .inl (-2147483648, 2147483647, []), .inl (-2147483648, 2147483647, []), .inl (-2147483648, 2147483647, []), .inr (.inl 26), .inr (.inl 26), .inr (.inl 21), .inr (.inl 21), .inr (.inl 21)]
theorem b_d2 : ∀ j, j < 13 → defaultValue (tyX2 j) = vp_V [.int 0, .int 0, .int 0, .int 0, .int 0, .int 0, .int 0, .int 0, .null, .null, .null, .null, .null] j := fun j hj => match j, hj with
  | 0, _ => rfl
  | 1, _ => rfl
  | 2, _ => rfl
  | 3, _ => rfl
  | 4, _ => rfl
  | 5, _ => rfl
  | 6, _ => rfl
  | 7, _ => rfl
  | 8, _ => rfl
  | 9, _ => rfl
  | 10, _ => rfl
  | 11, _ => rfl
  | 12, _ => rfl
  | n + 13, h => absurd h (by omega)
theorem dX2_init_0 : decode cX2_init 0 = .ok (.aload_n 0, 1) := by decide +kernel
theorem dX2_init_1 : decode cX2_init 1 = .ok (.invokespecial 3, 3) := by decide +kernel
theorem dX2_init_4 : decode cX2_init 4 = .ok (.aload_n 0, 1) := by decide +kernel
theorem dX2_init_5 : decode cX2_init 5 = .ok (.iconst 0, 1) := by decide +kernel
theorem dX2_init_6 : decode cX2_init 6 = .ok (.putfield 9, 3) := by decide +kernel
theorem dX2_init_9 : decode cX2_init 9 = .ok (.aload_n 0, 1) := by decide +kernel
theorem dX2_init_10 : decode cX2_init 10 = .ok (.iconst 0, 1) := by decide +kernel
theorem dX2_init_11 : decode cX2_init 11 = .ok (.putfield 15, 3) := by decide +kernel
theorem dX2_init_14 : decode cX2_init 14 = .ok (.aload_n 0, 1) := by decide +kernel
theorem dX2_init_15 : decode cX2_init 15 = .ok (.iconst 0, 1) := by decide +kernel
theorem dX2_init_16 : decode cX2_init 16 = .ok (.putfield 18, 3) := by decide +kernel
theorem dX2_init_19 : decode cX2_init 19 = .ok (.aload_n 0, 1) := by decide +kernel
theorem dX2_init_20 : decode cX2_init 20 = .ok (.iconst 0, 1) := by decide +kernel
theorem dX2_init_21 : decode cX2_init 21 = .ok (.putfield 21, 3) := by decide +kernel
theorem dX2_init_24 : decode cX2_init 24 = .ok (.aload_n 0, 1) := by decide +kernel
theorem dX2_init_25 : decode cX2_init 25 = .ok (.iconst 0, 1) := by decide +kernel
theorem dX2_init_26 : decode cX2_init 26 = .ok (.putfield 24, 3) := by decide +kernel
theorem dX2_init_29 : decode cX2_init 29 = .ok (.aload_n 0, 1) := by decide +kernel
theorem dX2_init_30 : decode cX2_init 30 = .ok (.iconst 0, 1) := by decide +kernel
theorem dX2_init_31 : decode cX2_init 31 = .ok (.putfield 27, 3) := by decide +kernel
theorem dX2_init_34 : decode cX2_init 34 = .ok (.aload_n 0, 1) := by decide +kernel
theorem dX2_init_35 : decode cX2_init 35 = .ok (.iconst 0, 1) := by decide +kernel
theorem dX2_init_36 : decode cX2_init 36 = .ok (.putfield 30, 3) := by decide +kernel
theorem dX2_init_39 : decode cX2_init 39 = .ok (.aload_n 0, 1) := by decide +kernel
theorem dX2_init_40 : decode cX2_init 40 = .ok (.iconst 0, 1) := by decide +kernel
theorem dX2_init_41 : decode cX2_init 41 = .ok (.putfield 33, 3) := by decide +kernel
theorem dX2_init_44 : decode cX2_init 44 = .ok (.aload_n 0, 1) := by decide +kernel
theorem dX2_init_45 : decode cX2_init 45 = .ok (.bipush 6, 2) := by decide +kernel
theorem dX2_init_47 : decode cX2_init 47 = .ok (.newarray .int, 2) := by decide +kernel
theorem dX2_init_49 : decode cX2_init 49 = .ok (.putfield 36, 3) := by decide +kernel
theorem dX2_init_52 : decode cX2_init 52 = .ok (.aload_n 0, 1) := by decide +kernel
theorem dX2_init_53 : decode cX2_init 53 = .ok (.bipush 6, 2) := by decide +kernel
theorem dX2_init_55 : decode cX2_init 55 = .ok (.newarray .int, 2) := by decide +kernel
theorem dX2_init_57 : decode cX2_init 57 = .ok (.putfield 40, 3) := by decide +kernel
theorem dX2_init_60 : decode cX2_init 60 = .ok (.aload_n 0, 1) := by decide +kernel
theorem dX2_init_61 : decode cX2_init 61 = .ok (.bipush 8, 2) := by decide +kernel
theorem dX2_init_63 : decode cX2_init 63 = .ok (.newarray .int, 2) := by decide +kernel
theorem dX2_init_65 : decode cX2_init 65 = .ok (.putfield 43, 3) := by decide +kernel
theorem dX2_init_68 : decode cX2_init 68 = .ok (.aload_n 0, 1) := by decide +kernel
theorem dX2_init_69 : decode cX2_init 69 = .ok (.bipush 8, 2) := by decide +kernel
theorem dX2_init_71 : decode cX2_init 71 = .ok (.newarray .int, 2) := by decide +kernel
theorem dX2_init_73 : decode cX2_init 73 = .ok (.putfield 46, 3) := by decide +kernel
theorem dX2_init_76 : decode cX2_init 76 = .ok (.aload_n 0, 1) := by decide +kernel
theorem dX2_init_77 : decode cX2_init 77 = .ok (.bipush 8, 2) := by decide +kernel
theorem dX2_init_79 : decode cX2_init 79 = .ok (.newarray .int, 2) := by decide +kernel
theorem dX2_init_81 : decode cX2_init 81 = .ok (.putfield 49, 3) := by decide +kernel
theorem dX2_init_84 : decode cX2_init 84 = .ok (.aload_n 0, 1) := by decide +kernel
theorem dX2_init_85 : decode cX2_init 85 = .ok (.getfield 36, 3) := by decide +kernel
theorem dX2_init_88 : decode cX2_init 88 = .ok (.iconst (-1), 1) := by decide +kernel
theorem dX2_init_89 : decode cX2_init 89 = .ok (.invokestatic 52, 3) := by decide +kernel
theorem dX2_init_92 : decode cX2_init 92 = .ok (.aload_n 0, 1) := by decide +kernel
theorem dX2_init_93 : decode cX2_init 93 = .ok (.getfield 40, 3) := by decide +kernel
theorem dX2_init_96 : decode cX2_init 96 = .ok (.iconst (-1), 1) := by decide +kernel
theorem dX2_init_97 : decode cX2_init 97 = .ok (.invokestatic 52, 3) := by decide +kernel
theorem dX2_init_100 : decode cX2_init 100 = .ok (.return_, 1) := by decide +kernel
set_option maxRecDepth 100000 in
set_option maxHeartbeats 4000000 in
theorem con_2 : bCon l D cys yX2_init cX2_init 1 2 35 5 36 2 [.int 0, .int 0, .int 0, .int 0, .int 0, .int 0, .int 0, .int 0, .null, .null, .null, .null, .null] 2 [2, 26, 26, 21, 21, 21] := by
  refine bw_enter (o := 2) (by decide) rfl rfl (by decide) ?_
  intro a p e s m below meth c ls hx hb hml hr hlk hts hown hT hin2 hl hA hB
  have hin : ∀ w ∈ wsL_law0, w ∈ Jvm.Cond.code yX2_init cX2_init 1 none :: wsL_law0 := fun w hw => List.mem_cons_of_mem _ hw
  have hK := hT.1
  refine lv_aload_n hx hb dX2_init_0 rfl (lv_at hl 0 rfl) ?_
  refine W.objInit hx hb hown (hts _ (hin _ (in_r8 _ (List.mem_of_getElem? (i := 1) rfl)))) (hts _ (hin _ (in_r1 _ (List.mem_of_getElem? (i := 11) rfl)))) (hts _ (hin _ (in_r1 _ (List.mem_of_getElem? (i := 12) rfl)))) rfl (by rw [hml]; exact hl.1) rfl dX2_init_1 (Nat.le_of_ble_eq_true rfl) (Nat.le_of_ble_eq_true rfl) ?_
  refine W.eq (g2 := F0 m 4 ls []) rfl ?_
  refine lv_aload_n hx hb dX2_init_4 rfl (lv_at hl 0 rfl) ?_
  refine lv_iconst (v := 0) hx hb dX2_init_5 (by decide) ?_
  refine bw_put (v := .int 0) (fty := (.int)) hx hb hts hin hown hK hin2 hB rfl 0 (by decide) (in_r8 _ (List.mem_of_getElem? (i := 2) rfl)) rfl (by decide +kernel) rfl rfl (Nat.le_of_ble_eq_true rfl) dX2_init_6 (fun H locs hB => ?_)
  have hB : bS D cys (bA a s.heap.size) s.heap [(a, .inr (2, [.int 0, .int 0, .int 0, .int 0, .int 0, .int 0, .int 0, .int 0, .null, .null, .null, .null, .null]))] [] [] _ _ := hB
  refine lv_aload_n hx hb dX2_init_9 rfl (lv_at hl 0 rfl) ?_
  refine lv_iconst (v := 0) hx hb dX2_init_10 (by decide) ?_
  refine bw_put (v := .int 0) (fty := (.int)) hx hb hts hin hown hK hin2 hB rfl 1 (by decide) (in_r8 _ (List.mem_of_getElem? (i := 3) rfl)) rfl (by decide +kernel) rfl rfl (Nat.le_of_ble_eq_true rfl) dX2_init_11 (fun H locs hB => ?_)
  have hB : bS D cys (bA a s.heap.size) s.heap [(a, .inr (2, [.int 0, .int 0, .int 0, .int 0, .int 0, .int 0, .int 0, .int 0, .null, .null, .null, .null, .null]))] [] [] _ _ := hB
  refine lv_aload_n hx hb dX2_init_14 rfl (lv_at hl 0 rfl) ?_
  refine lv_iconst (v := 0) hx hb dX2_init_15 (by decide) ?_
  refine bw_put (v := .int 0) (fty := (.int)) hx hb hts hin hown hK hin2 hB rfl 2 (by decide) (in_r8 _ (List.mem_of_getElem? (i := 4) rfl)) rfl (by decide +kernel) rfl rfl (Nat.le_of_ble_eq_true rfl) dX2_init_16 (fun H locs hB => ?_)
  have hB : bS D cys (bA a s.heap.size) s.heap [(a, .inr (2, [.int 0, .int 0, .int 0, .int 0, .int 0, .int 0, .int 0, .int 0, .null, .null, .null, .null, .null]))] [] [] _ _ := hB
  refine lv_aload_n hx hb dX2_init_19 rfl (lv_at hl 0 rfl) ?_
  refine lv_iconst (v := 0) hx hb dX2_init_20 (by decide) ?_
  refine bw_put (v := .int 0) (fty := (.int)) hx hb hts hin hown hK hin2 hB rfl 3 (by decide) (in_r8 _ (List.mem_of_getElem? (i := 5) rfl)) rfl (by decide +kernel) rfl rfl (Nat.le_of_ble_eq_true rfl) dX2_init_21 (fun H locs hB => ?_)
  have hB : bS D cys (bA a s.heap.size) s.heap [(a, .inr (2, [.int 0, .int 0, .int 0, .int 0, .int 0, .int 0, .int 0, .int 0, .null, .null, .null, .null, .null]))] [] [] _ _ := hB
  refine lv_aload_n hx hb dX2_init_24 rfl (lv_at hl 0 rfl) ?_
  refine lv_iconst (v := 0) hx hb dX2_init_25 (by decide) ?_
  refine bw_put (v := .int 0) (fty := (.int)) hx hb hts hin hown hK hin2 hB rfl 4 (by decide) (in_r8 _ (List.mem_of_getElem? (i := 6) rfl)) rfl (by decide +kernel) rfl rfl (Nat.le_of_ble_eq_true rfl) dX2_init_26 (fun H locs hB => ?_)
  have hB : bS D cys (bA a s.heap.size) s.heap [(a, .inr (2, [.int 0, .int 0, .int 0, .int 0, .int 0, .int 0, .int 0, .int 0, .null, .null, .null, .null, .null]))] [] [] _ _ := hB
  refine lv_aload_n hx hb dX2_init_29 rfl (lv_at hl 0 rfl) ?_
  refine lv_iconst (v := 0) hx hb dX2_init_30 (by decide) ?_
  refine bw_put (v := .int 0) (fty := (.int)) hx hb hts hin hown hK hin2 hB rfl 5 (by decide) (in_r8 _ (List.mem_of_getElem? (i := 7) rfl)) rfl (by decide +kernel) rfl rfl (Nat.le_of_ble_eq_true rfl) dX2_init_31 (fun H locs hB => ?_)
  have hB : bS D cys (bA a s.heap.size) s.heap [(a, .inr (2, [.int 0, .int 0, .int 0, .int 0, .int 0, .int 0, .int 0, .int 0, .null, .null, .null, .null, .null]))] [] [] _ _ := hB
  refine lv_aload_n hx hb dX2_init_34 rfl (lv_at hl 0 rfl) ?_
  refine lv_iconst (v := 0) hx hb dX2_init_35 (by decide) ?_
  refine bw_put (v := .int 0) (fty := (.int)) hx hb hts hin hown hK hin2 hB rfl 6 (by decide) (in_r8 _ (List.mem_of_getElem? (i := 8) rfl)) rfl (by decide +kernel) rfl rfl (Nat.le_of_ble_eq_true rfl) dX2_init_36 (fun H locs hB => ?_)
  have hB : bS D cys (bA a s.heap.size) s.heap [(a, .inr (2, [.int 0, .int 0, .int 0, .int 0, .int 0, .int 0, .int 0, .int 0, .null, .null, .null, .null, .null]))] [] [] _ _ := hB
  refine lv_aload_n hx hb dX2_init_39 rfl (lv_at hl 0 rfl) ?_
  refine lv_iconst (v := 0) hx hb dX2_init_40 (by decide) ?_
  refine bw_put (v := .int 0) (fty := (.int)) hx hb hts hin hown hK hin2 hB rfl 7 (by decide) (in_r8 _ (List.mem_of_getElem? (i := 9) rfl)) rfl (by decide +kernel) rfl rfl (Nat.le_of_ble_eq_true rfl) dX2_init_41 (fun H locs hB => ?_)
  have hB : bS D cys (bA a s.heap.size) s.heap [(a, .inr (2, [.int 0, .int 0, .int 0, .int 0, .int 0, .int 0, .int 0, .int 0, .null, .null, .null, .null, .null]))] [] [] _ _ := hB
  refine lv_aload_n hx hb dX2_init_44 rfl (lv_at hl 0 rfl) ?_
  refine lv_bipush (v := 6) hx hb dX2_init_45 (by decide) ?_
  refine bw_newa hx hb hK hA hB (ty := .int) (hts _ (hin _ (in_r3 _ (List.mem_of_getElem? (i := 5) rfl)))) rfl 26 0 rfl (by decide) (by decide +kernel) rfl rfl (by decide) (by decide) (by decide) (Nat.le_of_ble_eq_true rfl) (Nat.le_of_ble_eq_true rfl) dX2_init_47 (fun q47 H hB => ?_)
  have hB : bS D cys (bA a s.heap.size) s.heap [(a, .inr (2, [.int 0, .int 0, .int 0, .int 0, .int 0, .int 0, .int 0, .int 0, .null, .null, .null, .null, .null]))] [(q47, 26)] [26] _ _ := hB
  refine bw_put (v := .ref q47) (fty := (.array .int)) hx hb hts hin hown hK hin2 hB rfl 8 (by decide) (in_r8 _ (List.mem_of_getElem? (i := 10) rfl)) rfl (by decide +kernel) rfl rfl (Nat.le_of_ble_eq_true rfl) dX2_init_49 (fun H locs hB => ?_)
  have hB : bS D cys (bA a s.heap.size) s.heap [(a, .inr (2, [.int 0, .int 0, .int 0, .int 0, .int 0, .int 0, .int 0, .int 0, .ref q47, .null, .null, .null, .null]))] [(q47, 26)] [26] _ _ := hB
  refine lv_aload_n hx hb dX2_init_52 rfl (lv_at hl 0 rfl) ?_
  refine lv_bipush (v := 6) hx hb dX2_init_53 (by decide) ?_
  refine bw_newa hx hb hK hA hB (ty := .int) (hts _ (hin _ (in_r3 _ (List.mem_of_getElem? (i := 5) rfl)))) rfl 26 0 rfl (by decide) (by decide +kernel) rfl rfl (by decide) (by decide) (by decide) (Nat.le_of_ble_eq_true rfl) (Nat.le_of_ble_eq_true rfl) dX2_init_55 (fun q55 H hB => ?_)
  have hB : bS D cys (bA a s.heap.size) s.heap [(a, .inr (2, [.int 0, .int 0, .int 0, .int 0, .int 0, .int 0, .int 0, .int 0, .ref q47, .null, .null, .null, .null]))] [(q55, 26), (q47, 26)] [26, 26] _ _ := hB
  refine bw_put (v := .ref q55) (fty := (.array .int)) hx hb hts hin hown hK hin2 hB rfl 9 (by decide) (in_r8 _ (List.mem_of_getElem? (i := 11) rfl)) rfl (by decide +kernel) rfl rfl (Nat.le_of_ble_eq_true rfl) dX2_init_57 (fun H locs hB => ?_)
  have hB : bS D cys (bA a s.heap.size) s.heap [(a, .inr (2, [.int 0, .int 0, .int 0, .int 0, .int 0, .int 0, .int 0, .int 0, .ref q47, .ref q55, .null, .null, .null]))] [(q55, 26), (q47, 26)] [26, 26] _ _ := hB
  refine lv_aload_n hx hb dX2_init_60 rfl (lv_at hl 0 rfl) ?_
  refine lv_bipush (v := 8) hx hb dX2_init_61 (by decide) ?_
  refine bw_newa hx hb hK hA hB (ty := .int) (hts _ (hin _ (in_r3 _ (List.mem_of_getElem? (i := 5) rfl)))) rfl 21 0 rfl (by decide) (by decide +kernel) rfl rfl (by decide) (by decide) (by decide) (Nat.le_of_ble_eq_true rfl) (Nat.le_of_ble_eq_true rfl) dX2_init_63 (fun q63 H hB => ?_)
  have hB : bS D cys (bA a s.heap.size) s.heap [(a, .inr (2, [.int 0, .int 0, .int 0, .int 0, .int 0, .int 0, .int 0, .int 0, .ref q47, .ref q55, .null, .null, .null]))] [(q63, 21), (q55, 26), (q47, 26)] [26, 26, 21] _ _ := hB
  refine bw_put (v := .ref q63) (fty := (.array .int)) hx hb hts hin hown hK hin2 hB rfl 10 (by decide) (in_r8 _ (List.mem_of_getElem? (i := 12) rfl)) rfl (by decide +kernel) rfl rfl (Nat.le_of_ble_eq_true rfl) dX2_init_65 (fun H locs hB => ?_)
  have hB : bS D cys (bA a s.heap.size) s.heap [(a, .inr (2, [.int 0, .int 0, .int 0, .int 0, .int 0, .int 0, .int 0, .int 0, .ref q47, .ref q55, .ref q63, .null, .null]))] [(q63, 21), (q55, 26), (q47, 26)] [26, 26, 21] _ _ := hB
  refine lv_aload_n hx hb dX2_init_68 rfl (lv_at hl 0 rfl) ?_
  refine lv_bipush (v := 8) hx hb dX2_init_69 (by decide) ?_
  refine bw_newa hx hb hK hA hB (ty := .int) (hts _ (hin _ (in_r3 _ (List.mem_of_getElem? (i := 5) rfl)))) rfl 21 0 rfl (by decide) (by decide +kernel) rfl rfl (by decide) (by decide) (by decide) (Nat.le_of_ble_eq_true rfl) (Nat.le_of_ble_eq_true rfl) dX2_init_71 (fun q71 H hB => ?_)
  have hB : bS D cys (bA a s.heap.size) s.heap [(a, .inr (2, [.int 0, .int 0, .int 0, .int 0, .int 0, .int 0, .int 0, .int 0, .ref q47, .ref q55, .ref q63, .null, .null]))] [(q71, 21), (q63, 21), (q55, 26), (q47, 26)] [26, 26, 21, 21] _ _ := hB
  refine bw_put (v := .ref q71) (fty := (.array .int)) hx hb hts hin hown hK hin2 hB rfl 11 (by decide) (in_r8 _ (List.mem_of_getElem? (i := 13) rfl)) rfl (by decide +kernel) rfl rfl (Nat.le_of_ble_eq_true rfl) dX2_init_73 (fun H locs hB => ?_)
  have hB : bS D cys (bA a s.heap.size) s.heap [(a, .inr (2, [.int 0, .int 0, .int 0, .int 0, .int 0, .int 0, .int 0, .int 0, .ref q47, .ref q55, .ref q63, .ref q71, .null]))] [(q71, 21), (q63, 21), (q55, 26), (q47, 26)] [26, 26, 21, 21] _ _ := hB
  refine lv_aload_n hx hb dX2_init_76 rfl (lv_at hl 0 rfl) ?_
  refine lv_bipush (v := 8) hx hb dX2_init_77 (by decide) ?_
  refine bw_newa hx hb hK hA hB (ty := .int) (hts _ (hin _ (in_r3 _ (List.mem_of_getElem? (i := 5) rfl)))) rfl 21 0 rfl (by decide) (by decide +kernel) rfl rfl (by decide) (by decide) (by decide) (Nat.le_of_ble_eq_true rfl) (Nat.le_of_ble_eq_true rfl) dX2_init_79 (fun q79 H hB => ?_)
  have hB : bS D cys (bA a s.heap.size) s.heap [(a, .inr (2, [.int 0, .int 0, .int 0, .int 0, .int 0, .int 0, .int 0, .int 0, .ref q47, .ref q55, .ref q63, .ref q71, .null]))] [(q79, 21), (q71, 21), (q63, 21), (q55, 26), (q47, 26)] [26, 26, 21, 21, 21] _ _ := hB
  refine bw_put (v := .ref q79) (fty := (.array .int)) hx hb hts hin hown hK hin2 hB rfl 12 (by decide) (in_r8 _ (List.mem_of_getElem? (i := 14) rfl)) rfl (by decide +kernel) rfl rfl (Nat.le_of_ble_eq_true rfl) dX2_init_81 (fun H locs hB => ?_)
  have hB : bS D cys (bA a s.heap.size) s.heap [(a, .inr (2, [.int 0, .int 0, .int 0, .int 0, .int 0, .int 0, .int 0, .int 0, .ref q47, .ref q55, .ref q63, .ref q71, .ref q79]))] [(q79, 21), (q71, 21), (q63, 21), (q55, 26), (q47, 26)] [26, 26, 21, 21, 21] _ _ := hB
  refine lv_aload_n hx hb dX2_init_84 rfl (lv_at hl 0 rfl) ?_
  refine bw_get hx hb hts hin hown hK hB rfl 8 (by decide) (in_r8 _ (List.mem_of_getElem? (i := 10) rfl)) rfl dX2_init_85 ?_
  refine lv_iconst (v := (-1)) hx hb dX2_init_88 (by decide) ?_
  refine bw_fill hx hb hml hl hts hin hown hT hB (List.mem_of_getElem? (i := 4) rfl) (mm_280_1 (in_r8 _ (List.mem_of_getElem? (i := 15) rfl))) ⟨Nat.le_of_ble_eq_true rfl, Nat.le_of_ble_eq_true rfl⟩ (Nat.le_of_ble_eq_true rfl) ⟨Nat.le_of_ble_eq_true rfl, Nat.le_of_ble_eq_true rfl⟩ dX2_init_89 (fun H locs hB => ?_)
  refine lv_aload_n hx hb dX2_init_92 rfl (lv_at hl 0 rfl) ?_
  refine bw_get hx hb hts hin hown hK hB rfl 9 (by decide) (in_r8 _ (List.mem_of_getElem? (i := 11) rfl)) rfl dX2_init_93 ?_
  refine lv_iconst (v := (-1)) hx hb dX2_init_96 (by decide) ?_
  refine bw_fill hx hb hml hl hts hin hown hT hB (List.mem_of_getElem? (i := 3) rfl) (mm_280_1 (in_r8 _ (List.mem_of_getElem? (i := 15) rfl))) ⟨Nat.le_of_ble_eq_true rfl, Nat.le_of_ble_eq_true rfl⟩ (Nat.le_of_ble_eq_true rfl) ⟨Nat.le_of_ble_eq_true rfl, Nat.le_of_ble_eq_true rfl⟩ dX2_init_97 (fun H locs hB => ?_)
  refine bw_ret (zs := []) hx hb hr hlk hB rfl rfl (fun ty hty k ft hk => ?_) (by decide +kernel) (fun k hk => by cases hk) ⟨rfl, rfl⟩ dX2_init_100
  exact match k, hk with
    | 0, hk => by cases hk; exact ⟨_, rfl, bv_i (by decide) (by decide)⟩
    | 1, hk => by cases hk; exact ⟨_, rfl, bv_i (by decide) (by decide)⟩
    | 2, hk => by cases hk; exact ⟨_, rfl, bv_i (by decide) (by decide)⟩
    | 3, hk => by cases hk; exact ⟨_, rfl, bv_i (by decide) (by decide)⟩
    | 4, hk => by cases hk; exact ⟨_, rfl, bv_i (by decide) (by decide)⟩
    | 5, hk => by cases hk; exact ⟨_, rfl, bv_i (by decide) (by decide)⟩
    | 6, hk => by cases hk; exact ⟨_, rfl, bv_i (by decide) (by decide)⟩
    | 7, hk => by cases hk; exact ⟨_, rfl, bv_i (by decide) (by decide)⟩
    | 8, hk => by cases hk; exact ⟨_, rfl, ⟨_, rfl, hty _ (List.mem_of_getElem? (i := 4) rfl)⟩⟩
    | 9, hk => by cases hk; exact ⟨_, rfl, ⟨_, rfl, hty _ (List.mem_of_getElem? (i := 3) rfl)⟩⟩
    | 10, hk => by cases hk; exact ⟨_, rfl, ⟨_, rfl, hty _ (List.mem_of_getElem? (i := 2) rfl)⟩⟩
    | 11, hk => by cases hk; exact ⟨_, rfl, ⟨_, rfl, hty _ (List.mem_of_getElem? (i := 1) rfl)⟩⟩
    | 12, hk => by cases hk; exact ⟨_, rfl, ⟨_, rfl, hty _ (List.mem_of_getElem? (i := 0) rfl)⟩⟩
    | n + 13, hk => by cases hk
abbrev tg_12 : List ck_AV := [.inl (0, 1, []), .inr (.inl 49), .inl (0, 940, []), .inl (0, 940, []), .inl (0, 940, []), .inl (0, 900, []), .inr (.inl 34), .inr (.inl 35), .inr (.inl 36), .inr (.inl 19), .inr (.inl 50), .inl (0, 4, []), .inl (0, 940, []), .inl (-2147483648, 2147483647, []), .inl (-2147483648, 2147483647, []), .inl (0, 4, []), .inl (0, 940, []), .inr (.inr ()), .inl (-2147483648, 2147483647, []), .inl (-2147483648, 2147483647, []), .inr (.inl 37), .inr (.inl 38), .inl (0, 8, []), .inr (.inl 47), .inr (.inl 39), .inr (.inl 40), .inl (-2147483648, 2147483647, []), .inl (-2147483648, 2147483647, []), .inl (-2147483648, 2147483647, []), .inl (-2147483648, 2147483647, []), .inl (-2147483648, 2147483647, []), .inl (-2147483648, 2147483647, []), .inr (.inl 20), .inl (-1, 6, []), .inr (.inl 20), .inr (.inl 41), .inr (.inl 20), .inl (-1, 6, []), .inl (0, 8, []), .inl (-2147483648, 2147483647, []), .inl (-2147483648, 2147483647, []), .inl (0, 40, []), .inr (.inl 42), .inl (0, 1, []), .inr (.inl 43), .inl (0, 45, []), .inl (0, 20, []), .inl (0, 45, []), .inl (-2147483648, 2147483647, []), .inl (0, 1, []), .inr (.inl 44), .inr (.inl 45), .inr (.inl 109), .inr (.inl 46)]
theorem b_d12 : ∀ j, j < 54 → defaultValue (tyX12 j) = vp_V [.int 0, .null, .int 0, .int 0, .int 0, .int 0, .null, .null, .null, .null, .null, .int 0, .int 0, .int 0, .int 0, .int 0, .int 0, .long 0, .int 0, .int 0, .null, .null, .int 0, .null, .null, .null, .int 0, .int 0, .int 0, .int 0, .int 0, .int 0, .null, .int 0, .null, .null, .null, .int 0, .int 0, .int 0, .int 0, .int 0, .null, .int 0, .null, .int 0, .int 0, .int 0, .int 0, .int 0, .null, .null, .null, .null] j := fun j hj => match j, hj with
  | 0, _ => rfl
  | 1, _ => rfl
  | 2, _ => rfl
  | 3, _ => rfl
  | 4, _ => rfl
  | 5, _ => rfl
  | 6, _ => rfl
  | 7, _ => rfl
  | 8, _ => rfl
  | 9, _ => rfl
  | 10, _ => rfl
  | 11, _ => rfl
  | 12, _ => rfl
  | 13, _ => rfl
  | 14, _ => rfl
  | 15, _ => rfl
  | 16, _ => rfl
  | 17, _ => rfl
  | 18, _ => rfl
  | 19, _ => rfl
  | 20, _ => rfl
  | 21, _ => rfl
  | 22, _ => rfl
  | 23, _ => rfl
  | 24, _ => rfl
  | 25, _ => rfl
  | 26, _ => rfl
  | 27, _ => rfl
  | 28, _ => rfl
  | 29, _ => rfl
  | 30, _ => rfl
  | 31, _ => rfl
  | 32, _ => rfl
  | 33, _ => rfl
  | 34, _ => rfl
  | 35, _ => rfl
  | 36, _ => rfl
  | 37, _ => rfl
  | 38, _ => rfl
  | 39, _ => rfl
  | 40, _ => rfl
  | 41, _ => rfl
  | 42, _ => rfl
  | 43, _ => rfl
  | 44, _ => rfl
  | 45, _ => rfl
  | 46, _ => rfl
  | 47, _ => rfl
  | 48, _ => rfl
  | 49, _ => rfl
  | 50, _ => rfl
  | 51, _ => rfl
  | 52, _ => rfl
  | 53, _ => rfl
  | n + 54, h => absurd h (by omega)
theorem dX12_init_0 : decode cX12_init 0 = .ok (.aload_n 0, 1) := by decide +kernel
theorem dX12_init_1 : decode cX12_init 1 = .ok (.invokespecial 27, 3) := by decide +kernel
theorem dX12_init_4 : decode cX12_init 4 = .ok (.aload_n 0, 1) := by decide +kernel
theorem dX12_init_5 : decode cX12_init 5 = .ok (.sipush 940, 3) := by decide +kernel
theorem dX12_init_8 : decode cX12_init 8 = .ok (.newarray .byte, 2) := by decide +kernel
theorem dX12_init_10 : decode cX12_init 10 = .ok (.putfield 14, 3) := by decide +kernel
theorem dX12_init_13 : decode cX12_init 13 = .ok (.aload_n 0, 1) := by decide +kernel
theorem dX12_init_14 : decode cX12_init 14 = .ok (.sipush 367, 3) := by decide +kernel
theorem dX12_init_17 : decode cX12_init 17 = .ok (.newarray .int, 2) := by decide +kernel
theorem dX12_init_19 : decode cX12_init 19 = .ok (.putfield 33, 3) := by decide +kernel
theorem dX12_init_22 : decode cX12_init 22 = .ok (.aload_n 0, 1) := by decide +kernel
theorem dX12_init_23 : decode cX12_init 23 = .ok (.sipush 140, 3) := by decide +kernel
theorem dX12_init_26 : decode cX12_init 26 = .ok (.newarray .int, 2) := by decide +kernel
theorem dX12_init_28 : decode cX12_init 28 = .ok (.putfield 37, 3) := by decide +kernel
theorem dX12_init_31 : decode cX12_init 31 = .ok (.aload_n 0, 1) := by decide +kernel
theorem dX12_init_32 : decode cX12_init 32 = .ok (.sipush 135, 3) := by decide +kernel
theorem dX12_init_35 : decode cX12_init 35 = .ok (.newarray .int, 2) := by decide +kernel
theorem dX12_init_37 : decode cX12_init 37 = .ok (.putfield 40, 3) := by decide +kernel
theorem dX12_init_40 : decode cX12_init 40 = .ok (.aload_n 0, 1) := by decide +kernel
theorem dX12_init_41 : decode cX12_init 41 = .ok (.bipush 40, 2) := by decide +kernel
theorem dX12_init_43 : decode cX12_init 43 = .ok (.newarray .long, 2) := by decide +kernel
theorem dX12_init_45 : decode cX12_init 45 = .ok (.putfield 43, 3) := by decide +kernel
theorem dX12_init_48 : decode cX12_init 48 = .ok (.aload_n 0, 1) := by decide +kernel
theorem dX12_init_49 : decode cX12_init 49 = .ok (.bipush 27, 2) := by decide +kernel
theorem dX12_init_51 : decode cX12_init 51 = .ok (.newarray .long, 2) := by decide +kernel
theorem dX12_init_53 : decode cX12_init 53 = .ok (.putfield 47, 3) := by decide +kernel
theorem dX12_init_56 : decode cX12_init 56 = .ok (.aload_n 0, 1) := by decide +kernel
theorem dX12_init_57 : decode cX12_init 57 = .ok (.sipush 368, 3) := by decide +kernel
theorem dX12_init_60 : decode cX12_init 60 = .ok (.newarray .int, 2) := by decide +kernel
theorem dX12_init_62 : decode cX12_init 62 = .ok (.putfield 50, 3) := by decide +kernel
theorem dX12_init_65 : decode cX12_init 65 = .ok (.aload_n 0, 1) := by decide +kernel
theorem dX12_init_66 : decode cX12_init 66 = .ok (.bipush 46, 2) := by decide +kernel
theorem dX12_init_68 : decode cX12_init 68 = .ok (.newarray .int, 2) := by decide +kernel
theorem dX12_init_70 : decode cX12_init 70 = .ok (.putfield 53, 3) := by decide +kernel
theorem dX12_init_73 : decode cX12_init 73 = .ok (.aload_n 0, 1) := by decide +kernel
theorem dX12_init_74 : decode cX12_init 74 = .ok (.bipush 6, 2) := by decide +kernel
theorem dX12_init_76 : decode cX12_init 76 = .ok (.newarray .int, 2) := by decide +kernel
theorem dX12_init_78 : decode cX12_init 78 = .ok (.putfield 56, 3) := by decide +kernel
theorem dX12_init_81 : decode cX12_init 81 = .ok (.aload_n 0, 1) := by decide +kernel
theorem dX12_init_82 : decode cX12_init 82 = .ok (.bipush 6, 2) := by decide +kernel
theorem dX12_init_84 : decode cX12_init 84 = .ok (.newarray .int, 2) := by decide +kernel
theorem dX12_init_86 : decode cX12_init 86 = .ok (.putfield 59, 3) := by decide +kernel
theorem dX12_init_89 : decode cX12_init 89 = .ok (.aload_n 0, 1) := by decide +kernel
theorem dX12_init_90 : decode cX12_init 90 = .ok (.bipush 6, 2) := by decide +kernel
theorem dX12_init_92 : decode cX12_init 92 = .ok (.newarray .int, 2) := by decide +kernel
theorem dX12_init_94 : decode cX12_init 94 = .ok (.putfield 62, 3) := by decide +kernel
theorem dX12_init_97 : decode cX12_init 97 = .ok (.aload_n 0, 1) := by decide +kernel
theorem dX12_init_98 : decode cX12_init 98 = .ok (.bipush 6, 2) := by decide +kernel
theorem dX12_init_100 : decode cX12_init 100 = .ok (.newarray .int, 2) := by decide +kernel
theorem dX12_init_102 : decode cX12_init 102 = .ok (.putfield 65, 3) := by decide +kernel
theorem dX12_init_105 : decode cX12_init 105 = .ok (.aload_n 0, 1) := by decide +kernel
theorem dX12_init_106 : decode cX12_init 106 = .ok (.iconst (-1), 1) := by decide +kernel
theorem dX12_init_107 : decode cX12_init 107 = .ok (.putfield 68, 3) := by decide +kernel
theorem dX12_init_110 : decode cX12_init 110 = .ok (.aload_n 0, 1) := by decide +kernel
theorem dX12_init_111 : decode cX12_init 111 = .ok (.bipush 6, 2) := by decide +kernel
theorem dX12_init_113 : decode cX12_init 113 = .ok (.newarray .int, 2) := by decide +kernel
theorem dX12_init_115 : decode cX12_init 115 = .ok (.putfield 71, 3) := by decide +kernel
theorem dX12_init_118 : decode cX12_init 118 = .ok (.aload_n 0, 1) := by decide +kernel
theorem dX12_init_119 : decode cX12_init 119 = .ok (.bipush 8, 2) := by decide +kernel
theorem dX12_init_121 : decode cX12_init 121 = .ok (.newarray .int, 2) := by decide +kernel
theorem dX12_init_123 : decode cX12_init 123 = .ok (.putfield 74, 3) := by decide +kernel
theorem dX12_init_126 : decode cX12_init 126 = .ok (.aload_n 0, 1) := by decide +kernel
theorem dX12_init_127 : decode cX12_init 127 = .ok (.bipush 6, 2) := by decide +kernel
theorem dX12_init_129 : decode cX12_init 129 = .ok (.newarray .int, 2) := by decide +kernel
theorem dX12_init_131 : decode cX12_init 131 = .ok (.putfield 77, 3) := by decide +kernel
theorem dX12_init_134 : decode cX12_init 134 = .ok (.aload_n 0, 1) := by decide +kernel
theorem dX12_init_135 : decode cX12_init 135 = .ok (.iconst (-1), 1) := by decide +kernel
theorem dX12_init_136 : decode cX12_init 136 = .ok (.putfield 80, 3) := by decide +kernel
theorem dX12_init_139 : decode cX12_init 139 = .ok (.aload_n 0, 1) := by decide +kernel
theorem dX12_init_140 : decode cX12_init 140 = .ok (.iconst 4, 1) := by decide +kernel
theorem dX12_init_141 : decode cX12_init 141 = .ok (.newarray .int, 2) := by decide +kernel
theorem dX12_init_143 : decode cX12_init 143 = .ok (.putfield 83, 3) := by decide +kernel
theorem dX12_init_146 : decode cX12_init 146 = .ok (.aload_n 0, 1) := by decide +kernel
theorem dX12_init_147 : decode cX12_init 147 = .ok (.bipush 45, 2) := by decide +kernel
theorem dX12_init_149 : decode cX12_init 149 = .ok (.newarray .int, 2) := by decide +kernel
theorem dX12_init_151 : decode cX12_init 151 = .ok (.putfield 86, 3) := by decide +kernel
theorem dX12_init_154 : decode cX12_init 154 = .ok (.aload_n 0, 1) := by decide +kernel
theorem dX12_init_155 : decode cX12_init 155 = .ok (.bipush 45, 2) := by decide +kernel
theorem dX12_init_157 : decode cX12_init 157 = .ok (.newarray .boolean, 2) := by decide +kernel
theorem dX12_init_159 : decode cX12_init 159 = .ok (.putfield 89, 3) := by decide +kernel
theorem dX12_init_162 : decode cX12_init 162 = .ok (.aload_n 0, 1) := by decide +kernel
theorem dX12_init_163 : decode cX12_init 163 = .ok (.sipush 734, 3) := by decide +kernel
theorem dX12_init_166 : decode cX12_init 166 = .ok (.newarray .int, 2) := by decide +kernel
theorem dX12_init_168 : decode cX12_init 168 = .ok (.putfield 93, 3) := by decide +kernel
theorem dX12_init_171 : decode cX12_init 171 = .ok (.aload_n 0, 1) := by decide +kernel
theorem dX12_init_172 : decode cX12_init 172 = .ok (.bipush 40, 2) := by decide +kernel
theorem dX12_init_174 : decode cX12_init 174 = .ok (.newarray .long, 2) := by decide +kernel
theorem dX12_init_176 : decode cX12_init 176 = .ok (.putfield 96, 3) := by decide +kernel
theorem dX12_init_179 : decode cX12_init 179 = .ok (.aload_n 0, 1) := by decide +kernel
theorem dX12_init_180 : decode cX12_init 180 = .ok (.iconst 2, 1) := by decide +kernel
theorem dX12_init_181 : decode cX12_init 181 = .ok (.newarray .boolean, 2) := by decide +kernel
theorem dX12_init_183 : decode cX12_init 183 = .ok (.putfield 99, 3) := by decide +kernel
theorem dX12_init_186 : decode cX12_init 186 = .ok (.aload_n 0, 1) := by decide +kernel
theorem dX12_init_187 : decode cX12_init 187 = .ok (.getfield 47, 3) := by decide +kernel
theorem dX12_init_190 : decode cX12_init 190 = .ok (.iconst 0, 1) := by decide +kernel
theorem dX12_init_191 : decode cX12_init 191 = .ok (.ldc2_w 102, 3) := by decide +kernel
theorem dX12_init_194 : decode cX12_init 194 = .ok (.lastore, 1) := by decide +kernel
theorem dX12_init_195 : decode cX12_init 195 = .ok (.aload_n 0, 1) := by decide +kernel
theorem dX12_init_196 : decode cX12_init 196 = .ok (.getfield 47, 3) := by decide +kernel
theorem dX12_init_199 : decode cX12_init 199 = .ok (.iconst 1, 1) := by decide +kernel
theorem dX12_init_200 : decode cX12_init 200 = .ok (.ldc2_w 104, 3) := by decide +kernel
theorem dX12_init_203 : decode cX12_init 203 = .ok (.lastore, 1) := by decide +kernel
theorem dX12_init_204 : decode cX12_init 204 = .ok (.aload_n 0, 1) := by decide +kernel
theorem dX12_init_205 : decode cX12_init 205 = .ok (.getfield 47, 3) := by decide +kernel
theorem dX12_init_208 : decode cX12_init 208 = .ok (.iconst 2, 1) := by decide +kernel
theorem dX12_init_209 : decode cX12_init 209 = .ok (.ldc2_w 106, 3) := by decide +kernel
theorem dX12_init_212 : decode cX12_init 212 = .ok (.lastore, 1) := by decide +kernel
theorem dX12_init_213 : decode cX12_init 213 = .ok (.aload_n 0, 1) := by decide +kernel
theorem dX12_init_214 : decode cX12_init 214 = .ok (.getfield 47, 3) := by decide +kernel
theorem dX12_init_217 : decode cX12_init 217 = .ok (.iconst 3, 1) := by decide +kernel
theorem dX12_init_218 : decode cX12_init 218 = .ok (.ldc2_w 108, 3) := by decide +kernel
theorem dX12_init_221 : decode cX12_init 221 = .ok (.lastore, 1) := by decide +kernel
theorem dX12_init_222 : decode cX12_init 222 = .ok (.aload_n 0, 1) := by decide +kernel
theorem dX12_init_223 : decode cX12_init 223 = .ok (.getfield 47, 3) := by decide +kernel
theorem dX12_init_226 : decode cX12_init 226 = .ok (.iconst 4, 1) := by decide +kernel
theorem dX12_init_227 : decode cX12_init 227 = .ok (.ldc2_w 110, 3) := by decide +kernel
theorem dX12_init_230 : decode cX12_init 230 = .ok (.lastore, 1) := by decide +kernel
theorem dX12_init_231 : decode cX12_init 231 = .ok (.aload_n 0, 1) := by decide +kernel
theorem dX12_init_232 : decode cX12_init 232 = .ok (.getfield 47, 3) := by decide +kernel
theorem dX12_init_235 : decode cX12_init 235 = .ok (.iconst 5, 1) := by decide +kernel
theorem dX12_init_236 : decode cX12_init 236 = .ok (.ldc2_w 112, 3) := by decide +kernel
theorem dX12_init_239 : decode cX12_init 239 = .ok (.lastore, 1) := by decide +kernel
theorem dX12_init_240 : decode cX12_init 240 = .ok (.aload_n 0, 1) := by decide +kernel
theorem dX12_init_241 : decode cX12_init 241 = .ok (.getfield 47, 3) := by decide +kernel
theorem dX12_init_244 : decode cX12_init 244 = .ok (.bipush 6, 2) := by decide +kernel
theorem dX12_init_246 : decode cX12_init 246 = .ok (.ldc2_w 114, 3) := by decide +kernel
theorem dX12_init_249 : decode cX12_init 249 = .ok (.lastore, 1) := by decide +kernel
theorem dX12_init_250 : decode cX12_init 250 = .ok (.aload_n 0, 1) := by decide +kernel
theorem dX12_init_251 : decode cX12_init 251 = .ok (.getfield 47, 3) := by decide +kernel
theorem dX12_init_254 : decode cX12_init 254 = .ok (.bipush 7, 2) := by decide +kernel
theorem dX12_init_256 : decode cX12_init 256 = .ok (.ldc2_w 116, 3) := by decide +kernel
theorem dX12_init_259 : decode cX12_init 259 = .ok (.lastore, 1) := by decide +kernel
theorem dX12_init_260 : decode cX12_init 260 = .ok (.aload_n 0, 1) := by decide +kernel
theorem dX12_init_261 : decode cX12_init 261 = .ok (.getfield 47, 3) := by decide +kernel
theorem dX12_init_264 : decode cX12_init 264 = .ok (.bipush 8, 2) := by decide +kernel
theorem dX12_init_266 : decode cX12_init 266 = .ok (.ldc2_w 118, 3) := by decide +kernel
theorem dX12_init_269 : decode cX12_init 269 = .ok (.lastore, 1) := by decide +kernel
theorem dX12_init_270 : decode cX12_init 270 = .ok (.aload_n 0, 1) := by decide +kernel
theorem dX12_init_271 : decode cX12_init 271 = .ok (.getfield 47, 3) := by decide +kernel
theorem dX12_init_274 : decode cX12_init 274 = .ok (.bipush 9, 2) := by decide +kernel
theorem dX12_init_276 : decode cX12_init 276 = .ok (.ldc2_w 120, 3) := by decide +kernel
theorem dX12_init_279 : decode cX12_init 279 = .ok (.lastore, 1) := by decide +kernel
theorem dX12_init_280 : decode cX12_init 280 = .ok (.aload_n 0, 1) := by decide +kernel
theorem dX12_init_281 : decode cX12_init 281 = .ok (.getfield 47, 3) := by decide +kernel
theorem dX12_init_284 : decode cX12_init 284 = .ok (.bipush 10, 2) := by decide +kernel
theorem dX12_init_286 : decode cX12_init 286 = .ok (.ldc2_w 122, 3) := by decide +kernel
theorem dX12_init_289 : decode cX12_init 289 = .ok (.lastore, 1) := by decide +kernel
theorem dX12_init_290 : decode cX12_init 290 = .ok (.aload_n 0, 1) := by decide +kernel
theorem dX12_init_291 : decode cX12_init 291 = .ok (.getfield 47, 3) := by decide +kernel
theorem dX12_init_294 : decode cX12_init 294 = .ok (.bipush 11, 2) := by decide +kernel
theorem dX12_init_296 : decode cX12_init 296 = .ok (.ldc2_w 124, 3) := by decide +kernel
theorem dX12_init_299 : decode cX12_init 299 = .ok (.lastore, 1) := by decide +kernel
theorem dX12_init_300 : decode cX12_init 300 = .ok (.aload_n 0, 1) := by decide +kernel
theorem dX12_init_301 : decode cX12_init 301 = .ok (.getfield 47, 3) := by decide +kernel
theorem dX12_init_304 : decode cX12_init 304 = .ok (.bipush 12, 2) := by decide +kernel
theorem dX12_init_306 : decode cX12_init 306 = .ok (.ldc2_w 126, 3) := by decide +kernel
theorem dX12_init_309 : decode cX12_init 309 = .ok (.lastore, 1) := by decide +kernel
theorem dX12_init_310 : decode cX12_init 310 = .ok (.aload_n 0, 1) := by decide +kernel
theorem dX12_init_311 : decode cX12_init 311 = .ok (.getfield 47, 3) := by decide +kernel
theorem dX12_init_314 : decode cX12_init 314 = .ok (.bipush 13, 2) := by decide +kernel
theorem dX12_init_316 : decode cX12_init 316 = .ok (.ldc2_w 128, 3) := by decide +kernel
theorem dX12_init_319 : decode cX12_init 319 = .ok (.lastore, 1) := by decide +kernel
theorem dX12_init_320 : decode cX12_init 320 = .ok (.aload_n 0, 1) := by decide +kernel
theorem dX12_init_321 : decode cX12_init 321 = .ok (.getfield 47, 3) := by decide +kernel
theorem dX12_init_324 : decode cX12_init 324 = .ok (.bipush 14, 2) := by decide +kernel
theorem dX12_init_326 : decode cX12_init 326 = .ok (.ldc2_w 130, 3) := by decide +kernel
theorem dX12_init_329 : decode cX12_init 329 = .ok (.lastore, 1) := by decide +kernel
theorem dX12_init_330 : decode cX12_init 330 = .ok (.aload_n 0, 1) := by decide +kernel
theorem dX12_init_331 : decode cX12_init 331 = .ok (.getfield 47, 3) := by decide +kernel
theorem dX12_init_334 : decode cX12_init 334 = .ok (.bipush 15, 2) := by decide +kernel
theorem dX12_init_336 : decode cX12_init 336 = .ok (.ldc2_w 132, 3) := by decide +kernel
theorem dX12_init_339 : decode cX12_init 339 = .ok (.lastore, 1) := by decide +kernel
theorem dX12_init_340 : decode cX12_init 340 = .ok (.aload_n 0, 1) := by decide +kernel
theorem dX12_init_341 : decode cX12_init 341 = .ok (.getfield 47, 3) := by decide +kernel
theorem dX12_init_344 : decode cX12_init 344 = .ok (.bipush 16, 2) := by decide +kernel
theorem dX12_init_346 : decode cX12_init 346 = .ok (.ldc2_w 134, 3) := by decide +kernel
theorem dX12_init_349 : decode cX12_init 349 = .ok (.lastore, 1) := by decide +kernel
theorem dX12_init_350 : decode cX12_init 350 = .ok (.aload_n 0, 1) := by decide +kernel
theorem dX12_init_351 : decode cX12_init 351 = .ok (.getfield 47, 3) := by decide +kernel
theorem dX12_init_354 : decode cX12_init 354 = .ok (.bipush 17, 2) := by decide +kernel
theorem dX12_init_356 : decode cX12_init 356 = .ok (.ldc2_w 136, 3) := by decide +kernel
theorem dX12_init_359 : decode cX12_init 359 = .ok (.lastore, 1) := by decide +kernel
theorem dX12_init_360 : decode cX12_init 360 = .ok (.aload_n 0, 1) := by decide +kernel
theorem dX12_init_361 : decode cX12_init 361 = .ok (.getfield 47, 3) := by decide +kernel
theorem dX12_init_364 : decode cX12_init 364 = .ok (.bipush 18, 2) := by decide +kernel
theorem dX12_init_366 : decode cX12_init 366 = .ok (.ldc2_w 138, 3) := by decide +kernel
theorem dX12_init_369 : decode cX12_init 369 = .ok (.lastore, 1) := by decide +kernel
theorem dX12_init_370 : decode cX12_init 370 = .ok (.aload_n 0, 1) := by decide +kernel
theorem dX12_init_371 : decode cX12_init 371 = .ok (.getfield 47, 3) := by decide +kernel
theorem dX12_init_374 : decode cX12_init 374 = .ok (.bipush 19, 2) := by decide +kernel
theorem dX12_init_376 : decode cX12_init 376 = .ok (.ldc2_w 140, 3) := by decide +kernel
theorem dX12_init_379 : decode cX12_init 379 = .ok (.lastore, 1) := by decide +kernel
theorem dX12_init_380 : decode cX12_init 380 = .ok (.aload_n 0, 1) := by decide +kernel
theorem dX12_init_381 : decode cX12_init 381 = .ok (.getfield 47, 3) := by decide +kernel
theorem dX12_init_384 : decode cX12_init 384 = .ok (.bipush 20, 2) := by decide +kernel
theorem dX12_init_386 : decode cX12_init 386 = .ok (.ldc2_w 142, 3) := by decide +kernel
theorem dX12_init_389 : decode cX12_init 389 = .ok (.lastore, 1) := by decide +kernel
theorem dX12_init_390 : decode cX12_init 390 = .ok (.aload_n 0, 1) := by decide +kernel
theorem dX12_init_391 : decode cX12_init 391 = .ok (.getfield 47, 3) := by decide +kernel
theorem dX12_init_394 : decode cX12_init 394 = .ok (.bipush 21, 2) := by decide +kernel
theorem dX12_init_396 : decode cX12_init 396 = .ok (.ldc2_w 144, 3) := by decide +kernel
theorem dX12_init_399 : decode cX12_init 399 = .ok (.lastore, 1) := by decide +kernel
theorem dX12_init_400 : decode cX12_init 400 = .ok (.aload_n 0, 1) := by decide +kernel
theorem dX12_init_401 : decode cX12_init 401 = .ok (.getfield 47, 3) := by decide +kernel
theorem dX12_init_404 : decode cX12_init 404 = .ok (.bipush 22, 2) := by decide +kernel
theorem dX12_init_406 : decode cX12_init 406 = .ok (.ldc2_w 146, 3) := by decide +kernel
theorem dX12_init_409 : decode cX12_init 409 = .ok (.lastore, 1) := by decide +kernel
theorem dX12_init_410 : decode cX12_init 410 = .ok (.aload_n 0, 1) := by decide +kernel
theorem dX12_init_411 : decode cX12_init 411 = .ok (.getfield 47, 3) := by decide +kernel
theorem dX12_init_414 : decode cX12_init 414 = .ok (.bipush 23, 2) := by decide +kernel
theorem dX12_init_416 : decode cX12_init 416 = .ok (.ldc2_w 148, 3) := by decide +kernel
theorem dX12_init_419 : decode cX12_init 419 = .ok (.lastore, 1) := by decide +kernel
theorem dX12_init_420 : decode cX12_init 420 = .ok (.aload_n 0, 1) := by decide +kernel
theorem dX12_init_421 : decode cX12_init 421 = .ok (.getfield 47, 3) := by decide +kernel
theorem dX12_init_424 : decode cX12_init 424 = .ok (.bipush 24, 2) := by decide +kernel
theorem dX12_init_426 : decode cX12_init 426 = .ok (.ldc2_w 150, 3) := by decide +kernel
theorem dX12_init_429 : decode cX12_init 429 = .ok (.lastore, 1) := by decide +kernel
theorem dX12_init_430 : decode cX12_init 430 = .ok (.aload_n 0, 1) := by decide +kernel
theorem dX12_init_431 : decode cX12_init 431 = .ok (.getfield 47, 3) := by decide +kernel
theorem dX12_init_434 : decode cX12_init 434 = .ok (.bipush 25, 2) := by decide +kernel
theorem dX12_init_436 : decode cX12_init 436 = .ok (.ldc2_w 152, 3) := by decide +kernel
theorem dX12_init_439 : decode cX12_init 439 = .ok (.lastore, 1) := by decide +kernel
theorem dX12_init_440 : decode cX12_init 440 = .ok (.aload_n 0, 1) := by decide +kernel
theorem dX12_init_441 : decode cX12_init 441 = .ok (.getfield 47, 3) := by decide +kernel
theorem dX12_init_444 : decode cX12_init 444 = .ok (.bipush 26, 2) := by decide +kernel
theorem dX12_init_446 : decode cX12_init 446 = .ok (.ldc2_w 154, 3) := by decide +kernel
theorem dX12_init_449 : decode cX12_init 449 = .ok (.lastore, 1) := by decide +kernel
theorem dX12_init_450 : decode cX12_init 450 = .ok (.return_, 1) := by decide +kernel
set_option maxRecDepth 100000 in
set_option maxHeartbeats 4000000 in
theorem con_12 : bCon l D cys yX12_init cX12_init 1 1 12 21 2977 12 [.int 0, .null, .int 0, .int 0, .int 0, .int 0, .null, .null, .null, .null, .null, .int 0, .int 0, .int 0, .int 0, .int 0, .int 0, .long 0, .int 0, .int 0, .null, .null, .int 0, .null, .null, .null, .int 0, .int 0, .int 0, .int 0, .int 0, .int 0, .null, .int 0, .null, .null, .null, .int 0, .int 0, .int 0, .int 0, .int 0, .null, .int 0, .null, .int 0, .int 0, .int 0, .int 0, .int 0, .null, .null, .null, .null] 12 [12, 50, 49, 34, 35, 36, 19, 37, 38, 47, 39, 40, 20, 20, 41, 20, 42, 43, 44, 45, 109, 46] := by
  refine bw_enter (o := 12) (by decide) rfl rfl (by decide) ?_
  intro a p e s m below meth c ls hx hb hml hr hlk hts hown hT hin2 hl hA hB
  have hin : ∀ w ∈ wsL_law0, w ∈ Jvm.Cond.code yX12_init cX12_init 1 none :: wsL_law0 := fun w hw => List.mem_cons_of_mem _ hw
  have hK := hT.1
  refine lv_aload_n hx hb dX12_init_0 rfl (lv_at hl 0 rfl) ?_
  refine W.objInit hx hb hown (hts _ (hin _ (in_r11 _ (List.mem_of_getElem? (i := 15) rfl)))) (hts _ (hin _ (in_r1 _ (List.mem_of_getElem? (i := 11) rfl)))) (hts _ (hin _ (in_r1 _ (List.mem_of_getElem? (i := 12) rfl)))) rfl (by rw [hml]; exact hl.1) rfl dX12_init_1 (Nat.le_of_ble_eq_true rfl) (Nat.le_of_ble_eq_true rfl) ?_
  refine W.eq (g2 := F0 m 4 ls []) rfl ?_
  refine lv_aload_n hx hb dX12_init_4 rfl (lv_at hl 0 rfl) ?_
  refine lv_sipush (v := 940) hx hb dX12_init_5 (by decide) ?_
  refine bw_newa hx hb hK hA hB (ty := .byte) (hts _ (hin _ (in_r4 _ (List.mem_of_getElem? (i := 7) rfl)))) rfl 49 1 rfl (by decide) (by decide +kernel) rfl rfl (by decide) (by decide) (by decide) (Nat.le_of_ble_eq_true rfl) (Nat.le_of_ble_eq_true rfl) dX12_init_8 (fun q8 H hB => ?_)
  have hB : bS D cys (bA a s.heap.size) s.heap [(a, .inr (12, [.int 0, .null, .int 0, .int 0, .int 0, .int 0, .null, .null, .null, .null, .null, .int 0, .int 0, .int 0, .int 0, .int 0, .int 0, .long 0, .int 0, .int 0, .null, .null, .int 0, .null, .null, .null, .int 0, .int 0, .int 0, .int 0, .int 0, .int 0, .null, .int 0, .null, .null, .null, .int 0, .int 0, .int 0, .int 0, .int 0, .null, .int 0, .null, .int 0, .int 0, .int 0, .int 0, .int 0, .null, .null, .null, .null]))] [(q8, 49)] [49] _ _ := hB
  refine bw_put (v := .ref q8) (fty := (.array .byte)) hx hb hts hin hown hK hin2 hB rfl 1 (by decide) (in_r11 _ (List.mem_of_getElem? (i := 16) rfl)) rfl (by decide +kernel) rfl rfl (Nat.le_of_ble_eq_true rfl) dX12_init_10 (fun H locs hB => ?_)
  have hB : bS D cys (bA a s.heap.size) s.heap [(a, .inr (12, [.int 0, .ref q8, .int 0, .int 0, .int 0, .int 0, .null, .null, .null, .null, .null, .int 0, .int 0, .int 0, .int 0, .int 0, .int 0, .long 0, .int 0, .int 0, .null, .null, .int 0, .null, .null, .null, .int 0, .int 0, .int 0, .int 0, .int 0, .int 0, .null, .int 0, .null, .null, .null, .int 0, .int 0, .int 0, .int 0, .int 0, .null, .int 0, .null, .int 0, .int 0, .int 0, .int 0, .int 0, .null, .null, .null, .null]))] [(q8, 49)] [49] _ _ := hB
  refine lv_aload_n hx hb dX12_init_13 rfl (lv_at hl 0 rfl) ?_
  refine lv_sipush (v := 367) hx hb dX12_init_14 (by decide) ?_
  refine bw_newa hx hb hK hA hB (ty := .int) (hts _ (hin _ (in_r3 _ (List.mem_of_getElem? (i := 5) rfl)))) rfl 34 0 rfl (by decide) (by decide +kernel) rfl rfl (by decide) (by decide) (by decide) (Nat.le_of_ble_eq_true rfl) (Nat.le_of_ble_eq_true rfl) dX12_init_17 (fun q17 H hB => ?_)
  have hB : bS D cys (bA a s.heap.size) s.heap [(a, .inr (12, [.int 0, .ref q8, .int 0, .int 0, .int 0, .int 0, .null, .null, .null, .null, .null, .int 0, .int 0, .int 0, .int 0, .int 0, .int 0, .long 0, .int 0, .int 0, .null, .null, .int 0, .null, .null, .null, .int 0, .int 0, .int 0, .int 0, .int 0, .int 0, .null, .int 0, .null, .null, .null, .int 0, .int 0, .int 0, .int 0, .int 0, .null, .int 0, .null, .int 0, .int 0, .int 0, .int 0, .int 0, .null, .null, .null, .null]))] [(q17, 34), (q8, 49)] [49, 34] _ _ := hB
  refine bw_put (v := .ref q17) (fty := (.array .int)) hx hb hts hin hown hK hin2 hB rfl 6 (by decide) (in_r11 _ (List.mem_of_getElem? (i := 17) rfl)) rfl (by decide +kernel) rfl rfl (Nat.le_of_ble_eq_true rfl) dX12_init_19 (fun H locs hB => ?_)
  have hB : bS D cys (bA a s.heap.size) s.heap [(a, .inr (12, [.int 0, .ref q8, .int 0, .int 0, .int 0, .int 0, .ref q17, .null, .null, .null, .null, .int 0, .int 0, .int 0, .int 0, .int 0, .int 0, .long 0, .int 0, .int 0, .null, .null, .int 0, .null, .null, .null, .int 0, .int 0, .int 0, .int 0, .int 0, .int 0, .null, .int 0, .null, .null, .null, .int 0, .int 0, .int 0, .int 0, .int 0, .null, .int 0, .null, .int 0, .int 0, .int 0, .int 0, .int 0, .null, .null, .null, .null]))] [(q17, 34), (q8, 49)] [49, 34] _ _ := hB
  refine lv_aload_n hx hb dX12_init_22 rfl (lv_at hl 0 rfl) ?_
  refine lv_sipush (v := 140) hx hb dX12_init_23 (by decide) ?_
  refine bw_newa hx hb hK hA hB (ty := .int) (hts _ (hin _ (in_r3 _ (List.mem_of_getElem? (i := 5) rfl)))) rfl 35 0 rfl (by decide) (by decide +kernel) rfl rfl (by decide) (by decide) (by decide) (Nat.le_of_ble_eq_true rfl) (Nat.le_of_ble_eq_true rfl) dX12_init_26 (fun q26 H hB => ?_)
  have hB : bS D cys (bA a s.heap.size) s.heap [(a, .inr (12, [.int 0, .ref q8, .int 0, .int 0, .int 0, .int 0, .ref q17, .null, .null, .null, .null, .int 0, .int 0, .int 0, .int 0, .int 0, .int 0, .long 0, .int 0, .int 0, .null, .null, .int 0, .null, .null, .null, .int 0, .int 0, .int 0, .int 0, .int 0, .int 0, .null, .int 0, .null, .null, .null, .int 0, .int 0, .int 0, .int 0, .int 0, .null, .int 0, .null, .int 0, .int 0, .int 0, .int 0, .int 0, .null, .null, .null, .null]))] [(q26, 35), (q17, 34), (q8, 49)] [49, 34, 35] _ _ := hB
  refine bw_put (v := .ref q26) (fty := (.array .int)) hx hb hts hin hown hK hin2 hB rfl 7 (by decide) (in_r11 _ (List.mem_of_getElem? (i := 18) rfl)) rfl (by decide +kernel) rfl rfl (Nat.le_of_ble_eq_true rfl) dX12_init_28 (fun H locs hB => ?_)
  have hB : bS D cys (bA a s.heap.size) s.heap [(a, .inr (12, [.int 0, .ref q8, .int 0, .int 0, .int 0, .int 0, .ref q17, .ref q26, .null, .null, .null, .int 0, .int 0, .int 0, .int 0, .int 0, .int 0, .long 0, .int 0, .int 0, .null, .null, .int 0, .null, .null, .null, .int 0, .int 0, .int 0, .int 0, .int 0, .int 0, .null, .int 0, .null, .null, .null, .int 0, .int 0, .int 0, .int 0, .int 0, .null, .int 0, .null, .int 0, .int 0, .int 0, .int 0, .int 0, .null, .null, .null, .null]))] [(q26, 35), (q17, 34), (q8, 49)] [49, 34, 35] _ _ := hB
  refine lv_aload_n hx hb dX12_init_31 rfl (lv_at hl 0 rfl) ?_
  refine lv_sipush (v := 135) hx hb dX12_init_32 (by decide) ?_
  refine bw_newa hx hb hK hA hB (ty := .int) (hts _ (hin _ (in_r3 _ (List.mem_of_getElem? (i := 5) rfl)))) rfl 36 0 rfl (by decide) (by decide +kernel) rfl rfl (by decide) (by decide) (by decide) (Nat.le_of_ble_eq_true rfl) (Nat.le_of_ble_eq_true rfl) dX12_init_35 (fun q35 H hB => ?_)
  have hB : bS D cys (bA a s.heap.size) s.heap [(a, .inr (12, [.int 0, .ref q8, .int 0, .int 0, .int 0, .int 0, .ref q17, .ref q26, .null, .null, .null, .int 0, .int 0, .int 0, .int 0, .int 0, .int 0, .long 0, .int 0, .int 0, .null, .null, .int 0, .null, .null, .null, .int 0, .int 0, .int 0, .int 0, .int 0, .int 0, .null, .int 0, .null, .null, .null, .int 0, .int 0, .int 0, .int 0, .int 0, .null, .int 0, .null, .int 0, .int 0, .int 0, .int 0, .int 0, .null, .null, .null, .null]))] [(q35, 36), (q26, 35), (q17, 34), (q8, 49)] [49, 34, 35, 36] _ _ := hB
  refine bw_put (v := .ref q35) (fty := (.array .int)) hx hb hts hin hown hK hin2 hB rfl 8 (by decide) (in_r11 _ (List.mem_of_getElem? (i := 19) rfl)) rfl (by decide +kernel) rfl rfl (Nat.le_of_ble_eq_true rfl) dX12_init_37 (fun H locs hB => ?_)
  have hB : bS D cys (bA a s.heap.size) s.heap [(a, .inr (12, [.int 0, .ref q8, .int 0, .int 0, .int 0, .int 0, .ref q17, .ref q26, .ref q35, .null, .null, .int 0, .int 0, .int 0, .int 0, .int 0, .int 0, .long 0, .int 0, .int 0, .null, .null, .int 0, .null, .null, .null, .int 0, .int 0, .int 0, .int 0, .int 0, .int 0, .null, .int 0, .null, .null, .null, .int 0, .int 0, .int 0, .int 0, .int 0, .null, .int 0, .null, .int 0, .int 0, .int 0, .int 0, .int 0, .null, .null, .null, .null]))] [(q35, 36), (q26, 35), (q17, 34), (q8, 49)] [49, 34, 35, 36] _ _ := hB
  refine lv_aload_n hx hb dX12_init_40 rfl (lv_at hl 0 rfl) ?_
  refine lv_bipush (v := 40) hx hb dX12_init_41 (by decide) ?_
  refine bw_newl hx hb hK hA hB (hts _ (hin _ (in_r1 _ (List.mem_of_getElem? (i := 6) rfl)))) 19 rfl (by decide +kernel) (by decide) (by decide) (by decide) (by decide) (Nat.le_of_ble_eq_true rfl) (Nat.le_of_ble_eq_true rfl) dX12_init_43 (fun q43 H hB => ?_)
  have hB : bS D cys (bA a s.heap.size) s.heap [(a, .inr (12, [.int 0, .ref q8, .int 0, .int 0, .int 0, .int 0, .ref q17, .ref q26, .ref q35, .null, .null, .int 0, .int 0, .int 0, .int 0, .int 0, .int 0, .long 0, .int 0, .int 0, .null, .null, .int 0, .null, .null, .null, .int 0, .int 0, .int 0, .int 0, .int 0, .int 0, .null, .int 0, .null, .null, .null, .int 0, .int 0, .int 0, .int 0, .int 0, .null, .int 0, .null, .int 0, .int 0, .int 0, .int 0, .int 0, .null, .null, .null, .null]))] [(q43, 19), (q35, 36), (q26, 35), (q17, 34), (q8, 49)] [49, 34, 35, 36, 19] _ _ := hB
  refine bw_put (v := .ref q43) (fty := (.array .long)) hx hb hts hin hown hK hin2 hB rfl 9 (by decide) (in_r11 _ (List.mem_of_getElem? (i := 20) rfl)) rfl (by decide +kernel) rfl rfl (Nat.le_of_ble_eq_true rfl) dX12_init_45 (fun H locs hB => ?_)
  have hB : bS D cys (bA a s.heap.size) s.heap [(a, .inr (12, [.int 0, .ref q8, .int 0, .int 0, .int 0, .int 0, .ref q17, .ref q26, .ref q35, .ref q43, .null, .int 0, .int 0, .int 0, .int 0, .int 0, .int 0, .long 0, .int 0, .int 0, .null, .null, .int 0, .null, .null, .null, .int 0, .int 0, .int 0, .int 0, .int 0, .int 0, .null, .int 0, .null, .null, .null, .int 0, .int 0, .int 0, .int 0, .int 0, .null, .int 0, .null, .int 0, .int 0, .int 0, .int 0, .int 0, .null, .null, .null, .null]))] [(q43, 19), (q35, 36), (q26, 35), (q17, 34), (q8, 49)] [49, 34, 35, 36, 19] _ _ := hB
  refine lv_aload_n hx hb dX12_init_48 rfl (lv_at hl 0 rfl) ?_
  refine lv_bipush (v := 27) hx hb dX12_init_49 (by decide) ?_
  refine bp_new (N' := 27) hx hb hK hA hB (hts _ (hin _ (in_r1 _ (List.mem_of_getElem? (i := 6) rfl)))) (by decide) (by decide) (by decide) (Nat.le_of_ble_eq_true rfl) (Nat.le_of_ble_eq_true rfl) dX12_init_51 (fun q51 H hB => ?_)
  have hB : bS D cys (bA a s.heap.size) s.heap [(a, .inr (12, [.int 0, .ref q8, .int 0, .int 0, .int 0, .int 0, .ref q17, .ref q26, .ref q35, .ref q43, .null, .int 0, .int 0, .int 0, .int 0, .int 0, .int 0, .long 0, .int 0, .int 0, .null, .null, .int 0, .null, .null, .null, .int 0, .int 0, .int 0, .int 0, .int 0, .int 0, .null, .int 0, .null, .null, .null, .int 0, .int 0, .int 0, .int 0, .int 0, .null, .int 0, .null, .int 0, .int 0, .int 0, .int 0, .int 0, .null, .null, .null, .null])), (q51, .inl (cys 3, 27, .inr (.inl (fun _ => 0))))] [(q43, 19), (q35, 36), (q26, 35), (q17, 34), (q8, 49)] [49, 34, 35, 36, 19] _ _ := hB
  refine bw_put (v := .ref q51) (fty := (.array .long)) hx hb hts hin hown hK hin2 hB rfl 10 (by decide) (in_r11 _ (List.mem_of_getElem? (i := 21) rfl)) rfl (by decide +kernel) rfl rfl (Nat.le_of_ble_eq_true rfl) dX12_init_53 (fun H locs hB => ?_)
  have hB : bS D cys (bA a s.heap.size) s.heap [(a, .inr (12, [.int 0, .ref q8, .int 0, .int 0, .int 0, .int 0, .ref q17, .ref q26, .ref q35, .ref q43, .ref q51, .int 0, .int 0, .int 0, .int 0, .int 0, .int 0, .long 0, .int 0, .int 0, .null, .null, .int 0, .null, .null, .null, .int 0, .int 0, .int 0, .int 0, .int 0, .int 0, .null, .int 0, .null, .null, .null, .int 0, .int 0, .int 0, .int 0, .int 0, .null, .int 0, .null, .int 0, .int 0, .int 0, .int 0, .int 0, .null, .null, .null, .null])), (q51, .inl (cys 3, 27, .inr (.inl (fun _ => 0))))] [(q43, 19), (q35, 36), (q26, 35), (q17, 34), (q8, 49)] [49, 34, 35, 36, 19] _ _ := hB
  refine lv_aload_n hx hb dX12_init_56 rfl (lv_at hl 0 rfl) ?_
  refine lv_sipush (v := 368) hx hb dX12_init_57 (by decide) ?_
  refine bw_newa hx hb hK hA hB (ty := .int) (hts _ (hin _ (in_r3 _ (List.mem_of_getElem? (i := 5) rfl)))) rfl 37 0 rfl (by decide) (by decide +kernel) rfl rfl (by decide) (by decide) (by decide) (Nat.le_of_ble_eq_true rfl) (Nat.le_of_ble_eq_true rfl) dX12_init_60 (fun q60 H hB => ?_)
  have hB : bS D cys (bA a s.heap.size) s.heap [(a, .inr (12, [.int 0, .ref q8, .int 0, .int 0, .int 0, .int 0, .ref q17, .ref q26, .ref q35, .ref q43, .ref q51, .int 0, .int 0, .int 0, .int 0, .int 0, .int 0, .long 0, .int 0, .int 0, .null, .null, .int 0, .null, .null, .null, .int 0, .int 0, .int 0, .int 0, .int 0, .int 0, .null, .int 0, .null, .null, .null, .int 0, .int 0, .int 0, .int 0, .int 0, .null, .int 0, .null, .int 0, .int 0, .int 0, .int 0, .int 0, .null, .null, .null, .null])), (q51, .inl (cys 3, 27, .inr (.inl (fun _ => 0))))] [(q60, 37), (q43, 19), (q35, 36), (q26, 35), (q17, 34), (q8, 49)] [49, 34, 35, 36, 19, 37] _ _ := hB
  refine bw_put (v := .ref q60) (fty := (.array .int)) hx hb hts hin hown hK hin2 hB rfl 20 (by decide) (in_r11 _ (List.mem_of_getElem? (i := 22) rfl)) rfl (by decide +kernel) rfl rfl (Nat.le_of_ble_eq_true rfl) dX12_init_62 (fun H locs hB => ?_)
  have hB : bS D cys (bA a s.heap.size) s.heap [(a, .inr (12, [.int 0, .ref q8, .int 0, .int 0, .int 0, .int 0, .ref q17, .ref q26, .ref q35, .ref q43, .ref q51, .int 0, .int 0, .int 0, .int 0, .int 0, .int 0, .long 0, .int 0, .int 0, .ref q60, .null, .int 0, .null, .null, .null, .int 0, .int 0, .int 0, .int 0, .int 0, .int 0, .null, .int 0, .null, .null, .null, .int 0, .int 0, .int 0, .int 0, .int 0, .null, .int 0, .null, .int 0, .int 0, .int 0, .int 0, .int 0, .null, .null, .null, .null])), (q51, .inl (cys 3, 27, .inr (.inl (fun _ => 0))))] [(q60, 37), (q43, 19), (q35, 36), (q26, 35), (q17, 34), (q8, 49)] [49, 34, 35, 36, 19, 37] _ _ := hB
  refine lv_aload_n hx hb dX12_init_65 rfl (lv_at hl 0 rfl) ?_
  refine lv_bipush (v := 46) hx hb dX12_init_66 (by decide) ?_
  refine bw_newa hx hb hK hA hB (ty := .int) (hts _ (hin _ (in_r3 _ (List.mem_of_getElem? (i := 5) rfl)))) rfl 38 0 rfl (by decide) (by decide +kernel) rfl rfl (by decide) (by decide) (by decide) (Nat.le_of_ble_eq_true rfl) (Nat.le_of_ble_eq_true rfl) dX12_init_68 (fun q68 H hB => ?_)
  have hB : bS D cys (bA a s.heap.size) s.heap [(a, .inr (12, [.int 0, .ref q8, .int 0, .int 0, .int 0, .int 0, .ref q17, .ref q26, .ref q35, .ref q43, .ref q51, .int 0, .int 0, .int 0, .int 0, .int 0, .int 0, .long 0, .int 0, .int 0, .ref q60, .null, .int 0, .null, .null, .null, .int 0, .int 0, .int 0, .int 0, .int 0, .int 0, .null, .int 0, .null, .null, .null, .int 0, .int 0, .int 0, .int 0, .int 0, .null, .int 0, .null, .int 0, .int 0, .int 0, .int 0, .int 0, .null, .null, .null, .null])), (q51, .inl (cys 3, 27, .inr (.inl (fun _ => 0))))] [(q68, 38), (q60, 37), (q43, 19), (q35, 36), (q26, 35), (q17, 34), (q8, 49)] [49, 34, 35, 36, 19, 37, 38] _ _ := hB
  refine bw_put (v := .ref q68) (fty := (.array .int)) hx hb hts hin hown hK hin2 hB rfl 21 (by decide) (in_r11 _ (List.mem_of_getElem? (i := 23) rfl)) rfl (by decide +kernel) rfl rfl (Nat.le_of_ble_eq_true rfl) dX12_init_70 (fun H locs hB => ?_)
  have hB : bS D cys (bA a s.heap.size) s.heap [(a, .inr (12, [.int 0, .ref q8, .int 0, .int 0, .int 0, .int 0, .ref q17, .ref q26, .ref q35, .ref q43, .ref q51, .int 0, .int 0, .int 0, .int 0, .int 0, .int 0, .long 0, .int 0, .int 0, .ref q60, .ref q68, .int 0, .null, .null, .null, .int 0, .int 0, .int 0, .int 0, .int 0, .int 0, .null, .int 0, .null, .null, .null, .int 0, .int 0, .int 0, .int 0, .int 0, .null, .int 0, .null, .int 0, .int 0, .int 0, .int 0, .int 0, .null, .null, .null, .null])), (q51, .inl (cys 3, 27, .inr (.inl (fun _ => 0))))] [(q68, 38), (q60, 37), (q43, 19), (q35, 36), (q26, 35), (q17, 34), (q8, 49)] [49, 34, 35, 36, 19, 37, 38] _ _ := hB
  refine lv_aload_n hx hb dX12_init_73 rfl (lv_at hl 0 rfl) ?_
  refine lv_bipush (v := 6) hx hb dX12_init_74 (by decide) ?_
  refine bw_newa hx hb hK hA hB (ty := .int) (hts _ (hin _ (in_r3 _ (List.mem_of_getElem? (i := 5) rfl)))) rfl 47 0 rfl (by decide) (by decide +kernel) rfl rfl (by decide) (by decide) (by decide) (Nat.le_of_ble_eq_true rfl) (Nat.le_of_ble_eq_true rfl) dX12_init_76 (fun q76 H hB => ?_)
  have hB : bS D cys (bA a s.heap.size) s.heap [(a, .inr (12, [.int 0, .ref q8, .int 0, .int 0, .int 0, .int 0, .ref q17, .ref q26, .ref q35, .ref q43, .ref q51, .int 0, .int 0, .int 0, .int 0, .int 0, .int 0, .long 0, .int 0, .int 0, .ref q60, .ref q68, .int 0, .null, .null, .null, .int 0, .int 0, .int 0, .int 0, .int 0, .int 0, .null, .int 0, .null, .null, .null, .int 0, .int 0, .int 0, .int 0, .int 0, .null, .int 0, .null, .int 0, .int 0, .int 0, .int 0, .int 0, .null, .null, .null, .null])), (q51, .inl (cys 3, 27, .inr (.inl (fun _ => 0))))] [(q76, 47), (q68, 38), (q60, 37), (q43, 19), (q35, 36), (q26, 35), (q17, 34), (q8, 49)] [49, 34, 35, 36, 19, 37, 38, 47] _ _ := hB
  refine bw_put (v := .ref q76) (fty := (.array .int)) hx hb hts hin hown hK hin2 hB rfl 23 (by decide) (in_r12 _ (List.mem_of_getElem? (i := 0) rfl)) rfl (by decide +kernel) rfl rfl (Nat.le_of_ble_eq_true rfl) dX12_init_78 (fun H locs hB => ?_)
  have hB : bS D cys (bA a s.heap.size) s.heap [(a, .inr (12, [.int 0, .ref q8, .int 0, .int 0, .int 0, .int 0, .ref q17, .ref q26, .ref q35, .ref q43, .ref q51, .int 0, .int 0, .int 0, .int 0, .int 0, .int 0, .long 0, .int 0, .int 0, .ref q60, .ref q68, .int 0, .ref q76, .null, .null, .int 0, .int 0, .int 0, .int 0, .int 0, .int 0, .null, .int 0, .null, .null, .null, .int 0, .int 0, .int 0, .int 0, .int 0, .null, .int 0, .null, .int 0, .int 0, .int 0, .int 0, .int 0, .null, .null, .null, .null])), (q51, .inl (cys 3, 27, .inr (.inl (fun _ => 0))))] [(q76, 47), (q68, 38), (q60, 37), (q43, 19), (q35, 36), (q26, 35), (q17, 34), (q8, 49)] [49, 34, 35, 36, 19, 37, 38, 47] _ _ := hB
  refine lv_aload_n hx hb dX12_init_81 rfl (lv_at hl 0 rfl) ?_
  refine lv_bipush (v := 6) hx hb dX12_init_82 (by decide) ?_
  refine bw_newa hx hb hK hA hB (ty := .int) (hts _ (hin _ (in_r3 _ (List.mem_of_getElem? (i := 5) rfl)))) rfl 39 0 rfl (by decide) (by decide +kernel) rfl rfl (by decide) (by decide) (by decide) (Nat.le_of_ble_eq_true rfl) (Nat.le_of_ble_eq_true rfl) dX12_init_84 (fun q84 H hB => ?_)
  have hB : bS D cys (bA a s.heap.size) s.heap [(a, .inr (12, [.int 0, .ref q8, .int 0, .int 0, .int 0, .int 0, .ref q17, .ref q26, .ref q35, .ref q43, .ref q51, .int 0, .int 0, .int 0, .int 0, .int 0, .int 0, .long 0, .int 0, .int 0, .ref q60, .ref q68, .int 0, .ref q76, .null, .null, .int 0, .int 0, .int 0, .int 0, .int 0, .int 0, .null, .int 0, .null, .null, .null, .int 0, .int 0, .int 0, .int 0, .int 0, .null, .int 0, .null, .int 0, .int 0, .int 0, .int 0, .int 0, .null, .null, .null, .null])), (q51, .inl (cys 3, 27, .inr (.inl (fun _ => 0))))] [(q84, 39), (q76, 47), (q68, 38), (q60, 37), (q43, 19), (q35, 36), (q26, 35), (q17, 34), (q8, 49)] [49, 34, 35, 36, 19, 37, 38, 47, 39] _ _ := hB
  refine bw_put (v := .ref q84) (fty := (.array .int)) hx hb hts hin hown hK hin2 hB rfl 24 (by decide) (in_r12 _ (List.mem_of_getElem? (i := 1) rfl)) rfl (by decide +kernel) rfl rfl (Nat.le_of_ble_eq_true rfl) dX12_init_86 (fun H locs hB => ?_)
  have hB : bS D cys (bA a s.heap.size) s.heap [(a, .inr (12, [.int 0, .ref q8, .int 0, .int 0, .int 0, .int 0, .ref q17, .ref q26, .ref q35, .ref q43, .ref q51, .int 0, .int 0, .int 0, .int 0, .int 0, .int 0, .long 0, .int 0, .int 0, .ref q60, .ref q68, .int 0, .ref q76, .ref q84, .null, .int 0, .int 0, .int 0, .int 0, .int 0, .int 0, .null, .int 0, .null, .null, .null, .int 0, .int 0, .int 0, .int 0, .int 0, .null, .int 0, .null, .int 0, .int 0, .int 0, .int 0, .int 0, .null, .null, .null, .null])), (q51, .inl (cys 3, 27, .inr (.inl (fun _ => 0))))] [(q84, 39), (q76, 47), (q68, 38), (q60, 37), (q43, 19), (q35, 36), (q26, 35), (q17, 34), (q8, 49)] [49, 34, 35, 36, 19, 37, 38, 47, 39] _ _ := hB
  refine lv_aload_n hx hb dX12_init_89 rfl (lv_at hl 0 rfl) ?_
  refine lv_bipush (v := 6) hx hb dX12_init_90 (by decide) ?_
  refine bw_newa hx hb hK hA hB (ty := .int) (hts _ (hin _ (in_r3 _ (List.mem_of_getElem? (i := 5) rfl)))) rfl 40 0 rfl (by decide) (by decide +kernel) rfl rfl (by decide) (by decide) (by decide) (Nat.le_of_ble_eq_true rfl) (Nat.le_of_ble_eq_true rfl) dX12_init_92 (fun q92 H hB => ?_)
  have hB : bS D cys (bA a s.heap.size) s.heap [(a, .inr (12, [.int 0, .ref q8, .int 0, .int 0, .int 0, .int 0, .ref q17, .ref q26, .ref q35, .ref q43, .ref q51, .int 0, .int 0, .int 0, .int 0, .int 0, .int 0, .long 0, .int 0, .int 0, .ref q60, .ref q68, .int 0, .ref q76, .ref q84, .null, .int 0, .int 0, .int 0, .int 0, .int 0, .int 0, .null, .int 0, .null, .null, .null, .int 0, .int 0, .int 0, .int 0, .int 0, .null, .int 0, .null, .int 0, .int 0, .int 0, .int 0, .int 0, .null, .null, .null, .null])), (q51, .inl (cys 3, 27, .inr (.inl (fun _ => 0))))] [(q92, 40), (q84, 39), (q76, 47), (q68, 38), (q60, 37), (q43, 19), (q35, 36), (q26, 35), (q17, 34), (q8, 49)] [49, 34, 35, 36, 19, 37, 38, 47, 39, 40] _ _ := hB
  refine bw_put (v := .ref q92) (fty := (.array .int)) hx hb hts hin hown hK hin2 hB rfl 25 (by decide) (in_r12 _ (List.mem_of_getElem? (i := 2) rfl)) rfl (by decide +kernel) rfl rfl (Nat.le_of_ble_eq_true rfl) dX12_init_94 (fun H locs hB => ?_)
  have hB : bS D cys (bA a s.heap.size) s.heap [(a, .inr (12, [.int 0, .ref q8, .int 0, .int 0, .int 0, .int 0, .ref q17, .ref q26, .ref q35, .ref q43, .ref q51, .int 0, .int 0, .int 0, .int 0, .int 0, .int 0, .long 0, .int 0, .int 0, .ref q60, .ref q68, .int 0, .ref q76, .ref q84, .ref q92, .int 0, .int 0, .int 0, .int 0, .int 0, .int 0, .null, .int 0, .null, .null, .null, .int 0, .int 0, .int 0, .int 0, .int 0, .null, .int 0, .null, .int 0, .int 0, .int 0, .int 0, .int 0, .null, .null, .null, .null])), (q51, .inl (cys 3, 27, .inr (.inl (fun _ => 0))))] [(q92, 40), (q84, 39), (q76, 47), (q68, 38), (q60, 37), (q43, 19), (q35, 36), (q26, 35), (q17, 34), (q8, 49)] [49, 34, 35, 36, 19, 37, 38, 47, 39, 40] _ _ := hB
  refine lv_aload_n hx hb dX12_init_97 rfl (lv_at hl 0 rfl) ?_
  refine lv_bipush (v := 6) hx hb dX12_init_98 (by decide) ?_
  refine bw_newa hx hb hK hA hB (ty := .int) (hts _ (hin _ (in_r3 _ (List.mem_of_getElem? (i := 5) rfl)))) rfl 20 0 rfl (by decide) (by decide +kernel) rfl rfl (by decide) (by decide) (by decide) (Nat.le_of_ble_eq_true rfl) (Nat.le_of_ble_eq_true rfl) dX12_init_100 (fun q100 H hB => ?_)
  have hB : bS D cys (bA a s.heap.size) s.heap [(a, .inr (12, [.int 0, .ref q8, .int 0, .int 0, .int 0, .int 0, .ref q17, .ref q26, .ref q35, .ref q43, .ref q51, .int 0, .int 0, .int 0, .int 0, .int 0, .int 0, .long 0, .int 0, .int 0, .ref q60, .ref q68, .int 0, .ref q76, .ref q84, .ref q92, .int 0, .int 0, .int 0, .int 0, .int 0, .int 0, .null, .int 0, .null, .null, .null, .int 0, .int 0, .int 0, .int 0, .int 0, .null, .int 0, .null, .int 0, .int 0, .int 0, .int 0, .int 0, .null, .null, .null, .null])), (q51, .inl (cys 3, 27, .inr (.inl (fun _ => 0))))] [(q100, 20), (q92, 40), (q84, 39), (q76, 47), (q68, 38), (q60, 37), (q43, 19), (q35, 36), (q26, 35), (q17, 34), (q8, 49)] [49, 34, 35, 36, 19, 37, 38, 47, 39, 40, 20] _ _ := hB
  refine bw_put (v := .ref q100) (fty := (.array .int)) hx hb hts hin hown hK hin2 hB rfl 32 (by decide) (in_r12 _ (List.mem_of_getElem? (i := 3) rfl)) rfl (by decide +kernel) rfl rfl (Nat.le_of_ble_eq_true rfl) dX12_init_102 (fun H locs hB => ?_)
  have hB : bS D cys (bA a s.heap.size) s.heap [(a, .inr (12, [.int 0, .ref q8, .int 0, .int 0, .int 0, .int 0, .ref q17, .ref q26, .ref q35, .ref q43, .ref q51, .int 0, .int 0, .int 0, .int 0, .int 0, .int 0, .long 0, .int 0, .int 0, .ref q60, .ref q68, .int 0, .ref q76, .ref q84, .ref q92, .int 0, .int 0, .int 0, .int 0, .int 0, .int 0, .ref q100, .int 0, .null, .null, .null, .int 0, .int 0, .int 0, .int 0, .int 0, .null, .int 0, .null, .int 0, .int 0, .int 0, .int 0, .int 0, .null, .null, .null, .null])), (q51, .inl (cys 3, 27, .inr (.inl (fun _ => 0))))] [(q100, 20), (q92, 40), (q84, 39), (q76, 47), (q68, 38), (q60, 37), (q43, 19), (q35, 36), (q26, 35), (q17, 34), (q8, 49)] [49, 34, 35, 36, 19, 37, 38, 47, 39, 40, 20] _ _ := hB
  refine lv_aload_n hx hb dX12_init_105 rfl (lv_at hl 0 rfl) ?_
  refine lv_iconst (v := (-1)) hx hb dX12_init_106 (by decide) ?_
  refine bw_put (v := .int (-1)) (fty := (.int)) hx hb hts hin hown hK hin2 hB rfl 33 (by decide) (in_r12 _ (List.mem_of_getElem? (i := 4) rfl)) rfl (by decide +kernel) rfl rfl (Nat.le_of_ble_eq_true rfl) dX12_init_107 (fun H locs hB => ?_)
  have hB : bS D cys (bA a s.heap.size) s.heap [(a, .inr (12, [.int 0, .ref q8, .int 0, .int 0, .int 0, .int 0, .ref q17, .ref q26, .ref q35, .ref q43, .ref q51, .int 0, .int 0, .int 0, .int 0, .int 0, .int 0, .long 0, .int 0, .int 0, .ref q60, .ref q68, .int 0, .ref q76, .ref q84, .ref q92, .int 0, .int 0, .int 0, .int 0, .int 0, .int 0, .ref q100, .int (-1), .null, .null, .null, .int 0, .int 0, .int 0, .int 0, .int 0, .null, .int 0, .null, .int 0, .int 0, .int 0, .int 0, .int 0, .null, .null, .null, .null])), (q51, .inl (cys 3, 27, .inr (.inl (fun _ => 0))))] [(q100, 20), (q92, 40), (q84, 39), (q76, 47), (q68, 38), (q60, 37), (q43, 19), (q35, 36), (q26, 35), (q17, 34), (q8, 49)] [49, 34, 35, 36, 19, 37, 38, 47, 39, 40, 20] _ _ := hB
  refine lv_aload_n hx hb dX12_init_110 rfl (lv_at hl 0 rfl) ?_
  refine lv_bipush (v := 6) hx hb dX12_init_111 (by decide) ?_
  refine bw_newa hx hb hK hA hB (ty := .int) (hts _ (hin _ (in_r3 _ (List.mem_of_getElem? (i := 5) rfl)))) rfl 20 0 rfl (by decide) (by decide +kernel) rfl rfl (by decide) (by decide) (by decide) (Nat.le_of_ble_eq_true rfl) (Nat.le_of_ble_eq_true rfl) dX12_init_113 (fun q113 H hB => ?_)
  have hB : bS D cys (bA a s.heap.size) s.heap [(a, .inr (12, [.int 0, .ref q8, .int 0, .int 0, .int 0, .int 0, .ref q17, .ref q26, .ref q35, .ref q43, .ref q51, .int 0, .int 0, .int 0, .int 0, .int 0, .int 0, .long 0, .int 0, .int 0, .ref q60, .ref q68, .int 0, .ref q76, .ref q84, .ref q92, .int 0, .int 0, .int 0, .int 0, .int 0, .int 0, .ref q100, .int (-1), .null, .null, .null, .int 0, .int 0, .int 0, .int 0, .int 0, .null, .int 0, .null, .int 0, .int 0, .int 0, .int 0, .int 0, .null, .null, .null, .null])), (q51, .inl (cys 3, 27, .inr (.inl (fun _ => 0))))] [(q113, 20), (q100, 20), (q92, 40), (q84, 39), (q76, 47), (q68, 38), (q60, 37), (q43, 19), (q35, 36), (q26, 35), (q17, 34), (q8, 49)] [49, 34, 35, 36, 19, 37, 38, 47, 39, 40, 20, 20] _ _ := hB
  refine bw_put (v := .ref q113) (fty := (.array .int)) hx hb hts hin hown hK hin2 hB rfl 34 (by decide) (in_r12 _ (List.mem_of_getElem? (i := 5) rfl)) rfl (by decide +kernel) rfl rfl (Nat.le_of_ble_eq_true rfl) dX12_init_115 (fun H locs hB => ?_)
  have hB : bS D cys (bA a s.heap.size) s.heap [(a, .inr (12, [.int 0, .ref q8, .int 0, .int 0, .int 0, .int 0, .ref q17, .ref q26, .ref q35, .ref q43, .ref q51, .int 0, .int 0, .int 0, .int 0, .int 0, .int 0, .long 0, .int 0, .int 0, .ref q60, .ref q68, .int 0, .ref q76, .ref q84, .ref q92, .int 0, .int 0, .int 0, .int 0, .int 0, .int 0, .ref q100, .int (-1), .ref q113, .null, .null, .int 0, .int 0, .int 0, .int 0, .int 0, .null, .int 0, .null, .int 0, .int 0, .int 0, .int 0, .int 0, .null, .null, .null, .null])), (q51, .inl (cys 3, 27, .inr (.inl (fun _ => 0))))] [(q113, 20), (q100, 20), (q92, 40), (q84, 39), (q76, 47), (q68, 38), (q60, 37), (q43, 19), (q35, 36), (q26, 35), (q17, 34), (q8, 49)] [49, 34, 35, 36, 19, 37, 38, 47, 39, 40, 20, 20] _ _ := hB
  refine lv_aload_n hx hb dX12_init_118 rfl (lv_at hl 0 rfl) ?_
  refine lv_bipush (v := 8) hx hb dX12_init_119 (by decide) ?_
  refine bw_newa hx hb hK hA hB (ty := .int) (hts _ (hin _ (in_r3 _ (List.mem_of_getElem? (i := 5) rfl)))) rfl 41 0 rfl (by decide) (by decide +kernel) rfl rfl (by decide) (by decide) (by decide) (Nat.le_of_ble_eq_true rfl) (Nat.le_of_ble_eq_true rfl) dX12_init_121 (fun q121 H hB => ?_)
  have hB : bS D cys (bA a s.heap.size) s.heap [(a, .inr (12, [.int 0, .ref q8, .int 0, .int 0, .int 0, .int 0, .ref q17, .ref q26, .ref q35, .ref q43, .ref q51, .int 0, .int 0, .int 0, .int 0, .int 0, .int 0, .long 0, .int 0, .int 0, .ref q60, .ref q68, .int 0, .ref q76, .ref q84, .ref q92, .int 0, .int 0, .int 0, .int 0, .int 0, .int 0, .ref q100, .int (-1), .ref q113, .null, .null, .int 0, .int 0, .int 0, .int 0, .int 0, .null, .int 0, .null, .int 0, .int 0, .int 0, .int 0, .int 0, .null, .null, .null, .null])), (q51, .inl (cys 3, 27, .inr (.inl (fun _ => 0))))] [(q121, 41), (q113, 20), (q100, 20), (q92, 40), (q84, 39), (q76, 47), (q68, 38), (q60, 37), (q43, 19), (q35, 36), (q26, 35), (q17, 34), (q8, 49)] [49, 34, 35, 36, 19, 37, 38, 47, 39, 40, 20, 20, 41] _ _ := hB
  refine bw_put (v := .ref q121) (fty := (.array .int)) hx hb hts hin hown hK hin2 hB rfl 35 (by decide) (in_r12 _ (List.mem_of_getElem? (i := 6) rfl)) rfl (by decide +kernel) rfl rfl (Nat.le_of_ble_eq_true rfl) dX12_init_123 (fun H locs hB => ?_)
  have hB : bS D cys (bA a s.heap.size) s.heap [(a, .inr (12, [.int 0, .ref q8, .int 0, .int 0, .int 0, .int 0, .ref q17, .ref q26, .ref q35, .ref q43, .ref q51, .int 0, .int 0, .int 0, .int 0, .int 0, .int 0, .long 0, .int 0, .int 0, .ref q60, .ref q68, .int 0, .ref q76, .ref q84, .ref q92, .int 0, .int 0, .int 0, .int 0, .int 0, .int 0, .ref q100, .int (-1), .ref q113, .ref q121, .null, .int 0, .int 0, .int 0, .int 0, .int 0, .null, .int 0, .null, .int 0, .int 0, .int 0, .int 0, .int 0, .null, .null, .null, .null])), (q51, .inl (cys 3, 27, .inr (.inl (fun _ => 0))))] [(q121, 41), (q113, 20), (q100, 20), (q92, 40), (q84, 39), (q76, 47), (q68, 38), (q60, 37), (q43, 19), (q35, 36), (q26, 35), (q17, 34), (q8, 49)] [49, 34, 35, 36, 19, 37, 38, 47, 39, 40, 20, 20, 41] _ _ := hB
  refine lv_aload_n hx hb dX12_init_126 rfl (lv_at hl 0 rfl) ?_
  refine lv_bipush (v := 6) hx hb dX12_init_127 (by decide) ?_
  refine bw_newa hx hb hK hA hB (ty := .int) (hts _ (hin _ (in_r3 _ (List.mem_of_getElem? (i := 5) rfl)))) rfl 20 0 rfl (by decide) (by decide +kernel) rfl rfl (by decide) (by decide) (by decide) (Nat.le_of_ble_eq_true rfl) (Nat.le_of_ble_eq_true rfl) dX12_init_129 (fun q129 H hB => ?_)
  have hB : bS D cys (bA a s.heap.size) s.heap [(a, .inr (12, [.int 0, .ref q8, .int 0, .int 0, .int 0, .int 0, .ref q17, .ref q26, .ref q35, .ref q43, .ref q51, .int 0, .int 0, .int 0, .int 0, .int 0, .int 0, .long 0, .int 0, .int 0, .ref q60, .ref q68, .int 0, .ref q76, .ref q84, .ref q92, .int 0, .int 0, .int 0, .int 0, .int 0, .int 0, .ref q100, .int (-1), .ref q113, .ref q121, .null, .int 0, .int 0, .int 0, .int 0, .int 0, .null, .int 0, .null, .int 0, .int 0, .int 0, .int 0, .int 0, .null, .null, .null, .null])), (q51, .inl (cys 3, 27, .inr (.inl (fun _ => 0))))] [(q129, 20), (q121, 41), (q113, 20), (q100, 20), (q92, 40), (q84, 39), (q76, 47), (q68, 38), (q60, 37), (q43, 19), (q35, 36), (q26, 35), (q17, 34), (q8, 49)] [49, 34, 35, 36, 19, 37, 38, 47, 39, 40, 20, 20, 41, 20] _ _ := hB
  refine bw_put (v := .ref q129) (fty := (.array .int)) hx hb hts hin hown hK hin2 hB rfl 36 (by decide) (in_r12 _ (List.mem_of_getElem? (i := 7) rfl)) rfl (by decide +kernel) rfl rfl (Nat.le_of_ble_eq_true rfl) dX12_init_131 (fun H locs hB => ?_)
  have hB : bS D cys (bA a s.heap.size) s.heap [(a, .inr (12, [.int 0, .ref q8, .int 0, .int 0, .int 0, .int 0, .ref q17, .ref q26, .ref q35, .ref q43, .ref q51, .int 0, .int 0, .int 0, .int 0, .int 0, .int 0, .long 0, .int 0, .int 0, .ref q60, .ref q68, .int 0, .ref q76, .ref q84, .ref q92, .int 0, .int 0, .int 0, .int 0, .int 0, .int 0, .ref q100, .int (-1), .ref q113, .ref q121, .ref q129, .int 0, .int 0, .int 0, .int 0, .int 0, .null, .int 0, .null, .int 0, .int 0, .int 0, .int 0, .int 0, .null, .null, .null, .null])), (q51, .inl (cys 3, 27, .inr (.inl (fun _ => 0))))] [(q129, 20), (q121, 41), (q113, 20), (q100, 20), (q92, 40), (q84, 39), (q76, 47), (q68, 38), (q60, 37), (q43, 19), (q35, 36), (q26, 35), (q17, 34), (q8, 49)] [49, 34, 35, 36, 19, 37, 38, 47, 39, 40, 20, 20, 41, 20] _ _ := hB
  refine lv_aload_n hx hb dX12_init_134 rfl (lv_at hl 0 rfl) ?_
  refine lv_iconst (v := (-1)) hx hb dX12_init_135 (by decide) ?_
  refine bw_put (v := .int (-1)) (fty := (.int)) hx hb hts hin hown hK hin2 hB rfl 37 (by decide) (in_r12 _ (List.mem_of_getElem? (i := 8) rfl)) rfl (by decide +kernel) rfl rfl (Nat.le_of_ble_eq_true rfl) dX12_init_136 (fun H locs hB => ?_)
  have hB : bS D cys (bA a s.heap.size) s.heap [(a, .inr (12, [.int 0, .ref q8, .int 0, .int 0, .int 0, .int 0, .ref q17, .ref q26, .ref q35, .ref q43, .ref q51, .int 0, .int 0, .int 0, .int 0, .int 0, .int 0, .long 0, .int 0, .int 0, .ref q60, .ref q68, .int 0, .ref q76, .ref q84, .ref q92, .int 0, .int 0, .int 0, .int 0, .int 0, .int 0, .ref q100, .int (-1), .ref q113, .ref q121, .ref q129, .int (-1), .int 0, .int 0, .int 0, .int 0, .null, .int 0, .null, .int 0, .int 0, .int 0, .int 0, .int 0, .null, .null, .null, .null])), (q51, .inl (cys 3, 27, .inr (.inl (fun _ => 0))))] [(q129, 20), (q121, 41), (q113, 20), (q100, 20), (q92, 40), (q84, 39), (q76, 47), (q68, 38), (q60, 37), (q43, 19), (q35, 36), (q26, 35), (q17, 34), (q8, 49)] [49, 34, 35, 36, 19, 37, 38, 47, 39, 40, 20, 20, 41, 20] _ _ := hB
  refine lv_aload_n hx hb dX12_init_139 rfl (lv_at hl 0 rfl) ?_
  refine lv_iconst (v := 4) hx hb dX12_init_140 (by decide) ?_
  refine bw_newa hx hb hK hA hB (ty := .int) (hts _ (hin _ (in_r3 _ (List.mem_of_getElem? (i := 5) rfl)))) rfl 42 0 rfl (by decide) (by decide +kernel) rfl rfl (by decide) (by decide) (by decide) (Nat.le_of_ble_eq_true rfl) (Nat.le_of_ble_eq_true rfl) dX12_init_141 (fun q141 H hB => ?_)
  have hB : bS D cys (bA a s.heap.size) s.heap [(a, .inr (12, [.int 0, .ref q8, .int 0, .int 0, .int 0, .int 0, .ref q17, .ref q26, .ref q35, .ref q43, .ref q51, .int 0, .int 0, .int 0, .int 0, .int 0, .int 0, .long 0, .int 0, .int 0, .ref q60, .ref q68, .int 0, .ref q76, .ref q84, .ref q92, .int 0, .int 0, .int 0, .int 0, .int 0, .int 0, .ref q100, .int (-1), .ref q113, .ref q121, .ref q129, .int (-1), .int 0, .int 0, .int 0, .int 0, .null, .int 0, .null, .int 0, .int 0, .int 0, .int 0, .int 0, .null, .null, .null, .null])), (q51, .inl (cys 3, 27, .inr (.inl (fun _ => 0))))] [(q141, 42), (q129, 20), (q121, 41), (q113, 20), (q100, 20), (q92, 40), (q84, 39), (q76, 47), (q68, 38), (q60, 37), (q43, 19), (q35, 36), (q26, 35), (q17, 34), (q8, 49)] [49, 34, 35, 36, 19, 37, 38, 47, 39, 40, 20, 20, 41, 20, 42] _ _ := hB
  refine bw_put (v := .ref q141) (fty := (.array .int)) hx hb hts hin hown hK hin2 hB rfl 42 (by decide) (in_r12 _ (List.mem_of_getElem? (i := 9) rfl)) rfl (by decide +kernel) rfl rfl (Nat.le_of_ble_eq_true rfl) dX12_init_143 (fun H locs hB => ?_)
  have hB : bS D cys (bA a s.heap.size) s.heap [(a, .inr (12, [.int 0, .ref q8, .int 0, .int 0, .int 0, .int 0, .ref q17, .ref q26, .ref q35, .ref q43, .ref q51, .int 0, .int 0, .int 0, .int 0, .int 0, .int 0, .long 0, .int 0, .int 0, .ref q60, .ref q68, .int 0, .ref q76, .ref q84, .ref q92, .int 0, .int 0, .int 0, .int 0, .int 0, .int 0, .ref q100, .int (-1), .ref q113, .ref q121, .ref q129, .int (-1), .int 0, .int 0, .int 0, .int 0, .ref q141, .int 0, .null, .int 0, .int 0, .int 0, .int 0, .int 0, .null, .null, .null, .null])), (q51, .inl (cys 3, 27, .inr (.inl (fun _ => 0))))] [(q141, 42), (q129, 20), (q121, 41), (q113, 20), (q100, 20), (q92, 40), (q84, 39), (q76, 47), (q68, 38), (q60, 37), (q43, 19), (q35, 36), (q26, 35), (q17, 34), (q8, 49)] [49, 34, 35, 36, 19, 37, 38, 47, 39, 40, 20, 20, 41, 20, 42] _ _ := hB
  refine lv_aload_n hx hb dX12_init_146 rfl (lv_at hl 0 rfl) ?_
  refine lv_bipush (v := 45) hx hb dX12_init_147 (by decide) ?_
  refine bw_newa hx hb hK hA hB (ty := .int) (hts _ (hin _ (in_r3 _ (List.mem_of_getElem? (i := 5) rfl)))) rfl 43 0 rfl (by decide) (by decide +kernel) rfl rfl (by decide) (by decide) (by decide) (Nat.le_of_ble_eq_true rfl) (Nat.le_of_ble_eq_true rfl) dX12_init_149 (fun q149 H hB => ?_)
  have hB : bS D cys (bA a s.heap.size) s.heap [(a, .inr (12, [.int 0, .ref q8, .int 0, .int 0, .int 0, .int 0, .ref q17, .ref q26, .ref q35, .ref q43, .ref q51, .int 0, .int 0, .int 0, .int 0, .int 0, .int 0, .long 0, .int 0, .int 0, .ref q60, .ref q68, .int 0, .ref q76, .ref q84, .ref q92, .int 0, .int 0, .int 0, .int 0, .int 0, .int 0, .ref q100, .int (-1), .ref q113, .ref q121, .ref q129, .int (-1), .int 0, .int 0, .int 0, .int 0, .ref q141, .int 0, .null, .int 0, .int 0, .int 0, .int 0, .int 0, .null, .null, .null, .null])), (q51, .inl (cys 3, 27, .inr (.inl (fun _ => 0))))] [(q149, 43), (q141, 42), (q129, 20), (q121, 41), (q113, 20), (q100, 20), (q92, 40), (q84, 39), (q76, 47), (q68, 38), (q60, 37), (q43, 19), (q35, 36), (q26, 35), (q17, 34), (q8, 49)] [49, 34, 35, 36, 19, 37, 38, 47, 39, 40, 20, 20, 41, 20, 42, 43] _ _ := hB
  refine bw_put (v := .ref q149) (fty := (.array .int)) hx hb hts hin hown hK hin2 hB rfl 44 (by decide) (in_r12 _ (List.mem_of_getElem? (i := 10) rfl)) rfl (by decide +kernel) rfl rfl (Nat.le_of_ble_eq_true rfl) dX12_init_151 (fun H locs hB => ?_)
  have hB : bS D cys (bA a s.heap.size) s.heap [(a, .inr (12, [.int 0, .ref q8, .int 0, .int 0, .int 0, .int 0, .ref q17, .ref q26, .ref q35, .ref q43, .ref q51, .int 0, .int 0, .int 0, .int 0, .int 0, .int 0, .long 0, .int 0, .int 0, .ref q60, .ref q68, .int 0, .ref q76, .ref q84, .ref q92, .int 0, .int 0, .int 0, .int 0, .int 0, .int 0, .ref q100, .int (-1), .ref q113, .ref q121, .ref q129, .int (-1), .int 0, .int 0, .int 0, .int 0, .ref q141, .int 0, .ref q149, .int 0, .int 0, .int 0, .int 0, .int 0, .null, .null, .null, .null])), (q51, .inl (cys 3, 27, .inr (.inl (fun _ => 0))))] [(q149, 43), (q141, 42), (q129, 20), (q121, 41), (q113, 20), (q100, 20), (q92, 40), (q84, 39), (q76, 47), (q68, 38), (q60, 37), (q43, 19), (q35, 36), (q26, 35), (q17, 34), (q8, 49)] [49, 34, 35, 36, 19, 37, 38, 47, 39, 40, 20, 20, 41, 20, 42, 43] _ _ := hB
  refine lv_aload_n hx hb dX12_init_154 rfl (lv_at hl 0 rfl) ?_
  refine lv_bipush (v := 45) hx hb dX12_init_155 (by decide) ?_
  refine bw_newa hx hb hK hA hB (ty := .boolean) (hts _ (hin _ (in_r12 _ (List.mem_of_getElem? (i := 11) rfl)))) rfl 44 2 rfl (by decide) (by decide +kernel) rfl rfl (by decide) (by decide) (by decide) (Nat.le_of_ble_eq_true rfl) (Nat.le_of_ble_eq_true rfl) dX12_init_157 (fun q157 H hB => ?_)
  have hB : bS D cys (bA a s.heap.size) s.heap [(a, .inr (12, [.int 0, .ref q8, .int 0, .int 0, .int 0, .int 0, .ref q17, .ref q26, .ref q35, .ref q43, .ref q51, .int 0, .int 0, .int 0, .int 0, .int 0, .int 0, .long 0, .int 0, .int 0, .ref q60, .ref q68, .int 0, .ref q76, .ref q84, .ref q92, .int 0, .int 0, .int 0, .int 0, .int 0, .int 0, .ref q100, .int (-1), .ref q113, .ref q121, .ref q129, .int (-1), .int 0, .int 0, .int 0, .int 0, .ref q141, .int 0, .ref q149, .int 0, .int 0, .int 0, .int 0, .int 0, .null, .null, .null, .null])), (q51, .inl (cys 3, 27, .inr (.inl (fun _ => 0))))] [(q157, 44), (q149, 43), (q141, 42), (q129, 20), (q121, 41), (q113, 20), (q100, 20), (q92, 40), (q84, 39), (q76, 47), (q68, 38), (q60, 37), (q43, 19), (q35, 36), (q26, 35), (q17, 34), (q8, 49)] [49, 34, 35, 36, 19, 37, 38, 47, 39, 40, 20, 20, 41, 20, 42, 43, 44] _ _ := hB
  refine bw_put (v := .ref q157) (fty := (.array .boolean)) hx hb hts hin hown hK hin2 hB rfl 50 (by decide) (in_r12 _ (List.mem_of_getElem? (i := 12) rfl)) rfl (by decide +kernel) rfl rfl (Nat.le_of_ble_eq_true rfl) dX12_init_159 (fun H locs hB => ?_)
  have hB : bS D cys (bA a s.heap.size) s.heap [(a, .inr (12, [.int 0, .ref q8, .int 0, .int 0, .int 0, .int 0, .ref q17, .ref q26, .ref q35, .ref q43, .ref q51, .int 0, .int 0, .int 0, .int 0, .int 0, .int 0, .long 0, .int 0, .int 0, .ref q60, .ref q68, .int 0, .ref q76, .ref q84, .ref q92, .int 0, .int 0, .int 0, .int 0, .int 0, .int 0, .ref q100, .int (-1), .ref q113, .ref q121, .ref q129, .int (-1), .int 0, .int 0, .int 0, .int 0, .ref q141, .int 0, .ref q149, .int 0, .int 0, .int 0, .int 0, .int 0, .ref q157, .null, .null, .null])), (q51, .inl (cys 3, 27, .inr (.inl (fun _ => 0))))] [(q157, 44), (q149, 43), (q141, 42), (q129, 20), (q121, 41), (q113, 20), (q100, 20), (q92, 40), (q84, 39), (q76, 47), (q68, 38), (q60, 37), (q43, 19), (q35, 36), (q26, 35), (q17, 34), (q8, 49)] [49, 34, 35, 36, 19, 37, 38, 47, 39, 40, 20, 20, 41, 20, 42, 43, 44] _ _ := hB
  refine lv_aload_n hx hb dX12_init_162 rfl (lv_at hl 0 rfl) ?_
  refine lv_sipush (v := 734) hx hb dX12_init_163 (by decide) ?_
  refine bw_newa hx hb hK hA hB (ty := .int) (hts _ (hin _ (in_r3 _ (List.mem_of_getElem? (i := 5) rfl)))) rfl 45 0 rfl (by decide) (by decide +kernel) rfl rfl (by decide) (by decide) (by decide) (Nat.le_of_ble_eq_true rfl) (Nat.le_of_ble_eq_true rfl) dX12_init_166 (fun q166 H hB => ?_)
  have hB : bS D cys (bA a s.heap.size) s.heap [(a, .inr (12, [.int 0, .ref q8, .int 0, .int 0, .int 0, .int 0, .ref q17, .ref q26, .ref q35, .ref q43, .ref q51, .int 0, .int 0, .int 0, .int 0, .int 0, .int 0, .long 0, .int 0, .int 0, .ref q60, .ref q68, .int 0, .ref q76, .ref q84, .ref q92, .int 0, .int 0, .int 0, .int 0, .int 0, .int 0, .ref q100, .int (-1), .ref q113, .ref q121, .ref q129, .int (-1), .int 0, .int 0, .int 0, .int 0, .ref q141, .int 0, .ref q149, .int 0, .int 0, .int 0, .int 0, .int 0, .ref q157, .null, .null, .null])), (q51, .inl (cys 3, 27, .inr (.inl (fun _ => 0))))] [(q166, 45), (q157, 44), (q149, 43), (q141, 42), (q129, 20), (q121, 41), (q113, 20), (q100, 20), (q92, 40), (q84, 39), (q76, 47), (q68, 38), (q60, 37), (q43, 19), (q35, 36), (q26, 35), (q17, 34), (q8, 49)] [49, 34, 35, 36, 19, 37, 38, 47, 39, 40, 20, 20, 41, 20, 42, 43, 44, 45] _ _ := hB
  refine bw_put (v := .ref q166) (fty := (.array .int)) hx hb hts hin hown hK hin2 hB rfl 51 (by decide) (in_r12 _ (List.mem_of_getElem? (i := 13) rfl)) rfl (by decide +kernel) rfl rfl (Nat.le_of_ble_eq_true rfl) dX12_init_168 (fun H locs hB => ?_)
  have hB : bS D cys (bA a s.heap.size) s.heap [(a, .inr (12, [.int 0, .ref q8, .int 0, .int 0, .int 0, .int 0, .ref q17, .ref q26, .ref q35, .ref q43, .ref q51, .int 0, .int 0, .int 0, .int 0, .int 0, .int 0, .long 0, .int 0, .int 0, .ref q60, .ref q68, .int 0, .ref q76, .ref q84, .ref q92, .int 0, .int 0, .int 0, .int 0, .int 0, .int 0, .ref q100, .int (-1), .ref q113, .ref q121, .ref q129, .int (-1), .int 0, .int 0, .int 0, .int 0, .ref q141, .int 0, .ref q149, .int 0, .int 0, .int 0, .int 0, .int 0, .ref q157, .ref q166, .null, .null])), (q51, .inl (cys 3, 27, .inr (.inl (fun _ => 0))))] [(q166, 45), (q157, 44), (q149, 43), (q141, 42), (q129, 20), (q121, 41), (q113, 20), (q100, 20), (q92, 40), (q84, 39), (q76, 47), (q68, 38), (q60, 37), (q43, 19), (q35, 36), (q26, 35), (q17, 34), (q8, 49)] [49, 34, 35, 36, 19, 37, 38, 47, 39, 40, 20, 20, 41, 20, 42, 43, 44, 45] _ _ := hB
  refine lv_aload_n hx hb dX12_init_171 rfl (lv_at hl 0 rfl) ?_
  refine lv_bipush (v := 40) hx hb dX12_init_172 (by decide) ?_
  refine bw_newl hx hb hK hA hB (hts _ (hin _ (in_r1 _ (List.mem_of_getElem? (i := 6) rfl)))) 109 rfl (by decide +kernel) (by decide) (by decide) (by decide) (by decide) (Nat.le_of_ble_eq_true rfl) (Nat.le_of_ble_eq_true rfl) dX12_init_174 (fun q174 H hB => ?_)
  have hB : bS D cys (bA a s.heap.size) s.heap [(a, .inr (12, [.int 0, .ref q8, .int 0, .int 0, .int 0, .int 0, .ref q17, .ref q26, .ref q35, .ref q43, .ref q51, .int 0, .int 0, .int 0, .int 0, .int 0, .int 0, .long 0, .int 0, .int 0, .ref q60, .ref q68, .int 0, .ref q76, .ref q84, .ref q92, .int 0, .int 0, .int 0, .int 0, .int 0, .int 0, .ref q100, .int (-1), .ref q113, .ref q121, .ref q129, .int (-1), .int 0, .int 0, .int 0, .int 0, .ref q141, .int 0, .ref q149, .int 0, .int 0, .int 0, .int 0, .int 0, .ref q157, .ref q166, .null, .null])), (q51, .inl (cys 3, 27, .inr (.inl (fun _ => 0))))] [(q174, 109), (q166, 45), (q157, 44), (q149, 43), (q141, 42), (q129, 20), (q121, 41), (q113, 20), (q100, 20), (q92, 40), (q84, 39), (q76, 47), (q68, 38), (q60, 37), (q43, 19), (q35, 36), (q26, 35), (q17, 34), (q8, 49)] [49, 34, 35, 36, 19, 37, 38, 47, 39, 40, 20, 20, 41, 20, 42, 43, 44, 45, 109] _ _ := hB
  refine bw_put (v := .ref q174) (fty := (.array .long)) hx hb hts hin hown hK hin2 hB rfl 52 (by decide) (in_r12 _ (List.mem_of_getElem? (i := 14) rfl)) rfl (by decide +kernel) rfl rfl (Nat.le_of_ble_eq_true rfl) dX12_init_176 (fun H locs hB => ?_)
  have hB : bS D cys (bA a s.heap.size) s.heap [(a, .inr (12, [.int 0, .ref q8, .int 0, .int 0, .int 0, .int 0, .ref q17, .ref q26, .ref q35, .ref q43, .ref q51, .int 0, .int 0, .int 0, .int 0, .int 0, .int 0, .long 0, .int 0, .int 0, .ref q60, .ref q68, .int 0, .ref q76, .ref q84, .ref q92, .int 0, .int 0, .int 0, .int 0, .int 0, .int 0, .ref q100, .int (-1), .ref q113, .ref q121, .ref q129, .int (-1), .int 0, .int 0, .int 0, .int 0, .ref q141, .int 0, .ref q149, .int 0, .int 0, .int 0, .int 0, .int 0, .ref q157, .ref q166, .ref q174, .null])), (q51, .inl (cys 3, 27, .inr (.inl (fun _ => 0))))] [(q174, 109), (q166, 45), (q157, 44), (q149, 43), (q141, 42), (q129, 20), (q121, 41), (q113, 20), (q100, 20), (q92, 40), (q84, 39), (q76, 47), (q68, 38), (q60, 37), (q43, 19), (q35, 36), (q26, 35), (q17, 34), (q8, 49)] [49, 34, 35, 36, 19, 37, 38, 47, 39, 40, 20, 20, 41, 20, 42, 43, 44, 45, 109] _ _ := hB
  refine lv_aload_n hx hb dX12_init_179 rfl (lv_at hl 0 rfl) ?_
  refine lv_iconst (v := 2) hx hb dX12_init_180 (by decide) ?_
  refine bw_newa hx hb hK hA hB (ty := .boolean) (hts _ (hin _ (in_r12 _ (List.mem_of_getElem? (i := 11) rfl)))) rfl 46 2 rfl (by decide) (by decide +kernel) rfl rfl (by decide) (by decide) (by decide) (Nat.le_of_ble_eq_true rfl) (Nat.le_of_ble_eq_true rfl) dX12_init_181 (fun q181 H hB => ?_)
  have hB : bS D cys (bA a s.heap.size) s.heap [(a, .inr (12, [.int 0, .ref q8, .int 0, .int 0, .int 0, .int 0, .ref q17, .ref q26, .ref q35, .ref q43, .ref q51, .int 0, .int 0, .int 0, .int 0, .int 0, .int 0, .long 0, .int 0, .int 0, .ref q60, .ref q68, .int 0, .ref q76, .ref q84, .ref q92, .int 0, .int 0, .int 0, .int 0, .int 0, .int 0, .ref q100, .int (-1), .ref q113, .ref q121, .ref q129, .int (-1), .int 0, .int 0, .int 0, .int 0, .ref q141, .int 0, .ref q149, .int 0, .int 0, .int 0, .int 0, .int 0, .ref q157, .ref q166, .ref q174, .null])), (q51, .inl (cys 3, 27, .inr (.inl (fun _ => 0))))] [(q181, 46), (q174, 109), (q166, 45), (q157, 44), (q149, 43), (q141, 42), (q129, 20), (q121, 41), (q113, 20), (q100, 20), (q92, 40), (q84, 39), (q76, 47), (q68, 38), (q60, 37), (q43, 19), (q35, 36), (q26, 35), (q17, 34), (q8, 49)] [49, 34, 35, 36, 19, 37, 38, 47, 39, 40, 20, 20, 41, 20, 42, 43, 44, 45, 109, 46] _ _ := hB
  refine bw_put (v := .ref q181) (fty := (.array .boolean)) hx hb hts hin hown hK hin2 hB rfl 53 (by decide) (in_r12 _ (List.mem_of_getElem? (i := 15) rfl)) rfl (by decide +kernel) rfl rfl (Nat.le_of_ble_eq_true rfl) dX12_init_183 (fun H locs hB => ?_)
  have hB : bS D cys (bA a s.heap.size) s.heap [(a, .inr (12, [.int 0, .ref q8, .int 0, .int 0, .int 0, .int 0, .ref q17, .ref q26, .ref q35, .ref q43, .ref q51, .int 0, .int 0, .int 0, .int 0, .int 0, .int 0, .long 0, .int 0, .int 0, .ref q60, .ref q68, .int 0, .ref q76, .ref q84, .ref q92, .int 0, .int 0, .int 0, .int 0, .int 0, .int 0, .ref q100, .int (-1), .ref q113, .ref q121, .ref q129, .int (-1), .int 0, .int 0, .int 0, .int 0, .ref q141, .int 0, .ref q149, .int 0, .int 0, .int 0, .int 0, .int 0, .ref q157, .ref q166, .ref q174, .ref q181])), (q51, .inl (cys 3, 27, .inr (.inl (fun _ => 0))))] [(q181, 46), (q174, 109), (q166, 45), (q157, 44), (q149, 43), (q141, 42), (q129, 20), (q121, 41), (q113, 20), (q100, 20), (q92, 40), (q84, 39), (q76, 47), (q68, 38), (q60, 37), (q43, 19), (q35, 36), (q26, 35), (q17, 34), (q8, 49)] [49, 34, 35, 36, 19, 37, 38, 47, 39, 40, 20, 20, 41, 20, 42, 43, 44, 45, 109, 46] _ _ := hB
  refine lv_aload_n hx hb dX12_init_186 rfl (lv_at hl 0 rfl) ?_
  refine bw_get hx hb hts hin hown hK hB rfl 10 (by decide) (in_r11 _ (List.mem_of_getElem? (i := 21) rfl)) rfl dX12_init_187 ?_
  refine lv_iconst (v := 0) hx hb dX12_init_190 (by decide) ?_
  refine lv_ldc2 hx hb hown (hts _ (hin _ (in_r12 _ (List.mem_of_getElem? (i := 16) rfl)))) dX12_init_191 ?_
  have hf : ∀ j : Nat, j < 0 → ((fun _ => 0 : Nat → Int64) j).toInt = z_W.getD j 0 := fun j hj => absurd hj (by omega)
  refine bp_last (k := 0) (V := z_W) hx hb hK hB hf (by unfold vp_in; decide) (by decide) (by decide) dX12_init_194 (fun H locs f hf hB => ?_)
  refine lv_aload_n hx hb dX12_init_195 rfl (lv_at hl 0 rfl) ?_
  refine bw_get hx hb hts hin hown hK hB rfl 10 (by decide) (in_r11 _ (List.mem_of_getElem? (i := 21) rfl)) rfl dX12_init_196 ?_
  refine lv_iconst (v := 1) hx hb dX12_init_199 (by decide) ?_
  refine lv_ldc2 hx hb hown (hts _ (hin _ (in_r12 _ (List.mem_of_getElem? (i := 17) rfl)))) dX12_init_200 ?_
  refine bp_last (k := 1) (V := z_W) hx hb hK hB hf (by unfold vp_in; decide) (by decide) (by decide) dX12_init_203 (fun H locs f hf hB => ?_)
  refine lv_aload_n hx hb dX12_init_204 rfl (lv_at hl 0 rfl) ?_
  refine bw_get hx hb hts hin hown hK hB rfl 10 (by decide) (in_r11 _ (List.mem_of_getElem? (i := 21) rfl)) rfl dX12_init_205 ?_
  refine lv_iconst (v := 2) hx hb dX12_init_208 (by decide) ?_
  refine lv_ldc2 hx hb hown (hts _ (hin _ (in_r12 _ (List.mem_of_getElem? (i := 18) rfl)))) dX12_init_209 ?_
  refine bp_last (k := 2) (V := z_W) hx hb hK hB hf (by unfold vp_in; decide) (by decide) (by decide) dX12_init_212 (fun H locs f hf hB => ?_)
  refine lv_aload_n hx hb dX12_init_213 rfl (lv_at hl 0 rfl) ?_
  refine bw_get hx hb hts hin hown hK hB rfl 10 (by decide) (in_r11 _ (List.mem_of_getElem? (i := 21) rfl)) rfl dX12_init_214 ?_
  refine lv_iconst (v := 3) hx hb dX12_init_217 (by decide) ?_
  refine lv_ldc2 hx hb hown (hts _ (hin _ (in_r12 _ (List.mem_of_getElem? (i := 19) rfl)))) dX12_init_218 ?_
  refine bp_last (k := 3) (V := z_W) hx hb hK hB hf (by unfold vp_in; decide) (by decide) (by decide) dX12_init_221 (fun H locs f hf hB => ?_)
  refine lv_aload_n hx hb dX12_init_222 rfl (lv_at hl 0 rfl) ?_
  refine bw_get hx hb hts hin hown hK hB rfl 10 (by decide) (in_r11 _ (List.mem_of_getElem? (i := 21) rfl)) rfl dX12_init_223 ?_
  refine lv_iconst (v := 4) hx hb dX12_init_226 (by decide) ?_
  refine lv_ldc2 hx hb hown (hts _ (hin _ (in_r12 _ (List.mem_of_getElem? (i := 20) rfl)))) dX12_init_227 ?_
  refine bp_last (k := 4) (V := z_W) hx hb hK hB hf (by unfold vp_in; decide) (by decide) (by decide) dX12_init_230 (fun H locs f hf hB => ?_)
  refine lv_aload_n hx hb dX12_init_231 rfl (lv_at hl 0 rfl) ?_
  refine bw_get hx hb hts hin hown hK hB rfl 10 (by decide) (in_r11 _ (List.mem_of_getElem? (i := 21) rfl)) rfl dX12_init_232 ?_
  refine lv_iconst (v := 5) hx hb dX12_init_235 (by decide) ?_
  refine lv_ldc2 hx hb hown (hts _ (hin _ (in_r12 _ (List.mem_of_getElem? (i := 21) rfl)))) dX12_init_236 ?_
  refine bp_last (k := 5) (V := z_W) hx hb hK hB hf (by unfold vp_in; decide) (by decide) (by decide) dX12_init_239 (fun H locs f hf hB => ?_)
  refine lv_aload_n hx hb dX12_init_240 rfl (lv_at hl 0 rfl) ?_
  refine bw_get hx hb hts hin hown hK hB rfl 10 (by decide) (in_r11 _ (List.mem_of_getElem? (i := 21) rfl)) rfl dX12_init_241 ?_
  refine lv_bipush (v := 6) hx hb dX12_init_244 (by decide) ?_
  refine lv_ldc2 hx hb hown (hts _ (hin _ (in_r12 _ (List.mem_of_getElem? (i := 22) rfl)))) dX12_init_246 ?_
  refine bp_last (k := 6) (V := z_W) hx hb hK hB hf (by unfold vp_in; decide) (by decide) (by decide) dX12_init_249 (fun H locs f hf hB => ?_)
  refine lv_aload_n hx hb dX12_init_250 rfl (lv_at hl 0 rfl) ?_
  refine bw_get hx hb hts hin hown hK hB rfl 10 (by decide) (in_r11 _ (List.mem_of_getElem? (i := 21) rfl)) rfl dX12_init_251 ?_
  refine lv_bipush (v := 7) hx hb dX12_init_254 (by decide) ?_
  refine lv_ldc2 hx hb hown (hts _ (hin _ (in_r12 _ (List.mem_of_getElem? (i := 23) rfl)))) dX12_init_256 ?_
  refine bp_last (k := 7) (V := z_W) hx hb hK hB hf (by unfold vp_in; decide) (by decide) (by decide) dX12_init_259 (fun H locs f hf hB => ?_)
  refine lv_aload_n hx hb dX12_init_260 rfl (lv_at hl 0 rfl) ?_
  refine bw_get hx hb hts hin hown hK hB rfl 10 (by decide) (in_r11 _ (List.mem_of_getElem? (i := 21) rfl)) rfl dX12_init_261 ?_
  refine lv_bipush (v := 8) hx hb dX12_init_264 (by decide) ?_
  refine lv_ldc2 hx hb hown (hts _ (hin _ (in_r13 _ (List.mem_of_getElem? (i := 0) rfl)))) dX12_init_266 ?_
  refine bp_last (k := 8) (V := z_W) hx hb hK hB hf (by unfold vp_in; decide) (by decide) (by decide) dX12_init_269 (fun H locs f hf hB => ?_)
  refine lv_aload_n hx hb dX12_init_270 rfl (lv_at hl 0 rfl) ?_
  refine bw_get hx hb hts hin hown hK hB rfl 10 (by decide) (in_r11 _ (List.mem_of_getElem? (i := 21) rfl)) rfl dX12_init_271 ?_
  refine lv_bipush (v := 9) hx hb dX12_init_274 (by decide) ?_
  refine lv_ldc2 hx hb hown (hts _ (hin _ (in_r13 _ (List.mem_of_getElem? (i := 1) rfl)))) dX12_init_276 ?_
  refine bp_last (k := 9) (V := z_W) hx hb hK hB hf (by unfold vp_in; decide) (by decide) (by decide) dX12_init_279 (fun H locs f hf hB => ?_)
  refine lv_aload_n hx hb dX12_init_280 rfl (lv_at hl 0 rfl) ?_
  refine bw_get hx hb hts hin hown hK hB rfl 10 (by decide) (in_r11 _ (List.mem_of_getElem? (i := 21) rfl)) rfl dX12_init_281 ?_
  refine lv_bipush (v := 10) hx hb dX12_init_284 (by decide) ?_
  refine lv_ldc2 hx hb hown (hts _ (hin _ (in_r13 _ (List.mem_of_getElem? (i := 2) rfl)))) dX12_init_286 ?_
  refine bp_last (k := 10) (V := z_W) hx hb hK hB hf (by unfold vp_in; decide) (by decide) (by decide) dX12_init_289 (fun H locs f hf hB => ?_)
  refine lv_aload_n hx hb dX12_init_290 rfl (lv_at hl 0 rfl) ?_
  refine bw_get hx hb hts hin hown hK hB rfl 10 (by decide) (in_r11 _ (List.mem_of_getElem? (i := 21) rfl)) rfl dX12_init_291 ?_
  refine lv_bipush (v := 11) hx hb dX12_init_294 (by decide) ?_
  refine lv_ldc2 hx hb hown (hts _ (hin _ (in_r13 _ (List.mem_of_getElem? (i := 3) rfl)))) dX12_init_296 ?_
  refine bp_last (k := 11) (V := z_W) hx hb hK hB hf (by unfold vp_in; decide) (by decide) (by decide) dX12_init_299 (fun H locs f hf hB => ?_)
  refine lv_aload_n hx hb dX12_init_300 rfl (lv_at hl 0 rfl) ?_
  refine bw_get hx hb hts hin hown hK hB rfl 10 (by decide) (in_r11 _ (List.mem_of_getElem? (i := 21) rfl)) rfl dX12_init_301 ?_
  refine lv_bipush (v := 12) hx hb dX12_init_304 (by decide) ?_
  refine lv_ldc2 hx hb hown (hts _ (hin _ (in_r13 _ (List.mem_of_getElem? (i := 4) rfl)))) dX12_init_306 ?_
  refine bp_last (k := 12) (V := z_W) hx hb hK hB hf (by unfold vp_in; decide) (by decide) (by decide) dX12_init_309 (fun H locs f hf hB => ?_)
  refine lv_aload_n hx hb dX12_init_310 rfl (lv_at hl 0 rfl) ?_
  refine bw_get hx hb hts hin hown hK hB rfl 10 (by decide) (in_r11 _ (List.mem_of_getElem? (i := 21) rfl)) rfl dX12_init_311 ?_
  refine lv_bipush (v := 13) hx hb dX12_init_314 (by decide) ?_
  refine lv_ldc2 hx hb hown (hts _ (hin _ (in_r13 _ (List.mem_of_getElem? (i := 5) rfl)))) dX12_init_316 ?_
  refine bp_last (k := 13) (V := z_W) hx hb hK hB hf (by unfold vp_in; decide) (by decide) (by decide) dX12_init_319 (fun H locs f hf hB => ?_)
  refine lv_aload_n hx hb dX12_init_320 rfl (lv_at hl 0 rfl) ?_
  refine bw_get hx hb hts hin hown hK hB rfl 10 (by decide) (in_r11 _ (List.mem_of_getElem? (i := 21) rfl)) rfl dX12_init_321 ?_
  refine lv_bipush (v := 14) hx hb dX12_init_324 (by decide) ?_
  refine lv_ldc2 hx hb hown (hts _ (hin _ (in_r13 _ (List.mem_of_getElem? (i := 6) rfl)))) dX12_init_326 ?_
  refine bp_last (k := 14) (V := z_W) hx hb hK hB hf (by unfold vp_in; decide) (by decide) (by decide) dX12_init_329 (fun H locs f hf hB => ?_)
  refine lv_aload_n hx hb dX12_init_330 rfl (lv_at hl 0 rfl) ?_
  refine bw_get hx hb hts hin hown hK hB rfl 10 (by decide) (in_r11 _ (List.mem_of_getElem? (i := 21) rfl)) rfl dX12_init_331 ?_
  refine lv_bipush (v := 15) hx hb dX12_init_334 (by decide) ?_
  refine lv_ldc2 hx hb hown (hts _ (hin _ (in_r13 _ (List.mem_of_getElem? (i := 7) rfl)))) dX12_init_336 ?_
  refine bp_last (k := 15) (V := z_W) hx hb hK hB hf (by unfold vp_in; decide) (by decide) (by decide) dX12_init_339 (fun H locs f hf hB => ?_)
  refine lv_aload_n hx hb dX12_init_340 rfl (lv_at hl 0 rfl) ?_
  refine bw_get hx hb hts hin hown hK hB rfl 10 (by decide) (in_r11 _ (List.mem_of_getElem? (i := 21) rfl)) rfl dX12_init_341 ?_
  refine lv_bipush (v := 16) hx hb dX12_init_344 (by decide) ?_
  refine lv_ldc2 hx hb hown (hts _ (hin _ (in_r13 _ (List.mem_of_getElem? (i := 8) rfl)))) dX12_init_346 ?_
  refine bp_last (k := 16) (V := z_W) hx hb hK hB hf (by unfold vp_in; decide) (by decide) (by decide) dX12_init_349 (fun H locs f hf hB => ?_)
  refine lv_aload_n hx hb dX12_init_350 rfl (lv_at hl 0 rfl) ?_
  refine bw_get hx hb hts hin hown hK hB rfl 10 (by decide) (in_r11 _ (List.mem_of_getElem? (i := 21) rfl)) rfl dX12_init_351 ?_
  refine lv_bipush (v := 17) hx hb dX12_init_354 (by decide) ?_
  refine lv_ldc2 hx hb hown (hts _ (hin _ (in_r13 _ (List.mem_of_getElem? (i := 9) rfl)))) dX12_init_356 ?_
  refine bp_last (k := 17) (V := z_W) hx hb hK hB hf (by unfold vp_in; decide) (by decide) (by decide) dX12_init_359 (fun H locs f hf hB => ?_)
  refine lv_aload_n hx hb dX12_init_360 rfl (lv_at hl 0 rfl) ?_
  refine bw_get hx hb hts hin hown hK hB rfl 10 (by decide) (in_r11 _ (List.mem_of_getElem? (i := 21) rfl)) rfl dX12_init_361 ?_
  refine lv_bipush (v := 18) hx hb dX12_init_364 (by decide) ?_
  refine lv_ldc2 hx hb hown (hts _ (hin _ (in_r13 _ (List.mem_of_getElem? (i := 10) rfl)))) dX12_init_366 ?_
  refine bp_last (k := 18) (V := z_W) hx hb hK hB hf (by unfold vp_in; decide) (by decide) (by decide) dX12_init_369 (fun H locs f hf hB => ?_)
  refine lv_aload_n hx hb dX12_init_370 rfl (lv_at hl 0 rfl) ?_
  refine bw_get hx hb hts hin hown hK hB rfl 10 (by decide) (in_r11 _ (List.mem_of_getElem? (i := 21) rfl)) rfl dX12_init_371 ?_
  refine lv_bipush (v := 19) hx hb dX12_init_374 (by decide) ?_
  refine lv_ldc2 hx hb hown (hts _ (hin _ (in_r13 _ (List.mem_of_getElem? (i := 11) rfl)))) dX12_init_376 ?_
  refine bp_last (k := 19) (V := z_W) hx hb hK hB hf (by unfold vp_in; decide) (by decide) (by decide) dX12_init_379 (fun H locs f hf hB => ?_)
  refine lv_aload_n hx hb dX12_init_380 rfl (lv_at hl 0 rfl) ?_
  refine bw_get hx hb hts hin hown hK hB rfl 10 (by decide) (in_r11 _ (List.mem_of_getElem? (i := 21) rfl)) rfl dX12_init_381 ?_
  refine lv_bipush (v := 20) hx hb dX12_init_384 (by decide) ?_
  refine lv_ldc2 hx hb hown (hts _ (hin _ (in_r13 _ (List.mem_of_getElem? (i := 12) rfl)))) dX12_init_386 ?_
  refine bp_last (k := 20) (V := z_W) hx hb hK hB hf (by unfold vp_in; decide) (by decide) (by decide) dX12_init_389 (fun H locs f hf hB => ?_)
  refine lv_aload_n hx hb dX12_init_390 rfl (lv_at hl 0 rfl) ?_
  refine bw_get hx hb hts hin hown hK hB rfl 10 (by decide) (in_r11 _ (List.mem_of_getElem? (i := 21) rfl)) rfl dX12_init_391 ?_
  refine lv_bipush (v := 21) hx hb dX12_init_394 (by decide) ?_
  refine lv_ldc2 hx hb hown (hts _ (hin _ (in_r13 _ (List.mem_of_getElem? (i := 13) rfl)))) dX12_init_396 ?_
  refine bp_last (k := 21) (V := z_W) hx hb hK hB hf (by unfold vp_in; decide) (by decide) (by decide) dX12_init_399 (fun H locs f hf hB => ?_)
  refine lv_aload_n hx hb dX12_init_400 rfl (lv_at hl 0 rfl) ?_
  refine bw_get hx hb hts hin hown hK hB rfl 10 (by decide) (in_r11 _ (List.mem_of_getElem? (i := 21) rfl)) rfl dX12_init_401 ?_
  refine lv_bipush (v := 22) hx hb dX12_init_404 (by decide) ?_
  refine lv_ldc2 hx hb hown (hts _ (hin _ (in_r13 _ (List.mem_of_getElem? (i := 14) rfl)))) dX12_init_406 ?_
  refine bp_last (k := 22) (V := z_W) hx hb hK hB hf (by unfold vp_in; decide) (by decide) (by decide) dX12_init_409 (fun H locs f hf hB => ?_)
  refine lv_aload_n hx hb dX12_init_410 rfl (lv_at hl 0 rfl) ?_
  refine bw_get hx hb hts hin hown hK hB rfl 10 (by decide) (in_r11 _ (List.mem_of_getElem? (i := 21) rfl)) rfl dX12_init_411 ?_
  refine lv_bipush (v := 23) hx hb dX12_init_414 (by decide) ?_
  refine lv_ldc2 hx hb hown (hts _ (hin _ (in_r13 _ (List.mem_of_getElem? (i := 15) rfl)))) dX12_init_416 ?_
  refine bp_last (k := 23) (V := z_W) hx hb hK hB hf (by unfold vp_in; decide) (by decide) (by decide) dX12_init_419 (fun H locs f hf hB => ?_)
  refine lv_aload_n hx hb dX12_init_420 rfl (lv_at hl 0 rfl) ?_
  refine bw_get hx hb hts hin hown hK hB rfl 10 (by decide) (in_r11 _ (List.mem_of_getElem? (i := 21) rfl)) rfl dX12_init_421 ?_
  refine lv_bipush (v := 24) hx hb dX12_init_424 (by decide) ?_
  refine lv_ldc2 hx hb hown (hts _ (hin _ (in_r13 _ (List.mem_of_getElem? (i := 16) rfl)))) dX12_init_426 ?_
  refine bp_last (k := 24) (V := z_W) hx hb hK hB hf (by unfold vp_in; decide) (by decide) (by decide) dX12_init_429 (fun H locs f hf hB => ?_)
  refine lv_aload_n hx hb dX12_init_430 rfl (lv_at hl 0 rfl) ?_
  refine bw_get hx hb hts hin hown hK hB rfl 10 (by decide) (in_r11 _ (List.mem_of_getElem? (i := 21) rfl)) rfl dX12_init_431 ?_
  refine lv_bipush (v := 25) hx hb dX12_init_434 (by decide) ?_
  refine lv_ldc2 hx hb hown (hts _ (hin _ (in_r13 _ (List.mem_of_getElem? (i := 17) rfl)))) dX12_init_436 ?_
  refine bp_last (k := 25) (V := z_W) hx hb hK hB hf (by unfold vp_in; decide) (by decide) (by decide) dX12_init_439 (fun H locs f hf hB => ?_)
  refine lv_aload_n hx hb dX12_init_440 rfl (lv_at hl 0 rfl) ?_
  refine bw_get hx hb hts hin hown hK hB rfl 10 (by decide) (in_r11 _ (List.mem_of_getElem? (i := 21) rfl)) rfl dX12_init_441 ?_
  refine lv_bipush (v := 26) hx hb dX12_init_444 (by decide) ?_
  refine lv_ldc2 hx hb hown (hts _ (hin _ (in_r13 _ (List.mem_of_getElem? (i := 18) rfl)))) dX12_init_446 ?_
  refine bp_last (k := 26) (V := z_W) hx hb hK hB hf (by unfold vp_in; decide) (by decide) (by decide) dX12_init_449 (fun H locs f hf hB => ?_)
  have hB := bp_mv (pre := [(a, .inr (12, [.int 0, .ref q8, .int 0, .int 0, .int 0, .int 0, .ref q17, .ref q26, .ref q35, .ref q43, .ref q51, .int 0, .int 0, .int 0, .int 0, .int 0, .int 0, .long 0, .int 0, .int 0, .ref q60, .ref q68, .int 0, .ref q76, .ref q84, .ref q92, .int 0, .int 0, .int 0, .int 0, .int 0, .int 0, .ref q100, .int (-1), .ref q113, .ref q121, .ref q129, .int (-1), .int 0, .int 0, .int 0, .int 0, .ref q141, .int 0, .ref q149, .int 0, .int 0, .int 0, .int 0, .int 0, .ref q157, .ref q166, .ref q174, .ref q181]))]) (t := 50) hB (bz_res (V := z_W) rfl (by decide +kernel) (fun k => rfl) (by decide +kernel) hf)
  have hB : bS D cys (bA a s.heap.size) s.heap [(a, .inr (12, [.int 0, .ref q8, .int 0, .int 0, .int 0, .int 0, .ref q17, .ref q26, .ref q35, .ref q43, .ref q51, .int 0, .int 0, .int 0, .int 0, .int 0, .int 0, .long 0, .int 0, .int 0, .ref q60, .ref q68, .int 0, .ref q76, .ref q84, .ref q92, .int 0, .int 0, .int 0, .int 0, .int 0, .int 0, .ref q100, .int (-1), .ref q113, .ref q121, .ref q129, .int (-1), .int 0, .int 0, .int 0, .int 0, .ref q141, .int 0, .ref q149, .int 0, .int 0, .int 0, .int 0, .int 0, .ref q157, .ref q166, .ref q174, .ref q181]))] [(q51, 50), (q181, 46), (q174, 109), (q166, 45), (q157, 44), (q149, 43), (q141, 42), (q129, 20), (q121, 41), (q113, 20), (q100, 20), (q92, 40), (q84, 39), (q76, 47), (q68, 38), (q60, 37), (q43, 19), (q35, 36), (q26, 35), (q17, 34), (q8, 49)] [50, 49, 34, 35, 36, 19, 37, 38, 47, 39, 40, 20, 20, 41, 20, 42, 43, 44, 45, 109, 46] _ _ := hB
  refine bw_ret (zs := [2, 3, 4, 11, 15, 18, 22, 41, 45, 46, 47, 49]) hx hb hr hlk hB rfl rfl (fun ty hty k ft hk => ?_) (by decide +kernel) (List.forall_mem_cons.mpr ⟨rfl, (List.forall_mem_cons.mpr ⟨rfl, (List.forall_mem_cons.mpr ⟨rfl, (List.forall_mem_cons.mpr ⟨rfl, (List.forall_mem_cons.mpr ⟨rfl, (List.forall_mem_cons.mpr ⟨rfl, (List.forall_mem_cons.mpr ⟨rfl, (List.forall_mem_cons.mpr ⟨rfl, (List.forall_mem_cons.mpr ⟨rfl, (List.forall_mem_cons.mpr ⟨rfl, (List.forall_mem_cons.mpr ⟨rfl, (List.forall_mem_cons.mpr ⟨rfl, (fun k hk => by cases hk)⟩)⟩)⟩)⟩)⟩)⟩)⟩)⟩)⟩)⟩)⟩)⟩) ⟨rfl, rfl⟩ dX12_init_450
  exact match k, hk with
    | 0, hk => by cases hk; exact ⟨_, rfl, bv_i (by decide) (by decide)⟩
    | 1, hk => by cases hk; exact ⟨_, rfl, ⟨_, rfl, hty _ (List.mem_of_getElem? (i := 20) rfl)⟩⟩
    | 2, hk => by cases hk; exact ⟨_, rfl, bv_i (by decide) (by decide)⟩
    | 3, hk => by cases hk; exact ⟨_, rfl, bv_i (by decide) (by decide)⟩
    | 4, hk => by cases hk; exact ⟨_, rfl, bv_i (by decide) (by decide)⟩
    | 5, hk => by cases hk; exact ⟨_, rfl, bv_i (by decide) (by decide)⟩
    | 6, hk => by cases hk; exact ⟨_, rfl, ⟨_, rfl, hty _ (List.mem_of_getElem? (i := 19) rfl)⟩⟩
    | 7, hk => by cases hk; exact ⟨_, rfl, ⟨_, rfl, hty _ (List.mem_of_getElem? (i := 18) rfl)⟩⟩
    | 8, hk => by cases hk; exact ⟨_, rfl, ⟨_, rfl, hty _ (List.mem_of_getElem? (i := 17) rfl)⟩⟩
    | 9, hk => by cases hk; exact ⟨_, rfl, ⟨_, rfl, hty _ (List.mem_of_getElem? (i := 16) rfl)⟩⟩
    | 10, hk => by cases hk; exact ⟨_, rfl, ⟨_, rfl, hty _ (List.mem_of_getElem? (i := 0) rfl)⟩⟩
    | 11, hk => by cases hk; exact ⟨_, rfl, bv_i (by decide) (by decide)⟩
    | 12, hk => by cases hk; exact ⟨_, rfl, bv_i (by decide) (by decide)⟩
    | 13, hk => by cases hk; exact ⟨_, rfl, bv_i (by decide) (by decide)⟩
    | 14, hk => by cases hk; exact ⟨_, rfl, bv_i (by decide) (by decide)⟩
    | 15, hk => by cases hk; exact ⟨_, rfl, bv_i (by decide) (by decide)⟩
    | 16, hk => by cases hk; exact ⟨_, rfl, bv_i (by decide) (by decide)⟩
    | 17, hk => by cases hk; exact ⟨_, rfl, ⟨_, rfl⟩⟩
    | 18, hk => by cases hk; exact ⟨_, rfl, bv_i (by decide) (by decide)⟩
    | 19, hk => by cases hk; exact ⟨_, rfl, bv_i (by decide) (by decide)⟩
    | 20, hk => by cases hk; exact ⟨_, rfl, ⟨_, rfl, hty _ (List.mem_of_getElem? (i := 15) rfl)⟩⟩
    | 21, hk => by cases hk; exact ⟨_, rfl, ⟨_, rfl, hty _ (List.mem_of_getElem? (i := 14) rfl)⟩⟩
    | 22, hk => by cases hk; exact ⟨_, rfl, bv_i (by decide) (by decide)⟩
    | 23, hk => by cases hk; exact ⟨_, rfl, ⟨_, rfl, hty _ (List.mem_of_getElem? (i := 13) rfl)⟩⟩
    | 24, hk => by cases hk; exact ⟨_, rfl, ⟨_, rfl, hty _ (List.mem_of_getElem? (i := 12) rfl)⟩⟩
    | 25, hk => by cases hk; exact ⟨_, rfl, ⟨_, rfl, hty _ (List.mem_of_getElem? (i := 11) rfl)⟩⟩
    | 26, hk => by cases hk; exact ⟨_, rfl, bv_i (by decide) (by decide)⟩
    | 27, hk => by cases hk; exact ⟨_, rfl, bv_i (by decide) (by decide)⟩
    | 28, hk => by cases hk; exact ⟨_, rfl, bv_i (by decide) (by decide)⟩
    | 29, hk => by cases hk; exact ⟨_, rfl, bv_i (by decide) (by decide)⟩
    | 30, hk => by cases hk; exact ⟨_, rfl, bv_i (by decide) (by decide)⟩
    | 31, hk => by cases hk; exact ⟨_, rfl, bv_i (by decide) (by decide)⟩
    | 32, hk => by cases hk; exact ⟨_, rfl, ⟨_, rfl, hty _ (List.mem_of_getElem? (i := 10) rfl)⟩⟩
    | 33, hk => by cases hk; exact ⟨_, rfl, bv_i (by decide) (by decide)⟩
    | 34, hk => by cases hk; exact ⟨_, rfl, ⟨_, rfl, hty _ (List.mem_of_getElem? (i := 9) rfl)⟩⟩
    | 35, hk => by cases hk; exact ⟨_, rfl, ⟨_, rfl, hty _ (List.mem_of_getElem? (i := 8) rfl)⟩⟩
    | 36, hk => by cases hk; exact ⟨_, rfl, ⟨_, rfl, hty _ (List.mem_of_getElem? (i := 7) rfl)⟩⟩
    | 37, hk => by cases hk; exact ⟨_, rfl, bv_i (by decide) (by decide)⟩
    | 38, hk => by cases hk; exact ⟨_, rfl, bv_i (by decide) (by decide)⟩
    | 39, hk => by cases hk; exact ⟨_, rfl, bv_i (by decide) (by decide)⟩
    | 40, hk => by cases hk; exact ⟨_, rfl, bv_i (by decide) (by decide)⟩
    | 41, hk => by cases hk; exact ⟨_, rfl, bv_i (by decide) (by decide)⟩
    | 42, hk => by cases hk; exact ⟨_, rfl, ⟨_, rfl, hty _ (List.mem_of_getElem? (i := 6) rfl)⟩⟩
    | 43, hk => by cases hk; exact ⟨_, rfl, bv_i (by decide) (by decide)⟩
    | 44, hk => by cases hk; exact ⟨_, rfl, ⟨_, rfl, hty _ (List.mem_of_getElem? (i := 5) rfl)⟩⟩
    | 45, hk => by cases hk; exact ⟨_, rfl, bv_i (by decide) (by decide)⟩
    | 46, hk => by cases hk; exact ⟨_, rfl, bv_i (by decide) (by decide)⟩
    | 47, hk => by cases hk; exact ⟨_, rfl, bv_i (by decide) (by decide)⟩
    | 48, hk => by cases hk; exact ⟨_, rfl, bv_i (by decide) (by decide)⟩
    | 49, hk => by cases hk; exact ⟨_, rfl, bv_i (by decide) (by decide)⟩
    | 50, hk => by cases hk; exact ⟨_, rfl, ⟨_, rfl, hty _ (List.mem_of_getElem? (i := 4) rfl)⟩⟩
    | 51, hk => by cases hk; exact ⟨_, rfl, ⟨_, rfl, hty _ (List.mem_of_getElem? (i := 3) rfl)⟩⟩
    | 52, hk => by cases hk; exact ⟨_, rfl, ⟨_, rfl, hty _ (List.mem_of_getElem? (i := 2) rfl)⟩⟩
    | 53, hk => by cases hk; exact ⟨_, rfl, ⟨_, rfl, hty _ (List.mem_of_getElem? (i := 1) rfl)⟩⟩
    | n + 54, hk => by cases hk
abbrev tg_4i : List ck_AV := [.inl (0, 1, []), .inr (.inl 51), .inr (.inl 2), .inr (.inl 110)]
theorem b_d4 : ∀ j, j < 4 → defaultValue (tyX4 j) = vp_V [.int 0, .null, .null, .null] j := fun j hj => match j, hj with
  | 0, _ => rfl
  | 1, _ => rfl
  | 2, _ => rfl
  | 3, _ => rfl
  | n + 4, h => absurd h (by omega)
theorem dX4_init_0 : decode cX4_init 0 = .ok (.aload_n 0, 1) := by decide +kernel
theorem dX4_init_1 : decode cX4_init 1 = .ok (.invokespecial 1, 3) := by decide +kernel
theorem dX4_init_4 : decode cX4_init 4 = .ok (.aload_n 0, 1) := by decide +kernel
theorem dX4_init_5 : decode cX4_init 5 = .ok (.iconst 0, 1) := by decide +kernel
theorem dX4_init_6 : decode cX4_init 6 = .ok (.putfield 7, 3) := by decide +kernel
theorem dX4_init_9 : decode cX4_init 9 = .ok (.aload_n 0, 1) := by decide +kernel
theorem dX4_init_10 : decode cX4_init 10 = .ok (.new 13, 3) := by decide +kernel
theorem dX4_init_13 : decode cX4_init 13 = .ok (.dup, 1) := by decide +kernel
theorem dX4_init_14 : decode cX4_init 14 = .ok (.invokespecial 15, 3) := by decide +kernel
theorem dX4_init_17 : decode cX4_init 17 = .ok (.putfield 16, 3) := by decide +kernel
theorem dX4_init_20 : decode cX4_init 20 = .ok (.aload_n 0, 1) := by decide +kernel
theorem dX4_init_21 : decode cX4_init 21 = .ok (.new 20, 3) := by decide +kernel
theorem dX4_init_24 : decode cX4_init 24 = .ok (.dup, 1) := by decide +kernel
theorem dX4_init_25 : decode cX4_init 25 = .ok (.invokespecial 22, 3) := by decide +kernel
theorem dX4_init_28 : decode cX4_init 28 = .ok (.putfield 23, 3) := by decide +kernel
theorem dX4_init_31 : decode cX4_init 31 = .ok (.aload_n 0, 1) := by decide +kernel
theorem dX4_init_32 : decode cX4_init 32 = .ok (.new 27, 3) := by decide +kernel
theorem dX4_init_35 : decode cX4_init 35 = .ok (.dup, 1) := by decide +kernel
theorem dX4_init_36 : decode cX4_init 36 = .ok (.invokespecial 29, 3) := by decide +kernel
theorem dX4_init_39 : decode cX4_init 39 = .ok (.putfield 30, 3) := by decide +kernel
theorem dX4_init_42 : decode cX4_init 42 = .ok (.return_, 1) := by decide +kernel
set_option maxRecDepth 100000 in
set_option maxHeartbeats 4000000 in
theorem con_4i : bCon l D cys yX4_init cX4_init 1 3 55 26 389 4 [.int 0, .null, .null, .null] 4 [4, 51, 81, 82, 83, 84, 85, 86, 87, 88, 89, 90, 91, 92, 93, 94, 2, 26, 26, 21, 21, 21, 110, 25, 25, 25, 25] := by
  refine bw_enter (o := 4) (by decide) rfl rfl (by decide) ?_
  intro a p e s m below meth c ls hx hb hml hr hlk hts hown hT hin2 hl hA hB
  have hin : ∀ w ∈ wsL_law0, w ∈ Jvm.Cond.code yX4_init cX4_init 1 none :: wsL_law0 := fun w hw => List.mem_cons_of_mem _ hw
  have hK := hT.1
  refine lv_aload_n hx hb dX4_init_0 rfl (lv_at hl 0 rfl) ?_
  refine W.objInit hx hb hown (hts _ (hin _ (in_r11 _ (List.mem_of_getElem? (i := 2) rfl)))) (hts _ (hin _ (in_r1 _ (List.mem_of_getElem? (i := 11) rfl)))) (hts _ (hin _ (in_r1 _ (List.mem_of_getElem? (i := 12) rfl)))) rfl (by rw [hml]; exact hl.1) rfl dX4_init_1 (Nat.le_of_ble_eq_true rfl) (Nat.le_of_ble_eq_true rfl) ?_
  refine W.eq (g2 := F0 m 4 ls []) rfl ?_
  refine lv_aload_n hx hb dX4_init_4 rfl (lv_at hl 0 rfl) ?_
  refine lv_iconst (v := 0) hx hb dX4_init_5 (by decide) ?_
  refine bw_put (v := .int 0) (fty := (.boolean)) hx hb hts hin hown hK hin2 hB rfl 0 (by decide) (in_r11 _ (List.mem_of_getElem? (i := 3) rfl)) rfl (by decide +kernel) rfl rfl (Nat.le_of_ble_eq_true rfl) dX4_init_6 (fun H locs hB => ?_)
  have hB : bS D cys (bA a s.heap.size) s.heap [(a, .inr (4, [.int 0, .null, .null, .null]))] [] [] _ _ := hB
  refine lv_aload_n hx hb dX4_init_9 rfl (lv_at hl 0 rfl) ?_
  refine bw_newn (con_6i) hx hb hml hl hts hin hown hT hA hB rfl tyX6_ok b_d6 (in_r11 _ (List.mem_of_getElem? (i := 4) rfl)) (in_r1 _ (List.mem_of_getElem? (i := 22) rfl)) (in_r1 _ (List.mem_of_getElem? (i := 23) rfl)) (in_r6 _ (List.mem_of_getElem? (i := 23) rfl)) (in_r7 _ (List.mem_of_getElem? (i := 0) rfl)) (List.mem_of_getElem? (i := 7) rfl) rfl (by decide +kernel) ⟨Nat.le_of_ble_eq_true rfl, Nat.le_of_ble_eq_true rfl⟩ (Nat.le_of_ble_eq_true rfl) (Nat.le_of_ble_eq_true rfl) (Nat.le_of_ble_eq_true rfl) dX4_init_10 dX4_init_13 dX4_init_14 (fun q10 H locs hB => ?_)
  have hB : bS D cys (bA a s.heap.size) s.heap [(a, .inr (4, [.int 0, .null, .null, .null]))] [(q10, 51)] [51, 81, 82, 83, 84, 85, 86, 87, 88, 89, 90, 91, 92, 93, 94] _ _ := hB
  refine bw_put (v := .ref q10) (fty := (.object "RecastStage$Play")) hx hb hts hin hown hK hin2 hB rfl 1 (by decide) (in_r11 _ (List.mem_of_getElem? (i := 5) rfl)) rfl (by decide +kernel) rfl rfl (Nat.le_of_ble_eq_true rfl) dX4_init_17 (fun H locs hB => ?_)
  have hB : bS D cys (bA a s.heap.size) s.heap [(a, .inr (4, [.int 0, .ref q10, .null, .null]))] [(q10, 51)] [51, 81, 82, 83, 84, 85, 86, 87, 88, 89, 90, 91, 92, 93, 94] _ _ := hB
  refine lv_aload_n hx hb dX4_init_20 rfl (lv_at hl 0 rfl) ?_
  refine bw_newo (con_2) hx hb hml hl hts hin hown hT hA hB rfl tyX2_ok b_d2 (in_r11 _ (List.mem_of_getElem? (i := 6) rfl)) (in_r2 _ (List.mem_of_getElem? (i := 2) rfl)) (in_r2 _ (List.mem_of_getElem? (i := 3) rfl)) (in_r7 _ (List.mem_of_getElem? (i := 23) rfl)) (in_r8 _ (List.mem_of_getElem? (i := 0) rfl)) (in_r11 _ (List.mem_of_getElem? (i := 10) rfl)) rfl (by decide +kernel) ⟨Nat.le_of_ble_eq_true rfl, Nat.le_of_ble_eq_true rfl⟩ (Nat.le_of_ble_eq_true rfl) (Nat.le_of_ble_eq_true rfl) (Nat.le_of_ble_eq_true rfl) dX4_init_21 dX4_init_24 dX4_init_25 (fun q21 H locs hB => ?_)
  have hB : bS D cys (bA a s.heap.size) s.heap [(a, .inr (4, [.int 0, .ref q10, .null, .null]))] [(q21, 2), (q10, 51)] [51, 81, 82, 83, 84, 85, 86, 87, 88, 89, 90, 91, 92, 93, 94, 2, 26, 26, 21, 21, 21] _ _ := hB
  refine bw_put (v := .ref q21) (fty := (.object "RecastStage$Evening")) hx hb hts hin hown hK hin2 hB rfl 2 (by decide) (in_r11 _ (List.mem_of_getElem? (i := 7) rfl)) rfl (by decide +kernel) rfl rfl (Nat.le_of_ble_eq_true rfl) dX4_init_28 (fun H locs hB => ?_)
  have hB : bS D cys (bA a s.heap.size) s.heap [(a, .inr (4, [.int 0, .ref q10, .ref q21, .null]))] [(q21, 2), (q10, 51)] [51, 81, 82, 83, 84, 85, 86, 87, 88, 89, 90, 91, 92, 93, 94, 2, 26, 26, 21, 21, 21] _ _ := hB
  refine lv_aload_n hx hb dX4_init_31 rfl (lv_at hl 0 rfl) ?_
  refine bw_newn (con_9 110 rfl (by decide +kernel)) hx hb hml hl hts hin hown hT hA hB rfl tyX9_ok b_d9 (in_r11 _ (List.mem_of_getElem? (i := 8) rfl)) (in_r2 _ (List.mem_of_getElem? (i := 11) rfl)) (in_r2 _ (List.mem_of_getElem? (i := 12) rfl)) (in_r9 _ (List.mem_of_getElem? (i := 4) rfl)) (in_r9 _ (List.mem_of_getElem? (i := 5) rfl)) (List.mem_of_getElem? (i := 8) rfl) rfl (by decide +kernel) ⟨Nat.le_of_ble_eq_true rfl, Nat.le_of_ble_eq_true rfl⟩ (Nat.le_of_ble_eq_true rfl) (Nat.le_of_ble_eq_true rfl) (Nat.le_of_ble_eq_true rfl) dX4_init_32 dX4_init_35 dX4_init_36 (fun q32 H locs hB => ?_)
  have hB : bS D cys (bA a s.heap.size) s.heap [(a, .inr (4, [.int 0, .ref q10, .ref q21, .null]))] [(q32, 110), (q21, 2), (q10, 51)] [51, 81, 82, 83, 84, 85, 86, 87, 88, 89, 90, 91, 92, 93, 94, 2, 26, 26, 21, 21, 21, 110, 25, 25, 25, 25] _ _ := hB
  refine bw_put (v := .ref q32) (fty := (.object "RecastStage$Sentence")) hx hb hts hin hown hK hin2 hB rfl 3 (by decide) (in_r11 _ (List.mem_of_getElem? (i := 9) rfl)) rfl (by decide +kernel) rfl rfl (Nat.le_of_ble_eq_true rfl) dX4_init_39 (fun H locs hB => ?_)
  have hB : bS D cys (bA a s.heap.size) s.heap [(a, .inr (4, [.int 0, .ref q10, .ref q21, .ref q32]))] [(q32, 110), (q21, 2), (q10, 51)] [51, 81, 82, 83, 84, 85, 86, 87, 88, 89, 90, 91, 92, 93, 94, 2, 26, 26, 21, 21, 21, 110, 25, 25, 25, 25] _ _ := hB
  refine bw_ret (zs := [0]) hx hb hr hlk hB rfl rfl (fun ty hty k ft hk => ?_) (by decide +kernel) (List.forall_mem_cons.mpr ⟨rfl, (fun k hk => by cases hk)⟩) ⟨rfl, rfl⟩ dX4_init_42
  exact match k, hk with
    | 0, hk => by cases hk; exact ⟨_, rfl, bv_i (by decide) (by decide)⟩
    | 1, hk => by cases hk; exact ⟨_, rfl, ⟨_, rfl, hty _ (List.mem_of_getElem? (i := 2) rfl)⟩⟩
    | 2, hk => by cases hk; exact ⟨_, rfl, ⟨_, rfl, hty _ (List.mem_of_getElem? (i := 1) rfl)⟩⟩
    | 3, hk => by cases hk; exact ⟨_, rfl, ⟨_, rfl, hty _ (List.mem_of_getElem? (i := 0) rfl)⟩⟩
    | n + 4, hk => by cases hk
abbrev tg_4j : List ck_AV := [.inl (0, 1, []), .inr (.inl 52), .inr (.inl 2), .inr (.inl 111)]
set_option maxRecDepth 100000 in
set_option maxHeartbeats 4000000 in
theorem con_4j : bCon l D cys yX4_init cX4_init 1 3 55 26 389 4 [.int 0, .null, .null, .null] 48 [48, 52, 95, 96, 97, 98, 99, 100, 101, 102, 103, 104, 105, 106, 107, 108, 2, 26, 26, 21, 21, 21, 111, 25, 25, 25, 25] := by
  refine bw_enter (o := 4) (by decide) rfl rfl (by decide) ?_
  intro a p e s m below meth c ls hx hb hml hr hlk hts hown hT hin2 hl hA hB
  have hin : ∀ w ∈ wsL_law0, w ∈ Jvm.Cond.code yX4_init cX4_init 1 none :: wsL_law0 := fun w hw => List.mem_cons_of_mem _ hw
  have hK := hT.1
  refine lv_aload_n hx hb dX4_init_0 rfl (lv_at hl 0 rfl) ?_
  refine W.objInit hx hb hown (hts _ (hin _ (in_r11 _ (List.mem_of_getElem? (i := 2) rfl)))) (hts _ (hin _ (in_r1 _ (List.mem_of_getElem? (i := 11) rfl)))) (hts _ (hin _ (in_r1 _ (List.mem_of_getElem? (i := 12) rfl)))) rfl (by rw [hml]; exact hl.1) rfl dX4_init_1 (Nat.le_of_ble_eq_true rfl) (Nat.le_of_ble_eq_true rfl) ?_
  refine W.eq (g2 := F0 m 4 ls []) rfl ?_
  refine lv_aload_n hx hb dX4_init_4 rfl (lv_at hl 0 rfl) ?_
  refine lv_iconst (v := 0) hx hb dX4_init_5 (by decide) ?_
  refine bw_put (v := .int 0) (fty := (.boolean)) hx hb hts hin hown hK hin2 hB rfl 0 (by decide) (in_r11 _ (List.mem_of_getElem? (i := 3) rfl)) rfl (by decide +kernel) rfl rfl (Nat.le_of_ble_eq_true rfl) dX4_init_6 (fun H locs hB => ?_)
  have hB : bS D cys (bA a s.heap.size) s.heap [(a, .inr (4, [.int 0, .null, .null, .null]))] [] [] _ _ := hB
  refine lv_aload_n hx hb dX4_init_9 rfl (lv_at hl 0 rfl) ?_
  refine bw_newn (con_6j) hx hb hml hl hts hin hown hT hA hB rfl tyX6_ok b_d6 (in_r11 _ (List.mem_of_getElem? (i := 4) rfl)) (in_r1 _ (List.mem_of_getElem? (i := 22) rfl)) (in_r1 _ (List.mem_of_getElem? (i := 23) rfl)) (in_r6 _ (List.mem_of_getElem? (i := 23) rfl)) (in_r7 _ (List.mem_of_getElem? (i := 0) rfl)) (List.mem_of_getElem? (i := 7) rfl) rfl (by decide +kernel) ⟨Nat.le_of_ble_eq_true rfl, Nat.le_of_ble_eq_true rfl⟩ (Nat.le_of_ble_eq_true rfl) (Nat.le_of_ble_eq_true rfl) (Nat.le_of_ble_eq_true rfl) dX4_init_10 dX4_init_13 dX4_init_14 (fun q10 H locs hB => ?_)
  have hB : bS D cys (bA a s.heap.size) s.heap [(a, .inr (4, [.int 0, .null, .null, .null]))] [(q10, 52)] [52, 95, 96, 97, 98, 99, 100, 101, 102, 103, 104, 105, 106, 107, 108] _ _ := hB
  refine bw_put (v := .ref q10) (fty := (.object "RecastStage$Play")) hx hb hts hin hown hK hin2 hB rfl 1 (by decide) (in_r11 _ (List.mem_of_getElem? (i := 5) rfl)) rfl (by decide +kernel) rfl rfl (Nat.le_of_ble_eq_true rfl) dX4_init_17 (fun H locs hB => ?_)
  have hB : bS D cys (bA a s.heap.size) s.heap [(a, .inr (4, [.int 0, .ref q10, .null, .null]))] [(q10, 52)] [52, 95, 96, 97, 98, 99, 100, 101, 102, 103, 104, 105, 106, 107, 108] _ _ := hB
  refine lv_aload_n hx hb dX4_init_20 rfl (lv_at hl 0 rfl) ?_
  refine bw_newo (con_2) hx hb hml hl hts hin hown hT hA hB rfl tyX2_ok b_d2 (in_r11 _ (List.mem_of_getElem? (i := 6) rfl)) (in_r2 _ (List.mem_of_getElem? (i := 2) rfl)) (in_r2 _ (List.mem_of_getElem? (i := 3) rfl)) (in_r7 _ (List.mem_of_getElem? (i := 23) rfl)) (in_r8 _ (List.mem_of_getElem? (i := 0) rfl)) (in_r11 _ (List.mem_of_getElem? (i := 10) rfl)) rfl (by decide +kernel) ⟨Nat.le_of_ble_eq_true rfl, Nat.le_of_ble_eq_true rfl⟩ (Nat.le_of_ble_eq_true rfl) (Nat.le_of_ble_eq_true rfl) (Nat.le_of_ble_eq_true rfl) dX4_init_21 dX4_init_24 dX4_init_25 (fun q21 H locs hB => ?_)
  have hB : bS D cys (bA a s.heap.size) s.heap [(a, .inr (4, [.int 0, .ref q10, .null, .null]))] [(q21, 2), (q10, 52)] [52, 95, 96, 97, 98, 99, 100, 101, 102, 103, 104, 105, 106, 107, 108, 2, 26, 26, 21, 21, 21] _ _ := hB
  refine bw_put (v := .ref q21) (fty := (.object "RecastStage$Evening")) hx hb hts hin hown hK hin2 hB rfl 2 (by decide) (in_r11 _ (List.mem_of_getElem? (i := 7) rfl)) rfl (by decide +kernel) rfl rfl (Nat.le_of_ble_eq_true rfl) dX4_init_28 (fun H locs hB => ?_)
  have hB : bS D cys (bA a s.heap.size) s.heap [(a, .inr (4, [.int 0, .ref q10, .ref q21, .null]))] [(q21, 2), (q10, 52)] [52, 95, 96, 97, 98, 99, 100, 101, 102, 103, 104, 105, 106, 107, 108, 2, 26, 26, 21, 21, 21] _ _ := hB
  refine lv_aload_n hx hb dX4_init_31 rfl (lv_at hl 0 rfl) ?_
  refine bw_newn (con_9 111 rfl (by decide +kernel)) hx hb hml hl hts hin hown hT hA hB rfl tyX9_ok b_d9 (in_r11 _ (List.mem_of_getElem? (i := 8) rfl)) (in_r2 _ (List.mem_of_getElem? (i := 11) rfl)) (in_r2 _ (List.mem_of_getElem? (i := 12) rfl)) (in_r9 _ (List.mem_of_getElem? (i := 4) rfl)) (in_r9 _ (List.mem_of_getElem? (i := 5) rfl)) (List.mem_of_getElem? (i := 8) rfl) rfl (by decide +kernel) ⟨Nat.le_of_ble_eq_true rfl, Nat.le_of_ble_eq_true rfl⟩ (Nat.le_of_ble_eq_true rfl) (Nat.le_of_ble_eq_true rfl) (Nat.le_of_ble_eq_true rfl) dX4_init_32 dX4_init_35 dX4_init_36 (fun q32 H locs hB => ?_)
  have hB : bS D cys (bA a s.heap.size) s.heap [(a, .inr (4, [.int 0, .ref q10, .ref q21, .null]))] [(q32, 111), (q21, 2), (q10, 52)] [52, 95, 96, 97, 98, 99, 100, 101, 102, 103, 104, 105, 106, 107, 108, 2, 26, 26, 21, 21, 21, 111, 25, 25, 25, 25] _ _ := hB
  refine bw_put (v := .ref q32) (fty := (.object "RecastStage$Sentence")) hx hb hts hin hown hK hin2 hB rfl 3 (by decide) (in_r11 _ (List.mem_of_getElem? (i := 9) rfl)) rfl (by decide +kernel) rfl rfl (Nat.le_of_ble_eq_true rfl) dX4_init_39 (fun H locs hB => ?_)
  have hB : bS D cys (bA a s.heap.size) s.heap [(a, .inr (4, [.int 0, .ref q10, .ref q21, .ref q32]))] [(q32, 111), (q21, 2), (q10, 52)] [52, 95, 96, 97, 98, 99, 100, 101, 102, 103, 104, 105, 106, 107, 108, 2, 26, 26, 21, 21, 21, 111, 25, 25, 25, 25] _ _ := hB
  refine bw_ret (zs := [0]) hx hb hr hlk hB rfl rfl (fun ty hty k ft hk => ?_) (by decide +kernel) (List.forall_mem_cons.mpr ⟨rfl, (fun k hk => by cases hk)⟩) ⟨rfl, rfl⟩ dX4_init_42
  exact match k, hk with
    | 0, hk => by cases hk; exact ⟨_, rfl, bv_i (by decide) (by decide)⟩
    | 1, hk => by cases hk; exact ⟨_, rfl, ⟨_, rfl, hty _ (List.mem_of_getElem? (i := 2) rfl)⟩⟩
    | 2, hk => by cases hk; exact ⟨_, rfl, ⟨_, rfl, hty _ (List.mem_of_getElem? (i := 1) rfl)⟩⟩
    | 3, hk => by cases hk; exact ⟨_, rfl, ⟨_, rfl, hty _ (List.mem_of_getElem? (i := 0) rfl)⟩⟩
    | n + 4, hk => by cases hk
abbrev tg_3 : List ck_AV := [.inr (.inl 32), .inl (0, 7, []), .inl (0, 8, [])]
theorem b_d3 : ∀ j, j < 3 → defaultValue (tyX3 j) = vp_V [.null, .int 0, .int 0] j := fun j hj => match j, hj with
  | 0, _ => rfl
  | 1, _ => rfl
  | 2, _ => rfl
  | n + 3, h => absurd h (by omega)
theorem dX3_init_0 : decode cX3_init 0 = .ok (.aload_n 0, 1) := by decide +kernel
theorem dX3_init_1 : decode cX3_init 1 = .ok (.invokespecial 3, 3) := by decide +kernel
theorem dX3_init_4 : decode cX3_init 4 = .ok (.aload_n 0, 1) := by decide +kernel
theorem dX3_init_5 : decode cX3_init 5 = .ok (.bipush 8, 2) := by decide +kernel
theorem dX3_init_7 : decode cX3_init 7 = .ok (.anewarray 9, 3) := by decide +kernel
theorem dX3_init_10 : decode cX3_init 10 = .ok (.putfield 11, 3) := by decide +kernel
theorem dX3_init_13 : decode cX3_init 13 = .ok (.aload_n 0, 1) := by decide +kernel
theorem dX3_init_14 : decode cX3_init 14 = .ok (.iconst 0, 1) := by decide +kernel
theorem dX3_init_15 : decode cX3_init 15 = .ok (.putfield 17, 3) := by decide +kernel
theorem dX3_init_18 : decode cX3_init 18 = .ok (.aload_n 0, 1) := by decide +kernel
theorem dX3_init_19 : decode cX3_init 19 = .ok (.iconst 0, 1) := by decide +kernel
theorem dX3_init_20 : decode cX3_init 20 = .ok (.putfield 21, 3) := by decide +kernel
theorem dX3_init_23 : decode cX3_init 23 = .ok (.iconst 0, 1) := by decide +kernel
theorem dX3_init_24 : decode cX3_init 24 = .ok (.istore_n 1, 1) := by decide +kernel
theorem dX3_init_25 : decode cX3_init 25 = .ok (.iload_n 1, 1) := by decide +kernel
theorem dX3_init_26 : decode cX3_init 26 = .ok (.bipush 8, 2) := by decide +kernel
theorem dX3_init_28 : decode cX3_init 28 = .ok (.if_icmp .ge 22, 3) := by decide +kernel
theorem dX3_init_31 : decode cX3_init 31 = .ok (.aload_n 0, 1) := by decide +kernel
theorem dX3_init_32 : decode cX3_init 32 = .ok (.getfield 11, 3) := by decide +kernel
theorem dX3_init_35 : decode cX3_init 35 = .ok (.iload_n 1, 1) := by decide +kernel
theorem dX3_init_36 : decode cX3_init 36 = .ok (.new 9, 3) := by decide +kernel
theorem dX3_init_39 : decode cX3_init 39 = .ok (.dup, 1) := by decide +kernel
theorem dX3_init_40 : decode cX3_init 40 = .ok (.invokespecial 24, 3) := by decide +kernel
theorem dX3_init_43 : decode cX3_init 43 = .ok (.aastore, 1) := by decide +kernel
theorem dX3_init_44 : decode cX3_init 44 = .ok (.iinc 1 1, 3) := by decide +kernel
theorem dX3_init_47 : decode cX3_init 47 = .ok (.goto (-22), 3) := by decide +kernel
theorem dX3_init_50 : decode cX3_init 50 = .ok (.return_, 1) := by decide +kernel
set_option maxRecDepth 100000 in
set_option maxHeartbeats 4000000 in
theorem con_3 : bCon l D cys yX3_init cX3_init 2 3 55 49 400 3 [.null, .int 0, .int 0] 3 [3, 32, 2, 26, 26, 21, 21, 21, 2, 26, 26, 21, 21, 21, 2, 26, 26, 21, 21, 21, 2, 26, 26, 21, 21, 21, 2, 26, 26, 21, 21, 21, 2, 26, 26, 21, 21, 21, 2, 26, 26, 21, 21, 21, 2, 26, 26, 21, 21, 21] := by
  refine bw_enter (o := 3) (by decide) rfl rfl (by decide) ?_
  intro a p e s m below meth c ls hx hb hml hr hlk hts hown hT hin2 hl hA hB
  have hin : ∀ w ∈ wsL_law0, w ∈ Jvm.Cond.code yX3_init cX3_init 2 none :: wsL_law0 := fun w hw => List.mem_cons_of_mem _ hw
  have hK := hT.1
  refine lv_aload_n hx hb dX3_init_0 rfl (lv_at hl 0 rfl) ?_
  refine W.objInit hx hb hown (hts _ (hin _ (in_r8 _ (List.mem_of_getElem? (i := 22) rfl)))) (hts _ (hin _ (in_r1 _ (List.mem_of_getElem? (i := 11) rfl)))) (hts _ (hin _ (in_r1 _ (List.mem_of_getElem? (i := 12) rfl)))) rfl (by rw [hml]; exact hl.1) rfl dX3_init_1 (Nat.le_of_ble_eq_true rfl) (Nat.le_of_ble_eq_true rfl) ?_
  refine W.eq (g2 := F0 m 4 ls []) rfl ?_
  refine lv_aload_n hx hb dX3_init_4 rfl (lv_at hl 0 rfl) ?_
  refine lv_bipush (v := 8) hx hb dX3_init_5 (by decide) ?_
  refine bw_newq (C := RX2) (kd := 4) (N' := 8) hx hb hts hin hown hK hT.2.2.2.1 hA hB (in_r8 _ (List.mem_of_getElem? (i := 23) rfl)) rfl (by decide) (by decide) (by decide) (Nat.le_of_ble_eq_true rfl) (Nat.le_of_ble_eq_true rfl) dX3_init_7 (fun q7 H hB => ?_)
  have hB : bS D cys (bA a s.heap.size) s.heap [(a, .inr (3, [.null, .int 0, .int 0])), (q7, .inl (cys 4, 8, .inr (.inr (.inr (.inr (fun _ => none))))))] [] [] _ _ := hB
  refine bw_put (v := .ref q7) (fty := (.array (.object "RecastStage$Evening"))) hx hb hts hin hown hK hin2 hB rfl 0 (by decide) (in_r9 _ (List.mem_of_getElem? (i := 0) rfl)) rfl (by decide +kernel) rfl rfl (Nat.le_of_ble_eq_true rfl) dX3_init_10 (fun H locs hB => ?_)
  have hB : bS D cys (bA a s.heap.size) s.heap [(a, .inr (3, [.ref q7, .int 0, .int 0])), (q7, .inl (cys 4, 8, .inr (.inr (.inr (.inr (fun _ => none))))))] [] [] _ _ := hB
  refine lv_aload_n hx hb dX3_init_13 rfl (lv_at hl 0 rfl) ?_
  refine lv_iconst (v := 0) hx hb dX3_init_14 (by decide) ?_
  refine bw_put (v := .int 0) (fty := (.int)) hx hb hts hin hown hK hin2 hB rfl 1 (by decide) (in_r9 _ (List.mem_of_getElem? (i := 1) rfl)) rfl (by decide +kernel) rfl rfl (Nat.le_of_ble_eq_true rfl) dX3_init_15 (fun H locs hB => ?_)
  have hB : bS D cys (bA a s.heap.size) s.heap [(a, .inr (3, [.ref q7, .int 0, .int 0])), (q7, .inl (cys 4, 8, .inr (.inr (.inr (.inr (fun _ => none))))))] [] [] _ _ := hB
  refine lv_aload_n hx hb dX3_init_18 rfl (lv_at hl 0 rfl) ?_
  refine lv_iconst (v := 0) hx hb dX3_init_19 (by decide) ?_
  refine bw_put (v := .int 0) (fty := (.int)) hx hb hts hin hown hK hin2 hB rfl 2 (by decide) (in_r9 _ (List.mem_of_getElem? (i := 2) rfl)) rfl (by decide +kernel) rfl rfl (Nat.le_of_ble_eq_true rfl) dX3_init_20 (fun H locs hB => ?_)
  have hB : bS D cys (bA a s.heap.size) s.heap [(a, .inr (3, [.ref q7, .int 0, .int 0])), (q7, .inl (cys 4, 8, .inr (.inr (.inr (.inr (fun _ => none))))))] [] [] _ _ := hB
  refine lv_iconst (v := 0) hx hb dX3_init_23 (by decide) ?_
  refine lv_istore_n (lv' := [(1, .int 0), (0, .ref a)]) hx hb dX3_init_24 rfl hl (by decide) rfl (fun ls hl => ?_)
  refine lv_iload_n hx hb dX3_init_25 rfl (lv_at hl 0 rfl) ?_
  refine lv_bipush (v := 8) hx hb dX3_init_26 (by decide) ?_
  refine lv_icmp_ge (tgt := 50) hx hb dX3_init_28 (by decide) (fun h => absurd h (by decide)) (fun _ => ?_)
  refine lv_aload_n hx hb dX3_init_31 rfl (lv_at hl 1 rfl) ?_
  refine bw_get hx hb hts hin hown hK hB rfl 0 (by decide) (in_r9 _ (List.mem_of_getElem? (i := 0) rfl)) rfl dX3_init_32 ?_
  refine lv_iload_n hx hb dX3_init_35 rfl (lv_at hl 0 rfl) ?_
  refine bw_newo (con_2) hx hb hml hl hts hin hown hT hA hB rfl tyX2_ok b_d2 (in_r8 _ (List.mem_of_getElem? (i := 23) rfl)) (in_r2 _ (List.mem_of_getElem? (i := 2) rfl)) (in_r2 _ (List.mem_of_getElem? (i := 3) rfl)) (in_r7 _ (List.mem_of_getElem? (i := 23) rfl)) (in_r8 _ (List.mem_of_getElem? (i := 0) rfl)) (in_r9 _ (List.mem_of_getElem? (i := 3) rfl)) rfl (by decide +kernel) ⟨Nat.le_of_ble_eq_true rfl, Nat.le_of_ble_eq_true rfl⟩ (Nat.le_of_ble_eq_true rfl) (Nat.le_of_ble_eq_true rfl) (Nat.le_of_ble_eq_true rfl) dX3_init_36 dX3_init_39 dX3_init_40 (fun q36_0 H locs hB => ?_)
  have hB : bS D cys (bA a s.heap.size) s.heap [(a, .inr (3, [.ref q7, .int 0, .int 0])), (q7, .inl (cys 4, 8, .inr (.inr (.inr (.inr (fun _ => none))))))] [(q36_0, 2)] [2, 26, 26, 21, 21, 21] _ _ := hB
  refine bw_astq (k := 1) (kd := 4) (i' := 0) hx hb hK hB rfl (List.mem_of_getElem? (i := 0) rfl) rfl rfl rfl (by unfold vp_in; decide) (by decide) dX3_init_43 (fun H locs hB => ?_)
  have hB : bS D cys (bA a s.heap.size) s.heap [(a, .inr (3, [.ref q7, .int 0, .int 0])), (q7, .inl (cys 4, 8, .inr (.inr (.inr (.inr (va_up (fun _ => none) 0 (some q36_0)))))))] [(q36_0, 2)] [2, 26, 26, 21, 21, 21] _ _ := hB
  refine lv_iinc (v := 1) (lv' := [(1, .int 1), (0, .ref a)]) hx hb dX3_init_44 hl (k := 0) rfl (by decide) (by decide) rfl (fun ls hl => ?_)
  refine lv_goto (tgt := 25) hx hb dX3_init_47 (by decide) ?_
  refine lv_iload_n hx hb dX3_init_25 rfl (lv_at hl 0 rfl) ?_
  refine lv_bipush (v := 8) hx hb dX3_init_26 (by decide) ?_
  refine lv_icmp_ge (tgt := 50) hx hb dX3_init_28 (by decide) (fun h => absurd h (by decide)) (fun _ => ?_)
  refine lv_aload_n hx hb dX3_init_31 rfl (lv_at hl 1 rfl) ?_
  refine bw_get hx hb hts hin hown hK hB rfl 0 (by decide) (in_r9 _ (List.mem_of_getElem? (i := 0) rfl)) rfl dX3_init_32 ?_
  refine lv_iload_n hx hb dX3_init_35 rfl (lv_at hl 0 rfl) ?_
  refine bw_newo (con_2) hx hb hml hl hts hin hown hT hA hB rfl tyX2_ok b_d2 (in_r8 _ (List.mem_of_getElem? (i := 23) rfl)) (in_r2 _ (List.mem_of_getElem? (i := 2) rfl)) (in_r2 _ (List.mem_of_getElem? (i := 3) rfl)) (in_r7 _ (List.mem_of_getElem? (i := 23) rfl)) (in_r8 _ (List.mem_of_getElem? (i := 0) rfl)) (in_r9 _ (List.mem_of_getElem? (i := 3) rfl)) rfl (by decide +kernel) ⟨Nat.le_of_ble_eq_true rfl, Nat.le_of_ble_eq_true rfl⟩ (Nat.le_of_ble_eq_true rfl) (Nat.le_of_ble_eq_true rfl) (Nat.le_of_ble_eq_true rfl) dX3_init_36 dX3_init_39 dX3_init_40 (fun q36_1 H locs hB => ?_)
  have hB : bS D cys (bA a s.heap.size) s.heap [(a, .inr (3, [.ref q7, .int 0, .int 0])), (q7, .inl (cys 4, 8, .inr (.inr (.inr (.inr (va_up (fun _ => none) 0 (some q36_0)))))))] [(q36_1, 2), (q36_0, 2)] [2, 26, 26, 21, 21, 21, 2, 26, 26, 21, 21, 21] _ _ := hB
  refine bw_astq (k := 1) (kd := 4) (i' := 1) hx hb hK hB rfl (List.mem_of_getElem? (i := 0) rfl) rfl rfl rfl (by unfold vp_in; decide) (by decide) dX3_init_43 (fun H locs hB => ?_)
  have hB : bS D cys (bA a s.heap.size) s.heap [(a, .inr (3, [.ref q7, .int 0, .int 0])), (q7, .inl (cys 4, 8, .inr (.inr (.inr (.inr (va_up (va_up (fun _ => none) 0 (some q36_0)) 1 (some q36_1)))))))] [(q36_1, 2), (q36_0, 2)] [2, 26, 26, 21, 21, 21, 2, 26, 26, 21, 21, 21] _ _ := hB
  refine lv_iinc (v := 2) (lv' := [(1, .int 2), (0, .ref a)]) hx hb dX3_init_44 hl (k := 0) rfl (by decide) (by decide) rfl (fun ls hl => ?_)
  refine lv_goto (tgt := 25) hx hb dX3_init_47 (by decide) ?_
  refine lv_iload_n hx hb dX3_init_25 rfl (lv_at hl 0 rfl) ?_
  refine lv_bipush (v := 8) hx hb dX3_init_26 (by decide) ?_
  refine lv_icmp_ge (tgt := 50) hx hb dX3_init_28 (by decide) (fun h => absurd h (by decide)) (fun _ => ?_)
  refine lv_aload_n hx hb dX3_init_31 rfl (lv_at hl 1 rfl) ?_
  refine bw_get hx hb hts hin hown hK hB rfl 0 (by decide) (in_r9 _ (List.mem_of_getElem? (i := 0) rfl)) rfl dX3_init_32 ?_
  refine lv_iload_n hx hb dX3_init_35 rfl (lv_at hl 0 rfl) ?_
  refine bw_newo (con_2) hx hb hml hl hts hin hown hT hA hB rfl tyX2_ok b_d2 (in_r8 _ (List.mem_of_getElem? (i := 23) rfl)) (in_r2 _ (List.mem_of_getElem? (i := 2) rfl)) (in_r2 _ (List.mem_of_getElem? (i := 3) rfl)) (in_r7 _ (List.mem_of_getElem? (i := 23) rfl)) (in_r8 _ (List.mem_of_getElem? (i := 0) rfl)) (in_r9 _ (List.mem_of_getElem? (i := 3) rfl)) rfl (by decide +kernel) ⟨Nat.le_of_ble_eq_true rfl, Nat.le_of_ble_eq_true rfl⟩ (Nat.le_of_ble_eq_true rfl) (Nat.le_of_ble_eq_true rfl) (Nat.le_of_ble_eq_true rfl) dX3_init_36 dX3_init_39 dX3_init_40 (fun q36_2 H locs hB => ?_)
  have hB : bS D cys (bA a s.heap.size) s.heap [(a, .inr (3, [.ref q7, .int 0, .int 0])), (q7, .inl (cys 4, 8, .inr (.inr (.inr (.inr (va_up (va_up (fun _ => none) 0 (some q36_0)) 1 (some q36_1)))))))] [(q36_2, 2), (q36_1, 2), (q36_0, 2)] [2, 26, 26, 21, 21, 21, 2, 26, 26, 21, 21, 21, 2, 26, 26, 21, 21, 21] _ _ := hB
  refine bw_astq (k := 1) (kd := 4) (i' := 2) hx hb hK hB rfl (List.mem_of_getElem? (i := 0) rfl) rfl rfl rfl (by unfold vp_in; decide) (by decide) dX3_init_43 (fun H locs hB => ?_)
  have hB : bS D cys (bA a s.heap.size) s.heap [(a, .inr (3, [.ref q7, .int 0, .int 0])), (q7, .inl (cys 4, 8, .inr (.inr (.inr (.inr (va_up (va_up (va_up (fun _ => none) 0 (some q36_0)) 1 (some q36_1)) 2 (some q36_2)))))))] [(q36_2, 2), (q36_1, 2), (q36_0, 2)] [2, 26, 26, 21, 21, 21, 2, 26, 26, 21, 21, 21, 2, 26, 26, 21, 21, 21] _ _ := hB
  refine lv_iinc (v := 3) (lv' := [(1, .int 3), (0, .ref a)]) hx hb dX3_init_44 hl (k := 0) rfl (by decide) (by decide) rfl (fun ls hl => ?_)
  refine lv_goto (tgt := 25) hx hb dX3_init_47 (by decide) ?_
  refine lv_iload_n hx hb dX3_init_25 rfl (lv_at hl 0 rfl) ?_
  refine lv_bipush (v := 8) hx hb dX3_init_26 (by decide) ?_
  refine lv_icmp_ge (tgt := 50) hx hb dX3_init_28 (by decide) (fun h => absurd h (by decide)) (fun _ => ?_)
  refine lv_aload_n hx hb dX3_init_31 rfl (lv_at hl 1 rfl) ?_
  refine bw_get hx hb hts hin hown hK hB rfl 0 (by decide) (in_r9 _ (List.mem_of_getElem? (i := 0) rfl)) rfl dX3_init_32 ?_
  refine lv_iload_n hx hb dX3_init_35 rfl (lv_at hl 0 rfl) ?_
  refine bw_newo (con_2) hx hb hml hl hts hin hown hT hA hB rfl tyX2_ok b_d2 (in_r8 _ (List.mem_of_getElem? (i := 23) rfl)) (in_r2 _ (List.mem_of_getElem? (i := 2) rfl)) (in_r2 _ (List.mem_of_getElem? (i := 3) rfl)) (in_r7 _ (List.mem_of_getElem? (i := 23) rfl)) (in_r8 _ (List.mem_of_getElem? (i := 0) rfl)) (in_r9 _ (List.mem_of_getElem? (i := 3) rfl)) rfl (by decide +kernel) ⟨Nat.le_of_ble_eq_true rfl, Nat.le_of_ble_eq_true rfl⟩ (Nat.le_of_ble_eq_true rfl) (Nat.le_of_ble_eq_true rfl) (Nat.le_of_ble_eq_true rfl) dX3_init_36 dX3_init_39 dX3_init_40 (fun q36_3 H locs hB => ?_)
  have hB : bS D cys (bA a s.heap.size) s.heap [(a, .inr (3, [.ref q7, .int 0, .int 0])), (q7, .inl (cys 4, 8, .inr (.inr (.inr (.inr (va_up (va_up (va_up (fun _ => none) 0 (some q36_0)) 1 (some q36_1)) 2 (some q36_2)))))))] [(q36_3, 2), (q36_2, 2), (q36_1, 2), (q36_0, 2)] [2, 26, 26, 21, 21, 21, 2, 26, 26, 21, 21, 21, 2, 26, 26, 21, 21, 21, 2, 26, 26, 21, 21, 21] _ _ := hB
  refine bw_astq (k := 1) (kd := 4) (i' := 3) hx hb hK hB rfl (List.mem_of_getElem? (i := 0) rfl) rfl rfl rfl (by unfold vp_in; decide) (by decide) dX3_init_43 (fun H locs hB => ?_)
  have hB : bS D cys (bA a s.heap.size) s.heap [(a, .inr (3, [.ref q7, .int 0, .int 0])), (q7, .inl (cys 4, 8, .inr (.inr (.inr (.inr (va_up (va_up (va_up (va_up (fun _ => none) 0 (some q36_0)) 1 (some q36_1)) 2 (some q36_2)) 3 (some q36_3)))))))] [(q36_3, 2), (q36_2, 2), (q36_1, 2), (q36_0, 2)] [2, 26, 26, 21, 21, 21, 2, 26, 26, 21, 21, 21, 2, 26, 26, 21, 21, 21, 2, 26, 26, 21, 21, 21] _ _ := hB
  refine lv_iinc (v := 4) (lv' := [(1, .int 4), (0, .ref a)]) hx hb dX3_init_44 hl (k := 0) rfl (by decide) (by decide) rfl (fun ls hl => ?_)
  refine lv_goto (tgt := 25) hx hb dX3_init_47 (by decide) ?_
  refine lv_iload_n hx hb dX3_init_25 rfl (lv_at hl 0 rfl) ?_
  refine lv_bipush (v := 8) hx hb dX3_init_26 (by decide) ?_
  refine lv_icmp_ge (tgt := 50) hx hb dX3_init_28 (by decide) (fun h => absurd h (by decide)) (fun _ => ?_)
  refine lv_aload_n hx hb dX3_init_31 rfl (lv_at hl 1 rfl) ?_
  refine bw_get hx hb hts hin hown hK hB rfl 0 (by decide) (in_r9 _ (List.mem_of_getElem? (i := 0) rfl)) rfl dX3_init_32 ?_
  refine lv_iload_n hx hb dX3_init_35 rfl (lv_at hl 0 rfl) ?_
  refine bw_newo (con_2) hx hb hml hl hts hin hown hT hA hB rfl tyX2_ok b_d2 (in_r8 _ (List.mem_of_getElem? (i := 23) rfl)) (in_r2 _ (List.mem_of_getElem? (i := 2) rfl)) (in_r2 _ (List.mem_of_getElem? (i := 3) rfl)) (in_r7 _ (List.mem_of_getElem? (i := 23) rfl)) (in_r8 _ (List.mem_of_getElem? (i := 0) rfl)) (in_r9 _ (List.mem_of_getElem? (i := 3) rfl)) rfl (by decide +kernel) ⟨Nat.le_of_ble_eq_true rfl, Nat.le_of_ble_eq_true rfl⟩ (Nat.le_of_ble_eq_true rfl) (Nat.le_of_ble_eq_true rfl) (Nat.le_of_ble_eq_true rfl) dX3_init_36 dX3_init_39 dX3_init_40 (fun q36_4 H locs hB => ?_)
  have hB : bS D cys (bA a s.heap.size) s.heap [(a, .inr (3, [.ref q7, .int 0, .int 0])), (q7, .inl (cys 4, 8, .inr (.inr (.inr (.inr (va_up (va_up (va_up (va_up (fun _ => none) 0 (some q36_0)) 1 (some q36_1)) 2 (some q36_2)) 3 (some q36_3)))))))] [(q36_4, 2), (q36_3, 2), (q36_2, 2), (q36_1, 2), (q36_0, 2)] [2, 26, 26, 21, 21, 21, 2, 26, 26, 21, 21, 21, 2, 26, 26, 21, 21, 21, 2, 26, 26, 21, 21, 21, 2, 26, 26, 21, 21, 21] _ _ := hB
  refine bw_astq (k := 1) (kd := 4) (i' := 4) hx hb hK hB rfl (List.mem_of_getElem? (i := 0) rfl) rfl rfl rfl (by unfold vp_in; decide) (by decide) dX3_init_43 (fun H locs hB => ?_)
  have hB : bS D cys (bA a s.heap.size) s.heap [(a, .inr (3, [.ref q7, .int 0, .int 0])), (q7, .inl (cys 4, 8, .inr (.inr (.inr (.inr (va_up (va_up (va_up (va_up (va_up (fun _ => none) 0 (some q36_0)) 1 (some q36_1)) 2 (some q36_2)) 3 (some q36_3)) 4 (some q36_4)))))))] [(q36_4, 2), (q36_3, 2), (q36_2, 2), (q36_1, 2), (q36_0, 2)] [2, 26, 26, 21, 21, 21, 2, 26, 26, 21, 21, 21, 2, 26, 26, 21, 21, 21, 2, 26, 26, 21, 21, 21, 2, 26, 26, 21, 21, 21] _ _ := hB
  refine lv_iinc (v := 5) (lv' := [(1, .int 5), (0, .ref a)]) hx hb dX3_init_44 hl (k := 0) rfl (by decide) (by decide) rfl (fun ls hl => ?_)
  refine lv_goto (tgt := 25) hx hb dX3_init_47 (by decide) ?_
  refine lv_iload_n hx hb dX3_init_25 rfl (lv_at hl 0 rfl) ?_
  refine lv_bipush (v := 8) hx hb dX3_init_26 (by decide) ?_
  refine lv_icmp_ge (tgt := 50) hx hb dX3_init_28 (by decide) (fun h => absurd h (by decide)) (fun _ => ?_)
  refine lv_aload_n hx hb dX3_init_31 rfl (lv_at hl 1 rfl) ?_
  refine bw_get hx hb hts hin hown hK hB rfl 0 (by decide) (in_r9 _ (List.mem_of_getElem? (i := 0) rfl)) rfl dX3_init_32 ?_
  refine lv_iload_n hx hb dX3_init_35 rfl (lv_at hl 0 rfl) ?_
  refine bw_newo (con_2) hx hb hml hl hts hin hown hT hA hB rfl tyX2_ok b_d2 (in_r8 _ (List.mem_of_getElem? (i := 23) rfl)) (in_r2 _ (List.mem_of_getElem? (i := 2) rfl)) (in_r2 _ (List.mem_of_getElem? (i := 3) rfl)) (in_r7 _ (List.mem_of_getElem? (i := 23) rfl)) (in_r8 _ (List.mem_of_getElem? (i := 0) rfl)) (in_r9 _ (List.mem_of_getElem? (i := 3) rfl)) rfl (by decide +kernel) ⟨Nat.le_of_ble_eq_true rfl, Nat.le_of_ble_eq_true rfl⟩ (Nat.le_of_ble_eq_true rfl) (Nat.le_of_ble_eq_true rfl) (Nat.le_of_ble_eq_true rfl) dX3_init_36 dX3_init_39 dX3_init_40 (fun q36_5 H locs hB => ?_)
  have hB : bS D cys (bA a s.heap.size) s.heap [(a, .inr (3, [.ref q7, .int 0, .int 0])), (q7, .inl (cys 4, 8, .inr (.inr (.inr (.inr (va_up (va_up (va_up (va_up (va_up (fun _ => none) 0 (some q36_0)) 1 (some q36_1)) 2 (some q36_2)) 3 (some q36_3)) 4 (some q36_4)))))))] [(q36_5, 2), (q36_4, 2), (q36_3, 2), (q36_2, 2), (q36_1, 2), (q36_0, 2)] [2, 26, 26, 21, 21, 21, 2, 26, 26, 21, 21, 21, 2, 26, 26, 21, 21, 21, 2, 26, 26, 21, 21, 21, 2, 26, 26, 21, 21, 21, 2, 26, 26, 21, 21, 21] _ _ := hB
  refine bw_astq (k := 1) (kd := 4) (i' := 5) hx hb hK hB rfl (List.mem_of_getElem? (i := 0) rfl) rfl rfl rfl (by unfold vp_in; decide) (by decide) dX3_init_43 (fun H locs hB => ?_)
  have hB : bS D cys (bA a s.heap.size) s.heap [(a, .inr (3, [.ref q7, .int 0, .int 0])), (q7, .inl (cys 4, 8, .inr (.inr (.inr (.inr (va_up (va_up (va_up (va_up (va_up (va_up (fun _ => none) 0 (some q36_0)) 1 (some q36_1)) 2 (some q36_2)) 3 (some q36_3)) 4 (some q36_4)) 5 (some q36_5)))))))] [(q36_5, 2), (q36_4, 2), (q36_3, 2), (q36_2, 2), (q36_1, 2), (q36_0, 2)] [2, 26, 26, 21, 21, 21, 2, 26, 26, 21, 21, 21, 2, 26, 26, 21, 21, 21, 2, 26, 26, 21, 21, 21, 2, 26, 26, 21, 21, 21, 2, 26, 26, 21, 21, 21] _ _ := hB
  refine lv_iinc (v := 6) (lv' := [(1, .int 6), (0, .ref a)]) hx hb dX3_init_44 hl (k := 0) rfl (by decide) (by decide) rfl (fun ls hl => ?_)
  refine lv_goto (tgt := 25) hx hb dX3_init_47 (by decide) ?_
  refine lv_iload_n hx hb dX3_init_25 rfl (lv_at hl 0 rfl) ?_
  refine lv_bipush (v := 8) hx hb dX3_init_26 (by decide) ?_
  refine lv_icmp_ge (tgt := 50) hx hb dX3_init_28 (by decide) (fun h => absurd h (by decide)) (fun _ => ?_)
  refine lv_aload_n hx hb dX3_init_31 rfl (lv_at hl 1 rfl) ?_
  refine bw_get hx hb hts hin hown hK hB rfl 0 (by decide) (in_r9 _ (List.mem_of_getElem? (i := 0) rfl)) rfl dX3_init_32 ?_
  refine lv_iload_n hx hb dX3_init_35 rfl (lv_at hl 0 rfl) ?_
  refine bw_newo (con_2) hx hb hml hl hts hin hown hT hA hB rfl tyX2_ok b_d2 (in_r8 _ (List.mem_of_getElem? (i := 23) rfl)) (in_r2 _ (List.mem_of_getElem? (i := 2) rfl)) (in_r2 _ (List.mem_of_getElem? (i := 3) rfl)) (in_r7 _ (List.mem_of_getElem? (i := 23) rfl)) (in_r8 _ (List.mem_of_getElem? (i := 0) rfl)) (in_r9 _ (List.mem_of_getElem? (i := 3) rfl)) rfl (by decide +kernel) ⟨Nat.le_of_ble_eq_true rfl, Nat.le_of_ble_eq_true rfl⟩ (Nat.le_of_ble_eq_true rfl) (Nat.le_of_ble_eq_true rfl) (Nat.le_of_ble_eq_true rfl) dX3_init_36 dX3_init_39 dX3_init_40 (fun q36_6 H locs hB => ?_)
  have hB : bS D cys (bA a s.heap.size) s.heap [(a, .inr (3, [.ref q7, .int 0, .int 0])), (q7, .inl (cys 4, 8, .inr (.inr (.inr (.inr (va_up (va_up (va_up (va_up (va_up (va_up (fun _ => none) 0 (some q36_0)) 1 (some q36_1)) 2 (some q36_2)) 3 (some q36_3)) 4 (some q36_4)) 5 (some q36_5)))))))] [(q36_6, 2), (q36_5, 2), (q36_4, 2), (q36_3, 2), (q36_2, 2), (q36_1, 2), (q36_0, 2)] [2, 26, 26, 21, 21, 21, 2, 26, 26, 21, 21, 21, 2, 26, 26, 21, 21, 21, 2, 26, 26, 21, 21, 21, 2, 26, 26, 21, 21, 21, 2, 26, 26, 21, 21, 21, 2, 26, 26, 21, 21, 21] _ _ := hB
  refine bw_astq (k := 1) (kd := 4) (i' := 6) hx hb hK hB rfl (List.mem_of_getElem? (i := 0) rfl) rfl rfl rfl (by unfold vp_in; decide) (by decide) dX3_init_43 (fun H locs hB => ?_)
  have hB : bS D cys (bA a s.heap.size) s.heap [(a, .inr (3, [.ref q7, .int 0, .int 0])), (q7, .inl (cys 4, 8, .inr (.inr (.inr (.inr (va_up (va_up (va_up (va_up (va_up (va_up (va_up (fun _ => none) 0 (some q36_0)) 1 (some q36_1)) 2 (some q36_2)) 3 (some q36_3)) 4 (some q36_4)) 5 (some q36_5)) 6 (some q36_6)))))))] [(q36_6, 2), (q36_5, 2), (q36_4, 2), (q36_3, 2), (q36_2, 2), (q36_1, 2), (q36_0, 2)] [2, 26, 26, 21, 21, 21, 2, 26, 26, 21, 21, 21, 2, 26, 26, 21, 21, 21, 2, 26, 26, 21, 21, 21, 2, 26, 26, 21, 21, 21, 2, 26, 26, 21, 21, 21, 2, 26, 26, 21, 21, 21] _ _ := hB
  refine lv_iinc (v := 7) (lv' := [(1, .int 7), (0, .ref a)]) hx hb dX3_init_44 hl (k := 0) rfl (by decide) (by decide) rfl (fun ls hl => ?_)
  refine lv_goto (tgt := 25) hx hb dX3_init_47 (by decide) ?_
  refine lv_iload_n hx hb dX3_init_25 rfl (lv_at hl 0 rfl) ?_
  refine lv_bipush (v := 8) hx hb dX3_init_26 (by decide) ?_
  refine lv_icmp_ge (tgt := 50) hx hb dX3_init_28 (by decide) (fun h => absurd h (by decide)) (fun _ => ?_)
  refine lv_aload_n hx hb dX3_init_31 rfl (lv_at hl 1 rfl) ?_
  refine bw_get hx hb hts hin hown hK hB rfl 0 (by decide) (in_r9 _ (List.mem_of_getElem? (i := 0) rfl)) rfl dX3_init_32 ?_
  refine lv_iload_n hx hb dX3_init_35 rfl (lv_at hl 0 rfl) ?_
  refine bw_newo (con_2) hx hb hml hl hts hin hown hT hA hB rfl tyX2_ok b_d2 (in_r8 _ (List.mem_of_getElem? (i := 23) rfl)) (in_r2 _ (List.mem_of_getElem? (i := 2) rfl)) (in_r2 _ (List.mem_of_getElem? (i := 3) rfl)) (in_r7 _ (List.mem_of_getElem? (i := 23) rfl)) (in_r8 _ (List.mem_of_getElem? (i := 0) rfl)) (in_r9 _ (List.mem_of_getElem? (i := 3) rfl)) rfl (by decide +kernel) ⟨Nat.le_of_ble_eq_true rfl, Nat.le_of_ble_eq_true rfl⟩ (Nat.le_of_ble_eq_true rfl) (Nat.le_of_ble_eq_true rfl) (Nat.le_of_ble_eq_true rfl) dX3_init_36 dX3_init_39 dX3_init_40 (fun q36_7 H locs hB => ?_)
  have hB : bS D cys (bA a s.heap.size) s.heap [(a, .inr (3, [.ref q7, .int 0, .int 0])), (q7, .inl (cys 4, 8, .inr (.inr (.inr (.inr (va_up (va_up (va_up (va_up (va_up (va_up (va_up (fun _ => none) 0 (some q36_0)) 1 (some q36_1)) 2 (some q36_2)) 3 (some q36_3)) 4 (some q36_4)) 5 (some q36_5)) 6 (some q36_6)))))))] [(q36_7, 2), (q36_6, 2), (q36_5, 2), (q36_4, 2), (q36_3, 2), (q36_2, 2), (q36_1, 2), (q36_0, 2)] [2, 26, 26, 21, 21, 21, 2, 26, 26, 21, 21, 21, 2, 26, 26, 21, 21, 21, 2, 26, 26, 21, 21, 21, 2, 26, 26, 21, 21, 21, 2, 26, 26, 21, 21, 21, 2, 26, 26, 21, 21, 21, 2, 26, 26, 21, 21, 21] _ _ := hB
  refine bw_astq (k := 1) (kd := 4) (i' := 7) hx hb hK hB rfl (List.mem_of_getElem? (i := 0) rfl) rfl rfl rfl (by unfold vp_in; decide) (by decide) dX3_init_43 (fun H locs hB => ?_)
  have hB : bS D cys (bA a s.heap.size) s.heap [(a, .inr (3, [.ref q7, .int 0, .int 0])), (q7, .inl (cys 4, 8, .inr (.inr (.inr (.inr (va_up (va_up (va_up (va_up (va_up (va_up (va_up (va_up (fun _ => none) 0 (some q36_0)) 1 (some q36_1)) 2 (some q36_2)) 3 (some q36_3)) 4 (some q36_4)) 5 (some q36_5)) 6 (some q36_6)) 7 (some q36_7)))))))] [(q36_7, 2), (q36_6, 2), (q36_5, 2), (q36_4, 2), (q36_3, 2), (q36_2, 2), (q36_1, 2), (q36_0, 2)] [2, 26, 26, 21, 21, 21, 2, 26, 26, 21, 21, 21, 2, 26, 26, 21, 21, 21, 2, 26, 26, 21, 21, 21, 2, 26, 26, 21, 21, 21, 2, 26, 26, 21, 21, 21, 2, 26, 26, 21, 21, 21, 2, 26, 26, 21, 21, 21] _ _ := hB
  refine lv_iinc (v := 8) (lv' := [(1, .int 8), (0, .ref a)]) hx hb dX3_init_44 hl (k := 0) rfl (by decide) (by decide) rfl (fun ls hl => ?_)
  refine lv_goto (tgt := 25) hx hb dX3_init_47 (by decide) ?_
  refine lv_iload_n hx hb dX3_init_25 rfl (lv_at hl 0 rfl) ?_
  refine lv_bipush (v := 8) hx hb dX3_init_26 (by decide) ?_
  refine lv_icmp_ge (tgt := 50) hx hb dX3_init_28 (by decide) (fun _ => ?_) (fun h => absurd (by decide) h)
  have hB := bw_close (pre := [(a, .inr (3, [.ref q7, .int 0, .int 0]))]) (t := 32) hB rfl (by decide) (by decide +kernel) rfl (fun j hj => match j, hj with
    | 0, _ => ⟨_, rfl, List.mem_of_getElem? (i := 7) rfl⟩
    | 1, _ => ⟨_, rfl, List.mem_of_getElem? (i := 6) rfl⟩
    | 2, _ => ⟨_, rfl, List.mem_of_getElem? (i := 5) rfl⟩
    | 3, _ => ⟨_, rfl, List.mem_of_getElem? (i := 4) rfl⟩
    | 4, _ => ⟨_, rfl, List.mem_of_getElem? (i := 3) rfl⟩
    | 5, _ => ⟨_, rfl, List.mem_of_getElem? (i := 2) rfl⟩
    | 6, _ => ⟨_, rfl, List.mem_of_getElem? (i := 1) rfl⟩
    | 7, _ => ⟨_, rfl, List.mem_of_getElem? (i := 0) rfl⟩
    | n + 8, h => absurd h (by omega))
  have hB : bS D cys (bA a s.heap.size) s.heap [(a, .inr (3, [.ref q7, .int 0, .int 0]))] [(q7, 32), (q36_7, 2), (q36_6, 2), (q36_5, 2), (q36_4, 2), (q36_3, 2), (q36_2, 2), (q36_1, 2), (q36_0, 2)] [32, 2, 26, 26, 21, 21, 21, 2, 26, 26, 21, 21, 21, 2, 26, 26, 21, 21, 21, 2, 26, 26, 21, 21, 21, 2, 26, 26, 21, 21, 21, 2, 26, 26, 21, 21, 21, 2, 26, 26, 21, 21, 21, 2, 26, 26, 21, 21, 21] _ _ := hB
  refine bw_ret (zs := [2]) hx hb hr hlk hB rfl rfl (fun ty hty k ft hk => ?_) (by decide +kernel) (List.forall_mem_cons.mpr ⟨rfl, (fun k hk => by cases hk)⟩) ⟨rfl, rfl⟩ dX3_init_50
  exact match k, hk with
    | 0, hk => by cases hk; exact ⟨_, rfl, ⟨_, rfl, hty _ (List.mem_of_getElem? (i := 0) rfl)⟩⟩
    | 1, hk => by cases hk; exact ⟨_, rfl, bv_i (by decide) (by decide)⟩
    | 2, hk => by cases hk; exact ⟨_, rfl, bv_i (by decide) (by decide)⟩
    | n + 3, hk => by cases hk
end CON

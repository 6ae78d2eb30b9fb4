/-! THE LAW, 6: what the start gives. -/
theorem st_inst {k : Nat} {q : vw_C} (h : ck_cl[k]? = some q) : Jvm.Cond.instantiable q.1 q.2.2 ∈ wsL_law0 := by
  match k, h with
  | 0, h => cases h; exact (in_r3 _ (List.mem_of_getElem? (i := 0) rfl))
  | 1, h => cases h; exact (in_r2 _ (List.mem_of_getElem? (i := 16) rfl))
  | 2, h => cases h; exact (in_r2 _ (List.mem_of_getElem? (i := 2) rfl))
  | 3, h => cases h; exact (in_r2 _ (List.mem_of_getElem? (i := 7) rfl))
  | 4, h => cases h; exact (in_r3 _ (List.mem_of_getElem? (i := 8) rfl))
  | 5, h => cases h; exact (in_r2 _ (List.mem_of_getElem? (i := 20) rfl))
  | 6, h => cases h; exact (in_r1 _ (List.mem_of_getElem? (i := 22) rfl))
  | 7, h => cases h; exact (in_r1 _ (List.mem_of_getElem? (i := 18) rfl))
  | 8, h => cases h; exact (in_r1 _ (List.mem_of_getElem? (i := 14) rfl))
  | 9, h => cases h; exact (in_r2 _ (List.mem_of_getElem? (i := 11) rfl))
  | 10, h => cases h; exact (in_r3 _ (List.mem_of_getElem? (i := 15) rfl))
  | 11, h => cases h; exact (in_r1 _ (List.mem_of_getElem? (i := 1) rfl))
  | 12, h => cases h; exact (in_r1 _ (List.mem_of_getElem? (i := 4) rfl))
  | n + 13, h => simp [ck_cl] at h
theorem st_arr {s : State} {args : Array Value} {ty : FieldType} (h : (Jvm.Cond.arrayClass ty).before args s = true) (hty : ∀ C, ty ≠ .object C) : ∃ c : ClassId, ArrOfT s c ty ∧ va_RA s c ty := by
  obtain ⟨c, k, comp, h1, h2, h3⟩ := Cond.arrayClass_spec h
  refine ⟨c, fun N z => ⟨(fun k h => by cases h), k, h2, comp, h3⟩, ?_⟩
  cases ty with
  | object C => exact absurd rfl (hty C)
  | _ => exact h1
theorem st_arrO {s : State} {C : String} (h : va_AO C s) : ∃ c : ClassId, ArrOfT s c (.object C) ∧ va_RA s c (.object C) := by
  obtain ⟨comp, c, k, h1, h2, h3, h4, h5⟩ := Cond.arrayOver_spec h
  exact ⟨c, fun N z => ⟨(fun k h => by cases h), k, h3, comp, h4⟩, k, comp, h3, h4, h1, h5⟩
theorem st_bn : ∀ w ∈ b_nest, w.onTables = true := by decide +kernel
theorem st_bT {s : State} {args : Array Value} (hts : ∀ w ∈ lw_tbl, w.before args s = true) : ∃ (D : va_G) (cys : Nat → ClassId), bT D cys s := by
  have h0 : ∀ k : Nat, ∃ r : ClassId × (Nat → Nat), ∀ q, ck_cl[k]? = some q → u_Kn s q.1 q.2.1 q.2.2 r.1 r.2 := by
    intro k
    cases hq : ck_cl[k]? with
    | none => exact ⟨(0, fun _ => 0), fun q h => by cases h⟩
    | some q =>
      obtain ⟨cC, iS, h⟩ := u_known (C := q.1) (T := q.2.1) (N := q.2.2) (n := q.2.2) hts (fun w h => tb_law w ((ck_cl_ok hq).1 w h)) (hts _ (tb_law _ (st_inst hq)))
      exact ⟨(cC, iS), fun q' h' => by cases h'; exact h⟩
  obtain ⟨r, hr⟩ := Classical.axiomOfChoice h0
  have a2 : va_AO RX2 s := va_AO.of (hts _ (List.mem_of_getElem? (i := 481) (by decide +kernel)))
  have a4 : va_AO RX4 s := va_AO.of (hts _ (List.mem_of_getElem? (i := 630) (by decide +kernel)))
  obtain ⟨c0, k0⟩ := st_arr (ty := .int) (hts _ (tb_law _ (in_r3 _ (List.mem_of_getElem? (i := 5) rfl)))) (fun C h => by cases h)
  obtain ⟨c1, k1⟩ := st_arr (ty := .byte) (hts _ (tb_law _ (in_r4 _ (List.mem_of_getElem? (i := 7) rfl)))) (fun C h => by cases h)
  obtain ⟨c2, k2⟩ := st_arr (ty := .boolean) (hts _ (tb_law _ (in_r12 _ (List.mem_of_getElem? (i := 11) rfl)))) (fun C h => by cases h)
  obtain ⟨c3, k3⟩ := st_arr (ty := .long) (hts _ (tb_law _ (in_r1 _ (List.mem_of_getElem? (i := 6) rfl)))) (fun C h => by cases h)
  obtain ⟨c4, k4⟩ := st_arrO a2
  obtain ⟨c5, k5⟩ := st_arrO a4
  refine ⟨(fun k => (r k).1, fun k => (r k).2), fun k => match k with
    | 0 => c0
    | 1 => c1
    | 2 => c2
    | 3 => c3
    | 4 => c4
    | _ => c5, ⟨fun c q hq => hr c q hq, fun k q hk => ?_⟩, fun w hw => va_Nw.of (ck_nest_tab w hw) (hts w (tb_nest w hw)), fun w hw => va_Nw.of (st_bn w hw) (hts w (tb_bnest w hw)), a2, a4⟩
  match k, hk with
  | 0, hk => cases hk; exact k0
  | 1, hk => cases hk; exact k1
  | 2, hk => cases hk; exact k2
  | 3, hk => cases hk; exact k3
  | 4, hk => cases hk; exact k4
  | 5, hk => cases hk; exact k5
  | n + 6, hk => simp [ck_tys] at hk
theorem lt_el0 : ∀ j : Nat, j < 37 → (Jvm.Cond.eq (.elem (.field (.string "RecastStage$Reader" 47) "java/lang/String" "value" "[B") (.int (Int32.ofNat (0 + j)))) (.int (lt_bytes.getD (0 + j) 0))) ∈ flatC (Jvm.Cond.and given_1 narrow_1) := by decide +kernel
theorem lt_el1 : ∀ j : Nat, j < 37 → (Jvm.Cond.eq (.elem (.field (.string "RecastStage$Reader" 47) "java/lang/String" "value" "[B") (.int (Int32.ofNat (37 + j)))) (.int (lt_bytes.getD (37 + j) 0))) ∈ flatC (Jvm.Cond.and given_1 narrow_1) := by decide +kernel
theorem lt_el2 : ∀ j : Nat, j < 37 → (Jvm.Cond.eq (.elem (.field (.string "RecastStage$Reader" 47) "java/lang/String" "value" "[B") (.int (Int32.ofNat (74 + j)))) (.int (lt_bytes.getD (74 + j) 0))) ∈ flatC (Jvm.Cond.and given_1 narrow_1) := by decide +kernel
theorem lt_el3 : ∀ j : Nat, j < 37 → (Jvm.Cond.eq (.elem (.field (.string "RecastStage$Reader" 47) "java/lang/String" "value" "[B") (.int (Int32.ofNat (111 + j)))) (.int (lt_bytes.getD (111 + j) 0))) ∈ flatC (Jvm.Cond.and given_1 narrow_1) := by decide +kernel
theorem lt_el : ∀ j : Nat, j < 148 → (Jvm.Cond.eq (.elem (.field (.string "RecastStage$Reader" 47) "java/lang/String" "value" "[B") (.int (Int32.ofNat j))) (.int (lt_bytes.getD j 0))) ∈ flatC (Jvm.Cond.and given_1 narrow_1) := fun j hj => by
  rcases (show j < 37 ∨ (37 ≤ j ∧ j < 74) ∨ (74 ≤ j ∧ j < 111) ∨ 111 ≤ j by omega) with h | h | h | h
  · have e := lt_el0 (j - 0) (by omega)
    rwa [show 0 + (j - 0) = j by omega] at e
  · have e := lt_el1 (j - 37) (by omega)
    rwa [show 37 + (j - 37) = j by omega] at e
  · have e := lt_el2 (j - 74) (by omega)
    rwa [show 74 + (j - 74) = j by omega] at e
  · have e := lt_el3 (j - 111) (by omega)
    rwa [show 111 + (j - 111) = j by omega] at e
theorem st_lit {s : State} {args : Array Value} (hts : ∀ w ∈ lw_tbl, w.before args s = true) (hgv : (Jvm.Cond.and given_1 narrow_1).before args s = true) : ∃ (q v : Nat) (fo : Value), jX q v 148 (fun j => lt_bytes.getD j 0) fo lt_tx (fun a => s.heap.size ≤ a) s s.heap := by
  have hs := flat_of_before _ hgv
  have hA : ∀ a : Nat, a < s.heap.size → ¬ (fun a => s.heap.size ≤ a) a := fun a h => Nat.not_le.mpr h
  obtain ⟨adK, adV, hv, hev⟩ := vk_Sof (N := 1) (tm := fun _ => (.string "RecastStage$Reader" 47)) (len := [148]) (byt := [lt_bytes]) (A := fun a => s.heap.size ≤ a) (args := args) (s := s)
    (fun i hi => by rw [show i = 0 by omega]; exact (by decide : (148 : Nat) < 2 ^ 31))
    (fun i hi => hs _ (by decide +kernel)) (fun i hi => hs _ (by decide +kernel)) (fun i hi => hs _ (by decide +kernel))
    (fun i hi => by rw [show i = 0 by omega]; exact hs _ (by decide +kernel))
    (fun i hi j hj => by rw [show i = 0 by omega] at hj ⊢; exact hs _ (lt_el j hj))
    (fun i j hi hj h => absurd (show i = j by omega) h) hA
  obtain ⟨v1, v2, v3, v4⟩ := hv.1 0 (by omega)
  have z1 : va_Z "java/lang/String" "COMPACT_STRINGS" "Z" (.int 1) (fun a => s.heap.size ≤ a) s s.heap := va_Zof (hts _ (List.mem_of_getElem? (i := 174) (by decide +kernel))) (hts _ (List.mem_of_getElem? (i := 109) (by decide +kernel))) (va_eqt (hs _ (by decide +kernel))) hA
  have z0 : vk_R RX8 47 lt_tx (adK 0) s := vk_R.of (hts _ (List.mem_of_getElem? (i := 161) (by decide +kernel))) (hev 0 (by omega))
  rcases va_Zqof (hts _ (List.mem_of_getElem? (i := 190) (by decide +kernel))) (hts _ (List.mem_of_getElem? (i := 111) (by decide +kernel))) (hs (.isRef (.static "jdk/internal/util/Preconditions" "SIOOBE_FORMATTER" "Ljava/util/function/BiFunction;")) (by decide +kernel)) hA with z2 | ⟨t, z2⟩
  · exact ⟨adK 0, adV 0, .null, z0, z1, z2, v1, v2, v3, v4, rfl⟩
  · exact ⟨adK 0, adV 0, .ref t, z0, z1, z2, v1, v2, v3, v4, rfl⟩
theorem st_T {s : State} {args : Array Value} (hts : ∀ w ∈ lw_tbl, w.before args s = true) : mn_T s := fun w hw => va_Nw.of (mn_B_tab w hw) (hts w (tb_mnB w hw))
theorem st_S {s : State} {args : Array Value} (hts : ∀ w ∈ lw_tbl, w.before args s = true) (hgv : (Jvm.Cond.and given_1 narrow_1).before args s = true) : mn_S (fun a => s.heap.size ≤ a) s s.heap := by
  have hs := flat_of_before _ hgv
  have hA : ∀ a : Nat, a < s.heap.size → ¬ (fun a => s.heap.size ≤ a) a := fun a h => Nat.not_le.mpr h
  have hi : (Jvm.Cond.initialized Bundle.tN).before args s = true := hts _ (List.mem_of_getElem? (i := 125) (by decide +kernel))
  exact ⟨vx_Zqof (hts _ (List.mem_of_getElem? (i := 1444) (by decide +kernel))) hi (hs _ (by decide +kernel)) hA, vx_Zqof (hts _ (List.mem_of_getElem? (i := 1446) (by decide +kernel))) hi (hs _ (by decide +kernel)) hA⟩

/-! BY HAND, 13: the sentence's codes, its stack: what holds of them; code, nots, joins. -/
def ck_isL (LK : Nat → Nat → Option ck_En) (o ix : Nat) : Bool := match LK o ix with
  | some (.inr (.inr (.inl _))) => true
  | _ => false
theorem isL {LK : Nat → Nat → Option ck_En} {o ix : Nat} (h : ck_isL LK o ix = true) : LK o ix = some (.inr (.inr (.inl ()))) := by
  unfold ck_isL at h
  split at h
  · next u hq => exact hq
  · cases h
section H31a
variable {p : Program} {l : Launch} {e : Env} {R : Room} {s : State} {m : MethodId} {args : Array Value} {below : List Frame} {meth : Method} {c : Code} {H : Heap} {locs : List Loc} {Q : State → Prop} {cc : ByteArray} {pc : Nat} {ls : Array Slot} {rest : List Value} {D : va_G} {cys : Nat → ClassId} {LK : Nat → Nat → Option ck_En} {k : ck_K}
theorem hr_ldc2 (B : ck_At p s m args meth c D cys k) (hC : ck_LKc LK) (hb : c.code = cc) {index : Nat} (hl : LK (k_ow k) index = some (.inr (.inr (.inl ())))) (hdg : decode cc pc = .ok (.ldc2_w index, 3)) (kk : ∀ z : Int64, W p l e R s m args below meth c H locs 0 0 Q (F0 m (pc + 3) ls (.long z :: rest))) : W p l e R s m args below meth c H locs 0 0 Q (F0 m pc ls rest) := by
  obtain ⟨v, hv⟩ := (hC _ _).2 _ hl
  exact lv_ldc2 B.1 hb B.2.2.2.2.2.2.1 (B.2.2.2.2.2.1 _ (List.mem_cons_of_mem _ hv)) hdg (kk v)
end H31a
/-- the codes as they stand in read -/
def rf (C : Nat → Nat → Int32) : Nat → Int32
  | 0 => C 12 45
  | j + 1 => C 36 j
theorem rf_s {C : Nat → Nat → Int32} {j : Nat} : rf C (1 + j) = C 36 j := by rw [Nat.add_comm]; rfl
/-- how many on the stack bind two -/
def bn (C : Nat → Nat → Int32) : Nat → Int
  | 0 => 0
  | j + 1 => bn C j + (if (C 43 j).toInt = 21 ∨ (C 43 j).toInt = 22 then 1 else 0)
theorem bn_co {C C' : Nat → Nat → Int32} : ∀ {n : Nat}, (∀ j, j < n → C' 43 j = C 43 j) → bn C' n = bn C n
  | 0, _ => rfl
  | n + 1, h => by
    show bn C' n + _ = bn C n + _
    rw [bn_co (n := n) (fun j hj => h j (by omega)), h n (by omega)]
theorem bn_nn {C : Nat → Nat → Int32} : ∀ n : Nat, 0 ≤ bn C n
  | 0 => Int.le_refl _
  | n + 1 => by
    have := bn_nn (C := C) n
    show 0 ≤ bn C n + _
    split <;> omega
theorem bn_y {C : Nat → Nat → Int32} {n : Nat} (h : (C 43 n).toInt = 21 ∨ (C 43 n).toInt = 22) : bn C (n + 1) = bn C n + 1 := by
  show bn C n + _ = _
  rw [if_pos h]
theorem bn_n {C : Nat → Nat → Int32} {n : Nat} (h1 : (C 43 n).toInt ≠ 21) (h2 : (C 43 n).toInt ≠ 22) : bn C (n + 1) = bn C n := by
  show bn C n + _ = _
  rw [if_neg (by omega)]; omega
theorem dp_co2 {f g : Nat → Int32} : ∀ {n : Nat}, (∀ i, i < n → g (1 + 3 * i) = f (1 + 3 * i)) → dp g n = dp f n
  | 0, _ => rfl
  | n + 1, h => by
    show dp g n + _ = dp f n + _
    rw [dp_co2 (n := n) (fun j hj => h j (by omega)), h n (by omega)]
theorem code_ok {C C' : Nat → Nat → Int32} {n : Nat} (hn : (C 12 45).toInt = n) (hn' : (C' 12 45).toInt = n + 1) (hs : ∀ j, j < 3 * n → C' 36 j = C 36 j) (hc : cwf (rf C)) (h1 : (C' 36 (3 * n)).toInt = 20 → 1 ≤ dp (rf C) n) (h2 : (C' 36 (3 * n)).toInt = 21 ∨ (C' 36 (3 * n)).toInt = 22 → 2 ≤ dp (rf C) n) : cwf (rf C') ∧ dp (rf C') n = dp (rf C) n := by
  have key : ∀ m, m ≤ n → dp (rf C') m = dp (rf C) m := fun m hm => dp_co2 (fun i hi => by rw [rf_s, rf_s]; exact hs _ (by omega))
  refine ⟨fun i hi => ?_, key n (Nat.le_refl _)⟩
  have hi : (i : Int) < n + 1 := by rw [← hn']; exact hi
  rw [rf_s]
  by_cases e : i = n
  · subst e
    rw [key i (Nat.le_refl _)]
    exact ⟨h1, h2⟩
  · rw [hs _ (by omega), key i (by omega), ← rf_s (C := C)]
    exact hc i (by show (i : Int) < (C 12 45).toInt; omega)
/-- what holds of codes, stack, ones and isWhole between two steps of a sentence -/
def SI (C : Nat → Nat → Int32) : Prop := 0 ≤ (C 12 45).toInt ∧ 0 ≤ (C 12 47).toInt ∧ 0 ≤ (C 12 49).toInt ∧ (C 12 49).toInt ≤ 1 ∧ (C 12 45).toInt + (C 12 47).toInt + (C 12 49).toInt ≤ 2 * (C 12 46).toInt ∧ (C 12 46).toInt ≤ 20 ∧ cwf (rf C) ∧ dp (rf C) (C 12 45).toInt.toNat = bn C (C 12 47).toInt.toNat + (C 12 49).toInt
def sfr (C C' : Nat → Nat → Int32) : Prop := ∀ t j, t ≠ 36 → t ≠ 43 → ¬ (t = 12 ∧ (j = 45 ∨ j = 46 ∨ j = 47 ∨ j = 49)) → C' t j = C t j
theorem sfr_rf {C : Nat → Nat → Int32} : sfr C C := fun _ _ _ _ _ => rfl
theorem sfr_tr {C C' C'' : Nat → Nat → Int32} (a : sfr C C') (b : sfr C' C'') : sfr C C'' := fun t j h1 h2 h3 => (b t j h1 h2 h3).trans (a t j h1 h2 h3)
section H31
variable {l : Launch} {D : va_G} {cys : Nat → ClassId} {ty : Nat → Option Nat} {pvv : Nat → Int32} {C : Nat → Nat → Int32}
theorem dX12_code_0 : decode cX12_code 0 = .ok (.aload_n 0, 1) := by decide +kernel
theorem dX12_code_1 : decode cX12_code 1 = .ok (.getfield 40, 3) := by decide +kernel
theorem dX12_code_4 : decode cX12_code 4 = .ok (.iconst 3, 1) := by decide +kernel
theorem dX12_code_5 : decode cX12_code 5 = .ok (.aload_n 0, 1) := by decide +kernel
theorem dX12_code_6 : decode cX12_code 6 = .ok (.getfield 411, 3) := by decide +kernel
theorem dX12_code_9 : decode cX12_code 9 = .ok (.imul, 1) := by decide +kernel
theorem dX12_code_10 : decode cX12_code 10 = .ok (.iload_n 1, 1) := by decide +kernel
theorem dX12_code_11 : decode cX12_code 11 = .ok (.iastore, 1) := by decide +kernel
theorem dX12_code_12 : decode cX12_code 12 = .ok (.aload_n 0, 1) := by decide +kernel
theorem dX12_code_13 : decode cX12_code 13 = .ok (.getfield 40, 3) := by decide +kernel
theorem dX12_code_16 : decode cX12_code 16 = .ok (.iconst 3, 1) := by decide +kernel
theorem dX12_code_17 : decode cX12_code 17 = .ok (.aload_n 0, 1) := by decide +kernel
theorem dX12_code_18 : decode cX12_code 18 = .ok (.getfield 411, 3) := by decide +kernel
theorem dX12_code_21 : decode cX12_code 21 = .ok (.imul, 1) := by decide +kernel
theorem dX12_code_22 : decode cX12_code 22 = .ok (.iconst 1, 1) := by decide +kernel
theorem dX12_code_23 : decode cX12_code 23 = .ok (.iadd, 1) := by decide +kernel
theorem dX12_code_24 : decode cX12_code 24 = .ok (.iload_n 2, 1) := by decide +kernel
theorem dX12_code_25 : decode cX12_code 25 = .ok (.iastore, 1) := by decide +kernel
theorem dX12_code_26 : decode cX12_code 26 = .ok (.aload_n 0, 1) := by decide +kernel
theorem dX12_code_27 : decode cX12_code 27 = .ok (.getfield 40, 3) := by decide +kernel
theorem dX12_code_30 : decode cX12_code 30 = .ok (.iconst 3, 1) := by decide +kernel
theorem dX12_code_31 : decode cX12_code 31 = .ok (.aload_n 0, 1) := by decide +kernel
theorem dX12_code_32 : decode cX12_code 32 = .ok (.getfield 411, 3) := by decide +kernel
theorem dX12_code_35 : decode cX12_code 35 = .ok (.imul, 1) := by decide +kernel
theorem dX12_code_36 : decode cX12_code 36 = .ok (.iconst 2, 1) := by decide +kernel
theorem dX12_code_37 : decode cX12_code 37 = .ok (.iadd, 1) := by decide +kernel
theorem dX12_code_38 : decode cX12_code 38 = .ok (.iload_n 3, 1) := by decide +kernel
theorem dX12_code_39 : decode cX12_code 39 = .ok (.iastore, 1) := by decide +kernel
theorem dX12_code_40 : decode cX12_code 40 = .ok (.aload_n 0, 1) := by decide +kernel
theorem dX12_code_41 : decode cX12_code 41 = .ok (.dup, 1) := by decide +kernel
theorem dX12_code_42 : decode cX12_code 42 = .ok (.getfield 411, 3) := by decide +kernel
theorem dX12_code_45 : decode cX12_code 45 = .ok (.iconst 1, 1) := by decide +kernel
theorem dX12_code_46 : decode cX12_code 46 = .ok (.iadd, 1) := by decide +kernel
theorem dX12_code_47 : decode cX12_code 47 = .ok (.putfield 411, 3) := by decide +kernel
theorem dX12_code_50 : decode cX12_code 50 = .ok (.return_, 1) := by decide +kernel
set_option maxRecDepth 100000 in
set_option maxHeartbeats 4000000 in
theorem hs_code (hF : ck_LKf ck_LK) (hC : ck_LKc ck_LK) (hM : ck_LKm ck_tags ck_LK ck_tab) (hMh : ∀ q ∈ ck_hl, ck_mOK ck_tags q.1 q.2.1 q.2.2.1 q.2.2.2) (hU : ck_uq ty ck_pvs0) (hun : ck_un ty) (hH1 : ∀ Ex', ck_ExP ty ck_prot1 Ex' → ∀ j, j < 331 → ck_Holds l D cys ty ck_tags ck_pvs0 Ex' (ck_tab j)) {a0 : Nat} {x1 x2 x3 : Int32} (t0 : ty a0 = some 12) (hc : 0 ≤ (C 12 45).toInt ∧ (C 12 45).toInt ≤ 43) : hr_Met l D cys ty ck_tags ck_pvs0 (tk ty ck_prot1 C) kh_12_code [.ref a0, .int x1, .int x2, .int x3] pvv (fun r pvv' E' => r = none ∧ pvv' = pvv ∧ ∃ C' : Nat → Nat → Int32, E' = tk ty ck_prot1 C' ∧ (C' 12 45).toInt = (C 12 45).toInt + 1 ∧ C' 36 (3 * (C 12 45).toInt.toNat) = x1 ∧ (∀ j, j < 3 * (C 12 45).toInt.toNat → C' 36 j = C 36 j) ∧ (∀ t j, t ≠ 36 → ¬ (t = 12 ∧ j = 45) → C' t j = C t j)) := by
  refine hr_enter (by decide +kernel) (by decide +kernel) (by decide +kernel) ⟨hr_aR t0, hr_aF, hr_aF, hr_aF, True.intro⟩ ?_
  intro p e s m below meth c ls B hl hW
  have hx := B.1
  have hb : c.code = cX12_code := B.2.1
  have hI := pv_inj
  have hS : va_S (ck_own ty) s.heap s.heap [] := va_S.rf
  have hl : lv_has ls 4 [(0, .ref a0), (1, .int x1), (2, .int x2), (3, .int x3)] := hl
  refine lv_aload_n hx hb dX12_code_0 rfl (lv_at hl 0 rfl) ?_
  refine hr_getR B hF hb hW (ci := 12) (j := 8) (cd := 3) t0 rfl (isF (by decide +kernel)) rfl dX12_code_1 (fun az1 tz1 xz1 => ?_)
  refine hr_ic hx hb dX12_code_4 (by decide) (fun z4 hz4 => ?_)
  refine lv_aload_n hx hb dX12_code_5 rfl (lv_at hl 0 rfl) ?_
  refine hr_getI B hF hb hW (ci := 12) (j := 45) (cd := 0) t0 rfl (isF (by decide +kernel)) rfl dX12_code_6 (fun z6 lz6 uz6 pz6 xz6 => ?_)
  have xz6 := tk_xo xz6 (fun _ h => h) (pq := ck_prot1) (C := C) t0 (by decide); have kz6 := congrArg Int32.toInt xz6
  have e6 : z6.toInt = (C 12 45).toInt := by rw [kz6]
  refine hr_mulL hx hb dX12_code_9 hz4 (by omega) (by omega) (fun z9 hz9 => ?_)
  refine lv_iload_n hx hb dX12_code_10 rfl (lv_at hl 1 rfl) ?_
  refine hr_iastN B hb hU hW hS tz1 rfl (by omega) (by omega) ⟨ck_lo _, ck_hi _⟩ (tk_EA tz1 (fun a h => hun 36 (by decide) _ _ tz1 h)) (u := 0) (v := 134) (by omega) (by omega) (by decide) dX12_code_11 (fun H locs hW hS => ?_)
  obtain ⟨C11, c11⟩ : ∃ f, f = tk_upd C 36 (z9.toInt.toNat) x1 := ⟨_, rfl⟩
  rw [← c11] at hW
  refine lv_aload_n hx hb dX12_code_12 rfl (lv_at hl 0 rfl) ?_
  refine hr_getR B hF hb hW (ci := 12) (j := 8) (cd := 3) t0 rfl (isF (by decide +kernel)) rfl dX12_code_13 (fun az13 tz13 xz13 => ?_)
  refine hr_ic hx hb dX12_code_16 (by decide) (fun z16 hz16 => ?_)
  refine lv_aload_n hx hb dX12_code_17 rfl (lv_at hl 0 rfl) ?_
  refine hr_getI B hF hb hW (ci := 12) (j := 45) (cd := 0) t0 rfl (isF (by decide +kernel)) rfl dX12_code_18 (fun z18 lz18 uz18 pz18 xz18 => ?_)
  have xz18 := tk_xo xz18 (fun _ h => h) (pq := ck_prot1) (C := C11) t0 (by decide); have kz18 := congrArg Int32.toInt xz18
  have e18 : z18.toInt = (C 12 45).toInt := by rw [kz18, c11, tk_unt (by decide)]
  refine hr_mulL hx hb dX12_code_21 hz16 (by omega) (by omega) (fun z21 hz21 => ?_)
  refine hr_ic hx hb dX12_code_22 (by decide) (fun z22 hz22 => ?_)
  refine hr_add hx hb dX12_code_23 (by omega) (by omega) (fun z23 hz23 => ?_)
  refine lv_iload_n hx hb dX12_code_24 rfl (lv_at hl 2 rfl) ?_
  refine hr_iastN B hb hU hW hS tz13 rfl (by omega) (by omega) ⟨ck_lo _, ck_hi _⟩ (tk_EA tz13 (fun a h => hun 36 (by decide) _ _ tz13 h)) (u := 0) (v := 134) (by omega) (by omega) (by decide) dX12_code_25 (fun H locs hW hS => ?_)
  obtain ⟨C25, c25⟩ : ∃ f, f = tk_upd C11 36 (z23.toInt.toNat) x2 := ⟨_, rfl⟩
  rw [← c25] at hW
  refine lv_aload_n hx hb dX12_code_26 rfl (lv_at hl 0 rfl) ?_
  refine hr_getR B hF hb hW (ci := 12) (j := 8) (cd := 3) t0 rfl (isF (by decide +kernel)) rfl dX12_code_27 (fun az27 tz27 xz27 => ?_)
  refine hr_ic hx hb dX12_code_30 (by decide) (fun z30 hz30 => ?_)
  refine lv_aload_n hx hb dX12_code_31 rfl (lv_at hl 0 rfl) ?_
  refine hr_getI B hF hb hW (ci := 12) (j := 45) (cd := 0) t0 rfl (isF (by decide +kernel)) rfl dX12_code_32 (fun z32 lz32 uz32 pz32 xz32 => ?_)
  have xz32 := tk_xo xz32 (fun _ h => h) (pq := ck_prot1) (C := C25) t0 (by decide); have kz32 := congrArg Int32.toInt xz32
  have e32 : z32.toInt = (C 12 45).toInt := by rw [kz32, c25, tk_unt (by decide), c11, tk_unt (by decide)]
  refine hr_mulL hx hb dX12_code_35 hz30 (by omega) (by omega) (fun z35 hz35 => ?_)
  refine hr_ic hx hb dX12_code_36 (by decide) (fun z36 hz36 => ?_)
  refine hr_add hx hb dX12_code_37 (by omega) (by omega) (fun z37 hz37 => ?_)
  refine lv_iload_n hx hb dX12_code_38 rfl (lv_at hl 3 rfl) ?_
  refine hr_iastN B hb hU hW hS tz27 rfl (by omega) (by omega) ⟨ck_lo _, ck_hi _⟩ (tk_EA tz27 (fun a h => hun 36 (by decide) _ _ tz27 h)) (u := 0) (v := 134) (by omega) (by omega) (by decide) dX12_code_39 (fun H locs hW hS => ?_)
  obtain ⟨C39, c39⟩ : ∃ f, f = tk_upd C25 36 (z37.toInt.toNat) x3 := ⟨_, rfl⟩
  rw [← c39] at hW
  refine lv_aload_n hx hb dX12_code_40 rfl (lv_at hl 0 rfl) ?_
  refine lv_dup hx hb dX12_code_41 rfl ?_
  refine hr_getI B hF hb hW (ci := 12) (j := 45) (cd := 0) t0 rfl (isF (by decide +kernel)) rfl dX12_code_42 (fun z42 lz42 uz42 pz42 xz42 => ?_)
  have xz42 := tk_xo xz42 (fun _ h => h) (pq := ck_prot1) (C := C39) t0 (by decide); have kz42 := congrArg Int32.toInt xz42
  have e42 : z42.toInt = (C 12 45).toInt := by rw [kz42, c39, tk_unt (by decide), c25, tk_unt (by decide), c11, tk_unt (by decide)]
  refine hr_ic hx hb dX12_code_45 (by decide) (fun z45 hz45 => ?_)
  refine hr_add hx hb dX12_code_46 (by omega) (by omega) (fun z46 hz46 => ?_)
  refine hr_putN B hF hb hU hW hS (ci := 12) (j := 45) (cd := 0) t0 rfl (isF (by decide +kernel)) rfl (by omega) (by omega) (Or.inl rfl) (tk_EO t0 (fun a h => hun 12 (by decide) _ _ t0 h) (by decide)) (by decide) dX12_code_47 (fun H locs hW hS => ?_)
  obtain ⟨C47, c47⟩ : ∃ f, f = tk_upd C39 12 (45) z46 := ⟨_, rfl⟩
  rw [← c47] at hW
  refine hr_vret B hb rfl ⟨rfl, rfl, C47, rfl, ?_, ?_, fun j hj => ?_, fun t j h1 h2 => ?_⟩ hW hS dX12_code_50
  · rw [c47, tk_us]; omega
  · rw [c47, tk_unt (by decide), c39, tk_unj (by omega), c25, tk_unj (by omega), c11, show 3 * (C 12 45).toInt.toNat = z9.toInt.toNat by omega, tk_us]
  · rw [c47, tk_unt (by decide), c39, tk_unj (by omega), c25, tk_unj (by omega), c11, tk_unj (by omega)]
  · rw [c47, tk_un h2, c39, tk_unt h1, c25, tk_unt h1, c11, tk_unt h1]
theorem dX12_nots_0 : decode cX12_nots 0 = .ok (.aload_n 0, 1) := by decide +kernel
theorem dX12_nots_1 : decode cX12_nots 1 = .ok (.getfield 414, 3) := by decide +kernel
theorem dX12_nots_4 : decode cX12_nots 4 = .ok (.ifCond .le 50, 3) := by decide +kernel
theorem dX12_nots_7 : decode cX12_nots 7 = .ok (.aload_n 0, 1) := by decide +kernel
theorem dX12_nots_8 : decode cX12_nots 8 = .ok (.getfield 86, 3) := by decide +kernel
theorem dX12_nots_11 : decode cX12_nots 11 = .ok (.aload_n 0, 1) := by decide +kernel
theorem dX12_nots_12 : decode cX12_nots 12 = .ok (.getfield 414, 3) := by decide +kernel
theorem dX12_nots_15 : decode cX12_nots 15 = .ok (.iconst 1, 1) := by decide +kernel
theorem dX12_nots_16 : decode cX12_nots 16 = .ok (.isub, 1) := by decide +kernel
theorem dX12_nots_17 : decode cX12_nots 17 = .ok (.iaload, 1) := by decide +kernel
theorem dX12_nots_18 : decode cX12_nots 18 = .ok (.bipush 20, 2) := by decide +kernel
theorem dX12_nots_20 : decode cX12_nots 20 = .ok (.if_icmp .ne 34, 3) := by decide +kernel
theorem dX12_nots_23 : decode cX12_nots 23 = .ok (.aload_n 0, 1) := by decide +kernel
theorem dX12_nots_24 : decode cX12_nots 24 = .ok (.dup, 1) := by decide +kernel
theorem dX12_nots_25 : decode cX12_nots 25 = .ok (.getfield 414, 3) := by decide +kernel
theorem dX12_nots_28 : decode cX12_nots 28 = .ok (.iconst 1, 1) := by decide +kernel
theorem dX12_nots_29 : decode cX12_nots 29 = .ok (.isub, 1) := by decide +kernel
theorem dX12_nots_30 : decode cX12_nots 30 = .ok (.putfield 414, 3) := by decide +kernel
theorem dX12_nots_33 : decode cX12_nots 33 = .ok (.aload_n 0, 1) := by decide +kernel
theorem dX12_nots_34 : decode cX12_nots 34 = .ok (.dup, 1) := by decide +kernel
theorem dX12_nots_35 : decode cX12_nots 35 = .ok (.getfield 421, 3) := by decide +kernel
theorem dX12_nots_38 : decode cX12_nots 38 = .ok (.iconst 1, 1) := by decide +kernel
theorem dX12_nots_39 : decode cX12_nots 39 = .ok (.isub, 1) := by decide +kernel
theorem dX12_nots_40 : decode cX12_nots 40 = .ok (.putfield 421, 3) := by decide +kernel
theorem dX12_nots_43 : decode cX12_nots 43 = .ok (.aload_n 0, 1) := by decide +kernel
theorem dX12_nots_44 : decode cX12_nots 44 = .ok (.bipush 20, 2) := by decide +kernel
theorem dX12_nots_46 : decode cX12_nots 46 = .ok (.iconst 0, 1) := by decide +kernel
theorem dX12_nots_47 : decode cX12_nots 47 = .ok (.iconst 0, 1) := by decide +kernel
theorem dX12_nots_48 : decode cX12_nots 48 = .ok (.invokevirtual 417, 3) := by decide +kernel
theorem dX12_nots_51 : decode cX12_nots 51 = .ok (.goto (-51), 3) := by decide +kernel
theorem dX12_nots_54 : decode cX12_nots 54 = .ok (.return_, 1) := by decide +kernel
set_option maxRecDepth 100000 in
set_option maxHeartbeats 4000000 in
theorem hs_nots (hF : ck_LKf ck_LK) (hC : ck_LKc ck_LK) (hM : ck_LKm ck_tags ck_LK ck_tab) (hMh : ∀ q ∈ ck_hl, ck_mOK ck_tags q.1 q.2.1 q.2.2.1 q.2.2.2) (hU : ck_uq ty ck_pvs0) (hun : ck_un ty) (hH1 : ∀ Ex', ck_ExP ty ck_prot1 Ex' → ∀ j, j < 331 → ck_Holds l D cys ty ck_tags ck_pvs0 Ex' (ck_tab j)) {a0 : Nat} (t0 : ty a0 = some 12) (hI0 : SI C) (hw : (C 12 49).toInt = 1) : hr_Met l D cys ty ck_tags ck_pvs0 (tk ty ck_prot1 C) kh_12_nots [.ref a0] pvv (fun r pvv' E' => r = none ∧ pvv' = pvv ∧ ∃ C' : Nat → Nat → Int32, E' = tk ty ck_prot1 C' ∧ SI C' ∧ sfr C C' ∧ (C' 12 49).toInt = 1 ∧ (C' 12 46).toInt = (C 12 46).toInt ∧ (C' 12 47).toInt ≤ (C 12 47).toInt) := by
  refine hr_enter (by decide +kernel) (by decide +kernel) (by decide +kernel) ⟨hr_aR t0, True.intro⟩ ?_
  intro p e s m below meth c ls B hl hW
  have hx := B.1
  have hb : c.code = cX12_nots := B.2.1
  have hI := pv_inj
  have hS : va_S (ck_own ty) s.heap s.heap [] := va_S.rf
  have hl : lv_has ls 1 [(0, .ref a0)] := hl
  have lp : ∀ (n : Nat) (C2 : Nat → Nat → Int32) (ls : Array Slot) (H : Heap) (locs : List Loc), (C2 12 47).toInt < n → SI C2 → sfr C C2 → (C2 12 49).toInt = 1 → (C2 12 46).toInt = (C 12 46).toInt → (C2 12 47).toInt ≤ (C 12 47).toInt → lv_has ls 1 [(0, .ref a0)] → ck_Wo D cys ty ck_tags ck_pvs0 (tk ty ck_prot1 C2) pvv H → va_S (ck_own ty) s.heap H locs → W p l e (ck_rm kh_12_nots) s m [Value.ref a0].toArray below meth c H locs 0 0 (MQ below (hr_Q D cys ty ck_tags ck_pvs0 (fun r pvv' E' => r = none ∧ pvv' = pvv ∧ ∃ C' : Nat → Nat → Int32, E' = tk ty ck_prot1 C' ∧ SI C' ∧ sfr C C' ∧ (C' 12 49).toInt = 1 ∧ (C' 12 46).toInt = (C 12 46).toInt ∧ (C' 12 47).toInt ≤ (C 12 47).toInt)) [Value.ref a0].toArray s 0 0 (ck_own ty)) (F0 m 0 ls []) := by
    intro n
    induction n with
    | zero => intro C2 ls H locs h1 h2; have := h2.2.1; omega
    | succ n ih =>
      intro C2 ls H locs hm hI2 hfr hw2 hon htp hl hW hS
      obtain ⟨s1, s2, s3, s4, s5, s6, s7, s8⟩ := id hI2
      refine lv_aload_n hx hb dX12_nots_0 rfl (lv_at hl 0 rfl) ?_
      refine hr_getI B hF hb hW (ci := 12) (j := 47) (cd := 0) t0 rfl (isF (by decide +kernel)) rfl dX12_nots_1 (fun z1 lz1 uz1 pz1 xz1 => ?_)
      have xz1 := tk_xo xz1 (fun _ h => h) (pq := ck_prot1) (C := C2) t0 (by decide); have kz1 := congrArg Int32.toInt xz1
      have e1 : z1.toInt = (C2 12 47).toInt := by rw [kz1]
      refine hr_le0 (tgt := 54) hx hb dX12_nots_4 (by decide) (fun h4 => ?_) (fun h4 => ?_)
      · exact hr_vret B hb rfl ⟨rfl, rfl, C2, rfl, hI2, hfr, hw2, hon, htp⟩ hW hS dX12_nots_54
      · refine lv_aload_n hx hb dX12_nots_7 rfl (lv_at hl 0 rfl) ?_
        refine hr_getR B hF hb hW (ci := 12) (j := 44) (cd := 3) t0 rfl (isF (by decide +kernel)) rfl dX12_nots_8 (fun az8 tz8 xz8 => ?_)
        refine lv_aload_n hx hb dX12_nots_11 rfl (lv_at hl 0 rfl) ?_
        refine hr_getI B hF hb hW (ci := 12) (j := 47) (cd := 0) t0 rfl (isF (by decide +kernel)) rfl dX12_nots_12 (fun z12 lz12 uz12 pz12 xz12 => ?_)
        have xz12 := tk_xo xz12 (fun _ h => h) (pq := ck_prot1) (C := C2) t0 (by decide); have kz12 := congrArg Int32.toInt xz12
        have e12 : z12.toInt = (C2 12 47).toInt := by rw [kz12]
        refine hr_ic hx hb dX12_nots_15 (by decide) (fun z15 hz15 => ?_)
        refine hr_sub hx hb dX12_nots_16 (by omega) (by omega) (fun z16 hz16 => ?_)
        refine hr_iald B hb hW tz8 rfl (by omega) (by omega) dX12_nots_17 (fun z17 iz17 pz17 xz17 => ?_)
        have xz17 := tk_xa xz17 (fun _ h => h) (pq := ck_prot1) (C := C2) tz8 ⟨(0, 44), by decide, by dsimp only; omega, by dsimp only; omega⟩; have kz17 := congrArg Int32.toInt xz17
        refine hr_bp hx hb dX12_nots_18 (by decide) (by decide) (fun z18 hz18 => ?_)
        refine hr_ne (tgt := 54) hx hb dX12_nots_20 (by decide) (fun h20 => ?_) (fun h20 => ?_)
        · exact hr_vret B hb rfl ⟨rfl, rfl, C2, rfl, hI2, hfr, hw2, hon, htp⟩ hW hS dX12_nots_54
        · refine lv_aload_n hx hb dX12_nots_23 rfl (lv_at hl 0 rfl) ?_
          refine lv_dup hx hb dX12_nots_24 rfl ?_
          refine hr_getI B hF hb hW (ci := 12) (j := 47) (cd := 0) t0 rfl (isF (by decide +kernel)) rfl dX12_nots_25 (fun z25 lz25 uz25 pz25 xz25 => ?_)
          have xz25 := tk_xo xz25 (fun _ h => h) (pq := ck_prot1) (C := C2) t0 (by decide); have kz25 := congrArg Int32.toInt xz25
          have e25 : z25.toInt = (C2 12 47).toInt := by rw [kz25]
          refine hr_ic hx hb dX12_nots_28 (by decide) (fun z28 hz28 => ?_)
          refine hr_sub hx hb dX12_nots_29 (by omega) (by omega) (fun z29 hz29 => ?_)
          refine hr_putN B hF hb hU hW hS (ci := 12) (j := 47) (cd := 0) t0 rfl (isF (by decide +kernel)) rfl (by omega) (by omega) (Or.inl rfl) (tk_EO t0 (fun a h => hun 12 (by decide) _ _ t0 h) (by decide)) (by decide) dX12_nots_30 (fun H locs hW hS => ?_)
          obtain ⟨C30, c30⟩ : ∃ f, f = tk_upd C2 12 (47) z29 := ⟨_, rfl⟩
          rw [← c30] at hW
          refine lv_aload_n hx hb dX12_nots_33 rfl (lv_at hl 0 rfl) ?_
          refine lv_dup hx hb dX12_nots_34 rfl ?_
          refine hr_getI B hF hb hW (ci := 12) (j := 48) (cd := 0) t0 rfl (isF (by decide +kernel)) rfl dX12_nots_35 (fun z35 lz35 uz35 pz35 xz35 => ?_)
          refine hr_ic hx hb dX12_nots_38 (by decide) (fun z38 hz38 => ?_)
          refine lv_isub hx hb dX12_nots_39 (lv_topi (fun z39 hz39 => ?_))
          refine hr_putN B hF hb hU hW hS (ci := 12) (j := 48) (cd := 0) t0 rfl (isF (by decide +kernel)) rfl (ck_lo _) (ck_hi _) (Or.inl rfl) (hr_EO (tk_X1 (C := C30)) t0 (by decide)) (by decide) dX12_nots_40 (fun H locs hW hS => ?_)
          refine lv_aload_n hx hb dX12_nots_43 rfl (lv_at hl 0 rfl) ?_
          refine hr_bp hx hb dX12_nots_44 (by decide) (by decide) (fun z44 hz44 => ?_)
          refine hr_ic hx hb dX12_nots_46 (by decide) (fun z46 hz46 => ?_)
          refine hr_ic hx hb dX12_nots_47 (by decide) (fun z47 hz47 => ?_)
          refine hr_callV (kc := kh_12_code) B rfl hb hl (hMh _ (List.mem_of_getElem? (i := 11) rfl)) (b := a0) (As := [.int z44, .int z46, .int z47]) (hs_code hF hC hM hMh hU hun hH1 t0 (C := C30) ⟨by rw [c30, tk_unj (by decide)]; omega, by rw [c30, tk_unj (by decide)]; omega⟩) ⟨hr_aR t0, hr_aF, hr_aF, hr_aF, True.intro⟩ hW hS rfl (by decide) (by decide) (Nat.le_of_ble_eq_true rfl) dX12_nots_48 (fun r pvv48 E48 H locs hpost hW hS => ?_)
          obtain ⟨rfl, rfl, C48, rfl, d1, d2, d3, d4⟩ := hpost
          have q1 : C30 12 45 = C2 12 45 := by rw [c30, tk_unj (by decide)]
          rw [q1] at d1 d2 d3
          have k1 : (C48 12 47).toInt = (C2 12 47).toInt - 1 := by rw [d4 12 47 (by decide) (by decide), c30, tk_us]; omega
          have k2 : (C48 12 46).toInt = (C2 12 46).toInt := by rw [d4 12 46 (by decide) (by decide), c30, tk_unj (by decide)]
          have k3 : (C48 12 49).toInt = (C2 12 49).toInt := by rw [d4 12 49 (by decide) (by decide), c30, tk_unj (by decide)]
          have k4 : ∀ j, C48 43 j = C2 43 j := fun j => by rw [d4 43 j (by decide) (fun q => absurd q.1 (by decide)), c30, tk_unt (by decide)]
          have k5 : ∀ j, j < 3 * (C2 12 45).toInt.toNat → C48 36 j = C2 36 j := fun j hj => by rw [d3 j hj, c30, tk_unt (by decide)]
          have kS : (C2 43 ((C2 12 47).toInt - 1).toNat).toInt = 20 := by rw [show ((C2 12 47).toInt - 1).toNat = z16.toInt.toNat by omega, ← kz17]; omega
          have kd := code_ok (C := C2) (C' := C48) (n := (C2 12 45).toInt.toNat) (by omega) (by omega) k5 s7 (fun _ => by have := bn_nn (C := C2) (C2 12 47).toInt.toNat; omega) (fun h9 => by rw [d2] at h9; omega)
          have kb : bn C2 (C2 12 47).toInt.toNat = bn C2 ((C2 12 47).toInt - 1).toNat := by rw [show (C2 12 47).toInt.toNat = ((C2 12 47).toInt - 1).toNat + 1 by omega]; exact bn_n (by omega) (by omega)
          have kI : SI C48 := by
            refine ⟨by omega, by omega, by omega, by omega, by omega, by omega, kd.1, ?_⟩
            rw [show (C48 12 45).toInt.toNat = (C2 12 45).toInt.toNat + 1 by omega, dp_not (by rw [rf_s, d2]; omega), kd.2, k1, k3, bn_co (fun j _ => k4 j)]; omega
          have kf : sfr C C48 := fun t j h1 h2 h3 => by rw [d4 t j h1 (fun q => h3 ⟨q.1, Or.inl q.2⟩), c30, tk_un (fun q => h3 ⟨q.1, Or.inr (Or.inr (Or.inl q.2))⟩)]; exact hfr t j h1 h2 h3
          refine lv_goto (tgt := 0) hx hb dX12_nots_51 (by decide) ?_
          exact ih C48 _ _ _ (by omega) kI kf (by omega) (by omega) (by omega) hl hW hS
  exact lp ((C 12 47).toInt.toNat + 1) C _ _ _ (by have := hI0.2.1; omega) hI0 sfr_rf hw rfl (Int.le_refl _) hl hW hS
theorem dX12_joins_0 : decode cX12_joins 0 = .ok (.aload_n 0, 1) := by decide +kernel
theorem dX12_joins_1 : decode cX12_joins 1 = .ok (.getfield 414, 3) := by decide +kernel
theorem dX12_joins_4 : decode cX12_joins 4 = .ok (.ifCond .le 69, 3) := by decide +kernel
theorem dX12_joins_7 : decode cX12_joins 7 = .ok (.aload_n 0, 1) := by decide +kernel
theorem dX12_joins_8 : decode cX12_joins 8 = .ok (.getfield 86, 3) := by decide +kernel
theorem dX12_joins_11 : decode cX12_joins 11 = .ok (.aload_n 0, 1) := by decide +kernel
theorem dX12_joins_12 : decode cX12_joins 12 = .ok (.getfield 414, 3) := by decide +kernel
theorem dX12_joins_15 : decode cX12_joins 15 = .ok (.iconst 1, 1) := by decide +kernel
theorem dX12_joins_16 : decode cX12_joins 16 = .ok (.isub, 1) := by decide +kernel
theorem dX12_joins_17 : decode cX12_joins 17 = .ok (.iaload, 1) := by decide +kernel
theorem dX12_joins_18 : decode cX12_joins 18 = .ok (.bipush 21, 2) := by decide +kernel
theorem dX12_joins_20 : decode cX12_joins 20 = .ok (.if_icmp .eq 25, 3) := by decide +kernel
theorem dX12_joins_23 : decode cX12_joins 23 = .ok (.aload_n 0, 1) := by decide +kernel
theorem dX12_joins_24 : decode cX12_joins 24 = .ok (.getfield 86, 3) := by decide +kernel
theorem dX12_joins_27 : decode cX12_joins 27 = .ok (.aload_n 0, 1) := by decide +kernel
theorem dX12_joins_28 : decode cX12_joins 28 = .ok (.getfield 414, 3) := by decide +kernel
theorem dX12_joins_31 : decode cX12_joins 31 = .ok (.iconst 1, 1) := by decide +kernel
theorem dX12_joins_32 : decode cX12_joins 32 = .ok (.isub, 1) := by decide +kernel
theorem dX12_joins_33 : decode cX12_joins 33 = .ok (.iaload, 1) := by decide +kernel
theorem dX12_joins_34 : decode cX12_joins 34 = .ok (.bipush 22, 2) := by decide +kernel
theorem dX12_joins_36 : decode cX12_joins 36 = .ok (.if_icmp .ne 37, 3) := by decide +kernel
theorem dX12_joins_39 : decode cX12_joins 39 = .ok (.iload_n 1, 1) := by decide +kernel
theorem dX12_joins_40 : decode cX12_joins 40 = .ok (.bipush 22, 2) := by decide +kernel
theorem dX12_joins_42 : decode cX12_joins 42 = .ok (.if_icmp .ne 31, 3) := by decide +kernel
theorem dX12_joins_45 : decode cX12_joins 45 = .ok (.aload_n 0, 1) := by decide +kernel
theorem dX12_joins_46 : decode cX12_joins 46 = .ok (.dup, 1) := by decide +kernel
theorem dX12_joins_47 : decode cX12_joins 47 = .ok (.getfield 414, 3) := by decide +kernel
theorem dX12_joins_50 : decode cX12_joins 50 = .ok (.iconst 1, 1) := by decide +kernel
theorem dX12_joins_51 : decode cX12_joins 51 = .ok (.isub, 1) := by decide +kernel
theorem dX12_joins_52 : decode cX12_joins 52 = .ok (.putfield 414, 3) := by decide +kernel
theorem dX12_joins_55 : decode cX12_joins 55 = .ok (.aload_n 0, 1) := by decide +kernel
theorem dX12_joins_56 : decode cX12_joins 56 = .ok (.aload_n 0, 1) := by decide +kernel
theorem dX12_joins_57 : decode cX12_joins 57 = .ok (.getfield 86, 3) := by decide +kernel
theorem dX12_joins_60 : decode cX12_joins 60 = .ok (.aload_n 0, 1) := by decide +kernel
theorem dX12_joins_61 : decode cX12_joins 61 = .ok (.getfield 414, 3) := by decide +kernel
theorem dX12_joins_64 : decode cX12_joins 64 = .ok (.iaload, 1) := by decide +kernel
theorem dX12_joins_65 : decode cX12_joins 65 = .ok (.iconst 0, 1) := by decide +kernel
theorem dX12_joins_66 : decode cX12_joins 66 = .ok (.iconst 0, 1) := by decide +kernel
theorem dX12_joins_67 : decode cX12_joins 67 = .ok (.invokevirtual 417, 3) := by decide +kernel
theorem dX12_joins_70 : decode cX12_joins 70 = .ok (.goto (-70), 3) := by decide +kernel
theorem dX12_joins_73 : decode cX12_joins 73 = .ok (.return_, 1) := by decide +kernel
set_option maxRecDepth 100000 in
set_option maxHeartbeats 4000000 in
theorem hs_joins (hF : ck_LKf ck_LK) (hC : ck_LKc ck_LK) (hM : ck_LKm ck_tags ck_LK ck_tab) (hMh : ∀ q ∈ ck_hl, ck_mOK ck_tags q.1 q.2.1 q.2.2.1 q.2.2.2) (hU : ck_uq ty ck_pvs0) (hun : ck_un ty) (hH1 : ∀ Ex', ck_ExP ty ck_prot1 Ex' → ∀ j, j < 331 → ck_Holds l D cys ty ck_tags ck_pvs0 Ex' (ck_tab j)) {a0 : Nat} {x1 : Int32} (t0 : ty a0 = some 12) (hI0 : SI C) (hw : (C 12 49).toInt = 1) : hr_Met l D cys ty ck_tags ck_pvs0 (tk ty ck_prot1 C) kh_12_joins [.ref a0, .int x1] pvv (fun r pvv' E' => r = none ∧ pvv' = pvv ∧ ∃ C' : Nat → Nat → Int32, E' = tk ty ck_prot1 C' ∧ SI C' ∧ sfr C C' ∧ (C' 12 49).toInt = 1 ∧ (C' 12 46).toInt = (C 12 46).toInt ∧ (C' 12 47).toInt ≤ (C 12 47).toInt ∧ (x1.toInt = 22 → (C' 12 47).toInt = 0 ∨ ((C' 43 ((C' 12 47).toInt - 1).toNat).toInt ≠ 21 ∧ (C' 43 ((C' 12 47).toInt - 1).toNat).toInt ≠ 22))) := by
  refine hr_enter (by decide +kernel) (by decide +kernel) (by decide +kernel) ⟨hr_aR t0, hr_aF, True.intro⟩ ?_
  intro p e s m below meth c ls B hl hW
  have hx := B.1
  have hb : c.code = cX12_joins := B.2.1
  have hI := pv_inj
  have hS : va_S (ck_own ty) s.heap s.heap [] := va_S.rf
  have hl : lv_has ls 2 [(0, .ref a0), (1, .int x1)] := hl
  have lp : ∀ (n : Nat) (C2 : Nat → Nat → Int32) (ls : Array Slot) (H : Heap) (locs : List Loc), (C2 12 47).toInt < n → SI C2 → sfr C C2 → (C2 12 49).toInt = 1 → (C2 12 46).toInt = (C 12 46).toInt → (C2 12 47).toInt ≤ (C 12 47).toInt → lv_has ls 2 [(0, .ref a0), (1, .int x1)] → ck_Wo D cys ty ck_tags ck_pvs0 (tk ty ck_prot1 C2) pvv H → va_S (ck_own ty) s.heap H locs → W p l e (ck_rm kh_12_joins) s m [Value.ref a0, Value.int x1].toArray below meth c H locs 0 0 (MQ below (hr_Q D cys ty ck_tags ck_pvs0 (fun r pvv' E' => r = none ∧ pvv' = pvv ∧ ∃ C' : Nat → Nat → Int32, E' = tk ty ck_prot1 C' ∧ SI C' ∧ sfr C C' ∧ (C' 12 49).toInt = 1 ∧ (C' 12 46).toInt = (C 12 46).toInt ∧ (C' 12 47).toInt ≤ (C 12 47).toInt ∧ (x1.toInt = 22 → (C' 12 47).toInt = 0 ∨ ((C' 43 ((C' 12 47).toInt - 1).toNat).toInt ≠ 21 ∧ (C' 43 ((C' 12 47).toInt - 1).toNat).toInt ≠ 22)))) [Value.ref a0, Value.int x1].toArray s 0 0 (ck_own ty)) (F0 m 0 ls []) := by
    intro n
    induction n with
    | zero => intro C2 ls H locs h1 h2; have := h2.2.1; omega
    | succ n ih =>
      intro C2 ls H locs hm hI2 hfr hw2 hon htp hl hW hS
      obtain ⟨s1, s2, s3, s4, s5, s6, s7, s8⟩ := id hI2
      refine lv_aload_n hx hb dX12_joins_0 rfl (lv_at hl 0 rfl) ?_
      refine hr_getI B hF hb hW (ci := 12) (j := 47) (cd := 0) t0 rfl (isF (by decide +kernel)) rfl dX12_joins_1 (fun z1 lz1 uz1 pz1 xz1 => ?_)
      have xz1 := tk_xo xz1 (fun _ h => h) (pq := ck_prot1) (C := C2) t0 (by decide); have kz1 := congrArg Int32.toInt xz1
      have e1 : z1.toInt = (C2 12 47).toInt := by rw [kz1]
      refine hr_le0 (tgt := 73) hx hb dX12_joins_4 (by decide) (fun h4 => ?_) (fun h4 => ?_)
      · exact hr_vret B hb rfl ⟨rfl, rfl, C2, rfl, hI2, hfr, hw2, hon, htp, fun _ => by omega⟩ hW hS dX12_joins_73
      · refine lv_aload_n hx hb dX12_joins_7 rfl (lv_at hl 0 rfl) ?_
        refine hr_getR B hF hb hW (ci := 12) (j := 44) (cd := 3) t0 rfl (isF (by decide +kernel)) rfl dX12_joins_8 (fun az8 tz8 xz8 => ?_)
        refine lv_aload_n hx hb dX12_joins_11 rfl (lv_at hl 0 rfl) ?_
        refine hr_getI B hF hb hW (ci := 12) (j := 47) (cd := 0) t0 rfl (isF (by decide +kernel)) rfl dX12_joins_12 (fun z12 lz12 uz12 pz12 xz12 => ?_)
        have xz12 := tk_xo xz12 (fun _ h => h) (pq := ck_prot1) (C := C2) t0 (by decide); have kz12 := congrArg Int32.toInt xz12
        have e12 : z12.toInt = (C2 12 47).toInt := by rw [kz12]
        refine hr_ic hx hb dX12_joins_15 (by decide) (fun z15 hz15 => ?_)
        refine hr_sub hx hb dX12_joins_16 (by omega) (by omega) (fun z16 hz16 => ?_)
        refine hr_iald B hb hW tz8 rfl (by omega) (by omega) dX12_joins_17 (fun z17 iz17 pz17 xz17 => ?_)
        have xz17 := tk_xa xz17 (fun _ h => h) (pq := ck_prot1) (C := C2) tz8 ⟨(0, 44), by decide, by dsimp only; omega, by dsimp only; omega⟩; have kz17 := congrArg Int32.toInt xz17
        rw [show z16.toInt.toNat = ((C2 12 47).toInt - 1).toNat by omega] at kz17
        refine hr_bp hx hb dX12_joins_18 (by decide) (by decide) (fun z18 hz18 => ?_)
        refine hr_eq (tgt := 45) hx hb dX12_joins_20 (by decide) (fun h20 => ?_) (fun h20 => ?_)
        · refine lv_aload_n hx hb dX12_joins_45 rfl (lv_at hl 0 rfl) ?_
          refine lv_dup hx hb dX12_joins_46 rfl ?_
          refine hr_getI B hF hb hW (ci := 12) (j := 47) (cd := 0) t0 rfl (isF (by decide +kernel)) rfl dX12_joins_47 (fun z47 lz47 uz47 pz47 xz47 => ?_)
          have xz47 := tk_xo xz47 (fun _ h => h) (pq := ck_prot1) (C := C2) t0 (by decide); have kz47 := congrArg Int32.toInt xz47
          have e47 : z47.toInt = (C2 12 47).toInt := by rw [kz47]
          refine hr_ic hx hb dX12_joins_50 (by decide) (fun z50 hz50 => ?_)
          refine hr_sub hx hb dX12_joins_51 (by omega) (by omega) (fun z51 hz51 => ?_)
          refine hr_putN B hF hb hU hW hS (ci := 12) (j := 47) (cd := 0) t0 rfl (isF (by decide +kernel)) rfl (by omega) (by omega) (Or.inl rfl) (tk_EO t0 (fun a h => hun 12 (by decide) _ _ t0 h) (by decide)) (by decide) dX12_joins_52 (fun H locs hW hS => ?_)
          obtain ⟨C52, c52⟩ : ∃ f, f = tk_upd C2 12 (47) z51 := ⟨_, rfl⟩
          rw [← c52] at hW
          refine lv_aload_n hx hb dX12_joins_55 rfl (lv_at hl 0 rfl) ?_
          refine lv_aload_n hx hb dX12_joins_56 rfl (lv_at hl 0 rfl) ?_
          refine hr_getR B hF hb hW (ci := 12) (j := 44) (cd := 3) t0 rfl (isF (by decide +kernel)) rfl dX12_joins_57 (fun az57 tz57 xz57 => ?_)
          refine lv_aload_n hx hb dX12_joins_60 rfl (lv_at hl 0 rfl) ?_
          refine hr_getI B hF hb hW (ci := 12) (j := 47) (cd := 0) t0 rfl (isF (by decide +kernel)) rfl dX12_joins_61 (fun z61 lz61 uz61 pz61 xz61 => ?_)
          have xz61 := tk_xo xz61 (fun _ h => h) (pq := ck_prot1) (C := C52) t0 (by decide); have kz61 := congrArg Int32.toInt xz61
          have e61 : z61.toInt = z51.toInt := by rw [kz61, c52, tk_us]
          refine hr_iald B hb hW tz57 rfl (by omega) (by omega) dX12_joins_64 (fun z64 iz64 pz64 xz64 => ?_)
          have xz64 := tk_xa xz64 (fun _ h => h) (pq := ck_prot1) (C := C52) tz57 ⟨(0, 44), by decide, by dsimp only; omega, by dsimp only; omega⟩; have kz64 := congrArg Int32.toInt xz64
          have e64 : z64.toInt = (C2 43 ((C2 12 47).toInt - 1).toNat).toInt := by rw [kz64, c52, tk_unt (by decide), show z61.toInt.toNat = ((C2 12 47).toInt - 1).toNat by omega]
          refine hr_ic hx hb dX12_joins_65 (by decide) (fun z65 hz65 => ?_)
          refine hr_ic hx hb dX12_joins_66 (by decide) (fun z66 hz66 => ?_)
          refine hr_callV (kc := kh_12_code) B rfl hb hl (hMh _ (List.mem_of_getElem? (i := 11) rfl)) (b := a0) (As := [.int z64, .int z65, .int z66]) (hs_code hF hC hM hMh hU hun hH1 t0 (C := C52) ⟨by rw [c52, tk_unj (by decide)]; omega, by rw [c52, tk_unj (by decide)]; omega⟩) ⟨hr_aR t0, hr_aF, hr_aF, hr_aF, True.intro⟩ hW hS rfl (by decide) (by decide) (Nat.le_of_ble_eq_true rfl) dX12_joins_67 (fun r pvv67 E67 H locs hpost hW hS => ?_)
          obtain ⟨rfl, rfl, C67, rfl, d1, d2, d3, d4⟩ := hpost
          have q1 : C52 12 45 = C2 12 45 := by rw [c52, tk_unj (by decide)]
          rw [q1] at d1 d2 d3
          have k1 : (C67 12 47).toInt = (C2 12 47).toInt - 1 := by rw [d4 12 47 (by decide) (by decide), c52, tk_us]; omega
          have k2 : (C67 12 46).toInt = (C2 12 46).toInt := by rw [d4 12 46 (by decide) (by decide), c52, tk_unj (by decide)]
          have k3 : (C67 12 49).toInt = (C2 12 49).toInt := by rw [d4 12 49 (by decide) (by decide), c52, tk_unj (by decide)]
          have k4 : ∀ j, C67 43 j = C2 43 j := fun j => by rw [d4 43 j (by decide) (fun q => absurd q.1 (by decide)), c52, tk_unt (by decide)]
          have k5 : ∀ j, j < 3 * (C2 12 45).toInt.toNat → C67 36 j = C2 36 j := fun j hj => by rw [d3 j hj, c52, tk_unt (by decide)]
          have kS : (C2 43 ((C2 12 47).toInt - 1).toNat).toInt = 21 ∨ (C2 43 ((C2 12 47).toInt - 1).toNat).toInt = 22 := by omega
          have kb : bn C2 (C2 12 47).toInt.toNat = bn C2 ((C2 12 47).toInt - 1).toNat + 1 := by rw [show (C2 12 47).toInt.toNat = ((C2 12 47).toInt - 1).toNat + 1 by omega]; exact bn_y kS
          have kn := bn_nn (C := C2) ((C2 12 47).toInt - 1).toNat
          have kd := code_ok (C := C2) (C' := C67) (n := (C2 12 45).toInt.toNat) (by omega) (by omega) k5 s7 (fun _ => by omega) (fun _ => by omega)
          have kI : SI C67 := by
            refine ⟨by omega, by omega, by omega, by omega, by omega, by omega, kd.1, ?_⟩
            rw [show (C67 12 45).toInt.toNat = (C2 12 45).toInt.toNat + 1 by omega, dp_bin (by rw [rf_s, d2]; omega), kd.2, k1, k3, bn_co (fun j _ => k4 j)]; omega
          have kf : sfr C C67 := fun t j h1 h2 h3 => by rw [d4 t j h1 (fun q => h3 ⟨q.1, Or.inl q.2⟩), c52, tk_un (fun q => h3 ⟨q.1, Or.inr (Or.inr (Or.inl q.2))⟩)]; exact hfr t j h1 h2 h3
          refine lv_goto (tgt := 0) hx hb dX12_joins_70 (by decide) ?_
          exact ih C67 _ _ _ (by omega) kI kf (by omega) (by omega) (by omega) hl hW hS
        · refine lv_aload_n hx hb dX12_joins_23 rfl (lv_at hl 0 rfl) ?_
          refine hr_getR B hF hb hW (ci := 12) (j := 44) (cd := 3) t0 rfl (isF (by decide +kernel)) rfl dX12_joins_24 (fun az24 tz24 xz24 => ?_)
          refine lv_aload_n hx hb dX12_joins_27 rfl (lv_at hl 0 rfl) ?_
          refine hr_getI B hF hb hW (ci := 12) (j := 47) (cd := 0) t0 rfl (isF (by decide +kernel)) rfl dX12_joins_28 (fun z28 lz28 uz28 pz28 xz28 => ?_)
          have xz28 := tk_xo xz28 (fun _ h => h) (pq := ck_prot1) (C := C2) t0 (by decide); have kz28 := congrArg Int32.toInt xz28
          have e28 : z28.toInt = (C2 12 47).toInt := by rw [kz28]
          refine hr_ic hx hb dX12_joins_31 (by decide) (fun z31 hz31 => ?_)
          refine hr_sub hx hb dX12_joins_32 (by omega) (by omega) (fun z32 hz32 => ?_)
          refine hr_iald B hb hW tz24 rfl (by omega) (by omega) dX12_joins_33 (fun z33 iz33 pz33 xz33 => ?_)
          have xz33 := tk_xa xz33 (fun _ h => h) (pq := ck_prot1) (C := C2) tz24 ⟨(0, 44), by decide, by dsimp only; omega, by dsimp only; omega⟩; have kz33 := congrArg Int32.toInt xz33
          rw [show z32.toInt.toNat = ((C2 12 47).toInt - 1).toNat by omega] at kz33
          refine hr_bp hx hb dX12_joins_34 (by decide) (by decide) (fun z34 hz34 => ?_)
          refine hr_ne (tgt := 73) hx hb dX12_joins_36 (by decide) (fun h36 => ?_) (fun h36 => ?_)
          · exact hr_vret B hb rfl ⟨rfl, rfl, C2, rfl, hI2, hfr, hw2, hon, htp, fun _ => by omega⟩ hW hS dX12_joins_73
          · refine lv_iload_n hx hb dX12_joins_39 rfl (lv_at hl 1 rfl) ?_
            refine hr_bp hx hb dX12_joins_40 (by decide) (by decide) (fun z40 hz40 => ?_)
            refine hr_ne (tgt := 73) hx hb dX12_joins_42 (by decide) (fun h42 => ?_) (fun h42 => ?_)
            · exact hr_vret B hb rfl ⟨rfl, rfl, C2, rfl, hI2, hfr, hw2, hon, htp, fun _ => by omega⟩ hW hS dX12_joins_73
            · refine lv_aload_n hx hb dX12_joins_45 rfl (lv_at hl 0 rfl) ?_
              refine lv_dup hx hb dX12_joins_46 rfl ?_
              refine hr_getI B hF hb hW (ci := 12) (j := 47) (cd := 0) t0 rfl (isF (by decide +kernel)) rfl dX12_joins_47 (fun z47 lz47 uz47 pz47 xz47 => ?_)
              have xz47 := tk_xo xz47 (fun _ h => h) (pq := ck_prot1) (C := C2) t0 (by decide); have kz47 := congrArg Int32.toInt xz47
              have e47 : z47.toInt = (C2 12 47).toInt := by rw [kz47]
              refine hr_ic hx hb dX12_joins_50 (by decide) (fun z50 hz50 => ?_)
              refine hr_sub hx hb dX12_joins_51 (by omega) (by omega) (fun z51 hz51 => ?_)
              refine hr_putN B hF hb hU hW hS (ci := 12) (j := 47) (cd := 0) t0 rfl (isF (by decide +kernel)) rfl (by omega) (by omega) (Or.inl rfl) (tk_EO t0 (fun a h => hun 12 (by decide) _ _ t0 h) (by decide)) (by decide) dX12_joins_52 (fun H locs hW hS => ?_)
              obtain ⟨C52, c52⟩ : ∃ f, f = tk_upd C2 12 (47) z51 := ⟨_, rfl⟩
              rw [← c52] at hW
              refine lv_aload_n hx hb dX12_joins_55 rfl (lv_at hl 0 rfl) ?_
              refine lv_aload_n hx hb dX12_joins_56 rfl (lv_at hl 0 rfl) ?_
              refine hr_getR B hF hb hW (ci := 12) (j := 44) (cd := 3) t0 rfl (isF (by decide +kernel)) rfl dX12_joins_57 (fun az57 tz57 xz57 => ?_)
              refine lv_aload_n hx hb dX12_joins_60 rfl (lv_at hl 0 rfl) ?_
              refine hr_getI B hF hb hW (ci := 12) (j := 47) (cd := 0) t0 rfl (isF (by decide +kernel)) rfl dX12_joins_61 (fun z61 lz61 uz61 pz61 xz61 => ?_)
              have xz61 := tk_xo xz61 (fun _ h => h) (pq := ck_prot1) (C := C52) t0 (by decide); have kz61 := congrArg Int32.toInt xz61
              have e61 : z61.toInt = z51.toInt := by rw [kz61, c52, tk_us]
              refine hr_iald B hb hW tz57 rfl (by omega) (by omega) dX12_joins_64 (fun z64 iz64 pz64 xz64 => ?_)
              have xz64 := tk_xa xz64 (fun _ h => h) (pq := ck_prot1) (C := C52) tz57 ⟨(0, 44), by decide, by dsimp only; omega, by dsimp only; omega⟩; have kz64 := congrArg Int32.toInt xz64
              have e64 : z64.toInt = (C2 43 ((C2 12 47).toInt - 1).toNat).toInt := by rw [kz64, c52, tk_unt (by decide), show z61.toInt.toNat = ((C2 12 47).toInt - 1).toNat by omega]
              refine hr_ic hx hb dX12_joins_65 (by decide) (fun z65 hz65 => ?_)
              refine hr_ic hx hb dX12_joins_66 (by decide) (fun z66 hz66 => ?_)
              refine hr_callV (kc := kh_12_code) B rfl hb hl (hMh _ (List.mem_of_getElem? (i := 11) rfl)) (b := a0) (As := [.int z64, .int z65, .int z66]) (hs_code hF hC hM hMh hU hun hH1 t0 (C := C52) ⟨by rw [c52, tk_unj (by decide)]; omega, by rw [c52, tk_unj (by decide)]; omega⟩) ⟨hr_aR t0, hr_aF, hr_aF, hr_aF, True.intro⟩ hW hS rfl (by decide) (by decide) (Nat.le_of_ble_eq_true rfl) dX12_joins_67 (fun r pvv67 E67 H locs hpost hW hS => ?_)
              obtain ⟨rfl, rfl, C67, rfl, d1, d2, d3, d4⟩ := hpost
              have q1 : C52 12 45 = C2 12 45 := by rw [c52, tk_unj (by decide)]
              rw [q1] at d1 d2 d3
              have k1 : (C67 12 47).toInt = (C2 12 47).toInt - 1 := by rw [d4 12 47 (by decide) (by decide), c52, tk_us]; omega
              have k2 : (C67 12 46).toInt = (C2 12 46).toInt := by rw [d4 12 46 (by decide) (by decide), c52, tk_unj (by decide)]
              have k3 : (C67 12 49).toInt = (C2 12 49).toInt := by rw [d4 12 49 (by decide) (by decide), c52, tk_unj (by decide)]
              have k4 : ∀ j, C67 43 j = C2 43 j := fun j => by rw [d4 43 j (by decide) (fun q => absurd q.1 (by decide)), c52, tk_unt (by decide)]
              have k5 : ∀ j, j < 3 * (C2 12 45).toInt.toNat → C67 36 j = C2 36 j := fun j hj => by rw [d3 j hj, c52, tk_unt (by decide)]
              have kS : (C2 43 ((C2 12 47).toInt - 1).toNat).toInt = 21 ∨ (C2 43 ((C2 12 47).toInt - 1).toNat).toInt = 22 := by omega
              have kb : bn C2 (C2 12 47).toInt.toNat = bn C2 ((C2 12 47).toInt - 1).toNat + 1 := by rw [show (C2 12 47).toInt.toNat = ((C2 12 47).toInt - 1).toNat + 1 by omega]; exact bn_y kS
              have kn := bn_nn (C := C2) ((C2 12 47).toInt - 1).toNat
              have kd := code_ok (C := C2) (C' := C67) (n := (C2 12 45).toInt.toNat) (by omega) (by omega) k5 s7 (fun _ => by omega) (fun _ => by omega)
              have kI : SI C67 := by
                refine ⟨by omega, by omega, by omega, by omega, by omega, by omega, kd.1, ?_⟩
                rw [show (C67 12 45).toInt.toNat = (C2 12 45).toInt.toNat + 1 by omega, dp_bin (by rw [rf_s, d2]; omega), kd.2, k1, k3, bn_co (fun j _ => k4 j)]; omega
              have kf : sfr C C67 := fun t j h1 h2 h3 => by rw [d4 t j h1 (fun q => h3 ⟨q.1, Or.inl q.2⟩), c52, tk_un (fun q => h3 ⟨q.1, Or.inr (Or.inr (Or.inl q.2))⟩)]; exact hfr t j h1 h2 h3
              refine lv_goto (tgt := 0) hx hb dX12_joins_70 (by decide) ?_
              exact ih C67 _ _ _ (by omega) kI kf (by omega) (by omega) (by omega) hl hW hS
  exact lp ((C 12 47).toInt.toNat + 1) C _ _ _ (by have := hI0.2.1; omega) hI0 sfr_rf hw rfl (Int.le_refl _) hl hW hS
end H31

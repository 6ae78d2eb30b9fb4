/-! SENTENCES ALIKE, 3: level by level. -/
theorem y_fine {C : ev_C} : (C 8 9 = 0 → f_8_isFine C = some (1, C)) ∧ (C 8 9 ≠ 0 → f_8_isFine C = some (0, C)) := by
  unfold f_8_isFine
  exact ⟨fun h => if_neg (fun q => q h), fun h => if_pos h⟩
theorem y_iaw {C : ev_C} {x : Int} (hx : x ≠ -1) : f_8_isAtWord C x = some (if z_wi C = x then 1 else 0, C) := by
  unfold f_8_isAtWord z_wi
  by_cases h1 : C 8 4 = 1
  · rw [if_neg (fun q => q h1), if_pos h1]
    by_cases h2 : C 8 7 = x
    · rw [if_neg (fun q => q h2), if_pos h2]
    · rw [if_pos h2, if_neg h2]
  · rw [if_pos h1, if_neg h1, if_neg (fun q => hx q.symm)]
theorem y_rep {S : List Int} : ∀ j : Nat, List.replicate j (20 : Int) ++ 20 :: S = List.replicate (j + 1) 20 ++ S
  | 0 => rfl
  | j + 1 => by
    rw [List.replicate_succ, List.cons_append, y_rep j]
    rfl
def y_flt (e : Int) (C1 C2 C1' : ev_C) : Prop := (0 ≤ C1' 14 1 ∧ C1' 14 1 ≤ 40) ∧ C1' 8 9 ≠ 0 ∧ ∃ k : Nat, (k : Int) ≤ 3 * (20 - C1 14 0) + e ∧ y_bad C2 C1' k
def y_okO (C1 C2 : ev_C) (S : List Int) (q : Int) (C1' : ev_C) : Prop := ∃ (j : Nat) (C2' : ev_C) (k : Nat), y_A C1' C2' (List.replicate j 20 ++ S) (q + (j : Int)) 1 ∧ q + (j : Int) ≤ 9 ∧ (k : Int) + 1 ≤ 3 * (C1' 14 0 - C1 14 0) ∧ y_go C2 C2' k
def y_okA (e : Int) (C1 C2 : ev_C) (S : List Int) (q : Int) (C1' : ev_C) : Prop := ∃ (j : Nat) (a : List Int) (C2' : ev_C) (k : Nat), (∀ x ∈ a, x = 21) ∧ y_A C1' C2' (List.replicate j 20 ++ (a ++ S)) (q + (j : Int)) 1 ∧ q + (j : Int) ≤ 9 ∧ (k : Int) + e ≤ 3 * (C1' 14 0 - C1 14 0) ∧ y_go C2 C2' k ∧ z_wi C1' ≠ 17
def y_okC (e : Int) (C1 C2 : ev_C) (S : List Int) (q : Int) (C1' : ev_C) : Prop := ∃ (j : Nat) (a : List Int) (C2' : ev_C) (k : Nat), (∀ x ∈ a, x = 21 ∨ x = 22) ∧ y_A C1' C2' (List.replicate j 20 ++ (a ++ S)) (q + (j : Int)) 1 ∧ q + (j : Int) ≤ 9 ∧ (k : Int) + e ≤ 3 * (C1' 14 0 - C1 14 0) ∧ y_go C2 C2' k ∧ z_wi C1' ≠ 17 ∧ z_wi C1' ≠ 16
theorem y_B1 {C1 C2 : ev_C} {S : List Int} {d w : Int} (h : y_A C1 C2 S d w) : (0 ≤ C1 14 0 ∧ C1 14 0 ≤ 20) ∧ (0 ≤ C1 14 1 ∧ C1 14 1 ≤ 40) ∧ C1 8 9 = 0 := ⟨h.2.2.1, h.2.2.2.1, h.1.1.2.1⟩
theorem y_succ {k : Nat} (h : (k : Int) ≤ 1000) : ev_w ((k : Int) + 1) = ((k + 1 : Nat) : Int) := by
  rw [ev_w_id (by omega) (by omega)]
  omega
theorem y_one9f {C1 C2 : ev_C} {S : List Int} (h : y_A C1 C2 S 9 0) : ∃ C1', f_9_readOne_14_8_6_k9 C1 = some C1' ∧ y_flt 3 C1 C2 C1' := by
  obtain ⟨v, r, v0, r0, v1, wv, hc⟩ := y_start h (by decide) (by decide)
  obtain ⟨hb, hb1, -⟩ := y_B1 h
  have hw := (z_word h.1).1
  have hN : (v = 0 ∧ (z_wi C1 < 18 ∨ 26 < z_wi C1)) → f_9_readOne_14_8_6_k9 C1 = (ev_bv (f_8_fail C1 1) fun C17 => some C17) := fun c1 => by
    unfold f_9_readOne_14_8_6_k9
    rw [hw, ev_bdS, v1, ev_bdS, if_neg (show ¬ v ≠ 0 by omega)]
    by_cases e : z_wi C1 < 18
    · rw [if_pos e]
    · rw [if_neg e, if_neg (show ¬ z_wi C1 ≤ 26 by omega)]
  have hJ : (v = 1 ∨ (18 ≤ z_wi C1 ∧ z_wi C1 ≤ 26)) → f_9_readOne_14_8_6_k9 C1 = f_9_readOne_14_8_6_k9_J39 C1 (z_wi C1) v := fun c1 => by
    unfold f_9_readOne_14_8_6_k9
    rw [hw, ev_bdS, v1, ev_bdS]
    by_cases e : v ≠ 0
    · rw [if_pos e]
    · rw [if_neg e, if_neg (show ¬ z_wi C1 < 18 by omega), if_pos (show z_wi C1 ≤ 26 by omega)]
  rcases hc with ⟨c1, D, f1, f2, f3, f4⟩ | ⟨c1, c2, D, f1, f2, f3, f4⟩ | ⟨c1, c2, c3, D, C2', f1, f2, f3, f4, f5, f6⟩
  · refine ⟨D, ?_, ⟨by rw [f2]; exact hb1, f3, 1, by omega, f4⟩⟩
    rw [hN c1, f1, ev_bvS]
  · refine ⟨D, ?_, ⟨by rw [f2]; exact hb1, f3, 1, by omega, f4⟩⟩
    rw [hJ c1]
    unfold f_9_readOne_14_8_6_k9_J39
    by_cases e : 20 ≤ C1 14 0
    · rw [if_pos e, f1, ev_bvS]
    · rw [if_neg e, f1, ev_bvS]
  · exact absurd c3 (by decide)
theorem y_one9 {C1 C2 : ev_C} {S : List Int} (h : y_A C1 C2 S 9 0) : ∃ C1', f_9_readOne_14_8_6_k9 C1 = some C1' ∧ (y_okO C1 C2 S 9 C1' ∨ y_flt 3 C1 C2 C1') := by
  obtain ⟨E, e1, e2⟩ := y_one9f h
  exact ⟨E, e1, Or.inr e2⟩
theorem y_allF8 {C : ev_C} {y : Int} {N : Nat} (h : C 8 9 ≠ 0) (hN : 1 ≤ N) : f_9_readAll_14_8_6_k8_L12 N C y = some C := by
  obtain ⟨n, rfl⟩ : ∃ n, N = n + 1 := ⟨N - 1, by omega⟩
  rw [f_9_readAll_14_8_6_k8_L12]
  by_cases e : 20 ≤ y
  · rw [if_pos e]
  · rw [if_neg e, y_fine.2 h, ev_bdS, if_pos (rfl : (0 : Int) = 0)]
theorem y_all8 {C1 C2 : ev_C} {S : List Int} (h : y_A C1 C2 S 9 0) (hS : ∀ x S', S = x :: S' → x ≠ 20 ∧ x ≠ 21) : ∃ C1', f_9_readAll_14_8_6_k8 C1 = some C1' ∧ (y_okA 1 C1 C2 S 9 C1' ∨ y_flt 3 C1 C2 C1') := by
  obtain ⟨E, e1, e2⟩ := y_one9f h
  unfold f_9_readAll_14_8_6_k8
  rw [e1, ev_bvS]
  exact ⟨E, y_allF8 e2.2.1 (by decide), Or.inr e2⟩
theorem y_all8f {C1 C2 : ev_C} {S : List Int} (h : y_A C1 C2 S 9 0) : ∃ C1', f_9_readAll_14_8_6_k8 C1 = some C1' ∧ y_flt 3 C1 C2 C1' := by
  obtain ⟨E, e1, e2⟩ := y_one9f h
  unfold f_9_readAll_14_8_6_k8
  rw [e1, ev_bvS]
  exact ⟨E, y_allF8 e2.2.1 (by decide), e2⟩
theorem y_condF8 {C : ev_C} {y : Int} {N : Nat} (h : C 8 9 ≠ 0) (hN : 1 ≤ N) : f_9_readCond_14_8_6_k8_L10 N C y = some C := by
  obtain ⟨n, rfl⟩ : ∃ n, N = n + 1 := ⟨N - 1, by omega⟩
  rw [f_9_readCond_14_8_6_k8_L10]
  by_cases e : 20 ≤ y
  · rw [if_pos e]
  · rw [if_neg e, y_fine.2 h, ev_bdS, if_pos (rfl : (0 : Int) = 0)]
theorem y_cond8 {C1 C2 : ev_C} {S : List Int} (h : y_A C1 C2 S 9 0) (hS : ∀ x S', S = x :: S' → x ≠ 20 ∧ x ≠ 21 ∧ x ≠ 22) : ∃ C1', f_9_readCond_14_8_6_k8 C1 = some C1' ∧ (y_okC 1 C1 C2 S 9 C1' ∨ y_flt 3 C1 C2 C1') := by
  obtain ⟨E, e1, e2⟩ := y_all8f h
  unfold f_9_readCond_14_8_6_k8
  rw [e1, ev_bvS]
  exact ⟨E, y_condF8 e2.2.1 (by decide), Or.inr e2⟩
theorem y_one8 {C1 C2 : ev_C} {S : List Int} (h : y_A C1 C2 S 8 0) : ∃ C1', f_9_readOne_14_8_6_k8 C1 = some C1' ∧ (y_okO C1 C2 S 8 C1' ∨ y_flt 3 C1 C2 C1') := by
  obtain ⟨v, r, v0, r0, v1, wv, hc⟩ := y_start h (by decide) (by decide)
  obtain ⟨hb, hb1, -⟩ := y_B1 h
  have hw := (z_word h.1).1
  have hN : (v = 0 ∧ (z_wi C1 < 18 ∨ 26 < z_wi C1)) → f_9_readOne_14_8_6_k8 C1 = (ev_bv (f_8_fail C1 1) fun C17 => some C17) := fun c1 => by
    unfold f_9_readOne_14_8_6_k8
    rw [hw, ev_bdS, v1, ev_bdS, if_neg (show ¬ v ≠ 0 by omega)]
    by_cases e : z_wi C1 < 18
    · rw [if_pos e]
    · rw [if_neg e, if_neg (show ¬ z_wi C1 ≤ 26 by omega)]
  have hJ : (v = 1 ∨ (18 ≤ z_wi C1 ∧ z_wi C1 ≤ 26)) → f_9_readOne_14_8_6_k8 C1 = f_9_readOne_14_8_6_k8_J39 C1 (z_wi C1) v := fun c1 => by
    unfold f_9_readOne_14_8_6_k8
    rw [hw, ev_bdS, v1, ev_bdS]
    by_cases e : v ≠ 0
    · rw [if_pos e]
    · rw [if_neg e, if_neg (show ¬ z_wi C1 < 18 by omega), if_pos (show z_wi C1 ≤ 26 by omega)]
  rcases hc with ⟨c1, D, f1, f2, f3, f4⟩ | ⟨c1, c2, D, f1, f2, f3, f4⟩ | ⟨c1, c2, c3, D, C2', f1, f2, f3, f4, f5, f6⟩
  · refine ⟨D, ?_, Or.inr ⟨by rw [f2]; exact hb1, f3, 1, by omega, f4⟩⟩
    rw [hN c1, f1, ev_bvS]
  · refine ⟨D, ?_, Or.inr ⟨by rw [f2]; exact hb1, f3, 1, by omega, f4⟩⟩
    rw [hJ c1]
    unfold f_9_readOne_14_8_6_k8_J39
    by_cases e : 20 ≤ C1 14 0
    · rw [if_pos e, f1, ev_bvS]
    · exact absurd c2 (by omega)
  · have hE : f_9_readOne_14_8_6_k8 C1 = (if v = 0 then (if z_wi C1 ≠ 18 then (ev_bv (f_9_readPlainOne_14_8_6 D (z_wi C1)) fun C9 => some C9) else (ev_bv (f_9_readOne_14_8_6_k9 D) fun C10 => ev_bv (f_9_addStep_14 C10 18 0 0) fun C11 => some C11)) else (ev_bv (f_9_readCond_14_8_6_k8 D) fun C12 => ev_bd (f_8_isFine C12) fun r13 C13 => if r13 = 0 then some C13 else (ev_bv (f_8_takeSign C13 41) fun C15 => some C15))) := by
      rw [hJ c1]
      unfold f_9_readOne_14_8_6_k8_J39
      rw [if_neg (show ¬ 20 ≤ C1 14 0 by omega), f1, ev_bvS]
    obtain ⟨hd, hd1, -⟩ := y_B1 f2
    by_cases hv : v = 1
    · have hw1 := wv hv
      obtain ⟨C2p, p1, p2⟩ := y_push 23 f2 f4 (by decide) (y1 := r) (y2 := v) (y3 := y_lf (z_wi C1))
      have ho : f_12_operand C2 = some (1, C2p) := by
        rw [f6]
        unfold y_rest
        rw [if_neg (show ¬ r ≠ 0 by omega), if_neg (show ¬ v = 0 by omega)]
        unfold f_12_operand_J84
        rw [if_pos (show r = 0 by omega)]
        exact p1
      have hg := y_it0 f5 ho
      have p2 : y_A D C2p (23 :: S) 9 0 := p2
      obtain ⟨E, k1, k2⟩ := y_cond8 p2 (fun x S' e => by have e1 : (23 : Int) = x := (List.cons.inj e).1; omega)
      rw [if_neg (show ¬ v = 0 by omega), k1, ev_bvS] at hE
      rcases k2 with ⟨j, a, C2e, k, ha, hA, hj, hk, hgo, hz⟩ | ⟨fb, fn, k, fk, fbad⟩
      · obtain ⟨he, he1, he2⟩ := y_B1 hA
        have hA2 : y_A E C2e (List.replicate j 20 ++ (a ++ 23 :: S)) (8 + 1 + (j : Int)) 1 := by
          have e : ((8 : Int) + 1 + (j : Int)) = 9 + (j : Int) := by omega
          rw [e]
          exact hA
        obtain ⟨C1', t1, t2, t3⟩ := y_close hA2 (by decide) (by omega) hz ha
        have t20 : C1' 14 0 = E 14 0 := congrFun t2 0
        rw [y_fine.1 he2, ev_bdS, if_neg (show ¬ (1 : Int) = 0 by decide), t1, ev_bvS] at hE
        refine ⟨C1', hE, ?_⟩
        rcases t3 with ⟨C2f, u1, u2⟩ | ⟨u1, u2⟩
        · refine Or.inl ⟨0, C2f, _, ?_, by omega, by omega, (hg.tr hgo).tr u2⟩
          have e : (8 : Int) + ((0 : Nat) : Int) = 8 := by omega
          rw [e]
          exact u1
        · exact Or.inr ⟨by rw [t2]; exact he1, u1, _, by omega, (hg.tr hgo).bad u2⟩
      · rw [y_fine.2 fn, ev_bdS, if_pos (rfl : (0 : Int) = 0)] at hE
        exact ⟨E, hE, Or.inr ⟨fb, fn, _, by omega, hg.bad fbad⟩⟩
    · have hv0 : v = 0 := v0.resolve_right hv
      rw [if_pos hv0] at hE
      by_cases hr : z_wi C1 = 18
      · obtain ⟨C2p, p1, p2⟩ := y_push 20 f2 f4 (by decide) (y1 := r) (y2 := v) (y3 := y_lf (z_wi C1))
        have ho : f_12_operand C2 = some (1, C2p) := by
          rw [f6]
          unfold y_rest
          rw [if_pos (show r ≠ 0 by omega)]
          unfold f_12_operand_J84
          rw [if_neg (show ¬ r = 0 by omega)]
          exact p1
        have hg := y_it0 f5 ho
        have p2 : y_A D C2p (20 :: S) 9 0 := p2
        obtain ⟨E, k1, k2⟩ := y_one9 p2
        rw [if_neg (fun q => q hr), k1, ev_bvS] at hE
        rcases k2 with ⟨j, C2e, k, hA, hj, hk, hgo⟩ | ⟨fb, fn, k, fk, fbad⟩
        · obtain ⟨he, he1, he2⟩ := y_B1 hA
          obtain ⟨C1', a1, a2, a3, a4⟩ := y_add (C := E) (a := 18) (b := 0) (c := 0) he1
          rw [a1, ev_bvS] at hE
          have hA2 : y_A E C2e (List.replicate (j + 1) 20 ++ S) (8 + ((j + 1 : Nat) : Int)) 1 := by
            have e : (8 : Int) + ((j + 1 : Nat) : Int) = 9 + (j : Int) := by omega
            rw [e, ← y_rep j]
            exact hA
          exact ⟨C1', hE, Or.inl ⟨j + 1, C2e, _, hA2.ad a2 a3 a4, by omega, by omega, hg.tr hgo⟩⟩
        · obtain ⟨C1', a1, a2, a3, a4⟩ := y_add (C := E) (a := 18) (b := 0) (c := 0) fb
          rw [a1, ev_bvS] at hE
          exact ⟨C1', hE, Or.inr ⟨a4, by rw [a2 8 (by decide)]; exact fn, _, by omega, (hg.bad fbad).c8 (a2 8 (by decide))⟩⟩
      · obtain ⟨E, e1, e2, e3, e4⟩ := y_plain (i := z_wi C1) f2 f4 (by omega)
        rw [if_pos hr, e1, ev_bvS] at hE
        have ho : f_12_operand C2 = y_pl C2' (y_lf (z_wi C1)) := by
          rw [f6]
          unfold y_rest
          rw [if_neg (show ¬ r ≠ 0 by omega), if_pos hv0]
        refine ⟨E, hE, ?_⟩
        rcases e4 with ⟨C2e, g1, g2⟩ | ⟨C2e, g1, g2⟩
        · refine Or.inl ⟨0, C2e, 1, ?_, by omega, by omega, y_it0 f5 (ho.trans g1)⟩
          have e : (8 : Int) + ((0 : Nat) : Int) = 8 := by omega
          rw [e]
          exact g2
        · exact Or.inr ⟨e3, g2.2.1, 1, by omega, y_it0b f5 (ho.trans g1) g2⟩
theorem y_allF7 {C : ev_C} {y : Int} {N : Nat} (h : C 8 9 ≠ 0) (hN : 1 ≤ N) : f_9_readAll_14_8_6_k7_L12 N C y = some C := by
  obtain ⟨n, rfl⟩ : ∃ n, N = n + 1 := ⟨N - 1, by omega⟩
  rw [f_9_readAll_14_8_6_k7_L12]
  by_cases e : 20 ≤ y
  · rw [if_pos e]
  · rw [if_neg e, y_fine.2 h, ev_bdS, if_pos (rfl : (0 : Int) = 0)]
theorem y_allL7 {S : List Int} (hS : ∀ x S', S = x :: S' → x ≠ 20 ∧ x ≠ 21) : ∀ (N m : Nat) (C1 C2 : ev_C) (k j : Nat) (a : List Int), 20 - k ≤ m → m < N → (k : Int) < C1 14 0 → y_A C1 C2 (List.replicate j 20 ++ (a ++ S)) (8 + (j : Int)) 1 → (8 : Int) + (j : Int) ≤ 9 → (∀ x ∈ a, x = 21) → ∃ C1', f_9_readAll_14_8_6_k7_L12 N C1 (k : Int) = some C1' ∧ (y_okA 0 C1 C2 S 8 C1' ∨ y_flt 4 C1 C2 C1')
  | 0, _, _, _, _, _, _, _, h, _, _, _, _ => absurd h (Nat.not_lt_zero _)
  | N + 1, m, C1, C2, k, j, a, hm, hN, hk, h, hj, ha => by
    obtain ⟨hb, hb1, hb2⟩ := y_B1 h
    rw [f_9_readAll_14_8_6_k7_L12, if_neg (show ¬ (20 : Int) ≤ (k : Int) by omega), y_fine.1 hb2, ev_bdS, if_neg (show ¬ (1 : Int) = 0 by decide), y_iaw (x := 17) (by decide), ev_bdS]
    by_cases hw : z_wi C1 = 17
    · rw [if_pos hw, if_neg (show ¬ (1 : Int) = 0 by decide)]
      obtain ⟨D, C2', g1, g2, g3, g4⟩ := y_and (v := 21) (q := 8) h (by decide) (by omega) (Or.inl ⟨rfl, hw⟩) (fun x hx => Or.inl (ha x hx)) (fun x S' e => ⟨(hS x S' e).1, (hS x S' e).2, Or.inr (by decide)⟩)
      have d0 : D 14 0 = C1 14 0 := congrFun g4 0
      obtain ⟨E, e1, e2⟩ := y_one8 g3
      rw [g1, ev_bvS, e1, ev_bvS]
      rcases e2 with ⟨j', C2e, k', o1, o2, o3, o4⟩ | ⟨fb, fn, k', fk, fbad⟩
      · obtain ⟨he, he1, he2⟩ := y_B1 o1
        obtain ⟨F, a1, a2, a3, a4⟩ := y_add (C := E) (a := 17) (b := 0) (c := 0) he1
        have oF : y_A F C2e (List.replicate j' 20 ++ ([21] ++ S)) (8 + (j' : Int)) 1 := o1.ad a2 a3 a4
        obtain ⟨C1', l1, l2⟩ := y_allL7 hS N (m - 1) F C2e (k + 1) j' [21] (by omega) (by omega) (by rw [a3]; omega) oF o2 (fun x hx => List.mem_singleton.mp hx)
        rw [a1, ev_bvS, y_succ (by omega)]
        refine ⟨C1', l1, ?_⟩
        rcases l2 with ⟨j2, b, C2f, k2, p1, p2, p3, p4, p5, p6⟩ | ⟨fb, fn, k2, fk, fbad⟩
        · exact Or.inl ⟨j2, b, C2f, _, p1, p2, p3, by omega, (g2.tr o4).tr p5, p6⟩
        · exact Or.inr ⟨fb, fn, _, by omega, (g2.tr o4).bad fbad⟩
      · obtain ⟨F, a1, a2, a3, a4⟩ := y_add (C := E) (a := 17) (b := 0) (c := 0) fb
        have fF : F 8 9 ≠ 0 := by rw [a2 8 (by decide)]; exact fn
        rw [a1, ev_bvS, y_allF7 fF (by omega)]
        exact ⟨F, rfl, Or.inr ⟨a4, fF, _, by omega, (g2.bad fbad).c8 (a2 8 (by decide))⟩⟩
    · rw [if_neg hw, if_pos (rfl : (0 : Int) = 0)]
      exact ⟨C1, rfl, Or.inl ⟨j, a, C2, 0, ha, h, hj, by omega, fun n => rfl, hw⟩⟩
theorem y_all7 {C1 C2 : ev_C} {S : List Int} (h : y_A C1 C2 S 8 0) (hS : ∀ x S', S = x :: S' → x ≠ 20 ∧ x ≠ 21) : ∃ C1', f_9_readAll_14_8_6_k7 C1 = some C1' ∧ (y_okA 1 C1 C2 S 8 C1' ∨ y_flt 3 C1 C2 C1') := by
  obtain ⟨E, e1, e2⟩ := y_one8 h
  obtain ⟨hb, -, -⟩ := y_B1 h
  unfold f_9_readAll_14_8_6_k7
  rw [e1, ev_bvS]
  rcases e2 with ⟨j', C2e, k', o1, o2, o3, o4⟩ | ⟨fb, fn, k', fk, fbad⟩
  · obtain ⟨C1', l1, l2⟩ := y_allL7 hS 1000 20 E C2e 0 j' [] (by decide) (by decide) (by omega) o1 o2 (fun x hx => by cases hx)
    have l1 : f_9_readAll_14_8_6_k7_L12 1000 E 0 = some C1' := l1
    refine ⟨C1', l1, ?_⟩
    rcases l2 with ⟨j2, b, C2f, k2, p1, p2, p3, p4, p5, p6⟩ | ⟨fb, fn, k2, fk, fbad⟩
    · exact Or.inl ⟨j2, b, C2f, _, p1, p2, p3, by omega, o4.tr p5, p6⟩
    · exact Or.inr ⟨fb, fn, _, by omega, o4.bad fbad⟩
  · exact ⟨E, y_allF7 fn (by decide), Or.inr ⟨fb, fn, k', fk, fbad⟩⟩
theorem y_condF7 {C : ev_C} {y : Int} {N : Nat} (h : C 8 9 ≠ 0) (hN : 1 ≤ N) : f_9_readCond_14_8_6_k7_L10 N C y = some C := by
  obtain ⟨n, rfl⟩ : ∃ n, N = n + 1 := ⟨N - 1, by omega⟩
  rw [f_9_readCond_14_8_6_k7_L10]
  by_cases e : 20 ≤ y
  · rw [if_pos e]
  · rw [if_neg e, y_fine.2 h, ev_bdS, if_pos (rfl : (0 : Int) = 0)]
theorem y_condL7 {S : List Int} (hS : ∀ x S', S = x :: S' → x ≠ 20 ∧ x ≠ 21 ∧ x ≠ 22) : ∀ (N m : Nat) (C1 C2 : ev_C) (k j : Nat) (a : List Int), 20 - k ≤ m → m < N → (k : Int) < C1 14 0 → y_A C1 C2 (List.replicate j 20 ++ (a ++ S)) (8 + (j : Int)) 1 → (8 : Int) + (j : Int) ≤ 9 → (∀ x ∈ a, x = 21 ∨ x = 22) → z_wi C1 ≠ 17 → ∃ C1', f_9_readCond_14_8_6_k7_L10 N C1 (k : Int) = some C1' ∧ (y_okC 0 C1 C2 S 8 C1' ∨ y_flt 4 C1 C2 C1')
  | 0, _, _, _, _, _, _, _, h, _, _, _, _, _ => absurd h (Nat.not_lt_zero _)
  | N + 1, m, C1, C2, k, j, a, hm, hN, hk, h, hj, ha, hz => by
    obtain ⟨hb, hb1, hb2⟩ := y_B1 h
    rw [f_9_readCond_14_8_6_k7_L10, if_neg (show ¬ (20 : Int) ≤ (k : Int) by omega), y_fine.1 hb2, ev_bdS, if_neg (show ¬ (1 : Int) = 0 by decide), y_iaw (x := 16) (by decide), ev_bdS]
    by_cases hw : z_wi C1 = 16
    · rw [if_pos hw, if_neg (show ¬ (1 : Int) = 0 by decide)]
      obtain ⟨D, C2', g1, g2, g3, g4⟩ := y_and (v := 22) (q := 8) h (by decide) (by omega) (Or.inr ⟨rfl, hw⟩) (fun x hx => by have := ha x hx; omega) (fun x S' e => by have := hS x S' e; omega)
      have d0 : D 14 0 = C1 14 0 := congrFun g4 0
      obtain ⟨E, e1, e2⟩ := y_all7 g3 (fun x S' e => by have e1 : (22 : Int) = x := (List.cons.inj e).1; omega)
      rw [g1, ev_bvS, e1, ev_bvS]
      rcases e2 with ⟨j', a', C2e, k', o0, o1, o2, o3, o4, o5⟩ | ⟨fb, fn, k', fk, fbad⟩
      · obtain ⟨he, he1, he2⟩ := y_B1 o1
        obtain ⟨F, a1, a2, a3, a4⟩ := y_add (C := E) (a := 16) (b := 0) (c := 0) he1
        have oF : y_A F C2e (List.replicate j' 20 ++ ((a' ++ [22]) ++ S)) (8 + (j' : Int)) 1 := by
          rw [List.append_assoc]
          exact o1.ad a2 a3 a4
        have hzF : z_wi F ≠ 17 := by
          have e : z_wi F = z_wi E := by
            unfold z_wi
            rw [a2 8 (by decide)]
          rw [e]
          exact o5
        obtain ⟨C1', l1, l2⟩ := y_condL7 hS N (m - 1) F C2e (k + 1) j' (a' ++ [22]) (by omega) (by omega) (by rw [a3]; omega) oF o2 (fun x hx => by
          rcases List.mem_append.mp hx with hx | hx
          · exact Or.inl (o0 x hx)
          · exact Or.inr (List.mem_singleton.mp hx)) hzF
        rw [a1, ev_bvS, y_succ (by omega)]
        refine ⟨C1', l1, ?_⟩
        rcases l2 with ⟨j2, b, C2f, k2, p1, p2, p3, p4, p5, p6⟩ | ⟨fb, fn, k2, fk, fbad⟩
        · exact Or.inl ⟨j2, b, C2f, _, p1, p2, p3, by omega, (g2.tr o4).tr p5, p6⟩
        · exact Or.inr ⟨fb, fn, _, by omega, (g2.tr o4).bad fbad⟩
      · obtain ⟨F, a1, a2, a3, a4⟩ := y_add (C := E) (a := 16) (b := 0) (c := 0) fb
        have fF : F 8 9 ≠ 0 := by rw [a2 8 (by decide)]; exact fn
        rw [a1, ev_bvS, y_condF7 fF (by omega)]
        exact ⟨F, rfl, Or.inr ⟨a4, fF, _, by omega, (g2.bad fbad).c8 (a2 8 (by decide))⟩⟩
    · rw [if_neg hw, if_pos (rfl : (0 : Int) = 0)]
      exact ⟨C1, rfl, Or.inl ⟨j, a, C2, 0, ha, h, hj, by omega, fun n => rfl, hz, hw⟩⟩
theorem y_cond7 {C1 C2 : ev_C} {S : List Int} (h : y_A C1 C2 S 8 0) (hS : ∀ x S', S = x :: S' → x ≠ 20 ∧ x ≠ 21 ∧ x ≠ 22) : ∃ C1', f_9_readCond_14_8_6_k7 C1 = some C1' ∧ (y_okC 1 C1 C2 S 8 C1' ∨ y_flt 3 C1 C2 C1') := by
  obtain ⟨E, e1, e2⟩ := y_all7 h (fun x S' e => ⟨(hS x S' e).1, (hS x S' e).2.1⟩)
  obtain ⟨hb, -, -⟩ := y_B1 h
  unfold f_9_readCond_14_8_6_k7
  rw [e1, ev_bvS]
  rcases e2 with ⟨j', a', C2e, k', o0, o1, o2, o3, o4, o5⟩ | ⟨fb, fn, k', fk, fbad⟩
  · obtain ⟨C1', l1, l2⟩ := y_condL7 hS 1000 20 E C2e 0 j' a' (by decide) (by decide) (by omega) o1 o2 (fun x hx => Or.inl (o0 x hx)) o5
    have l1 : f_9_readCond_14_8_6_k7_L10 1000 E 0 = some C1' := l1
    refine ⟨C1', l1, ?_⟩
    rcases l2 with ⟨j2, b, C2f, k2, p1, p2, p3, p4, p5, p6⟩ | ⟨fb, fn, k2, fk, fbad⟩
    · exact Or.inl ⟨j2, b, C2f, _, p1, p2, p3, by omega, o4.tr p5, p6⟩
    · exact Or.inr ⟨fb, fn, _, by omega, o4.bad fbad⟩
  · exact ⟨E, y_condF7 fn (by decide), Or.inr ⟨fb, fn, k', fk, fbad⟩⟩
theorem y_one7 {C1 C2 : ev_C} {S : List Int} (h : y_A C1 C2 S 7 0) : ∃ C1', f_9_readOne_14_8_6_k7 C1 = some C1' ∧ (y_okO C1 C2 S 7 C1' ∨ y_flt 3 C1 C2 C1') := by
  obtain ⟨v, r, v0, r0, v1, wv, hc⟩ := y_start h (by decide) (by decide)
  obtain ⟨hb, hb1, -⟩ := y_B1 h
  have hw := (z_word h.1).1
  have hN : (v = 0 ∧ (z_wi C1 < 18 ∨ 26 < z_wi C1)) → f_9_readOne_14_8_6_k7 C1 = (ev_bv (f_8_fail C1 1) fun C17 => some C17) := fun c1 => by
    unfold f_9_readOne_14_8_6_k7
    rw [hw, ev_bdS, v1, ev_bdS, if_neg (show ¬ v ≠ 0 by omega)]
    by_cases e : z_wi C1 < 18
    · rw [if_pos e]
    · rw [if_neg e, if_neg (show ¬ z_wi C1 ≤ 26 by omega)]
  have hJ : (v = 1 ∨ (18 ≤ z_wi C1 ∧ z_wi C1 ≤ 26)) → f_9_readOne_14_8_6_k7 C1 = f_9_readOne_14_8_6_k7_J39 C1 (z_wi C1) v := fun c1 => by
    unfold f_9_readOne_14_8_6_k7
    rw [hw, ev_bdS, v1, ev_bdS]
    by_cases e : v ≠ 0
    · rw [if_pos e]
    · rw [if_neg e, if_neg (show ¬ z_wi C1 < 18 by omega), if_pos (show z_wi C1 ≤ 26 by omega)]
  rcases hc with ⟨c1, D, f1, f2, f3, f4⟩ | ⟨c1, c2, D, f1, f2, f3, f4⟩ | ⟨c1, c2, c3, D, C2', f1, f2, f3, f4, f5, f6⟩
  · refine ⟨D, ?_, Or.inr ⟨by rw [f2]; exact hb1, f3, 1, by omega, f4⟩⟩
    rw [hN c1, f1, ev_bvS]
  · refine ⟨D, ?_, Or.inr ⟨by rw [f2]; exact hb1, f3, 1, by omega, f4⟩⟩
    rw [hJ c1]
    unfold f_9_readOne_14_8_6_k7_J39
    by_cases e : 20 ≤ C1 14 0
    · rw [if_pos e, f1, ev_bvS]
    · exact absurd c2 (by omega)
  · have hE : f_9_readOne_14_8_6_k7 C1 = (if v = 0 then (if z_wi C1 ≠ 18 then (ev_bv (f_9_readPlainOne_14_8_6 D (z_wi C1)) fun C9 => some C9) else (ev_bv (f_9_readOne_14_8_6_k8 D) fun C10 => ev_bv (f_9_addStep_14 C10 18 0 0) fun C11 => some C11)) else (ev_bv (f_9_readCond_14_8_6_k7 D) fun C12 => ev_bd (f_8_isFine C12) fun r13 C13 => if r13 = 0 then some C13 else (ev_bv (f_8_takeSign C13 41) fun C15 => some C15))) := by
      rw [hJ c1]
      unfold f_9_readOne_14_8_6_k7_J39
      rw [if_neg (show ¬ 20 ≤ C1 14 0 by omega), f1, ev_bvS]
    obtain ⟨hd, hd1, -⟩ := y_B1 f2
    by_cases hv : v = 1
    · have hw1 := wv hv
      obtain ⟨C2p, p1, p2⟩ := y_push 23 f2 f4 (by decide) (y1 := r) (y2 := v) (y3 := y_lf (z_wi C1))
      have ho : f_12_operand C2 = some (1, C2p) := by
        rw [f6]
        unfold y_rest
        rw [if_neg (show ¬ r ≠ 0 by omega), if_neg (show ¬ v = 0 by omega)]
        unfold f_12_operand_J84
        rw [if_pos (show r = 0 by omega)]
        exact p1
      have hg := y_it0 f5 ho
      have p2 : y_A D C2p (23 :: S) 8 0 := p2
      obtain ⟨E, k1, k2⟩ := y_cond7 p2 (fun x S' e => by have e1 : (23 : Int) = x := (List.cons.inj e).1; omega)
      rw [if_neg (show ¬ v = 0 by omega), k1, ev_bvS] at hE
      rcases k2 with ⟨j, a, C2e, k, ha, hA, hj, hk, hgo, hz⟩ | ⟨fb, fn, k, fk, fbad⟩
      · obtain ⟨he, he1, he2⟩ := y_B1 hA
        have hA2 : y_A E C2e (List.replicate j 20 ++ (a ++ 23 :: S)) (7 + 1 + (j : Int)) 1 := by
          have e : ((7 : Int) + 1 + (j : Int)) = 8 + (j : Int) := by omega
          rw [e]
          exact hA
        obtain ⟨C1', t1, t2, t3⟩ := y_close hA2 (by decide) (by omega) hz ha
        have t20 : C1' 14 0 = E 14 0 := congrFun t2 0
        rw [y_fine.1 he2, ev_bdS, if_neg (show ¬ (1 : Int) = 0 by decide), t1, ev_bvS] at hE
        refine ⟨C1', hE, ?_⟩
        rcases t3 with ⟨C2f, u1, u2⟩ | ⟨u1, u2⟩
        · refine Or.inl ⟨0, C2f, _, ?_, by omega, by omega, (hg.tr hgo).tr u2⟩
          have e : (7 : Int) + ((0 : Nat) : Int) = 7 := by omega
          rw [e]
          exact u1
        · exact Or.inr ⟨by rw [t2]; exact he1, u1, _, by omega, (hg.tr hgo).bad u2⟩
      · rw [y_fine.2 fn, ev_bdS, if_pos (rfl : (0 : Int) = 0)] at hE
        exact ⟨E, hE, Or.inr ⟨fb, fn, _, by omega, hg.bad fbad⟩⟩
    · have hv0 : v = 0 := v0.resolve_right hv
      rw [if_pos hv0] at hE
      by_cases hr : z_wi C1 = 18
      · obtain ⟨C2p, p1, p2⟩ := y_push 20 f2 f4 (by decide) (y1 := r) (y2 := v) (y3 := y_lf (z_wi C1))
        have ho : f_12_operand C2 = some (1, C2p) := by
          rw [f6]
          unfold y_rest
          rw [if_pos (show r ≠ 0 by omega)]
          unfold f_12_operand_J84
          rw [if_neg (show ¬ r = 0 by omega)]
          exact p1
        have hg := y_it0 f5 ho
        have p2 : y_A D C2p (20 :: S) 8 0 := p2
        obtain ⟨E, k1, k2⟩ := y_one8 p2
        rw [if_neg (fun q => q hr), k1, ev_bvS] at hE
        rcases k2 with ⟨j, C2e, k, hA, hj, hk, hgo⟩ | ⟨fb, fn, k, fk, fbad⟩
        · obtain ⟨he, he1, he2⟩ := y_B1 hA
          obtain ⟨C1', a1, a2, a3, a4⟩ := y_add (C := E) (a := 18) (b := 0) (c := 0) he1
          rw [a1, ev_bvS] at hE
          have hA2 : y_A E C2e (List.replicate (j + 1) 20 ++ S) (7 + ((j + 1 : Nat) : Int)) 1 := by
            have e : (7 : Int) + ((j + 1 : Nat) : Int) = 8 + (j : Int) := by omega
            rw [e, ← y_rep j]
            exact hA
          exact ⟨C1', hE, Or.inl ⟨j + 1, C2e, _, hA2.ad a2 a3 a4, by omega, by omega, hg.tr hgo⟩⟩
        · obtain ⟨C1', a1, a2, a3, a4⟩ := y_add (C := E) (a := 18) (b := 0) (c := 0) fb
          rw [a1, ev_bvS] at hE
          exact ⟨C1', hE, Or.inr ⟨a4, by rw [a2 8 (by decide)]; exact fn, _, by omega, (hg.bad fbad).c8 (a2 8 (by decide))⟩⟩
      · obtain ⟨E, e1, e2, e3, e4⟩ := y_plain (i := z_wi C1) f2 f4 (by omega)
        rw [if_pos hr, e1, ev_bvS] at hE
        have ho : f_12_operand C2 = y_pl C2' (y_lf (z_wi C1)) := by
          rw [f6]
          unfold y_rest
          rw [if_neg (show ¬ r ≠ 0 by omega), if_pos hv0]
        refine ⟨E, hE, ?_⟩
        rcases e4 with ⟨C2e, g1, g2⟩ | ⟨C2e, g1, g2⟩
        · refine Or.inl ⟨0, C2e, 1, ?_, by omega, by omega, y_it0 f5 (ho.trans g1)⟩
          have e : (7 : Int) + ((0 : Nat) : Int) = 7 := by omega
          rw [e]
          exact g2
        · exact Or.inr ⟨e3, g2.2.1, 1, by omega, y_it0b f5 (ho.trans g1) g2⟩
theorem y_allF6 {C : ev_C} {y : Int} {N : Nat} (h : C 8 9 ≠ 0) (hN : 1 ≤ N) : f_9_readAll_14_8_6_k6_L12 N C y = some C := by
  obtain ⟨n, rfl⟩ : ∃ n, N = n + 1 := ⟨N - 1, by omega⟩
  rw [f_9_readAll_14_8_6_k6_L12]
  by_cases e : 20 ≤ y
  · rw [if_pos e]
  · rw [if_neg e, y_fine.2 h, ev_bdS, if_pos (rfl : (0 : Int) = 0)]
theorem y_allL6 {S : List Int} (hS : ∀ x S', S = x :: S' → x ≠ 20 ∧ x ≠ 21) : ∀ (N m : Nat) (C1 C2 : ev_C) (k j : Nat) (a : List Int), 20 - k ≤ m → m < N → (k : Int) < C1 14 0 → y_A C1 C2 (List.replicate j 20 ++ (a ++ S)) (7 + (j : Int)) 1 → (7 : Int) + (j : Int) ≤ 9 → (∀ x ∈ a, x = 21) → ∃ C1', f_9_readAll_14_8_6_k6_L12 N C1 (k : Int) = some C1' ∧ (y_okA 0 C1 C2 S 7 C1' ∨ y_flt 4 C1 C2 C1')
  | 0, _, _, _, _, _, _, _, h, _, _, _, _ => absurd h (Nat.not_lt_zero _)
  | N + 1, m, C1, C2, k, j, a, hm, hN, hk, h, hj, ha => by
    obtain ⟨hb, hb1, hb2⟩ := y_B1 h
    rw [f_9_readAll_14_8_6_k6_L12, if_neg (show ¬ (20 : Int) ≤ (k : Int) by omega), y_fine.1 hb2, ev_bdS, if_neg (show ¬ (1 : Int) = 0 by decide), y_iaw (x := 17) (by decide), ev_bdS]
    by_cases hw : z_wi C1 = 17
    · rw [if_pos hw, if_neg (show ¬ (1 : Int) = 0 by decide)]
      obtain ⟨D, C2', g1, g2, g3, g4⟩ := y_and (v := 21) (q := 7) h (by decide) (by omega) (Or.inl ⟨rfl, hw⟩) (fun x hx => Or.inl (ha x hx)) (fun x S' e => ⟨(hS x S' e).1, (hS x S' e).2, Or.inr (by decide)⟩)
      have d0 : D 14 0 = C1 14 0 := congrFun g4 0
      obtain ⟨E, e1, e2⟩ := y_one7 g3
      rw [g1, ev_bvS, e1, ev_bvS]
      rcases e2 with ⟨j', C2e, k', o1, o2, o3, o4⟩ | ⟨fb, fn, k', fk, fbad⟩
      · obtain ⟨he, he1, he2⟩ := y_B1 o1
        obtain ⟨F, a1, a2, a3, a4⟩ := y_add (C := E) (a := 17) (b := 0) (c := 0) he1
        have oF : y_A F C2e (List.replicate j' 20 ++ ([21] ++ S)) (7 + (j' : Int)) 1 := o1.ad a2 a3 a4
        obtain ⟨C1', l1, l2⟩ := y_allL6 hS N (m - 1) F C2e (k + 1) j' [21] (by omega) (by omega) (by rw [a3]; omega) oF o2 (fun x hx => List.mem_singleton.mp hx)
        rw [a1, ev_bvS, y_succ (by omega)]
        refine ⟨C1', l1, ?_⟩
        rcases l2 with ⟨j2, b, C2f, k2, p1, p2, p3, p4, p5, p6⟩ | ⟨fb, fn, k2, fk, fbad⟩
        · exact Or.inl ⟨j2, b, C2f, _, p1, p2, p3, by omega, (g2.tr o4).tr p5, p6⟩
        · exact Or.inr ⟨fb, fn, _, by omega, (g2.tr o4).bad fbad⟩
      · obtain ⟨F, a1, a2, a3, a4⟩ := y_add (C := E) (a := 17) (b := 0) (c := 0) fb
        have fF : F 8 9 ≠ 0 := by rw [a2 8 (by decide)]; exact fn
        rw [a1, ev_bvS, y_allF6 fF (by omega)]
        exact ⟨F, rfl, Or.inr ⟨a4, fF, _, by omega, (g2.bad fbad).c8 (a2 8 (by decide))⟩⟩
    · rw [if_neg hw, if_pos (rfl : (0 : Int) = 0)]
      exact ⟨C1, rfl, Or.inl ⟨j, a, C2, 0, ha, h, hj, by omega, fun n => rfl, hw⟩⟩
theorem y_all6 {C1 C2 : ev_C} {S : List Int} (h : y_A C1 C2 S 7 0) (hS : ∀ x S', S = x :: S' → x ≠ 20 ∧ x ≠ 21) : ∃ C1', f_9_readAll_14_8_6_k6 C1 = some C1' ∧ (y_okA 1 C1 C2 S 7 C1' ∨ y_flt 3 C1 C2 C1') := by
  obtain ⟨E, e1, e2⟩ := y_one7 h
  obtain ⟨hb, -, -⟩ := y_B1 h
  unfold f_9_readAll_14_8_6_k6
  rw [e1, ev_bvS]
  rcases e2 with ⟨j', C2e, k', o1, o2, o3, o4⟩ | ⟨fb, fn, k', fk, fbad⟩
  · obtain ⟨C1', l1, l2⟩ := y_allL6 hS 1000 20 E C2e 0 j' [] (by decide) (by decide) (by omega) o1 o2 (fun x hx => by cases hx)
    have l1 : f_9_readAll_14_8_6_k6_L12 1000 E 0 = some C1' := l1
    refine ⟨C1', l1, ?_⟩
    rcases l2 with ⟨j2, b, C2f, k2, p1, p2, p3, p4, p5, p6⟩ | ⟨fb, fn, k2, fk, fbad⟩
    · exact Or.inl ⟨j2, b, C2f, _, p1, p2, p3, by omega, o4.tr p5, p6⟩
    · exact Or.inr ⟨fb, fn, _, by omega, o4.bad fbad⟩
  · exact ⟨E, y_allF6 fn (by decide), Or.inr ⟨fb, fn, k', fk, fbad⟩⟩
theorem y_condF6 {C : ev_C} {y : Int} {N : Nat} (h : C 8 9 ≠ 0) (hN : 1 ≤ N) : f_9_readCond_14_8_6_k6_L10 N C y = some C := by
  obtain ⟨n, rfl⟩ : ∃ n, N = n + 1 := ⟨N - 1, by omega⟩
  rw [f_9_readCond_14_8_6_k6_L10]
  by_cases e : 20 ≤ y
  · rw [if_pos e]
  · rw [if_neg e, y_fine.2 h, ev_bdS, if_pos (rfl : (0 : Int) = 0)]
theorem y_condL6 {S : List Int} (hS : ∀ x S', S = x :: S' → x ≠ 20 ∧ x ≠ 21 ∧ x ≠ 22) : ∀ (N m : Nat) (C1 C2 : ev_C) (k j : Nat) (a : List Int), 20 - k ≤ m → m < N → (k : Int) < C1 14 0 → y_A C1 C2 (List.replicate j 20 ++ (a ++ S)) (7 + (j : Int)) 1 → (7 : Int) + (j : Int) ≤ 9 → (∀ x ∈ a, x = 21 ∨ x = 22) → z_wi C1 ≠ 17 → ∃ C1', f_9_readCond_14_8_6_k6_L10 N C1 (k : Int) = some C1' ∧ (y_okC 0 C1 C2 S 7 C1' ∨ y_flt 4 C1 C2 C1')
  | 0, _, _, _, _, _, _, _, h, _, _, _, _, _ => absurd h (Nat.not_lt_zero _)
  | N + 1, m, C1, C2, k, j, a, hm, hN, hk, h, hj, ha, hz => by
    obtain ⟨hb, hb1, hb2⟩ := y_B1 h
    rw [f_9_readCond_14_8_6_k6_L10, if_neg (show ¬ (20 : Int) ≤ (k : Int) by omega), y_fine.1 hb2, ev_bdS, if_neg (show ¬ (1 : Int) = 0 by decide), y_iaw (x := 16) (by decide), ev_bdS]
    by_cases hw : z_wi C1 = 16
    · rw [if_pos hw, if_neg (show ¬ (1 : Int) = 0 by decide)]
      obtain ⟨D, C2', g1, g2, g3, g4⟩ := y_and (v := 22) (q := 7) h (by decide) (by omega) (Or.inr ⟨rfl, hw⟩) (fun x hx => by have := ha x hx; omega) (fun x S' e => by have := hS x S' e; omega)
      have d0 : D 14 0 = C1 14 0 := congrFun g4 0
      obtain ⟨E, e1, e2⟩ := y_all6 g3 (fun x S' e => by have e1 : (22 : Int) = x := (List.cons.inj e).1; omega)
      rw [g1, ev_bvS, e1, ev_bvS]
      rcases e2 with ⟨j', a', C2e, k', o0, o1, o2, o3, o4, o5⟩ | ⟨fb, fn, k', fk, fbad⟩
      · obtain ⟨he, he1, he2⟩ := y_B1 o1
        obtain ⟨F, a1, a2, a3, a4⟩ := y_add (C := E) (a := 16) (b := 0) (c := 0) he1
        have oF : y_A F C2e (List.replicate j' 20 ++ ((a' ++ [22]) ++ S)) (7 + (j' : Int)) 1 := by
          rw [List.append_assoc]
          exact o1.ad a2 a3 a4
        have hzF : z_wi F ≠ 17 := by
          have e : z_wi F = z_wi E := by
            unfold z_wi
            rw [a2 8 (by decide)]
          rw [e]
          exact o5
        obtain ⟨C1', l1, l2⟩ := y_condL6 hS N (m - 1) F C2e (k + 1) j' (a' ++ [22]) (by omega) (by omega) (by rw [a3]; omega) oF o2 (fun x hx => by
          rcases List.mem_append.mp hx with hx | hx
          · exact Or.inl (o0 x hx)
          · exact Or.inr (List.mem_singleton.mp hx)) hzF
        rw [a1, ev_bvS, y_succ (by omega)]
        refine ⟨C1', l1, ?_⟩
        rcases l2 with ⟨j2, b, C2f, k2, p1, p2, p3, p4, p5, p6⟩ | ⟨fb, fn, k2, fk, fbad⟩
        · exact Or.inl ⟨j2, b, C2f, _, p1, p2, p3, by omega, (g2.tr o4).tr p5, p6⟩
        · exact Or.inr ⟨fb, fn, _, by omega, (g2.tr o4).bad fbad⟩
      · obtain ⟨F, a1, a2, a3, a4⟩ := y_add (C := E) (a := 16) (b := 0) (c := 0) fb
        have fF : F 8 9 ≠ 0 := by rw [a2 8 (by decide)]; exact fn
        rw [a1, ev_bvS, y_condF6 fF (by omega)]
        exact ⟨F, rfl, Or.inr ⟨a4, fF, _, by omega, (g2.bad fbad).c8 (a2 8 (by decide))⟩⟩
    · rw [if_neg hw, if_pos (rfl : (0 : Int) = 0)]
      exact ⟨C1, rfl, Or.inl ⟨j, a, C2, 0, ha, h, hj, by omega, fun n => rfl, hz, hw⟩⟩
theorem y_cond6 {C1 C2 : ev_C} {S : List Int} (h : y_A C1 C2 S 7 0) (hS : ∀ x S', S = x :: S' → x ≠ 20 ∧ x ≠ 21 ∧ x ≠ 22) : ∃ C1', f_9_readCond_14_8_6_k6 C1 = some C1' ∧ (y_okC 1 C1 C2 S 7 C1' ∨ y_flt 3 C1 C2 C1') := by
  obtain ⟨E, e1, e2⟩ := y_all6 h (fun x S' e => ⟨(hS x S' e).1, (hS x S' e).2.1⟩)
  obtain ⟨hb, -, -⟩ := y_B1 h
  unfold f_9_readCond_14_8_6_k6
  rw [e1, ev_bvS]
  rcases e2 with ⟨j', a', C2e, k', o0, o1, o2, o3, o4, o5⟩ | ⟨fb, fn, k', fk, fbad⟩
  · obtain ⟨C1', l1, l2⟩ := y_condL6 hS 1000 20 E C2e 0 j' a' (by decide) (by decide) (by omega) o1 o2 (fun x hx => Or.inl (o0 x hx)) o5
    have l1 : f_9_readCond_14_8_6_k6_L10 1000 E 0 = some C1' := l1
    refine ⟨C1', l1, ?_⟩
    rcases l2 with ⟨j2, b, C2f, k2, p1, p2, p3, p4, p5, p6⟩ | ⟨fb, fn, k2, fk, fbad⟩
    · exact Or.inl ⟨j2, b, C2f, _, p1, p2, p3, by omega, o4.tr p5, p6⟩
    · exact Or.inr ⟨fb, fn, _, by omega, o4.bad fbad⟩
  · exact ⟨E, y_condF6 fn (by decide), Or.inr ⟨fb, fn, k', fk, fbad⟩⟩
theorem y_one6 {C1 C2 : ev_C} {S : List Int} (h : y_A C1 C2 S 6 0) : ∃ C1', f_9_readOne_14_8_6_k6 C1 = some C1' ∧ (y_okO C1 C2 S 6 C1' ∨ y_flt 3 C1 C2 C1') := by
  obtain ⟨v, r, v0, r0, v1, wv, hc⟩ := y_start h (by decide) (by decide)
  obtain ⟨hb, hb1, -⟩ := y_B1 h
  have hw := (z_word h.1).1
  have hN : (v = 0 ∧ (z_wi C1 < 18 ∨ 26 < z_wi C1)) → f_9_readOne_14_8_6_k6 C1 = (ev_bv (f_8_fail C1 1) fun C17 => some C17) := fun c1 => by
    unfold f_9_readOne_14_8_6_k6
    rw [hw, ev_bdS, v1, ev_bdS, if_neg (show ¬ v ≠ 0 by omega)]
    by_cases e : z_wi C1 < 18
    · rw [if_pos e]
    · rw [if_neg e, if_neg (show ¬ z_wi C1 ≤ 26 by omega)]
  have hJ : (v = 1 ∨ (18 ≤ z_wi C1 ∧ z_wi C1 ≤ 26)) → f_9_readOne_14_8_6_k6 C1 = f_9_readOne_14_8_6_k6_J39 C1 (z_wi C1) v := fun c1 => by
    unfold f_9_readOne_14_8_6_k6
    rw [hw, ev_bdS, v1, ev_bdS]
    by_cases e : v ≠ 0
    · rw [if_pos e]
    · rw [if_neg e, if_neg (show ¬ z_wi C1 < 18 by omega), if_pos (show z_wi C1 ≤ 26 by omega)]
  rcases hc with ⟨c1, D, f1, f2, f3, f4⟩ | ⟨c1, c2, D, f1, f2, f3, f4⟩ | ⟨c1, c2, c3, D, C2', f1, f2, f3, f4, f5, f6⟩
  · refine ⟨D, ?_, Or.inr ⟨by rw [f2]; exact hb1, f3, 1, by omega, f4⟩⟩
    rw [hN c1, f1, ev_bvS]
  · refine ⟨D, ?_, Or.inr ⟨by rw [f2]; exact hb1, f3, 1, by omega, f4⟩⟩
    rw [hJ c1]
    unfold f_9_readOne_14_8_6_k6_J39
    by_cases e : 20 ≤ C1 14 0
    · rw [if_pos e, f1, ev_bvS]
    · exact absurd c2 (by omega)
  · have hE : f_9_readOne_14_8_6_k6 C1 = (if v = 0 then (if z_wi C1 ≠ 18 then (ev_bv (f_9_readPlainOne_14_8_6 D (z_wi C1)) fun C9 => some C9) else (ev_bv (f_9_readOne_14_8_6_k7 D) fun C10 => ev_bv (f_9_addStep_14 C10 18 0 0) fun C11 => some C11)) else (ev_bv (f_9_readCond_14_8_6_k6 D) fun C12 => ev_bd (f_8_isFine C12) fun r13 C13 => if r13 = 0 then some C13 else (ev_bv (f_8_takeSign C13 41) fun C15 => some C15))) := by
      rw [hJ c1]
      unfold f_9_readOne_14_8_6_k6_J39
      rw [if_neg (show ¬ 20 ≤ C1 14 0 by omega), f1, ev_bvS]
    obtain ⟨hd, hd1, -⟩ := y_B1 f2
    by_cases hv : v = 1
    · have hw1 := wv hv
      obtain ⟨C2p, p1, p2⟩ := y_push 23 f2 f4 (by decide) (y1 := r) (y2 := v) (y3 := y_lf (z_wi C1))
      have ho : f_12_operand C2 = some (1, C2p) := by
        rw [f6]
        unfold y_rest
        rw [if_neg (show ¬ r ≠ 0 by omega), if_neg (show ¬ v = 0 by omega)]
        unfold f_12_operand_J84
        rw [if_pos (show r = 0 by omega)]
        exact p1
      have hg := y_it0 f5 ho
      have p2 : y_A D C2p (23 :: S) 7 0 := p2
      obtain ⟨E, k1, k2⟩ := y_cond6 p2 (fun x S' e => by have e1 : (23 : Int) = x := (List.cons.inj e).1; omega)
      rw [if_neg (show ¬ v = 0 by omega), k1, ev_bvS] at hE
      rcases k2 with ⟨j, a, C2e, k, ha, hA, hj, hk, hgo, hz⟩ | ⟨fb, fn, k, fk, fbad⟩
      · obtain ⟨he, he1, he2⟩ := y_B1 hA
        have hA2 : y_A E C2e (List.replicate j 20 ++ (a ++ 23 :: S)) (6 + 1 + (j : Int)) 1 := by
          have e : ((6 : Int) + 1 + (j : Int)) = 7 + (j : Int) := by omega
          rw [e]
          exact hA
        obtain ⟨C1', t1, t2, t3⟩ := y_close hA2 (by decide) (by omega) hz ha
        have t20 : C1' 14 0 = E 14 0 := congrFun t2 0
        rw [y_fine.1 he2, ev_bdS, if_neg (show ¬ (1 : Int) = 0 by decide), t1, ev_bvS] at hE
        refine ⟨C1', hE, ?_⟩
        rcases t3 with ⟨C2f, u1, u2⟩ | ⟨u1, u2⟩
        · refine Or.inl ⟨0, C2f, _, ?_, by omega, by omega, (hg.tr hgo).tr u2⟩
          have e : (6 : Int) + ((0 : Nat) : Int) = 6 := by omega
          rw [e]
          exact u1
        · exact Or.inr ⟨by rw [t2]; exact he1, u1, _, by omega, (hg.tr hgo).bad u2⟩
      · rw [y_fine.2 fn, ev_bdS, if_pos (rfl : (0 : Int) = 0)] at hE
        exact ⟨E, hE, Or.inr ⟨fb, fn, _, by omega, hg.bad fbad⟩⟩
    · have hv0 : v = 0 := v0.resolve_right hv
      rw [if_pos hv0] at hE
      by_cases hr : z_wi C1 = 18
      · obtain ⟨C2p, p1, p2⟩ := y_push 20 f2 f4 (by decide) (y1 := r) (y2 := v) (y3 := y_lf (z_wi C1))
        have ho : f_12_operand C2 = some (1, C2p) := by
          rw [f6]
          unfold y_rest
          rw [if_pos (show r ≠ 0 by omega)]
          unfold f_12_operand_J84
          rw [if_neg (show ¬ r = 0 by omega)]
          exact p1
        have hg := y_it0 f5 ho
        have p2 : y_A D C2p (20 :: S) 7 0 := p2
        obtain ⟨E, k1, k2⟩ := y_one7 p2
        rw [if_neg (fun q => q hr), k1, ev_bvS] at hE
        rcases k2 with ⟨j, C2e, k, hA, hj, hk, hgo⟩ | ⟨fb, fn, k, fk, fbad⟩
        · obtain ⟨he, he1, he2⟩ := y_B1 hA
          obtain ⟨C1', a1, a2, a3, a4⟩ := y_add (C := E) (a := 18) (b := 0) (c := 0) he1
          rw [a1, ev_bvS] at hE
          have hA2 : y_A E C2e (List.replicate (j + 1) 20 ++ S) (6 + ((j + 1 : Nat) : Int)) 1 := by
            have e : (6 : Int) + ((j + 1 : Nat) : Int) = 7 + (j : Int) := by omega
            rw [e, ← y_rep j]
            exact hA
          exact ⟨C1', hE, Or.inl ⟨j + 1, C2e, _, hA2.ad a2 a3 a4, by omega, by omega, hg.tr hgo⟩⟩
        · obtain ⟨C1', a1, a2, a3, a4⟩ := y_add (C := E) (a := 18) (b := 0) (c := 0) fb
          rw [a1, ev_bvS] at hE
          exact ⟨C1', hE, Or.inr ⟨a4, by rw [a2 8 (by decide)]; exact fn, _, by omega, (hg.bad fbad).c8 (a2 8 (by decide))⟩⟩
      · obtain ⟨E, e1, e2, e3, e4⟩ := y_plain (i := z_wi C1) f2 f4 (by omega)
        rw [if_pos hr, e1, ev_bvS] at hE
        have ho : f_12_operand C2 = y_pl C2' (y_lf (z_wi C1)) := by
          rw [f6]
          unfold y_rest
          rw [if_neg (show ¬ r ≠ 0 by omega), if_pos hv0]
        refine ⟨E, hE, ?_⟩
        rcases e4 with ⟨C2e, g1, g2⟩ | ⟨C2e, g1, g2⟩
        · refine Or.inl ⟨0, C2e, 1, ?_, by omega, by omega, y_it0 f5 (ho.trans g1)⟩
          have e : (6 : Int) + ((0 : Nat) : Int) = 6 := by omega
          rw [e]
          exact g2
        · exact Or.inr ⟨e3, g2.2.1, 1, by omega, y_it0b f5 (ho.trans g1) g2⟩
theorem y_allF5 {C : ev_C} {y : Int} {N : Nat} (h : C 8 9 ≠ 0) (hN : 1 ≤ N) : f_9_readAll_14_8_6_k5_L12 N C y = some C := by
  obtain ⟨n, rfl⟩ : ∃ n, N = n + 1 := ⟨N - 1, by omega⟩
  rw [f_9_readAll_14_8_6_k5_L12]
  by_cases e : 20 ≤ y
  · rw [if_pos e]
  · rw [if_neg e, y_fine.2 h, ev_bdS, if_pos (rfl : (0 : Int) = 0)]
theorem y_allL5 {S : List Int} (hS : ∀ x S', S = x :: S' → x ≠ 20 ∧ x ≠ 21) : ∀ (N m : Nat) (C1 C2 : ev_C) (k j : Nat) (a : List Int), 20 - k ≤ m → m < N → (k : Int) < C1 14 0 → y_A C1 C2 (List.replicate j 20 ++ (a ++ S)) (6 + (j : Int)) 1 → (6 : Int) + (j : Int) ≤ 9 → (∀ x ∈ a, x = 21) → ∃ C1', f_9_readAll_14_8_6_k5_L12 N C1 (k : Int) = some C1' ∧ (y_okA 0 C1 C2 S 6 C1' ∨ y_flt 4 C1 C2 C1')
  | 0, _, _, _, _, _, _, _, h, _, _, _, _ => absurd h (Nat.not_lt_zero _)
  | N + 1, m, C1, C2, k, j, a, hm, hN, hk, h, hj, ha => by
    obtain ⟨hb, hb1, hb2⟩ := y_B1 h
    rw [f_9_readAll_14_8_6_k5_L12, if_neg (show ¬ (20 : Int) ≤ (k : Int) by omega), y_fine.1 hb2, ev_bdS, if_neg (show ¬ (1 : Int) = 0 by decide), y_iaw (x := 17) (by decide), ev_bdS]
    by_cases hw : z_wi C1 = 17
    · rw [if_pos hw, if_neg (show ¬ (1 : Int) = 0 by decide)]
      obtain ⟨D, C2', g1, g2, g3, g4⟩ := y_and (v := 21) (q := 6) h (by decide) (by omega) (Or.inl ⟨rfl, hw⟩) (fun x hx => Or.inl (ha x hx)) (fun x S' e => ⟨(hS x S' e).1, (hS x S' e).2, Or.inr (by decide)⟩)
      have d0 : D 14 0 = C1 14 0 := congrFun g4 0
      obtain ⟨E, e1, e2⟩ := y_one6 g3
      rw [g1, ev_bvS, e1, ev_bvS]
      rcases e2 with ⟨j', C2e, k', o1, o2, o3, o4⟩ | ⟨fb, fn, k', fk, fbad⟩
      · obtain ⟨he, he1, he2⟩ := y_B1 o1
        obtain ⟨F, a1, a2, a3, a4⟩ := y_add (C := E) (a := 17) (b := 0) (c := 0) he1
        have oF : y_A F C2e (List.replicate j' 20 ++ ([21] ++ S)) (6 + (j' : Int)) 1 := o1.ad a2 a3 a4
        obtain ⟨C1', l1, l2⟩ := y_allL5 hS N (m - 1) F C2e (k + 1) j' [21] (by omega) (by omega) (by rw [a3]; omega) oF o2 (fun x hx => List.mem_singleton.mp hx)
        rw [a1, ev_bvS, y_succ (by omega)]
        refine ⟨C1', l1, ?_⟩
        rcases l2 with ⟨j2, b, C2f, k2, p1, p2, p3, p4, p5, p6⟩ | ⟨fb, fn, k2, fk, fbad⟩
        · exact Or.inl ⟨j2, b, C2f, _, p1, p2, p3, by omega, (g2.tr o4).tr p5, p6⟩
        · exact Or.inr ⟨fb, fn, _, by omega, (g2.tr o4).bad fbad⟩
      · obtain ⟨F, a1, a2, a3, a4⟩ := y_add (C := E) (a := 17) (b := 0) (c := 0) fb
        have fF : F 8 9 ≠ 0 := by rw [a2 8 (by decide)]; exact fn
        rw [a1, ev_bvS, y_allF5 fF (by omega)]
        exact ⟨F, rfl, Or.inr ⟨a4, fF, _, by omega, (g2.bad fbad).c8 (a2 8 (by decide))⟩⟩
    · rw [if_neg hw, if_pos (rfl : (0 : Int) = 0)]
      exact ⟨C1, rfl, Or.inl ⟨j, a, C2, 0, ha, h, hj, by omega, fun n => rfl, hw⟩⟩
theorem y_all5 {C1 C2 : ev_C} {S : List Int} (h : y_A C1 C2 S 6 0) (hS : ∀ x S', S = x :: S' → x ≠ 20 ∧ x ≠ 21) : ∃ C1', f_9_readAll_14_8_6_k5 C1 = some C1' ∧ (y_okA 1 C1 C2 S 6 C1' ∨ y_flt 3 C1 C2 C1') := by
  obtain ⟨E, e1, e2⟩ := y_one6 h
  obtain ⟨hb, -, -⟩ := y_B1 h
  unfold f_9_readAll_14_8_6_k5
  rw [e1, ev_bvS]
  rcases e2 with ⟨j', C2e, k', o1, o2, o3, o4⟩ | ⟨fb, fn, k', fk, fbad⟩
  · obtain ⟨C1', l1, l2⟩ := y_allL5 hS 1000 20 E C2e 0 j' [] (by decide) (by decide) (by omega) o1 o2 (fun x hx => by cases hx)
    have l1 : f_9_readAll_14_8_6_k5_L12 1000 E 0 = some C1' := l1
    refine ⟨C1', l1, ?_⟩
    rcases l2 with ⟨j2, b, C2f, k2, p1, p2, p3, p4, p5, p6⟩ | ⟨fb, fn, k2, fk, fbad⟩
    · exact Or.inl ⟨j2, b, C2f, _, p1, p2, p3, by omega, o4.tr p5, p6⟩
    · exact Or.inr ⟨fb, fn, _, by omega, o4.bad fbad⟩
  · exact ⟨E, y_allF5 fn (by decide), Or.inr ⟨fb, fn, k', fk, fbad⟩⟩
theorem y_condF5 {C : ev_C} {y : Int} {N : Nat} (h : C 8 9 ≠ 0) (hN : 1 ≤ N) : f_9_readCond_14_8_6_k5_L10 N C y = some C := by
  obtain ⟨n, rfl⟩ : ∃ n, N = n + 1 := ⟨N - 1, by omega⟩
  rw [f_9_readCond_14_8_6_k5_L10]
  by_cases e : 20 ≤ y
  · rw [if_pos e]
  · rw [if_neg e, y_fine.2 h, ev_bdS, if_pos (rfl : (0 : Int) = 0)]
theorem y_condL5 {S : List Int} (hS : ∀ x S', S = x :: S' → x ≠ 20 ∧ x ≠ 21 ∧ x ≠ 22) : ∀ (N m : Nat) (C1 C2 : ev_C) (k j : Nat) (a : List Int), 20 - k ≤ m → m < N → (k : Int) < C1 14 0 → y_A C1 C2 (List.replicate j 20 ++ (a ++ S)) (6 + (j : Int)) 1 → (6 : Int) + (j : Int) ≤ 9 → (∀ x ∈ a, x = 21 ∨ x = 22) → z_wi C1 ≠ 17 → ∃ C1', f_9_readCond_14_8_6_k5_L10 N C1 (k : Int) = some C1' ∧ (y_okC 0 C1 C2 S 6 C1' ∨ y_flt 4 C1 C2 C1')
  | 0, _, _, _, _, _, _, _, h, _, _, _, _, _ => absurd h (Nat.not_lt_zero _)
  | N + 1, m, C1, C2, k, j, a, hm, hN, hk, h, hj, ha, hz => by
    obtain ⟨hb, hb1, hb2⟩ := y_B1 h
    rw [f_9_readCond_14_8_6_k5_L10, if_neg (show ¬ (20 : Int) ≤ (k : Int) by omega), y_fine.1 hb2, ev_bdS, if_neg (show ¬ (1 : Int) = 0 by decide), y_iaw (x := 16) (by decide), ev_bdS]
    by_cases hw : z_wi C1 = 16
    · rw [if_pos hw, if_neg (show ¬ (1 : Int) = 0 by decide)]
      obtain ⟨D, C2', g1, g2, g3, g4⟩ := y_and (v := 22) (q := 6) h (by decide) (by omega) (Or.inr ⟨rfl, hw⟩) (fun x hx => by have := ha x hx; omega) (fun x S' e => by have := hS x S' e; omega)
      have d0 : D 14 0 = C1 14 0 := congrFun g4 0
      obtain ⟨E, e1, e2⟩ := y_all5 g3 (fun x S' e => by have e1 : (22 : Int) = x := (List.cons.inj e).1; omega)
      rw [g1, ev_bvS, e1, ev_bvS]
      rcases e2 with ⟨j', a', C2e, k', o0, o1, o2, o3, o4, o5⟩ | ⟨fb, fn, k', fk, fbad⟩
      · obtain ⟨he, he1, he2⟩ := y_B1 o1
        obtain ⟨F, a1, a2, a3, a4⟩ := y_add (C := E) (a := 16) (b := 0) (c := 0) he1
        have oF : y_A F C2e (List.replicate j' 20 ++ ((a' ++ [22]) ++ S)) (6 + (j' : Int)) 1 := by
          rw [List.append_assoc]
          exact o1.ad a2 a3 a4
        have hzF : z_wi F ≠ 17 := by
          have e : z_wi F = z_wi E := by
            unfold z_wi
            rw [a2 8 (by decide)]
          rw [e]
          exact o5
        obtain ⟨C1', l1, l2⟩ := y_condL5 hS N (m - 1) F C2e (k + 1) j' (a' ++ [22]) (by omega) (by omega) (by rw [a3]; omega) oF o2 (fun x hx => by
          rcases List.mem_append.mp hx with hx | hx
          · exact Or.inl (o0 x hx)
          · exact Or.inr (List.mem_singleton.mp hx)) hzF
        rw [a1, ev_bvS, y_succ (by omega)]
        refine ⟨C1', l1, ?_⟩
        rcases l2 with ⟨j2, b, C2f, k2, p1, p2, p3, p4, p5, p6⟩ | ⟨fb, fn, k2, fk, fbad⟩
        · exact Or.inl ⟨j2, b, C2f, _, p1, p2, p3, by omega, (g2.tr o4).tr p5, p6⟩
        · exact Or.inr ⟨fb, fn, _, by omega, (g2.tr o4).bad fbad⟩
      · obtain ⟨F, a1, a2, a3, a4⟩ := y_add (C := E) (a := 16) (b := 0) (c := 0) fb
        have fF : F 8 9 ≠ 0 := by rw [a2 8 (by decide)]; exact fn
        rw [a1, ev_bvS, y_condF5 fF (by omega)]
        exact ⟨F, rfl, Or.inr ⟨a4, fF, _, by omega, (g2.bad fbad).c8 (a2 8 (by decide))⟩⟩
    · rw [if_neg hw, if_pos (rfl : (0 : Int) = 0)]
      exact ⟨C1, rfl, Or.inl ⟨j, a, C2, 0, ha, h, hj, by omega, fun n => rfl, hz, hw⟩⟩
theorem y_cond5 {C1 C2 : ev_C} {S : List Int} (h : y_A C1 C2 S 6 0) (hS : ∀ x S', S = x :: S' → x ≠ 20 ∧ x ≠ 21 ∧ x ≠ 22) : ∃ C1', f_9_readCond_14_8_6_k5 C1 = some C1' ∧ (y_okC 1 C1 C2 S 6 C1' ∨ y_flt 3 C1 C2 C1') := by
  obtain ⟨E, e1, e2⟩ := y_all5 h (fun x S' e => ⟨(hS x S' e).1, (hS x S' e).2.1⟩)
  obtain ⟨hb, -, -⟩ := y_B1 h
  unfold f_9_readCond_14_8_6_k5
  rw [e1, ev_bvS]
  rcases e2 with ⟨j', a', C2e, k', o0, o1, o2, o3, o4, o5⟩ | ⟨fb, fn, k', fk, fbad⟩
  · obtain ⟨C1', l1, l2⟩ := y_condL5 hS 1000 20 E C2e 0 j' a' (by decide) (by decide) (by omega) o1 o2 (fun x hx => Or.inl (o0 x hx)) o5
    have l1 : f_9_readCond_14_8_6_k5_L10 1000 E 0 = some C1' := l1
    refine ⟨C1', l1, ?_⟩
    rcases l2 with ⟨j2, b, C2f, k2, p1, p2, p3, p4, p5, p6⟩ | ⟨fb, fn, k2, fk, fbad⟩
    · exact Or.inl ⟨j2, b, C2f, _, p1, p2, p3, by omega, o4.tr p5, p6⟩
    · exact Or.inr ⟨fb, fn, _, by omega, o4.bad fbad⟩
  · exact ⟨E, y_condF5 fn (by decide), Or.inr ⟨fb, fn, k', fk, fbad⟩⟩
theorem y_one5 {C1 C2 : ev_C} {S : List Int} (h : y_A C1 C2 S 5 0) : ∃ C1', f_9_readOne_14_8_6_k5 C1 = some C1' ∧ (y_okO C1 C2 S 5 C1' ∨ y_flt 3 C1 C2 C1') := by
  obtain ⟨v, r, v0, r0, v1, wv, hc⟩ := y_start h (by decide) (by decide)
  obtain ⟨hb, hb1, -⟩ := y_B1 h
  have hw := (z_word h.1).1
  have hN : (v = 0 ∧ (z_wi C1 < 18 ∨ 26 < z_wi C1)) → f_9_readOne_14_8_6_k5 C1 = (ev_bv (f_8_fail C1 1) fun C17 => some C17) := fun c1 => by
    unfold f_9_readOne_14_8_6_k5
    rw [hw, ev_bdS, v1, ev_bdS, if_neg (show ¬ v ≠ 0 by omega)]
    by_cases e : z_wi C1 < 18
    · rw [if_pos e]
    · rw [if_neg e, if_neg (show ¬ z_wi C1 ≤ 26 by omega)]
  have hJ : (v = 1 ∨ (18 ≤ z_wi C1 ∧ z_wi C1 ≤ 26)) → f_9_readOne_14_8_6_k5 C1 = f_9_readOne_14_8_6_k5_J39 C1 (z_wi C1) v := fun c1 => by
    unfold f_9_readOne_14_8_6_k5
    rw [hw, ev_bdS, v1, ev_bdS]
    by_cases e : v ≠ 0
    · rw [if_pos e]
    · rw [if_neg e, if_neg (show ¬ z_wi C1 < 18 by omega), if_pos (show z_wi C1 ≤ 26 by omega)]
  rcases hc with ⟨c1, D, f1, f2, f3, f4⟩ | ⟨c1, c2, D, f1, f2, f3, f4⟩ | ⟨c1, c2, c3, D, C2', f1, f2, f3, f4, f5, f6⟩
  · refine ⟨D, ?_, Or.inr ⟨by rw [f2]; exact hb1, f3, 1, by omega, f4⟩⟩
    rw [hN c1, f1, ev_bvS]
  · refine ⟨D, ?_, Or.inr ⟨by rw [f2]; exact hb1, f3, 1, by omega, f4⟩⟩
    rw [hJ c1]
    unfold f_9_readOne_14_8_6_k5_J39
    by_cases e : 20 ≤ C1 14 0
    · rw [if_pos e, f1, ev_bvS]
    · exact absurd c2 (by omega)
  · have hE : f_9_readOne_14_8_6_k5 C1 = (if v = 0 then (if z_wi C1 ≠ 18 then (ev_bv (f_9_readPlainOne_14_8_6 D (z_wi C1)) fun C9 => some C9) else (ev_bv (f_9_readOne_14_8_6_k6 D) fun C10 => ev_bv (f_9_addStep_14 C10 18 0 0) fun C11 => some C11)) else (ev_bv (f_9_readCond_14_8_6_k5 D) fun C12 => ev_bd (f_8_isFine C12) fun r13 C13 => if r13 = 0 then some C13 else (ev_bv (f_8_takeSign C13 41) fun C15 => some C15))) := by
      rw [hJ c1]
      unfold f_9_readOne_14_8_6_k5_J39
      rw [if_neg (show ¬ 20 ≤ C1 14 0 by omega), f1, ev_bvS]
    obtain ⟨hd, hd1, -⟩ := y_B1 f2
    by_cases hv : v = 1
    · have hw1 := wv hv
      obtain ⟨C2p, p1, p2⟩ := y_push 23 f2 f4 (by decide) (y1 := r) (y2 := v) (y3 := y_lf (z_wi C1))
      have ho : f_12_operand C2 = some (1, C2p) := by
        rw [f6]
        unfold y_rest
        rw [if_neg (show ¬ r ≠ 0 by omega), if_neg (show ¬ v = 0 by omega)]
        unfold f_12_operand_J84
        rw [if_pos (show r = 0 by omega)]
        exact p1
      have hg := y_it0 f5 ho
      have p2 : y_A D C2p (23 :: S) 6 0 := p2
      obtain ⟨E, k1, k2⟩ := y_cond5 p2 (fun x S' e => by have e1 : (23 : Int) = x := (List.cons.inj e).1; omega)
      rw [if_neg (show ¬ v = 0 by omega), k1, ev_bvS] at hE
      rcases k2 with ⟨j, a, C2e, k, ha, hA, hj, hk, hgo, hz⟩ | ⟨fb, fn, k, fk, fbad⟩
      · obtain ⟨he, he1, he2⟩ := y_B1 hA
        have hA2 : y_A E C2e (List.replicate j 20 ++ (a ++ 23 :: S)) (5 + 1 + (j : Int)) 1 := by
          have e : ((5 : Int) + 1 + (j : Int)) = 6 + (j : Int) := by omega
          rw [e]
          exact hA
        obtain ⟨C1', t1, t2, t3⟩ := y_close hA2 (by decide) (by omega) hz ha
        have t20 : C1' 14 0 = E 14 0 := congrFun t2 0
        rw [y_fine.1 he2, ev_bdS, if_neg (show ¬ (1 : Int) = 0 by decide), t1, ev_bvS] at hE
        refine ⟨C1', hE, ?_⟩
        rcases t3 with ⟨C2f, u1, u2⟩ | ⟨u1, u2⟩
        · refine Or.inl ⟨0, C2f, _, ?_, by omega, by omega, (hg.tr hgo).tr u2⟩
          have e : (5 : Int) + ((0 : Nat) : Int) = 5 := by omega
          rw [e]
          exact u1
        · exact Or.inr ⟨by rw [t2]; exact he1, u1, _, by omega, (hg.tr hgo).bad u2⟩
      · rw [y_fine.2 fn, ev_bdS, if_pos (rfl : (0 : Int) = 0)] at hE
        exact ⟨E, hE, Or.inr ⟨fb, fn, _, by omega, hg.bad fbad⟩⟩
    · have hv0 : v = 0 := v0.resolve_right hv
      rw [if_pos hv0] at hE
      by_cases hr : z_wi C1 = 18
      · obtain ⟨C2p, p1, p2⟩ := y_push 20 f2 f4 (by decide) (y1 := r) (y2 := v) (y3 := y_lf (z_wi C1))
        have ho : f_12_operand C2 = some (1, C2p) := by
          rw [f6]
          unfold y_rest
          rw [if_pos (show r ≠ 0 by omega)]
          unfold f_12_operand_J84
          rw [if_neg (show ¬ r = 0 by omega)]
          exact p1
        have hg := y_it0 f5 ho
        have p2 : y_A D C2p (20 :: S) 6 0 := p2
        obtain ⟨E, k1, k2⟩ := y_one6 p2
        rw [if_neg (fun q => q hr), k1, ev_bvS] at hE
        rcases k2 with ⟨j, C2e, k, hA, hj, hk, hgo⟩ | ⟨fb, fn, k, fk, fbad⟩
        · obtain ⟨he, he1, he2⟩ := y_B1 hA
          obtain ⟨C1', a1, a2, a3, a4⟩ := y_add (C := E) (a := 18) (b := 0) (c := 0) he1
          rw [a1, ev_bvS] at hE
          have hA2 : y_A E C2e (List.replicate (j + 1) 20 ++ S) (5 + ((j + 1 : Nat) : Int)) 1 := by
            have e : (5 : Int) + ((j + 1 : Nat) : Int) = 6 + (j : Int) := by omega
            rw [e, ← y_rep j]
            exact hA
          exact ⟨C1', hE, Or.inl ⟨j + 1, C2e, _, hA2.ad a2 a3 a4, by omega, by omega, hg.tr hgo⟩⟩
        · obtain ⟨C1', a1, a2, a3, a4⟩ := y_add (C := E) (a := 18) (b := 0) (c := 0) fb
          rw [a1, ev_bvS] at hE
          exact ⟨C1', hE, Or.inr ⟨a4, by rw [a2 8 (by decide)]; exact fn, _, by omega, (hg.bad fbad).c8 (a2 8 (by decide))⟩⟩
      · obtain ⟨E, e1, e2, e3, e4⟩ := y_plain (i := z_wi C1) f2 f4 (by omega)
        rw [if_pos hr, e1, ev_bvS] at hE
        have ho : f_12_operand C2 = y_pl C2' (y_lf (z_wi C1)) := by
          rw [f6]
          unfold y_rest
          rw [if_neg (show ¬ r ≠ 0 by omega), if_pos hv0]
        refine ⟨E, hE, ?_⟩
        rcases e4 with ⟨C2e, g1, g2⟩ | ⟨C2e, g1, g2⟩
        · refine Or.inl ⟨0, C2e, 1, ?_, by omega, by omega, y_it0 f5 (ho.trans g1)⟩
          have e : (5 : Int) + ((0 : Nat) : Int) = 5 := by omega
          rw [e]
          exact g2
        · exact Or.inr ⟨e3, g2.2.1, 1, by omega, y_it0b f5 (ho.trans g1) g2⟩
theorem y_allF4 {C : ev_C} {y : Int} {N : Nat} (h : C 8 9 ≠ 0) (hN : 1 ≤ N) : f_9_readAll_14_8_6_k4_L12 N C y = some C := by
  obtain ⟨n, rfl⟩ : ∃ n, N = n + 1 := ⟨N - 1, by omega⟩
  rw [f_9_readAll_14_8_6_k4_L12]
  by_cases e : 20 ≤ y
  · rw [if_pos e]
  · rw [if_neg e, y_fine.2 h, ev_bdS, if_pos (rfl : (0 : Int) = 0)]
theorem y_allL4 {S : List Int} (hS : ∀ x S', S = x :: S' → x ≠ 20 ∧ x ≠ 21) : ∀ (N m : Nat) (C1 C2 : ev_C) (k j : Nat) (a : List Int), 20 - k ≤ m → m < N → (k : Int) < C1 14 0 → y_A C1 C2 (List.replicate j 20 ++ (a ++ S)) (5 + (j : Int)) 1 → (5 : Int) + (j : Int) ≤ 9 → (∀ x ∈ a, x = 21) → ∃ C1', f_9_readAll_14_8_6_k4_L12 N C1 (k : Int) = some C1' ∧ (y_okA 0 C1 C2 S 5 C1' ∨ y_flt 4 C1 C2 C1')
  | 0, _, _, _, _, _, _, _, h, _, _, _, _ => absurd h (Nat.not_lt_zero _)
  | N + 1, m, C1, C2, k, j, a, hm, hN, hk, h, hj, ha => by
    obtain ⟨hb, hb1, hb2⟩ := y_B1 h
    rw [f_9_readAll_14_8_6_k4_L12, if_neg (show ¬ (20 : Int) ≤ (k : Int) by omega), y_fine.1 hb2, ev_bdS, if_neg (show ¬ (1 : Int) = 0 by decide), y_iaw (x := 17) (by decide), ev_bdS]
    by_cases hw : z_wi C1 = 17
    · rw [if_pos hw, if_neg (show ¬ (1 : Int) = 0 by decide)]
      obtain ⟨D, C2', g1, g2, g3, g4⟩ := y_and (v := 21) (q := 5) h (by decide) (by omega) (Or.inl ⟨rfl, hw⟩) (fun x hx => Or.inl (ha x hx)) (fun x S' e => ⟨(hS x S' e).1, (hS x S' e).2, Or.inr (by decide)⟩)
      have d0 : D 14 0 = C1 14 0 := congrFun g4 0
      obtain ⟨E, e1, e2⟩ := y_one5 g3
      rw [g1, ev_bvS, e1, ev_bvS]
      rcases e2 with ⟨j', C2e, k', o1, o2, o3, o4⟩ | ⟨fb, fn, k', fk, fbad⟩
      · obtain ⟨he, he1, he2⟩ := y_B1 o1
        obtain ⟨F, a1, a2, a3, a4⟩ := y_add (C := E) (a := 17) (b := 0) (c := 0) he1
        have oF : y_A F C2e (List.replicate j' 20 ++ ([21] ++ S)) (5 + (j' : Int)) 1 := o1.ad a2 a3 a4
        obtain ⟨C1', l1, l2⟩ := y_allL4 hS N (m - 1) F C2e (k + 1) j' [21] (by omega) (by omega) (by rw [a3]; omega) oF o2 (fun x hx => List.mem_singleton.mp hx)
        rw [a1, ev_bvS, y_succ (by omega)]
        refine ⟨C1', l1, ?_⟩
        rcases l2 with ⟨j2, b, C2f, k2, p1, p2, p3, p4, p5, p6⟩ | ⟨fb, fn, k2, fk, fbad⟩
        · exact Or.inl ⟨j2, b, C2f, _, p1, p2, p3, by omega, (g2.tr o4).tr p5, p6⟩
        · exact Or.inr ⟨fb, fn, _, by omega, (g2.tr o4).bad fbad⟩
      · obtain ⟨F, a1, a2, a3, a4⟩ := y_add (C := E) (a := 17) (b := 0) (c := 0) fb
        have fF : F 8 9 ≠ 0 := by rw [a2 8 (by decide)]; exact fn
        rw [a1, ev_bvS, y_allF4 fF (by omega)]
        exact ⟨F, rfl, Or.inr ⟨a4, fF, _, by omega, (g2.bad fbad).c8 (a2 8 (by decide))⟩⟩
    · rw [if_neg hw, if_pos (rfl : (0 : Int) = 0)]
      exact ⟨C1, rfl, Or.inl ⟨j, a, C2, 0, ha, h, hj, by omega, fun n => rfl, hw⟩⟩
theorem y_all4 {C1 C2 : ev_C} {S : List Int} (h : y_A C1 C2 S 5 0) (hS : ∀ x S', S = x :: S' → x ≠ 20 ∧ x ≠ 21) : ∃ C1', f_9_readAll_14_8_6_k4 C1 = some C1' ∧ (y_okA 1 C1 C2 S 5 C1' ∨ y_flt 3 C1 C2 C1') := by
  obtain ⟨E, e1, e2⟩ := y_one5 h
  obtain ⟨hb, -, -⟩ := y_B1 h
  unfold f_9_readAll_14_8_6_k4
  rw [e1, ev_bvS]
  rcases e2 with ⟨j', C2e, k', o1, o2, o3, o4⟩ | ⟨fb, fn, k', fk, fbad⟩
  · obtain ⟨C1', l1, l2⟩ := y_allL4 hS 1000 20 E C2e 0 j' [] (by decide) (by decide) (by omega) o1 o2 (fun x hx => by cases hx)
    have l1 : f_9_readAll_14_8_6_k4_L12 1000 E 0 = some C1' := l1
    refine ⟨C1', l1, ?_⟩
    rcases l2 with ⟨j2, b, C2f, k2, p1, p2, p3, p4, p5, p6⟩ | ⟨fb, fn, k2, fk, fbad⟩
    · exact Or.inl ⟨j2, b, C2f, _, p1, p2, p3, by omega, o4.tr p5, p6⟩
    · exact Or.inr ⟨fb, fn, _, by omega, o4.bad fbad⟩
  · exact ⟨E, y_allF4 fn (by decide), Or.inr ⟨fb, fn, k', fk, fbad⟩⟩
theorem y_condF4 {C : ev_C} {y : Int} {N : Nat} (h : C 8 9 ≠ 0) (hN : 1 ≤ N) : f_9_readCond_14_8_6_k4_L10 N C y = some C := by
  obtain ⟨n, rfl⟩ : ∃ n, N = n + 1 := ⟨N - 1, by omega⟩
  rw [f_9_readCond_14_8_6_k4_L10]
  by_cases e : 20 ≤ y
  · rw [if_pos e]
  · rw [if_neg e, y_fine.2 h, ev_bdS, if_pos (rfl : (0 : Int) = 0)]
theorem y_condL4 {S : List Int} (hS : ∀ x S', S = x :: S' → x ≠ 20 ∧ x ≠ 21 ∧ x ≠ 22) : ∀ (N m : Nat) (C1 C2 : ev_C) (k j : Nat) (a : List Int), 20 - k ≤ m → m < N → (k : Int) < C1 14 0 → y_A C1 C2 (List.replicate j 20 ++ (a ++ S)) (5 + (j : Int)) 1 → (5 : Int) + (j : Int) ≤ 9 → (∀ x ∈ a, x = 21 ∨ x = 22) → z_wi C1 ≠ 17 → ∃ C1', f_9_readCond_14_8_6_k4_L10 N C1 (k : Int) = some C1' ∧ (y_okC 0 C1 C2 S 5 C1' ∨ y_flt 4 C1 C2 C1')
  | 0, _, _, _, _, _, _, _, h, _, _, _, _, _ => absurd h (Nat.not_lt_zero _)
  | N + 1, m, C1, C2, k, j, a, hm, hN, hk, h, hj, ha, hz => by
    obtain ⟨hb, hb1, hb2⟩ := y_B1 h
    rw [f_9_readCond_14_8_6_k4_L10, if_neg (show ¬ (20 : Int) ≤ (k : Int) by omega), y_fine.1 hb2, ev_bdS, if_neg (show ¬ (1 : Int) = 0 by decide), y_iaw (x := 16) (by decide), ev_bdS]
    by_cases hw : z_wi C1 = 16
    · rw [if_pos hw, if_neg (show ¬ (1 : Int) = 0 by decide)]
      obtain ⟨D, C2', g1, g2, g3, g4⟩ := y_and (v := 22) (q := 5) h (by decide) (by omega) (Or.inr ⟨rfl, hw⟩) (fun x hx => by have := ha x hx; omega) (fun x S' e => by have := hS x S' e; omega)
      have d0 : D 14 0 = C1 14 0 := congrFun g4 0
      obtain ⟨E, e1, e2⟩ := y_all4 g3 (fun x S' e => by have e1 : (22 : Int) = x := (List.cons.inj e).1; omega)
      rw [g1, ev_bvS, e1, ev_bvS]
      rcases e2 with ⟨j', a', C2e, k', o0, o1, o2, o3, o4, o5⟩ | ⟨fb, fn, k', fk, fbad⟩
      · obtain ⟨he, he1, he2⟩ := y_B1 o1
        obtain ⟨F, a1, a2, a3, a4⟩ := y_add (C := E) (a := 16) (b := 0) (c := 0) he1
        have oF : y_A F C2e (List.replicate j' 20 ++ ((a' ++ [22]) ++ S)) (5 + (j' : Int)) 1 := by
          rw [List.append_assoc]
          exact o1.ad a2 a3 a4
        have hzF : z_wi F ≠ 17 := by
          have e : z_wi F = z_wi E := by
            unfold z_wi
            rw [a2 8 (by decide)]
          rw [e]
          exact o5
        obtain ⟨C1', l1, l2⟩ := y_condL4 hS N (m - 1) F C2e (k + 1) j' (a' ++ [22]) (by omega) (by omega) (by rw [a3]; omega) oF o2 (fun x hx => by
          rcases List.mem_append.mp hx with hx | hx
          · exact Or.inl (o0 x hx)
          · exact Or.inr (List.mem_singleton.mp hx)) hzF
        rw [a1, ev_bvS, y_succ (by omega)]
        refine ⟨C1', l1, ?_⟩
        rcases l2 with ⟨j2, b, C2f, k2, p1, p2, p3, p4, p5, p6⟩ | ⟨fb, fn, k2, fk, fbad⟩
        · exact Or.inl ⟨j2, b, C2f, _, p1, p2, p3, by omega, (g2.tr o4).tr p5, p6⟩
        · exact Or.inr ⟨fb, fn, _, by omega, (g2.tr o4).bad fbad⟩
      · obtain ⟨F, a1, a2, a3, a4⟩ := y_add (C := E) (a := 16) (b := 0) (c := 0) fb
        have fF : F 8 9 ≠ 0 := by rw [a2 8 (by decide)]; exact fn
        rw [a1, ev_bvS, y_condF4 fF (by omega)]
        exact ⟨F, rfl, Or.inr ⟨a4, fF, _, by omega, (g2.bad fbad).c8 (a2 8 (by decide))⟩⟩
    · rw [if_neg hw, if_pos (rfl : (0 : Int) = 0)]
      exact ⟨C1, rfl, Or.inl ⟨j, a, C2, 0, ha, h, hj, by omega, fun n => rfl, hz, hw⟩⟩
theorem y_cond4 {C1 C2 : ev_C} {S : List Int} (h : y_A C1 C2 S 5 0) (hS : ∀ x S', S = x :: S' → x ≠ 20 ∧ x ≠ 21 ∧ x ≠ 22) : ∃ C1', f_9_readCond_14_8_6_k4 C1 = some C1' ∧ (y_okC 1 C1 C2 S 5 C1' ∨ y_flt 3 C1 C2 C1') := by
  obtain ⟨E, e1, e2⟩ := y_all4 h (fun x S' e => ⟨(hS x S' e).1, (hS x S' e).2.1⟩)
  obtain ⟨hb, -, -⟩ := y_B1 h
  unfold f_9_readCond_14_8_6_k4
  rw [e1, ev_bvS]
  rcases e2 with ⟨j', a', C2e, k', o0, o1, o2, o3, o4, o5⟩ | ⟨fb, fn, k', fk, fbad⟩
  · obtain ⟨C1', l1, l2⟩ := y_condL4 hS 1000 20 E C2e 0 j' a' (by decide) (by decide) (by omega) o1 o2 (fun x hx => Or.inl (o0 x hx)) o5
    have l1 : f_9_readCond_14_8_6_k4_L10 1000 E 0 = some C1' := l1
    refine ⟨C1', l1, ?_⟩
    rcases l2 with ⟨j2, b, C2f, k2, p1, p2, p3, p4, p5, p6⟩ | ⟨fb, fn, k2, fk, fbad⟩
    · exact Or.inl ⟨j2, b, C2f, _, p1, p2, p3, by omega, o4.tr p5, p6⟩
    · exact Or.inr ⟨fb, fn, _, by omega, o4.bad fbad⟩
  · exact ⟨E, y_condF4 fn (by decide), Or.inr ⟨fb, fn, k', fk, fbad⟩⟩
theorem y_one4 {C1 C2 : ev_C} {S : List Int} (h : y_A C1 C2 S 4 0) : ∃ C1', f_9_readOne_14_8_6_k4 C1 = some C1' ∧ (y_okO C1 C2 S 4 C1' ∨ y_flt 3 C1 C2 C1') := by
  obtain ⟨v, r, v0, r0, v1, wv, hc⟩ := y_start h (by decide) (by decide)
  obtain ⟨hb, hb1, -⟩ := y_B1 h
  have hw := (z_word h.1).1
  have hN : (v = 0 ∧ (z_wi C1 < 18 ∨ 26 < z_wi C1)) → f_9_readOne_14_8_6_k4 C1 = (ev_bv (f_8_fail C1 1) fun C17 => some C17) := fun c1 => by
    unfold f_9_readOne_14_8_6_k4
    rw [hw, ev_bdS, v1, ev_bdS, if_neg (show ¬ v ≠ 0 by omega)]
    by_cases e : z_wi C1 < 18
    · rw [if_pos e]
    · rw [if_neg e, if_neg (show ¬ z_wi C1 ≤ 26 by omega)]
  have hJ : (v = 1 ∨ (18 ≤ z_wi C1 ∧ z_wi C1 ≤ 26)) → f_9_readOne_14_8_6_k4 C1 = f_9_readOne_14_8_6_k4_J39 C1 (z_wi C1) v := fun c1 => by
    unfold f_9_readOne_14_8_6_k4
    rw [hw, ev_bdS, v1, ev_bdS]
    by_cases e : v ≠ 0
    · rw [if_pos e]
    · rw [if_neg e, if_neg (show ¬ z_wi C1 < 18 by omega), if_pos (show z_wi C1 ≤ 26 by omega)]
  rcases hc with ⟨c1, D, f1, f2, f3, f4⟩ | ⟨c1, c2, D, f1, f2, f3, f4⟩ | ⟨c1, c2, c3, D, C2', f1, f2, f3, f4, f5, f6⟩
  · refine ⟨D, ?_, Or.inr ⟨by rw [f2]; exact hb1, f3, 1, by omega, f4⟩⟩
    rw [hN c1, f1, ev_bvS]
  · refine ⟨D, ?_, Or.inr ⟨by rw [f2]; exact hb1, f3, 1, by omega, f4⟩⟩
    rw [hJ c1]
    unfold f_9_readOne_14_8_6_k4_J39
    by_cases e : 20 ≤ C1 14 0
    · rw [if_pos e, f1, ev_bvS]
    · exact absurd c2 (by omega)
  · have hE : f_9_readOne_14_8_6_k4 C1 = (if v = 0 then (if z_wi C1 ≠ 18 then (ev_bv (f_9_readPlainOne_14_8_6 D (z_wi C1)) fun C9 => some C9) else (ev_bv (f_9_readOne_14_8_6_k5 D) fun C10 => ev_bv (f_9_addStep_14 C10 18 0 0) fun C11 => some C11)) else (ev_bv (f_9_readCond_14_8_6_k4 D) fun C12 => ev_bd (f_8_isFine C12) fun r13 C13 => if r13 = 0 then some C13 else (ev_bv (f_8_takeSign C13 41) fun C15 => some C15))) := by
      rw [hJ c1]
      unfold f_9_readOne_14_8_6_k4_J39
      rw [if_neg (show ¬ 20 ≤ C1 14 0 by omega), f1, ev_bvS]
    obtain ⟨hd, hd1, -⟩ := y_B1 f2
    by_cases hv : v = 1
    · have hw1 := wv hv
      obtain ⟨C2p, p1, p2⟩ := y_push 23 f2 f4 (by decide) (y1 := r) (y2 := v) (y3 := y_lf (z_wi C1))
      have ho : f_12_operand C2 = some (1, C2p) := by
        rw [f6]
        unfold y_rest
        rw [if_neg (show ¬ r ≠ 0 by omega), if_neg (show ¬ v = 0 by omega)]
        unfold f_12_operand_J84
        rw [if_pos (show r = 0 by omega)]
        exact p1
      have hg := y_it0 f5 ho
      have p2 : y_A D C2p (23 :: S) 5 0 := p2
      obtain ⟨E, k1, k2⟩ := y_cond4 p2 (fun x S' e => by have e1 : (23 : Int) = x := (List.cons.inj e).1; omega)
      rw [if_neg (show ¬ v = 0 by omega), k1, ev_bvS] at hE
      rcases k2 with ⟨j, a, C2e, k, ha, hA, hj, hk, hgo, hz⟩ | ⟨fb, fn, k, fk, fbad⟩
      · obtain ⟨he, he1, he2⟩ := y_B1 hA
        have hA2 : y_A E C2e (List.replicate j 20 ++ (a ++ 23 :: S)) (4 + 1 + (j : Int)) 1 := by
          have e : ((4 : Int) + 1 + (j : Int)) = 5 + (j : Int) := by omega
          rw [e]
          exact hA
        obtain ⟨C1', t1, t2, t3⟩ := y_close hA2 (by decide) (by omega) hz ha
        have t20 : C1' 14 0 = E 14 0 := congrFun t2 0
        rw [y_fine.1 he2, ev_bdS, if_neg (show ¬ (1 : Int) = 0 by decide), t1, ev_bvS] at hE
        refine ⟨C1', hE, ?_⟩
        rcases t3 with ⟨C2f, u1, u2⟩ | ⟨u1, u2⟩
        · refine Or.inl ⟨0, C2f, _, ?_, by omega, by omega, (hg.tr hgo).tr u2⟩
          have e : (4 : Int) + ((0 : Nat) : Int) = 4 := by omega
          rw [e]
          exact u1
        · exact Or.inr ⟨by rw [t2]; exact he1, u1, _, by omega, (hg.tr hgo).bad u2⟩
      · rw [y_fine.2 fn, ev_bdS, if_pos (rfl : (0 : Int) = 0)] at hE
        exact ⟨E, hE, Or.inr ⟨fb, fn, _, by omega, hg.bad fbad⟩⟩
    · have hv0 : v = 0 := v0.resolve_right hv
      rw [if_pos hv0] at hE
      by_cases hr : z_wi C1 = 18
      · obtain ⟨C2p, p1, p2⟩ := y_push 20 f2 f4 (by decide) (y1 := r) (y2 := v) (y3 := y_lf (z_wi C1))
        have ho : f_12_operand C2 = some (1, C2p) := by
          rw [f6]
          unfold y_rest
          rw [if_pos (show r ≠ 0 by omega)]
          unfold f_12_operand_J84
          rw [if_neg (show ¬ r = 0 by omega)]
          exact p1
        have hg := y_it0 f5 ho
        have p2 : y_A D C2p (20 :: S) 5 0 := p2
        obtain ⟨E, k1, k2⟩ := y_one5 p2
        rw [if_neg (fun q => q hr), k1, ev_bvS] at hE
        rcases k2 with ⟨j, C2e, k, hA, hj, hk, hgo⟩ | ⟨fb, fn, k, fk, fbad⟩
        · obtain ⟨he, he1, he2⟩ := y_B1 hA
          obtain ⟨C1', a1, a2, a3, a4⟩ := y_add (C := E) (a := 18) (b := 0) (c := 0) he1
          rw [a1, ev_bvS] at hE
          have hA2 : y_A E C2e (List.replicate (j + 1) 20 ++ S) (4 + ((j + 1 : Nat) : Int)) 1 := by
            have e : (4 : Int) + ((j + 1 : Nat) : Int) = 5 + (j : Int) := by omega
            rw [e, ← y_rep j]
            exact hA
          exact ⟨C1', hE, Or.inl ⟨j + 1, C2e, _, hA2.ad a2 a3 a4, by omega, by omega, hg.tr hgo⟩⟩
        · obtain ⟨C1', a1, a2, a3, a4⟩ := y_add (C := E) (a := 18) (b := 0) (c := 0) fb
          rw [a1, ev_bvS] at hE
          exact ⟨C1', hE, Or.inr ⟨a4, by rw [a2 8 (by decide)]; exact fn, _, by omega, (hg.bad fbad).c8 (a2 8 (by decide))⟩⟩
      · obtain ⟨E, e1, e2, e3, e4⟩ := y_plain (i := z_wi C1) f2 f4 (by omega)
        rw [if_pos hr, e1, ev_bvS] at hE
        have ho : f_12_operand C2 = y_pl C2' (y_lf (z_wi C1)) := by
          rw [f6]
          unfold y_rest
          rw [if_neg (show ¬ r ≠ 0 by omega), if_pos hv0]
        refine ⟨E, hE, ?_⟩
        rcases e4 with ⟨C2e, g1, g2⟩ | ⟨C2e, g1, g2⟩
        · refine Or.inl ⟨0, C2e, 1, ?_, by omega, by omega, y_it0 f5 (ho.trans g1)⟩
          have e : (4 : Int) + ((0 : Nat) : Int) = 4 := by omega
          rw [e]
          exact g2
        · exact Or.inr ⟨e3, g2.2.1, 1, by omega, y_it0b f5 (ho.trans g1) g2⟩
theorem y_allF3 {C : ev_C} {y : Int} {N : Nat} (h : C 8 9 ≠ 0) (hN : 1 ≤ N) : f_9_readAll_14_8_6_k3_L12 N C y = some C := by
  obtain ⟨n, rfl⟩ : ∃ n, N = n + 1 := ⟨N - 1, by omega⟩
  rw [f_9_readAll_14_8_6_k3_L12]
  by_cases e : 20 ≤ y
  · rw [if_pos e]
  · rw [if_neg e, y_fine.2 h, ev_bdS, if_pos (rfl : (0 : Int) = 0)]
theorem y_allL3 {S : List Int} (hS : ∀ x S', S = x :: S' → x ≠ 20 ∧ x ≠ 21) : ∀ (N m : Nat) (C1 C2 : ev_C) (k j : Nat) (a : List Int), 20 - k ≤ m → m < N → (k : Int) < C1 14 0 → y_A C1 C2 (List.replicate j 20 ++ (a ++ S)) (4 + (j : Int)) 1 → (4 : Int) + (j : Int) ≤ 9 → (∀ x ∈ a, x = 21) → ∃ C1', f_9_readAll_14_8_6_k3_L12 N C1 (k : Int) = some C1' ∧ (y_okA 0 C1 C2 S 4 C1' ∨ y_flt 4 C1 C2 C1')
  | 0, _, _, _, _, _, _, _, h, _, _, _, _ => absurd h (Nat.not_lt_zero _)
  | N + 1, m, C1, C2, k, j, a, hm, hN, hk, h, hj, ha => by
    obtain ⟨hb, hb1, hb2⟩ := y_B1 h
    rw [f_9_readAll_14_8_6_k3_L12, if_neg (show ¬ (20 : Int) ≤ (k : Int) by omega), y_fine.1 hb2, ev_bdS, if_neg (show ¬ (1 : Int) = 0 by decide), y_iaw (x := 17) (by decide), ev_bdS]
    by_cases hw : z_wi C1 = 17
    · rw [if_pos hw, if_neg (show ¬ (1 : Int) = 0 by decide)]
      obtain ⟨D, C2', g1, g2, g3, g4⟩ := y_and (v := 21) (q := 4) h (by decide) (by omega) (Or.inl ⟨rfl, hw⟩) (fun x hx => Or.inl (ha x hx)) (fun x S' e => ⟨(hS x S' e).1, (hS x S' e).2, Or.inr (by decide)⟩)
      have d0 : D 14 0 = C1 14 0 := congrFun g4 0
      obtain ⟨E, e1, e2⟩ := y_one4 g3
      rw [g1, ev_bvS, e1, ev_bvS]
      rcases e2 with ⟨j', C2e, k', o1, o2, o3, o4⟩ | ⟨fb, fn, k', fk, fbad⟩
      · obtain ⟨he, he1, he2⟩ := y_B1 o1
        obtain ⟨F, a1, a2, a3, a4⟩ := y_add (C := E) (a := 17) (b := 0) (c := 0) he1
        have oF : y_A F C2e (List.replicate j' 20 ++ ([21] ++ S)) (4 + (j' : Int)) 1 := o1.ad a2 a3 a4
        obtain ⟨C1', l1, l2⟩ := y_allL3 hS N (m - 1) F C2e (k + 1) j' [21] (by omega) (by omega) (by rw [a3]; omega) oF o2 (fun x hx => List.mem_singleton.mp hx)
        rw [a1, ev_bvS, y_succ (by omega)]
        refine ⟨C1', l1, ?_⟩
        rcases l2 with ⟨j2, b, C2f, k2, p1, p2, p3, p4, p5, p6⟩ | ⟨fb, fn, k2, fk, fbad⟩
        · exact Or.inl ⟨j2, b, C2f, _, p1, p2, p3, by omega, (g2.tr o4).tr p5, p6⟩
        · exact Or.inr ⟨fb, fn, _, by omega, (g2.tr o4).bad fbad⟩
      · obtain ⟨F, a1, a2, a3, a4⟩ := y_add (C := E) (a := 17) (b := 0) (c := 0) fb
        have fF : F 8 9 ≠ 0 := by rw [a2 8 (by decide)]; exact fn
        rw [a1, ev_bvS, y_allF3 fF (by omega)]
        exact ⟨F, rfl, Or.inr ⟨a4, fF, _, by omega, (g2.bad fbad).c8 (a2 8 (by decide))⟩⟩
    · rw [if_neg hw, if_pos (rfl : (0 : Int) = 0)]
      exact ⟨C1, rfl, Or.inl ⟨j, a, C2, 0, ha, h, hj, by omega, fun n => rfl, hw⟩⟩
theorem y_all3 {C1 C2 : ev_C} {S : List Int} (h : y_A C1 C2 S 4 0) (hS : ∀ x S', S = x :: S' → x ≠ 20 ∧ x ≠ 21) : ∃ C1', f_9_readAll_14_8_6_k3 C1 = some C1' ∧ (y_okA 1 C1 C2 S 4 C1' ∨ y_flt 3 C1 C2 C1') := by
  obtain ⟨E, e1, e2⟩ := y_one4 h
  obtain ⟨hb, -, -⟩ := y_B1 h
  unfold f_9_readAll_14_8_6_k3
  rw [e1, ev_bvS]
  rcases e2 with ⟨j', C2e, k', o1, o2, o3, o4⟩ | ⟨fb, fn, k', fk, fbad⟩
  · obtain ⟨C1', l1, l2⟩ := y_allL3 hS 1000 20 E C2e 0 j' [] (by decide) (by decide) (by omega) o1 o2 (fun x hx => by cases hx)
    have l1 : f_9_readAll_14_8_6_k3_L12 1000 E 0 = some C1' := l1
    refine ⟨C1', l1, ?_⟩
    rcases l2 with ⟨j2, b, C2f, k2, p1, p2, p3, p4, p5, p6⟩ | ⟨fb, fn, k2, fk, fbad⟩
    · exact Or.inl ⟨j2, b, C2f, _, p1, p2, p3, by omega, o4.tr p5, p6⟩
    · exact Or.inr ⟨fb, fn, _, by omega, o4.bad fbad⟩
  · exact ⟨E, y_allF3 fn (by decide), Or.inr ⟨fb, fn, k', fk, fbad⟩⟩
theorem y_condF3 {C : ev_C} {y : Int} {N : Nat} (h : C 8 9 ≠ 0) (hN : 1 ≤ N) : f_9_readCond_14_8_6_k3_L10 N C y = some C := by
  obtain ⟨n, rfl⟩ : ∃ n, N = n + 1 := ⟨N - 1, by omega⟩
  rw [f_9_readCond_14_8_6_k3_L10]
  by_cases e : 20 ≤ y
  · rw [if_pos e]
  · rw [if_neg e, y_fine.2 h, ev_bdS, if_pos (rfl : (0 : Int) = 0)]
theorem y_condL3 {S : List Int} (hS : ∀ x S', S = x :: S' → x ≠ 20 ∧ x ≠ 21 ∧ x ≠ 22) : ∀ (N m : Nat) (C1 C2 : ev_C) (k j : Nat) (a : List Int), 20 - k ≤ m → m < N → (k : Int) < C1 14 0 → y_A C1 C2 (List.replicate j 20 ++ (a ++ S)) (4 + (j : Int)) 1 → (4 : Int) + (j : Int) ≤ 9 → (∀ x ∈ a, x = 21 ∨ x = 22) → z_wi C1 ≠ 17 → ∃ C1', f_9_readCond_14_8_6_k3_L10 N C1 (k : Int) = some C1' ∧ (y_okC 0 C1 C2 S 4 C1' ∨ y_flt 4 C1 C2 C1')
  | 0, _, _, _, _, _, _, _, h, _, _, _, _, _ => absurd h (Nat.not_lt_zero _)
  | N + 1, m, C1, C2, k, j, a, hm, hN, hk, h, hj, ha, hz => by
    obtain ⟨hb, hb1, hb2⟩ := y_B1 h
    rw [f_9_readCond_14_8_6_k3_L10, if_neg (show ¬ (20 : Int) ≤ (k : Int) by omega), y_fine.1 hb2, ev_bdS, if_neg (show ¬ (1 : Int) = 0 by decide), y_iaw (x := 16) (by decide), ev_bdS]
    by_cases hw : z_wi C1 = 16
    · rw [if_pos hw, if_neg (show ¬ (1 : Int) = 0 by decide)]
      obtain ⟨D, C2', g1, g2, g3, g4⟩ := y_and (v := 22) (q := 4) h (by decide) (by omega) (Or.inr ⟨rfl, hw⟩) (fun x hx => by have := ha x hx; omega) (fun x S' e => by have := hS x S' e; omega)
      have d0 : D 14 0 = C1 14 0 := congrFun g4 0
      obtain ⟨E, e1, e2⟩ := y_all3 g3 (fun x S' e => by have e1 : (22 : Int) = x := (List.cons.inj e).1; omega)
      rw [g1, ev_bvS, e1, ev_bvS]
      rcases e2 with ⟨j', a', C2e, k', o0, o1, o2, o3, o4, o5⟩ | ⟨fb, fn, k', fk, fbad⟩
      · obtain ⟨he, he1, he2⟩ := y_B1 o1
        obtain ⟨F, a1, a2, a3, a4⟩ := y_add (C := E) (a := 16) (b := 0) (c := 0) he1
        have oF : y_A F C2e (List.replicate j' 20 ++ ((a' ++ [22]) ++ S)) (4 + (j' : Int)) 1 := by
          rw [List.append_assoc]
          exact o1.ad a2 a3 a4
        have hzF : z_wi F ≠ 17 := by
          have e : z_wi F = z_wi E := by
            unfold z_wi
            rw [a2 8 (by decide)]
          rw [e]
          exact o5
        obtain ⟨C1', l1, l2⟩ := y_condL3 hS N (m - 1) F C2e (k + 1) j' (a' ++ [22]) (by omega) (by omega) (by rw [a3]; omega) oF o2 (fun x hx => by
          rcases List.mem_append.mp hx with hx | hx
          · exact Or.inl (o0 x hx)
          · exact Or.inr (List.mem_singleton.mp hx)) hzF
        rw [a1, ev_bvS, y_succ (by omega)]
        refine ⟨C1', l1, ?_⟩
        rcases l2 with ⟨j2, b, C2f, k2, p1, p2, p3, p4, p5, p6⟩ | ⟨fb, fn, k2, fk, fbad⟩
        · exact Or.inl ⟨j2, b, C2f, _, p1, p2, p3, by omega, (g2.tr o4).tr p5, p6⟩
        · exact Or.inr ⟨fb, fn, _, by omega, (g2.tr o4).bad fbad⟩
      · obtain ⟨F, a1, a2, a3, a4⟩ := y_add (C := E) (a := 16) (b := 0) (c := 0) fb
        have fF : F 8 9 ≠ 0 := by rw [a2 8 (by decide)]; exact fn
        rw [a1, ev_bvS, y_condF3 fF (by omega)]
        exact ⟨F, rfl, Or.inr ⟨a4, fF, _, by omega, (g2.bad fbad).c8 (a2 8 (by decide))⟩⟩
    · rw [if_neg hw, if_pos (rfl : (0 : Int) = 0)]
      exact ⟨C1, rfl, Or.inl ⟨j, a, C2, 0, ha, h, hj, by omega, fun n => rfl, hz, hw⟩⟩
theorem y_cond3 {C1 C2 : ev_C} {S : List Int} (h : y_A C1 C2 S 4 0) (hS : ∀ x S', S = x :: S' → x ≠ 20 ∧ x ≠ 21 ∧ x ≠ 22) : ∃ C1', f_9_readCond_14_8_6_k3 C1 = some C1' ∧ (y_okC 1 C1 C2 S 4 C1' ∨ y_flt 3 C1 C2 C1') := by
  obtain ⟨E, e1, e2⟩ := y_all3 h (fun x S' e => ⟨(hS x S' e).1, (hS x S' e).2.1⟩)
  obtain ⟨hb, -, -⟩ := y_B1 h
  unfold f_9_readCond_14_8_6_k3
  rw [e1, ev_bvS]
  rcases e2 with ⟨j', a', C2e, k', o0, o1, o2, o3, o4, o5⟩ | ⟨fb, fn, k', fk, fbad⟩
  · obtain ⟨C1', l1, l2⟩ := y_condL3 hS 1000 20 E C2e 0 j' a' (by decide) (by decide) (by omega) o1 o2 (fun x hx => Or.inl (o0 x hx)) o5
    have l1 : f_9_readCond_14_8_6_k3_L10 1000 E 0 = some C1' := l1
    refine ⟨C1', l1, ?_⟩
    rcases l2 with ⟨j2, b, C2f, k2, p1, p2, p3, p4, p5, p6⟩ | ⟨fb, fn, k2, fk, fbad⟩
    · exact Or.inl ⟨j2, b, C2f, _, p1, p2, p3, by omega, o4.tr p5, p6⟩
    · exact Or.inr ⟨fb, fn, _, by omega, o4.bad fbad⟩
  · exact ⟨E, y_condF3 fn (by decide), Or.inr ⟨fb, fn, k', fk, fbad⟩⟩
theorem y_one3 {C1 C2 : ev_C} {S : List Int} (h : y_A C1 C2 S 3 0) : ∃ C1', f_9_readOne_14_8_6_k3 C1 = some C1' ∧ (y_okO C1 C2 S 3 C1' ∨ y_flt 3 C1 C2 C1') := by
  obtain ⟨v, r, v0, r0, v1, wv, hc⟩ := y_start h (by decide) (by decide)
  obtain ⟨hb, hb1, -⟩ := y_B1 h
  have hw := (z_word h.1).1
  have hN : (v = 0 ∧ (z_wi C1 < 18 ∨ 26 < z_wi C1)) → f_9_readOne_14_8_6_k3 C1 = (ev_bv (f_8_fail C1 1) fun C17 => some C17) := fun c1 => by
    unfold f_9_readOne_14_8_6_k3
    rw [hw, ev_bdS, v1, ev_bdS, if_neg (show ¬ v ≠ 0 by omega)]
    by_cases e : z_wi C1 < 18
    · rw [if_pos e]
    · rw [if_neg e, if_neg (show ¬ z_wi C1 ≤ 26 by omega)]
  have hJ : (v = 1 ∨ (18 ≤ z_wi C1 ∧ z_wi C1 ≤ 26)) → f_9_readOne_14_8_6_k3 C1 = f_9_readOne_14_8_6_k3_J39 C1 (z_wi C1) v := fun c1 => by
    unfold f_9_readOne_14_8_6_k3
    rw [hw, ev_bdS, v1, ev_bdS]
    by_cases e : v ≠ 0
    · rw [if_pos e]
    · rw [if_neg e, if_neg (show ¬ z_wi C1 < 18 by omega), if_pos (show z_wi C1 ≤ 26 by omega)]
  rcases hc with ⟨c1, D, f1, f2, f3, f4⟩ | ⟨c1, c2, D, f1, f2, f3, f4⟩ | ⟨c1, c2, c3, D, C2', f1, f2, f3, f4, f5, f6⟩
  · refine ⟨D, ?_, Or.inr ⟨by rw [f2]; exact hb1, f3, 1, by omega, f4⟩⟩
    rw [hN c1, f1, ev_bvS]
  · refine ⟨D, ?_, Or.inr ⟨by rw [f2]; exact hb1, f3, 1, by omega, f4⟩⟩
    rw [hJ c1]
    unfold f_9_readOne_14_8_6_k3_J39
    by_cases e : 20 ≤ C1 14 0
    · rw [if_pos e, f1, ev_bvS]
    · exact absurd c2 (by omega)
  · have hE : f_9_readOne_14_8_6_k3 C1 = (if v = 0 then (if z_wi C1 ≠ 18 then (ev_bv (f_9_readPlainOne_14_8_6 D (z_wi C1)) fun C9 => some C9) else (ev_bv (f_9_readOne_14_8_6_k4 D) fun C10 => ev_bv (f_9_addStep_14 C10 18 0 0) fun C11 => some C11)) else (ev_bv (f_9_readCond_14_8_6_k3 D) fun C12 => ev_bd (f_8_isFine C12) fun r13 C13 => if r13 = 0 then some C13 else (ev_bv (f_8_takeSign C13 41) fun C15 => some C15))) := by
      rw [hJ c1]
      unfold f_9_readOne_14_8_6_k3_J39
      rw [if_neg (show ¬ 20 ≤ C1 14 0 by omega), f1, ev_bvS]
    obtain ⟨hd, hd1, -⟩ := y_B1 f2
    by_cases hv : v = 1
    · have hw1 := wv hv
      obtain ⟨C2p, p1, p2⟩ := y_push 23 f2 f4 (by decide) (y1 := r) (y2 := v) (y3 := y_lf (z_wi C1))
      have ho : f_12_operand C2 = some (1, C2p) := by
        rw [f6]
        unfold y_rest
        rw [if_neg (show ¬ r ≠ 0 by omega), if_neg (show ¬ v = 0 by omega)]
        unfold f_12_operand_J84
        rw [if_pos (show r = 0 by omega)]
        exact p1
      have hg := y_it0 f5 ho
      have p2 : y_A D C2p (23 :: S) 4 0 := p2
      obtain ⟨E, k1, k2⟩ := y_cond3 p2 (fun x S' e => by have e1 : (23 : Int) = x := (List.cons.inj e).1; omega)
      rw [if_neg (show ¬ v = 0 by omega), k1, ev_bvS] at hE
      rcases k2 with ⟨j, a, C2e, k, ha, hA, hj, hk, hgo, hz⟩ | ⟨fb, fn, k, fk, fbad⟩
      · obtain ⟨he, he1, he2⟩ := y_B1 hA
        have hA2 : y_A E C2e (List.replicate j 20 ++ (a ++ 23 :: S)) (3 + 1 + (j : Int)) 1 := by
          have e : ((3 : Int) + 1 + (j : Int)) = 4 + (j : Int) := by omega
          rw [e]
          exact hA
        obtain ⟨C1', t1, t2, t3⟩ := y_close hA2 (by decide) (by omega) hz ha
        have t20 : C1' 14 0 = E 14 0 := congrFun t2 0
        rw [y_fine.1 he2, ev_bdS, if_neg (show ¬ (1 : Int) = 0 by decide), t1, ev_bvS] at hE
        refine ⟨C1', hE, ?_⟩
        rcases t3 with ⟨C2f, u1, u2⟩ | ⟨u1, u2⟩
        · refine Or.inl ⟨0, C2f, _, ?_, by omega, by omega, (hg.tr hgo).tr u2⟩
          have e : (3 : Int) + ((0 : Nat) : Int) = 3 := by omega
          rw [e]
          exact u1
        · exact Or.inr ⟨by rw [t2]; exact he1, u1, _, by omega, (hg.tr hgo).bad u2⟩
      · rw [y_fine.2 fn, ev_bdS, if_pos (rfl : (0 : Int) = 0)] at hE
        exact ⟨E, hE, Or.inr ⟨fb, fn, _, by omega, hg.bad fbad⟩⟩
    · have hv0 : v = 0 := v0.resolve_right hv
      rw [if_pos hv0] at hE
      by_cases hr : z_wi C1 = 18
      · obtain ⟨C2p, p1, p2⟩ := y_push 20 f2 f4 (by decide) (y1 := r) (y2 := v) (y3 := y_lf (z_wi C1))
        have ho : f_12_operand C2 = some (1, C2p) := by
          rw [f6]
          unfold y_rest
          rw [if_pos (show r ≠ 0 by omega)]
          unfold f_12_operand_J84
          rw [if_neg (show ¬ r = 0 by omega)]
          exact p1
        have hg := y_it0 f5 ho
        have p2 : y_A D C2p (20 :: S) 4 0 := p2
        obtain ⟨E, k1, k2⟩ := y_one4 p2
        rw [if_neg (fun q => q hr), k1, ev_bvS] at hE
        rcases k2 with ⟨j, C2e, k, hA, hj, hk, hgo⟩ | ⟨fb, fn, k, fk, fbad⟩
        · obtain ⟨he, he1, he2⟩ := y_B1 hA
          obtain ⟨C1', a1, a2, a3, a4⟩ := y_add (C := E) (a := 18) (b := 0) (c := 0) he1
          rw [a1, ev_bvS] at hE
          have hA2 : y_A E C2e (List.replicate (j + 1) 20 ++ S) (3 + ((j + 1 : Nat) : Int)) 1 := by
            have e : (3 : Int) + ((j + 1 : Nat) : Int) = 4 + (j : Int) := by omega
            rw [e, ← y_rep j]
            exact hA
          exact ⟨C1', hE, Or.inl ⟨j + 1, C2e, _, hA2.ad a2 a3 a4, by omega, by omega, hg.tr hgo⟩⟩
        · obtain ⟨C1', a1, a2, a3, a4⟩ := y_add (C := E) (a := 18) (b := 0) (c := 0) fb
          rw [a1, ev_bvS] at hE
          exact ⟨C1', hE, Or.inr ⟨a4, by rw [a2 8 (by decide)]; exact fn, _, by omega, (hg.bad fbad).c8 (a2 8 (by decide))⟩⟩
      · obtain ⟨E, e1, e2, e3, e4⟩ := y_plain (i := z_wi C1) f2 f4 (by omega)
        rw [if_pos hr, e1, ev_bvS] at hE
        have ho : f_12_operand C2 = y_pl C2' (y_lf (z_wi C1)) := by
          rw [f6]
          unfold y_rest
          rw [if_neg (show ¬ r ≠ 0 by omega), if_pos hv0]
        refine ⟨E, hE, ?_⟩
        rcases e4 with ⟨C2e, g1, g2⟩ | ⟨C2e, g1, g2⟩
        · refine Or.inl ⟨0, C2e, 1, ?_, by omega, by omega, y_it0 f5 (ho.trans g1)⟩
          have e : (3 : Int) + ((0 : Nat) : Int) = 3 := by omega
          rw [e]
          exact g2
        · exact Or.inr ⟨e3, g2.2.1, 1, by omega, y_it0b f5 (ho.trans g1) g2⟩
theorem y_allF2 {C : ev_C} {y : Int} {N : Nat} (h : C 8 9 ≠ 0) (hN : 1 ≤ N) : f_9_readAll_14_8_6_k2_L12 N C y = some C := by
  obtain ⟨n, rfl⟩ : ∃ n, N = n + 1 := ⟨N - 1, by omega⟩
  rw [f_9_readAll_14_8_6_k2_L12]
  by_cases e : 20 ≤ y
  · rw [if_pos e]
  · rw [if_neg e, y_fine.2 h, ev_bdS, if_pos (rfl : (0 : Int) = 0)]
theorem y_allL2 {S : List Int} (hS : ∀ x S', S = x :: S' → x ≠ 20 ∧ x ≠ 21) : ∀ (N m : Nat) (C1 C2 : ev_C) (k j : Nat) (a : List Int), 20 - k ≤ m → m < N → (k : Int) < C1 14 0 → y_A C1 C2 (List.replicate j 20 ++ (a ++ S)) (3 + (j : Int)) 1 → (3 : Int) + (j : Int) ≤ 9 → (∀ x ∈ a, x = 21) → ∃ C1', f_9_readAll_14_8_6_k2_L12 N C1 (k : Int) = some C1' ∧ (y_okA 0 C1 C2 S 3 C1' ∨ y_flt 4 C1 C2 C1')
  | 0, _, _, _, _, _, _, _, h, _, _, _, _ => absurd h (Nat.not_lt_zero _)
  | N + 1, m, C1, C2, k, j, a, hm, hN, hk, h, hj, ha => by
    obtain ⟨hb, hb1, hb2⟩ := y_B1 h
    rw [f_9_readAll_14_8_6_k2_L12, if_neg (show ¬ (20 : Int) ≤ (k : Int) by omega), y_fine.1 hb2, ev_bdS, if_neg (show ¬ (1 : Int) = 0 by decide), y_iaw (x := 17) (by decide), ev_bdS]
    by_cases hw : z_wi C1 = 17
    · rw [if_pos hw, if_neg (show ¬ (1 : Int) = 0 by decide)]
      obtain ⟨D, C2', g1, g2, g3, g4⟩ := y_and (v := 21) (q := 3) h (by decide) (by omega) (Or.inl ⟨rfl, hw⟩) (fun x hx => Or.inl (ha x hx)) (fun x S' e => ⟨(hS x S' e).1, (hS x S' e).2, Or.inr (by decide)⟩)
      have d0 : D 14 0 = C1 14 0 := congrFun g4 0
      obtain ⟨E, e1, e2⟩ := y_one3 g3
      rw [g1, ev_bvS, e1, ev_bvS]
      rcases e2 with ⟨j', C2e, k', o1, o2, o3, o4⟩ | ⟨fb, fn, k', fk, fbad⟩
      · obtain ⟨he, he1, he2⟩ := y_B1 o1
        obtain ⟨F, a1, a2, a3, a4⟩ := y_add (C := E) (a := 17) (b := 0) (c := 0) he1
        have oF : y_A F C2e (List.replicate j' 20 ++ ([21] ++ S)) (3 + (j' : Int)) 1 := o1.ad a2 a3 a4
        obtain ⟨C1', l1, l2⟩ := y_allL2 hS N (m - 1) F C2e (k + 1) j' [21] (by omega) (by omega) (by rw [a3]; omega) oF o2 (fun x hx => List.mem_singleton.mp hx)
        rw [a1, ev_bvS, y_succ (by omega)]
        refine ⟨C1', l1, ?_⟩
        rcases l2 with ⟨j2, b, C2f, k2, p1, p2, p3, p4, p5, p6⟩ | ⟨fb, fn, k2, fk, fbad⟩
        · exact Or.inl ⟨j2, b, C2f, _, p1, p2, p3, by omega, (g2.tr o4).tr p5, p6⟩
        · exact Or.inr ⟨fb, fn, _, by omega, (g2.tr o4).bad fbad⟩
      · obtain ⟨F, a1, a2, a3, a4⟩ := y_add (C := E) (a := 17) (b := 0) (c := 0) fb
        have fF : F 8 9 ≠ 0 := by rw [a2 8 (by decide)]; exact fn
        rw [a1, ev_bvS, y_allF2 fF (by omega)]
        exact ⟨F, rfl, Or.inr ⟨a4, fF, _, by omega, (g2.bad fbad).c8 (a2 8 (by decide))⟩⟩
    · rw [if_neg hw, if_pos (rfl : (0 : Int) = 0)]
      exact ⟨C1, rfl, Or.inl ⟨j, a, C2, 0, ha, h, hj, by omega, fun n => rfl, hw⟩⟩
theorem y_all2 {C1 C2 : ev_C} {S : List Int} (h : y_A C1 C2 S 3 0) (hS : ∀ x S', S = x :: S' → x ≠ 20 ∧ x ≠ 21) : ∃ C1', f_9_readAll_14_8_6_k2 C1 = some C1' ∧ (y_okA 1 C1 C2 S 3 C1' ∨ y_flt 3 C1 C2 C1') := by
  obtain ⟨E, e1, e2⟩ := y_one3 h
  obtain ⟨hb, -, -⟩ := y_B1 h
  unfold f_9_readAll_14_8_6_k2
  rw [e1, ev_bvS]
  rcases e2 with ⟨j', C2e, k', o1, o2, o3, o4⟩ | ⟨fb, fn, k', fk, fbad⟩
  · obtain ⟨C1', l1, l2⟩ := y_allL2 hS 1000 20 E C2e 0 j' [] (by decide) (by decide) (by omega) o1 o2 (fun x hx => by cases hx)
    have l1 : f_9_readAll_14_8_6_k2_L12 1000 E 0 = some C1' := l1
    refine ⟨C1', l1, ?_⟩
    rcases l2 with ⟨j2, b, C2f, k2, p1, p2, p3, p4, p5, p6⟩ | ⟨fb, fn, k2, fk, fbad⟩
    · exact Or.inl ⟨j2, b, C2f, _, p1, p2, p3, by omega, o4.tr p5, p6⟩
    · exact Or.inr ⟨fb, fn, _, by omega, o4.bad fbad⟩
  · exact ⟨E, y_allF2 fn (by decide), Or.inr ⟨fb, fn, k', fk, fbad⟩⟩
theorem y_condF2 {C : ev_C} {y : Int} {N : Nat} (h : C 8 9 ≠ 0) (hN : 1 ≤ N) : f_9_readCond_14_8_6_k2_L10 N C y = some C := by
  obtain ⟨n, rfl⟩ : ∃ n, N = n + 1 := ⟨N - 1, by omega⟩
  rw [f_9_readCond_14_8_6_k2_L10]
  by_cases e : 20 ≤ y
  · rw [if_pos e]
  · rw [if_neg e, y_fine.2 h, ev_bdS, if_pos (rfl : (0 : Int) = 0)]
theorem y_condL2 {S : List Int} (hS : ∀ x S', S = x :: S' → x ≠ 20 ∧ x ≠ 21 ∧ x ≠ 22) : ∀ (N m : Nat) (C1 C2 : ev_C) (k j : Nat) (a : List Int), 20 - k ≤ m → m < N → (k : Int) < C1 14 0 → y_A C1 C2 (List.replicate j 20 ++ (a ++ S)) (3 + (j : Int)) 1 → (3 : Int) + (j : Int) ≤ 9 → (∀ x ∈ a, x = 21 ∨ x = 22) → z_wi C1 ≠ 17 → ∃ C1', f_9_readCond_14_8_6_k2_L10 N C1 (k : Int) = some C1' ∧ (y_okC 0 C1 C2 S 3 C1' ∨ y_flt 4 C1 C2 C1')
  | 0, _, _, _, _, _, _, _, h, _, _, _, _, _ => absurd h (Nat.not_lt_zero _)
  | N + 1, m, C1, C2, k, j, a, hm, hN, hk, h, hj, ha, hz => by
    obtain ⟨hb, hb1, hb2⟩ := y_B1 h
    rw [f_9_readCond_14_8_6_k2_L10, if_neg (show ¬ (20 : Int) ≤ (k : Int) by omega), y_fine.1 hb2, ev_bdS, if_neg (show ¬ (1 : Int) = 0 by decide), y_iaw (x := 16) (by decide), ev_bdS]
    by_cases hw : z_wi C1 = 16
    · rw [if_pos hw, if_neg (show ¬ (1 : Int) = 0 by decide)]
      obtain ⟨D, C2', g1, g2, g3, g4⟩ := y_and (v := 22) (q := 3) h (by decide) (by omega) (Or.inr ⟨rfl, hw⟩) (fun x hx => by have := ha x hx; omega) (fun x S' e => by have := hS x S' e; omega)
      have d0 : D 14 0 = C1 14 0 := congrFun g4 0
      obtain ⟨E, e1, e2⟩ := y_all2 g3 (fun x S' e => by have e1 : (22 : Int) = x := (List.cons.inj e).1; omega)
      rw [g1, ev_bvS, e1, ev_bvS]
      rcases e2 with ⟨j', a', C2e, k', o0, o1, o2, o3, o4, o5⟩ | ⟨fb, fn, k', fk, fbad⟩
      · obtain ⟨he, he1, he2⟩ := y_B1 o1
        obtain ⟨F, a1, a2, a3, a4⟩ := y_add (C := E) (a := 16) (b := 0) (c := 0) he1
        have oF : y_A F C2e (List.replicate j' 20 ++ ((a' ++ [22]) ++ S)) (3 + (j' : Int)) 1 := by
          rw [List.append_assoc]
          exact o1.ad a2 a3 a4
        have hzF : z_wi F ≠ 17 := by
          have e : z_wi F = z_wi E := by
            unfold z_wi
            rw [a2 8 (by decide)]
          rw [e]
          exact o5
        obtain ⟨C1', l1, l2⟩ := y_condL2 hS N (m - 1) F C2e (k + 1) j' (a' ++ [22]) (by omega) (by omega) (by rw [a3]; omega) oF o2 (fun x hx => by
          rcases List.mem_append.mp hx with hx | hx
          · exact Or.inl (o0 x hx)
          · exact Or.inr (List.mem_singleton.mp hx)) hzF
        rw [a1, ev_bvS, y_succ (by omega)]
        refine ⟨C1', l1, ?_⟩
        rcases l2 with ⟨j2, b, C2f, k2, p1, p2, p3, p4, p5, p6⟩ | ⟨fb, fn, k2, fk, fbad⟩
        · exact Or.inl ⟨j2, b, C2f, _, p1, p2, p3, by omega, (g2.tr o4).tr p5, p6⟩
        · exact Or.inr ⟨fb, fn, _, by omega, (g2.tr o4).bad fbad⟩
      · obtain ⟨F, a1, a2, a3, a4⟩ := y_add (C := E) (a := 16) (b := 0) (c := 0) fb
        have fF : F 8 9 ≠ 0 := by rw [a2 8 (by decide)]; exact fn
        rw [a1, ev_bvS, y_condF2 fF (by omega)]
        exact ⟨F, rfl, Or.inr ⟨a4, fF, _, by omega, (g2.bad fbad).c8 (a2 8 (by decide))⟩⟩
    · rw [if_neg hw, if_pos (rfl : (0 : Int) = 0)]
      exact ⟨C1, rfl, Or.inl ⟨j, a, C2, 0, ha, h, hj, by omega, fun n => rfl, hz, hw⟩⟩
theorem y_cond2 {C1 C2 : ev_C} {S : List Int} (h : y_A C1 C2 S 3 0) (hS : ∀ x S', S = x :: S' → x ≠ 20 ∧ x ≠ 21 ∧ x ≠ 22) : ∃ C1', f_9_readCond_14_8_6_k2 C1 = some C1' ∧ (y_okC 1 C1 C2 S 3 C1' ∨ y_flt 3 C1 C2 C1') := by
  obtain ⟨E, e1, e2⟩ := y_all2 h (fun x S' e => ⟨(hS x S' e).1, (hS x S' e).2.1⟩)
  obtain ⟨hb, -, -⟩ := y_B1 h
  unfold f_9_readCond_14_8_6_k2
  rw [e1, ev_bvS]
  rcases e2 with ⟨j', a', C2e, k', o0, o1, o2, o3, o4, o5⟩ | ⟨fb, fn, k', fk, fbad⟩
  · obtain ⟨C1', l1, l2⟩ := y_condL2 hS 1000 20 E C2e 0 j' a' (by decide) (by decide) (by omega) o1 o2 (fun x hx => Or.inl (o0 x hx)) o5
    have l1 : f_9_readCond_14_8_6_k2_L10 1000 E 0 = some C1' := l1
    refine ⟨C1', l1, ?_⟩
    rcases l2 with ⟨j2, b, C2f, k2, p1, p2, p3, p4, p5, p6⟩ | ⟨fb, fn, k2, fk, fbad⟩
    · exact Or.inl ⟨j2, b, C2f, _, p1, p2, p3, by omega, o4.tr p5, p6⟩
    · exact Or.inr ⟨fb, fn, _, by omega, o4.bad fbad⟩
  · exact ⟨E, y_condF2 fn (by decide), Or.inr ⟨fb, fn, k', fk, fbad⟩⟩
theorem y_one2 {C1 C2 : ev_C} {S : List Int} (h : y_A C1 C2 S 2 0) : ∃ C1', f_9_readOne_14_8_6_k2 C1 = some C1' ∧ (y_okO C1 C2 S 2 C1' ∨ y_flt 3 C1 C2 C1') := by
  obtain ⟨v, r, v0, r0, v1, wv, hc⟩ := y_start h (by decide) (by decide)
  obtain ⟨hb, hb1, -⟩ := y_B1 h
  have hw := (z_word h.1).1
  have hN : (v = 0 ∧ (z_wi C1 < 18 ∨ 26 < z_wi C1)) → f_9_readOne_14_8_6_k2 C1 = (ev_bv (f_8_fail C1 1) fun C17 => some C17) := fun c1 => by
    unfold f_9_readOne_14_8_6_k2
    rw [hw, ev_bdS, v1, ev_bdS, if_neg (show ¬ v ≠ 0 by omega)]
    by_cases e : z_wi C1 < 18
    · rw [if_pos e]
    · rw [if_neg e, if_neg (show ¬ z_wi C1 ≤ 26 by omega)]
  have hJ : (v = 1 ∨ (18 ≤ z_wi C1 ∧ z_wi C1 ≤ 26)) → f_9_readOne_14_8_6_k2 C1 = f_9_readOne_14_8_6_k2_J39 C1 (z_wi C1) v := fun c1 => by
    unfold f_9_readOne_14_8_6_k2
    rw [hw, ev_bdS, v1, ev_bdS]
    by_cases e : v ≠ 0
    · rw [if_pos e]
    · rw [if_neg e, if_neg (show ¬ z_wi C1 < 18 by omega), if_pos (show z_wi C1 ≤ 26 by omega)]
  rcases hc with ⟨c1, D, f1, f2, f3, f4⟩ | ⟨c1, c2, D, f1, f2, f3, f4⟩ | ⟨c1, c2, c3, D, C2', f1, f2, f3, f4, f5, f6⟩
  · refine ⟨D, ?_, Or.inr ⟨by rw [f2]; exact hb1, f3, 1, by omega, f4⟩⟩
    rw [hN c1, f1, ev_bvS]
  · refine ⟨D, ?_, Or.inr ⟨by rw [f2]; exact hb1, f3, 1, by omega, f4⟩⟩
    rw [hJ c1]
    unfold f_9_readOne_14_8_6_k2_J39
    by_cases e : 20 ≤ C1 14 0
    · rw [if_pos e, f1, ev_bvS]
    · exact absurd c2 (by omega)
  · have hE : f_9_readOne_14_8_6_k2 C1 = (if v = 0 then (if z_wi C1 ≠ 18 then (ev_bv (f_9_readPlainOne_14_8_6 D (z_wi C1)) fun C9 => some C9) else (ev_bv (f_9_readOne_14_8_6_k3 D) fun C10 => ev_bv (f_9_addStep_14 C10 18 0 0) fun C11 => some C11)) else (ev_bv (f_9_readCond_14_8_6_k2 D) fun C12 => ev_bd (f_8_isFine C12) fun r13 C13 => if r13 = 0 then some C13 else (ev_bv (f_8_takeSign C13 41) fun C15 => some C15))) := by
      rw [hJ c1]
      unfold f_9_readOne_14_8_6_k2_J39
      rw [if_neg (show ¬ 20 ≤ C1 14 0 by omega), f1, ev_bvS]
    obtain ⟨hd, hd1, -⟩ := y_B1 f2
    by_cases hv : v = 1
    · have hw1 := wv hv
      obtain ⟨C2p, p1, p2⟩ := y_push 23 f2 f4 (by decide) (y1 := r) (y2 := v) (y3 := y_lf (z_wi C1))
      have ho : f_12_operand C2 = some (1, C2p) := by
        rw [f6]
        unfold y_rest
        rw [if_neg (show ¬ r ≠ 0 by omega), if_neg (show ¬ v = 0 by omega)]
        unfold f_12_operand_J84
        rw [if_pos (show r = 0 by omega)]
        exact p1
      have hg := y_it0 f5 ho
      have p2 : y_A D C2p (23 :: S) 3 0 := p2
      obtain ⟨E, k1, k2⟩ := y_cond2 p2 (fun x S' e => by have e1 : (23 : Int) = x := (List.cons.inj e).1; omega)
      rw [if_neg (show ¬ v = 0 by omega), k1, ev_bvS] at hE
      rcases k2 with ⟨j, a, C2e, k, ha, hA, hj, hk, hgo, hz⟩ | ⟨fb, fn, k, fk, fbad⟩
      · obtain ⟨he, he1, he2⟩ := y_B1 hA
        have hA2 : y_A E C2e (List.replicate j 20 ++ (a ++ 23 :: S)) (2 + 1 + (j : Int)) 1 := by
          have e : ((2 : Int) + 1 + (j : Int)) = 3 + (j : Int) := by omega
          rw [e]
          exact hA
        obtain ⟨C1', t1, t2, t3⟩ := y_close hA2 (by decide) (by omega) hz ha
        have t20 : C1' 14 0 = E 14 0 := congrFun t2 0
        rw [y_fine.1 he2, ev_bdS, if_neg (show ¬ (1 : Int) = 0 by decide), t1, ev_bvS] at hE
        refine ⟨C1', hE, ?_⟩
        rcases t3 with ⟨C2f, u1, u2⟩ | ⟨u1, u2⟩
        · refine Or.inl ⟨0, C2f, _, ?_, by omega, by omega, (hg.tr hgo).tr u2⟩
          have e : (2 : Int) + ((0 : Nat) : Int) = 2 := by omega
          rw [e]
          exact u1
        · exact Or.inr ⟨by rw [t2]; exact he1, u1, _, by omega, (hg.tr hgo).bad u2⟩
      · rw [y_fine.2 fn, ev_bdS, if_pos (rfl : (0 : Int) = 0)] at hE
        exact ⟨E, hE, Or.inr ⟨fb, fn, _, by omega, hg.bad fbad⟩⟩
    · have hv0 : v = 0 := v0.resolve_right hv
      rw [if_pos hv0] at hE
      by_cases hr : z_wi C1 = 18
      · obtain ⟨C2p, p1, p2⟩ := y_push 20 f2 f4 (by decide) (y1 := r) (y2 := v) (y3 := y_lf (z_wi C1))
        have ho : f_12_operand C2 = some (1, C2p) := by
          rw [f6]
          unfold y_rest
          rw [if_pos (show r ≠ 0 by omega)]
          unfold f_12_operand_J84
          rw [if_neg (show ¬ r = 0 by omega)]
          exact p1
        have hg := y_it0 f5 ho
        have p2 : y_A D C2p (20 :: S) 3 0 := p2
        obtain ⟨E, k1, k2⟩ := y_one3 p2
        rw [if_neg (fun q => q hr), k1, ev_bvS] at hE
        rcases k2 with ⟨j, C2e, k, hA, hj, hk, hgo⟩ | ⟨fb, fn, k, fk, fbad⟩
        · obtain ⟨he, he1, he2⟩ := y_B1 hA
          obtain ⟨C1', a1, a2, a3, a4⟩ := y_add (C := E) (a := 18) (b := 0) (c := 0) he1
          rw [a1, ev_bvS] at hE
          have hA2 : y_A E C2e (List.replicate (j + 1) 20 ++ S) (2 + ((j + 1 : Nat) : Int)) 1 := by
            have e : (2 : Int) + ((j + 1 : Nat) : Int) = 3 + (j : Int) := by omega
            rw [e, ← y_rep j]
            exact hA
          exact ⟨C1', hE, Or.inl ⟨j + 1, C2e, _, hA2.ad a2 a3 a4, by omega, by omega, hg.tr hgo⟩⟩
        · obtain ⟨C1', a1, a2, a3, a4⟩ := y_add (C := E) (a := 18) (b := 0) (c := 0) fb
          rw [a1, ev_bvS] at hE
          exact ⟨C1', hE, Or.inr ⟨a4, by rw [a2 8 (by decide)]; exact fn, _, by omega, (hg.bad fbad).c8 (a2 8 (by decide))⟩⟩
      · obtain ⟨E, e1, e2, e3, e4⟩ := y_plain (i := z_wi C1) f2 f4 (by omega)
        rw [if_pos hr, e1, ev_bvS] at hE
        have ho : f_12_operand C2 = y_pl C2' (y_lf (z_wi C1)) := by
          rw [f6]
          unfold y_rest
          rw [if_neg (show ¬ r ≠ 0 by omega), if_pos hv0]
        refine ⟨E, hE, ?_⟩
        rcases e4 with ⟨C2e, g1, g2⟩ | ⟨C2e, g1, g2⟩
        · refine Or.inl ⟨0, C2e, 1, ?_, by omega, by omega, y_it0 f5 (ho.trans g1)⟩
          have e : (2 : Int) + ((0 : Nat) : Int) = 2 := by omega
          rw [e]
          exact g2
        · exact Or.inr ⟨e3, g2.2.1, 1, by omega, y_it0b f5 (ho.trans g1) g2⟩
theorem y_allF1 {C : ev_C} {y : Int} {N : Nat} (h : C 8 9 ≠ 0) (hN : 1 ≤ N) : f_9_readAll_14_8_6_k1_L12 N C y = some C := by
  obtain ⟨n, rfl⟩ : ∃ n, N = n + 1 := ⟨N - 1, by omega⟩
  rw [f_9_readAll_14_8_6_k1_L12]
  by_cases e : 20 ≤ y
  · rw [if_pos e]
  · rw [if_neg e, y_fine.2 h, ev_bdS, if_pos (rfl : (0 : Int) = 0)]
theorem y_allL1 {S : List Int} (hS : ∀ x S', S = x :: S' → x ≠ 20 ∧ x ≠ 21) : ∀ (N m : Nat) (C1 C2 : ev_C) (k j : Nat) (a : List Int), 20 - k ≤ m → m < N → (k : Int) < C1 14 0 → y_A C1 C2 (List.replicate j 20 ++ (a ++ S)) (2 + (j : Int)) 1 → (2 : Int) + (j : Int) ≤ 9 → (∀ x ∈ a, x = 21) → ∃ C1', f_9_readAll_14_8_6_k1_L12 N C1 (k : Int) = some C1' ∧ (y_okA 0 C1 C2 S 2 C1' ∨ y_flt 4 C1 C2 C1')
  | 0, _, _, _, _, _, _, _, h, _, _, _, _ => absurd h (Nat.not_lt_zero _)
  | N + 1, m, C1, C2, k, j, a, hm, hN, hk, h, hj, ha => by
    obtain ⟨hb, hb1, hb2⟩ := y_B1 h
    rw [f_9_readAll_14_8_6_k1_L12, if_neg (show ¬ (20 : Int) ≤ (k : Int) by omega), y_fine.1 hb2, ev_bdS, if_neg (show ¬ (1 : Int) = 0 by decide), y_iaw (x := 17) (by decide), ev_bdS]
    by_cases hw : z_wi C1 = 17
    · rw [if_pos hw, if_neg (show ¬ (1 : Int) = 0 by decide)]
      obtain ⟨D, C2', g1, g2, g3, g4⟩ := y_and (v := 21) (q := 2) h (by decide) (by omega) (Or.inl ⟨rfl, hw⟩) (fun x hx => Or.inl (ha x hx)) (fun x S' e => ⟨(hS x S' e).1, (hS x S' e).2, Or.inr (by decide)⟩)
      have d0 : D 14 0 = C1 14 0 := congrFun g4 0
      obtain ⟨E, e1, e2⟩ := y_one2 g3
      rw [g1, ev_bvS, e1, ev_bvS]
      rcases e2 with ⟨j', C2e, k', o1, o2, o3, o4⟩ | ⟨fb, fn, k', fk, fbad⟩
      · obtain ⟨he, he1, he2⟩ := y_B1 o1
        obtain ⟨F, a1, a2, a3, a4⟩ := y_add (C := E) (a := 17) (b := 0) (c := 0) he1
        have oF : y_A F C2e (List.replicate j' 20 ++ ([21] ++ S)) (2 + (j' : Int)) 1 := o1.ad a2 a3 a4
        obtain ⟨C1', l1, l2⟩ := y_allL1 hS N (m - 1) F C2e (k + 1) j' [21] (by omega) (by omega) (by rw [a3]; omega) oF o2 (fun x hx => List.mem_singleton.mp hx)
        rw [a1, ev_bvS, y_succ (by omega)]
        refine ⟨C1', l1, ?_⟩
        rcases l2 with ⟨j2, b, C2f, k2, p1, p2, p3, p4, p5, p6⟩ | ⟨fb, fn, k2, fk, fbad⟩
        · exact Or.inl ⟨j2, b, C2f, _, p1, p2, p3, by omega, (g2.tr o4).tr p5, p6⟩
        · exact Or.inr ⟨fb, fn, _, by omega, (g2.tr o4).bad fbad⟩
      · obtain ⟨F, a1, a2, a3, a4⟩ := y_add (C := E) (a := 17) (b := 0) (c := 0) fb
        have fF : F 8 9 ≠ 0 := by rw [a2 8 (by decide)]; exact fn
        rw [a1, ev_bvS, y_allF1 fF (by omega)]
        exact ⟨F, rfl, Or.inr ⟨a4, fF, _, by omega, (g2.bad fbad).c8 (a2 8 (by decide))⟩⟩
    · rw [if_neg hw, if_pos (rfl : (0 : Int) = 0)]
      exact ⟨C1, rfl, Or.inl ⟨j, a, C2, 0, ha, h, hj, by omega, fun n => rfl, hw⟩⟩
theorem y_all1 {C1 C2 : ev_C} {S : List Int} (h : y_A C1 C2 S 2 0) (hS : ∀ x S', S = x :: S' → x ≠ 20 ∧ x ≠ 21) : ∃ C1', f_9_readAll_14_8_6_k1 C1 = some C1' ∧ (y_okA 1 C1 C2 S 2 C1' ∨ y_flt 3 C1 C2 C1') := by
  obtain ⟨E, e1, e2⟩ := y_one2 h
  obtain ⟨hb, -, -⟩ := y_B1 h
  unfold f_9_readAll_14_8_6_k1
  rw [e1, ev_bvS]
  rcases e2 with ⟨j', C2e, k', o1, o2, o3, o4⟩ | ⟨fb, fn, k', fk, fbad⟩
  · obtain ⟨C1', l1, l2⟩ := y_allL1 hS 1000 20 E C2e 0 j' [] (by decide) (by decide) (by omega) o1 o2 (fun x hx => by cases hx)
    have l1 : f_9_readAll_14_8_6_k1_L12 1000 E 0 = some C1' := l1
    refine ⟨C1', l1, ?_⟩
    rcases l2 with ⟨j2, b, C2f, k2, p1, p2, p3, p4, p5, p6⟩ | ⟨fb, fn, k2, fk, fbad⟩
    · exact Or.inl ⟨j2, b, C2f, _, p1, p2, p3, by omega, o4.tr p5, p6⟩
    · exact Or.inr ⟨fb, fn, _, by omega, o4.bad fbad⟩
  · exact ⟨E, y_allF1 fn (by decide), Or.inr ⟨fb, fn, k', fk, fbad⟩⟩
theorem y_condF1 {C : ev_C} {y : Int} {N : Nat} (h : C 8 9 ≠ 0) (hN : 1 ≤ N) : f_9_readCond_14_8_6_k1_L10 N C y = some C := by
  obtain ⟨n, rfl⟩ : ∃ n, N = n + 1 := ⟨N - 1, by omega⟩
  rw [f_9_readCond_14_8_6_k1_L10]
  by_cases e : 20 ≤ y
  · rw [if_pos e]
  · rw [if_neg e, y_fine.2 h, ev_bdS, if_pos (rfl : (0 : Int) = 0)]
theorem y_condL1 {S : List Int} (hS : ∀ x S', S = x :: S' → x ≠ 20 ∧ x ≠ 21 ∧ x ≠ 22) : ∀ (N m : Nat) (C1 C2 : ev_C) (k j : Nat) (a : List Int), 20 - k ≤ m → m < N → (k : Int) < C1 14 0 → y_A C1 C2 (List.replicate j 20 ++ (a ++ S)) (2 + (j : Int)) 1 → (2 : Int) + (j : Int) ≤ 9 → (∀ x ∈ a, x = 21 ∨ x = 22) → z_wi C1 ≠ 17 → ∃ C1', f_9_readCond_14_8_6_k1_L10 N C1 (k : Int) = some C1' ∧ (y_okC 0 C1 C2 S 2 C1' ∨ y_flt 4 C1 C2 C1')
  | 0, _, _, _, _, _, _, _, h, _, _, _, _, _ => absurd h (Nat.not_lt_zero _)
  | N + 1, m, C1, C2, k, j, a, hm, hN, hk, h, hj, ha, hz => by
    obtain ⟨hb, hb1, hb2⟩ := y_B1 h
    rw [f_9_readCond_14_8_6_k1_L10, if_neg (show ¬ (20 : Int) ≤ (k : Int) by omega), y_fine.1 hb2, ev_bdS, if_neg (show ¬ (1 : Int) = 0 by decide), y_iaw (x := 16) (by decide), ev_bdS]
    by_cases hw : z_wi C1 = 16
    · rw [if_pos hw, if_neg (show ¬ (1 : Int) = 0 by decide)]
      obtain ⟨D, C2', g1, g2, g3, g4⟩ := y_and (v := 22) (q := 2) h (by decide) (by omega) (Or.inr ⟨rfl, hw⟩) (fun x hx => by have := ha x hx; omega) (fun x S' e => by have := hS x S' e; omega)
      have d0 : D 14 0 = C1 14 0 := congrFun g4 0
      obtain ⟨E, e1, e2⟩ := y_all1 g3 (fun x S' e => by have e1 : (22 : Int) = x := (List.cons.inj e).1; omega)
      rw [g1, ev_bvS, e1, ev_bvS]
      rcases e2 with ⟨j', a', C2e, k', o0, o1, o2, o3, o4, o5⟩ | ⟨fb, fn, k', fk, fbad⟩
      · obtain ⟨he, he1, he2⟩ := y_B1 o1
        obtain ⟨F, a1, a2, a3, a4⟩ := y_add (C := E) (a := 16) (b := 0) (c := 0) he1
        have oF : y_A F C2e (List.replicate j' 20 ++ ((a' ++ [22]) ++ S)) (2 + (j' : Int)) 1 := by
          rw [List.append_assoc]
          exact o1.ad a2 a3 a4
        have hzF : z_wi F ≠ 17 := by
          have e : z_wi F = z_wi E := by
            unfold z_wi
            rw [a2 8 (by decide)]
          rw [e]
          exact o5
        obtain ⟨C1', l1, l2⟩ := y_condL1 hS N (m - 1) F C2e (k + 1) j' (a' ++ [22]) (by omega) (by omega) (by rw [a3]; omega) oF o2 (fun x hx => by
          rcases List.mem_append.mp hx with hx | hx
          · exact Or.inl (o0 x hx)
          · exact Or.inr (List.mem_singleton.mp hx)) hzF
        rw [a1, ev_bvS, y_succ (by omega)]
        refine ⟨C1', l1, ?_⟩
        rcases l2 with ⟨j2, b, C2f, k2, p1, p2, p3, p4, p5, p6⟩ | ⟨fb, fn, k2, fk, fbad⟩
        · exact Or.inl ⟨j2, b, C2f, _, p1, p2, p3, by omega, (g2.tr o4).tr p5, p6⟩
        · exact Or.inr ⟨fb, fn, _, by omega, (g2.tr o4).bad fbad⟩
      · obtain ⟨F, a1, a2, a3, a4⟩ := y_add (C := E) (a := 16) (b := 0) (c := 0) fb
        have fF : F 8 9 ≠ 0 := by rw [a2 8 (by decide)]; exact fn
        rw [a1, ev_bvS, y_condF1 fF (by omega)]
        exact ⟨F, rfl, Or.inr ⟨a4, fF, _, by omega, (g2.bad fbad).c8 (a2 8 (by decide))⟩⟩
    · rw [if_neg hw, if_pos (rfl : (0 : Int) = 0)]
      exact ⟨C1, rfl, Or.inl ⟨j, a, C2, 0, ha, h, hj, by omega, fun n => rfl, hz, hw⟩⟩
theorem y_cond1 {C1 C2 : ev_C} {S : List Int} (h : y_A C1 C2 S 2 0) (hS : ∀ x S', S = x :: S' → x ≠ 20 ∧ x ≠ 21 ∧ x ≠ 22) : ∃ C1', f_9_readCond_14_8_6_k1 C1 = some C1' ∧ (y_okC 1 C1 C2 S 2 C1' ∨ y_flt 3 C1 C2 C1') := by
  obtain ⟨E, e1, e2⟩ := y_all1 h (fun x S' e => ⟨(hS x S' e).1, (hS x S' e).2.1⟩)
  obtain ⟨hb, -, -⟩ := y_B1 h
  unfold f_9_readCond_14_8_6_k1
  rw [e1, ev_bvS]
  rcases e2 with ⟨j', a', C2e, k', o0, o1, o2, o3, o4, o5⟩ | ⟨fb, fn, k', fk, fbad⟩
  · obtain ⟨C1', l1, l2⟩ := y_condL1 hS 1000 20 E C2e 0 j' a' (by decide) (by decide) (by omega) o1 o2 (fun x hx => Or.inl (o0 x hx)) o5
    have l1 : f_9_readCond_14_8_6_k1_L10 1000 E 0 = some C1' := l1
    refine ⟨C1', l1, ?_⟩
    rcases l2 with ⟨j2, b, C2f, k2, p1, p2, p3, p4, p5, p6⟩ | ⟨fb, fn, k2, fk, fbad⟩
    · exact Or.inl ⟨j2, b, C2f, _, p1, p2, p3, by omega, o4.tr p5, p6⟩
    · exact Or.inr ⟨fb, fn, _, by omega, o4.bad fbad⟩
  · exact ⟨E, y_condF1 fn (by decide), Or.inr ⟨fb, fn, k', fk, fbad⟩⟩
theorem y_one1 {C1 C2 : ev_C} {S : List Int} (h : y_A C1 C2 S 1 0) : ∃ C1', f_9_readOne_14_8_6_k1 C1 = some C1' ∧ (y_okO C1 C2 S 1 C1' ∨ y_flt 3 C1 C2 C1') := by
  obtain ⟨v, r, v0, r0, v1, wv, hc⟩ := y_start h (by decide) (by decide)
  obtain ⟨hb, hb1, -⟩ := y_B1 h
  have hw := (z_word h.1).1
  have hN : (v = 0 ∧ (z_wi C1 < 18 ∨ 26 < z_wi C1)) → f_9_readOne_14_8_6_k1 C1 = (ev_bv (f_8_fail C1 1) fun C17 => some C17) := fun c1 => by
    unfold f_9_readOne_14_8_6_k1
    rw [hw, ev_bdS, v1, ev_bdS, if_neg (show ¬ v ≠ 0 by omega)]
    by_cases e : z_wi C1 < 18
    · rw [if_pos e]
    · rw [if_neg e, if_neg (show ¬ z_wi C1 ≤ 26 by omega)]
  have hJ : (v = 1 ∨ (18 ≤ z_wi C1 ∧ z_wi C1 ≤ 26)) → f_9_readOne_14_8_6_k1 C1 = f_9_readOne_14_8_6_k1_J39 C1 (z_wi C1) v := fun c1 => by
    unfold f_9_readOne_14_8_6_k1
    rw [hw, ev_bdS, v1, ev_bdS]
    by_cases e : v ≠ 0
    · rw [if_pos e]
    · rw [if_neg e, if_neg (show ¬ z_wi C1 < 18 by omega), if_pos (show z_wi C1 ≤ 26 by omega)]
  rcases hc with ⟨c1, D, f1, f2, f3, f4⟩ | ⟨c1, c2, D, f1, f2, f3, f4⟩ | ⟨c1, c2, c3, D, C2', f1, f2, f3, f4, f5, f6⟩
  · refine ⟨D, ?_, Or.inr ⟨by rw [f2]; exact hb1, f3, 1, by omega, f4⟩⟩
    rw [hN c1, f1, ev_bvS]
  · refine ⟨D, ?_, Or.inr ⟨by rw [f2]; exact hb1, f3, 1, by omega, f4⟩⟩
    rw [hJ c1]
    unfold f_9_readOne_14_8_6_k1_J39
    by_cases e : 20 ≤ C1 14 0
    · rw [if_pos e, f1, ev_bvS]
    · exact absurd c2 (by omega)
  · have hE : f_9_readOne_14_8_6_k1 C1 = (if v = 0 then (if z_wi C1 ≠ 18 then (ev_bv (f_9_readPlainOne_14_8_6 D (z_wi C1)) fun C9 => some C9) else (ev_bv (f_9_readOne_14_8_6_k2 D) fun C10 => ev_bv (f_9_addStep_14 C10 18 0 0) fun C11 => some C11)) else (ev_bv (f_9_readCond_14_8_6_k1 D) fun C12 => ev_bd (f_8_isFine C12) fun r13 C13 => if r13 = 0 then some C13 else (ev_bv (f_8_takeSign C13 41) fun C15 => some C15))) := by
      rw [hJ c1]
      unfold f_9_readOne_14_8_6_k1_J39
      rw [if_neg (show ¬ 20 ≤ C1 14 0 by omega), f1, ev_bvS]
    obtain ⟨hd, hd1, -⟩ := y_B1 f2
    by_cases hv : v = 1
    · have hw1 := wv hv
      obtain ⟨C2p, p1, p2⟩ := y_push 23 f2 f4 (by decide) (y1 := r) (y2 := v) (y3 := y_lf (z_wi C1))
      have ho : f_12_operand C2 = some (1, C2p) := by
        rw [f6]
        unfold y_rest
        rw [if_neg (show ¬ r ≠ 0 by omega), if_neg (show ¬ v = 0 by omega)]
        unfold f_12_operand_J84
        rw [if_pos (show r = 0 by omega)]
        exact p1
      have hg := y_it0 f5 ho
      have p2 : y_A D C2p (23 :: S) 2 0 := p2
      obtain ⟨E, k1, k2⟩ := y_cond1 p2 (fun x S' e => by have e1 : (23 : Int) = x := (List.cons.inj e).1; omega)
      rw [if_neg (show ¬ v = 0 by omega), k1, ev_bvS] at hE
      rcases k2 with ⟨j, a, C2e, k, ha, hA, hj, hk, hgo, hz⟩ | ⟨fb, fn, k, fk, fbad⟩
      · obtain ⟨he, he1, he2⟩ := y_B1 hA
        have hA2 : y_A E C2e (List.replicate j 20 ++ (a ++ 23 :: S)) (1 + 1 + (j : Int)) 1 := by
          have e : ((1 : Int) + 1 + (j : Int)) = 2 + (j : Int) := by omega
          rw [e]
          exact hA
        obtain ⟨C1', t1, t2, t3⟩ := y_close hA2 (by decide) (by omega) hz ha
        have t20 : C1' 14 0 = E 14 0 := congrFun t2 0
        rw [y_fine.1 he2, ev_bdS, if_neg (show ¬ (1 : Int) = 0 by decide), t1, ev_bvS] at hE
        refine ⟨C1', hE, ?_⟩
        rcases t3 with ⟨C2f, u1, u2⟩ | ⟨u1, u2⟩
        · refine Or.inl ⟨0, C2f, _, ?_, by omega, by omega, (hg.tr hgo).tr u2⟩
          have e : (1 : Int) + ((0 : Nat) : Int) = 1 := by omega
          rw [e]
          exact u1
        · exact Or.inr ⟨by rw [t2]; exact he1, u1, _, by omega, (hg.tr hgo).bad u2⟩
      · rw [y_fine.2 fn, ev_bdS, if_pos (rfl : (0 : Int) = 0)] at hE
        exact ⟨E, hE, Or.inr ⟨fb, fn, _, by omega, hg.bad fbad⟩⟩
    · have hv0 : v = 0 := v0.resolve_right hv
      rw [if_pos hv0] at hE
      by_cases hr : z_wi C1 = 18
      · obtain ⟨C2p, p1, p2⟩ := y_push 20 f2 f4 (by decide) (y1 := r) (y2 := v) (y3 := y_lf (z_wi C1))
        have ho : f_12_operand C2 = some (1, C2p) := by
          rw [f6]
          unfold y_rest
          rw [if_pos (show r ≠ 0 by omega)]
          unfold f_12_operand_J84
          rw [if_neg (show ¬ r = 0 by omega)]
          exact p1
        have hg := y_it0 f5 ho
        have p2 : y_A D C2p (20 :: S) 2 0 := p2
        obtain ⟨E, k1, k2⟩ := y_one2 p2
        rw [if_neg (fun q => q hr), k1, ev_bvS] at hE
        rcases k2 with ⟨j, C2e, k, hA, hj, hk, hgo⟩ | ⟨fb, fn, k, fk, fbad⟩
        · obtain ⟨he, he1, he2⟩ := y_B1 hA
          obtain ⟨C1', a1, a2, a3, a4⟩ := y_add (C := E) (a := 18) (b := 0) (c := 0) he1
          rw [a1, ev_bvS] at hE
          have hA2 : y_A E C2e (List.replicate (j + 1) 20 ++ S) (1 + ((j + 1 : Nat) : Int)) 1 := by
            have e : (1 : Int) + ((j + 1 : Nat) : Int) = 2 + (j : Int) := by omega
            rw [e, ← y_rep j]
            exact hA
          exact ⟨C1', hE, Or.inl ⟨j + 1, C2e, _, hA2.ad a2 a3 a4, by omega, by omega, hg.tr hgo⟩⟩
        · obtain ⟨C1', a1, a2, a3, a4⟩ := y_add (C := E) (a := 18) (b := 0) (c := 0) fb
          rw [a1, ev_bvS] at hE
          exact ⟨C1', hE, Or.inr ⟨a4, by rw [a2 8 (by decide)]; exact fn, _, by omega, (hg.bad fbad).c8 (a2 8 (by decide))⟩⟩
      · obtain ⟨E, e1, e2, e3, e4⟩ := y_plain (i := z_wi C1) f2 f4 (by omega)
        rw [if_pos hr, e1, ev_bvS] at hE
        have ho : f_12_operand C2 = y_pl C2' (y_lf (z_wi C1)) := by
          rw [f6]
          unfold y_rest
          rw [if_neg (show ¬ r ≠ 0 by omega), if_pos hv0]
        refine ⟨E, hE, ?_⟩
        rcases e4 with ⟨C2e, g1, g2⟩ | ⟨C2e, g1, g2⟩
        · refine Or.inl ⟨0, C2e, 1, ?_, by omega, by omega, y_it0 f5 (ho.trans g1)⟩
          have e : (1 : Int) + ((0 : Nat) : Int) = 1 := by omega
          rw [e]
          exact g2
        · exact Or.inr ⟨e3, g2.2.1, 1, by omega, y_it0b f5 (ho.trans g1) g2⟩
theorem y_allF0 {C : ev_C} {y : Int} {N : Nat} (h : C 8 9 ≠ 0) (hN : 1 ≤ N) : f_9_readAll_14_8_6_k0_L12 N C y = some C := by
  obtain ⟨n, rfl⟩ : ∃ n, N = n + 1 := ⟨N - 1, by omega⟩
  rw [f_9_readAll_14_8_6_k0_L12]
  by_cases e : 20 ≤ y
  · rw [if_pos e]
  · rw [if_neg e, y_fine.2 h, ev_bdS, if_pos (rfl : (0 : Int) = 0)]
theorem y_allL0 {S : List Int} (hS : ∀ x S', S = x :: S' → x ≠ 20 ∧ x ≠ 21) : ∀ (N m : Nat) (C1 C2 : ev_C) (k j : Nat) (a : List Int), 20 - k ≤ m → m < N → (k : Int) < C1 14 0 → y_A C1 C2 (List.replicate j 20 ++ (a ++ S)) (1 + (j : Int)) 1 → (1 : Int) + (j : Int) ≤ 9 → (∀ x ∈ a, x = 21) → ∃ C1', f_9_readAll_14_8_6_k0_L12 N C1 (k : Int) = some C1' ∧ (y_okA 0 C1 C2 S 1 C1' ∨ y_flt 4 C1 C2 C1')
  | 0, _, _, _, _, _, _, _, h, _, _, _, _ => absurd h (Nat.not_lt_zero _)
  | N + 1, m, C1, C2, k, j, a, hm, hN, hk, h, hj, ha => by
    obtain ⟨hb, hb1, hb2⟩ := y_B1 h
    rw [f_9_readAll_14_8_6_k0_L12, if_neg (show ¬ (20 : Int) ≤ (k : Int) by omega), y_fine.1 hb2, ev_bdS, if_neg (show ¬ (1 : Int) = 0 by decide), y_iaw (x := 17) (by decide), ev_bdS]
    by_cases hw : z_wi C1 = 17
    · rw [if_pos hw, if_neg (show ¬ (1 : Int) = 0 by decide)]
      obtain ⟨D, C2', g1, g2, g3, g4⟩ := y_and (v := 21) (q := 1) h (by decide) (by omega) (Or.inl ⟨rfl, hw⟩) (fun x hx => Or.inl (ha x hx)) (fun x S' e => ⟨(hS x S' e).1, (hS x S' e).2, Or.inr (by decide)⟩)
      have d0 : D 14 0 = C1 14 0 := congrFun g4 0
      obtain ⟨E, e1, e2⟩ := y_one1 g3
      rw [g1, ev_bvS, e1, ev_bvS]
      rcases e2 with ⟨j', C2e, k', o1, o2, o3, o4⟩ | ⟨fb, fn, k', fk, fbad⟩
      · obtain ⟨he, he1, he2⟩ := y_B1 o1
        obtain ⟨F, a1, a2, a3, a4⟩ := y_add (C := E) (a := 17) (b := 0) (c := 0) he1
        have oF : y_A F C2e (List.replicate j' 20 ++ ([21] ++ S)) (1 + (j' : Int)) 1 := o1.ad a2 a3 a4
        obtain ⟨C1', l1, l2⟩ := y_allL0 hS N (m - 1) F C2e (k + 1) j' [21] (by omega) (by omega) (by rw [a3]; omega) oF o2 (fun x hx => List.mem_singleton.mp hx)
        rw [a1, ev_bvS, y_succ (by omega)]
        refine ⟨C1', l1, ?_⟩
        rcases l2 with ⟨j2, b, C2f, k2, p1, p2, p3, p4, p5, p6⟩ | ⟨fb, fn, k2, fk, fbad⟩
        · exact Or.inl ⟨j2, b, C2f, _, p1, p2, p3, by omega, (g2.tr o4).tr p5, p6⟩
        · exact Or.inr ⟨fb, fn, _, by omega, (g2.tr o4).bad fbad⟩
      · obtain ⟨F, a1, a2, a3, a4⟩ := y_add (C := E) (a := 17) (b := 0) (c := 0) fb
        have fF : F 8 9 ≠ 0 := by rw [a2 8 (by decide)]; exact fn
        rw [a1, ev_bvS, y_allF0 fF (by omega)]
        exact ⟨F, rfl, Or.inr ⟨a4, fF, _, by omega, (g2.bad fbad).c8 (a2 8 (by decide))⟩⟩
    · rw [if_neg hw, if_pos (rfl : (0 : Int) = 0)]
      exact ⟨C1, rfl, Or.inl ⟨j, a, C2, 0, ha, h, hj, by omega, fun n => rfl, hw⟩⟩
theorem y_all0 {C1 C2 : ev_C} {S : List Int} (h : y_A C1 C2 S 1 0) (hS : ∀ x S', S = x :: S' → x ≠ 20 ∧ x ≠ 21) : ∃ C1', f_9_readAll_14_8_6_k0 C1 = some C1' ∧ (y_okA 1 C1 C2 S 1 C1' ∨ y_flt 3 C1 C2 C1') := by
  obtain ⟨E, e1, e2⟩ := y_one1 h
  obtain ⟨hb, -, -⟩ := y_B1 h
  unfold f_9_readAll_14_8_6_k0
  rw [e1, ev_bvS]
  rcases e2 with ⟨j', C2e, k', o1, o2, o3, o4⟩ | ⟨fb, fn, k', fk, fbad⟩
  · obtain ⟨C1', l1, l2⟩ := y_allL0 hS 1000 20 E C2e 0 j' [] (by decide) (by decide) (by omega) o1 o2 (fun x hx => by cases hx)
    have l1 : f_9_readAll_14_8_6_k0_L12 1000 E 0 = some C1' := l1
    refine ⟨C1', l1, ?_⟩
    rcases l2 with ⟨j2, b, C2f, k2, p1, p2, p3, p4, p5, p6⟩ | ⟨fb, fn, k2, fk, fbad⟩
    · exact Or.inl ⟨j2, b, C2f, _, p1, p2, p3, by omega, o4.tr p5, p6⟩
    · exact Or.inr ⟨fb, fn, _, by omega, o4.bad fbad⟩
  · exact ⟨E, y_allF0 fn (by decide), Or.inr ⟨fb, fn, k', fk, fbad⟩⟩
theorem y_condF0 {C : ev_C} {y : Int} {N : Nat} (h : C 8 9 ≠ 0) (hN : 1 ≤ N) : f_9_readCond_14_8_6_k0_L10 N C y = some C := by
  obtain ⟨n, rfl⟩ : ∃ n, N = n + 1 := ⟨N - 1, by omega⟩
  rw [f_9_readCond_14_8_6_k0_L10]
  by_cases e : 20 ≤ y
  · rw [if_pos e]
  · rw [if_neg e, y_fine.2 h, ev_bdS, if_pos (rfl : (0 : Int) = 0)]
theorem y_condL0 {S : List Int} (hS : ∀ x S', S = x :: S' → x ≠ 20 ∧ x ≠ 21 ∧ x ≠ 22) : ∀ (N m : Nat) (C1 C2 : ev_C) (k j : Nat) (a : List Int), 20 - k ≤ m → m < N → (k : Int) < C1 14 0 → y_A C1 C2 (List.replicate j 20 ++ (a ++ S)) (1 + (j : Int)) 1 → (1 : Int) + (j : Int) ≤ 9 → (∀ x ∈ a, x = 21 ∨ x = 22) → z_wi C1 ≠ 17 → ∃ C1', f_9_readCond_14_8_6_k0_L10 N C1 (k : Int) = some C1' ∧ (y_okC 0 C1 C2 S 1 C1' ∨ y_flt 4 C1 C2 C1')
  | 0, _, _, _, _, _, _, _, h, _, _, _, _, _ => absurd h (Nat.not_lt_zero _)
  | N + 1, m, C1, C2, k, j, a, hm, hN, hk, h, hj, ha, hz => by
    obtain ⟨hb, hb1, hb2⟩ := y_B1 h
    rw [f_9_readCond_14_8_6_k0_L10, if_neg (show ¬ (20 : Int) ≤ (k : Int) by omega), y_fine.1 hb2, ev_bdS, if_neg (show ¬ (1 : Int) = 0 by decide), y_iaw (x := 16) (by decide), ev_bdS]
    by_cases hw : z_wi C1 = 16
    · rw [if_pos hw, if_neg (show ¬ (1 : Int) = 0 by decide)]
      obtain ⟨D, C2', g1, g2, g3, g4⟩ := y_and (v := 22) (q := 1) h (by decide) (by omega) (Or.inr ⟨rfl, hw⟩) (fun x hx => by have := ha x hx; omega) (fun x S' e => by have := hS x S' e; omega)
      have d0 : D 14 0 = C1 14 0 := congrFun g4 0
      obtain ⟨E, e1, e2⟩ := y_all0 g3 (fun x S' e => by have e1 : (22 : Int) = x := (List.cons.inj e).1; omega)
      rw [g1, ev_bvS, e1, ev_bvS]
      rcases e2 with ⟨j', a', C2e, k', o0, o1, o2, o3, o4, o5⟩ | ⟨fb, fn, k', fk, fbad⟩
      · obtain ⟨he, he1, he2⟩ := y_B1 o1
        obtain ⟨F, a1, a2, a3, a4⟩ := y_add (C := E) (a := 16) (b := 0) (c := 0) he1
        have oF : y_A F C2e (List.replicate j' 20 ++ ((a' ++ [22]) ++ S)) (1 + (j' : Int)) 1 := by
          rw [List.append_assoc]
          exact o1.ad a2 a3 a4
        have hzF : z_wi F ≠ 17 := by
          have e : z_wi F = z_wi E := by
            unfold z_wi
            rw [a2 8 (by decide)]
          rw [e]
          exact o5
        obtain ⟨C1', l1, l2⟩ := y_condL0 hS N (m - 1) F C2e (k + 1) j' (a' ++ [22]) (by omega) (by omega) (by rw [a3]; omega) oF o2 (fun x hx => by
          rcases List.mem_append.mp hx with hx | hx
          · exact Or.inl (o0 x hx)
          · exact Or.inr (List.mem_singleton.mp hx)) hzF
        rw [a1, ev_bvS, y_succ (by omega)]
        refine ⟨C1', l1, ?_⟩
        rcases l2 with ⟨j2, b, C2f, k2, p1, p2, p3, p4, p5, p6⟩ | ⟨fb, fn, k2, fk, fbad⟩
        · exact Or.inl ⟨j2, b, C2f, _, p1, p2, p3, by omega, (g2.tr o4).tr p5, p6⟩
        · exact Or.inr ⟨fb, fn, _, by omega, (g2.tr o4).bad fbad⟩
      · obtain ⟨F, a1, a2, a3, a4⟩ := y_add (C := E) (a := 16) (b := 0) (c := 0) fb
        have fF : F 8 9 ≠ 0 := by rw [a2 8 (by decide)]; exact fn
        rw [a1, ev_bvS, y_condF0 fF (by omega)]
        exact ⟨F, rfl, Or.inr ⟨a4, fF, _, by omega, (g2.bad fbad).c8 (a2 8 (by decide))⟩⟩
    · rw [if_neg hw, if_pos (rfl : (0 : Int) = 0)]
      exact ⟨C1, rfl, Or.inl ⟨j, a, C2, 0, ha, h, hj, by omega, fun n => rfl, hz, hw⟩⟩
theorem y_cond0 {C1 C2 : ev_C} {S : List Int} (h : y_A C1 C2 S 1 0) (hS : ∀ x S', S = x :: S' → x ≠ 20 ∧ x ≠ 21 ∧ x ≠ 22) : ∃ C1', f_9_readCond_14_8_6_k0 C1 = some C1' ∧ (y_okC 1 C1 C2 S 1 C1' ∨ y_flt 3 C1 C2 C1') := by
  obtain ⟨E, e1, e2⟩ := y_all0 h (fun x S' e => ⟨(hS x S' e).1, (hS x S' e).2.1⟩)
  obtain ⟨hb, -, -⟩ := y_B1 h
  unfold f_9_readCond_14_8_6_k0
  rw [e1, ev_bvS]
  rcases e2 with ⟨j', a', C2e, k', o0, o1, o2, o3, o4, o5⟩ | ⟨fb, fn, k', fk, fbad⟩
  · obtain ⟨C1', l1, l2⟩ := y_condL0 hS 1000 20 E C2e 0 j' a' (by decide) (by decide) (by omega) o1 o2 (fun x hx => Or.inl (o0 x hx)) o5
    have l1 : f_9_readCond_14_8_6_k0_L10 1000 E 0 = some C1' := l1
    refine ⟨C1', l1, ?_⟩
    rcases l2 with ⟨j2, b, C2f, k2, p1, p2, p3, p4, p5, p6⟩ | ⟨fb, fn, k2, fk, fbad⟩
    · exact Or.inl ⟨j2, b, C2f, _, p1, p2, p3, by omega, o4.tr p5, p6⟩
    · exact Or.inr ⟨fb, fn, _, by omega, o4.bad fbad⟩
  · exact ⟨E, y_condF0 fn (by decide), Or.inr ⟨fb, fn, k', fk, fbad⟩⟩

/-! SENTENCES ALIKE, 1: the reference's stack of what isn't done yet. -/
def y_S (C : ev_C) : List Int → Prop
  | [] => True
  | x :: S => C 43 S.length = x ∧ y_S C S
theorem y_S.al {C C' : ev_C} : ∀ {S : List Int}, y_S C S → (∀ k : Nat, k < S.length → C' 43 k = C 43 k) → y_S C' S
  | [], _, _ => trivial
  | x :: S, h, e => ⟨(e S.length (Nat.lt_succ_self _)).trans h.1, y_S.al h.2 (fun k hk => e k (Nat.lt_succ_of_lt hk))⟩
/-- the facts' names of both -/
def y_fk (C1 C2 : ev_C) : Prop := (C1 6 1 = C2 34 1 ∧ 0 ≤ C1 6 1 ∧ C1 6 1 ≤ 6) ∧ ∀ k : Nat, (k : Int) < C1 6 1 → z_N (C1 68 k) (C2 19 (6 + k))
def y_B (C1 C2 : ev_C) (S : List Int) (d w : Int) : Prop :=
  C1 14 0 = C2 12 46 ∧ (0 ≤ C1 14 0 ∧ C1 14 0 ≤ 20) ∧ (0 ≤ C1 14 1 ∧ C1 14 1 ≤ 40) ∧ C2 12 47 = (S.length : Int) ∧ y_S C2 S ∧ C2 12 48 = d ∧ C2 12 49 = w ∧ (0 ≤ C2 12 45 ∧ C2 12 45 + (S.length : Int) + w ≤ 2 * C1 14 0) ∧ y_fk C1 C2
def y_A (C1 C2 : ev_C) (S : List Int) (d w : Int) : Prop := z_A C1 C2 ∧ y_B C1 C2 S d w
/-- the reference's stack, codes and the like may change -/
def y_F (C C' : ev_C) : Prop := (∀ t : Nat, t ≠ 12 → t ≠ 36 → t ≠ 43 → C' t = C t) ∧ ∀ j : Nat, (j < 45 ∨ 49 < j) → C' 12 j = C 12 j
theorem y_F.rf {C : ev_C} : y_F C C := ⟨fun _ _ _ _ => rfl, fun _ _ => rfl⟩
theorem y_F.tr {C C' C'' : ev_C} (h : y_F C C') (h' : y_F C' C'') : y_F C C'' := ⟨fun t a b c => (h'.1 t a b c).trans (h.1 t a b c), fun j hj => (h'.2 j hj).trans (h.2 j hj)⟩
theorem y_F.u43 {C C' : ev_C} {j : Nat} {v : Int} (h : y_F C C') : y_F C (ev_u C' 43 j v) := ⟨fun t a b c => (ev_ut c).trans (h.1 t a b c), fun j hj => (congrFun (ev_ut (by decide)) j).trans (h.2 j hj)⟩
theorem y_F.u12 {C C' : ev_C} {i : Nat} {v : Int} (h : y_F C C') (hi : 45 ≤ i ∧ i ≤ 49) : y_F C (ev_u C' 12 i v) := ⟨fun t a b c => (ev_ut a).trans (h.1 t a b c), fun j hj => (ev_un (fun q => by have := q.2; omega)).trans (h.2 j hj)⟩
theorem z_A.yf {C1 C2 C2' : ev_C} (h : z_A C1 C2) (f : y_F C2 C2') : z_A C1 C2' := by
  have e49 := f.1 49 (by decide) (by decide) (by decide)
  have e50 := f.1 50 (by decide) (by decide) (by decide)
  have e3 := f.2 3 (by decide)
  have e4 := f.2 4 (by decide)
  have e5 := f.2 5 (by decide)
  have e11 := f.2 11 (by decide)
  have e12 := f.2 12 (by decide)
  have e14 := f.2 14 (by decide)
  have e15 := f.2 15 (by decide)
  have e17 := f.2 17 (by decide)
  unfold z_A z_D z_E z_T z_K at h ⊢
  rw [e49, e50, e3, e4, e5, e11, e12, e14, e15, e17]
  exact h
theorem z_A.c1 {C1 C1' C2 : ev_C} (h : z_A C1 C2) (e : ∀ t : Nat, t ≠ 14 → C1' t = C1 t) : z_A C1' C2 := by
  have e8 := e 8 (by decide)
  have e10 := e 10 (by decide)
  have e15 := e 15 (by decide)
  have e16 := e 16 (by decide)
  unfold z_A z_D z_E z_T z_K at h ⊢
  rw [e8, e10, e15, e16]
  exact h
theorem y_fk.yf {C1 C2 C2' : ev_C} (h : y_fk C1 C2) (f : y_F C2 C2') : y_fk C1 C2' := by
  unfold y_fk at h ⊢
  rw [f.1 34 (by decide) (by decide) (by decide), f.1 19 (by decide) (by decide) (by decide)]
  exact h
theorem y_B.mv {C1 C2 C1' C2' : ev_C} {S : List Int} {d w : Int} (h : y_B C1 C2 S d w) (f1 : z_F1 C1 C1') (f2 : z_F2 C2 C2') : y_B C1' C2' S d w := by
  obtain ⟨b0, b1, b2, b3, b4, b5, b6, b7, b8⟩ := h
  have q : ∀ j : Nat, 45 ≤ j → C2' 12 j = C2 12 j := fun j h => f2.2 j (by omega) (by omega) (by omega) (by omega) (by omega) (by omega)
  have e14 := f1.1 14 (by decide)
  unfold y_B
  rw [e14, q 45 (by decide), q 46 (by decide), q 47 (by decide), q 48 (by decide), q 49 (by decide)]
  refine ⟨b0, b1, b2, b3, b4.al (fun k _ => by rw [f2.1 43 (by decide)]), b5, b6, b7, ?_⟩
  unfold y_fk at b8 ⊢
  rw [f1.1 6 (by decide), f1.1 68 (by decide), f2.1 34 (by decide), f2.1 19 (by decide)]
  exact b8
theorem y_add {C : ev_C} {a b c : Int} (h : 0 ≤ C 14 1 ∧ C 14 1 ≤ 40) : ∃ C', f_9_addStep_14 C a b c = some C' ∧ (∀ t : Nat, t ≠ 14 → C' t = C t) ∧ C' 14 0 = C 14 0 ∧ 0 ≤ C' 14 1 ∧ C' 14 1 ≤ 40 := by
  unfold f_9_addStep_14
  by_cases h1 : 40 ≤ C 14 1
  · rw [if_pos h1]
    exact ⟨C, rfl, fun _ _ => rfl, rfl, h.1, h.2⟩
  · rw [if_neg h1, if_pos (show 0 ≤ C 14 1 ∧ C 14 1 < 40 by omega), if_pos (show 0 ≤ C 14 1 ∧ C 14 1 < 40 by omega), if_pos (show 0 ≤ C 14 1 ∧ C 14 1 < 40 by omega), ev_w_id (by omega) (by omega)]
    refine ⟨_, rfl, fun t ht => ev_ut ht, ev_un (by decide), ?_, ?_⟩
    · rw [ev_us]; omega
    · rw [ev_us]; omega
theorem y_A.ad {C1 C1' C2 : ev_C} {S : List Int} {d w : Int} (h : y_A C1 C2 S d w) (e : ∀ t : Nat, t ≠ 14 → C1' t = C1 t) (e0 : C1' 14 0 = C1 14 0) (e1 : 0 ≤ C1' 14 1 ∧ C1' 14 1 ≤ 40) : y_A C1' C2 S d w := by
  obtain ⟨hA, b0, b1, b2, b3, b4, b5, b6, b7, b8⟩ := h
  refine ⟨hA.c1 e, by rw [e0]; exact b0, by rw [e0]; exact b1, e1, b3, b4, b5, b6, by rw [e0]; exact b7, ?_⟩
  unfold y_fk at b8 ⊢
  rw [e 6 (by decide), e 68 (by decide)]
  exact b8
/-! the reference's loop: a step of it -/
def y_go (C C' : ev_C) (k : Nat) : Prop := ∀ n : Nat, f_12_sentence_L48 (n + k) C 1 = f_12_sentence_L48 n C' 1
def y_bad (C X : ev_C) (k : Nat) : Prop := ∀ n : Nat, ∃ C', f_12_sentence_L48 (n + k) C 1 = some (ev_w ((-1 : Int) - X 8 10), C') ∧ X 8 9 = C' 12 15
theorem y_go.tr {C C' C'' : ev_C} {k k' : Nat} (h : y_go C C' k) (h' : y_go C' C'' k') : y_go C C'' (k' + k) := fun n => by
  rw [← Nat.add_assoc]
  exact (h (n + k')).trans (h' n)
theorem y_go.bad {C C' X : ev_C} {k k' : Nat} (h : y_go C C' k) (h' : y_bad C' X k') : y_bad C X (k' + k) := fun n => by
  obtain ⟨D, e, e2⟩ := h' n
  exact ⟨D, by rw [← Nat.add_assoc]; exact (h (n + k')).trans e, e2⟩
theorem y_bad.c8 {C X X' : ev_C} {k : Nat} (h : y_bad C X k) (e : X' 8 = X 8) : y_bad C X' k := by
  unfold y_bad
  rw [e]
  exact h
theorem y_it0 {C C' : ev_C} (h : C 12 49 = 0) (ho : f_12_operand C = some (1, C')) : y_go C C' 1 := fun n => by
  rw [f_12_sentence_L48, if_neg (show ¬ (1 : Int) = 0 by decide), if_pos h]
  unfold f_12_sentence_J101
  rw [if_pos h, ho, ev_bdS, if_pos (show (1 : Int) ≠ 0 by decide)]
theorem y_it0b {C C' X : ev_C} (h : C 12 49 = 0) (ho : f_12_operand C = some (0, C')) (hx : z_X X C') : y_bad C X 1 := fun n => ⟨C', by
  rw [f_12_sentence_L48, if_neg (show ¬ (1 : Int) = 0 by decide), if_pos h]
  unfold f_12_sentence_J101
  rw [if_pos h, ho, ev_bdS, if_neg (show ¬ (0 : Int) ≠ 0 by decide), hx.2.2.1], hx.1⟩
theorem y_it1 {C C' : ev_C} (h : C 12 49 = 1) (hs : C 12 11 ≠ 0) (ho : f_12_behind C = some (1, C')) : y_go C C' 1 := fun n => by
  have h0 : ¬ C 12 49 = 0 := by omega
  rw [f_12_sentence_L48, if_neg (show ¬ (1 : Int) = 0 by decide), if_neg h0, if_pos hs]
  unfold f_12_sentence_J101
  rw [if_neg h0, ho, ev_bdS, if_pos (show (1 : Int) ≠ 0 by decide)]
theorem y_it1b {C C' X : ev_C} (h : C 12 49 = 1) (hs : C 12 11 ≠ 0) (ho : f_12_behind C = some (0, C')) (hx : z_X X C') : y_bad C X 1 := fun n => ⟨C', by
  have h0 : ¬ C 12 49 = 0 := by omega
  rw [f_12_sentence_L48, if_neg (show ¬ (1 : Int) = 0 by decide), if_neg h0, if_pos hs]
  unfold f_12_sentence_J101
  rw [if_neg h0, ho, ev_bdS, if_neg (show ¬ (0 : Int) ≠ 0 by decide), hx.2.2.1], hx.1⟩
/-! what is popped -/
theorem y_code {C : ev_C} {a b c : Int} (h0 : 0 ≤ C 12 45) (h1 : C 12 45 ≤ 43) : ∃ C', f_12_code C a b c = some C' ∧ y_F C C' ∧ C' 12 45 = C 12 45 + 1 ∧ (C' 12 46 = C 12 46 ∧ C' 12 47 = C 12 47 ∧ C' 12 48 = C 12 48 ∧ C' 12 49 = C 12 49) ∧ C' 43 = C 43 := by
  have e1 : ev_w ((3 : Int) * C 12 45) = 3 * C 12 45 := ev_w_id (by omega) (by omega)
  have e2 : ev_w (3 * C 12 45 + 1) = 3 * C 12 45 + 1 := ev_w_id (by omega) (by omega)
  have e3 : ev_w (3 * C 12 45 + 2) = 3 * C 12 45 + 2 := ev_w_id (by omega) (by omega)
  have e4 : ev_w (C 12 45 + 1) = C 12 45 + 1 := ev_w_id (by omega) (by omega)
  have u : ∀ j : Nat, j ≠ 45 → ev_u (ev_u (ev_u (ev_u C 36 (3 * C 12 45).toNat a) 36 (3 * C 12 45 + 1).toNat b) 36 (3 * C 12 45 + 2).toNat c) 12 45 (C 12 45 + 1) 12 j = C 12 j := fun j hj => by
    rw [ev_un (fun q => hj q.2), ev_ut (by decide), ev_ut (by decide), ev_ut (by decide)]
  unfold f_12_code
  rw [e1, e2, e3, e4, if_pos (by omega), if_pos (by omega), if_pos (by omega)]
  refine ⟨_, rfl, ⟨fun t a b c => ?_, fun j hj => u j (by omega)⟩, ev_us, ⟨u 46 (by decide), u 47 (by decide), u 48 (by decide), u 49 (by decide)⟩, ?_⟩
  · rw [ev_ut a, ev_ut b, ev_ut b, ev_ut b]
  · rw [ev_ut (by decide), ev_ut (by decide), ev_ut (by decide), ev_ut (by decide)]
theorem y_popc {C1 C2 X : ev_C} {S : List Int} {x d d' w a b c : Int} (h : y_A C1 C2 (x :: S) d w) (hw : 0 ≤ w) (f : y_F C2 X) (e43 : X 43 = C2 43) (e45 : X 12 45 = C2 12 45) (e46 : X 12 46 = C2 12 46) (e47 : X 12 47 = (S.length : Int)) (e48 : X 12 48 = d') (e49 : X 12 49 = C2 12 49) : ∃ X', f_12_code X a b c = some X' ∧ y_A C1 X' S d' w ∧ y_F C2 X' := by
  obtain ⟨hA, b0, b1, b2, b3, b4, b5, b6, b7, b8⟩ := h
  have hl : (((x :: S).length : Nat) : Int) = (S.length : Int) + 1 := by rw [List.length_cons]; omega
  rw [hl] at b3 b7
  obtain ⟨X', g1, g2, g3, ⟨g4, g5, g6, g7⟩, g8⟩ := y_code (C := X) (a := a) (b := b) (c := c) (by omega) (by omega)
  have fX := f.tr g2
  exact ⟨X', g1, ⟨hA.yf fX, by omega, b1, b2, by omega, b4.2.al (fun k _ => by rw [g8, e43]), by omega, by omega, by omega, b8.yf fX⟩, fX⟩
theorem y_nots0 {C1 C2 : ev_C} {S : List Int} {d : Int} {N : Nat} (h : y_A C1 C2 S d 1) (hS : ∀ x S', S = x :: S' → x ≠ 20) : f_12_nots_L0 (N + 1) C2 = some C2 := by
  obtain ⟨hA, b0, b1, b2, b3, b4, b5, b6, b7, b8⟩ := h
  rw [f_12_nots_L0]
  match S, hS, b3, b4, b7 with
  | [], _, b3, _, _ =>
    have b3 : C2 12 47 = 0 := b3
    rw [if_pos (by omega)]
  | x :: S', hS, b3, b4, b7 =>
    have hl : (((x :: S').length : Nat) : Int) = (S'.length : Int) + 1 := by rw [List.length_cons]; omega
    rw [hl] at b3 b7
    have e : ev_w (C2 12 47 - (1 : Int)) = (S'.length : Int) := by rw [ev_w_id (by omega) (by omega)]; omega
    have k0 : ¬ C2 12 47 ≤ 0 := by omega
    have k1 : 0 ≤ (S'.length : Int) ∧ (S'.length : Int) < 45 := by omega
    rw [if_neg k0, e, if_pos k1, Int.toNat_natCast, b4.1, if_pos (hS x S' rfl)]
theorem y_nots {C1 : ev_C} {S : List Int} (hS : ∀ x S', S = x :: S' → x ≠ 20) : ∀ (j N : Nat) (C2 : ev_C) (d : Int), j < N → 0 ≤ d → d + (j : Int) ≤ 100 → y_A C1 C2 (List.replicate j 20 ++ S) (d + (j : Int)) 1 → ∃ C2', f_12_nots_L0 N C2 = some C2' ∧ y_A C1 C2' S d 1 ∧ y_F C2 C2'
  | _, 0, _, _, h, _, _, _ => absurd h (Nat.not_lt_zero _)
  | 0, N + 1, C2, d, _, _, _, h => by
    have h : y_A C1 C2 S d 1 := by
      have e : d + ((0 : Nat) : Int) = d := by omega
      rw [e] at h
      exact h
    exact ⟨C2, y_nots0 h hS, h, y_F.rf⟩
  | j + 1, N + 1, C2, d, hN, h0, h1, h => by
    obtain ⟨T, hT⟩ : ∃ T, T = List.replicate j 20 ++ S := ⟨_, rfl⟩
    have h : y_A C1 C2 (20 :: T) (d + (j : Int) + 1) 1 := by
      have e : d + ((j + 1 : Nat) : Int) = d + (j : Int) + 1 := by omega
      rw [e, List.replicate_succ, List.cons_append, ← hT] at h
      exact h
    obtain ⟨X', g1, g2, g3⟩ := y_popc (X := ev_u (ev_u C2 12 47 (T.length : Int)) 12 48 (d + (j : Int))) (d' := d + (j : Int)) (a := 20) (b := 0) (c := 0) h (by decide) ((y_F.rf.u12 (by decide)).u12 (by decide)) (by rw [ev_ut (by decide), ev_ut (by decide)]) (by rw [ev_un (by decide), ev_un (by decide)]) (by rw [ev_un (by decide), ev_un (by decide)]) (by rw [ev_un (by decide), ev_us]) ev_us (by rw [ev_un (by decide), ev_un (by decide)])
    obtain ⟨C2', q1, q2, q3⟩ := y_nots hS j N X' d (by omega) h0 (by omega) (by rw [← hT]; exact g2)
    obtain ⟨hA, b0, b1, b2, b3, b4, b5, b6, b7, b8⟩ := h
    have hl : (((20 :: T).length : Nat) : Int) = (T.length : Int) + 1 := by rw [List.length_cons]; omega
    rw [hl] at b3 b7
    have e : ev_w (C2 12 47 - (1 : Int)) = (T.length : Int) := by rw [ev_w_id (by omega) (by omega)]; omega
    have e2 : ev_w (C2 12 48 - (1 : Int)) = d + (j : Int) := by rw [ev_w_id (by omega) (by omega)]; omega
    have k0 : ¬ C2 12 47 ≤ 0 := by omega
    have k1 : 0 ≤ (T.length : Int) ∧ (T.length : Int) < 45 := by omega
    refine ⟨C2', ?_, q2, g3.tr q3⟩
    rw [f_12_nots_L0, if_neg k0, e, e2, if_pos k1, Int.toNat_natCast, if_neg (fun q => q b4.1), g1, ev_bvS]
    exact q1
theorem y_joins0 {C1 C2 : ev_C} {S : List Int} {d y : Int} {N : Nat} (h : y_A C1 C2 S d 1) (hS : ∀ x S', S = x :: S' → x ≠ 21 ∧ (x ≠ 22 ∨ y ≠ 22)) : f_12_joins_L0 (N + 1) C2 y = some C2 := by
  obtain ⟨hA, b0, b1, b2, b3, b4, b5, b6, b7, b8⟩ := h
  rw [f_12_joins_L0]
  match S, hS, b3, b4, b7 with
  | [], _, b3, _, _ =>
    have b3 : C2 12 47 = 0 := b3
    rw [if_pos (by omega)]
  | x :: S', hS, b3, b4, b7 =>
    have hl : (((x :: S').length : Nat) : Int) = (S'.length : Int) + 1 := by rw [List.length_cons]; omega
    rw [hl] at b3 b7
    have e : ev_w (C2 12 47 - (1 : Int)) = (S'.length : Int) := by rw [ev_w_id (by omega) (by omega)]; omega
    have k0 : ¬ C2 12 47 ≤ 0 := by omega
    have k1 : 0 ≤ (S'.length : Int) ∧ (S'.length : Int) < 45 := by omega
    obtain ⟨n1, n2⟩ := hS x S' rfl
    rw [if_neg k0, e, if_pos k1, Int.toNat_natCast, b4.1, if_neg n1, if_pos k1]
    by_cases hx : x = 22
    · rw [if_neg (fun q => q hx), if_pos (n2.resolve_left (fun q => q hx))]
    · rw [if_pos hx]
theorem y_joins {C1 : ev_C} {S : List Int} {y : Int} (hS : ∀ x S', S = x :: S' → x ≠ 21 ∧ (x ≠ 22 ∨ y ≠ 22)) : ∀ (a : List Int) (N : Nat) (C2 : ev_C) (d : Int), a.length < N → (∀ x ∈ a, x = 21 ∨ (x = 22 ∧ y = 22)) → y_A C1 C2 (a ++ S) d 1 → ∃ C2', f_12_joins_L0 N C2 y = some C2' ∧ y_A C1 C2' S d 1 ∧ y_F C2 C2'
  | _, 0, _, _, h, _, _ => absurd h (Nat.not_lt_zero _)
  | [], N + 1, C2, d, _, _, h => ⟨C2, y_joins0 h hS, h, y_F.rf⟩
  | x :: a, N + 1, C2, d, hN, ha, h => by
    obtain ⟨T, hT⟩ : ∃ T, T = a ++ S := ⟨_, rfl⟩
    have h : y_A C1 C2 (x :: T) d 1 := by
      rw [List.cons_append, ← hT] at h
      exact h
    have b5 : C2 12 48 = d := h.2.2.2.2.2.2.1
    obtain ⟨X', g1, g2, g3⟩ := y_popc (X := ev_u C2 12 47 (T.length : Int)) (d' := d) (a := x) (b := 0) (c := 0) h (by decide) (y_F.rf.u12 (by decide)) (ev_ut (by decide)) (ev_un (by decide)) (ev_un (by decide)) ev_us ((ev_un (by decide)).trans b5) (ev_un (by decide))
    obtain ⟨C2', q1, q2, q3⟩ := y_joins hS a N X' d (by rw [List.length_cons] at hN; omega) (fun z hz => ha z (List.mem_cons.mpr (Or.inr hz))) (by rw [← hT]; exact g2)
    obtain ⟨hA, b0, b1, b2, b3, b4, b5, b6, b7, b8⟩ := h
    have hl : (((x :: T).length : Nat) : Int) = (T.length : Int) + 1 := by rw [List.length_cons]; omega
    rw [hl] at b3 b7
    have e : ev_w (C2 12 47 - (1 : Int)) = (T.length : Int) := by rw [ev_w_id (by omega) (by omega)]; omega
    have k0 : ¬ C2 12 47 ≤ 0 := by omega
    have k1 : 0 ≤ (T.length : Int) ∧ (T.length : Int) < 45 := by omega
    have hJ : f_12_joins_J45 (f_12_joins_L0 N) C2 y = f_12_joins_L0 N X' y := by
      unfold f_12_joins_J45
      rw [e, if_pos k1, Int.toNat_natCast, b4.1, g1, ev_bvS]
    refine ⟨C2', ?_, q2, g3.tr q3⟩
    rw [f_12_joins_L0, if_neg k0, e, if_pos k1, Int.toNat_natCast, b4.1]
    rcases ha x (List.mem_cons.mpr (Or.inl rfl)) with h1 | ⟨h1, h2⟩
    · rw [if_pos h1, hJ]
      exact q1
    · rw [if_neg (by omega), if_pos k1, if_neg (fun q => q h1), if_neg (fun q => q h2), hJ]
      exact q1
/-- behind an operand: what is done ahead -/
theorem y_red {C1 C2 : ev_C} {S a : List Int} {j : Nat} {q v : Int} (h : y_A C1 C2 (List.replicate j 20 ++ (a ++ S)) (q + (j : Int)) 1) (h0 : 0 ≤ q) (h1 : q + (j : Int) ≤ 100) (ha : ∀ x ∈ a, x = 21 ∨ (x = 22 ∧ v = 22)) (hS : ∀ x S', S = x :: S' → x ≠ 20 ∧ x ≠ 21 ∧ (x ≠ 22 ∨ v ≠ 22)) : ∃ D E, f_12_nots C2 = some D ∧ f_12_joins D v = some E ∧ z_A C1 D ∧ y_A C1 E S q 1 := by
  have hT : ∀ x S', a ++ S = x :: S' → x ≠ 20 := by
    intro x S' e
    match a, ha, e with
    | [], _, e => exact (hS x S' e).1
    | z :: a', ha, e =>
      have e1 : z = x := (List.cons.inj e).1
      have := ha z (List.mem_cons.mpr (Or.inl rfl))
      omega
  obtain ⟨D, n1, n2, n3⟩ := y_nots hT j 1000 C2 q (by omega) h0 h1 h
  have hlen : a.length < 1000 := by
    obtain ⟨-, -, c1, -, -, -, -, -, c7, -⟩ := id n2
    rw [List.length_append] at c7
    omega
  obtain ⟨E, j1, j2, j3⟩ := y_joins (C1 := C1) (y := v) (fun x S' e => (hS x S' e).2) a 1000 D q hlen ha n2
  exact ⟨D, E, n1, j1, n2.1, j2⟩
theorem y_w1 {C1 C2 : ev_C} (h : z_A C1 C2) (hw : z_wi C1 ≠ -1) : C2 12 11 = 1 := by
  have h1 : C1 8 4 = 1 := by
    by_cases e : C1 8 4 = 1
    · exact e
    · exact absurd (if_neg e) hw
  obtain ⟨-, hK, -⟩ := h
  rcases hK with ⟨k1, k2⟩ | ⟨k1, k2, -⟩ | ⟨k1, k2, -⟩ | ⟨k1, k2, -⟩ | ⟨k2, k1⟩
  · omega
  · exact k2
  · omega
  · omega
  · rcases k1 with k1 | ⟨k1, -⟩ <;> omega
theorem y_e0 {C1 C2 : ev_C} (h : z_A C1 C2) : C1 8 4 = 0 ↔ C2 12 11 = 0 := by
  obtain ⟨-, hK, -⟩ := h
  rcases hK with ⟨k1, k2⟩ | ⟨k1, k2, -⟩ | ⟨k1, k2, -⟩ | ⟨k1, k2, -⟩ | ⟨k2, k1⟩
  · omega
  · omega
  · omega
  · omega
  · rcases k1 with k1 | ⟨k1, -⟩ <;> omega
/-- and, or -/
theorem y_and {C1 C2 : ev_C} {S a : List Int} {j : Nat} {q v : Int} (h : y_A C1 C2 (List.replicate j 20 ++ (a ++ S)) (q + (j : Int)) 1) (h0 : 0 ≤ q) (h1 : q + (j : Int) ≤ 100) (hv : (v = 21 ∧ z_wi C1 = 17) ∨ (v = 22 ∧ z_wi C1 = 16)) (ha : ∀ x ∈ a, x = 21 ∨ (x = 22 ∧ v = 22)) (hS : ∀ x S', S = x :: S' → x ≠ 20 ∧ x ≠ 21 ∧ (x ≠ 22 ∨ v ≠ 22)) : ∃ C1' C2', f_8_step C1 = some C1' ∧ y_go C2 C2' 1 ∧ y_A C1' C2' (v :: S) q 0 ∧ C1' 14 = C1 14 := by
  obtain ⟨D, E, n1, j1, hD, hE⟩ := y_red h h0 h1 ha hS
  have hs : C2 12 11 ≠ 0 := by
    have := y_w1 h.1 (by omega)
    omega
  have b6 : C2 12 49 = 1 := h.2.2.2.2.2.2.2.1
  obtain ⟨hA, b0, b1, b2, b3, b4, b5, b6', b7, b8⟩ := id hE
  have hX : y_A C1 (ev_u (ev_u (ev_u E 43 S.length v) 12 47 ((S.length : Int) + 1)) 12 49 0) (v :: S) q 0 := by
    have f : y_F E (ev_u (ev_u (ev_u E 43 S.length v) 12 47 ((S.length : Int) + 1)) 12 49 0) := (y_F.rf.u43.u12 (by decide)).u12 (by decide)
    have hl : (((v :: S).length : Nat) : Int) = (S.length : Int) + 1 := by rw [List.length_cons]; omega
    refine ⟨hA.yf f, ?_, b1, b2, ?_, ⟨?_, b4.al (fun k hk => ?_)⟩, ?_, ev_us, ?_, b8.yf f⟩
    · rw [ev_un (by decide), ev_un (by decide), ev_ut (by decide)]; exact b0
    · rw [ev_un (by decide), ev_us, hl]
    · rw [ev_ut (by decide), ev_ut (by decide), ev_us]
    · rw [ev_ut (by decide), ev_ut (by decide), ev_un (fun q => by have := q.2; omega)]
    · rw [ev_un (by decide), ev_un (by decide), ev_ut (by decide)]; exact b5
    · rw [ev_un (by decide), ev_un (by decide), ev_ut (by decide), hl]; omega
  obtain ⟨C1', C2', g1, g2, g3, g4, g5, -⟩ := z_stp hX.1.1
  have hJ : f_12_behind_J70 E v (E 12 47) = some (1, C2') := by
    unfold f_12_behind_J70
    rw [b3, if_pos (show 0 ≤ (S.length : Int) ∧ (S.length : Int) < 45 by omega), Int.toNat_natCast, ev_w_id (by omega) (by omega), g2, ev_bvS]
  have wD := (z_word hD).2
  have wE := (z_word hA).2
  have hb : f_12_behind C2 = some (1, C2') := by
    unfold f_12_behind
    rw [n1, ev_bvS, wD 17 6385252 (by decide) rfl, ev_bdS]
    rcases hv with ⟨rfl, hw⟩ | ⟨rfl, hw⟩
    · have e1 : (if z_wi C1 = ((17 : Nat) : Int) then (1 : Int) else 0) = 1 := if_pos (by omega)
      rw [e1, if_pos (show (1 : Int) ≠ 0 by decide)]
      unfold f_12_behind_J24
      rw [wD 17 6385252 (by decide) rfl, ev_bdS, e1, if_neg (show ¬ (1 : Int) = 0 by decide)]
      unfold f_12_behind_J42
      rw [j1, ev_bvS, wE 17 6385252 (by decide) rfl, ev_bdS, e1, if_neg (show ¬ (1 : Int) = 0 by decide)]
      exact hJ
    · have e1 : (if z_wi C1 = ((17 : Nat) : Int) then (1 : Int) else 0) = 0 := if_neg (by omega)
      have e2 : (if z_wi C1 = ((16 : Nat) : Int) then (1 : Int) else 0) = 1 := if_pos (by omega)
      rw [e1, if_neg (show ¬ (0 : Int) ≠ 0 by decide), wD 16 28530 (by decide) rfl, ev_bdS, e2, if_neg (show ¬ (1 : Int) = 0 by decide)]
      unfold f_12_behind_J24
      rw [wD 17 6385252 (by decide) rfl, ev_bdS, e1, if_pos (rfl : (0 : Int) = 0)]
      unfold f_12_behind_J42
      rw [j1, ev_bvS, wE 17 6385252 (by decide) rfl, ev_bdS, e1, if_pos (rfl : (0 : Int) = 0)]
      exact hJ
  exact ⟨C1', C2', g1, y_it1 b6 hs hb, ⟨g3, hX.2.mv g4 g5⟩, g4.1 14 (by decide)⟩
/-- a bracket's end, or a fault there -/
theorem y_close {C1 C2 : ev_C} {S a : List Int} {j : Nat} {q : Int} (h : y_A C1 C2 (List.replicate j 20 ++ (a ++ 23 :: S)) (q + 1 + (j : Int)) 1) (h0 : 0 ≤ q) (h1 : q + 1 + (j : Int) ≤ 100) (hw : z_wi C1 ≠ 17 ∧ z_wi C1 ≠ 16) (ha : ∀ x ∈ a, x = 21 ∨ x = 22) : ∃ C1', f_8_takeSign C1 41 = some C1' ∧ C1' 14 = C1 14 ∧ ((∃ C2', y_A C1' C2' S q 1 ∧ y_go C2 C2' 1) ∨ (C1' 8 9 ≠ 0 ∧ y_bad C2 C1' 1)) := by
  obtain ⟨D, E, n1, j1, hD, hE⟩ := y_red (v := 22) h (by omega) h1 (fun x hx => by have := ha x hx; omega) (fun x S' e => by have e1 : (23 : Int) = x := (List.cons.inj e).1; omega)
  have b6 : C2 12 49 = 1 := h.2.2.2.2.2.2.2.1
  obtain ⟨hA, b0, b1, b2, b3, b4, b5, b6', b7, b8⟩ := id hE
  have hl : (((23 :: S).length : Nat) : Int) = (S.length : Int) + 1 := by rw [List.length_cons]; omega
  rw [hl] at b3 b7
  obtain ⟨v, v0, v1, v2, v3⟩ := z_sign (c := 41) hA (by decide)
  have wD := (z_word hD).2
  have hb : f_12_behind C2 = (if v = 0 then (ev_bd (f_12_bad E 1) fun r16 C16 => if 0 ≤ r16 ∧ r16 ≤ 1 then some (r16, C16) else none) else if E 12 47 ≠ 0 then (ev_bv (f_12_go (ev_u (ev_u E 12 47 (ev_w (E 12 47 - (1 : Int)))) 12 48 (ev_w (E 12 48 - (1 : Int))))) fun C19 => some (1, C19)) else (ev_bd (f_12_bad E 1) fun r20 C20 => if 0 ≤ r20 ∧ r20 ≤ 1 then some (r20, C20) else none)) := by
    have e1 : (if z_wi C1 = ((17 : Nat) : Int) then (1 : Int) else 0) = 0 := if_neg (by omega)
    have e2 : (if z_wi C1 = ((16 : Nat) : Int) then (1 : Int) else 0) = 0 := if_neg (by omega)
    unfold f_12_behind
    rw [n1, ev_bvS, wD 17 6385252 (by decide) rfl, ev_bdS, e1, if_neg (show ¬ (0 : Int) ≠ 0 by decide), wD 16 28530 (by decide) rfl, ev_bdS, e2, if_pos (rfl : (0 : Int) = 0), j1, ev_bvS, v2, ev_bdS]
  have hts : f_8_takeSign C1 41 = (if v = 0 then (ev_bv (f_8_fail C1 1) fun C3 => some C3) else (ev_bv (f_8_step C1) fun C4 => some C4)) := by
    unfold f_8_takeSign
    rw [v1, ev_bdS]
  by_cases hv : v = 0
  · rw [if_pos hv] at hb hts
    obtain ⟨C1', E', f1, f2, f3⟩ := z_fail (k := 1) hA (by decide)
    rw [f1, ev_bvS] at hts
    rw [f2, ev_bdS, if_pos (show 0 ≤ (0 : Int) ∧ (0 : Int) ≤ 1 by decide)] at hb
    refine ⟨C1', hts, z_failF f1 14 (by decide), Or.inr ⟨f3.2.1, ?_⟩⟩
    by_cases hs : C2 12 11 = 0
    · intro n
      have k0 : ¬ C2 12 49 = 0 := by omega
      have k1 : ¬ E 12 47 ≤ 0 := by omega
      refine ⟨E', ?_, f3.1⟩
      rw [f_12_sentence_L48, if_neg (show ¬ (1 : Int) = 0 by decide), if_neg k0, if_neg (fun q => q hs), n1, ev_bvS, j1, ev_bvS, if_neg k1, f2, ev_bdS, f3.2.2.1]
    · exact y_it1b b6 hs hb f3
  · rw [if_neg hv] at hb hts
    have hv1 : v = 1 := v0.resolve_left hv
    have hs : C2 12 11 ≠ 0 := by
      have k := v3 hv1
      have k2 := y_e0 h.1
      omega
    have hX : y_A C1 (ev_u (ev_u E 12 47 (S.length : Int)) 12 48 q) S q 1 := by
      have f : y_F E (ev_u (ev_u E 12 47 (S.length : Int)) 12 48 q) := (y_F.rf.u12 (by decide)).u12 (by decide)
      refine ⟨hA.yf f, ?_, b1, b2, ?_, b4.2.al (fun k hk => ?_), ev_us, ?_, ?_, b8.yf f⟩
      · rw [ev_un (by decide), ev_un (by decide)]; exact b0
      · rw [ev_un (by decide), ev_us]
      · rw [ev_ut (by decide), ev_ut (by decide)]
      · rw [ev_un (by decide), ev_un (by decide)]; exact b6'
      · rw [ev_un (by decide), ev_un (by decide)]; omega
    obtain ⟨C1', C2', g1, g2, g3, g4, g5, -⟩ := z_stp hX.1.1
    rw [g1, ev_bvS] at hts
    have e1 : ev_w (E 12 47 - (1 : Int)) = (S.length : Int) := by rw [ev_w_id (by omega) (by omega)]; omega
    have e2 : ev_w (E 12 48 - (1 : Int)) = q := by rw [ev_w_id (by omega) (by omega)]; omega
    have k1 : E 12 47 ≠ 0 := by omega
    rw [if_pos k1, e1, e2, g2, ev_bvS] at hb
    exact ⟨C1', hts, g4.1 14 (by decide), Or.inl ⟨C2', ⟨g3, hX.2.mv g4 g5⟩, y_it1 b6 hs hb⟩⟩

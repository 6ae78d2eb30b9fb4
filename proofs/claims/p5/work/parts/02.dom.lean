/-! THE CHECKER, 1: its values. An int in a range, with bounds on its distance from named starting values; a cell of a sort; a long. -/
abbrev ck_AV : Type := (Int × Int × List (Nat × Int × Int)) ⊕ (Nat ⊕ Unit)
/-- a sort of cells: an object (place in ck_cl, its fields), or an array (kind, length, ranges by place, sort of its cells) -/
abbrev ck_TD : Type := (Nat × List ck_AV) ⊕ (Nat × Nat × List (Nat × Int × Int) × Nat)
/-- locals, operand stack (with where a value was read), followed fields -/
abbrev ck_AS : Type := List (Nat × ck_AV) × List (ck_AV × Nat) × List ck_AV
def ck_d (X : Nat → Int) (n : Int) (ds : List (Nat × Int × Int)) : Prop := ∀ d ∈ ds, d.2.1 ≤ n - X d.1 ∧ n - X d.1 ≤ d.2.2
def ck_i (X : Nat → Int) (r : Int × Int × List (Nat × Int × Int)) (n : Int) : Prop := r.1 ≤ n ∧ n ≤ r.2.1 ∧ ck_d X n r.2.2
def ck_v (ty : Nat → Option Nat) (X : Nat → Int) (av : ck_AV) (v : Value) : Prop := match av with
  | .inl r => ∃ x : Int32, v = .int x ∧ ck_i X r x.toInt
  | .inr (.inl t) => ∃ a : Nat, v = .ref a ∧ ty a = some t
  | .inr (.inr _) => ∃ x : Int64, v = .long x
def ck_cat (av : ck_AV) : Nat := match av with
  | .inr (.inr _) => 2
  | _ => 1
theorem ck_v_cat {ty : Nat → Option Nat} {X : Nat → Int} {av : ck_AV} {v : Value} (h : ck_v ty X av v) : v.category = ck_cat av := by
  match av, h with
  | .inl r, h => obtain ⟨x, rfl, -⟩ := h; rfl
  | .inr (.inl t), h => obtain ⟨a, rfl, -⟩ := h; rfl
  | .inr (.inr u), h => obtain ⟨x, rfl⟩ := h; rfl
def ck_dle (d1 : List (Nat × Int × Int)) (d : Nat × Int × Int) : Bool := d1.any (fun q => q.1 == d.1 && decide (d.2.1 ≤ q.2.1) && decide (q.2.2 ≤ d.2.2))
def ck_le (a b : ck_AV) : Bool := match a, b with
  | .inl r, .inl q => decide (q.1 ≤ r.1) && decide (r.2.1 ≤ q.2.1) && q.2.2.all (ck_dle r.2.2)
  | .inr (.inl t), .inr (.inl u) => t == u
  | .inr (.inr _), .inr (.inr _) => true
  | _, _ => false
theorem ck_dle_ok {X : Nat → Int} {n : Int} {d1 : List (Nat × Int × Int)} {d : Nat × Int × Int} (h : ck_dle d1 d = true) (h1 : ck_d X n d1) : d.2.1 ≤ n - X d.1 ∧ n - X d.1 ≤ d.2.2 := by
  unfold ck_dle at h
  obtain ⟨q, hq, h2⟩ := List.any_eq_true.mp h
  simp only [Bool.and_eq_true, decide_eq_true_eq, beq_iff_eq] at h2
  have h3 := h1 q hq
  rw [h2.1.1] at h3
  omega
theorem ck_le_ok {ty : Nat → Option Nat} {X : Nat → Int} {a b : ck_AV} {v : Value} (h : ck_le a b = true) (hv : ck_v ty X a v) : ck_v ty X b v := by
  match a, b, h, hv with
  | .inl r, .inl q, h, hv =>
    obtain ⟨x, rfl, h1, h2, h3⟩ := hv
    simp only [ck_le, Bool.and_eq_true, decide_eq_true_eq, List.all_eq_true] at h
    exact ⟨x, rfl, by omega, by omega, fun d hd => ck_dle_ok (h.2 d hd) h3⟩
  | .inr (.inl t), .inr (.inl u), h, hv =>
    obtain ⟨y, rfl, h1⟩ := hv
    simp only [ck_le, beq_iff_eq] at h
    exact ⟨y, rfl, by rw [← h]; exact h1⟩
  | .inr (.inr _), .inr (.inr _), _, hv => exact hv
theorem ck_lo (x : Int32) : -2147483648 ≤ x.toInt := by
  have := x.le_toInt
  simpa using this
theorem ck_hi (x : Int32) : x.toInt ≤ 2147483647 := by
  have := x.toInt_lt
  omega
def ck_full : Int × Int × List (Nat × Int × Int) := (-2147483648, 2147483647, [])
theorem ck_full_ok {X : Nat → Int} (x : Int32) : ck_i X ck_full x.toInt := ⟨ck_lo x, ck_hi x, fun d h => nomatch h⟩
def ck_in32 (lo hi : Int) : Bool := decide (-2147483648 ≤ lo) && decide (hi ≤ 2147483647)
def ck_sh (l h : Int) (ds : List (Nat × Int × Int)) : List (Nat × Int × Int) := ds.map (fun d => (d.1, d.2.1 + l, d.2.2 + h))
theorem ck_sh_ok {X : Nat → Int} {n k l h : Int} {ds : List (Nat × Int × Int)} (hd : ck_d X n ds) (h1 : l ≤ k) (h2 : k ≤ h) : ck_d X (n + k) (ck_sh l h ds) := by
  intro d hm
  obtain ⟨q, hq, rfl⟩ := List.mem_map.mp hm
  have := hd q hq
  dsimp only at this ⊢
  omega
theorem ck_d_app {X : Nat → Int} {n : Int} {a b : List (Nat × Int × Int)} (h1 : ck_d X n a) (h2 : ck_d X n b) : ck_d X n (a ++ b) := fun d h => (List.mem_append.mp h).elim (h1 d) (h2 d)
theorem ck_bm {n : Int} (h1 : -2147483648 ≤ n) (h2 : n ≤ 2147483647) : n.bmod (2 ^ 32) = n := by
  unfold Int.bmod
  simp only [Nat.reducePow]
  omega
theorem ck_addT {x y : Int32} (h1 : -2147483648 ≤ x.toInt + y.toInt) (h2 : x.toInt + y.toInt ≤ 2147483647) : (x + y).toInt = x.toInt + y.toInt := by
  rw [Int32.toInt_add]; exact ck_bm h1 h2
theorem ck_subT {x y : Int32} (h1 : -2147483648 ≤ x.toInt - y.toInt) (h2 : x.toInt - y.toInt ≤ 2147483647) : (x - y).toInt = x.toInt - y.toInt := by
  rw [Int32.toInt_sub]; exact ck_bm h1 h2
theorem ck_mulT {x y : Int32} (h1 : -2147483648 ≤ x.toInt * y.toInt) (h2 : x.toInt * y.toInt ≤ 2147483647) : (x * y).toInt = x.toInt * y.toInt := by
  rw [Int32.toInt_mul]; exact ck_bm h1 h2
abbrev ck_I : Type := Int × Int × List (Nat × Int × Int)
def ck_add (a b : ck_I) : ck_I := if ck_in32 (a.1 + b.1) (a.2.1 + b.2.1) then (a.1 + b.1, a.2.1 + b.2.1, ck_sh b.1 b.2.1 a.2.2 ++ ck_sh a.1 a.2.1 b.2.2) else ck_full
theorem ck_add_ok {X : Nat → Int} {a b : ck_I} {x y : Int32} (ha : ck_i X a x.toInt) (hb : ck_i X b y.toInt) : ck_i X (ck_add a b) (x + y).toInt := by
  unfold ck_add
  split
  · next h =>
    simp only [ck_in32, Bool.and_eq_true, decide_eq_true_eq] at h
    obtain ⟨a1, a2, a3⟩ := ha
    obtain ⟨b1, b2, b3⟩ := hb
    rw [ck_addT (by omega) (by omega)]
    refine ⟨by dsimp only; omega, by dsimp only; omega, ck_d_app (ck_sh_ok a3 b1 b2) ?_⟩
    rw [Int.add_comm]
    exact ck_sh_ok b3 a1 a2
  · exact ck_full_ok _
def ck_sub (a b : ck_I) : ck_I := if ck_in32 (a.1 - b.2.1) (a.2.1 - b.1) then (a.1 - b.2.1, a.2.1 - b.1, ck_sh (- b.2.1) (- b.1) a.2.2) else ck_full
theorem ck_sub_ok {X : Nat → Int} {a b : ck_I} {x y : Int32} (ha : ck_i X a x.toInt) (hb : ck_i X b y.toInt) : ck_i X (ck_sub a b) (x - y).toInt := by
  unfold ck_sub
  split
  · next h =>
    simp only [ck_in32, Bool.and_eq_true, decide_eq_true_eq] at h
    obtain ⟨a1, a2, a3⟩ := ha
    obtain ⟨b1, b2, b3⟩ := hb
    rw [ck_subT (by omega) (by omega)]
    refine ⟨by dsimp only; omega, by dsimp only; omega, ?_⟩
    rw [Int.sub_eq_add_neg]
    exact ck_sh_ok a3 (by omega) (by omega)
  · exact ck_full_ok _
def ck_mul (a b : ck_I) : ck_I := if ck_in32 (min (min (a.1 * b.1) (a.1 * b.2.1)) (min (a.2.1 * b.1) (a.2.1 * b.2.1))) (max (max (a.1 * b.1) (a.1 * b.2.1)) (max (a.2.1 * b.1) (a.2.1 * b.2.1))) then (min (min (a.1 * b.1) (a.1 * b.2.1)) (min (a.2.1 * b.1) (a.2.1 * b.2.1)), max (max (a.1 * b.1) (a.1 * b.2.1)) (max (a.2.1 * b.1) (a.2.1 * b.2.1)), []) else ck_full
theorem ck_mb {c a b x : Int} (h1 : a ≤ x) (h2 : x ≤ b) : min (c * a) (c * b) ≤ c * x ∧ c * x ≤ max (c * a) (c * b) := by
  rcases Int.le_total 0 c with hc | hc
  · have g1 := Int.mul_le_mul_of_nonneg_left h1 hc
    have g2 := Int.mul_le_mul_of_nonneg_left h2 hc
    omega
  · have g1 := Int.mul_le_mul_of_nonpos_left hc h1
    have g2 := Int.mul_le_mul_of_nonpos_left hc h2
    omega
theorem ck_mul_ok {X : Nat → Int} {a b : ck_I} {x y : Int32} (ha : ck_i X a x.toInt) (hb : ck_i X b y.toInt) : ck_i X (ck_mul a b) (x * y).toInt := by
  unfold ck_mul
  split
  · next h =>
    simp only [ck_in32, Bool.and_eq_true, decide_eq_true_eq] at h
    obtain ⟨a1, a2, a3⟩ := ha
    obtain ⟨b1, b2, b3⟩ := hb
    have k0 := ck_mb (c := y.toInt) a1 a2
    have k1 := ck_mb (c := a.1) b1 b2
    have k2 := ck_mb (c := a.2.1) b1 b2
    rw [Int.mul_comm y.toInt a.1, Int.mul_comm y.toInt a.2.1, Int.mul_comm y.toInt x.toInt] at k0
    rw [ck_mulT (by omega) (by omega)]
    exact ⟨by dsimp only; omega, by dsimp only; omega, fun d h => nomatch h⟩
  · exact ck_full_ok _
theorem ck_nn {x : Int32} (h : 0 ≤ x.toInt) : ∃ j : Nat, j < 2 ^ 31 ∧ x = nI j := nI_of (fun q => by
  have := Int32.lt_iff_toInt_lt.mp q
  have e : (0 : Int32).toInt = 0 := rfl
  omega)
theorem ck_andR (x y : Int32) (h : 0 ≤ y.toInt) : 0 ≤ (x &&& y).toInt ∧ (x &&& y).toInt ≤ y.toInt := by
  obtain ⟨j, hj, rfl⟩ := ck_nn h
  have e : x &&& nI j = nI (x.toBitVec.toNat &&& j) := by
    apply Int32.toBitVec_inj.mp
    apply BitVec.eq_of_toNat_eq
    have hle : x.toBitVec.toNat &&& j ≤ j := Nat.and_le_right
    rw [pk_tn (by omega), Int32.toBitVec_and, BitVec.toNat_and, pk_tn (by omega)]
  have hle : x.toBitVec.toNat &&& j ≤ j := Nat.and_le_right
  rw [e, nI_toInt (by omega), nI_toInt hj]
  omega
theorem ck_andC (x y : Int32) : x &&& y = y &&& x := by
  apply Int32.toBitVec_inj.mp
  rw [Int32.toBitVec_and, Int32.toBitVec_and, BitVec.and_comm]
def ck_and (a b : ck_I) : ck_I := if decide (0 ≤ b.1) then (0, b.2.1, []) else if decide (0 ≤ a.1) then (0, a.2.1, []) else ck_full
theorem ck_and_ok {X : Nat → Int} {a b : ck_I} {x y : Int32} (ha : ck_i X a x.toInt) (hb : ck_i X b y.toInt) : ck_i X (ck_and a b) (x &&& y).toInt := by
  unfold ck_and
  split
  · next h =>
    have h := of_decide_eq_true h
    have := ck_andR x y (by have := hb.1; omega)
    have := hb.2.1
    exact ⟨by dsimp only; omega, by dsimp only; omega, fun d h => nomatch h⟩
  · split
    · next h =>
      have h := of_decide_eq_true h
      have := ck_andR y x (by have := ha.1; omega)
      have := ha.2.1
      rw [ck_andC]
      exact ⟨by dsimp only; omega, by dsimp only; omega, fun d h => nomatch h⟩
    · exact ck_full_ok _
def ck_rem (a b : ck_I) : ck_I := if decide (0 ≤ a.1) && decide (1 ≤ b.1) then (0, b.2.1 - 1, []) else ck_full
theorem ck_rem_ok {X : Nat → Int} {a b : ck_I} {x y : Int32} (ha : ck_i X a x.toInt) (hb : ck_i X b y.toInt) : ck_i X (ck_rem a b) (x - x / y * y).toInt := by
  unfold ck_rem
  split
  · next h =>
    simp only [Bool.and_eq_true, decide_eq_true_eq] at h
    have a1 := ha.1
    have b1 := hb.1
    have b2 := hb.2.1
    obtain ⟨i, hi, rfl⟩ := ck_nn (x := x) (by omega)
    obtain ⟨j, hj, rfl⟩ := ck_nn (x := y) (by omega)
    rw [nI_toInt hj] at b1 b2
    have h0 : 0 < j := by omega
    have hm := Nat.mod_lt i h0
    rw [pk_rem hi h0 hj, nI_toInt (by omega)]
    exact ⟨by dsimp only; omega, by dsimp only; omega, fun d h => nomatch h⟩
  · exact ck_full_ok _
theorem ck_shl1 : ∀ k, k < 31 → ((1 : Int32) <<< (nI k &&& 31)).toInt = 2 ^ k := by decide +kernel
def ck_shl (a b : ck_I) : ck_I := if decide (a.1 = 1) && decide (a.2.1 = 1) && decide (0 ≤ b.1) && decide (b.2.1 ≤ 30) then (2 ^ b.1.toNat, 2 ^ b.2.1.toNat, []) else ck_full
theorem ck_pw {a b : Nat} (h : a ≤ b) : (2 : Int) ^ a ≤ 2 ^ b := by
  have : (2 : Nat) ^ a ≤ 2 ^ b := Nat.pow_le_pow_right (by omega) h
  exact_mod_cast this
theorem ck_shl_ok {X : Nat → Int} {a b : ck_I} {x y : Int32} (ha : ck_i X a x.toInt) (hb : ck_i X b y.toInt) : ck_i X (ck_shl a b) (x <<< (y &&& 31)).toInt := by
  unfold ck_shl
  split
  · next h =>
    simp only [Bool.and_eq_true, decide_eq_true_eq] at h
    have a1 := ha.1
    have a2 := ha.2.1
    have b1 := hb.1
    have b2 := hb.2.1
    have hx : x = 1 := Int32.toInt_inj.mp (by rw [show (1 : Int32).toInt = 1 from rfl]; omega)
    obtain ⟨j, hj, rfl⟩ := ck_nn (x := y) (by omega)
    rw [nI_toInt hj] at b1 b2
    rw [hx, ck_shl1 j (by omega)]
    exact ⟨ck_pw (by omega), ck_pw (by omega), fun d h => nomatch h⟩
  · exact ck_full_ok _
/-! comparisons: 0 eq, 1 ne, 2 lt, 3 ge, 4 gt, 5 le -/
def ck_rel (c : Nat) (x y : Int) : Prop := match c with
  | 0 => x = y
  | 1 => x ≠ y
  | 2 => x < y
  | 3 => y ≤ x
  | 4 => y < x
  | _ => x ≤ y
def ck_ne1 (a : Int × Int) (v : Int) : Int × Int := (if a.1 = v then a.1 + 1 else a.1, if a.2 = v then a.2 - 1 else a.2)
def ck_cmp (c : Nat) (a b : Int × Int) : (Int × Int) × (Int × Int) := match c with
  | 0 => ((max a.1 b.1, min a.2 b.2), (max a.1 b.1, min a.2 b.2))
  | 1 => (if b.1 = b.2 then ck_ne1 a b.1 else a, if a.1 = a.2 then ck_ne1 b a.1 else b)
  | 2 => ((a.1, min a.2 (b.2 - 1)), (max b.1 (a.1 + 1), b.2))
  | 3 => ((max a.1 b.1, a.2), (b.1, min b.2 a.2))
  | 4 => ((max a.1 (b.1 + 1), a.2), (b.1, min b.2 (a.2 - 1)))
  | _ => ((a.1, min a.2 b.2), (max b.1 a.1, b.2))
theorem ck_cmp_ok (c : Nat) {a b : Int × Int} {x y : Int} (h : ck_rel c x y) (a1 : a.1 ≤ x) (a2 : x ≤ a.2) (b1 : b.1 ≤ y) (b2 : y ≤ b.2) :
    ((ck_cmp c a b).1.1 ≤ x ∧ x ≤ (ck_cmp c a b).1.2) ∧ ((ck_cmp c a b).2.1 ≤ y ∧ y ≤ (ck_cmp c a b).2.2) := by
  match c, h with
  | 0, h => simp only [ck_rel] at h; simp only [ck_cmp]; omega
  | 1, h =>
    simp only [ck_rel] at h
    simp only [ck_cmp, ck_ne1]
    by_cases e1 : b.1 = b.2 <;> by_cases e2 : a.1 = a.2 <;> simp only [e1, e2, if_true, if_false] <;> (repeat' split) <;> (try simp only) <;> omega
  | 2, h => simp only [ck_rel] at h; simp only [ck_cmp]; omega
  | 3, h => simp only [ck_rel] at h; simp only [ck_cmp]; omega
  | 4, h => simp only [ck_rel] at h; simp only [ck_cmp]; omega
  | n + 5, h => simp only [ck_rel] at h; simp only [ck_cmp]; omega
/-! ranges by place -/
def ck_seg : List (Nat × Int × Int) → Nat → Int × Int
  | [], _ => (-2147483648, 2147483647)
  | q :: r, j => if j < q.1 then q.2 else ck_seg r j
def ck_sj : List (Nat × Int × Int) → Nat → Nat → Int × Int
  | [], _, _ => (-2147483648, 2147483647)
  | q :: r, a, b => if b < q.1 then q.2 else if q.1 ≤ a then ck_sj r a b else (min q.2.1 (ck_sj r a b).1, max q.2.2 (ck_sj r a b).2)
def ck_sm : List (Nat × Int × Int) → Nat → Nat → Int × Int
  | [], _, _ => (-2147483648, 2147483647)
  | q :: r, a, b => if b < q.1 then q.2 else if q.1 ≤ a then ck_sm r a b else (max q.2.1 (ck_sm r a b).1, min q.2.2 (ck_sm r a b).2)
theorem ck_sj_ok {a b j : Nat} (h1 : a ≤ j) (h2 : j ≤ b) : ∀ sg : List (Nat × Int × Int), (ck_sj sg a b).1 ≤ (ck_seg sg j).1 ∧ (ck_seg sg j).2 ≤ (ck_sj sg a b).2
  | [] => ⟨Int.le_refl _, Int.le_refl _⟩
  | q :: r => by
    have ih := ck_sj_ok h1 h2 r
    simp only [ck_sj, ck_seg]
    split
    · rw [if_pos (by omega)]; exact ⟨Int.le_refl _, Int.le_refl _⟩
    · split
      · rw [if_neg (by omega)]; exact ih
      · split <;> dsimp only <;> omega
theorem ck_sm_ok {a b j : Nat} (h1 : a ≤ j) (h2 : j ≤ b) : ∀ sg : List (Nat × Int × Int), (ck_seg sg j).1 ≤ (ck_sm sg a b).1 ∧ (ck_sm sg a b).2 ≤ (ck_seg sg j).2
  | [] => ⟨Int.le_refl _, Int.le_refl _⟩
  | q :: r => by
    have ih := ck_sm_ok h1 h2 r
    simp only [ck_sm, ck_seg]
    by_cases e1 : b < q.1
    · rw [if_pos e1, if_pos (by omega)]; exact ⟨Int.le_refl _, Int.le_refl _⟩
    · rw [if_neg e1]
      by_cases e2 : q.1 ≤ a
      · rw [if_pos e2, if_neg (by omega)]; exact ih
      · rw [if_neg e2]
        by_cases e3 : j < q.1
        · rw [if_pos e3]; simp only; omega
        · rw [if_neg e3]; simp only; omega

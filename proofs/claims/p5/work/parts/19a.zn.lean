/-! THE TWO READERS ALIKE, 1: numbers and names. -/
theorem z_cmp {a b : Int} : ev_cmp a b = 0 ↔ a = b := by
  unfold ev_cmp
  by_cases h1 : b < a
  · rw [if_pos h1]; constructor
    · intro h; cases h
    · intro h; omega
  · rw [if_neg h1]
    by_cases h2 : a = b
    · rw [if_pos h2]; exact ⟨fun _ => h2, fun _ => rfl⟩
    · rw [if_neg h2]; constructor
      · intro h; cases h
      · intro h; exact absurd h h2
theorem z_w64 {n : Int} (h1 : -9223372036854775808 ≤ n) (h2 : n ≤ 9223372036854775807) : ev_w64 n = n := by
  unfold ev_w64 Int.bmod
  simp only [Nat.reducePow]
  omega
theorem z_255 {x : Int} (_h1 : -2147483648 ≤ x) (_h2 : x ≤ 2147483647) : ev_and x 255 = x % 256 := by
  unfold ev_and
  have e : Int32.ofInt x &&& Int32.ofInt 255 = nI ((Int32.ofInt x).toBitVec.toNat % 256) := by
    apply Int32.toBitVec_inj.mp
    apply BitVec.eq_of_toNat_eq
    have e255 : (Int32.ofInt 255).toBitVec.toNat = 2 ^ 8 - 1 := by decide
    rw [pk_tn (by omega), Int32.toBitVec_and, BitVec.toNat_and, e255, Nat.and_two_pow_sub_one_eq_mod]
  have e2 : (Int32.ofInt x).toBitVec.toNat = (x % 4294967296).toNat := by
    rw [Int32.toBitVec_ofInt, BitVec.toNat_ofInt]
    rfl
  rw [e, nI_toInt (by omega), e2]
  omega
theorem z_bit (x k : Int) : ev_and (ev_shr x k) 1 = 0 ∨ ev_and (ev_shr x k) 1 = 1 := by
  unfold ev_and
  have h := ck_andR (Int32.ofInt (ev_shr x k)) (Int32.ofInt 1) (by decide)
  have e : (Int32.ofInt 1).toInt = 1 := by decide
  rw [e] at h
  omega
/-! names: lists of small letters, the last one first -/
def z_n32 : List Int → Int
  | [] => 0
  | c :: L => z_n32 L * 32 + (c - 96)
def z_n256 : List Int → Int
  | [] => 0
  | c :: L => z_n256 L * 256 + c
def z_ls (L : List Int) : Prop := ∀ c ∈ L, 97 ≤ c ∧ c ≤ 122
def z_N (a b : Int) : Prop := ∃ L : List Int, z_ls L ∧ a = z_n32 L ∧ b = z_n256 L
theorem z_ls_cons {c : Int} {L : List Int} (h : z_ls (c :: L)) : (97 ≤ c ∧ c ≤ 122) ∧ z_ls L := ⟨h c List.mem_cons_self, fun d hd => h d (List.mem_cons_of_mem _ hd)⟩
theorem z_n32_0 : ∀ {L : List Int}, z_ls L → 0 ≤ z_n32 L
  | [], _ => Int.le_refl _
  | c :: L, h => by
    have h1 := z_n32_0 (z_ls_cons h).2
    have h2 := (z_ls_cons h).1
    unfold z_n32
    omega
theorem z_n256_0 : ∀ {L : List Int}, z_ls L → 0 ≤ z_n256 L
  | [], _ => Int.le_refl _
  | c :: L, h => by
    have h1 := z_n256_0 (z_ls_cons h).2
    have h2 := (z_ls_cons h).1
    unfold z_n256
    omega
theorem z_n32_lt : ∀ {L : List Int}, z_ls L → z_n32 L < 32 ^ L.length
  | [], _ => by decide
  | c :: L, h => by
    have h1 := z_n32_lt (z_ls_cons h).2
    have h2 := (z_ls_cons h).1
    unfold z_n32
    rw [List.length_cons, Int.pow_succ]
    omega
theorem z_n256_lt : ∀ {L : List Int}, z_ls L → z_n256 L < 256 ^ L.length
  | [], _ => by decide
  | c :: L, h => by
    have h1 := z_n256_lt (z_ls_cons h).2
    have h2 := (z_ls_cons h).1
    unfold z_n256
    rw [List.length_cons, Int.pow_succ]
    omega
theorem z_n32_inj : ∀ {L M : List Int}, z_ls L → z_ls M → z_n32 L = z_n32 M → L = M
  | [], [], _, _, _ => rfl
  | [], c :: M, _, hM, h => by
    have h1 := z_n32_0 (z_ls_cons hM).2
    have h2 := (z_ls_cons hM).1
    unfold z_n32 at h
    omega
  | c :: L, [], hL, _, h => by
    have h1 := z_n32_0 (z_ls_cons hL).2
    have h2 := (z_ls_cons hL).1
    simp only [z_n32] at h
    omega
  | c :: L, d :: M, hL, hM, h => by
    have h1 := (z_ls_cons hL).1
    have h2 := (z_ls_cons hM).1
    simp only [z_n32] at h
    have e1 : z_n32 L = z_n32 M := by omega
    have e2 : c = d := by omega
    rw [z_n32_inj (z_ls_cons hL).2 (z_ls_cons hM).2 e1, e2]
theorem z_n256_inj : ∀ {L M : List Int}, z_ls L → z_ls M → z_n256 L = z_n256 M → L = M
  | [], [], _, _, _ => rfl
  | [], c :: M, _, hM, h => by
    have h1 := z_n256_0 (z_ls_cons hM).2
    have h2 := (z_ls_cons hM).1
    unfold z_n256 at h
    omega
  | c :: L, [], hL, _, h => by
    have h1 := z_n256_0 (z_ls_cons hL).2
    have h2 := (z_ls_cons hL).1
    simp only [z_n256] at h
    omega
  | c :: L, d :: M, hL, hM, h => by
    have h1 := (z_ls_cons hL).1
    have h2 := (z_ls_cons hM).1
    simp only [z_n256] at h
    have e1 : z_n256 L = z_n256 M := by omega
    have e2 : c = d := by omega
    rw [z_n256_inj (z_ls_cons hL).2 (z_ls_cons hM).2 e1, e2]
theorem z_N_eq {a b a' b' : Int} (h : z_N a b) (h' : z_N a' b') : a = a' ↔ b = b' := by
  obtain ⟨L, h1, rfl, rfl⟩ := h
  obtain ⟨M, h2, rfl, rfl⟩ := h'
  constructor
  · intro h; rw [z_n32_inj h1 h2 h]
  · intro h; rw [z_n256_inj h1 h2 h]
/-! one letter more -/
theorem z_p7 {n : Nat} (h : n ≤ 7) : (32 : Int) ^ n ≤ 34359738368 ∧ (256 : Int) ^ n ≤ 72057594037927936 := by
  rcases (show n = 0 ∨ n = 1 ∨ n = 2 ∨ n = 3 ∨ n = 4 ∨ n = 5 ∨ n = 6 ∨ n = 7 by omega) with rfl | rfl | rfl | rfl | rfl | rfl | rfl | rfl <;> decide
theorem z_p6 {n : Nat} (h : n ≤ 6) : (256 : Int) ^ n ≤ 281474976710656 := by
  rcases (show n = 0 ∨ n = 1 ∨ n = 2 ∨ n = 3 ∨ n = 4 ∨ n = 5 ∨ n = 6 by omega) with rfl | rfl | rfl | rfl | rfl | rfl | rfl <;> decide
theorem z_let {L : List Int} {c : Int} (hL : z_ls L) (hl : L.length ≤ 7) (h1 : 97 ≤ c) (h2 : c ≤ 122) : ev_w64 ((ev_w64 (z_n32 L * 32)) + (ev_w ((ev_w (c - (97 : Int))) + (1 : Int)))) = z_n32 (c :: L) := by
  have a1 := z_n32_0 hL
  have a2 := z_n32_lt hL
  have a3 := (z_p7 hl).1
  rw [ev_w_id (n := c - 97) (by omega) (by omega), ev_w_id (by omega) (by omega), z_w64 (n := z_n32 L * 32) (by omega) (by omega), z_w64 (by omega) (by omega)]
  show _ = z_n32 L * 32 + (c - 96)
  omega
theorem z_i64 {n : Nat} (h : n < 2 ^ 63) : (Int64.ofInt (n : Int)).toInt = n := by
  rw [Int64.toInt_ofInt]
  exact z_w64 (by omega) (by omega)
theorem z_shl8 {n : Nat} (h : n < 2 ^ 48) : ev_lshl (n : Int) 8 = ((n * 256 : Nat) : Int) := by
  unfold ev_lshl
  have e0 : ((Int32.ofInt 8).toInt64 &&& 63) = 8 := by decide
  rw [e0]
  have e1 : (Int64.ofInt (n : Int) <<< (8 : Int64)).toBitVec = BitVec.ofNat 64 (n * 256) := by
    rw [Int64.toBitVec_shiftLeft]
    apply BitVec.eq_of_toNat_eq
    have e2 : (Int64.toBitVec 8).smod 64 = 8#64 := by decide
    rw [e2]
    have e3 : (Int64.ofInt (n : Int)).toBitVec = BitVec.ofNat 64 n := by
      show BitVec.ofInt 64 (n : Int) = _
      exact BitVec.ofInt_natCast 64 n
    rw [e3, BitVec.shiftLeft_eq', BitVec.toNat_shiftLeft, BitVec.toNat_ofNat, BitVec.toNat_ofNat, BitVec.toNat_ofNat, Nat.shiftLeft_eq, show 8 % 2 ^ 64 = 8 from rfl, Nat.mod_eq_of_lt (show n < 2 ^ 64 by omega)]
  show (Int64.ofInt (n : Int) <<< (8 : Int64)).toBitVec.toInt = _
  rw [e1, BitVec.toInt_eq_toNat_bmod, BitVec.toNat_ofNat, Nat.mod_eq_of_lt (by omega)]
  have := z_w64 (n := ((n * 256 : Nat) : Int)) (by omega) (by omega)
  exact this
theorem z_or8 {n c : Nat} (h : n < 2 ^ 48) (hc : c < 256) : ev_lor ((n * 256 : Nat) : Int) (c : Int) = ((n * 256 + c : Nat) : Int) := by
  unfold ev_lor
  have e3 : ∀ m : Nat, (Int64.ofInt (m : Int)).toBitVec = BitVec.ofNat 64 m := fun m => BitVec.ofInt_natCast 64 m
  have e1 : (Int64.ofInt ((n * 256 : Nat) : Int) ||| Int64.ofInt (c : Int)).toBitVec = BitVec.ofNat 64 (n * 256 + c) := by
    rw [Int64.toBitVec_or, e3, e3]
    apply BitVec.eq_of_toNat_eq
    rw [BitVec.toNat_or, BitVec.toNat_ofNat, BitVec.toNat_ofNat, BitVec.toNat_ofNat, Nat.mod_eq_of_lt (show n * 256 < 2 ^ 64 by omega), Nat.mod_eq_of_lt (show c < 2 ^ 64 by omega), Nat.mod_eq_of_lt (show n * 256 + c < 2 ^ 64 by omega)]
    have := Nat.two_pow_add_eq_or_of_lt (i := 8) hc n
    rw [show 2 ^ 8 * n = n * 256 by omega] at this
    exact this.symm
  show (Int64.ofInt ((n * 256 : Nat) : Int) ||| Int64.ofInt (c : Int)).toBitVec.toInt = _
  rw [e1, BitVec.toInt_eq_toNat_bmod, BitVec.toNat_ofNat, Nat.mod_eq_of_lt (by omega)]
  exact z_w64 (n := ((n * 256 + c : Nat) : Int)) (by omega) (by omega)
theorem z_let256 {L : List Int} {c : Int} (hL : z_ls L) (hl : L.length ≤ 6) (h1 : 0 ≤ c) (h2 : c ≤ 255) : ev_lor (ev_lshl (z_n256 L) 8) c = z_n256 (c :: L) := by
  have a1 := z_n256_0 hL
  have a2 := z_n256_lt hL
  have a3 := z_p6 hl
  obtain ⟨n, hn⟩ : ∃ n : Nat, z_n256 L = n := ⟨(z_n256 L).toNat, by omega⟩
  obtain ⟨d, hd⟩ : ∃ d : Nat, c = d := ⟨c.toNat, by omega⟩
  rw [z_n256, hn, hd, z_shl8 (by omega), z_or8 (by omega) (by omega)]
  omega
/-! the words that no name may be -/
def z_ws : List (List Int) := [[116, 114, 97, 112], [116, 99, 97, 102], [115, 114, 97, 101, 108, 99], [110, 97, 109], [116, 99, 97], [101, 110, 101, 99, 115], [115, 119, 111, 104, 115], [115, 100, 101, 101, 110], [115, 101, 107, 105, 108], [114, 101, 118, 101, 110], [115, 101, 111, 102], [116, 115, 101, 114], [115, 97], [114, 101, 112, 115, 105, 104, 119], [110, 105, 97, 116, 114, 117, 99], [116, 115, 101, 98], [114, 111], [100, 110, 97], [116, 111, 110], [115, 121, 97, 108, 112], [100, 101, 116, 115, 101, 114], [115, 119, 111, 110, 107], [101, 114, 117, 115], [108, 108, 105, 107, 115], [115, 101, 109, 105, 116], [115, 112, 97, 108, 99], [114, 101, 98, 109, 117, 110]]
theorem z_VW : ∀ j : Nat, j < 27 → z_N (z_V.getD j 0) (z_W.getD j 0) := by
  intro j hj
  refine ⟨z_ws.getD j [], ?_, ?_, ?_⟩
  · have h : ∀ j : Nat, j < 27 → (z_ws.getD j []).all (fun c => decide (97 ≤ c ∧ c ≤ 122)) = true := by decide +kernel
    intro c hc
    exact of_decide_eq_true (List.all_eq_true.mp (h j hj) c hc)
  · have h : ∀ j : Nat, j < 27 → z_V.getD j 0 = z_n32 (z_ws.getD j []) := by decide +kernel
    exact h j hj
  · have h : ∀ j : Nat, j < 27 → z_W.getD j 0 = z_n256 (z_ws.getD j []) := by decide +kernel
    exact h j hj
theorem z_Vinj : ∀ i : Nat, i < 27 → ∀ j : Nat, j < 27 → z_V.getD i 0 = z_V.getD j 0 → i = j := by decide +kernel

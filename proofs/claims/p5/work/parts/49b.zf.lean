/-! THE TWO READERS ALIKE, 15: feed() of both. -/
theorem z_sh0 {x : Int} (h1 : -2147483648 ≤ x) (h2 : x ≤ 2147483647) : ev_shr x 0 = x := by
  unfold ev_shr
  have e : (Int32.ofInt 0 &&& 31) = 0 := by decide
  rw [e, Int32.shiftRight_zero, Int32.toInt_ofInt]
  exact ev_w_id h1 h2
theorem zf_st {n : Nat} {C : ev_C} {y s s' L : Int} (hL : C 12 2 = L) (h0 : 0 ≤ L) (h1 : L < 940) (hs : 0 ≤ s) (hs2 : s ≤ 24) (hs' : s + -8 = s') : f_12_four_L3 (n + 1) C y s = f_12_four_L3 n (ev_u (ev_u C 49 L.toNat (ev_b8 (ev_b8 (ev_shr y s)))) 12 2 (L + 1)) y s' := by
  show (if s < 0 then some C else if 0 ≤ C 12 2 ∧ C 12 2 < 940 then f_12_four_L3 n (ev_u (ev_u C 49 (Int.toNat (C 12 2)) (ev_b8 (ev_b8 (ev_shr y s)))) 12 2 (ev_w (C 12 2 + (1 : Int)))) y (ev_w (s + (-8))) else none) = _
  rw [if_neg (by omega), hL, if_pos ⟨h0, h1⟩, ev_w_id (n := L + 1) (by omega) (by omega), ev_w_id (n := s + -8) (by omega) (by omega), hs']
/-- what four bytes make of a row -/
def zf_r (f : Nat → Int) (L x : Int) : Nat → Int := fun k => if k = (L + 3).toNat then ev_b8 (ev_b8 x) else if k = (L + 2).toNat then ev_b8 (ev_b8 (ev_shr x 8)) else if k = (L + 1).toNat then ev_b8 (ev_b8 (ev_shr x 16)) else if k = L.toNat then ev_b8 (ev_b8 (ev_shr x 24)) else f k
theorem zf_app {C : ev_C} {x L : Int} (hL : C 10 1 = L) (h0 : 0 ≤ L) (h1 : L + 4 ≤ 940) : ∃ C', f_10_append C x = some C' ∧ C' 10 1 = L + 4 ∧ C' 15 = zf_r (C 15) L x ∧ ∀ t, t ≠ 10 → t ≠ 15 → C' t = C t := by
  unfold f_10_append f_10_hasRoom
  rw [hL, ev_w_id (n := L + 4) (by omega) (by omega), if_neg (by omega), ev_bdS, if_pos (by decide), hL, if_pos ⟨h0, by omega⟩, ev_w_id (n := L + 1) (by omega) (by omega), if_pos ⟨by omega, by omega⟩, ev_w_id (n := L + 2) (by omega) (by omega), if_pos ⟨by omega, by omega⟩, ev_w_id (n := L + 3) (by omega) (by omega), if_pos ⟨by omega, by omega⟩, ev_w_id (n := L + 4) (by omega) (by omega)]
  refine ⟨_, rfl, ev_us, ?_, fun t h10 h15 => ?_⟩
  · funext k
    rw [ev_ut (by decide)]
    unfold zf_r
    by_cases e3 : k = (L + 3).toNat
    · rw [if_pos e3, e3, ev_us]
    · rw [if_neg e3, ev_un (fun z => e3 z.2)]
      by_cases e2 : k = (L + 2).toNat
      · rw [if_pos e2, e2, ev_us]
      · rw [if_neg e2, ev_un (fun z => e2 z.2)]
        by_cases e1 : k = (L + 1).toNat
        · rw [if_pos e1, e1, ev_us]
        · rw [if_neg e1, ev_un (fun z => e1 z.2)]
          by_cases e0 : k = L.toNat
          · rw [if_pos e0, e0, ev_us]
          · rw [if_neg e0, ev_un (fun z => e0 z.2)]
  · rw [ev_ut h10, ev_ut h15, ev_ut h15, ev_ut h15, ev_ut h15]
theorem zf_four {C : ev_C} {x L : Int} (hx1 : -2147483648 ≤ x) (hx2 : x ≤ 2147483647) (hL : C 12 2 = L) (h0 : 0 ≤ L) (h1 : L + 4 ≤ 940) : ∃ C', f_12_four C x = some C' ∧ C' 12 2 = L + 4 ∧ C' 49 = zf_r (C 49) L x ∧ ∀ t, t ≠ 12 → t ≠ 49 → C' t = C t := by
  have a1 := zf_st (n := 999) (C := C) (y := x) (s := 24) (s' := 16) hL h0 (by omega) (by decide) (by decide) (by decide)
  have a2 := zf_st (n := 998) (C := ev_u (ev_u C 49 L.toNat (ev_b8 (ev_b8 (ev_shr x 24)))) 12 2 (L + 1)) (y := x) (s := 16) (s' := 8) (L := L + 1) ev_us (by omega) (by omega) (by decide) (by decide) (by decide)
  have a3 := zf_st (n := 997) (C := ev_u (ev_u (ev_u (ev_u C 49 L.toNat (ev_b8 (ev_b8 (ev_shr x 24)))) 12 2 (L + 1)) 49 (L + 1).toNat (ev_b8 (ev_b8 (ev_shr x 16)))) 12 2 (L + 1 + 1)) (y := x) (s := 8) (s' := 0) (L := L + 1 + 1) ev_us (by omega) (by omega) (by decide) (by decide) (by decide)
  have a4 := zf_st (n := 996) (C := ev_u (ev_u (ev_u (ev_u (ev_u (ev_u C 49 L.toNat (ev_b8 (ev_b8 (ev_shr x 24)))) 12 2 (L + 1)) 49 (L + 1).toNat (ev_b8 (ev_b8 (ev_shr x 16)))) 12 2 (L + 1 + 1)) 49 (L + 1 + 1).toNat (ev_b8 (ev_b8 (ev_shr x 8)))) 12 2 (L + 1 + 1 + 1)) (y := x) (s := 0) (s' := -8) (L := L + 1 + 1 + 1) ev_us (by omega) (by omega) (by decide) (by decide) (by decide)
  refine ⟨_, (a1.trans (a2.trans (a3.trans (a4.trans (if_pos (by decide)))))), ?_, ?_, fun t h12 h49 => ?_⟩
  · rw [ev_us]; omega
  · rw [z_sh0 hx1 hx2, show L + 1 + 1 + 1 = L + 3 by omega, show L + 1 + 1 = L + 2 by omega]
    funext k
    unfold zf_r
    rw [ev_ut (by decide)]
    by_cases e3 : k = (L + 3).toNat
    · rw [if_pos e3, e3, ev_us]
    · rw [if_neg e3, ev_un (fun z => e3 z.2), ev_ut (by decide)]
      by_cases e2 : k = (L + 2).toNat
      · rw [if_pos e2, e2, ev_us]
      · rw [if_neg e2, ev_un (fun z => e2 z.2), ev_ut (by decide)]
        by_cases e1 : k = (L + 1).toNat
        · rw [if_pos e1, e1, ev_us]
        · rw [if_neg e1, ev_un (fun z => e1 z.2), ev_ut (by decide)]
          by_cases e0 : k = L.toNat
          · rw [if_pos e0, e0, ev_us]
          · rw [if_neg e0, ev_un (fun z => e0 z.2)]
  · rw [ev_ut h12, ev_ut h49, ev_ut h12, ev_ut h49, ev_ut h12, ev_ut h49, ev_ut h12, ev_ut h49]
def zf_i (x : Int) : Prop := -2147483648 ≤ x ∧ x ≤ 2147483647
theorem zf_alike {C1 C2 : ev_C} {L a b c d e : Int} (ha : zf_i a) (hb : zf_i b) (hc : zf_i c) (hd : zf_i d) (he : zf_i e) (hr : ∀ k : Nat, k < 940 → C1 15 k = C2 49 k) (h1 : C1 10 1 = L) (h2 : C2 12 2 = L) (h0 : 0 ≤ L) (h9 : L ≤ 940) :
    ∃ (r : Int) (C1' C2' : ev_C), f_11_feed C1 a b c d e = some (r, C1') ∧ f_12_feed C2 a b c d e = some (r, C2') ∧ (∀ k : Nat, k < 940 → C1' 15 k = C2' 49 k) ∧ (∀ t, t ≠ 10 → t ≠ 15 → C1' t = C1 t) ∧ (∀ t, t ≠ 12 → t ≠ 49 → C2' t = C2 t) := by
  unfold f_11_feed f_10_hasRoom f_12_feed
  rw [h1, h2, ev_w_id (n := L + 20) (by omega) (by omega)]
  by_cases h : 940 < L + 20
  · rw [if_pos h, ev_bdS, if_neg (by decide), if_neg (by omega)]
    refine ⟨_, _, _, rfl, rfl, fun k hk => ?_, fun t _ _ => rfl, fun t h12 _ => ev_ut h12⟩
    rw [ev_ut (by decide)]
    exact hr k hk
  · rw [if_neg h, ev_bdS, if_pos (by decide), if_pos (by omega)]
    have hz : ev_u C2 12 0 0 12 2 = L := by rw [ev_un (by decide)]; exact h2
    obtain ⟨A1, a1, a2, a3, a4⟩ := zf_app (x := a) h1 h0 (by omega)
    obtain ⟨A2, b1, b2, b3, b4⟩ := zf_four (x := a) ha.1 ha.2 hz h0 (by omega)
    obtain ⟨B1, a11, a12, a13, a14⟩ := zf_app (x := b) a2 (by omega) (by omega)
    obtain ⟨B2, b11, b12, b13, b14⟩ := zf_four (x := b) hb.1 hb.2 b2 (by omega) (by omega)
    obtain ⟨D1, a21, a22, a23, a24⟩ := zf_app (x := c) a12 (by omega) (by omega)
    obtain ⟨D2, b21, b22, b23, b24⟩ := zf_four (x := c) hc.1 hc.2 b12 (by omega) (by omega)
    obtain ⟨E1, a31, a32, a33, a34⟩ := zf_app (x := d) a22 (by omega) (by omega)
    obtain ⟨E2, b31, b32, b33, b34⟩ := zf_four (x := d) hd.1 hd.2 b22 (by omega) (by omega)
    obtain ⟨F1, a41, a42, a43, a44⟩ := zf_app (x := e) a32 (by omega) (by omega)
    obtain ⟨F2, b41, b42, b43, b44⟩ := zf_four (x := e) he.1 he.2 b32 (by omega) (by omega)
    rw [a1, b1, ev_bvS, ev_bvS, a11, b11, ev_bvS, ev_bvS, a21, b21, ev_bvS, ev_bvS, a31, b31, ev_bvS, ev_bvS, a41, b41, ev_bvS, ev_bvS, a42, b42]
    refine ⟨_, _, _, rfl, rfl, fun k hk => ?_, fun t h10 h15 => ?_, fun t h12 h49 => ?_⟩
    · have key : ∀ {f g : Nat → Int} {L x : Int}, (∀ k : Nat, k < 940 → f k = g k) → ∀ k : Nat, k < 940 → zf_r f L x k = zf_r g L x k := fun hfg k hk => by
        unfold zf_r
        rw [hfg k hk]
      rw [a43, b43]
      refine key (fun k hk => ?_) k hk
      rw [a33, b33]
      refine key (fun k hk => ?_) k hk
      rw [a23, b23]
      refine key (fun k hk => ?_) k hk
      rw [a13, b13]
      refine key (fun k hk => ?_) k hk
      rw [a3, b3]
      refine key (fun k hk => ?_) k hk
      rw [ev_ut (by decide)]
      exact hr k hk
    · rw [a44 t h10 h15, a34 t h10 h15, a24 t h10 h15, a14 t h10 h15, a4 t h10 h15]
    · rw [b44 t h12 h49, b34 t h12 h49, b24 t h12 h49, b14 t h12 h49, b4 t h12 h49, ev_ut h12]

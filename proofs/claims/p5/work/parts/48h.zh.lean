/-! THE TWO READERS ALIKE, 8: what is told, place by place. -/
theorem z_P.h {C1 C2 : ev_C} {j : Nat} {v : Int} (hP : z_P C1 C2) (hj : (6 ≤ j ∧ j < 12) ∨ (18 ≤ j ∧ j < 34)) : z_P C1 (ev_u C2 35 j v) := by
  obtain ⟨⟨c0, c1, c2, c3, c4, c5⟩, ⟨n0, n1, n2⟩, ⟨r57, r58, r61, r62, r63⟩, s64, s65, s66, s0⟩ := hP
  have e : ∀ i : Nat, i ≠ j → ev_u C2 35 j v 35 i = C2 35 i := fun i hi => ev_un (fun q => hi q.2)
  exact ⟨⟨by rw [e 0 (by omega)]; exact c0, by rw [e 1 (by omega)]; exact c1, by rw [e 2 (by omega)]; exact c2, by rw [e 3 (by omega)]; exact c3, by rw [e 4 (by omega)]; exact c4, by rw [e 5 (by omega)]; exact c5⟩, ⟨n0, n1, n2⟩, ⟨fun k hk => by rw [e (12 + k) (by omega)]; exact r57 k hk, fun k hk => by rw [e (34 + k) (by omega)]; exact r58 k hk, fun k hk => by rw [e (88 + k) (by omega)]; exact r61 k hk, fun k hk => by rw [e (96 + k) (by omega)]; exact r62 k hk, fun k hk => by rw [e (40 + k) (by omega)]; exact r63 k hk⟩, fun k hk => by rw [e (104 + k) (by have : (k : Int) < C1 13 4 := hk; omega)]; exact s64 k hk, fun k hk => by rw [e (116 + k) (by omega)]; exact s65 k hk, fun k hk => by rw [e (128 + k) (by omega)]; exact s66 k hk, s0⟩
theorem z_P.f56 {C1 C2 : ev_C} {j : Nat} {v : Int} (hP : z_P C1 C2) : z_P (ev_u C1 56 j v) C2 := hP
theorem z_P.f59 {C1 C2 : ev_C} {j : Nat} {v : Int} (hP : z_P C1 C2) : z_P (ev_u C1 59 j v) C2 := hP
theorem z_P.f60 {C1 C2 : ev_C} {j : Nat} {v : Int} (hP : z_P C1 C2) : z_P (ev_u C1 60 j v) C2 := hP
theorem z_P.b57 {C1 C2 : ev_C} {f : Nat} {v : Int} (hP : z_P C1 C2) (hf : f < 6) : z_P (ev_u C1 57 f v) (ev_u C2 35 (12 + f) v) := by
  obtain ⟨⟨c0, c1, c2, c3, c4, c5⟩, ⟨n0, n1, n2⟩, ⟨r57, r58, r61, r62, r63⟩, s64, s65, s66, s0⟩ := hP
  have e : ∀ i : Nat, i ≠ 12 + f → ev_u C2 35 (12 + f) v 35 i = C2 35 i := fun i hi => ev_un (fun q => hi q.2)
  exact ⟨⟨by rw [e 0 (by omega)]; exact c0, by rw [e 1 (by omega)]; exact c1, by rw [e 2 (by omega)]; exact c2, by rw [e 3 (by omega)]; exact c3, by rw [e 4 (by omega)]; exact c4, by rw [e 5 (by omega)]; exact c5⟩, ⟨n0, n1, n2⟩, ⟨fun k hk => by
    by_cases q : k = f
    · subst q; rw [ev_us, ev_us]
    · rw [ev_un (fun z => q z.2), e (12 + k) (by omega)]; exact r57 k hk, fun k hk => by rw [e (34 + k) (by omega)]; exact r58 k hk, fun k hk => by rw [e (88 + k) (by omega)]; exact r61 k hk, fun k hk => by rw [e (96 + k) (by omega)]; exact r62 k hk, fun k hk => by rw [e (40 + k) (by omega)]; exact r63 k hk⟩, fun k hk => by rw [e (104 + k) (by have : (k : Int) < C1 13 4 := hk; omega)]; exact s64 k hk, fun k hk => by rw [e (116 + k) (by omega)]; exact s65 k hk, fun k hk => by rw [e (128 + k) (by omega)]; exact s66 k hk, s0⟩
theorem z_P.b58 {C1 C2 : ev_C} {f : Nat} {v : Int} (hP : z_P C1 C2) (hf : f < 6) : z_P (ev_u C1 58 f v) (ev_u C2 35 (34 + f) v) := by
  obtain ⟨⟨c0, c1, c2, c3, c4, c5⟩, ⟨n0, n1, n2⟩, ⟨r57, r58, r61, r62, r63⟩, s64, s65, s66, s0⟩ := hP
  have e : ∀ i : Nat, i ≠ 34 + f → ev_u C2 35 (34 + f) v 35 i = C2 35 i := fun i hi => ev_un (fun q => hi q.2)
  exact ⟨⟨by rw [e 0 (by omega)]; exact c0, by rw [e 1 (by omega)]; exact c1, by rw [e 2 (by omega)]; exact c2, by rw [e 3 (by omega)]; exact c3, by rw [e 4 (by omega)]; exact c4, by rw [e 5 (by omega)]; exact c5⟩, ⟨n0, n1, n2⟩, ⟨fun k hk => by rw [e (12 + k) (by omega)]; exact r57 k hk, fun k hk => by
    by_cases q : k = f
    · subst q; rw [ev_us, ev_us]
    · rw [ev_un (fun z => q z.2), e (34 + k) (by omega)]; exact r58 k hk, fun k hk => by rw [e (88 + k) (by omega)]; exact r61 k hk, fun k hk => by rw [e (96 + k) (by omega)]; exact r62 k hk, fun k hk => by rw [e (40 + k) (by omega)]; exact r63 k hk⟩, fun k hk => by rw [e (104 + k) (by have : (k : Int) < C1 13 4 := hk; omega)]; exact s64 k hk, fun k hk => by rw [e (116 + k) (by omega)]; exact s65 k hk, fun k hk => by rw [e (128 + k) (by omega)]; exact s66 k hk, s0⟩
theorem z_P.b61 {C1 C2 : ev_C} {f : Nat} {v : Int} (hP : z_P C1 C2) (hf : f < 8) : z_P (ev_u C1 61 f v) (ev_u C2 35 (88 + f) v) := by
  obtain ⟨⟨c0, c1, c2, c3, c4, c5⟩, ⟨n0, n1, n2⟩, ⟨r57, r58, r61, r62, r63⟩, s64, s65, s66, s0⟩ := hP
  have e : ∀ i : Nat, i ≠ 88 + f → ev_u C2 35 (88 + f) v 35 i = C2 35 i := fun i hi => ev_un (fun q => hi q.2)
  exact ⟨⟨by rw [e 0 (by omega)]; exact c0, by rw [e 1 (by omega)]; exact c1, by rw [e 2 (by omega)]; exact c2, by rw [e 3 (by omega)]; exact c3, by rw [e 4 (by omega)]; exact c4, by rw [e 5 (by omega)]; exact c5⟩, ⟨n0, n1, n2⟩, ⟨fun k hk => by rw [e (12 + k) (by omega)]; exact r57 k hk, fun k hk => by rw [e (34 + k) (by omega)]; exact r58 k hk, fun k hk => by
    by_cases q : k = f
    · subst q; rw [ev_us, ev_us]
    · rw [ev_un (fun z => q z.2), e (88 + k) (by omega)]; exact r61 k hk, fun k hk => by rw [e (96 + k) (by omega)]; exact r62 k hk, fun k hk => by rw [e (40 + k) (by omega)]; exact r63 k hk⟩, fun k hk => by rw [e (104 + k) (by have : (k : Int) < C1 13 4 := hk; omega)]; exact s64 k hk, fun k hk => by rw [e (116 + k) (by omega)]; exact s65 k hk, fun k hk => by rw [e (128 + k) (by omega)]; exact s66 k hk, s0⟩
theorem z_P.b62 {C1 C2 : ev_C} {f : Nat} {v : Int} (hP : z_P C1 C2) (hf : f < 8) : z_P (ev_u C1 62 f v) (ev_u C2 35 (96 + f) v) := by
  obtain ⟨⟨c0, c1, c2, c3, c4, c5⟩, ⟨n0, n1, n2⟩, ⟨r57, r58, r61, r62, r63⟩, s64, s65, s66, s0⟩ := hP
  have e : ∀ i : Nat, i ≠ 96 + f → ev_u C2 35 (96 + f) v 35 i = C2 35 i := fun i hi => ev_un (fun q => hi q.2)
  exact ⟨⟨by rw [e 0 (by omega)]; exact c0, by rw [e 1 (by omega)]; exact c1, by rw [e 2 (by omega)]; exact c2, by rw [e 3 (by omega)]; exact c3, by rw [e 4 (by omega)]; exact c4, by rw [e 5 (by omega)]; exact c5⟩, ⟨n0, n1, n2⟩, ⟨fun k hk => by rw [e (12 + k) (by omega)]; exact r57 k hk, fun k hk => by rw [e (34 + k) (by omega)]; exact r58 k hk, fun k hk => by rw [e (88 + k) (by omega)]; exact r61 k hk, fun k hk => by
    by_cases q : k = f
    · subst q; rw [ev_us, ev_us]
    · rw [ev_un (fun z => q z.2), e (96 + k) (by omega)]; exact r62 k hk, fun k hk => by rw [e (40 + k) (by omega)]; exact r63 k hk⟩, fun k hk => by rw [e (104 + k) (by have : (k : Int) < C1 13 4 := hk; omega)]; exact s64 k hk, fun k hk => by rw [e (116 + k) (by omega)]; exact s65 k hk, fun k hk => by rw [e (128 + k) (by omega)]; exact s66 k hk, s0⟩
theorem z_P.b63 {C1 C2 : ev_C} {f : Nat} {v : Int} (hP : z_P C1 C2) (hf : f < 48) (hv : 0 ≤ v) : z_P (ev_u C1 63 f v) (ev_u C2 35 (40 + f) v) := by
  obtain ⟨⟨c0, c1, c2, c3, c4, c5⟩, ⟨n0, n1, n2⟩, ⟨r57, r58, r61, r62, r63⟩, s64, s65, s66, s0⟩ := hP
  have e : ∀ i : Nat, i ≠ 40 + f → ev_u C2 35 (40 + f) v 35 i = C2 35 i := fun i hi => ev_un (fun q => hi q.2)
  exact ⟨⟨by rw [e 0 (by omega)]; exact c0, by rw [e 1 (by omega)]; exact c1, by rw [e 2 (by omega)]; exact c2, by rw [e 3 (by omega)]; exact c3, by rw [e 4 (by omega)]; exact c4, by rw [e 5 (by omega)]; exact c5⟩, ⟨n0, n1, n2⟩, ⟨fun k hk => by rw [e (12 + k) (by omega)]; exact r57 k hk, fun k hk => by rw [e (34 + k) (by omega)]; exact r58 k hk, fun k hk => by rw [e (88 + k) (by omega)]; exact r61 k hk, fun k hk => by rw [e (96 + k) (by omega)]; exact r62 k hk, fun k hk => by
    by_cases q : k = f
    · subst q; rw [ev_us, ev_us]; exact ⟨rfl, hv⟩
    · rw [ev_un (fun z => q z.2), e (40 + k) (by omega)]; exact r63 k hk⟩, fun k hk => by rw [e (104 + k) (by have : (k : Int) < C1 13 4 := hk; omega)]; exact s64 k hk, fun k hk => by rw [e (116 + k) (by omega)]; exact s65 k hk, fun k hk => by rw [e (128 + k) (by omega)]; exact s66 k hk, s0⟩
theorem z_P.b65 {C1 C2 : ev_C} {f : Nat} {v : Int} (hP : z_P C1 C2) (hf : f < 12) (hsc : (f : Int) < C1 13 4) : z_P (ev_u C1 65 f v) (ev_u C2 35 (116 + f) v) := by
  obtain ⟨⟨c0, c1, c2, c3, c4, c5⟩, ⟨n0, n1, n2⟩, ⟨r57, r58, r61, r62, r63⟩, s64, s65, s66, s0⟩ := hP
  have e : ∀ i : Nat, i ≠ 116 + f → ev_u C2 35 (116 + f) v 35 i = C2 35 i := fun i hi => ev_un (fun q => hi q.2)
  exact ⟨⟨by rw [e 0 (by omega)]; exact c0, by rw [e 1 (by omega)]; exact c1, by rw [e 2 (by omega)]; exact c2, by rw [e 3 (by omega)]; exact c3, by rw [e 4 (by omega)]; exact c4, by rw [e 5 (by omega)]; exact c5⟩, ⟨n0, n1, n2⟩, ⟨fun k hk => by rw [e (12 + k) (by omega)]; exact r57 k hk, fun k hk => by rw [e (34 + k) (by omega)]; exact r58 k hk, fun k hk => by rw [e (88 + k) (by omega)]; exact r61 k hk, fun k hk => by rw [e (96 + k) (by omega)]; exact r62 k hk, fun k hk => by rw [e (40 + k) (by omega)]; exact r63 k hk⟩, fun k hk => by rw [e (104 + k) (by have : (k : Int) < C1 13 4 := hk; omega)]; exact s64 k hk, fun k hk => by
    by_cases q : k = f
    · subst q; rw [ev_us, ev_us]
    · rw [ev_un (fun z => q z.2), e (116 + k) (by omega)]; exact s65 k hk, fun k hk => by rw [e (128 + k) (by omega)]; exact s66 k hk, fun k hk hk2 => by
    have hk : C1 13 4 ≤ k := hk
    rw [ev_un (fun z => by have := z.2; omega)]
    exact s0 k hk hk2⟩
theorem z_P.b66 {C1 C2 : ev_C} {f : Nat} {v : Int} (hP : z_P C1 C2) (hf : f < 12) : z_P (ev_u C1 66 f v) (ev_u C2 35 (128 + f) v) := by
  obtain ⟨⟨c0, c1, c2, c3, c4, c5⟩, ⟨n0, n1, n2⟩, ⟨r57, r58, r61, r62, r63⟩, s64, s65, s66, s0⟩ := hP
  have e : ∀ i : Nat, i ≠ 128 + f → ev_u C2 35 (128 + f) v 35 i = C2 35 i := fun i hi => ev_un (fun q => hi q.2)
  exact ⟨⟨by rw [e 0 (by omega)]; exact c0, by rw [e 1 (by omega)]; exact c1, by rw [e 2 (by omega)]; exact c2, by rw [e 3 (by omega)]; exact c3, by rw [e 4 (by omega)]; exact c4, by rw [e 5 (by omega)]; exact c5⟩, ⟨n0, n1, n2⟩, ⟨fun k hk => by rw [e (12 + k) (by omega)]; exact r57 k hk, fun k hk => by rw [e (34 + k) (by omega)]; exact r58 k hk, fun k hk => by rw [e (88 + k) (by omega)]; exact r61 k hk, fun k hk => by rw [e (96 + k) (by omega)]; exact r62 k hk, fun k hk => by rw [e (40 + k) (by omega)]; exact r63 k hk⟩, fun k hk => by rw [e (104 + k) (by have : (k : Int) < C1 13 4 := hk; omega)]; exact s64 k hk, fun k hk => by rw [e (116 + k) (by omega)]; exact s65 k hk, fun k hk => by
    by_cases q : k = f
    · subst q; rw [ev_us, ev_us]
    · rw [ev_un (fun z => q z.2), e (128 + k) (by omega)]; exact s66 k hk, s0⟩
theorem z_P.n53 {C1 C2 : ev_C} {k : Nat} {a b : Int} (hP : z_P C1 C2) (hk : C1 13 0 ≤ k) (hk2 : k < 6) : z_P (ev_u C1 53 k a) (ev_u C2 19 (20 + k) b) := by
  obtain ⟨⟨c0, c1, c2, c3, c4, c5⟩, ⟨n0, n1, n2⟩, ⟨r57, r58, r61, r62, r63⟩, s64, s65, s66, s0⟩ := hP
  exact ⟨⟨c0, c1, c2, c3, c4, c5⟩, ⟨fun i hi => by
    have hi : (i : Int) < C1 13 0 := hi
    rw [ev_un (fun z => by have := z.2; omega), ev_un (fun z => by have := z.2; omega)]
    exact n0 i hi, fun i hi => by
    have hi : (i : Int) < C1 13 1 := hi
    have := c1.2.2
    rw [ev_un (t := 19) (fun z => by have := z.2; omega)]
    exact n1 i hi, fun i hi => by
    have hi : (i : Int) < C1 13 2 := hi
    have := c2.2.2
    rw [ev_un (t := 19) (fun z => by have := z.2; omega)]
    exact n2 i hi⟩, ⟨r57, r58, r61, r62, r63⟩, s64, s65, s66, s0⟩
theorem z_P.c0 {C1 C2 : ev_C} (hP : z_P C1 C2) (hlt : C1 13 0 < 6) (hN : z_N (C1 53 (C1 13 0).toNat) (C2 19 (20 + (C1 13 0).toNat))) : z_P (ev_u C1 13 0 (C1 13 0 + 1)) (ev_u C2 35 0 (C1 13 0 + 1)) := by
  obtain ⟨⟨c0, c1, c2, c3, c4, c5⟩, ⟨n0, n1, n2⟩, ⟨r57, r58, r61, r62, r63⟩, s64, s65, s66, s0⟩ := hP
  have e : ∀ i : Nat, i ≠ 0 → ev_u C2 35 0 (C1 13 0 + 1) 35 i = C2 35 i := fun i hi => ev_un (fun q => hi q.2)
  exact ⟨⟨⟨rfl, by show 0 ≤ C1 13 0 + 1; omega, by show C1 13 0 + 1 ≤ 6; omega⟩, c1, c2, c3, c4, c5⟩, ⟨fun i hi => by
    have hi : (i : Int) < C1 13 0 + 1 := hi
    by_cases q : (i : Int) < C1 13 0
    · exact n0 i q
    · have e : i = (C1 13 0).toNat := by omega
      rw [e]; exact hN, n1, n2⟩, ⟨fun k hk => by rw [e (12 + k) (by omega)]; exact r57 k hk, fun k hk => by rw [e (34 + k) (by omega)]; exact r58 k hk, fun k hk => by rw [e (88 + k) (by omega)]; exact r61 k hk, fun k hk => by rw [e (96 + k) (by omega)]; exact r62 k hk, fun k hk => by rw [e (40 + k) (by omega)]; exact r63 k hk⟩, fun k hk => by rw [e (104 + k) (by have : (k : Int) < C1 13 4 := hk; omega)]; exact s64 k hk, fun k hk => by rw [e (116 + k) (by omega)]; exact s65 k hk, fun k hk => by rw [e (128 + k) (by omega)]; exact s66 k hk, s0⟩
theorem z_P.n54 {C1 C2 : ev_C} {k : Nat} {a b : Int} (hP : z_P C1 C2) (hk : C1 13 1 ≤ k) (hk2 : k < 6) : z_P (ev_u C1 54 k a) (ev_u C2 19 (26 + k) b) := by
  obtain ⟨⟨c0, c1, c2, c3, c4, c5⟩, ⟨n0, n1, n2⟩, ⟨r57, r58, r61, r62, r63⟩, s64, s65, s66, s0⟩ := hP
  exact ⟨⟨c0, c1, c2, c3, c4, c5⟩, ⟨fun i hi => by
    have hi : (i : Int) < C1 13 0 := hi
    have := c0.2.2
    rw [ev_un (t := 19) (fun z => by have := z.2; omega)]
    exact n0 i hi, fun i hi => by
    have hi : (i : Int) < C1 13 1 := hi
    rw [ev_un (fun z => by have := z.2; omega), ev_un (fun z => by have := z.2; omega)]
    exact n1 i hi, fun i hi => by
    have hi : (i : Int) < C1 13 2 := hi
    have := c2.2.2
    rw [ev_un (t := 19) (fun z => by have := z.2; omega)]
    exact n2 i hi⟩, ⟨r57, r58, r61, r62, r63⟩, s64, s65, s66, s0⟩
theorem z_P.c1 {C1 C2 : ev_C} (hP : z_P C1 C2) (hlt : C1 13 1 < 6) (hN : z_N (C1 54 (C1 13 1).toNat) (C2 19 (26 + (C1 13 1).toNat))) : z_P (ev_u C1 13 1 (C1 13 1 + 1)) (ev_u C2 35 1 (C1 13 1 + 1)) := by
  obtain ⟨⟨c0, c1, c2, c3, c4, c5⟩, ⟨n0, n1, n2⟩, ⟨r57, r58, r61, r62, r63⟩, s64, s65, s66, s0⟩ := hP
  have e : ∀ i : Nat, i ≠ 1 → ev_u C2 35 1 (C1 13 1 + 1) 35 i = C2 35 i := fun i hi => ev_un (fun q => hi q.2)
  exact ⟨⟨c0, ⟨rfl, by show 0 ≤ C1 13 1 + 1; omega, by show C1 13 1 + 1 ≤ 6; omega⟩, c2, c3, c4, c5⟩, ⟨n0, fun i hi => by
    have hi : (i : Int) < C1 13 1 + 1 := hi
    by_cases q : (i : Int) < C1 13 1
    · exact n1 i q
    · have e : i = (C1 13 1).toNat := by omega
      rw [e]; exact hN, n2⟩, ⟨fun k hk => by rw [e (12 + k) (by omega)]; exact r57 k hk, fun k hk => by rw [e (34 + k) (by omega)]; exact r58 k hk, fun k hk => by rw [e (88 + k) (by omega)]; exact r61 k hk, fun k hk => by rw [e (96 + k) (by omega)]; exact r62 k hk, fun k hk => by rw [e (40 + k) (by omega)]; exact r63 k hk⟩, fun k hk => by rw [e (104 + k) (by have : (k : Int) < C1 13 4 := hk; omega)]; exact s64 k hk, fun k hk => by rw [e (116 + k) (by omega)]; exact s65 k hk, fun k hk => by rw [e (128 + k) (by omega)]; exact s66 k hk, s0⟩
theorem z_P.n55 {C1 C2 : ev_C} {k : Nat} {a b : Int} (hP : z_P C1 C2) (hk : C1 13 2 ≤ k) (hk2 : k < 8) : z_P (ev_u C1 55 k a) (ev_u C2 19 (32 + k) b) := by
  obtain ⟨⟨c0, c1, c2, c3, c4, c5⟩, ⟨n0, n1, n2⟩, ⟨r57, r58, r61, r62, r63⟩, s64, s65, s66, s0⟩ := hP
  exact ⟨⟨c0, c1, c2, c3, c4, c5⟩, ⟨fun i hi => by
    have hi : (i : Int) < C1 13 0 := hi
    have := c0.2.2
    rw [ev_un (t := 19) (fun z => by have := z.2; omega)]
    exact n0 i hi, fun i hi => by
    have hi : (i : Int) < C1 13 1 := hi
    have := c1.2.2
    rw [ev_un (t := 19) (fun z => by have := z.2; omega)]
    exact n1 i hi, fun i hi => by
    have hi : (i : Int) < C1 13 2 := hi
    rw [ev_un (fun z => by have := z.2; omega), ev_un (fun z => by have := z.2; omega)]
    exact n2 i hi⟩, ⟨r57, r58, r61, r62, r63⟩, s64, s65, s66, s0⟩
theorem z_P.c2 {C1 C2 : ev_C} (hP : z_P C1 C2) (hlt : C1 13 2 < 8) (hN : z_N (C1 55 (C1 13 2).toNat) (C2 19 (32 + (C1 13 2).toNat))) : z_P (ev_u C1 13 2 (C1 13 2 + 1)) (ev_u C2 35 2 (C1 13 2 + 1)) := by
  obtain ⟨⟨c0, c1, c2, c3, c4, c5⟩, ⟨n0, n1, n2⟩, ⟨r57, r58, r61, r62, r63⟩, s64, s65, s66, s0⟩ := hP
  have e : ∀ i : Nat, i ≠ 2 → ev_u C2 35 2 (C1 13 2 + 1) 35 i = C2 35 i := fun i hi => ev_un (fun q => hi q.2)
  exact ⟨⟨c0, c1, ⟨rfl, by show 0 ≤ C1 13 2 + 1; omega, by show C1 13 2 + 1 ≤ 8; omega⟩, c3, c4, c5⟩, ⟨n0, n1, fun i hi => by
    have hi : (i : Int) < C1 13 2 + 1 := hi
    by_cases q : (i : Int) < C1 13 2
    · exact n2 i q
    · have e : i = (C1 13 2).toNat := by omega
      rw [e]; exact hN⟩, ⟨fun k hk => by rw [e (12 + k) (by omega)]; exact r57 k hk, fun k hk => by rw [e (34 + k) (by omega)]; exact r58 k hk, fun k hk => by rw [e (88 + k) (by omega)]; exact r61 k hk, fun k hk => by rw [e (96 + k) (by omega)]; exact r62 k hk, fun k hk => by rw [e (40 + k) (by omega)]; exact r63 k hk⟩, fun k hk => by rw [e (104 + k) (by have : (k : Int) < C1 13 4 := hk; omega)]; exact s64 k hk, fun k hk => by rw [e (116 + k) (by omega)]; exact s65 k hk, fun k hk => by rw [e (128 + k) (by omega)]; exact s66 k hk, s0⟩
theorem z_P.c3 {C1 C2 : ev_C} (hP : z_P C1 C2) (hlt : C1 13 3 < 6) : z_P (ev_u C1 13 3 (C1 13 3 + 1)) (ev_u C2 35 3 (C1 13 3 + 1)) := by
  obtain ⟨⟨c0, c1, c2, c3, c4, c5⟩, ⟨n0, n1, n2⟩, ⟨r57, r58, r61, r62, r63⟩, s64, s65, s66, s0⟩ := hP
  have e : ∀ i : Nat, i ≠ 3 → ev_u C2 35 3 (C1 13 3 + 1) 35 i = C2 35 i := fun i hi => ev_un (fun q => hi q.2)
  exact ⟨⟨c0, c1, c2, ⟨rfl, by show 0 ≤ C1 13 3 + 1; omega, by show C1 13 3 + 1 ≤ 6; omega⟩, c4, c5⟩, ⟨n0, n1, n2⟩, ⟨fun k hk => by rw [e (12 + k) (by omega)]; exact r57 k hk, fun k hk => by rw [e (34 + k) (by omega)]; exact r58 k hk, fun k hk => by rw [e (88 + k) (by omega)]; exact r61 k hk, fun k hk => by rw [e (96 + k) (by omega)]; exact r62 k hk, fun k hk => by rw [e (40 + k) (by omega)]; exact r63 k hk⟩, fun k hk => by rw [e (104 + k) (by have : (k : Int) < C1 13 4 := hk; omega)]; exact s64 k hk, fun k hk => by rw [e (116 + k) (by omega)]; exact s65 k hk, fun k hk => by rw [e (128 + k) (by omega)]; exact s66 k hk, s0⟩
theorem z_P.c5 {C1 C2 : ev_C} (hP : z_P C1 C2)  : z_P (ev_u C1 13 5 1) (ev_u C2 35 5 1) := by
  obtain ⟨⟨c0, c1, c2, c3, c4, c5⟩, ⟨n0, n1, n2⟩, ⟨r57, r58, r61, r62, r63⟩, s64, s65, s66, s0⟩ := hP
  have e : ∀ i : Nat, i ≠ 5 → ev_u C2 35 5 1 35 i = C2 35 i := fun i hi => ev_un (fun q => hi q.2)
  exact ⟨⟨c0, c1, c2, c3, c4, ⟨rfl, (by decide : (0 : Int) ≤ 1), Int.le_refl 1⟩⟩, ⟨n0, n1, n2⟩, ⟨fun k hk => by rw [e (12 + k) (by omega)]; exact r57 k hk, fun k hk => by rw [e (34 + k) (by omega)]; exact r58 k hk, fun k hk => by rw [e (88 + k) (by omega)]; exact r61 k hk, fun k hk => by rw [e (96 + k) (by omega)]; exact r62 k hk, fun k hk => by rw [e (40 + k) (by omega)]; exact r63 k hk⟩, fun k hk => by rw [e (104 + k) (by have : (k : Int) < C1 13 4 := hk; omega)]; exact s64 k hk, fun k hk => by rw [e (116 + k) (by omega)]; exact s65 k hk, fun k hk => by rw [e (128 + k) (by omega)]; exact s66 k hk, s0⟩

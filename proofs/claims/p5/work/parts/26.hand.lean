/-! BY HAND, 8: castsBy. What is in a world of single sorts stands in a table; the casts are gone through by a falling number. -/
def ck_intB (tg : List ck_TD) (pq : Nat → List (Nat × Nat)) (ts : List Nat) : Bool := ts.all (fun t => match tg[t]? with
  | some (.inl o) => (pq t).all (fun q => (List.range (q.2 + 1)).all (fun j => decide (j < q.1) || (match o.2[j]? with
    | some (.inl _) => true
    | _ => false)))
  | some (.inr r) => decide (r.1 < 3)
  | none => false)
section H26
variable {l : Launch} {D : va_G} {cys : Nat → ClassId} {ty : Nat → Option Nat} {tg : List ck_TD} {pvT : List (Nat × Nat)} {Ex : va_W → Prop} {pvv : Nat → Int32} {H : Heap}
theorem hr_trkG {ts : List Nat} (hW : ck_Wo D cys ty tg pvT Ex pvv H) (hun : ∀ t, t ∈ ts → ∀ a a', ty a = some t → ty a' = some t → a' = a) (pq : Nat → List (Nat × Nat)) (hq : ∀ t, pq t ≠ [] → t ∈ ts) (hi : ck_intB tg pq ts = true) : ∃ C : Nat → Nat → Int32, ck_Wo D cys ty tg pvT (fun ws => Ex ws ∧ tk ty pq C ws) pvv H := by
  obtain ⟨ws, h1, h2, h3, h4, h5⟩ := hW
  have key : ∀ t j : Nat, ∃ x : Int32, ∀ (a q : Nat) (en : va_E), ty a = some t → ws[q]? = some (a, en) → ck_pr (pq t) j → ck_has en j x := by
    intro t j
    by_cases hj : ck_pr (pq t) j
    · have ht : t ∈ ts := hq t (fun e => by obtain ⟨r, hr, -⟩ := hj; rw [e] at hr; cases hr)
      by_cases hex : ∃ a, ty a = some t
      · obtain ⟨a, ha⟩ := hex
        obtain ⟨q, en, td, g1, g2, g3⟩ := h3 a t ha
        have hb := List.all_eq_true.mp hi t ht
        rw [g2] at hb
        have huq : ∀ (a' q' : Nat) (en' : va_E), ty a' = some t → ws[q']? = some (a', en') → en' = en := by
          intro a' q' en' ha' hq'
          obtain rfl := hun t ht _ _ ha ha'
          exact (ck_D1 h2 g1 hq').2
        match td, g3, hb with
        | .inl o, g3, hb =>
          obtain ⟨fs, rfl, w1, w2⟩ := g3
          obtain ⟨r, hr, r1, r2⟩ := hj
          have hc := List.all_eq_true.mp (List.all_eq_true.mp hb r hr) j (List.mem_range.mpr (by omega))
          rw [Bool.or_eq_true] at hc
          rcases hc with hc | hc
          · have := of_decide_eq_true hc; omega
          · split at hc
            · next ft hft =>
              obtain ⟨v, k1, x, rfl, -⟩ := w2 j _ hft
              exact ⟨x, fun a' q' en' ha' hq' _ => by rw [huq a' q' en' ha' hq']; exact k1⟩
            · cases hc
        | .inr r, g3, hb =>
          have hb := of_decide_eq_true hb
          rcases g3 with ⟨-, f, rfl, -⟩ | ⟨h, -⟩ | ⟨h, -⟩
          · exact ⟨f j, fun a' q' en' ha' hq' _ => by rw [huq a' q' en' ha' hq']; rfl⟩
          · omega
          · omega
      · exact ⟨0, fun a _ _ ha _ _ => absurd ⟨a, ha⟩ hex⟩
    · exact ⟨0, fun _ _ _ _ _ h => absurd h hj⟩
  refine ⟨fun t j => Classical.choose (key t j), ws, h1, h2, h3, h4, h5, ?_⟩
  intro a t q en ha hqq j hj
  exact Classical.choose_spec (key t j) a q en ha hqq hj
end H26
/-! the falling number -/
def mu_w (d : Nat) : Int := 10 ^ (5 - d)
def mu (f : Nat → Int) (M : Int) : Nat → Int
  | 0 => 0
  | d + 1 => mu f M d + mu_w d * (M - f d)
theorem mu_w1 (d : Nat) : 1 ≤ mu_w d := by
  unfold mu_w
  exact_mod_cast Nat.one_le_pow _ 10 (by omega)
theorem mu_w10 {d : Nat} (h : d < 5) : mu_w d = 10 * mu_w (d + 1) := by
  unfold mu_w
  rw [show 5 - d = (5 - (d + 1)) + 1 by omega, Int.pow_succ]
  omega
theorem mu_co {f g : Nat → Int} {M : Int} : ∀ {d : Nat}, (∀ k, k < d → g k = f k) → mu g M d = mu f M d
  | 0, _ => rfl
  | d + 1, h => by
    unfold mu
    rw [mu_co (fun k hk => h k (by omega)), h d (by omega)]
theorem mu_nn {f : Nat → Int} {M : Int} : ∀ {d : Nat}, (∀ k, k < d → f k ≤ M) → 0 ≤ mu f M d
  | 0, _ => Int.le_refl _
  | d + 1, h => by
    show 0 ≤ mu f M d + mu_w d * (M - f d)
    have h1 := mu_nn (f := f) (M := M) (d := d) (fun k hk => h k (by omega))
    have h2 := h d (by omega)
    have h3 := mu_w1 d
    have h4 : 0 ≤ mu_w d * (M - f d) := Int.mul_nonneg (by omega) (by omega)
    omega
/-- one more at the last, which stays -/
theorem mu_up {f g : Nat → Int} {M : Int} {d : Nat} (h : ∀ k, k < d → g k = f k) (hd : g d = f d + 1) : mu g M (d + 1) < mu f M (d + 1) := by
  show mu g M d + mu_w d * (M - g d) < mu f M d + mu_w d * (M - f d)
  rw [mu_co h, hd]
  have h3 := mu_w1 d
  have e : mu_w d * (M - (f d + 1)) = mu_w d * (M - f d) - mu_w d := by rw [show M - (f d + 1) = (M - f d) - 1 by omega, Int.mul_sub, Int.mul_one]
  omega
/-- the last goes -/
theorem mu_pop {f g : Nat → Int} {M : Int} {d : Nat} (h : ∀ k, k < d → g k = f k) (hd : f d < M) : mu g M d < mu f M (d + 1) := by
  show mu g M d < mu f M d + mu_w d * (M - f d)
  rw [mu_co h]
  have h3 := mu_w1 d
  have e : 1 ≤ mu_w d * (M - f d) := by
    have := Int.mul_le_mul_of_nonneg_left (show (1 : Int) ≤ M - f d by omega) (show 0 ≤ mu_w d by omega)
    omega
  omega
/-- one more at the last, and a new one behind it -/
theorem mu_push {f g : Nat → Int} {M : Int} {d : Nat} (h : ∀ k, k < d → g k = f k) (hd : g d = f d + 1) (h5 : d < 5) (hg : g (d + 1) = -1) (hM : M ≤ 8) : mu g M (d + 2) < mu f M (d + 1) := by
  have e1 : mu g M (d + 2) = mu g M (d + 1) + mu_w (d + 1) * (M - g (d + 1)) := rfl
  have e2 : mu g M (d + 1) = mu f M d + mu_w d * (M - (f d + 1)) := by
    show mu g M d + mu_w d * (M - g d) = _
    rw [mu_co h, hd]
  have e3 : mu f M (d + 1) = mu f M d + mu_w d * (M - f d) := rfl
  have e : mu_w d * (M - (f d + 1)) = mu_w d * (M - f d) - mu_w d := by rw [show M - (f d + 1) = (M - f d) - 1 by omega, Int.mul_sub, Int.mul_one]
  rw [e1, e2, e3, e, hg, mu_w10 h5]
  have h3 := mu_w1 (d + 1)
  have h4 := Int.mul_le_mul_of_nonneg_left (show M - -1 ≤ 9 by omega) (show 0 ≤ mu_w (d + 1) by omega)
  omega
def pqC (t : Nat) : List (Nat × Nat) := if t = 39 then [(0, 5)] else if t = 34 then [(2, 2)] else []
theorem pqC_A : ∀ t j, ck_pr (pqC t) j → ck_pr (ck_protA t) j := by
  intro t j h
  unfold pqC at h
  split at h
  · next e => subst e; exact h
  · split at h
    · next e =>
      subst e
      obtain ⟨q, hq, h1, h2⟩ := h
      obtain rfl := List.mem_singleton.mp hq
      exact ⟨(0, 139), by decide, by omega, by dsimp only at h1 h2 ⊢; omega⟩
    · obtain ⟨q, hq, -⟩ := h; cases hq
theorem pqC_u : ∀ t, pqC t ≠ [] → t ∈ [39, 34] := by
  intro t h
  unfold pqC at h
  split at h
  · next e => subst e; decide
  · split at h
    · next e => subst e; decide
    · exact absurd rfl h
theorem pr1A : ∀ t j, ck_pr (ck_prot1 t) j → ck_pr (ck_protA t) j := by
  intro t j h
  unfold ck_prot1 at h
  split at h
  · obtain ⟨q, hq, -⟩ := h; cases hq
  · exact pr0A t j h
theorem pr1Al : ∀ t, ck_protA t = [] → ck_prot1 t = [] := by
  intro t h
  unfold ck_prot1
  split
  · rfl
  · exact pr0Al t h
section H26b
variable {l : Launch} {D : va_G} {cys : Nat → ClassId} {ty : Nat → Option Nat} {Ex : va_W → Prop}
theorem dX12_castsBy_0 : decode cX12_castsBy 0 = .ok (.aload_n 0, 1) := by decide +kernel
theorem dX12_castsBy_1 : decode cX12_castsBy 1 = .ok (.iconst 0, 1) := by decide +kernel
theorem dX12_castsBy_2 : decode cX12_castsBy 2 = .ok (.putfield 329, 3) := by decide +kernel
theorem dX12_castsBy_5 : decode cX12_castsBy 5 = .ok (.aload_n 0, 1) := by decide +kernel
theorem dX12_castsBy_6 : decode cX12_castsBy 6 = .ok (.iconst 0, 1) := by decide +kernel
theorem dX12_castsBy_7 : decode cX12_castsBy 7 = .ok (.putfield 341, 3) := by decide +kernel
theorem dX12_castsBy_10 : decode cX12_castsBy 10 = .ok (.iconst 0, 1) := by decide +kernel
theorem dX12_castsBy_11 : decode cX12_castsBy 11 = .ok (.istore_n 3, 1) := by decide +kernel
theorem dX12_castsBy_12 : decode cX12_castsBy 12 = .ok (.iconst 0, 1) := by decide +kernel
theorem dX12_castsBy_13 : decode cX12_castsBy 13 = .ok (.istore 4, 2) := by decide +kernel
theorem dX12_castsBy_15 : decode cX12_castsBy 15 = .ok (.iload 4, 2) := by decide +kernel
theorem dX12_castsBy_17 : decode cX12_castsBy 17 = .ok (.aload_n 0, 1) := by decide +kernel
theorem dX12_castsBy_18 : decode cX12_castsBy 18 = .ok (.getfield 33, 3) := by decide +kernel
theorem dX12_castsBy_21 : decode cX12_castsBy 21 = .ok (.iconst 0, 1) := by decide +kernel
theorem dX12_castsBy_22 : decode cX12_castsBy 22 = .ok (.iaload, 1) := by decide +kernel
theorem dX12_castsBy_23 : decode cX12_castsBy 23 = .ok (.if_icmp .ge 50, 3) := by decide +kernel
theorem dX12_castsBy_26 : decode cX12_castsBy 26 = .ok (.aload_n 0, 1) := by decide +kernel
theorem dX12_castsBy_27 : decode cX12_castsBy 27 = .ok (.invokevirtual 280, 3) := by decide +kernel
theorem dX12_castsBy_30 : decode cX12_castsBy 30 = .ok (.ifCond .ne 43, 3) := by decide +kernel
theorem dX12_castsBy_33 : decode cX12_castsBy 33 = .ok (.aload_n 0, 1) := by decide +kernel
theorem dX12_castsBy_34 : decode cX12_castsBy 34 = .ok (.aload_n 0, 1) := by decide +kernel
theorem dX12_castsBy_35 : decode cX12_castsBy 35 = .ok (.getfield 33, 3) := by decide +kernel
theorem dX12_castsBy_38 : decode cX12_castsBy 38 = .ok (.sipush 140, 3) := by decide +kernel
theorem dX12_castsBy_41 : decode cX12_castsBy 41 = .ok (.iaload, 1) := by decide +kernel
theorem dX12_castsBy_42 : decode cX12_castsBy 42 = .ok (.invokevirtual 260, 3) := by decide +kernel
theorem dX12_castsBy_45 : decode cX12_castsBy 45 = .ok (.iload 4, 2) := by decide +kernel
theorem dX12_castsBy_47 : decode cX12_castsBy 47 = .ok (.invokestatic 217, 3) := by decide +kernel
theorem dX12_castsBy_50 : decode cX12_castsBy 50 = .ok (.ifCond .ne 6, 3) := by decide +kernel
theorem dX12_castsBy_53 : decode cX12_castsBy 53 = .ok (.goto 14, 3) := by decide +kernel
theorem dX12_castsBy_56 : decode cX12_castsBy 56 = .ok (.aload_n 0, 1) := by decide +kernel
theorem dX12_castsBy_57 : decode cX12_castsBy 57 = .ok (.getfield 56, 3) := by decide +kernel
theorem dX12_castsBy_60 : decode cX12_castsBy 60 = .ok (.iload_n 3, 1) := by decide +kernel
theorem dX12_castsBy_61 : decode cX12_castsBy 61 = .ok (.iload 4, 2) := by decide +kernel
theorem dX12_castsBy_63 : decode cX12_castsBy 63 = .ok (.iastore, 1) := by decide +kernel
theorem dX12_castsBy_64 : decode cX12_castsBy 64 = .ok (.iinc 3 1, 3) := by decide +kernel
theorem dX12_castsBy_67 : decode cX12_castsBy 67 = .ok (.iinc 4 1, 3) := by decide +kernel
theorem dX12_castsBy_70 : decode cX12_castsBy 70 = .ok (.goto (-55), 3) := by decide +kernel
theorem dX12_castsBy_73 : decode cX12_castsBy 73 = .ok (.aload_n 0, 1) := by decide +kernel
theorem dX12_castsBy_74 : decode cX12_castsBy 74 = .ok (.invokevirtual 280, 3) := by decide +kernel
theorem dX12_castsBy_77 : decode cX12_castsBy 77 = .ok (.ifCond .eq 4, 3) := by decide +kernel
theorem dX12_castsBy_80 : decode cX12_castsBy 80 = .ok (.return_, 1) := by decide +kernel
theorem dX12_castsBy_81 : decode cX12_castsBy 81 = .ok (.iload_n 3, 1) := by decide +kernel
theorem dX12_castsBy_82 : decode cX12_castsBy 82 = .ok (.ifCond .ne 10, 3) := by decide +kernel
theorem dX12_castsBy_85 : decode cX12_castsBy 85 = .ok (.aload_n 0, 1) := by decide +kernel
theorem dX12_castsBy_86 : decode cX12_castsBy 86 = .ok (.iconst 0, 1) := by decide +kernel
theorem dX12_castsBy_87 : decode cX12_castsBy 87 = .ok (.iload_n 2, 1) := by decide +kernel
theorem dX12_castsBy_88 : decode cX12_castsBy 88 = .ok (.invokevirtual 347, 3) := by decide +kernel
theorem dX12_castsBy_91 : decode cX12_castsBy 91 = .ok (.return_, 1) := by decide +kernel
theorem dX12_castsBy_92 : decode cX12_castsBy 92 = .ok (.iconst 0, 1) := by decide +kernel
theorem dX12_castsBy_93 : decode cX12_castsBy 93 = .ok (.istore 4, 2) := by decide +kernel
theorem dX12_castsBy_95 : decode cX12_castsBy 95 = .ok (.aload_n 0, 1) := by decide +kernel
theorem dX12_castsBy_96 : decode cX12_castsBy 96 = .ok (.getfield 59, 3) := by decide +kernel
theorem dX12_castsBy_99 : decode cX12_castsBy 99 = .ok (.iconst 0, 1) := by decide +kernel
theorem dX12_castsBy_100 : decode cX12_castsBy 100 = .ok (.iconst (-1), 1) := by decide +kernel
theorem dX12_castsBy_101 : decode cX12_castsBy 101 = .ok (.iastore, 1) := by decide +kernel
theorem dX12_castsBy_102 : decode cX12_castsBy 102 = .ok (.iload 4, 2) := by decide +kernel
theorem dX12_castsBy_104 : decode cX12_castsBy 104 = .ok (.ifCond .lt 77, 3) := by decide +kernel
theorem dX12_castsBy_107 : decode cX12_castsBy 107 = .ok (.aload_n 0, 1) := by decide +kernel
theorem dX12_castsBy_108 : decode cX12_castsBy 108 = .ok (.getfield 59, 3) := by decide +kernel
theorem dX12_castsBy_111 : decode cX12_castsBy 111 = .ok (.iload 4, 2) := by decide +kernel
theorem dX12_castsBy_113 : decode cX12_castsBy 113 = .ok (.dup2, 1) := by decide +kernel
theorem dX12_castsBy_114 : decode cX12_castsBy 114 = .ok (.iaload, 1) := by decide +kernel
theorem dX12_castsBy_115 : decode cX12_castsBy 115 = .ok (.iconst 1, 1) := by decide +kernel
theorem dX12_castsBy_116 : decode cX12_castsBy 116 = .ok (.iadd, 1) := by decide +kernel
theorem dX12_castsBy_117 : decode cX12_castsBy 117 = .ok (.iastore, 1) := by decide +kernel
theorem dX12_castsBy_118 : decode cX12_castsBy 118 = .ok (.aload_n 0, 1) := by decide +kernel
theorem dX12_castsBy_119 : decode cX12_castsBy 119 = .ok (.getfield 59, 3) := by decide +kernel
theorem dX12_castsBy_122 : decode cX12_castsBy 122 = .ok (.iload 4, 2) := by decide +kernel
theorem dX12_castsBy_124 : decode cX12_castsBy 124 = .ok (.iaload, 1) := by decide +kernel
theorem dX12_castsBy_125 : decode cX12_castsBy 125 = .ok (.aload_n 0, 1) := by decide +kernel
theorem dX12_castsBy_126 : decode cX12_castsBy 126 = .ok (.getfield 33, 3) := by decide +kernel
theorem dX12_castsBy_129 : decode cX12_castsBy 129 = .ok (.iconst 2, 1) := by decide +kernel
theorem dX12_castsBy_130 : decode cX12_castsBy 130 = .ok (.iaload, 1) := by decide +kernel
theorem dX12_castsBy_131 : decode cX12_castsBy 131 = .ok (.if_icmp .ne 9, 3) := by decide +kernel
theorem dX12_castsBy_134 : decode cX12_castsBy 134 = .ok (.iinc 4 (-1), 3) := by decide +kernel
theorem dX12_castsBy_137 : decode cX12_castsBy 137 = .ok (.goto (-35), 3) := by decide +kernel
theorem dX12_castsBy_140 : decode cX12_castsBy 140 = .ok (.aload_n 0, 1) := by decide +kernel
theorem dX12_castsBy_141 : decode cX12_castsBy 141 = .ok (.iload 4, 2) := by decide +kernel
theorem dX12_castsBy_143 : decode cX12_castsBy 143 = .ok (.iload_n 1, 1) := by decide +kernel
theorem dX12_castsBy_144 : decode cX12_castsBy 144 = .ok (.invokevirtual 350, 3) := by decide +kernel
theorem dX12_castsBy_147 : decode cX12_castsBy 147 = .ok (.ifCond .eq (-45), 3) := by decide +kernel
theorem dX12_castsBy_150 : decode cX12_castsBy 150 = .ok (.iload 4, 2) := by decide +kernel
theorem dX12_castsBy_152 : decode cX12_castsBy 152 = .ok (.iload_n 3, 1) := by decide +kernel
theorem dX12_castsBy_153 : decode cX12_castsBy 153 = .ok (.iconst 1, 1) := by decide +kernel
theorem dX12_castsBy_154 : decode cX12_castsBy 154 = .ok (.isub, 1) := by decide +kernel
theorem dX12_castsBy_155 : decode cX12_castsBy 155 = .ok (.if_icmp .ne 12, 3) := by decide +kernel
theorem dX12_castsBy_158 : decode cX12_castsBy 158 = .ok (.aload_n 0, 1) := by decide +kernel
theorem dX12_castsBy_159 : decode cX12_castsBy 159 = .ok (.iload_n 3, 1) := by decide +kernel
theorem dX12_castsBy_160 : decode cX12_castsBy 160 = .ok (.iload_n 2, 1) := by decide +kernel
theorem dX12_castsBy_161 : decode cX12_castsBy 161 = .ok (.invokevirtual 347, 3) := by decide +kernel
theorem dX12_castsBy_164 : decode cX12_castsBy 164 = .ok (.goto (-62), 3) := by decide +kernel
theorem dX12_castsBy_167 : decode cX12_castsBy 167 = .ok (.iinc 4 1, 3) := by decide +kernel
theorem dX12_castsBy_170 : decode cX12_castsBy 170 = .ok (.aload_n 0, 1) := by decide +kernel
theorem dX12_castsBy_171 : decode cX12_castsBy 171 = .ok (.getfield 59, 3) := by decide +kernel
theorem dX12_castsBy_174 : decode cX12_castsBy 174 = .ok (.iload 4, 2) := by decide +kernel
theorem dX12_castsBy_176 : decode cX12_castsBy 176 = .ok (.iconst (-1), 1) := by decide +kernel
theorem dX12_castsBy_177 : decode cX12_castsBy 177 = .ok (.iastore, 1) := by decide +kernel
theorem dX12_castsBy_178 : decode cX12_castsBy 178 = .ok (.goto (-76), 3) := by decide +kernel
theorem dX12_castsBy_181 : decode cX12_castsBy 181 = .ok (.return_, 1) := by decide +kernel
theorem hr_tkR {pvv : Nat → Int32} {H : Heap} {E : va_W → Prop} {pq : Nat → List (Nat × Nat)} {C : Nat → Nat → Int32} (hW : ck_Wo D cys ty ck_tags ck_pvs0 E pvv H) (hE : ∀ ws, E ws → tk ty pq C ws) {a t ci j t' n et i : Nat} {fts : List ck_AV} {sg : List (Nat × Int × Int)} {lo hi : Int} (hta : ty a = some t) (htd : ck_tags[t]? = some (.inl (ci, fts))) (hft : fts[j]? = some (.inr (.inl t'))) (htd' : ck_tags[t']? = some (.inr (0, n, sg, et))) (hin : i < n) (hs : ck_seg sg i = (lo, hi)) (hp : ck_pr (pq t') i) : lo ≤ (C t' i).toInt ∧ (C t' i).toInt ≤ hi := by
  obtain ⟨ws, h1, h2, h3, h4, h5⟩ := hW
  obtain ⟨q, fs, g1, g2, g3⟩ := cm_obj h3 hta htd
  obtain ⟨v, k1, b, rfl, tb⟩ := g3 j _ hft
  obtain ⟨q', f, f1, f2⟩ := ck_arrI h3 tb htd' (by decide)
  have e : f i = C t' i := hE ws h5 b t' q' _ tb f1 i hp
  have := f2 i hin
  unfold ck_in at this
  rw [hs, e] at this
  exact this
set_option maxRecDepth 100000 in
set_option maxHeartbeats 4000000 in
theorem hk_12_castsBy (hF : ck_LKf ck_LK) (hM : ck_LKm ck_tags ck_LK ck_tab) (hU : ck_uq ty ck_pvs0) (hun : ck_un ty) (hX : ck_ExP ty ck_prot1 Ex) (hHA : ∀ Ex', ck_ExP ty ck_protA Ex' → ∀ j, j < 273 → ck_Holds l D cys ty ck_tags ck_pvs0 Ex' (ck_tab j)) (hH : ∀ j, j < 318 → ck_Holds l D cys ty ck_tags ck_pvs0 Ex (ck_tab j)) : ck_Holds l D cys ty ck_tags ck_pvs0 Ex (ck_tab 318) := by
  refine cm_enter (by decide +kernel) (by decide +kernel) (by decide +kernel) ?_
  intro vs pvv0 p e s m below meth c ls ha hp B hl hW
  have hx := B.1
  have hb : c.code = cX12_castsBy := B.2.1
  have hI := pv_inj
  have hS : va_S (ck_own ty) s.heap s.heap [] := va_S.rf
  obtain ⟨_, _, _, rfl, ⟨a0, rfl, t0⟩, ⟨x1, rfl, l1, u1, -⟩, ⟨x2, rfl, l2, u2, -⟩⟩ := cm_a3 ha
  dsimp only at l1 u1
  dsimp only at l2 u2
  have hl : lv_has ls 5 [(0, .ref a0), (1, .int x1), (2, .int x2)] := hl
  have hp0 := hp
  have hXA := ExP_mono (prot' := ck_protA) pr1A pr1Al hX
  have hX2 : ∀ C, ck_ExP ty ck_protA (fun ws => Ex ws ∧ tk ty pqC C ws) := fun C => ExP_and hXA (tk_ExP pqC_A)
  have l73 : ∀ (n73 : Nat) (k : Int32) (nn : Int32) (ls : Array Slot) (H : Heap) (locs : List Loc), (0 : Int) < n73 → (0 ≤ nn.toInt) → (nn.toInt ≤ 6) → lv_has ls 5 [(4, .int k), (3, .int nn), (0, .ref a0), (1, .int x1), (2, .int x2)] → ck_Wo D cys ty ck_tags ck_pvs0 Ex pvv0 H → va_S (ck_own ty) s.heap H locs → W p l e (ck_rm (ck_tab 318)) s m [Value.ref a0, Value.int x1, Value.int x2].toArray below meth c H locs 0 0 (MQ below (ck_Qc D cys ty ck_tags ck_pvs0 Ex (ck_tab 318) [Value.ref a0, Value.int x1, Value.int x2] pvv0) [Value.ref a0, Value.int x1, Value.int x2].toArray s 0 0 (ck_own ty)) (F0 m 73 ls []) := by
    intro n73
    induction n73 with
    | zero => intro k nn ls H locs hm73 k1 k2 hl hW hS; omega
    | succ n73 ih73 =>
      intro k nn ls H locs hm73 k1 k2 hl hW hS
      refine lv_aload_n hx hb dX12_castsBy_73 rfl (lv_at hl 2 rfl) ?_
      refine cm_callV (kc := kc_216) B rfl hb hl (hM.1 _ _ 0 [216] (isM (by decide +kernel)) 216 (by decide)) (hH 216 (by decide)) (b := a0) (As := []) ⟨hr_aR t0, True.intro⟩ hp hW hS rfl (by decide) (by decide) (Nat.le_of_ble_eq_true rfl) dX12_castsBy_74 (fun cs hcs r pvv74 H locs hca hW hS => ?_)
      rcases List.mem_cons.mp hcs with rfl | hcs
      · obtain ⟨hr, hq, hc⟩ := hca
        obtain ⟨z74, rfl, lz74, uz74⟩ := hr_rvI hr
        have hW := hr_pvE (hr_sameA hc rfl (by decide +kernel)) hW
        refine hr_eq0 (tgt := 81) hx hb dX12_castsBy_77 (by decide) (fun h77 => ?_) (fun h77 => ?_)
        · refine lv_iload_n hx hb dX12_castsBy_81 rfl (lv_at hl 1 rfl) ?_
          refine hr_ne0 (tgt := 92) hx hb dX12_castsBy_82 (by decide) (fun h82 => ?_) (fun h82 => ?_)
          · refine hr_ic hx hb dX12_castsBy_92 (by decide) (fun z92 hz92 => ?_)
            refine lv_istore hx hb dX12_castsBy_93 hl (lv' := [(4, .int z92), (3, .int nn), (0, .ref a0), (1, .int x1), (2, .int x2)]) (by decide) rfl (fun ls hl => ?_)
            refine lv_aload_n hx hb dX12_castsBy_95 rfl (lv_at hl 2 rfl) ?_
            refine hr_getR B hF hb hW (ci := 12) (j := 24) (cd := 3) t0 rfl (isF (by decide +kernel)) rfl dX12_castsBy_96 (fun az96 tz96 xz96 => ?_)
            refine hr_ic hx hb dX12_castsBy_99 (by decide) (fun z99 hz99 => ?_)
            refine hr_ic hx hb dX12_castsBy_100 (by decide) (fun z100 hz100 => ?_)
            obtain ⟨C, hW⟩ := hr_trkG (ts := [39, 34]) hW (fun t ht => hun t ((by decide : ∀ t ∈ [39, 34], t ∈ ck_uns) t ht)) pqC pqC_u (by decide +kernel)
            obtain ⟨M, m1⟩ : ∃ M, (C 34 2).toInt = M := ⟨_, rfl⟩
            obtain ⟨m2, m3⟩ : 0 ≤ M ∧ M ≤ 8 := by rw [← m1]; exact hr_tkR hW (pq := pqC) (j := 6) (t' := 34) (fun _ h => h.2) t0 rfl rfl rfl (by decide) (by decide +kernel) ⟨(2, 2), by decide, by decide, by decide⟩
            have l102 : ∀ (n102 : Nat) (i : Int32) (nn : Int32) (C : Nat → Nat → Int32) (ls : Array Slot) (H : Heap) (locs : List Loc), mu (fun q => (C 39 q).toInt) M (i.toInt + 1).toNat < n102 → (-1 ≤ i.toInt) → (i.toInt ≤ nn.toInt - 1) → (1 ≤ nn.toInt) → (nn.toInt ≤ 6) → ((C 34 2).toInt = M) → (∀ q : Nat, (q : Int) ≤ i.toInt → (C 39 q).toInt < M) → lv_has ls 5 [(4, .int i), (3, .int nn), (0, .ref a0), (1, .int x1), (2, .int x2)] → ck_Wo D cys ty ck_tags ck_pvs0 (fun ws => Ex ws ∧ tk ty pqC C ws) pvv0 H → va_S (ck_own ty) s.heap H locs → W p l e (ck_rm (ck_tab 318)) s m [Value.ref a0, Value.int x1, Value.int x2].toArray below meth c H locs 0 0 (MQ below (ck_Qc D cys ty ck_tags ck_pvs0 Ex (ck_tab 318) [Value.ref a0, Value.int x1, Value.int x2] pvv0) [Value.ref a0, Value.int x1, Value.int x2].toArray s 0 0 (ck_own ty)) (F0 m 102 ls []) := by
              intro n102
              induction n102 with
              | zero => intro i nn C ls H locs hm102 i1 i2 n1 n2 m1 fM hl hW hS; have := mu_nn (f := fun q => (C 39 q).toInt) (M := M) (d := (i.toInt + 1).toNat) (fun k hk => by have := fM k (by omega); omega); omega
              | succ n102 ih102 =>
                intro i nn C ls H locs hm102 i1 i2 n1 n2 m1 fM hl hW hS
                refine lv_iload hx hb dX12_castsBy_102 (lv_at hl 0 rfl) ?_
                refine hr_lt0 (tgt := 181) hx hb dX12_castsBy_104 (by decide) (fun h104 => ?_) (fun h104 => ?_)
                · have hW := hr_mono (fun _ h => h.1) hW
                  exact cm_vret B hb rfl ⟨_, List.mem_cons_self, True.intro, (fun q h => nomatch h), hr_wk (hr_self hp0) (by decide +kernel)⟩ hW hS dX12_castsBy_181
                · refine lv_aload_n hx hb dX12_castsBy_107 rfl (lv_at hl 2 rfl) ?_
                  refine hr_getR B hF hb hW (ci := 12) (j := 24) (cd := 3) t0 rfl (isF (by decide +kernel)) rfl dX12_castsBy_108 (fun az108 tz108 xz108 => ?_)
                  refine lv_iload hx hb dX12_castsBy_111 (lv_at hl 0 rfl) ?_
                  refine lv_dup2_11 hx hb dX12_castsBy_113 rfl rfl ?_
                  refine hr_iald B hb hW tz108 rfl (by omega) (by omega) dX12_castsBy_114 (fun z114 iz114 pz114 xz114 => ?_)
                  have iz114 := hr_inr iz114 (a := 0) (b := 5) (lo := -1) (hi := 8) (by omega) (by omega) (by decide +kernel)
                  have xz114 := tk_xa xz114 (fun _ h => h.2) (pq := pqC) (C := C) tz108 ⟨(0, 5), by decide, by dsimp only; omega, by dsimp only; omega⟩; have kz114 := congrArg Int32.toInt xz114
                  have f114 := fM i.toInt.toNat (by omega)
                  refine hr_ic hx hb dX12_castsBy_115 (by decide) (fun z115 hz115 => ?_)
                  refine hr_add hx hb dX12_castsBy_116 (by omega) (by omega) (fun z116 hz116 => ?_)
                  refine hr_iastN (Ex' := fun ws => Ex ws ∧ tk ty pqC (tk_upd C 39 (i.toInt.toNat) z116) ws) B hb hU hW hS tz108 rfl (by omega) (by omega) (hr_ins (a := 0) (b := 5) (lo := -1) (hi := 8) (by omega) (by omega) (by decide +kernel) (by omega) (by omega)) (fun ws q f hD hE hq => ⟨hr_EA (i := i) hX tz108 (u := 0) (v := 5) (by omega) (by omega) (by decide) ws q f hD hE.1 hq, tk_EA tz108 (fun a h => hun 39 (by decide) _ _ tz108 h) ws q f hD hE.2 hq⟩) (u := 0) (v := 5) (by omega) (by omega) (by decide) dX12_castsBy_117 (fun H locs hW hS => ?_)
                  obtain ⟨C117, c117⟩ : ∃ f, f = tk_upd C 39 (i.toInt.toNat) z116 := ⟨_, rfl⟩
                  rw [← c117] at hW
                  have m117 : (C117 34 2).toInt = M := by rw [c117, tk_unt (by decide)]; exact m1
                  have m1 := m117
                  have q117 : (C117 39 (i.toInt.toNat)).toInt = z116.toInt := by rw [c117, tk_us]
                  have o117 : ∀ k, k ≠ i.toInt.toNat → (C117 39 k).toInt = (C 39 k).toInt := fun k hk => by rw [c117, tk_unj hk]
                  refine lv_aload_n hx hb dX12_castsBy_118 rfl (lv_at hl 2 rfl) ?_
                  refine hr_getR B hF hb hW (ci := 12) (j := 24) (cd := 3) t0 rfl (isF (by decide +kernel)) rfl dX12_castsBy_119 (fun az119 tz119 xz119 => ?_)
                  refine lv_iload hx hb dX12_castsBy_122 (lv_at hl 0 rfl) ?_
                  refine hr_iald B hb hW tz119 rfl (by omega) (by omega) dX12_castsBy_124 (fun z124 iz124 pz124 xz124 => ?_)
                  have iz124 := hr_inr iz124 (a := 0) (b := 5) (lo := -1) (hi := 8) (by omega) (by omega) (by decide +kernel)
                  have xz124 := tk_xa xz124 (fun _ h => h.2) (pq := pqC) (C := C117) tz119 ⟨(0, 5), by decide, by dsimp only; omega, by dsimp only; omega⟩; have kz124 := congrArg Int32.toInt xz124
                  have e124 : z124.toInt = z116.toInt := by rw [kz124]; exact q117
                  refine lv_aload_n hx hb dX12_castsBy_125 rfl (lv_at hl 2 rfl) ?_
                  refine hr_getR B hF hb hW (ci := 12) (j := 6) (cd := 3) t0 rfl (isF (by decide +kernel)) rfl dX12_castsBy_126 (fun az126 tz126 xz126 => ?_)
                  refine hr_ic hx hb dX12_castsBy_129 (by decide) (fun z129 hz129 => ?_)
                  refine hr_iald B hb hW tz126 rfl (by omega) (by omega) dX12_castsBy_130 (fun z130 iz130 pz130 xz130 => ?_)
                  have iz130 := hr_inr iz130 (a := 2) (b := 2) (lo := 0) (hi := 8) (by omega) (by omega) (by decide +kernel)
                  have xz130 := tk_xa xz130 (fun _ h => h.2) (pq := pqC) (C := C117) tz126 ⟨(2, 2), by decide, by dsimp only; omega, by dsimp only; omega⟩; have kz130 := congrArg Int32.toInt xz130
                  have e130 : z130.toInt = M := by rw [kz130, show z129.toInt.toNat = 2 by omega]; exact m1
                  refine hr_ne (tgt := 140) hx hb dX12_castsBy_131 (by decide) (fun h131 => ?_) (fun h131 => ?_)
                  · refine lv_aload_n hx hb dX12_castsBy_140 rfl (lv_at hl 2 rfl) ?_
                    refine lv_iload hx hb dX12_castsBy_141 (lv_at hl 0 rfl) ?_
                    refine lv_iload_n hx hb dX12_castsBy_143 rfl (lv_at hl 3 rfl) ?_
                    refine cm_callV (kc := kc_219) B rfl hb hl (hM.1 _ _ 0 [219] (isM (by decide +kernel)) 219 (by decide)) (hHA _ (hX2 _) 219 (by decide)) (b := a0) (As := [.int i, .int x1]) ⟨hr_aR t0, hr_aI (by omega) (by omega), hr_aI (by omega) (by omega), True.intro⟩ hp hW hS rfl (by decide) (by decide) (Nat.le_of_ble_eq_true rfl) dX12_castsBy_144 (fun cs hcs r pvv144 H locs hca hW hS => ?_)
                    rcases List.mem_cons.mp hcs with rfl | hcs
                    · obtain ⟨hr, hq, hc⟩ := hca
                      obtain ⟨z144, rfl, lz144, uz144⟩ := hr_rvI hr
                      have hW := hr_pvE (hr_sameA hc rfl (by decide +kernel)) hW
                      refine hr_eq0 (tgt := 102) hx hb dX12_castsBy_147 (by decide) (fun h147 => ?_) (fun h147 => ?_)
                      · refine ih102 i nn C117 _ _ _ ?_ (by omega) (by omega) (by omega) (by omega) m1 (fun q hq => ?_) (lv_sub hl [0, 1, 2, 3, 4] rfl) hW hS
                        · have := mu_up (f := fun q => (C 39 q).toInt) (g := fun q => (C117 39 q).toInt) (M := M) (d := i.toInt.toNat) (fun k hk => o117 k (by omega)) (by omega)
                          rw [show (i.toInt + 1).toNat = i.toInt.toNat + 1 by omega] at hm102 ⊢; omega
                        · by_cases e : q = i.toInt.toNat
                          · subst e; omega
                          · rw [o117 q e]; exact fM q (by omega)
                      · omega
                    obtain rfl := List.mem_singleton.mp hcs
                    obtain ⟨hr, hq, hc⟩ := hca
                    obtain ⟨z144, rfl, lz144, uz144⟩ := hr_rvI hr
                    have hW := hr_pvE (hr_sameA hc rfl (by decide +kernel)) hW
                    refine hr_eq0 (tgt := 102) hx hb dX12_castsBy_147 (by decide) (fun h147 => ?_) (fun h147 => ?_)
                    · omega
                    · refine lv_iload hx hb dX12_castsBy_150 (lv_at hl 0 rfl) ?_
                      refine lv_iload_n hx hb dX12_castsBy_152 rfl (lv_at hl 1 rfl) ?_
                      refine hr_ic hx hb dX12_castsBy_153 (by decide) (fun z153 hz153 => ?_)
                      refine hr_sub hx hb dX12_castsBy_154 (by omega) (by omega) (fun z154 hz154 => ?_)
                      refine hr_ne (tgt := 167) hx hb dX12_castsBy_155 (by decide) (fun h155 => ?_) (fun h155 => ?_)
                      · refine hr_inc hx hb dX12_castsBy_167 hl (kq := 0) (lv' := fun v => [(4, .int v), (3, .int nn), (0, .ref a0), (1, .int x1), (2, .int x2)]) rfl (by decide) (by decide) (by omega) (by omega) (fun _ => rfl) (fun z167 ls hz167 hl => ?_)
                        refine lv_aload_n hx hb dX12_castsBy_170 rfl (lv_at hl 2 rfl) ?_
                        refine hr_getR B hF hb hW (ci := 12) (j := 24) (cd := 3) t0 rfl (isF (by decide +kernel)) rfl dX12_castsBy_171 (fun az171 tz171 xz171 => ?_)
                        refine lv_iload hx hb dX12_castsBy_174 (lv_at hl 0 rfl) ?_
                        refine hr_ic hx hb dX12_castsBy_176 (by decide) (fun z176 hz176 => ?_)
                        refine hr_iastN (Ex' := fun ws => Ex ws ∧ tk ty pqC (tk_upd C117 39 (z167.toInt.toNat) z176) ws) B hb hU hW hS tz171 rfl (by omega) (by omega) (hr_ins (a := 0) (b := 5) (lo := -1) (hi := 8) (by omega) (by omega) (by decide +kernel) (by omega) (by omega)) (fun ws q f hD hE hq => ⟨hr_EA (i := z167) hX tz171 (u := 0) (v := 5) (by omega) (by omega) (by decide) ws q f hD hE.1 hq, tk_EA tz171 (fun a h => hun 39 (by decide) _ _ tz171 h) ws q f hD hE.2 hq⟩) (u := 0) (v := 5) (by omega) (by omega) (by decide) dX12_castsBy_177 (fun H locs hW hS => ?_)
                        obtain ⟨C177, c177⟩ : ∃ f, f = tk_upd C117 39 (z167.toInt.toNat) z176 := ⟨_, rfl⟩
                        rw [← c177] at hW
                        have m177 : (C177 34 2).toInt = M := by rw [c177, tk_unt (by decide)]; exact m1
                        have m1 := m177
                        have q177 : (C177 39 (z167.toInt.toNat)).toInt = z176.toInt := by rw [c177, tk_us]
                        have o177 : ∀ k, k ≠ z167.toInt.toNat → (C177 39 k).toInt = (C117 39 k).toInt := fun k hk => by rw [c177, tk_unj hk]
                        refine lv_goto (tgt := 102) hx hb dX12_castsBy_178 (by decide) ?_
                        refine ih102 z167 nn C177 _ _ _ ?_ (by omega) (by omega) (by omega) (by omega) m1 (fun q hq => ?_) (lv_sub hl [0, 1, 2, 3, 4] rfl) hW hS
                        · have := mu_push (f := fun q => (C 39 q).toInt) (g := fun q => (C177 39 q).toInt) (M := M) (d := i.toInt.toNat) (fun k hk => by rw [o177 k (by omega)]; exact o117 k (by omega)) (by rw [o177 _ (by omega)]; omega) (by omega) (by rw [show i.toInt.toNat + 1 = z167.toInt.toNat by omega, q177]; omega) (by omega)
                          rw [show (z167.toInt + 1).toNat = i.toInt.toNat + 2 by omega]; rw [show (i.toInt + 1).toNat = i.toInt.toNat + 1 by omega] at hm102; omega
                        · by_cases e2 : q = z167.toInt.toNat
                          · subst e2; omega
                          · rw [o177 q e2]
                            by_cases e : q = i.toInt.toNat
                            · subst e; omega
                            · rw [o117 q e]; exact fM q (by omega)
                      · refine lv_aload_n hx hb dX12_castsBy_158 rfl (lv_at hl 2 rfl) ?_
                        refine lv_iload_n hx hb dX12_castsBy_159 rfl (lv_at hl 1 rfl) ?_
                        refine lv_iload_n hx hb dX12_castsBy_160 rfl (lv_at hl 4 rfl) ?_
                        refine cm_callV (kc := kc_215) B rfl hb hl (hM.1 _ _ 0 [215] (isM (by decide +kernel)) 215 (by decide)) (hHA _ (hX2 _) 215 (by decide)) (b := a0) (As := [.int nn, .int x2]) ⟨hr_aR t0, hr_aI (by omega) (by omega), hr_aF, True.intro⟩ hp hW hS rfl (by decide) (by decide) (Nat.le_of_ble_eq_true rfl) dX12_castsBy_161 (fun cs hcs r pvv161 H locs hca hW hS => ?_)
                        obtain rfl := List.mem_singleton.mp hcs
                        obtain ⟨hr, hq, hc⟩ := hca
                        obtain rfl := hr_rv0 hr
                        have hW := hr_pvE (hr_sameA hc rfl (by decide +kernel)) hW
                        refine lv_goto (tgt := 102) hx hb dX12_castsBy_164 (by decide) ?_
                        refine ih102 i nn C117 _ _ _ ?_ (by omega) (by omega) (by omega) (by omega) m1 (fun q hq => ?_) (lv_sub hl [0, 1, 2, 3, 4] rfl) hW hS
                        · have := mu_up (f := fun q => (C 39 q).toInt) (g := fun q => (C117 39 q).toInt) (M := M) (d := i.toInt.toNat) (fun k hk => o117 k (by omega)) (by omega)
                          rw [show (i.toInt + 1).toNat = i.toInt.toNat + 1 by omega] at hm102 ⊢; omega
                        · by_cases e : q = i.toInt.toNat
                          · subst e; omega
                          · rw [o117 q e]; exact fM q (by omega)
                  · refine hr_inc hx hb dX12_castsBy_134 hl (kq := 0) (lv' := fun v => [(4, .int v), (3, .int nn), (0, .ref a0), (1, .int x1), (2, .int x2)]) rfl (by decide) (by decide) (by omega) (by omega) (fun _ => rfl) (fun z134 ls hz134 hl => ?_)
                    refine lv_goto (tgt := 102) hx hb dX12_castsBy_137 (by decide) ?_
                    refine ih102 z134 nn C117 _ _ _ ?_ (by omega) (by omega) (by omega) (by omega) m1 (fun q hq => ?_) (lv_sub hl [0, 1, 2, 3, 4] rfl) hW hS
                    · have := mu_pop (f := fun q => (C 39 q).toInt) (g := fun q => (C117 39 q).toInt) (M := M) (d := i.toInt.toNat) (fun k hk => o117 k (by omega)) (fM i.toInt.toNat (by omega))
                      rw [show (z134.toInt + 1).toNat = i.toInt.toNat by omega]; rw [show (i.toInt + 1).toNat = i.toInt.toNat + 1 by omega] at hm102; omega
                    · rw [o117 q (by omega)]; exact fM q (by omega)
            refine hr_iastN (Ex' := fun ws => Ex ws ∧ tk ty pqC (tk_upd C 39 (z99.toInt.toNat) z100) ws) B hb hU hW hS tz96 rfl (by omega) (by omega) (hr_ins (a := 0) (b := 5) (lo := -1) (hi := 8) (by omega) (by omega) (by decide +kernel) (by omega) (by omega)) (fun ws q f hD hE hq => ⟨hr_EA (i := z99) hX tz96 (u := 0) (v := 5) (by omega) (by omega) (by decide) ws q f hD hE.1 hq, tk_EA tz96 (fun a h => hun 39 (by decide) _ _ tz96 h) ws q f hD hE.2 hq⟩) (u := 0) (v := 5) (by omega) (by omega) (by decide) dX12_castsBy_101 (fun H locs hW hS => ?_)
            obtain ⟨C101, c101⟩ : ∃ f, f = tk_upd C 39 (z99.toInt.toNat) z100 := ⟨_, rfl⟩
            rw [← c101] at hW
            have m101 : (C101 34 2).toInt = M := by rw [c101, tk_unt (by decide)]; exact m1
            have m1 := m101
            have q101 : (C101 39 (z99.toInt.toNat)).toInt = z100.toInt := by rw [c101, tk_us]
            have o101 : ∀ k, k ≠ z99.toInt.toNat → (C101 39 k).toInt = (C 39 k).toInt := fun k hk => by rw [c101, tk_unj hk]
            have e9 : (z92.toInt + 1).toNat = 1 := by omega
            have q8 : (C101 39 0).toInt = -1 := by rw [show (0 : Nat) = z99.toInt.toNat by omega, q101, hz100]
            refine l102 1000000 z92 nn C101 _ _ _ ?_ (by omega) (by omega) (by omega) (by omega) m1 (fun q hq => ?_) (lv_sub hl [0, 1, 2, 3, 4] rfl) hW hS
            · rw [e9]; show (0 : Int) + mu_w 0 * (M - (C101 39 0).toInt) < (1000000 : Nat); rw [q8]; rw [show mu_w 0 = 100000 from rfl]; omega
            · have : q = 0 := by omega
              subst this; rw [q8]; omega
          · refine lv_aload_n hx hb dX12_castsBy_85 rfl (lv_at hl 2 rfl) ?_
            refine hr_ic hx hb dX12_castsBy_86 (by decide) (fun z86 hz86 => ?_)
            refine lv_iload_n hx hb dX12_castsBy_87 rfl (lv_at hl 4 rfl) ?_
            refine cm_callV (kc := kc_215) B rfl hb hl (hM.1 _ _ 0 [215] (isM (by decide +kernel)) 215 (by decide)) (hH 215 (by decide)) (b := a0) (As := [.int z86, .int x2]) ⟨hr_aR t0, hr_aI (by omega) (by omega), hr_aF, True.intro⟩ hp hW hS rfl (by decide) (by decide) (Nat.le_of_ble_eq_true rfl) dX12_castsBy_88 (fun cs hcs r pvv88 H locs hca hW hS => ?_)
            obtain rfl := List.mem_singleton.mp hcs
            obtain ⟨hr, hq, hc⟩ := hca
            obtain rfl := hr_rv0 hr
            have hW := hr_pvE (hr_sameA hc rfl (by decide +kernel)) hW
            exact cm_vret B hb rfl ⟨_, List.mem_cons_self, True.intro, (fun q h => nomatch h), hr_wk (hr_self hp0) (by decide +kernel)⟩ hW hS dX12_castsBy_91
        · omega
      obtain rfl := List.mem_singleton.mp hcs
      obtain ⟨hr, hq, hc⟩ := hca
      obtain ⟨z74, rfl, lz74, uz74⟩ := hr_rvI hr
      have hW := hr_pvE (hr_sameA hc rfl (by decide +kernel)) hW
      refine hr_eq0 (tgt := 81) hx hb dX12_castsBy_77 (by decide) (fun h77 => ?_) (fun h77 => ?_)
      · omega
      · exact cm_vret B hb rfl ⟨_, List.mem_cons_self, True.intro, (fun q h => nomatch h), hr_wk (hr_self hp0) (by decide +kernel)⟩ hW hS dX12_castsBy_80
  have l15 : ∀ (n15 : Nat) (k : Int32) (nn : Int32) (ls : Array Slot) (H : Heap) (locs : List Loc), 6 - k.toInt < n15 → (0 ≤ nn.toInt) → (nn.toInt ≤ k.toInt) → (k.toInt ≤ 6) → lv_has ls 5 [(4, .int k), (3, .int nn), (0, .ref a0), (1, .int x1), (2, .int x2)] → ck_Wo D cys ty ck_tags ck_pvs0 Ex pvv0 H → va_S (ck_own ty) s.heap H locs → W p l e (ck_rm (ck_tab 318)) s m [Value.ref a0, Value.int x1, Value.int x2].toArray below meth c H locs 0 0 (MQ below (ck_Qc D cys ty ck_tags ck_pvs0 Ex (ck_tab 318) [Value.ref a0, Value.int x1, Value.int x2] pvv0) [Value.ref a0, Value.int x1, Value.int x2].toArray s 0 0 (ck_own ty)) (F0 m 15 ls []) := by
    intro n15
    induction n15 with
    | zero => intro k nn ls H locs hm15 k1 k2 k3 hl hW hS; omega
    | succ n15 ih15 =>
      intro k nn ls H locs hm15 k1 k2 k3 hl hW hS
      refine lv_iload hx hb dX12_castsBy_15 (lv_at hl 0 rfl) ?_
      refine lv_aload_n hx hb dX12_castsBy_17 rfl (lv_at hl 2 rfl) ?_
      refine hr_getR B hF hb hW (ci := 12) (j := 6) (cd := 3) t0 rfl (isF (by decide +kernel)) rfl dX12_castsBy_18 (fun az18 tz18 xz18 => ?_)
      refine hr_ic hx hb dX12_castsBy_21 (by decide) (fun z21 hz21 => ?_)
      refine hr_iald B hb hW tz18 rfl (by omega) (by omega) dX12_castsBy_22 (fun z22 iz22 pz22 xz22 => ?_)
      have iz22 := hr_inr iz22 (a := 0) (b := 0) (lo := 0) (hi := 6) (by omega) (by omega) (by decide +kernel)
      refine hr_ge (tgt := 73) hx hb dX12_castsBy_23 (by decide) (fun h23 => ?_) (fun h23 => ?_)
      · exact l73 1 k nn _ _ _ (by omega) (by omega) (by omega) hl hW hS
      · refine lv_aload_n hx hb dX12_castsBy_26 rfl (lv_at hl 2 rfl) ?_
        refine cm_callV (kc := kc_216) B rfl hb hl (hM.1 _ _ 0 [216] (isM (by decide +kernel)) 216 (by decide)) (hH 216 (by decide)) (b := a0) (As := []) ⟨hr_aR t0, True.intro⟩ hp hW hS rfl (by decide) (by decide) (Nat.le_of_ble_eq_true rfl) dX12_castsBy_27 (fun cs hcs r pvv27 H locs hca hW hS => ?_)
        rcases List.mem_cons.mp hcs with rfl | hcs
        · obtain ⟨hr, hq, hc⟩ := hca
          obtain ⟨z27, rfl, lz27, uz27⟩ := hr_rvI hr
          have hW := hr_pvE (hr_sameA hc rfl (by decide +kernel)) hW
          refine hr_ne0 (tgt := 73) hx hb dX12_castsBy_30 (by decide) (fun h30 => ?_) (fun h30 => ?_)
          · omega
          · refine lv_aload_n hx hb dX12_castsBy_33 rfl (lv_at hl 2 rfl) ?_
            refine lv_aload_n hx hb dX12_castsBy_34 rfl (lv_at hl 2 rfl) ?_
            refine hr_getR B hF hb hW (ci := 12) (j := 6) (cd := 3) t0 rfl (isF (by decide +kernel)) rfl dX12_castsBy_35 (fun az35 tz35 xz35 => ?_)
            refine hr_sp hx hb dX12_castsBy_38 (by decide) (by decide) (fun z38 hz38 => ?_)
            refine hr_iald B hb hW tz35 rfl (by omega) (by omega) dX12_castsBy_41 (fun z41 iz41 pz41 xz41 => ?_)
            have iz41 := hr_inr iz41 (a := 140) (b := 140) (lo := 0) (hi := 6) (by omega) (by omega) (by decide +kernel)
            have pz41 := congrArg Int32.toInt (pz41 16 (by rw [show z38.toInt.toNat = 140 by omega]; rfl))
            refine cm_callV (kc := kc_200) B rfl hb hl (hM.1 _ _ 0 [200] (isM (by decide +kernel)) 200 (by decide)) (hH 200 (by decide)) (b := a0) (As := [.int z41]) ⟨hr_aR t0, hr_aF, True.intro⟩ hp hW hS rfl (by decide) (by decide) (Nat.le_of_ble_eq_true rfl) dX12_castsBy_42 (fun cs hcs r pvv42 H locs hca hW hS => ?_)
            obtain rfl := List.mem_singleton.mp hcs
            obtain ⟨hr, hq, hc⟩ := hca
            obtain ⟨z42, rfl, lz42, uz42⟩ := hr_rvI hr
            have hW := hr_pvE (hr_sameA hc rfl (by decide +kernel)) hW
            refine lv_iload hx hb dX12_castsBy_45 (lv_at hl 0 rfl) ?_
            refine cm_callS (kc := kc_202) B rfl hb hl (hM.1 _ _ 1 [202] (isM (by decide +kernel)) 202 (by decide)) (hH 202 (by decide)) (As := [.int z42, .int k]) ⟨hr_aF, hr_aF, True.intro⟩ hp hW hS rfl (by decide) (by decide) (Nat.le_of_ble_eq_true rfl) dX12_castsBy_47 (fun cs hcs r pvv47 H locs hca hW hS => ?_)
            rcases List.mem_cons.mp hcs with rfl | hcs
            · obtain ⟨hr, hq, hc⟩ := hca
              obtain ⟨z47, rfl, lz47, uz47⟩ := hr_rvI hr
              have hW := hr_pvE (hr_sameA hc rfl (by decide +kernel)) hW
              refine hr_ne0 (tgt := 56) hx hb dX12_castsBy_50 (by decide) (fun h50 => ?_) (fun h50 => ?_)
              · omega
              · refine lv_goto (tgt := 67) hx hb dX12_castsBy_53 (by decide) ?_
                refine hr_inc hx hb dX12_castsBy_67 hl (kq := 0) (lv' := fun v => [(4, .int v), (3, .int nn), (0, .ref a0), (1, .int x1), (2, .int x2)]) rfl (by decide) (by decide) (by omega) (by omega) (fun _ => rfl) (fun z67 ls hz67 hl => ?_)
                refine lv_goto (tgt := 15) hx hb dX12_castsBy_70 (by decide) ?_
                exact ih15 z67 nn _ _ _ (by omega) (by omega) (by omega) (by omega) hl hW hS
            obtain rfl := List.mem_singleton.mp hcs
            obtain ⟨hr, hq, hc⟩ := hca
            obtain ⟨z47, rfl, lz47, uz47⟩ := hr_rvI hr
            have hW := hr_pvE (hr_sameA hc rfl (by decide +kernel)) hW
            refine hr_ne0 (tgt := 56) hx hb dX12_castsBy_50 (by decide) (fun h50 => ?_) (fun h50 => ?_)
            · refine lv_aload_n hx hb dX12_castsBy_56 rfl (lv_at hl 2 rfl) ?_
              refine hr_getR B hF hb hW (ci := 12) (j := 23) (cd := 3) t0 rfl (isF (by decide +kernel)) rfl dX12_castsBy_57 (fun az57 tz57 xz57 => ?_)
              refine lv_iload_n hx hb dX12_castsBy_60 rfl (lv_at hl 1 rfl) ?_
              refine lv_iload hx hb dX12_castsBy_61 (lv_at hl 0 rfl) ?_
              refine hr_iastN B hb hU hW hS tz57 rfl (by omega) (by omega) (hr_ins (a := 0) (b := 5) (lo := 0) (hi := 5) (by omega) (by omega) (by decide +kernel) (by omega) (by omega)) (hr_EA (i := nn) hX tz57 (u := 0) (v := 5) (by omega) (by omega) (by decide)) (u := 0) (v := 5) (by omega) (by omega) (by decide) dX12_castsBy_63 (fun H locs hW hS => ?_)
              refine hr_inc hx hb dX12_castsBy_64 hl (kq := 1) (lv' := fun v => [(3, .int v), (4, .int k), (0, .ref a0), (1, .int x1), (2, .int x2)]) rfl (by decide) (by decide) (by omega) (by omega) (fun _ => rfl) (fun z64 ls hz64 hl => ?_)
              refine hr_inc hx hb dX12_castsBy_67 hl (kq := 1) (lv' := fun v => [(4, .int v), (3, .int z64), (0, .ref a0), (1, .int x1), (2, .int x2)]) rfl (by decide) (by decide) (by omega) (by omega) (fun _ => rfl) (fun z67 ls hz67 hl => ?_)
              refine lv_goto (tgt := 15) hx hb dX12_castsBy_70 (by decide) ?_
              exact ih15 z67 z64 _ _ _ (by omega) (by omega) (by omega) (by omega) hl hW hS
            · omega
        obtain rfl := List.mem_singleton.mp hcs
        obtain ⟨hr, hq, hc⟩ := hca
        obtain ⟨z27, rfl, lz27, uz27⟩ := hr_rvI hr
        have hW := hr_pvE (hr_sameA hc rfl (by decide +kernel)) hW
        refine hr_ne0 (tgt := 73) hx hb dX12_castsBy_30 (by decide) (fun h30 => ?_) (fun h30 => ?_)
        · exact l73 1 k nn _ _ _ (by omega) (by omega) (by omega) hl hW hS
        · omega
  refine lv_aload_n hx hb dX12_castsBy_0 rfl (lv_at hl 0 rfl) ?_
  refine hr_ic hx hb dX12_castsBy_1 (by decide) (fun z1 hz1 => ?_)
  refine hr_putN B hF hb hU hW hS (ci := 12) (j := 26) (cd := 0) t0 rfl (isF (by decide +kernel)) rfl (ck_lo _) (ck_hi _) (Or.inl rfl) (hr_EO hX t0 (by decide)) (by decide) dX12_castsBy_2 (fun H locs hW hS => ?_)
  refine lv_aload_n hx hb dX12_castsBy_5 rfl (lv_at hl 0 rfl) ?_
  refine hr_ic hx hb dX12_castsBy_6 (by decide) (fun z6 hz6 => ?_)
  refine hr_putN B hF hb hU hW hS (ci := 12) (j := 30) (cd := 0) t0 rfl (isF (by decide +kernel)) rfl (ck_lo _) (ck_hi _) (Or.inl rfl) (hr_EO hX t0 (by decide)) (by decide) dX12_castsBy_7 (fun H locs hW hS => ?_)
  refine hr_ic hx hb dX12_castsBy_10 (by decide) (fun z10 hz10 => ?_)
  refine lv_istore_n hx hb dX12_castsBy_11 rfl hl (lv' := [(3, .int z10), (0, .ref a0), (1, .int x1), (2, .int x2)]) (by decide) rfl (fun ls hl => ?_)
  refine hr_ic hx hb dX12_castsBy_12 (by decide) (fun z12 hz12 => ?_)
  refine lv_istore hx hb dX12_castsBy_13 hl (lv' := [(4, .int z12), (3, .int z10), (0, .ref a0), (1, .int x1), (2, .int x2)]) (by decide) rfl (fun ls hl => ?_)
  exact l15 7 z12 z10 _ _ _ (by omega) (by omega) (by omega) (by omega) hl hW hS
end H26b

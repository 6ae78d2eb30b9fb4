/-! BY HAND, 6: prices; clap and endAct, whose row of men is read again behind calls. -/
section H24
variable {l : Launch} {D : va_G} {cys : Nat → ClassId} {ty : Nat → Option Nat} {tg : List ck_TD} {pvT : List (Nat × Nat)} {Ex : va_W → Prop} {pvv : Nat → Int32} {H : Heap} {prot prot' : Nat → List (Nat × Nat)}
theorem ExP_mono (hs : ∀ t j, ck_pr (prot t) j → ck_pr (prot' t) j) (hl : ∀ t, prot' t = [] → prot t = []) (hX : ck_ExP ty prot Ex) : ck_ExP ty prot' Ex := by
  intro ws q a t en en' hD hq hta hag hE
  refine hX ws q a t en en' hD hq hta ?_ hE
  match en, en', hag with
  | .inr o1, .inr o2, hag => exact ⟨hag.1, hag.2.1, fun k hk => hag.2.2 k (hs t k hk)⟩
  | .inl a1, .inl a2, hag =>
    obtain ⟨h1, h2, h3⟩ := hag
    refine ⟨h1, h2, ?_⟩
    obtain ⟨b1, b2, b3⟩ := a1
    obtain ⟨d1, d2, d3⟩ := a2
    match b3, d3, h3 with
    | .inl f, .inl g, h3 => exact fun k hk => h3 k (hs t k hk)
    | .inr (.inl _), .inr (.inl _), h3 => exact fun k hk => h3 k (hs t k hk)
theorem ExP_and {Ex' : va_W → Prop} (h1 : ck_ExP ty prot Ex) (h2 : ck_ExP ty prot Ex') : ck_ExP ty prot (fun ws => Ex ws ∧ Ex' ws) := fun ws q a t en en' hD hq hta hag hE => ⟨h1 ws q a t en en' hD hq hta hag hE.1, h2 ws q a t en en' hD hq hta hag hE.2⟩
def te (a0 a8 : Nat) (cy : ClassId) (f : Nat → Int32) (ws : va_W) : Prop := (∃ (q : Nat) (fs : List Value), ws[q]? = some (a0, .inr (2, fs)) ∧ fs[8]? = some (.ref a8)) ∧ ta a8 cy 6 f ws
theorem hr_trf (hW : ck_Wo D cys ty ck_tags pvT Ex pvv H) {a0 : Nat} (hta : ty a0 = some 2) : ∃ (a8 : Nat) (f : Nat → Int32), ty a8 = some 26 ∧ ck_Wo D cys ty ck_tags pvT (fun ws => Ex ws ∧ te a0 a8 (cys 0) f ws) pvv H := by
  obtain ⟨ws, h1, h2, h3, h4, h5⟩ := hW
  obtain ⟨q0, fs0, g0, -, f0⟩ := cm_obj h3 hta rfl
  obtain ⟨_, e8, a8, rfl, t8⟩ := f0 8 _ rfl
  obtain ⟨q, f, g1, -⟩ := ck_arrI h3 t8 rfl (by decide)
  exact ⟨a8, f, t8, ws, h1, h2, h3, h4, h5, ⟨q0, fs0, g0, e8⟩, q, f, g1, fun _ _ => rfl⟩
theorem te_xo {a0 a8 a : Nat} {cy : ClassId} {f : Nat → Int32} (h : hr_xo ty (fun ws => Ex ws ∧ te a0 a8 cy f ws) a0 2 8 (.ref a)) : a8 = a := by
  obtain ⟨ws, q, fs, h1, h2, h3, h4⟩ := h
  obtain ⟨q', fs', h5, h6⟩ := h2.2.1
  have h7 := (ck_D1 h1 h3 h5).2
  cases h7
  rw [h4] at h6
  cases h6
  rfl
theorem te_xa {a0 a8 i : Nat} {cy : ClassId} {f : Nat → Int32} {z : Int32} (h : hr_xa ty (fun ws => Ex ws ∧ te a0 a8 cy f ws) a8 cy 6 i z) (hi : i < 6) : z = f i := by
  obtain ⟨ws, q, g, h1, h2, h3, h4⟩ := h
  exact ta_xa (Ex := Ex) ⟨ws, q, g, h1, ⟨h2.1, h2.2.2⟩, h3, h4⟩ hi
theorem te_ExP {a0 a8 : Nat} {cy : ClassId} {f : Nat → Int32} (t0 : ty a0 = some 2) (t8 : ty a8 = some 26) : ck_ExP ty ck_protA (te a0 a8 cy f) := by
  intro ws q a t en en' hD hq hta hag hE
  have hlt : q < ws.length := (List.getElem?_eq_some_iff.mp hq).1
  obtain ⟨⟨q1, fs, h1, h2⟩, q2, g, h3, h4⟩ := hE
  refine ⟨?_, ?_⟩
  · by_cases e : q = q1
    · subst e
      rw [hq] at h1
      cases h1
      rw [t0] at hta
      cases hta
      match en', hag with
      | .inr o2, hag =>
        obtain ⟨c2, fs2⟩ := o2
        obtain ⟨w1, -, w3⟩ := hag
        dsimp only at w1 w3
        subst w1
        exact ⟨q, fs2, by rw [List.getElem?_set_self hlt], by rw [← w3 8 ⟨(8, 12), by decide, by decide, by decide⟩]; exact h2⟩
    · exact ⟨q1, fs, by rw [List.getElem?_set_ne e]; exact h1, h2⟩
  · by_cases e : q = q2
    · subst e
      rw [hq] at h3
      cases h3
      rw [t8] at hta
      cases hta
      match en', hag with
      | .inl o2, hag =>
        obtain ⟨c2, n2, d2⟩ := o2
        obtain ⟨w1, w2, w3⟩ := hag
        dsimp only at w1 w2 w3
        subst w1 w2
        match d2, w3 with
        | .inl g2, w3 => exact ⟨q, g2, by rw [List.getElem?_set_self hlt], fun j hj => by rw [← w3 j ⟨(0, 5), by decide, by dsimp only; omega, by dsimp only; omega⟩]; exact h4 j hj⟩
    · exact ⟨q2, g, by rw [List.getElem?_set_ne e]; exact h3, h4⟩
end H24
/-- the larger protects what the smaller does -/
theorem pr0A : ∀ t j, ck_pr (ck_prot0 t) j → ck_pr (ck_protA t) j := by
  intro t j h
  have key : ∀ t, t < 112 → (ck_prot0 t).all (fun q => (ck_protA t).contains q) = true := by decide
  by_cases ht : t < 112
  · obtain ⟨q, hq, h1⟩ := h
    exact ⟨q, by simpa using List.all_eq_true.mp (key t ht) q hq, h1⟩
  · exfalso
    obtain ⟨q, hq, -⟩ := h
    have : ck_prot0 t = [] := by
      unfold ck_prot0
      split <;> first | omega | rfl
    rw [this] at hq
    cases hq
theorem pr0Al : ∀ t, ck_protA t = [] → ck_prot0 t = [] := by
  intro t h
  match hq : ck_prot0 t with
  | [] => rfl
  | q :: r =>
    exfalso
    by_cases e : q.1 ≤ q.2
    · obtain ⟨q', h1, -⟩ := pr0A t q.1 ⟨q, by rw [hq]; exact List.mem_cons_self, Nat.le_refl _, e⟩
      rw [h] at h1
      cases h1
    · have key : ∀ t, t < 112 → (ck_prot0 t).all (fun q => decide (q.1 ≤ q.2)) = true := by decide
      by_cases ht : t < 112
      · have := List.all_eq_true.mp (key t ht) q (by rw [hq]; exact List.mem_cons_self)
        exact e (of_decide_eq_true this)
      · have : ck_prot0 t = [] := by
          unfold ck_prot0
          split <;> first | omega | rfl
        rw [this] at hq
        cases hq
section H24b
variable {l : Launch} {D : va_G} {cys : Nat → ClassId} {ty : Nat → Option Nat} {Ex : va_W → Prop}
theorem dX12_prices_0 : decode cX12_prices 0 = .ok (.aload_n 0, 1) := by decide +kernel
theorem dX12_prices_1 : decode cX12_prices 1 = .ok (.iconst 0, 1) := by decide +kernel
theorem dX12_prices_2 : decode cX12_prices 2 = .ok (.putfield 1, 3) := by decide +kernel
theorem dX12_prices_5 : decode cX12_prices 5 = .ok (.aload_n 0, 1) := by decide +kernel
theorem dX12_prices_6 : decode cX12_prices 6 = .ok (.invokevirtual 280, 3) := by decide +kernel
theorem dX12_prices_9 : decode cX12_prices 9 = .ok (.ifCond .eq 5, 3) := by decide +kernel
theorem dX12_prices_12 : decode cX12_prices 12 = .ok (.iconst (-1), 1) := by decide +kernel
theorem dX12_prices_13 : decode cX12_prices 13 = .ok (.ireturn, 1) := by decide +kernel
theorem dX12_prices_14 : decode cX12_prices 14 = .ok (.iconst 0, 1) := by decide +kernel
theorem dX12_prices_15 : decode cX12_prices 15 = .ok (.istore_n 1, 1) := by decide +kernel
theorem dX12_prices_16 : decode cX12_prices 16 = .ok (.iload_n 1, 1) := by decide +kernel
theorem dX12_prices_17 : decode cX12_prices 17 = .ok (.bipush 6, 2) := by decide +kernel
theorem dX12_prices_19 : decode cX12_prices 19 = .ok (.if_icmp .ge 16, 3) := by decide +kernel
theorem dX12_prices_22 : decode cX12_prices 22 = .ok (.aload_n 0, 1) := by decide +kernel
theorem dX12_prices_23 : decode cX12_prices 23 = .ok (.getfield 71, 3) := by decide +kernel
theorem dX12_prices_26 : decode cX12_prices 26 = .ok (.iload_n 1, 1) := by decide +kernel
theorem dX12_prices_27 : decode cX12_prices 27 = .ok (.iconst 0, 1) := by decide +kernel
theorem dX12_prices_28 : decode cX12_prices 28 = .ok (.iastore, 1) := by decide +kernel
theorem dX12_prices_29 : decode cX12_prices 29 = .ok (.iinc 1 1, 3) := by decide +kernel
theorem dX12_prices_32 : decode cX12_prices 32 = .ok (.goto (-16), 3) := by decide +kernel
theorem dX12_prices_35 : decode cX12_prices 35 = .ok (.iconst 0, 1) := by decide +kernel
theorem dX12_prices_36 : decode cX12_prices 36 = .ok (.istore_n 1, 1) := by decide +kernel
theorem dX12_prices_37 : decode cX12_prices 37 = .ok (.iconst 1, 1) := by decide +kernel
theorem dX12_prices_38 : decode cX12_prices 38 = .ok (.istore_n 2, 1) := by decide +kernel
theorem dX12_prices_39 : decode cX12_prices 39 = .ok (.iload_n 2, 1) := by decide +kernel
theorem dX12_prices_40 : decode cX12_prices 40 = .ok (.ifCond .eq 130, 3) := by decide +kernel
theorem dX12_prices_43 : decode cX12_prices 43 = .ok (.iload_n 1, 1) := by decide +kernel
theorem dX12_prices_44 : decode cX12_prices 44 = .ok (.bipush 99, 2) := by decide +kernel
theorem dX12_prices_46 : decode cX12_prices 46 = .ok (.if_icmp .ge 124, 3) := by decide +kernel
theorem dX12_prices_49 : decode cX12_prices 49 = .ok (.iconst 0, 1) := by decide +kernel
theorem dX12_prices_50 : decode cX12_prices 50 = .ok (.istore_n 2, 1) := by decide +kernel
theorem dX12_prices_51 : decode cX12_prices 51 = .ok (.iinc 1 1, 3) := by decide +kernel
theorem dX12_prices_54 : decode cX12_prices 54 = .ok (.iconst 0, 1) := by decide +kernel
theorem dX12_prices_55 : decode cX12_prices 55 = .ok (.istore_n 3, 1) := by decide +kernel
theorem dX12_prices_56 : decode cX12_prices 56 = .ok (.iload_n 3, 1) := by decide +kernel
theorem dX12_prices_57 : decode cX12_prices 57 = .ok (.bipush 6, 2) := by decide +kernel
theorem dX12_prices_59 : decode cX12_prices 59 = .ok (.if_icmp .ge 16, 3) := by decide +kernel
theorem dX12_prices_62 : decode cX12_prices 62 = .ok (.aload_n 0, 1) := by decide +kernel
theorem dX12_prices_63 : decode cX12_prices 63 = .ok (.getfield 77, 3) := by decide +kernel
theorem dX12_prices_66 : decode cX12_prices 66 = .ok (.iload_n 3, 1) := by decide +kernel
theorem dX12_prices_67 : decode cX12_prices 67 = .ok (.iconst 0, 1) := by decide +kernel
theorem dX12_prices_68 : decode cX12_prices 68 = .ok (.iastore, 1) := by decide +kernel
theorem dX12_prices_69 : decode cX12_prices 69 = .ok (.iinc 3 1, 3) := by decide +kernel
theorem dX12_prices_72 : decode cX12_prices 72 = .ok (.goto (-16), 3) := by decide +kernel
theorem dX12_prices_75 : decode cX12_prices 75 = .ok (.iconst 0, 1) := by decide +kernel
theorem dX12_prices_76 : decode cX12_prices 76 = .ok (.istore_n 3, 1) := by decide +kernel
theorem dX12_prices_77 : decode cX12_prices 77 = .ok (.iload_n 3, 1) := by decide +kernel
theorem dX12_prices_78 : decode cX12_prices 78 = .ok (.aload_n 0, 1) := by decide +kernel
theorem dX12_prices_79 : decode cX12_prices 79 = .ok (.getfield 33, 3) := by decide +kernel
theorem dX12_prices_82 : decode cX12_prices 82 = .ok (.iconst 2, 1) := by decide +kernel
theorem dX12_prices_83 : decode cX12_prices 83 = .ok (.iaload, 1) := by decide +kernel
theorem dX12_prices_84 : decode cX12_prices 84 = .ok (.if_icmp .ge 44, 3) := by decide +kernel
theorem dX12_prices_87 : decode cX12_prices 87 = .ok (.aload_n 0, 1) := by decide +kernel
theorem dX12_prices_88 : decode cX12_prices 88 = .ok (.getfield 74, 3) := by decide +kernel
theorem dX12_prices_91 : decode cX12_prices 91 = .ok (.iload_n 3, 1) := by decide +kernel
theorem dX12_prices_92 : decode cX12_prices 92 = .ok (.aload_n 0, 1) := by decide +kernel
theorem dX12_prices_93 : decode cX12_prices 93 = .ok (.iload_n 3, 1) := by decide +kernel
theorem dX12_prices_94 : decode cX12_prices 94 = .ok (.invokevirtual 364, 3) := by decide +kernel
theorem dX12_prices_97 : decode cX12_prices 97 = .ok (.iastore, 1) := by decide +kernel
theorem dX12_prices_98 : decode cX12_prices 98 = .ok (.aload_n 0, 1) := by decide +kernel
theorem dX12_prices_99 : decode cX12_prices 99 = .ok (.getfield 74, 3) := by decide +kernel
theorem dX12_prices_102 : decode cX12_prices 102 = .ok (.iload_n 3, 1) := by decide +kernel
theorem dX12_prices_103 : decode cX12_prices 103 = .ok (.iaload, 1) := by decide +kernel
theorem dX12_prices_104 : decode cX12_prices 104 = .ok (.ifCond .lt 18, 3) := by decide +kernel
theorem dX12_prices_107 : decode cX12_prices 107 = .ok (.aload_n 0, 1) := by decide +kernel
theorem dX12_prices_108 : decode cX12_prices 108 = .ok (.getfield 77, 3) := by decide +kernel
theorem dX12_prices_111 : decode cX12_prices 111 = .ok (.aload_n 0, 1) := by decide +kernel
theorem dX12_prices_112 : decode cX12_prices 112 = .ok (.getfield 74, 3) := by decide +kernel
theorem dX12_prices_115 : decode cX12_prices 115 = .ok (.iload_n 3, 1) := by decide +kernel
theorem dX12_prices_116 : decode cX12_prices 116 = .ok (.iaload, 1) := by decide +kernel
theorem dX12_prices_117 : decode cX12_prices 117 = .ok (.dup2, 1) := by decide +kernel
theorem dX12_prices_118 : decode cX12_prices 118 = .ok (.iaload, 1) := by decide +kernel
theorem dX12_prices_119 : decode cX12_prices 119 = .ok (.iconst 1, 1) := by decide +kernel
theorem dX12_prices_120 : decode cX12_prices 120 = .ok (.iadd, 1) := by decide +kernel
theorem dX12_prices_121 : decode cX12_prices 121 = .ok (.iastore, 1) := by decide +kernel
theorem dX12_prices_122 : decode cX12_prices 122 = .ok (.iinc 3 1, 3) := by decide +kernel
theorem dX12_prices_125 : decode cX12_prices 125 = .ok (.goto (-48), 3) := by decide +kernel
theorem dX12_prices_128 : decode cX12_prices 128 = .ok (.iconst 0, 1) := by decide +kernel
theorem dX12_prices_129 : decode cX12_prices 129 = .ok (.istore_n 3, 1) := by decide +kernel
theorem dX12_prices_130 : decode cX12_prices 130 = .ok (.iload_n 3, 1) := by decide +kernel
theorem dX12_prices_131 : decode cX12_prices 131 = .ok (.bipush 6, 2) := by decide +kernel
theorem dX12_prices_133 : decode cX12_prices 133 = .ok (.if_icmp .ge 34, 3) := by decide +kernel
theorem dX12_prices_136 : decode cX12_prices 136 = .ok (.aload_n 0, 1) := by decide +kernel
theorem dX12_prices_137 : decode cX12_prices 137 = .ok (.getfield 77, 3) := by decide +kernel
theorem dX12_prices_140 : decode cX12_prices 140 = .ok (.iload_n 3, 1) := by decide +kernel
theorem dX12_prices_141 : decode cX12_prices 141 = .ok (.iaload, 1) := by decide +kernel
theorem dX12_prices_142 : decode cX12_prices 142 = .ok (.iconst 2, 1) := by decide +kernel
theorem dX12_prices_143 : decode cX12_prices 143 = .ok (.if_icmp .ge 6, 3) := by decide +kernel
theorem dX12_prices_146 : decode cX12_prices 146 = .ok (.goto 15, 3) := by decide +kernel
theorem dX12_prices_149 : decode cX12_prices 149 = .ok (.aload_n 0, 1) := by decide +kernel
theorem dX12_prices_150 : decode cX12_prices 150 = .ok (.getfield 71, 3) := by decide +kernel
theorem dX12_prices_153 : decode cX12_prices 153 = .ok (.iload_n 3, 1) := by decide +kernel
theorem dX12_prices_154 : decode cX12_prices 154 = .ok (.dup2, 1) := by decide +kernel
theorem dX12_prices_155 : decode cX12_prices 155 = .ok (.iaload, 1) := by decide +kernel
theorem dX12_prices_156 : decode cX12_prices 156 = .ok (.iconst 1, 1) := by decide +kernel
theorem dX12_prices_157 : decode cX12_prices 157 = .ok (.iadd, 1) := by decide +kernel
theorem dX12_prices_158 : decode cX12_prices 158 = .ok (.iastore, 1) := by decide +kernel
theorem dX12_prices_159 : decode cX12_prices 159 = .ok (.iconst 1, 1) := by decide +kernel
theorem dX12_prices_160 : decode cX12_prices 160 = .ok (.istore_n 2, 1) := by decide +kernel
theorem dX12_prices_161 : decode cX12_prices 161 = .ok (.iinc 3 1, 3) := by decide +kernel
theorem dX12_prices_164 : decode cX12_prices 164 = .ok (.goto (-34), 3) := by decide +kernel
theorem dX12_prices_167 : decode cX12_prices 167 = .ok (.goto (-128), 3) := by decide +kernel
theorem dX12_prices_170 : decode cX12_prices 170 = .ok (.aload_n 0, 1) := by decide +kernel
theorem dX12_prices_171 : decode cX12_prices 171 = .ok (.aload_n 0, 1) := by decide +kernel
theorem dX12_prices_172 : decode cX12_prices 172 = .ok (.getfield 33, 3) := by decide +kernel
theorem dX12_prices_175 : decode cX12_prices 175 = .ok (.iconst 0, 1) := by decide +kernel
theorem dX12_prices_176 : decode cX12_prices 176 = .ok (.iaload, 1) := by decide +kernel
theorem dX12_prices_177 : decode cX12_prices 177 = .ok (.putfield 80, 3) := by decide +kernel
theorem dX12_prices_180 : decode cX12_prices 180 = .ok (.aload_n 0, 1) := by decide +kernel
theorem dX12_prices_181 : decode cX12_prices 181 = .ok (.aload_n 0, 1) := by decide +kernel
theorem dX12_prices_182 : decode cX12_prices 182 = .ok (.getfield 33, 3) := by decide +kernel
theorem dX12_prices_185 : decode cX12_prices 185 = .ok (.iconst 2, 1) := by decide +kernel
theorem dX12_prices_186 : decode cX12_prices 186 = .ok (.iaload, 1) := by decide +kernel
theorem dX12_prices_187 : decode cX12_prices 187 = .ok (.putfield 367, 3) := by decide +kernel
theorem dX12_prices_190 : decode cX12_prices 190 = .ok (.iload_n 1, 1) := by decide +kernel
theorem dX12_prices_191 : decode cX12_prices 191 = .ok (.ireturn, 1) := by decide +kernel
set_option maxRecDepth 100000 in
set_option maxHeartbeats 4000000 in
theorem hk_12_prices (hF : ck_LKf ck_LK) (hM : ck_LKm ck_tags ck_LK ck_tab) (hU : ck_uq ty ck_pvs0) (hun : ck_un ty) (hX : ck_ExP ty ck_protA Ex) (hH : ∀ j, j < 266 → ck_Holds l D cys ty ck_tags ck_pvs0 Ex (ck_tab j)) : ck_Holds l D cys ty ck_tags ck_pvs0 Ex (ck_tab 266) := by
  refine cm_enter (by decide +kernel) (by decide +kernel) (by decide +kernel) ?_
  intro vs pvv0 p e s m below meth c ls ha hp B hl hW
  have hx := B.1
  have hb : c.code = cX12_prices := B.2.1
  have hI := pv_inj
  have hS : va_S (ck_own ty) s.heap s.heap [] := va_S.rf
  obtain ⟨_, rfl, ⟨a0, rfl, t0⟩⟩ := cm_a1 ha
  have hl : lv_has ls 4 [(0, .ref a0)] := hl
  have hp0 := hp
  have l39 : ∀ (n39 : Nat) (bb : Int32) (rr : Int32) (ls : Array Slot) (H : Heap) (locs : List Loc), 99 - rr.toInt < n39 → (0 ≤ rr.toInt) → (rr.toInt ≤ 99) → lv_has ls 4 [(2, .int bb), (1, .int rr), (0, .ref a0)] → ck_Wo D cys ty ck_tags ck_pvs0 Ex pvv0 H → va_S (ck_own ty) s.heap H locs → W p l e (ck_rm (ck_tab 266)) s m [Value.ref a0].toArray below meth c H locs 0 0 (MQ below (ck_Qc D cys ty ck_tags ck_pvs0 Ex (ck_tab 266) [Value.ref a0] pvv0) [Value.ref a0].toArray s 0 0 (ck_own ty)) (F0 m 39 ls []) := by
    intro n39
    induction n39 with
    | zero => intro bb rr ls H locs hm39 r1 r2 hl hW hS; omega
    | succ n39 ih39 =>
      intro bb rr ls H locs hm39 r1 r2 hl hW hS
      have l130 : ∀ (n130 : Nat) (k : Int32) (bb : Int32) (rr : Int32) (ls : Array Slot) (H : Heap) (locs : List Loc), 8 - k.toInt < n130 → (0 ≤ k.toInt) → (k.toInt ≤ 8) → (0 ≤ rr.toInt) → (rr.toInt ≤ 99) → (99 - rr.toInt < n39) → lv_has ls 4 [(3, .int k), (2, .int bb), (1, .int rr), (0, .ref a0)] → ck_Wo D cys ty ck_tags ck_pvs0 Ex pvv0 H → va_S (ck_own ty) s.heap H locs → W p l e (ck_rm (ck_tab 266)) s m [Value.ref a0].toArray below meth c H locs 0 0 (MQ below (ck_Qc D cys ty ck_tags ck_pvs0 Ex (ck_tab 266) [Value.ref a0] pvv0) [Value.ref a0].toArray s 0 0 (ck_own ty)) (F0 m 130 ls []) := by
        intro n130
        induction n130 with
        | zero => intro k bb rr ls H locs hm130 k1 k2 r1 r2 r3 hl hW hS; omega
        | succ n130 ih130 =>
          intro k bb rr ls H locs hm130 k1 k2 r1 r2 r3 hl hW hS
          refine lv_iload_n hx hb dX12_prices_130 rfl (lv_at hl 0 rfl) ?_
          refine hr_bp hx hb dX12_prices_131 (by decide) (by decide) (fun z131 hz131 => ?_)
          refine hr_ge (tgt := 167) hx hb dX12_prices_133 (by decide) (fun h133 => ?_) (fun h133 => ?_)
          · refine lv_goto (tgt := 39) hx hb dX12_prices_167 (by decide) ?_
            exact ih39 bb rr _ _ _ (by omega) (by omega) (by omega) (lv_sub hl [1, 2, 3] rfl) hW hS
          · refine lv_aload_n hx hb dX12_prices_136 rfl (lv_at hl 3 rfl) ?_
            refine hr_getR B hF hb hW (ci := 12) (j := 36) (cd := 3) t0 rfl (isF (by decide +kernel)) rfl dX12_prices_137 (fun az137 tz137 xz137 => ?_)
            refine lv_iload_n hx hb dX12_prices_140 rfl (lv_at hl 0 rfl) ?_
            refine hr_iald B hb hW tz137 rfl (by omega) (by omega) dX12_prices_141 (fun z141 iz141 pz141 xz141 => ?_)
            refine hr_ic hx hb dX12_prices_142 (by decide) (fun z142 hz142 => ?_)
            refine hr_ge (tgt := 149) hx hb dX12_prices_143 (by decide) (fun h143 => ?_) (fun h143 => ?_)
            · refine lv_aload_n hx hb dX12_prices_149 rfl (lv_at hl 3 rfl) ?_
              refine hr_getR B hF hb hW (ci := 12) (j := 34) (cd := 3) t0 rfl (isF (by decide +kernel)) rfl dX12_prices_150 (fun az150 tz150 xz150 => ?_)
              refine lv_iload_n hx hb dX12_prices_153 rfl (lv_at hl 0 rfl) ?_
              refine lv_dup2_11 hx hb dX12_prices_154 rfl rfl ?_
              refine hr_iald B hb hW tz150 rfl (by omega) (by omega) dX12_prices_155 (fun z155 iz155 pz155 xz155 => ?_)
              refine hr_ic hx hb dX12_prices_156 (by decide) (fun z156 hz156 => ?_)
              refine lv_iadd hx hb dX12_prices_157 (lv_topi (fun z157 hz157 => ?_))
              refine hr_iastN B hb hU hW hS tz150 rfl (by omega) (by omega) ⟨ck_lo _, ck_hi _⟩ (hr_EA (i := k) hX tz150 (u := 0) (v := 5) (by omega) (by omega) (by decide)) (u := 0) (v := 5) (by omega) (by omega) (by decide) dX12_prices_158 (fun H locs hW hS => ?_)
              refine hr_ic hx hb dX12_prices_159 (by decide) (fun z159 hz159 => ?_)
              refine lv_istore_n hx hb dX12_prices_160 rfl hl (lv' := [(2, .int z159), (3, .int k), (1, .int rr), (0, .ref a0)]) (by decide) rfl (fun ls hl => ?_)
              refine hr_inc hx hb dX12_prices_161 hl (kq := 1) (lv' := fun v => [(3, .int v), (2, .int z159), (1, .int rr), (0, .ref a0)]) rfl (by decide) (by decide) (by omega) (by omega) (fun _ => rfl) (fun z161 ls hz161 hl => ?_)
              refine lv_goto (tgt := 130) hx hb dX12_prices_164 (by decide) ?_
              exact ih130 z161 z159 rr _ _ _ (by omega) (by omega) (by omega) (by omega) (by omega) (by omega) hl hW hS
            · refine lv_goto (tgt := 161) hx hb dX12_prices_146 (by decide) ?_
              refine hr_inc hx hb dX12_prices_161 hl (kq := 0) (lv' := fun v => [(3, .int v), (2, .int bb), (1, .int rr), (0, .ref a0)]) rfl (by decide) (by decide) (by omega) (by omega) (fun _ => rfl) (fun z161 ls hz161 hl => ?_)
              refine lv_goto (tgt := 130) hx hb dX12_prices_164 (by decide) ?_
              exact ih130 z161 bb rr _ _ _ (by omega) (by omega) (by omega) (by omega) (by omega) (by omega) hl hW hS
      have l77 : ∀ (n77 : Nat) (k : Int32) (bb : Int32) (rr : Int32) (ls : Array Slot) (H : Heap) (locs : List Loc), 8 - k.toInt < n77 → (0 ≤ k.toInt) → (k.toInt ≤ 8) → (0 ≤ rr.toInt) → (rr.toInt ≤ 99) → (99 - rr.toInt < n39) → lv_has ls 4 [(3, .int k), (2, .int bb), (1, .int rr), (0, .ref a0)] → ck_Wo D cys ty ck_tags ck_pvs0 Ex pvv0 H → va_S (ck_own ty) s.heap H locs → W p l e (ck_rm (ck_tab 266)) s m [Value.ref a0].toArray below meth c H locs 0 0 (MQ below (ck_Qc D cys ty ck_tags ck_pvs0 Ex (ck_tab 266) [Value.ref a0] pvv0) [Value.ref a0].toArray s 0 0 (ck_own ty)) (F0 m 77 ls []) := by
        intro n77
        induction n77 with
        | zero => intro k bb rr ls H locs hm77 k1 k2 r1 r2 r3 hl hW hS; omega
        | succ n77 ih77 =>
          intro k bb rr ls H locs hm77 k1 k2 r1 r2 r3 hl hW hS
          refine lv_iload_n hx hb dX12_prices_77 rfl (lv_at hl 0 rfl) ?_
          refine lv_aload_n hx hb dX12_prices_78 rfl (lv_at hl 3 rfl) ?_
          refine hr_getR B hF hb hW (ci := 12) (j := 6) (cd := 3) t0 rfl (isF (by decide +kernel)) rfl dX12_prices_79 (fun az79 tz79 xz79 => ?_)
          refine hr_ic hx hb dX12_prices_82 (by decide) (fun z82 hz82 => ?_)
          refine hr_iald B hb hW tz79 rfl (by omega) (by omega) dX12_prices_83 (fun z83 iz83 pz83 xz83 => ?_)
          have iz83 := hr_inr iz83 (a := 2) (b := 2) (lo := 0) (hi := 8) (by omega) (by omega) (by decide +kernel)
          refine hr_ge (tgt := 128) hx hb dX12_prices_84 (by decide) (fun h84 => ?_) (fun h84 => ?_)
          · refine hr_ic hx hb dX12_prices_128 (by decide) (fun z128 hz128 => ?_)
            refine lv_istore_n hx hb dX12_prices_129 rfl hl (lv' := [(3, .int z128), (2, .int bb), (1, .int rr), (0, .ref a0)]) (by decide) rfl (fun ls hl => ?_)
            exact l130 9 z128 bb rr _ _ _ (by omega) (by omega) (by omega) (by omega) (by omega) (by omega) hl hW hS
          · refine lv_aload_n hx hb dX12_prices_87 rfl (lv_at hl 3 rfl) ?_
            refine hr_getR B hF hb hW (ci := 12) (j := 35) (cd := 3) t0 rfl (isF (by decide +kernel)) rfl dX12_prices_88 (fun az88 tz88 xz88 => ?_)
            refine lv_iload_n hx hb dX12_prices_91 rfl (lv_at hl 0 rfl) ?_
            refine lv_aload_n hx hb dX12_prices_92 rfl (lv_at hl 3 rfl) ?_
            refine lv_iload_n hx hb dX12_prices_93 rfl (lv_at hl 0 rfl) ?_
            refine cm_callV (kc := kc_265) B rfl hb hl (hM.1 _ _ 0 [265] (isM (by decide +kernel)) 265 (by decide)) (hH 265 (by decide)) (b := a0) (As := [.int k]) ⟨hr_aR t0, hr_aI (by omega) (by omega), True.intro⟩ hp hW hS rfl (by decide) (by decide) (Nat.le_of_ble_eq_true rfl) dX12_prices_94 (fun cs hcs r pvv94 H locs hca hW hS => ?_)
            obtain rfl := List.mem_singleton.mp hcs
            obtain ⟨hr, hq, hc⟩ := hca
            obtain ⟨z94, rfl, lz94, uz94⟩ := hr_rvI hr
            have hW := hr_pvE (hr_sameA hc rfl (by decide +kernel)) hW
            refine hr_iastN B hb hU hW hS tz88 rfl (by omega) (by omega) (hr_ins (a := 0) (b := 7) (lo := -1) (hi := 5) (by omega) (by omega) (by decide +kernel) (by omega) (by omega)) (hr_EA (i := k) hX tz88 (u := 0) (v := 7) (by omega) (by omega) (by decide)) (u := 0) (v := 7) (by omega) (by omega) (by decide) dX12_prices_97 (fun H locs hW hS => ?_)
            refine lv_aload_n hx hb dX12_prices_98 rfl (lv_at hl 3 rfl) ?_
            refine hr_getR B hF hb hW (ci := 12) (j := 35) (cd := 3) t0 rfl (isF (by decide +kernel)) rfl dX12_prices_99 (fun az99 tz99 xz99 => ?_)
            refine lv_iload_n hx hb dX12_prices_102 rfl (lv_at hl 0 rfl) ?_
            obtain ⟨f, hW⟩ := hr_trk hW tz99 rfl (by decide)
            refine hr_iald B hb hW tz99 rfl (by omega) (by omega) dX12_prices_103 (fun z103 iz103 pz103 xz103 => ?_)
            have iz103 := hr_inr iz103 (a := 0) (b := 7) (lo := -1) (hi := 5) (by omega) (by omega) (by decide +kernel)
            have y103 := ta_xa xz103 (by omega)
            refine hr_lt0 (tgt := 122) hx hb dX12_prices_104 (by decide) (fun h104 => ?_) (fun h104 => ?_)
            · have hW := hr_mono (fun _ h => h.1) hW
              refine hr_inc hx hb dX12_prices_122 hl (kq := 0) (lv' := fun v => [(3, .int v), (2, .int bb), (1, .int rr), (0, .ref a0)]) rfl (by decide) (by decide) (by omega) (by omega) (fun _ => rfl) (fun z122 ls hz122 hl => ?_)
              refine lv_goto (tgt := 77) hx hb dX12_prices_125 (by decide) ?_
              exact ih77 z122 bb rr _ _ _ (by omega) (by omega) (by omega) (by omega) (by omega) (by omega) hl hW hS
            · refine lv_aload_n hx hb dX12_prices_107 rfl (lv_at hl 3 rfl) ?_
              refine hr_getR B hF hb hW (ci := 12) (j := 36) (cd := 3) t0 rfl (isF (by decide +kernel)) rfl dX12_prices_108 (fun az108 tz108 xz108 => ?_)
              refine lv_aload_n hx hb dX12_prices_111 rfl (lv_at hl 3 rfl) ?_
              refine hr_getR B hF hb hW (ci := 12) (j := 35) (cd := 3) t0 rfl (isF (by decide +kernel)) rfl dX12_prices_112 (fun az112 tz112 xz112 => ?_)
              refine lv_iload_n hx hb dX12_prices_115 rfl (lv_at hl 0 rfl) ?_
              obtain rfl := hun 41 (by decide) _ _ tz112 tz99
              refine hr_iald B hb hW tz112 rfl (by omega) (by omega) dX12_prices_116 (fun z116 iz116 pz116 xz116 => ?_)
              have iz116 := hr_inr iz116 (a := 0) (b := 7) (lo := -1) (hi := 5) (by omega) (by omega) (by decide +kernel)
              have y116 := ta_xa xz116 (by omega)
              rw [← y103] at y116
              have y116 : z116.toInt = z103.toInt := by rw [y116]
              have hW := hr_mono (fun _ h => h.1) hW
              refine lv_dup2_11 hx hb dX12_prices_117 rfl rfl ?_
              refine hr_iald B hb hW tz108 rfl (by omega) (by omega) dX12_prices_118 (fun z118 iz118 pz118 xz118 => ?_)
              refine hr_ic hx hb dX12_prices_119 (by decide) (fun z119 hz119 => ?_)
              refine lv_iadd hx hb dX12_prices_120 (lv_topi (fun z120 hz120 => ?_))
              refine hr_iastN B hb hU hW hS tz108 rfl (by omega) (by omega) ⟨ck_lo _, ck_hi _⟩ (hr_EA (i := z116) hX tz108 (u := 0) (v := 5) (by omega) (by omega) (by decide)) (u := 0) (v := 5) (by omega) (by omega) (by decide) dX12_prices_121 (fun H locs hW hS => ?_)
              refine hr_inc hx hb dX12_prices_122 hl (kq := 0) (lv' := fun v => [(3, .int v), (2, .int bb), (1, .int rr), (0, .ref a0)]) rfl (by decide) (by decide) (by omega) (by omega) (fun _ => rfl) (fun z122 ls hz122 hl => ?_)
              refine lv_goto (tgt := 77) hx hb dX12_prices_125 (by decide) ?_
              exact ih77 z122 bb rr _ _ _ (by omega) (by omega) (by omega) (by omega) (by omega) (by omega) hl hW hS
      have l56 : ∀ (n56 : Nat) (k : Int32) (bb : Int32) (rr : Int32) (ls : Array Slot) (H : Heap) (locs : List Loc), 8 - k.toInt < n56 → (0 ≤ k.toInt) → (k.toInt ≤ 8) → (0 ≤ rr.toInt) → (rr.toInt ≤ 99) → (99 - rr.toInt < n39) → lv_has ls 4 [(3, .int k), (2, .int bb), (1, .int rr), (0, .ref a0)] → ck_Wo D cys ty ck_tags ck_pvs0 Ex pvv0 H → va_S (ck_own ty) s.heap H locs → W p l e (ck_rm (ck_tab 266)) s m [Value.ref a0].toArray below meth c H locs 0 0 (MQ below (ck_Qc D cys ty ck_tags ck_pvs0 Ex (ck_tab 266) [Value.ref a0] pvv0) [Value.ref a0].toArray s 0 0 (ck_own ty)) (F0 m 56 ls []) := by
        intro n56
        induction n56 with
        | zero => intro k bb rr ls H locs hm56 k1 k2 r1 r2 r3 hl hW hS; omega
        | succ n56 ih56 =>
          intro k bb rr ls H locs hm56 k1 k2 r1 r2 r3 hl hW hS
          refine lv_iload_n hx hb dX12_prices_56 rfl (lv_at hl 0 rfl) ?_
          refine hr_bp hx hb dX12_prices_57 (by decide) (by decide) (fun z57 hz57 => ?_)
          refine hr_ge (tgt := 75) hx hb dX12_prices_59 (by decide) (fun h59 => ?_) (fun h59 => ?_)
          · refine hr_ic hx hb dX12_prices_75 (by decide) (fun z75 hz75 => ?_)
            refine lv_istore_n hx hb dX12_prices_76 rfl hl (lv' := [(3, .int z75), (2, .int bb), (1, .int rr), (0, .ref a0)]) (by decide) rfl (fun ls hl => ?_)
            exact l77 9 z75 bb rr _ _ _ (by omega) (by omega) (by omega) (by omega) (by omega) (by omega) hl hW hS
          · refine lv_aload_n hx hb dX12_prices_62 rfl (lv_at hl 3 rfl) ?_
            refine hr_getR B hF hb hW (ci := 12) (j := 36) (cd := 3) t0 rfl (isF (by decide +kernel)) rfl dX12_prices_63 (fun az63 tz63 xz63 => ?_)
            refine lv_iload_n hx hb dX12_prices_66 rfl (lv_at hl 0 rfl) ?_
            refine hr_ic hx hb dX12_prices_67 (by decide) (fun z67 hz67 => ?_)
            refine hr_iastN B hb hU hW hS tz63 rfl (by omega) (by omega) ⟨ck_lo _, ck_hi _⟩ (hr_EA (i := k) hX tz63 (u := 0) (v := 5) (by omega) (by omega) (by decide)) (u := 0) (v := 5) (by omega) (by omega) (by decide) dX12_prices_68 (fun H locs hW hS => ?_)
            refine hr_inc hx hb dX12_prices_69 hl (kq := 0) (lv' := fun v => [(3, .int v), (2, .int bb), (1, .int rr), (0, .ref a0)]) rfl (by decide) (by decide) (by omega) (by omega) (fun _ => rfl) (fun z69 ls hz69 hl => ?_)
            refine lv_goto (tgt := 56) hx hb dX12_prices_72 (by decide) ?_
            exact ih56 z69 bb rr _ _ _ (by omega) (by omega) (by omega) (by omega) (by omega) (by omega) hl hW hS
      refine lv_iload_n hx hb dX12_prices_39 rfl (lv_at hl 0 rfl) ?_
      refine hr_eq0 (tgt := 170) hx hb dX12_prices_40 (by decide) (fun h40 => ?_) (fun h40 => ?_)
      · refine lv_aload_n hx hb dX12_prices_170 rfl (lv_at hl 2 rfl) ?_
        refine lv_aload_n hx hb dX12_prices_171 rfl (lv_at hl 2 rfl) ?_
        refine hr_getR B hF hb hW (ci := 12) (j := 6) (cd := 3) t0 rfl (isF (by decide +kernel)) rfl dX12_prices_172 (fun az172 tz172 xz172 => ?_)
        refine hr_ic hx hb dX12_prices_175 (by decide) (fun z175 hz175 => ?_)
        refine hr_iald B hb hW tz172 rfl (by omega) (by omega) dX12_prices_176 (fun z176 iz176 pz176 xz176 => ?_)
        have iz176 := hr_inr iz176 (a := 0) (b := 0) (lo := 0) (hi := 6) (by omega) (by omega) (by decide +kernel)
        refine hr_putN B hF hb hU hW hS (ci := 12) (j := 37) (cd := 0) t0 rfl (isF (by decide +kernel)) rfl (by omega) (by omega) (Or.inl rfl) (hr_EO hX t0 (by decide)) (by decide) dX12_prices_177 (fun H locs hW hS => ?_)
        refine lv_aload_n hx hb dX12_prices_180 rfl (lv_at hl 2 rfl) ?_
        refine lv_aload_n hx hb dX12_prices_181 rfl (lv_at hl 2 rfl) ?_
        refine hr_getR B hF hb hW (ci := 12) (j := 6) (cd := 3) t0 rfl (isF (by decide +kernel)) rfl dX12_prices_182 (fun az182 tz182 xz182 => ?_)
        refine hr_ic hx hb dX12_prices_185 (by decide) (fun z185 hz185 => ?_)
        refine hr_iald B hb hW tz182 rfl (by omega) (by omega) dX12_prices_186 (fun z186 iz186 pz186 xz186 => ?_)
        have iz186 := hr_inr iz186 (a := 2) (b := 2) (lo := 0) (hi := 8) (by omega) (by omega) (by decide +kernel)
        refine hr_putN B hF hb hU hW hS (ci := 12) (j := 38) (cd := 0) t0 rfl (isF (by decide +kernel)) rfl (by omega) (by omega) (Or.inl rfl) (hr_EO hX t0 (by decide)) (by decide) dX12_prices_187 (fun H locs hW hS => ?_)
        refine lv_iload_n hx hb dX12_prices_190 rfl (lv_at hl 1 rfl) ?_
        exact cm_iret B hb rfl ⟨_, List.mem_cons_self, hr_aF (ty := ty), (fun q h => nomatch h), hr_wk (hr_self hp0) (by decide +kernel)⟩ hW hS dX12_prices_191
      · refine lv_iload_n hx hb dX12_prices_43 rfl (lv_at hl 1 rfl) ?_
        refine hr_bp hx hb dX12_prices_44 (by decide) (by decide) (fun z44 hz44 => ?_)
        refine hr_ge (tgt := 170) hx hb dX12_prices_46 (by decide) (fun h46 => ?_) (fun h46 => ?_)
        · refine lv_aload_n hx hb dX12_prices_170 rfl (lv_at hl 2 rfl) ?_
          refine lv_aload_n hx hb dX12_prices_171 rfl (lv_at hl 2 rfl) ?_
          refine hr_getR B hF hb hW (ci := 12) (j := 6) (cd := 3) t0 rfl (isF (by decide +kernel)) rfl dX12_prices_172 (fun az172 tz172 xz172 => ?_)
          refine hr_ic hx hb dX12_prices_175 (by decide) (fun z175 hz175 => ?_)
          refine hr_iald B hb hW tz172 rfl (by omega) (by omega) dX12_prices_176 (fun z176 iz176 pz176 xz176 => ?_)
          have iz176 := hr_inr iz176 (a := 0) (b := 0) (lo := 0) (hi := 6) (by omega) (by omega) (by decide +kernel)
          refine hr_putN B hF hb hU hW hS (ci := 12) (j := 37) (cd := 0) t0 rfl (isF (by decide +kernel)) rfl (by omega) (by omega) (Or.inl rfl) (hr_EO hX t0 (by decide)) (by decide) dX12_prices_177 (fun H locs hW hS => ?_)
          refine lv_aload_n hx hb dX12_prices_180 rfl (lv_at hl 2 rfl) ?_
          refine lv_aload_n hx hb dX12_prices_181 rfl (lv_at hl 2 rfl) ?_
          refine hr_getR B hF hb hW (ci := 12) (j := 6) (cd := 3) t0 rfl (isF (by decide +kernel)) rfl dX12_prices_182 (fun az182 tz182 xz182 => ?_)
          refine hr_ic hx hb dX12_prices_185 (by decide) (fun z185 hz185 => ?_)
          refine hr_iald B hb hW tz182 rfl (by omega) (by omega) dX12_prices_186 (fun z186 iz186 pz186 xz186 => ?_)
          have iz186 := hr_inr iz186 (a := 2) (b := 2) (lo := 0) (hi := 8) (by omega) (by omega) (by decide +kernel)
          refine hr_putN B hF hb hU hW hS (ci := 12) (j := 38) (cd := 0) t0 rfl (isF (by decide +kernel)) rfl (by omega) (by omega) (Or.inl rfl) (hr_EO hX t0 (by decide)) (by decide) dX12_prices_187 (fun H locs hW hS => ?_)
          refine lv_iload_n hx hb dX12_prices_190 rfl (lv_at hl 1 rfl) ?_
          exact cm_iret B hb rfl ⟨_, List.mem_cons_self, hr_aF (ty := ty), (fun q h => nomatch h), hr_wk (hr_self hp0) (by decide +kernel)⟩ hW hS dX12_prices_191
        · refine hr_ic hx hb dX12_prices_49 (by decide) (fun z49 hz49 => ?_)
          refine lv_istore_n hx hb dX12_prices_50 rfl hl (lv' := [(2, .int z49), (1, .int rr), (0, .ref a0)]) (by decide) rfl (fun ls hl => ?_)
          refine hr_inc hx hb dX12_prices_51 hl (kq := 1) (lv' := fun v => [(1, .int v), (2, .int z49), (0, .ref a0)]) rfl (by decide) (by decide) (by omega) (by omega) (fun _ => rfl) (fun z51 ls hz51 hl => ?_)
          refine hr_ic hx hb dX12_prices_54 (by decide) (fun z54 hz54 => ?_)
          refine lv_istore_n hx hb dX12_prices_55 rfl hl (lv' := [(3, .int z54), (1, .int z51), (2, .int z49), (0, .ref a0)]) (by decide) rfl (fun ls hl => ?_)
          exact l56 9 z54 z49 z51 _ _ _ (by omega) (by omega) (by omega) (by omega) (by omega) (by omega) (lv_sub hl [0, 2, 1, 3] rfl) hW hS
  have l16 : ∀ (n16 : Nat) (k : Int32) (ls : Array Slot) (H : Heap) (locs : List Loc), 6 - k.toInt < n16 → (0 ≤ k.toInt) → (k.toInt ≤ 6) → lv_has ls 4 [(1, .int k), (0, .ref a0)] → ck_Wo D cys ty ck_tags ck_pvs0 Ex pvv0 H → va_S (ck_own ty) s.heap H locs → W p l e (ck_rm (ck_tab 266)) s m [Value.ref a0].toArray below meth c H locs 0 0 (MQ below (ck_Qc D cys ty ck_tags ck_pvs0 Ex (ck_tab 266) [Value.ref a0] pvv0) [Value.ref a0].toArray s 0 0 (ck_own ty)) (F0 m 16 ls []) := by
    intro n16
    induction n16 with
    | zero => intro k ls H locs hm16 k1 k2 hl hW hS; omega
    | succ n16 ih16 =>
      intro k ls H locs hm16 k1 k2 hl hW hS
      refine lv_iload_n hx hb dX12_prices_16 rfl (lv_at hl 0 rfl) ?_
      refine hr_bp hx hb dX12_prices_17 (by decide) (by decide) (fun z17 hz17 => ?_)
      refine hr_ge (tgt := 35) hx hb dX12_prices_19 (by decide) (fun h19 => ?_) (fun h19 => ?_)
      · refine hr_ic hx hb dX12_prices_35 (by decide) (fun z35 hz35 => ?_)
        refine lv_istore_n hx hb dX12_prices_36 rfl hl (lv' := [(1, .int z35), (0, .ref a0)]) (by decide) rfl (fun ls hl => ?_)
        refine hr_ic hx hb dX12_prices_37 (by decide) (fun z37 hz37 => ?_)
        refine lv_istore_n hx hb dX12_prices_38 rfl hl (lv' := [(2, .int z37), (1, .int z35), (0, .ref a0)]) (by decide) rfl (fun ls hl => ?_)
        exact l39 100 z37 z35 _ _ _ (by omega) (by omega) (by omega) hl hW hS
      · refine lv_aload_n hx hb dX12_prices_22 rfl (lv_at hl 1 rfl) ?_
        refine hr_getR B hF hb hW (ci := 12) (j := 34) (cd := 3) t0 rfl (isF (by decide +kernel)) rfl dX12_prices_23 (fun az23 tz23 xz23 => ?_)
        refine lv_iload_n hx hb dX12_prices_26 rfl (lv_at hl 0 rfl) ?_
        refine hr_ic hx hb dX12_prices_27 (by decide) (fun z27 hz27 => ?_)
        refine hr_iastN B hb hU hW hS tz23 rfl (by omega) (by omega) ⟨ck_lo _, ck_hi _⟩ (hr_EA (i := k) hX tz23 (u := 0) (v := 5) (by omega) (by omega) (by decide)) (u := 0) (v := 5) (by omega) (by omega) (by decide) dX12_prices_28 (fun H locs hW hS => ?_)
        refine hr_inc hx hb dX12_prices_29 hl (kq := 0) (lv' := fun v => [(1, .int v), (0, .ref a0)]) rfl (by decide) (by decide) (by omega) (by omega) (fun _ => rfl) (fun z29 ls hz29 hl => ?_)
        refine lv_goto (tgt := 16) hx hb dX12_prices_32 (by decide) ?_
        exact ih16 z29 _ _ _ (by omega) (by omega) (by omega) hl hW hS
  refine lv_aload_n hx hb dX12_prices_0 rfl (lv_at hl 0 rfl) ?_
  refine hr_ic hx hb dX12_prices_1 (by decide) (fun z1 hz1 => ?_)
  refine hr_putN B hF hb hU hW hS (ci := 12) (j := 0) (cd := 0) t0 rfl (isF (by decide +kernel)) rfl (by omega) (by omega) (Or.inl rfl) (hr_EO hX t0 (by decide)) (by decide) dX12_prices_2 (fun H locs hW hS => ?_)
  refine lv_aload_n hx hb dX12_prices_5 rfl (lv_at hl 0 rfl) ?_
  refine cm_callV (kc := kc_216) B rfl hb hl (hM.1 _ _ 0 [216] (isM (by decide +kernel)) 216 (by decide)) (hH 216 (by decide)) (b := a0) (As := []) ⟨hr_aR t0, True.intro⟩ hp hW hS rfl (by decide) (by decide) (Nat.le_of_ble_eq_true rfl) dX12_prices_6 (fun cs hcs r pvv6 H locs hca hW hS => ?_)
  rcases List.mem_cons.mp hcs with rfl | hcs
  · obtain ⟨hr, hq, hc⟩ := hca
    obtain ⟨z6, rfl, lz6, uz6⟩ := hr_rvI hr
    have hW := hr_pvE (hr_sameA hc rfl (by decide +kernel)) hW
    refine hr_eq0 (tgt := 14) hx hb dX12_prices_9 (by decide) (fun h9 => ?_) (fun h9 => ?_)
    · refine hr_ic hx hb dX12_prices_14 (by decide) (fun z14 hz14 => ?_)
      refine lv_istore_n hx hb dX12_prices_15 rfl hl (lv' := [(1, .int z14), (0, .ref a0)]) (by decide) rfl (fun ls hl => ?_)
      exact l16 7 z14 _ _ _ (by omega) (by omega) (by omega) hl hW hS
    · omega
  obtain rfl := List.mem_singleton.mp hcs
  obtain ⟨hr, hq, hc⟩ := hca
  obtain ⟨z6, rfl, lz6, uz6⟩ := hr_rvI hr
  have hW := hr_pvE (hr_sameA hc rfl (by decide +kernel)) hW
  refine hr_eq0 (tgt := 14) hx hb dX12_prices_9 (by decide) (fun h9 => ?_) (fun h9 => ?_)
  · omega
  · refine hr_ic hx hb dX12_prices_12 (by decide) (fun z12 hz12 => ?_)
    exact cm_iret B hb rfl ⟨_, List.mem_cons_self, hr_aF (ty := ty), (fun q h => nomatch h), hr_wk (hr_self hp0) (by decide +kernel)⟩ hW hS dX12_prices_13
theorem dX2_clap_0 : decode cX2_clap 0 = .ok (.iconst (-1), 1) := by decide +kernel
theorem dX2_clap_1 : decode cX2_clap 1 = .ok (.istore_n 3, 1) := by decide +kernel
theorem dX2_clap_2 : decode cX2_clap 2 = .ok (.iconst 0, 1) := by decide +kernel
theorem dX2_clap_3 : decode cX2_clap 3 = .ok (.istore 4, 2) := by decide +kernel
theorem dX2_clap_5 : decode cX2_clap 5 = .ok (.iconst 0, 1) := by decide +kernel
theorem dX2_clap_6 : decode cX2_clap 6 = .ok (.istore 5, 2) := by decide +kernel
theorem dX2_clap_8 : decode cX2_clap 8 = .ok (.iload 5, 2) := by decide +kernel
theorem dX2_clap_10 : decode cX2_clap 10 = .ok (.aload_n 1, 1) := by decide +kernel
theorem dX2_clap_11 : decode cX2_clap 11 = .ok (.getfield 118, 3) := by decide +kernel
theorem dX2_clap_14 : decode cX2_clap 14 = .ok (.if_icmp .ge 44, 3) := by decide +kernel
theorem dX2_clap_17 : decode cX2_clap 17 = .ok (.aload_n 0, 1) := by decide +kernel
theorem dX2_clap_18 : decode cX2_clap 18 = .ok (.getfield 36, 3) := by decide +kernel
theorem dX2_clap_21 : decode cX2_clap 21 = .ok (.iload 5, 2) := by decide +kernel
theorem dX2_clap_23 : decode cX2_clap 23 = .ok (.iaload, 1) := by decide +kernel
theorem dX2_clap_24 : decode cX2_clap 24 = .ok (.iconst (-1), 1) := by decide +kernel
theorem dX2_clap_25 : decode cX2_clap 25 = .ok (.if_icmp .eq 27, 3) := by decide +kernel
theorem dX2_clap_28 : decode cX2_clap 28 = .ok (.aload_n 1, 1) := by decide +kernel
theorem dX2_clap_29 : decode cX2_clap 29 = .ok (.iload_n 2, 1) := by decide +kernel
theorem dX2_clap_30 : decode cX2_clap 30 = .ok (.iload 5, 2) := by decide +kernel
theorem dX2_clap_32 : decode cX2_clap 32 = .ok (.invokevirtual 145, 3) := by decide +kernel
theorem dX2_clap_35 : decode cX2_clap 35 = .ok (.iload 4, 2) := by decide +kernel
theorem dX2_clap_37 : decode cX2_clap 37 = .ok (.if_icmp .le 15, 3) := by decide +kernel
theorem dX2_clap_40 : decode cX2_clap 40 = .ok (.aload_n 1, 1) := by decide +kernel
theorem dX2_clap_41 : decode cX2_clap 41 = .ok (.iload_n 2, 1) := by decide +kernel
theorem dX2_clap_42 : decode cX2_clap 42 = .ok (.iload 5, 2) := by decide +kernel
theorem dX2_clap_44 : decode cX2_clap 44 = .ok (.invokevirtual 145, 3) := by decide +kernel
theorem dX2_clap_47 : decode cX2_clap 47 = .ok (.istore 4, 2) := by decide +kernel
theorem dX2_clap_49 : decode cX2_clap 49 = .ok (.iload 5, 2) := by decide +kernel
theorem dX2_clap_51 : decode cX2_clap 51 = .ok (.istore_n 3, 1) := by decide +kernel
theorem dX2_clap_52 : decode cX2_clap 52 = .ok (.iinc 5 1, 3) := by decide +kernel
theorem dX2_clap_55 : decode cX2_clap 55 = .ok (.goto (-47), 3) := by decide +kernel
theorem dX2_clap_58 : decode cX2_clap 58 = .ok (.iload_n 3, 1) := by decide +kernel
theorem dX2_clap_59 : decode cX2_clap 59 = .ok (.iconst (-1), 1) := by decide +kernel
theorem dX2_clap_60 : decode cX2_clap 60 = .ok (.if_icmp .eq 28, 3) := by decide +kernel
theorem dX2_clap_63 : decode cX2_clap 63 = .ok (.aload_n 0, 1) := by decide +kernel
theorem dX2_clap_64 : decode cX2_clap 64 = .ok (.getfield 49, 3) := by decide +kernel
theorem dX2_clap_67 : decode cX2_clap 67 = .ok (.aload_n 0, 1) := by decide +kernel
theorem dX2_clap_68 : decode cX2_clap 68 = .ok (.getfield 36, 3) := by decide +kernel
theorem dX2_clap_71 : decode cX2_clap 71 = .ok (.iload_n 3, 1) := by decide +kernel
theorem dX2_clap_72 : decode cX2_clap 72 = .ok (.iaload, 1) := by decide +kernel
theorem dX2_clap_73 : decode cX2_clap 73 = .ok (.dup2, 1) := by decide +kernel
theorem dX2_clap_74 : decode cX2_clap 74 = .ok (.iaload, 1) := by decide +kernel
theorem dX2_clap_75 : decode cX2_clap 75 = .ok (.iconst 1, 1) := by decide +kernel
theorem dX2_clap_76 : decode cX2_clap 76 = .ok (.iadd, 1) := by decide +kernel
theorem dX2_clap_77 : decode cX2_clap 77 = .ok (.iastore, 1) := by decide +kernel
theorem dX2_clap_78 : decode cX2_clap 78 = .ok (.aload_n 0, 1) := by decide +kernel
theorem dX2_clap_79 : decode cX2_clap 79 = .ok (.dup, 1) := by decide +kernel
theorem dX2_clap_80 : decode cX2_clap 80 = .ok (.getfield 27, 3) := by decide +kernel
theorem dX2_clap_83 : decode cX2_clap 83 = .ok (.iconst 1, 1) := by decide +kernel
theorem dX2_clap_84 : decode cX2_clap 84 = .ok (.iadd, 1) := by decide +kernel
theorem dX2_clap_85 : decode cX2_clap 85 = .ok (.putfield 27, 3) := by decide +kernel
theorem dX2_clap_88 : decode cX2_clap 88 = .ok (.return_, 1) := by decide +kernel
set_option maxRecDepth 100000 in
set_option maxHeartbeats 4000000 in
theorem hk_2_clap (hF : ck_LKf ck_LK) (hM : ck_LKm ck_tags ck_LK ck_tab) (hU : ck_uq ty ck_pvs0) (hun : ck_un ty) (hX : ck_ExP ty ck_protA Ex) (hHA : ∀ Ex', ck_ExP ty ck_protA Ex' → ∀ j, j < 29 → ck_Holds l D cys ty ck_tags ck_pvs0 Ex' (ck_tab j)) (hH : ∀ j, j < 29 → ck_Holds l D cys ty ck_tags ck_pvs0 Ex (ck_tab j)) : ck_Holds l D cys ty ck_tags ck_pvs0 Ex (ck_tab 29) := by
  refine cm_enter (by decide +kernel) (by decide +kernel) (by decide +kernel) ?_
  intro vs pvv0 p e s m below meth c ls ha hp B hl hW
  have hx := B.1
  have hb : c.code = cX2_clap := B.2.1
  have hI := pv_inj
  have hS : va_S (ck_own ty) s.heap s.heap [] := va_S.rf
  obtain ⟨_, _, _, rfl, ⟨a0, rfl, t0⟩, ⟨a1, rfl, t1⟩, ⟨x2, rfl, l2, u2, -⟩⟩ := cm_a3 ha
  dsimp only at l2 u2
  have hl : lv_has ls 6 [(0, .ref a0), (1, .ref a1), (2, .int x2)] := hl
  have hp0 := hp
  obtain ⟨a8, f, t8, hW⟩ := hr_trf hW t0
  have hX2 := ExP_and hX (te_ExP (cy := cys 0) (f := f) t0 t8)
  have l8 : ∀ (n8 : Nat) (pp : Int32) (mo : Int32) (lk : Int32) (ls : Array Slot) (H : Heap) (locs : List Loc), 6 - pp.toInt < n8 → (0 ≤ pp.toInt) → (pp.toInt ≤ 6) → (lk.toInt = -1 ∨ (0 ≤ lk.toInt ∧ lk.toInt ≤ 5 ∧ (f lk.toInt.toNat).toInt ≠ -1)) → lv_has ls 6 [(5, .int pp), (4, .int mo), (3, .int lk), (0, .ref a0), (1, .ref a1), (2, .int x2)] → ck_Wo D cys ty ck_tags ck_pvs0 (fun ws => Ex ws ∧ te a0 a8 (cys 0) f ws) pvv0 H → va_S (ck_own ty) s.heap H locs → W p l e (ck_rm (ck_tab 29)) s m [Value.ref a0, Value.ref a1, Value.int x2].toArray below meth c H locs 0 0 (MQ below (ck_Qc D cys ty ck_tags ck_pvs0 Ex (ck_tab 29) [Value.ref a0, Value.ref a1, Value.int x2] pvv0) [Value.ref a0, Value.ref a1, Value.int x2].toArray s 0 0 (ck_own ty)) (F0 m 8 ls []) := by
    intro n8
    induction n8 with
    | zero => intro pp mo lk ls H locs hm8 p1 p2 k3 hl hW hS; omega
    | succ n8 ih8 =>
      intro pp mo lk ls H locs hm8 p1 p2 k3 hl hW hS
      refine lv_iload hx hb dX2_clap_8 (lv_at hl 0 rfl) ?_
      refine lv_aload_n hx hb dX2_clap_10 rfl (lv_at hl 4 rfl) ?_
      refine hr_getI B hF hb hW (ci := 6) (j := 0) (cd := 0) t1 rfl (isF (by decide +kernel)) rfl dX2_clap_11 (fun z11 lz11 uz11 pz11 xz11 => ?_)
      refine hr_ge (tgt := 58) hx hb dX2_clap_14 (by decide) (fun h14 => ?_) (fun h14 => ?_)
      · refine lv_iload_n hx hb dX2_clap_58 rfl (lv_at hl 2 rfl) ?_
        refine hr_ic hx hb dX2_clap_59 (by decide) (fun z59 hz59 => ?_)
        refine hr_eq (tgt := 88) hx hb dX2_clap_60 (by decide) (fun h60 => ?_) (fun h60 => ?_)
        · have hW := hr_mono (fun _ h => h.1) hW
          exact cm_vret B hb rfl ⟨_, List.mem_cons_self, True.intro, (fun q h => nomatch h), hr_wk (hr_self hp0) (by decide +kernel)⟩ hW hS dX2_clap_88
        · refine lv_aload_n hx hb dX2_clap_63 rfl (lv_at hl 3 rfl) ?_
          refine hr_getR B hF hb hW (ci := 2) (j := 12) (cd := 3) t0 rfl (isF (by decide +kernel)) rfl dX2_clap_64 (fun az64 tz64 xz64 => ?_)
          refine lv_aload_n hx hb dX2_clap_67 rfl (lv_at hl 3 rfl) ?_
          refine hr_getR B hF hb hW (ci := 2) (j := 8) (cd := 3) t0 rfl (isF (by decide +kernel)) rfl dX2_clap_68 (fun az68 tz68 xz68 => ?_)
          obtain rfl := te_xo xz68
          refine lv_iload_n hx hb dX2_clap_71 rfl (lv_at hl 2 rfl) ?_
          refine hr_iald B hb hW t8 rfl (by omega) (by omega) dX2_clap_72 (fun z72 iz72 pz72 xz72 => ?_)
          have iz72 := hr_inr iz72 (a := 0) (b := 5) (lo := -1) (hi := 7) (by omega) (by omega) (by decide +kernel)
          have y72 := congrArg Int32.toInt (te_xa xz72 (by omega))
          refine lv_dup2_11 hx hb dX2_clap_73 rfl rfl ?_
          refine hr_iald B hb hW tz64 rfl (by omega) (by omega) dX2_clap_74 (fun z74 iz74 pz74 xz74 => ?_)
          refine hr_ic hx hb dX2_clap_75 (by decide) (fun z75 hz75 => ?_)
          refine lv_iadd hx hb dX2_clap_76 (lv_topi (fun z76 hz76 => ?_))
          refine hr_iastN (Ex' := (fun ws => Ex ws ∧ te a0 a8 (cys 0) f ws)) B hb hU hW hS tz64 rfl (by omega) (by omega) ⟨ck_lo _, ck_hi _⟩ (hr_EA (i := z72) hX2 tz64 (u := 0) (v := 7) (by omega) (by omega) (by decide)) (u := 0) (v := 7) (by omega) (by omega) (by decide) dX2_clap_77 (fun H locs hW hS => ?_)
          refine lv_aload_n hx hb dX2_clap_78 rfl (lv_at hl 3 rfl) ?_
          refine lv_dup hx hb dX2_clap_79 rfl ?_
          refine hr_getI B hF hb hW (ci := 2) (j := 5) (cd := 0) t0 rfl (isF (by decide +kernel)) rfl dX2_clap_80 (fun z80 lz80 uz80 pz80 xz80 => ?_)
          refine hr_ic hx hb dX2_clap_83 (by decide) (fun z83 hz83 => ?_)
          refine lv_iadd hx hb dX2_clap_84 (lv_topi (fun z84 hz84 => ?_))
          refine hr_putN (Ex' := (fun ws => Ex ws ∧ te a0 a8 (cys 0) f ws)) B hF hb hU hW hS (ci := 2) (j := 5) (cd := 0) t0 rfl (isF (by decide +kernel)) rfl (ck_lo _) (ck_hi _) (Or.inl rfl) (hr_EO hX2 t0 (by decide)) (by decide) dX2_clap_85 (fun H locs hW hS => ?_)
          have hW := hr_mono (fun _ h => h.1) hW
          exact cm_vret B hb rfl ⟨_, List.mem_cons_self, True.intro, (fun q h => nomatch h), hr_wk (hr_self hp0) (by decide +kernel)⟩ hW hS dX2_clap_88
      · refine lv_aload_n hx hb dX2_clap_17 rfl (lv_at hl 3 rfl) ?_
        refine hr_getR B hF hb hW (ci := 2) (j := 8) (cd := 3) t0 rfl (isF (by decide +kernel)) rfl dX2_clap_18 (fun az18 tz18 xz18 => ?_)
        obtain rfl := te_xo xz18
        refine lv_iload hx hb dX2_clap_21 (lv_at hl 0 rfl) ?_
        refine hr_iald B hb hW t8 rfl (by omega) (by omega) dX2_clap_23 (fun z23 iz23 pz23 xz23 => ?_)
        have iz23 := hr_inr iz23 (a := 0) (b := 5) (lo := -1) (hi := 7) (by omega) (by omega) (by decide +kernel)
        have y23 := congrArg Int32.toInt (te_xa xz23 (by omega))
        refine hr_ic hx hb dX2_clap_24 (by decide) (fun z24 hz24 => ?_)
        refine hr_eq (tgt := 52) hx hb dX2_clap_25 (by decide) (fun h25 => ?_) (fun h25 => ?_)
        · refine hr_inc hx hb dX2_clap_52 hl (kq := 0) (lv' := fun v => [(5, .int v), (4, .int mo), (3, .int lk), (0, .ref a0), (1, .ref a1), (2, .int x2)]) rfl (by decide) (by decide) (by omega) (by omega) (fun _ => rfl) (fun z52 ls hz52 hl => ?_)
          refine lv_goto (tgt := 8) hx hb dX2_clap_55 (by decide) ?_
          exact ih8 z52 mo lk _ _ _ (by omega) (by omega) (by omega) (by omega) hl hW hS
        · refine lv_aload_n hx hb dX2_clap_28 rfl (lv_at hl 4 rfl) ?_
          refine lv_iload_n hx hb dX2_clap_29 rfl (lv_at hl 5 rfl) ?_
          refine lv_iload hx hb dX2_clap_30 (lv_at hl 0 rfl) ?_
          refine cm_callV (kc := kc_21) B rfl hb hl (hM.1 _ _ 0 [21, 22] (isM (by decide +kernel)) 21 (by decide)) (hHA _ hX2 21 (by decide)) (b := a1) (As := [.int x2, .int pp]) ⟨hr_aR t1, hr_aI (by omega) (by omega), hr_aI (by omega) (by omega), True.intro⟩ hp hW hS rfl (by decide) (by decide) (Nat.le_of_ble_eq_true rfl) dX2_clap_32 (fun cs hcs r pvv32 H locs hca hW hS => ?_)
          obtain rfl := List.mem_singleton.mp hcs
          obtain ⟨hr, hq, hc⟩ := hca
          obtain ⟨z32, rfl, lz32, uz32⟩ := hr_rvI hr
          have hW := hr_pvE (hr_sameA hc rfl (by decide +kernel)) hW
          refine lv_iload hx hb dX2_clap_35 (lv_at hl 1 rfl) ?_
          refine hr_le (tgt := 52) hx hb dX2_clap_37 (by decide) (fun h37 => ?_) (fun h37 => ?_)
          · refine hr_inc hx hb dX2_clap_52 hl (kq := 0) (lv' := fun v => [(5, .int v), (4, .int mo), (3, .int lk), (0, .ref a0), (1, .ref a1), (2, .int x2)]) rfl (by decide) (by decide) (by omega) (by omega) (fun _ => rfl) (fun z52 ls hz52 hl => ?_)
            refine lv_goto (tgt := 8) hx hb dX2_clap_55 (by decide) ?_
            exact ih8 z52 mo lk _ _ _ (by omega) (by omega) (by omega) (by omega) hl hW hS
          · refine lv_aload_n hx hb dX2_clap_40 rfl (lv_at hl 4 rfl) ?_
            refine lv_iload_n hx hb dX2_clap_41 rfl (lv_at hl 5 rfl) ?_
            refine lv_iload hx hb dX2_clap_42 (lv_at hl 0 rfl) ?_
            refine cm_callV (kc := kc_21) B rfl hb hl (hM.1 _ _ 0 [21, 22] (isM (by decide +kernel)) 21 (by decide)) (hHA _ hX2 21 (by decide)) (b := a1) (As := [.int x2, .int pp]) ⟨hr_aR t1, hr_aI (by omega) (by omega), hr_aI (by omega) (by omega), True.intro⟩ hp hW hS rfl (by decide) (by decide) (Nat.le_of_ble_eq_true rfl) dX2_clap_44 (fun cs hcs r pvv44 H locs hca hW hS => ?_)
            obtain rfl := List.mem_singleton.mp hcs
            obtain ⟨hr, hq, hc⟩ := hca
            obtain ⟨z44, rfl, lz44, uz44⟩ := hr_rvI hr
            have hW := hr_pvE (hr_sameA hc rfl (by decide +kernel)) hW
            refine lv_istore hx hb dX2_clap_47 hl (lv' := [(4, .int z44), (5, .int pp), (3, .int lk), (0, .ref a0), (1, .ref a1), (2, .int x2)]) (by decide) rfl (fun ls hl => ?_)
            refine lv_iload hx hb dX2_clap_49 (lv_at hl 1 rfl) ?_
            refine lv_istore_n hx hb dX2_clap_51 rfl hl (lv' := [(3, .int pp), (4, .int z44), (5, .int pp), (0, .ref a0), (1, .ref a1), (2, .int x2)]) (by decide) rfl (fun ls hl => ?_)
            refine hr_inc hx hb dX2_clap_52 hl (kq := 2) (lv' := fun v => [(5, .int v), (3, .int pp), (4, .int z44), (0, .ref a0), (1, .ref a1), (2, .int x2)]) rfl (by decide) (by decide) (by omega) (by omega) (fun _ => rfl) (fun z52 ls hz52 hl => ?_)
            refine lv_goto (tgt := 8) hx hb dX2_clap_55 (by decide) ?_
            exact ih8 z52 z44 pp _ _ _ (by omega) (by omega) (by omega) (by omega) (lv_sub hl [0, 2, 1, 3, 4, 5] rfl) hW hS
  refine hr_ic hx hb dX2_clap_0 (by decide) (fun z0 hz0 => ?_)
  refine lv_istore_n hx hb dX2_clap_1 rfl hl (lv' := [(3, .int z0), (0, .ref a0), (1, .ref a1), (2, .int x2)]) (by decide) rfl (fun ls hl => ?_)
  refine hr_ic hx hb dX2_clap_2 (by decide) (fun z2 hz2 => ?_)
  refine lv_istore hx hb dX2_clap_3 hl (lv' := [(4, .int z2), (3, .int z0), (0, .ref a0), (1, .ref a1), (2, .int x2)]) (by decide) rfl (fun ls hl => ?_)
  refine hr_ic hx hb dX2_clap_5 (by decide) (fun z5 hz5 => ?_)
  refine lv_istore hx hb dX2_clap_6 hl (lv' := [(5, .int z5), (4, .int z2), (3, .int z0), (0, .ref a0), (1, .ref a1), (2, .int x2)]) (by decide) rfl (fun ls hl => ?_)
  exact l8 7 z5 z2 z0 _ _ _ (by omega) (by omega) (by omega) (by omega) hl hW hS
theorem dX2_endAct_0 : decode cX2_endAct 0 = .ok (.aload_n 0, 1) := by decide +kernel
theorem dX2_endAct_1 : decode cX2_endAct 1 = .ok (.invokevirtual 131, 3) := by decide +kernel
theorem dX2_endAct_4 : decode cX2_endAct 4 = .ok (.istore_n 2, 1) := by decide +kernel
theorem dX2_endAct_5 : decode cX2_endAct 5 = .ok (.iconst 0, 1) := by decide +kernel
theorem dX2_endAct_6 : decode cX2_endAct 6 = .ok (.istore_n 3, 1) := by decide +kernel
theorem dX2_endAct_7 : decode cX2_endAct 7 = .ok (.iload_n 3, 1) := by decide +kernel
theorem dX2_endAct_8 : decode cX2_endAct 8 = .ok (.aload_n 1, 1) := by decide +kernel
theorem dX2_endAct_9 : decode cX2_endAct 9 = .ok (.getfield 124, 3) := by decide +kernel
theorem dX2_endAct_12 : decode cX2_endAct 12 = .ok (.if_icmp .ge 44, 3) := by decide +kernel
theorem dX2_endAct_15 : decode cX2_endAct 15 = .ok (.iload_n 2, 1) := by decide +kernel
theorem dX2_endAct_16 : decode cX2_endAct 16 = .ok (.iload_n 3, 1) := by decide +kernel
theorem dX2_endAct_17 : decode cX2_endAct 17 = .ok (.invokestatic 81, 3) := by decide +kernel
theorem dX2_endAct_20 : decode cX2_endAct 20 = .ok (.ifCond .ne 24, 3) := by decide +kernel
theorem dX2_endAct_23 : decode cX2_endAct 23 = .ok (.aload_n 0, 1) := by decide +kernel
theorem dX2_endAct_24 : decode cX2_endAct 24 = .ok (.dup, 1) := by decide +kernel
theorem dX2_endAct_25 : decode cX2_endAct 25 = .ok (.getfield 24, 3) := by decide +kernel
theorem dX2_endAct_28 : decode cX2_endAct 28 = .ok (.aload_n 1, 1) := by decide +kernel
theorem dX2_endAct_29 : decode cX2_endAct 29 = .ok (.getfield 135, 3) := by decide +kernel
theorem dX2_endAct_32 : decode cX2_endAct 32 = .ok (.iload_n 3, 1) := by decide +kernel
theorem dX2_endAct_33 : decode cX2_endAct 33 = .ok (.iaload, 1) := by decide +kernel
theorem dX2_endAct_34 : decode cX2_endAct 34 = .ok (.iadd, 1) := by decide +kernel
theorem dX2_endAct_35 : decode cX2_endAct 35 = .ok (.putfield 24, 3) := by decide +kernel
theorem dX2_endAct_38 : decode cX2_endAct 38 = .ok (.aload_n 0, 1) := by decide +kernel
theorem dX2_endAct_39 : decode cX2_endAct 39 = .ok (.aload_n 1, 1) := by decide +kernel
theorem dX2_endAct_40 : decode cX2_endAct 40 = .ok (.iload_n 3, 1) := by decide +kernel
theorem dX2_endAct_41 : decode cX2_endAct 41 = .ok (.invokevirtual 138, 3) := by decide +kernel
theorem dX2_endAct_44 : decode cX2_endAct 44 = .ok (.aload_n 0, 1) := by decide +kernel
theorem dX2_endAct_45 : decode cX2_endAct 45 = .ok (.aload_n 1, 1) := by decide +kernel
theorem dX2_endAct_46 : decode cX2_endAct 46 = .ok (.iload_n 3, 1) := by decide +kernel
theorem dX2_endAct_47 : decode cX2_endAct 47 = .ok (.invokevirtual 142, 3) := by decide +kernel
theorem dX2_endAct_50 : decode cX2_endAct 50 = .ok (.iinc 3 1, 3) := by decide +kernel
theorem dX2_endAct_53 : decode cX2_endAct 53 = .ok (.goto (-46), 3) := by decide +kernel
theorem dX2_endAct_56 : decode cX2_endAct 56 = .ok (.iconst 0, 1) := by decide +kernel
theorem dX2_endAct_57 : decode cX2_endAct 57 = .ok (.istore_n 3, 1) := by decide +kernel
theorem dX2_endAct_58 : decode cX2_endAct 58 = .ok (.iload_n 3, 1) := by decide +kernel
theorem dX2_endAct_59 : decode cX2_endAct 59 = .ok (.aload_n 1, 1) := by decide +kernel
theorem dX2_endAct_60 : decode cX2_endAct 60 = .ok (.getfield 118, 3) := by decide +kernel
theorem dX2_endAct_63 : decode cX2_endAct 63 = .ok (.if_icmp .ge 87, 3) := by decide +kernel
theorem dX2_endAct_66 : decode cX2_endAct 66 = .ok (.aload_n 0, 1) := by decide +kernel
theorem dX2_endAct_67 : decode cX2_endAct 67 = .ok (.getfield 36, 3) := by decide +kernel
theorem dX2_endAct_70 : decode cX2_endAct 70 = .ok (.iload_n 3, 1) := by decide +kernel
theorem dX2_endAct_71 : decode cX2_endAct 71 = .ok (.iaload, 1) := by decide +kernel
theorem dX2_endAct_72 : decode cX2_endAct 72 = .ok (.iconst (-1), 1) := by decide +kernel
theorem dX2_endAct_73 : decode cX2_endAct 73 = .ok (.if_icmp .eq 71, 3) := by decide +kernel
theorem dX2_endAct_76 : decode cX2_endAct 76 = .ok (.aload_n 0, 1) := by decide +kernel
theorem dX2_endAct_77 : decode cX2_endAct 77 = .ok (.dup, 1) := by decide +kernel
theorem dX2_endAct_78 : decode cX2_endAct 78 = .ok (.getfield 15, 3) := by decide +kernel
theorem dX2_endAct_81 : decode cX2_endAct 81 = .ok (.aload_n 1, 1) := by decide +kernel
theorem dX2_endAct_82 : decode cX2_endAct 82 = .ok (.aload_n 0, 1) := by decide +kernel
theorem dX2_endAct_83 : decode cX2_endAct 83 = .ok (.getfield 36, 3) := by decide +kernel
theorem dX2_endAct_86 : decode cX2_endAct 86 = .ok (.iload_n 3, 1) := by decide +kernel
theorem dX2_endAct_87 : decode cX2_endAct 87 = .ok (.iaload, 1) := by decide +kernel
theorem dX2_endAct_88 : decode cX2_endAct 88 = .ok (.iload_n 3, 1) := by decide +kernel
theorem dX2_endAct_89 : decode cX2_endAct 89 = .ok (.invokevirtual 145, 3) := by decide +kernel
theorem dX2_endAct_92 : decode cX2_endAct 92 = .ok (.iadd, 1) := by decide +kernel
theorem dX2_endAct_93 : decode cX2_endAct 93 = .ok (.putfield 15, 3) := by decide +kernel
theorem dX2_endAct_96 : decode cX2_endAct 96 = .ok (.aload_n 0, 1) := by decide +kernel
theorem dX2_endAct_97 : decode cX2_endAct 97 = .ok (.dup, 1) := by decide +kernel
theorem dX2_endAct_98 : decode cX2_endAct 98 = .ok (.getfield 18, 3) := by decide +kernel
theorem dX2_endAct_101 : decode cX2_endAct 101 = .ok (.aload_n 0, 1) := by decide +kernel
theorem dX2_endAct_102 : decode cX2_endAct 102 = .ok (.aload_n 1, 1) := by decide +kernel
theorem dX2_endAct_103 : decode cX2_endAct 103 = .ok (.aload_n 0, 1) := by decide +kernel
theorem dX2_endAct_104 : decode cX2_endAct 104 = .ok (.getfield 36, 3) := by decide +kernel
theorem dX2_endAct_107 : decode cX2_endAct 107 = .ok (.iload_n 3, 1) := by decide +kernel
theorem dX2_endAct_108 : decode cX2_endAct 108 = .ok (.iaload, 1) := by decide +kernel
theorem dX2_endAct_109 : decode cX2_endAct 109 = .ok (.iload_n 3, 1) := by decide +kernel
theorem dX2_endAct_110 : decode cX2_endAct 110 = .ok (.invokevirtual 148, 3) := by decide +kernel
theorem dX2_endAct_113 : decode cX2_endAct 113 = .ok (.iadd, 1) := by decide +kernel
theorem dX2_endAct_114 : decode cX2_endAct 114 = .ok (.putfield 18, 3) := by decide +kernel
theorem dX2_endAct_117 : decode cX2_endAct 117 = .ok (.aload_n 0, 1) := by decide +kernel
theorem dX2_endAct_118 : decode cX2_endAct 118 = .ok (.getfield 46, 3) := by decide +kernel
theorem dX2_endAct_121 : decode cX2_endAct 121 = .ok (.aload_n 0, 1) := by decide +kernel
theorem dX2_endAct_122 : decode cX2_endAct 122 = .ok (.getfield 36, 3) := by decide +kernel
theorem dX2_endAct_125 : decode cX2_endAct 125 = .ok (.iload_n 3, 1) := by decide +kernel
theorem dX2_endAct_126 : decode cX2_endAct 126 = .ok (.iaload, 1) := by decide +kernel
theorem dX2_endAct_127 : decode cX2_endAct 127 = .ok (.dup2, 1) := by decide +kernel
theorem dX2_endAct_128 : decode cX2_endAct 128 = .ok (.iaload, 1) := by decide +kernel
theorem dX2_endAct_129 : decode cX2_endAct 129 = .ok (.iconst 1, 1) := by decide +kernel
theorem dX2_endAct_130 : decode cX2_endAct 130 = .ok (.iadd, 1) := by decide +kernel
theorem dX2_endAct_131 : decode cX2_endAct 131 = .ok (.iastore, 1) := by decide +kernel
theorem dX2_endAct_132 : decode cX2_endAct 132 = .ok (.aload_n 0, 1) := by decide +kernel
theorem dX2_endAct_133 : decode cX2_endAct 133 = .ok (.getfield 40, 3) := by decide +kernel
theorem dX2_endAct_136 : decode cX2_endAct 136 = .ok (.iload_n 3, 1) := by decide +kernel
theorem dX2_endAct_137 : decode cX2_endAct 137 = .ok (.aload_n 0, 1) := by decide +kernel
theorem dX2_endAct_138 : decode cX2_endAct 138 = .ok (.getfield 36, 3) := by decide +kernel
theorem dX2_endAct_141 : decode cX2_endAct 141 = .ok (.iload_n 3, 1) := by decide +kernel
theorem dX2_endAct_142 : decode cX2_endAct 142 = .ok (.iaload, 1) := by decide +kernel
theorem dX2_endAct_143 : decode cX2_endAct 143 = .ok (.iastore, 1) := by decide +kernel
theorem dX2_endAct_144 : decode cX2_endAct 144 = .ok (.iinc 3 1, 3) := by decide +kernel
theorem dX2_endAct_147 : decode cX2_endAct 147 = .ok (.goto (-89), 3) := by decide +kernel
theorem dX2_endAct_150 : decode cX2_endAct 150 = .ok (.aload_n 0, 1) := by decide +kernel
theorem dX2_endAct_151 : decode cX2_endAct 151 = .ok (.iload_n 2, 1) := by decide +kernel
theorem dX2_endAct_152 : decode cX2_endAct 152 = .ok (.putfield 30, 3) := by decide +kernel
theorem dX2_endAct_155 : decode cX2_endAct 155 = .ok (.aload_n 0, 1) := by decide +kernel
theorem dX2_endAct_156 : decode cX2_endAct 156 = .ok (.iconst 0, 1) := by decide +kernel
theorem dX2_endAct_157 : decode cX2_endAct 157 = .ok (.putfield 33, 3) := by decide +kernel
theorem dX2_endAct_160 : decode cX2_endAct 160 = .ok (.aload_n 0, 1) := by decide +kernel
theorem dX2_endAct_161 : decode cX2_endAct 161 = .ok (.dup, 1) := by decide +kernel
theorem dX2_endAct_162 : decode cX2_endAct 162 = .ok (.getfield 9, 3) := by decide +kernel
theorem dX2_endAct_165 : decode cX2_endAct 165 = .ok (.iconst 1, 1) := by decide +kernel
theorem dX2_endAct_166 : decode cX2_endAct 166 = .ok (.iadd, 1) := by decide +kernel
theorem dX2_endAct_167 : decode cX2_endAct 167 = .ok (.putfield 9, 3) := by decide +kernel
theorem dX2_endAct_170 : decode cX2_endAct 170 = .ok (.aload_n 0, 1) := by decide +kernel
theorem dX2_endAct_171 : decode cX2_endAct 171 = .ok (.invokevirtual 151, 3) := by decide +kernel
theorem dX2_endAct_174 : decode cX2_endAct 174 = .ok (.return_, 1) := by decide +kernel
set_option maxRecDepth 100000 in
set_option maxHeartbeats 4000000 in
theorem hk_2_endAct (hF : ck_LKf ck_LK) (hM : ck_LKm ck_tags ck_LK ck_tab) (hU : ck_uq ty ck_pvs0) (hun : ck_un ty) (hX : ck_ExP ty ck_prot0 Ex) (hHA : ∀ Ex', ck_ExP ty ck_protA Ex' → ∀ j, j < 273 → ck_Holds l D cys ty ck_tags ck_pvs0 Ex' (ck_tab j)) (hH : ∀ j, j < 288 → ck_Holds l D cys ty ck_tags ck_pvs0 Ex (ck_tab j)) : ck_Holds l D cys ty ck_tags ck_pvs0 Ex (ck_tab 288) := by
  refine cm_enter (by decide +kernel) (by decide +kernel) (by decide +kernel) ?_
  intro vs pvv0 p e s m below meth c ls ha hp B hl hW
  have hx := B.1
  have hb : c.code = cX2_endAct := B.2.1
  have hI := pv_inj
  have hS : va_S (ck_own ty) s.heap s.heap [] := va_S.rf
  obtain ⟨_, _, rfl, ⟨a0, rfl, t0⟩, ⟨a1, rfl, t1⟩⟩ := cm_a2 ha
  have hl : lv_has ls 4 [(0, .ref a0), (1, .ref a1)] := hl
  have hp0 := hp
  have hXA := ExP_mono (prot' := ck_protA) pr0A pr0Al hX
  have l58 : ∀ (n58 : Nat) (k : Int32) (on : Int32) (ls : Array Slot) (H : Heap) (locs : List Loc), 6 - k.toInt < n58 → (0 ≤ k.toInt) → (k.toInt ≤ 6) → lv_has ls 4 [(3, .int k), (2, .int on), (0, .ref a0), (1, .ref a1)] → ck_Wo D cys ty ck_tags ck_pvs0 Ex pvv0 H → va_S (ck_own ty) s.heap H locs → W p l e (ck_rm (ck_tab 288)) s m [Value.ref a0, Value.ref a1].toArray below meth c H locs 0 0 (MQ below (ck_Qc D cys ty ck_tags ck_pvs0 Ex (ck_tab 288) [Value.ref a0, Value.ref a1] pvv0) [Value.ref a0, Value.ref a1].toArray s 0 0 (ck_own ty)) (F0 m 58 ls []) := by
    intro n58
    induction n58 with
    | zero => intro k on ls H locs hm58 k1 k2 hl hW hS; omega
    | succ n58 ih58 =>
      intro k on ls H locs hm58 k1 k2 hl hW hS
      refine lv_iload_n hx hb dX2_endAct_58 rfl (lv_at hl 0 rfl) ?_
      refine lv_aload_n hx hb dX2_endAct_59 rfl (lv_at hl 3 rfl) ?_
      refine hr_getI B hF hb hW (ci := 6) (j := 0) (cd := 0) t1 rfl (isF (by decide +kernel)) rfl dX2_endAct_60 (fun z60 lz60 uz60 pz60 xz60 => ?_)
      refine hr_ge (tgt := 150) hx hb dX2_endAct_63 (by decide) (fun h63 => ?_) (fun h63 => ?_)
      · refine lv_aload_n hx hb dX2_endAct_150 rfl (lv_at hl 2 rfl) ?_
        refine lv_iload_n hx hb dX2_endAct_151 rfl (lv_at hl 1 rfl) ?_
        refine hr_putN B hF hb hU hW hS (ci := 2) (j := 6) (cd := 0) t0 rfl (isF (by decide +kernel)) rfl (ck_lo _) (ck_hi _) (Or.inl rfl) (hr_EO hX t0 (by decide)) (by decide) dX2_endAct_152 (fun H locs hW hS => ?_)
        refine lv_aload_n hx hb dX2_endAct_155 rfl (lv_at hl 2 rfl) ?_
        refine hr_ic hx hb dX2_endAct_156 (by decide) (fun z156 hz156 => ?_)
        refine hr_putN B hF hb hU hW hS (ci := 2) (j := 7) (cd := 0) t0 rfl (isF (by decide +kernel)) rfl (ck_lo _) (ck_hi _) (Or.inl rfl) (hr_EO hX t0 (by decide)) (by decide) dX2_endAct_157 (fun H locs hW hS => ?_)
        refine lv_aload_n hx hb dX2_endAct_160 rfl (lv_at hl 2 rfl) ?_
        refine lv_dup hx hb dX2_endAct_161 rfl ?_
        refine hr_getI B hF hb hW (ci := 2) (j := 0) (cd := 0) t0 rfl (isF (by decide +kernel)) rfl dX2_endAct_162 (fun z162 lz162 uz162 pz162 xz162 => ?_)
        refine hr_ic hx hb dX2_endAct_165 (by decide) (fun z165 hz165 => ?_)
        refine lv_iadd hx hb dX2_endAct_166 (lv_topi (fun z166 hz166 => ?_))
        refine hr_putN B hF hb hU hW hS (ci := 2) (j := 0) (cd := 0) t0 rfl (isF (by decide +kernel)) rfl (ck_lo _) (ck_hi _) (Or.inl rfl) (hr_EO hX t0 (by decide)) (by decide) dX2_endAct_167 (fun H locs hW hS => ?_)
        refine lv_aload_n hx hb dX2_endAct_170 rfl (lv_at hl 2 rfl) ?_
        refine cm_callV (kc := kc_287) B rfl hb hl (hM.1 _ _ 0 [287] (isM (by decide +kernel)) 287 (by decide)) (hH 287 (by decide)) (b := a0) (As := []) ⟨hr_aR t0, True.intro⟩ hp hW hS rfl (by decide) (by decide) (Nat.le_of_ble_eq_true rfl) dX2_endAct_171 (fun cs hcs r pvv171 H locs hca hW hS => ?_)
        obtain rfl := List.mem_singleton.mp hcs
        obtain ⟨hr, hq, hc⟩ := hca
        obtain rfl := hr_rv0 hr
        have hW := hr_pvE (hr_sameA hc rfl (by decide +kernel)) hW
        exact cm_vret B hb rfl ⟨_, List.mem_cons_self, True.intro, (fun q h => nomatch h), hr_wk (hr_self hp0) (by decide +kernel)⟩ hW hS dX2_endAct_174
      · refine lv_aload_n hx hb dX2_endAct_66 rfl (lv_at hl 2 rfl) ?_
        obtain ⟨a8, f, t8, hW⟩ := hr_trf hW t0
        have hX2 := ExP_and hXA (te_ExP (cy := cys 0) (f := f) t0 t8)
        refine hr_getR B hF hb hW (ci := 2) (j := 8) (cd := 3) t0 rfl (isF (by decide +kernel)) rfl dX2_endAct_67 (fun az67 tz67 xz67 => ?_)
        obtain rfl := te_xo xz67
        refine lv_iload_n hx hb dX2_endAct_70 rfl (lv_at hl 0 rfl) ?_
        refine hr_iald B hb hW t8 rfl (by omega) (by omega) dX2_endAct_71 (fun z71 iz71 pz71 xz71 => ?_)
        have iz71 := hr_inr iz71 (a := 0) (b := 5) (lo := -1) (hi := 7) (by omega) (by omega) (by decide +kernel)
        have y71 := congrArg Int32.toInt (te_xa xz71 (by omega))
        refine hr_ic hx hb dX2_endAct_72 (by decide) (fun z72 hz72 => ?_)
        refine hr_eq (tgt := 144) hx hb dX2_endAct_73 (by decide) (fun h73 => ?_) (fun h73 => ?_)
        · have hW := hr_mono (fun _ h => h.1) hW
          refine hr_inc hx hb dX2_endAct_144 hl (kq := 0) (lv' := fun v => [(3, .int v), (2, .int on), (0, .ref a0), (1, .ref a1)]) rfl (by decide) (by decide) (by omega) (by omega) (fun _ => rfl) (fun z144 ls hz144 hl => ?_)
          refine lv_goto (tgt := 58) hx hb dX2_endAct_147 (by decide) ?_
          exact ih58 z144 on _ _ _ (by omega) (by omega) (by omega) hl hW hS
        · refine lv_aload_n hx hb dX2_endAct_76 rfl (lv_at hl 2 rfl) ?_
          refine lv_dup hx hb dX2_endAct_77 rfl ?_
          refine hr_getI B hF hb hW (ci := 2) (j := 1) (cd := 0) t0 rfl (isF (by decide +kernel)) rfl dX2_endAct_78 (fun z78 lz78 uz78 pz78 xz78 => ?_)
          refine lv_aload_n hx hb dX2_endAct_81 rfl (lv_at hl 3 rfl) ?_
          refine lv_aload_n hx hb dX2_endAct_82 rfl (lv_at hl 2 rfl) ?_
          refine hr_getR B hF hb hW (ci := 2) (j := 8) (cd := 3) t0 rfl (isF (by decide +kernel)) rfl dX2_endAct_83 (fun az83 tz83 xz83 => ?_)
          obtain rfl := te_xo xz83
          refine lv_iload_n hx hb dX2_endAct_86 rfl (lv_at hl 0 rfl) ?_
          refine hr_iald B hb hW t8 rfl (by omega) (by omega) dX2_endAct_87 (fun z87 iz87 pz87 xz87 => ?_)
          have iz87 := hr_inr iz87 (a := 0) (b := 5) (lo := -1) (hi := 7) (by omega) (by omega) (by decide +kernel)
          have y87 := congrArg Int32.toInt (te_xa xz87 (by omega))
          refine lv_iload_n hx hb dX2_endAct_88 rfl (lv_at hl 0 rfl) ?_
          refine cm_callV (kc := kc_21) B rfl hb hl (hM.1 _ _ 0 [21, 22] (isM (by decide +kernel)) 21 (by decide)) (hHA _ hX2 21 (by decide)) (b := a1) (As := [.int z87, .int k]) ⟨hr_aR t1, hr_aI (by omega) (by omega), hr_aI (by omega) (by omega), True.intro⟩ hp hW hS rfl (by decide) (by decide) (Nat.le_of_ble_eq_true rfl) dX2_endAct_89 (fun cs hcs r pvv89 H locs hca hW hS => ?_)
          obtain rfl := List.mem_singleton.mp hcs
          obtain ⟨hr, hq, hc⟩ := hca
          obtain ⟨z89, rfl, lz89, uz89⟩ := hr_rvI hr
          have hW := hr_pvE (hr_sameA hc rfl (by decide +kernel)) hW
          refine lv_iadd hx hb dX2_endAct_92 (lv_topi (fun z92 hz92 => ?_))
          refine hr_putN (Ex' := (fun ws => Ex ws ∧ te a0 a8 (cys 0) f ws)) B hF hb hU hW hS (ci := 2) (j := 1) (cd := 0) t0 rfl (isF (by decide +kernel)) rfl (ck_lo _) (ck_hi _) (Or.inl rfl) (hr_EO hX2 t0 (by decide)) (by decide) dX2_endAct_93 (fun H locs hW hS => ?_)
          refine lv_aload_n hx hb dX2_endAct_96 rfl (lv_at hl 2 rfl) ?_
          refine lv_dup hx hb dX2_endAct_97 rfl ?_
          refine hr_getI B hF hb hW (ci := 2) (j := 2) (cd := 0) t0 rfl (isF (by decide +kernel)) rfl dX2_endAct_98 (fun z98 lz98 uz98 pz98 xz98 => ?_)
          refine lv_aload_n hx hb dX2_endAct_101 rfl (lv_at hl 2 rfl) ?_
          refine lv_aload_n hx hb dX2_endAct_102 rfl (lv_at hl 3 rfl) ?_
          refine lv_aload_n hx hb dX2_endAct_103 rfl (lv_at hl 2 rfl) ?_
          refine hr_getR B hF hb hW (ci := 2) (j := 8) (cd := 3) t0 rfl (isF (by decide +kernel)) rfl dX2_endAct_104 (fun az104 tz104 xz104 => ?_)
          obtain rfl := te_xo xz104
          refine lv_iload_n hx hb dX2_endAct_107 rfl (lv_at hl 0 rfl) ?_
          refine hr_iald B hb hW t8 rfl (by omega) (by omega) dX2_endAct_108 (fun z108 iz108 pz108 xz108 => ?_)
          have iz108 := hr_inr iz108 (a := 0) (b := 5) (lo := -1) (hi := 7) (by omega) (by omega) (by decide +kernel)
          have y108 := congrArg Int32.toInt (te_xa xz108 (by omega))
          refine lv_iload_n hx hb dX2_endAct_109 rfl (lv_at hl 0 rfl) ?_
          refine cm_callV (kc := kc_32) B rfl hb hl (hM.1 _ _ 0 [32] (isM (by decide +kernel)) 32 (by decide)) (hHA _ hX2 32 (by decide)) (b := a0) (As := [.ref a1, .int z108, .int k]) ⟨hr_aR t0, hr_aR t1, hr_aI (by omega) (by omega), hr_aI (by omega) (by omega), True.intro⟩ hp hW hS rfl (by decide) (by decide) (Nat.le_of_ble_eq_true rfl) dX2_endAct_110 (fun cs hcs r pvv110 H locs hca hW hS => ?_)
          obtain rfl := List.mem_singleton.mp hcs
          obtain ⟨hr, hq, hc⟩ := hca
          obtain ⟨z110, rfl, lz110, uz110⟩ := hr_rvI hr
          have hW := hr_pvE (hr_sameA hc rfl (by decide +kernel)) hW
          refine lv_iadd hx hb dX2_endAct_113 (lv_topi (fun z113 hz113 => ?_))
          refine hr_putN (Ex' := (fun ws => Ex ws ∧ te a0 a8 (cys 0) f ws)) B hF hb hU hW hS (ci := 2) (j := 2) (cd := 0) t0 rfl (isF (by decide +kernel)) rfl (ck_lo _) (ck_hi _) (Or.inl rfl) (hr_EO hX2 t0 (by decide)) (by decide) dX2_endAct_114 (fun H locs hW hS => ?_)
          refine lv_aload_n hx hb dX2_endAct_117 rfl (lv_at hl 2 rfl) ?_
          refine hr_getR B hF hb hW (ci := 2) (j := 11) (cd := 3) t0 rfl (isF (by decide +kernel)) rfl dX2_endAct_118 (fun az118 tz118 xz118 => ?_)
          refine lv_aload_n hx hb dX2_endAct_121 rfl (lv_at hl 2 rfl) ?_
          refine hr_getR B hF hb hW (ci := 2) (j := 8) (cd := 3) t0 rfl (isF (by decide +kernel)) rfl dX2_endAct_122 (fun az122 tz122 xz122 => ?_)
          obtain rfl := te_xo xz122
          refine lv_iload_n hx hb dX2_endAct_125 rfl (lv_at hl 0 rfl) ?_
          refine hr_iald B hb hW t8 rfl (by omega) (by omega) dX2_endAct_126 (fun z126 iz126 pz126 xz126 => ?_)
          have iz126 := hr_inr iz126 (a := 0) (b := 5) (lo := -1) (hi := 7) (by omega) (by omega) (by decide +kernel)
          have y126 := congrArg Int32.toInt (te_xa xz126 (by omega))
          refine lv_dup2_11 hx hb dX2_endAct_127 rfl rfl ?_
          refine hr_iald B hb hW tz118 rfl (by omega) (by omega) dX2_endAct_128 (fun z128 iz128 pz128 xz128 => ?_)
          refine hr_ic hx hb dX2_endAct_129 (by decide) (fun z129 hz129 => ?_)
          refine lv_iadd hx hb dX2_endAct_130 (lv_topi (fun z130 hz130 => ?_))
          refine hr_iastN (Ex' := (fun ws => Ex ws ∧ te a0 a8 (cys 0) f ws)) B hb hU hW hS tz118 rfl (by omega) (by omega) ⟨ck_lo _, ck_hi _⟩ (hr_EA (i := z126) hX2 tz118 (u := 0) (v := 7) (by omega) (by omega) (by decide)) (u := 0) (v := 7) (by omega) (by omega) (by decide) dX2_endAct_131 (fun H locs hW hS => ?_)
          refine lv_aload_n hx hb dX2_endAct_132 rfl (lv_at hl 2 rfl) ?_
          refine hr_getR B hF hb hW (ci := 2) (j := 9) (cd := 3) t0 rfl (isF (by decide +kernel)) rfl dX2_endAct_133 (fun az133 tz133 xz133 => ?_)
          refine lv_iload_n hx hb dX2_endAct_136 rfl (lv_at hl 0 rfl) ?_
          refine lv_aload_n hx hb dX2_endAct_137 rfl (lv_at hl 2 rfl) ?_
          refine hr_getR B hF hb hW (ci := 2) (j := 8) (cd := 3) t0 rfl (isF (by decide +kernel)) rfl dX2_endAct_138 (fun az138 tz138 xz138 => ?_)
          obtain rfl := te_xo xz138
          refine lv_iload_n hx hb dX2_endAct_141 rfl (lv_at hl 0 rfl) ?_
          refine hr_iald B hb hW t8 rfl (by omega) (by omega) dX2_endAct_142 (fun z142 iz142 pz142 xz142 => ?_)
          have iz142 := hr_inr iz142 (a := 0) (b := 5) (lo := -1) (hi := 7) (by omega) (by omega) (by decide +kernel)
          have y142 := congrArg Int32.toInt (te_xa xz142 (by omega))
          have hW := hr_mono (fun _ h => h.1) hW
          refine hr_iastN B hb hU hW hS tz133 rfl (by omega) (by omega) (hr_ins (a := 0) (b := 5) (lo := -1) (hi := 7) (by omega) (by omega) (by decide +kernel) (by omega) (by omega)) (hr_EA (i := k) hX tz133 (u := 0) (v := 5) (by omega) (by omega) (by decide)) (u := 0) (v := 5) (by omega) (by omega) (by decide) dX2_endAct_143 (fun H locs hW hS => ?_)
          refine hr_inc hx hb dX2_endAct_144 hl (kq := 0) (lv' := fun v => [(3, .int v), (2, .int on), (0, .ref a0), (1, .ref a1)]) rfl (by decide) (by decide) (by omega) (by omega) (fun _ => rfl) (fun z144 ls hz144 hl => ?_)
          refine lv_goto (tgt := 58) hx hb dX2_endAct_147 (by decide) ?_
          exact ih58 z144 on _ _ _ (by omega) (by omega) (by omega) hl hW hS
  have l7 : ∀ (n7 : Nat) (k : Int32) (on : Int32) (ls : Array Slot) (H : Heap) (locs : List Loc), 8 - k.toInt < n7 → (0 ≤ k.toInt) → (k.toInt ≤ 8) → lv_has ls 4 [(3, .int k), (2, .int on), (0, .ref a0), (1, .ref a1)] → ck_Wo D cys ty ck_tags ck_pvs0 Ex pvv0 H → va_S (ck_own ty) s.heap H locs → W p l e (ck_rm (ck_tab 288)) s m [Value.ref a0, Value.ref a1].toArray below meth c H locs 0 0 (MQ below (ck_Qc D cys ty ck_tags ck_pvs0 Ex (ck_tab 288) [Value.ref a0, Value.ref a1] pvv0) [Value.ref a0, Value.ref a1].toArray s 0 0 (ck_own ty)) (F0 m 7 ls []) := by
    intro n7
    induction n7 with
    | zero => intro k on ls H locs hm7 k1 k2 hl hW hS; omega
    | succ n7 ih7 =>
      intro k on ls H locs hm7 k1 k2 hl hW hS
      refine lv_iload_n hx hb dX2_endAct_7 rfl (lv_at hl 0 rfl) ?_
      refine lv_aload_n hx hb dX2_endAct_8 rfl (lv_at hl 3 rfl) ?_
      refine hr_getI B hF hb hW (ci := 6) (j := 2) (cd := 0) t1 rfl (isF (by decide +kernel)) rfl dX2_endAct_9 (fun z9 lz9 uz9 pz9 xz9 => ?_)
      refine hr_ge (tgt := 56) hx hb dX2_endAct_12 (by decide) (fun h12 => ?_) (fun h12 => ?_)
      · refine hr_ic hx hb dX2_endAct_56 (by decide) (fun z56 hz56 => ?_)
        refine lv_istore_n hx hb dX2_endAct_57 rfl hl (lv' := [(3, .int z56), (2, .int on), (0, .ref a0), (1, .ref a1)]) (by decide) rfl (fun ls hl => ?_)
        exact l58 7 z56 on _ _ _ (by omega) (by omega) (by omega) hl hW hS
      · refine lv_iload_n hx hb dX2_endAct_15 rfl (lv_at hl 1 rfl) ?_
        refine lv_iload_n hx hb dX2_endAct_16 rfl (lv_at hl 0 rfl) ?_
        refine cm_callSN (kc := kc_2) B rfl hb hl (hM.1 _ _ 2 [2] (isM (by decide +kernel)) 2 (by decide)) (hH 2 (by decide)) (As := [.int on, .int k]) ⟨hr_aF, hr_aF, True.intro⟩ hp hW hS rfl (by decide) (by decide) (Nat.le_of_ble_eq_true rfl) dX2_endAct_17 (fun cs hcs r pvv17 H locs hca hW hS => ?_)
        rcases List.mem_cons.mp hcs with rfl | hcs
        · obtain ⟨hr, hq, hc⟩ := hca
          obtain ⟨z17, rfl, lz17, uz17⟩ := hr_rvI hr
          have hW := hr_pvE (hr_sameA hc rfl (by decide +kernel)) hW
          refine hr_ne0 (tgt := 44) hx hb dX2_endAct_20 (by decide) (fun h20 => ?_) (fun h20 => ?_)
          · omega
          · refine lv_aload_n hx hb dX2_endAct_23 rfl (lv_at hl 2 rfl) ?_
            refine lv_dup hx hb dX2_endAct_24 rfl ?_
            refine hr_getI B hF hb hW (ci := 2) (j := 4) (cd := 0) t0 rfl (isF (by decide +kernel)) rfl dX2_endAct_25 (fun z25 lz25 uz25 pz25 xz25 => ?_)
            refine lv_aload_n hx hb dX2_endAct_28 rfl (lv_at hl 3 rfl) ?_
            refine hr_getR B hF hb hW (ci := 6) (j := 13) (cd := 3) t1 rfl (isF (by decide +kernel)) rfl dX2_endAct_29 (fun az29 tz29 xz29 => ?_)
            refine lv_iload_n hx hb dX2_endAct_32 rfl (lv_at hl 0 rfl) ?_
            refine hr_iald B hb hW tz29 rfl (by omega) (by omega) dX2_endAct_33 (fun z33 iz33 pz33 xz33 => ?_)
            refine lv_iadd hx hb dX2_endAct_34 (lv_topi (fun z34 hz34 => ?_))
            refine hr_putN B hF hb hU hW hS (ci := 2) (j := 4) (cd := 0) t0 rfl (isF (by decide +kernel)) rfl (ck_lo _) (ck_hi _) (Or.inl rfl) (hr_EO hX t0 (by decide)) (by decide) dX2_endAct_35 (fun H locs hW hS => ?_)
            refine lv_aload_n hx hb dX2_endAct_38 rfl (lv_at hl 2 rfl) ?_
            refine lv_aload_n hx hb dX2_endAct_39 rfl (lv_at hl 3 rfl) ?_
            refine lv_iload_n hx hb dX2_endAct_40 rfl (lv_at hl 0 rfl) ?_
            refine cm_callV (kc := kc_29) B rfl hb hl (hM.1 _ _ 0 [29] (isM (by decide +kernel)) 29 (by decide)) (hH 29 (by decide)) (b := a0) (As := [.ref a1, .int k]) ⟨hr_aR t0, hr_aR t1, hr_aI (by omega) (by omega), True.intro⟩ hp hW hS rfl (by decide) (by decide) (Nat.le_of_ble_eq_true rfl) dX2_endAct_41 (fun cs hcs r pvv41 H locs hca hW hS => ?_)
            obtain rfl := List.mem_singleton.mp hcs
            obtain ⟨hr, hq, hc⟩ := hca
            obtain rfl := hr_rv0 hr
            have hW := hr_pvE (hr_sameA hc rfl (by decide +kernel)) hW
            refine lv_aload_n hx hb dX2_endAct_44 rfl (lv_at hl 2 rfl) ?_
            refine lv_aload_n hx hb dX2_endAct_45 rfl (lv_at hl 3 rfl) ?_
            refine lv_iload_n hx hb dX2_endAct_46 rfl (lv_at hl 0 rfl) ?_
            refine cm_callV (kc := kc_30) B rfl hb hl (hM.1 _ _ 0 [30] (isM (by decide +kernel)) 30 (by decide)) (hH 30 (by decide)) (b := a0) (As := [.ref a1, .int k]) ⟨hr_aR t0, hr_aR t1, hr_aI (by omega) (by omega), True.intro⟩ hp hW hS rfl (by decide) (by decide) (Nat.le_of_ble_eq_true rfl) dX2_endAct_47 (fun cs hcs r pvv47 H locs hca hW hS => ?_)
            obtain rfl := List.mem_singleton.mp hcs
            obtain ⟨hr, hq, hc⟩ := hca
            obtain rfl := hr_rv0 hr
            have hW := hr_pvE (hr_sameA hc rfl (by decide +kernel)) hW
            refine hr_inc hx hb dX2_endAct_50 hl (kq := 0) (lv' := fun v => [(3, .int v), (2, .int on), (0, .ref a0), (1, .ref a1)]) rfl (by decide) (by decide) (by omega) (by omega) (fun _ => rfl) (fun z50 ls hz50 hl => ?_)
            refine lv_goto (tgt := 7) hx hb dX2_endAct_53 (by decide) ?_
            exact ih7 z50 on _ _ _ (by omega) (by omega) (by omega) hl hW hS
        obtain rfl := List.mem_singleton.mp hcs
        obtain ⟨hr, hq, hc⟩ := hca
        obtain ⟨z17, rfl, lz17, uz17⟩ := hr_rvI hr
        have hW := hr_pvE (hr_sameA hc rfl (by decide +kernel)) hW
        refine hr_ne0 (tgt := 44) hx hb dX2_endAct_20 (by decide) (fun h20 => ?_) (fun h20 => ?_)
        · refine lv_aload_n hx hb dX2_endAct_44 rfl (lv_at hl 2 rfl) ?_
          refine lv_aload_n hx hb dX2_endAct_45 rfl (lv_at hl 3 rfl) ?_
          refine lv_iload_n hx hb dX2_endAct_46 rfl (lv_at hl 0 rfl) ?_
          refine cm_callV (kc := kc_30) B rfl hb hl (hM.1 _ _ 0 [30] (isM (by decide +kernel)) 30 (by decide)) (hH 30 (by decide)) (b := a0) (As := [.ref a1, .int k]) ⟨hr_aR t0, hr_aR t1, hr_aI (by omega) (by omega), True.intro⟩ hp hW hS rfl (by decide) (by decide) (Nat.le_of_ble_eq_true rfl) dX2_endAct_47 (fun cs hcs r pvv47 H locs hca hW hS => ?_)
          obtain rfl := List.mem_singleton.mp hcs
          obtain ⟨hr, hq, hc⟩ := hca
          obtain rfl := hr_rv0 hr
          have hW := hr_pvE (hr_sameA hc rfl (by decide +kernel)) hW
          refine hr_inc hx hb dX2_endAct_50 hl (kq := 0) (lv' := fun v => [(3, .int v), (2, .int on), (0, .ref a0), (1, .ref a1)]) rfl (by decide) (by decide) (by omega) (by omega) (fun _ => rfl) (fun z50 ls hz50 hl => ?_)
          refine lv_goto (tgt := 7) hx hb dX2_endAct_53 (by decide) ?_
          exact ih7 z50 on _ _ _ (by omega) (by omega) (by omega) hl hW hS
        · omega
  refine lv_aload_n hx hb dX2_endAct_0 rfl (lv_at hl 0 rfl) ?_
  refine cm_callV (kc := kc_33) B rfl hb hl (hM.1 _ _ 0 [33] (isM (by decide +kernel)) 33 (by decide)) (hH 33 (by decide)) (b := a0) (As := []) ⟨hr_aR t0, True.intro⟩ hp hW hS rfl (by decide) (by decide) (Nat.le_of_ble_eq_true rfl) dX2_endAct_1 (fun cs hcs r pvv1 H locs hca hW hS => ?_)
  obtain rfl := List.mem_singleton.mp hcs
  obtain ⟨hr, hq, hc⟩ := hca
  obtain ⟨z1, rfl, lz1, uz1⟩ := hr_rvI hr
  have hW := hr_pvE (hr_sameA hc rfl (by decide +kernel)) hW
  refine lv_istore_n hx hb dX2_endAct_4 rfl hl (lv' := [(2, .int z1), (0, .ref a0), (1, .ref a1)]) (by decide) rfl (fun ls hl => ?_)
  refine hr_ic hx hb dX2_endAct_5 (by decide) (fun z5 hz5 => ?_)
  refine lv_istore_n hx hb dX2_endAct_6 rfl hl (lv' := [(3, .int z5), (2, .int z1), (0, .ref a0), (1, .ref a1)]) (by decide) rfl (fun ls hl => ?_)
  exact l7 9 z5 z1 _ _ _ (by omega) (by omega) (by omega) hl hW hS
end H24b

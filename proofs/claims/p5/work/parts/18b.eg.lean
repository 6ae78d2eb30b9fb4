/-! THE EXACT LOGIC, 3b: rows of references, truth values, what isn't known. -/
section EG
variable {l : Launch} {D : va_G} {cys : Nat → ClassId} {ty : Nat → Option Nat} {tg : List ck_TD} {TR : Nat → Bool} {LK : Nat → Nat → Option ck_En} {k : ck_K} {pc : Nat} {L : List (Nat × ev_V)} {S : List ev_V} {C : ev_C} {Q : Option ev_V → ev_C → Prop}
theorem ev_getIU (hF : ck_LKf LK) {t ci j cd ix : Nat} {fts : List ck_AV} {r : ck_I} (hd : decode (k_cc k) pc = .ok (.getfield ix, 3)) (hl : LK (k_ow k) ix = some (.inl (ci, j, cd))) (htd : tg[t]? = some (.inl (ci, fts))) (hft : fts[j]? = some (.inl r)) (kk : ∀ n : Int, ev_W l D cys ty tg TR k (pc + 3) L (.inl n :: S) C Q) : ev_W l D cys ty tg TR k pc L (.inr (.inl t) :: S) C Q := by
  intro p e s m args below meth c ls st H locs B hs
  obtain ⟨w, rest, rfl, ⟨a, rfl, hta⟩, hs1⟩ := ev_pop1 hs
  obtain ⟨lv, y1, y2, y3, ⟨ws, hP, hD, hT⟩, y5⟩ := id hs1
  obtain ⟨q, fs, g1, g2, g3⟩ := ev_obj hT hta htd
  obtain ⟨v, h4, x, rfl, -⟩ := g3 j _ hft
  exact cm_get B hF B.2.1 hP g1 hl h4 hd (kk x.toInt _ _ _ _ _ _ _ _ _ _ _ _ B (ev_push hs1 ⟨x, rfl, rfl⟩))
theorem ev_aald {t kd n et t' : Nat} {sg : List (Nat × Int × Int)} {i : Int} (hd : decode (k_cc k) pc = .ok (.aaload, 1)) (htd : tg[t]? = some (.inr (kd, n, sg, et))) (hkd : kd = 4 ∨ kd = 5) (h0 : 0 ≤ i) (h1 : i < n) (ht' : ck_et kd et i.toNat = t') (kk : ev_W l D cys ty tg TR k (pc + 1) L (.inr (.inl t') :: S) C Q) : ev_W l D cys ty tg TR k pc L (.inl i :: .inr (.inl t) :: S) C Q := by
  subst ht'
  intro p e s m args below meth c ls st H locs B hs
  obtain ⟨w, st1, rfl, ⟨x, rfl, hx⟩, hs1⟩ := ev_pop1 hs
  obtain ⟨w, rest, rfl, ⟨a, rfl, hta⟩, hs2⟩ := ev_pop1 hs1
  obtain ⟨lv, y1, y2, y3, ⟨ws, hP, hD, hT⟩, y5⟩ := id hs2
  obtain ⟨q, en, td, g1, g2, g3⟩ := hT a t hta
  rw [htd] at g2
  cases g2
  subst hx
  rcases g3 with ⟨h, -⟩ | ⟨h, -⟩ | ⟨h, f, rfl, hf⟩
  · dsimp only at h; omega
  · dsimp only at h; omega
  · dsimp only at hf g1
    obtain ⟨b, h2, h3⟩ := hf x.toInt.toNat (by omega)
    have h2 : f x.toNatClampNeg = some b := h2
    have hK := B.2.2.2.2.2.2.2.1
    rcases hkd with rfl | rfl
    · refine va_aldq B.1 B.2.1 hK hP q 4 g1 rfl (ck_vin h0 h1) hd ?_
      rw [h2]
      exact kk _ _ _ _ _ _ _ _ _ _ _ _ B (ev_push hs2 ⟨b, rfl, h3⟩)
    · refine va_aldq B.1 B.2.1 hK hP q 5 g1 rfl (ck_vin h0 h1) hd ?_
      rw [h2]
      exact kk _ _ _ _ _ _ _ _ _ _ _ _ B (ev_push hs2 ⟨b, rfl, h3⟩)
theorem ev_as {i : Fin 4} {t : Nat} (hd : decode (k_cc k) pc = .ok (.astore_n i, 1)) (hn : i.val < k_ml k) {L' : List (Nat × ev_V)} (hL : ev_put1 L i.val (.inr (.inl t)) = L') (kk : ev_W l D cys ty tg TR k (pc + 1) L' S C Q) : ev_W l D cys ty tg TR k pc L (.inr (.inl t) :: S) C Q := by
  subst hL
  intro p e s m args below meth c ls st H locs B hs
  obtain ⟨w, rest, rfl, ⟨x, rfl, hx⟩, lv, h1, h2, h3, h4⟩ := ev_pop1 hs
  refine lv_astore_n B.1 B.2.1 hd rfl h1 hn rfl (fun ls' hl' => ?_)
  exact kk _ _ _ _ _ _ _ _ _ _ _ _ B ⟨_, hl', ⟨⟨rfl, x, rfl, hx⟩, ev_filter_ok h2⟩, h3, h4⟩
theorem ev_zald {t n et : Nat} {sg : List (Nat × Int × Int)} {i : Int} (hd : decode (k_cc k) pc = .ok (.baload, 1)) (htd : tg[t]? = some (.inr (2, n, sg, et))) (htr : TR t = true) (h0 : 0 ≤ i) (h1 : i < n) (kk : ev_W l D cys ty tg TR k (pc + 1) L (.inl (C t i.toNat) :: S) C Q) : ev_W l D cys ty tg TR k pc L (.inl i :: .inr (.inl t) :: S) C Q := by
  intro p e s m args below meth c ls st H locs B hs
  obtain ⟨w, st1, rfl, ⟨x, rfl, hx⟩, hs1⟩ := ev_pop1 hs
  obtain ⟨w, rest, rfl, ⟨a, rfl, hta⟩, hs2⟩ := ev_pop1 hs1
  obtain ⟨lv, y1, y2, y3, ⟨ws, hP, hD, hT⟩, y5⟩ := id hs2
  obtain ⟨q, f, g1, g2⟩ := ev_arrI hT hta htd (by omega)
  subst hx
  exact va_zald B.1 B.2.1 B.2.2.2.2.2.2.2.1 hP q 2 g1 rfl (ck_vin h0 h1) hd (kk _ _ _ _ _ _ _ _ _ _ _ _ B (ev_push hs2 ⟨_, rfl, g2 htr x.toInt.toNat (by omega)⟩))
theorem ev_zast (hU : ev_uq ty TR) {t n et : Nat} {sg : List (Nat × Int × Int)} {i v : Int} (hd : decode (k_cc k) pc = .ok (.bastore, 1)) (htd : tg[t]? = some (.inr (2, n, sg, et))) (htr : TR t = true) (h0 : 0 ≤ i) (h1 : i < n) (hv : 0 ≤ v ∧ v ≤ 1) (kk : ev_W l D cys ty tg TR k (pc + 1) L S (ev_u C t i.toNat v) Q) : ev_W l D cys ty tg TR k pc L (.inl v :: .inl i :: .inr (.inl t) :: S) C Q := by
  intro p e s m args below meth c ls st H locs B hs
  obtain ⟨w, st2, rfl, ⟨y, rfl, hy⟩, hs1⟩ := ev_pop1 hs
  obtain ⟨w, st1, rfl, ⟨x, rfl, hx⟩, hs2⟩ := ev_pop1 hs1
  obtain ⟨w, rest, rfl, ⟨a, rfl, hta⟩, hs3⟩ := ev_pop1 hs2
  obtain ⟨lv, y1, y2, y3, ⟨ws, hP, hD, hT⟩, y5⟩ := hs3
  obtain ⟨q, f, g1, g2⟩ := ev_arrI hT hta htd (by omega)
  subst hx
  refine va_zast B.1 B.2.1 B.2.2.2.2.2.2.2.1 hP hD y5 q 2 g1 rfl (ck_vin h0 h1) hd (fun H1 locs1 hP1 hD1 hS1 => ?_)
  rw [ck_nb2 (by rw [hy]; exact hv)] at hP1 hD1
  exact kk _ _ _ _ _ _ _ _ _ _ _ _ B ⟨lv, y1, y2, y3, ⟨_, hP1, hD1, ev_set hU hD hT g1 hta htd (Or.inl ⟨by omega, _, rfl, ev_aset g2 hy⟩) (fun t' ht => ev_ut ht) (fun h => by rw [htr] at h; cases h)⟩, hS1⟩
theorem ev_copyiU (hU : ev_uq ty TR) {tab : Nat → ck_K} (hM : ck_LKm tg LK tab) {t t0 n et et0 ix : Nat} {sg sg0 : List (Nat × Int × Int)} {u : Unit} (hd : decode (k_cc k) pc = .ok (.invokestatic ix, 3)) (hl : LK (k_ow k) ix = some (.inr (.inr (.inr (.inr u))))) (htd : tg[t]? = some (.inr (0, n, sg, et))) (htd0 : tg[t0]? = some (.inr (0, n, sg0, et0))) (htr : TR t = false) (hfr : 1 ≤ k_fr k) (hlo : (S.map ev_cat).sum + 18 ≤ k_lo k) (kk : ev_W l D cys ty tg TR k (pc + 3) L S C Q) : ev_W l D cys ty tg TR k pc L (.inl (n : Int) :: .inl 0 :: .inr (.inl t) :: .inl 0 :: .inr (.inl t0) :: S) C Q := by
  intro p e s m args below meth c ls st H locs B hs
  obtain ⟨w, st4, rfl, ⟨x4, rfl, hx4⟩, hs1⟩ := ev_pop1 hs
  obtain ⟨w, st3, rfl, ⟨x3, rfl, hx3⟩, hs2⟩ := ev_pop1 hs1
  obtain ⟨w, st2, rfl, ⟨a, rfl, hta⟩, hs3⟩ := ev_pop1 hs2
  obtain ⟨w, st1, rfl, ⟨x1, rfl, hx1⟩, hs4⟩ := ev_pop1 hs3
  obtain ⟨w, rest, rfl, ⟨a0, rfl, hta0⟩, hs5⟩ := ev_pop1 hs4
  obtain ⟨lv, y1, y2, y3, ⟨ws, hP, hD, hT⟩, y5⟩ := hs5
  obtain ⟨q, g, g1, g2⟩ := ev_arrI hT hta htd (by omega)
  obtain ⟨q0, f, f1, f2⟩ := ev_arrI hT hta0 htd0 (by omega)
  obtain ⟨B1, B2, B3, B4, B5, B6, B7, B8, B9⟩ := id B
  have hin : ∀ w ∈ wsL_law0, w ∈ ck_ws k := fun w hw => List.mem_cons_of_mem _ hw
  have e1 : x1.toNatClampNeg = 0 := by rw [ck_cl0 (by omega)]; omega
  have e2 : x3.toNatClampNeg = 0 := by rw [ck_cl0 (by omega)]; omega
  have e3 : x4.toNatClampNeg = n := by rw [ck_cl0 (by omega)]; omega
  refine va_copyi (own := ck_R (k_ow k)) B1 B2 (B3.trans y1.1.symm) B7 (B6 _ (hin _ (hM.2 _ _ _ hl))) (B6 _ (hin _ ck_nat3.1)) (B6 _ (hin _ ck_nat3.2.1)) (B6 _ (hin _ ck_nat3.2.2)) B8 hP hD y5 q0 q 0 0 f1 g1 rfl rfl rfl (ck_nz (by omega)) (ck_nz (by omega)) (ck_nz (by omega)) (by omega) (by omega) (fun _ _ => rfl) hfr (by
    have : nativeFrameWords "java/lang/System" "arraycopy" 5 = 7 := by decide +kernel
    rw [ev_vs_sum y3]
    show _ ≤ k_lo k
    omega) hd (fun H1 locs1 hP1 hD1 hS1 => ?_)
  exact kk _ _ _ _ _ _ _ _ _ _ _ _ B ⟨lv, y1, y2, y3, ⟨_, hP1, hD1, ev_set hU hD hT g1 hta htd (Or.inl ⟨by omega, _, rfl, fun h => by rw [htr] at h; cases h⟩) (fun t' ht => rfl) (fun h => rfl)⟩, hS1⟩
end EG

/-! THE EXACT LOGIC, 3: fields, rows, calls, ends. -/
section EF
variable {l : Launch} {D : va_G} {cys : Nat → ClassId} {ty : Nat → Option Nat} {tg : List ck_TD} {TR : Nat → Bool} {LK : Nat → Nat → Option ck_En} {k : ck_K} {pc : Nat} {L : List (Nat × ev_V)} {S : List ev_V} {C : ev_C} {Q : Option ev_V → ev_C → Prop}
theorem ev_obj {ws : va_W} {a t ci : Nat} {fts : List ck_AV} (hT : ev_T ty cys tg TR C ws) (hta : ty a = some t) (htd : tg[t]? = some (.inl (ci, fts))) : ∃ (q : Nat) (fs : List Value), ws[q]? = some (a, .inr (ci, fs)) ∧ fs.length = fts.length ∧ ∀ (k : Nat) (ft : ck_AV), fts[k]? = some ft → ∃ v, fs[k]? = some v ∧ ev_f ty ft (TR t) (C t k) v := by
  obtain ⟨q, en, td, g1, g2, g3⟩ := hT a t hta
  rw [htd] at g2
  cases g2
  obtain ⟨fs, rfl, h2, h3⟩ := g3
  exact ⟨q, fs, g1, h2, h3⟩
theorem ev_arrI {ws : va_W} {a t kd n et : Nat} {sg : List (Nat × Int × Int)} (hT : ev_T ty cys tg TR C ws) (hta : ty a = some t) (htd : tg[t]? = some (.inr (kd, n, sg, et))) (hkd : kd < 3) : ∃ (q : Nat) (f : Nat → Int32), ws[q]? = some (a, .inl (cys kd, n, .inl f)) ∧ (TR t = true → ∀ j, j < n → (f j).toInt = C t j) := by
  obtain ⟨q, en, td, g1, g2, g3⟩ := hT a t hta
  rw [htd] at g2
  cases g2
  rcases g3 with ⟨-, f, rfl, h⟩ | ⟨h, -⟩ | ⟨h, -⟩
  · exact ⟨q, f, g1, h⟩
  · dsimp only at h; omega
  · dsimp only at h; omega
theorem ev_arrL {ws : va_W} {a t n et : Nat} {sg : List (Nat × Int × Int)} (hT : ev_T ty cys tg TR C ws) (hta : ty a = some t) (htd : tg[t]? = some (.inr (3, n, sg, et))) : ∃ (q : Nat) (f : Nat → Int64), ws[q]? = some (a, .inl (cys 3, n, .inr (.inl f))) ∧ (TR t = true → ∀ j, j < n → (f j).toInt = C t j) := by
  obtain ⟨q, en, td, g1, g2, g3⟩ := hT a t hta
  rw [htd] at g2
  cases g2
  rcases g3 with ⟨h, -⟩ | ⟨-, f, rfl, h⟩ | ⟨h, -⟩
  · dsimp only at h; omega
  · exact ⟨q, f, g1, h⟩
  · dsimp only at h; omega
theorem ev_getI (hF : ck_LKf LK) {t ci j cd ix : Nat} {fts : List ck_AV} {r : ck_I} (hd : decode (k_cc k) pc = .ok (.getfield ix, 3)) (hl : LK (k_ow k) ix = some (.inl (ci, j, cd))) (htd : tg[t]? = some (.inl (ci, fts))) (hft : fts[j]? = some (.inl r)) (htr : TR t = true) (kk : ev_W l D cys ty tg TR k (pc + 3) L (.inl (C t j) :: S) C Q) : ev_W l D cys ty tg TR k pc L (.inr (.inl t) :: S) C Q := by
  intro p e s m args below meth c ls st H locs B hs
  obtain ⟨w, rest, rfl, ⟨a, rfl, hta⟩, hs1⟩ := ev_pop1 hs
  obtain ⟨lv, h1, h2, h3, ⟨ws, hP, hD, hT⟩, h5⟩ := id hs1
  obtain ⟨q, fs, g1, g2, g3⟩ := ev_obj hT hta htd
  obtain ⟨v, h4, x, rfl, hx⟩ := g3 j _ hft
  exact cm_get B hF B.2.1 hP g1 hl h4 hd (kk _ _ _ _ _ _ _ _ _ _ _ _ B (ev_push hs1 ⟨x, rfl, hx htr⟩))
theorem ev_getR (hF : ck_LKf LK) {t ci j cd ix t' : Nat} {fts : List ck_AV} (hd : decode (k_cc k) pc = .ok (.getfield ix, 3)) (hl : LK (k_ow k) ix = some (.inl (ci, j, cd))) (htd : tg[t]? = some (.inl (ci, fts))) (hft : fts[j]? = some (.inr (.inl t'))) (kk : ev_W l D cys ty tg TR k (pc + 3) L (.inr (.inl t') :: S) C Q) : ev_W l D cys ty tg TR k pc L (.inr (.inl t) :: S) C Q := by
  intro p e s m args below meth c ls st H locs B hs
  obtain ⟨w, rest, rfl, ⟨a, rfl, hta⟩, hs1⟩ := ev_pop1 hs
  obtain ⟨lv, h1, h2, h3, ⟨ws, hP, hD, hT⟩, h5⟩ := id hs1
  obtain ⟨q, fs, g1, g2, g3⟩ := ev_obj hT hta htd
  obtain ⟨v, h4, x, rfl, hx⟩ := g3 j _ hft
  exact cm_get B hF B.2.1 hP g1 hl h4 hd (kk _ _ _ _ _ _ _ _ _ _ _ _ B (ev_push hs1 ⟨x, rfl, hx⟩))
theorem ev_getL (hF : ck_LKf LK) {t ci j cd ix : Nat} {fts : List ck_AV} {u : Unit} (hd : decode (k_cc k) pc = .ok (.getfield ix, 3)) (hl : LK (k_ow k) ix = some (.inl (ci, j, cd))) (htd : tg[t]? = some (.inl (ci, fts))) (hft : fts[j]? = some (.inr (.inr u))) (htr : TR t = true) (kk : ev_W l D cys ty tg TR k (pc + 3) L (.inr (.inr (C t j)) :: S) C Q) : ev_W l D cys ty tg TR k pc L (.inr (.inl t) :: S) C Q := by
  intro p e s m args below meth c ls st H locs B hs
  obtain ⟨w, rest, rfl, ⟨a, rfl, hta⟩, hs1⟩ := ev_pop1 hs
  obtain ⟨lv, h1, h2, h3, ⟨ws, hP, hD, hT⟩, h5⟩ := id hs1
  obtain ⟨q, fs, g1, g2, g3⟩ := ev_obj hT hta htd
  obtain ⟨v, h4, x, rfl, hx⟩ := g3 j _ hft
  exact cm_get B hF B.2.1 hP g1 hl h4 hd (kk _ _ _ _ _ _ _ _ _ _ _ _ B (ev_push hs1 ⟨x, rfl, hx htr⟩))
/-- a written field: the cell's new content fits the new memory -/
theorem ev_fset {fts : List ck_AV} {fs : List Value} {t j : Nat} {ft : ck_AV} {v : Value} {n : Int} (g2 : fs.length = fts.length) (g3 : ∀ (k : Nat) (ft : ck_AV), fts[k]? = some ft → ∃ v, fs[k]? = some v ∧ ev_f ty ft (TR t) (C t k) v) (hft : fts[j]? = some ft) (hv : ev_f ty ft (TR t) n v) {ci : Nat} : ev_e ty cys (.inl (ci, fts)) (TR t) (ev_u C t j n t) (.inr (ci, fs.set j v)) := by
  have hjl : j < fs.length := by rw [g2]; exact (List.getElem?_eq_some_iff.mp hft).1
  refine ⟨fs.set j v, rfl, by rw [List.length_set]; exact g2, fun k' ft' hk' => ?_⟩
  by_cases hkk : j = k'
  · subst hkk
    rw [hft] at hk'
    cases hk'
    exact ⟨v, by rw [List.getElem?_set_self hjl], by rw [ev_us]; exact hv⟩
  · obtain ⟨v', w1, w2⟩ := g3 k' ft' hk'
    exact ⟨v', by rw [List.getElem?_set_ne hkk]; exact w1, by rw [ev_un (fun q => hkk q.2.symm)]; exact w2⟩
theorem ev_putI (hF : ck_LKf LK) (hU : ev_uq ty TR) {t ci j cd ix : Nat} {fts : List ck_AV} {r : ck_I} {n : Int} (hd : decode (k_cc k) pc = .ok (.putfield ix, 3)) (hl : LK (k_ow k) ix = some (.inl (ci, j, cd))) (htd : tg[t]? = some (.inl (ci, fts))) (hft : fts[j]? = some (.inl r)) (hcd : cd = 0 ∨ cd = 1 ∧ 0 ≤ n ∧ n ≤ 1) (htr : TR t = true) (kk : ev_W l D cys ty tg TR k (pc + 3) L S (ev_u C t j n) Q) : ev_W l D cys ty tg TR k pc L (.inl n :: .inr (.inl t) :: S) C Q := by
  intro p e s m args below meth c ls st H locs B hs
  obtain ⟨w, st1, rfl, ⟨x, rfl, hx⟩, hs1⟩ := ev_pop1 hs
  obtain ⟨w, rest, rfl, ⟨a, rfl, hta⟩, hs2⟩ := ev_pop1 hs1
  obtain ⟨lv, h1, h2, h3, ⟨ws, hP, hD, hT⟩, h5⟩ := hs2
  obtain ⟨q, fs, g1, g2, g3⟩ := ev_obj hT hta htd
  have hjl : j < fs.length := by rw [g2]; exact (List.getElem?_eq_some_iff.mp hft).1
  refine cm_put B hF B.2.1 hP hD h5 g1 hl (by rw [hx]; exact hcd) hjl hd (fun H1 locs1 hP1 hD1 hS1 => ?_)
  exact kk _ _ _ _ _ _ _ _ _ _ _ _ B ⟨lv, h1, h2, h3, ⟨_, hP1, hD1, ev_set hU hD hT g1 hta htd (ev_fset (n := n) g2 g3 hft ⟨x, rfl, fun _ => hx⟩) (fun t' ht => ev_ut ht) (fun h => by rw [htr] at h; cases h)⟩, hS1⟩
theorem ev_putU (hF : ck_LKf LK) (hU : ev_uq ty TR) {t ci j cd ix : Nat} {fts : List ck_AV} {r : ck_I} {n : Int} (hd : decode (k_cc k) pc = .ok (.putfield ix, 3)) (hl : LK (k_ow k) ix = some (.inl (ci, j, cd))) (htd : tg[t]? = some (.inl (ci, fts))) (hft : fts[j]? = some (.inl r)) (hcd : cd = 0 ∨ cd = 1 ∧ 0 ≤ n ∧ n ≤ 1) (htr : TR t = false) (kk : ev_W l D cys ty tg TR k (pc + 3) L S C Q) : ev_W l D cys ty tg TR k pc L (.inl n :: .inr (.inl t) :: S) C Q := by
  intro p e s m args below meth c ls st H locs B hs
  obtain ⟨w, st1, rfl, ⟨x, rfl, hx⟩, hs1⟩ := ev_pop1 hs
  obtain ⟨w, rest, rfl, ⟨a, rfl, hta⟩, hs2⟩ := ev_pop1 hs1
  obtain ⟨lv, h1, h2, h3, ⟨ws, hP, hD, hT⟩, h5⟩ := hs2
  obtain ⟨q, fs, g1, g2, g3⟩ := ev_obj hT hta htd
  have hjl : j < fs.length := by rw [g2]; exact (List.getElem?_eq_some_iff.mp hft).1
  refine cm_put B hF B.2.1 hP hD h5 g1 hl (by rw [hx]; exact hcd) hjl hd (fun H1 locs1 hP1 hD1 hS1 => ?_)
  have he := ev_fset (n := C t j) (ci := ci) (cys := cys) (v := .int x) g2 g3 hft ⟨x, rfl, fun h => by rw [htr] at h; cases h⟩
  have eC : ev_u C t j (C t j) t = C t := funext (fun j' => by
    by_cases h : j' = j
    · subst h; exact ev_us
    · exact ev_un (fun q => h q.2))
  rw [eC] at he
  exact kk _ _ _ _ _ _ _ _ _ _ _ _ B ⟨lv, h1, h2, h3, ⟨_, hP1, hD1, ev_set hU hD hT g1 hta htd he (fun t' ht => rfl) (fun h => rfl)⟩, hS1⟩
theorem ev_putL (hF : ck_LKf LK) (hU : ev_uq ty TR) {t ci j ix : Nat} {fts : List ck_AV} {u : Unit} {n : Int} (hd : decode (k_cc k) pc = .ok (.putfield ix, 3)) (hl : LK (k_ow k) ix = some (.inl (ci, j, 2))) (htd : tg[t]? = some (.inl (ci, fts))) (hft : fts[j]? = some (.inr (.inr u))) (htr : TR t = true) (kk : ev_W l D cys ty tg TR k (pc + 3) L S (ev_u C t j n) Q) : ev_W l D cys ty tg TR k pc L (.inr (.inr n) :: .inr (.inl t) :: S) C Q := by
  intro p e s m args below meth c ls st H locs B hs
  obtain ⟨w, st1, rfl, ⟨x, rfl, hx⟩, hs1⟩ := ev_pop1 hs
  obtain ⟨w, rest, rfl, ⟨a, rfl, hta⟩, hs2⟩ := ev_pop1 hs1
  obtain ⟨lv, h1, h2, h3, ⟨ws, hP, hD, hT⟩, h5⟩ := hs2
  obtain ⟨q, fs, g1, g2, g3⟩ := ev_obj hT hta htd
  have hjl : j < fs.length := by rw [g2]; exact (List.getElem?_eq_some_iff.mp hft).1
  obtain ⟨B1, B2, B3, B4, B5, B6, B7, B8, B9⟩ := id B
  obtain ⟨⟨Cn, T, N⟩, k1, k2, k3, -, -, k6⟩ := hF _ _ _ _ _ hl
  obtain ⟨y1, ⟨ty0, y2⟩, y3⟩ := ck_cl_ok k1
  have hin : ∀ w ∈ wsL_law0, w ∈ ck_ws k := fun w hw => List.mem_cons_of_mem _ hw
  refine va_put (own := ck_R (k_ow k)) (ref := (T j).1) B1 B2 B6 (fun w h => hin w (y1 w h)) ty0 y2 y3 B7 B8 hP hD h5 q g1 k1 j k2 (B6 _ (hin _ k3)) (fun _ h => h) (k6 rfl).1 (k6 rfl).2 rfl rfl hjl hd (fun H1 locs1 hP1 hD1 hS1 => ?_)
  exact kk _ _ _ _ _ _ _ _ _ _ _ _ B ⟨lv, h1, h2, h3, ⟨_, hP1, hD1, ev_set hU hD hT g1 hta htd (ev_fset (n := n) g2 g3 hft ⟨x, rfl, fun _ => hx⟩) (fun t' ht => ev_ut ht) (fun h => by rw [htr] at h; cases h)⟩, hS1⟩
/-! rows -/
theorem ev_iald {t n et : Nat} {sg : List (Nat × Int × Int)} {i : Int} (hd : decode (k_cc k) pc = .ok (.iaload, 1)) (htd : tg[t]? = some (.inr (0, n, sg, et))) (htr : TR t = true) (h0 : 0 ≤ i) (h1 : i < n) (kk : ev_W l D cys ty tg TR k (pc + 1) L (.inl (C t i.toNat) :: S) C Q) : ev_W l D cys ty tg TR k pc L (.inl i :: .inr (.inl t) :: S) C Q := by
  intro p e s m args below meth c ls st H locs B hs
  obtain ⟨w, st1, rfl, ⟨x, rfl, hx⟩, hs1⟩ := ev_pop1 hs
  obtain ⟨w, rest, rfl, ⟨a, rfl, hta⟩, hs2⟩ := ev_pop1 hs1
  obtain ⟨lv, y1, y2, y3, ⟨ws, hP, hD, hT⟩, y5⟩ := id hs2
  obtain ⟨q, f, g1, g2⟩ := ev_arrI hT hta htd (by omega)
  subst hx
  exact va_iald B.1 B.2.1 B.2.2.2.2.2.2.2.1 hP q 0 g1 rfl (ck_vin h0 h1) hd (kk _ _ _ _ _ _ _ _ _ _ _ _ B (ev_push hs2 ⟨_, rfl, g2 htr x.toInt.toNat (by omega)⟩))
theorem ev_bald {t n et : Nat} {sg : List (Nat × Int × Int)} {i : Int} (hd : decode (k_cc k) pc = .ok (.baload, 1)) (htd : tg[t]? = some (.inr (1, n, sg, et))) (htr : TR t = true) (h0 : 0 ≤ i) (h1 : i < n) (kk : ev_W l D cys ty tg TR k (pc + 1) L (.inl (C t i.toNat) :: S) C Q) : ev_W l D cys ty tg TR k pc L (.inl i :: .inr (.inl t) :: S) C Q := by
  intro p e s m args below meth c ls st H locs B hs
  obtain ⟨w, st1, rfl, ⟨x, rfl, hx⟩, hs1⟩ := ev_pop1 hs
  obtain ⟨w, rest, rfl, ⟨a, rfl, hta⟩, hs2⟩ := ev_pop1 hs1
  obtain ⟨lv, y1, y2, y3, ⟨ws, hP, hD, hT⟩, y5⟩ := id hs2
  obtain ⟨q, f, g1, g2⟩ := ev_arrI hT hta htd (by omega)
  subst hx
  exact va_bald B.1 B.2.1 B.2.2.2.2.2.2.2.1 hP q 1 g1 rfl (ck_vin h0 h1) hd (kk _ _ _ _ _ _ _ _ _ _ _ _ B (ev_push hs2 ⟨_, rfl, g2 htr x.toInt.toNat (by omega)⟩))
theorem ev_lald {t n et : Nat} {sg : List (Nat × Int × Int)} {i : Int} (hd : decode (k_cc k) pc = .ok (.laload, 1)) (htd : tg[t]? = some (.inr (3, n, sg, et))) (htr : TR t = true) (h0 : 0 ≤ i) (h1 : i < n) (kk : ev_W l D cys ty tg TR k (pc + 1) L (.inr (.inr (C t i.toNat)) :: S) C Q) : ev_W l D cys ty tg TR k pc L (.inl i :: .inr (.inl t) :: S) C Q := by
  intro p e s m args below meth c ls st H locs B hs
  obtain ⟨w, st1, rfl, ⟨x, rfl, hx⟩, hs1⟩ := ev_pop1 hs
  obtain ⟨w, rest, rfl, ⟨a, rfl, hta⟩, hs2⟩ := ev_pop1 hs1
  obtain ⟨lv, y1, y2, y3, ⟨ws, hP, hD, hT⟩, y5⟩ := id hs2
  obtain ⟨q, f, g1, g2⟩ := ev_arrL hT hta htd
  subst hx
  exact va_lald B.1 B.2.1 B.2.2.2.2.2.2.2.1 hP q 3 g1 rfl (ck_vin h0 h1) hd (kk _ _ _ _ _ _ _ _ _ _ _ _ B (ev_push hs2 ⟨_, rfl, g2 htr x.toInt.toNat (by omega)⟩))
theorem ev_alen {t kd n et : Nat} {sg : List (Nat × Int × Int)} {v : Int} (hd : decode (k_cc k) pc = .ok (.arraylength, 1)) (htd : tg[t]? = some (.inr (kd, n, sg, et))) (hn : n < 2 ^ 31) (hv : (n : Int) = v) (kk : ev_W l D cys ty tg TR k (pc + 1) L (.inl v :: S) C Q) : ev_W l D cys ty tg TR k pc L (.inr (.inl t) :: S) C Q := by
  intro p e s m args below meth c ls st H locs B hs
  obtain ⟨w, rest, rfl, ⟨a, rfl, hta⟩, hs1⟩ := ev_pop1 hs
  obtain ⟨lv, y1, y2, y3, ⟨ws, hP, hD, hT⟩, y5⟩ := id hs1
  obtain ⟨q, en, td, g1, g2, g3⟩ := hT a t hta
  rw [htd] at g2
  cases g2
  have hx : (Int32.ofNat n).toInt = v := by rw [← hv]; exact nI_toInt hn
  have hfin := kk _ e _ _ _ below _ _ _ _ _ _ B (ev_push hs1 ⟨_, rfl, hx⟩)
  have hK := B.2.2.2.2.2.2.2.1
  rcases g3 with ⟨h, f, rfl, -⟩ | ⟨h, f, rfl, -⟩ | ⟨h, f, rfl, -⟩
  · dsimp only at h g1
    rcases (show kd = 0 ∨ kd = 1 ∨ kd = 2 by omega) with rfl | rfl | rfl
    · exact va_alen B.1 B.2.1 hK hP q 0 g1 rfl rfl hd hfin
    · exact va_alen B.1 B.2.1 hK hP q 1 g1 rfl rfl hd hfin
    · exact va_alen B.1 B.2.1 hK hP q 2 g1 rfl rfl hd hfin
  · exact va_alen B.1 B.2.1 hK hP q 3 g1 rfl rfl hd hfin
  · dsimp only at h g1
    rcases h with rfl | rfl
    · exact va_alen B.1 B.2.1 hK hP q 4 g1 rfl rfl hd hfin
    · exact va_alen B.1 B.2.1 hK hP q 5 g1 rfl rfl hd hfin
theorem ev_aset {f : Nat → Int32} {t n i : Nat} {x : Int32} {v : Int} (g2 : TR t = true → ∀ j, j < n → (f j).toInt = C t j) (hx : x.toInt = v) : TR t = true → ∀ j, j < n → (upd f i x j).toInt = ev_u C t i v t j := by
  intro htr j hj
  by_cases e : j = i
  · subst e; rw [pk_us, ev_us]; exact hx
  · rw [pk_un e, ev_un (fun q => e q.2)]; exact g2 htr j hj
theorem ev_asetL {f : Nat → Int64} {t n i : Nat} {x : Int64} {v : Int} (g2 : TR t = true → ∀ j, j < n → (f j).toInt = C t j) (hx : x.toInt = v) : TR t = true → ∀ j, j < n → (vp_updL f i x j).toInt = ev_u C t i v t j := by
  intro htr j hj
  unfold vp_updL
  by_cases e : j = i
  · subst e; rw [if_pos rfl, ev_us]; exact hx
  · rw [if_neg e, ev_un (fun q => e q.2)]; exact g2 htr j hj
theorem ev_iast (hU : ev_uq ty TR) {t n et : Nat} {sg : List (Nat × Int × Int)} {i v : Int} (hd : decode (k_cc k) pc = .ok (.iastore, 1)) (htd : tg[t]? = some (.inr (0, n, sg, et))) (htr : TR t = true) (h0 : 0 ≤ i) (h1 : i < n) (kk : ev_W l D cys ty tg TR k (pc + 1) L S (ev_u C t i.toNat v) Q) : ev_W l D cys ty tg TR k pc L (.inl v :: .inl i :: .inr (.inl t) :: S) C Q := by
  intro p e s m args below meth c ls st H locs B hs
  obtain ⟨w, st2, rfl, ⟨y, rfl, hy⟩, hs1⟩ := ev_pop1 hs
  obtain ⟨w, st1, rfl, ⟨x, rfl, hx⟩, hs2⟩ := ev_pop1 hs1
  obtain ⟨w, rest, rfl, ⟨a, rfl, hta⟩, hs3⟩ := ev_pop1 hs2
  obtain ⟨lv, y1, y2, y3, ⟨ws, hP, hD, hT⟩, y5⟩ := hs3
  obtain ⟨q, f, g1, g2⟩ := ev_arrI hT hta htd (by omega)
  subst hx
  refine va_iast B.1 B.2.1 B.2.2.2.2.2.2.2.1 hP hD y5 q 0 g1 rfl (ck_vin h0 h1) hd (fun H1 locs1 hP1 hD1 hS1 => ?_)
  exact kk _ _ _ _ _ _ _ _ _ _ _ _ B ⟨lv, y1, y2, y3, ⟨_, hP1, hD1, ev_set hU hD hT g1 hta htd (Or.inl ⟨by omega, _, rfl, ev_aset g2 hy⟩) (fun t' ht => ev_ut ht) (fun h => by rw [htr] at h; cases h)⟩, hS1⟩
theorem ev_iastU (hU : ev_uq ty TR) {t n et : Nat} {sg : List (Nat × Int × Int)} {i v : Int} (hd : decode (k_cc k) pc = .ok (.iastore, 1)) (htd : tg[t]? = some (.inr (0, n, sg, et))) (htr : TR t = false) (h0 : 0 ≤ i) (h1 : i < n) (kk : ev_W l D cys ty tg TR k (pc + 1) L S C Q) : ev_W l D cys ty tg TR k pc L (.inl v :: .inl i :: .inr (.inl t) :: S) C Q := by
  intro p e s m args below meth c ls st H locs B hs
  obtain ⟨w, st2, rfl, ⟨y, rfl, hy⟩, hs1⟩ := ev_pop1 hs
  obtain ⟨w, st1, rfl, ⟨x, rfl, hx⟩, hs2⟩ := ev_pop1 hs1
  obtain ⟨w, rest, rfl, ⟨a, rfl, hta⟩, hs3⟩ := ev_pop1 hs2
  obtain ⟨lv, y1, y2, y3, ⟨ws, hP, hD, hT⟩, y5⟩ := hs3
  obtain ⟨q, f, g1, g2⟩ := ev_arrI hT hta htd (by omega)
  subst hx
  refine va_iast B.1 B.2.1 B.2.2.2.2.2.2.2.1 hP hD y5 q 0 g1 rfl (ck_vin h0 h1) hd (fun H1 locs1 hP1 hD1 hS1 => ?_)
  exact kk _ _ _ _ _ _ _ _ _ _ _ _ B ⟨lv, y1, y2, y3, ⟨_, hP1, hD1, ev_set hU hD hT g1 hta htd (Or.inl ⟨by omega, _, rfl, fun h => by rw [htr] at h; cases h⟩) (fun t' ht => rfl) (fun h => rfl)⟩, hS1⟩
theorem ev_bast (hU : ev_uq ty TR) {t n et : Nat} {sg : List (Nat × Int × Int)} {i v : Int} (hd : decode (k_cc k) pc = .ok (.bastore, 1)) (htd : tg[t]? = some (.inr (1, n, sg, et))) (htr : TR t = true) (h0 : 0 ≤ i) (h1 : i < n) (kk : ev_W l D cys ty tg TR k (pc + 1) L S (ev_u C t i.toNat (ev_b8 v)) Q) : ev_W l D cys ty tg TR k pc L (.inl v :: .inl i :: .inr (.inl t) :: S) C Q := by
  intro p e s m args below meth c ls st H locs B hs
  obtain ⟨w, st2, rfl, ⟨y, rfl, hy⟩, hs1⟩ := ev_pop1 hs
  obtain ⟨w, st1, rfl, ⟨x, rfl, hx⟩, hs2⟩ := ev_pop1 hs1
  obtain ⟨w, rest, rfl, ⟨a, rfl, hta⟩, hs3⟩ := ev_pop1 hs2
  obtain ⟨lv, y1, y2, y3, ⟨ws, hP, hD, hT⟩, y5⟩ := hs3
  obtain ⟨q, f, g1, g2⟩ := ev_arrI hT hta htd (by omega)
  subst hx
  refine va_bast B.1 B.2.1 B.2.2.2.2.2.2.2.1 hP hD y5 q 1 g1 rfl (ck_vin h0 h1) hd (fun H1 locs1 hP1 hD1 hS1 => ?_)
  exact kk _ _ _ _ _ _ _ _ _ _ _ _ B ⟨lv, y1, y2, y3, ⟨_, hP1, hD1, ev_set hU hD hT g1 hta htd (Or.inl ⟨by omega, _, rfl, ev_aset g2 (by rw [ev_nar, hy])⟩) (fun t' ht => ev_ut ht) (fun h => by rw [htr] at h; cases h)⟩, hS1⟩
theorem ev_last (hU : ev_uq ty TR) {t n et : Nat} {sg : List (Nat × Int × Int)} {i v : Int} (hd : decode (k_cc k) pc = .ok (.lastore, 1)) (htd : tg[t]? = some (.inr (3, n, sg, et))) (htr : TR t = true) (h0 : 0 ≤ i) (h1 : i < n) (kk : ev_W l D cys ty tg TR k (pc + 1) L S (ev_u C t i.toNat v) Q) : ev_W l D cys ty tg TR k pc L (.inr (.inr v) :: .inl i :: .inr (.inl t) :: S) C Q := by
  intro p e s m args below meth c ls st H locs B hs
  obtain ⟨w, st2, rfl, ⟨y, rfl, hy⟩, hs1⟩ := ev_pop1 hs
  obtain ⟨w, st1, rfl, ⟨x, rfl, hx⟩, hs2⟩ := ev_pop1 hs1
  obtain ⟨w, rest, rfl, ⟨a, rfl, hta⟩, hs3⟩ := ev_pop1 hs2
  obtain ⟨lv, y1, y2, y3, ⟨ws, hP, hD, hT⟩, y5⟩ := hs3
  obtain ⟨q, f, g1, g2⟩ := ev_arrL hT hta htd
  subst hx
  refine va_last B.1 B.2.1 B.2.2.2.2.2.2.2.1 hP hD y5 q 3 g1 rfl (ck_vin h0 h1) hd (fun H1 locs1 hP1 hD1 hS1 => ?_)
  exact kk _ _ _ _ _ _ _ _ _ _ _ _ B ⟨lv, y1, y2, y3, ⟨_, hP1, hD1, ev_set hU hD hT g1 hta htd (Or.inr (Or.inl ⟨rfl, _, rfl, ev_asetL g2 hy⟩)) (fun t' ht => ev_ut ht) (fun h => by rw [htr] at h; cases h)⟩, hS1⟩
/-- a whole row copied from another -/
def ev_cp (C : ev_C) (t0 t n : Nat) : ev_C := fun t' j => if t' = t ∧ j < n then C t0 j else C t' j
theorem ev_cpt {C : ev_C} {t0 t n t' : Nat} (h : t' ≠ t) : ev_cp C t0 t n t' = C t' := funext (fun _ => if_neg (fun q => h q.1))
theorem ev_copyi (hU : ev_uq ty TR) {tab : Nat → ck_K} (hM : ck_LKm tg LK tab) {t t0 n et et0 ix : Nat} {sg sg0 : List (Nat × Int × Int)} {u : Unit} (hd : decode (k_cc k) pc = .ok (.invokestatic ix, 3)) (hl : LK (k_ow k) ix = some (.inr (.inr (.inr (.inr u))))) (htd : tg[t]? = some (.inr (0, n, sg, et))) (htd0 : tg[t0]? = some (.inr (0, n, sg0, et0))) (htr : TR t = true) (htr0 : TR t0 = true) (hfr : 1 ≤ k_fr k) (hlo : (S.map ev_cat).sum + 18 ≤ k_lo k) (kk : ev_W l D cys ty tg TR k (pc + 3) L S (ev_cp C t0 t n) Q) : ev_W l D cys ty tg TR k pc L (.inl (n : Int) :: .inl 0 :: .inr (.inl t) :: .inl 0 :: .inr (.inl t0) :: S) C Q := by
  intro p e s m args below meth c ls st H locs B hs
  obtain ⟨w, st4, rfl, ⟨x4, rfl, hx4⟩, hs1⟩ := ev_pop1 hs
  obtain ⟨w, st3, rfl, ⟨x3, rfl, hx3⟩, hs2⟩ := ev_pop1 hs1
  obtain ⟨w, st2, rfl, ⟨a, rfl, hta⟩, hs3⟩ := ev_pop1 hs2
  obtain ⟨w, st1, rfl, ⟨x1, rfl, hx1⟩, hs4⟩ := ev_pop1 hs3
  obtain ⟨w, rest, rfl, ⟨a0, rfl, hta0⟩, hs5⟩ := ev_pop1 hs4
  obtain ⟨lv, y1, y2, y3, ⟨ws, hP, hD, hT⟩, y5⟩ := hs5
  obtain ⟨q, g, g1, g2⟩ := ev_arrI hT hta htd (by omega)
  obtain ⟨q0, f, f1, f2⟩ := ev_arrI hT hta0 htd0 (by omega)
  obtain ⟨B1, B2, B3, B4, B5, B6, B7, B8, B9⟩ := id B
  have hin : ∀ w ∈ wsL_law0, w ∈ ck_ws k := fun w hw => List.mem_cons_of_mem _ hw
  have e1 : x1.toNatClampNeg = 0 := by rw [ck_cl0 (by omega)]; omega
  have e2 : x3.toNatClampNeg = 0 := by rw [ck_cl0 (by omega)]; omega
  have e3 : x4.toNatClampNeg = n := by rw [ck_cl0 (by omega)]; omega
  refine va_copyi (own := ck_R (k_ow k)) B1 B2 (B3.trans y1.1.symm) B7 (B6 _ (hin _ (hM.2 _ _ _ hl))) (B6 _ (hin _ ck_nat3.1)) (B6 _ (hin _ ck_nat3.2.1)) (B6 _ (hin _ ck_nat3.2.2)) B8 hP hD y5 q0 q 0 0 f1 g1 rfl rfl rfl (ck_nz (by omega)) (ck_nz (by omega)) (ck_nz (by omega)) (by omega) (by omega) (fun _ _ => rfl) hfr (by
    have : nativeFrameWords "java/lang/System" "arraycopy" 5 = 7 := by decide +kernel
    rw [ev_vs_sum y3]
    show _ ≤ k_lo k
    omega) hd (fun H1 locs1 hP1 hD1 hS1 => ?_)
  refine kk _ _ _ _ _ _ _ _ _ _ _ _ B ⟨lv, y1, y2, y3, ⟨_, hP1, hD1, ev_set hU hD hT g1 hta htd (Or.inl ⟨by omega, _, rfl, fun _ j hj => ?_⟩) (fun t' ht => ev_cpt ht) (fun h => by rw [htr] at h; cases h)⟩, hS1⟩
  dsimp only at hj
  rw [e1, e2, e3, pk_cpy_in (by omega) (by omega)]
  unfold ev_cp
  rw [if_pos ⟨rfl, hj⟩]
  simpa using f2 htr0 j hj
theorem ev_copyl (hU : ev_uq ty TR) {tab : Nat → ck_K} (hM : ck_LKm tg LK tab) {t t0 n et et0 ix : Nat} {sg sg0 : List (Nat × Int × Int)} {u : Unit} (hd : decode (k_cc k) pc = .ok (.invokestatic ix, 3)) (hl : LK (k_ow k) ix = some (.inr (.inr (.inr (.inr u))))) (htd : tg[t]? = some (.inr (3, n, sg, et))) (htd0 : tg[t0]? = some (.inr (3, n, sg0, et0))) (htr : TR t = true) (htr0 : TR t0 = true) (hfr : 1 ≤ k_fr k) (hlo : (S.map ev_cat).sum + 18 ≤ k_lo k) (kk : ev_W l D cys ty tg TR k (pc + 3) L S (ev_cp C t0 t n) Q) : ev_W l D cys ty tg TR k pc L (.inl (n : Int) :: .inl 0 :: .inr (.inl t) :: .inl 0 :: .inr (.inl t0) :: S) C Q := by
  intro p e s m args below meth c ls st H locs B hs
  obtain ⟨w, st4, rfl, ⟨x4, rfl, hx4⟩, hs1⟩ := ev_pop1 hs
  obtain ⟨w, st3, rfl, ⟨x3, rfl, hx3⟩, hs2⟩ := ev_pop1 hs1
  obtain ⟨w, st2, rfl, ⟨a, rfl, hta⟩, hs3⟩ := ev_pop1 hs2
  obtain ⟨w, st1, rfl, ⟨x1, rfl, hx1⟩, hs4⟩ := ev_pop1 hs3
  obtain ⟨w, rest, rfl, ⟨a0, rfl, hta0⟩, hs5⟩ := ev_pop1 hs4
  obtain ⟨lv, y1, y2, y3, ⟨ws, hP, hD, hT⟩, y5⟩ := hs5
  obtain ⟨q, g, g1, g2⟩ := ev_arrL hT hta htd
  obtain ⟨q0, f, f1, f2⟩ := ev_arrL hT hta0 htd0
  obtain ⟨B1, B2, B3, B4, B5, B6, B7, B8, B9⟩ := id B
  have hin : ∀ w ∈ wsL_law0, w ∈ ck_ws k := fun w hw => List.mem_cons_of_mem _ hw
  have e1 : x1.toNatClampNeg = 0 := by rw [ck_cl0 (by omega)]; omega
  have e2 : x3.toNatClampNeg = 0 := by rw [ck_cl0 (by omega)]; omega
  have e3 : x4.toNatClampNeg = n := by rw [ck_cl0 (by omega)]; omega
  refine va_copyl (own := ck_R (k_ow k)) B1 B2 (B3.trans y1.1.symm) B7 (B6 _ (hin _ (hM.2 _ _ _ hl))) (B6 _ (hin _ ck_nat3.1)) (B6 _ (hin _ ck_nat3.2.1)) (B6 _ (hin _ ck_nat3.2.2)) B8 hP hD y5 q0 q 3 3 f1 g1 rfl rfl rfl (ck_nz (by omega)) (ck_nz (by omega)) (ck_nz (by omega)) (by omega) (by omega) (fun _ _ => rfl) hfr (by
    have : nativeFrameWords "java/lang/System" "arraycopy" 5 = 7 := by decide +kernel
    rw [ev_vs_sum y3]
    show _ ≤ k_lo k
    omega) hd (fun H1 locs1 hP1 hD1 hS1 => ?_)
  refine kk _ _ _ _ _ _ _ _ _ _ _ _ B ⟨lv, y1, y2, y3, ⟨_, hP1, hD1, ev_set hU hD hT g1 hta htd (Or.inr (Or.inl ⟨rfl, _, rfl, fun _ j hj => ?_⟩)) (fun t' ht => ev_cpt ht) (fun h => by rw [htr] at h; cases h)⟩, hS1⟩
  dsimp only at hj
  rw [e1, e2, e3, pk_cpy_in (by omega) (by omega)]
  unfold ev_cp
  rw [if_pos ⟨rfl, hj⟩]
  simpa using f2 htr0 j hj
/-! ends and beginnings -/
theorem ev_iret {n : Int} (hd : decode (k_cc k) pc = .ok (.ireturn, 1)) (hrt : k_rt k = some .int) (hq : Q (some (.inl n)) C) : ev_W l D cys ty tg TR k pc L [.inl n] C Q := by
  intro p e s m args below meth c ls st H locs B hs
  obtain ⟨w, rest, rfl, ⟨x, rfl, hx⟩, lv, h1, h2, h3, h4, h5⟩ := ev_pop1 hs
  match rest, h3 with
  | [], _ => exact W.zret B.1 B.2.1 (B.2.2.2.1.trans hrt) rfl (fun t ht _ => ⟨⟨some (.inl n), _, C, rfl, ⟨x, rfl, hx⟩, hq, by rw [ht]; exact h4⟩, h5.F ht⟩) h5.2.2 hd B.2.2.2.2.1
theorem ev_zret {n : Int} (hd : decode (k_cc k) pc = .ok (.ireturn, 1)) (hrt : k_rt k = some .boolean) (hn : 0 ≤ n ∧ n ≤ 1) (hq : Q (some (.inl n)) C) : ev_W l D cys ty tg TR k pc L [.inl n] C Q := by
  intro p e s m args below meth c ls st H locs B hs
  obtain ⟨w, rest, rfl, ⟨x, rfl, hx⟩, lv, h1, h2, h3, h4, h5⟩ := ev_pop1 hs
  match rest, h3 with
  | [], _ => exact W.zret B.1 B.2.1 (B.2.2.2.1.trans hrt) (ck_nbool (by rw [hx]; exact hn)).1 (fun t ht _ => ⟨⟨some (.inl n), _, C, rfl, ⟨x, rfl, hx⟩, hq, by rw [ht]; exact h4⟩, h5.F ht⟩) h5.2.2 hd B.2.2.2.2.1
theorem ev_lret {n : Int} (hd : decode (k_cc k) pc = .ok (.lreturn, 1)) (hrt : k_rt k = some .long) (hq : Q (some (.inr (.inr n))) C) : ev_W l D cys ty tg TR k pc L [.inr (.inr n)] C Q := by
  intro p e s m args below meth c ls st H locs B hs
  obtain ⟨w, rest, rfl, ⟨x, rfl, hx⟩, lv, h1, h2, h3, h4, h5⟩ := ev_pop1 hs
  match rest, h3 with
  | [], _ => exact W.lret B.1 B.2.1 (B.2.2.2.1.trans hrt) (fun t ht _ => ⟨⟨some (.inr (.inr n)), _, C, rfl, ⟨x, rfl, hx⟩, hq, by rw [ht]; exact h4⟩, h5.F ht⟩) h5.2.2 hd B.2.2.2.2.1
theorem ev_vret (hd : decode (k_cc k) pc = .ok (.return_, 1)) (hrt : k_rt k = none) (hq : Q none C) : ev_W l D cys ty tg TR k pc L [] C Q := by
  intro p e s m args below meth c ls st H locs B hs
  obtain ⟨lv, h1, h2, h3, h4, h5⟩ := hs
  match st, h3 with
  | [], _ => exact W.vret B.1 B.2.1 (B.2.2.2.1.trans hrt) (fun t ht _ => ⟨⟨none, none, C, rfl, True.intro, hq, by rw [ht]; exact h4⟩, h5.F ht⟩) h5.2.2 hd B.2.2.2.2.1
theorem ev_enter {A : List ev_V} (hy : plainName (k_y k).cls = true) (ho : ck_R (k_ow k) = (k_y k).cls) (g1 : (A.map ev_cat).sum ≤ k_ml k) (kk : ev_W l D cys ty tg TR k 0 (ev_ar 0 A) [] C Q) : ev_Met l D cys ty tg TR k A C Q := by
  intro vs hA
  refine Met.ofW (cc := k_cc k) (maxL := k_ml k) (ret := k_rt k) hy rfl ?_
  intro p e s m args below meth c s₁ B hml hv
  obtain ⟨rfl, hW, hK, hN⟩ := hv
  have hts := atoms_spec (ws := ck_ws k) B.pre
  have hown : s.vm.findClass (ck_R (k_ow k)) = some m.cls := by rw [ho]; exact findClass_of_methodNamed B.named
  have hlen := ev_sl_len hA
  have hl := lv_entry vs (n := k_ml k) (by rw [hlen]; exact g1)
  rw [lg_entry_eq]
  generalize (lg_sl vs ++ List.replicate (k_ml k - (lg_sl vs).length) Slot.unset).toArray = ls at hl ⊢
  exact kk p e s m vs.toArray below meth c ls [] s.heap [] ⟨B.exec, B.bytes, hml, B.returns, B.notSynchronized, hts, hown, hK, hN⟩ ⟨_, hl, ev_ar_ok hA, True.intro, hW, va_S.rf⟩
theorem ev_mono {Q' : Option ev_V → ev_C → Prop} {A : List ev_V} (h : ev_Met l D cys ty tg TR k A C Q) (hq : ∀ r C', Q r C' → Q' r C') : ev_Met l D cys ty tg TR k A C Q' := by
  intro vs hv p e h1 h2 h3 s m args below h4 h5 h6 h7
  obtain ⟨n, o, w1, w2, w3, ⟨⟨r, v, C', z1, z2, z3, z4⟩, z5⟩, w5⟩ := h vs hv p e h1 h2 h3 s m args below h4 h5 h6 h7
  exact ⟨n, o, w1, w2, w3, ⟨⟨r, v, C', z1, z2, hq _ _ z3, z4⟩, z5⟩, w5⟩
/-! calls -/
theorem ev_blind {vs : List Value} : FrameBlind (va_Pc vs (ev_B D cys ty tg TR C)) := by
  intro a U g mk q
  obtain ⟨q0, q1, q2, q3⟩ := q
  exact ⟨q0, q1, va_K.moved (u := U) (U := U.calling g mk a) (Vm.Alike.refl U.vm) q2, fun w hw => va_Nw.same (ck_nest_tab w hw) (u := U) rfl (q3 w hw)⟩
theorem ev_after {p : Program} {e : Env} {R : Room} {s : State} {m : MethodId} {args : Array Value} {below : List Frame} {meth : Method} {c : Code} {H H0 : Heap} {locs : List Loc} {Z : State → Prop} {ls : Array Slot} {rest : List Value} {Qc : Option ev_V → ev_C → Prop} {a : Array Value} {st0 : List Value} (hr : va_Run p l e R s m args below meth c H locs 0 0 0 0 (F0 m pc ls st0) rest (ev_Q D cys ty tg TR Qc a) (ck_own ty)) (hS : va_S (ck_own ty) H0 H locs)
    (kk : ∀ (r : Option ev_V) (v : Option Value) (C' : ev_C) (H1 : Heap) (locs1 : List Loc), ev_rv ty r v → Qc r C' → ev_Wo D cys ty tg TR C' H1 → va_S (ck_own ty) H0 H1 locs1 → W p l e R s m args below meth c H1 locs1 0 0 Z (F0 m (pc + 3) ls (v.toList ++ rest))) : W p l e R s m args below meth c H locs 0 0 Z (F0 m pc ls st0) := by
  intro T hT X
  obtain ⟨v, st₀, t, T', L, h0, X', hL, e1, e2, ⟨⟨r, v', C', hv, hrv, hp, hb⟩, hz, hk⟩, st⟩ := hr T hT X
  cases hv
  rw [h0] at hz hk
  obtain ⟨t2, a1, b1⟩ := kk r v C' T'.heap (locs ++ L) hrv hp (by rw [e1]; exact hb)
    ⟨Nat.le_trans hS.1 (by rw [e1]; exact hz), fun q h1 h2 => by rw [e1, hk q (Nat.lt_of_lt_of_le h1 hS.1) h2]; exact hS.2.1 q h1 h2, fun q hq => by
      rcases List.mem_append.mp hq with h | h
      · exact hS.2.2 q h
      · exact hL q h⟩ T' rfl X'
  exact ⟨t2, st t2 a1, b1⟩
theorem ev_rv_app {r : Option ev_V} {v : Option Value} {T : List ev_V} {rest : List Value} (h : ev_rv ty r v) (h2 : ev_vs ty T rest) : ev_vs ty (r.toList ++ T) (v.toList ++ rest) := by
  match r, v, h with
  | none, none, _ => exact h2
  | some r, some v, h => exact ⟨h, h2⟩
theorem ev_callV {kc : ck_K} {ix t : Nat} {A T : List ev_V} {Qc : Option ev_V → ev_C → Prop} (hm : ck_mOK tg (k_ow k) ix 0 kc) (hd : decode (k_cc k) pc = .ok (.invokevirtual ix, 3)) (hM : ev_Met l D cys ty tg TR kc (.inr (.inl t) :: A) C Qc) (hpt : (k_pa kc).head? = some (.inr (.inl t))) (hpl : (k_pa kc).length = A.length + 1) (hS : S = A.reverse ++ .inr (.inl t) :: T) (hf : k_fr kc + 1 ≤ k_fr k) (hlo : 8 + (k_ml kc + 11) + k_lo kc ≤ k_lo k) (hr8 : (T.map ev_cat).sum ≤ 8)
    (kk : ∀ (r : Option ev_V) (C' : ev_C), Qc r C' → ev_W l D cys ty tg TR k (pc + 3) L (r.toList ++ T) C' Q) : ev_W l D cys ty tg TR k pc L S C Q := by
  subst hS
  intro p e s m args below meth c ls st H locs B hs
  obtain ⟨lv, y1, y2, y3, hW, y5⟩ := hs
  obtain ⟨vs, st1, rfl, hv, y3⟩ := ev_vs_split y3
  match st1, y3 with
  | w :: rest, y3 =>
  obtain ⟨⟨b, rfl, htb⟩, y3⟩ := y3
  obtain ⟨B1, B2, B3, B4, B5, hts, hown, hK, hNw⟩ := id B
  have hin : ∀ w ∈ wsL_law0, w ∈ ck_ws k := fun w hw => List.mem_cons_of_mem _ hw
  obtain ⟨m1, m2, m3, m4, -⟩ := hm
  obtain ⟨w1, w2, w3, t', ci, fts, r, pa, p1, p2, p3, p4, p5⟩ := m4 rfl
  rw [p1] at hpt hpl
  cases hpt
  have hG : GoodIn (ck_ws k) (ck_ws kc) := fun w hw => by
    rcases List.mem_cons.mp hw with hw | hw
    · subst hw; exact ⟨hin _ m1, ck_good _ m1⟩
    · exact ⟨hin _ hw, ck_good _ hw⟩
  have hvr := ev_vs_rev hv
  rw [List.reverse_reverse] at hvr
  have hMM := hM (.ref b :: vs.reverse) ⟨⟨b, rfl, htb⟩, hvr⟩
  have hvl := ev_vs_len hvr
  obtain ⟨ws, hP, hD, hT⟩ := id hW
  obtain ⟨q, fs, g1, -, -⟩ := ev_obj hT htb p2
  have hrun := va_runV (p := p) (l := l) (e := e) (R := ck_rm k) (s := s) (m := m) (args := args) (below := below) (meth := meth) (c := c) (H := H) (locs := locs) (cells := 0) (slots := 0) (g := F0 m pc ls (vs ++ .ref b :: rest)) (As := vs.reverse) (rest := rest) (b := b) (nL := k_ml k) (own := ck_R (k_ow k)) (index := ix) (bytes := k_cc kc) (maxL := k_ml kc) (ret := k_rt kc) (n := pa.length) ⟨B1, B2, B3, hown, hts⟩ hMM ⟨callB_of pa.length hts hG rfl rfl rfl (hts _ (hin _ m2)) (hts _ (hin _ w1)) ⟨m3.1, m3.2, p5⟩ ⟨hf, hlo⟩, hts _ (hin _ w2), hts _ (hin _ w3)⟩
    ⟨ev_blind, by have := va_recv hK hP p3 g1; rw [p4] at this; exact this, fun U hU hWm => ⟨rfl, by rw [hU]; exact hW, va_K.moved hWm.alike hK, ck_nest_warm hWm hNw⟩⟩ rfl (by rw [hvl]; simp only [List.length_cons] at hpl; omega) y1.1 (by show vs ++ _ = _; rw [List.reverse_reverse]) (lv_room (by rw [ev_vs_sum y3]; exact hr8)) hd ⟨Nat.zero_le _, Nat.zero_le _⟩
  exact ev_after hrun y5 (fun r v C' H1 locs1 h1 h2 h3 h4 => kk r C' h2 _ _ _ _ _ _ _ _ _ _ _ _ B ⟨lv, y1, y2, ev_rv_app h1 y3, h3, h4⟩)
theorem ev_callS {kc : ck_K} {ix : Nat} {A T : List ev_V} {Qc : Option ev_V → ev_C → Prop} (hm : ck_mOK tg (k_ow k) ix 1 kc) (hd : decode (k_cc k) pc = .ok (.invokestatic ix, 3)) (hM : ev_Met l D cys ty tg TR kc A C Qc) (hpl : (k_pa kc).length = A.length) (hS : S = A.reverse ++ T) (hf : k_fr kc + 1 ≤ k_fr k) (hlo : 8 + (k_ml kc + 11) + k_lo kc ≤ k_lo k) (hr8 : (T.map ev_cat).sum ≤ 8)
    (kk : ∀ (r : Option ev_V) (C' : ev_C), Qc r C' → ev_W l D cys ty tg TR k (pc + 3) L (r.toList ++ T) C' Q) : ev_W l D cys ty tg TR k pc L S C Q := by
  subst hS
  intro p e s m args below meth c ls st H locs B hs
  obtain ⟨lv, y1, y2, y3, hW, y5⟩ := hs
  obtain ⟨vs, rest, rfl, hv, y3⟩ := ev_vs_split y3
  obtain ⟨B1, B2, B3, B4, B5, hts, hown, hK, hNw⟩ := id B
  have hin : ∀ w ∈ wsL_law0, w ∈ ck_ws k := fun w hw => List.mem_cons_of_mem _ hw
  obtain ⟨m1, m2, m3, -, m4, -⟩ := hm
  obtain ⟨w1, w2, p5⟩ := m4 rfl
  have hG : GoodIn (ck_ws k) (ck_ws kc) := fun w hw => by
    rcases List.mem_cons.mp hw with hw | hw
    · subst hw; exact ⟨hin _ m1, ck_good _ m1⟩
    · exact ⟨hin _ hw, ck_good _ hw⟩
  have hvr := ev_vs_rev hv
  rw [List.reverse_reverse] at hvr
  have hMM := hM vs.reverse hvr
  have hvl := ev_vs_len hvr
  have hrun := va_runS (p := p) (l := l) (e := e) (R := ck_rm k) (s := s) (m := m) (args := args) (below := below) (meth := meth) (c := c) (H := H) (locs := locs) (cells := 0) (slots := 0) (g := F0 m pc ls (vs ++ rest)) (As := vs.reverse) (rest := rest) (nL := k_ml k) (own := ck_R (k_ow k)) (index := ix) (bytes := k_cc kc) (maxL := k_ml kc) (ret := k_rt kc) (n := (k_pa kc).length) ⟨B1, B2, B3, hown, hts⟩ hMM ⟨callB_of _ hts hG rfl rfl rfl (hts _ (hin _ m2)) (hts _ (hin _ w1)) ⟨m3.1, m3.2, p5⟩ ⟨hf, hlo⟩, hts _ (hin _ w2)⟩
    ⟨ev_blind, fun U hU hWm => ⟨rfl, by rw [hU]; exact hW, va_K.moved hWm.alike hK, ck_nest_warm hWm hNw⟩⟩ rfl (by rw [hvl, hpl]) y1.1 (by show vs ++ _ = _; rw [List.reverse_reverse]) (lv_room (by rw [ev_vs_sum y3]; exact hr8)) hd ⟨Nat.zero_le _, Nat.zero_le _⟩
  exact ev_after hrun y5 (fun r v C' H1 locs1 h1 h2 h3 h4 => kk r C' h2 _ _ _ _ _ _ _ _ _ _ _ _ B ⟨lv, y1, y2, ev_rv_app h1 y3, h3, h4⟩)
theorem ev_callN {kc : ck_K} {ix : Nat} {A T : List ev_V} {Qc : Option ev_V → ev_C → Prop} (hm : ck_mOK tg (k_ow k) ix 2 kc) (hd : decode (k_cc k) pc = .ok (.invokestatic ix, 3)) (hM : ev_Met l D cys ty tg TR kc A C Qc) (hpl : (k_pa kc).length = A.length) (hS : S = A.reverse ++ T) (hf : k_fr kc + 1 ≤ k_fr k) (hlo : 8 + (k_ml kc + 11) + k_lo kc ≤ k_lo k) (hr8 : (T.map ev_cat).sum ≤ 8)
    (kk : ∀ (r : Option ev_V) (C' : ev_C), Qc r C' → ev_W l D cys ty tg TR k (pc + 3) L (r.toList ++ T) C' Q) : ev_W l D cys ty tg TR k pc L S C Q := by
  subst hS
  intro p e s m args below meth c ls st H locs B hs
  obtain ⟨lv, y1, y2, y3, hW, y5⟩ := hs
  obtain ⟨vs, rest, rfl, hv, y3⟩ := ev_vs_split y3
  obtain ⟨B1, B2, B3, B4, B5, hts, hown, hK, hNw⟩ := id B
  have hin : ∀ w ∈ wsL_law0, w ∈ ck_ws k := fun w hw => List.mem_cons_of_mem _ hw
  obtain ⟨m1, m2, m3, -, -, m4⟩ := hm
  obtain ⟨w1, w2, p5⟩ := m4 rfl
  have hG : GoodIn (ck_ws k) (ck_ws kc) := fun w hw => by
    rcases List.mem_cons.mp hw with hw | hw
    · subst hw; exact ⟨hin _ m1, ck_good _ m1⟩
    · exact ⟨hin _ hw, ck_good _ hw⟩
  have hvr := ev_vs_rev hv
  rw [List.reverse_reverse] at hvr
  have hMM := hM vs.reverse hvr
  have hvl := ev_vs_len hvr
  have hrun := va_runSN (p := p) (l := l) (e := e) (R := ck_rm k) (s := s) (m := m) (args := args) (below := below) (meth := meth) (c := c) (H := H) (locs := locs) (cells := 0) (slots := 0) (g := F0 m pc ls (vs ++ rest)) (As := vs.reverse) (rest := rest) (nL := k_ml k) (own := ck_R (k_ow k)) (host := RX11) (index := ix) (bytes := k_cc kc) (maxL := k_ml kc) (ret := k_rt kc) (n := (k_pa kc).length) ⟨B1, B2, B3, hown, hts⟩ hMM ⟨va_cnB _ hts hG rfl rfl rfl (hNw _ w1) (hts _ (hin _ m2)) ⟨m3.1, m3.2, p5⟩ ⟨hf, hlo⟩, hts _ (hin _ w2), True.intro⟩
    ⟨ev_blind, fun U hU hWm => ⟨rfl, by rw [hU]; exact hW, va_K.moved hWm.alike hK, ck_nest_warm hWm hNw⟩⟩ rfl (by rw [hvl, hpl]) y1.1 (by show vs ++ _ = _; rw [List.reverse_reverse]) (lv_room (by rw [ev_vs_sum y3]; exact hr8)) hd ⟨Nat.zero_le _, Nat.zero_le _⟩
  exact ev_after hrun y5 (fun r v C' H1 locs1 h1 h2 h3 h4 => kk r C' h2 _ _ _ _ _ _ _ _ _ _ _ _ B ⟨lv, y1, y2, ev_rv_app h1 y3, h3, h4⟩)
end EF
/-! two contracts of one method are one -/
theorem met_and {l : Launch} {y : MethodName} {ws : List Jvm.Cond} {rm : Room} {P1 P2 : Array Value → State → Prop} {Q1 Q2 : Array Value → State → Outcome → State → Prop} {mc ms : Nat} {free : Addr → Prop} (h1 : Met l y ws rm P1 Q1 mc ms free) (h2 : Met l y ws rm P2 Q2 mc ms free) : Met l y ws rm (fun a s => P1 a s ∧ P2 a s) (fun a s o t => Q1 a s o t ∧ Q2 a s o t) mc ms free := by
  intro p e a1 a2 a3 s m args below a4 a5 a6 a7
  obtain ⟨n, o, w1, w2, w3, w4, w5⟩ := h1 p e a1 a2 a3 s m args below a4 a5 a6.1 a7
  obtain ⟨n', o', w1', w2', w3', w4', w5'⟩ := h2 p e a1 a2 a3 s m args below a4 a5 a6.2 a7
  have hn : n = n' := by
    rcases Nat.lt_trichotomy n n' with h | h | h
    · exact absurd (w1' n h) w3.not_within
    · exact h
    · exact absurd (w1 n' h) w3'.not_within
  subst hn
  have ho := w3.outcome_unique w3'
  subst ho
  exact ⟨n, o, w1, w2, w3, ⟨w4, w4'⟩, w5⟩

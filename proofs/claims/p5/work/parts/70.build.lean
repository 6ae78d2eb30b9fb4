/-! BUILDING, 1: cells made one by one, with their sorts told in a list. -/
def lk (τ : List (Nat × Nat)) (a : Nat) : Option Nat := (τ.find? (fun q => q.1 == a)).map (fun q => q.2)
theorem lk_in {τ : List (Nat × Nat)} {a t : Nat} (h : lk τ a = some t) : (a, t) ∈ τ := by
  unfold lk at h
  cases hf : τ.find? (fun q => q.1 == a) with
  | none => rw [hf] at h; cases h
  | some q =>
    rw [hf] at h
    cases h
    have h1 := List.find?_some hf
    have h2 := List.mem_of_find?_eq_some hf
    have h3 : q.1 = a := by simpa using h1
    subst h3
    exact h2
theorem lk_mem : ∀ {τ : List (Nat × Nat)} {a t : Nat}, (τ.map Prod.fst).Nodup → (a, t) ∈ τ → lk τ a = some t
  | [], a, t, _, h => by cases h
  | q :: τ, a, t, hn, h => by
    rw [List.map_cons, List.nodup_cons] at hn
    unfold lk
    rw [List.find?_cons]
    rcases List.mem_cons.mp h with h | h
    · subst h
      simp
    · have : ¬ q.1 = a := fun e => hn.1 (by rw [e]; exact List.mem_map.mpr ⟨(a, t), h, rfl⟩)
      have e2 : (q.1 == a) = false := by simpa using this
      rw [e2]
      exact lk_mem hn.2 h
def bzp (t k : Nat) : Prop := (∃ j : Nat, ck_pvs0[j]? = some (t, k)) ∨ ck_pr (ck_prot1 t) k
/-- what is kept begins at 0, but for the reserved words -/
def b0 (t k : Nat) : Int32 := if t = 16 then g_R z_V k else if t = 50 then g_R z_W k else 0
theorem b0_0 {t k : Nat} (h1 : t ≠ 16) (h2 : t ≠ 50) : b0 t k = 0 := by
  unfold b0
  rw [if_neg h1, if_neg h2]
theorem b0_a {t k kd n et : Nat} {sg : List (Nat × Int × Int)} (ht : ck_tags[t]? = some (.inr (kd, n, sg, et))) (hkd : kd < 3) : b0 t k = 0 := by
  refine b0_0 (fun e => ?_) (fun e => ?_) <;> subst e <;> cases ht <;> exact absurd hkd (by decide)
theorem b0_o {t k : Nat} {o : Nat × List ck_AV} (ht : ck_tags[t]? = some (.inl o)) : b0 t k = 0 := by
  refine b0_0 (fun e => ?_) (fun e => ?_) <;> subst e <;> cases ht
/-- cells ws, of the sorts τ, all at 0 where they are followed or kept -/
def bz (cys : Nat → ClassId) (τ : List (Nat × Nat)) (ws : va_W) : Prop := τ.length = ws.length ∧ (τ.map Prod.fst).Nodup ∧ ∀ (i a t : Nat), τ[i]? = some (a, t) → ∃ (en : va_E) (td : ck_TD), ws[i]? = some (a, en) ∧ ck_tags[t]? = some td ∧ ck_e (lk τ) cys td en ∧ ∀ k, bzp t k → ck_has en k (b0 t k)
theorem ck_v_mono {ty ty' : Nat → Option Nat} (h : ∀ a t, ty a = some t → ty' a = some t) {X : Nat → Int} {av : ck_AV} {v : Value} (hv : ck_v ty X av v) : ck_v ty' X av v := by
  match av, hv with
  | .inl r, hv => exact hv
  | .inr (.inl t), hv => obtain ⟨a, e, h1⟩ := hv; exact ⟨a, e, h a t h1⟩
  | .inr (.inr u), hv => exact hv
theorem ck_e_mono {ty ty' : Nat → Option Nat} (h : ∀ a t, ty a = some t → ty' a = some t) {cys : Nat → ClassId} {td : ck_TD} {en : va_E} (he : ck_e ty cys td en) : ck_e ty' cys td en := by
  match td, he with
  | .inl o, he =>
    obtain ⟨fs, e, h1, h2⟩ := he
    exact ⟨fs, e, h1, fun k ft hk => by obtain ⟨v, g1, g2⟩ := h2 k ft hk; exact ⟨v, g1, ck_v_mono h g2⟩⟩
  | .inr r, he =>
    rcases he with he | he | ⟨h0, f, e, h1⟩
    · exact Or.inl he
    · exact Or.inr (Or.inl he)
    · exact Or.inr (Or.inr ⟨h0, f, e, fun j hj => by obtain ⟨a, g1, g2⟩ := h1 j hj; exact ⟨a, g1, h a _ g2⟩⟩)
section BZ
variable {cys : Nat → ClassId} {τ τ' : List (Nat × Nat)} {ws ws' : va_W}
theorem bz_nil : bz cys [] [] := ⟨rfl, List.nodup_nil, fun i a t h => by simp at h⟩
theorem bz_at (h : bz cys τ ws) {a : Nat} (ha : a ∈ τ.map Prod.fst) : ∃ (i : Nat) (en : va_E), ws[i]? = some (a, en) := by
  obtain ⟨q, hq, rfl⟩ := List.mem_map.mp ha
  obtain ⟨i, hi⟩ := List.getElem?_of_mem hq
  obtain ⟨en, td, h1, -⟩ := h.2.2 i q.1 q.2 hi
  exact ⟨i, en, h1⟩
theorem bz_dis {A : Nat → Prop} (h : bz cys τ ws) (h' : bz cys τ' ws') (hD : va_D A (ws ++ ws')) : ∀ a ∈ τ.map Prod.fst, ∀ b ∈ τ'.map Prod.fst, a ≠ b := by
  intro a ha b hb e
  subst e
  obtain ⟨i, en, h1⟩ := bz_at h ha
  obtain ⟨j, en', h2⟩ := bz_at h' hb
  have hi : i < ws.length := (List.getElem?_eq_some_iff.mp h1).1
  have g1 : (ws ++ ws')[i]? = some (a, en) := by rw [List.getElem?_append_left hi]; exact h1
  have g2 : (ws ++ ws')[ws.length + j]? = some (a, en') := by rw [List.getElem?_append_right (by omega), Nat.add_sub_cancel_left]; exact h2
  have := hD.1 _ _ _ _ g1 g2 rfl
  omega
theorem bz_app {A : Nat → Prop} (h : bz cys τ ws) (h' : bz cys τ' ws') (hD : va_D A (ws ++ ws')) : bz cys (τ ++ τ') (ws ++ ws') := by
  have hdis := bz_dis h h' hD
  have hnd : ((τ ++ τ').map Prod.fst).Nodup := by
    rw [List.map_append]
    exact List.nodup_append.mpr ⟨h.2.1, h'.2.1, hdis⟩
  refine ⟨by rw [List.length_append, List.length_append, h.1, h'.1], hnd, fun i a t hi => ?_⟩
  by_cases hl : i < τ.length
  · rw [List.getElem?_append_left hl] at hi
    obtain ⟨en, td, g1, g2, g3, g4⟩ := h.2.2 i a t hi
    refine ⟨en, td, by rw [List.getElem?_append_left (by rw [← h.1]; exact hl)]; exact g1, g2, ck_e_mono (fun b u hb => ?_) g3, g4⟩
    exact lk_mem hnd (List.mem_append_left _ (lk_in hb))
  · rw [List.getElem?_append_right (by omega)] at hi
    obtain ⟨en, td, g1, g2, g3, g4⟩ := h'.2.2 _ a t hi
    refine ⟨en, td, by rw [List.getElem?_append_right (by rw [← h.1]; omega), ← h.1]; exact g1, g2, ck_e_mono (fun b u hb => ?_) g3, g4⟩
    exact lk_mem hnd (List.mem_append_right _ (lk_in hb))
def ck_z0 (sg : List (Nat × Int × Int)) (n : Nat) : Bool := (List.range n).all (fun j => decide ((ck_seg sg j).1 ≤ 0) && decide (0 ≤ (ck_seg sg j).2))
theorem bz_arr {q t kd n et : Nat} {sg : List (Nat × Int × Int)} (ht : ck_tags[t]? = some (.inr (kd, n, sg, et))) (hkd : kd < 3) (hz : ck_z0 sg n = true) : bz cys [(q, t)] [(q, .inl (cys kd, n, .inl (fun _ => 0)))] := by
  refine ⟨rfl, by simp, fun i a t' hi => ?_⟩
  match i, hi with
  | 0, hi =>
    cases hi
    refine ⟨_, _, rfl, ht, Or.inl ⟨hkd, fun _ => 0, rfl, fun j hj => ?_⟩, fun k _ => by rw [b0_a ht hkd]; rfl⟩
    have := List.all_eq_true.mp hz j (List.mem_range.mpr hj)
    simp only [Bool.and_eq_true, decide_eq_true_eq] at this
    exact this
  | i + 1, hi => simp at hi
theorem bz_arrL {q t n et : Nat} {sg : List (Nat × Int × Int)} (ht : ck_tags[t]? = some (.inr (3, n, sg, et))) (h1 : ck_nfa ck_pvs0 t = true) (h2 : t ≠ 16 ∧ t ≠ 50) : bz cys [(q, t)] [(q, .inl (cys 3, n, .inr (.inl (fun _ => 0))))] := by
  refine ⟨rfl, by simp, fun i a t' hi => ?_⟩
  match i, hi with
  | 0, hi =>
    cases hi
    refine ⟨_, _, rfl, ht, Or.inr (Or.inl ⟨rfl, _, rfl⟩), fun k hk => ?_⟩
    rcases hk with ⟨j, hj⟩ | hk
    · exact absurd hj (ck_nfa_ok h1 j k)
    · rw [b0_0 h2.1 h2.2]
      show ck_half (fun _ => 0) k = 0
      unfold ck_half
      split
      · show Int32.ofInt ((0 : Int64).toInt) = 0
        decide
      · show Int32.ofInt ((0 : Int64).toInt / 4294967296) = 0
        decide
  | i + 1, hi => simp at hi
theorem bz_res {q t et : Nat} {sg : List (Nat × Int × Int)} {V : List Int} {f : Nat → Int64} (ht : ck_tags[t]? = some (.inr (3, 27, sg, et))) (h1 : ck_nfa ck_pvs0 t = true) (h0 : ∀ k, b0 t k = g_R V k) (hp : ck_prot1 t = [(0, 53)]) (hf : ∀ j : Nat, j < 27 → (f j).toInt = V.getD j 0) : bz cys [(q, t)] [(q, .inl (cys 3, 27, .inr (.inl f)))] := by
  refine ⟨rfl, by simp, fun i a t' hi => ?_⟩
  match i, hi with
  | 0, hi =>
    cases hi
    refine ⟨_, _, rfl, ht, Or.inr (Or.inl ⟨rfl, _, rfl⟩), fun k hk => ?_⟩
    rcases hk with ⟨j, hj⟩ | hk
    · exact absurd hj (ck_nfa_ok h1 j k)
    · rw [hp] at hk
      obtain ⟨r, h, -, h3⟩ := hk
      rw [List.mem_singleton.mp h] at h3
      have h3 : k ≤ 53 := h3
      show ck_half f k = b0 t k
      rw [h0]
      unfold ck_half g_R
      rw [hf (k / 2) (by omega)]
  | i + 1, hi => simp at hi
/-- the object itself joins its cells -/
theorem bz_obj {A : Nat → Prop} {a t ci : Nat} {fs : List Value} {fts : List ck_AV} (h : bz cys τ ws) (hD : va_D A ((a, .inr (ci, fs)) :: ws)) (ht : ck_tags[t]? = some (.inl (ci, fts))) (hl : fs.length = fts.length) (hf : ∀ (k : Nat) (ft : ck_AV), fts[k]? = some ft → ∃ v, fs[k]? = some v ∧ ck_v (lk τ) (fun _ => 0) ft v) (hz : ∀ k, bzp t k → fs[k]? = some (.int 0)) : bz cys ((a, t) :: τ) ((a, .inr (ci, fs)) :: ws) := by
  have hna : a ∉ τ.map Prod.fst := fun ha => by
    obtain ⟨i, en, h1⟩ := bz_at h ha
    have := hD.1 0 (i + 1) _ _ rfl (show ((a, Sum.inr (ci, fs)) :: ws)[i + 1]? = some (a, en) by rw [List.getElem?_cons_succ]; exact h1) rfl
    omega
  have hnd : (((a, t) :: τ).map Prod.fst).Nodup := by rw [List.map_cons]; exact List.nodup_cons.mpr ⟨hna, h.2.1⟩
  have hm : ∀ b u, lk τ b = some u → lk ((a, t) :: τ) b = some u := fun b u hb => lk_mem hnd (List.mem_cons_of_mem _ (lk_in hb))
  refine ⟨by simp [h.1], hnd, fun i b u hi => ?_⟩
  match i, hi with
  | 0, hi =>
    cases hi
    exact ⟨_, _, rfl, ht, ⟨fs, rfl, hl, fun k ft hk => by obtain ⟨v, g1, g2⟩ := hf k ft hk; exact ⟨v, g1, ck_v_mono hm g2⟩⟩, fun k hk => by rw [b0_o ht]; exact hz k hk⟩
  | i + 1, hi =>
    rw [List.getElem?_cons_succ] at hi
    obtain ⟨en, td, g1, g2, g3, g4⟩ := h.2.2 i b u hi
    exact ⟨en, td, by rw [List.getElem?_cons_succ]; exact g1, g2, ck_e_mono hm g3, g4⟩
/-- the world that the contracts speak of -/
theorem bz_typed (h : bz cys τ ws) : ck_typed (lk τ) cys ck_tags ws := by
  intro a t ha
  obtain ⟨i, hi⟩ := List.getElem?_of_mem (lk_in ha)
  obtain ⟨en, td, g1, g2, g3, -⟩ := h.2.2 i a t hi
  exact ⟨i, en, td, g1, g2, g3⟩
theorem bz_D {A : Nat → Prop} (h : bz cys τ ws) (hD : va_D A ws) : va_D (ck_own (lk τ)) ws := by
  refine ⟨hD.1, fun k q hk => ?_⟩
  have hl : k < τ.length := by rw [h.1]; exact (List.getElem?_eq_some_iff.mp hk).1
  obtain ⟨en, td, g1, -⟩ := h.2.2 k (τ[k]).1 (τ[k]).2 (by rw [List.getElem?_eq_getElem hl])
  rw [hk] at g1
  cases g1
  show (lk τ (τ[k]).1).isSome = true
  rw [lk_mem (t := (τ[k]).2) h.2.1 (List.mem_of_getElem? (i := k) (by rw [List.getElem?_eq_getElem hl]))]
  rfl
theorem bz_pvs (h : bz cys τ ws) : ck_pvs (lk τ) ck_pvs0 (fun _ => 0) ws := by
  intro j t k hj a ha
  obtain ⟨i, hi⟩ := List.getElem?_of_mem (lk_in ha)
  obtain ⟨en, td, g1, g2, g3, g4⟩ := h.2.2 i a t hi
  have e := g4 k (Or.inl ⟨j, hj⟩)
  rw [b0_0 (fun z => by subst z; exact ck_nfa_ok (t := 16) (by decide +kernel) j k hj) (fun z => by subst z; exact ck_nfa_ok (t := 50) (by decide +kernel) j k hj)] at e
  exact ⟨i, en, g1, e⟩
theorem bz_tk {A : Nat → Prop} (h : bz cys τ ws) (hD : va_D A ws) : tk (lk τ) ck_prot1 b0 ws := by
  intro a t q en ha hq j hj
  obtain ⟨i, hi⟩ := List.getElem?_of_mem (lk_in ha)
  obtain ⟨en', td, g1, g2, g3, g4⟩ := h.2.2 i a t hi
  have := (ck_D1 hD g1 hq).2
  subst this
  exact g4 j (Or.inr hj)
theorem z_PL_0 {o r s b nm nb : Nat} {C : ev_C} (ho : ∀ k, C o k = 0) (hs : ∀ k, C s k = 0) : z_PL o r s b nm nb C C := by
  refine ⟨⟨?_, ?_, ?_, ?_, ?_, ?_⟩, ⟨fun k hk => ?_, fun k hk => ?_, fun k hk => ?_⟩, fun k hk => ?_, fun k hk => ?_, fun k hk => ?_⟩
  · rw [ho, hs]; decide
  · rw [ho, hs]; decide
  · rw [ho, hs]; decide
  · rw [ho, hs]; decide
  · rw [ho, hs]; decide
  · rw [ho, hs]; decide
  · rw [ho] at hk; omega
  · rw [ho] at hk; omega
  · rw [ho] at hk; omega
  · rw [ho] at hk; omega
  · rw [ho] at hk; omega
  · rw [ho] at hk; omega
theorem gC_0 : gC b0 := by
  refine ⟨⟨⟨fun _ _ => rfl, fun _ _ => rfl, fun _ _ => rfl⟩, z_PL_0 (fun _ => rfl) (fun _ => rfl), z_PL_0 (fun _ => rfl) (fun _ => rfl), z_PL_0 (fun _ => rfl) (fun _ => rfl)⟩, fun k hk => ?_, fun j hj => ?_, fun k _ hk => absurd rfl hk, fun i hi => ?_⟩
  · have : (k : Int) < 0 := hk
    omega
  · have : (j : Int) < 0 := hj
    omega
  · have : (i : Int) < 0 := hi
    omega
theorem bz_Wo {D : va_G} {A : Nat → Prop} {H : Heap} (h : bz cys τ ws) (hP : va_P D ck_cl ws H) (hD : va_D A ws) : ck_Wo D cys (lk τ) ck_tags ck_pvs0 (GE (lk τ)) (fun _ => 0) H := ⟨ws, hP, bz_D h hD, bz_typed h, bz_pvs h, _, bz_tk h hD, gC_0⟩
end BZ
/-! what a single sort is, by the list of the sorts -/
theorem bz_un {τ : List (Nat × Nat)} {TG : List Nat} (hg : τ.map Prod.snd = TG) {t : Nat} (hc : TG.count t ≤ 1) {a a' : Nat} (ha : lk τ a = some t) (ha' : lk τ a' = some t) : a' = a := by
  have key : ∀ τ : List (Nat × Nat), (τ.map Prod.snd).count t ≤ 1 → (a, t) ∈ τ → (a', t) ∈ τ → a' = a := by
    intro τ
    induction τ with
    | nil => intro _ h; cases h
    | cons q τ ih =>
      intro hc h1 h2
      rw [List.map_cons, List.count_cons] at hc
      by_cases e : q.2 = t
      · have hz : (τ.map Prod.snd).count t = 0 := by
          rw [if_pos (by simpa using e)] at hc
          omega
        have hno : ∀ b, (b, t) ∉ τ := fun b hb => by
          have hm : t ∈ τ.map Prod.snd := List.mem_map.mpr ⟨(b, t), hb, rfl⟩
          have := List.count_pos_iff.mpr hm
          omega
        rcases List.mem_cons.mp h1 with h1 | h1
        · rcases List.mem_cons.mp h2 with h2 | h2
          · rw [← h1] at h2
            exact (Prod.mk.inj h2).1
          · exact absurd h2 (hno _)
        · exact absurd h1 (hno _)
      · have n1 : (a, t) ≠ q := fun z => e (by rw [← z])
        have n2 : (a', t) ≠ q := fun z => e (by rw [← z])
        refine ih (by rw [if_neg (by simpa using e)] at hc; omega) ((List.mem_cons.mp h1).resolve_left n1) ((List.mem_cons.mp h2).resolve_left n2)
  exact key τ (by rw [hg]; exact hc) (lk_in ha) (lk_in ha')
/-! BUILDING, 2: rows. -/
def bA (a sz : Nat) : Nat → Prop := fun q => q = a ∨ sz ≤ q
theorem b_join {D : va_G} {A : Nat → Prop} {ws ws' : va_W} {q sz : Nat} {e1 : va_E} {H H1 : Heap} (hP : va_P D ck_cl (ws ++ [(q, e1)]) H) (hD : va_D A (ws ++ [(q, e1)])) (hsz : H.size = sz) (hk : ∀ p, p < sz → ¬ bA q sz p → H1[p]? = H[p]?) (hP' : va_P D ck_cl ws' H1) (hD' : va_D (bA q sz) ws') (hA : ∀ p, bA q sz p → A p) : va_P D ck_cl (ws ++ ws') H1 ∧ va_D A (ws ++ ws') := by
  have inl : ∀ (k : Nat) (x : Nat × va_E), ws[k]? = some x → (ws ++ [(q, e1)])[k]? = some x := fun k x hx => by rw [List.getElem?_append_left (List.getElem?_eq_some_iff.mp hx).1]; exact hx
  have last : (ws ++ [(q, e1)])[ws.length]? = some (q, e1) := by rw [List.getElem?_append_right (Nat.le_refl _), Nat.sub_self]; rfl
  have apart : ∀ (k : Nat) (x : Nat × va_E), ws[k]? = some x → x.1 < sz ∧ ¬ bA q sz x.1 := fun k x hx => by
    have hl := (hP k x (inl k x hx)).lt
    refine ⟨by omega, fun h => ?_⟩
    rcases h with h | h
    · have := hD.1 k ws.length x (q, e1) (inl k x hx) last h
      have := (List.getElem?_eq_some_iff.mp hx).1
      omega
    · omega
  refine ⟨va_P.app (fun k x hx => ?_) hP', va_D.app ⟨fun i j x y hx hy h => hD.1 i j x y (inl i x hx) (inl j y hy) h, fun k x hx => hD.2 k x (inl k x hx)⟩ (hD'.weaken (fun k x _ h => hA x.1 h)) (fun i j x y hx hy hxy => ?_)⟩
  · exact (hP k x (inl k x hx)).kept (hk x.1 (apart k x hx).1 (apart k x hx).2)
  · exact (apart i x hx).2 (by rw [hxy]; exact hD'.2 j y hy)

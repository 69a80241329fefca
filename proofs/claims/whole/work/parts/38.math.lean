/-! telling and learning, as mathematics -/
abbrev zMs : Type := zTree × (Nat → List Nat) × Nat × (Nat → Nat) × (Nat → Nat)
def zMi (o rm : Nat) (M : zMs) : Prop := zTok M.1 M.2.1 ∧ zSb M.1 M.2.1 ∧ M.1.1 ≤ rm ∧ M.2.2.1 ≤ o ∧ (∀ i, i < M.2.2.1 → M.2.2.2.1 i < 256) ∧ M.2.2.2.2 0 = 0 ∧ (∀ k, k ≤ M.2.2.1 → M.2.2.2.2 k < M.1.1 ∧ zwk M.1 M.2.2.2.1 k (M.2.2.1 - k) 0 (M.2.2.2.2 k)) ∧ ∃ sl : Nat → Nat, (∀ c, 1 ≤ c → c < M.1.1 → (M.1.2.1 c = 0 → sl c = 0) ∧ (M.1.2.1 c ≠ 0 → 1 ≤ sl c ∧ sl c < M.1.1 ∧ M.1.2.1 (sl c) = sl (M.1.2.1 c) ∧ M.1.2.2.1 (sl c) = M.1.2.2.1 c)) ∧ ∀ k, k < M.2.2.1 → sl (M.2.2.2.2 (k + 1)) = M.2.2.2.2 k
def zM0 : zMs := ((1, fun _ => 0, fun _ => 0, fun _ => 0), fun _ => [], 0, fun _ => 0, fun _ => 0)
def zMn (o b : Nat) (M : zMs) (T' : zTree) (ch' : Nat → List Nat) : zMs := (T', ch', if o = 0 then M.2.2.1 else zlm o M.2.2.1, if o = 0 then M.2.2.2.1 else zlat o M.2.2.1 b M.2.2.2.1, if o = 0 then M.2.2.2.2 else fun k => if k = 0 then 0 else (zfc T'.2.2.1 b (ch' (M.2.2.2.2 (k - 1)))).toBitVec.toNat)
def zLn (o rm b lo : Nat) (M : zMs) (r : Bool) (M' : zMs) : Prop := zMi o rm M' ∧ ((r = false ∧ ∃ T' ch', zLrn rm b M.2.2.2.2 (M.2.2.1 + 1 - lo) lo M.1 M.2.1 T' ch' ∧ M' = zMn o b M T' ch') ∨ (r = true ∧ M' = zM0 ∧ ∃ d T1 ch1, lo + d ≤ M.2.2.1 ∧ zLrn rm b M.2.2.2.2 d lo M.1 M.2.1 T1 ch1 ∧ zRst rm b (M.2.2.2.2 (lo + d)) T1 ch1))
abbrev zYr (σ : Type) : Type := σ × (Nat → Bool) × Nat × Nat × Nat × Option Nat
abbrev zTM {σ : Type} (Sy : σ → List (Nat × Nat) → Nat → σ → Prop) (M : zMs) (s : σ) (y : zYr σ) : Prop := zTl Sy M.1.2.2.1 M.1.2.2.2 M.2.1 M.2.2.2.2 (M.2.2.1 + 1) (fun _ => false) 0 0 s y
def zlo (f : Option Nat) : Nat := f.getD 0
/-- what a list of offers keeps -/
theorem zoff_fac {T : zTree} {ch : Nat → List Nat} (H : zTok T ch) (hs : zSb T ch) {p : Nat} (hp : p < T.1) (E : Nat → Bool) : zSrt (zoff T.2.2.1 T.2.2.2 E (ch p)) ∧ ∀ q, q ∈ zoff T.2.2.1 T.2.2.2 E (ch p) → q.1 < 256 ∧ 0 < q.2 ∧ q.2 < 1000000 ∧ E q.1 = false := by
  refine ⟨zoff_srt (H.2.1 p hp).2, fun q hq => ?_⟩
  obtain ⟨c, h1, rfl, h3⟩ := zoff_mem hq
  obtain ⟨c1, c2, c3⟩ := H.2.2.1 p c hp h1
  have := H.2.2.2 c c1 c2
  have h4 := hs p hp
  have h5 := zsum_le (cnt := T.2.2.2) h1
  exact ⟨this.2.2.1, this.2.2.2, by show T.2.2.2 c < 1000000; omega, h3⟩
theorem zexc_256 {T : zTree} {ch : Nat → List Nat} (H : zTok T ch) (hs : zSb T ch) {p : Nat} (hp : p < T.1) {E : Nat → Bool} (hE : E 256 = false) : zexc E (zoff T.2.2.1 T.2.2.2 E (ch p) ++ [(257, (zoff T.2.2.1 T.2.2.2 E (ch p)).length)]) (zoff T.2.2.1 T.2.2.2 E (ch p)).length 256 = false := by
  obtain ⟨h1, h2⟩ := zoff_fac H hs hp E
  rw [zexc_ct h1 (fun q hq => (h2 q hq).2.1), hE, zlc_not (fun q hq e => by have := (h2 q hq).1; omega)]
  rfl
theorem zTl_w {T : zTree} {ch : Nat → List Nat} {ctx : Nat → Nat} (H : zTok T ch) (hs : zSb T ch) {N x : Nat} (hc : ∀ k, k < N → ctx k < T.1) : ∀ (c : Nat) (E : Nat → Bool) (ex es : Nat) (e : zEs) (y : zYr zEs), c ≤ N → E 256 = false → zEok e → zTl (zSyW x) T.2.2.1 T.2.2.2 ch ctx c E ex es e y → zEok y.1 ∧ y.1.2.1 + y.1.2.2.2.2 ≤ e.2.1 + e.2.2.2.2 + 11 * (c + 1)
  | 0, E, ex, es, e, y, _, hE, he, h => by
    obtain ⟨i, s', ⟨h1, rfl⟩, rfl⟩ := h
    have L := zflat_ok hE
    have := ztake_ok (e := e) (x := zps (zflat E 257 0) i) (y := zln (zflat E 257 0) i) he L.2.2.2.2 L.2.2.2.1 (zln_le h1.1) (L.2.2.1 i h1.1).2
    exact ⟨this.1, by have := this.2; dsimp only; omega⟩
  | c + 1, E, ex, es, e, y, hN, hE, he, h => by
    rcases h with ⟨_, h⟩ | ⟨hne, i, s', ⟨h1, rfl⟩, h⟩
    · have := zTl_w H hs hc c E ex es e y (by omega) hE he h
      exact ⟨this.1, by omega⟩
    · have L := (zoff_ok H hs (hc c (by omega)) E hne).1
      have t := ztake_ok (e := e) he L.2.2.2.2 L.2.2.2.1 (zln_le h1.1) (L.2.2.1 i h1.1).2
      rcases h with ⟨_, rfl⟩ | ⟨_, h⟩
      · exact ⟨t.1, by have := t.2; dsimp only; omega⟩
      · have := zTl_w H hs hc c _ _ _ _ y (by omega) (zexc_256 H hs (hc c (by omega)) hE) t.1 h
        exact ⟨this.1, by have := t.2; omega⟩
theorem zTl_r {T : zTree} {ch : Nat → List Nat} {ctx : Nat → Nat} (H : zTok T ch) (hs : zSb T ch) {N kk : Nat} {g : Nat → Int32} (hc : ∀ k, k < N → ctx k < T.1) : ∀ (c : Nat) (E : Nat → Bool) (ex es : Nat) (s : zEs × Nat × Nat) (y : zYr (zEs × Nat × Nat)), c ≤ N → E 256 = false → zEok s.1 → s.1.2.2.1 ≤ s.2.1 → s.2.1 ≤ s.1.2.2.2.1 → zTl (zSyR g kk) T.2.2.1 T.2.2.2 ch ctx c E ex es s y → zEok y.1.1 ∧ y.1.1.2.1 + y.1.1.2.2.2.2 ≤ s.1.2.1 + s.1.2.2.2.2 + 11 * (c + 1) ∧ y.1.1.2.2.1 ≤ y.1.2.1 ∧ y.1.2.1 ≤ y.1.1.2.2.2.1 ∧ y.1.2.2 ≤ s.2.2 + 16 * (c + 1) := by
  have one : ∀ (L : List (Nat × Nat)) (i : Nat) (s s' : zEs × Nat × Nat), zLok L → zEok s.1 → s.1.2.2.1 ≤ s.2.1 → s.2.1 ≤ s.1.2.2.2.1 → zSyR g kk s L i s' → zEok s'.1 ∧ s'.1.2.1 + s'.1.2.2.2.2 ≤ s.1.2.1 + s.1.2.2.2.2 + 11 ∧ s'.1.2.2.1 ≤ s'.2.1 ∧ s'.2.1 ≤ s'.1.2.2.2.1 ∧ s'.2.2 ≤ s.2.2 + 16 := by
    intro L i s s' hL he h1 h2 hS
    obtain ⟨hi, v1, v2, rfl⟩ := hS
    obtain ⟨t1, t2⟩ := ztake_ok (e := s.1) he hL.2.2.2.2 hL.2.2.2.1 (zln_le hi) (hL.2.2.1 i hi).2
    have v3 := v2
    rw [zps_succ hi] at v3
    obtain ⟨w1, w2⟩ := zdec_ok h1 h2 hL.2.2.2.2 v1 v3
    have hR5 := zrnum_ok (zbn_le g kk) 16 (znar s.1 (zps L i) (zln L i) (zps L L.length)) s.2.1 s.2.2 w1 w2 (by
      obtain ⟨y1, y2, -, -⟩ := znar_ok he.1 he.2.1 hL.2.2.2.2 (by have := hL.2.2.2.1; omega) (by have := hL.2.2.2.1; have := he.2.2; omega) (zln_le hi) (hL.2.2.1 i hi).2
      have := he.2.1
      have := he.1
      simp only [znar]
      revert y1 y2
      generalize (s.1.2.2.2.1 - s.1.2.2.1 + 1) * zps L i / zps L L.length = A
      generalize (s.1.2.2.2.1 - s.1.2.2.1 + 1) * (zps L i + zln L i) / zps L L.length = B
      intro y1 y2
      omega)
    exact ⟨t1, t2, hR5.1, hR5.2.1, hR5.2.2⟩
  intro c
  induction c with
  | zero =>
    intro E ex es s y _ hE he h1 h2 h
    obtain ⟨i, s', hS, rfl⟩ := h
    have := one _ i s s' (zflat_ok hE) he h1 h2 hS
    exact ⟨this.1, by have := this.2.1; dsimp only; omega, this.2.2.1, this.2.2.2.1, by have := this.2.2.2.2; dsimp only; omega⟩
  | succ c ih =>
    intro E ex es s y hN hE he h1 h2 h
    rcases h with ⟨_, h⟩ | ⟨hne, i, s', hS, h⟩
    · have := ih E ex es s y (by omega) hE he h1 h2 h
      exact ⟨this.1, by omega, this.2.2.1, this.2.2.2.1, by omega⟩
    · have t := one _ i s s' (zoff_ok H hs (hc c (by omega)) E hne).1 he h1 h2 hS
      rcases h with ⟨_, rfl⟩ | ⟨_, h⟩
      · exact ⟨t.1, by have := t.2.1; dsimp only; omega, t.2.2.1, t.2.2.2.1, by have := t.2.2.2.2; dsimp only; omega⟩
      · have := ih _ _ _ s' y (by omega) (zexc_256 H hs (hc c (by omega)) hE) t.1 t.2.2.1 t.2.2.2.1 h
        exact ⟨this.1, by have := t.2.1; omega, this.2.2.1, this.2.2.2.1, by have := t.2.2.2.2; omega⟩
/-- what was told, and where -/
theorem zTl_sg {σ : Type} {Sy : σ → List (Nat × Nat) → Nat → σ → Prop} (hSy : ∀ s L i s', Sy s L i s' → i < L.length) {T : zTree} {ch : Nat → List Nat} {ctx : Nat → Nat} (H : zTok T ch) {N : Nat} (hc : ∀ k, k < N → ctx k < T.1) : ∀ (c : Nat) (E : Nat → Bool) (ex es : Nat) (s : σ) (y : zYr σ), c ≤ N → zTl Sy T.2.2.1 T.2.2.2 ch ctx c E ex es s y → y.2.2.2.2.1 ≤ 256 ∧ y.2.2.2.1 ≤ es + c ∧ (∀ k, y.2.2.2.2.2 = some k → k < c ∧ y.2.2.2.2.1 < 256 ∧ ∃ q, q ∈ ch (ctx k) ∧ T.2.2.1 q = y.2.2.2.2.1)
  | 0, E, ex, es, s, y, _, h => by
    obtain ⟨i, s', h1, rfl⟩ := h
    have := (zflat_mem (zsg_mem (hSy _ _ _ _ h1))).2.1
    refine ⟨by dsimp only at this ⊢; omega, Nat.le_refl _, fun k hk => by cases hk⟩
  | c + 1, E, ex, es, s, y, hN, h => by
    rcases h with ⟨_, h⟩ | ⟨hne, i, s', h1, h⟩
    · have := zTl_sg hSy H hc c E ex es s y (by omega) h
      exact ⟨this.1, by omega, fun k hk => ⟨by have := (this.2.2 k hk).1; omega, (this.2.2 k hk).2⟩⟩
    · rcases h with ⟨h2, rfl⟩ | ⟨_, h⟩
      · have hi := hSy _ _ _ _ h1
        have hm := zsg_mem hi
        have hq : ∃ q, q ∈ ch (ctx c) ∧ T.2.2.1 q = zsg (zoff T.2.2.1 T.2.2.2 E (ch (ctx c)) ++ [(257, (zoff T.2.2.1 T.2.2.2 E (ch (ctx c))).length)]) i := by
          rcases List.mem_append.mp hm with hm | hm
          · obtain ⟨q, q1, q2, -⟩ := zoff_mem hm
            exact ⟨q, q1, (congrArg Prod.fst q2).symm⟩
          · exact absurd (congrArg Prod.fst (List.mem_singleton.mp hm)) h2
        obtain ⟨q, q1, q2⟩ := hq
        obtain ⟨d1, d2, d3⟩ := H.2.2.1 _ q (hc c (by omega)) q1
        have := (H.2.2.2 q d1 d2).2.2.1
        refine ⟨by dsimp only; omega, by dsimp only; omega, fun k hk => ?_⟩
        cases hk
        exact ⟨Nat.lt_succ_self _, by dsimp only; omega, q, q1, q2⟩
      · have := zTl_sg hSy H hc c _ _ _ s' y (by omega) h
        exact ⟨this.1, by omega, fun k hk => ⟨by have := (this.2.2 k hk).1; omega, (this.2.2 k hk).2⟩⟩
theorem zSrt_ne {L : List (Nat × Nat)} (h : zSrt L) {i j : Nat} (hi : i < L.length) (hj : j < i) : zsg L j < zsg L i := by
  have := List.pairwise_iff_getElem.mp h j i (by omega) hi hj
  simpa [zsg, List.getD_eq_getElem?_getD, hi, show j < L.length by omega] using this
/-- who reads writes the same again -/
theorem zTl_rw {T : zTree} {ch : Nat → List Nat} {ctx : Nat → Nat} (H : zTok T ch) (hs : zSb T ch) {N kk : Nat} {g : Nat → Int32} (hc : ∀ k, k < N → ctx k < T.1) : ∀ (c : Nat) (E : Nat → Bool) (ex es : Nat) (s : zEs × Nat × Nat) (y : zYr (zEs × Nat × Nat)), c ≤ N → zTl (zSyR g kk) T.2.2.1 T.2.2.2 ch ctx c E ex es s y → zTl (zSyW y.2.2.2.2.1) T.2.2.1 T.2.2.2 ch ctx c E ex es s.1 (y.1.1, y.2) ∧ E y.2.2.2.2.1 = false ∧ y.2.2.2.2.1 ≤ 256
  | 0, E, ex, es, s, y, _, h => by
    obtain ⟨i, s', ⟨h1, -, -, rfl⟩, rfl⟩ := h
    have hm := zflat_mem (zsg_mem h1)
    refine ⟨⟨i, _, ⟨⟨h1, Or.inl rfl, fun j hj e => ?_⟩, rfl⟩, rfl⟩, hm.2.2.2, by have := hm.2.1; dsimp only at this ⊢; omega⟩
    have := zSrt_ne zflat_srt h1 hj
    dsimp only at e
    omega
  | c + 1, E, ex, es, s, y, hN, h => by
    rcases h with ⟨h0, h⟩ | ⟨hne, i, s', hS, h⟩
    · have := zTl_rw H hs hc c E ex es s y (by omega) h
      exact ⟨Or.inl ⟨h0, this.1⟩, this.2⟩
    · obtain ⟨f1, f2⟩ := zoff_fac H hs (hc c (by omega)) E
      obtain ⟨h1, v1, v2, rfl⟩ := hS
      have h1' : i < (zoff T.2.2.1 T.2.2.2 E (ch (ctx c))).length + 1 := by simpa using h1
      rcases h with ⟨h2, rfl⟩ | ⟨h2, h⟩
      · have hi : i < (zoff T.2.2.1 T.2.2.2 E (ch (ctx c))).length := by
          rcases Nat.lt_or_ge i (zoff T.2.2.1 T.2.2.2 E (ch (ctx c))).length with z | z
          · exact z
          · exfalso
            rw [show i = (zoff T.2.2.1 T.2.2.2 E (ch (ctx c))).length by omega, zsg_last] at h2
            exact h2 rfl
        have hm := f2 _ (zsg_mem hi)
        refine ⟨Or.inr ⟨hne, i, _, ⟨⟨h1, Or.inl rfl, fun j hj e => ?_⟩, rfl⟩, Or.inl ⟨h2, rfl⟩⟩, ?_, ?_⟩
        · have := zSrt_ne f1 hi hj
          dsimp only at e
          rw [zsg_app hi, zsg_app (by omega)] at e
          omega
        · dsimp only; rw [zsg_app hi]; exact hm.2.2.2
        · dsimp only; rw [zsg_app hi]; have := hm.1; dsimp only at this; omega
      · have ih := zTl_rw H hs hc c _ _ _ _ y (by omega) h
        have hx := ih.2.1
        rw [zexc_ct f1 (fun q hq => (f2 q hq).2.1), Bool.or_eq_false_iff, decide_eq_false_iff_not] at hx
        have hi : i = (zoff T.2.2.1 T.2.2.2 E (ch (ctx c))).length := by
          rcases Nat.lt_or_ge i (zoff T.2.2.1 T.2.2.2 E (ch (ctx c))).length with z | z
          · exfalso
            rw [zsg_app z] at h2
            have := (f2 _ (zsg_mem z)).1
            dsimp only at this
            omega
          · omega
        refine ⟨Or.inr ⟨hne, i, _, ⟨⟨h1, Or.inr ⟨by simp [hi], by rw [h2]; have := ih.2.2; omega⟩, fun j hj e => ?_⟩, rfl⟩, Or.inr ⟨h2, ih.1⟩⟩, hx.1, ih.2.2⟩
        rw [zsg_app (by omega)] at e
        exact hx.2 ((zlc_pos f1 (fun q hq => (f2 q hq).2.1)).mpr ⟨j, by omega, e⟩)

/-! learning keeps what a model must keep -/
theorem ztoN {c : Nat} (h : c < 4294967296) : (nI c).toBitVec.toNat = c := by
  show (Int32.ofNat c).toBitVec.toNat = c
  rw [Int32.toBitVec_ofNat', BitVec.toNat_ofNat]
  exact Nat.mod_eq_of_lt h
theorem zTok.uniq {T : zTree} {ch : Nat → List Nat} (H : zTok T ch) {p c d : Nat} (hp : p < T.1) (hc : c ∈ ch p) (hd : d ∈ ch p) (e : T.2.2.1 c = T.2.2.1 d) : c = d := by
  have h := (H.2.1 p hp).2
  generalize ch p = l at hc hd h
  induction l with
  | nil => simp at hc
  | cons a r ih =>
    have h1 := List.pairwise_cons.mp h
    rcases List.mem_cons.mp hc with e1 | hc1
    · rcases List.mem_cons.mp hd with e2 | hd1
      · rw [e1, e2]
      · have := h1.1 d hd1; rw [← e1] at this; omega
    · rcases List.mem_cons.mp hd with e2 | hd1
      · have := h1.1 c hc1; rw [← e2] at this; omega
      · exact ih hc1 hd1 h1.2
theorem zfc_is {T : zTree} {ch : Nat → List Nat} (H : zTok T ch) (hT : T.1 ≤ 1500) {p c b : Nat} (hp : p < T.1) (hc : c ∈ ch p) (e : T.2.2.1 c = b) : (zfc T.2.2.1 b (ch p)).toBitVec.toNat = c := by
  have hl : ∀ d, d ∈ ch p → d < 2147483648 := fun d hd => by have := (H.2.2.1 p d hp hd).2.1; omega
  have hne : zfc T.2.2.1 b (ch p) ≠ -1 := fun z => zfc_none hl z c hc e
  obtain ⟨d, d1, d2, d3⟩ := zfc_some hne
  obtain rfl := H.uniq hp hc d1 (e.trans d2.symm)
  rw [d3, ztoN (by have := hl c hc; omega)]
theorem zTok.rt {T : zTree} {ch : Nat → List Nat} (H : zTok T ch) (hs : zSb T ch) (hT : T.1 ≤ 1500) : zRt T ∧ zcb 300 T := by
  have hb : zcb 300 T := fun i i1 i2 => by
    have h := H.2.2.2 i i1 i2
    have h2 := zsum_le (cnt := T.2.2.2) h.2.1
    have h3 := hs (T.2.1 i) (by omega)
    omega
  refine ⟨⟨H.1, hT, fun i i1 i2 => ?_, fun c d c1 c2 d1 d2 e1 e2 => ?_⟩, hb⟩
  · have h := H.2.2.2 i i1 i2
    exact ⟨h.1, h.2.2.1, h.2.2.2, by have := hb i i1 i2; omega⟩
  · have h1 := H.2.2.2 c c1 c2
    have h2 := H.2.2.2 d d1 d2
    rw [← e1] at h2
    exact H.uniq (by omega) h1.2.1 h2.2.1 e2
def zSl (T : zTree) (sl : Nat → Nat) : Prop := ∀ c, 1 ≤ c → c < T.1 → (T.2.1 c = 0 → sl c = 0) ∧ (T.2.1 c ≠ 0 → 1 ≤ sl c ∧ sl c < T.1 ∧ T.2.1 (sl c) = sl (T.2.1 c) ∧ T.2.2.1 (sl c) = T.2.2.1 c)
theorem zwk_pos {T : zTree} {lat : Nat → Nat} : ∀ {d i p r : Nat}, zwk T lat d i p r → 1 ≤ d → 1 ≤ r
  | 0, _, _, _, _, h => by omega
  | 1, _, _, _, ⟨c, c1, _, _, _, H⟩, _ => by have : _ = c := H; omega
  | d + 2, _, _, _, ⟨_, _, _, _, _, H⟩, _ => zwk_pos (d := d + 1) H (by omega)
theorem zwk_snoc {T : zTree} {lat lat' : Nat → Nat} : ∀ {d i i' p r c : Nat}, zwk T lat d i p r → (∀ t, t < d → lat' (i' + t) = lat (i + t)) → 1 ≤ c → c < T.1 → T.2.1 c = r → T.2.2.1 c = lat' (i' + d) → zwk T lat' (d + 1) i' p c
  | 0, i, i', p, r, c, H, _, c1, c2, c3, c4 => ⟨c, c1, c2, c3.trans H, c4, rfl⟩
  | d + 1, i, i', p, r, c, ⟨e, e1, e2, e3, e4, H⟩, hl, c1, c2, c3, c4 => ⟨e, e1, e2, e3, by rw [e4]; have := hl 0 (by omega); simpa using this.symm, zwk_snoc (i := i + 1) (i' := i' + 1) H (fun t ht => by have := hl (t + 1) (by omega); rw [show i' + 1 + t = i' + (t + 1) by omega, show i + 1 + t = i + (t + 1) by omega]; exact this) c1 c2 c3 (by rw [show i' + 1 + d = i' + (d + 1) by omega]; exact c4)⟩
theorem zSl_step {b node : Nat} {T T' : zTree} {ch ch' : Nat → List Nat} {sl : Nat → Nat} (hS : zSl T sl) (hp : ∀ c, 1 ≤ c → c < T.1 → T.2.1 c < c) (h : zStep b node T ch T' ch') (hn : node < T.1) (hc0 : node ≠ 0 → ∃ c0, 1 ≤ c0 ∧ c0 < T.1 ∧ T.2.1 c0 = sl node ∧ T.2.2.1 c0 = b) : ∃ sl', zSl T' sl' ∧ ∀ c, c < T.1 → sl' c = sl c := by
  rcases h with ⟨c, _, _, rfl, rfl⟩ | ⟨_, pre, r, _, rfl, rfl⟩
  · exact ⟨sl, hS, fun _ _ => rfl⟩
  · have hx : ∃ x, (node = 0 → x = 0) ∧ (node ≠ 0 → 1 ≤ x ∧ x < T.1 ∧ T.2.1 x = sl node ∧ T.2.2.1 x = b) := by
      by_cases e : node = 0
      · exact ⟨0, fun _ => rfl, fun z => absurd e z⟩
      · obtain ⟨c0, h0⟩ := hc0 e
        exact ⟨c0, fun z => absurd z e, fun _ => h0⟩
    obtain ⟨x, x1, x2⟩ := hx
    refine ⟨va_up sl T.1 x, fun c c1 c2 => ?_, fun c hc => va_up_ne _ _ (by omega)⟩
    have c2' : c < T.1 + 1 := c2
    show (va_up T.2.1 T.1 node c = 0 → va_up sl T.1 x c = 0) ∧ (va_up T.2.1 T.1 node c ≠ 0 → 1 ≤ va_up sl T.1 x c ∧ va_up sl T.1 x c < T.1 + 1 ∧ va_up T.2.1 T.1 node (va_up sl T.1 x c) = va_up sl T.1 x (va_up T.2.1 T.1 node c) ∧ va_up T.2.2.1 T.1 b (va_up sl T.1 x c) = va_up T.2.2.1 T.1 b c)
    by_cases e : c = T.1
    · subst e
      rw [va_up_self, va_up_self, va_up_self]
      refine ⟨x1, fun z => ?_⟩
      obtain ⟨y1, y2, y3, y4⟩ := x2 z
      rw [va_up_ne _ _ (by omega), va_up_ne _ _ (by omega), va_up_ne _ _ (by omega)]
      exact ⟨y1, by omega, y3, y4⟩
    · have h1 := hS c c1 (by omega)
      have h2 := hp c c1 (by omega)
      rw [va_up_ne _ _ e, va_up_ne _ _ e, va_up_ne _ _ e]
      refine ⟨h1.1, fun z => ?_⟩
      obtain ⟨y1, y2, y3, y4⟩ := h1.2 z
      rw [va_up_ne _ _ (by omega), va_up_ne _ _ (by omega), va_up_ne _ _ (by omega)]
      exact ⟨y1, by omega, y3, y4⟩
theorem zSl_lrn {rm b lm : Nat} {ctx : Nat → Nat} (hrm : rm ≤ 1500) (hb : b < 256) (h0 : ctx 0 = 0) : ∀ (d k B : Nat) (T : zTree) (ch : Nat → List Nat) (T' : zTree) (ch' : Nat → List Nat) (sl : Nat → Nat), zLrn rm b ctx d k T ch T' ch' → k + d ≤ lm + 1 → B + d < 1000 → zTw T ch → zRt T → zcb B T → zSl T sl → (∀ j, j ≤ lm → ctx j < T.1) → (∀ j, j < lm → sl (ctx (j + 1)) = ctx j) → (∀ j, j < k → ∃ c, c ∈ ch (ctx j) ∧ T.2.2.1 c = b) → zExt T T' ∧ ∃ sl', zSl T' sl' ∧ ∀ c, c < T.1 → sl' c = sl c
  | 0, k, B, T, ch, T', ch', sl, h, _, _, _, _, _, hS, _, _, _ => by
    obtain ⟨rfl, rfl⟩ := h
    exact ⟨zExt.refl, sl, hS, fun _ _ => rfl⟩
  | d + 1, k, B, T, ch, T', ch', sl, h, hkd, hB, hW, hT, hcb, hS, hctx, hsl, hlow => by
    obtain ⟨T1, ch1, st, hr, h⟩ := h
    have hk := hctx k (by omega)
    obtain ⟨w1, w2, w3, w4⟩ := zStep_w hW hT hcb (by omega) hk hb st (by omega)
    obtain ⟨sl1, s1, s2⟩ := zSl_step hS (fun c c1 c2 => (hT.2.2.1 c c1 c2).1) st hk (fun z => by
      have hk1 : 1 ≤ k := by
        rcases Nat.eq_zero_or_pos k with e | e
        · rw [e, h0] at z; exact absurd rfl z
        · exact e
      obtain ⟨c, c1, c2⟩ := hlow (k - 1) (by omega)
      have hs := hsl (k - 1) (by omega)
      rw [show k - 1 + 1 = k by omega] at hs
      obtain ⟨d1, d2, d3⟩ := (hW.2 _ c (hctx (k - 1) (by omega))).mp c1
      exact ⟨c, d1, d2, by rw [hs]; exact d3, c2⟩)
    obtain ⟨e1, sl', s3, s4⟩ := zSl_lrn (lm := lm) hrm hb h0 d (k + 1) (B + 1) T1 ch1 T' ch' sl1 h (by omega) (by omega) w1 w2 w3 s1 (fun j hj => Nat.lt_of_lt_of_le (hctx j hj) w4.1) (fun j hj => by rw [s2 _ (hctx (j + 1) (by omega))]; exact hsl j hj) (fun j hj => by
      by_cases e : j = k
      · subst e; exact zStep_has st
      · obtain ⟨c, c1, c2⟩ := hlow j (by omega)
        have hj := hctx j (by omega)
        obtain ⟨d1, d2, d3⟩ := (hW.2 _ c hj).mp c1
        exact ⟨c, (w1.2 _ c (Nat.lt_of_lt_of_le hj w4.1)).mpr ⟨d1, Nat.lt_of_lt_of_le d2 w4.1, (w4.2 c d2).1.trans d3⟩, (w4.2 c d2).2.trans c2⟩)
    exact ⟨w4.trans e1, sl', s3, fun c hc => by rw [s4 c (Nat.lt_of_lt_of_le hc w4.1), s2 c hc]⟩
/-- a child of a context is a child of the lower ones -/
theorem zMi.low {o rm : Nat} {M : zMs} (H : zMi o rm M) {lo b : Nat} (hlo : lo ≤ M.2.2.1) (hc : ∃ c, c ∈ M.2.1 (M.2.2.2.2 lo) ∧ M.1.2.2.1 c = b) : ∀ j, j ≤ lo → ∃ c, c ∈ M.2.1 (M.2.2.2.2 j) ∧ M.1.2.2.1 c = b := by
  obtain ⟨h1, -, -, -, -, h6, h7, sl, hs1, hs2⟩ := H
  induction lo with
  | zero => intro j hj; rw [show j = 0 by omega]; exact hc
  | succ lo ih =>
    intro j hj
    by_cases e : j = lo + 1
    · rw [e]; exact hc
    · refine ih (by omega) ?_ j (by omega)
      obtain ⟨c, c1, c2⟩ := hc
      have hp := h7 (lo + 1) hlo
      obtain ⟨d1, d2, d3⟩ := h1.2.2.1 _ c hp.1 c1
      have hz := zwk_pos hp.2 (by omega)
      obtain ⟨y1, y2, y3, y4⟩ := (hs1 c d1 d2).2 (by rw [d3]; omega)
      rw [d3, hs2 lo (by omega)] at y3
      exact ⟨sl c, (zch_mem h1 (h7 lo (by omega)).1).mpr ⟨y1, y2, y3⟩, y4.trans c2⟩
theorem zMi.learn {o rm b lo : Nat} {M : zMs} {T' : zTree} {ch' : Nat → List Nat} (H : zMi o rm M) (hrm : rm ≤ 1500) (ho4 : o ≤ 4) (hb : b < 256) (hlo : lo ≤ M.2.2.1) (hlow : ∀ j, j < lo → ∃ c, c ∈ M.2.1 (M.2.2.2.2 j) ∧ M.1.2.2.1 c = b) (hL : zLrn rm b M.2.2.2.2 (M.2.2.1 + 1 - lo) lo M.1 M.2.1 T' ch') (hT' : zTok T' ch') (hS' : zSb T' ch') (hr : T'.1 ≤ rm) (hch : ∀ k, k ≤ M.2.2.1 → ∃ c, c ∈ ch' (M.2.2.2.2 k) ∧ T'.2.2.1 c = b) : zMi o rm (zMn o b M T' ch') := by
  obtain ⟨T, ch, lm, lat, ctx⟩ := M
  obtain ⟨h1, h2, h3, h4, h5, h6, h7, sl, hs1, hs2⟩ := H
  dsimp only at *
  obtain ⟨r1, r2⟩ := h1.rt h2 (by omega)
  obtain ⟨hE, sl', s1, s2⟩ := zSl_lrn (lm := lm) hrm hb h6 (lm + 1 - lo) lo 300 T ch T' ch' sl hL (by omega) (by omega) h1.w r1 r2 hs1 (fun j hj => (h7 j hj).1) hs2 hlow
  by_cases ho : o = 0
  · have hlm : lm = 0 := by omega
    subst hlm
    simp only [zMn, if_pos ho]
    refine ⟨hT', hS', hr, h4, h5, h6, fun k hk => ?_, sl', s1, fun k hk => by dsimp only at hk; omega⟩
    dsimp only at hk ⊢
    rw [show k = 0 by omega, h6]
    exact ⟨hT'.1, rfl⟩
  · simp only [zMn, if_neg ho]
    have hcl : ∀ k, k ≤ lm → ctx k < T'.1 := fun k hk => Nat.lt_of_lt_of_le (h7 k hk).1 hE.1
    have hnx : ∀ k, k ≤ lm → ∃ c, c ∈ ch' (ctx k) ∧ T'.2.2.1 c = b ∧ (zfc T'.2.2.1 b (ch' (ctx k))).toBitVec.toNat = c ∧ 1 ≤ c ∧ c < T'.1 ∧ T'.2.1 c = ctx k := fun k hk => by
      obtain ⟨c, c1, c2⟩ := hch k hk
      exact ⟨c, c1, c2, zfc_is hT' (by omega) (hcl k hk) c1 c2, hT'.2.2.1 _ c (hcl k hk) c1⟩
    have hlm' : zlm o lm ≤ lm + 1 ∧ zlm o lm ≤ o ∧ 1 ≤ zlm o lm := by unfold zlm; split <;> omega
    refine ⟨hT', hS', hr, hlm'.2.1, fun i hi => ?_, rfl, fun k hk => ?_, sl', s1, fun k hk => ?_⟩
    · dsimp only at hi ⊢
      unfold zlat
      unfold zlm at hi
      split at hi
      · rename_i hlt
        rw [if_pos hlt]
        by_cases e : i = lm
        · rw [e, va_up_self]; exact hb
        · rw [va_up_ne _ _ e]; exact h5 i (by omega)
      · rename_i hlt
        rw [if_neg hlt]
        by_cases e : i = lm - 1
        · rw [if_pos e]; exact hb
        · rw [if_neg e]; exact h5 (i + 1) (by omega)
    · dsimp only at hk ⊢
      rcases k with _ | k
      · exact ⟨hT'.1, rfl⟩
      · rw [if_neg (by omega)]
        simp only [Nat.add_sub_cancel]
        obtain ⟨c, c1, c2, c3, c4, c5, c6⟩ := hnx k (by omega)
        rw [c3]
        refine ⟨c5, zwk_snoc (lat := lat) (i := lm - k) (zwk.ext hE (h7 k (by omega)).2) (fun t ht => ?_) c4 c5 c6 ?_⟩
        · unfold zlat zlm
          split
          · rw [va_up_ne _ _ (by omega)]; congr 1; omega
          · dsimp only
            rw [if_neg (by omega)]; congr 1; omega
        · rw [c2]
          unfold zlm at hk
          unfold zlat zlm
          split
          · rename_i hlt
            rw [if_pos hlt] at hk
            rw [show lm + 1 - (k + 1) + k = lm by omega, va_up_self]
          · rename_i hlt
            rw [if_neg hlt] at hk
            dsimp only
            rw [if_pos (by omega)]
    · dsimp only at hk ⊢
      rw [if_neg (by omega)]
      simp only [Nat.add_sub_cancel]
      obtain ⟨c, c1, c2, c3, c4, c5, c6⟩ := hnx k (by omega)
      rw [c3]
      rcases k with _ | k
      · rw [if_pos rfl]
        exact (s1 c c4 c5).1 (c6.trans h6)
      · rw [if_neg (by omega)]
        simp only [Nat.add_sub_cancel]
        obtain ⟨d, d1, d2, d3, d4, d5, d6⟩ := hnx k (by omega)
        have hz := zwk_pos (h7 (k + 1) (by omega)).2 (by omega)
        obtain ⟨y1, y2, y3, y4⟩ := (s1 c c4 c5).2 (by rw [c6]; omega)
        rw [c6, s2 _ (h7 (k + 1) (by omega)).1, hs2 k (by omega)] at y3
        rw [d3]
        exact hT'.uniq (hcl k (by omega)) ((zch_mem hT' (hcl k (by omega))).mpr ⟨y1, y2, y3⟩) d1 (by rw [y4, c2, d2])
theorem zMi.zero {o rm : Nat} (h : 1 ≤ rm) : zMi o rm zM0 := by
  refine ⟨⟨Nat.le_refl 1, fun p hp => ⟨?_, List.Pairwise.nil⟩, fun p c _ hc => by simp [zM0] at hc, fun c c1 c2 => ?_⟩, fun p hp => ?_, h, Nat.zero_le _, fun i hi => ?_, rfl, fun k hk => ⟨?_, ?_⟩, fun _ => 0, fun c c1 c2 => ?_, fun k hk => ?_⟩
  · exact Nat.lt_of_lt_of_le (Nat.zero_lt_one) (Nat.le_refl 1)
  · have : c < 1 := c2; omega
  · exact Nat.zero_le _
  · exact absurd hi (Nat.not_lt_zero _)
  · exact Nat.lt_of_lt_of_le (Nat.zero_lt_one) (Nat.le_refl 1)
  · have : k = 0 := Nat.le_zero.mp hk
    rw [this]; rfl
  · have : c < 1 := c2; omega
  · exact absurd hk (Nat.not_lt_zero _)
/-- packing n bytes from i on, and the end's sign -/
abbrev zPr : Type := zMs × zEs × Nat × Nat × (Nat → Nat) × (Nat → Option Nat)
def zPk (o rm : Nat) (tx : Nat → Nat) : Nat → Nat → zPr → zPr → Prop
  | 0, i, P, R => ∃ y, zTM (zSyW 256) P.1 P.2.1 y ∧ R = (P.1, y.1, P.2.2.1 + y.2.2.2.1, P.2.2.2.1, va_up P.2.2.2.2.1 i y.2.2.1, va_up P.2.2.2.2.2 i y.2.2.2.2.2)
  | d + 1, i, P, R => ∃ y r M', zTM (zSyW (tx i)) P.1 P.2.1 y ∧ zLn o rm (tx i) (zlo y.2.2.2.2.2) P.1 r M' ∧ zPk o rm tx d (i + 1) (M', y.1, P.2.2.1 + y.2.2.2.1, P.2.2.2.1 + r.toNat, va_up P.2.2.2.2.1 i y.2.2.1, va_up P.2.2.2.2.2 i y.2.2.2.2.2) R
/-- reading: the state is model, coder with its number, how many and which bytes, restarts -/
abbrev zRr : Type := zMs × (zEs × Nat × Nat) × Nat × (Nat → Nat) × Nat
def zRd (o rm : Nat) (g : Nat → Int32) (kk : Nat) : Nat → zRr → Nat → zRr → Prop
  | 0, _, _, _ => False
  | d + 1, P, f, R => (8 * kk + 16 < P.2.1.2.2 ∧ f = 1) ∨ (¬ 8 * kk + 16 < P.2.1.2.2 ∧ ∃ y, zTM (zSyR g kk) P.1 P.2.1 y ∧ ((y.2.2.2.2.1 = 256 ∧ f = 0 ∧ R = (P.1, y.1, P.2.2)) ∨ (y.2.2.2.2.1 ≠ 256 ∧ P.2.2.1 = 300 ∧ f = 2) ∨ (y.2.2.2.2.1 ≠ 256 ∧ P.2.2.1 < 300 ∧ ∃ r M', zLn o rm y.2.2.2.2.1 (zlo y.2.2.2.2.2) P.1 r M' ∧ zRd o rm g kk d (M', y.1, P.2.2.1 + 1, va_up P.2.2.2.1 P.2.2.1 y.2.2.2.2.1, P.2.2.2.2 + r.toNat) f R)))

/-! the reference: learning a byte -/
def zTw (T : zTree) (ch : Nat → List Nat) : Prop := (∀ p, p < T.1 → (ch p).Nodup) ∧ ∀ p c, p < T.1 → (c ∈ ch p ↔ (1 ≤ c ∧ c < T.1 ∧ T.2.1 c = p))
theorem zTok.w {T : zTree} {ch : Nat → List Nat} (H : zTok T ch) : zTw T ch := ⟨fun p hp => znd_byt (H.2.1 p hp).2, fun p c hp => zch_mem H hp⟩
def zcb (B : Nat) (T : zTree) : Prop := ∀ i, 1 ≤ i → i < T.1 → T.2.2.2 i ≤ B
def zExt (T T' : zTree) : Prop := T.1 ≤ T'.1 ∧ ∀ c, c < T.1 → T'.2.1 c = T.2.1 c ∧ T'.2.2.1 c = T.2.2.1 c
theorem zExt.refl {T : zTree} : zExt T T := ⟨Nat.le_refl _, fun _ _ => ⟨rfl, rfl⟩⟩
theorem zExt.trans {T T1 T2 : zTree} (h : zExt T T1) (h2 : zExt T1 T2) : zExt T T2 := ⟨Nat.le_trans h.1 h2.1, fun c hc => ⟨(h2.2 c (Nat.lt_of_lt_of_le hc h.1)).1.trans (h.2 c hc).1, (h2.2 c (Nat.lt_of_lt_of_le hc h.1)).2.trans (h.2 c hc).2⟩⟩
theorem zwk.ext {T T' : zTree} {lat : Nat → Nat} (h : zExt T T') : ∀ {d i p r : Nat}, zwk T lat d i p r → zwk T' lat d i p r
  | 0, _, _, _, H => H
  | d + 1, i, p, r, ⟨c, c1, c2, c3, c4, H⟩ => ⟨c, c1, Nat.lt_of_lt_of_le c2 h.1, (h.2 c c2).1.trans c3, (h.2 c c2).2.trans c4, zwk.ext h H⟩
theorem zless_le1 {f : Nat → Nat} {l : List Nat} {c B : Nat} (h1 : 1 ≤ f c) (h : f c ≤ B) : zless f l c ≤ B := by
  unfold zless
  split
  · exact h
  · unfold zhalf
    split <;> omega
theorem zStep_w {b node B : Nat} {T T' : zTree} {ch ch' : Nat → List Nat} (H : zTw T ch) (HT : zRt T) (HB : zcb B T) (hB : B < 1000) (hn : node < T.1) (hb : b < 256) (h : zStep b node T ch T' ch') (hr : T'.1 ≤ 1500) : zTw T' ch' ∧ zRt T' ∧ zcb (B + 1) T' ∧ zExt T T' := by
  obtain ⟨t1, t2, t3, t4⟩ := HT
  rcases h with ⟨c, c1, c2, rfl, rfl⟩ | ⟨hno, pre, r, e, rfl, rfl⟩
  · have key : ∀ i, 1 ≤ i → i < T.1 → 1 ≤ va_up T.2.2.2 c (T.2.2.2 c + 1) i ∧ va_up T.2.2.2 c (T.2.2.2 c + 1) i ≤ B + 1 := fun i i1 i2 => by
      have := HB i i1 i2
      have := (t3 i i1 i2).2.2.1
      by_cases e : i = c
      · subst e; rw [va_up_self]; omega
      · rw [va_up_ne _ _ e]; omega
    refine ⟨H, ⟨t1, t2, fun i i1 i2 => ⟨(t3 i i1 i2).1, (t3 i i1 i2).2.1, ?_, ?_⟩, t4⟩, fun i i1 i2 => ?_, Nat.le_refl _, fun c hc => ⟨rfl, rfl⟩⟩
    · exact zless_pos (key i i1 i2).1
    · exact zless_le1 (key i i1 i2).1 (by have := (key i i1 i2).2; dsimp only [zinc]; omega)
    · exact zless_le1 (key i i1 i2).1 (key i i1 i2).2
  · have hnew : ∀ p c, p < T.1 → c ∈ ch p → c ≠ T.1 := fun p c hp hc => by have := ((H.2 p c hp).mp hc).2.1; omega
    have hmem : ∀ c, c ∈ pre ++ T.1 :: r ↔ (c ∈ ch node ∨ c = T.1) := fun c => by
      rw [e]; simp only [List.mem_append, List.mem_cons]
      constructor
      · rintro (h | h | h)
        · exact Or.inl (Or.inl h)
        · exact Or.inr h
        · exact Or.inl (Or.inr h)
      · rintro ((h | h) | h)
        · exact Or.inl h
        · exact Or.inr (Or.inr h)
        · exact Or.inr (Or.inl h)
    have key : ∀ i, 1 ≤ i → i < T.1 + 1 → 1 ≤ va_up T.2.2.2 T.1 1 i ∧ va_up T.2.2.2 T.1 1 i ≤ B + 1 := fun i i1 i2 => by
      by_cases e : i = T.1
      · subst e; rw [va_up_self]; omega
      · have := HB i i1 (by omega)
        have := (t3 i i1 (by omega)).2.2.1
        rw [va_up_ne _ _ e]; omega
    refine ⟨⟨fun p hp => ?_, fun p c hp => ?_⟩, ⟨?_, hr, fun i i1 i2 => ?_, fun c d c1 c2 d1 d2 e1 e2 => ?_⟩, fun i i1 i2 => ?_, Nat.le_succ _, fun c hc => ?_⟩
    · simp only [zgC]
      by_cases ep : p = node
      · subst ep
        rw [va_up_self]
        have hd := H.1 p hn
        rw [e] at hd
        have h2 : T.1 ∉ pre ++ r := fun z => hnew p T.1 hn (by rw [e]; exact z) rfl
        rw [List.nodup_append] at hd ⊢
        refine ⟨hd.1, List.nodup_cons.mpr ⟨fun z => h2 (List.mem_append_right _ z), hd.2.1⟩, fun a ha d hd' => ?_⟩
        rcases List.mem_cons.mp hd' with rfl | hd'
        · exact fun z => h2 (List.mem_append_left _ (z ▸ ha))
        · exact hd.2.2 a ha d hd'
      · rw [va_up_ne _ _ ep]
        by_cases et : p = T.1
        · subst et; rw [va_up_self]; exact List.nodup_nil
        · rw [va_up_ne _ _ et]
          have hp' : p < T.1 + 1 := hp
          exact H.1 p (by omega)
    · have hp' : p < T.1 + 1 := hp
      show c ∈ zgC ch T.1 node (pre ++ T.1 :: r) p ↔ 1 ≤ c ∧ c < T.1 + 1 ∧ va_up T.2.1 T.1 node c = p
      simp only [zgC]
      by_cases ep : p = node
      · subst ep
        rw [va_up_self, hmem, H.2 p c hn]
        by_cases ec : c = T.1
        · subst ec; rw [va_up_self]; simp; omega
        · rw [va_up_ne _ _ ec]; simp only [ec, or_false]
          constructor
          · rintro ⟨h1, h2, h3⟩; exact ⟨h1, by omega, h3⟩
          · rintro ⟨h1, h2, h3⟩; exact ⟨h1, by omega, h3⟩
      · rw [va_up_ne _ _ ep]
        by_cases et : p = T.1
        · subst et
          rw [va_up_self]
          constructor
          · intro z; simp at z
          · rintro ⟨h1, h2, h3⟩
            exfalso
            by_cases ec : c = T.1
            · subst ec; rw [va_up_self] at h3; omega
            · rw [va_up_ne _ _ ec] at h3
              have := (t3 c h1 (by omega)).1
              omega
        · rw [va_up_ne _ _ et, H.2 p c (by omega)]
          by_cases ec : c = T.1
          · subst ec; rw [va_up_self]
            constructor
            · rintro ⟨h1, h2, h3⟩; omega
            · rintro ⟨h1, h2, h3⟩; exact absurd h3.symm ep
          · rw [va_up_ne _ _ ec]
            constructor
            · rintro ⟨h1, h2, h3⟩; exact ⟨h1, by omega, h3⟩
            · rintro ⟨h1, h2, h3⟩; exact ⟨h1, by omega, h3⟩
    · show 1 ≤ T.1 + 1; omega
    · have i2' : i < T.1 + 1 := i2
      show va_up T.2.1 T.1 node i < i ∧ va_up T.2.2.1 T.1 b i < 256 ∧ 1 ≤ zless _ _ i ∧ zless _ _ i ≤ 1000
      refine ⟨?_, ?_, zless_pos (key i i1 i2').1, zless_le1 (key i i1 i2').1 (by have := (key i i1 i2').2; show va_up T.2.2.2 T.1 1 i ≤ 1000; omega)⟩
      · by_cases ec : i = T.1
        · subst ec; rw [va_up_self]; exact hn
        · rw [va_up_ne _ _ ec]; exact (t3 i i1 (by omega)).1
      · by_cases ec : i = T.1
        · subst ec; rw [va_up_self]; exact hb
        · rw [va_up_ne _ _ ec]; exact (t3 i i1 (by omega)).2.1
    · have c2' : c < T.1 + 1 := c2
      have d2' : d < T.1 + 1 := d2
      have e1' : va_up T.2.1 T.1 node c = va_up T.2.1 T.1 node d := e1
      have e2' : va_up T.2.2.1 T.1 b c = va_up T.2.2.1 T.1 b d := e2
      by_cases ec : c = T.1
      · by_cases ed : d = T.1
        · rw [ec, ed]
        · exfalso
          subst ec
          rw [va_up_self, va_up_ne _ _ ed] at e1' e2'
          exact hno d ((H.2 node d hn).mpr ⟨d1, by omega, e1'.symm⟩) e2'.symm
      · by_cases ed : d = T.1
        · exfalso
          subst ed
          rw [va_up_self, va_up_ne _ _ ec] at e1' e2'
          exact hno c ((H.2 node c hn).mpr ⟨c1, by omega, e1'⟩) e2'
        · rw [va_up_ne _ _ ec, va_up_ne _ _ ed] at e1' e2'
          exact t4 c d c1 (by omega) d1 (by omega) e1' e2'
    · exact zless_le1 (key i i1 i2).1 (key i i1 i2).2
    · exact ⟨va_up_ne _ _ (by omega), va_up_ne _ _ (by omega)⟩
theorem zRm.inc {g : Nat → Nat → Int32} {s c lm : Nat} {T : zTree} {lat : Nat → Nat} (H : zRm g s T lm lat) (c1 : 1 ≤ c) (c2 : c < T.1) (hb : T.2.2.2 c < 1000) : zRm (va_up g 7 (upd (g 7) (1500 * s + c) (nI (T.2.2.2 c + 1)))) s (zinc T c) lm lat := by
  obtain ⟨hn, hlm, hP, hB, hC, hLt, hl4, q1, q2, q3, q4⟩ := H
  refine ⟨?_, ?_, fun i hi => ?_, fun i hi => ?_, fun i hi => ?_, fun i hi => ?_, hl4, q1, q2, fun i i1 i2 => ⟨(q3 i i1 i2).1, (q3 i i1 i2).2.1, ?_, ?_⟩, q4⟩
  · rw [zup_ne (by decide)]; exact hn
  · rw [zup_ne (by decide)]; exact hlm
  · rw [zup_ne (by decide)]; exact hP i hi
  · rw [zup_ne (by decide)]; exact hB i hi
  · rw [zng]
    by_cases e : i = c
    · subst e; rw [zu_eq, if_neg (by omega)]; simp only [zinc, va_up_self]
    · rw [zu_ne (by omega), hC i hi]; simp only [zinc, va_up_ne _ _ e]
  · rw [zup_ne (by decide)]; exact hLt i hi
  · simp only [zinc]
    by_cases e : i = c
    · subst e; rw [va_up_self]; omega
    · rw [va_up_ne _ _ e]; exact (q3 i i1 i2).2.2.1
  · simp only [zinc]
    by_cases e : i = c
    · subst e; rw [va_up_self]; omega
    · rw [va_up_ne _ _ e]; exact (q3 i i1 i2).2.2.2
theorem zRm.grow {g g' : Nat → Nat → Int32} {s p b lm : Nat} {T : zTree} {lat : Nat → Nat} (H : zRm g s T lm lat) (hp : p < T.1) (hb : b < 256) (hT : T.1 < 1500) (hno : ∀ c, 1 ≤ c → c < T.1 → T.2.1 c = p → T.2.2.1 c ≠ b) (e4 : g' 4 s = nI (T.1 + 1)) (e5 : g' 5 = upd (g 5) (1500 * s + T.1) (nI p)) (e6 : g' 6 = upd (g 6) (1500 * s + T.1) (nI b)) (e7 : g' 7 (1500 * s + T.1) = 1 ∧ ∀ j, j ≠ 1500 * s + T.1 → g' 7 j = g 7 j) (e8 : g' 8 = g 8) (e9 : g' 9 = g 9) : zRm g' s (zgT T p b) lm lat := by
  obtain ⟨hn, hlm, hP, hB, hC, hLt, hl4, q1, q2, q3, q4⟩ := H
  have d1 : ∀ i, i < (zgT T p b).1 → i < T.1 + 1 := fun i hi => hi
  refine ⟨e4, by rw [e8]; exact hlm, fun i hi => ?_, fun i hi => ?_, fun i hi => ?_, fun i hi => by rw [e9]; exact hLt i hi, hl4, ?_, ?_, fun i i1 i2 => ?_, fun c d c1 c2 d1' d2 e1 e2 => ?_⟩
  · have hi' := d1 i hi
    rw [e5]; simp only [zgT]
    by_cases e : i = T.1
    · subst e; rw [zu_eq, zm_pos (by omega), va_up_self]
    · rw [zu_ne (by omega), hP i (by omega), zm, zm, va_up_ne _ _ e]
  · have hi' := d1 i hi
    rw [e6]; simp only [zgT]
    by_cases e : i = T.1
    · subst e; rw [zu_eq, zm_pos (by omega), va_up_self]
    · rw [zu_ne (by omega), hB i (by omega), zm, zm, va_up_ne _ _ e]
  · have hi' := d1 i hi
    simp only [zgT]
    by_cases e : i = T.1
    · subst e; rw [e7.1, if_neg (by omega), va_up_self]; rfl
    · rw [e7.2 _ (by omega), hC i (by omega), va_up_ne _ _ e]
  · show 1 ≤ T.1 + 1; omega
  · show T.1 + 1 ≤ 1500; omega
  · have i2' := d1 i i2
    simp only [zgT]
    by_cases e : i = T.1
    · subst e; rw [va_up_self, va_up_self, va_up_self]; exact ⟨hp, hb, Nat.le_refl _, by decide⟩
    · rw [va_up_ne _ _ e, va_up_ne _ _ e, va_up_ne _ _ e]; exact q3 i i1 (by omega)
  · have c2' := d1 c c2
    have d2' := d1 d d2
    simp only [zgT] at e1 e2
    by_cases ec : c = T.1
    · by_cases ed : d = T.1
      · rw [ec, ed]
      · exfalso
        subst ec
        rw [va_up_self, va_up_ne _ _ ed] at e1 e2
        exact hno d d1' (by omega) e1.symm e2.symm
    · by_cases ed : d = T.1
      · exfalso
        subst ed
        rw [va_up_self, va_up_ne _ _ ec] at e1 e2
        exact hno c c1 (by omega) e1 e2
      · rw [va_up_ne _ _ ec, va_up_ne _ _ ed] at e1 e2
        exact q4 c d c1 (by omega) d1' (by omega) e1 e2
theorem zRm.late {g g' : Nat → Nat → Int32} {s lm lm' : Nat} {T : zTree} {lat lat' : Nat → Nat} (H : zRm g s T lm lat) (e : zfg [8, 9] g g') (e8 : g' 8 s = nI lm') (e9 : ∀ i, i < lm' → g' 9 (4 * s + i) = nI (lat' i) ∧ lat' i < 256) (h4 : lm' ≤ 4) : zRm g' s T lm' lat' := by
  obtain ⟨hn, hlm, hP, hB, hC, hLt, hl4, hT⟩ := H
  refine ⟨?_, e8, fun i hi => ?_, fun i hi => ?_, fun i hi => ?_, e9, h4, hT⟩
  · rw [e 4 (by decide)]; exact hn
  · rw [e 5 (by decide)]; exact hP i hi
  · rw [e 6 (by decide)]; exact hB i hi
  · rw [e 7 (by decide)]; exact hC i hi
/-- how learning goes on from context k: to a tree, or to a restart -/
def zLo (rm b lm : Nat) (ctx : Nat → Nat) (k : Nat) (T : zTree) (ch : Nat → List Nat) (R : Option zTree) : Prop := (∃ T' ch', R = some T' ∧ zLrn rm b ctx (lm + 1 - k) k T ch T' ch') ∨ (∃ d T2 ch2, R = none ∧ k + d ≤ lm ∧ zLrn rm b ctx d k T ch T2 ch2 ∧ zRst rm b (ctx (k + d)) T2 ch2)
theorem zLo.next {rm b lm k : Nat} {ctx : Nat → Nat} {T : zTree} {ch : Nat → List Nat} {R : Option zTree} (h : zLo rm b lm ctx k T ch R) (hk : k ≤ lm) : (∃ T1 ch1, zStep b (ctx k) T ch T1 ch1 ∧ T1.1 ≤ rm ∧ zLo rm b lm ctx (k + 1) T1 ch1 R) ∨ (R = none ∧ zRst rm b (ctx k) T ch) := by
  rcases h with ⟨T', ch', e, h⟩ | ⟨d, T2, ch2, e, hd, h, hr⟩
  · rw [show lm + 1 - k = (lm - k) + 1 by omega] at h
    obtain ⟨T1, ch1, h1, h2, h3⟩ := h
    exact Or.inl ⟨T1, ch1, h1, h2, Or.inl ⟨T', ch', e, by rw [show lm + 1 - (k + 1) = lm - k by omega]; exact h3⟩⟩
  · rcases d with _ | d
    · obtain ⟨rfl, rfl⟩ := h
      exact Or.inr ⟨e, hr⟩
    · obtain ⟨T1, ch1, h1, h2, h3⟩ := h
      exact Or.inl ⟨T1, ch1, h1, h2, Or.inr ⟨d, T2, ch2, e, by omega, h3, by rw [show k + 1 + d = k + (d + 1) by omega]; exact hr⟩⟩
abbrev rX11_learn : Room := ⟨2, 0, 0, 80⟩
def SX11_learn (G : zC) : zS := fun as h n K => ∃ (h0 : zH) (m : Nat) (v : Nat → Int32) (g : Nat → Nat → Int32) (s b lo o rm lm : Nat) (T : zTree) (ch : Nat → List Nat) (lat ctx : Nat → Nat) (R : Option zTree), as = [.ref m, .int (nI s), .int (nI b), .int (nI lo)] ∧ h = zRh G h0 m v g ∧ zRm g s T lm lat ∧ s ≤ 6 ∧ b < 256 ∧ lo ≤ lm ∧ v 1 = nI o ∧ v 2 = nI rm ∧ lm ≤ o ∧ o ≤ 4 ∧ rm ≤ 1500 ∧ zTw T ch ∧ zcb 300 T ∧ (∀ k, k ≤ lm → zwk T lat k (lm - k) 0 (ctx k) ∧ ctx k < T.1) ∧ zLo rm b lm ctx lo T ch R ∧ (∀ v' g' T', R = some T' → zfv [25] v v' → v' 25 = 0 → zfm s g g' → zRm g' s T' (if o = 0 then lm else zlm o lm) (if o = 0 then lat else zlat o lm b lat) → K none (zRh G h0 m v' g') n) ∧ (∀ v' g', R = none → zfv [25] v v' → v' 25 = 1 → zfm s g g' → (∀ par byt cnt lat, zRm g' s (1, par, byt, cnt) 0 lat) → K none (zRh G h0 m v' g') n)
set_option maxRecDepth 100000 in
theorem tvX11_learn {G : zC} {as : List Value} {h : zH} {n : Nat} {K : zP} (hs : SX11_learn G as h n K) : (∃ b fs r, as = .ref b :: r ∧ h b = some (.inr (11, fs))) ∧ zCt G rX11_learn mX11_learn as h n K := by
  obtain ⟨h0, m, v, g, s, b, lo, o, rm, lm, T, ch, lat, ctx, R, rfl, rfl, hM, hs, hb, hlo, hv1, hv2, hlo4, ho4, hrm, hTw, hcb, hctx, hLo, hK1, hK2⟩ := hs
  refine ⟨⟨_, _, _, rfl, zRh_o⟩, zCt.of (by decide) (Nat.le_of_ble_eq_true rfl) ?_⟩
  have hlm0 := hM.2.1
  have hl4 : lm ≤ 4 := hM.2.2.2.2.2.2.1
  have htail : ∀ (v1 : Nat → Int32) (g1 : Nat → Nat → Int32) (T' : zTree), R = some T' → zfv [25] v v1 → v1 25 = 0 → zfm s g g1 → zRm g1 s T' lm lat → zZ (zXm G rX11_learn mX11_learn [.ref m, .int (nI s), .int (nI b), .int (nI lo)] (zRh G h0 m v g) n K) 176 [(0, .ref m), (1, .int (nI s)), (2, .int (nI b)), (3, .int (nI lo)), (4, .int (nI lm))] [] (zRh G h0 m v1 g1) n 0 0 := by
    intro v1 g1 T' hR hv h25 hg hM1
    have hlm := hM1.2.1
    have hLt := hM1.2.2.2.2.2.1
    have e1 : v1 1 = nI o := (hv 1 (by decide)).trans hv1
    refine z_aload_n dX11_learn_176 rfl ?_
    refine zr_get dX11_learn_177 fX11_129_11 rfl rfl ?_
    refine z_if_ne (t := 275) dX11_learn_180 (by decide) (fun q180 => ?_) (fun q180 => ?_)
    · exact absurd h25 q180
    · refine z_aload_n dX11_learn_183 rfl ?_
      refine zr_get dX11_learn_184 fX11_72_11 rfl rfl ?_
      refine z_if_le (t := 275) dX11_learn_187 (by decide) (fun q187 => ?_) (fun q187 => ?_)
      · have ho : o = 0 := by
          by_cases z : o = 0
          · exact z
          · rw [e1] at q187; exact absurd q187 (nI_nle (by omega) (by omega))
        refine z_vreturn dX11_learn_275 rfl (Nat.le_of_ble_eq_true rfl) (Nat.le_of_ble_eq_true rfl) ?_
        rw [if_pos ho, if_pos ho] at hK1
        exact hK1 v1 g1 T' hR hv h25 hg hM1
      · have ho : 0 < o := by
          rcases Nat.eq_zero_or_pos o with z | z
          · rw [e1, z] at q187; exact absurd (by decide) q187
          · exact z
        rw [if_neg (by omega), if_neg (by omega)] at hK1
        refine z_iload dX11_learn_190 rfl ?_
        refine z_aload_n dX11_learn_192 rfl ?_
        refine zr_get dX11_learn_193 fX11_72_11 rfl rfl ?_
        rw [e1]
        refine z_icmp_ne (t := 249) dX11_learn_196 (by decide) (fun q196 => ?_) (fun q196 => ?_)
        · have hlt : lm < o := by
            have : lm ≠ o := mt (nI_eq (by omega) (by omega)).mpr q196
            omega
          refine z_aload_n dX11_learn_249 rfl ?_
          refine zr_get dX11_learn_250 fX11_34_11 rfl rfl ?_
          refine z_iconst (w := 4) dX11_learn_253 (by decide) ?_
          refine z_iload_n dX11_learn_254 rfl ?_
          refine z_imul dX11_learn_255 ?_
          refine z_aload_n dX11_learn_256 rfl ?_
          refine zr_get dX11_learn_257 fX11_31_11 rfl rfl ?_
          refine z_iload_n dX11_learn_260 rfl ?_
          refine zr_ald (a := _) dX11_learn_261 rfl (by decide) (by simp only [zrl]; omega) ?_
          rw [hlm]
          refine z_iadd dX11_learn_262 ?_
          refine z_iload_n dX11_learn_263 rfl ?_
          refine zr_ast (a := 4 * s + lm) dX11_learn_264 (zx4 s lm) (by decide) (by simp only [zrl]; omega) ?_
          refine z_aload_n dX11_learn_265 rfl ?_
          refine zr_get dX11_learn_266 fX11_31_11 rfl rfl ?_
          refine z_iload_n dX11_learn_269 rfl ?_
          refine z_dup2 dX11_learn_270 rfl rfl ?_
          refine zr_ald (a := _) dX11_learn_271 rfl (by decide) (by simp only [zrl]; omega) ?_
          rw [zup_ne (by decide), hlm]
          refine z_iconst (w := 1) dX11_learn_272 (by decide) ?_
          refine z_iadd dX11_learn_273 ?_
          rw [nI_1]
          refine zr_ast (a := _) dX11_learn_274 rfl (by decide) (by simp only [zrl]; omega) ?_
          refine z_vreturn dX11_learn_275 rfl (Nat.le_of_ble_eq_true rfl) (Nat.le_of_ble_eq_true rfl) ?_
          refine hK1 v1 _ T' hR hv h25 ((hg.lat (by omega) _).lts _) (hM1.late ((zfg.refl.up (by decide) _).up (by decide) _) ?_ (fun i hi => ?_) ?_)
          · rw [zng, zu_eq, zlm, if_pos hlt]
          · rw [zlm, if_pos hlt] at hi
            rw [zup_ne (by decide), zng, zlat, if_pos hlt]
            by_cases e : i = lm
            · subst e; rw [zu_eq, va_up_self]; exact ⟨rfl, hb⟩
            · rw [zu_ne (by omega), va_up_ne _ _ e]; exact hLt i (by omega)
          · rw [zlm, if_pos hlt]; omega
        · have hle : lm = o := (nI_eq (by omega) (by omega)).mp q196
          have sh : ∀ (d i : Nat) (g2 : Nat → Nat → Int32), lm - i < d → 1 ≤ i → i ≤ lm → zfm s g g2 → zfg [9] g1 g2 → (∀ j, j + 1 < i → g2 9 (4 * s + j) = nI (lat (j + 1))) → (∀ j, i ≤ j → j < lm → g2 9 (4 * s + j) = nI (lat j)) → zZ (zXm G rX11_learn mX11_learn [.ref m, .int (nI s), .int (nI b), .int (nI lo)] (zRh G h0 m v g) n K) 202 [(0, .ref m), (1, .int (nI s)), (2, .int (nI b)), (3, .int (nI lo)), (4, .int (nI lm)), (5, .int (nI i))] [] (zRh G h0 m v1 g2) n 0 0 := by
            intro d
            induction d with
            | zero => intro i g2 hd; omega
            | succ d ih =>
              intro i g2 hd hi hil hg2 hz hj1 hj2
              refine z_iload dX11_learn_202 rfl ?_
              refine z_iload dX11_learn_204 rfl ?_
              refine z_icmp_ge (t := 239) dX11_learn_206 (by decide) (fun q206 => ?_) (fun q206 => ?_)
              · have hii : i = lm := by have := (nI_leI (by omega) (by omega)).mp q206; omega
                subst hii
                refine z_aload_n dX11_learn_239 rfl ?_
                refine zr_get dX11_learn_240 fX11_31_11 rfl rfl ?_
                refine z_iload_n dX11_learn_243 rfl ?_
                refine z_dup2 dX11_learn_244 rfl rfl ?_
                refine zr_ald (a := _) dX11_learn_245 rfl (by decide) (by simp only [zrl]; omega) ?_
                rw [hz 8 (by decide), hlm, show (nI i : Int32) = nI i from rfl]
                refine z_iconst (w := 1) dX11_learn_246 (by decide) ?_
                refine z_isub dX11_learn_247 ?_
                rw [show nI i - 1 = nI (i - 1) from zn_sub (b := 1) (by omega)]
                refine zr_ast (a := _) dX11_learn_248 rfl (by decide) (by simp only [zrl]; omega) ?_
                refine z_aload_n dX11_learn_249 rfl ?_
                refine zr_get dX11_learn_250 fX11_34_11 rfl rfl ?_
                refine z_iconst (w := 4) dX11_learn_253 (by decide) ?_
                refine z_iload_n dX11_learn_254 rfl ?_
                refine z_imul dX11_learn_255 ?_
                refine z_aload_n dX11_learn_256 rfl ?_
                refine zr_get dX11_learn_257 fX11_31_11 rfl rfl ?_
                refine z_iload_n dX11_learn_260 rfl ?_
                refine zr_ald (a := _) dX11_learn_261 rfl (by decide) (by simp only [zrl]; omega) ?_
                rw [zng, zu_eq]
                refine z_iadd dX11_learn_262 ?_
                refine z_iload_n dX11_learn_263 rfl ?_
                refine zr_ast (a := 4 * s + (i - 1)) dX11_learn_264 (zx4 s (i - 1)) (by decide) (by simp only [zrl]; omega) ?_
                refine z_aload_n dX11_learn_265 rfl ?_
                refine zr_get dX11_learn_266 fX11_31_11 rfl rfl ?_
                refine z_iload_n dX11_learn_269 rfl ?_
                refine z_dup2 dX11_learn_270 rfl rfl ?_
                refine zr_ald (a := _) dX11_learn_271 rfl (by decide) (by simp only [zrl]; omega) ?_
                rw [zup_ne (by decide), zng, zu_eq]
                refine z_iconst (w := 1) dX11_learn_272 (by decide) ?_
                refine z_iadd dX11_learn_273 ?_
                rw [nI_1, show i - 1 + 1 = i by omega]
                refine zr_ast (a := _) dX11_learn_274 rfl (by decide) (by simp only [zrl]; omega) ?_
                refine z_vreturn dX11_learn_275 rfl (Nat.le_of_ble_eq_true rfl) (Nat.le_of_ble_eq_true rfl) ?_
                refine hK1 v1 _ T' hR hv h25 (((hg2.lts _).lat (by omega) _).lts _) (hM1.late (((((hz.mono (S' := [8, 9]) (by decide)).up (by decide) _)).up (by decide) _).up (by decide) _) ?_ (fun j hj => ?_) ?_)
                · rw [zng, zu_eq, zlm, if_neg (by omega)]
                · rw [zlm, if_neg (by omega)] at hj
                  rw [zup_ne (by decide), zng, zup_ne (by decide), zlat, if_neg (by omega)]
                  by_cases e : j = i - 1
                  · subst e; rw [zu_eq, if_pos rfl]; exact ⟨rfl, hb⟩
                  · rw [zu_ne (by omega), if_neg e]; exact ⟨hj1 j (by omega), (hLt (j + 1) (by omega)).2⟩
                · rw [zlm, if_neg (by omega)]; omega
              · have hii : i < lm := by have := mt (nI_leI (by omega) (by omega)).mpr q206; omega
                refine z_aload_n dX11_learn_209 rfl ?_
                refine zr_get dX11_learn_210 fX11_34_11 rfl rfl ?_
                refine z_iconst (w := 4) dX11_learn_213 (by decide) ?_
                refine z_iload_n dX11_learn_214 rfl ?_
                refine z_imul dX11_learn_215 ?_
                refine z_iload dX11_learn_216 rfl ?_
                refine z_iadd dX11_learn_218 ?_
                refine z_iconst (w := 1) dX11_learn_219 (by decide) ?_
                refine z_isub dX11_learn_220 ?_
                refine z_aload_n dX11_learn_221 rfl ?_
                refine zr_get dX11_learn_222 fX11_34_11 rfl rfl ?_
                refine z_iconst (w := 4) dX11_learn_225 (by decide) ?_
                refine z_iload_n dX11_learn_226 rfl ?_
                refine z_imul dX11_learn_227 ?_
                refine z_iload dX11_learn_228 rfl ?_
                refine z_iadd dX11_learn_230 ?_
                refine zr_ald (a := 4 * s + i) dX11_learn_231 (zx4 s i) (by decide) (by simp only [zrl]; omega) ?_
                rw [hj2 i (Nat.le_refl _) hii]
                refine zr_ast (a := 4 * s + (i - 1)) dX11_learn_232 (by rw [zx4, show (1 : Int32) = nI 1 by rfl, zn_sub (by omega)]; congr 1; omega) (by decide) (by simp only [zrl]; omega) ?_
                refine z_iinc dX11_learn_233 rfl (Nat.le_of_ble_eq_true rfl) ?_
                refine z_goto (t := 202) dX11_learn_236 (by decide) ?_
                rw [show nI i + Int32.ofInt 1 = nI (i + 1) from nI_1 i]
                refine ih (i + 1) _ (by omega) (by omega) (by omega) (hg2.lat (by omega) _) (hz.up (by decide) _) (fun j hj => ?_) (fun j e1 e2 => ?_)
                · rw [zng]
                  by_cases e : j = i - 1
                  · subst e; rw [zu_eq, show i - 1 + 1 = i by omega]
                  · rw [zu_ne (by omega)]; exact hj1 j (by omega)
                · rw [zng, zu_ne (by omega)]; exact hj2 j (by omega) e2
          refine z_iconst (w := 1) dX11_learn_199 (by decide) ?_
          refine z_istore dX11_learn_200 (Nat.le_of_ble_eq_true rfl) ?_
          exact sh (lm + 1) 1 g1 (by omega) (by omega) (by omega) hg zfg.refl (fun j hj => by omega) (fun j _ hj => (hLt j hj).1)
  have loop : ∀ (e k : Nat) (v1 : Nat → Int32) (g1 : Nat → Nat → Int32) (T1 : zTree) (ch1 : Nat → List Nat), k + e = lm + 1 → zfv [25] v v1 → v1 25 = 0 → zfm s g g1 → zRm g1 s T1 lm lat → zTw T1 ch1 → zcb (300 + k) T1 → zExt T T1 → zLo rm b lm ctx k T1 ch1 R → zZ (zXm G rX11_learn mX11_learn [.ref m, .int (nI s), .int (nI b), .int (nI lo)] (zRh G h0 m v g) n K) 16 [(0, .ref m), (1, .int (nI s)), (2, .int (nI b)), (3, .int (nI lo)), (4, .int (nI lm)), (5, .int (nI k))] [] (zRh G h0 m v1 g1) n 0 0 := by
    intro e
    induction e with
    | zero =>
      intro k v1 g1 T1 ch1 hk hv h25 hg hM1 hW hB hE hL
      refine z_iload dX11_learn_16 rfl ?_
      refine z_iload dX11_learn_18 rfl ?_
      refine z_icmp_gt (t := 176) dX11_learn_20 (by decide) (fun q20 => ?_) (fun q20 => ?_)
      · obtain ⟨T', ch', e, hz⟩ | ⟨d, T2, ch2, e, hd, -⟩ := hL
        · rw [show lm + 1 - k = 0 by omega] at hz
          obtain ⟨rfl, -⟩ := hz
          refine zZ.keep [0, 1, 2, 3, 4] ?_
          exact htail v1 g1 T' e hv h25 hg hM1
        · omega
      · exact absurd (nI_lt (by omega) (by omega)) q20
    | succ e ih =>
      intro k v1 g1 T1 ch1 hk hv h25 hg hM1 hW hB hE hL
      obtain ⟨hw, hcl⟩ := hctx k (by omega)
      have hw1 := zwk.ext hE hw
      have hcl1 : ctx k < T1.1 := Nat.lt_of_lt_of_le hcl hE.1
      have hM2 := hM1
      obtain ⟨hn, hlm, hP, hB1, hC, hLt, -, hT1, hT2, hT3, hT4⟩ := hM1
      have e2 : v1 2 = nI rm := (hv 2 (by decide)).trans hv2
      refine z_iload dX11_learn_16 rfl ?_
      refine z_iload dX11_learn_18 rfl ?_
      refine z_icmp_gt (t := 176) dX11_learn_20 (by decide) (fun q20 => ?_) (fun q20 => ?_)
      · exact absurd q20 (nI_nlt (by omega) (by omega))
      · refine z_aload_n dX11_learn_23 rfl ?_
        refine zr_get dX11_learn_24 fX11_129_11 rfl rfl ?_
        refine z_if_ne (t := 176) dX11_learn_27 (by decide) (fun q27 => ?_) (fun q27 => ?_)
        · exact absurd h25 q27
        · rcases hL.next (by omega) with ⟨T2, ch2, hst, hr2, hL2⟩ | ⟨hRn, hrs⟩
          · have hS := zStep_w hW ⟨hT1, hT2, hT3, hT4⟩ hB (by omega) hcl1 hb hst (by omega)
            rcases hst with ⟨c, c1, c2, rfl, rfl⟩ | ⟨hno, pre, r, e5, rfl, rfl⟩
            · obtain ⟨m1, m2, m3⟩ := (hW.2 _ c hcl1).mp c1
              refine z_aload_n dX11_learn_30 rfl ?_
              refine z_iload_n dX11_learn_31 rfl ?_
              refine z_iload dX11_learn_32 rfl ?_
              refine zcall3 (zck_V (na := 2) (ci := 11) (R' := rX11_context) (M' := mX11_context) (fun _ _ _ _ => tvX11_context) (by decide) kX11_context lX11_106 (by decide +kernel) rfl) dX11_learn_34 (Nat.le_of_ble_eq_true rfl) (Nat.le_of_ble_eq_true rfl) (Nat.le_of_ble_eq_true rfl) ?_
              refine ⟨h0, m, v1, g1, s, k, ctx k, T1, lm, lat, rfl, rfl, hM2, hs, (by omega), hw1, ?_⟩
              refine z_istore dX11_learn_37 (Nat.le_of_ble_eq_true rfl) ?_
              refine z_aload_n dX11_learn_39 rfl ?_
              refine z_iload_n dX11_learn_40 rfl ?_
              refine z_iload dX11_learn_41 rfl ?_
              refine z_iload_n dX11_learn_43 rfl ?_
              refine zcall4 (zck_V (na := 3) (ci := 11) (R' := rX11_child) (M' := mX11_child) (fun _ _ _ _ => tvX11_child) (by decide) kX11_child lX11_99 (by decide +kernel) rfl) dX11_learn_44 (Nat.le_of_ble_eq_true rfl) (Nat.le_of_ble_eq_true rfl) (Nat.le_of_ble_eq_true rfl) ?_
              refine ⟨h0, m, v1, g1, s, ctx k, b, T1, lm, lat, rfl, rfl, hM2, hs, (by omega), hb, (fun q q1 q2 q3 q4 => ?_), (fun z => absurd c2 (z c m1 m2 m3))⟩
              obtain rfl := hT4 q c q1 q2 m1 m2 (q3.trans m3.symm) (q4.trans c2.symm)
              refine z_istore dX11_learn_47 (Nat.le_of_ble_eq_true rfl) ?_
              refine z_iload dX11_learn_49 rfl ?_
              refine z_if_ge (t := 80) dX11_learn_51 (by decide) (fun q51 => ?_) (fun q51 => ?_)
              · refine z_iload dX11_learn_80 rfl ?_
                refine z_if_ge (t := 146) dX11_learn_82 (by decide) (fun q82 => ?_) (fun q82 => ?_)
                · refine z_aload_n dX11_learn_146 rfl ?_
                  refine zr_get dX11_learn_147 fX11_28_11 rfl rfl ?_
                  refine z_sipush (w := 1500) dX11_learn_150 (by decide) ?_
                  refine z_iload_n dX11_learn_153 rfl ?_
                  refine z_imul dX11_learn_154 ?_
                  refine z_iload dX11_learn_155 rfl ?_
                  refine z_iadd dX11_learn_157 ?_
                  refine z_dup2 dX11_learn_158 rfl rfl ?_
                  refine zr_ald (a := 1500 * s + q) dX11_learn_159 (zx1500 s q) (by decide) (by simp only [zrl]; omega) ?_
                  rw [hC q m2, if_neg (by omega)]
                  refine z_iconst (w := 1) dX11_learn_160 (by decide) ?_
                  refine z_iadd dX11_learn_161 ?_
                  rw [nI_1]
                  refine zr_ast (a := 1500 * s + q) dX11_learn_162 (zx1500 s q) (by decide) (by simp only [zrl]; omega) ?_
                  have hMi := hM2.inc m1 m2 (by have := hB q m1 m2; omega)
                  have hgi := hg.cnt (c := q) (by omega) (nI (T1.2.2.2 q + 1))
                  refine z_aload_n dX11_learn_163 rfl ?_
                  refine z_iload_n dX11_learn_164 rfl ?_
                  refine z_iload dX11_learn_165 rfl ?_
                  refine zcall3 (zck_V (na := 2) (ci := 11) (R' := rX11_halve) (M' := mX11_halve) (fun _ _ _ _ => tvX11_halve) (by decide) kX11_halve lX11_133 (by decide +kernel) rfl) dX11_learn_167 (Nat.le_of_ble_eq_true rfl) (Nat.le_of_ble_eq_true rfl) (Nat.le_of_ble_eq_true rfl) ?_
                  refine ⟨h0, m, v1, _, s, ctx k, (zinc T1 q), lm, lat, (ch2 (ctx k)), rfl, rfl, hMi, hs, (by omega), (hW.1 _ hcl1), (fun q => hW.2 _ q hcl1), fun g2 hg2 hM3 => ?_⟩
                  refine z_iinc dX11_learn_170 rfl (Nat.le_of_ble_eq_true rfl) ?_
                  refine z_goto (t := 16) dX11_learn_173 (by decide) ?_
                  rw [show nI k + Int32.ofInt 1 = nI (k + 1) from nI_1 k]
                  refine zZ.keep [0, 1, 2, 3, 4, 5] ?_
                  exact ih (k + 1) v1 g2 _ _ (by omega) hv h25 (hgi.trans hg2) hM3 hS.1 (by rw [show 300 + (k + 1) = 300 + k + 1 by omega]; exact hS.2.2.1) (hE.trans hS.2.2.2) hL2
                · exact absurd (nI_pos' (by omega)) q82
              · exact absurd (nI_pos' (by omega)) q51
            · have hno2 : ∀ c, 1 ≤ c → c < T1.1 → T1.2.1 c = ctx k → T1.2.2.1 c ≠ b := fun c q1 q2 q3 => hno c ((hW.2 _ c hcl1).mpr ⟨q1, q2, q3⟩)
              have hr3 : T1.1 + 1 ≤ rm := hr2
              refine z_aload_n dX11_learn_30 rfl ?_
              refine z_iload_n dX11_learn_31 rfl ?_
              refine z_iload dX11_learn_32 rfl ?_
              refine zcall3 (zck_V (na := 2) (ci := 11) (R' := rX11_context) (M' := mX11_context) (fun _ _ _ _ => tvX11_context) (by decide) kX11_context lX11_106 (by decide +kernel) rfl) dX11_learn_34 (Nat.le_of_ble_eq_true rfl) (Nat.le_of_ble_eq_true rfl) (Nat.le_of_ble_eq_true rfl) ?_
              refine ⟨h0, m, v1, g1, s, k, ctx k, T1, lm, lat, rfl, rfl, hM2, hs, (by omega), hw1, ?_⟩
              refine z_istore dX11_learn_37 (Nat.le_of_ble_eq_true rfl) ?_
              refine z_aload_n dX11_learn_39 rfl ?_
              refine z_iload_n dX11_learn_40 rfl ?_
              refine z_iload dX11_learn_41 rfl ?_
              refine z_iload_n dX11_learn_43 rfl ?_
              refine zcall4 (zck_V (na := 3) (ci := 11) (R' := rX11_child) (M' := mX11_child) (fun _ _ _ _ => tvX11_child) (by decide) kX11_child lX11_99 (by decide +kernel) rfl) dX11_learn_44 (Nat.le_of_ble_eq_true rfl) (Nat.le_of_ble_eq_true rfl) (Nat.le_of_ble_eq_true rfl) ?_
              refine ⟨h0, m, v1, g1, s, ctx k, b, T1, lm, lat, rfl, rfl, hM2, hs, (by omega), hb, (fun q q1 q2 q3 q4 => absurd q4 (hno2 q q1 q2 q3)), (fun _ => ?_)⟩
              refine z_istore dX11_learn_47 (Nat.le_of_ble_eq_true rfl) ?_
              refine z_iload dX11_learn_49 rfl ?_
              refine z_if_ge (t := 80) dX11_learn_51 (by decide) (fun q51 => ?_) (fun q51 => ?_)
              · exact absurd q51 (by decide)
              · refine z_aload_n dX11_learn_54 rfl ?_
                refine zr_get dX11_learn_55 fX11_19_11 rfl rfl ?_
                refine z_iload_n dX11_learn_58 rfl ?_
                refine zr_ald (a := _) dX11_learn_59 rfl (by decide) (by simp only [zrl]; omega) ?_
                rw [hn]
                refine z_aload_n dX11_learn_60 rfl ?_
                refine zr_get dX11_learn_61 fX11_75_11 rfl rfl ?_
                rw [e2]
                refine z_icmp_ne (t := 80) dX11_learn_64 (by decide) (fun q64 => ?_) (fun q64 => ?_)
                · refine z_iload dX11_learn_80 rfl ?_
                  refine z_if_ge (t := 146) dX11_learn_82 (by decide) (fun q82 => ?_) (fun q82 => ?_)
                  · exact absurd q82 (by decide)
                  · refine z_aload_n dX11_learn_85 rfl ?_
                    refine zr_get dX11_learn_86 fX11_19_11 rfl rfl ?_
                    refine z_iload_n dX11_learn_89 rfl ?_
                    refine zr_ald (a := _) dX11_learn_90 rfl (by decide) (by simp only [zrl]; omega) ?_
                    rw [hn]
                    refine z_istore dX11_learn_91 (Nat.le_of_ble_eq_true rfl) ?_
                    refine z_aload_n dX11_learn_93 rfl ?_
                    refine zr_get dX11_learn_94 fX11_19_11 rfl rfl ?_
                    refine z_iload_n dX11_learn_97 rfl ?_
                    refine z_dup2 dX11_learn_98 rfl rfl ?_
                    refine zr_ald (a := _) dX11_learn_99 rfl (by decide) (by simp only [zrl]; omega) ?_
                    rw [hn]
                    refine z_iconst (w := 1) dX11_learn_100 (by decide) ?_
                    refine z_iadd dX11_learn_101 ?_
                    rw [nI_1]
                    refine zr_ast (a := _) dX11_learn_102 rfl (by decide) (by simp only [zrl]; omega) ?_
                    refine z_aload_n dX11_learn_103 rfl ?_
                    refine zr_get dX11_learn_104 fX11_22_11 rfl rfl ?_
                    refine z_sipush (w := 1500) dX11_learn_107 (by decide) ?_
                    refine z_iload_n dX11_learn_110 rfl ?_
                    refine z_imul dX11_learn_111 ?_
                    refine z_iload dX11_learn_112 rfl ?_
                    refine z_iadd dX11_learn_114 ?_
                    refine z_iload dX11_learn_115 rfl ?_
                    show zZ _ _ _ _ (zRh _ _ _ _ (va_up g1 4 (upd (g1 4) s (nI (T1.1 + 1))))) _ _ _
                    refine zr_ast (a := 1500 * s + T1.1) dX11_learn_117 (zx1500 s T1.1) (by decide) (by simp only [zrl]; omega) ?_
                    rw [zup_ne (by decide)]
                    refine z_aload_n dX11_learn_118 rfl ?_
                    refine zr_get dX11_learn_119 fX11_25_11 rfl rfl ?_
                    refine z_sipush (w := 1500) dX11_learn_122 (by decide) ?_
                    refine z_iload_n dX11_learn_125 rfl ?_
                    refine z_imul dX11_learn_126 ?_
                    refine z_iload dX11_learn_127 rfl ?_
                    refine z_iadd dX11_learn_129 ?_
                    refine z_iload_n dX11_learn_130 rfl ?_
                    refine zr_ast (a := 1500 * s + T1.1) dX11_learn_131 (zx1500 s T1.1) (by decide) (by simp only [zrl]; omega) ?_
                    rw [zup_ne (j := 6) (by decide), zup_ne (j := 6) (by decide)]
                    refine z_aload_n dX11_learn_132 rfl ?_
                    refine zr_get dX11_learn_133 fX11_28_11 rfl rfl ?_
                    refine z_sipush (w := 1500) dX11_learn_136 (by decide) ?_
                    refine z_iload_n dX11_learn_139 rfl ?_
                    refine z_imul dX11_learn_140 ?_
                    refine z_iload dX11_learn_141 rfl ?_
                    refine z_iadd dX11_learn_143 ?_
                    refine z_iconst (w := 0) dX11_learn_144 (by decide) ?_
                    refine zr_ast (a := 1500 * s + T1.1) dX11_learn_145 (zx1500 s T1.1) (by decide) (by simp only [zrl]; omega) ?_
                    rw [zup_ne (j := 7) (by decide), zup_ne (j := 7) (by decide), zup_ne (j := 7) (by decide)]
                    refine z_aload_n dX11_learn_146 rfl ?_
                    refine zr_get dX11_learn_147 fX11_28_11 rfl rfl ?_
                    refine z_sipush (w := 1500) dX11_learn_150 (by decide) ?_
                    refine z_iload_n dX11_learn_153 rfl ?_
                    refine z_imul dX11_learn_154 ?_
                    refine z_iload dX11_learn_155 rfl ?_
                    refine z_iadd dX11_learn_157 ?_
                    refine z_dup2 dX11_learn_158 rfl rfl ?_
                    refine zr_ald (a := 1500 * s + T1.1) dX11_learn_159 (zx1500 s T1.1) (by decide) (by simp only [zrl]; omega) ?_
                    rw [zng, zu_eq]
                    refine z_iconst (w := 1) dX11_learn_160 (by decide) ?_
                    refine z_iadd dX11_learn_161 ?_
                    refine zr_ast (a := 1500 * s + T1.1) dX11_learn_162 (zx1500 s T1.1) (by decide) (by simp only [zrl]; omega) ?_
                    rw [zng]
                    have hgi := ((((hg.nod (nI (T1.1 + 1))).par (c := T1.1) (by omega) (nI (ctx k))).oct (c := T1.1) (by omega) (nI b)).cnt (c := T1.1) (by omega) 0).cnt (c := T1.1) (by omega) (0 + 1)
                    rw [zup_ne (j := 5) (by decide), zup_ne (j := 6) (by decide), zup_ne (j := 6) (by decide), zng, zup_ne (j := 7) (by decide), zup_ne (j := 7) (by decide), zup_ne (j := 7) (by decide)] at hgi
                    have hMi := hM2.grow (g' := va_up (va_up (va_up (va_up (va_up g1 4 (upd (g1 4) s (nI (T1.1 + 1)))) 5 (upd (g1 5) (1500 * s + T1.1) (nI (ctx k)))) 6 (upd (g1 6) (1500 * s + T1.1) (nI b))) 7 (upd (g1 7) (1500 * s + T1.1) 0)) 7 (upd (upd (g1 7) (1500 * s + T1.1) 0) (1500 * s + T1.1) (0 + 1))) hcl1 hb (by omega) hno2 (by rw [zup_ne (by decide), zup_ne (by decide), zup_ne (by decide), zup_ne (by decide), zng, zu_eq]) (by rw [zup_ne (by decide), zup_ne (by decide), zup_ne (by decide), zng]) (by rw [zup_ne (by decide), zup_ne (by decide), zng]) ⟨by rw [zng, zu_eq]; rfl, fun j hj => by rw [zng, zu_ne hj, zu_ne hj]⟩ (by rw [zup_ne (by decide), zup_ne (by decide), zup_ne (by decide), zup_ne (by decide), zup_ne (by decide)]) (by rw [zup_ne (by decide), zup_ne (by decide), zup_ne (by decide), zup_ne (by decide), zup_ne (by decide)])
                    have hnd : (pre ++ T1.1 :: r).Nodup := by
                      have := hS.1.1 (ctx k) (by show ctx k < T1.1 + 1; omega)
                      rwa [zself] at this
                    have hmm : ∀ q, q ∈ pre ++ T1.1 :: r ↔ (1 ≤ q ∧ q < (zgT T1 (ctx k) b).1 ∧ (zgT T1 (ctx k) b).2.1 q = ctx k) := fun q => by
                      have := hS.1.2 (ctx k) q (by show ctx k < T1.1 + 1; omega)
                      rwa [zself] at this
                    refine z_aload_n dX11_learn_163 rfl ?_
                    refine z_iload_n dX11_learn_164 rfl ?_
                    refine z_iload dX11_learn_165 rfl ?_
                    refine zcall3 (zck_V (na := 2) (ci := 11) (R' := rX11_halve) (M' := mX11_halve) (fun _ _ _ _ => tvX11_halve) (by decide) kX11_halve lX11_133 (by decide +kernel) rfl) dX11_learn_167 (Nat.le_of_ble_eq_true rfl) (Nat.le_of_ble_eq_true rfl) (Nat.le_of_ble_eq_true rfl) ?_
                    refine ⟨h0, m, v1, _, s, ctx k, (zgT T1 (ctx k) b), lm, lat, (pre ++ T1.1 :: r), rfl, rfl, hMi, hs, (by omega), hnd, hmm, fun g2 hg2 hM3 => ?_⟩
                    refine z_iinc dX11_learn_170 rfl (Nat.le_of_ble_eq_true rfl) ?_
                    refine z_goto (t := 16) dX11_learn_173 (by decide) ?_
                    rw [show nI k + Int32.ofInt 1 = nI (k + 1) from nI_1 k]
                    refine zZ.keep [0, 1, 2, 3, 4, 5] ?_
                    exact ih (k + 1) v1 g2 _ _ (by omega) hv h25 (hgi.trans hg2) hM3 hS.1 (by rw [show 300 + (k + 1) = 300 + k + 1 by omega]; exact hS.2.2.1) (hE.trans hS.2.2.2) hL2
                · exact absurd ((nI_eq (by omega) (by omega)).mp q64) (by omega)
          · have hno2 : ∀ c, 1 ≤ c → c < T1.1 → T1.2.1 c = ctx k → T1.2.2.1 c ≠ b := fun c q1 q2 q3 => hrs.2 c ((hW.2 _ c hcl1).mpr ⟨q1, q2, q3⟩)
            refine z_aload_n dX11_learn_30 rfl ?_
            refine z_iload_n dX11_learn_31 rfl ?_
            refine z_iload dX11_learn_32 rfl ?_
            refine zcall3 (zck_V (na := 2) (ci := 11) (R' := rX11_context) (M' := mX11_context) (fun _ _ _ _ => tvX11_context) (by decide) kX11_context lX11_106 (by decide +kernel) rfl) dX11_learn_34 (Nat.le_of_ble_eq_true rfl) (Nat.le_of_ble_eq_true rfl) (Nat.le_of_ble_eq_true rfl) ?_
            refine ⟨h0, m, v1, g1, s, k, ctx k, T1, lm, lat, rfl, rfl, hM2, hs, (by omega), hw1, ?_⟩
            refine z_istore dX11_learn_37 (Nat.le_of_ble_eq_true rfl) ?_
            refine z_aload_n dX11_learn_39 rfl ?_
            refine z_iload_n dX11_learn_40 rfl ?_
            refine z_iload dX11_learn_41 rfl ?_
            refine z_iload_n dX11_learn_43 rfl ?_
            refine zcall4 (zck_V (na := 3) (ci := 11) (R' := rX11_child) (M' := mX11_child) (fun _ _ _ _ => tvX11_child) (by decide) kX11_child lX11_99 (by decide +kernel) rfl) dX11_learn_44 (Nat.le_of_ble_eq_true rfl) (Nat.le_of_ble_eq_true rfl) (Nat.le_of_ble_eq_true rfl) ?_
            refine ⟨h0, m, v1, g1, s, ctx k, b, T1, lm, lat, rfl, rfl, hM2, hs, (by omega), hb, (fun q q1 q2 q3 q4 => absurd q4 (hno2 q q1 q2 q3)), (fun _ => ?_)⟩
            refine z_istore dX11_learn_47 (Nat.le_of_ble_eq_true rfl) ?_
            refine z_iload dX11_learn_49 rfl ?_
            refine z_if_ge (t := 80) dX11_learn_51 (by decide) (fun q51 => ?_) (fun q51 => ?_)
            · exact absurd q51 (by decide)
            · refine z_aload_n dX11_learn_54 rfl ?_
              refine zr_get dX11_learn_55 fX11_19_11 rfl rfl ?_
              refine z_iload_n dX11_learn_58 rfl ?_
              refine zr_ald (a := _) dX11_learn_59 rfl (by decide) (by simp only [zrl]; omega) ?_
              rw [hn]
              refine z_aload_n dX11_learn_60 rfl ?_
              refine zr_get dX11_learn_61 fX11_75_11 rfl rfl ?_
              rw [e2]
              refine z_icmp_ne (t := 80) dX11_learn_64 (by decide) (fun q64 => ?_) (fun q64 => ?_)
              · exact absurd (by rw [hrs.1]) q64
              · refine z_aload_n dX11_learn_67 rfl ?_
                refine z_iload_n dX11_learn_68 rfl ?_
                refine zcall2 (zck_V (na := 1) (ci := 11) (R' := rX11_begin) (M' := mX11_begin) (fun _ _ _ _ => tvX11_begin) (by decide) kX11_begin lX11_78 (by decide +kernel) rfl) dX11_learn_69 (Nat.le_of_ble_eq_true rfl) (Nat.le_of_ble_eq_true rfl) (Nat.le_of_ble_eq_true rfl) ?_
                refine ⟨h0, m, v1, g1, s, rfl, rfl, hs, fun g2 hg2 hM3 => ?_⟩
                refine z_aload_n dX11_learn_72 rfl ?_
                refine z_iconst (w := 1) dX11_learn_73 (by decide) ?_
                refine zr_put dX11_learn_74 fX11_129_11 rfl (fun q => absurd q (by decide)) zset_25 (by decide) (Or.inr ⟨rfl, (by first | exact Or.inl rfl | exact Or.inr rfl)⟩) ?_
                refine z_goto (t := 170) dX11_learn_77 (by decide) ?_
                refine z_iinc dX11_learn_170 rfl (Nat.le_of_ble_eq_true rfl) ?_
                refine z_goto (t := 16) dX11_learn_173 (by decide) ?_
                refine z_iload dX11_learn_16 rfl ?_
                refine z_iload dX11_learn_18 rfl ?_
                refine z_icmp_gt (t := 176) dX11_learn_20 (by decide) (fun q20 => ?_) (fun q20 => ?_)
                · refine z_aload_n dX11_learn_176 rfl ?_
                  refine zr_get dX11_learn_177 fX11_129_11 rfl rfl ?_
                  refine z_if_ne (t := 275) dX11_learn_180 (by decide) (fun q180 => ?_) (fun q180 => ?_)
                  · refine z_vreturn dX11_learn_275 rfl (Nat.le_of_ble_eq_true rfl) (Nat.le_of_ble_eq_true rfl) ?_
                    exact hK2 _ g2 hRn (hv.up (by decide) _) zu_eq (hg.trans hg2) hM3
                  · exact absurd q180 (by rw [zu_eq]; decide)
                · refine z_aload_n dX11_learn_23 rfl ?_
                  refine zr_get dX11_learn_24 fX11_129_11 rfl rfl ?_
                  refine z_if_ne (t := 176) dX11_learn_27 (by decide) (fun q27 => ?_) (fun q27 => ?_)
                  · refine z_aload_n dX11_learn_176 rfl ?_
                    refine zr_get dX11_learn_177 fX11_129_11 rfl rfl ?_
                    refine z_if_ne (t := 275) dX11_learn_180 (by decide) (fun q180 => ?_) (fun q180 => ?_)
                    · refine z_vreturn dX11_learn_275 rfl (Nat.le_of_ble_eq_true rfl) (Nat.le_of_ble_eq_true rfl) ?_
                      exact hK2 _ g2 hRn (hv.up (by decide) _) zu_eq (hg.trans hg2) hM3
                    · exact absurd q180 (by rw [zu_eq]; decide)
                  · exact absurd q27 (by rw [zu_eq]; decide)
  refine z_aload_n dX11_learn_0 rfl ?_
  refine z_iconst (w := 0) dX11_learn_1 (by decide) ?_
  refine zr_put dX11_learn_2 fX11_129_11 rfl (fun q => absurd q (by decide)) zset_25 (by decide) (Or.inr ⟨rfl, (by first | exact Or.inl rfl | exact Or.inr rfl)⟩) ?_
  refine z_aload_n dX11_learn_5 rfl ?_
  refine zr_get dX11_learn_6 fX11_31_11 rfl rfl ?_
  refine z_iload_n dX11_learn_9 rfl ?_
  refine zr_ald (a := _) dX11_learn_10 rfl (by decide) (by simp only [zrl]; omega) ?_
  rw [hlm0]
  refine z_istore dX11_learn_11 (Nat.le_of_ble_eq_true rfl) ?_
  refine z_iload_n dX11_learn_13 rfl ?_
  refine z_istore dX11_learn_14 (Nat.le_of_ble_eq_true rfl) ?_
  exact loop (lm + 1 - lo) lo _ g T ch (by omega) (zfv.refl.up (by decide) _) zu_eq zfm.refl hM hTw (fun i i1 i2 => by have := hcb i i1 i2; omega) zExt.refl hLo

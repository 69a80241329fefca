/-! the reference: one slot changes -/
def zfm (s : Nat) (g g' : Nat → Nat → Int32) : Prop := zfg [4, 5, 6, 7, 8, 9] g g' ∧ (∀ i, i ≠ s → g' 4 i = g 4 i ∧ g' 8 i = g 8 i) ∧ (∀ i, ¬ (1500 * s ≤ i ∧ i < 1500 * s + 1500) → g' 5 i = g 5 i ∧ g' 6 i = g 6 i ∧ g' 7 i = g 7 i) ∧ ∀ i, ¬ (4 * s ≤ i ∧ i < 4 * s + 4) → g' 9 i = g 9 i
theorem zfm.refl {s : Nat} {g : Nat → Nat → Int32} : zfm s g g := ⟨zfg.refl, fun _ _ => ⟨rfl, rfl⟩, fun _ _ => ⟨rfl, rfl, rfl⟩, fun _ _ => rfl⟩
theorem zfm.trans {s : Nat} {g g1 g2 : Nat → Nat → Int32} (h : zfm s g g1) (h2 : zfm s g1 g2) : zfm s g g2 :=
  ⟨h.1.trans h2.1, fun i hi => ⟨(h2.2.1 i hi).1.trans (h.2.1 i hi).1, (h2.2.1 i hi).2.trans (h.2.1 i hi).2⟩, fun i hi => ⟨(h2.2.2.1 i hi).1.trans (h.2.2.1 i hi).1, (h2.2.2.1 i hi).2.1.trans (h.2.2.1 i hi).2.1, (h2.2.2.1 i hi).2.2.trans (h.2.2.1 i hi).2.2⟩, fun i hi => (h2.2.2.2 i hi).trans (h.2.2.2 i hi)⟩
theorem zfm.nod {s : Nat} {g g1 : Nat → Nat → Int32} (h : zfm s g g1) (x : Int32) : zfm s g (va_up g1 4 (upd (g1 4) s x)) :=
  ⟨h.1.up (by decide) _, fun i hi => ⟨by rw [zng, zu_ne hi]; exact (h.2.1 i hi).1, by rw [zup_ne (by decide)]; exact (h.2.1 i hi).2⟩, fun i hi => ⟨by rw [zup_ne (by decide)]; exact (h.2.2.1 i hi).1, by rw [zup_ne (by decide)]; exact (h.2.2.1 i hi).2.1, by rw [zup_ne (by decide)]; exact (h.2.2.1 i hi).2.2⟩, fun i hi => by rw [zup_ne (by decide)]; exact h.2.2.2 i hi⟩
theorem zfm.lts {s : Nat} {g g1 : Nat → Nat → Int32} (h : zfm s g g1) (x : Int32) : zfm s g (va_up g1 8 (upd (g1 8) s x)) :=
  ⟨h.1.up (by decide) _, fun i hi => ⟨by rw [zup_ne (by decide)]; exact (h.2.1 i hi).1, by rw [zng, zu_ne hi]; exact (h.2.1 i hi).2⟩, fun i hi => ⟨by rw [zup_ne (by decide)]; exact (h.2.2.1 i hi).1, by rw [zup_ne (by decide)]; exact (h.2.2.1 i hi).2.1, by rw [zup_ne (by decide)]; exact (h.2.2.1 i hi).2.2⟩, fun i hi => by rw [zup_ne (by decide)]; exact h.2.2.2 i hi⟩
theorem zfm.par {s c : Nat} {g g1 : Nat → Nat → Int32} (h : zfm s g g1) (hc : c < 1500) (x : Int32) : zfm s g (va_up g1 5 (upd (g1 5) (1500 * s + c) x)) :=
  ⟨h.1.up (by decide) _, fun i hi => ⟨by rw [zup_ne (by decide)]; exact (h.2.1 i hi).1, by rw [zup_ne (by decide)]; exact (h.2.1 i hi).2⟩, fun i hi => ⟨by rw [zng, zu_ne (by omega)]; exact (h.2.2.1 i hi).1, by rw [zup_ne (by decide)]; exact (h.2.2.1 i hi).2.1, by rw [zup_ne (by decide)]; exact (h.2.2.1 i hi).2.2⟩, fun i hi => by rw [zup_ne (by decide)]; exact h.2.2.2 i hi⟩
theorem zfm.oct {s c : Nat} {g g1 : Nat → Nat → Int32} (h : zfm s g g1) (hc : c < 1500) (x : Int32) : zfm s g (va_up g1 6 (upd (g1 6) (1500 * s + c) x)) :=
  ⟨h.1.up (by decide) _, fun i hi => ⟨by rw [zup_ne (by decide)]; exact (h.2.1 i hi).1, by rw [zup_ne (by decide)]; exact (h.2.1 i hi).2⟩, fun i hi => ⟨by rw [zup_ne (by decide)]; exact (h.2.2.1 i hi).1, by rw [zng, zu_ne (by omega)]; exact (h.2.2.1 i hi).2.1, by rw [zup_ne (by decide)]; exact (h.2.2.1 i hi).2.2⟩, fun i hi => by rw [zup_ne (by decide)]; exact h.2.2.2 i hi⟩
theorem zfm.cnt {s c : Nat} {g g1 : Nat → Nat → Int32} (h : zfm s g g1) (hc : c < 1500) (x : Int32) : zfm s g (va_up g1 7 (upd (g1 7) (1500 * s + c) x)) :=
  ⟨h.1.up (by decide) _, fun i hi => ⟨by rw [zup_ne (by decide)]; exact (h.2.1 i hi).1, by rw [zup_ne (by decide)]; exact (h.2.1 i hi).2⟩, fun i hi => ⟨by rw [zup_ne (by decide)]; exact (h.2.2.1 i hi).1, by rw [zup_ne (by decide)]; exact (h.2.2.1 i hi).2.1, by rw [zng, zu_ne (by omega)]; exact (h.2.2.1 i hi).2.2⟩, fun i hi => by rw [zup_ne (by decide)]; exact h.2.2.2 i hi⟩
theorem zfm.lat {s c : Nat} {g g1 : Nat → Nat → Int32} (h : zfm s g g1) (hc : c < 4) (x : Int32) : zfm s g (va_up g1 9 (upd (g1 9) (4 * s + c) x)) :=
  ⟨h.1.up (by decide) _, fun i hi => ⟨by rw [zup_ne (by decide)]; exact (h.2.1 i hi).1, by rw [zup_ne (by decide)]; exact (h.2.1 i hi).2⟩, fun i hi => ⟨by rw [zup_ne (by decide)]; exact (h.2.2.1 i hi).1, by rw [zup_ne (by decide)]; exact (h.2.2.1 i hi).2.1, by rw [zup_ne (by decide)]; exact (h.2.2.1 i hi).2.2⟩, fun i hi => by rw [zng, zu_ne (by omega)]; exact h.2.2.2 i hi⟩
theorem zRm.other {g g' : Nat → Nat → Int32} {s t : Nat} {T : zTree} {lm : Nat} {lat : Nat → Nat} (h : zfm s g g') (hst : t ≠ s) (H : zRm g t T lm lat) : zRm g' t T lm lat := by
  obtain ⟨hn, hlm, hP, hB, hC, hLt, hl4, hT⟩ := H
  have h2 := hT.2.1
  refine ⟨(h.2.1 t hst).1.trans hn, (h.2.1 t hst).2.trans hlm, fun i hi => ?_, fun i hi => ?_, fun i hi => ?_, fun i hi => ?_, hl4, hT⟩
  · rw [(h.2.2.1 _ (by omega)).1]; exact hP i hi
  · rw [(h.2.2.1 _ (by omega)).2.1]; exact hB i hi
  · rw [(h.2.2.1 _ (by omega)).2.2]; exact hC i hi
  · rw [h.2.2.2 _ (by omega)]; exact hLt i hi
/-- rows that don't hold models change -/
theorem zRm.keep {g g' : Nat → Nat → Int32} {S : List Nat} {t : Nat} {T : zTree} {lm : Nat} {lat : Nat → Nat} (h : zfg S g g') (hS : (S.all fun j => decide (j < 4 ∨ 9 < j)) = true) (H : zRm g t T lm lat) : zRm g' t T lm lat := by
  have e : ∀ j, 4 ≤ j → j ≤ 9 → g' j = g j := fun j h1 h2 => h j (fun z => by
    have := List.all_eq_true.mp hS j z
    simp only [decide_eq_true_eq] at this
    omega)
  unfold zRm
  rw [e 4 (by decide) (by decide), e 5 (by decide) (by decide), e 6 (by decide) (by decide), e 7 (by decide) (by decide), e 8 (by decide) (by decide), e 9 (by decide) (by decide)]
  exact H
theorem zRm.same {g : Nat → Nat → Int32} {t : Nat} {T T' : zTree} {lm : Nat} {lat lat' : Nat → Nat} (h1 : T'.1 = T.1) (h2 : ∀ i, i < T.1 → T'.2.1 i = T.2.1 i ∧ T'.2.2.1 i = T.2.2.1 i ∧ T'.2.2.2 i = T.2.2.2 i) (h3 : ∀ i, i < lm → lat' i = lat i) (H : zRm g t T lm lat) : zRm g t T' lm lat' := by
  obtain ⟨hn, hlm, hP, hB, hC, hLt, hl4, q1, q2, q3, q4⟩ := H
  refine ⟨by rw [h1]; exact hn, hlm, fun i hi => ?_, fun i hi => ?_, fun i hi => ?_, fun i hi => ?_, hl4, by rw [h1]; exact q1, by rw [h1]; exact q2, fun i e1 e2 => ?_, fun c d c1 c2 d1 d2 e1 e2 => ?_⟩
  · rw [h1] at hi; rw [hP i hi, zm, zm, (h2 i hi).1]
  · rw [h1] at hi; rw [hB i hi, zm, zm, (h2 i hi).2.1]
  · rw [h1] at hi; rw [hC i hi, (h2 i hi).2.2]
  · rw [h3 i hi]; exact hLt i hi
  · rw [h1] at e2; rw [(h2 i e2).1, (h2 i e2).2.1, (h2 i e2).2.2]; exact q3 i e1 e2
  · rw [h1] at c2 d2
    rw [(h2 c c2).1, (h2 d d2).1] at e1
    rw [(h2 c c2).2.1, (h2 d d2).2.1] at e2
    exact q4 c d c1 c2 d1 d2 e1 e2
abbrev rX11_begin : Room := ⟨0, 0, 0, 0⟩
def SX11_begin (G : zC) : zS := fun as h n K => ∃ (h0 : zH) (m : Nat) (v : Nat → Int32) (g : Nat → Nat → Int32) (s : Nat), as = [.ref m, .int (nI s)] ∧ h = zRh G h0 m v g ∧ s ≤ 6 ∧ ∀ g', zfm s g g' → (∀ par byt cnt lat, zRm g' s (1, par, byt, cnt) 0 lat) → K none (zRh G h0 m v g') n
set_option maxRecDepth 100000 in
theorem tvX11_begin {G : zC} {as : List Value} {h : zH} {n : Nat} {K : zP} (hs : SX11_begin G as h n K) : (∃ b fs r, as = .ref b :: r ∧ h b = some (.inr (11, fs))) ∧ zCt G rX11_begin mX11_begin as h n K := by
  obtain ⟨h0, m, v, g, s, rfl, rfl, hs, hK⟩ := hs
  refine ⟨⟨_, _, _, rfl, zRh_o⟩, zCt.of (by decide) (Nat.le_of_ble_eq_true rfl) ?_⟩
  have e15 : (1500 : Int32) * nI s = nI (1500 * s + 0) := by rw [← zx1500 s 0]; simp [nI_0]
  refine z_aload_n dX11_begin_0 rfl ?_
  refine zr_get dX11_begin_1 fX11_19_11 rfl rfl ?_
  refine z_iload_n dX11_begin_4 rfl ?_
  refine z_iconst (w := 1) dX11_begin_5 (by decide) ?_
  refine zr_ast (a := _) dX11_begin_6 rfl (by decide) (by simp only [zrl]; omega) ?_
  refine z_aload_n dX11_begin_7 rfl ?_
  refine zr_get dX11_begin_8 fX11_31_11 rfl rfl ?_
  refine z_iload_n dX11_begin_11 rfl ?_
  refine z_iconst (w := 0) dX11_begin_12 (by decide) ?_
  refine zr_ast (a := _) dX11_begin_13 rfl (by decide) (by simp only [zrl]; omega) ?_
  refine z_aload_n dX11_begin_14 rfl ?_
  refine zr_get dX11_begin_15 fX11_22_11 rfl rfl ?_
  refine z_sipush (w := 1500) dX11_begin_18 (by decide) ?_
  refine z_iload_n dX11_begin_21 rfl ?_
  refine z_imul dX11_begin_22 ?_
  refine z_iconst (w := -1) dX11_begin_23 (by decide) ?_
  refine zr_ast (a := 1500 * s + 0) dX11_begin_24 e15 (by decide) (by simp only [zrl]; omega) ?_
  refine z_aload_n dX11_begin_25 rfl ?_
  refine zr_get dX11_begin_26 fX11_25_11 rfl rfl ?_
  refine z_sipush (w := 1500) dX11_begin_29 (by decide) ?_
  refine z_iload_n dX11_begin_32 rfl ?_
  refine z_imul dX11_begin_33 ?_
  refine z_iconst (w := -1) dX11_begin_34 (by decide) ?_
  refine zr_ast (a := 1500 * s + 0) dX11_begin_35 e15 (by decide) (by simp only [zrl]; omega) ?_
  refine z_aload_n dX11_begin_36 rfl ?_
  refine zr_get dX11_begin_37 fX11_28_11 rfl rfl ?_
  refine z_sipush (w := 1500) dX11_begin_40 (by decide) ?_
  refine z_iload_n dX11_begin_43 rfl ?_
  refine z_imul dX11_begin_44 ?_
  refine z_iconst (w := 0) dX11_begin_45 (by decide) ?_
  refine zr_ast (a := 1500 * s + 0) dX11_begin_46 e15 (by decide) (by simp only [zrl]; omega) ?_
  refine z_vreturn dX11_begin_47 rfl (Nat.le_of_ble_eq_true rfl) (Nat.le_of_ble_eq_true rfl) ?_
  refine hK _ (((((zfm.refl.nod _).lts _).par (c := 0) (by decide) _).oct (c := 0) (by decide) _).cnt (c := 0) (by decide) _) (fun par byt cnt lat => ⟨?_, ?_, fun i hi => ?_, fun i hi => ?_, fun i hi => ?_, fun i hi => ?_, by decide, Nat.le_refl 1, (show 1 ≤ 1500 by decide), fun i h1 h2 => ?_, fun c d h1 h2 => ?_⟩)
  · rw [zup_ne (by decide), zup_ne (by decide), zup_ne (by decide), zup_ne (by decide), zng, zu_eq]; rfl
  · rw [zup_ne (by decide), zup_ne (by decide), zup_ne (by decide), zng, zu_eq]; rfl
  · obtain rfl : i = 0 := by dsimp only at hi; omega
    rw [zup_ne (by decide), zup_ne (by decide), zng, zu_eq]; rfl
  · obtain rfl : i = 0 := by dsimp only at hi; omega
    rw [zup_ne (by decide), zng, zu_eq]; rfl
  · obtain rfl : i = 0 := by dsimp only at hi; omega
    rw [zng, zu_eq]; rfl
  · omega
  · dsimp only at h2; omega
  · dsimp only at h2; omega
abbrev rX11_copy : Room := ⟨0, 0, 0, 0⟩
def SX11_copy (G : zC) : zS := fun as h n K => ∃ (h0 : zH) (m : Nat) (v : Nat → Int32) (g : Nat → Nat → Int32) (s t : Nat) (T : zTree) (lm : Nat) (lat : Nat → Nat), as = [.ref m, .int (nI s), .int (nI t)] ∧ h = zRh G h0 m v g ∧ zRm g s T lm lat ∧ s ≤ 6 ∧ t ≤ 6 ∧ s ≠ t ∧ ∀ g', zfm t g g' → zRm g' t T lm lat → K none (zRh G h0 m v g') n
set_option maxRecDepth 100000 in
theorem tvX11_copy {G : zC} {as : List Value} {h : zH} {n : Nat} {K : zP} (hs : SX11_copy G as h n K) : (∃ b fs r, as = .ref b :: r ∧ h b = some (.inr (11, fs))) ∧ zCt G rX11_copy mX11_copy as h n K := by
  obtain ⟨h0, m, v, g, s, t, T, lm, lat, rfl, rfl, hM, hs, ht, hst, hK⟩ := hs
  refine ⟨⟨_, _, _, rfl, zRh_o⟩, zCt.of (by decide) (Nat.le_of_ble_eq_true rfl) ?_⟩
  have hM0 := hM
  obtain ⟨hn, hlm, hP, hB, hC, hLt, hl4, hT1, hT2, hT3, hT4⟩ := hM
  have loop2 : ∀ (d i : Nat) (g1 : Nat → Nat → Int32), lm - i < d → i ≤ lm → zfm t g g1 → g1 4 t = nI T.1 → g1 8 t = nI lm → (∀ j, j < T.1 → g1 5 (1500 * t + j) = zm T.2.1 j ∧ g1 6 (1500 * t + j) = zm T.2.2.1 j ∧ g1 7 (1500 * t + j) = if j = 0 then 0 else nI (T.2.2.2 j)) → (∀ j, j < i → g1 9 (4 * t + j) = nI (lat j)) → zZ (zXm G rX11_copy mX11_copy [.ref m, .int (nI s), .int (nI t)] (zRh G h0 m v g) n K) 116 [(0, .ref m), (1, .int (nI s)), (2, .int (nI t)), (3, .int (nI i))] [] (zRh G h0 m v g1) n 0 0 := by
    intro d
    induction d with
    | zero => intro i g1 hd; omega
    | succ d ih =>
      intro i g1 hd hi hg h4 h8 hr hl
      refine z_iload_n dX11_copy_116 rfl ?_
      refine z_aload_n dX11_copy_117 rfl ?_
      refine zr_get dX11_copy_118 fX11_31_11 rfl rfl ?_
      refine z_iload_n dX11_copy_121 rfl ?_
      refine zr_ald (a := _) dX11_copy_122 rfl (by decide) (by simp only [zrl]; omega) ?_
      rw [(hg.2.1 s hst).2, hlm]
      refine z_icmp_ge (t := 152) dX11_copy_123 (by decide) (fun q123 => ?_) (fun q123 => ?_)
      · have hie : i = lm := by have := (nI_leI (by omega) (by omega)).mp q123; omega
        subst hie
        refine z_vreturn dX11_copy_152 rfl (Nat.le_of_ble_eq_true rfl) (Nat.le_of_ble_eq_true rfl) ?_
        exact hK g1 hg ⟨h4, h8, fun j hj => (hr j hj).1, fun j hj => (hr j hj).2.1, fun j hj => (hr j hj).2.2, fun j hj => ⟨hl j hj, (hLt j hj).2⟩, hl4, hT1, hT2, hT3, hT4⟩
      · have hil : i < lm := by have := mt (nI_leI (by omega) (by omega)).mpr q123; omega
        refine z_aload_n dX11_copy_126 rfl ?_
        refine zr_get dX11_copy_127 fX11_34_11 rfl rfl ?_
        refine z_iconst (w := 4) dX11_copy_130 (by decide) ?_
        refine z_iload_n dX11_copy_131 rfl ?_
        refine z_imul dX11_copy_132 ?_
        refine z_iload_n dX11_copy_133 rfl ?_
        refine z_iadd dX11_copy_134 ?_
        refine z_aload_n dX11_copy_135 rfl ?_
        refine zr_get dX11_copy_136 fX11_34_11 rfl rfl ?_
        refine z_iconst (w := 4) dX11_copy_139 (by decide) ?_
        refine z_iload_n dX11_copy_140 rfl ?_
        refine z_imul dX11_copy_141 ?_
        refine z_iload_n dX11_copy_142 rfl ?_
        refine z_iadd dX11_copy_143 ?_
        refine zr_ald (a := 4 * s + i) dX11_copy_144 (zx4 s i) (by decide) (by simp only [zrl]; omega) ?_
        rw [hg.2.2.2 _ (by omega), (hLt i (by omega)).1]
        refine zr_ast (a := 4 * t + i) dX11_copy_145 (zx4 t i) (by decide) (by simp only [zrl]; omega) ?_
        refine z_iinc dX11_copy_146 rfl (Nat.le_of_ble_eq_true rfl) ?_
        refine z_goto (t := 116) dX11_copy_149 (by decide) ?_
        rw [show nI i + Int32.ofInt 1 = nI (i + 1) from nI_1 i]
        refine ih (i + 1) _ (by omega) (by omega) (hg.lat (by omega) _) (by rw [zup_ne (by decide)]; exact h4) (by rw [zup_ne (by decide)]; exact h8) (fun j hj => by rw [zup_ne (by decide), zup_ne (by decide), zup_ne (by decide)]; exact hr j hj) (fun j hj => ?_)
        rw [zng]
        by_cases e : j = i
        · subst e; exact zu_eq
        · rw [zu_ne (by omega)]; exact hl j (by omega)
  have loop : ∀ (d i : Nat) (g1 : Nat → Nat → Int32), T.1 - i < d → i ≤ T.1 → zfm t g g1 → g1 4 t = nI T.1 → g1 8 t = nI lm → (∀ j, j < i → g1 5 (1500 * t + j) = zm T.2.1 j ∧ g1 6 (1500 * t + j) = zm T.2.2.1 j ∧ g1 7 (1500 * t + j) = if j = 0 then 0 else nI (T.2.2.2 j)) → zZ (zXm G rX11_copy mX11_copy [.ref m, .int (nI s), .int (nI t)] (zRh G h0 m v g) n K) 26 [(0, .ref m), (1, .int (nI s)), (2, .int (nI t)), (3, .int (nI i))] [] (zRh G h0 m v g1) n 0 0 := by
    intro d
    induction d with
    | zero => intro i g1 hd; omega
    | succ d ih =>
      intro i g1 hd hi hg h4 h8 hr
      refine z_iload_n dX11_copy_26 rfl ?_
      refine z_aload_n dX11_copy_27 rfl ?_
      refine zr_get dX11_copy_28 fX11_19_11 rfl rfl ?_
      refine z_iload_n dX11_copy_31 rfl ?_
      refine zr_ald (a := _) dX11_copy_32 rfl (by decide) (by simp only [zrl]; omega) ?_
      rw [(hg.2.1 s hst).1, hn]
      refine z_icmp_ge (t := 114) dX11_copy_33 (by decide) (fun q33 => ?_) (fun q33 => ?_)
      · have hie : i = T.1 := by have := (nI_leI (by omega) (by omega)).mp q33; omega
        subst hie
        refine z_iconst (w := 0) dX11_copy_114 (by decide) ?_
        refine z_istore_n dX11_copy_115 (Nat.le_of_ble_eq_true rfl) ?_
        exact loop2 (lm + 1) 0 g1 (by omega) (by omega) hg h4 h8 hr (fun j hj => by omega)
      · have hil : i < T.1 := by have := mt (nI_leI (by omega) (by omega)).mpr q33; omega
        refine z_aload_n dX11_copy_36 rfl ?_
        refine zr_get dX11_copy_37 fX11_22_11 rfl rfl ?_
        refine z_sipush (w := 1500) dX11_copy_40 (by decide) ?_
        refine z_iload_n dX11_copy_43 rfl ?_
        refine z_imul dX11_copy_44 ?_
        refine z_iload_n dX11_copy_45 rfl ?_
        refine z_iadd dX11_copy_46 ?_
        refine z_aload_n dX11_copy_47 rfl ?_
        refine zr_get dX11_copy_48 fX11_22_11 rfl rfl ?_
        refine z_sipush (w := 1500) dX11_copy_51 (by decide) ?_
        refine z_iload_n dX11_copy_54 rfl ?_
        refine z_imul dX11_copy_55 ?_
        refine z_iload_n dX11_copy_56 rfl ?_
        refine z_iadd dX11_copy_57 ?_
        refine zr_ald (a := 1500 * s + i) dX11_copy_58 (zx1500 s i) (by decide) (by simp only [zrl]; omega) ?_
        rw [(hg.2.2.1 _ (by omega)).1, hP i hil]
        refine zr_ast (a := 1500 * t + i) dX11_copy_59 (zx1500 t i) (by decide) (by simp only [zrl]; omega) ?_
        refine z_aload_n dX11_copy_60 rfl ?_
        refine zr_get dX11_copy_61 fX11_25_11 rfl rfl ?_
        refine z_sipush (w := 1500) dX11_copy_64 (by decide) ?_
        refine z_iload_n dX11_copy_67 rfl ?_
        refine z_imul dX11_copy_68 ?_
        refine z_iload_n dX11_copy_69 rfl ?_
        refine z_iadd dX11_copy_70 ?_
        refine z_aload_n dX11_copy_71 rfl ?_
        refine zr_get dX11_copy_72 fX11_25_11 rfl rfl ?_
        refine z_sipush (w := 1500) dX11_copy_75 (by decide) ?_
        refine z_iload_n dX11_copy_78 rfl ?_
        refine z_imul dX11_copy_79 ?_
        refine z_iload_n dX11_copy_80 rfl ?_
        refine z_iadd dX11_copy_81 ?_
        refine zr_ald (a := 1500 * s + i) dX11_copy_82 (zx1500 s i) (by decide) (by simp only [zrl]; omega) ?_
        rw [zup_ne (by decide), (hg.2.2.1 _ (by omega)).2.1, hB i hil]
        refine zr_ast (a := 1500 * t + i) dX11_copy_83 (zx1500 t i) (by decide) (by simp only [zrl]; omega) ?_
        refine z_aload_n dX11_copy_84 rfl ?_
        refine zr_get dX11_copy_85 fX11_28_11 rfl rfl ?_
        refine z_sipush (w := 1500) dX11_copy_88 (by decide) ?_
        refine z_iload_n dX11_copy_91 rfl ?_
        refine z_imul dX11_copy_92 ?_
        refine z_iload_n dX11_copy_93 rfl ?_
        refine z_iadd dX11_copy_94 ?_
        refine z_aload_n dX11_copy_95 rfl ?_
        refine zr_get dX11_copy_96 fX11_28_11 rfl rfl ?_
        refine z_sipush (w := 1500) dX11_copy_99 (by decide) ?_
        refine z_iload_n dX11_copy_102 rfl ?_
        refine z_imul dX11_copy_103 ?_
        refine z_iload_n dX11_copy_104 rfl ?_
        refine z_iadd dX11_copy_105 ?_
        refine zr_ald (a := 1500 * s + i) dX11_copy_106 (zx1500 s i) (by decide) (by simp only [zrl]; omega) ?_
        rw [zup_ne (by decide), zup_ne (by decide), (hg.2.2.1 _ (by omega)).2.2, hC i hil]
        refine zr_ast (a := 1500 * t + i) dX11_copy_107 (zx1500 t i) (by decide) (by simp only [zrl]; omega) ?_
        refine z_iinc dX11_copy_108 rfl (Nat.le_of_ble_eq_true rfl) ?_
        refine z_goto (t := 26) dX11_copy_111 (by decide) ?_
        rw [show nI i + Int32.ofInt 1 = nI (i + 1) from nI_1 i]
        refine ih (i + 1) _ (by omega) (by omega) (((hg.par (by omega) _).oct (by omega) _).cnt (by omega) _) (by rw [zup_ne (by decide), zup_ne (by decide), zup_ne (by decide)]; exact h4) (by rw [zup_ne (by decide), zup_ne (by decide), zup_ne (by decide)]; exact h8) (fun j hj => ?_)
        refine ⟨?_, ?_, ?_⟩
        · rw [zup_ne (by decide), zup_ne (by decide), zng]
          by_cases e : j = i
          · subst e; exact zu_eq
          · rw [zu_ne (by omega)]; exact (hr j (by omega)).1
        · rw [zup_ne (by decide), zng, zup_ne (by decide)]
          by_cases e : j = i
          · subst e; exact zu_eq
          · rw [zu_ne (by omega)]; exact (hr j (by omega)).2.1
        · rw [zng, zup_ne (by decide), zup_ne (by decide)]
          by_cases e : j = i
          · subst e; exact zu_eq
          · rw [zu_ne (by omega)]; exact (hr j (by omega)).2.2
  refine z_aload_n dX11_copy_0 rfl ?_
  refine zr_get dX11_copy_1 fX11_19_11 rfl rfl ?_
  refine z_iload_n dX11_copy_4 rfl ?_
  refine z_aload_n dX11_copy_5 rfl ?_
  refine zr_get dX11_copy_6 fX11_19_11 rfl rfl ?_
  refine z_iload_n dX11_copy_9 rfl ?_
  refine zr_ald (a := _) dX11_copy_10 rfl (by decide) (by simp only [zrl]; omega) ?_
  rw [hn]
  refine zr_ast (a := _) dX11_copy_11 rfl (by decide) (by simp only [zrl]; omega) ?_
  refine z_aload_n dX11_copy_12 rfl ?_
  refine zr_get dX11_copy_13 fX11_31_11 rfl rfl ?_
  refine z_iload_n dX11_copy_16 rfl ?_
  refine z_aload_n dX11_copy_17 rfl ?_
  refine zr_get dX11_copy_18 fX11_31_11 rfl rfl ?_
  refine z_iload_n dX11_copy_21 rfl ?_
  refine zr_ald (a := _) dX11_copy_22 rfl (by decide) (by simp only [zrl]; omega) ?_
  rw [zup_ne (by decide), hlm]
  refine zr_ast (a := _) dX11_copy_23 rfl (by decide) (by simp only [zrl]; omega) ?_
  refine z_iconst (w := 0) dX11_copy_24 (by decide) ?_
  refine z_istore_n dX11_copy_25 (Nat.le_of_ble_eq_true rfl) ?_
  refine loop (T.1 + 1) 0 _ (by omega) (by omega) ((zfm.refl.nod _).lts _) ?_ ?_ (fun j hj => by omega)
  · rw [zup_ne (by decide), zng, zu_eq]
  · rw [zng, zu_eq]
theorem zdiv2 {a : Nat} (h : a < 2147483648) : nI a / 2 = nI (a / 2) := pk_div (d := 2) (by omega) (by omega) (by decide)
abbrev rX11_halve : Room := ⟨0, 0, 0, 0⟩
def SX11_halve (G : zC) : zS := fun as h n K => ∃ (h0 : zH) (m : Nat) (v : Nat → Int32) (g : Nat → Nat → Int32) (s p : Nat) (T : zTree) (lm : Nat) (lat : Nat → Nat) (l : List Nat), as = [.ref m, .int (nI s), .int (nI p)] ∧ h = zRh G h0 m v g ∧ zRm g s T lm lat ∧ s ≤ 6 ∧ p < 1500 ∧ l.Nodup ∧ (∀ c, c ∈ l ↔ (1 ≤ c ∧ c < T.1 ∧ T.2.1 c = p)) ∧ ∀ g', zfm s g g' → zRm g' s (zlsT T l) lm lat → K none (zRh G h0 m v g') n
set_option maxRecDepth 100000 in
theorem tvX11_halve {G : zC} {as : List Value} {h : zH} {n : Nat} {K : zP} (hs : SX11_halve G as h n K) : (∃ b fs r, as = .ref b :: r ∧ h b = some (.inr (11, fs))) ∧ zCt G rX11_halve mX11_halve as h n K := by
  obtain ⟨h0, m, v, g, s, p, T, lm, lat, l, rfl, rfl, hM, hs, hp, hl1, hl2, hK⟩ := hs
  refine ⟨⟨_, _, _, rfl, zRh_o⟩, zCt.of (by decide) (Nat.le_of_ble_eq_true rfl) ?_⟩
  have hM0 := hM
  obtain ⟨hn, hlm, hP, hB, hC, hLt, hl4, hT1, hT2, hT3, hT4⟩ := hM
  have hsum : zsum T.2.2.2 l = zsm (fun c => if 1 ≤ c ∧ T.2.1 c = p then T.2.2.2 c else 0) T.1 := by
    rw [zsm_list (n := T.1) hl1 (fun c hc => ((hl2 c).mp hc).2.1)]
    refine zsm_congr (fun c hc => ?_)
    by_cases h : c ∈ l
    · rw [if_pos h, if_pos ⟨((hl2 c).mp h).1, ((hl2 c).mp h).2.2⟩]
    · rw [if_neg h, if_neg (fun z => h ((hl2 c).mpr ⟨z.1, hc, z.2⟩))]
  have hsb : ∀ i, i ≤ T.1 → zsm (fun c => if 1 ≤ c ∧ T.2.1 c = p then T.2.2.2 c else 0) i ≤ 1500000 := fun i hi => by
    refine Nat.le_trans (zsm_le (g := fun _ => 1000) (fun c hc => ?_)) ?_
    · split
      · rename_i h; exact (hT3 c h.1 (by omega)).2.2.2
      · omega
    · rw [zsm_const]; omega
  have loop2 : 200 < zsum T.2.2.2 l → ∀ (d i : Nat) (g1 : Nat → Nat → Int32), T.1 - i < d → 1 ≤ i → i ≤ T.1 → zfm s g g1 → g1 4 s = nI T.1 → g1 8 s = nI lm → g1 5 = g 5 → g1 6 = g 6 → g1 9 = g 9 → (∀ j, j < T.1 → g1 7 (1500 * s + j) = if j = 0 then 0 else nI (if j < i then zhalf T.2.2.2 l j else T.2.2.2 j)) → zZ (zXm G rX11_halve mX11_halve [.ref m, .int (nI s), .int (nI p)] (zRh G h0 m v g) n K) 62 [(0, .ref m), (1, .int (nI s)), (2, .int (nI p)), (3, .int (nI (zsum T.2.2.2 l))), (4, .int (nI i))] [] (zRh G h0 m v g1) n 0 0 := by
    intro h200 d
    have hs2 := hsb T.1 (Nat.le_refl _)
    rw [← hsum] at hs2
    induction d with
    | zero => intro i g1 hd; omega
    | succ d ih =>
      intro i g1 hd hi hiT hg h4 h8 h5 h6 h9 hr
      refine z_iload dX11_halve_62 rfl ?_
      refine z_aload_n dX11_halve_64 rfl ?_
      refine zr_get dX11_halve_65 fX11_19_11 rfl rfl ?_
      refine z_iload_n dX11_halve_68 rfl ?_
      refine zr_ald (a := _) dX11_halve_69 rfl (by decide) (by simp only [zrl]; omega) ?_
      rw [h4]
      refine z_icmp_ge (t := 133) dX11_halve_70 (by decide) (fun q70 => ?_) (fun q70 => ?_)
      · have hie : i = T.1 := by have := (nI_leI (by omega) (by omega)).mp q70; omega
        subst hie
        refine z_vreturn dX11_halve_133 rfl (Nat.le_of_ble_eq_true rfl) (Nat.le_of_ble_eq_true rfl) ?_
        refine hK g1 hg ⟨h4, h8, fun j hj => by rw [h5]; exact hP j hj, fun j hj => by rw [h6]; exact hB j hj, fun j hj => ?_, fun j hj => by rw [h9]; exact hLt j hj, hl4, hT1, hT2, fun j e1 e2 => ?_, hT4⟩
        · have hj' : j < T.1 := hj
          have e : zless T.2.2.2 l = zhalf T.2.2.2 l := by rw [zless, if_neg (by omega)]
          show _ = if j = 0 then 0 else nI (zless T.2.2.2 l j)
          rw [e, hr j hj', if_pos hj']
        · have h := hT3 j e1 e2
          simp only [zlsT, zless, if_neg (show ¬ zsum T.2.2.2 l ≤ 200 by omega), zhalf]
          refine ⟨h.1, h.2.1, ?_, ?_⟩ <;> split <;> omega
      · have hil : i < T.1 := by have := mt (nI_leI (by omega) (by omega)).mpr q70; omega
        have hTi := hT3 i hi hil
        refine z_iload_n dX11_halve_73 rfl ?_
        refine z_sipush (w := 200) dX11_halve_74 (by decide) ?_
        refine z_icmp_le (t := 133) dX11_halve_77 (by decide) (fun q77 => ?_) (fun q77 => ?_)
        · exact absurd ((nI_leI (a := zsum T.2.2.2 l) (b := 200) (by omega) (by omega)).mp q77) (by omega)
        · refine z_aload_n dX11_halve_80 rfl ?_
          refine zr_get dX11_halve_81 fX11_22_11 rfl rfl ?_
          refine z_sipush (w := 1500) dX11_halve_84 (by decide) ?_
          refine z_iload_n dX11_halve_87 rfl ?_
          refine z_imul dX11_halve_88 ?_
          refine z_iload dX11_halve_89 rfl ?_
          refine z_iadd dX11_halve_91 ?_
          refine zr_ald (a := 1500 * s + i) dX11_halve_92 (zx1500 s i) (by decide) (by simp only [zrl]; omega) ?_
          rw [h5, hP i hil, zm_pos hi]
          refine z_iload_n dX11_halve_93 rfl ?_
          refine z_icmp_ne (t := 127) dX11_halve_94 (by decide) (fun q94 => ?_) (fun q94 => ?_)
          · have w94 : T.2.1 i ≠ p := mt (nI_eq (by omega) (by omega)).mpr q94
            refine z_iinc dX11_halve_127 rfl (Nat.le_of_ble_eq_true rfl) ?_
            refine z_goto (t := 62) dX11_halve_130 (by decide) ?_
            rw [show nI i + Int32.ofInt 1 = nI (i + 1) from nI_1 i]
            refine ih (i + 1) g1 (by omega) (by omega) (by omega) hg h4 h8 h5 h6 h9 (fun j hj => ?_)
            rw [hr j hj]
            by_cases e : j = i
            · subst e; rw [if_neg (Nat.lt_irrefl _), if_pos (Nat.lt_succ_self _), zhalf, if_neg (fun z => w94 ((hl2 _).mp z).2.2)]
            · have : j < i ↔ j < i + 1 := by omega
              simp only [this]
          · have w94 : T.2.1 i = p := (nI_eq (by omega) (by omega)).mp q94
            refine z_aload_n dX11_halve_97 rfl ?_
            refine zr_get dX11_halve_98 fX11_28_11 rfl rfl ?_
            refine z_sipush (w := 1500) dX11_halve_101 (by decide) ?_
            refine z_iload_n dX11_halve_104 rfl ?_
            refine z_imul dX11_halve_105 ?_
            refine z_iload dX11_halve_106 rfl ?_
            refine z_iadd dX11_halve_108 ?_
            refine z_aload_n dX11_halve_109 rfl ?_
            refine zr_get dX11_halve_110 fX11_28_11 rfl rfl ?_
            refine z_sipush (w := 1500) dX11_halve_113 (by decide) ?_
            refine z_iload_n dX11_halve_116 rfl ?_
            refine z_imul dX11_halve_117 ?_
            refine z_iload dX11_halve_118 rfl ?_
            refine z_iadd dX11_halve_120 ?_
            refine zr_ald (a := 1500 * s + i) dX11_halve_121 (zx1500 s i) (by decide) (by simp only [zrl]; omega) ?_
            rw [hr i hil, if_neg (by omega), if_neg (Nat.lt_irrefl _)]
            refine z_iconst (w := 1) dX11_halve_122 (by decide) ?_
            refine z_iadd dX11_halve_123 ?_
            refine z_iconst (w := 2) dX11_halve_124 (by decide) ?_
            refine z_idiv dX11_halve_125 (by decide) ?_
            rw [nI_1, zdiv2 (by omega)]
            refine zr_ast (a := 1500 * s + i) dX11_halve_126 (zx1500 s i) (by decide) (by simp only [zrl]; omega) ?_
            refine z_iinc dX11_halve_127 rfl (Nat.le_of_ble_eq_true rfl) ?_
            refine z_goto (t := 62) dX11_halve_130 (by decide) ?_
            rw [show nI i + Int32.ofInt 1 = nI (i + 1) from nI_1 i]
            refine ih (i + 1) _ (by omega) (by omega) (by omega) (hg.cnt (by omega) _) (by rw [zup_ne (by decide)]; exact h4) (by rw [zup_ne (by decide)]; exact h8) (by rw [zup_ne (by decide)]; exact h5) (by rw [zup_ne (by decide)]; exact h6) (by rw [zup_ne (by decide)]; exact h9) (fun j hj => ?_)
            rw [zng]
            by_cases e : j = i
            · subst e
              rw [zu_eq, if_neg (by omega), if_pos (Nat.lt_succ_self _), zhalf, if_pos ((hl2 _).mpr ⟨hi, hj, w94⟩)]
            · rw [zu_ne (by omega), hr j hj]
              have : j < i ↔ j < i + 1 := by omega
              simp only [this]
  have loop : ∀ (d i : Nat), T.1 - i < d → 1 ≤ i → i ≤ T.1 → zZ (zXm G rX11_halve mX11_halve [.ref m, .int (nI s), .int (nI p)] (zRh G h0 m v g) n K) 5 [(0, .ref m), (1, .int (nI s)), (2, .int (nI p)), (3, .int (nI (zsm (fun c => if 1 ≤ c ∧ T.2.1 c = p then T.2.2.2 c else 0) i))), (4, .int (nI i))] [] (zRh G h0 m v g) n 0 0 := by
    intro d
    induction d with
    | zero => intro i hd; omega
    | succ d ih =>
      intro i hd hi hiT
      refine z_iload dX11_halve_5 rfl ?_
      refine z_aload_n dX11_halve_7 rfl ?_
      refine zr_get dX11_halve_8 fX11_19_11 rfl rfl ?_
      refine z_iload_n dX11_halve_11 rfl ?_
      refine zr_ald (a := _) dX11_halve_12 rfl (by decide) (by simp only [zrl]; omega) ?_
      rw [hn]
      refine z_icmp_ge (t := 59) dX11_halve_13 (by decide) (fun q13 => ?_) (fun q13 => ?_)
      · have hie : i = T.1 := by have := (nI_leI (by omega) (by omega)).mp q13; omega
        subst hie
        rw [← hsum]
        by_cases hle : zsum T.2.2.2 l ≤ 200
        · refine z_iconst (w := 1) dX11_halve_59 (by decide) ?_
          refine z_istore dX11_halve_60 (Nat.le_of_ble_eq_true rfl) ?_
          refine z_iload dX11_halve_62 rfl ?_
          refine z_aload_n dX11_halve_64 rfl ?_
          refine zr_get dX11_halve_65 fX11_19_11 rfl rfl ?_
          refine z_iload_n dX11_halve_68 rfl ?_
          refine zr_ald (a := _) dX11_halve_69 rfl (by decide) (by simp only [zrl]; omega) ?_
          rw [hn]
          refine z_icmp_ge (t := 133) dX11_halve_70 (by decide) (fun q70 => ?_) (fun q70 => ?_)
          · refine z_vreturn dX11_halve_133 rfl (Nat.le_of_ble_eq_true rfl) (Nat.le_of_ble_eq_true rfl) ?_
            exact hK g zfm.refl (zRm.same (T := T) (T' := zlsT T l) (lat := lat) rfl (fun i hi => ⟨rfl, rfl, by simp only [zlsT, zless]; rw [if_pos hle]⟩) (fun _ _ => rfl) hM0)
          · refine z_iload_n dX11_halve_73 rfl ?_
            refine z_sipush (w := 200) dX11_halve_74 (by decide) ?_
            refine z_icmp_le (t := 133) dX11_halve_77 (by decide) (fun q77 => ?_) (fun q77 => ?_)
            · refine z_vreturn dX11_halve_133 rfl (Nat.le_of_ble_eq_true rfl) (Nat.le_of_ble_eq_true rfl) ?_
              exact hK g zfm.refl (zRm.same (T := T) (T' := zlsT T l) (lat := lat) rfl (fun i hi => ⟨rfl, rfl, by simp only [zlsT, zless]; rw [if_pos hle]⟩) (fun _ _ => rfl) hM0)
            · exact absurd (nI_le hle (by omega)) q77
        · refine z_iconst (w := 1) dX11_halve_59 (by decide) ?_
          refine z_istore dX11_halve_60 (Nat.le_of_ble_eq_true rfl) ?_
          refine loop2 (by omega) (T.1 + 1) 1 g (by omega) (by omega) (by omega) zfm.refl hn hlm rfl rfl rfl (fun j hj => ?_)
          rw [hC j hj]
          by_cases e : j = 0
          · rw [if_pos e, if_pos e]
          · rw [if_neg e, if_neg e, if_neg (by omega)]
      · have hil : i < T.1 := by have := mt (nI_leI (by omega) (by omega)).mpr q13; omega
        have hTi := hT3 i hi hil
        refine z_iload_n dX11_halve_16 rfl ?_
        refine z_aload_n dX11_halve_17 rfl ?_
        refine zr_get dX11_halve_18 fX11_22_11 rfl rfl ?_
        refine z_sipush (w := 1500) dX11_halve_21 (by decide) ?_
        refine z_iload_n dX11_halve_24 rfl ?_
        refine z_imul dX11_halve_25 ?_
        refine z_iload dX11_halve_26 rfl ?_
        refine z_iadd dX11_halve_28 ?_
        refine zr_ald (a := 1500 * s + i) dX11_halve_29 (zx1500 s i) (by decide) (by simp only [zrl]; omega) ?_
        rw [hP i hil, zm_pos hi]
        refine z_iload_n dX11_halve_30 rfl ?_
        refine z_icmp_ne (t := 50) dX11_halve_31 (by decide) (fun q31 => ?_) (fun q31 => ?_)
        · have w31 : T.2.1 i ≠ p := mt (nI_eq (by omega) (by omega)).mpr q31
          refine z_iconst (w := 0) dX11_halve_50 (by decide) ?_
          refine z_iadd dX11_halve_51 ?_
          rw [Int32.add_zero]
          refine z_istore_n dX11_halve_52 (Nat.le_of_ble_eq_true rfl) ?_
          refine z_iinc dX11_halve_53 rfl (Nat.le_of_ble_eq_true rfl) ?_
          refine z_goto (t := 5) dX11_halve_56 (by decide) ?_
          rw [show nI i + Int32.ofInt 1 = nI (i + 1) from nI_1 i]
          have e9 : zsm (fun c => if 1 ≤ c ∧ T.2.1 c = p then T.2.2.2 c else 0) i  = zsm (fun c => if 1 ≤ c ∧ T.2.1 c = p then T.2.2.2 c else 0) (i + 1) := by
            rw [zsm]; simp [w31, hi]
          rw [e9]
          exact ih (i + 1) (by omega) (by omega) (by omega)
        · have w31 : T.2.1 i = p := (nI_eq (by omega) (by omega)).mp q31
          refine z_aload_n dX11_halve_34 rfl ?_
          refine zr_get dX11_halve_35 fX11_28_11 rfl rfl ?_
          refine z_sipush (w := 1500) dX11_halve_38 (by decide) ?_
          refine z_iload_n dX11_halve_41 rfl ?_
          refine z_imul dX11_halve_42 ?_
          refine z_iload dX11_halve_43 rfl ?_
          refine z_iadd dX11_halve_45 ?_
          refine zr_ald (a := 1500 * s + i) dX11_halve_46 (zx1500 s i) (by decide) (by simp only [zrl]; omega) ?_
          rw [hC i hil, if_neg (by omega)]
          refine z_goto (t := 51) dX11_halve_47 (by decide) ?_
          refine z_iadd dX11_halve_51 ?_
          rw [nI_add]
          refine z_istore_n dX11_halve_52 (Nat.le_of_ble_eq_true rfl) ?_
          refine z_iinc dX11_halve_53 rfl (Nat.le_of_ble_eq_true rfl) ?_
          refine z_goto (t := 5) dX11_halve_56 (by decide) ?_
          rw [show nI i + Int32.ofInt 1 = nI (i + 1) from nI_1 i]
          have e9 : zsm (fun c => if 1 ≤ c ∧ T.2.1 c = p then T.2.2.2 c else 0) i + T.2.2.2 i = zsm (fun c => if 1 ≤ c ∧ T.2.1 c = p then T.2.2.2 c else 0) (i + 1) := by
            rw [zsm]; simp [w31, hi]
          rw [e9]
          exact ih (i + 1) (by omega) (by omega) (by omega)
  refine z_iconst (w := 0) dX11_halve_0 (by decide) ?_
  refine z_istore_n dX11_halve_1 (Nat.le_of_ble_eq_true rfl) ?_
  refine z_iconst (w := 1) dX11_halve_2 (by decide) ?_
  refine z_istore dX11_halve_3 (Nat.le_of_ble_eq_true rfl) ?_
  exact loop (T.1 + 1) 1 (by omega) (by omega) hT1

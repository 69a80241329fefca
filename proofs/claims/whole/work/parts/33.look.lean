/-! the reference: looking at a context -/
def zfv (S : List Nat) (v v' : Nat → Int32) : Prop := ∀ k, k ∉ S → v' k = v k
def zfg (S : List Nat) (g g' : Nat → Nat → Int32) : Prop := ∀ j, j ∉ S → g' j = g j
theorem zfv.refl {S : List Nat} {v : Nat → Int32} : zfv S v v := fun _ _ => rfl
theorem zfg.refl {S : List Nat} {g : Nat → Nat → Int32} : zfg S g g := fun _ _ => rfl
theorem zfv.up {S : List Nat} {v v' : Nat → Int32} (h : zfv S v v') {k : Nat} (hk : k ∈ S) (x : Int32) : zfv S v (upd v' k x) := fun j hj => by rw [zu_ne (k := k) (j := j) (fun e => hj (by rw [e]; exact hk))]; exact h j hj
theorem zfg.up {S : List Nat} {g g' : Nat → Nat → Int32} (h : zfg S g g') {k : Nat} (hk : k ∈ S) (x : Nat → Int32) : zfg S g (va_up g' k x) := fun j hj => by rw [zup_ne (k := k) (j := j) (fun e => hj (by rw [e]; exact hk))]; exact h j hj
theorem zfv.trans {S : List Nat} {v v' v2 : Nat → Int32} (h : zfv S v v') (h2 : zfv S v' v2) : zfv S v v2 := fun j hj => (h2 j hj).trans (h j hj)
theorem zfg.trans {S : List Nat} {v v' v2 : Nat → Nat → Int32} (h : zfg S v v') (h2 : zfg S v' v2) : zfg S v v2 := fun j hj => (h2 j hj).trans (h j hj)
theorem zfv.mono {S S' : List Nat} {v v' : Nat → Int32} (h : zfv S v v') (hs : ∀ k, k ∈ S → k ∈ S') : zfv S' v v' := fun j hj => h j (fun q => hj (hs j q))
theorem zfg.mono {S S' : List Nat} {v v' : Nat → Nat → Int32} (h : zfg S v v') (hs : ∀ k, k ∈ S → k ∈ S') : zfg S' v v' := fun j hj => h j (fun q => hj (hs j q))
def zRx (g : Nat → Nat → Int32) (E : Nat → Bool) : Prop := ∀ b, b < 257 → g 11 b = if E b = true then 1 else 0
theorem zoff_has {byt cnt : Nat → Nat} {E : Nat → Bool} {l : List Nat} {c : Nat} (h : c ∈ l) (he : E (byt c) = false) : (byt c, cnt c) ∈ zoff byt cnt E l := by
  induction l with
  | nil => simp at h
  | cons d r ih =>
    simp only [zoff]
    rcases List.mem_cons.mp h with rfl | h
    · rw [if_neg (by simp [he])]; exact List.mem_cons_self
    · split
      · exact ih h
      · exact List.mem_cons_of_mem _ (ih h)
theorem zng {g : Nat → Nat → Int32} {j : Nat} {f : Nat → Int32} : va_up g j f j = f := va_up_self _ _ _
abbrev rX11_beginSign : Room := ⟨0, 0, 0, 0⟩
def SX11_beginSign (G : zC) : zS := fun as h n K => ∃ (h0 : zH) (m : Nat) (v : Nat → Int32) (g : Nat → Nat → Int32), as = [.ref m] ∧ h = zRh G h0 m v g ∧ (∀ v' g', zfv [18] v v' → v' 18 = 0 → zfg [11] g g' → zRx g' (fun _ => false) → K none (zRh G h0 m v' g') n)
set_option maxRecDepth 100000 in
theorem tvX11_beginSign {G : zC} {as : List Value} {h : zH} {n : Nat} {K : zP} (hs : SX11_beginSign G as h n K) : (∃ b fs r, as = .ref b :: r ∧ h b = some (.inr (11, fs))) ∧ zCt G rX11_beginSign mX11_beginSign as h n K := by
  obtain ⟨h0, m, v, g, rfl, rfl, hK⟩ := hs
  refine ⟨⟨_, _, _, rfl, zRh_o⟩, zCt.of (by decide) (Nat.le_of_ble_eq_true rfl) ?_⟩
  have loop : ∀ (d i : Nat) (g1 : Nat → Nat → Int32), 257 - i < d → i ≤ 257 → zfg [11] g g1 → (∀ b, b < i → g1 11 b = 0) → zZ (zXm G rX11_beginSign mX11_beginSign [.ref m] (zRh G h0 m v g) n K) 2 [(0, .ref m), (1, .int (nI i))] [] (zRh G h0 m v g1) n 0 0 := by
    intro d
    induction d with
    | zero => intro i g1 hd; omega
    | succ d ih =>
      intro i g1 hd hi hg hb
      refine z_iload_n dX11_beginSign_2 rfl ?_
      refine z_sipush (w := 257) dX11_beginSign_3 (by decide) ?_
      refine z_icmp_ge (t := 22) dX11_beginSign_6 (by decide) (fun q6 => ?_) (fun q6 => ?_)
      · have hie : i = 257 := by have := (nI_leI (a := 257) (b := i) (by omega) (by omega)).mp q6; omega
        refine z_aload_n dX11_beginSign_22 rfl ?_
        refine z_iconst (w := 0) dX11_beginSign_23 (by decide) ?_
        refine zr_put dX11_beginSign_24 fX11_103_11 rfl (fun q => absurd q (by decide)) zset_18 (by decide) (Or.inl rfl) ?_
        refine z_vreturn dX11_beginSign_27 rfl (Nat.le_of_ble_eq_true rfl) (Nat.le_of_ble_eq_true rfl) ?_
        exact hK _ _ (zfv.refl.up (by decide) _) zu_eq hg (fun b hb1 => by rw [hb b (by omega)]; simp)
      · have hil : i < 257 := by have := mt (nI_leI (a := 257) (b := i) (by omega) (by omega)).mpr q6; omega
        refine z_aload_n dX11_beginSign_9 rfl ?_
        refine zr_get dX11_beginSign_10 fX11_40_11 rfl rfl ?_
        refine z_iload_n dX11_beginSign_13 rfl ?_
        refine z_iconst (w := 0) dX11_beginSign_14 (by decide) ?_
        refine zr_bst (a := _) dX11_beginSign_15 rfl (by omega) (by first | exact Or.inl rfl | exact Or.inr rfl) ?_
        refine z_iinc dX11_beginSign_16 rfl (Nat.le_of_ble_eq_true rfl) ?_
        refine z_goto (t := 2) dX11_beginSign_19 (by decide) ?_
        rw [show nI i + Int32.ofInt 1 = nI (i + 1) from nI_1 i]
        refine ih (i + 1) _ (by omega) (by omega) (hg.up (by decide) _) (fun b hb1 => ?_)
        rw [zng]
        by_cases e : b = i
        · subst e; exact zu_eq
        · rw [zu_ne e]; exact hb b (by omega)
  refine z_iconst (w := 0) dX11_beginSign_0 (by decide) ?_
  refine z_istore_n dX11_beginSign_1 (Nat.le_of_ble_eq_true rfl) ?_
  exact loop 258 0 g (by omega) (by omega) zfg.refl (fun b hb => by omega)
abbrev rX11_look : Room := ⟨2, 0, 0, 80⟩
def SX11_look (G : zC) : zS := fun as h n K => ∃ (h0 : zH) (m : Nat) (v : Nat → Int32) (g : Nat → Nat → Int32) (s k r : Nat) (T : zTree) (ch : Nat → List Nat) (lm : Nat) (lat : Nat → Nat) (E : Nat → Bool), as = [.ref m, .int (nI s), .int (nI k)] ∧ h = zRh G h0 m v g ∧ zRm g s T lm lat ∧ zTok T ch ∧ s ≤ 6 ∧ k ≤ lm ∧ zwk T lat k (lm - k) 0 r ∧ r < T.1 ∧ zRx g E ∧ ∀ v' g', zfv [20, 21] v v' → zfg [12] g g' → v' 20 = nI (zps (zoff T.2.2.1 T.2.2.2 E (ch r)) (zoff T.2.2.1 T.2.2.2 E (ch r)).length) → v' 21 = nI (zoff T.2.2.1 T.2.2.2 E (ch r)).length → (∀ b, b < 256 → g' 12 b = nI (zlc (zoff T.2.2.1 T.2.2.2 E (ch r)) b)) → K none (zRh G h0 m v' g') n
set_option maxRecDepth 100000 in
theorem tvX11_look {G : zC} {as : List Value} {h : zH} {n : Nat} {K : zP} (hs : SX11_look G as h n K) : (∃ b fs r, as = .ref b :: r ∧ h b = some (.inr (11, fs))) ∧ zCt G rX11_look mX11_look as h n K := by
  obtain ⟨h0, m, v, g, s, k, r, T, ch, lm, lat, E, rfl, rfl, hM, hTk, hs, hk, hw, hr, hE, hK⟩ := hs
  refine ⟨⟨_, _, _, rfl, zRh_o⟩, zCt.of (by decide) (Nat.le_of_ble_eq_true rfl) ?_⟩
  have hM0 := hM
  obtain ⟨hn, hlm, hP, hB, hC, hLt, hl4, hT1, hT2, hT3, hT4⟩ := hM
  have loop : ∀ (d i : Nat) (v1 : Nat → Int32) (g1 : Nat → Nat → Int32), T.1 - i < d → 1 ≤ i → i ≤ T.1 → zfv [20, 21] v v1 → zfg [12] g g1 → v1 20 = nI (zsm (fun c => if 1 ≤ c ∧ T.2.1 c = r then (if E (T.2.2.1 c) = true then 0 else T.2.2.2 c) else 0) i) → v1 21 = nI (zsm (fun c => if 1 ≤ c ∧ T.2.1 c = r then (if E (T.2.2.1 c) = true then 0 else 1) else 0) i) → (∀ b, b < 256 → (∃ c, 1 ≤ c ∧ c < i ∧ T.2.1 c = r ∧ T.2.2.1 c = b ∧ E b = false ∧ g1 12 b = nI (T.2.2.2 c)) ∨ ((∀ c, 1 ≤ c → c < i → T.2.1 c = r → T.2.2.1 c = b → E b = true) ∧ g1 12 b = 0)) → zZ (zXm G rX11_look mX11_look [.ref m, .int (nI s), .int (nI k)] (zRh G h0 m v g) n K) 45 [(0, .ref m), (1, .int (nI s)), (2, .int (nI k)), (3, .int (nI r)), (4, .int (nI i))] [] (zRh G h0 m v1 g1) n 0 0 := by
    intro d
    induction d with
    | zero => intro i v1 g1 hd; omega
    | succ d ih =>
      intro i v1 g1 hd hi hiT hv hg h20 h21 hb
      have g4 := hg 4 (by decide)
      have g5 := hg 5 (by decide)
      have g6 := hg 6 (by decide)
      have g7 := hg 7 (by decide)
      have g11 := hg 11 (by decide)
      refine z_iload dX11_look_45 rfl ?_
      refine z_aload_n dX11_look_47 rfl ?_
      refine zr_get dX11_look_48 fX11_19_11 rfl rfl ?_
      refine z_iload_n dX11_look_51 rfl ?_
      refine zr_ald (a := _) dX11_look_52 rfl (by decide) (by simp only [zrl]; omega) ?_
      rw [g4, hn]
      refine z_icmp_ge (t := 150) dX11_look_53 (by decide) (fun q53 => ?_) (fun q53 => ?_)
      · have hie : i = T.1 := by have := (nI_leI (by omega) (by omega)).mp q53; omega
        subst hie
        refine z_vreturn dX11_look_150 rfl (Nat.le_of_ble_eq_true rfl) (Nat.le_of_ble_eq_true rfl) ?_
        refine hK v1 g1 hv hg ?_ ?_ (fun b hb1 => ?_)
        · rw [h20, zoff_sumE, zch_sum hTk hr]
        · rw [h21, zoff_lenE, zch_sum hTk hr]
        · rcases hb b hb1 with ⟨c, c1, c2, c3, c4, c5, c6⟩ | ⟨c1, c2⟩
          · subst c4
            rw [c6, zlc_mem (zoff_srt (hTk.2.1 r hr).2) (zoff_has (cnt := T.2.2.2) ((zch_mem hTk hr).mpr ⟨c1, c2, c3⟩) c5)]
          · rw [c2, zlc_not (fun q hq e => ?_)]
            · rfl
            obtain ⟨c, d1, d2, d3⟩ := zoff_mem hq
            obtain ⟨e1, e2, e3⟩ := (zch_mem hTk hr).mp d1
            rw [d2] at e
            have d4 := c1 c e1 e2 e3 e
            rw [← e, d3] at d4
            cases d4
      · have hil : i < T.1 := by have := mt (nI_leI (by omega) (by omega)).mpr q53; omega
        have hTi := hT3 i hi hil
        refine z_aload_n dX11_look_56 rfl ?_
        refine zr_get dX11_look_57 fX11_25_11 rfl rfl ?_
        refine z_sipush (w := 1500) dX11_look_60 (by decide) ?_
        refine z_iload_n dX11_look_63 rfl ?_
        refine z_imul dX11_look_64 ?_
        refine z_iload dX11_look_65 rfl ?_
        refine z_iadd dX11_look_67 ?_
        refine zr_ald (a := 1500 * s + i) dX11_look_68 (zx1500 s i) (by decide) (by simp only [zrl]; omega) ?_
        rw [g6, hB i (by omega), zm_pos hi]
        refine z_istore dX11_look_69 (Nat.le_of_ble_eq_true rfl) ?_
        refine z_aload_n dX11_look_71 rfl ?_
        refine zr_get dX11_look_72 fX11_22_11 rfl rfl ?_
        refine z_sipush (w := 1500) dX11_look_75 (by decide) ?_
        refine z_iload_n dX11_look_78 rfl ?_
        refine z_imul dX11_look_79 ?_
        refine z_iload dX11_look_80 rfl ?_
        refine z_iadd dX11_look_82 ?_
        refine zr_ald (a := 1500 * s + i) dX11_look_83 (zx1500 s i) (by decide) (by simp only [zrl]; omega) ?_
        rw [g5, hP i (by omega), zm_pos hi]
        refine z_iload_n dX11_look_84 rfl ?_
        refine z_icmp_ne (t := 144) dX11_look_85 (by decide) (fun q85 => ?_) (fun q85 => ?_)
        · have w85 : T.2.1 i ≠ r := mt (nI_eq (by omega) (by omega)).mpr q85
          have hz1 : (if 1 ≤ i ∧ T.2.1 i = r then (if E (T.2.2.1 i) = true then 0 else T.2.2.2 i) else 0) = 0 := if_neg (fun z => w85 z.2)
          have hz2 : (if 1 ≤ i ∧ T.2.1 i = r then (if E (T.2.2.1 i) = true then 0 else 1) else 0) = 0 := if_neg (fun z => w85 z.2)
          have hz3 : ∀ b, T.2.1 i = r → T.2.2.1 i = b → E b = true := fun b z => absurd z w85
          refine z_iinc dX11_look_144 rfl (Nat.le_of_ble_eq_true rfl) ?_
          refine z_goto (t := 45) dX11_look_147 (by decide) ?_
          rw [show nI i + Int32.ofInt 1 = nI (i + 1) from nI_1 i]
          refine zZ.keep [0, 1, 2, 3, 4] ?_
          refine ih (i + 1) v1 g1 (by omega) (by omega) (by omega) hv hg ?_ ?_ (fun b hb1 => ?_)
          · rw [h20, zsm, hz1]; rfl
          · rw [h21, zsm, hz2]; rfl
          · rcases hb b hb1 with ⟨c, c1, c2, c3, c4, c5, c6⟩ | ⟨c1, c2⟩
            · exact Or.inl ⟨c, c1, by omega, c3, c4, c5, c6⟩
            · refine Or.inr ⟨fun c e1 e2 e3 e4 => ?_, c2⟩
              by_cases e : c = i
              · subst e; exact hz3 b e3 e4
              · exact c1 c e1 (by omega) e3 e4
        · have w85 : T.2.1 i = r := (nI_eq (by omega) (by omega)).mp q85
          refine z_aload_n dX11_look_88 rfl ?_
          refine zr_get dX11_look_89 fX11_40_11 rfl rfl ?_
          refine z_iload dX11_look_92 rfl ?_
          refine zr_bld (a := _) dX11_look_94 rfl (by omega) ?_
          rw [g11, hE _ (by omega)]
          refine z_if_ne (t := 144) dX11_look_95 (by decide) (fun q95 => ?_) (fun q95 => ?_)
          · have w95 : E (T.2.2.1 i) = true := by by_cases z : E (T.2.2.1 i) = true; exact z; exact absurd (if_neg z) q95
            have hz1 : (if 1 ≤ i ∧ T.2.1 i = r then (if E (T.2.2.1 i) = true then 0 else T.2.2.2 i) else 0) = 0 := by simp [w95]
            have hz2 : (if 1 ≤ i ∧ T.2.1 i = r then (if E (T.2.2.1 i) = true then 0 else 1) else 0) = 0 := by simp [w95]
            have hz3 : ∀ b, T.2.1 i = r → T.2.2.1 i = b → E b = true := fun b _ z => by rw [← z]; exact w95
            refine z_iinc dX11_look_144 rfl (Nat.le_of_ble_eq_true rfl) ?_
            refine z_goto (t := 45) dX11_look_147 (by decide) ?_
            rw [show nI i + Int32.ofInt 1 = nI (i + 1) from nI_1 i]
            refine zZ.keep [0, 1, 2, 3, 4] ?_
            refine ih (i + 1) v1 g1 (by omega) (by omega) (by omega) hv hg ?_ ?_ (fun b hb1 => ?_)
            · rw [h20, zsm, hz1]; rfl
            · rw [h21, zsm, hz2]; rfl
            · rcases hb b hb1 with ⟨c, c1, c2, c3, c4, c5, c6⟩ | ⟨c1, c2⟩
              · exact Or.inl ⟨c, c1, by omega, c3, c4, c5, c6⟩
              · refine Or.inr ⟨fun c e1 e2 e3 e4 => ?_, c2⟩
                by_cases e : c = i
                · subst e; exact hz3 b e3 e4
                · exact c1 c e1 (by omega) e3 e4
          · have w95 : E (T.2.2.1 i) = false := by cases z : E (T.2.2.1 i); rfl; rw [z] at q95; exact absurd q95 (by decide)
            refine z_aload_n dX11_look_98 rfl ?_
            refine zr_get dX11_look_99 fX11_44_11 rfl rfl ?_
            refine z_iload dX11_look_102 rfl ?_
            refine z_aload_n dX11_look_104 rfl ?_
            refine zr_get dX11_look_105 fX11_28_11 rfl rfl ?_
            refine z_sipush (w := 1500) dX11_look_108 (by decide) ?_
            refine z_iload_n dX11_look_111 rfl ?_
            refine z_imul dX11_look_112 ?_
            refine z_iload dX11_look_113 rfl ?_
            refine z_iadd dX11_look_115 ?_
            refine zr_ald (a := 1500 * s + i) dX11_look_116 (zx1500 s i) (by decide) (by simp only [zrl]; omega) ?_
            rw [g7, hC i (by omega), if_neg (by omega)]
            refine zr_ast (a := _) dX11_look_117 rfl (by decide) (by simp only [zrl]; omega) ?_
            refine z_aload_n dX11_look_118 rfl ?_
            refine z_dup dX11_look_119 rfl ?_
            refine zr_get dX11_look_120 fX11_110_11 rfl rfl ?_
            refine z_aload_n dX11_look_123 rfl ?_
            refine zr_get dX11_look_124 fX11_44_11 rfl rfl ?_
            refine z_iload dX11_look_127 rfl ?_
            refine zr_ald (a := _) dX11_look_129 rfl (by decide) (by simp only [zrl]; omega) ?_
            refine z_iadd dX11_look_130 ?_
            refine zr_put dX11_look_131 fX11_110_11 rfl (fun q => absurd q (by decide)) zset_20 (by decide) (Or.inl rfl) ?_
            refine z_aload_n dX11_look_134 rfl ?_
            refine z_dup dX11_look_135 rfl ?_
            refine zr_get dX11_look_136 fX11_113_11 rfl rfl ?_
            refine z_iconst (w := 1) dX11_look_139 (by decide) ?_
            refine z_iadd dX11_look_140 ?_
            refine zr_put dX11_look_141 fX11_113_11 rfl (fun q => absurd q (by decide)) zset_21 (by decide) (Or.inl rfl) ?_
            refine z_iinc dX11_look_144 rfl (Nat.le_of_ble_eq_true rfl) ?_
            refine z_goto (t := 45) dX11_look_147 (by decide) ?_
            rw [show nI i + Int32.ofInt 1 = nI (i + 1) from nI_1 i]
            refine zZ.keep [0, 1, 2, 3, 4] ?_
            refine ih (i + 1) _ _ (by omega) (by omega) (by omega) ((hv.up (by decide) _).up (by decide) _) (hg.up (by decide) _) ?_ ?_ (fun b hb1 => ?_)
            · rw [zu_ne (by decide), zu_eq, zng, zu_eq, h20, nI_add, zsm]; rw [if_pos ⟨hi, w85⟩, if_neg (by simp [w95])]
            · rw [zu_eq, zu_ne (by decide), h21, nI_1, zsm]; rw [if_pos ⟨hi, w85⟩, if_neg (by simp [w95])]
            · rw [zng]
              by_cases e : b = T.2.2.1 i
              · subst e
                exact Or.inl ⟨i, hi, by omega, w85, rfl, w95, zu_eq⟩
              · rw [zu_ne e]
                rcases hb b hb1 with ⟨c, c1, c2, c3, c4, c5, c6⟩ | ⟨c1, c2⟩
                · exact Or.inl ⟨c, c1, by omega, c3, c4, c5, c6⟩
                · refine Or.inr ⟨fun c e1 e2 e3 e4 => ?_, c2⟩
                  by_cases e' : c = i
                  · subst e'; exact absurd e4.symm e
                  · exact c1 c e1 (by omega) e3 e4
  have loop0 : ∀ (d i : Nat) (g1 : Nat → Nat → Int32), 256 - i < d → i ≤ 256 → zfg [12] g g1 → (∀ b, b < i → g1 12 b = 0) → zZ (zXm G rX11_look mX11_look [.ref m, .int (nI s), .int (nI k)] (zRh G h0 m v g) n K) 10 [(0, .ref m), (1, .int (nI s)), (2, .int (nI k)), (3, .int (nI r)), (4, .int (nI i))] [] (zRh G h0 m v g1) n 0 0 := by
    intro d
    induction d with
    | zero => intro i g1 hd; omega
    | succ d ih =>
      intro i g1 hd hi hg hb
      refine z_iload dX11_look_10 rfl ?_
      refine z_sipush (w := 256) dX11_look_12 (by decide) ?_
      refine z_icmp_ge (t := 32) dX11_look_15 (by decide) (fun q15 => ?_) (fun q15 => ?_)
      · have hie : i = 256 := by have := (nI_leI (a := 256) (b := i) (by omega) (by omega)).mp q15; omega
        subst hie
        refine z_aload_n dX11_look_32 rfl ?_
        refine z_iconst (w := 0) dX11_look_33 (by decide) ?_
        refine zr_put dX11_look_34 fX11_110_11 rfl (fun q => absurd q (by decide)) zset_20 (by decide) (Or.inl rfl) ?_
        refine z_aload_n dX11_look_37 rfl ?_
        refine z_iconst (w := 0) dX11_look_38 (by decide) ?_
        refine zr_put dX11_look_39 fX11_113_11 rfl (fun q => absurd q (by decide)) zset_21 (by decide) (Or.inl rfl) ?_
        refine z_iconst (w := 1) dX11_look_42 (by decide) ?_
        refine z_istore dX11_look_43 (Nat.le_of_ble_eq_true rfl) ?_
        refine loop (T.1 + 1) 1 _ _ (by omega) (by omega) hT1 ((zfv.refl.up (by decide) _).up (by decide) _) hg (by rw [zu_ne (by decide), zu_eq]; rfl) (by rw [zu_eq]; rfl) (fun b hb1 => Or.inr ⟨fun c e1 e2 => by omega, hb b hb1⟩)
      · have hil : i < 256 := by have := mt (nI_leI (a := 256) (b := i) (by omega) (by omega)).mpr q15; omega
        refine z_aload_n dX11_look_18 rfl ?_
        refine zr_get dX11_look_19 fX11_44_11 rfl rfl ?_
        refine z_iload dX11_look_22 rfl ?_
        refine z_iconst (w := 0) dX11_look_24 (by decide) ?_
        refine zr_ast (a := _) dX11_look_25 rfl (by decide) (by simp only [zrl]; omega) ?_
        refine z_iinc dX11_look_26 rfl (Nat.le_of_ble_eq_true rfl) ?_
        refine z_goto (t := 10) dX11_look_29 (by decide) ?_
        rw [show nI i + Int32.ofInt 1 = nI (i + 1) from nI_1 i]
        refine ih (i + 1) _ (by omega) (by omega) (hg.up (by decide) _) (fun b hb1 => ?_)
        rw [zng]
        by_cases e : b = i
        · subst e; exact zu_eq
        · rw [zu_ne e]; exact hb b (by omega)
  refine z_aload_n dX11_look_0 rfl ?_
  refine z_iload_n dX11_look_1 rfl ?_
  refine z_iload_n dX11_look_2 rfl ?_
  refine zcall3 (zck_V (na := 2) (ci := 11) (R' := rX11_context) (M' := mX11_context) (fun _ _ _ _ => tvX11_context) (by decide) kX11_context lX11_106 (by decide +kernel) rfl) dX11_look_3 (Nat.le_of_ble_eq_true rfl) (Nat.le_of_ble_eq_true rfl) (Nat.le_of_ble_eq_true rfl) ?_
  refine ⟨h0, m, v, g, s, k, r, T, lm, lat, rfl, rfl, hM0, hs, hk, hw, ?_⟩
  refine z_istore_n dX11_look_6 (Nat.le_of_ble_eq_true rfl) ?_
  refine z_iconst (w := 0) dX11_look_7 (by decide) ?_
  refine z_istore dX11_look_8 (Nat.le_of_ble_eq_true rfl) ?_
  exact loop0 257 0 g (by omega) (by omega) zfg.refl (fun b hb => by omega)
abbrev rX11_exclude : Room := ⟨0, 0, 0, 0⟩
def SX11_exclude (G : zC) : zS := fun as h n K => ∃ (h0 : zH) (m : Nat) (v : Nat → Int32) (g : Nat → Nat → Int32) (E : Nat → Bool) (L : List (Nat × Nat)) (p : Nat × Nat) (ex : Nat), as = [.ref m] ∧ h = zRh G h0 m v g ∧ zRx g E ∧ zSrt L ∧ (∀ q, q ∈ L → q.1 < 256 ∧ 0 < q.2 ∧ q.2 < 1000000) ∧ (∀ b, b < 256 → g 12 b = nI (zlc L b)) ∧ v 18 = nI ex ∧ ∀ v' g', zfv [18] v v' → zfg [11] g g' → v' 18 = nI (ex + L.length) → zRx g' (zexc E (L ++ [p]) L.length) → K none (zRh G h0 m v' g') n
set_option maxRecDepth 100000 in
theorem tvX11_exclude {G : zC} {as : List Value} {h : zH} {n : Nat} {K : zP} (hs : SX11_exclude G as h n K) : (∃ b fs r, as = .ref b :: r ∧ h b = some (.inr (11, fs))) ∧ zCt G rX11_exclude mX11_exclude as h n K := by
  obtain ⟨h0, m, v, g, E, L, p, ex, rfl, rfl, hE, hS, hL, hC, hx, hK⟩ := hs
  refine ⟨⟨_, _, _, rfl, zRh_o⟩, zCt.of (by decide) (Nat.le_of_ble_eq_true rfl) ?_⟩
  have hct : ∀ b, zlc L b < 1000000 := fun b => by
    by_cases e : ∃ q, q ∈ L ∧ q.1 = b
    · obtain ⟨q, h1, rfl⟩ := e
      rw [zlc_mem hS h1]; exact (hL q h1).2.2
    · rw [zlc_not (fun q hq z => e ⟨q, hq, z⟩)]; omega
  have loop : ∀ (d i : Nat) (v1 : Nat → Int32) (g1 : Nat → Nat → Int32), 256 - i < d → i ≤ 256 → zfv [18] v v1 → zfg [11] g g1 → v1 18 = nI (ex + zsm (fun b => if 0 < zlc L b then 1 else 0) i) → (∀ b, b < 257 → g1 11 b = if E b = true ∨ (b < i ∧ 0 < zlc L b) then 1 else 0) → zZ (zXm G rX11_exclude mX11_exclude [.ref m] (zRh G h0 m v g) n K) 2 [(0, .ref m), (1, .int (nI i))] [] (zRh G h0 m v1 g1) n 0 0 := by
    intro d
    induction d with
    | zero => intro i v1 g1 hd; omega
    | succ d ih =>
      intro i v1 g1 hd hi hv hg h18 hb
      have g12 := hg 12 (by decide)
      refine z_iload_n dX11_exclude_2 rfl ?_
      refine z_sipush (w := 256) dX11_exclude_3 (by decide) ?_
      refine z_icmp_ge (t := 41) dX11_exclude_6 (by decide) (fun q6 => ?_) (fun q6 => ?_)
      · have hie : i = 256 := by have := (nI_leI (a := 256) (b := i) (by omega) (by omega)).mp q6; omega
        subst hie
        refine z_vreturn dX11_exclude_41 rfl (Nat.le_of_ble_eq_true rfl) (Nat.le_of_ble_eq_true rfl) ?_
        refine hK v1 g1 hv hg ?_ (fun b hb1 => ?_)
        · rw [h18, zsm_cnt hS (fun q hq => ⟨(hL q hq).1, (hL q hq).2.1⟩)]
        · rw [hb b hb1, zexc_ct hS (fun q hq => (hL q hq).2.1)]
          by_cases e : b = 256
          · subst e
            rw [zlc_not (fun q hq z => by have := (hL q hq).1; omega)]
            simp
          · have : b < 256 := by omega
            simp [this]
      · have hil : i < 256 := by have := mt (nI_leI (a := 256) (b := i) (by omega) (by omega)).mpr q6; omega
        have hci := hct i
        refine z_aload_n dX11_exclude_9 rfl ?_
        refine zr_get dX11_exclude_10 fX11_44_11 rfl rfl ?_
        refine z_iload_n dX11_exclude_13 rfl ?_
        refine zr_ald (a := _) dX11_exclude_14 rfl (by decide) (by simp only [zrl]; omega) ?_
        rw [g12, hC i hil]
        refine z_if_le (t := 35) dX11_exclude_15 (by decide) (fun q15 => ?_) (fun q15 => ?_)
        · have w15 : ¬ 0 < zlc L i := fun z => absurd q15 (nI_nle z (by omega))
          refine z_iinc dX11_exclude_35 rfl (Nat.le_of_ble_eq_true rfl) ?_
          refine z_goto (t := 2) dX11_exclude_38 (by decide) ?_
          rw [show nI i + Int32.ofInt 1 = nI (i + 1) from nI_1 i]
          refine ih (i + 1) v1 g1 (by omega) (by omega) hv hg ?_ (fun b hb1 => ?_)
          · rw [h18, zsm]; rw [if_neg w15]; rfl
          · rw [hb b hb1]
            by_cases e : b = i
            · subst e; simp [w15]
            · have : b < i ↔ b < i + 1 := by omega
              simp only [this]
        · have w15 : 0 < zlc L i := by
            by_cases z : 0 < zlc L i
            · exact z
            · rw [show zlc L i = 0 by omega] at q15; exact absurd (by decide) q15
          refine z_aload_n dX11_exclude_18 rfl ?_
          refine zr_get dX11_exclude_19 fX11_40_11 rfl rfl ?_
          refine z_iload_n dX11_exclude_22 rfl ?_
          refine z_iconst (w := 1) dX11_exclude_23 (by decide) ?_
          refine zr_bst (a := _) dX11_exclude_24 rfl (by omega) (by first | exact Or.inl rfl | exact Or.inr rfl) ?_
          refine z_aload_n dX11_exclude_25 rfl ?_
          refine z_dup dX11_exclude_26 rfl ?_
          refine zr_get dX11_exclude_27 fX11_103_11 rfl rfl ?_
          refine z_iconst (w := 1) dX11_exclude_30 (by decide) ?_
          refine z_iadd dX11_exclude_31 ?_
          refine zr_put dX11_exclude_32 fX11_103_11 rfl (fun q => absurd q (by decide)) zset_18 (by decide) (Or.inl rfl) ?_
          refine z_iinc dX11_exclude_35 rfl (Nat.le_of_ble_eq_true rfl) ?_
          refine z_goto (t := 2) dX11_exclude_38 (by decide) ?_
          rw [show nI i + Int32.ofInt 1 = nI (i + 1) from nI_1 i]
          refine ih (i + 1) _ _ (by omega) (by omega) (hv.up (by decide) _) (hg.up (by decide) _) ?_ (fun b hb1 => ?_)
          · rw [zu_eq, h18, nI_1, zsm]; rw [if_pos w15]; rfl
          · rw [zng]
            by_cases e : b = i
            · subst e; rw [zu_eq]; simp [w15]
            · rw [zu_ne e, hb b hb1]
              have : b < i ↔ b < i + 1 := by omega
              simp only [this]
  refine z_iconst (w := 0) dX11_exclude_0 (by decide) ?_
  refine z_istore_n dX11_exclude_1 (Nat.le_of_ble_eq_true rfl) ?_
  exact loop 257 0 v g (by omega) (by omega) zfv.refl zfg.refl hx (fun b hb => by rw [hE b hb]; simp)
abbrev rX11_below : Room := ⟨0, 0, 0, 0⟩
def SX11_below (G : zC) : zS := fun as h n K => ∃ (h0 : zH) (m : Nat) (v : Nat → Int32) (g : Nat → Nat → Int32) (b : Nat) (f : Nat → Nat), as = [.ref m, .int (nI b)] ∧ h = zRh G h0 m v g ∧ b ≤ 256 ∧ (∀ i, i < 256 → g 12 i = nI (f i)) ∧ K (some (.int (nI (zsm f b)))) h n
set_option maxRecDepth 100000 in
theorem tvX11_below {G : zC} {as : List Value} {h : zH} {n : Nat} {K : zP} (hs : SX11_below G as h n K) : (∃ b fs r, as = .ref b :: r ∧ h b = some (.inr (11, fs))) ∧ zCt G rX11_below mX11_below as h n K := by
  obtain ⟨h0, m, v, g, b, f, rfl, rfl, hb, hC, hK⟩ := hs
  refine ⟨⟨_, _, _, rfl, zRh_o⟩, zCt.of (by decide) (Nat.le_of_ble_eq_true rfl) ?_⟩
  have loop : ∀ (d i : Nat), b - i < d → i ≤ b → zZ (zXm G rX11_below mX11_below [.ref m, .int (nI b)] (zRh G h0 m v g) n K) 4 [(0, .ref m), (1, .int (nI b)), (2, .int (nI (zsm f i))), (3, .int (nI i))] [] (zRh G h0 m v g) n 0 0 := by
    intro d
    induction d with
    | zero => intro i hd; omega
    | succ d ih =>
      intro i hd hi
      refine z_iload_n dX11_below_4 rfl ?_
      refine z_iload_n dX11_below_5 rfl ?_
      refine z_icmp_ge (t := 24) dX11_below_6 (by decide) (fun q6 => ?_) (fun q6 => ?_)
      · have hie : i = b := by have := (nI_leI (by omega) (by omega)).mp q6; omega
        subst hie
        refine z_iload_n dX11_below_24 rfl ?_
        refine z_ireturn dX11_below_25 trivial (Nat.le_of_ble_eq_true rfl) (Nat.le_of_ble_eq_true rfl) ?_
        exact hK
      · have hil : i < b := by have := mt (nI_leI (by omega) (by omega)).mpr q6; omega
        refine z_iload_n dX11_below_9 rfl ?_
        refine z_aload_n dX11_below_10 rfl ?_
        refine zr_get dX11_below_11 fX11_44_11 rfl rfl ?_
        refine z_iload_n dX11_below_14 rfl ?_
        refine zr_ald (a := _) dX11_below_15 rfl (by decide) (by simp only [zrl]; omega) ?_
        rw [hC i (by omega)]
        refine z_iadd dX11_below_16 ?_
        rw [nI_add]
        refine z_istore_n dX11_below_17 (Nat.le_of_ble_eq_true rfl) ?_
        refine z_iinc dX11_below_18 rfl (Nat.le_of_ble_eq_true rfl) ?_
        refine z_goto (t := 4) dX11_below_21 (by decide) ?_
        rw [show nI i + Int32.ofInt 1 = nI (i + 1) from nI_1 i]
        exact ih (i + 1) (by omega) (by omega)
  refine z_iconst (w := 0) dX11_below_0 (by decide) ?_
  refine z_istore_n dX11_below_1 (Nat.le_of_ble_eq_true rfl) ?_
  refine z_iconst (w := 0) dX11_below_2 (by decide) ?_
  refine z_istore_n dX11_below_3 (Nat.le_of_ble_eq_true rfl) ?_
  exact loop (b + 1) 0 (by omega) (by omega)
abbrev rX11_isFound : Room := ⟨1, 0, 0, 40⟩
def SX11_isFound (G : zC) : zS := fun as h n K => ∃ (h0 : zH) (m : Nat) (v : Nat → Int32) (g : Nat → Nat → Int32) (L : List (Nat × Nat)) (x i : Nat), as = [.ref m, .int (nI x)] ∧ h = zRh G h0 m v g ∧ zSrt L ∧ (∀ q, q ∈ L → q.1 < 256 ∧ 0 < q.2 ∧ q.2 < 1000000) ∧ (∀ b, b < 256 → g 12 b = nI (zlc L b)) ∧ v 20 = nI (zps L L.length) ∧ v 21 = nI L.length ∧ x ≤ 256 ∧ zpick (L ++ [(257, L.length)]) x i ∧ ∀ v', zfv [22, 23, 24] v v' → v' 22 = nI (zps (L ++ [(257, L.length)]) i) → v' 23 = nI (zln (L ++ [(257, L.length)]) i) → v' 24 = nI (zps (L ++ [(257, L.length)]) (L ++ [(257, L.length)]).length) → K (some (.int (if zsg (L ++ [(257, L.length)]) i = 257 then 0 else 1))) (zRh G h0 m v' g) n
set_option maxRecDepth 100000 in
theorem tvX11_isFound {G : zC} {as : List Value} {h : zH} {n : Nat} {K : zP} (hs : SX11_isFound G as h n K) : (∃ b fs r, as = .ref b :: r ∧ h b = some (.inr (11, fs))) ∧ zCt G rX11_isFound mX11_isFound as h n K := by
  obtain ⟨h0, m, v, g, L, x, i, rfl, rfl, hS, hL, hC, h20, h21, hx, hp, hK⟩ := hs
  refine ⟨⟨_, _, _, rfl, zRh_o⟩, zCt.of (by decide) (Nat.le_of_ble_eq_true rfl) ?_⟩
  obtain ⟨hi1, hi2, hi3⟩ := hp
  have hi1' : i ≤ L.length := by simp at hi1; omega
  have htot : zps (L ++ [(257, L.length)]) (L ++ [(257, L.length)]).length = zps L L.length + L.length := by
    have hl1 : (L ++ [((257 : Nat), L.length)]).length = L.length + 1 := by simp
    rw [hl1, zps_last]
  have hyes : i < L.length → zsg L i = x ∧ x < 256 ∧ 0 < zlc L x := fun h => by
    rw [zsg_app h] at hi2
    have e : zsg L i = x := by
      rcases hi2 with e | e
      · exact e
      · simp at e; omega
    have h1 := hL _ (zsg_mem h)
    exact ⟨e, by rw [← e]; exact h1.1, by rw [← e, zlc_ln hS h]; exact h1.2.1⟩
  have hno : i = L.length → zlc L x = 0 := fun h => by
    by_cases z : 0 < zlc L x
    · obtain ⟨j, hj, e⟩ := (zlc_pos hS (fun q hq => (hL q hq).2.1)).mp z
      exact absurd (by rw [zsg_app hj]; exact e) (hi3 j (by omega))
    · omega
  have hct : zlc L x < 1000000 := by
    by_cases e : ∃ q, q ∈ L ∧ q.1 = x
    · obtain ⟨q, h1, rfl⟩ := e
      rw [zlc_mem hS h1]; exact (hL q h1).2.2
    · rw [zlc_not (fun q hq z => e ⟨q, hq, z⟩)]; omega
  refine z_aload_n dX11_isFound_0 rfl ?_
  refine z_aload_n dX11_isFound_1 rfl ?_
  refine zr_get dX11_isFound_2 fX11_110_11 rfl rfl ?_
  refine z_aload_n dX11_isFound_5 rfl ?_
  refine zr_get dX11_isFound_6 fX11_113_11 rfl rfl ?_
  refine z_iadd dX11_isFound_9 ?_
  refine zr_put dX11_isFound_10 fX11_116_11 rfl (fun q => absurd q (by decide)) zset_24 (by decide) (Or.inl rfl) ?_
  refine z_iload_n dX11_isFound_13 rfl ?_
  refine z_sipush (w := 256) dX11_isFound_14 (by decide) ?_
  refine z_icmp_ge (t := 33) dX11_isFound_17 (by decide) (fun q17 => ?_) (fun q17 => ?_)
  · have hx2 : x = 256 := by have := (nI_leI (a := 256) (b := x) (by omega) (by omega)).mp q17; omega
    refine z_iconst (w := 0) dX11_isFound_33 (by decide) ?_
    refine z_istore_n dX11_isFound_34 (Nat.le_of_ble_eq_true rfl) ?_
    refine z_aload_n dX11_isFound_35 rfl ?_
    refine z_iload_n dX11_isFound_36 rfl ?_
    refine z_if_eq (t := 48) dX11_isFound_37 (by decide) (fun q37 => ?_) (fun q37 => ?_)
    · refine z_aload_n dX11_isFound_48 rfl ?_
      refine zr_get dX11_isFound_49 fX11_110_11 rfl rfl ?_
      refine zr_put dX11_isFound_52 fX11_123_11 rfl (fun q => absurd q (by decide)) zset_22 (by decide) (Or.inl rfl) ?_
      refine z_aload_n dX11_isFound_55 rfl ?_
      refine z_iload_n dX11_isFound_56 rfl ?_
      refine z_if_eq (t := 69) dX11_isFound_57 (by decide) (fun q57 => ?_) (fun q57 => ?_)
      · refine z_aload_n dX11_isFound_69 rfl ?_
        refine zr_get dX11_isFound_70 fX11_113_11 rfl rfl ?_
        refine zr_put dX11_isFound_73 fX11_126_11 rfl (fun q => absurd q (by decide)) zset_23 (by decide) (Or.inl rfl) ?_
        refine z_iload_n dX11_isFound_76 rfl ?_
        refine z_ireturn dX11_isFound_77 (by first | exact Or.inl rfl | exact Or.inr rfl | simp) (Nat.le_of_ble_eq_true rfl) (Nat.le_of_ble_eq_true rfl) ?_
        have hiL : i = L.length := by rcases Nat.lt_or_ge i L.length with z | z; (have := (hyes z).2.1; omega); omega
        subst hiL
        rw [zsg_last, if_pos rfl, htot] at hK
        refine hK _ (((zfv.refl.up (by decide) _).up (by decide) _).up (by decide) _) ?_ ?_ ?_
        · rw [zu_ne (by decide), zu_eq, zu_ne (by decide), h20, zps_app (Nat.le_refl _)]
        · rw [zu_eq, zu_ne (by decide), zu_ne (by decide), h21, zln_last]
        · rw [zu_ne (by decide), zu_ne (by decide), zu_eq, h20, h21, nI_add]
      · exact absurd rfl q57
    · exact absurd rfl q37
  · have hx2 : x < 256 := by have := mt (nI_leI (a := 256) (b := x) (by omega) (by omega)).mpr q17; omega
    refine z_aload_n dX11_isFound_20 rfl ?_
    refine zr_get dX11_isFound_21 fX11_44_11 rfl rfl ?_
    refine z_iload_n dX11_isFound_24 rfl ?_
    refine zr_ald (a := _) dX11_isFound_25 rfl (by decide) (by simp only [zrl]; omega) ?_
    rw [hC x hx2]
    refine z_if_le (t := 33) dX11_isFound_26 (by decide) (fun q26 => ?_) (fun q26 => ?_)
    · have w26 : ¬ 0 < zlc L x := fun z => absurd q26 (nI_nle z (by omega))
      refine z_iconst (w := 0) dX11_isFound_33 (by decide) ?_
      refine z_istore_n dX11_isFound_34 (Nat.le_of_ble_eq_true rfl) ?_
      refine z_aload_n dX11_isFound_35 rfl ?_
      refine z_iload_n dX11_isFound_36 rfl ?_
      refine z_if_eq (t := 48) dX11_isFound_37 (by decide) (fun q37 => ?_) (fun q37 => ?_)
      · refine z_aload_n dX11_isFound_48 rfl ?_
        refine zr_get dX11_isFound_49 fX11_110_11 rfl rfl ?_
        refine zr_put dX11_isFound_52 fX11_123_11 rfl (fun q => absurd q (by decide)) zset_22 (by decide) (Or.inl rfl) ?_
        refine z_aload_n dX11_isFound_55 rfl ?_
        refine z_iload_n dX11_isFound_56 rfl ?_
        refine z_if_eq (t := 69) dX11_isFound_57 (by decide) (fun q57 => ?_) (fun q57 => ?_)
        · refine z_aload_n dX11_isFound_69 rfl ?_
          refine zr_get dX11_isFound_70 fX11_113_11 rfl rfl ?_
          refine zr_put dX11_isFound_73 fX11_126_11 rfl (fun q => absurd q (by decide)) zset_23 (by decide) (Or.inl rfl) ?_
          refine z_iload_n dX11_isFound_76 rfl ?_
          refine z_ireturn dX11_isFound_77 (by first | exact Or.inl rfl | exact Or.inr rfl | simp) (Nat.le_of_ble_eq_true rfl) (Nat.le_of_ble_eq_true rfl) ?_
          have hiL : i = L.length := by rcases Nat.lt_or_ge i L.length with z | z; (have := (hyes z).2.2; omega); omega
          subst hiL
          rw [zsg_last, if_pos rfl, htot] at hK
          refine hK _ (((zfv.refl.up (by decide) _).up (by decide) _).up (by decide) _) ?_ ?_ ?_
          · rw [zu_ne (by decide), zu_eq, zu_ne (by decide), h20, zps_app (Nat.le_refl _)]
          · rw [zu_eq, zu_ne (by decide), zu_ne (by decide), h21, zln_last]
          · rw [zu_ne (by decide), zu_ne (by decide), zu_eq, h20, h21, nI_add]
        · exact absurd rfl q57
      · exact absurd rfl q37
    · have w26 : 0 < zlc L x := by
        by_cases z : 0 < zlc L x
        · exact z
        · rw [show zlc L x = 0 by omega] at q26; exact absurd (by decide) q26
      refine z_iconst (w := 1) dX11_isFound_29 (by decide) ?_
      refine z_goto (t := 34) dX11_isFound_30 (by decide) ?_
      refine z_istore_n dX11_isFound_34 (Nat.le_of_ble_eq_true rfl) ?_
      refine z_aload_n dX11_isFound_35 rfl ?_
      refine z_iload_n dX11_isFound_36 rfl ?_
      refine z_if_eq (t := 48) dX11_isFound_37 (by decide) (fun q37 => ?_) (fun q37 => ?_)
      · exact absurd q37 (by decide)
      · refine z_aload_n dX11_isFound_40 rfl ?_
        refine z_iload_n dX11_isFound_41 rfl ?_
        refine zcall2 (zck_V (na := 1) (ci := 11) (R' := rX11_below) (M' := mX11_below) (fun _ _ _ _ => tvX11_below) (by decide) kX11_below lX11_119 (by decide +kernel) rfl) dX11_isFound_42 (Nat.le_of_ble_eq_true rfl) (Nat.le_of_ble_eq_true rfl) (Nat.le_of_ble_eq_true rfl) ?_
        refine ⟨h0, m, _, g, x, zlc L, rfl, rfl, hx, hC, ?_⟩
        refine z_goto (t := 52) dX11_isFound_45 (by decide) ?_
        refine zr_put dX11_isFound_52 fX11_123_11 rfl (fun q => absurd q (by decide)) zset_22 (by decide) (Or.inl rfl) ?_
        refine z_aload_n dX11_isFound_55 rfl ?_
        refine z_iload_n dX11_isFound_56 rfl ?_
        refine z_if_eq (t := 69) dX11_isFound_57 (by decide) (fun q57 => ?_) (fun q57 => ?_)
        · exact absurd q57 (by decide)
        · refine z_aload_n dX11_isFound_60 rfl ?_
          refine zr_get dX11_isFound_61 fX11_44_11 rfl rfl ?_
          refine z_iload_n dX11_isFound_64 rfl ?_
          refine zr_ald (a := _) dX11_isFound_65 rfl (by decide) (by simp only [zrl]; omega) ?_
          refine z_goto (t := 73) dX11_isFound_66 (by decide) ?_
          refine zr_put dX11_isFound_73 fX11_126_11 rfl (fun q => absurd q (by decide)) zset_23 (by decide) (Or.inl rfl) ?_
          refine z_iload_n dX11_isFound_76 rfl ?_
          refine z_ireturn dX11_isFound_77 (by first | exact Or.inl rfl | exact Or.inr rfl | simp) (Nat.le_of_ble_eq_true rfl) (Nat.le_of_ble_eq_true rfl) ?_
          have hiL : i < L.length := by
            rcases Nat.lt_or_ge i L.length with z | z
            · exact z
            · have := hno (by omega); omega
          obtain ⟨e1, e2, e3⟩ := hyes hiL
          have e257 : ¬ zsg (L ++ [(257, L.length)]) i = 257 := by rw [zsg_app hiL, e1]; omega
          rw [if_neg e257, htot] at hK
          refine hK _ (((zfv.refl.up (by decide) _).up (by decide) _).up (by decide) _) ?_ ?_ ?_
          · rw [zu_ne (by decide), zu_eq, zps_app (by omega), ← zsm_ps hS hiL, e1]
          · rw [zu_eq, hC x e2, zln_app hiL, ← zlc_ln hS hiL, e1]
          · rw [zu_ne (by decide), zu_ne (by decide), zu_eq, h20, h21, nI_add]
abbrev rX11_flat : Room := ⟨0, 0, 0, 0⟩
def SX11_flat (G : zC) : zS := fun as h n K => ∃ (h0 : zH) (m : Nat) (v : Nat → Int32) (g : Nat → Nat → Int32) (E : Nat → Bool) (x i : Nat), as = [.ref m, .int (nI x)] ∧ h = zRh G h0 m v g ∧ zRx g E ∧ v 18 = nI (zcard E 257) ∧ i < (zflat E 257 0).length ∧ zsg (zflat E 257 0) i = x ∧ ∀ v', zfv [22, 23, 24] v v' → v' 22 = nI (zps (zflat E 257 0) i) → v' 23 = nI (zln (zflat E 257 0) i) → v' 24 = nI (zps (zflat E 257 0) (zflat E 257 0).length) → K none (zRh G h0 m v' g) n
set_option maxRecDepth 100000 in
theorem tvX11_flat {G : zC} {as : List Value} {h : zH} {n : Nat} {K : zP} (hs : SX11_flat G as h n K) : (∃ b fs r, as = .ref b :: r ∧ h b = some (.inr (11, fs))) ∧ zCt G rX11_flat mX11_flat as h n K := by
  obtain ⟨h0, m, v, g, E, x, i0, rfl, rfl, hE, h18, hi0, hx, hK⟩ := hs
  refine ⟨⟨_, _, _, rfl, zRh_o⟩, zCt.of (by decide) (Nat.le_of_ble_eq_true rfl) ?_⟩
  have hx2 : x ≤ 256 := by have := (zflat_mem (zsg_mem hi0)).2.1; dsimp only at this; omega
  have hlen := zflat_len2 (E := E)
  rw [zflat_ps (by omega), zflat_ln hi0, zflat_ps (Nat.le_refl _)] at hK
  have loop : ∀ (d i : Nat) (v1 : Nat → Int32), x - i < d → i ≤ x → zfv [22, 23, 24] v v1 → v1 22 = nI (zsm (fun b => if E b = true then 0 else 1) i) → v1 23 = nI 1 → v1 24 = nI (zflat E 257 0).length → zZ (zXm G rX11_flat mX11_flat [.ref m, .int (nI x)] (zRh G h0 m v g) n K) 24 [(0, .ref m), (1, .int (nI x)), (2, .int (nI i))] [] (zRh G h0 m v1 g) n 0 0 := by
    intro d
    induction d with
    | zero => intro i v1 hd; omega
    | succ d ih =>
      intro i v1 hd hi hv h22 h23 h24
      refine z_iload_n dX11_flat_24 rfl ?_
      refine z_iload_n dX11_flat_25 rfl ?_
      refine z_icmp_ge (t := 58) dX11_flat_26 (by decide) (fun q26 => ?_) (fun q26 => ?_)
      · have hie : i = x := by have := (nI_leI (by omega) (by omega)).mp q26; omega
        subst hie
        refine z_vreturn dX11_flat_58 rfl (Nat.le_of_ble_eq_true rfl) (Nat.le_of_ble_eq_true rfl) ?_
        exact hK v1 hv (by rw [h22, ← hx, zflat_below hi0]) h23 h24
      · have hil : i < x := by have := mt (nI_leI (by omega) (by omega)).mpr q26; omega
        refine z_aload_n dX11_flat_29 rfl ?_
        refine z_dup dX11_flat_30 rfl ?_
        refine zr_get dX11_flat_31 fX11_123_11 rfl rfl ?_
        refine z_aload_n dX11_flat_34 rfl ?_
        refine zr_get dX11_flat_35 fX11_40_11 rfl rfl ?_
        refine z_iload_n dX11_flat_38 rfl ?_
        refine zr_bld (a := _) dX11_flat_39 rfl (by omega) ?_
        rw [hE i (by omega)]
        refine z_if_eq (t := 47) dX11_flat_40 (by decide) (fun q40 => ?_) (fun q40 => ?_)
        · have w40 : ¬ E i = true := fun z => by rw [if_pos z] at q40; exact absurd q40 (by decide)
          refine z_iconst (w := 1) dX11_flat_47 (by decide) ?_
          refine z_iadd dX11_flat_48 ?_
          refine zr_put dX11_flat_49 fX11_123_11 rfl (fun q => absurd q (by decide)) zset_22 (by decide) (Or.inl rfl) ?_
          refine z_iinc dX11_flat_52 rfl (Nat.le_of_ble_eq_true rfl) ?_
          refine z_goto (t := 24) dX11_flat_55 (by decide) ?_
          rw [show nI i + Int32.ofInt 1 = nI (i + 1) from nI_1 i]
          refine ih (i + 1) _ (by omega) (by omega) (hv.up (by decide) _) ?_ ?_ ?_
          · rw [zu_eq, h22, zsm]; rw [if_neg w40, nI_1]
          · rw [zu_ne (by decide)]; exact h23
          · rw [zu_ne (by decide)]; exact h24
        · have w40 : E i = true := by by_cases z : E i = true; exact z; exact absurd (if_neg z) q40
          refine z_iconst (w := 0) dX11_flat_43 (by decide) ?_
          refine z_goto (t := 48) dX11_flat_44 (by decide) ?_
          refine z_iadd dX11_flat_48 ?_
          refine zr_put dX11_flat_49 fX11_123_11 rfl (fun q => absurd q (by decide)) zset_22 (by decide) (Or.inl rfl) ?_
          refine z_iinc dX11_flat_52 rfl (Nat.le_of_ble_eq_true rfl) ?_
          refine z_goto (t := 24) dX11_flat_55 (by decide) ?_
          rw [show nI i + Int32.ofInt 1 = nI (i + 1) from nI_1 i]
          refine ih (i + 1) _ (by omega) (by omega) (hv.up (by decide) _) ?_ ?_ ?_
          · rw [zu_eq, h22, zsm]; rw [if_pos w40, Int32.add_zero, Nat.add_zero]
          · rw [zu_ne (by decide)]; exact h23
          · rw [zu_ne (by decide)]; exact h24
  refine z_aload_n dX11_flat_0 rfl ?_
  refine z_sipush (w := 257) dX11_flat_1 (by decide) ?_
  refine z_aload_n dX11_flat_4 rfl ?_
  refine zr_get dX11_flat_5 fX11_103_11 rfl rfl ?_
  refine z_isub dX11_flat_8 ?_
  refine zr_put dX11_flat_9 fX11_116_11 rfl (fun q => absurd q (by decide)) zset_24 (by decide) (Or.inl rfl) ?_
  refine z_aload_n dX11_flat_12 rfl ?_
  refine z_iconst (w := 1) dX11_flat_13 (by decide) ?_
  refine zr_put dX11_flat_14 fX11_126_11 rfl (fun q => absurd q (by decide)) zset_23 (by decide) (Or.inl rfl) ?_
  refine z_aload_n dX11_flat_17 rfl ?_
  refine z_iconst (w := 0) dX11_flat_18 (by decide) ?_
  refine zr_put dX11_flat_19 fX11_123_11 rfl (fun q => absurd q (by decide)) zset_22 (by decide) (Or.inl rfl) ?_
  refine z_iconst (w := 0) dX11_flat_22 (by decide) ?_
  refine z_istore_n dX11_flat_23 (Nat.le_of_ble_eq_true rfl) ?_
  refine loop (x + 1) 0 _ (by omega) (by omega) (((zfv.refl.up (by decide) _).up (by decide) _).up (by decide) _) zu_eq (by rw [zu_ne (by decide), zu_eq]; rfl) ?_
  rw [zu_ne (by decide), zu_ne (by decide), zu_eq, h18, show (257 : Int32) = nI 257 by decide, zn_sub (by omega)]
  congr 1; omega

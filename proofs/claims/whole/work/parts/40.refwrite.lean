/-! the reference: writing all -/
def zfs1 (s : Nat) (g g' : Nat → Nat → Int32) : Prop := (∀ i, i ≠ s → g' 4 i = g 4 i ∧ g' 8 i = g 8 i) ∧ (∀ i, ¬ (1500 * s ≤ i ∧ i < 1500 * s + 1500) → g' 5 i = g 5 i ∧ g' 6 i = g 6 i ∧ g' 7 i = g 7 i) ∧ ∀ i, ¬ (4 * s ≤ i ∧ i < 4 * s + 4) → g' 9 i = g 9 i
def zfx (s : Nat) (g g' : Nat → Nat → Int32) : Prop := zfg [4, 5, 6, 7, 8, 9, 11, 12, 13, 14, 15] g g' ∧ zfs1 s g g'
theorem zfx.refl {s : Nat} {g : Nat → Nat → Int32} : zfx s g g := ⟨zfg.refl, zfm.refl.2⟩
theorem zfx.trans {s : Nat} {g g1 g2 : Nat → Nat → Int32} (h : zfx s g g1) (h2 : zfx s g1 g2) : zfx s g g2 :=
  ⟨h.1.trans h2.1, fun i hi => ⟨(h2.2.1 i hi).1.trans (h.2.1 i hi).1, (h2.2.1 i hi).2.trans (h.2.1 i hi).2⟩, fun i hi => ⟨(h2.2.2.1 i hi).1.trans (h.2.2.1 i hi).1, (h2.2.2.1 i hi).2.1.trans (h.2.2.1 i hi).2.1, (h2.2.2.1 i hi).2.2.trans (h.2.2.1 i hi).2.2⟩, fun i hi => (h2.2.2.2 i hi).trans (h.2.2.2 i hi)⟩
theorem zfx.ofm {s : Nat} {g g' : Nat → Nat → Int32} (h : zfm s g g') : zfx s g g' := ⟨h.1.mono (by decide), h.2⟩
theorem zfx.ofg {s : Nat} {g g' : Nat → Nat → Int32} {S : List Nat} (h : zfg S g g') (hS : (S.all fun j => decide (11 ≤ j ∧ j ≤ 15)) = true) : zfx s g g' := by
  have hm : ∀ j, j ∈ S → 11 ≤ j ∧ j ≤ 15 := fun j hj => by
    have := List.all_eq_true.mp hS j hj
    simpa using this
  have e : ∀ j, j ≤ 10 → g' j = g j := fun j hj => h j (fun z => by have := hm j z; omega)
  refine ⟨fun j hj => ?_, ?_⟩
  · by_cases z : j ∈ S
    · exfalso
      have := hm j z
      apply hj
      have : j = 11 ∨ j = 12 ∨ j = 13 ∨ j = 14 ∨ j = 15 := by omega
      rcases this with rfl | rfl | rfl | rfl | rfl <;> decide
    · exact h j z
  · rw [zfs1, e 4 (by decide), e 5 (by decide), e 6 (by decide), e 7 (by decide), e 8 (by decide), e 9 (by decide)]
    exact ⟨fun _ _ => ⟨rfl, rfl⟩, fun _ _ => ⟨rfl, rfl, rfl⟩, fun _ _ => rfl⟩
theorem zRm.otherx {g g' : Nat → Nat → Int32} {s t : Nat} {T : zTree} {lm : Nat} {lat : Nat → Nat} (h : zfx s g g') (hst : t ≠ s) (H : zRm g t T lm lat) : zRm g' t T lm lat := by
  obtain ⟨hn, hlm, hP, hB, hC, hLt, hl4, hT⟩ := H
  have h2 := hT.2.1
  refine ⟨(h.2.1 t hst).1.trans hn, (h.2.1 t hst).2.trans hlm, fun i hi => ?_, fun i hi => ?_, fun i hi => ?_, fun i hi => ?_, hl4, hT⟩
  · rw [(h.2.2.1 _ (by omega)).1]; exact hP i hi
  · rw [(h.2.2.1 _ (by omega)).2.1]; exact hB i hi
  · rw [(h.2.2.1 _ (by omega)).2.2]; exact hC i hi
  · rw [h.2.2.2 _ (by omega)]; exact hLt i hi
abbrev zVW : List Nat := [18, 20, 21, 22, 23, 24, 25, 26, 27, 28, 29, 31, 32]
def zWs (s : Nat) (v : Nat → Int32) (g : Nat → Nat → Int32) (v1 : Nat → Int32) (g1 : Nat → Nat → Int32) (M : zMs) (es rs : Nat) : Prop := zfv zVW v v1 ∧ zfx s g g1 ∧ zRm g1 s M.1 M.2.2.1 M.2.2.2.1 ∧ v1 31 = nI es ∧ v1 32 = nI rs
theorem zWs.mv {s : Nat} {v v1 v2 : Nat → Int32} {g g1 g2 : Nat → Nat → Int32} {M : zMs} {es rs : Nat} (H : zWs s v g v1 g1 M es rs) {Sv Sg : List Nat} (hv : zfv Sv v1 v2) (hg : zfg Sg g1 g2) (h1 : (Sv.all fun k => decide (k ∈ zVW ∧ k ≠ 31 ∧ k ≠ 32)) = true) (h2 : (Sg.all fun j => decide (11 ≤ j ∧ j ≤ 15)) = true) : zWs s v g v2 g2 M es rs := by
  obtain ⟨a1, a2, a3, a4, a5⟩ := H
  have hm : ∀ k, k ∈ Sv → k ∈ zVW ∧ k ≠ 31 ∧ k ≠ 32 := fun k hk => by simpa using List.all_eq_true.mp h1 k hk
  refine ⟨a1.trans (hv.mono (fun k hk => (hm k hk).1)), a2.trans (zfx.ofg hg h2), a3.keep hg ?_, ?_, ?_⟩
  · refine List.all_eq_true.mpr (fun j hj => ?_)
    have := List.all_eq_true.mp h2 j hj
    simp only [decide_eq_true_eq] at this ⊢
    omega
  · rw [hv 31 (fun z => (hm 31 z).2.1 rfl)]; exact a4
  · rw [hv 32 (fun z => (hm 32 z).2.2 rfl)]; exact a5
theorem zRe.mv {v v2 : Nat → Int32} {g g2 : Nat → Nat → Int32} {e : zEs} (H : zRe v g e) (h26 : v2 26 = v 26) (h27 : v2 27 = v 27) (h28 : v2 28 = v 28) (h29 : v2 29 = v 29) (h13 : g2 13 = g 13) : zRe v2 g2 e := ⟨h29.trans H.1, h26.trans H.2.1, h27.trans H.2.2.1, h28.trans H.2.2.2.1, by rw [h13]; exact H.2.2.2.2⟩
def zff : Option Nat → Int32
  | none => -3
  | some k => nI k
abbrev rX11_writeAll : Room := ⟨4, 0, 0, 160⟩
def SX11_writeAll (G : zC) : zS := fun as h n K => ∃ (h0 : zH) (m : Nat) (v : Nat → Int32) (g : Nat → Nat → Int32) (s j nn o rm : Nat) (tx : Nat → Nat) (M : zMs) (f0 : Nat → Int32) (X0 : Nat → Nat) (F0 : Nat → Option Nat) (R : zPr), as = [.ref m, .int (nI s), .ref (m + j), .int (nI nn)] ∧ h = zRh G h0 m v g ∧ s ≤ 6 ∧ (j = 1 ∨ j = 19) ∧ nn ≤ 300 ∧ (∀ i, i < nn → g j i = nI (tx i) ∧ tx i < 256) ∧ v 1 = nI o ∧ v 2 = nI rm ∧ o ≤ 4 ∧ rm ≤ 1500 ∧ zMi o rm M ∧ zRm g s M.1 M.2.2.1 M.2.2.2.1 ∧ zPk o rm tx nn 0 (M, (f0, 0, 0, 65535, 0), 0, 0, X0, F0) R ∧ ∀ v' g', zWs s v g v' g' R.1 R.2.2.1 R.2.2.2.1 → zRe v' g' (zput1 (R.2.1.1, R.2.1.2.1, R.2.1.2.2.1, R.2.1.2.2.2.1, R.2.1.2.2.2.2 + 1) (if R.2.1.2.2.1 < 16384 then 0 else 1)) → (∀ i, i ≤ nn → g' 14 i = nI (R.2.2.2.2.1 i) ∧ g' 15 i = zff (R.2.2.2.2.2 i)) → K none (zRh G h0 m v' g') n
set_option maxRecDepth 100000 in
theorem tvX11_writeAll {G : zC} {as : List Value} {h : zH} {n : Nat} {K : zP} (hs : SX11_writeAll G as h n K) : (∃ b fs r, as = .ref b :: r ∧ h b = some (.inr (11, fs))) ∧ zCt G rX11_writeAll mX11_writeAll as h n K := by
  obtain ⟨h0, m, v, g, s, j, nn, o, rm, tx, M, f0, X0, F0, R, rfl, rfl, hs, hj, hnn, htx, hv1, hv2, ho4, hrm, hMi, hM, hPk, hK⟩ := hs
  refine ⟨⟨_, _, _, rfl, zRh_o⟩, zCt.of (by decide) (Nat.le_of_ble_eq_true rfl) ?_⟩
  have hjj : (j ≠ 11 ∧ 1 ≤ j) ∧ j ≤ 19 := by omega
  have hjl : nn ≤ zrl j := by rcases hj with rfl | rfl <;> exact hnn
  have inner : ∀ (M : zMs) (x i es rs : Nat) (a14 a15 : Nat → Int32) (y : zYr zEs), zMi o rm M → x ≤ 256 → (∀ (f : Int32) (E2 : Nat → Bool) (e2 : zEs) (v2 : Nat → Int32) (g2 : Nat → Nat → Int32), ((∃ k, f = nI k ∧ y.2.2.2.2.2 = some k ∧ e2 = y.1) ∨ (f = -3 ∧ y.2.2.2.2.2 = none ∧ y.2.2.1 = zcard E2 257 ∧ E2 256 = false ∧ zRx g2 E2 ∧ E2 x = false ∧ zEok e2 ∧ e2.2.1 + e2.2.2.2.2 + 27 < 47000 ∧ zTl (zSyW x) M.1.2.2.1 M.1.2.2.2 M.2.1 M.2.2.2.2 0 E2 y.2.2.1 y.2.2.2.1 e2 y)) → zWs s v g v2 g2 M (es + y.2.2.2.1) rs → zRe v2 g2 e2 → v2 18 = nI y.2.2.1 → g2 14 = a14 → g2 15 = a15 → zZ (zXm G rX11_writeAll mX11_writeAll [.ref m, .int (nI s), .ref (m + j), .int (nI nn)] (zRh G h0 m v g) n K) 138 [(0, .ref m), (1, .int (nI s)), (2, .ref (m + j)), (3, .int (nI nn)), (4, .int (nI i)), (5, .int (nI x)), (6, .int f)] [] (zRh G h0 m v2 g2) n 0 0) → ∀ (c : Nat) (E : Nat → Bool) (ex es1 : Nat) (e1 : zEs) (v1 : Nat → Int32) (g1 : Nat → Nat → Int32), c ≤ M.2.2.1 + 1 → zTl (zSyW x) M.1.2.2.1 M.1.2.2.2 M.2.1 M.2.2.2.2 c E ex es1 e1 y → ex = zcard E 257 → E 256 = false → E x = false → zWs s v g v1 g1 M (es + es1) rs → zRe v1 g1 e1 → zRx g1 E → v1 18 = nI ex → zEok e1 → e1.2.1 + e1.2.2.2.2 + 11 * c + 27 < 47000 → g1 14 = a14 → g1 15 = a15 → zZ (zXm G rX11_writeAll mX11_writeAll [.ref m, .int (nI s), .ref (m + j), .int (nI nn)] (zRh G h0 m v g) n K) 74 [(0, .ref m), (1, .int (nI s)), (2, .ref (m + j)), (3, .int (nI nn)), (4, .int (nI i)), (5, .int (nI x)), (6, .int (-3)), (7, .int (zkI c))] [] (zRh G h0 m v1 g1) n 0 0 := by
    intro M x i es rs a14 a15 y hMi hx hcont c
    obtain ⟨m1, m2, m3, m4, m5, m6, m7, m8⟩ := hMi
    induction c with
    | zero =>
      intro E ex es1 e1 v1 g1 hc ht hex hE1 hE2 hW hR hX h18 hok hcap h14 h15
      refine z_iload dX11_writeAll_74 rfl ?_
      refine z_if_lt (t := 138) dX11_writeAll_76 (by decide) (fun q76 => ?_) (fun q76 => ?_)
      · refine zZ.keep [0, 1, 2, 3, 4, 5, 6] ?_
        have ht0 := ht
        obtain ⟨i0, s0, -, hy⟩ := ht
        have hy3 : y.2.2.1 = ex := by rw [hy]
        have hy4 : y.2.2.2.1 = es1 := by rw [hy]
        have hy5 : y.2.2.2.2.2 = none := by rw [hy]
        exact hcont (-3) E e1 v1 g1 (Or.inr ⟨rfl, hy5, by rw [hy3]; exact hex, hE1, hX, hE2, hok, by omega, by rw [hy3, hy4]; exact ht0⟩) (by rw [hy4]; exact hW) hR (by rw [hy3]; exact h18) h14 h15
      · exact absurd (by decide) q76
    | succ c ih =>
      intro E ex es1 e1 v1 g1 hc ht hex hE1 hE2 hW hR hX h18 hok hcap h14 h15
      have hcc := m7 c (by omega)
      have hW0 := hW
      obtain ⟨a1, a2, a3, a4, a5⟩ := hW
      have hlk : zkI (c + 1) = nI c := by simp [zkI]
      obtain ⟨f1, f2⟩ := zoff_fac m1 m2 hcc.1 E
      have hl256 : (zoff M.1.2.2.1 M.1.2.2.2 E (M.2.1 (M.2.2.2.2 c))).length ≤ 256 := Nat.le_trans (zoff_len _ _ _ _) (zlen256 (m1.2.1 _ hcc.1).2 (fun d hd => (m1.2.2.2 d (m1.2.2.1 _ d hcc.1 hd).1 (m1.2.2.1 _ d hcc.1 hd).2.1).2.2.1))
      rw [hlk]
      refine z_iload dX11_writeAll_74 rfl ?_
      refine z_if_lt (t := 138) dX11_writeAll_76 (by decide) (fun q76 => ?_) (fun q76 => ?_)
      · exact absurd q76 (nI_pos (by omega))
      · refine z_iload dX11_writeAll_79 rfl ?_
        refine z_if_ge (t := 138) dX11_writeAll_81 (by decide) (fun q81 => ?_) (fun q81 => ?_)
        · exact absurd q81 (by decide)
        · refine z_aload_n dX11_writeAll_84 rfl ?_
          refine z_iload_n dX11_writeAll_85 rfl ?_
          refine z_iload dX11_writeAll_86 rfl ?_
          refine zcall3 (zck_V (na := 2) (ci := 11) (R' := rX11_look) (M' := mX11_look) (fun _ _ _ _ => tvX11_look) (by decide) kX11_look lX11_170 (by decide +kernel) rfl) dX11_writeAll_88 (Nat.le_of_ble_eq_true rfl) (Nat.le_of_ble_eq_true rfl) (Nat.le_of_ble_eq_true rfl) ?_
          refine ⟨h0, m, v1, g1, s, c, M.2.2.2.2 c, M.1, M.2.1, M.2.2.1, M.2.2.2.1, E, rfl, rfl, a3, m1, hs, (by omega), hcc.2, hcc.1, hX, fun v2 g2 hv2 hg2 e20 e21 ec => ?_⟩
          have hW2 := hW0.mv hv2 hg2 (by decide) (by decide)
          have hR2 := hR.mv (hv2 26 (by decide)) (hv2 27 (by decide)) (hv2 28 (by decide)) (hv2 29 (by decide)) (hg2 13 (by decide))
          have hX2 : zRx g2 E := fun b hb => by rw [hg2 11 (by decide)]; exact hX b hb
          have h18b : v2 18 = nI ex := (hv2 18 (by decide)).trans h18
          refine z_aload_n dX11_writeAll_91 rfl ?_
          refine zr_get dX11_writeAll_92 fX11_113_11 rfl rfl ?_
          rw [e21]
          rcases ht with ⟨hz, ht⟩ | ⟨hne, i0, e2, ⟨hpk, rfl⟩, ht⟩
          · rw [show (zoff M.1.2.2.1 M.1.2.2.2 E (M.2.1 (M.2.2.2.2 c))).length = 0 by rw [hz]; rfl]
            refine z_if_le (t := 132) dX11_writeAll_95 (by decide) (fun q95 => ?_) (fun q95 => ?_)
            · refine z_iinc dX11_writeAll_132 rfl (Nat.le_of_ble_eq_true rfl) ?_
              refine z_goto (t := 74) dX11_writeAll_135 (by decide) ?_
              rw [show nI c + Int32.ofInt (-1) = zkI c by unfold zkI; split; (rename_i e; subst e; decide); exact sb_m1 (by omega)]
              exact ih E ex es1 e1 v2 g2 (by omega) ht hex hE1 hE2 hW2 hR2 hX2 h18b hok (by omega) ((hg2 14 (by decide)).trans h14) ((hg2 15 (by decide)).trans h15)
            · exact absurd (by decide) q95
          · have hok2 := (zoff_ok m1 m2 hcc.1 E hne).1
            have hlen : 0 < (zoff M.1.2.2.1 M.1.2.2.2 E (M.2.1 (M.2.2.2.2 c))).length := List.length_pos_iff.mpr hne
            rcases ht with ⟨hsg, hy⟩ | ⟨hsg, ht⟩
            · refine z_if_le (t := 132) dX11_writeAll_95 (by decide) (fun q95 => ?_) (fun q95 => ?_)
              · exact absurd q95 (nI_nle hlen (by omega))
              · refine z_aload_n dX11_writeAll_98 rfl ?_
                refine z_iload dX11_writeAll_99 rfl ?_
                refine zcall2 (zck_V (na := 1) (ci := 11) (R' := rX11_isFound) (M' := mX11_isFound) (fun _ _ _ _ => tvX11_isFound) (by decide) kX11_isFound lX11_173 (by decide +kernel) rfl) dX11_writeAll_101 (Nat.le_of_ble_eq_true rfl) (Nat.le_of_ble_eq_true rfl) (Nat.le_of_ble_eq_true rfl) ?_
                refine ⟨h0, m, v2, g2, (zoff M.1.2.2.1 M.1.2.2.2 E (M.2.1 (M.2.2.2.2 c))), x, i0, rfl, rfl, f1, (fun q hq => ⟨(f2 q hq).1, (f2 q hq).2.1, (f2 q hq).2.2.1⟩), ec, e20, e21, hx, hpk, fun v3 hv3 i22 i23 i24 => ?_⟩
                have hW3 := hW2.mv hv3 (zfg.refl (S := [])) (by decide) (by decide)
                have hR3 := hR2.mv (g2 := g2) (hv3 26 (by decide)) (hv3 27 (by decide)) (hv3 28 (by decide)) (hv3 29 (by decide)) rfl
                refine z_if_eq (t := 114) dX11_writeAll_104 (by decide) (fun q104 => ?_) (fun q104 => ?_)
                · exact absurd q104 (by rw [if_neg hsg]; decide)
                · refine z_iload dX11_writeAll_107 rfl ?_
                  refine z_istore dX11_writeAll_109 (Nat.le_of_ble_eq_true rfl) ?_
                  refine z_goto (t := 128) dX11_writeAll_111 (by decide) ?_
                  refine z_aload_n dX11_writeAll_128 rfl ?_
                  refine zcall1 (zck_V (na := 0) (ci := 11) (R' := rX11_write) (M' := mX11_write) (fun _ _ _ _ => tvX11_write) (by decide) kX11_write lX11_180 (by decide +kernel) rfl) dX11_writeAll_129 (Nat.le_of_ble_eq_true rfl) (Nat.le_of_ble_eq_true rfl) (Nat.le_of_ble_eq_true rfl) ?_
                  refine ⟨h0, m, v3, g2, e1, zps ((zoff M.1.2.2.1 M.1.2.2.2 E (M.2.1 (M.2.2.2.2 c))) ++ [(257, (zoff M.1.2.2.1 M.1.2.2.2 E (M.2.1 (M.2.2.2.2 c))).length)]) i0, zln ((zoff M.1.2.2.1 M.1.2.2.2 E (M.2.1 (M.2.2.2.2 c))) ++ [(257, (zoff M.1.2.2.1 M.1.2.2.2 E (M.2.1 (M.2.2.2.2 c))).length)]) i0, zps ((zoff M.1.2.2.1 M.1.2.2.2 E (M.2.1 (M.2.2.2.2 c))) ++ [(257, (zoff M.1.2.2.1 M.1.2.2.2 E (M.2.1 (M.2.2.2.2 c))).length)]) ((zoff M.1.2.2.1 M.1.2.2.2 E (M.2.1 (M.2.2.2.2 c))) ++ [(257, (zoff M.1.2.2.1 M.1.2.2.2 E (M.2.1 (M.2.2.2.2 c))).length)]).length, rfl, rfl, hR3, hok, i22, i23, i24, hok2.2.2.2.2, hok2.2.2.2.1, zln_le hpk.1, (hok2.2.2.1 i0 hpk.1).2, (by omega), fun v5 g5 hv5 hg5 hR5 => ?_⟩
                  have hW5 := hW3.mv hv5 hg5 (by decide) (by decide)
                  refine z_iinc dX11_writeAll_132 rfl (Nat.le_of_ble_eq_true rfl) ?_
                  refine z_goto (t := 74) dX11_writeAll_135 (by decide) ?_
                  refine z_iload dX11_writeAll_74 rfl ?_
                  refine z_if_lt (t := 138) dX11_writeAll_76 (by decide) (fun q76 => ?_) (fun q76 => ?_)
                  · refine zZ.keep [0, 1, 2, 3, 4, 5, 6] ?_
                    have hy3 : y.2.2.1 = ex := by rw [hy]
                    have hy4 : y.2.2.2.1 = es1 := by rw [hy]
                    exact hcont (nI c) E _ v5 g5 (Or.inl ⟨c, rfl, by rw [hy], by rw [hy]⟩) (by rw [hy4]; exact hW5) hR5 (by rw [hy3, hv5 18 (by decide), hv3 18 (by decide)]; exact h18b) ((hg5 14 (by decide)).trans ((hg2 14 (by decide)).trans h14)) ((hg5 15 (by decide)).trans ((hg2 15 (by decide)).trans h15))
                  · refine z_iload dX11_writeAll_79 rfl ?_
                    refine z_if_ge (t := 138) dX11_writeAll_81 (by decide) (fun q81 => ?_) (fun q81 => ?_)
                    · refine zZ.keep [0, 1, 2, 3, 4, 5, 6] ?_
                      have hy3 : y.2.2.1 = ex := by rw [hy]
                      have hy4 : y.2.2.2.1 = es1 := by rw [hy]
                      exact hcont (nI c) E _ v5 g5 (Or.inl ⟨c, rfl, by rw [hy], by rw [hy]⟩) (by rw [hy4]; exact hW5) hR5 (by rw [hy3, hv5 18 (by decide), hv3 18 (by decide)]; exact h18b) ((hg5 14 (by decide)).trans ((hg2 14 (by decide)).trans h14)) ((hg5 15 (by decide)).trans ((hg2 15 (by decide)).trans h15))
                    · exact absurd (nI_pos' (by omega)) q81
            · refine z_if_le (t := 132) dX11_writeAll_95 (by decide) (fun q95 => ?_) (fun q95 => ?_)
              · exact absurd q95 (nI_nle hlen (by omega))
              · refine z_aload_n dX11_writeAll_98 rfl ?_
                refine z_iload dX11_writeAll_99 rfl ?_
                refine zcall2 (zck_V (na := 1) (ci := 11) (R' := rX11_isFound) (M' := mX11_isFound) (fun _ _ _ _ => tvX11_isFound) (by decide) kX11_isFound lX11_173 (by decide +kernel) rfl) dX11_writeAll_101 (Nat.le_of_ble_eq_true rfl) (Nat.le_of_ble_eq_true rfl) (Nat.le_of_ble_eq_true rfl) ?_
                refine ⟨h0, m, v2, g2, (zoff M.1.2.2.1 M.1.2.2.2 E (M.2.1 (M.2.2.2.2 c))), x, i0, rfl, rfl, f1, (fun q hq => ⟨(f2 q hq).1, (f2 q hq).2.1, (f2 q hq).2.2.1⟩), ec, e20, e21, hx, hpk, fun v3 hv3 i22 i23 i24 => ?_⟩
                have hW3 := hW2.mv hv3 (zfg.refl (S := [])) (by decide) (by decide)
                have hR3 := hR2.mv (g2 := g2) (hv3 26 (by decide)) (hv3 27 (by decide)) (hv3 28 (by decide)) (hv3 29 (by decide)) rfl
                refine z_if_eq (t := 114) dX11_writeAll_104 (by decide) (fun q104 => ?_) (fun q104 => ?_)
                · refine z_aload_n dX11_writeAll_114 rfl ?_
                  refine z_dup dX11_writeAll_115 rfl ?_
                  refine zr_get dX11_writeAll_116 fX11_161_11 rfl rfl ?_
                  rw [hv3 31 (by decide), hv2 31 (by decide), a4]
                  refine z_iconst (w := 1) dX11_writeAll_119 (by decide) ?_
                  refine z_iadd dX11_writeAll_120 ?_
                  rw [nI_1]
                  refine zr_put dX11_writeAll_121 fX11_161_11 rfl (fun q => absurd q (by decide)) zset_31 (by decide) (Or.inl rfl) ?_
                  refine z_aload_n dX11_writeAll_124 rfl ?_
                  refine zcall1 (zck_V (na := 0) (ci := 11) (R' := rX11_exclude) (M' := mX11_exclude) (fun _ _ _ _ => tvX11_exclude) (by decide) kX11_exclude lX11_177 (by decide +kernel) rfl) dX11_writeAll_125 (Nat.le_of_ble_eq_true rfl) (Nat.le_of_ble_eq_true rfl) (Nat.le_of_ble_eq_true rfl) ?_
                  refine ⟨h0, m, _, g2, E, (zoff M.1.2.2.1 M.1.2.2.2 E (M.2.1 (M.2.2.2.2 c))), (257, (zoff M.1.2.2.1 M.1.2.2.2 E (M.2.1 (M.2.2.2.2 c))).length), ex, rfl, rfl, hX2, f1, (fun q hq => ⟨(f2 q hq).1, (f2 q hq).2.1, (f2 q hq).2.2.1⟩), ec, (by rw [zu_ne (by decide), hv3 18 (by decide)]; exact h18b), fun v4 g4 hv4 hg4 i18 hX4 => ?_⟩
                  have hR4 := hR3.mv (v2 := v4) (g2 := g4) (by rw [hv4 26 (by decide), zu_ne (by decide)]) (by rw [hv4 27 (by decide), zu_ne (by decide)]) (by rw [hv4 28 (by decide), zu_ne (by decide)]) (by rw [hv4 29 (by decide), zu_ne (by decide)]) (hg4 13 (by decide))
                  refine z_aload_n dX11_writeAll_128 rfl ?_
                  refine zcall1 (zck_V (na := 0) (ci := 11) (R' := rX11_write) (M' := mX11_write) (fun _ _ _ _ => tvX11_write) (by decide) kX11_write lX11_180 (by decide +kernel) rfl) dX11_writeAll_129 (Nat.le_of_ble_eq_true rfl) (Nat.le_of_ble_eq_true rfl) (Nat.le_of_ble_eq_true rfl) ?_
                  refine ⟨h0, m, v4, g4, e1, zps ((zoff M.1.2.2.1 M.1.2.2.2 E (M.2.1 (M.2.2.2.2 c))) ++ [(257, (zoff M.1.2.2.1 M.1.2.2.2 E (M.2.1 (M.2.2.2.2 c))).length)]) i0, zln ((zoff M.1.2.2.1 M.1.2.2.2 E (M.2.1 (M.2.2.2.2 c))) ++ [(257, (zoff M.1.2.2.1 M.1.2.2.2 E (M.2.1 (M.2.2.2.2 c))).length)]) i0, zps ((zoff M.1.2.2.1 M.1.2.2.2 E (M.2.1 (M.2.2.2.2 c))) ++ [(257, (zoff M.1.2.2.1 M.1.2.2.2 E (M.2.1 (M.2.2.2.2 c))).length)]) ((zoff M.1.2.2.1 M.1.2.2.2 E (M.2.1 (M.2.2.2.2 c))) ++ [(257, (zoff M.1.2.2.1 M.1.2.2.2 E (M.2.1 (M.2.2.2.2 c))).length)]).length, rfl, rfl, hR4, hok, (by rw [hv4 22 (by decide), zu_ne (by decide)]; exact i22), (by rw [hv4 23 (by decide), zu_ne (by decide)]; exact i23), (by rw [hv4 24 (by decide), zu_ne (by decide)]; exact i24), hok2.2.2.2.2, hok2.2.2.2.1, zln_le hpk.1, (hok2.2.2.1 i0 hpk.1).2, (by omega), fun v5 g5 hv5 hg5 hR5 => ?_⟩
                  have hW4 : zWs s v g v4 g4 M (es + (es1 + 1)) rs := by
                    obtain ⟨b1, b2, b3, b4, b5⟩ := hW3
                    refine ⟨(b1.up (by decide) _).trans (hv4.mono (by decide)), b2.trans (zfx.ofg hg4 (by decide)), b3.keep hg4 (by decide), ?_, ?_⟩
                    · rw [hv4 31 (by decide), zu_eq, Nat.add_assoc]
                    · rw [hv4 32 (by decide), zu_ne (by decide)]; exact b5
                  have hW5 := hW4.mv hv5 hg5 (by decide) (by decide)
                  have hok5 := ztake_ok (e := e1) (x := zps ((zoff M.1.2.2.1 M.1.2.2.2 E (M.2.1 (M.2.2.2.2 c))) ++ [(257, (zoff M.1.2.2.1 M.1.2.2.2 E (M.2.1 (M.2.2.2.2 c))).length)]) i0) (y := zln ((zoff M.1.2.2.1 M.1.2.2.2 E (M.2.1 (M.2.2.2.2 c))) ++ [(257, (zoff M.1.2.2.1 M.1.2.2.2 E (M.2.1 (M.2.2.2.2 c))).length)]) i0) (t := zps ((zoff M.1.2.2.1 M.1.2.2.2 E (M.2.1 (M.2.2.2.2 c))) ++ [(257, (zoff M.1.2.2.1 M.1.2.2.2 E (M.2.1 (M.2.2.2.2 c))).length)]) ((zoff M.1.2.2.1 M.1.2.2.2 E (M.2.1 (M.2.2.2.2 c))) ++ [(257, (zoff M.1.2.2.1 M.1.2.2.2 E (M.2.1 (M.2.2.2.2 c))).length)]).length) hok hok2.2.2.2.2 hok2.2.2.2.1 (zln_le hpk.1) (hok2.2.2.1 i0 hpk.1).2
                  have hx5 : zexc E ((zoff M.1.2.2.1 M.1.2.2.2 E (M.2.1 (M.2.2.2.2 c))) ++ [(257, (zoff M.1.2.2.1 M.1.2.2.2 E (M.2.1 (M.2.2.2.2 c))).length)]) (zoff M.1.2.2.1 M.1.2.2.2 E (M.2.1 (M.2.2.2.2 c))).length x = false := by
                    rw [zexc_ct f1 (fun q hq => (f2 q hq).2.1), hE2, Bool.false_or, decide_eq_false_iff_not, zlc_pos f1 (fun q hq => (f2 q hq).2.1)]
                    rintro ⟨j9, hj9, e9⟩
                    have hi9 : i0 = (zoff M.1.2.2.1 M.1.2.2.2 E (M.2.1 (M.2.2.2.2 c))).length := by
                      rcases Nat.lt_or_ge i0 (zoff M.1.2.2.1 M.1.2.2.2 E (M.2.1 (M.2.2.2.2 c))).length with z | z
                      · exfalso
                        rw [zsg_app z] at hsg
                        have := (f2 _ (zsg_mem z)).1
                        dsimp only at this
                        omega
                      · have := hpk.1
                        rw [List.length_append] at this
                        simp at this
                        omega
                    exact hpk.2.2 j9 (by omega) (by rw [zsg_app hj9]; exact e9)
                  refine z_iinc dX11_writeAll_132 rfl (Nat.le_of_ble_eq_true rfl) ?_
                  refine z_goto (t := 74) dX11_writeAll_135 (by decide) ?_
                  rw [show nI c + Int32.ofInt (-1) = zkI c by unfold zkI; split; (rename_i e; subst e; decide); exact sb_m1 (by omega)]
                  refine ih _ _ _ _ v5 g5 (by omega) ht ?_ (zexc_256 m1 m2 hcc.1 hE1) hx5 hW5 hR5 (fun b hb => by rw [hg5 11 (by decide)]; exact hX4 b hb) (by rw [hv5 18 (by decide)]; exact i18) hok5.1 (by have := hok5.2; omega) ((hg5 14 (by decide)).trans ((hg4 14 (by decide)).trans ((hg2 14 (by decide)).trans h14))) ((hg5 15 (by decide)).trans ((hg4 15 (by decide)).trans ((hg2 15 (by decide)).trans h15)))
                  rw [hex, zcard_exc f1 (fun q hq => ⟨(f2 q hq).1, (f2 q hq).2.1, (f2 q hq).2.2.2⟩)]
                · exact absurd (by rw [if_pos hsg]) q104
  sorry

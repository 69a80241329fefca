/-! the reference: writing all -/
def zfs1 (s : Nat) (g g' : Nat → Nat → Int32) : Prop := (∀ i, i ≠ s → g' 4 i = g 4 i ∧ g' 8 i = g 8 i) ∧ (∀ i, ¬ (1500 * s ≤ i ∧ i < 1500 * s + 1500) → g' 5 i = g 5 i ∧ g' 6 i = g 6 i ∧ g' 7 i = g 7 i) ∧ ∀ i, ¬ (4 * s ≤ i ∧ i < 4 * s + 4) → g' 9 i = g 9 i
def zfx (s : Nat) (g g' : Nat → Nat → Int32) : Prop := zfg [4, 5, 6, 7, 8, 9, 11, 12, 13, 14, 15] g g' ∧ zfs1 s g g'
theorem zfx.refl {s : Nat} {g : Nat → Nat → Int32} : zfx s g g := ⟨zfg.refl, zfm.refl.2⟩
theorem zfx.trans {s : Nat} {g g1 g2 : Nat → Nat → Int32} (h : zfx s g g1) (h2 : zfx s g1 g2) : zfx s g g2 :=
  ⟨h.1.trans h2.1, fun i hi => ⟨(h2.2.1 i hi).1.trans (h.2.1 i hi).1, (h2.2.1 i hi).2.trans (h.2.1 i hi).2⟩, fun i hi => ⟨(h2.2.2.1 i hi).1.trans (h.2.2.1 i hi).1, (h2.2.2.1 i hi).2.1.trans (h.2.2.1 i hi).2.1, (h2.2.2.1 i hi).2.2.trans (h.2.2.1 i hi).2.2⟩, fun i hi => (h2.2.2.2 i hi).trans (h.2.2.2 i hi)⟩
theorem zfx.ofm {s : Nat} {g g' : Nat → Nat → Int32} (h : zfm s g g') : zfx s g g' := ⟨h.1.mono (by decide), h.2⟩
theorem zfx.ofg {s : Nat} {g g' : Nat → Nat → Int32} {S : List Nat} (h : zfg S g g') (hS : (S.all fun j => decide (11 ≤ j ∧ j ≤ 15)) = true) : zfx s g g' := by
  have hm : ∀ j, j ∈ S → 11 ≤ j ∧ j ≤ 15 := fun j hj => by
    have := List.all_eq_true.mp hS j hj
    simpa using this
  have e : ∀ j, j ≤ 10 → g' j = g j := fun j hj => h j (fun z => by have := hm j z; omega)
  refine ⟨fun j hj => ?_, ?_⟩
  · by_cases z : j ∈ S
    · exfalso
      have := hm j z
      apply hj
      have : j = 11 ∨ j = 12 ∨ j = 13 ∨ j = 14 ∨ j = 15 := by omega
      rcases this with rfl | rfl | rfl | rfl | rfl <;> decide
    · exact h j z
  · rw [zfs1, e 4 (by decide), e 5 (by decide), e 6 (by decide), e 7 (by decide), e 8 (by decide), e 9 (by decide)]
    exact ⟨fun _ _ => ⟨rfl, rfl⟩, fun _ _ => ⟨rfl, rfl, rfl⟩, fun _ _ => rfl⟩
theorem zRm.otherx {g g' : Nat → Nat → Int32} {s t : Nat} {T : zTree} {lm : Nat} {lat : Nat → Nat} (h : zfx s g g') (hst : t ≠ s) (H : zRm g t T lm lat) : zRm g' t T lm lat := by
  obtain ⟨hn, hlm, hP, hB, hC, hLt, hl4, hT⟩ := H
  have h2 := hT.2.1
  refine ⟨(h.2.1 t hst).1.trans hn, (h.2.1 t hst).2.trans hlm, fun i hi => ?_, fun i hi => ?_, fun i hi => ?_, fun i hi => ?_, hl4, hT⟩
  · rw [(h.2.2.1 _ (by omega)).1]; exact hP i hi
  · rw [(h.2.2.1 _ (by omega)).2.1]; exact hB i hi
  · rw [(h.2.2.1 _ (by omega)).2.2]; exact hC i hi
  · rw [h.2.2.2 _ (by omega)]; exact hLt i hi
abbrev zVW : List Nat := [18, 20, 21, 22, 23, 24, 25, 26, 27, 28, 29, 31, 32]
def zWs (s : Nat) (v : Nat → Int32) (g : Nat → Nat → Int32) (v1 : Nat → Int32) (g1 : Nat → Nat → Int32) (M : zMs) (es rs : Nat) : Prop := zfv zVW v v1 ∧ zfx s g g1 ∧ zRm g1 s M.1 M.2.2.1 M.2.2.2.1 ∧ v1 31 = nI es ∧ v1 32 = nI rs
theorem zWs.mv {s : Nat} {v v1 v2 : Nat → Int32} {g g1 g2 : Nat → Nat → Int32} {M : zMs} {es rs : Nat} (H : zWs s v g v1 g1 M es rs) {Sv Sg : List Nat} (hv : zfv Sv v1 v2) (hg : zfg Sg g1 g2) (h1 : (Sv.all fun k => decide (k ∈ zVW ∧ k ≠ 31 ∧ k ≠ 32)) = true) (h2 : (Sg.all fun j => decide (11 ≤ j ∧ j ≤ 15)) = true) : zWs s v g v2 g2 M es rs := by
  obtain ⟨a1, a2, a3, a4, a5⟩ := H
  have hm : ∀ k, k ∈ Sv → k ∈ zVW ∧ k ≠ 31 ∧ k ≠ 32 := fun k hk => by simpa using List.all_eq_true.mp h1 k hk
  refine ⟨a1.trans (hv.mono (fun k hk => (hm k hk).1)), a2.trans (zfx.ofg hg h2), a3.keep hg ?_, ?_, ?_⟩
  · refine List.all_eq_true.mpr (fun j hj => ?_)
    have := List.all_eq_true.mp h2 j hj
    simp only [decide_eq_true_eq] at this ⊢
    omega
  · rw [hv 31 (fun z => (hm 31 z).2.1 rfl)]; exact a4
  · rw [hv 32 (fun z => (hm 32 z).2.2 rfl)]; exact a5
theorem zRe.mv {v v2 : Nat → Int32} {g g2 : Nat → Nat → Int32} {e : zEs} (H : zRe v g e) (h26 : v2 26 = v 26) (h27 : v2 27 = v 27) (h28 : v2 28 = v 28) (h29 : v2 29 = v 29) (h13 : g2 13 = g 13) : zRe v2 g2 e := ⟨h29.trans H.1, h26.trans H.2.1, h27.trans H.2.2.1, h28.trans H.2.2.2.1, by rw [h13]; exact H.2.2.2.2⟩
def zff : Option Nat → Int32
  | none => -3
  | some k => nI k
theorem zpick_in {L : List (Nat × Nat)} {x i : Nat} (h : zpick L x i) (hm : (x, 1) ∈ L) : zsg L i = x := by
  obtain ⟨h1, h2, h3⟩ := h
  rcases h2 with h2 | ⟨h2, -⟩
  · exact h2
  · obtain ⟨j, j1, j2⟩ := List.getElem_of_mem hm
    have j3 : zsg L j = x := by simp [zsg, List.getD_eq_getElem?_getD, j1, j2]
    rcases Nat.lt_or_ge j i with z | z
    · exact absurd j3 (h3 j z)
    · rw [show i = j by omega]; exact j3
theorem zEok0 (f : Nat → Int32) : zEok (f, 0, 0, 65535, 0) := ⟨by show 0 ≤ 65535; decide, by show 65535 < 65536; decide, by show 16384 < 65535 - 0 + 1; decide⟩
theorem zcard_0 : zcard (fun _ => false) 257 = 0 := (zsm_congr (fun _ _ => rfl)).trans (zsm_zero 257)
abbrev rX11_writeAll : Room := ⟨4, 0, 0, 160⟩
def SX11_writeAll (G : zC) : zS := fun as h n K => ∃ (h0 : zH) (m : Nat) (v : Nat → Int32) (g : Nat → Nat → Int32) (s j nn o rm : Nat) (tx : Nat → Nat) (M : zMs) (f0 : Nat → Int32) (X0 : Nat → Nat) (F0 : Nat → Option Nat) (R : zPr), as = [.ref m, .int (nI s), .ref (m + j), .int (nI nn)] ∧ h = zRh G h0 m v g ∧ s ≤ 6 ∧ (j = 1 ∨ j = 19) ∧ nn ≤ 300 ∧ (∀ i, i < nn → g j i = nI (tx i) ∧ tx i < 256) ∧ v 1 = nI o ∧ v 2 = nI rm ∧ o ≤ 4 ∧ rm ≤ 1500 ∧ zMi o rm M ∧ zRm g s M.1 M.2.2.1 M.2.2.2.1 ∧ zPk o rm tx nn 0 (M, (f0, 0, 0, 65535, 0), 0, 0, X0, F0) R ∧ ∀ v' g', zWs s v g v' g' R.1 R.2.2.1 R.2.2.2.1 → zRe v' g' (zput1 (R.2.1.1, R.2.1.2.1, R.2.1.2.2.1, R.2.1.2.2.2.1, R.2.1.2.2.2.2 + 1) (if R.2.1.2.2.1 < 16384 then 0 else 1)) → (∀ i, i ≤ nn → g' 14 i = nI (R.2.2.2.2.1 i) ∧ g' 15 i = zff (R.2.2.2.2.2 i)) → K none (zRh G h0 m v' g') n
set_option maxRecDepth 100000 in
theorem tvX11_writeAll {G : zC} {as : List Value} {h : zH} {n : Nat} {K : zP} (hs : SX11_writeAll G as h n K) : (∃ b fs r, as = .ref b :: r ∧ h b = some (.inr (11, fs))) ∧ zCt G rX11_writeAll mX11_writeAll as h n K := by
  obtain ⟨h0, m, v, g, s, j, nn, o, rm, tx, M, f0, X0, F0, R, rfl, rfl, hs, hj, hnn, htx, hv1, hv2, ho4, hrm, hMi, hM, hPk, hK⟩ := hs
  refine ⟨⟨_, _, _, rfl, zRh_o⟩, zCt.of (by decide) (Nat.le_of_ble_eq_true rfl) ?_⟩
  have hjj : (j ≠ 11 ∧ 1 ≤ j) ∧ j ≤ 19 := by omega
  have hjl : nn ≤ zrl j := by rcases hj with rfl | rfl <;> exact hnn
  have inner : ∀ (M : zMs) (x i es rs : Nat) (a14 a15 : Nat → Int32) (y : zYr zEs), zMi o rm M → x ≤ 256 → (∀ (f : Int32) (E2 : Nat → Bool) (e2 : zEs) (v2 : Nat → Int32) (g2 : Nat → Nat → Int32), ((∃ k, f = nI k ∧ y.2.2.2.2.2 = some k ∧ e2 = y.1) ∨ (f = -3 ∧ y.2.2.2.2.2 = none ∧ y.2.2.1 = zcard E2 257 ∧ E2 256 = false ∧ zRx g2 E2 ∧ E2 x = false ∧ zEok e2 ∧ e2.2.1 + e2.2.2.2.2 + 27 < 47000 ∧ zTl (zSyW x) M.1.2.2.1 M.1.2.2.2 M.2.1 M.2.2.2.2 0 E2 y.2.2.1 y.2.2.2.1 e2 y)) → zWs s v g v2 g2 M (es + y.2.2.2.1) rs → zRe v2 g2 e2 → v2 18 = nI y.2.2.1 → g2 14 = a14 → g2 15 = a15 → zZ (zXm G rX11_writeAll mX11_writeAll [.ref m, .int (nI s), .ref (m + j), .int (nI nn)] (zRh G h0 m v g) n K) 138 [(0, .ref m), (1, .int (nI s)), (2, .ref (m + j)), (3, .int (nI nn)), (4, .int (nI i)), (5, .int (nI x)), (6, .int f)] [] (zRh G h0 m v2 g2) n 0 0) → ∀ (c : Nat) (E : Nat → Bool) (ex es1 : Nat) (e1 : zEs) (v1 : Nat → Int32) (g1 : Nat → Nat → Int32), c ≤ M.2.2.1 + 1 → zTl (zSyW x) M.1.2.2.1 M.1.2.2.2 M.2.1 M.2.2.2.2 c E ex es1 e1 y → ex = zcard E 257 → E 256 = false → E x = false → zWs s v g v1 g1 M (es + es1) rs → zRe v1 g1 e1 → zRx g1 E → v1 18 = nI ex → zEok e1 → e1.2.1 + e1.2.2.2.2 + 11 * c + 27 < 47000 → g1 14 = a14 → g1 15 = a15 → zZ (zXm G rX11_writeAll mX11_writeAll [.ref m, .int (nI s), .ref (m + j), .int (nI nn)] (zRh G h0 m v g) n K) 74 [(0, .ref m), (1, .int (nI s)), (2, .ref (m + j)), (3, .int (nI nn)), (4, .int (nI i)), (5, .int (nI x)), (6, .int (-3)), (7, .int (zkI c))] [] (zRh G h0 m v1 g1) n 0 0 := by
    intro M x i es rs a14 a15 y hMi hx hcont c
    obtain ⟨m1, m2, m3, m4, m5, m6, m7, m8⟩ := hMi
    induction c with
    | zero =>
      intro E ex es1 e1 v1 g1 hc ht hex hE1 hE2 hW hR hX h18 hok hcap h14 h15
      refine z_iload dX11_writeAll_74 rfl ?_
      refine z_if_lt (t := 138) dX11_writeAll_76 (by decide) (fun q76 => ?_) (fun q76 => ?_)
      · refine zZ.keep [0, 1, 2, 3, 4, 5, 6] ?_
        have ht0 := ht
        obtain ⟨i0, s0, -, hy⟩ := ht
        have hy3 : y.2.2.1 = ex := by rw [hy]
        have hy4 : y.2.2.2.1 = es1 := by rw [hy]
        have hy5 : y.2.2.2.2.2 = none := by rw [hy]
        exact hcont (-3) E e1 v1 g1 (Or.inr ⟨rfl, hy5, by rw [hy3]; exact hex, hE1, hX, hE2, hok, by omega, by rw [hy3, hy4]; exact ht0⟩) (by rw [hy4]; exact hW) hR (by rw [hy3]; exact h18) h14 h15
      · exact absurd (by decide) q76
    | succ c ih =>
      intro E ex es1 e1 v1 g1 hc ht hex hE1 hE2 hW hR hX h18 hok hcap h14 h15
      have hcc := m7 c (by omega)
      have hW0 := hW
      obtain ⟨a1, a2, a3, a4, a5⟩ := hW
      have hlk : zkI (c + 1) = nI c := by simp [zkI]
      obtain ⟨f1, f2⟩ := zoff_fac m1 m2 hcc.1 E
      have hl256 : (zoff M.1.2.2.1 M.1.2.2.2 E (M.2.1 (M.2.2.2.2 c))).length ≤ 256 := Nat.le_trans (zoff_len _ _ _ _) (zlen256 (m1.2.1 _ hcc.1).2 (fun d hd => (m1.2.2.2 d (m1.2.2.1 _ d hcc.1 hd).1 (m1.2.2.1 _ d hcc.1 hd).2.1).2.2.1))
      rw [hlk]
      refine z_iload dX11_writeAll_74 rfl ?_
      refine z_if_lt (t := 138) dX11_writeAll_76 (by decide) (fun q76 => ?_) (fun q76 => ?_)
      · exact absurd q76 (nI_pos (by omega))
      · refine z_iload dX11_writeAll_79 rfl ?_
        refine z_if_ge (t := 138) dX11_writeAll_81 (by decide) (fun q81 => ?_) (fun q81 => ?_)
        · exact absurd q81 (by decide)
        · refine z_aload_n dX11_writeAll_84 rfl ?_
          refine z_iload_n dX11_writeAll_85 rfl ?_
          refine z_iload dX11_writeAll_86 rfl ?_
          refine zcall3 (zck_V (na := 2) (ci := 11) (R' := rX11_look) (M' := mX11_look) (fun _ _ _ _ => tvX11_look) (by decide) kX11_look lX11_170 (by decide +kernel) rfl) dX11_writeAll_88 (Nat.le_of_ble_eq_true rfl) (Nat.le_of_ble_eq_true rfl) (Nat.le_of_ble_eq_true rfl) ?_
          refine ⟨h0, m, v1, g1, s, c, M.2.2.2.2 c, M.1, M.2.1, M.2.2.1, M.2.2.2.1, E, rfl, rfl, a3, m1, hs, (by omega), hcc.2, hcc.1, hX, fun v2 g2 hv2 hg2 e20 e21 ec => ?_⟩
          have hW2 := hW0.mv hv2 hg2 (by decide) (by decide)
          have hR2 := hR.mv (hv2 26 (by decide)) (hv2 27 (by decide)) (hv2 28 (by decide)) (hv2 29 (by decide)) (hg2 13 (by decide))
          have hX2 : zRx g2 E := fun b hb => by rw [hg2 11 (by decide)]; exact hX b hb
          have h18b : v2 18 = nI ex := (hv2 18 (by decide)).trans h18
          refine z_aload_n dX11_writeAll_91 rfl ?_
          refine zr_get dX11_writeAll_92 fX11_113_11 rfl rfl ?_
          rw [e21]
          rcases ht with ⟨hz, ht⟩ | ⟨hne, i0, e2, ⟨hpk, rfl⟩, ht⟩
          · rw [show (zoff M.1.2.2.1 M.1.2.2.2 E (M.2.1 (M.2.2.2.2 c))).length = 0 by rw [hz]; rfl]
            refine z_if_le (t := 132) dX11_writeAll_95 (by decide) (fun q95 => ?_) (fun q95 => ?_)
            · refine z_iinc dX11_writeAll_132 rfl (Nat.le_of_ble_eq_true rfl) ?_
              refine z_goto (t := 74) dX11_writeAll_135 (by decide) ?_
              rw [show nI c + Int32.ofInt (-1) = zkI c by unfold zkI; split; (rename_i e; subst e; decide); exact sb_m1 (by omega)]
              exact ih E ex es1 e1 v2 g2 (by omega) ht hex hE1 hE2 hW2 hR2 hX2 h18b hok (by omega) ((hg2 14 (by decide)).trans h14) ((hg2 15 (by decide)).trans h15)
            · exact absurd (by decide) q95
          · have hok2 := (zoff_ok m1 m2 hcc.1 E hne).1
            have hlen : 0 < (zoff M.1.2.2.1 M.1.2.2.2 E (M.2.1 (M.2.2.2.2 c))).length := List.length_pos_iff.mpr hne
            rcases ht with ⟨hsg, hy⟩ | ⟨hsg, ht⟩
            · refine z_if_le (t := 132) dX11_writeAll_95 (by decide) (fun q95 => ?_) (fun q95 => ?_)
              · exact absurd q95 (nI_nle hlen (by omega))
              · refine z_aload_n dX11_writeAll_98 rfl ?_
                refine z_iload dX11_writeAll_99 rfl ?_
                refine zcall2 (zck_V (na := 1) (ci := 11) (R' := rX11_isFound) (M' := mX11_isFound) (fun _ _ _ _ => tvX11_isFound) (by decide) kX11_isFound lX11_173 (by decide +kernel) rfl) dX11_writeAll_101 (Nat.le_of_ble_eq_true rfl) (Nat.le_of_ble_eq_true rfl) (Nat.le_of_ble_eq_true rfl) ?_
                refine ⟨h0, m, v2, g2, (zoff M.1.2.2.1 M.1.2.2.2 E (M.2.1 (M.2.2.2.2 c))), x, i0, rfl, rfl, f1, (fun q hq => ⟨(f2 q hq).1, (f2 q hq).2.1, (f2 q hq).2.2.1⟩), ec, e20, e21, hx, hpk, fun v3 hv3 i22 i23 i24 => ?_⟩
                have hW3 := hW2.mv hv3 (zfg.refl (S := [])) (by decide) (by decide)
                have hR3 := hR2.mv (g2 := g2) (hv3 26 (by decide)) (hv3 27 (by decide)) (hv3 28 (by decide)) (hv3 29 (by decide)) rfl
                refine z_if_eq (t := 114) dX11_writeAll_104 (by decide) (fun q104 => ?_) (fun q104 => ?_)
                · exact absurd q104 (by rw [if_neg hsg]; decide)
                · refine z_iload dX11_writeAll_107 rfl ?_
                  refine z_istore dX11_writeAll_109 (Nat.le_of_ble_eq_true rfl) ?_
                  refine z_goto (t := 128) dX11_writeAll_111 (by decide) ?_
                  refine z_aload_n dX11_writeAll_128 rfl ?_
                  refine zcall1 (zck_V (na := 0) (ci := 11) (R' := rX11_write) (M' := mX11_write) (fun _ _ _ _ => tvX11_write) (by decide) kX11_write lX11_180 (by decide +kernel) rfl) dX11_writeAll_129 (Nat.le_of_ble_eq_true rfl) (Nat.le_of_ble_eq_true rfl) (Nat.le_of_ble_eq_true rfl) ?_
                  refine ⟨h0, m, v3, g2, e1, zps ((zoff M.1.2.2.1 M.1.2.2.2 E (M.2.1 (M.2.2.2.2 c))) ++ [(257, (zoff M.1.2.2.1 M.1.2.2.2 E (M.2.1 (M.2.2.2.2 c))).length)]) i0, zln ((zoff M.1.2.2.1 M.1.2.2.2 E (M.2.1 (M.2.2.2.2 c))) ++ [(257, (zoff M.1.2.2.1 M.1.2.2.2 E (M.2.1 (M.2.2.2.2 c))).length)]) i0, zps ((zoff M.1.2.2.1 M.1.2.2.2 E (M.2.1 (M.2.2.2.2 c))) ++ [(257, (zoff M.1.2.2.1 M.1.2.2.2 E (M.2.1 (M.2.2.2.2 c))).length)]) ((zoff M.1.2.2.1 M.1.2.2.2 E (M.2.1 (M.2.2.2.2 c))) ++ [(257, (zoff M.1.2.2.1 M.1.2.2.2 E (M.2.1 (M.2.2.2.2 c))).length)]).length, rfl, rfl, hR3, hok, i22, i23, i24, hok2.2.2.2.2, hok2.2.2.2.1, zln_le hpk.1, (hok2.2.2.1 i0 hpk.1).2, (by omega), fun v5 g5 hv5 hg5 hR5 => ?_⟩
                  have hW5 := hW3.mv hv5 hg5 (by decide) (by decide)
                  refine z_iinc dX11_writeAll_132 rfl (Nat.le_of_ble_eq_true rfl) ?_
                  refine z_goto (t := 74) dX11_writeAll_135 (by decide) ?_
                  refine z_iload dX11_writeAll_74 rfl ?_
                  refine z_if_lt (t := 138) dX11_writeAll_76 (by decide) (fun q76 => ?_) (fun q76 => ?_)
                  · refine zZ.keep [0, 1, 2, 3, 4, 5, 6] ?_
                    have hy3 : y.2.2.1 = ex := by rw [hy]
                    have hy4 : y.2.2.2.1 = es1 := by rw [hy]
                    exact hcont (nI c) E _ v5 g5 (Or.inl ⟨c, rfl, by rw [hy], by rw [hy]⟩) (by rw [hy4]; exact hW5) hR5 (by rw [hy3, hv5 18 (by decide), hv3 18 (by decide)]; exact h18b) ((hg5 14 (by decide)).trans ((hg2 14 (by decide)).trans h14)) ((hg5 15 (by decide)).trans ((hg2 15 (by decide)).trans h15))
                  · refine z_iload dX11_writeAll_79 rfl ?_
                    refine z_if_ge (t := 138) dX11_writeAll_81 (by decide) (fun q81 => ?_) (fun q81 => ?_)
                    · refine zZ.keep [0, 1, 2, 3, 4, 5, 6] ?_
                      have hy3 : y.2.2.1 = ex := by rw [hy]
                      have hy4 : y.2.2.2.1 = es1 := by rw [hy]
                      exact hcont (nI c) E _ v5 g5 (Or.inl ⟨c, rfl, by rw [hy], by rw [hy]⟩) (by rw [hy4]; exact hW5) hR5 (by rw [hy3, hv5 18 (by decide), hv3 18 (by decide)]; exact h18b) ((hg5 14 (by decide)).trans ((hg2 14 (by decide)).trans h14)) ((hg5 15 (by decide)).trans ((hg2 15 (by decide)).trans h15))
                    · exact absurd (nI_pos' (by omega)) q81
            · refine z_if_le (t := 132) dX11_writeAll_95 (by decide) (fun q95 => ?_) (fun q95 => ?_)
              · exact absurd q95 (nI_nle hlen (by omega))
              · refine z_aload_n dX11_writeAll_98 rfl ?_
                refine z_iload dX11_writeAll_99 rfl ?_
                refine zcall2 (zck_V (na := 1) (ci := 11) (R' := rX11_isFound) (M' := mX11_isFound) (fun _ _ _ _ => tvX11_isFound) (by decide) kX11_isFound lX11_173 (by decide +kernel) rfl) dX11_writeAll_101 (Nat.le_of_ble_eq_true rfl) (Nat.le_of_ble_eq_true rfl) (Nat.le_of_ble_eq_true rfl) ?_
                refine ⟨h0, m, v2, g2, (zoff M.1.2.2.1 M.1.2.2.2 E (M.2.1 (M.2.2.2.2 c))), x, i0, rfl, rfl, f1, (fun q hq => ⟨(f2 q hq).1, (f2 q hq).2.1, (f2 q hq).2.2.1⟩), ec, e20, e21, hx, hpk, fun v3 hv3 i22 i23 i24 => ?_⟩
                have hW3 := hW2.mv hv3 (zfg.refl (S := [])) (by decide) (by decide)
                have hR3 := hR2.mv (g2 := g2) (hv3 26 (by decide)) (hv3 27 (by decide)) (hv3 28 (by decide)) (hv3 29 (by decide)) rfl
                refine z_if_eq (t := 114) dX11_writeAll_104 (by decide) (fun q104 => ?_) (fun q104 => ?_)
                · refine z_aload_n dX11_writeAll_114 rfl ?_
                  refine z_dup dX11_writeAll_115 rfl ?_
                  refine zr_get dX11_writeAll_116 fX11_161_11 rfl rfl ?_
                  rw [hv3 31 (by decide), hv2 31 (by decide), a4]
                  refine z_iconst (w := 1) dX11_writeAll_119 (by decide) ?_
                  refine z_iadd dX11_writeAll_120 ?_
                  rw [nI_1]
                  refine zr_put dX11_writeAll_121 fX11_161_11 rfl (fun q => absurd q (by decide)) zset_31 (by decide) (Or.inl rfl) ?_
                  refine z_aload_n dX11_writeAll_124 rfl ?_
                  refine zcall1 (zck_V (na := 0) (ci := 11) (R' := rX11_exclude) (M' := mX11_exclude) (fun _ _ _ _ => tvX11_exclude) (by decide) kX11_exclude lX11_177 (by decide +kernel) rfl) dX11_writeAll_125 (Nat.le_of_ble_eq_true rfl) (Nat.le_of_ble_eq_true rfl) (Nat.le_of_ble_eq_true rfl) ?_
                  refine ⟨h0, m, _, g2, E, (zoff M.1.2.2.1 M.1.2.2.2 E (M.2.1 (M.2.2.2.2 c))), (257, (zoff M.1.2.2.1 M.1.2.2.2 E (M.2.1 (M.2.2.2.2 c))).length), ex, rfl, rfl, hX2, f1, (fun q hq => ⟨(f2 q hq).1, (f2 q hq).2.1, (f2 q hq).2.2.1⟩), ec, (by rw [zu_ne (by decide), hv3 18 (by decide)]; exact h18b), fun v4 g4 hv4 hg4 i18 hX4 => ?_⟩
                  have hR4 := hR3.mv (v2 := v4) (g2 := g4) (by rw [hv4 26 (by decide), zu_ne (by decide)]) (by rw [hv4 27 (by decide), zu_ne (by decide)]) (by rw [hv4 28 (by decide), zu_ne (by decide)]) (by rw [hv4 29 (by decide), zu_ne (by decide)]) (hg4 13 (by decide))
                  refine z_aload_n dX11_writeAll_128 rfl ?_
                  refine zcall1 (zck_V (na := 0) (ci := 11) (R' := rX11_write) (M' := mX11_write) (fun _ _ _ _ => tvX11_write) (by decide) kX11_write lX11_180 (by decide +kernel) rfl) dX11_writeAll_129 (Nat.le_of_ble_eq_true rfl) (Nat.le_of_ble_eq_true rfl) (Nat.le_of_ble_eq_true rfl) ?_
                  refine ⟨h0, m, v4, g4, e1, zps ((zoff M.1.2.2.1 M.1.2.2.2 E (M.2.1 (M.2.2.2.2 c))) ++ [(257, (zoff M.1.2.2.1 M.1.2.2.2 E (M.2.1 (M.2.2.2.2 c))).length)]) i0, zln ((zoff M.1.2.2.1 M.1.2.2.2 E (M.2.1 (M.2.2.2.2 c))) ++ [(257, (zoff M.1.2.2.1 M.1.2.2.2 E (M.2.1 (M.2.2.2.2 c))).length)]) i0, zps ((zoff M.1.2.2.1 M.1.2.2.2 E (M.2.1 (M.2.2.2.2 c))) ++ [(257, (zoff M.1.2.2.1 M.1.2.2.2 E (M.2.1 (M.2.2.2.2 c))).length)]) ((zoff M.1.2.2.1 M.1.2.2.2 E (M.2.1 (M.2.2.2.2 c))) ++ [(257, (zoff M.1.2.2.1 M.1.2.2.2 E (M.2.1 (M.2.2.2.2 c))).length)]).length, rfl, rfl, hR4, hok, (by rw [hv4 22 (by decide), zu_ne (by decide)]; exact i22), (by rw [hv4 23 (by decide), zu_ne (by decide)]; exact i23), (by rw [hv4 24 (by decide), zu_ne (by decide)]; exact i24), hok2.2.2.2.2, hok2.2.2.2.1, zln_le hpk.1, (hok2.2.2.1 i0 hpk.1).2, (by omega), fun v5 g5 hv5 hg5 hR5 => ?_⟩
                  have hW4 : zWs s v g v4 g4 M (es + (es1 + 1)) rs := by
                    obtain ⟨b1, b2, b3, b4, b5⟩ := hW3
                    refine ⟨(b1.up (by decide) _).trans (hv4.mono (by decide)), b2.trans (zfx.ofg hg4 (by decide)), b3.keep hg4 (by decide), ?_, ?_⟩
                    · rw [hv4 31 (by decide), zu_eq, Nat.add_assoc]
                    · rw [hv4 32 (by decide), zu_ne (by decide)]; exact b5
                  have hW5 := hW4.mv hv5 hg5 (by decide) (by decide)
                  have hok5 := ztake_ok (e := e1) (x := zps ((zoff M.1.2.2.1 M.1.2.2.2 E (M.2.1 (M.2.2.2.2 c))) ++ [(257, (zoff M.1.2.2.1 M.1.2.2.2 E (M.2.1 (M.2.2.2.2 c))).length)]) i0) (y := zln ((zoff M.1.2.2.1 M.1.2.2.2 E (M.2.1 (M.2.2.2.2 c))) ++ [(257, (zoff M.1.2.2.1 M.1.2.2.2 E (M.2.1 (M.2.2.2.2 c))).length)]) i0) (t := zps ((zoff M.1.2.2.1 M.1.2.2.2 E (M.2.1 (M.2.2.2.2 c))) ++ [(257, (zoff M.1.2.2.1 M.1.2.2.2 E (M.2.1 (M.2.2.2.2 c))).length)]) ((zoff M.1.2.2.1 M.1.2.2.2 E (M.2.1 (M.2.2.2.2 c))) ++ [(257, (zoff M.1.2.2.1 M.1.2.2.2 E (M.2.1 (M.2.2.2.2 c))).length)]).length) hok hok2.2.2.2.2 hok2.2.2.2.1 (zln_le hpk.1) (hok2.2.2.1 i0 hpk.1).2
                  have hx5 : zexc E ((zoff M.1.2.2.1 M.1.2.2.2 E (M.2.1 (M.2.2.2.2 c))) ++ [(257, (zoff M.1.2.2.1 M.1.2.2.2 E (M.2.1 (M.2.2.2.2 c))).length)]) (zoff M.1.2.2.1 M.1.2.2.2 E (M.2.1 (M.2.2.2.2 c))).length x = false := by
                    rw [zexc_ct f1 (fun q hq => (f2 q hq).2.1), hE2, Bool.false_or, decide_eq_false_iff_not, zlc_pos f1 (fun q hq => (f2 q hq).2.1)]
                    rintro ⟨j9, hj9, e9⟩
                    have hi9 : i0 = (zoff M.1.2.2.1 M.1.2.2.2 E (M.2.1 (M.2.2.2.2 c))).length := by
                      rcases Nat.lt_or_ge i0 (zoff M.1.2.2.1 M.1.2.2.2 E (M.2.1 (M.2.2.2.2 c))).length with z | z
                      · exfalso
                        rw [zsg_app z] at hsg
                        have := (f2 _ (zsg_mem z)).1
                        dsimp only at this
                        omega
                      · have := hpk.1
                        rw [List.length_append] at this
                        simp at this
                        omega
                    exact hpk.2.2 j9 (by omega) (by rw [zsg_app hj9]; exact e9)
                  refine z_iinc dX11_writeAll_132 rfl (Nat.le_of_ble_eq_true rfl) ?_
                  refine z_goto (t := 74) dX11_writeAll_135 (by decide) ?_
                  rw [show nI c + Int32.ofInt (-1) = zkI c by unfold zkI; split; (rename_i e; subst e; decide); exact sb_m1 (by omega)]
                  refine ih _ _ _ _ v5 g5 (by omega) ht ?_ (zexc_256 m1 m2 hcc.1 hE1) hx5 hW5 hR5 (fun b hb => by rw [hg5 11 (by decide)]; exact hX4 b hb) (by rw [hv5 18 (by decide)]; exact i18) hok5.1 (by have := hok5.2; omega) ((hg5 14 (by decide)).trans ((hg4 14 (by decide)).trans ((hg2 14 (by decide)).trans h14))) ((hg5 15 (by decide)).trans ((hg4 15 (by decide)).trans ((hg2 15 (by decide)).trans h15)))
                  rw [hex, zcard_exc f1 (fun q hq => ⟨(f2 q hq).1, (f2 q hq).2.1, (f2 q hq).2.2.2⟩)]
                · exact absurd (by rw [if_pos hsg]) q104
  have sign : ∀ (M : zMs) (x i es rs : Nat) (e : zEs) (y : zYr zEs) (XX : Nat → Nat) (FF : Nat → Option Nat) (v1 : Nat → Int32) (g1 : Nat → Nat → Int32), zMi o rm M → x ≤ 256 → i ≤ 300 → zTM (zSyW x) M e y → zWs s v g v1 g1 M es rs → zRe v1 g1 e → zEok e → e.2.1 + e.2.2.2.2 ≤ 66 * i → (∀ q, q < i → g1 14 q = nI (XX q) ∧ g1 15 q = zff (FF q)) → (∀ (v2 : Nat → Int32) (g2 : Nat → Nat → Int32), zWs s v g v2 g2 M (es + y.2.2.2.1) rs → zRe v2 g2 y.1 → (∀ q, q < i + 1 → g2 14 q = nI (va_up XX i y.2.2.1 q) ∧ g2 15 q = zff (va_up FF i y.2.2.2.2.2 q)) → zZ (zXm G rX11_writeAll mX11_writeAll [.ref m, .int (nI s), .ref (m + j), .int (nI nn)] (zRh G h0 m v g) n K) 173 [(0, .ref m), (1, .int (nI s)), (2, .ref (m + j)), (3, .int (nI nn)), (4, .int (nI i)), (5, .int (nI x)), (6, .int (zff y.2.2.2.2.2))] [] (zRh G h0 m v2 g2) n 0 0) → zZ (zXm G rX11_writeAll mX11_writeAll [.ref m, .int (nI s), .ref (m + j), .int (nI nn)] (zRh G h0 m v g) n K) 56 [(0, .ref m), (1, .int (nI s)), (2, .ref (m + j)), (3, .int (nI nn)), (4, .int (nI i))] [.int (nI x)] (zRh G h0 m v1 g1) n 0 0 := by
    intro M x i es rs e y XX FF v1 g1 hMi hx hi ht hW hR hok hcap hA hcont
    have hlm4 : M.2.2.1 ≤ 4 := Nat.le_trans hMi.2.2.2.1 ho4
    refine z_istore dX11_writeAll_56 (Nat.le_of_ble_eq_true rfl) ?_
    refine z_bipush (w := -3) dX11_writeAll_58 (by decide) ?_
    refine z_istore dX11_writeAll_60 (Nat.le_of_ble_eq_true rfl) ?_
    refine z_aload_n dX11_writeAll_62 rfl ?_
    refine zcall1 (zck_V (na := 0) (ci := 11) (R' := rX11_beginSign) (M' := mX11_beginSign) (fun _ _ _ _ => tvX11_beginSign) (by decide) kX11_beginSign lX11_167 (by decide +kernel) rfl) dX11_writeAll_63 (Nat.le_of_ble_eq_true rfl) (Nat.le_of_ble_eq_true rfl) (Nat.le_of_ble_eq_true rfl) ?_
    refine ⟨h0, m, v1, g1, rfl, rfl, fun v2 g2 hv2 e18 hg2 hX2 => ?_⟩
    have hW2 := hW.mv hv2 hg2 (by decide) (by decide)
    have hR2 := hR.mv (hv2 26 (by decide)) (hv2 27 (by decide)) (hv2 28 (by decide)) (hv2 29 (by decide)) (hg2 13 (by decide))
    refine z_aload_n dX11_writeAll_66 rfl ?_
    refine zr_get dX11_writeAll_67 fX11_31_11 rfl rfl ?_
    refine z_iload_n dX11_writeAll_70 rfl ?_
    refine zr_ald (a := _) dX11_writeAll_71 rfl (by decide) (by simp only [zrl]; omega) ?_
    rw [hW2.2.2.1.2.1]
    refine z_istore dX11_writeAll_72 (Nat.le_of_ble_eq_true rfl) ?_
    rw [show nI M.2.2.1 = zkI (M.2.2.1 + 1) by simp [zkI]]
    refine inner M x i es rs (g2 14) (g2 15) y hMi hx (fun f E2 e2 v3 g3 hf hW3 hR3 h18 h14 h15 => ?_) (M.2.2.1 + 1) (fun _ => false) 0 0 e v2 g2 (Nat.le_refl _) ht zcard_0.symm rfl rfl (by rw [Nat.add_zero]; exact hW2) hR2 hX2 e18 hok (by omega) rfl rfl
    have hff : f = zff y.2.2.2.2.2 := by
      rcases hf with ⟨k, e1, e2, -⟩ | ⟨e1, e2, -⟩
      · rw [e1, e2]; rfl
      · rw [e1, e2]; rfl
    have hA4 : (∀ q, q < i + 1 → (va_up (va_up g3 14 (upd (g3 14) i (v3 18))) 15 (upd ((va_up g3 14 (upd (g3 14) i (v3 18))) 15) i f)) 14 q = nI (va_up XX i y.2.2.1 q) ∧ (va_up (va_up g3 14 (upd (g3 14) i (v3 18))) 15 (upd ((va_up g3 14 (upd (g3 14) i (v3 18))) 15) i f)) 15 q = zff (va_up FF i y.2.2.2.2.2 q)) := by
      intro q hq
      rw [zng, zup_ne (k := 15) (j := 14) (by decide), zng]
      by_cases eq : q = i
      · subst eq
        rw [zu_eq, zu_eq, va_up_self, va_up_self]
        exact ⟨h18, hff⟩
      · rw [zu_ne eq, zu_ne eq, zup_ne (k := 14) (j := 15) (by decide), va_up_ne _ _ eq, va_up_ne _ _ eq, h14, h15, hg2 14 (by decide), hg2 15 (by decide)]
        exact hA q (by omega)
    have hfg := ((zfg.refl (S := [14, 15]) (g := g3)).up (k := 14) (by decide) (upd (g3 14) i (v3 18))).up (k := 15) (by decide) (upd ((va_up g3 14 (upd (g3 14) i (v3 18))) 15) i f)
    have hW4 := hW3.mv (zfv.refl (S := [])) hfg (by decide) (by decide)
    have hR4 := hR3.mv (v2 := v3) rfl rfl rfl rfl (hfg 13 (by decide))
    refine z_aload_n dX11_writeAll_138 rfl ?_
    refine zr_get dX11_writeAll_139 fX11_50_11 rfl rfl ?_
    refine z_iload dX11_writeAll_142 rfl ?_
    refine z_aload_n dX11_writeAll_144 rfl ?_
    refine zr_get dX11_writeAll_145 fX11_103_11 rfl rfl ?_
    refine zr_ast (a := _) dX11_writeAll_148 rfl (by decide) (by simp only [zrl]; omega) ?_
    refine z_aload_n dX11_writeAll_149 rfl ?_
    refine zr_get dX11_writeAll_150 fX11_53_11 rfl rfl ?_
    refine z_iload dX11_writeAll_153 rfl ?_
    refine z_iload dX11_writeAll_155 rfl ?_
    refine zr_ast (a := _) dX11_writeAll_157 rfl (by decide) (by simp only [zrl]; omega) ?_
    rcases hf with ⟨k, rfl, hk, rfl⟩ | ⟨rfl, hy5, hy3, hE256, hX3, hEx, hok3, hcap3, ht3⟩
    · refine z_iload dX11_writeAll_158 rfl ?_
      refine z_if_ge (t := 173) dX11_writeAll_160 (by decide) (fun q160 => ?_) (fun q160 => ?_)
      · have h9 := hcont _ _ hW4 hR4 hA4
        rw [hk] at h9
        exact h9
      · exact absurd (nI_pos' (by have := (zTl_sg (fun _ _ _ _ h => h.1.1) hMi.1 (fun k hk => (hMi.2.2.2.2.2.2.1 k (by omega)).1) (M.2.2.1 + 1) _ _ _ _ y (Nat.le_refl _) ht).2.2 k hk; omega)) q160
    · obtain ⟨i0, s0, ⟨hpk, rfl⟩, hy⟩ := ht3
      refine z_iload dX11_writeAll_158 rfl ?_
      refine z_if_ge (t := 173) dX11_writeAll_160 (by decide) (fun q160 => ?_) (fun q160 => ?_)
      · exact absurd q160 (by decide)
      · refine z_aload_n dX11_writeAll_163 rfl ?_
        refine z_iload dX11_writeAll_164 rfl ?_
        refine zcall2 (zck_V (na := 1) (ci := 11) (R' := rX11_flat) (M' := mX11_flat) (fun _ _ _ _ => tvX11_flat) (by decide) kX11_flat lX11_183 (by decide +kernel) rfl) dX11_writeAll_166 (Nat.le_of_ble_eq_true rfl) (Nat.le_of_ble_eq_true rfl) (Nat.le_of_ble_eq_true rfl) ?_
        have L9 := zflat_ok hE256
        have hx9 := zpick_in hpk (zflat_has (Nat.zero_le _) (by omega) hEx)
        refine ⟨h0, m, v3, _, E2, x, i0, rfl, rfl, (fun b hb => by rw [hfg 11 (by decide)]; exact hX3 b hb), (by rw [h18, hy3]), hpk.1, hx9, fun v4 hv4 i22 i23 i24 => ?_⟩
        have hW5 := hW4.mv hv4 (zfg.refl (S := [])) (by decide) (by decide)
        have hR5 := hR4.mv (hv4 26 (by decide)) (hv4 27 (by decide)) (hv4 28 (by decide)) (hv4 29 (by decide)) rfl
        refine z_aload_n dX11_writeAll_169 rfl ?_
        refine zcall1 (zck_V (na := 0) (ci := 11) (R' := rX11_write) (M' := mX11_write) (fun _ _ _ _ => tvX11_write) (by decide) kX11_write lX11_180 (by decide +kernel) rfl) dX11_writeAll_170 (Nat.le_of_ble_eq_true rfl) (Nat.le_of_ble_eq_true rfl) (Nat.le_of_ble_eq_true rfl) ?_
        refine ⟨h0, m, v4, _, e2, zps (zflat E2 257 0) i0, zln (zflat E2 257 0) i0, zps (zflat E2 257 0) (zflat E2 257 0).length, rfl, rfl, hR5, hok3, i22, i23, i24, L9.2.2.2.2, L9.2.2.2.1, zln_le hpk.1, (L9.2.2.1 i0 hpk.1).2, (by omega), fun v6 g6 hv6 hg6 hR6 => ?_⟩
        have h9 := hcont _ _ (hW5.mv hv6 hg6 (by decide) (by decide)) (by rw [hy]; exact hR6) (fun q hq => by rw [hg6 14 (by decide), hg6 15 (by decide)]; exact hA4 q hq)
        rw [hy5] at h9
        exact h9
  have lrn : ∀ (M : zMs) (x i lo es rs : Nat) (r : Bool) (M' : zMs) (e : zEs) (f : Int32) (v2 : Nat → Int32) (g2 : Nat → Nat → Int32), zMi o rm M → x < 256 → lo ≤ M.2.2.1 → zLn o rm x lo M r M' → zWs s v g v2 g2 M es rs → zRe v2 g2 e → (∀ (v3 : Nat → Int32) (g3 : Nat → Nat → Int32), zWs s v g v3 g3 M' es (rs + r.toNat) → zRe v3 g3 e → g3 14 = g2 14 → g3 15 = g2 15 → zZ (zXm G rX11_writeAll mX11_writeAll [.ref m, .int (nI s), .ref (m + j), .int (nI nn)] (zRh G h0 m v g) n K) 218 [(0, .ref m), (1, .int (nI s)), (2, .ref (m + j)), (3, .int (nI nn)), (4, .int (nI i)), (5, .int (nI x)), (6, .int f)] [] (zRh G h0 m v3 g3) n 0 0) → zZ (zXm G rX11_writeAll mX11_writeAll [.ref m, .int (nI s), .ref (m + j), .int (nI nn)] (zRh G h0 m v g) n K) 194 [(0, .ref m), (1, .int (nI s)), (2, .ref (m + j)), (3, .int (nI nn)), (4, .int (nI i)), (5, .int (nI x)), (6, .int f)] [.int (nI lo), .int (nI x), .int (nI s), .ref m] (zRh G h0 m v2 g2) n 0 0 := by
    intro M x i lo es rs r M' e f v2 g2 hMi hx hlo hL hW hR hcont
    obtain ⟨hMi', hL⟩ := hL
    obtain ⟨b1, b2, b3, b4, b5⟩ := hW
    have hrt := hMi.1.rt hMi.2.1 (Nat.le_trans hMi.2.2.1 hrm)
    have w1 : v2 1 = nI o := (b1 1 (by decide)).trans hv1
    have w2 : v2 2 = nI rm := (b1 2 (by decide)).trans hv2
    have hcx : ∀ k, k ≤ M.2.2.1 → zwk M.1 M.2.2.2.1 k (M.2.2.1 - k) 0 (M.2.2.2.2 k) ∧ M.2.2.2.2 k < M.1.1 := fun k hk => ⟨(hMi.2.2.2.2.2.2.1 k hk).2, (hMi.2.2.2.2.2.2.1 k hk).1⟩
    rcases hL with ⟨rfl, T', ch', hL, rfl⟩ | ⟨rfl, rfl, d9, T1, ch1, hd9, hL, hr9⟩
    · refine zcall4 (zck_V (na := 3) (ci := 11) (R' := rX11_learn) (M' := mX11_learn) (fun _ _ _ _ => tvX11_learn) (by decide) kX11_learn lX11_186 (by decide +kernel) rfl) dX11_writeAll_194 (Nat.le_of_ble_eq_true rfl) (Nat.le_of_ble_eq_true rfl) (Nat.le_of_ble_eq_true rfl) ?_
      refine ⟨h0, m, v2, g2, s, x, lo, o, rm, M.2.2.1, M.1, M.2.1, M.2.2.2.1, M.2.2.2.2, some T', rfl, rfl, b3, hs, hx, hlo, w1, w2, hMi.2.2.2.1, ho4, hrm, hMi.1.w, hrt.2, hcx, Or.inl ⟨T', ch', rfl, hL⟩, fun v3 g3 T2 e2 hv3 e25 hg3 hM3 => ?_, (fun v3 g3 e2 => by cases e2)⟩
      cases e2
      refine z_aload_n dX11_writeAll_197 rfl ?_
      refine z_dup dX11_writeAll_198 rfl ?_
      refine zr_get dX11_writeAll_199 fX11_164_11 rfl rfl ?_
      rw [hv3 32 (by decide), b5]
      refine z_aload_n dX11_writeAll_202 rfl ?_
      refine zr_get dX11_writeAll_203 fX11_129_11 rfl rfl ?_
      rw [e25]
      refine z_if_eq (t := 213) dX11_writeAll_206 (by decide) (fun q206 => ?_) (fun q206 => ?_)
      · refine z_iconst (w := 0) dX11_writeAll_213 (by decide) ?_
        refine z_iadd dX11_writeAll_214 ?_
        rw [Int32.add_zero]
        refine zr_put dX11_writeAll_215 fX11_164_11 rfl (fun q => absurd q (by decide)) zset_32 (by decide) (Or.inl rfl) ?_
        refine hcont _ g3 ⟨(b1.trans (hv3.mono (by decide))).up (by decide) _, b2.trans (zfx.ofm hg3), hM3, ?_, zu_eq⟩ ?_ (hg3.1 14 (by decide)) (hg3.1 15 (by decide))
        · rw [zu_ne (by decide), hv3 31 (by decide)]; exact b4
        · exact hR.mv (by rw [zu_ne (by decide), hv3 26 (by decide)]) (by rw [zu_ne (by decide), hv3 27 (by decide)]) (by rw [zu_ne (by decide), hv3 28 (by decide)]) (by rw [zu_ne (by decide), hv3 29 (by decide)]) (hg3.1 13 (by decide))
      · exact absurd rfl q206
    · refine zcall4 (zck_V (na := 3) (ci := 11) (R' := rX11_learn) (M' := mX11_learn) (fun _ _ _ _ => tvX11_learn) (by decide) kX11_learn lX11_186 (by decide +kernel) rfl) dX11_writeAll_194 (Nat.le_of_ble_eq_true rfl) (Nat.le_of_ble_eq_true rfl) (Nat.le_of_ble_eq_true rfl) ?_
      refine ⟨h0, m, v2, g2, s, x, lo, o, rm, M.2.2.1, M.1, M.2.1, M.2.2.2.1, M.2.2.2.2, none, rfl, rfl, b3, hs, hx, hlo, w1, w2, hMi.2.2.2.1, ho4, hrm, hMi.1.w, hrt.2, hcx, Or.inr ⟨d9, T1, ch1, rfl, hd9, hL, hr9⟩, (fun v3 g3 T2 e2 => by cases e2), fun v3 g3 e2 hv3 e25 hg3 hM3 => ?_⟩
      refine z_aload_n dX11_writeAll_197 rfl ?_
      refine z_dup dX11_writeAll_198 rfl ?_
      refine zr_get dX11_writeAll_199 fX11_164_11 rfl rfl ?_
      rw [hv3 32 (by decide), b5]
      refine z_aload_n dX11_writeAll_202 rfl ?_
      refine zr_get dX11_writeAll_203 fX11_129_11 rfl rfl ?_
      rw [e25]
      refine z_if_eq (t := 213) dX11_writeAll_206 (by decide) (fun q206 => ?_) (fun q206 => ?_)
      · exact absurd q206 (by decide)
      · refine z_iconst (w := 1) dX11_writeAll_209 (by decide) ?_
        refine z_goto (t := 214) dX11_writeAll_210 (by decide) ?_
        refine z_iadd dX11_writeAll_214 ?_
        rw [nI_1]
        refine zr_put dX11_writeAll_215 fX11_164_11 rfl (fun q => absurd q (by decide)) zset_32 (by decide) (Or.inl rfl) ?_
        refine hcont _ g3 ⟨(b1.trans (hv3.mono (by decide))).up (by decide) _, b2.trans (zfx.ofm hg3), hM3 _ _ _ _, ?_, zu_eq⟩ ?_ (hg3.1 14 (by decide)) (hg3.1 15 (by decide))
        · rw [zu_ne (by decide), hv3 31 (by decide)]; exact b4
        · exact hR.mv (by rw [zu_ne (by decide), hv3 26 (by decide)]) (by rw [zu_ne (by decide), hv3 27 (by decide)]) (by rw [zu_ne (by decide), hv3 28 (by decide)]) (by rw [zu_ne (by decide), hv3 29 (by decide)]) (hg3.1 13 (by decide))
  have loop : ∀ (d i : Nat) (P : zPr) (v1 : Nat → Int32) (g1 : Nat → Nat → Int32), d + i = nn → zMi o rm P.1 → zPk o rm tx d i P R → zWs s v g v1 g1 P.1 P.2.2.1 P.2.2.2.1 → zRe v1 g1 P.2.1 → zEok P.2.1 → P.2.1.2.1 + P.2.1.2.2.2.2 ≤ 66 * i → (∀ q, q < i → g1 14 q = nI (P.2.2.2.2.1 q) ∧ g1 15 q = zff (P.2.2.2.2.2 q)) → zZ (zXm G rX11_writeAll mX11_writeAll [.ref m, .int (nI s), .ref (m + j), .int (nI nn)] (zRh G h0 m v g) n K) 34 [(0, .ref m), (1, .int (nI s)), (2, .ref (m + j)), (3, .int (nI nn)), (4, .int (nI i))] [] (zRh G h0 m v1 g1) n 0 0 := by
    intro d
    induction d with
    | zero =>
      intro i P v1 g1 hd hMi hP hW hR hok hcap hA
      have hin : i = nn := by omega
      subst hin
      obtain ⟨y, ht, hRR⟩ := hP
      have hlm4 : P.1.2.2.1 ≤ 4 := Nat.le_trans hMi.2.2.2.1 ho4
      have hw := zTl_w hMi.1 hMi.2.1 (N := P.1.2.2.1 + 1) (fun k hk => (hMi.2.2.2.2.2.2.1 k (by omega)).1) _ _ _ _ _ y (Nat.le_refl _) rfl hok ht
      rw [hRR] at hK
      dsimp only at hK
      refine z_iload dX11_writeAll_34 rfl ?_
      refine z_iload_n dX11_writeAll_36 rfl ?_
      refine z_icmp_gt (t := 224) dX11_writeAll_37 (by decide) (fun q37 => ?_) (fun q37 => ?_)
      · exact absurd ((nI_ltI (by omega) (by omega)).mp q37) (Nat.lt_irrefl _)
      · refine z_iload dX11_writeAll_40 rfl ?_
        refine z_iload_n dX11_writeAll_42 rfl ?_
        refine z_icmp_ge (t := 53) dX11_writeAll_43 (by decide) (fun q43 => ?_) (fun q43 => ?_)
        · refine z_sipush (w := 256) dX11_writeAll_53 (by decide) ?_
          refine sign P.1 256 i P.2.2.1 P.2.2.2.1 P.2.1 y P.2.2.2.2.1 P.2.2.2.2.2 v1 g1 hMi (Nat.le_refl _) hnn ht hW hR hok hcap hA (fun v2 g2 hW2 hR2 hA2 => ?_)
          refine z_iload dX11_writeAll_173 rfl ?_
          refine z_iload_n dX11_writeAll_175 rfl ?_
          refine z_icmp_ge (t := 218) dX11_writeAll_176 (by decide) (fun q176 => ?_) (fun q176 => ?_)
          · refine z_iinc dX11_writeAll_218 rfl (Nat.le_of_ble_eq_true rfl) ?_
            refine z_goto (t := 34) dX11_writeAll_221 (by decide) ?_
            rw [show nI i + Int32.ofInt 1 = nI (i + 1) from nI_1 i]
            refine zZ.keep [0, 1, 2, 3, 4] ?_
            refine z_iload dX11_writeAll_34 rfl ?_
            refine z_iload_n dX11_writeAll_36 rfl ?_
            refine z_icmp_gt (t := 224) dX11_writeAll_37 (by decide) (fun q37 => ?_) (fun q37 => ?_)
            · refine z_aload_n dX11_writeAll_224 rfl ?_
              refine z_dup dX11_writeAll_225 rfl ?_
              refine zr_get dX11_writeAll_226 fX11_143_11 rfl rfl ?_
              rw [hR2.2.2.2.1]
              refine z_iconst (w := 1) dX11_writeAll_229 (by decide) ?_
              refine z_iadd dX11_writeAll_230 ?_
              rw [nI_1]
              refine zr_put dX11_writeAll_231 fX11_143_11 rfl (fun q => absurd q (by decide)) zset_28 (by decide) (Or.inl rfl) ?_
              refine z_aload_n dX11_writeAll_234 rfl ?_
              refine z_aload_n dX11_writeAll_235 rfl ?_
              refine zr_get dX11_writeAll_236 fX11_149_11 rfl rfl ?_
              rw [zu_ne (by decide), hR2.2.1]
              refine z_sipush (w := 16384) dX11_writeAll_239 (by decide) ?_
              refine z_icmp_ge (t := 249) dX11_writeAll_242 (by decide) (fun q242 => ?_) (fun q242 => ?_)
              · have w242 : ¬ y.1.2.2.1 < 16384 := fun z => Nat.not_lt.mpr ((nI_leI (by omega) (by have := hw.1.1; have := hw.1.2.1; omega)).mp (show nI 16384 ≤ nI y.1.2.2.1 from q242)) z
                refine z_iconst (w := 1) dX11_writeAll_249 (by decide) ?_
                refine zcall2 (zck_V (na := 1) (ci := 11) (R' := rX11_put) (M' := mX11_put) (fun _ _ _ _ => tvX11_put) (by decide) kX11_put lX11_156 (by decide +kernel) rfl) dX11_writeAll_250 (Nat.le_of_ble_eq_true rfl) (Nat.le_of_ble_eq_true rfl) (Nat.le_of_ble_eq_true rfl) ?_
                have hR3 : zRe (upd v2 28 (nI (y.1.2.2.2.2 + 1))) g2 (y.1.1, y.1.2.1, y.1.2.2.1, y.1.2.2.2.1, y.1.2.2.2.2 + 1) := ⟨(zu_ne (by decide)).trans hR2.1, (zu_ne (by decide)).trans hR2.2.1, (zu_ne (by decide)).trans hR2.2.2.1, zu_eq, hR2.2.2.2.2⟩
                refine ⟨h0, m, _, g2, _, 1, rfl, rfl, hR3, (by dsimp only; have := hw.2; omega), fun v3 g3 hv3 hg3 hR4 => ?_⟩
                have hW3 := (hW2.mv ((zfv.refl (S := [28])).up (by decide) _) (zfg.refl (S := [])) (by decide) (by decide)).mv hv3 hg3 (by decide) (by decide)
                refine z_vreturn dX11_writeAll_253 rfl (Nat.le_of_ble_eq_true rfl) (Nat.le_of_ble_eq_true rfl) ?_
                rw [if_neg w242] at hK
                exact hK v3 g3 hW3 hR4 (fun q hq => by rw [hg3 14 (by decide), hg3 15 (by decide)]; exact hA2 q (by omega))
              · have w242 : y.1.2.2.1 < 16384 := Nat.lt_of_not_le (fun z => q242 ((nI_leI (a := 16384) (by omega) (by have := hw.1.1; have := hw.1.2.1; omega)).mpr z))
                refine z_iconst (w := 0) dX11_writeAll_245 (by decide) ?_
                refine z_goto (t := 250) dX11_writeAll_246 (by decide) ?_
                refine zcall2 (zck_V (na := 1) (ci := 11) (R' := rX11_put) (M' := mX11_put) (fun _ _ _ _ => tvX11_put) (by decide) kX11_put lX11_156 (by decide +kernel) rfl) dX11_writeAll_250 (Nat.le_of_ble_eq_true rfl) (Nat.le_of_ble_eq_true rfl) (Nat.le_of_ble_eq_true rfl) ?_
                have hR3 : zRe (upd v2 28 (nI (y.1.2.2.2.2 + 1))) g2 (y.1.1, y.1.2.1, y.1.2.2.1, y.1.2.2.2.1, y.1.2.2.2.2 + 1) := ⟨(zu_ne (by decide)).trans hR2.1, (zu_ne (by decide)).trans hR2.2.1, (zu_ne (by decide)).trans hR2.2.2.1, zu_eq, hR2.2.2.2.2⟩
                refine ⟨h0, m, _, g2, _, 0, rfl, rfl, hR3, (by dsimp only; have := hw.2; omega), fun v3 g3 hv3 hg3 hR4 => ?_⟩
                have hW3 := (hW2.mv ((zfv.refl (S := [28])).up (by decide) _) (zfg.refl (S := [])) (by decide) (by decide)).mv hv3 hg3 (by decide) (by decide)
                refine z_vreturn dX11_writeAll_253 rfl (Nat.le_of_ble_eq_true rfl) (Nat.le_of_ble_eq_true rfl) ?_
                rw [if_pos w242] at hK
                exact hK v3 g3 hW3 hR4 (fun q hq => by rw [hg3 14 (by decide), hg3 15 (by decide)]; exact hA2 q (by omega))
            · exact absurd ((nI_ltI (by omega) (by omega)).mpr (Nat.lt_succ_self i)) q37
          · exact absurd (Int32.le_refl _) q176
        · exact absurd (Int32.le_refl _) q43
    | succ d ih =>
      intro i P v1 g1 hd hMi hP hW hR hok hcap hA
      obtain ⟨y, r, M', ht, hL, hP⟩ := hP
      have hlm4 : P.1.2.2.1 ≤ 4 := Nat.le_trans hMi.2.2.2.1 ho4
      have hw := zTl_w hMi.1 hMi.2.1 (N := P.1.2.2.1 + 1) (fun k hk => (hMi.2.2.2.2.2.2.1 k (by omega)).1) _ _ _ _ _ y (Nat.le_refl _) rfl hok ht
      have hsg := zTl_sg (fun _ _ _ _ h => h.1.1) hMi.1 (N := P.1.2.2.1 + 1) (fun k hk => (hMi.2.2.2.2.2.2.1 k (by omega)).1) _ _ _ _ _ y (Nat.le_refl _) ht
      have htxi := htx i (by omega)
      refine z_iload dX11_writeAll_34 rfl ?_
      refine z_iload_n dX11_writeAll_36 rfl ?_
      refine z_icmp_gt (t := 224) dX11_writeAll_37 (by decide) (fun q37 => ?_) (fun q37 => ?_)
      · exact absurd ((nI_ltI (by omega) (by omega)).mp q37) (by omega)
      · refine z_iload dX11_writeAll_40 rfl ?_
        refine z_iload_n dX11_writeAll_42 rfl ?_
        refine z_icmp_ge (t := 53) dX11_writeAll_43 (by decide) (fun q43 => ?_) (fun q43 => ?_)
        · exact absurd ((nI_leI (by omega) (by omega)).mp q43) (by omega)
        · refine z_aload_n dX11_writeAll_46 rfl ?_
          refine z_iload dX11_writeAll_47 rfl ?_
          refine zr_ald (a := i) dX11_writeAll_49 rfl hjj (Nat.lt_of_lt_of_le (by omega) hjl) ?_
          rw [show g1 j i = nI (tx i) by rw [hW.2.1.1 j (by rcases hj with rfl | rfl <;> decide)]; exact htxi.1]
          refine z_goto (t := 56) dX11_writeAll_50 (by decide) ?_
          refine sign P.1 (tx i) i P.2.2.1 P.2.2.2.1 P.2.1 y P.2.2.2.2.1 P.2.2.2.2.2 v1 g1 hMi (by omega) (by omega) ht hW hR hok hcap hA (fun v2 g2 hW2 hR2 hA2 => ?_)
          have hnext : ∀ (f : Int32) (v3 : Nat → Int32) (g3 : Nat → Nat → Int32), zWs s v g v3 g3 M' (P.2.2.1 + y.2.2.2.1) (P.2.2.2.1 + r.toNat) → zRe v3 g3 y.1 → g3 14 = g2 14 → g3 15 = g2 15 → zZ (zXm G rX11_writeAll mX11_writeAll [.ref m, .int (nI s), .ref (m + j), .int (nI nn)] (zRh G h0 m v g) n K) 218 [(0, .ref m), (1, .int (nI s)), (2, .ref (m + j)), (3, .int (nI nn)), (4, .int (nI i)), (5, .int (nI (tx i))), (6, .int f)] [] (zRh G h0 m v3 g3) n 0 0 := by
            intro f v3 g3 hW3 hR3 h14 h15
            refine z_iinc dX11_writeAll_218 rfl (Nat.le_of_ble_eq_true rfl) ?_
            refine z_goto (t := 34) dX11_writeAll_221 (by decide) ?_
            rw [show nI i + Int32.ofInt 1 = nI (i + 1) from nI_1 i]
            refine zZ.keep [0, 1, 2, 3, 4] ?_
            exact ih (i + 1) _ v3 g3 (by omega) hL.1 hP hW3 hR3 hw.1 (by have := hw.2; dsimp only; omega) (fun q hq => by rw [h14, h15]; exact hA2 q hq)
          generalize hyf : y.2.2.2.2.2 = yf at hL hsg ⊢
          rcases yf with _ | k
          · refine z_iload dX11_writeAll_173 rfl ?_
            refine z_iload_n dX11_writeAll_175 rfl ?_
            refine z_icmp_ge (t := 218) dX11_writeAll_176 (by decide) (fun q176 => ?_) (fun q176 => ?_)
            · exact absurd ((nI_leI (by omega) (by omega)).mp q176) (by omega)
            · refine z_aload_n dX11_writeAll_179 rfl ?_
              refine z_iload_n dX11_writeAll_180 rfl ?_
              refine z_iload dX11_writeAll_181 rfl ?_
              refine z_iload dX11_writeAll_183 rfl ?_
              refine z_if_ge (t := 192) dX11_writeAll_185 (by decide) (fun q185 => ?_) (fun q185 => ?_)
              · exact absurd q185 (by decide)
              · refine z_iconst (w := 0) dX11_writeAll_188 (by decide) ?_
                refine z_goto (t := 194) dX11_writeAll_189 (by decide) ?_
                exact lrn P.1 (tx i) i 0 _ _ r M' y.1 (-3) v2 g2 hMi htxi.2 (Nat.zero_le _) hL hW2 hR2 (hnext (-3))
          · have hk9 := (hsg.2.2 k rfl).1
            refine z_iload dX11_writeAll_173 rfl ?_
            refine z_iload_n dX11_writeAll_175 rfl ?_
            refine z_icmp_ge (t := 218) dX11_writeAll_176 (by decide) (fun q176 => ?_) (fun q176 => ?_)
            · exact absurd ((nI_leI (by omega) (by omega)).mp q176) (by omega)
            · refine z_aload_n dX11_writeAll_179 rfl ?_
              refine z_iload_n dX11_writeAll_180 rfl ?_
              refine z_iload dX11_writeAll_181 rfl ?_
              refine z_iload dX11_writeAll_183 rfl ?_
              refine z_if_ge (t := 192) dX11_writeAll_185 (by decide) (fun q185 => ?_) (fun q185 => ?_)
              · refine z_iload dX11_writeAll_192 rfl ?_
                exact lrn P.1 (tx i) i k _ _ r M' y.1 (nI k) v2 g2 hMi htxi.2 (by omega) hL hW2 hR2 (hnext (nI k))
              · exact absurd (nI_pos' (by omega)) q185
  refine z_aload_n dX11_writeAll_0 rfl ?_
  refine z_iconst (w := 0) dX11_writeAll_1 (by decide) ?_
  refine zr_put dX11_writeAll_2 fX11_149_11 rfl (fun q => absurd q (by decide)) zset_26 (by decide) (Or.inl rfl) ?_
  refine z_aload_n dX11_writeAll_5 rfl ?_
  refine z_ldc dX11_writeAll_6 coX11_160 ?_
  refine zr_put dX11_writeAll_8 fX11_146_11 rfl (fun q => absurd q (by decide)) zset_27 (by decide) (Or.inl rfl) ?_
  refine z_aload_n dX11_writeAll_11 rfl ?_
  refine z_iconst (w := 0) dX11_writeAll_12 (by decide) ?_
  refine zr_put dX11_writeAll_13 fX11_143_11 rfl (fun q => absurd q (by decide)) zset_28 (by decide) (Or.inl rfl) ?_
  refine z_aload_n dX11_writeAll_16 rfl ?_
  refine z_iconst (w := 0) dX11_writeAll_17 (by decide) ?_
  refine zr_put dX11_writeAll_18 fX11_137_11 rfl (fun q => absurd q (by decide)) zset_29 (by decide) (Or.inl rfl) ?_
  refine z_aload_n dX11_writeAll_21 rfl ?_
  refine z_iconst (w := 0) dX11_writeAll_22 (by decide) ?_
  refine zr_put dX11_writeAll_23 fX11_161_11 rfl (fun q => absurd q (by decide)) zset_31 (by decide) (Or.inl rfl) ?_
  refine z_aload_n dX11_writeAll_26 rfl ?_
  refine z_iconst (w := 0) dX11_writeAll_27 (by decide) ?_
  refine zr_put dX11_writeAll_28 fX11_164_11 rfl (fun q => absurd q (by decide)) zset_32 (by decide) (Or.inl rfl) ?_
  refine z_iconst (w := 0) dX11_writeAll_31 (by decide) ?_
  refine z_istore dX11_writeAll_32 (Nat.le_of_ble_eq_true rfl) ?_
  refine loop nn 0 (M, (f0, 0, 0, 65535, 0), 0, 0, X0, F0) _ g rfl hMi hPk ⟨((((((zfv.refl.up (by decide) _).up (by decide) _).up (by decide) _).up (by decide) _).up (by decide) _).up (by decide) _), zfx.refl, hM, ?_, zu_eq⟩ ⟨?_, ?_, ?_, ?_, fun i hi => by have hi : i < (0 + 7) / 8 := hi; omega⟩ (zEok0 f0) (Nat.le_refl _) (fun q hq => absurd hq (Nat.not_lt_zero _))
  · exact (zu_ne (by decide)).trans zu_eq
  · exact ((zu_ne (by decide)).trans (zu_ne (by decide))).trans zu_eq
  · exact (((((zu_ne (by decide)).trans (zu_ne (by decide))).trans (zu_ne (by decide))).trans (zu_ne (by decide))).trans (zu_ne (by decide))).trans zu_eq
  · exact ((((zu_ne (by decide)).trans (zu_ne (by decide))).trans (zu_ne (by decide))).trans (zu_ne (by decide))).trans zu_eq
  · exact (((zu_ne (by decide)).trans (zu_ne (by decide))).trans (zu_ne (by decide))).trans zu_eq

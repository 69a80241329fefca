/-! the reference: cost, pack -/
theorem zpick_esc {L : List (Nat × Nat)} (f1 : zSrt L) (f2 : ∀ q, q ∈ L → q.1 < 256 ∧ 0 < q.2) {E : Nat → Bool} {x i0 : Nat} (hpk : zpick (L ++ [(257, L.length)]) x i0) (hsg : zsg (L ++ [(257, L.length)]) i0 = 257) (hE2 : E x = false) : zexc E (L ++ [(257, L.length)]) L.length x = false := by
  rw [zexc_ct f1 (fun q hq => (f2 q hq).2), hE2, Bool.false_or, decide_eq_false_iff_not, zlc_pos f1 (fun q hq => (f2 q hq).2)]
  rintro ⟨j9, hj9, e9⟩
  have hi9 : i0 = L.length := by
    rcases Nat.lt_or_ge i0 L.length with z | z
    · exfalso
      rw [zsg_app z] at hsg
      have := (f2 _ (zsg_mem z)).1
      dsimp only at this
      omega
    · have := hpk.1
      rw [List.length_append] at this
      simp at this
      omega
  exact hpk.2.2 j9 (by omega) (by rw [zsg_app hj9]; exact e9)
def zCst (M : Nat → zMs) (e x r : Int32) : Prop := (¬ (zIn e 2 ∧ zIn x 257) ∧ r = -1) ∨ (zIn e 2 ∧ zIn x 257 ∧ ∃ y, zTM (zSyM (zt x)) (M (zt e)) 0 y ∧ r = y.1)
abbrev zVC : List Nat := [18, 20, 21, 22, 23, 24]
abbrev rX11_cost : Room := ⟨4, 0, 0, 160⟩
def SX11_cost (G : zC) : zS := fun as h n K => ∃ (h0 : zH) (m : Nat) (v : Nat → Int32) (g : Nat → Nat → Int32) (o rm : Nat) (a tx : Nat → Nat) (gg : Nat → Int32) (rx : Nat → Nat) (M : Nat → zMs) (z : Nat → Int32) (XX : Nat → Nat) (F : Nat → Option Nat) (e x r : Int32), as = [.ref m, .int e, .int x] ∧ h = zRh G h0 m v g ∧ zOkS o rm a tx M ∧ zRS v g o rm a tx gg rx M z XX F ∧ zCst M e x r ∧ ∀ v' g', zRS v' g' o rm a tx gg rx M z XX F → K (some (.int r)) (zRh G h0 m v' g') n
set_option maxRecDepth 100000 in
theorem tvX11_cost {G : zC} {as : List Value} {h : zH} {n : Nat} {K : zP} (hs : SX11_cost G as h n K) : (∃ b fs r, as = .ref b :: r ∧ h b = some (.inr (11, fs))) ∧ zCt G rX11_cost mX11_cost as h n K := by
  obtain ⟨h0, m, v, g, o, rm, a, tx, gg, rx, M, z, XX, F, e, x, r, rfl, rfl, hB, hS, hK⟩ := hs
  refine ⟨⟨_, _, _, rfl, zRh_o⟩, zCt.of (by decide) (Nat.le_of_ble_eq_true rfl) ?_⟩
  have hQ : zRS (upd v 0 0) g o rm a tx gg rx M z XX F := hS.thr 0
  have hQ0 := hQ
  obtain ⟨b1, b2, b3, b4, b5, b6, b7, b8, btx, bM⟩ := hB
  obtain ⟨e1, e2, e3, e5, e7, e16, e37, e35, e42, r1, r2, r3, c0, c1, r16, r17, hsl⟩ := hQ
  obtain ⟨hC, hK⟩ := hK
  rcases hC with ⟨hC, rfl⟩ | ⟨he, hx, y, hty, rfl⟩
  · refine z_aload_n dX11_cost_0 rfl ?_
    refine z_iconst (w := 0) dX11_cost_1 (by decide) ?_
    refine zr_put dX11_cost_2 fX11_82_11 rfl (fun q => absurd q (by decide)) zset_0 (by decide) (Or.inl rfl) ?_
    refine z_iload_n dX11_cost_5 rfl ?_
    refine z_iconst (w := 0) dX11_cost_6 (by decide) ?_
    refine z_iconst (w := 1) dX11_cost_7 (by decide) ?_
    refine zcall3 (zck_S (R' := rX11_in) (M' := mX11_in) (fun _ _ _ _ => tX11_in) kX11_in lX11_88 (by decide +kernel) rfl) dX11_cost_8 (Nat.le_of_ble_eq_true rfl) (Nat.le_of_ble_eq_true rfl) (Nat.le_of_ble_eq_true rfl) ?_
    refine ⟨_, _, _, rfl, ?_⟩
    rw [show (if (0 : Int32) ≤ e ∧ e ≤ 1 then (1 : Int32) else 0) = if zIn e 2 then 1 else 0 from zif_le (u := 1) (by decide)]
    refine z_if_eq (t := 25) dX11_cost_11 (by decide) (fun q11 => ?_) (fun q11 => ?_)
    · refine z_iconst (w := -1) dX11_cost_25 (by decide) ?_
      refine z_ireturn dX11_cost_26 trivial (Nat.le_of_ble_eq_true rfl) (Nat.le_of_ble_eq_true rfl) ?_
      exact hK _ g hQ0
    · refine z_iload_n dX11_cost_14 rfl ?_
      refine z_iconst (w := 0) dX11_cost_15 (by decide) ?_
      refine z_sipush (w := 256) dX11_cost_16 (by decide) ?_
      refine zcall3 (zck_S (R' := rX11_in) (M' := mX11_in) (fun _ _ _ _ => tX11_in) kX11_in lX11_88 (by decide +kernel) rfl) dX11_cost_19 (Nat.le_of_ble_eq_true rfl) (Nat.le_of_ble_eq_true rfl) (Nat.le_of_ble_eq_true rfl) ?_
      refine ⟨_, _, _, rfl, ?_⟩
      rw [show (if (0 : Int32) ≤ x ∧ x ≤ 256 then (1 : Int32) else 0) = if zIn x 257 then 1 else 0 from zif_le (u := 256) (by decide)]
      refine z_if_ne (t := 27) dX11_cost_22 (by decide) (fun q22 => ?_) (fun q22 => ?_)
      · exact absurd ⟨zi11.mp q11, zi11.mp q22⟩ hC
      · refine z_iconst (w := -1) dX11_cost_25 (by decide) ?_
        refine z_ireturn dX11_cost_26 trivial (Nat.le_of_ble_eq_true rfl) (Nat.le_of_ble_eq_true rfl) ?_
        exact hK _ g hQ0
  · obtain ⟨s, rfl, hs⟩ := zIn.ex he (by decide)
    obtain ⟨x, rfl, hx9⟩ := zIn.ex hx (by decide)
    rw [(zIn_nI (by decide) hs).2, (zIn_nI (by decide) hx9).2] at hty
    have hMi := bM s (zSlot.e hs)
    have hM := hsl s (zSlot.e hs)
    have inner : ∀ (c : Nat) (E : Nat → Bool) (ex es : Nat) (sc : Int32) (v1 : Nat → Int32) (g1 : Nat → Nat → Int32), c ≤ (M s).2.2.1 + 1 → zTl (zSyM x) (M s).1.2.2.1 (M s).1.2.2.2 (M s).2.1 (M s).2.2.2.2 c E ex es sc y → ex = zcard E 257 → E 256 = false → E x = false → zfv zVC (upd v 0 0) v1 → zfg [11, 12] g g1 → zRx g1 E → v1 18 = nI ex → zZ (zXm G rX11_cost mX11_cost [.ref m, .int (nI s), .int (nI x)] (zRh G h0 m v g) n K) 41 [(0, .ref m), (1, .int (nI s)), (2, .int (nI x)), (3, .int sc), (4, .int (zkI c))] [] (zRh G h0 m v1 g1) n 0 0 := by
      obtain ⟨m1, m2, m3, m4, m5, m6, m7, m8⟩ := hMi
      intro c
      induction c with
      | zero =>
        intro E ex es sc v1 g1 hc ht hex hE1 hE2 hfv hfg hX h18
        obtain ⟨i0, S2, ⟨hpk, j, hj, rfl⟩, hy⟩ := ht
        have L9 := zflat_ok hE1
        refine z_iload dX11_cost_41 rfl ?_
        refine z_if_lt (t := 91) dX11_cost_43 (by decide) (fun q43 => ?_) (fun q43 => ?_)
        · refine z_aload_n dX11_cost_91 rfl ?_
          refine z_iload_n dX11_cost_92 rfl ?_
          refine zcall2 (zck_V (na := 1) (ci := 11) (R' := rX11_flat) (M' := mX11_flat) (fun _ _ _ _ => tvX11_flat) (by decide) kX11_flat lX11_183 (by decide +kernel) rfl) dX11_cost_93 (Nat.le_of_ble_eq_true rfl) (Nat.le_of_ble_eq_true rfl) (Nat.le_of_ble_eq_true rfl) ?_
          refine ⟨h0, m, v1, g1, E, x, i0, rfl, rfl, hX, (by rw [h18, hex]), hpk.1, zpick_in hpk (zflat_has (Nat.zero_le _) (by omega) hE2), fun v4 hv4 i22 i23 i24 => ?_⟩
          refine z_iload_n dX11_cost_96 rfl ?_
          refine z_aload_n dX11_cost_97 rfl ?_
          refine zcall1 (zck_V (na := 0) (ci := 11) (R' := rX11_bitsOf) (M' := mX11_bitsOf) (fun _ _ _ _ => tvX11_bitsOf) (by decide) kX11_bitsOf lX11_231 (by decide +kernel) rfl) dX11_cost_98 (Nat.le_of_ble_eq_true rfl) (Nat.le_of_ble_eq_true rfl) (Nat.le_of_ble_eq_true rfl) ?_
          refine ⟨h0, m, v4, g1, zln (zflat E 257 0) i0, zps (zflat E 257 0) (zflat E 257 0).length, j, rfl, rfl, i23, i24, (L9.2.2.1 i0 hpk.1).2, (by have := zln_le hpk.1; omega), L9.2.2.2.1, hj, ?_⟩
          refine z_iadd dX11_cost_101 ?_
          refine z_ireturn dX11_cost_102 trivial (Nat.le_of_ble_eq_true rfl) (Nat.le_of_ble_eq_true rfl) ?_
          have hy1 : y.1 = sc + nI j := by rw [hy]
          rw [hy1] at hK
          exact hK v4 g1 (hQ0.mv ((hfv.mono (by decide)).trans (hv4.mono (by decide))) (zfos.ofg hfg (by decide) (by decide)))
        · exact absurd (by decide) q43
      | succ c ih =>
        intro E ex es sc v1 g1 hc ht hex hE1 hE2 hfv hfg hX h18
        have hcc := m7 c (by omega)
        have hlk : zkI (c + 1) = nI c := by simp [zkI]
        obtain ⟨f1, f2⟩ := zoff_fac m1 m2 hcc.1 E
        have hl256 : (zoff (M s).1.2.2.1 (M s).1.2.2.2 E ((M s).2.1 ((M s).2.2.2.2 c))).length ≤ 256 := Nat.le_trans (zoff_len _ _ _ _) (zlen256 (m1.2.1 _ hcc.1).2 (fun d hd => (m1.2.2.2 d (m1.2.2.1 _ d hcc.1 hd).1 (m1.2.2.1 _ d hcc.1 hd).2.1).2.2.1))
        have hM1 : zRm g1 s (M s).1 (M s).2.2.1 (M s).2.2.2.1 := hM.keep hfg (by decide)
        rw [hlk]
        refine z_iload dX11_cost_41 rfl ?_
        refine z_if_lt (t := 91) dX11_cost_43 (by decide) (fun q43 => ?_) (fun q43 => ?_)
        · exact absurd q43 (nI_pos (by omega))
        · refine z_aload_n dX11_cost_46 rfl ?_
          refine z_iload_n dX11_cost_47 rfl ?_
          refine z_iload dX11_cost_48 rfl ?_
          refine zcall3 (zck_V (na := 2) (ci := 11) (R' := rX11_look) (M' := mX11_look) (fun _ _ _ _ => tvX11_look) (by decide) kX11_look lX11_170 (by decide +kernel) rfl) dX11_cost_50 (Nat.le_of_ble_eq_true rfl) (Nat.le_of_ble_eq_true rfl) (Nat.le_of_ble_eq_true rfl) ?_
          refine ⟨h0, m, v1, g1, s, c, (M s).2.2.2.2 c, (M s).1, (M s).2.1, (M s).2.2.1, (M s).2.2.2.1, E, rfl, rfl, hM1, m1, (by omega), (by omega), hcc.2, hcc.1, hX, fun v2 g2 hv2 hg2 e20 e21 ec => ?_⟩
          have hfv2 := hfv.trans (hv2.mono (by decide))
          have hfg2 := hfg.trans (hg2.mono (by decide))
          have hX2 : zRx g2 E := fun b hb => by rw [hg2 11 (by decide)]; exact hX b hb
          have h18b : v2 18 = nI ex := (hv2 18 (by decide)).trans h18
          refine z_aload_n dX11_cost_53 rfl ?_
          refine zr_get dX11_cost_54 fX11_113_11 rfl rfl ?_
          rw [e21]
          rcases ht with ⟨hz, ht⟩ | ⟨hne, i0, S2, ⟨hpk, j, hj, rfl⟩, ht⟩
          · rw [show (zoff (M s).1.2.2.1 (M s).1.2.2.2 E ((M s).2.1 ((M s).2.2.2.2 c))).length = 0 by rw [hz]; rfl]
            refine z_if_le (t := 85) dX11_cost_57 (by decide) (fun q57 => ?_) (fun q57 => ?_)
            · refine z_iinc dX11_cost_85 rfl (Nat.le_of_ble_eq_true rfl) ?_
              refine z_goto (t := 41) dX11_cost_88 (by decide) ?_
              rw [show nI c + Int32.ofInt (-1) = zkI c by unfold zkI; split; (rename_i e; subst e; decide); exact sb_m1 (by omega)]
              exact ih E ex es sc v2 g2 (by omega) ht hex hE1 hE2 hfv2 hfg2 hX2 h18b
            · exact absurd (by decide) q57
          · have hok2 := (zoff_ok m1 m2 hcc.1 E hne).1
            have hlen : 0 < (zoff (M s).1.2.2.1 (M s).1.2.2.2 E ((M s).2.1 ((M s).2.2.2.2 c))).length := List.length_pos_iff.mpr hne
            rcases ht with ⟨hsg, hy⟩ | ⟨hsg, ht⟩
            · refine z_if_le (t := 85) dX11_cost_57 (by decide) (fun q57 => ?_) (fun q57 => ?_)
              · exact absurd q57 (nI_nle hlen (by omega))
              · refine z_aload_n dX11_cost_60 rfl ?_
                refine z_iload_n dX11_cost_61 rfl ?_
                refine zcall2 (zck_V (na := 1) (ci := 11) (R' := rX11_isFound) (M' := mX11_isFound) (fun _ _ _ _ => tvX11_isFound) (by decide) kX11_isFound lX11_173 (by decide +kernel) rfl) dX11_cost_62 (Nat.le_of_ble_eq_true rfl) (Nat.le_of_ble_eq_true rfl) (Nat.le_of_ble_eq_true rfl) ?_
                refine ⟨h0, m, v2, g2, (zoff (M s).1.2.2.1 (M s).1.2.2.2 E ((M s).2.1 ((M s).2.2.2.2 c))), x, i0, rfl, rfl, f1, (fun q hq => ⟨(f2 q hq).1, (f2 q hq).2.1, (f2 q hq).2.2.1⟩), ec, e20, e21, (by omega), hpk, fun v4 hv4 i22 i23 i24 => ?_⟩
                refine z_istore dX11_cost_65 (Nat.le_of_ble_eq_true rfl) ?_
                refine z_iload_n dX11_cost_67 rfl ?_
                refine z_aload_n dX11_cost_68 rfl ?_
                refine zcall1 (zck_V (na := 0) (ci := 11) (R' := rX11_bitsOf) (M' := mX11_bitsOf) (fun _ _ _ _ => tvX11_bitsOf) (by decide) kX11_bitsOf lX11_231 (by decide +kernel) rfl) dX11_cost_69 (Nat.le_of_ble_eq_true rfl) (Nat.le_of_ble_eq_true rfl) (Nat.le_of_ble_eq_true rfl) ?_
                refine ⟨h0, m, v4, g2, zln ((zoff (M s).1.2.2.1 (M s).1.2.2.2 E ((M s).2.1 ((M s).2.2.2.2 c))) ++ [(257, (zoff (M s).1.2.2.1 (M s).1.2.2.2 E ((M s).2.1 ((M s).2.2.2.2 c))).length)]) i0, zps ((zoff (M s).1.2.2.1 (M s).1.2.2.2 E ((M s).2.1 ((M s).2.2.2.2 c))) ++ [(257, (zoff (M s).1.2.2.1 (M s).1.2.2.2 E ((M s).2.1 ((M s).2.2.2.2 c))).length)]) ((zoff (M s).1.2.2.1 (M s).1.2.2.2 E ((M s).2.1 ((M s).2.2.2.2 c))) ++ [(257, (zoff (M s).1.2.2.1 (M s).1.2.2.2 E ((M s).2.1 ((M s).2.2.2.2 c))).length)]).length, j, rfl, rfl, i23, i24, (hok2.2.2.1 i0 hpk.1).2, (by have := zln_le hpk.1; omega), hok2.2.2.2.1, hj, ?_⟩
                refine z_iadd dX11_cost_72 ?_
                refine z_istore_n dX11_cost_73 (Nat.le_of_ble_eq_true rfl) ?_
                refine z_iload dX11_cost_74 rfl ?_
                refine z_if_eq (t := 81) dX11_cost_76 (by decide) (fun q76 => ?_) (fun q76 => ?_)
                · exact absurd q76 (by rw [if_neg hsg]; decide)
                · refine z_iload_n dX11_cost_79 rfl ?_
                  refine z_ireturn dX11_cost_80 trivial (Nat.le_of_ble_eq_true rfl) (Nat.le_of_ble_eq_true rfl) ?_
                  have hy1 : y.1 = sc + nI j := by rw [hy]
                  rw [hy1] at hK
                  exact hK v4 g2 (hQ0.mv ((hfv2.mono (by decide)).trans (hv4.mono (by decide))) (zfos.ofg hfg2 (by decide) (by decide)))
            · refine z_if_le (t := 85) dX11_cost_57 (by decide) (fun q57 => ?_) (fun q57 => ?_)
              · exact absurd q57 (nI_nle hlen (by omega))
              · refine z_aload_n dX11_cost_60 rfl ?_
                refine z_iload_n dX11_cost_61 rfl ?_
                refine zcall2 (zck_V (na := 1) (ci := 11) (R' := rX11_isFound) (M' := mX11_isFound) (fun _ _ _ _ => tvX11_isFound) (by decide) kX11_isFound lX11_173 (by decide +kernel) rfl) dX11_cost_62 (Nat.le_of_ble_eq_true rfl) (Nat.le_of_ble_eq_true rfl) (Nat.le_of_ble_eq_true rfl) ?_
                refine ⟨h0, m, v2, g2, (zoff (M s).1.2.2.1 (M s).1.2.2.2 E ((M s).2.1 ((M s).2.2.2.2 c))), x, i0, rfl, rfl, f1, (fun q hq => ⟨(f2 q hq).1, (f2 q hq).2.1, (f2 q hq).2.2.1⟩), ec, e20, e21, (by omega), hpk, fun v4 hv4 i22 i23 i24 => ?_⟩
                refine z_istore dX11_cost_65 (Nat.le_of_ble_eq_true rfl) ?_
                refine z_iload_n dX11_cost_67 rfl ?_
                refine z_aload_n dX11_cost_68 rfl ?_
                refine zcall1 (zck_V (na := 0) (ci := 11) (R' := rX11_bitsOf) (M' := mX11_bitsOf) (fun _ _ _ _ => tvX11_bitsOf) (by decide) kX11_bitsOf lX11_231 (by decide +kernel) rfl) dX11_cost_69 (Nat.le_of_ble_eq_true rfl) (Nat.le_of_ble_eq_true rfl) (Nat.le_of_ble_eq_true rfl) ?_
                refine ⟨h0, m, v4, g2, zln ((zoff (M s).1.2.2.1 (M s).1.2.2.2 E ((M s).2.1 ((M s).2.2.2.2 c))) ++ [(257, (zoff (M s).1.2.2.1 (M s).1.2.2.2 E ((M s).2.1 ((M s).2.2.2.2 c))).length)]) i0, zps ((zoff (M s).1.2.2.1 (M s).1.2.2.2 E ((M s).2.1 ((M s).2.2.2.2 c))) ++ [(257, (zoff (M s).1.2.2.1 (M s).1.2.2.2 E ((M s).2.1 ((M s).2.2.2.2 c))).length)]) ((zoff (M s).1.2.2.1 (M s).1.2.2.2 E ((M s).2.1 ((M s).2.2.2.2 c))) ++ [(257, (zoff (M s).1.2.2.1 (M s).1.2.2.2 E ((M s).2.1 ((M s).2.2.2.2 c))).length)]).length, j, rfl, rfl, i23, i24, (hok2.2.2.1 i0 hpk.1).2, (by have := zln_le hpk.1; omega), hok2.2.2.2.1, hj, ?_⟩
                refine z_iadd dX11_cost_72 ?_
                refine z_istore_n dX11_cost_73 (Nat.le_of_ble_eq_true rfl) ?_
                refine z_iload dX11_cost_74 rfl ?_
                refine z_if_eq (t := 81) dX11_cost_76 (by decide) (fun q76 => ?_) (fun q76 => ?_)
                · refine z_aload_n dX11_cost_81 rfl ?_
                  refine zcall1 (zck_V (na := 0) (ci := 11) (R' := rX11_exclude) (M' := mX11_exclude) (fun _ _ _ _ => tvX11_exclude) (by decide) kX11_exclude lX11_177 (by decide +kernel) rfl) dX11_cost_82 (Nat.le_of_ble_eq_true rfl) (Nat.le_of_ble_eq_true rfl) (Nat.le_of_ble_eq_true rfl) ?_
                  refine ⟨h0, m, v4, g2, E, (zoff (M s).1.2.2.1 (M s).1.2.2.2 E ((M s).2.1 ((M s).2.2.2.2 c))), (257, (zoff (M s).1.2.2.1 (M s).1.2.2.2 E ((M s).2.1 ((M s).2.2.2.2 c))).length), ex, rfl, rfl, hX2, f1, (fun q hq => ⟨(f2 q hq).1, (f2 q hq).2.1, (f2 q hq).2.2.1⟩), ec, (by rw [hv4 18 (by decide)]; exact h18b), fun v6 g6 hv6 hg6 i18 hX6 => ?_⟩
                  refine z_iinc dX11_cost_85 rfl (Nat.le_of_ble_eq_true rfl) ?_
                  refine z_goto (t := 41) dX11_cost_88 (by decide) ?_
                  refine zZ.keep [0, 1, 2, 3, 4] ?_
                  rw [show nI c + Int32.ofInt (-1) = zkI c by unfold zkI; split; (rename_i e; subst e; decide); exact sb_m1 (by omega)]
                  refine ih _ _ _ _ v6 g6 (by omega) ht ?_ (zexc_256 m1 m2 hcc.1 hE1) (zpick_esc f1 (fun q hq => ⟨(f2 q hq).1, (f2 q hq).2.1⟩) hpk hsg hE2) ((hfv2.trans (hv4.mono (by decide))).trans (hv6.mono (by decide))) (hfg2.trans (hg6.mono (by decide))) hX6 i18
                  rw [hex, zcard_exc f1 (fun q hq => ⟨(f2 q hq).1, (f2 q hq).2.1, (f2 q hq).2.2.2⟩)]
                · exact absurd (by rw [if_pos hsg]) q76
    refine z_aload_n dX11_cost_0 rfl ?_
    refine z_iconst (w := 0) dX11_cost_1 (by decide) ?_
    refine zr_put dX11_cost_2 fX11_82_11 rfl (fun q => absurd q (by decide)) zset_0 (by decide) (Or.inl rfl) ?_
    refine z_iload_n dX11_cost_5 rfl ?_
    refine z_iconst (w := 0) dX11_cost_6 (by decide) ?_
    refine z_iconst (w := 1) dX11_cost_7 (by decide) ?_
    refine zcall3 (zck_S (R' := rX11_in) (M' := mX11_in) (fun _ _ _ _ => tX11_in) kX11_in lX11_88 (by decide +kernel) rfl) dX11_cost_8 (Nat.le_of_ble_eq_true rfl) (Nat.le_of_ble_eq_true rfl) (Nat.le_of_ble_eq_true rfl) ?_
    refine ⟨_, _, _, rfl, ?_⟩
    rw [show (if (0 : Int32) ≤ (nI s) ∧ (nI s) ≤ 1 then (1 : Int32) else 0) = if zIn (nI s) 2 then 1 else 0 from zif_le (u := 1) (by decide)]
    refine z_if_eq (t := 25) dX11_cost_11 (by decide) (fun q11 => ?_) (fun q11 => ?_)
    · exact absurd he (zi10.mp q11)
    · refine z_iload_n dX11_cost_14 rfl ?_
      refine z_iconst (w := 0) dX11_cost_15 (by decide) ?_
      refine z_sipush (w := 256) dX11_cost_16 (by decide) ?_
      refine zcall3 (zck_S (R' := rX11_in) (M' := mX11_in) (fun _ _ _ _ => tX11_in) kX11_in lX11_88 (by decide +kernel) rfl) dX11_cost_19 (Nat.le_of_ble_eq_true rfl) (Nat.le_of_ble_eq_true rfl) (Nat.le_of_ble_eq_true rfl) ?_
      refine ⟨_, _, _, rfl, ?_⟩
      rw [show (if (0 : Int32) ≤ (nI x) ∧ (nI x) ≤ 256 then (1 : Int32) else 0) = if zIn (nI x) 257 then 1 else 0 from zif_le (u := 256) (by decide)]
      refine z_if_ne (t := 27) dX11_cost_22 (by decide) (fun q22 => ?_) (fun q22 => ?_)
      · refine z_aload_n dX11_cost_27 rfl ?_
        refine zcall1 (zck_V (na := 0) (ci := 11) (R' := rX11_beginSign) (M' := mX11_beginSign) (fun _ _ _ _ => tvX11_beginSign) (by decide) kX11_beginSign lX11_167 (by decide +kernel) rfl) dX11_cost_28 (Nat.le_of_ble_eq_true rfl) (Nat.le_of_ble_eq_true rfl) (Nat.le_of_ble_eq_true rfl) ?_
        refine ⟨h0, m, _, g, rfl, rfl, fun v2 g2 hv2 e18 hg2 hX2 => ?_⟩
        refine z_iconst (w := 0) dX11_cost_31 (by decide) ?_
        refine z_istore_n dX11_cost_32 (Nat.le_of_ble_eq_true rfl) ?_
        refine z_aload_n dX11_cost_33 rfl ?_
        refine zr_get dX11_cost_34 fX11_31_11 rfl rfl ?_
        refine z_iload_n dX11_cost_37 rfl ?_
        refine zr_ald (a := _) dX11_cost_38 rfl (by decide) (show s < 7 by omega) ?_
        rw [hg2 8 (by decide), hM.2.1]
        refine z_istore dX11_cost_39 (Nat.le_of_ble_eq_true rfl) ?_
        rw [show nI (M s).2.2.1 = zkI ((M s).2.2.1 + 1) by simp [zkI]]
        exact inner ((M s).2.2.1 + 1) (fun _ => false) 0 0 0 v2 g2 (Nat.le_refl _) hty zcard_0.symm rfl rfl (hv2.mono (by decide)) (hg2.mono (by decide)) hX2 e18
      · exact absurd hx (zi10.mp q22)
theorem zPk_ok {o rm : Nat} (ho : o ≤ 4) {tx : Nat → Nat} : ∀ (d i : Nat) (P R : zPr), zMi o rm P.1 → zEok P.2.1 → P.2.1.2.1 + P.2.1.2.2.2.2 ≤ 66 * i → zPk o rm tx d i P R → zMi o rm R.1 ∧ zEok R.2.1 ∧ R.2.1.2.1 + R.2.1.2.2.2.2 ≤ 66 * (i + d + 1)
  | 0, i, P, R, hM, he, hc, h => by
    obtain ⟨y, ht, rfl⟩ := h
    have hw := zTl_w hM.1 hM.2.1 (N := P.1.2.2.1 + 1) (fun k hk => (hM.2.2.2.2.2.2.1 k (by omega)).1) _ _ _ _ _ y (Nat.le_refl _) rfl he ht
    have := hM.2.2.2.1
    exact ⟨hM, hw.1, by have := hw.2; dsimp only; omega⟩
  | d + 1, i, P, R, hM, he, hc, h => by
    obtain ⟨y, r, M', ht, hL, h⟩ := h
    have hw := zTl_w hM.1 hM.2.1 (N := P.1.2.2.1 + 1) (fun k hk => (hM.2.2.2.2.2.2.1 k (by omega)).1) _ _ _ _ _ y (Nat.le_refl _) rfl he ht
    have := hM.2.2.2.1
    have := zPk_ok ho d (i + 1) _ R hL.1 hw.1 (by have := hw.2; dsimp only; omega) h
    exact ⟨this.1, this.2.1, by omega⟩
def zpe (e : zEs) : zEs := zput1 (e.1, e.2.1, e.2.2.1, e.2.2.2.1, e.2.2.2.2 + 1) (if e.2.2.1 < 16384 then 0 else 1)
theorem zpe_bits (e : zEs) : (zpe e).2.1 = e.2.1 + e.2.2.2.2 + 2 := by simp only [zpe, zput1]; omega
abbrev zPka (a : Nat → Nat) (R : zPr) : Nat → Nat := va_up (va_up a 1 (((zpe R.2.1).2.1 + 7) / 8)) 4 (a 0 + 1)
abbrev zPkz (z : Nat → Int32) (R : zPr) : Nat → Int32 := va_up (va_up (va_up (va_up z 0 (z 0 + nI R.2.2.2.1)) 3 (nI (zpe R.2.1).2.1)) 4 (nI R.2.2.1)) 5 (nI R.2.2.2.1)
abbrev rX11_pack : Room := ⟨5, 0, 0, 200⟩
def SX11_pack (G : zC) : zS := fun as h n K => ∃ (h0 : zH) (m : Nat) (v : Nat → Int32) (g : Nat → Nat → Int32) (o rm : Nat) (a tx : Nat → Nat) (gg : Nat → Int32) (rx : Nat → Nat) (M : Nat → zMs) (z : Nat → Int32) (XX : Nat → Nat) (F : Nat → Option Nat) (R : zPr), as = [.ref m] ∧ h = zRh G h0 m v g ∧ zOkS o rm a tx M ∧ zRS v g o rm a tx gg rx M z XX F ∧ zPk o rm tx (a 0) 0 (M 0, (gg, 0, 0, 65535, 0), 0, 0, XX, F) R ∧ ∀ v' g', zRS v' g' o rm (zPka a R) tx (zpe R.2.1).1 rx (va_up M 0 R.1) (zPkz z R) R.2.2.2.2.1 R.2.2.2.2.2 → K (some (.int (nI (((zpe R.2.1).2.1 + 7) / 8)))) (zRh G h0 m v' g') n
set_option maxRecDepth 100000 in
theorem tvX11_pack {G : zC} {as : List Value} {h : zH} {n : Nat} {K : zP} (hs : SX11_pack G as h n K) : (∃ b fs r, as = .ref b :: r ∧ h b = some (.inr (11, fs))) ∧ zCt G rX11_pack mX11_pack as h n K := by
  obtain ⟨h0, m, v, g, o, rm, a, tx, gg, rx, M, z, XX, F, R, rfl, rfl, hB, hS, hK⟩ := hs
  refine ⟨⟨_, _, _, rfl, zRh_o⟩, zCt.of (by decide) (Nat.le_of_ble_eq_true rfl) ?_⟩
  have hQ : zRS (upd v 0 0) g o rm a tx gg rx M z XX F := hS.thr 0
  have hQ0 := hQ
  obtain ⟨b1, b2, b3, b4, b5, b6, b7, b8, btx, bM⟩ := hB
  obtain ⟨e1, e2, e3, e5, e7, e16, e37, e35, e42, r1, r2, r3, c0, c1, r16, r17, hsl⟩ := hQ
  obtain ⟨hPk, hK⟩ := hK
  refine z_aload_n dX11_pack_0 rfl ?_
  refine z_iconst (w := 0) dX11_pack_1 (by decide) ?_
  refine zr_put dX11_pack_2 fX11_82_11 rfl (fun q => absurd q (by decide)) zset_0 (by decide) (Or.inl rfl) ?_
  refine z_aload_n dX11_pack_5 rfl ?_
  refine z_iconst (w := 0) dX11_pack_6 (by decide) ?_
  refine z_aload_n dX11_pack_7 rfl ?_
  refine zr_get dX11_pack_8 fX11_7_11 rfl rfl ?_
  refine z_aload_n dX11_pack_11 rfl ?_
  refine zr_get dX11_pack_12 fX11_85_11 rfl rfl ?_
  rw [e3]
  refine zcall4 (zck_V (na := 3) (ci := 11) (R' := rX11_writeAll) (M' := mX11_writeAll) (fun _ _ _ _ => tvX11_writeAll) (by decide) kX11_writeAll lX11_190 (by decide +kernel) rfl) dX11_pack_15 (Nat.le_of_ble_eq_true rfl) (Nat.le_of_ble_eq_true rfl) (Nat.le_of_ble_eq_true rfl) ?_
  refine ⟨h0, m, _, g, 0, 1, a 0, o, rm, tx, M 0, gg, XX, F, R, rfl, rfl, (by decide), Or.inl rfl, b4, (fun i hi => ⟨r1 i hi, btx i hi⟩), e1, e2, b1, b3, bM 0 (Or.inl rfl), hsl 0 (Or.inl rfl), hPk, fun v1 g1 hW hR hA => ?_⟩
  obtain ⟨w1, w2, w3, w4, w5⟩ := hW
  obtain ⟨-, p2, p3⟩ := zPk_ok b1 (a 0) 0 _ R (bM 0 (Or.inl rfl)) (zEok0 gg) (Nat.le_refl _) hPk
  have hbits := zpe_bits R.2.1
  have hb29 : v1 29 = nI (zpe R.2.1).2.1 := hR.1
  have hmd : ∀ i, i < ((zpe R.2.1).2.1 + 7) / 8 → g1 13 i = (zpe R.2.1).1 i := hR.2.2.2.2
  refine z_aload_n dX11_pack_18 rfl ?_
  refine z_iconst (w := 1) dX11_pack_19 (by decide) ?_
  refine zr_put dX11_pack_20 fX11_194_11 rfl (fun q => absurd q (by decide)) zset_35 (by decide) (Or.inr ⟨rfl, (by first | exact Or.inl rfl | exact Or.inr rfl)⟩) ?_
  refine z_aload_n dX11_pack_23 rfl ?_
  refine zr_get dX11_pack_24 fX11_56_11 rfl rfl ?_
  refine z_iconst (w := 0) dX11_pack_27 (by decide) ?_
  refine z_aload_n dX11_pack_28 rfl ?_
  refine zr_get dX11_pack_29 fX11_137_11 rfl rfl ?_
  rw [zu_ne (by decide), hb29]
  refine zr_ast (a := 0) dX11_pack_32 rfl (by decide) (show 0 < 3 by decide) ?_
  refine z_aload_n dX11_pack_33 rfl ?_
  refine zr_get dX11_pack_34 fX11_56_11 rfl rfl ?_
  refine z_iconst (w := 1) dX11_pack_37 (by decide) ?_
  refine z_aload_n dX11_pack_38 rfl ?_
  refine zr_get dX11_pack_39 fX11_161_11 rfl rfl ?_
  rw [zu_ne (by decide), w4]
  refine zr_ast (a := 1) dX11_pack_42 rfl (by decide) (show 1 < 3 by decide) ?_
  refine z_aload_n dX11_pack_43 rfl ?_
  refine zr_get dX11_pack_44 fX11_56_11 rfl rfl ?_
  refine z_iconst (w := 2) dX11_pack_47 (by decide) ?_
  refine z_aload_n dX11_pack_48 rfl ?_
  refine zr_get dX11_pack_49 fX11_164_11 rfl rfl ?_
  rw [zu_ne (by decide), w5]
  refine zr_ast (a := 2) dX11_pack_52 rfl (by decide) (show 2 < 3 by decide) ?_
  refine z_aload_n dX11_pack_53 rfl ?_
  refine zr_get dX11_pack_54 fX11_37_11 rfl rfl ?_
  refine z_iconst (w := 0) dX11_pack_57 (by decide) ?_
  refine z_dup2 dX11_pack_58 rfl rfl ?_
  refine zr_ald (a := 0) dX11_pack_59 rfl (by decide) (show 0 < 2 by decide) ?_
  rw [zup_ne (by decide), zup_ne (by decide), zup_ne (by decide), w2.1 10 (by decide), c0]
  refine z_aload_n dX11_pack_60 rfl ?_
  refine zr_get dX11_pack_61 fX11_164_11 rfl rfl ?_
  rw [zu_ne (by decide), w5]
  refine z_iadd dX11_pack_64 ?_
  refine zr_ast (a := 0) dX11_pack_65 rfl (by decide) (show 0 < 2 by decide) ?_
  refine z_aload_n dX11_pack_66 rfl ?_
  refine z_aload_n dX11_pack_67 rfl ?_
  refine zr_get dX11_pack_68 fX11_85_11 rfl rfl ?_
  rw [zu_ne (by decide), w1 3 (by decide), e3]
  refine z_iconst (w := 1) dX11_pack_71 (by decide) ?_
  refine z_iadd dX11_pack_72 ?_
  rw [nI_1]
  refine zr_put dX11_pack_73 fX11_197_11 rfl (fun q => absurd q (by decide)) zset_37 (by decide) (Or.inl rfl) ?_
  refine z_iconst (w := 0) dX11_pack_76 (by decide) ?_
  refine z_istore_n dX11_pack_77 (Nat.le_of_ble_eq_true rfl) ?_
  generalize hgB : va_up (va_up (va_up (va_up g1 16 _) 16 _) 16 _) 10 _ = gB
  have k16 : gB 16 0 = nI (zpe R.2.1).2.1 ∧ gB 16 1 = nI R.2.2.1 ∧ gB 16 2 = nI R.2.2.2.1 := by
    rw [← hgB, zup_ne (by decide)]
    refine ⟨?_, ?_, ?_⟩
    · rw [zng, zu_ne (by decide), zng, zu_ne (by decide), zng, zu_eq]
    · rw [zng, zu_ne (by decide), zng, zu_eq]
    · rw [zng, zu_eq]
  have k10 : gB 10 0 = z 0 + nI R.2.2.2.1 ∧ gB 10 1 = z 1 := by
    rw [← hgB, zng]
    refine ⟨zu_eq, ?_⟩
    rw [zu_ne (by decide), zup_ne (by decide), zup_ne (by decide), zup_ne (by decide), w2.1 10 (by decide)]; exact c1
  have kB : zfg [16, 10] g1 gB := by
    rw [← hgB]
    exact (((zfg.refl.up (by decide) _).up (by decide) _).up (by decide) _).up (by decide) _
  generalize hvB : upd (upd v1 35 _) 37 _ = vB
  have kv : zfv [35, 37] v1 vB := by rw [← hvB]; exact (zfv.refl.up (by decide) _).up (by decide) _
  have kv35 : vB 35 = 1 := by rw [← hvB, zu_ne (by decide), zu_eq]
  have kv37 : vB 37 = nI (a 0 + 1) := by rw [← hvB, zu_eq]
  have loop2 : ∀ (d i : Nat) (g2 : Nat → Nat → Int32), ((zpe R.2.1).2.1 + 7) / 8 - i < d → i ≤ ((zpe R.2.1).2.1 + 7) / 8 → zfg [2, 17, 18] gB g2 → (∀ j, j < a 0 + 1 → g2 17 j = nI (R.2.2.2.2.1 j) ∧ g2 18 j = zff (R.2.2.2.2.2 j)) → (∀ j, j < i → g2 2 j = (zpe R.2.1).1 j) → zZ (zXm G rX11_pack mX11_pack [.ref m] (zRh G h0 m v g) n K) 132 [(0, .ref m), (1, .int (nI i))] [] (zRh G h0 m (upd vB 5 (nI (((zpe R.2.1).2.1 + 7) / 8))) g2) n 0 0 := by
    intro d
    induction d with
    | zero => intro i g2 hd; omega
    | succ d ih =>
      intro i g2 hd hi hg h17 h2
      refine z_iload_n dX11_pack_132 rfl ?_
      refine z_aload_n dX11_pack_133 rfl ?_
      refine zr_get dX11_pack_134 fX11_93_11 rfl rfl ?_
      rw [zu_eq]
      refine z_icmp_ge (t := 158) dX11_pack_137 (by decide) (fun q137 => ?_) (fun q137 => ?_)
      · have hie : i = ((zpe R.2.1).2.1 + 7) / 8 := by have := (nI_leI (by omega) (by omega)).mp q137; omega
        subst hie
        refine z_aload_n dX11_pack_158 rfl ?_
        refine zr_get dX11_pack_159 fX11_93_11 rfl rfl ?_
        rw [zu_eq]
        refine z_ireturn dX11_pack_162 trivial (Nat.le_of_ble_eq_true rfl) (Nat.le_of_ble_eq_true rfl) ?_
        have hvA : zfv [18, 20, 21, 22, 23, 24, 25, 26, 27, 28, 29, 31, 32, 35, 37, 5] (upd v 0 0) (upd vB 5 (nI (((zpe R.2.1).2.1 + 7) / 8))) := ((w1.mono (by decide)).trans (kv.mono (by decide))).up (by decide) _
        have hgA : zfg [16, 10, 2, 17, 18] g1 g2 := (kB.mono (by decide)).trans (hg.mono (by decide))
        have hgr : ∀ j, j = 1 ∨ j = 3 → g2 j = g j := fun j hj => by
          rcases hj with rfl | rfl
          · rw [hgA 1 (by decide), w2.1 1 (by decide)]
          · rw [hgA 3 (by decide), w2.1 3 (by decide)]
        refine hK _ g2 ⟨((hvA 1 (by decide)).trans e1), ((hvA 2 (by decide)).trans e2), ((hvA 3 (by decide)).trans e3), zu_eq, ((hvA 7 (by decide)).trans e7), ((hvA 16 (by decide)).trans e16), ((zu_ne (by decide)).trans kv37), ((zu_ne (by decide)).trans (kv35.trans (if_neg (Nat.succ_ne_zero (a 0))).symm)), ((hvA 42 (by decide)).trans e42), (fun i hi => by rw [hgr 1 (Or.inl rfl)]; exact r1 i hi), (fun i hi => h2 i hi), (fun i hi => by rw [hgr 3 (Or.inr rfl)]; exact r3 i hi), ?_, ?_, ?_, (fun i hi => h17 i hi), ?_⟩
        · rw [hg 10 (by decide)]; exact k10.1
        · rw [hg 10 (by decide)]; exact k10.2
        · intro _ i hi
          rw [hg 16 (by decide)]
          have : i = 0 ∨ i = 1 ∨ i = 2 := by omega
          rcases this with rfl | rfl | rfl
          · exact k16.1
          · exact k16.2.1
          · exact k16.2.2
        · intro t ht
          by_cases e : t = 0
          · rw [e, va_up_self]; exact w3.keep hgA (by decide)
          · rw [va_up_ne _ _ e]; exact ((hsl t ht).otherx w2 e).keep hgA (by decide)
      · have hil : i < ((zpe R.2.1).2.1 + 7) / 8 := by have := mt (nI_leI (by omega) (by omega)).mpr q137; omega
        refine z_aload_n dX11_pack_140 rfl ?_
        refine zr_get dX11_pack_141 fX11_13_11 rfl rfl ?_
        refine z_iload_n dX11_pack_144 rfl ?_
        refine z_aload_n dX11_pack_145 rfl ?_
        refine zr_get dX11_pack_146 fX11_47_11 rfl rfl ?_
        refine z_iload_n dX11_pack_149 rfl ?_
        refine zr_ald (a := _) dX11_pack_150 rfl (by decide) (show i < 6000 by omega) ?_
        rw [show g2 13 i = (zpe R.2.1).1 i by rw [hg 13 (by decide), kB 13 (by decide)]; exact hmd i hil]
        refine zr_ast (a := _) dX11_pack_151 rfl (by decide) (show i < 6000 by omega) ?_
        refine z_iinc dX11_pack_152 rfl (Nat.le_of_ble_eq_true rfl) ?_
        refine z_goto (t := 132) dX11_pack_155 (by decide) ?_
        rw [show nI i + Int32.ofInt 1 = nI (i + 1) from nI_1 i]
        refine ih (i + 1) _ (by omega) (by omega) (hg.up (by decide) _) (fun j hj => by rw [zup_ne (by decide), zup_ne (by decide)]; exact h17 j hj) (fun j hj => ?_)
        rw [zng]
        by_cases e : j = i
        · rw [e, zu_eq]
        · rw [zu_ne e]; exact h2 j (by omega)
  have loop1 : ∀ (d i : Nat) (g2 : Nat → Nat → Int32), a 0 + 1 - i < d → i ≤ a 0 + 1 → zfg [17, 18] gB g2 → (∀ j, j < i → g2 17 j = nI (R.2.2.2.2.1 j) ∧ g2 18 j = zff (R.2.2.2.2.2 j)) → zZ (zXm G rX11_pack mX11_pack [.ref m] (zRh G h0 m v g) n K) 78 [(0, .ref m), (1, .int (nI i))] [] (zRh G h0 m vB g2) n 0 0 := by
    intro d
    induction d with
    | zero => intro i g2 hd; omega
    | succ d ih =>
      intro i g2 hd hi hg h17
      refine z_iload_n dX11_pack_78 rfl ?_
      refine z_aload_n dX11_pack_79 rfl ?_
      refine zr_get dX11_pack_80 fX11_197_11 rfl rfl ?_
      rw [kv37]
      refine z_icmp_ge (t := 116) dX11_pack_83 (by decide) (fun q83 => ?_) (fun q83 => ?_)
      · have hie : i = a 0 + 1 := by have := (nI_leI (by omega) (by omega)).mp q83; omega
        subst hie
        refine z_aload_n dX11_pack_116 rfl ?_
        refine z_aload_n dX11_pack_117 rfl ?_
        refine zr_get dX11_pack_118 fX11_137_11 rfl rfl ?_
        rw [kv 29 (by decide), hb29]
        refine z_bipush (w := 7) dX11_pack_121 (by decide) ?_
        refine z_iadd dX11_pack_123 ?_
        rw [show nI (zpe R.2.1).2.1 + 7 = nI ((zpe R.2.1).2.1 + 7) from nI_add _ 7]
        refine z_bipush (w := 8) dX11_pack_124 (by decide) ?_
        refine z_idiv dX11_pack_126 (by decide) ?_
        rw [zdiv8 (by omega)]
        refine zr_put dX11_pack_127 fX11_93_11 rfl (fun q => absurd q (by decide)) zset_5 (by decide) (Or.inl rfl) ?_
        refine z_iconst (w := 0) dX11_pack_130 (by decide) ?_
        refine z_istore_n dX11_pack_131 (Nat.le_of_ble_eq_true rfl) ?_
        exact loop2 _ 0 g2 (Nat.lt_succ_self _) (Nat.zero_le _) (hg.mono (by decide)) h17 (fun j hj => absurd hj (Nat.not_lt_zero _))
      · have hil : i < a 0 + 1 := by have := mt (nI_leI (by omega) (by omega)).mpr q83; omega
        refine z_aload_n dX11_pack_86 rfl ?_
        refine zr_get dX11_pack_87 fX11_59_11 rfl rfl ?_
        refine z_iload_n dX11_pack_90 rfl ?_
        refine z_aload_n dX11_pack_91 rfl ?_
        refine zr_get dX11_pack_92 fX11_50_11 rfl rfl ?_
        refine z_iload_n dX11_pack_95 rfl ?_
        refine zr_ald (a := _) dX11_pack_96 rfl (by decide) (show i < 301 by omega) ?_
        rw [show g2 14 i = nI (R.2.2.2.2.1 i) by rw [hg 14 (by decide), kB 14 (by decide)]; exact (hA i (by omega)).1]
        refine zr_ast (a := _) dX11_pack_97 rfl (by decide) (show i < 301 by omega) ?_
        refine z_aload_n dX11_pack_98 rfl ?_
        refine zr_get dX11_pack_99 fX11_62_11 rfl rfl ?_
        refine z_iload_n dX11_pack_102 rfl ?_
        refine z_aload_n dX11_pack_103 rfl ?_
        refine zr_get dX11_pack_104 fX11_53_11 rfl rfl ?_
        refine z_iload_n dX11_pack_107 rfl ?_
        refine zr_ald (a := _) dX11_pack_108 rfl (by decide) (show i < 301 by omega) ?_
        rw [zup_ne (by decide), show g2 15 i = zff (R.2.2.2.2.2 i) by rw [hg 15 (by decide), kB 15 (by decide)]; exact (hA i (by omega)).2]
        refine zr_ast (a := _) dX11_pack_109 rfl (by decide) (show i < 301 by omega) ?_
        refine z_iinc dX11_pack_110 rfl (Nat.le_of_ble_eq_true rfl) ?_
        refine z_goto (t := 78) dX11_pack_113 (by decide) ?_
        rw [show nI i + Int32.ofInt 1 = nI (i + 1) from nI_1 i]
        refine ih (i + 1) _ (by omega) (by omega) ((hg.up (by decide) _).up (by decide) _) (fun j hj => ?_)
        rw [zng, zup_ne (k := 18) (j := 17) (by decide), zng]
        by_cases e : j = i
        · rw [e, zu_eq, zu_eq]; exact ⟨rfl, rfl⟩
        · rw [zu_ne e, zu_ne e, zup_ne (k := 17) (j := 18) (by decide)]; exact h17 j (by omega)
  exact loop1 _ 0 gB (Nat.lt_succ_self _) (Nat.zero_le _) zfg.refl (fun j hj => absurd hj (Nat.not_lt_zero _))

/-! the reference: reading a sign -/
def zRq (v : Nat → Int32) (S : zEs × Nat × Nat) : Prop := v 26 = nI S.1.2.2.1 ∧ v 27 = nI S.1.2.2.2.1 ∧ v 40 = nI S.2.1 ∧ v 41 = nI S.2.2
def zRs (S : zEs × Nat × Nat) : Prop := zEok S.1 ∧ S.1.2.2.1 ≤ S.2.1 ∧ S.2.1 ≤ S.1.2.2.2.1
theorem zRq.mv {v v2 : Nat → Int32} {S : zEs × Nat × Nat} (H : zRq v S) {Sv : List Nat} (h : zfv Sv v v2) (h1 : 26 ∉ Sv) (h2 : 27 ∉ Sv) (h3 : 40 ∉ Sv) (h4 : 41 ∉ Sv) : zRq v2 S := ⟨(h 26 h1).trans H.1, (h 27 h2).trans H.2.1, (h 40 h3).trans H.2.2.1, (h 41 h4).trans H.2.2.2⟩
theorem zSyR_ok {g : Nat → Int32} {kk i : Nat} {L : List (Nat × Nat)} {s s' : zEs × Nat × Nat} (hL : zLok L) (H : zRs s) (hS : zSyR g kk s L i s') : zRs s' ∧ s'.2.2 ≤ s.2.2 + 16 ∧ (znar s.1 (zps L i) (zln L i) (zps L L.length)).2.2.1 ≤ s.2.1 ∧ s.2.1 ≤ (znar s.1 (zps L i) (zln L i) (zps L L.length)).2.2.2.1 := by
  obtain ⟨he, h1, h2⟩ := H
  obtain ⟨hi, v1, v2, rfl⟩ := hS
  obtain ⟨t1, t2⟩ := ztake_ok (e := s.1) he hL.2.2.2.2 hL.2.2.2.1 (zln_le hi) (hL.2.2.1 i hi).2
  have v3 := v2
  rw [zps_succ hi] at v3
  obtain ⟨w1, w2⟩ := zdec_ok h1 h2 hL.2.2.2.2 v1 v3
  have hR5 := zrnum_ok (zbn_le g kk) 16 (znar s.1 (zps L i) (zln L i) (zps L L.length)) s.2.1 s.2.2 w1 w2 (by
    obtain ⟨y1, y2, -, -⟩ := znar_ok he.1 he.2.1 hL.2.2.2.2 (by have := hL.2.2.2.1; omega) (by have := hL.2.2.2.1; have := he.2.2; omega) (zln_le hi) (hL.2.2.1 i hi).2
    have := he.2.1
    have := he.1
    simp only [znar]
    revert y1 y2
    generalize (s.1.2.2.2.1 - s.1.2.2.1 + 1) * zps L i / zps L L.length = A
    generalize (s.1.2.2.2.1 - s.1.2.2.1 + 1) * (zps L i + zln L i) / zps L L.length = B
    intro y1 y2
    omega)
  exact ⟨⟨t1, hR5.1, hR5.2.1⟩, hR5.2.2, w1, w2⟩
theorem zps_tot (L : List (Nat × Nat)) : zps (L ++ [(257, L.length)]) (L ++ [(257, L.length)]).length = zps L L.length + L.length := by
  have hl1 : (L ++ [((257 : Nat), L.length)]).length = L.length + 1 := by simp
  rw [hl1, zps_last]
theorem zfind {L : List (Nat × Nat)} (hs : zSrt L) (hb : ∀ q, q ∈ L → q.1 < 256 ∧ 0 < q.2) {i w : Nat} (hi : i < (L ++ [(257, L.length)]).length) (h1 : zps (L ++ [(257, L.length)]) i ≤ w) (h2 : w < zps (L ++ [(257, L.length)]) (i + 1)) : ∃ x0, x0 ≤ 256 ∧ zpick (L ++ [(257, L.length)]) x0 i ∧ (∀ b, b < x0 → zsm (zlc L) (b + 1) ≤ w) ∧ (x0 < 256 → 0 < zlc L x0 ∧ w < zsm (zlc L) (x0 + 1)) ∧ (zsg (L ++ [(257, L.length)]) i ≠ 257 → x0 = zsg (L ++ [(257, L.length)]) i) := by
  have hi' : i ≤ L.length := by rw [List.length_append] at hi; simp at hi; omega
  rcases Nat.lt_or_ge i L.length with z | z
  · have hm := hb _ (zsg_mem z)
    dsimp only at hm
    have e1 := zsm_ps hs z
    rw [zps_app (by omega)] at h1
    rw [zps_app (by omega), zps_succ z] at h2
    refine ⟨zsg L i, by omega, ⟨hi, Or.inl (zsg_app z), fun j hj => ?_⟩, fun b hlt => ?_, fun _ => ⟨by rw [zlc_ln hs z]; exact hm.2, ?_⟩, fun _ => (zsg_app z).symm⟩
    · rw [zsg_app (by omega)]
      have := zSrt_ne hs z hj
      omega
    · have := zsm_mono (zlc L) (show b + 1 ≤ zsg L i from hlt)
      omega
    · show w < zsm (zlc L) (zsg L i) + zlc L (zsg L i)
      rw [e1, zlc_ln hs z]; exact h2
  · have e : i = L.length := by omega
    subst e
    rw [zps_app (Nat.le_refl _)] at h1
    refine ⟨256, Nat.le_refl _, ⟨hi, Or.inr ⟨by simp, by rw [zsg_last]; show 257 ≠ 256; decide⟩, fun j hj => ?_⟩, fun b hlt => ?_, fun z => absurd z (Nat.lt_irrefl _), fun z => absurd (zsg_last _ _) z⟩
    · rw [zsg_app hj]
      have := (hb _ (zsg_mem hj)).1
      dsimp only at this
      omega
    · have := zsm_mono (zlc L) (show b + 1 ≤ 256 from hlt)
      rw [zsm_all hs (N := 256) (fun q hq => (hb q hq).1)] at this
      omega
abbrev zVR : List Nat := [18, 20, 21, 22, 23, 24, 26, 27, 40, 41, 45]
abbrev rX11_readSign : Room := ⟨4, 0, 0, 160⟩
def SX11_readSign (G : zC) : zS := fun as h n K => ∃ (h0 : zH) (m : Nat) (v : Nat → Int32) (g : Nat → Nat → Int32) (s o rm kk : Nat) (gg : Nat → Int32) (M : zMs) (S : zEs × Nat × Nat) (y : zYr (zEs × Nat × Nat)), as = [.ref m, .int (nI s)] ∧ h = zRh G h0 m v g ∧ s ≤ 6 ∧ o ≤ 4 ∧ rm ≤ 1500 ∧ zMi o rm M ∧ zRm g s M.1 M.2.2.1 M.2.2.2.1 ∧ zRq v S ∧ zRs S ∧ v 5 = nI kk ∧ kk ≤ 6000 ∧ (∀ i, i < kk → g 2 i = gg i) ∧ S.2.2 + 96 < 900000 ∧ zTM (zSyR gg kk) M S y ∧ ∀ v' g', zfv zVR v v' → zfg [11, 12] g g' → zRq v' y.1 → v' 45 = nI (zlo y.2.2.2.2.2) → K (some (.int (nI y.2.2.2.2.1))) (zRh G h0 m v' g') n
set_option maxRecDepth 100000 in
theorem tvX11_readSign {G : zC} {as : List Value} {h : zH} {n : Nat} {K : zP} (hs : SX11_readSign G as h n K) : (∃ b fs r, as = .ref b :: r ∧ h b = some (.inr (11, fs))) ∧ zCt G rX11_readSign mX11_readSign as h n K := by
  obtain ⟨h0, m, v, g, s, o, rm, kk, gg, M, S, y, rfl, rfl, hs, ho4, hrm, hMi, hM, hq, hS, h5, hkk, hG, htk, hty, hK⟩ := hs
  refine ⟨⟨_, _, _, rfl, zRh_o⟩, zCt.of (by decide) (Nat.le_of_ble_eq_true rfl) ?_⟩
  have bl : ∀ (c w x0 : Nat) (L : List (Nat × Nat)) (v2 : Nat → Int32) (g2 : Nat → Nat → Int32), (∀ b, b < 256 → g2 12 b = nI (zlc L b)) → (∀ b, b ≤ 256 → zsm (zlc L) b < 1000000) → w < 1000000 → x0 ≤ 256 → (∀ b, b < x0 → zsm (zlc L) (b + 1) ≤ w) → (x0 < 256 → 0 < zlc L x0 ∧ w < zsm (zlc L) (x0 + 1)) → zZ (zXm G rX11_readSign mX11_readSign [.ref m, .int (nI s)] (zRh G h0 m v g) n K) 109 [(0, .ref m), (1, .int (nI s)), (2, .int (nI c)), (3, .int (nI w)), (4, .int (nI x0))] [] (zRh G h0 m v2 g2) n 0 0 → ∀ (d b : Nat), 256 - b < d → b ≤ 256 → zZ (zXm G rX11_readSign mX11_readSign [.ref m, .int (nI s)] (zRh G h0 m v g) n K) 50 [(0, .ref m), (1, .int (nI s)), (2, .int (nI c)), (3, .int (nI w)), (4, .int (nI (if x0 < b then x0 else 256))), (5, .int (nI b))] [] (zRh G h0 m v2 g2) n 0 0 := by
    intro c w x0 L v2 g2 hC hsm hw hx0 hlow hat hend d
    induction d with
    | zero => intro b hd; omega
    | succ d ih =>
      intro b hd hb
      by_cases hxb : x0 < b
      · rw [if_pos hxb]
        refine z_iload dX11_readSign_50 rfl ?_
        refine z_sipush (w := 256) dX11_readSign_52 (by decide) ?_
        refine z_icmp_ge (t := 109) dX11_readSign_55 (by decide) (fun q55 => ?_) (fun q55 => ?_)
        · have hb6 : b = 256 := by have := (nI_leI (a := 256) (b := b) (by omega) (by omega)).mp q55; omega
          refine zZ.keep [0, 1, 2, 3, 4] ?_
          exact hend
        · have hb6 : b < 256 := by have := mt (nI_leI (a := 256) (b := b) (by omega) (by omega)).mpr q55; omega
          refine z_iload dX11_readSign_58 rfl ?_
          refine z_sipush (w := 256) dX11_readSign_60 (by decide) ?_
          refine z_icmp_ne (t := 99) dX11_readSign_63 (by decide) (fun q63 => ?_) (fun q63 => ?_)
          · refine z_iload dX11_readSign_99 rfl ?_
            refine z_istore dX11_readSign_101 (Nat.le_of_ble_eq_true rfl) ?_
            refine z_iinc dX11_readSign_103 rfl (Nat.le_of_ble_eq_true rfl) ?_
            refine z_goto (t := 50) dX11_readSign_106 (by decide) ?_
            have h9 := ih (b + 1) (by omega) (by omega)
            rw [if_pos (by omega)] at h9
            rw [show nI b + Int32.ofInt 1 = nI (b + 1) from nI_1 b]
            exact h9
          · exact absurd ((nI_eq (b := 256) (by omega) (by omega)).mp q63) (by omega)
      · rw [if_neg hxb]
        refine z_iload dX11_readSign_50 rfl ?_
        refine z_sipush (w := 256) dX11_readSign_52 (by decide) ?_
        refine z_icmp_ge (t := 109) dX11_readSign_55 (by decide) (fun q55 => ?_) (fun q55 => ?_)
        · have hb6 : b = 256 := by have := (nI_leI (a := 256) (b := b) (by omega) (by omega)).mp q55; omega
          refine zZ.keep [0, 1, 2, 3, 4] ?_
          rw [show x0 = 256 by omega] at hend
          exact hend
        · have hb6 : b < 256 := by have := mt (nI_leI (a := 256) (b := b) (by omega) (by omega)).mpr q55; omega
          refine z_iload dX11_readSign_58 rfl ?_
          refine z_sipush (w := 256) dX11_readSign_60 (by decide) ?_
          refine z_icmp_ne (t := 99) dX11_readSign_63 (by decide) (fun q63 => ?_) (fun q63 => ?_)
          · exact absurd rfl q63
          · refine z_aload_n dX11_readSign_66 rfl ?_
            refine zr_get dX11_readSign_67 fX11_44_11 rfl rfl ?_
            refine z_iload dX11_readSign_70 rfl ?_
            refine zr_ald (a := _) dX11_readSign_72 rfl (by decide) (by simp only [zrl]; omega) ?_
            rw [hC b hb6]
            refine z_if_le (t := 99) dX11_readSign_73 (by decide) (fun q73 => ?_) (fun q73 => ?_)
            · have w73 : ¬ 0 < zlc L b := fun z => absurd q73 (nI_nle z (by have := hsm (b + 1) (by omega); have e : zsm (zlc L) (b + 1) = zsm (zlc L) b + zlc L b := rfl; omega))
              have hne : b ≠ x0 := fun e => w73 (by rw [e]; exact (hat (by omega)).1)
              refine z_iload dX11_readSign_99 rfl ?_
              refine z_istore dX11_readSign_101 (Nat.le_of_ble_eq_true rfl) ?_
              refine z_iinc dX11_readSign_103 rfl (Nat.le_of_ble_eq_true rfl) ?_
              refine z_goto (t := 50) dX11_readSign_106 (by decide) ?_
              first
              | (have h9 := ih (b + 1) (by omega) (by omega); rw [if_neg (by omega)] at h9; rw [show nI b + Int32.ofInt 1 = nI (b + 1) from nI_1 b]; exact h9)
              | (have h9 := ih (b + 1) (by omega) (by omega); rw [if_pos (by omega), heq] at h9; rw [show nI b + Int32.ofInt 1 = nI (b + 1) from nI_1 b]; exact h9)
            · refine z_iload_n dX11_readSign_76 rfl ?_
              refine z_aload_n dX11_readSign_77 rfl ?_
              refine z_iload dX11_readSign_78 rfl ?_
              refine zcall2 (zck_V (na := 1) (ci := 11) (R' := rX11_below) (M' := mX11_below) (fun _ _ _ _ => tvX11_below) (by decide) kX11_below lX11_119 (by decide +kernel) rfl) dX11_readSign_80 (Nat.le_of_ble_eq_true rfl) (Nat.le_of_ble_eq_true rfl) (Nat.le_of_ble_eq_true rfl) ?_
              refine ⟨h0, m, v2, g2, b, zlc L, rfl, rfl, (by omega), hC, ?_⟩
              refine z_aload_n dX11_readSign_83 rfl ?_
              refine zr_get dX11_readSign_84 fX11_44_11 rfl rfl ?_
              refine z_iload dX11_readSign_87 rfl ?_
              refine zr_ald (a := _) dX11_readSign_89 rfl (by decide) (by simp only [zrl]; omega) ?_
              rw [hC b hb6]
              refine z_iadd dX11_readSign_90 ?_
              rw [nI_add]
              refine z_icmp_ge (t := 99) dX11_readSign_91 (by decide) (fun q91 => ?_) (fun q91 => ?_)
              · have w91 := (nI_leI (by have := hsm (b + 1) (by omega); have e : zsm (zlc L) (b + 1) = zsm (zlc L) b + zlc L b := rfl; omega) (by omega)).mp q91
                have hne : b ≠ x0 := fun e => by
                  subst e
                  have := (hat (by omega)).2
                  have e : zsm (zlc L) (b + 1) = zsm (zlc L) b + zlc L b := rfl
                  omega
                refine z_iload dX11_readSign_99 rfl ?_
                refine z_istore dX11_readSign_101 (Nat.le_of_ble_eq_true rfl) ?_
                refine z_iinc dX11_readSign_103 rfl (Nat.le_of_ble_eq_true rfl) ?_
                refine z_goto (t := 50) dX11_readSign_106 (by decide) ?_
                first
                | (have h9 := ih (b + 1) (by omega) (by omega); rw [if_neg (by omega)] at h9; rw [show nI b + Int32.ofInt 1 = nI (b + 1) from nI_1 b]; exact h9)
                | (have h9 := ih (b + 1) (by omega) (by omega); rw [if_pos (by omega), heq] at h9; rw [show nI b + Int32.ofInt 1 = nI (b + 1) from nI_1 b]; exact h9)
              · have w91 := mt (nI_leI (by have := hsm (b + 1) (by omega); have e : zsm (zlc L) (b + 1) = zsm (zlc L) b + zlc L b := rfl; omega) (by omega)).mpr q91
                have heq : x0 = b := by
                  rcases Nat.lt_or_ge b x0 with z | z
                  · have := hlow b z
                    have e : zsm (zlc L) (b + 1) = zsm (zlc L) b + zlc L b := rfl
                    omega
                  · omega
                refine z_iload dX11_readSign_94 rfl ?_
                refine z_goto (t := 101) dX11_readSign_96 (by decide) ?_
                refine z_istore dX11_readSign_101 (Nat.le_of_ble_eq_true rfl) ?_
                refine z_iinc dX11_readSign_103 rfl (Nat.le_of_ble_eq_true rfl) ?_
                refine z_goto (t := 50) dX11_readSign_106 (by decide) ?_
                first
                | (have h9 := ih (b + 1) (by omega) (by omega); rw [if_neg (by omega)] at h9; rw [show nI b + Int32.ofInt 1 = nI (b + 1) from nI_1 b]; exact h9)
                | (have h9 := ih (b + 1) (by omega) (by omega); rw [if_pos (by omega), heq] at h9; rw [show nI b + Int32.ofInt 1 = nI (b + 1) from nI_1 b]; exact h9)
  have inner : ∀ (c : Nat) (E : Nat → Bool) (ex es : Nat) (S : zEs × Nat × Nat) (v1 : Nat → Int32) (g1 : Nat → Nat → Int32), c ≤ M.2.2.1 + 1 → zTl (zSyR gg kk) M.1.2.2.1 M.1.2.2.2 M.2.1 M.2.2.2.2 c E ex es S y → ex = zcard E 257 → E 256 = false → zfv zVR v v1 → zfg [11, 12] g g1 → zRq v1 S → zRs S → S.2.2 + 16 * (c + 1) < 900000 → zRx g1 E → v1 18 = nI ex → zZ (zXm G rX11_readSign mX11_readSign [.ref m, .int (nI s)] (zRh G h0 m v g) n K) 11 [(0, .ref m), (1, .int (nI s)), (2, .int (zkI c))] [] (zRh G h0 m v1 g1) n 0 0 := by
    obtain ⟨m1, m2, m3, m4, m5, m6, m7, m8⟩ := hMi
    intro c
    induction c with
    | zero =>
      intro E ex es S v1 g1 hc ht hex hE1 hfv hfg hq hS htk hX h18
      obtain ⟨i0, S2, hsy, hy⟩ := ht
      have L9 := zflat_ok hE1
      obtain ⟨r1, r2, r3, r4⟩ := zSyR_ok L9 hS hsy
      obtain ⟨hi0, p1, p2, rfl⟩ := hsy
      have hlen := zflat_len2 (E := E)
      have hm := zflat_mem (zsg_mem hi0)
      dsimp only at hm
      have hbel := zflat_below hi0
      have hps0 := zflat_ps (E := E) (d := 257) (s := 0) (Nat.le_refl _)
      have hw0 : ((S.2.1 - S.1.2.2.1 + 1) * (zflat E 257 0).length - 1) / (S.1.2.2.2.1 - S.1.2.2.1 + 1) = i0 := by
        rw [hps0, zflat_ps (by omega)] at p1 p2
        omega
      have wl : ∀ (d b : Nat), zsg (zflat E 257 0) i0 - b < d → b ≤ zsg (zflat E 257 0) i0 → zZ (zXm G rX11_readSign mX11_readSign [.ref m, .int (nI s)] (zRh G h0 m v g) n K) 164 [(0, .ref m), (1, .int (nI s)), (2, .int (nI (i0 - zsm (fun b => if E b = true then 0 else 1) b))), (3, .int (nI b))] [] (zRh G h0 m (upd v1 45 0) g1) n 0 0 := by
        intro d
        induction d with
        | zero => intro b hd; omega
        | succ d ih =>
          intro b hd hb
          have hz1 : zsm (fun b => if E b = true then 0 else 1) b ≤ i0 := by rw [← hbel]; exact zsm_mono _ hb
          by_cases hbx : b = zsg (zflat E 257 0) i0
          · have hEb : E b = false := by rw [hbx]; exact hm.2.2.2
            refine z_aload_n dX11_readSign_164 rfl ?_
            refine zr_get dX11_readSign_165 fX11_40_11 rfl rfl ?_
            refine z_iload_n dX11_readSign_168 rfl ?_
            refine zr_bld (a := _) dX11_readSign_169 rfl (by have := hm.2.1; omega) ?_
            rw [hX b (by have := hm.2.1; omega), if_neg (by rw [hEb]; decide)]
            refine z_if_ne (t := 177) dX11_readSign_170 (by decide) (fun q170 => ?_) (fun q170 => ?_)
            · exact absurd rfl q170
            · refine z_iload_n dX11_readSign_173 rfl ?_
              refine z_if_le (t := 200) dX11_readSign_174 (by decide) (fun q174 => ?_) (fun q174 => ?_)
              · refine z_aload_n dX11_readSign_200 rfl ?_
                refine z_iload_n dX11_readSign_201 rfl ?_
                refine zcall2 (zck_V (na := 1) (ci := 11) (R' := rX11_flat) (M' := mX11_flat) (fun _ _ _ _ => tvX11_flat) (by decide) kX11_flat lX11_183 (by decide +kernel) rfl) dX11_readSign_202 (Nat.le_of_ble_eq_true rfl) (Nat.le_of_ble_eq_true rfl) (Nat.le_of_ble_eq_true rfl) ?_
                refine ⟨h0, m, _, g1, E, b, i0, rfl, rfl, hX, (by rw [zu_ne (by decide), h18, hex]), hi0, hbx.symm, fun v4 hv4 i22 i23 i24 => ?_⟩
                have hq4 := (hq.mv ((zfv.refl (S := [45])).up (by decide) 0) (by decide) (by decide) (by decide) (by decide)).mv hv4 (by decide) (by decide) (by decide) (by decide)
                refine z_aload_n dX11_readSign_205 rfl ?_
                refine zcall1 (zck_V (na := 0) (ci := 11) (R' := rX11_read) (M' := mX11_read) (fun _ _ _ _ => tvX11_read) (by decide) kX11_read lX11_213 (by decide +kernel) rfl) dX11_readSign_206 (Nat.le_of_ble_eq_true rfl) (Nat.le_of_ble_eq_true rfl) (Nat.le_of_ble_eq_true rfl) ?_
                refine ⟨h0, m, v4, g1, S.1, zps (zflat E 257 0) i0, zln (zflat E 257 0) i0, zps (zflat E 257 0) (zflat E 257 0).length, S.2.1, S.2.2, kk, gg, rfl, rfl, hq4.1, hq4.2.1, hS.1, i22, i23, i24, L9.2.2.2.2, L9.2.2.2.1, zln_le hi0, (L9.2.2.1 i0 hi0).2, hq4.2.2.1, hq4.2.2.2, (by omega), (by rw [hv4 5 (by decide), zu_ne (by decide), hfv 5 (by decide)]; exact h5), hkk, (fun i hi => by rw [hfg 2 (by decide)]; exact hG i hi), r3, r4, fun v5 hv5 e26 e27 e40 e41 => ?_⟩
                refine z_iload_n dX11_readSign_209 rfl ?_
                refine z_ireturn dX11_readSign_210 trivial (Nat.le_of_ble_eq_true rfl) (Nat.le_of_ble_eq_true rfl) ?_
                rw [hy] at hK
                dsimp only at hK
                rw [hbx]
                exact hK v5 g1 (((hfv.up (by decide) _).trans (hv4.mono (by decide))).trans (hv5.mono (by decide))) hfg ⟨e26, e27, e40, e41⟩ (by rw [hv5 45 (by decide), hv4 45 (by decide), zu_eq]; rfl)
              · exact absurd (by rw [hbx, hbel, Nat.sub_self]; decide) q174
          · have hbl : b < zsg (zflat E 257 0) i0 := by omega
            have hz2 : zsm (fun b => if E b = true then 0 else 1) (b + 1) ≤ i0 := by rw [← hbel]; exact zsm_mono _ hbl
            have hz3 : zsm (fun b => if E b = true then 0 else 1) (b + 1) = zsm (fun b => if E b = true then 0 else 1) b + (if E b = true then 0 else 1) := rfl
            have h9 := ih (b + 1) (by omega) (by omega)
            by_cases hEb : E b = true
            · rw [if_pos hEb] at hz3
              refine z_aload_n dX11_readSign_164 rfl ?_
              refine zr_get dX11_readSign_165 fX11_40_11 rfl rfl ?_
              refine z_iload_n dX11_readSign_168 rfl ?_
              refine zr_bld (a := _) dX11_readSign_169 rfl (by have := hm.2.1; omega) ?_
              rw [hX b (by have := hm.2.1; omega), if_pos hEb]
              refine z_if_ne (t := 177) dX11_readSign_170 (by decide) (fun q170 => ?_) (fun q170 => ?_)
              · refine z_iload_n dX11_readSign_177 rfl ?_
                refine z_aload_n dX11_readSign_178 rfl ?_
                refine zr_get dX11_readSign_179 fX11_40_11 rfl rfl ?_
                refine z_iload_n dX11_readSign_182 rfl ?_
                refine zr_bld (a := _) dX11_readSign_183 rfl (by have := hm.2.1; omega) ?_
                rw [hX b (by have := hm.2.1; omega), if_pos hEb]
                refine z_if_eq (t := 191) dX11_readSign_184 (by decide) (fun q184 => ?_) (fun q184 => ?_)
                · exact absurd q184 (by decide)
                · refine z_iconst (w := 0) dX11_readSign_187 (by decide) ?_
                  refine z_goto (t := 192) dX11_readSign_188 (by decide) ?_
                  refine z_isub dX11_readSign_192 ?_
                  rw [Int32.sub_zero]
                  refine z_istore_n dX11_readSign_193 (Nat.le_of_ble_eq_true rfl) ?_
                  refine z_iinc dX11_readSign_194 rfl (Nat.le_of_ble_eq_true rfl) ?_
                  refine z_goto (t := 164) dX11_readSign_197 (by decide) ?_
                  rw [show nI b + Int32.ofInt 1 = nI (b + 1) from nI_1 b]
                  rw [hz3, Nat.add_zero] at h9
                  exact h9
              · exact absurd q170 (by decide)
            · rw [if_neg hEb] at hz3
              refine z_aload_n dX11_readSign_164 rfl ?_
              refine zr_get dX11_readSign_165 fX11_40_11 rfl rfl ?_
              refine z_iload_n dX11_readSign_168 rfl ?_
              refine zr_bld (a := _) dX11_readSign_169 rfl (by have := hm.2.1; omega) ?_
              rw [hX b (by have := hm.2.1; omega), if_neg hEb]
              refine z_if_ne (t := 177) dX11_readSign_170 (by decide) (fun q170 => ?_) (fun q170 => ?_)
              · exact absurd rfl q170
              · refine z_iload_n dX11_readSign_173 rfl ?_
                refine z_if_le (t := 200) dX11_readSign_174 (by decide) (fun q174 => ?_) (fun q174 => ?_)
                · exact absurd q174 (nI_nle (by omega) (by omega))
                · refine z_iload_n dX11_readSign_177 rfl ?_
                  refine z_aload_n dX11_readSign_178 rfl ?_
                  refine zr_get dX11_readSign_179 fX11_40_11 rfl rfl ?_
                  refine z_iload_n dX11_readSign_182 rfl ?_
                  refine zr_bld (a := _) dX11_readSign_183 rfl (by have := hm.2.1; omega) ?_
                  rw [hX b (by have := hm.2.1; omega), if_neg hEb]
                  refine z_if_eq (t := 191) dX11_readSign_184 (by decide) (fun q184 => ?_) (fun q184 => ?_)
                  · refine z_iconst (w := 1) dX11_readSign_191 (by decide) ?_
                    refine z_isub dX11_readSign_192 ?_
                    rw [show nI (i0 - zsm (fun b => if E b = true then 0 else 1) b) - 1 = nI (i0 - zsm (fun b => if E b = true then 0 else 1) (b + 1)) by rw [show (1 : Int32) = nI 1 from rfl, zn_sub (by omega)]; congr 1; omega]
                    refine z_istore_n dX11_readSign_193 (Nat.le_of_ble_eq_true rfl) ?_
                    refine z_iinc dX11_readSign_194 rfl (Nat.le_of_ble_eq_true rfl) ?_
                    refine z_goto (t := 164) dX11_readSign_197 (by decide) ?_
                    rw [show nI b + Int32.ofInt 1 = nI (b + 1) from nI_1 b]
                    exact h9
                  · exact absurd rfl q184
      refine z_iload_n dX11_readSign_11 rfl ?_
      refine z_if_lt (t := 144) dX11_readSign_12 (by decide) (fun q12 => ?_) (fun q12 => ?_)
      · refine z_aload_n dX11_readSign_144 rfl ?_
        refine z_iconst (w := 0) dX11_readSign_145 (by decide) ?_
        refine zr_put dX11_readSign_146 fX11_216_11 rfl (fun q => absurd q (by decide)) zset_45 (by decide) (Or.inl rfl) ?_
        refine z_aload_n dX11_readSign_149 rfl ?_
        refine z_sipush (w := 257) dX11_readSign_150 (by decide) ?_
        refine z_aload_n dX11_readSign_153 rfl ?_
        refine zr_get dX11_readSign_154 fX11_103_11 rfl rfl ?_
        rw [zu_ne (by decide), h18]
        refine z_isub dX11_readSign_157 ?_
        rw [show (257 : Int32) - nI ex = nI (zflat E 257 0).length from by rw [show (257 : Int32) = nI 257 from rfl, zn_sub (by omega)]; congr 1; omega]
        refine zcall2 (zck_V (na := 1) (ci := 11) (R' := rX11_asked) (M' := mX11_asked) (fun _ _ _ _ => tvX11_asked) (by decide) kX11_asked lX11_210 (by decide +kernel) rfl) dX11_readSign_158 (Nat.le_of_ble_eq_true rfl) (Nat.le_of_ble_eq_true rfl) (Nat.le_of_ble_eq_true rfl) ?_
        refine ⟨h0, m, _, g1, S.1.2.2.1, S.1.2.2.2.1, S.2.1, (zflat E 257 0).length, rfl, rfl, (zu_ne (by decide)).trans hq.2.2.1, (zu_ne (by decide)).trans hq.1, (zu_ne (by decide)).trans hq.2.1, hS.2.1, hS.2.2, hS.1.2.1, L9.1, (by omega), ?_⟩
        rw [hw0]
        refine z_istore_n dX11_readSign_161 (Nat.le_of_ble_eq_true rfl) ?_
        refine z_iconst (w := 0) dX11_readSign_162 (by decide) ?_
        refine z_istore_n dX11_readSign_163 (Nat.le_of_ble_eq_true rfl) ?_
        exact wl (zsg (zflat E 257 0) i0 + 1) 0 (by omega) (Nat.zero_le _)
      · exact absurd (by decide) q12
    | succ c ih =>
      intro E ex es S v1 g1 hc ht hex hE1 hfv hfg hq hS htk hX h18
      have hcc := m7 c (by omega)
      have hlk : zkI (c + 1) = nI c := by simp [zkI]
      obtain ⟨f1, f2⟩ := zoff_fac m1 m2 hcc.1 E
      have hl256 : (zoff M.1.2.2.1 M.1.2.2.2 E (M.2.1 (M.2.2.2.2 c))).length ≤ 256 := Nat.le_trans (zoff_len _ _ _ _) (zlen256 (m1.2.1 _ hcc.1).2 (fun d hd => (m1.2.2.2 d (m1.2.2.1 _ d hcc.1 hd).1 (m1.2.2.1 _ d hcc.1 hd).2.1).2.2.1))
      have htot := zps_tot (zoff M.1.2.2.1 M.1.2.2.2 E (M.2.1 (M.2.2.2.2 c)))
      have hM1 : zRm g1 s M.1 M.2.2.1 M.2.2.2.1 := hM.keep hfg (by decide)
      rw [hlk]
      refine z_iload_n dX11_readSign_11 rfl ?_
      refine z_if_lt (t := 144) dX11_readSign_12 (by decide) (fun q12 => ?_) (fun q12 => ?_)
      · exact absurd q12 (nI_pos (by omega))
      · refine z_aload_n dX11_readSign_15 rfl ?_
        refine z_iload_n dX11_readSign_16 rfl ?_
        refine z_iload_n dX11_readSign_17 rfl ?_
        refine zcall3 (zck_V (na := 2) (ci := 11) (R' := rX11_look) (M' := mX11_look) (fun _ _ _ _ => tvX11_look) (by decide) kX11_look lX11_170 (by decide +kernel) rfl) dX11_readSign_18 (Nat.le_of_ble_eq_true rfl) (Nat.le_of_ble_eq_true rfl) (Nat.le_of_ble_eq_true rfl) ?_
        refine ⟨h0, m, v1, g1, s, c, M.2.2.2.2 c, M.1, M.2.1, M.2.2.1, M.2.2.2.1, E, rfl, rfl, hM1, m1, hs, (by omega), hcc.2, hcc.1, hX, fun v2 g2 hv2 hg2 e20 e21 ec => ?_⟩
        have hfv2 := hfv.trans (hv2.mono (by decide))
        have hfg2 := hfg.trans (hg2.mono (by decide))
        have hq2 := hq.mv hv2 (by decide) (by decide) (by decide) (by decide)
        have hX2 : zRx g2 E := fun b hb => by rw [hg2 11 (by decide)]; exact hX b hb
        have h18b : v2 18 = nI ex := (hv2 18 (by decide)).trans h18
        refine z_aload_n dX11_readSign_21 rfl ?_
        refine zr_get dX11_readSign_22 fX11_113_11 rfl rfl ?_
        rw [e21]
        rcases ht with ⟨hz, ht⟩ | ⟨hne, i0, S2, hsy, ht⟩
        · rw [show (zoff M.1.2.2.1 M.1.2.2.2 E (M.2.1 (M.2.2.2.2 c))).length = 0 by rw [hz]; rfl]
          refine z_if_le (t := 138) dX11_readSign_25 (by decide) (fun q25 => ?_) (fun q25 => ?_)
          · refine z_iinc dX11_readSign_138 rfl (Nat.le_of_ble_eq_true rfl) ?_
            refine z_goto (t := 11) dX11_readSign_141 (by decide) ?_
            rw [show nI c + Int32.ofInt (-1) = zkI c by unfold zkI; split; (rename_i e; subst e; decide); exact sb_m1 (by omega)]
            exact ih E ex es S v2 g2 (by omega) ht hex hE1 hfv2 hfg2 hq2 hS (by omega) hX2 h18b
          · exact absurd (by decide) q25
        · have hok2 := (zoff_ok m1 m2 hcc.1 E hne).1
          have hlen : 0 < (zoff M.1.2.2.1 M.1.2.2.2 E (M.2.1 (M.2.2.2.2 c))).length := List.length_pos_iff.mpr hne
          obtain ⟨r1, r2, r3, r4⟩ := zSyR_ok hok2 hS hsy
          obtain ⟨hi0, p1, p2, rfl⟩ := hsy
          obtain ⟨x0, x1, x2, x3, x4, x5⟩ := zfind f1 (fun q hq => ⟨(f2 q hq).1, (f2 q hq).2.1⟩) hi0 p1 p2
          have hwb : ((S.2.1 - S.1.2.2.1 + 1) * zps ((zoff M.1.2.2.1 M.1.2.2.2 E (M.2.1 (M.2.2.2.2 c))) ++ [(257, (zoff M.1.2.2.1 M.1.2.2.2 E (M.2.1 (M.2.2.2.2 c))).length)]) ((zoff M.1.2.2.1 M.1.2.2.2 E (M.2.1 (M.2.2.2.2 c))) ++ [(257, (zoff M.1.2.2.1 M.1.2.2.2 E (M.2.1 (M.2.2.2.2 c))).length)]).length - 1) / (S.1.2.2.2.1 - S.1.2.2.1 + 1) < 1000000 := by
            have := zps_le (L := ((zoff M.1.2.2.1 M.1.2.2.2 E (M.2.1 (M.2.2.2.2 c))) ++ [(257, (zoff M.1.2.2.1 M.1.2.2.2 E (M.2.1 (M.2.2.2.2 c))).length)])) (show i0 + 1 ≤ ((zoff M.1.2.2.1 M.1.2.2.2 E (M.2.1 (M.2.2.2.2 c))) ++ [(257, (zoff M.1.2.2.1 M.1.2.2.2 E (M.2.1 (M.2.2.2.2 c))).length)]).length from hi0) (Nat.le_refl _)
            have := hok2.2.2.2.1
            omega
          have hsb : ∀ b, b ≤ 256 → zsm (zlc (zoff M.1.2.2.1 M.1.2.2.2 E (M.2.1 (M.2.2.2.2 c)))) b < 1000000 := fun b hb => by
            have := zsm_mono (zlc (zoff M.1.2.2.1 M.1.2.2.2 E (M.2.1 (M.2.2.2.2 c)))) hb
            rw [zsm_all f1 (N := 256) (fun q hq => (f2 q hq).1)] at this
            have := hok2.2.2.2.1
            omega
          refine z_if_le (t := 138) dX11_readSign_25 (by decide) (fun q25 => ?_) (fun q25 => ?_)
          · exact absurd q25 (nI_nle hlen (by omega))
          · refine z_aload_n dX11_readSign_28 rfl ?_
            refine z_aload_n dX11_readSign_29 rfl ?_
            refine zr_get dX11_readSign_30 fX11_110_11 rfl rfl ?_
            rw [e20]
            refine z_aload_n dX11_readSign_33 rfl ?_
            refine zr_get dX11_readSign_34 fX11_113_11 rfl rfl ?_
            rw [e21]
            refine z_iadd dX11_readSign_37 ?_
            rw [nI_add, ← htot]
            refine zcall2 (zck_V (na := 1) (ci := 11) (R' := rX11_asked) (M' := mX11_asked) (fun _ _ _ _ => tvX11_asked) (by decide) kX11_asked lX11_210 (by decide +kernel) rfl) dX11_readSign_38 (Nat.le_of_ble_eq_true rfl) (Nat.le_of_ble_eq_true rfl) (Nat.le_of_ble_eq_true rfl) ?_
            refine ⟨h0, m, v2, g2, S.1.2.2.1, S.1.2.2.2.1, S.2.1, zps ((zoff M.1.2.2.1 M.1.2.2.2 E (M.2.1 (M.2.2.2.2 c))) ++ [(257, (zoff M.1.2.2.1 M.1.2.2.2 E (M.2.1 (M.2.2.2.2 c))).length)]) ((zoff M.1.2.2.1 M.1.2.2.2 E (M.2.1 (M.2.2.2.2 c))) ++ [(257, (zoff M.1.2.2.1 M.1.2.2.2 E (M.2.1 (M.2.2.2.2 c))).length)]).length, rfl, rfl, hq2.2.2.1, hq2.1, hq2.2.1, hS.2.1, hS.2.2, hS.1.2.1, hok2.2.2.2.2, (by have := hok2.2.2.2.1; omega), ?_⟩
            refine z_istore_n dX11_readSign_41 (Nat.le_of_ble_eq_true rfl) ?_
            refine z_sipush (w := 256) dX11_readSign_42 (by decide) ?_
            refine z_istore dX11_readSign_45 (Nat.le_of_ble_eq_true rfl) ?_
            refine z_iconst (w := 0) dX11_readSign_47 (by decide) ?_
            refine z_istore dX11_readSign_48 (Nat.le_of_ble_eq_true rfl) ?_
            refine bl c _ x0 (zoff M.1.2.2.1 M.1.2.2.2 E (M.2.1 (M.2.2.2.2 c))) v2 g2 ec hsb hwb x1 x3 x4 ?_ 257 0 (by omega) (by omega)
            rcases ht with ⟨hsg, hy⟩ | ⟨hsg, ht⟩
            · refine z_aload_n dX11_readSign_109 rfl ?_
              refine z_iload dX11_readSign_110 rfl ?_
              refine zcall2 (zck_V (na := 1) (ci := 11) (R' := rX11_isFound) (M' := mX11_isFound) (fun _ _ _ _ => tvX11_isFound) (by decide) kX11_isFound lX11_173 (by decide +kernel) rfl) dX11_readSign_112 (Nat.le_of_ble_eq_true rfl) (Nat.le_of_ble_eq_true rfl) (Nat.le_of_ble_eq_true rfl) ?_
              refine ⟨h0, m, v2, g2, (zoff M.1.2.2.1 M.1.2.2.2 E (M.2.1 (M.2.2.2.2 c))), x0, i0, rfl, rfl, f1, (fun q hq => ⟨(f2 q hq).1, (f2 q hq).2.1, (f2 q hq).2.2.1⟩), ec, e20, e21, x1, x2, fun v4 hv4 i22 i23 i24 => ?_⟩
              have hq4 := hq2.mv hv4 (by decide) (by decide) (by decide) (by decide)
              refine z_istore dX11_readSign_115 (Nat.le_of_ble_eq_true rfl) ?_
              refine z_aload_n dX11_readSign_117 rfl ?_
              refine zcall1 (zck_V (na := 0) (ci := 11) (R' := rX11_read) (M' := mX11_read) (fun _ _ _ _ => tvX11_read) (by decide) kX11_read lX11_213 (by decide +kernel) rfl) dX11_readSign_118 (Nat.le_of_ble_eq_true rfl) (Nat.le_of_ble_eq_true rfl) (Nat.le_of_ble_eq_true rfl) ?_
              refine ⟨h0, m, v4, g2, S.1, zps ((zoff M.1.2.2.1 M.1.2.2.2 E (M.2.1 (M.2.2.2.2 c))) ++ [(257, (zoff M.1.2.2.1 M.1.2.2.2 E (M.2.1 (M.2.2.2.2 c))).length)]) i0, zln ((zoff M.1.2.2.1 M.1.2.2.2 E (M.2.1 (M.2.2.2.2 c))) ++ [(257, (zoff M.1.2.2.1 M.1.2.2.2 E (M.2.1 (M.2.2.2.2 c))).length)]) i0, zps ((zoff M.1.2.2.1 M.1.2.2.2 E (M.2.1 (M.2.2.2.2 c))) ++ [(257, (zoff M.1.2.2.1 M.1.2.2.2 E (M.2.1 (M.2.2.2.2 c))).length)]) ((zoff M.1.2.2.1 M.1.2.2.2 E (M.2.1 (M.2.2.2.2 c))) ++ [(257, (zoff M.1.2.2.1 M.1.2.2.2 E (M.2.1 (M.2.2.2.2 c))).length)]).length, S.2.1, S.2.2, kk, gg, rfl, rfl, hq4.1, hq4.2.1, hS.1, i22, i23, i24, hok2.2.2.2.2, hok2.2.2.2.1, zln_le hi0, (hok2.2.2.1 i0 hi0).2, hq4.2.2.1, hq4.2.2.2, (by omega), (by rw [hv4 5 (by decide), hfv2 5 (by decide)]; exact h5), hkk, (fun i hi => by rw [hfg2 2 (by decide)]; exact hG i hi), r3, r4, fun v5 hv5 e26 e27 e40 e41 => ?_⟩
              refine z_iload dX11_readSign_121 rfl ?_
              refine z_if_eq (t := 134) dX11_readSign_123 (by decide) (fun q123 => ?_) (fun q123 => ?_)
              · exact absurd q123 (by rw [if_neg hsg]; decide)
              · refine z_aload_n dX11_readSign_126 rfl ?_
                refine z_iload_n dX11_readSign_127 rfl ?_
                refine zr_put dX11_readSign_128 fX11_216_11 rfl (fun q => absurd q (by decide)) zset_45 (by decide) (Or.inl rfl) ?_
                refine z_iload dX11_readSign_131 rfl ?_
                refine z_ireturn dX11_readSign_133 trivial (Nat.le_of_ble_eq_true rfl) (Nat.le_of_ble_eq_true rfl) ?_
                rw [hy] at hK
                dsimp only at hK
                rw [x5 hsg]
                exact hK _ g2 (((hfv2.trans (hv4.mono (by decide))).trans (hv5.mono (by decide))).up (by decide) _) hfg2 ⟨(zu_ne (by decide)).trans e26, (zu_ne (by decide)).trans e27, (zu_ne (by decide)).trans e40, (zu_ne (by decide)).trans e41⟩ zu_eq
            · refine z_aload_n dX11_readSign_109 rfl ?_
              refine z_iload dX11_readSign_110 rfl ?_
              refine zcall2 (zck_V (na := 1) (ci := 11) (R' := rX11_isFound) (M' := mX11_isFound) (fun _ _ _ _ => tvX11_isFound) (by decide) kX11_isFound lX11_173 (by decide +kernel) rfl) dX11_readSign_112 (Nat.le_of_ble_eq_true rfl) (Nat.le_of_ble_eq_true rfl) (Nat.le_of_ble_eq_true rfl) ?_
              refine ⟨h0, m, v2, g2, (zoff M.1.2.2.1 M.1.2.2.2 E (M.2.1 (M.2.2.2.2 c))), x0, i0, rfl, rfl, f1, (fun q hq => ⟨(f2 q hq).1, (f2 q hq).2.1, (f2 q hq).2.2.1⟩), ec, e20, e21, x1, x2, fun v4 hv4 i22 i23 i24 => ?_⟩
              have hq4 := hq2.mv hv4 (by decide) (by decide) (by decide) (by decide)
              refine z_istore dX11_readSign_115 (Nat.le_of_ble_eq_true rfl) ?_
              refine z_aload_n dX11_readSign_117 rfl ?_
              refine zcall1 (zck_V (na := 0) (ci := 11) (R' := rX11_read) (M' := mX11_read) (fun _ _ _ _ => tvX11_read) (by decide) kX11_read lX11_213 (by decide +kernel) rfl) dX11_readSign_118 (Nat.le_of_ble_eq_true rfl) (Nat.le_of_ble_eq_true rfl) (Nat.le_of_ble_eq_true rfl) ?_
              refine ⟨h0, m, v4, g2, S.1, zps ((zoff M.1.2.2.1 M.1.2.2.2 E (M.2.1 (M.2.2.2.2 c))) ++ [(257, (zoff M.1.2.2.1 M.1.2.2.2 E (M.2.1 (M.2.2.2.2 c))).length)]) i0, zln ((zoff M.1.2.2.1 M.1.2.2.2 E (M.2.1 (M.2.2.2.2 c))) ++ [(257, (zoff M.1.2.2.1 M.1.2.2.2 E (M.2.1 (M.2.2.2.2 c))).length)]) i0, zps ((zoff M.1.2.2.1 M.1.2.2.2 E (M.2.1 (M.2.2.2.2 c))) ++ [(257, (zoff M.1.2.2.1 M.1.2.2.2 E (M.2.1 (M.2.2.2.2 c))).length)]) ((zoff M.1.2.2.1 M.1.2.2.2 E (M.2.1 (M.2.2.2.2 c))) ++ [(257, (zoff M.1.2.2.1 M.1.2.2.2 E (M.2.1 (M.2.2.2.2 c))).length)]).length, S.2.1, S.2.2, kk, gg, rfl, rfl, hq4.1, hq4.2.1, hS.1, i22, i23, i24, hok2.2.2.2.2, hok2.2.2.2.1, zln_le hi0, (hok2.2.2.1 i0 hi0).2, hq4.2.2.1, hq4.2.2.2, (by omega), (by rw [hv4 5 (by decide), hfv2 5 (by decide)]; exact h5), hkk, (fun i hi => by rw [hfg2 2 (by decide)]; exact hG i hi), r3, r4, fun v5 hv5 e26 e27 e40 e41 => ?_⟩
              refine z_iload dX11_readSign_121 rfl ?_
              refine z_if_eq (t := 134) dX11_readSign_123 (by decide) (fun q123 => ?_) (fun q123 => ?_)
              · refine z_aload_n dX11_readSign_134 rfl ?_
                refine zcall1 (zck_V (na := 0) (ci := 11) (R' := rX11_exclude) (M' := mX11_exclude) (fun _ _ _ _ => tvX11_exclude) (by decide) kX11_exclude lX11_177 (by decide +kernel) rfl) dX11_readSign_135 (Nat.le_of_ble_eq_true rfl) (Nat.le_of_ble_eq_true rfl) (Nat.le_of_ble_eq_true rfl) ?_
                refine ⟨h0, m, v5, g2, E, (zoff M.1.2.2.1 M.1.2.2.2 E (M.2.1 (M.2.2.2.2 c))), (257, (zoff M.1.2.2.1 M.1.2.2.2 E (M.2.1 (M.2.2.2.2 c))).length), ex, rfl, rfl, hX2, f1, (fun q hq => ⟨(f2 q hq).1, (f2 q hq).2.1, (f2 q hq).2.2.1⟩), ec, (by rw [hv5 18 (by decide), hv4 18 (by decide)]; exact h18b), fun v6 g6 hv6 hg6 i18 hX6 => ?_⟩
                refine z_iinc dX11_readSign_138 rfl (Nat.le_of_ble_eq_true rfl) ?_
                refine z_goto (t := 11) dX11_readSign_141 (by decide) ?_
                refine zZ.keep [0, 1, 2] ?_
                rw [show nI c + Int32.ofInt (-1) = zkI c by unfold zkI; split; (rename_i e; subst e; decide); exact sb_m1 (by omega)]
                refine ih _ _ _ _ v6 g6 (by omega) ht ?_ (zexc_256 m1 m2 hcc.1 hE1) (((hfv2.trans (hv4.mono (by decide))).trans (hv5.mono (by decide))).trans (hv6.mono (by decide))) (hfg2.trans (hg6.mono (by decide))) ⟨(hv6 26 (by decide)).trans e26, (hv6 27 (by decide)).trans e27, (hv6 40 (by decide)).trans e40, (hv6 41 (by decide)).trans e41⟩ r1 (by omega) hX6 i18
                rw [hex, zcard_exc f1 (fun q hq => ⟨(f2 q hq).1, (f2 q hq).2.1, (f2 q hq).2.2.2⟩)]
              · exact absurd (by rw [if_pos hsg]) q123
  refine z_aload_n dX11_readSign_0 rfl ?_
  refine zcall1 (zck_V (na := 0) (ci := 11) (R' := rX11_beginSign) (M' := mX11_beginSign) (fun _ _ _ _ => tvX11_beginSign) (by decide) kX11_beginSign lX11_167 (by decide +kernel) rfl) dX11_readSign_1 (Nat.le_of_ble_eq_true rfl) (Nat.le_of_ble_eq_true rfl) (Nat.le_of_ble_eq_true rfl) ?_
  refine ⟨h0, m, v, g, rfl, rfl, fun v2 g2 hv2 e18 hg2 hX2 => ?_⟩
  refine z_aload_n dX11_readSign_4 rfl ?_
  refine zr_get dX11_readSign_5 fX11_31_11 rfl rfl ?_
  refine z_iload_n dX11_readSign_8 rfl ?_
  refine zr_ald (a := _) dX11_readSign_9 rfl (by decide) (by simp only [zrl]; omega) ?_
  rw [hg2 8 (by decide), hM.2.1]
  refine z_istore_n dX11_readSign_10 (Nat.le_of_ble_eq_true rfl) ?_
  rw [show nI M.2.2.1 = zkI (M.2.2.1 + 1) by simp [zkI]]
  exact inner (M.2.2.1 + 1) (fun _ => false) 0 0 S v2 g2 (Nat.le_refl _) hty zcard_0.symm rfl (hv2.mono (by decide)) (hg2.mono (by decide)) (hq.mv hv2 (by decide) (by decide) (by decide) (by decide)) hS (by have := hMi.2.2.2.1; omega) hX2 e18

/-! the reference: reading bits -/
abbrev rX11_next : Room := ⟨0, 0, 0, 0⟩
def SX11_next (G : zC) : zS := fun as h n K => ∃ (h0 : zH) (m : Nat) (v : Nat → Int32) (g : Nat → Nat → Int32) (tak kk : Nat) (gg : Nat → Int32), as = [.ref m] ∧ h = zRh G h0 m v g ∧ v 41 = nI tak ∧ tak < 1000000 ∧ v 5 = nI kk ∧ kk ≤ 6000 ∧ (∀ i, i < kk → g 2 i = gg i) ∧ ∀ v', zfv [41] v v' → v' 41 = nI (tak + 1) → K (some (.int (nI (zbn gg kk tak)))) (zRh G h0 m v' g) n
set_option maxRecDepth 100000 in
theorem tvX11_next {G : zC} {as : List Value} {h : zH} {n : Nat} {K : zP} (hs : SX11_next G as h n K) : (∃ b fs r, as = .ref b :: r ∧ h b = some (.inr (11, fs))) ∧ zCt G rX11_next mX11_next as h n K := by
  obtain ⟨h0, m, v, g, tak, kk, gg, rfl, rfl, h41, htk, h5, hkk, hG, hK⟩ := hs
  refine ⟨⟨_, _, _, rfl, zRh_o⟩, zCt.of (by decide) (Nat.le_of_ble_eq_true rfl) ?_⟩
  refine z_aload_n dX11_next_0 rfl ?_
  refine zr_get dX11_next_1 fX11_200_11 rfl rfl ?_
  rw [h41]
  refine z_istore_n dX11_next_4 (Nat.le_of_ble_eq_true rfl) ?_
  refine z_aload_n dX11_next_5 rfl ?_
  refine z_dup dX11_next_6 rfl ?_
  refine zr_get dX11_next_7 fX11_200_11 rfl rfl ?_
  rw [h41]
  refine z_iconst (w := 1) dX11_next_10 (by decide) ?_
  refine z_iadd dX11_next_11 ?_
  rw [nI_1]
  refine zr_put dX11_next_12 fX11_200_11 rfl (fun q => absurd q (by decide)) zset_41 (by decide) (Or.inl rfl) ?_
  refine z_iload_n dX11_next_15 rfl ?_
  refine z_bipush (w := 8) dX11_next_16 (by decide) ?_
  refine z_aload_n dX11_next_18 rfl ?_
  refine zr_get dX11_next_19 fX11_93_11 rfl rfl ?_
  rw [zu_ne (by decide), h5]
  refine z_imul dX11_next_22 ?_
  rw [show (8 : Int32) = nI 8 by rfl, zn_mul]
  refine z_icmp_ge (t := 48) dX11_next_23 (by decide) (fun q23 => ?_) (fun q23 => ?_)
  · have w23 := (nI_leI (by omega) (by omega)).mp q23
    rw [zbn, if_neg (by omega)] at hK
    refine z_iconst (w := 0) dX11_next_48 (by decide) ?_
    refine z_ireturn dX11_next_49 trivial (Nat.le_of_ble_eq_true rfl) (Nat.le_of_ble_eq_true rfl) ?_
    exact hK _ (zfv.refl.up (by decide) _) zu_eq
  · have w23 := mt (nI_leI (by omega) (by omega)).mpr q23
    refine z_aload_n dX11_next_26 rfl ?_
    refine zr_get dX11_next_27 fX11_13_11 rfl rfl ?_
    refine z_iload_n dX11_next_30 rfl ?_
    refine z_bipush (w := 8) dX11_next_31 (by decide) ?_
    refine z_idiv dX11_next_33 (by decide) ?_
    rw [zdiv8 (by omega)]
    refine zr_ald (a := tak / 8) dX11_next_34 rfl (by decide) (by simp only [zrl]; omega) ?_
    rw [hG _ (by omega)]
    refine z_bipush (w := 7) dX11_next_35 (by decide) ?_
    refine z_iload_n dX11_next_37 rfl ?_
    refine z_bipush (w := 8) dX11_next_38 (by decide) ?_
    refine z_irem dX11_next_40 (by decide) ?_
    rw [zrem8 (by omega)]
    refine z_isub dX11_next_41 ?_
    rw [zs7 (by omega)]
    refine z_ishr dX11_next_42 ?_
    refine z_iconst (w := 1) dX11_next_43 (by decide) ?_
    refine z_iand dX11_next_44 ?_
    rw [show (gg (tak / 8) >>> (nI (7 - tak % 8) &&& 31)) &&& 1 = nI (zbn gg kk tak) by rw [zbn, if_pos (by omega)]; exact pk_and _ (m := 1) 1 (by decide)]
    refine z_goto (t := 49) dX11_next_45 (by decide) ?_
    refine z_ireturn dX11_next_49 trivial (Nat.le_of_ble_eq_true rfl) (Nat.le_of_ble_eq_true rfl) ?_
    exact hK _ (zfv.refl.up (by decide) _) zu_eq
abbrev rX11_asked : Room := ⟨0, 0, 0, 0⟩
def SX11_asked (G : zC) : zS := fun as h n K => ∃ (h0 : zH) (m : Nat) (v : Nat → Int32) (g : Nat → Nat → Int32) (lo hi num p : Nat), as = [.ref m, .int (nI p)] ∧ h = zRh G h0 m v g ∧ v 40 = nI num ∧ v 26 = nI lo ∧ v 27 = nI hi ∧ lo ≤ num ∧ num ≤ hi ∧ hi < 65536 ∧ 0 < p ∧ p ≤ 16384 ∧ K (some (.int (nI (((num - lo + 1) * p - 1) / (hi - lo + 1))))) h n
set_option maxRecDepth 100000 in
theorem tvX11_asked {G : zC} {as : List Value} {h : zH} {n : Nat} {K : zP} (hs : SX11_asked G as h n K) : (∃ b fs r, as = .ref b :: r ∧ h b = some (.inr (11, fs))) ∧ zCt G rX11_asked mX11_asked as h n K := by
  obtain ⟨h0, m, v, g, lo, hi, num, p, rfl, rfl, h40, h26, h27, hl, hh, h6, hp, hp2, hK⟩ := hs
  refine ⟨⟨_, _, _, rfl, zRh_o⟩, zCt.of (by decide) (Nat.le_of_ble_eq_true rfl) ?_⟩
  have b1 : (num - lo + 1) * p ≤ 65536 * 16384 := Nat.mul_le_mul (by omega) hp2
  have b2 : 1 * 1 ≤ (num - lo + 1) * p := Nat.mul_le_mul (by omega) hp
  refine z_aload_n dX11_asked_0 rfl ?_
  refine zr_get dX11_asked_1 fX11_203_11 rfl rfl ?_
  rw [h40]
  refine z_aload_n dX11_asked_4 rfl ?_
  refine zr_get dX11_asked_5 fX11_149_11 rfl rfl ?_
  rw [h26]
  refine z_isub dX11_asked_8 ?_
  rw [zn_sub hl]
  refine z_iconst (w := 1) dX11_asked_9 (by decide) ?_
  refine z_iadd dX11_asked_10 ?_
  rw [nI_1]
  refine z_iload_n dX11_asked_11 rfl ?_
  refine z_imul dX11_asked_12 ?_
  rw [zn_mul]
  refine z_iconst (w := 1) dX11_asked_13 (by decide) ?_
  refine z_isub dX11_asked_14 ?_
  rw [show ∀ a, nI a - 1 = nI a - nI 1 from fun a => rfl, zn_sub (by omega)]
  refine z_aload_n dX11_asked_15 rfl ?_
  refine zr_get dX11_asked_16 fX11_146_11 rfl rfl ?_
  rw [h27]
  refine z_aload_n dX11_asked_19 rfl ?_
  refine zr_get dX11_asked_20 fX11_149_11 rfl rfl ?_
  rw [h26]
  refine z_isub dX11_asked_23 ?_
  rw [zn_sub (by omega)]
  refine z_iconst (w := 1) dX11_asked_24 (by decide) ?_
  refine z_iadd dX11_asked_25 ?_
  rw [nI_1]
  refine z_idiv dX11_asked_26 (nI_ne0 (by omega) (by omega)) ?_
  rw [pk_div (by omega) (by omega) (by omega)]
  refine z_ireturn dX11_asked_27 trivial (Nat.le_of_ble_eq_true rfl) (Nat.le_of_ble_eq_true rfl) ?_
  exact hK
abbrev rX11_read : Room := ⟨1, 0, 0, 40⟩
def SX11_read (G : zC) : zS := fun as h n K => ∃ (h0 : zH) (m : Nat) (v : Nat → Int32) (g : Nat → Nat → Int32) (e : zEs) (x y t num tak kk : Nat) (gg : Nat → Int32), as = [.ref m] ∧ h = zRh G h0 m v g ∧ v 26 = nI e.2.2.1 ∧ v 27 = nI e.2.2.2.1 ∧ zEok e ∧ v 22 = nI x ∧ v 23 = nI y ∧ v 24 = nI t ∧ 0 < t ∧ t ≤ 556 ∧ x + y ≤ t ∧ 0 < y ∧ v 40 = nI num ∧ v 41 = nI tak ∧ tak < 900000 ∧ v 5 = nI kk ∧ kk ≤ 6000 ∧ (∀ i, i < kk → g 2 i = gg i) ∧ (znar e x y t).2.2.1 ≤ num ∧ num ≤ (znar e x y t).2.2.2.1 ∧ ∀ v', zfv [26, 27, 40, 41] v v' → v' 26 = nI (ztake e x y t).2.2.1 → v' 27 = nI (ztake e x y t).2.2.2.1 → v' 40 = nI (zrnum (zbn gg kk) 16 (znar e x y t).2.2.1 (znar e x y t).2.2.2.1 num tak).1 → v' 41 = nI (zrnum (zbn gg kk) 16 (znar e x y t).2.2.1 (znar e x y t).2.2.2.1 num tak).2 → K none (zRh G h0 m v' g) n
set_option maxRecDepth 100000 in
theorem tvX11_read {G : zC} {as : List Value} {h : zH} {n : Nat} {K : zP} (hs : SX11_read G as h n K) : (∃ b fs r, as = .ref b :: r ∧ h b = some (.inr (11, fs))) ∧ zCt G rX11_read mX11_read as h n K := by
  obtain ⟨h0, m, v, g, e, x, y, t, num, tak, kk, gg, rfl, rfl, e26, e27, hok, h22, h23, h24, ht, ht2, hxy, hy, h40, h41, htk, h5, hkk, hG, hn1, hn2, hK⟩ := hs
  refine ⟨⟨_, _, _, rfl, zRh_o⟩, zCt.of (by decide) (Nat.le_of_ble_eq_true rfl) ?_⟩
  obtain ⟨k1, k2, k3⟩ := hok
  obtain ⟨z1, z2, z3, z4⟩ := znar_ok k1 k2 ht (by omega) (by omega) hxy hy
  have hset : zset (ztake e x y t).2.2.1 (ztake e x y t).2.2.2.1 = none := by
    have z5 := znar_w (x := x) (y := y) k1 k3 ht ht2 hy
    refine (zren_ok 16 11 (znar e x y t) (by omega) ?_ ?_ ?_).1
    all_goals
      simp only [znar]
      revert z1 z2 z5
      generalize (e.2.2.2.1 - e.2.2.1 + 1) * x / t = A
      generalize (e.2.2.2.1 - e.2.2.1 + 1) * (x + y) / t = B
      intro z1 z2 z5
    · omega
    · omega
    · have : 29 ≤ e.2.2.1 + B - 1 - (e.2.2.1 + A) + 1 := by omega
      have := Nat.mul_le_mul_right (2 ^ 11) this
      omega
  have loop : ∀ (d : Nat) (e1 : zEs) (nu ta : Nat) (v1 : Nat → Int32), zfv [26, 27, 40, 41] v v1 → v1 26 = nI e1.2.2.1 → v1 27 = nI e1.2.2.2.1 → v1 40 = nI nu → v1 41 = nI ta → e1.2.2.1 ≤ nu → nu ≤ e1.2.2.2.1 → e1.2.2.2.1 < 65536 → zren d e1 = ztake e x y t → zrnum (zbn gg kk) d e1.2.2.1 e1.2.2.2.1 nu ta = (zrnum (zbn gg kk) 16 (znar e x y t).2.2.1 (znar e x y t).2.2.2.1 num tak) → ta + d < 1000000 → zZ (zXm G rX11_read mX11_read [.ref m] (zRh G h0 m v g) n K) 6 [(0, .ref m), (1, .int 1)] [] (zRh G h0 m v1 g) n 0 0 := by
    intro d
    induction d with
    | zero =>
      intro e1 nu ta v1 hv f26 f27 f40 f41 hl hh h6 hr hq hc
      have hr1 : e1 = ztake e x y t := hr
      have hq1 : (nu, ta) = (zrnum (zbn gg kk) 16 (znar e x y t).2.2.1 (znar e x y t).2.2.2.1 num tak) := hq
      have hs : zset e1.2.2.1 e1.2.2.2.1 = none := by rw [hr1]; exact hset
      refine z_iload_n dX11_read_6 rfl ?_
      refine z_if_eq (t := 124) dX11_read_7 (by decide) (fun q7 => ?_) (fun q7 => ?_)
      · exact absurd q7 (by decide)
      · refine z_aload_n dX11_read_10 rfl ?_
        refine zr_get dX11_read_11 fX11_146_11 rfl rfl ?_
        rw [f27]
        refine z_ldc dX11_read_14 coX11_155 ?_
        refine z_icmp_ge (t := 23) dX11_read_16 (by decide) (fun q16 => ?_) (fun q16 => ?_)
        · rw [zn32] at q16
          have q16b := (nI_leI (by omega) (by omega)).mp q16
          refine z_aload_n dX11_read_23 rfl ?_
          refine zr_get dX11_read_24 fX11_149_11 rfl rfl ?_
          rw [f26]
          refine z_ldc dX11_read_27 coX11_155 ?_
          refine z_icmp_lt (t := 37) dX11_read_29 (by decide) (fun q29 => ?_) (fun q29 => ?_)
          · rw [zn32] at q29
            have q29b := (nI_ltI (by omega) (by omega)).mp q29
            refine z_aload_n dX11_read_37 rfl ?_
            refine zr_get dX11_read_38 fX11_149_11 rfl rfl ?_
            rw [f26]
            refine z_sipush (w := 16384) dX11_read_41 (by decide) ?_
            refine z_icmp_lt (t := 62) dX11_read_44 (by decide) (fun q44 => ?_) (fun q44 => ?_)
            · refine z_iconst (w := -1) dX11_read_62 (by decide) ?_
              refine z_istore_n dX11_read_63 (Nat.le_of_ble_eq_true rfl) ?_
              refine z_iload_n dX11_read_64 rfl ?_
              refine z_if_lt (t := 72) dX11_read_65 (by decide) (fun q65 => ?_) (fun q65 => ?_)
              · refine z_iconst (w := 0) dX11_read_72 (by decide) ?_
                refine z_istore_n dX11_read_73 (Nat.le_of_ble_eq_true rfl) ?_
                refine z_iload_n dX11_read_74 rfl ?_
                refine z_if_eq (t := 121) dX11_read_75 (by decide) (fun q75 => ?_) (fun q75 => ?_)
                · refine z_goto (t := 6) dX11_read_121 (by decide) ?_
                  refine z_iload_n dX11_read_6 rfl ?_
                  refine z_if_eq (t := 124) dX11_read_7 (by decide) (fun q7b => ?_) (fun q7b => ?_)
                  · refine z_vreturn dX11_read_124 rfl (Nat.le_of_ble_eq_true rfl) (Nat.le_of_ble_eq_true rfl) ?_
                    exact hK v1 hv (by rw [← hr1]; exact f26) (by rw [← hr1]; exact f27) (by rw [← hq1]; exact f40) (by rw [← hq1]; exact f41)
                  · exact absurd rfl q7b
                · exact absurd rfl q75
              · exact absurd (by decide) q65
            · rw [zn16] at q44
              have q44b := mt (nI_ltI (by omega) (by omega)).mpr q44
              refine z_aload_n dX11_read_47 rfl ?_
              refine zr_get dX11_read_48 fX11_146_11 rfl rfl ?_
              rw [f27]
              refine z_ldc dX11_read_51 coX11_159 ?_
              refine z_icmp_ge (t := 62) dX11_read_53 (by decide) (fun q53 => ?_) (fun q53 => ?_)
              · refine z_iconst (w := -1) dX11_read_62 (by decide) ?_
                refine z_istore_n dX11_read_63 (Nat.le_of_ble_eq_true rfl) ?_
                refine z_iload_n dX11_read_64 rfl ?_
                refine z_if_lt (t := 72) dX11_read_65 (by decide) (fun q65 => ?_) (fun q65 => ?_)
                · refine z_iconst (w := 0) dX11_read_72 (by decide) ?_
                  refine z_istore_n dX11_read_73 (Nat.le_of_ble_eq_true rfl) ?_
                  refine z_iload_n dX11_read_74 rfl ?_
                  refine z_if_eq (t := 121) dX11_read_75 (by decide) (fun q75 => ?_) (fun q75 => ?_)
                  · refine z_goto (t := 6) dX11_read_121 (by decide) ?_
                    refine z_iload_n dX11_read_6 rfl ?_
                    refine z_if_eq (t := 124) dX11_read_7 (by decide) (fun q7b => ?_) (fun q7b => ?_)
                    · refine z_vreturn dX11_read_124 rfl (Nat.le_of_ble_eq_true rfl) (Nat.le_of_ble_eq_true rfl) ?_
                      exact hK v1 hv (by rw [← hr1]; exact f26) (by rw [← hr1]; exact f27) (by rw [← hq1]; exact f40) (by rw [← hq1]; exact f41)
                    · exact absurd rfl q7b
                  · exact absurd rfl q75
                · exact absurd (by decide) q65
              · exfalso; rw [zn49] at q53; have q53b := mt (nI_leI (by omega) (by omega)).mpr q53; rw [zset, if_neg (by omega), if_neg (by omega), if_pos (by omega)] at hs; cases hs
          · exfalso; rw [zn32] at q29; have q29b := mt (nI_ltI (by omega) (by omega)).mpr q29; rw [zset, if_neg (by omega), if_pos (by omega)] at hs; cases hs
        · exfalso; rw [zn32] at q16; have q16b := mt (nI_leI (by omega) (by omega)).mpr q16; rw [zset, if_pos (by omega)] at hs; cases hs
    | succ d ih =>
      intro e1 nu ta v1 hv f26 f27 f40 f41 hl hh h6 hr hq hc
      cases hs : zset e1.2.2.1 e1.2.2.2.1 with
      | none =>
        have hr1 : e1 = ztake e x y t := by rw [← hr, zren_none hs]
        have hq1 : (nu, ta) = (zrnum (zbn gg kk) 16 (znar e x y t).2.2.1 (znar e x y t).2.2.2.1 num tak) := by rw [← hq, zrnum_none hs]
        refine z_iload_n dX11_read_6 rfl ?_
        refine z_if_eq (t := 124) dX11_read_7 (by decide) (fun q7 => ?_) (fun q7 => ?_)
        · exact absurd q7 (by decide)
        · refine z_aload_n dX11_read_10 rfl ?_
          refine zr_get dX11_read_11 fX11_146_11 rfl rfl ?_
          rw [f27]
          refine z_ldc dX11_read_14 coX11_155 ?_
          refine z_icmp_ge (t := 23) dX11_read_16 (by decide) (fun q16 => ?_) (fun q16 => ?_)
          · rw [zn32] at q16
            have q16b := (nI_leI (by omega) (by omega)).mp q16
            refine z_aload_n dX11_read_23 rfl ?_
            refine zr_get dX11_read_24 fX11_149_11 rfl rfl ?_
            rw [f26]
            refine z_ldc dX11_read_27 coX11_155 ?_
            refine z_icmp_lt (t := 37) dX11_read_29 (by decide) (fun q29 => ?_) (fun q29 => ?_)
            · rw [zn32] at q29
              have q29b := (nI_ltI (by omega) (by omega)).mp q29
              refine z_aload_n dX11_read_37 rfl ?_
              refine zr_get dX11_read_38 fX11_149_11 rfl rfl ?_
              rw [f26]
              refine z_sipush (w := 16384) dX11_read_41 (by decide) ?_
              refine z_icmp_lt (t := 62) dX11_read_44 (by decide) (fun q44 => ?_) (fun q44 => ?_)
              · refine z_iconst (w := -1) dX11_read_62 (by decide) ?_
                refine z_istore_n dX11_read_63 (Nat.le_of_ble_eq_true rfl) ?_
                refine z_iload_n dX11_read_64 rfl ?_
                refine z_if_lt (t := 72) dX11_read_65 (by decide) (fun q65 => ?_) (fun q65 => ?_)
                · refine z_iconst (w := 0) dX11_read_72 (by decide) ?_
                  refine z_istore_n dX11_read_73 (Nat.le_of_ble_eq_true rfl) ?_
                  refine z_iload_n dX11_read_74 rfl ?_
                  refine z_if_eq (t := 121) dX11_read_75 (by decide) (fun q75 => ?_) (fun q75 => ?_)
                  · refine z_goto (t := 6) dX11_read_121 (by decide) ?_
                    refine z_iload_n dX11_read_6 rfl ?_
                    refine z_if_eq (t := 124) dX11_read_7 (by decide) (fun q7b => ?_) (fun q7b => ?_)
                    · refine z_vreturn dX11_read_124 rfl (Nat.le_of_ble_eq_true rfl) (Nat.le_of_ble_eq_true rfl) ?_
                      exact hK v1 hv (by rw [← hr1]; exact f26) (by rw [← hr1]; exact f27) (by rw [← hq1]; exact f40) (by rw [← hq1]; exact f41)
                    · exact absurd rfl q7b
                  · exact absurd rfl q75
                · exact absurd (by decide) q65
              · rw [zn16] at q44
                have q44b := mt (nI_ltI (by omega) (by omega)).mpr q44
                refine z_aload_n dX11_read_47 rfl ?_
                refine zr_get dX11_read_48 fX11_146_11 rfl rfl ?_
                rw [f27]
                refine z_ldc dX11_read_51 coX11_159 ?_
                refine z_icmp_ge (t := 62) dX11_read_53 (by decide) (fun q53 => ?_) (fun q53 => ?_)
                · refine z_iconst (w := -1) dX11_read_62 (by decide) ?_
                  refine z_istore_n dX11_read_63 (Nat.le_of_ble_eq_true rfl) ?_
                  refine z_iload_n dX11_read_64 rfl ?_
                  refine z_if_lt (t := 72) dX11_read_65 (by decide) (fun q65 => ?_) (fun q65 => ?_)
                  · refine z_iconst (w := 0) dX11_read_72 (by decide) ?_
                    refine z_istore_n dX11_read_73 (Nat.le_of_ble_eq_true rfl) ?_
                    refine z_iload_n dX11_read_74 rfl ?_
                    refine z_if_eq (t := 121) dX11_read_75 (by decide) (fun q75 => ?_) (fun q75 => ?_)
                    · refine z_goto (t := 6) dX11_read_121 (by decide) ?_
                      refine z_iload_n dX11_read_6 rfl ?_
                      refine z_if_eq (t := 124) dX11_read_7 (by decide) (fun q7b => ?_) (fun q7b => ?_)
                      · refine z_vreturn dX11_read_124 rfl (Nat.le_of_ble_eq_true rfl) (Nat.le_of_ble_eq_true rfl) ?_
                        exact hK v1 hv (by rw [← hr1]; exact f26) (by rw [← hr1]; exact f27) (by rw [← hq1]; exact f40) (by rw [← hq1]; exact f41)
                      · exact absurd rfl q7b
                    · exact absurd rfl q75
                  · exact absurd (by decide) q65
                · exfalso; rw [zn49] at q53; have q53b := mt (nI_leI (by omega) (by omega)).mpr q53; rw [zset, if_neg (by omega), if_neg (by omega), if_pos (by omega)] at hs; cases hs
            · exfalso; rw [zn32] at q29; have q29b := mt (nI_ltI (by omega) (by omega)).mpr q29; rw [zset, if_neg (by omega), if_pos (by omega)] at hs; cases hs
          · exfalso; rw [zn32] at q16; have q16b := mt (nI_leI (by omega) (by omega)).mpr q16; rw [zset, if_pos (by omega)] at hs; cases hs
      | some g0 =>
        rw [zren_some hs] at hr
        rw [zrnum_some hs] at hq
        obtain ⟨b1, b2, b3, b4, b5⟩ := zset_w hs (by omega) h6
        obtain ⟨p1, p2, p3⟩ := zshift_p e1 g0
        have hbn := zbn_le gg kk ta
        have f5 : v1 5 = nI kk := (hv 5 (by decide)).trans h5
        refine z_iload_n dX11_read_6 rfl ?_
        refine z_if_eq (t := 124) dX11_read_7 (by decide) (fun q7 => ?_) (fun q7 => ?_)
        · exact absurd q7 (by decide)
        · refine z_aload_n dX11_read_10 rfl ?_
          refine zr_get dX11_read_11 fX11_146_11 rfl rfl ?_
          rw [f27]
          refine z_ldc dX11_read_14 coX11_155 ?_
          refine z_icmp_ge (t := 23) dX11_read_16 (by decide) (fun q16 => ?_) (fun q16 => ?_)
          · rw [zn32] at q16
            have q16b := (nI_leI (by omega) (by omega)).mp q16
            refine z_aload_n dX11_read_23 rfl ?_
            refine zr_get dX11_read_24 fX11_149_11 rfl rfl ?_
            rw [f26]
            refine z_ldc dX11_read_27 coX11_155 ?_
            refine z_icmp_lt (t := 37) dX11_read_29 (by decide) (fun q29 => ?_) (fun q29 => ?_)
            · rw [zn32] at q29
              have q29b := (nI_ltI (by omega) (by omega)).mp q29
              refine z_aload_n dX11_read_37 rfl ?_
              refine zr_get dX11_read_38 fX11_149_11 rfl rfl ?_
              rw [f26]
              refine z_sipush (w := 16384) dX11_read_41 (by decide) ?_
              refine z_icmp_lt (t := 62) dX11_read_44 (by decide) (fun q44 => ?_) (fun q44 => ?_)
              · exfalso; rw [zn16] at q44; have q44b := (nI_ltI (by omega) (by omega)).mp q44; rw [zset, if_neg (by omega), if_neg (by omega), if_neg (by omega)] at hs; cases hs
              · rw [zn16] at q44
                have q44b := mt (nI_ltI (by omega) (by omega)).mpr q44
                refine z_aload_n dX11_read_47 rfl ?_
                refine zr_get dX11_read_48 fX11_146_11 rfl rfl ?_
                rw [f27]
                refine z_ldc dX11_read_51 coX11_159 ?_
                refine z_icmp_ge (t := 62) dX11_read_53 (by decide) (fun q53 => ?_) (fun q53 => ?_)
                · exfalso; rw [zn49] at q53; have q53b := (nI_leI (by omega) (by omega)).mp q53; rw [zset, if_neg (by omega), if_neg (by omega), if_neg (by omega)] at hs; cases hs
                · rw [zn49] at q53
                  have q53b := mt (nI_leI (by omega) (by omega)).mpr q53
                  have hg0 : g0 = 16384 := by rw [zset, if_neg (by omega), if_neg (by omega), if_pos (by omega)] at hs; exact (Option.some.inj hs).symm
                  subst hg0
                  refine z_sipush (w := 16384) dX11_read_56 (by decide) ?_
                  refine z_goto (t := 63) dX11_read_59 (by decide) ?_
                  refine z_istore_n dX11_read_63 (Nat.le_of_ble_eq_true rfl) ?_
                  refine z_iload_n dX11_read_64 rfl ?_
                  refine z_if_lt (t := 72) dX11_read_65 (by decide) (fun q65 => ?_) (fun q65 => ?_)
                  · exact absurd q65 (by decide)
                  · refine z_iconst (w := 1) dX11_read_68 (by decide) ?_
                    refine z_goto (t := 73) dX11_read_69 (by decide) ?_
                    refine z_istore_n dX11_read_73 (Nat.le_of_ble_eq_true rfl) ?_
                    refine z_iload_n dX11_read_74 rfl ?_
                    refine z_if_eq (t := 121) dX11_read_75 (by decide) (fun q75 => ?_) (fun q75 => ?_)
                    · exact absurd q75 (by decide)
                    · refine z_aload_n dX11_read_78 rfl ?_
                      refine z_iconst (w := 2) dX11_read_79 (by decide) ?_
                      refine z_aload_n dX11_read_80 rfl ?_
                      refine zr_get dX11_read_81 fX11_149_11 rfl rfl ?_
                      rw [f26]
                      refine z_iload_n dX11_read_84 rfl ?_
                      refine z_isub dX11_read_85 ?_
                      rw [zn16, zn_sub (by omega)]
                      refine z_imul dX11_read_86 ?_
                      rw [show (2 : Int32) = nI 2 by rfl, zn_mul]
                      refine zr_put dX11_read_87 fX11_149_11 rfl (fun q => absurd q (by decide)) zset_26 (by decide) (Or.inl rfl) ?_
                      refine z_aload_n dX11_read_90 rfl ?_
                      refine z_iconst (w := 2) dX11_read_91 (by decide) ?_
                      refine z_aload_n dX11_read_92 rfl ?_
                      refine zr_get dX11_read_93 fX11_146_11 rfl rfl ?_
                      rw [zu_ne (by decide), f27]
                      refine z_iload_n dX11_read_96 rfl ?_
                      refine z_isub dX11_read_97 ?_
                      rw [zn_sub (by omega)]
                      refine z_imul dX11_read_98 ?_
                      rw [show (2 : Int32) = nI 2 by rfl, zn_mul]
                      refine z_iconst (w := 1) dX11_read_99 (by decide) ?_
                      refine z_iadd dX11_read_100 ?_
                      rw [nI_1]
                      refine zr_put dX11_read_101 fX11_146_11 rfl (fun q => absurd q (by decide)) zset_27 (by decide) (Or.inl rfl) ?_
                      refine z_aload_n dX11_read_104 rfl ?_
                      refine z_iconst (w := 2) dX11_read_105 (by decide) ?_
                      refine z_aload_n dX11_read_106 rfl ?_
                      refine zr_get dX11_read_107 fX11_203_11 rfl rfl ?_
                      rw [zu_ne (by decide), zu_ne (by decide), f40]
                      refine z_iload_n dX11_read_110 rfl ?_
                      refine z_isub dX11_read_111 ?_
                      rw [zn_sub (by omega)]
                      refine z_imul dX11_read_112 ?_
                      rw [show (2 : Int32) = nI 2 by rfl, zn_mul]
                      refine z_aload_n dX11_read_113 rfl ?_
                      refine zcall1 (zck_V (na := 0) (ci := 11) (R' := rX11_next) (M' := mX11_next) (fun _ _ _ _ => tvX11_next) (by decide) kX11_next lX11_206 (by decide +kernel) rfl) dX11_read_114 (Nat.le_of_ble_eq_true rfl) (Nat.le_of_ble_eq_true rfl) (Nat.le_of_ble_eq_true rfl) ?_
                      refine ⟨h0, m, _, g, ta, kk, gg, rfl, rfl, (by rw [zu_ne (by decide), zu_ne (by decide)]; exact f41), (by omega), (by rw [zu_ne (by decide), zu_ne (by decide)]; exact f5), hkk, hG, fun v2 hv2 i41 => ?_⟩
                      refine z_iadd dX11_read_117 ?_
                      rw [nI_add]
                      refine zr_put dX11_read_118 fX11_203_11 rfl (fun q => absurd q (by decide)) zset_40 (by decide) (Or.inl rfl) ?_
                      refine z_goto (t := 6) dX11_read_121 (by decide) ?_
                      refine zZ.keep [0, 1] ?_
                      refine ih (zshift e1 16384) (2 * (nu - 16384) + zbn gg kk ta) (ta + 1) _ (((((hv.up (by decide) _).up (by decide) _).trans (hv2.mono (by decide))).up (by decide) _)) ?_ ?_ zu_eq ?_ (by rw [p2]; omega) (by rw [p3]; omega) (by rw [p3]; exact b4) hr (by rw [p2, p3]; exact hq) (by omega)
                      · rw [zu_ne (by decide), hv2 26 (by decide), zu_ne (by decide), zu_eq, p2]
                      · rw [zu_ne (by decide), hv2 27 (by decide), zu_eq, p3]
                      · rw [zu_ne (by decide)]; exact i41
            · rw [zn32] at q29
              have q29b := mt (nI_ltI (by omega) (by omega)).mpr q29
              have hg0 : g0 = 32768 := by rw [zset, if_neg (by omega), if_pos (by omega)] at hs; exact (Option.some.inj hs).symm
              subst hg0
              refine z_ldc dX11_read_32 coX11_155 ?_
              refine z_goto (t := 63) dX11_read_34 (by decide) ?_
              refine z_istore_n dX11_read_63 (Nat.le_of_ble_eq_true rfl) ?_
              refine z_iload_n dX11_read_64 rfl ?_
              refine z_if_lt (t := 72) dX11_read_65 (by decide) (fun q65 => ?_) (fun q65 => ?_)
              · exact absurd q65 (by decide)
              · refine z_iconst (w := 1) dX11_read_68 (by decide) ?_
                refine z_goto (t := 73) dX11_read_69 (by decide) ?_
                refine z_istore_n dX11_read_73 (Nat.le_of_ble_eq_true rfl) ?_
                refine z_iload_n dX11_read_74 rfl ?_
                refine z_if_eq (t := 121) dX11_read_75 (by decide) (fun q75 => ?_) (fun q75 => ?_)
                · exact absurd q75 (by decide)
                · refine z_aload_n dX11_read_78 rfl ?_
                  refine z_iconst (w := 2) dX11_read_79 (by decide) ?_
                  refine z_aload_n dX11_read_80 rfl ?_
                  refine zr_get dX11_read_81 fX11_149_11 rfl rfl ?_
                  rw [f26]
                  refine z_iload_n dX11_read_84 rfl ?_
                  refine z_isub dX11_read_85 ?_
                  rw [zn32, zn_sub (by omega)]
                  refine z_imul dX11_read_86 ?_
                  rw [show (2 : Int32) = nI 2 by rfl, zn_mul]
                  refine zr_put dX11_read_87 fX11_149_11 rfl (fun q => absurd q (by decide)) zset_26 (by decide) (Or.inl rfl) ?_
                  refine z_aload_n dX11_read_90 rfl ?_
                  refine z_iconst (w := 2) dX11_read_91 (by decide) ?_
                  refine z_aload_n dX11_read_92 rfl ?_
                  refine zr_get dX11_read_93 fX11_146_11 rfl rfl ?_
                  rw [zu_ne (by decide), f27]
                  refine z_iload_n dX11_read_96 rfl ?_
                  refine z_isub dX11_read_97 ?_
                  rw [zn_sub (by omega)]
                  refine z_imul dX11_read_98 ?_
                  rw [show (2 : Int32) = nI 2 by rfl, zn_mul]
                  refine z_iconst (w := 1) dX11_read_99 (by decide) ?_
                  refine z_iadd dX11_read_100 ?_
                  rw [nI_1]
                  refine zr_put dX11_read_101 fX11_146_11 rfl (fun q => absurd q (by decide)) zset_27 (by decide) (Or.inl rfl) ?_
                  refine z_aload_n dX11_read_104 rfl ?_
                  refine z_iconst (w := 2) dX11_read_105 (by decide) ?_
                  refine z_aload_n dX11_read_106 rfl ?_
                  refine zr_get dX11_read_107 fX11_203_11 rfl rfl ?_
                  rw [zu_ne (by decide), zu_ne (by decide), f40]
                  refine z_iload_n dX11_read_110 rfl ?_
                  refine z_isub dX11_read_111 ?_
                  rw [zn_sub (by omega)]
                  refine z_imul dX11_read_112 ?_
                  rw [show (2 : Int32) = nI 2 by rfl, zn_mul]
                  refine z_aload_n dX11_read_113 rfl ?_
                  refine zcall1 (zck_V (na := 0) (ci := 11) (R' := rX11_next) (M' := mX11_next) (fun _ _ _ _ => tvX11_next) (by decide) kX11_next lX11_206 (by decide +kernel) rfl) dX11_read_114 (Nat.le_of_ble_eq_true rfl) (Nat.le_of_ble_eq_true rfl) (Nat.le_of_ble_eq_true rfl) ?_
                  refine ⟨h0, m, _, g, ta, kk, gg, rfl, rfl, (by rw [zu_ne (by decide), zu_ne (by decide)]; exact f41), (by omega), (by rw [zu_ne (by decide), zu_ne (by decide)]; exact f5), hkk, hG, fun v2 hv2 i41 => ?_⟩
                  refine z_iadd dX11_read_117 ?_
                  rw [nI_add]
                  refine zr_put dX11_read_118 fX11_203_11 rfl (fun q => absurd q (by decide)) zset_40 (by decide) (Or.inl rfl) ?_
                  refine z_goto (t := 6) dX11_read_121 (by decide) ?_
                  refine zZ.keep [0, 1] ?_
                  refine ih (zshift e1 32768) (2 * (nu - 32768) + zbn gg kk ta) (ta + 1) _ (((((hv.up (by decide) _).up (by decide) _).trans (hv2.mono (by decide))).up (by decide) _)) ?_ ?_ zu_eq ?_ (by rw [p2]; omega) (by rw [p3]; omega) (by rw [p3]; exact b4) hr (by rw [p2, p3]; exact hq) (by omega)
                  · rw [zu_ne (by decide), hv2 26 (by decide), zu_ne (by decide), zu_eq, p2]
                  · rw [zu_ne (by decide), hv2 27 (by decide), zu_eq, p3]
                  · rw [zu_ne (by decide)]; exact i41
          · rw [zn32] at q16
            have q16b := mt (nI_leI (by omega) (by omega)).mpr q16
            have hg0 : g0 = 0 := by rw [zset, if_pos (by omega)] at hs; exact (Option.some.inj hs).symm
            subst hg0
            refine z_iconst (w := 0) dX11_read_19 (by decide) ?_
            refine z_goto (t := 63) dX11_read_20 (by decide) ?_
            refine z_istore_n dX11_read_63 (Nat.le_of_ble_eq_true rfl) ?_
            refine z_iload_n dX11_read_64 rfl ?_
            refine z_if_lt (t := 72) dX11_read_65 (by decide) (fun q65 => ?_) (fun q65 => ?_)
            · exact absurd q65 (by decide)
            · refine z_iconst (w := 1) dX11_read_68 (by decide) ?_
              refine z_goto (t := 73) dX11_read_69 (by decide) ?_
              refine z_istore_n dX11_read_73 (Nat.le_of_ble_eq_true rfl) ?_
              refine z_iload_n dX11_read_74 rfl ?_
              refine z_if_eq (t := 121) dX11_read_75 (by decide) (fun q75 => ?_) (fun q75 => ?_)
              · exact absurd q75 (by decide)
              · refine z_aload_n dX11_read_78 rfl ?_
                refine z_iconst (w := 2) dX11_read_79 (by decide) ?_
                refine z_aload_n dX11_read_80 rfl ?_
                refine zr_get dX11_read_81 fX11_149_11 rfl rfl ?_
                rw [f26]
                refine z_iload_n dX11_read_84 rfl ?_
                refine z_isub dX11_read_85 ?_
                rw [show (0 : Int32) = nI 0 by rfl, zn_sub (by omega)]
                refine z_imul dX11_read_86 ?_
                rw [show (2 : Int32) = nI 2 by rfl, zn_mul]
                refine zr_put dX11_read_87 fX11_149_11 rfl (fun q => absurd q (by decide)) zset_26 (by decide) (Or.inl rfl) ?_
                refine z_aload_n dX11_read_90 rfl ?_
                refine z_iconst (w := 2) dX11_read_91 (by decide) ?_
                refine z_aload_n dX11_read_92 rfl ?_
                refine zr_get dX11_read_93 fX11_146_11 rfl rfl ?_
                rw [zu_ne (by decide), f27]
                refine z_iload_n dX11_read_96 rfl ?_
                refine z_isub dX11_read_97 ?_
                rw [zn_sub (by omega)]
                refine z_imul dX11_read_98 ?_
                rw [show (2 : Int32) = nI 2 by rfl, zn_mul]
                refine z_iconst (w := 1) dX11_read_99 (by decide) ?_
                refine z_iadd dX11_read_100 ?_
                rw [nI_1]
                refine zr_put dX11_read_101 fX11_146_11 rfl (fun q => absurd q (by decide)) zset_27 (by decide) (Or.inl rfl) ?_
                refine z_aload_n dX11_read_104 rfl ?_
                refine z_iconst (w := 2) dX11_read_105 (by decide) ?_
                refine z_aload_n dX11_read_106 rfl ?_
                refine zr_get dX11_read_107 fX11_203_11 rfl rfl ?_
                rw [zu_ne (by decide), zu_ne (by decide), f40]
                refine z_iload_n dX11_read_110 rfl ?_
                refine z_isub dX11_read_111 ?_
                rw [zn_sub (by omega)]
                refine z_imul dX11_read_112 ?_
                rw [show (2 : Int32) = nI 2 by rfl, zn_mul]
                refine z_aload_n dX11_read_113 rfl ?_
                refine zcall1 (zck_V (na := 0) (ci := 11) (R' := rX11_next) (M' := mX11_next) (fun _ _ _ _ => tvX11_next) (by decide) kX11_next lX11_206 (by decide +kernel) rfl) dX11_read_114 (Nat.le_of_ble_eq_true rfl) (Nat.le_of_ble_eq_true rfl) (Nat.le_of_ble_eq_true rfl) ?_
                refine ⟨h0, m, _, g, ta, kk, gg, rfl, rfl, (by rw [zu_ne (by decide), zu_ne (by decide)]; exact f41), (by omega), (by rw [zu_ne (by decide), zu_ne (by decide)]; exact f5), hkk, hG, fun v2 hv2 i41 => ?_⟩
                refine z_iadd dX11_read_117 ?_
                rw [nI_add]
                refine zr_put dX11_read_118 fX11_203_11 rfl (fun q => absurd q (by decide)) zset_40 (by decide) (Or.inl rfl) ?_
                refine z_goto (t := 6) dX11_read_121 (by decide) ?_
                refine zZ.keep [0, 1] ?_
                refine ih (zshift e1 0) (2 * (nu - 0) + zbn gg kk ta) (ta + 1) _ (((((hv.up (by decide) _).up (by decide) _).trans (hv2.mono (by decide))).up (by decide) _)) ?_ ?_ zu_eq ?_ (by rw [p2]; omega) (by rw [p3]; omega) (by rw [p3]; exact b4) hr (by rw [p2, p3]; exact hq) (by omega)
                · rw [zu_ne (by decide), hv2 26 (by decide), zu_ne (by decide), zu_eq, p2]
                · rw [zu_ne (by decide), hv2 27 (by decide), zu_eq, p3]
                · rw [zu_ne (by decide)]; exact i41
  refine z_aload_n dX11_read_0 rfl ?_
  refine zcall1 (zck_V (na := 0) (ci := 11) (R' := rX11_narrow) (M' := mX11_narrow) (fun _ _ _ _ => tvX11_narrow) (by decide) kX11_narrow lX11_152 (by decide +kernel) rfl) dX11_read_1 (Nat.le_of_ble_eq_true rfl) (Nat.le_of_ble_eq_true rfl) (Nat.le_of_ble_eq_true rfl) ?_
  refine ⟨h0, m, v, g, e.2.2.1, e.2.2.2.1, x, y, t, rfl, rfl, e26, e27, h22, h23, h24, k1, k2, ht, (by omega), (by omega), hxy, hy, fun v2 hv2 i26 i27 => ?_⟩
  refine z_iconst (w := 1) dX11_read_4 (by decide) ?_
  refine z_istore_n dX11_read_5 (Nat.le_of_ble_eq_true rfl) ?_
  refine loop 16 (znar e x y t) num tak v2 (hv2.mono (by decide)) i26 i27 ((hv2 40 (by decide)).trans h40) ((hv2 41 (by decide)).trans h41) hn1 hn2 ?_ rfl rfl (by omega)
  simp only [znar]
  revert z1 z2
  generalize (e.2.2.2.1 - e.2.2.1 + 1) * x / t = A
  generalize (e.2.2.2.1 - e.2.2.1 + 1) * (x + y) / t = B
  intro z1 z2
  omega
abbrev rX11_bitsOf : Room := ⟨0, 0, 0, 0⟩
def SX11_bitsOf (G : zC) : zS := fun as h n K => ∃ (h0 : zH) (m : Nat) (v : Nat → Int32) (g : Nat → Nat → Int32) (l t j : Nat), as = [.ref m] ∧ h = zRh G h0 m v g ∧ v 23 = nI l ∧ v 24 = nI t ∧ 0 < l ∧ l ≤ t ∧ t ≤ 556 ∧ zcost l t j ∧ K (some (.int (nI j))) h n
set_option maxRecDepth 100000 in
theorem tvX11_bitsOf {G : zC} {as : List Value} {h : zH} {n : Nat} {K : zP} (hs : SX11_bitsOf G as h n K) : (∃ b fs r, as = .ref b :: r ∧ h b = some (.inr (11, fs))) ∧ zCt G rX11_bitsOf mX11_bitsOf as h n K := by
  obtain ⟨h0, m, v, g, l, t, j, rfl, rfl, h23, h24, hl, hlt, ht, ⟨hj1, hj2, hj3⟩, hK⟩ := hs
  refine ⟨⟨_, _, _, rfl, zRh_o⟩, zCt.of (by decide) (Nat.le_of_ble_eq_true rfl) ?_⟩
  have hj16 : t ≤ l * 2 ^ j := by
    rcases Nat.lt_or_ge j 16 with z | z
    · exact hj3 z
    · rw [show j = 16 by omega]
      have := Nat.mul_le_mul hl (Nat.le_refl (2 ^ 16))
      omega
  have hjb : l * 2 ^ j ≤ 1112 := by
    rcases j with _ | j
    · simp; omega
    · have := hj2 j (by omega)
      rw [Nat.pow_succ, ← Nat.mul_assoc]; omega
  have loop : ∀ (d k : Nat), k + d = j → zZ (zXm G rX11_bitsOf mX11_bitsOf [.ref m] (zRh G h0 m v g) n K) 2 [(0, .ref m), (1, .int (nI k))] [] (zRh G h0 m v g) n 0 0 := by
    intro d
    induction d with
    | zero =>
      intro k hk
      have : k = j := by omega
      subst this
      refine z_aload_n dX11_bitsOf_2 rfl ?_
      refine zr_get dX11_bitsOf_3 fX11_126_11 rfl rfl ?_
      rw [h23]
      refine z_iload_n dX11_bitsOf_6 rfl ?_
      refine z_ishl dX11_bitsOf_7 ?_
      rw [zshl (by omega) (by omega)]
      refine z_aload_n dX11_bitsOf_8 rfl ?_
      refine zr_get dX11_bitsOf_9 fX11_116_11 rfl rfl ?_
      rw [h24]
      refine z_icmp_ge (t := 21) dX11_bitsOf_12 (by decide) (fun q12 => ?_) (fun q12 => ?_)
      · refine z_iload_n dX11_bitsOf_21 rfl ?_
        refine z_ireturn dX11_bitsOf_22 trivial (Nat.le_of_ble_eq_true rfl) (Nat.le_of_ble_eq_true rfl) ?_
        exact hK
      · exact absurd (nI_le hj16 (by omega)) q12
    | succ d ih =>
      intro k hk
      have hb := hj2 k (by omega)
      refine z_aload_n dX11_bitsOf_2 rfl ?_
      refine zr_get dX11_bitsOf_3 fX11_126_11 rfl rfl ?_
      rw [h23]
      refine z_iload_n dX11_bitsOf_6 rfl ?_
      refine z_ishl dX11_bitsOf_7 ?_
      rw [zshl (by omega) (by omega)]
      refine z_aload_n dX11_bitsOf_8 rfl ?_
      refine zr_get dX11_bitsOf_9 fX11_116_11 rfl rfl ?_
      rw [h24]
      refine z_icmp_ge (t := 21) dX11_bitsOf_12 (by decide) (fun q12 => ?_) (fun q12 => ?_)
      · exact absurd q12 (nI_ge hb (by omega))
      · refine z_iinc dX11_bitsOf_15 rfl (Nat.le_of_ble_eq_true rfl) ?_
        refine z_goto (t := 2) dX11_bitsOf_18 (by decide) ?_
        rw [show nI k + Int32.ofInt 1 = nI (k + 1) from nI_1 k]
        exact ih (k + 1) (by omega)
  refine z_iconst (w := 0) dX11_bitsOf_0 (by decide) ?_
  refine z_istore_n dX11_bitsOf_1 (Nat.le_of_ble_eq_true rfl) ?_
  exact loop j 0 (by omega)

/-! the reference: its coder -/
theorem zrem8 {p : Nat} (h : p < 2147483648) : nI p - nI p / 8 * 8 = nI (p % 8) := pk_rem (d := 8) (by omega) (by decide) (by decide)
theorem zdiv8 {p : Nat} (h : p < 2147483648) : nI p / 8 = nI (p / 8) := pk_div (d := 8) (by omega) (by decide) (by decide)
theorem zs7 {j : Nat} (h : j < 8) : (7 : Int32) - nI j = nI (7 - j) := zn_sub (a := 7) (by omega)
def zRe (v : Nat → Int32) (g : Nat → Nat → Int32) (e : zEs) : Prop := v 29 = nI e.2.1 ∧ v 26 = nI e.2.2.1 ∧ v 27 = nI e.2.2.2.1 ∧ v 28 = nI e.2.2.2.2 ∧ ∀ i, i < (e.2.1 + 7) / 8 → g 13 i = e.1 i
abbrev rX11_bit : Room := ⟨0, 0, 0, 0⟩
def SX11_bit (G : zC) : zS := fun as h n K => ∃ (h0 : zH) (m : Nat) (v : Nat → Int32) (g : Nat → Nat → Int32) (p : Nat) (f : Nat → Int32) (x : Int32), as = [.ref m, .int x] ∧ h = zRh G h0 m v g ∧ v 29 = nI p ∧ p < 47992 ∧ (∀ i, i < (p + 7) / 8 → g 13 i = f i) ∧ ∀ v' g', zfv [29] v v' → zfg [13] g g' → v' 29 = nI (p + 1) → (∀ i, i < (p + 1 + 7) / 8 → g' 13 i = zsb f p x i) → K none (zRh G h0 m v' g') n
set_option maxRecDepth 100000 in
theorem tvX11_bit {G : zC} {as : List Value} {h : zH} {n : Nat} {K : zP} (hs : SX11_bit G as h n K) : (∃ b fs r, as = .ref b :: r ∧ h b = some (.inr (11, fs))) ∧ zCt G rX11_bit mX11_bit as h n K := by
  obtain ⟨h0, m, v, g, p, f, x, rfl, rfl, hp, hpl, hA, hK⟩ := hs
  refine ⟨⟨_, _, _, rfl, zRh_o⟩, zCt.of (by decide) (Nat.le_of_ble_eq_true rfl) ?_⟩
  refine z_aload_n dX11_bit_0 rfl ?_
  refine zr_get dX11_bit_1 fX11_137_11 rfl rfl ?_
  rw [hp]
  refine z_bipush (w := 8) dX11_bit_4 (by decide) ?_
  refine z_irem dX11_bit_6 (by decide) ?_
  rw [zrem8 (by omega)]
  refine z_if_ne (t := 23) dX11_bit_7 (by decide) (fun q7 => ?_) (fun q7 => ?_)
  · have w7 : ¬ p % 8 = 0 := fun z => q7 (by rw [z]; decide)
    refine z_aload_n dX11_bit_23 rfl ?_
    refine zr_get dX11_bit_24 fX11_47_11 rfl rfl ?_
    refine z_aload_n dX11_bit_27 rfl ?_
    refine zr_get dX11_bit_28 fX11_137_11 rfl rfl ?_
    rw [hp]
    refine z_bipush (w := 8) dX11_bit_31 (by decide) ?_
    refine z_idiv dX11_bit_33 (by decide) ?_
    rw [zdiv8 (by omega)]
    refine z_dup2 dX11_bit_34 rfl rfl ?_
    refine zr_ald (a := p / 8) dX11_bit_35 rfl (by decide) (by simp only [zrl]; omega) ?_
    rw [hA (p / 8) (by omega)]
    refine z_iload_n dX11_bit_36 rfl ?_
    refine z_bipush (w := 7) dX11_bit_37 (by decide) ?_
    refine z_aload_n dX11_bit_39 rfl ?_
    refine zr_get dX11_bit_40 fX11_137_11 rfl rfl ?_
    rw [hp]
    refine z_bipush (w := 8) dX11_bit_43 (by decide) ?_
    refine z_irem dX11_bit_45 (by decide) ?_
    rw [zrem8 (by omega)]
    refine z_isub dX11_bit_46 ?_
    rw [zs7 (by omega)]
    refine z_ishl dX11_bit_47 ?_
    refine z_ior dX11_bit_48 ?_
    refine zr_ast (a := p / 8) dX11_bit_49 rfl (by decide) (by simp only [zrl]; omega) ?_
    refine z_aload_n dX11_bit_50 rfl ?_
    refine z_dup dX11_bit_51 rfl ?_
    refine zr_get dX11_bit_52 fX11_137_11 rfl rfl ?_
    rw [hp]
    refine z_iconst (w := 1) dX11_bit_55 (by decide) ?_
    refine z_iadd dX11_bit_56 ?_
    rw [nI_1]
    refine zr_put dX11_bit_57 fX11_137_11 rfl (fun q => absurd q (by decide)) zset_29 (by decide) (Or.inl rfl) ?_
    refine z_vreturn dX11_bit_60 rfl (Nat.le_of_ble_eq_true rfl) (Nat.le_of_ble_eq_true rfl) ?_
    refine hK _ _ (zfv.refl.up (by decide) _) (zfg.refl.up (by decide) _) zu_eq (fun i hi => ?_)
    rw [zng, zsb]
    by_cases e : i = p / 8
    · subst e; rw [zu_eq, zu_eq, if_neg w7]
    · rw [zu_ne e, zu_ne e]; exact hA i (by omega)
  · have w7 : p % 8 = 0 := by
      by_cases z : p % 8 = 0
      · exact z
      · exact absurd q7 (nI_ne0 (by omega) (by omega))
    refine z_aload_n dX11_bit_10 rfl ?_
    refine zr_get dX11_bit_11 fX11_47_11 rfl rfl ?_
    refine z_aload_n dX11_bit_14 rfl ?_
    refine zr_get dX11_bit_15 fX11_137_11 rfl rfl ?_
    rw [hp]
    refine z_bipush (w := 8) dX11_bit_18 (by decide) ?_
    refine z_idiv dX11_bit_20 (by decide) ?_
    rw [zdiv8 (by omega)]
    refine z_iconst (w := 0) dX11_bit_21 (by decide) ?_
    refine zr_ast (a := p / 8) dX11_bit_22 rfl (by decide) (by simp only [zrl]; omega) ?_
    refine z_aload_n dX11_bit_23 rfl ?_
    refine zr_get dX11_bit_24 fX11_47_11 rfl rfl ?_
    refine z_aload_n dX11_bit_27 rfl ?_
    refine zr_get dX11_bit_28 fX11_137_11 rfl rfl ?_
    rw [hp]
    refine z_bipush (w := 8) dX11_bit_31 (by decide) ?_
    refine z_idiv dX11_bit_33 (by decide) ?_
    rw [zdiv8 (by omega)]
    refine z_dup2 dX11_bit_34 rfl rfl ?_
    refine zr_ald (a := p / 8) dX11_bit_35 rfl (by decide) (by simp only [zrl]; omega) ?_
    rw [zng, zu_eq]
    refine z_iload_n dX11_bit_36 rfl ?_
    refine z_bipush (w := 7) dX11_bit_37 (by decide) ?_
    refine z_aload_n dX11_bit_39 rfl ?_
    refine zr_get dX11_bit_40 fX11_137_11 rfl rfl ?_
    rw [hp]
    refine z_bipush (w := 8) dX11_bit_43 (by decide) ?_
    refine z_irem dX11_bit_45 (by decide) ?_
    rw [zrem8 (by omega)]
    refine z_isub dX11_bit_46 ?_
    rw [zs7 (by omega)]
    refine z_ishl dX11_bit_47 ?_
    refine z_ior dX11_bit_48 ?_
    refine zr_ast (a := p / 8) dX11_bit_49 rfl (by decide) (by simp only [zrl]; omega) ?_
    refine z_aload_n dX11_bit_50 rfl ?_
    refine z_dup dX11_bit_51 rfl ?_
    refine zr_get dX11_bit_52 fX11_137_11 rfl rfl ?_
    rw [hp]
    refine z_iconst (w := 1) dX11_bit_55 (by decide) ?_
    refine z_iadd dX11_bit_56 ?_
    rw [nI_1]
    refine zr_put dX11_bit_57 fX11_137_11 rfl (fun q => absurd q (by decide)) zset_29 (by decide) (Or.inl rfl) ?_
    refine z_vreturn dX11_bit_60 rfl (Nat.le_of_ble_eq_true rfl) (Nat.le_of_ble_eq_true rfl) ?_
    refine hK _ _ (zfv.refl.up (by decide) _) ((zfg.refl.up (by decide) _).up (by decide) _) zu_eq (fun i hi => ?_)
    rw [zng, zng, zsb]
    by_cases e : i = p / 8
    · subst e; rw [zu_eq, zu_eq, if_pos w7]
    · rw [zu_ne e, zu_ne e, zu_ne e]; exact hA i (by omega)
abbrev rX11_put : Room := ⟨1, 0, 0, 40⟩
def SX11_put (G : zC) : zS := fun as h n K => ∃ (h0 : zH) (m : Nat) (v : Nat → Int32) (g : Nat → Nat → Int32) (e : zEs) (x : Int32), as = [.ref m, .int x] ∧ h = zRh G h0 m v g ∧ zRe v g e ∧ e.2.1 + 1 + e.2.2.2.2 < 47000 ∧ ∀ v' g', zfv [28, 29] v v' → zfg [13] g g' → zRe v' g' (zput1 e x) → K none (zRh G h0 m v' g') n
set_option maxRecDepth 100000 in
theorem tvX11_put {G : zC} {as : List Value} {h : zH} {n : Nat} {K : zP} (hs : SX11_put G as h n K) : (∃ b fs r, as = .ref b :: r ∧ h b = some (.inr (11, fs))) ∧ zCt G rX11_put mX11_put as h n K := by
  obtain ⟨h0, m, v, g, ⟨f, p, lo, hi, held⟩, x, rfl, rfl, hE, hcap, hK⟩ := hs
  refine ⟨⟨_, _, _, rfl, zRh_o⟩, zCt.of (by decide) (Nat.le_of_ble_eq_true rfl) ?_⟩
  obtain ⟨e29, e26, e27, e28, eA⟩ := hE
  dsimp only at e29 e26 e27 e28 eA hcap
  have loop : ∀ (d p' : Nat) (f' : Nat → Int32) (v1 : Nat → Int32) (g1 : Nat → Nat → Int32), p' + d < 47000 → zfv [28, 29] v v1 → zfg [13] g g1 → v1 29 = nI p' → v1 28 = nI d → (∀ i, i < (p' + 7) / 8 → g1 13 i = f' i) → zsbs (1 - x) d f' p' = zsbs (1 - x) held (zsb f p x) (p + 1) → p' + d = p + 1 + held → zZ (zXm G rX11_put mX11_put [.ref m, .int x] (zRh G h0 m v g) n K) 5 [(0, .ref m), (1, .int x)] [] (zRh G h0 m v1 g1) n 0 0 := by
    intro d
    induction d with
    | zero =>
      intro p' f' v1 g1 hc hv hg h29 h28 hA he hp2
      refine z_aload_n dX11_put_5 rfl ?_
      refine zr_get dX11_put_6 fX11_143_11 rfl rfl ?_
      rw [h28]
      refine z_if_le (t := 32) dX11_put_9 (by decide) (fun q9 => ?_) (fun q9 => ?_)
      · refine z_vreturn dX11_put_32 rfl (Nat.le_of_ble_eq_true rfl) (Nat.le_of_ble_eq_true rfl) ?_
        refine hK v1 g1 hv hg ⟨?_, ?_, ?_, ?_, fun i hi => ?_⟩
        · simp only [zput1]; rw [h29, ← hp2]; rfl
        · simp only [zput1]; rw [hv 26 (by decide)]; exact e26
        · simp only [zput1]; rw [hv 27 (by decide)]; exact e27
        · simp only [zput1]; rw [h28]
        · simp only [zput1] at hi ⊢
          rw [← he]
          exact hA i (by omega)
      · exact absurd (by decide) q9
    | succ d ih =>
      intro p' f' v1 g1 hc hv hg h29 h28 hA he hp2
      refine z_aload_n dX11_put_5 rfl ?_
      refine zr_get dX11_put_6 fX11_143_11 rfl rfl ?_
      rw [h28]
      refine z_if_le (t := 32) dX11_put_9 (by decide) (fun q9 => ?_) (fun q9 => ?_)
      · exact absurd q9 (nI_nle (by omega) (by omega))
      · refine z_aload_n dX11_put_12 rfl ?_
        refine z_iconst (w := 1) dX11_put_13 (by decide) ?_
        refine z_iload_n dX11_put_14 rfl ?_
        refine z_isub dX11_put_15 ?_
        refine zcall2 (zck_V (na := 1) (ci := 11) (R' := rX11_bit) (M' := mX11_bit) (fun _ _ _ _ => tvX11_bit) (by decide) kX11_bit lX11_140 (by decide +kernel) rfl) dX11_put_16 (Nat.le_of_ble_eq_true rfl) (Nat.le_of_ble_eq_true rfl) (Nat.le_of_ble_eq_true rfl) ?_
        refine ⟨h0, m, v1, g1, p', f', 1 - x, rfl, rfl, h29, (by omega), hA, fun v2 g2 hv2 hg2 i29 iA => ?_⟩
        refine z_aload_n dX11_put_19 rfl ?_
        refine z_dup dX11_put_20 rfl ?_
        refine zr_get dX11_put_21 fX11_143_11 rfl rfl ?_
        rw [hv2 28 (by decide), h28]
        refine z_iconst (w := 1) dX11_put_24 (by decide) ?_
        refine z_isub dX11_put_25 ?_
        rw [nI_pred]
        refine zr_put dX11_put_26 fX11_143_11 rfl (fun q => absurd q (by decide)) zset_28 (by decide) (Or.inl rfl) ?_
        refine z_goto (t := 5) dX11_put_29 (by decide) ?_
        exact ih (p' + 1) _ _ g2 (by omega) ((hv.trans (hv2.mono (by decide))).up (by decide) _) (hg.trans hg2) (by rw [zu_ne (by decide)]; exact i29) zu_eq iA (by rw [← he]; rfl) (by omega)
  refine z_aload_n dX11_put_0 rfl ?_
  refine z_iload_n dX11_put_1 rfl ?_
  refine zcall2 (zck_V (na := 1) (ci := 11) (R' := rX11_bit) (M' := mX11_bit) (fun _ _ _ _ => tvX11_bit) (by decide) kX11_bit lX11_140 (by decide +kernel) rfl) dX11_put_2 (Nat.le_of_ble_eq_true rfl) (Nat.le_of_ble_eq_true rfl) (Nat.le_of_ble_eq_true rfl) ?_
  refine ⟨h0, m, v, g, p, f, x, rfl, rfl, e29, (by omega), eA, fun v2 g2 hv2 hg2 i29 iA => ?_⟩
  exact loop held (p + 1) _ v2 g2 (by omega) (hv2.mono (by decide)) hg2 i29 (by rw [hv2 28 (by decide)]; exact e28) iA rfl rfl
abbrev rX11_narrow : Room := ⟨0, 0, 0, 0⟩
def SX11_narrow (G : zC) : zS := fun as h n K => ∃ (h0 : zH) (m : Nat) (v : Nat → Int32) (g : Nat → Nat → Int32) (lo hi x y t : Nat), as = [.ref m] ∧ h = zRh G h0 m v g ∧ v 26 = nI lo ∧ v 27 = nI hi ∧ v 22 = nI x ∧ v 23 = nI y ∧ v 24 = nI t ∧ lo ≤ hi ∧ hi < 65536 ∧ 0 < t ∧ t ≤ 16384 ∧ t ≤ hi - lo + 1 ∧ x + y ≤ t ∧ 0 < y ∧ ∀ v', zfv [26, 27] v v' → v' 26 = nI (lo + (hi - lo + 1) * x / t) → v' 27 = nI (lo + (hi - lo + 1) * (x + y) / t - 1) → K none (zRh G h0 m v' g) n
set_option maxRecDepth 100000 in
theorem tvX11_narrow {G : zC} {as : List Value} {h : zH} {n : Nat} {K : zP} (hs : SX11_narrow G as h n K) : (∃ b fs r, as = .ref b :: r ∧ h b = some (.inr (11, fs))) ∧ zCt G rX11_narrow mX11_narrow as h n K := by
  obtain ⟨h0, m, v, g, lo, hi, x, y, t, rfl, rfl, h26, h27, h22, h23, h24, hl, hh, ht, ht2, ht3, hxy, hy, hK⟩ := hs
  refine ⟨⟨_, _, _, rfl, zRh_o⟩, zCt.of (by decide) (Nat.le_of_ble_eq_true rfl) ?_⟩
  obtain ⟨z1, z2, z3, z4⟩ := znar_ok hl hh ht ht2 ht3 hxy hy
  have z5 : (hi - lo + 1) * x ≤ (hi - lo + 1) * (x + y) := Nat.mul_le_mul_left _ (Nat.le_add_right _ _)
  refine z_aload_n dX11_narrow_0 rfl ?_
  refine zr_get dX11_narrow_1 fX11_146_11 rfl rfl ?_
  rw [h27]
  refine z_aload_n dX11_narrow_4 rfl ?_
  refine zr_get dX11_narrow_5 fX11_149_11 rfl rfl ?_
  rw [h26]
  refine z_isub dX11_narrow_8 ?_
  rw [zn_sub hl]
  refine z_iconst (w := 1) dX11_narrow_9 (by decide) ?_
  refine z_iadd dX11_narrow_10 ?_
  rw [nI_1]
  refine z_istore_n dX11_narrow_11 (Nat.le_of_ble_eq_true rfl) ?_
  refine z_aload_n dX11_narrow_12 rfl ?_
  refine z_aload_n dX11_narrow_13 rfl ?_
  refine zr_get dX11_narrow_14 fX11_149_11 rfl rfl ?_
  rw [h26]
  refine z_iload_n dX11_narrow_17 rfl ?_
  refine z_aload_n dX11_narrow_18 rfl ?_
  refine zr_get dX11_narrow_19 fX11_123_11 rfl rfl ?_
  rw [h22]
  refine z_aload_n dX11_narrow_22 rfl ?_
  refine zr_get dX11_narrow_23 fX11_126_11 rfl rfl ?_
  rw [h23]
  refine z_iadd dX11_narrow_26 ?_
  rw [nI_add]
  refine z_imul dX11_narrow_27 ?_
  rw [zn_mul]
  refine z_aload_n dX11_narrow_28 rfl ?_
  refine zr_get dX11_narrow_29 fX11_116_11 rfl rfl ?_
  rw [h24]
  refine z_idiv dX11_narrow_32 (nI_ne0 ht (by omega)) ?_
  rw [pk_div (by omega) ht (by omega)]
  refine z_iadd dX11_narrow_33 ?_
  rw [nI_add]
  refine z_iconst (w := 1) dX11_narrow_34 (by decide) ?_
  refine z_isub dX11_narrow_35 ?_
  rw [show ∀ a, nI a - 1 = nI a - nI 1 from fun a => rfl, zn_sub (Nat.le_trans (Nat.le_trans (Nat.le_add_left 1 _) z1) (Nat.le_add_left _ _))]
  refine zr_put dX11_narrow_36 fX11_146_11 rfl (fun q => absurd q (by decide)) zset_27 (by decide) (Or.inl rfl) ?_
  refine z_aload_n dX11_narrow_39 rfl ?_
  refine z_aload_n dX11_narrow_40 rfl ?_
  refine zr_get dX11_narrow_41 fX11_149_11 rfl rfl ?_
  rw [zu_ne (by decide), h26]
  refine z_iload_n dX11_narrow_44 rfl ?_
  refine z_aload_n dX11_narrow_45 rfl ?_
  refine zr_get dX11_narrow_46 fX11_123_11 rfl rfl ?_
  rw [zu_ne (by decide), h22]
  refine z_imul dX11_narrow_49 ?_
  rw [zn_mul]
  refine z_aload_n dX11_narrow_50 rfl ?_
  refine zr_get dX11_narrow_51 fX11_116_11 rfl rfl ?_
  rw [zu_ne (by decide), h24]
  refine z_idiv dX11_narrow_54 (nI_ne0 ht (by omega)) ?_
  rw [pk_div (by omega) ht (by omega)]
  refine z_iadd dX11_narrow_55 ?_
  rw [nI_add]
  refine zr_put dX11_narrow_56 fX11_149_11 rfl (fun q => absurd q (by decide)) zset_26 (by decide) (Or.inl rfl) ?_
  refine z_vreturn dX11_narrow_59 rfl (Nat.le_of_ble_eq_true rfl) (Nat.le_of_ble_eq_true rfl) ?_
  exact hK _ ((zfv.refl.up (by decide) _).up (by decide) _) zu_eq (by rw [zu_ne (by decide), zu_eq])
abbrev rX11_write : Room := ⟨2, 0, 0, 80⟩
def SX11_write (G : zC) : zS := fun as h n K => ∃ (h0 : zH) (m : Nat) (v : Nat → Int32) (g : Nat → Nat → Int32) (e : zEs) (x y t : Nat), as = [.ref m] ∧ h = zRh G h0 m v g ∧ zRe v g e ∧ zEok e ∧ v 22 = nI x ∧ v 23 = nI y ∧ v 24 = nI t ∧ 0 < t ∧ t ≤ 556 ∧ x + y ≤ t ∧ 0 < y ∧ e.2.1 + e.2.2.2.2 + 16 < 47000 ∧ ∀ v' g', zfv [26, 27, 28, 29] v v' → zfg [13] g g' → zRe v' g' (ztake e x y t) → K none (zRh G h0 m v' g') n
set_option maxRecDepth 100000 in
theorem tvX11_write {G : zC} {as : List Value} {h : zH} {n : Nat} {K : zP} (hs : SX11_write G as h n K) : (∃ b fs r, as = .ref b :: r ∧ h b = some (.inr (11, fs))) ∧ zCt G rX11_write mX11_write as h n K := by
  obtain ⟨h0, m, v, g, e, x, y, t, rfl, rfl, hE, hok, h22, h23, h24, ht, ht2, hxy, hy, hcap, hK⟩ := hs
  refine ⟨⟨_, _, _, rfl, zRh_o⟩, zCt.of (by decide) (Nat.le_of_ble_eq_true rfl) ?_⟩
  obtain ⟨e29, e26, e27, e28, eA⟩ := hE
  obtain ⟨k1, k2, k3⟩ := hok
  obtain ⟨z1, z2, z3, z4⟩ := znar_ok k1 k2 ht (by omega) (by omega) hxy hy
  have hset : zset (ztake e x y t).2.2.1 (ztake e x y t).2.2.2.1 = none := by
    have z5 := znar_w (x := x) (y := y) k1 k3 ht ht2 hy
    refine (zren_ok 16 11 (znar e x y t) (by omega) ?_ ?_ ?_).1
    all_goals
      simp only [znar]
      revert z1 z2 z5
      generalize (e.2.2.2.1 - e.2.2.1 + 1) * x / t = A
      generalize (e.2.2.2.1 - e.2.2.1 + 1) * (x + y) / t = B
      intro z1 z2 z5
    · omega
    · omega
    · have : 29 ≤ e.2.2.1 + B - 1 - (e.2.2.1 + A) + 1 := by omega
      have := Nat.mul_le_mul_right (2 ^ 11) this
      omega
  have loop : ∀ (d : Nat) (e1 : zEs) (v1 : Nat → Int32) (g1 : Nat → Nat → Int32), zfv [26, 27, 28, 29] v v1 → zfg [13] g g1 → zRe v1 g1 e1 → e1.2.2.1 ≤ e1.2.2.2.1 → e1.2.2.2.1 < 65536 → zren d e1 = ztake e x y t → e1.2.1 + e1.2.2.2.2 + d < 47000 → zZ (zXm G rX11_write mX11_write [.ref m] (zRh G h0 m v g) n K) 6 [(0, .ref m), (1, .int 1)] [] (zRh G h0 m v1 g1) n 0 0 := by
    intro d
    induction d with
    | zero =>
      intro e1 v1 g1 hv hg hE1 hl hh hr hc
      have hs : zset e1.2.2.1 e1.2.2.2.1 = none := by have : e1 = ztake e x y t := hr; rw [this]; exact hset
      have hr1 : e1 = ztake e x y t := hr
      obtain ⟨f29, f26, f27, f28, fA⟩ := hE1
      refine z_iload_n dX11_write_6 rfl ?_
      refine z_if_eq (t := 153) dX11_write_7 (by decide) (fun q7 => ?_) (fun q7 => ?_)
      · exact absurd q7 (by decide)
      · refine z_aload_n dX11_write_10 rfl ?_
        refine zr_get dX11_write_11 fX11_146_11 rfl rfl ?_
        rw [f27]
        refine z_ldc dX11_write_14 coX11_155 ?_
        refine z_icmp_ge (t := 27) dX11_write_16 (by decide) (fun q16 => ?_) (fun q16 => ?_)
        · rw [zn32] at q16
          have q16b := (nI_leI (by omega) (by omega)).mp q16
          refine z_aload_n dX11_write_27 rfl ?_
          refine zr_get dX11_write_28 fX11_149_11 rfl rfl ?_
          rw [f26]
          refine z_ldc dX11_write_31 coX11_155 ?_
          refine z_icmp_lt (t := 66) dX11_write_33 (by decide) (fun q33 => ?_) (fun q33 => ?_)
          · rw [zn32] at q33
            have q33b := (nI_ltI (by omega) (by omega)).mp q33
            refine z_aload_n dX11_write_66 rfl ?_
            refine zr_get dX11_write_67 fX11_149_11 rfl rfl ?_
            rw [f26]
            refine z_sipush (w := 16384) dX11_write_70 (by decide) ?_
            refine z_icmp_lt (t := 122) dX11_write_73 (by decide) (fun q73 => ?_) (fun q73 => ?_)
            · refine z_iconst (w := 0) dX11_write_122 (by decide) ?_
              refine z_istore_n dX11_write_123 (Nat.le_of_ble_eq_true rfl) ?_
              refine z_iload_n dX11_write_124 rfl ?_
              refine z_if_eq (t := 6) dX11_write_125 (by decide) (fun q125 => ?_) (fun q125 => ?_)
              · refine z_iload_n dX11_write_6 rfl ?_
                refine z_if_eq (t := 153) dX11_write_7 (by decide) (fun q7b => ?_) (fun q7b => ?_)
                · refine z_vreturn dX11_write_153 rfl (Nat.le_of_ble_eq_true rfl) (Nat.le_of_ble_eq_true rfl) ?_
                  exact hK v1 g1 hv hg (by rw [← hr1]; exact ⟨f29, f26, f27, f28, fA⟩)
                · exact absurd rfl q7b
              · exact absurd rfl q125
            · rw [zn16] at q73
              have q73b := mt (nI_ltI (by omega) (by omega)).mpr q73
              refine z_aload_n dX11_write_76 rfl ?_
              refine zr_get dX11_write_77 fX11_146_11 rfl rfl ?_
              rw [f27]
              refine z_ldc dX11_write_80 coX11_159 ?_
              refine z_icmp_ge (t := 122) dX11_write_82 (by decide) (fun q82 => ?_) (fun q82 => ?_)
              · refine z_iconst (w := 0) dX11_write_122 (by decide) ?_
                refine z_istore_n dX11_write_123 (Nat.le_of_ble_eq_true rfl) ?_
                refine z_iload_n dX11_write_124 rfl ?_
                refine z_if_eq (t := 6) dX11_write_125 (by decide) (fun q125 => ?_) (fun q125 => ?_)
                · refine z_iload_n dX11_write_6 rfl ?_
                  refine z_if_eq (t := 153) dX11_write_7 (by decide) (fun q7b => ?_) (fun q7b => ?_)
                  · refine z_vreturn dX11_write_153 rfl (Nat.le_of_ble_eq_true rfl) (Nat.le_of_ble_eq_true rfl) ?_
                    exact hK v1 g1 hv hg (by rw [← hr1]; exact ⟨f29, f26, f27, f28, fA⟩)
                  · exact absurd rfl q7b
                · exact absurd rfl q125
              · exfalso; rw [zn49] at q82; have q82b := mt (nI_leI (by omega) (by omega)).mpr q82; rw [zset, if_neg (by omega), if_neg (by omega), if_pos (by omega)] at hs; cases hs
          · exfalso; rw [zn32] at q33; have q33b := mt (nI_ltI (by omega) (by omega)).mpr q33; rw [zset, if_neg (by omega), if_pos (by omega)] at hs; cases hs
        · exfalso; rw [zn32] at q16; have q16b := mt (nI_leI (by omega) (by omega)).mpr q16; rw [zset, if_pos (by omega)] at hs; cases hs
    | succ d ih =>
      intro e1 v1 g1 hv hg hE1 hl hh hr hc
      have hE0 := hE1
      obtain ⟨f29, f26, f27, f28, fA⟩ := hE1
      cases hs : zset e1.2.2.1 e1.2.2.2.1 with
      | none =>
        have hr1 : e1 = ztake e x y t := by rw [← hr, zren_none hs]
        refine z_iload_n dX11_write_6 rfl ?_
        refine z_if_eq (t := 153) dX11_write_7 (by decide) (fun q7 => ?_) (fun q7 => ?_)
        · exact absurd q7 (by decide)
        · refine z_aload_n dX11_write_10 rfl ?_
          refine zr_get dX11_write_11 fX11_146_11 rfl rfl ?_
          rw [f27]
          refine z_ldc dX11_write_14 coX11_155 ?_
          refine z_icmp_ge (t := 27) dX11_write_16 (by decide) (fun q16 => ?_) (fun q16 => ?_)
          · rw [zn32] at q16
            have q16b := (nI_leI (by omega) (by omega)).mp q16
            refine z_aload_n dX11_write_27 rfl ?_
            refine zr_get dX11_write_28 fX11_149_11 rfl rfl ?_
            rw [f26]
            refine z_ldc dX11_write_31 coX11_155 ?_
            refine z_icmp_lt (t := 66) dX11_write_33 (by decide) (fun q33 => ?_) (fun q33 => ?_)
            · rw [zn32] at q33
              have q33b := (nI_ltI (by omega) (by omega)).mp q33
              refine z_aload_n dX11_write_66 rfl ?_
              refine zr_get dX11_write_67 fX11_149_11 rfl rfl ?_
              rw [f26]
              refine z_sipush (w := 16384) dX11_write_70 (by decide) ?_
              refine z_icmp_lt (t := 122) dX11_write_73 (by decide) (fun q73 => ?_) (fun q73 => ?_)
              · refine z_iconst (w := 0) dX11_write_122 (by decide) ?_
                refine z_istore_n dX11_write_123 (Nat.le_of_ble_eq_true rfl) ?_
                refine z_iload_n dX11_write_124 rfl ?_
                refine z_if_eq (t := 6) dX11_write_125 (by decide) (fun q125 => ?_) (fun q125 => ?_)
                · refine z_iload_n dX11_write_6 rfl ?_
                  refine z_if_eq (t := 153) dX11_write_7 (by decide) (fun q7b => ?_) (fun q7b => ?_)
                  · refine z_vreturn dX11_write_153 rfl (Nat.le_of_ble_eq_true rfl) (Nat.le_of_ble_eq_true rfl) ?_
                    exact hK v1 g1 hv hg (by rw [← hr1]; exact ⟨f29, f26, f27, f28, fA⟩)
                  · exact absurd rfl q7b
                · exact absurd rfl q125
              · rw [zn16] at q73
                have q73b := mt (nI_ltI (by omega) (by omega)).mpr q73
                refine z_aload_n dX11_write_76 rfl ?_
                refine zr_get dX11_write_77 fX11_146_11 rfl rfl ?_
                rw [f27]
                refine z_ldc dX11_write_80 coX11_159 ?_
                refine z_icmp_ge (t := 122) dX11_write_82 (by decide) (fun q82 => ?_) (fun q82 => ?_)
                · refine z_iconst (w := 0) dX11_write_122 (by decide) ?_
                  refine z_istore_n dX11_write_123 (Nat.le_of_ble_eq_true rfl) ?_
                  refine z_iload_n dX11_write_124 rfl ?_
                  refine z_if_eq (t := 6) dX11_write_125 (by decide) (fun q125 => ?_) (fun q125 => ?_)
                  · refine z_iload_n dX11_write_6 rfl ?_
                    refine z_if_eq (t := 153) dX11_write_7 (by decide) (fun q7b => ?_) (fun q7b => ?_)
                    · refine z_vreturn dX11_write_153 rfl (Nat.le_of_ble_eq_true rfl) (Nat.le_of_ble_eq_true rfl) ?_
                      exact hK v1 g1 hv hg (by rw [← hr1]; exact ⟨f29, f26, f27, f28, fA⟩)
                    · exact absurd rfl q7b
                  · exact absurd rfl q125
                · exfalso; rw [zn49] at q82; have q82b := mt (nI_leI (by omega) (by omega)).mpr q82; rw [zset, if_neg (by omega), if_neg (by omega), if_pos (by omega)] at hs; cases hs
            · exfalso; rw [zn32] at q33; have q33b := mt (nI_ltI (by omega) (by omega)).mpr q33; rw [zset, if_neg (by omega), if_pos (by omega)] at hs; cases hs
          · exfalso; rw [zn32] at q16; have q16b := mt (nI_leI (by omega) (by omega)).mpr q16; rw [zset, if_pos (by omega)] at hs; cases hs
      | some g0 =>
        rw [zren_some hs] at hr
        obtain ⟨b1, b2, b3, b4, b5⟩ := zset_w hs hl hh
        obtain ⟨p1, p2, p3⟩ := zshift_p e1 g0
        have back : ∀ v2 g2, zfv [26, 27, 28, 29] v v2 → zfg [13] g g2 → zRe v2 g2 (zshift e1 g0) → zZ (zXm G rX11_write mX11_write [.ref m] (zRh G h0 m v g) n K) 6 [(0, .ref m), (1, .int 1)] [] (zRh G h0 m v2 g2) n 0 0 := fun v2 g2 a1 a2 a3 => ih (zshift e1 g0) v2 g2 a1 a2 a3 (by rw [p2, p3]; exact b3) (by rw [p3]; exact b4) hr (by omega)
        refine z_iload_n dX11_write_6 rfl ?_
        refine z_if_eq (t := 153) dX11_write_7 (by decide) (fun q7 => ?_) (fun q7 => ?_)
        · exact absurd q7 (by decide)
        · refine z_aload_n dX11_write_10 rfl ?_
          refine zr_get dX11_write_11 fX11_146_11 rfl rfl ?_
          rw [f27]
          refine z_ldc dX11_write_14 coX11_155 ?_
          refine z_icmp_ge (t := 27) dX11_write_16 (by decide) (fun q16 => ?_) (fun q16 => ?_)
          · rw [zn32] at q16
            have q16b := (nI_leI (by omega) (by omega)).mp q16
            refine z_aload_n dX11_write_27 rfl ?_
            refine zr_get dX11_write_28 fX11_149_11 rfl rfl ?_
            rw [f26]
            refine z_ldc dX11_write_31 coX11_155 ?_
            refine z_icmp_lt (t := 66) dX11_write_33 (by decide) (fun q33 => ?_) (fun q33 => ?_)
            · rw [zn32] at q33
              have q33b := (nI_ltI (by omega) (by omega)).mp q33
              refine z_aload_n dX11_write_66 rfl ?_
              refine zr_get dX11_write_67 fX11_149_11 rfl rfl ?_
              rw [f26]
              refine z_sipush (w := 16384) dX11_write_70 (by decide) ?_
              refine z_icmp_lt (t := 122) dX11_write_73 (by decide) (fun q73 => ?_) (fun q73 => ?_)
              · exfalso; rw [zn16] at q73; have q73b := (nI_ltI (by omega) (by omega)).mp q73; rw [zset, if_neg (by omega), if_neg (by omega), if_neg (by omega)] at hs; cases hs
              · rw [zn16] at q73
                have q73b := mt (nI_ltI (by omega) (by omega)).mpr q73
                refine z_aload_n dX11_write_76 rfl ?_
                refine zr_get dX11_write_77 fX11_146_11 rfl rfl ?_
                rw [f27]
                refine z_ldc dX11_write_80 coX11_159 ?_
                refine z_icmp_ge (t := 122) dX11_write_82 (by decide) (fun q82 => ?_) (fun q82 => ?_)
                · exfalso; rw [zn49] at q82; have q82b := (nI_leI (by omega) (by omega)).mp q82; rw [zset, if_neg (by omega), if_neg (by omega), if_neg (by omega)] at hs; cases hs
                · rw [zn49] at q82
                  have q82b := mt (nI_leI (by omega) (by omega)).mpr q82
                  have hg0 : g0 = 16384 := by rw [zset, if_neg (by omega), if_neg (by omega), if_pos (by omega)] at hs; exact (Option.some.inj hs).symm
                  subst hg0
                  refine z_aload_n dX11_write_85 rfl ?_
                  refine z_dup dX11_write_86 rfl ?_
                  refine zr_get dX11_write_87 fX11_143_11 rfl rfl ?_
                  rw [f28]
                  refine z_iconst (w := 1) dX11_write_90 (by decide) ?_
                  refine z_iadd dX11_write_91 ?_
                  rw [nI_1]
                  refine zr_put dX11_write_92 fX11_143_11 rfl (fun q => absurd q (by decide)) zset_28 (by decide) (Or.inl rfl) ?_
                  refine z_aload_n dX11_write_95 rfl ?_
                  refine z_dup dX11_write_96 rfl ?_
                  refine zr_get dX11_write_97 fX11_149_11 rfl rfl ?_
                  rw [zu_ne (by decide), f26]
                  refine z_sipush (w := 16384) dX11_write_100 (by decide) ?_
                  refine z_isub dX11_write_103 ?_
                  rw [zn16, zn_sub (by omega)]
                  refine zr_put dX11_write_104 fX11_149_11 rfl (fun q => absurd q (by decide)) zset_26 (by decide) (Or.inl rfl) ?_
                  refine z_aload_n dX11_write_107 rfl ?_
                  refine z_dup dX11_write_108 rfl ?_
                  refine zr_get dX11_write_109 fX11_146_11 rfl rfl ?_
                  rw [zu_ne (by decide), zu_ne (by decide), f27]
                  refine z_sipush (w := 16384) dX11_write_112 (by decide) ?_
                  refine z_isub dX11_write_115 ?_
                  rw [zn16, zn_sub (by omega)]
                  refine zr_put dX11_write_116 fX11_146_11 rfl (fun q => absurd q (by decide)) zset_27 (by decide) (Or.inl rfl) ?_
                  refine z_goto (t := 124) dX11_write_119 (by decide) ?_
                  refine z_iload_n dX11_write_124 rfl ?_
                  refine z_if_eq (t := 6) dX11_write_125 (by decide) (fun q125 => ?_) (fun q125 => ?_)
                  · exact absurd q125 (by decide)
                  · refine z_aload_n dX11_write_128 rfl ?_
                    refine z_iconst (w := 2) dX11_write_129 (by decide) ?_
                    refine z_aload_n dX11_write_130 rfl ?_
                    refine zr_get dX11_write_131 fX11_149_11 rfl rfl ?_
                    rw [zu_ne (by decide), zu_eq]
                    refine z_imul dX11_write_134 ?_
                    rw [show (2 : Int32) = nI 2 by rfl, zn_mul]
                    refine zr_put dX11_write_135 fX11_149_11 rfl (fun q => absurd q (by decide)) zset_26 (by decide) (Or.inl rfl) ?_
                    refine z_aload_n dX11_write_138 rfl ?_
                    refine z_iconst (w := 2) dX11_write_139 (by decide) ?_
                    refine z_aload_n dX11_write_140 rfl ?_
                    refine zr_get dX11_write_141 fX11_146_11 rfl rfl ?_
                    rw [zu_ne (by decide), zu_eq]
                    refine z_imul dX11_write_144 ?_
                    rw [show (2 : Int32) = nI 2 by rfl, zn_mul]
                    refine z_iconst (w := 1) dX11_write_145 (by decide) ?_
                    refine z_iadd dX11_write_146 ?_
                    rw [nI_1]
                    refine zr_put dX11_write_147 fX11_146_11 rfl (fun q => absurd q (by decide)) zset_27 (by decide) (Or.inl rfl) ?_
                    refine z_goto (t := 6) dX11_write_150 (by decide) ?_
                    refine back _ g1 (((((hv.up (by decide) _).up (by decide) _).up (by decide) _).up (by decide) _).up (by decide) _) hg ⟨?_, ?_, ?_, ?_, fA⟩
                    · rw [zu_ne (by decide), zu_ne (by decide), zu_ne (by decide), zu_ne (by decide), zu_ne (by decide)]; exact f29
                    · rw [zu_ne (by decide), zu_eq]; rfl
                    · rw [zu_eq]; rfl
                    · rw [zu_ne (by decide), zu_ne (by decide), zu_ne (by decide), zu_ne (by decide), zu_eq]; rfl
            · rw [zn32] at q33
              have q33b := mt (nI_ltI (by omega) (by omega)).mpr q33
              have hg0 : g0 = 32768 := by rw [zset, if_neg (by omega), if_pos (by omega)] at hs; exact (Option.some.inj hs).symm
              subst hg0
              refine z_aload_n dX11_write_36 rfl ?_
              refine z_iconst (w := 1) dX11_write_37 (by decide) ?_
              refine zcall2 (zck_V (na := 1) (ci := 11) (R' := rX11_put) (M' := mX11_put) (fun _ _ _ _ => tvX11_put) (by decide) kX11_put lX11_156 (by decide +kernel) rfl) dX11_write_38 (Nat.le_of_ble_eq_true rfl) (Nat.le_of_ble_eq_true rfl) (Nat.le_of_ble_eq_true rfl) ?_
              refine ⟨h0, m, v1, g1, e1, 1, rfl, rfl, hE0, (by omega), fun v2 g2 hv2 hg2 hE2 => ?_⟩
              obtain ⟨i29, i26, i27, i28, iA⟩ := hE2
              refine z_aload_n dX11_write_41 rfl ?_
              refine z_dup dX11_write_42 rfl ?_
              refine zr_get dX11_write_43 fX11_149_11 rfl rfl ?_
              rw [show v2 26 = nI e1.2.2.1 from i26]
              refine z_ldc dX11_write_46 coX11_155 ?_
              refine z_isub dX11_write_48 ?_
              rw [zn32, zn_sub (by omega)]
              refine zr_put dX11_write_49 fX11_149_11 rfl (fun q => absurd q (by decide)) zset_26 (by decide) (Or.inl rfl) ?_
              refine z_aload_n dX11_write_52 rfl ?_
              refine z_dup dX11_write_53 rfl ?_
              refine zr_get dX11_write_54 fX11_146_11 rfl rfl ?_
              rw [zu_ne (by decide), show v2 27 = nI e1.2.2.2.1 from i27]
              refine z_ldc dX11_write_57 coX11_155 ?_
              refine z_isub dX11_write_59 ?_
              rw [zn32, zn_sub (by omega)]
              refine zr_put dX11_write_60 fX11_146_11 rfl (fun q => absurd q (by decide)) zset_27 (by decide) (Or.inl rfl) ?_
              refine z_goto (t := 124) dX11_write_63 (by decide) ?_
              refine z_iload_n dX11_write_124 rfl ?_
              refine z_if_eq (t := 6) dX11_write_125 (by decide) (fun q125 => ?_) (fun q125 => ?_)
              · exact absurd q125 (by decide)
              · refine z_aload_n dX11_write_128 rfl ?_
                refine z_iconst (w := 2) dX11_write_129 (by decide) ?_
                refine z_aload_n dX11_write_130 rfl ?_
                refine zr_get dX11_write_131 fX11_149_11 rfl rfl ?_
                rw [zu_ne (by decide), zu_eq]
                refine z_imul dX11_write_134 ?_
                rw [show (2 : Int32) = nI 2 by rfl, zn_mul]
                refine zr_put dX11_write_135 fX11_149_11 rfl (fun q => absurd q (by decide)) zset_26 (by decide) (Or.inl rfl) ?_
                refine z_aload_n dX11_write_138 rfl ?_
                refine z_iconst (w := 2) dX11_write_139 (by decide) ?_
                refine z_aload_n dX11_write_140 rfl ?_
                refine zr_get dX11_write_141 fX11_146_11 rfl rfl ?_
                rw [zu_ne (by decide), zu_eq]
                refine z_imul dX11_write_144 ?_
                rw [show (2 : Int32) = nI 2 by rfl, zn_mul]
                refine z_iconst (w := 1) dX11_write_145 (by decide) ?_
                refine z_iadd dX11_write_146 ?_
                rw [nI_1]
                refine zr_put dX11_write_147 fX11_146_11 rfl (fun q => absurd q (by decide)) zset_27 (by decide) (Or.inl rfl) ?_
                refine z_goto (t := 6) dX11_write_150 (by decide) ?_
                refine back _ g2 (((((hv.trans (hv2.mono (by decide))).up (by decide) _).up (by decide) _).up (by decide) _).up (by decide) _) (hg.trans hg2) ⟨?_, ?_, ?_, ?_, iA⟩
                · rw [zu_ne (by decide), zu_ne (by decide), zu_ne (by decide), zu_ne (by decide)]; exact i29
                · rw [zu_ne (by decide), zu_eq]; rfl
                · rw [zu_eq]; rfl
                · rw [zu_ne (by decide), zu_ne (by decide), zu_ne (by decide), zu_ne (by decide)]; exact i28
          · rw [zn32] at q16
            have q16b := mt (nI_leI (by omega) (by omega)).mpr q16
            have hg0 : g0 = 0 := by rw [zset, if_pos (by omega)] at hs; exact (Option.some.inj hs).symm
            subst hg0
            refine z_aload_n dX11_write_19 rfl ?_
            refine z_iconst (w := 0) dX11_write_20 (by decide) ?_
            refine zcall2 (zck_V (na := 1) (ci := 11) (R' := rX11_put) (M' := mX11_put) (fun _ _ _ _ => tvX11_put) (by decide) kX11_put lX11_156 (by decide +kernel) rfl) dX11_write_21 (Nat.le_of_ble_eq_true rfl) (Nat.le_of_ble_eq_true rfl) (Nat.le_of_ble_eq_true rfl) ?_
            refine ⟨h0, m, v1, g1, e1, 0, rfl, rfl, hE0, (by omega), fun v2 g2 hv2 hg2 hE2 => ?_⟩
            obtain ⟨i29, i26, i27, i28, iA⟩ := hE2
            have j26 : v2 26 = nI e1.2.2.1 := i26
            have j27 : v2 27 = nI e1.2.2.2.1 := i27
            refine z_goto (t := 124) dX11_write_24 (by decide) ?_
            refine z_iload_n dX11_write_124 rfl ?_
            refine z_if_eq (t := 6) dX11_write_125 (by decide) (fun q125 => ?_) (fun q125 => ?_)
            · exact absurd q125 (by decide)
            · refine z_aload_n dX11_write_128 rfl ?_
              refine z_iconst (w := 2) dX11_write_129 (by decide) ?_
              refine z_aload_n dX11_write_130 rfl ?_
              refine zr_get dX11_write_131 fX11_149_11 rfl rfl ?_
              rw [j26]
              refine z_imul dX11_write_134 ?_
              rw [show (2 : Int32) = nI 2 by rfl, zn_mul]
              refine zr_put dX11_write_135 fX11_149_11 rfl (fun q => absurd q (by decide)) zset_26 (by decide) (Or.inl rfl) ?_
              refine z_aload_n dX11_write_138 rfl ?_
              refine z_iconst (w := 2) dX11_write_139 (by decide) ?_
              refine z_aload_n dX11_write_140 rfl ?_
              refine zr_get dX11_write_141 fX11_146_11 rfl rfl ?_
              rw [zu_ne (by decide), j27]
              refine z_imul dX11_write_144 ?_
              rw [show (2 : Int32) = nI 2 by rfl, zn_mul]
              refine z_iconst (w := 1) dX11_write_145 (by decide) ?_
              refine z_iadd dX11_write_146 ?_
              rw [nI_1]
              refine zr_put dX11_write_147 fX11_146_11 rfl (fun q => absurd q (by decide)) zset_27 (by decide) (Or.inl rfl) ?_
              refine z_goto (t := 6) dX11_write_150 (by decide) ?_
              refine back _ g2 (((hv.trans (hv2.mono (by decide))).up (by decide) _).up (by decide) _) (hg.trans hg2) ⟨?_, ?_, ?_, ?_, iA⟩
              · rw [zu_ne (by decide), zu_ne (by decide)]; exact i29
              · rw [zu_ne (by decide), zu_eq]; rfl
              · rw [zu_eq]; rfl
              · rw [zu_ne (by decide), zu_ne (by decide)]; exact i28
  refine z_aload_n dX11_write_0 rfl ?_
  refine zcall1 (zck_V (na := 0) (ci := 11) (R' := rX11_narrow) (M' := mX11_narrow) (fun _ _ _ _ => tvX11_narrow) (by decide) kX11_narrow lX11_152 (by decide +kernel) rfl) dX11_write_1 (Nat.le_of_ble_eq_true rfl) (Nat.le_of_ble_eq_true rfl) (Nat.le_of_ble_eq_true rfl) ?_
  refine ⟨h0, m, v, g, e.2.2.1, e.2.2.2.1, x, y, t, rfl, rfl, e26, e27, h22, h23, h24, k1, k2, ht, (by omega), (by omega), hxy, hy, fun v2 hv2 i26 i27 => ?_⟩
  refine z_iconst (w := 1) dX11_write_4 (by decide) ?_
  refine z_istore_n dX11_write_5 (Nat.le_of_ble_eq_true rfl) ?_
  refine loop 16 (znar e x y t) v2 g (hv2.mono (by decide)) zfg.refl ⟨(hv2 29 (by decide)).trans e29, i26, i27, (hv2 28 (by decide)).trans e28, eA⟩ ?_ ?_ rfl (by simp only [znar]; omega)
  all_goals
    simp only [znar]
    revert z1 z2
    generalize (e.2.2.2.1 - e.2.2.1 + 1) * x / t = A
    generalize (e.2.2.2.1 - e.2.2.1 + 1) * (x + y) / t = B
    intro z1 z2
    omega

/-! the reference: equal, fill, the constructor -/
abbrev rX11_equal : Room := ⟨1, 0, 0, 40⟩
def SX11_equal (G : zC) : zS := fun as h n K => ∃ (h0 : zH) (m : Nat) (v : Nat → Int32) (g : Nat → Nat → Int32) (o rm : Nat) (a tx : Nat → Nat) (gg : Nat → Int32) (rx : Nat → Nat) (M : Nat → zMs) (z : Nat → Int32) (XX : Nat → Nat) (F : Nat → Option Nat), as = [.ref m] ∧ h = zRh G h0 m v g ∧ zOkS o rm a tx M ∧ zRS v g o rm a tx gg rx M z XX F ∧ (zLike (M 0).1 (M 0).2.2.1 (M 0).2.2.2.1 (M 1).1 (M 1).2.2.1 (M 1).2.2.2.1 → ∀ v' g', zRS v' g' o rm a tx gg rx M z XX F → K (some (.int 1)) (zRh G h0 m v' g') n) ∧ (¬ zLike (M 0).1 (M 0).2.2.1 (M 0).2.2.2.1 (M 1).1 (M 1).2.2.1 (M 1).2.2.2.1 → ∀ v' g', zRS v' g' o rm a tx gg rx M z XX F → K (some (.int 0)) (zRh G h0 m v' g') n)
set_option maxRecDepth 100000 in
theorem tvX11_equal {G : zC} {as : List Value} {h : zH} {n : Nat} {K : zP} (hs : SX11_equal G as h n K) : (∃ b fs r, as = .ref b :: r ∧ h b = some (.inr (11, fs))) ∧ zCt G rX11_equal mX11_equal as h n K := by
  obtain ⟨h0, m, v, g, o, rm, a, tx, gg, rx, M, z, XX, F, rfl, rfl, hB, hS, hK⟩ := hs
  refine ⟨⟨_, _, _, rfl, zRh_o⟩, zCt.of (by decide) (Nat.le_of_ble_eq_true rfl) ?_⟩
  have hQ : zRS (upd v 0 0) g o rm a tx gg rx M z XX F := hS.thr 0
  have hQ0 := hQ
  obtain ⟨b1, b2, b3, b4, b5, b6, b7, b8, btx, bM⟩ := hB
  obtain ⟨e1, e2, e3, e5, e7, e16, e37, e35, e42, r1, r2, r3, c0, c1, r16, r17, hsl⟩ := hQ
  obtain ⟨hK1, hK0⟩ := hK
  have p0 := hsl 0 (zSlot.e (by decide))
  have p1 := hsl 1 (zSlot.e (by decide))
  have t0 := p0.2.2.2.2.2.2.2.2.1
  have t1 := p1.2.2.2.2.2.2.2.2.1
  have l0 := p0.2.2.2.2.2.2.1
  have l1 := p1.2.2.2.2.2.2.1
  have bad2 : ¬ zLike (M 0).1 (M 0).2.2.1 (M 0).2.2.2.1 (M 1).1 (M 1).2.2.1 (M 1).2.2.2.1 → ∀ i : Nat, zZ (zXm G rX11_equal mX11_equal [.ref m] (zRh G h0 m v g) n K) 128 [(0, .ref m), (1, .int 0), (2, .int (nI i))] [] (zRh G h0 m (upd v 0 0) g) n 0 0 := by
    intro hn i
    refine z_iload_n dX11_equal_128 rfl ?_
    refine z_aload_n dX11_equal_129 rfl ?_
    refine zr_get dX11_equal_130 fX11_31_11 rfl rfl ?_
    refine z_iconst (w := 0) dX11_equal_133 (by decide) ?_
    refine zr_ald (a := 0) dX11_equal_134 rfl (by decide) (show 0 < 7 by decide) ?_
    rw [p0.2.1]
    refine z_icmp_ge (t := 171) dX11_equal_135 (by decide) (fun q135 => ?_) (fun q135 => ?_)
    · refine z_iload_n dX11_equal_171 rfl ?_
      refine z_if_eq (t := 179) dX11_equal_172 (by decide) (fun q172 => ?_) (fun q172 => ?_)
      · refine z_iconst (w := 0) dX11_equal_179 (by decide) ?_
        refine z_ireturn dX11_equal_180 trivial (Nat.le_of_ble_eq_true rfl) (Nat.le_of_ble_eq_true rfl) ?_
        exact hK0 hn _ g hQ0
      · exact absurd rfl q172
    · refine z_iload_n dX11_equal_138 rfl ?_
      refine z_if_eq (t := 171) dX11_equal_139 (by decide) (fun q139 => ?_) (fun q139 => ?_)
      · refine z_iload_n dX11_equal_171 rfl ?_
        refine z_if_eq (t := 179) dX11_equal_172 (by decide) (fun q172 => ?_) (fun q172 => ?_)
        · refine z_iconst (w := 0) dX11_equal_179 (by decide) ?_
          refine z_ireturn dX11_equal_180 trivial (Nat.le_of_ble_eq_true rfl) (Nat.le_of_ble_eq_true rfl) ?_
          exact hK0 hn _ g hQ0
        · exact absurd rfl q172
      · exact absurd rfl q139
  have bad1 : ¬ zLike (M 0).1 (M 0).2.2.1 (M 0).2.2.2.1 (M 1).1 (M 1).2.2.1 (M 1).2.2.2.1 → ∀ i : Nat, zZ (zXm G rX11_equal mX11_equal [.ref m] (zRh G h0 m v g) n K) 43 [(0, .ref m), (1, .int 0), (2, .int (nI i))] [] (zRh G h0 m (upd v 0 0) g) n 0 0 := by
    intro hn i
    refine z_iload_n dX11_equal_43 rfl ?_
    refine z_aload_n dX11_equal_44 rfl ?_
    refine zr_get dX11_equal_45 fX11_19_11 rfl rfl ?_
    refine z_iconst (w := 0) dX11_equal_48 (by decide) ?_
    refine zr_ald (a := 0) dX11_equal_49 rfl (by decide) (show 0 < 7 by decide) ?_
    rw [p0.1]
    refine z_icmp_ge (t := 126) dX11_equal_50 (by decide) (fun q50 => ?_) (fun q50 => ?_)
    · refine z_iconst (w := 0) dX11_equal_126 (by decide) ?_
      refine z_istore_n dX11_equal_127 (Nat.le_of_ble_eq_true rfl) ?_
      exact bad2 hn 0
    · refine z_iload_n dX11_equal_53 rfl ?_
      refine z_if_eq (t := 126) dX11_equal_54 (by decide) (fun q54 => ?_) (fun q54 => ?_)
      · refine z_iconst (w := 0) dX11_equal_126 (by decide) ?_
        refine z_istore_n dX11_equal_127 (Nat.le_of_ble_eq_true rfl) ?_
        exact bad2 hn 0
      · exact absurd rfl q54
  have loop2 : (M 0).1.1 = (M 1).1.1 → (M 0).2.2.1 = (M 1).2.2.1 → (∀ i, i < (M 0).1.1 → zm (M 0).1.2.1 i = zm (M 1).1.2.1 i ∧ zm (M 0).1.2.2.1 i = zm (M 1).1.2.2.1 i ∧ (if i = 0 then 0 else nI ((M 0).1.2.2.2 i)) = (if i = 0 then 0 else nI ((M 1).1.2.2.2 i))) → ∀ (d i : Nat), (M 0).2.2.1 - i < d → i ≤ (M 0).2.2.1 → (∀ j, j < i → nI ((M 0).2.2.2.1 j) = nI ((M 1).2.2.2.1 j)) → zZ (zXm G rX11_equal mX11_equal [.ref m] (zRh G h0 m v g) n K) 128 [(0, .ref m), (1, .int 1), (2, .int (nI i))] [] (zRh G h0 m (upd v 0 0) g) n 0 0 := by
    intro hn hl hrows d
    induction d with
    | zero => intro i hd; omega
    | succ d ih =>
      intro i hd hi hpre
      refine z_iload_n dX11_equal_128 rfl ?_
      refine z_aload_n dX11_equal_129 rfl ?_
      refine zr_get dX11_equal_130 fX11_31_11 rfl rfl ?_
      refine z_iconst (w := 0) dX11_equal_133 (by decide) ?_
      refine zr_ald (a := 0) dX11_equal_134 rfl (by decide) (show 0 < 7 by decide) ?_
      rw [p0.2.1]
      refine z_icmp_ge (t := 171) dX11_equal_135 (by decide) (fun q135 => ?_) (fun q135 => ?_)
      · have hie : i = (M 0).2.2.1 := by have := (nI_leI (by omega) (by omega)).mp q135; omega
        refine z_iload_n dX11_equal_171 rfl ?_
        refine z_if_eq (t := 179) dX11_equal_172 (by decide) (fun q172 => ?_) (fun q172 => ?_)
        · exact absurd q172 (by decide)
        · refine z_iconst (w := 1) dX11_equal_175 (by decide) ?_
          refine z_goto (t := 180) dX11_equal_176 (by decide) ?_
          refine z_ireturn dX11_equal_180 trivial (Nat.le_of_ble_eq_true rfl) (Nat.le_of_ble_eq_true rfl) ?_
          exact hK1 ⟨hn, hl, fun j hj => (hrows j hj).1, fun j hj => (hrows j hj).2.1, fun j hj => (hrows j hj).2.2, fun j hj => hpre j (by omega)⟩ _ g hQ0
      · have hil : i < (M 0).2.2.1 := by have := mt (nI_leI (by omega) (by omega)).mpr q135; omega
        refine z_iload_n dX11_equal_138 rfl ?_
        refine z_if_eq (t := 171) dX11_equal_139 (by decide) (fun q139 => ?_) (fun q139 => ?_)
        · exact absurd q139 (by decide)
        · refine z_aload_n dX11_equal_142 rfl ?_
          refine zr_get dX11_equal_143 fX11_34_11 rfl rfl ?_
          refine z_iload_n dX11_equal_146 rfl ?_
          refine zr_ald (a := 4 * 0 + i) dX11_equal_147 (by rw [Nat.mul_zero, Nat.zero_add]) (by decide) (show 4 * 0 + i < 28 by omega) ?_
          rw [(p0.2.2.2.2.2.1 i hil).1]
          refine z_aload_n dX11_equal_148 rfl ?_
          refine zr_get dX11_equal_149 fX11_34_11 rfl rfl ?_
          refine z_iconst (w := 4) dX11_equal_152 (by decide) ?_
          refine z_iload_n dX11_equal_153 rfl ?_
          refine z_iadd dX11_equal_154 ?_
          refine zr_ald (a := 4 * 1 + i) dX11_equal_155 (nI_add 4 i) (by decide) (show 4 * 1 + i < 28 by omega) ?_
          rw [(p1.2.2.2.2.2.1 i (by omega)).1]
          refine z_icmp_ne (t := 163) dX11_equal_156 (by decide) (fun q156 => ?_) (fun q156 => ?_)
          · have hno : ¬ zLike (M 0).1 (M 0).2.2.1 (M 0).2.2.2.1 (M 1).1 (M 1).2.2.1 (M 1).2.2.2.1 := fun h => q156 (h.2.2.2.2.2 i hil)
            refine z_iconst (w := 0) dX11_equal_163 (by decide) ?_
            refine z_istore_n dX11_equal_164 (Nat.le_of_ble_eq_true rfl) ?_
            refine z_iinc dX11_equal_165 rfl (Nat.le_of_ble_eq_true rfl) ?_
            refine z_goto (t := 128) dX11_equal_168 (by decide) ?_
            rw [show nI i + Int32.ofInt 1 = nI (i + 1) from nI_1 i]
            first
            | exact bad2 hno (i + 1)
            | exact ih (i + 1) (by omega) (by omega) (fun j hj => by rcases Nat.lt_or_ge j i with x | x; (exact hpre j x); (rw [show j = i by omega]; exact q156))
          · refine z_iconst (w := 1) dX11_equal_159 (by decide) ?_
            refine z_goto (t := 164) dX11_equal_160 (by decide) ?_
            refine z_istore_n dX11_equal_164 (Nat.le_of_ble_eq_true rfl) ?_
            refine z_iinc dX11_equal_165 rfl (Nat.le_of_ble_eq_true rfl) ?_
            refine z_goto (t := 128) dX11_equal_168 (by decide) ?_
            rw [show nI i + Int32.ofInt 1 = nI (i + 1) from nI_1 i]
            first
            | exact bad2 hno (i + 1)
            | exact ih (i + 1) (by omega) (by omega) (fun j hj => by rcases Nat.lt_or_ge j i with x | x; (exact hpre j x); (rw [show j = i by omega]; exact q156))
  have loop1 : (M 0).1.1 = (M 1).1.1 → (M 0).2.2.1 = (M 1).2.2.1 → ∀ (d i : Nat), (M 0).1.1 - i < d → i ≤ (M 0).1.1 → (∀ i', i' < i → zm (M 0).1.2.1 i' = zm (M 1).1.2.1 i' ∧ zm (M 0).1.2.2.1 i' = zm (M 1).1.2.2.1 i' ∧ (if i' = 0 then 0 else nI ((M 0).1.2.2.2 i')) = (if i' = 0 then 0 else nI ((M 1).1.2.2.2 i'))) → zZ (zXm G rX11_equal mX11_equal [.ref m] (zRh G h0 m v g) n K) 43 [(0, .ref m), (1, .int 1), (2, .int (nI i))] [] (zRh G h0 m (upd v 0 0) g) n 0 0 := by
    intro hn hl d
    induction d with
    | zero => intro i hd; omega
    | succ d ih =>
      intro i hd hi hpre
      refine z_iload_n dX11_equal_43 rfl ?_
      refine z_aload_n dX11_equal_44 rfl ?_
      refine zr_get dX11_equal_45 fX11_19_11 rfl rfl ?_
      refine z_iconst (w := 0) dX11_equal_48 (by decide) ?_
      refine zr_ald (a := 0) dX11_equal_49 rfl (by decide) (show 0 < 7 by decide) ?_
      rw [p0.1]
      refine z_icmp_ge (t := 126) dX11_equal_50 (by decide) (fun q50 => ?_) (fun q50 => ?_)
      · have hie : i = (M 0).1.1 := by have := (nI_leI (by omega) (by omega)).mp q50; omega
        refine z_iconst (w := 0) dX11_equal_126 (by decide) ?_
        refine z_istore_n dX11_equal_127 (Nat.le_of_ble_eq_true rfl) ?_
        exact loop2 hn hl (fun j hj => hpre j (by omega)) ((M 0).2.2.1 + 1) 0 (by omega) (by omega) (fun j hj => absurd hj (Nat.not_lt_zero _))
      · have hil : i < (M 0).1.1 := by have := mt (nI_leI (by omega) (by omega)).mpr q50; omega
        have hil1 : i < (M 1).1.1 := by omega
        refine z_iload_n dX11_equal_53 rfl ?_
        refine z_if_eq (t := 126) dX11_equal_54 (by decide) (fun q54 => ?_) (fun q54 => ?_)
        · exact absurd q54 (by decide)
        · refine z_aload_n dX11_equal_57 rfl ?_
          refine zr_get dX11_equal_58 fX11_22_11 rfl rfl ?_
          refine z_iload_n dX11_equal_61 rfl ?_
          refine zr_ald (a := 1500 * 0 + i) dX11_equal_62 (by rw [Nat.mul_zero, Nat.zero_add]) (by decide) (show 1500 * 0 + i < 10500 by omega) ?_
          rw [p0.2.2.1 i hil]
          refine z_aload_n dX11_equal_63 rfl ?_
          refine zr_get dX11_equal_64 fX11_22_11 rfl rfl ?_
          refine z_sipush (w := 1500) dX11_equal_67 (by decide) ?_
          refine z_iload_n dX11_equal_70 rfl ?_
          refine z_iadd dX11_equal_71 ?_
          refine zr_ald (a := 1500 * 1 + i) dX11_equal_72 (nI_add 1500 i) (by decide) (show 1500 * 1 + i < 10500 by omega) ?_
          rw [p1.2.2.1 i hil1]
          refine z_icmp_ne (t := 118) dX11_equal_73 (by decide) (fun q73 => ?_) (fun q73 => ?_)
          · have hno : ¬ zLike (M 0).1 (M 0).2.2.1 (M 0).2.2.2.1 (M 1).1 (M 1).2.2.1 (M 1).2.2.2.1 := fun h => q73 (h.2.2.1 i hil)
            refine z_iconst (w := 0) dX11_equal_118 (by decide) ?_
            refine z_istore_n dX11_equal_119 (Nat.le_of_ble_eq_true rfl) ?_
            refine z_iinc dX11_equal_120 rfl (Nat.le_of_ble_eq_true rfl) ?_
            refine z_goto (t := 43) dX11_equal_123 (by decide) ?_
            rw [show nI i + Int32.ofInt 1 = nI (i + 1) from nI_1 i]
            first
            | exact bad1 hno (i + 1)
            | exact ih (i + 1) (by omega) (by omega) (fun j hj => by rcases Nat.lt_or_ge j i with x | x; (exact hpre j x); (rw [show j = i by omega]; exact ⟨q73, q92, q111⟩))
          · refine z_aload_n dX11_equal_76 rfl ?_
            refine zr_get dX11_equal_77 fX11_25_11 rfl rfl ?_
            refine z_iload_n dX11_equal_80 rfl ?_
            refine zr_ald (a := 1500 * 0 + i) dX11_equal_81 (by rw [Nat.mul_zero, Nat.zero_add]) (by decide) (show 1500 * 0 + i < 10500 by omega) ?_
            rw [p0.2.2.2.1 i hil]
            refine z_aload_n dX11_equal_82 rfl ?_
            refine zr_get dX11_equal_83 fX11_25_11 rfl rfl ?_
            refine z_sipush (w := 1500) dX11_equal_86 (by decide) ?_
            refine z_iload_n dX11_equal_89 rfl ?_
            refine z_iadd dX11_equal_90 ?_
            refine zr_ald (a := 1500 * 1 + i) dX11_equal_91 (nI_add 1500 i) (by decide) (show 1500 * 1 + i < 10500 by omega) ?_
            rw [p1.2.2.2.1 i hil1]
            refine z_icmp_ne (t := 118) dX11_equal_92 (by decide) (fun q92 => ?_) (fun q92 => ?_)
            · have hno : ¬ zLike (M 0).1 (M 0).2.2.1 (M 0).2.2.2.1 (M 1).1 (M 1).2.2.1 (M 1).2.2.2.1 := fun h => q92 (h.2.2.2.1 i hil)
              refine z_iconst (w := 0) dX11_equal_118 (by decide) ?_
              refine z_istore_n dX11_equal_119 (Nat.le_of_ble_eq_true rfl) ?_
              refine z_iinc dX11_equal_120 rfl (Nat.le_of_ble_eq_true rfl) ?_
              refine z_goto (t := 43) dX11_equal_123 (by decide) ?_
              rw [show nI i + Int32.ofInt 1 = nI (i + 1) from nI_1 i]
              first
              | exact bad1 hno (i + 1)
              | exact ih (i + 1) (by omega) (by omega) (fun j hj => by rcases Nat.lt_or_ge j i with x | x; (exact hpre j x); (rw [show j = i by omega]; exact ⟨q73, q92, q111⟩))
            · refine z_aload_n dX11_equal_95 rfl ?_
              refine zr_get dX11_equal_96 fX11_28_11 rfl rfl ?_
              refine z_iload_n dX11_equal_99 rfl ?_
              refine zr_ald (a := 1500 * 0 + i) dX11_equal_100 (by rw [Nat.mul_zero, Nat.zero_add]) (by decide) (show 1500 * 0 + i < 10500 by omega) ?_
              rw [p0.2.2.2.2.1 i hil]
              refine z_aload_n dX11_equal_101 rfl ?_
              refine zr_get dX11_equal_102 fX11_28_11 rfl rfl ?_
              refine z_sipush (w := 1500) dX11_equal_105 (by decide) ?_
              refine z_iload_n dX11_equal_108 rfl ?_
              refine z_iadd dX11_equal_109 ?_
              refine zr_ald (a := 1500 * 1 + i) dX11_equal_110 (nI_add 1500 i) (by decide) (show 1500 * 1 + i < 10500 by omega) ?_
              rw [p1.2.2.2.2.1 i hil1]
              refine z_icmp_ne (t := 118) dX11_equal_111 (by decide) (fun q111 => ?_) (fun q111 => ?_)
              · have hno : ¬ zLike (M 0).1 (M 0).2.2.1 (M 0).2.2.2.1 (M 1).1 (M 1).2.2.1 (M 1).2.2.2.1 := fun h => q111 (h.2.2.2.2.1 i hil)
                refine z_iconst (w := 0) dX11_equal_118 (by decide) ?_
                refine z_istore_n dX11_equal_119 (Nat.le_of_ble_eq_true rfl) ?_
                refine z_iinc dX11_equal_120 rfl (Nat.le_of_ble_eq_true rfl) ?_
                refine z_goto (t := 43) dX11_equal_123 (by decide) ?_
                rw [show nI i + Int32.ofInt 1 = nI (i + 1) from nI_1 i]
                first
                | exact bad1 hno (i + 1)
                | exact ih (i + 1) (by omega) (by omega) (fun j hj => by rcases Nat.lt_or_ge j i with x | x; (exact hpre j x); (rw [show j = i by omega]; exact ⟨q73, q92, q111⟩))
              · refine z_iconst (w := 1) dX11_equal_114 (by decide) ?_
                refine z_goto (t := 119) dX11_equal_115 (by decide) ?_
                refine z_istore_n dX11_equal_119 (Nat.le_of_ble_eq_true rfl) ?_
                refine z_iinc dX11_equal_120 rfl (Nat.le_of_ble_eq_true rfl) ?_
                refine z_goto (t := 43) dX11_equal_123 (by decide) ?_
                rw [show nI i + Int32.ofInt 1 = nI (i + 1) from nI_1 i]
                first
                | exact bad1 hno (i + 1)
                | exact ih (i + 1) (by omega) (by omega) (fun j hj => by rcases Nat.lt_or_ge j i with x | x; (exact hpre j x); (rw [show j = i by omega]; exact ⟨q73, q92, q111⟩))
  refine z_aload_n dX11_equal_0 rfl ?_
  refine z_iconst (w := 0) dX11_equal_1 (by decide) ?_
  refine zr_put dX11_equal_2 fX11_82_11 rfl (fun q => absurd q (by decide)) zset_0 (by decide) (Or.inl rfl) ?_
  refine z_aload_n dX11_equal_5 rfl ?_
  refine zr_get dX11_equal_6 fX11_19_11 rfl rfl ?_
  refine z_iconst (w := 0) dX11_equal_9 (by decide) ?_
  refine zr_ald (a := 0) dX11_equal_10 rfl (by decide) (show 0 < 7 by decide) ?_
  rw [p0.1]
  refine z_aload_n dX11_equal_11 rfl ?_
  refine zr_get dX11_equal_12 fX11_19_11 rfl rfl ?_
  refine z_iconst (w := 1) dX11_equal_15 (by decide) ?_
  refine zr_ald (a := 1) dX11_equal_16 rfl (by decide) (show 1 < 7 by decide) ?_
  rw [p1.1]
  refine z_icmp_ne (t := 39) dX11_equal_17 (by decide) (fun q17 => ?_) (fun q17 => ?_)
  · have hno : ¬ zLike (M 0).1 (M 0).2.2.1 (M 0).2.2.2.1 (M 1).1 (M 1).2.2.1 (M 1).2.2.2.1 := fun h => q17 (by rw [h.1])
    refine z_iconst (w := 0) dX11_equal_39 (by decide) ?_
    refine z_istore_n dX11_equal_40 (Nat.le_of_ble_eq_true rfl) ?_
    refine z_iconst (w := 0) dX11_equal_41 (by decide) ?_
    refine z_istore_n dX11_equal_42 (Nat.le_of_ble_eq_true rfl) ?_
    first
    | exact bad1 hno 0
    | exact loop1 ((nI_eq (by omega) (by omega)).mp q17) ((nI_eq (by omega) (by omega)).mp q32) ((M 0).1.1 + 1) 0 (by omega) (by omega) (fun j hj => absurd hj (Nat.not_lt_zero _))
  · refine z_aload_n dX11_equal_20 rfl ?_
    refine zr_get dX11_equal_21 fX11_31_11 rfl rfl ?_
    refine z_iconst (w := 0) dX11_equal_24 (by decide) ?_
    refine zr_ald (a := 0) dX11_equal_25 rfl (by decide) (show 0 < 7 by decide) ?_
    rw [p0.2.1]
    refine z_aload_n dX11_equal_26 rfl ?_
    refine zr_get dX11_equal_27 fX11_31_11 rfl rfl ?_
    refine z_iconst (w := 1) dX11_equal_30 (by decide) ?_
    refine zr_ald (a := 1) dX11_equal_31 rfl (by decide) (show 1 < 7 by decide) ?_
    rw [p1.2.1]
    refine z_icmp_ne (t := 39) dX11_equal_32 (by decide) (fun q32 => ?_) (fun q32 => ?_)
    · have hno : ¬ zLike (M 0).1 (M 0).2.2.1 (M 0).2.2.2.1 (M 1).1 (M 1).2.2.1 (M 1).2.2.2.1 := fun h => q32 (by rw [h.2.1])
      refine z_iconst (w := 0) dX11_equal_39 (by decide) ?_
      refine z_istore_n dX11_equal_40 (Nat.le_of_ble_eq_true rfl) ?_
      refine z_iconst (w := 0) dX11_equal_41 (by decide) ?_
      refine z_istore_n dX11_equal_42 (Nat.le_of_ble_eq_true rfl) ?_
      first
      | exact bad1 hno 0
      | exact loop1 ((nI_eq (by omega) (by omega)).mp q17) ((nI_eq (by omega) (by omega)).mp q32) ((M 0).1.1 + 1) 0 (by omega) (by omega) (fun j hj => absurd hj (Nat.not_lt_zero _))
    · refine z_iconst (w := 1) dX11_equal_35 (by decide) ?_
      refine z_goto (t := 40) dX11_equal_36 (by decide) ?_
      refine z_istore_n dX11_equal_40 (Nat.le_of_ble_eq_true rfl) ?_
      refine z_iconst (w := 0) dX11_equal_41 (by decide) ?_
      refine z_istore_n dX11_equal_42 (Nat.le_of_ble_eq_true rfl) ?_
      first
      | exact bad1 hno 0
      | exact loop1 ((nI_eq (by omega) (by omega)).mp q17) ((nI_eq (by omega) (by omega)).mp q32) ((M 0).1.1 + 1) 0 (by omega) (by omega) (fun j hj => absurd hj (Nat.not_lt_zero _))
theorem ztoI (u : UInt32) : u.toInt32 = nI u.toNat := by
  apply Int32.toBitVec_inj.mp
  show u.toBitVec = (Int32.ofNat u.toNat).toBitVec
  rw [Int32.toBitVec_ofNat']
  apply BitVec.eq_of_toNat_eq
  rw [BitVec.toNat_ofNat]
  exact (Nat.mod_eq_of_lt u.toNat_lt).symm
def zu (x : Int32) : Nat := x.toUInt32.toNat
theorem zu16 (x : Int32) : (x.toUInt32 >>> ((16 : Int32).toUInt32 &&& Int32.toUInt32 31)).toInt32 = nI (zu x / 65536) := by
  rw [ztoI, show ((16 : Int32).toUInt32 &&& Int32.toUInt32 31) = (16 : UInt32) from by decide, UInt32.toNat_shiftRight]
  congr 1
  exact Nat.shiftRight_eq_div_pow _ _
theorem zu28 (x : Int32) : (x.toUInt32 >>> ((28 : Int32).toUInt32 &&& Int32.toUInt32 31)).toInt32 = nI (zu x / 268435456) := by
  rw [ztoI, show ((28 : Int32).toUInt32 &&& Int32.toUInt32 31) = (28 : UInt32) from by decide, UInt32.toNat_shiftRight]
  congr 1
  exact Nat.shiftRight_eq_div_pow _ _
theorem zu_lt (x : Int32) : zu x < 4294967296 := x.toUInt32.toNat_lt
def zfby (how seed : Int32) (z bf s : Nat) (tx : Nat → Nat) : Nat := if how = 2 then (if s < 1 + zu seed / 268435456 then 0 else (tx (s - (1 + zu seed / 268435456)) + (if z % 16 = 0 then 1 else 0)) % 256) else if how = 0 then z % 256 else if how = 1 then z % 4 else (bf + z % 4) % 256
theorem zfby_lt (how seed : Int32) (z bf s : Nat) (tx : Nat → Nat) : zfby how seed z bf s tx < 256 := by
  unfold zfby
  repeat' split
  all_goals omega
def zfll (how seed : Int32) : Nat → Int32 → Nat → Nat → (Nat → Nat) → (Nat → Nat)
  | 0, _, _, _, tx => tx
  | d + 1, x, bf, s, tx => zfll how seed d (x * 1103515245 + 12345) (zfby how seed (zu (x * 1103515245 + 12345) / 65536) bf s tx) (s + 1) (va_up tx s (zfby how seed (zu (x * 1103515245 + 12345) / 65536) bf s tx))
theorem zfll_lt {how seed : Int32} : ∀ {d : Nat} {x : Int32} {bf s : Nat} {tx : Nat → Nat}, (∀ i, i < s → tx i < 256) → ∀ i, i < s + d → zfll how seed d x bf s tx i < 256
  | 0, _, _, _, _, h, i, hi => h i hi
  | d + 1, x, bf, s, tx, h, i, hi => zfll_lt (d := d) (s := s + 1) (fun j hj => by
      by_cases e : j = s
      · rw [e, va_up_self]; exact zfby_lt _ _ _ _ _ _
      · rw [va_up_ne _ _ e]; exact h j (by omega)) i (by omega)
def zFil (k seed how : Int32) (a tx : Nat → Nat) : (Nat → Nat) × (Nat → Nat) × Int32 := if (1 ≤ k ∧ k ≤ 300) ∧ zIn how 4 then (if 300 < a 0 + zt k then (a, tx, -2) else (va_up a 0 (a 0 + zt k), zfll how seed (zt k) seed 0 (a 0) tx, nI (a 0 + zt k))) else (a, tx, -1)
abbrev rX11_fill : Room := ⟨1, 0, 0, 40⟩
def SX11_fill (G : zC) : zS := fun as h n K => ∃ (h0 : zH) (m : Nat) (v : Nat → Int32) (g : Nat → Nat → Int32) (o rm : Nat) (a tx : Nat → Nat) (gg : Nat → Int32) (rx : Nat → Nat) (M : Nat → zMs) (z : Nat → Int32) (XX : Nat → Nat) (F : Nat → Option Nat) (k seed how : Int32), as = [.ref m, .int k, .int seed, .int how] ∧ h = zRh G h0 m v g ∧ zOkS o rm a tx M ∧ zRS v g o rm a tx gg rx M z XX F ∧ ∀ v' g', zRS v' g' o rm (zFil k seed how a tx).1 (zFil k seed how a tx).2.1 gg rx M z XX F → K (some (.int (zFil k seed how a tx).2.2)) (zRh G h0 m v' g') n
set_option maxRecDepth 100000 in
theorem tvX11_fill {G : zC} {as : List Value} {h : zH} {n : Nat} {K : zP} (hs : SX11_fill G as h n K) : (∃ b fs r, as = .ref b :: r ∧ h b = some (.inr (11, fs))) ∧ zCt G rX11_fill mX11_fill as h n K := by
  obtain ⟨h0, m, v, g, o, rm, a, tx, gg, rx, M, z, XX, F, k, seed, how, rfl, rfl, hB, hS, hK⟩ := hs
  refine ⟨⟨_, _, _, rfl, zRh_o⟩, zCt.of (by decide) (Nat.le_of_ble_eq_true rfl) ?_⟩
  have hQ : zRS (upd v 0 0) g o rm a tx gg rx M z XX F := hS.thr 0
  have hQ0 := hQ
  obtain ⟨b1, b2, b3, b4, b5, b6, b7, b8, btx, bM⟩ := hB
  obtain ⟨e1, e2, e3, e5, e7, e16, e37, e35, e42, r1, r2, r3, c0, c1, r16, r17, hsl⟩ := hQ
  refine z_aload_n dX11_fill_0 rfl ?_
  refine z_iconst (w := 0) dX11_fill_1 (by decide) ?_
  refine zr_put dX11_fill_2 fX11_82_11 rfl (fun q => absurd q (by decide)) zset_0 (by decide) (Or.inl rfl) ?_
  refine z_iload_n dX11_fill_5 rfl ?_
  refine z_iconst (w := 1) dX11_fill_6 (by decide) ?_
  refine z_sipush (w := 300) dX11_fill_7 (by decide) ?_
  refine zcall3 (zck_S (R' := rX11_in) (M' := mX11_in) (fun _ _ _ _ => tX11_in) kX11_in lX11_88 (by decide +kernel) rfl) dX11_fill_10 (Nat.le_of_ble_eq_true rfl) (Nat.le_of_ble_eq_true rfl) (Nat.le_of_ble_eq_true rfl) ?_
  refine ⟨_, _, _, rfl, ?_⟩
  refine z_if_eq (t := 25) dX11_fill_13 (by decide) (fun q13 => ?_) (fun q13 => ?_)
  · rw [show zFil k seed how a tx = (a, tx, -1) from if_neg (fun p => zi10.mp q13 p.1)] at hK
    refine z_iconst (w := -1) dX11_fill_25 (by decide) ?_
    refine z_ireturn dX11_fill_26 trivial (Nat.le_of_ble_eq_true rfl) (Nat.le_of_ble_eq_true rfl) ?_
    exact hK _ g hQ0
  · refine z_iload_n dX11_fill_16 rfl ?_
    refine z_iconst (w := 0) dX11_fill_17 (by decide) ?_
    refine z_iconst (w := 3) dX11_fill_18 (by decide) ?_
    refine zcall3 (zck_S (R' := rX11_in) (M' := mX11_in) (fun _ _ _ _ => tX11_in) kX11_in lX11_88 (by decide +kernel) rfl) dX11_fill_19 (Nat.le_of_ble_eq_true rfl) (Nat.le_of_ble_eq_true rfl) (Nat.le_of_ble_eq_true rfl) ?_
    refine ⟨_, _, _, rfl, ?_⟩
    rw [show (if (0 : Int32) ≤ how ∧ how ≤ 3 then (1 : Int32) else 0) = if zIn how 4 then 1 else 0 from zif_le (u := 3) (by decide)]
    refine z_if_ne (t := 27) dX11_fill_22 (by decide) (fun q22 => ?_) (fun q22 => ?_)
    · rw [show zFil k seed how a tx = (if 300 < a 0 + zt k then (a, tx, -2) else (va_up a 0 (a 0 + zt k), zfll how seed (zt k) seed 0 (a 0) tx, nI (a 0 + zt k))) from if_pos ⟨zi11.mp q13, zi11.mp q22⟩] at hK
      obtain ⟨k, k1, k2, rfl⟩ := zin_nat (l := 1) (u := 300) (by decide) (zi11.mp q13) (by decide)
      rw [(zIn_nI (k := 301) (by decide) (by omega)).2] at hK
      refine z_aload_n dX11_fill_27 rfl ?_
      refine zr_get dX11_fill_28 fX11_85_11 rfl rfl ?_
      rw [e3]
      refine z_iload_n dX11_fill_31 rfl ?_
      refine z_iadd dX11_fill_32 ?_
      rw [nI_add]
      refine z_sipush (w := 300) dX11_fill_33 (by decide) ?_
      refine z_icmp_le (t := 42) dX11_fill_36 (by decide) (fun q36 => ?_) (fun q36 => ?_)
      · have w36 : ¬ 300 < a 0 + k := Nat.not_lt.mpr ((nI_leI (b := 300) (by omega) (by decide)).mp q36)
        rw [if_neg w36] at hK
        dsimp only at hK
        refine z_iload_n dX11_fill_42 rfl ?_
        refine z_istore dX11_fill_43 (Nat.le_of_ble_eq_true rfl) ?_
        refine z_iconst (w := 0) dX11_fill_45 (by decide) ?_
        refine z_istore dX11_fill_46 (Nat.le_of_ble_eq_true rfl) ?_
        refine z_iconst (w := 1) dX11_fill_48 (by decide) ?_
        refine z_iload_n dX11_fill_49 rfl ?_
        refine z_bipush (w := 28) dX11_fill_50 (by decide) ?_
        refine z_iushr dX11_fill_52 ?_
        rw [zu28]
        refine z_iadd dX11_fill_53 ?_
        rw [show (1 : Int32) + nI (zu seed / 268435456) = nI (1 + zu seed / 268435456) from nI_add 1 _]
        refine z_istore dX11_fill_54 (Nat.le_of_ble_eq_true rfl) ?_
        refine z_iconst (w := 0) dX11_fill_56 (by decide) ?_
        refine z_istore dX11_fill_57 (Nat.le_of_ble_eq_true rfl) ?_
        have hbk : zu seed / 268435456 < 16 := by have := zu_lt seed; omega
        have loop : ∀ (d i : Nat) (x : Int32) (bf : Nat) (tx1 : Nat → Nat) (v1 : Nat → Int32) (g1 : Nat → Nat → Int32), i + d = k → bf < 256 → zfv [3] (upd v 0 0) v1 → zfg [1] g g1 → v1 3 = nI (a 0 + i) → (∀ j, j < a 0 + i → g1 1 j = nI (tx1 j) ∧ tx1 j < 256) → zfll how seed d x bf (a 0 + i) tx1 = zfll how seed k seed 0 (a 0) tx → zZ (zXm G rX11_fill mX11_fill [.ref m, .int (nI k), .int seed, .int how] (zRh G h0 m v g) n K) 59 [(0, .ref m), (1, .int (nI k)), (2, .int seed), (3, .int how), (4, .int x), (5, .int (nI bf)), (6, .int (nI (1 + zu seed / 268435456))), (7, .int (nI i))] [] (zRh G h0 m v1 g1) n 0 0 := by
          intro d
          induction d with
          | zero =>
            intro i x bf tx1 v1 g1 hd hbf hv hg h3 hr1 hz
            have hi : i = k := by omega
            subst hi
            refine z_iload dX11_fill_59 rfl ?_
            refine z_iload_n dX11_fill_61 rfl ?_
            refine z_icmp_ge (t := 205) dX11_fill_62 (by decide) (fun q62 => ?_) (fun q62 => ?_)
            · refine z_aload_n dX11_fill_205 rfl ?_
              refine zr_get dX11_fill_206 fX11_85_11 rfl rfl ?_
              rw [h3]
              refine z_ireturn dX11_fill_209 trivial (Nat.le_of_ble_eq_true rfl) (Nat.le_of_ble_eq_true rfl) ?_
              rw [← hz] at hK
              exact hK _ g1 ⟨((hv 1 (by decide)).trans e1), ((hv 2 (by decide)).trans e2), h3, ((hv 5 (by decide)).trans e5), ((hv 7 (by decide)).trans e7), ((hv 16 (by decide)).trans e16), ((hv 37 (by decide)).trans e37), ((hv 35 (by decide)).trans e35), ((hv 42 (by decide)).trans e42), (fun j hj => (hr1 j hj).1), (fun i hi => (congrFun (hg 2 (by decide)) i).trans (r2 i hi)), (fun i hi => (congrFun (hg 3 (by decide)) i).trans (r3 i hi)), ((congrFun (hg 10 (by decide)) 0).trans c0), ((congrFun (hg 10 (by decide)) 1).trans c1), (fun w i hi => (congrFun (hg 16 (by decide)) i).trans (r16 w i hi)), (fun i hi => ⟨(congrFun (hg 17 (by decide)) i).trans (r17 i hi).1, (congrFun (hg 18 (by decide)) i).trans (r17 i hi).2⟩), (fun s hs => (hsl s hs).keep hg (by decide))⟩
            · exact absurd (Int32.le_refl _) q62
          | succ d ih =>
            intro i x bf tx1 v1 g1 hd hbf hv hg h3 hr1 hz
            have hzz : (zu (x * 1103515245 + 12345) / 65536) < 65536 := by have := zu_lt (x * 1103515245 + 12345); omega
            have tail : ∀ b : Nat, (zfby how seed (zu (x * 1103515245 + 12345) / 65536) bf (a 0 + i) tx1) = b → zZ (zXm G rX11_fill mX11_fill [.ref m, .int (nI k), .int seed, .int how] (zRh G h0 m v g) n K) 174 [(0, .ref m), (1, .int (nI k)), (2, .int seed), (3, .int how), (4, .int (x * 1103515245 + 12345)), (5, .int (nI bf)), (6, .int (nI (1 + zu seed / 268435456))), (7, .int (nI i)), (8, .int (nI (zu (x * 1103515245 + 12345) / 65536))), (9, .int (nI b))] [] (zRh G h0 m v1 g1) n 0 0 := by
              intro b hb
              have hb2 : b < 256 := by rw [← hb]; exact zfby_lt _ _ _ _ _ _
              refine z_aload_n dX11_fill_174 rfl ?_
              refine zr_get dX11_fill_175 fX11_7_11 rfl rfl ?_
              refine z_aload_n dX11_fill_178 rfl ?_
              refine zr_get dX11_fill_179 fX11_85_11 rfl rfl ?_
              rw [h3]
              refine z_iload dX11_fill_182 rfl ?_
              refine zr_ast (a := _) dX11_fill_184 rfl (by decide) (show a 0 + i < 300 by omega) ?_
              refine z_aload_n dX11_fill_185 rfl ?_
              refine z_dup dX11_fill_186 rfl ?_
              refine zr_get dX11_fill_187 fX11_85_11 rfl rfl ?_
              rw [h3]
              refine z_iconst (w := 1) dX11_fill_190 (by decide) ?_
              refine z_iadd dX11_fill_191 ?_
              rw [nI_1]
              refine zr_put dX11_fill_192 fX11_85_11 rfl (fun q => absurd q (by decide)) zset_3 (by decide) (Or.inl rfl) ?_
              refine z_iload dX11_fill_195 rfl ?_
              refine z_istore dX11_fill_197 (Nat.le_of_ble_eq_true rfl) ?_
              refine z_iinc dX11_fill_199 rfl (Nat.le_of_ble_eq_true rfl) ?_
              refine z_goto (t := 59) dX11_fill_202 (by decide) ?_
              rw [show nI i + Int32.ofInt 1 = nI (i + 1) from nI_1 i]
              refine zZ.keep [0, 1, 2, 3, 4, 5, 6, 7] ?_
              refine ih (i + 1) _ b (va_up tx1 (a 0 + i) b) _ _ (by omega) hb2 (hv.up (by decide) _) (hg.up (by decide) _) zu_eq (fun j hj => ?_) (by rw [← hz, ← hb]; rfl)
              rw [zng]
              by_cases e : j = a 0 + i
              · rw [e, zu_eq, va_up_self]; exact ⟨rfl, hb2⟩
              · rw [zu_ne e, va_up_ne _ _ e]; exact hr1 j (by omega)
            refine z_iload dX11_fill_59 rfl ?_
            refine z_iload_n dX11_fill_61 rfl ?_
            refine z_icmp_ge (t := 205) dX11_fill_62 (by decide) (fun q62 => ?_) (fun q62 => ?_)
            · exact absurd ((nI_leI (by omega) (by omega)).mp q62) (by omega)
            · refine z_iload dX11_fill_65 rfl ?_
              refine z_ldc dX11_fill_67 coX11_92 ?_
              refine z_imul dX11_fill_69 ?_
              refine z_sipush (w := 12345) dX11_fill_70 (by decide) ?_
              refine z_iadd dX11_fill_73 ?_
              refine z_istore dX11_fill_74 (Nat.le_of_ble_eq_true rfl) ?_
              refine z_iload dX11_fill_76 rfl ?_
              refine z_bipush (w := 16) dX11_fill_78 (by decide) ?_
              refine z_iushr dX11_fill_80 ?_
              rw [zu16]
              refine z_istore dX11_fill_81 (Nat.le_of_ble_eq_true rfl) ?_
              refine z_iload_n dX11_fill_83 rfl ?_
              refine z_iconst (w := 2) dX11_fill_84 (by decide) ?_
              refine z_icmp_ne (t := 136) dX11_fill_85 (by decide) (fun q85 => ?_) (fun q85 => ?_)
              · refine z_iload_n dX11_fill_136 rfl ?_
                refine z_if_ne (t := 149) dX11_fill_137 (by decide) (fun q137 => ?_) (fun q137 => ?_)
                · refine z_iload_n dX11_fill_149 rfl ?_
                  refine z_iconst (w := 1) dX11_fill_150 (by decide) ?_
                  refine z_icmp_ne (t := 161) dX11_fill_151 (by decide) (fun q151 => ?_) (fun q151 => ?_)
                  · refine z_iload dX11_fill_161 rfl ?_
                    refine z_iload dX11_fill_163 rfl ?_
                    refine z_iconst (w := 4) dX11_fill_165 (by decide) ?_
                    refine z_irem dX11_fill_166 (by decide) ?_
                    rw [show nI (zu (x * 1103515245 + 12345) / 65536) - nI (zu (x * 1103515245 + 12345) / 65536) / 4 * 4 = nI ((zu (x * 1103515245 + 12345) / 65536) % 4) from pk_rem (d := 4) (by omega) (by decide) (by decide)]
                    refine z_iadd dX11_fill_167 ?_
                    rw [nI_add]
                    refine z_sipush (w := 256) dX11_fill_168 (by decide) ?_
                    refine z_irem dX11_fill_171 (by decide) ?_
                    rw [show nI (bf + (zu (x * 1103515245 + 12345) / 65536) % 4) - nI (bf + (zu (x * 1103515245 + 12345) / 65536) % 4) / 256 * 256 = nI ((bf + (zu (x * 1103515245 + 12345) / 65536) % 4) % 256) from pk_rem (d := 256) (by omega) (by decide) (by decide)]
                    refine z_istore dX11_fill_172 (Nat.le_of_ble_eq_true rfl) ?_
                    first
                    | exact tail 0 (by unfold zfby; rw [if_pos q85, if_pos w94])
                    | exact tail _ (by unfold zfby; rw [if_pos q85, if_neg w94, if_pos w118])
                    | exact tail _ (by unfold zfby; rw [if_pos q85, if_neg w94, if_neg w118])
                    | exact tail _ (by unfold zfby; rw [if_neg q85, if_pos q137])
                    | exact tail _ (by unfold zfby; rw [if_neg q85, if_neg q137, if_pos q151])
                    | exact tail _ (by unfold zfby; rw [if_neg q85, if_neg q137, if_neg q151])
                  · refine z_iload dX11_fill_154 rfl ?_
                    refine z_iconst (w := 4) dX11_fill_156 (by decide) ?_
                    refine z_irem dX11_fill_157 (by decide) ?_
                    rw [show nI (zu (x * 1103515245 + 12345) / 65536) - nI (zu (x * 1103515245 + 12345) / 65536) / 4 * 4 = nI ((zu (x * 1103515245 + 12345) / 65536) % 4) from pk_rem (d := 4) (by omega) (by decide) (by decide)]
                    refine z_goto (t := 172) dX11_fill_158 (by decide) ?_
                    refine z_istore dX11_fill_172 (Nat.le_of_ble_eq_true rfl) ?_
                    first
                    | exact tail 0 (by unfold zfby; rw [if_pos q85, if_pos w94])
                    | exact tail _ (by unfold zfby; rw [if_pos q85, if_neg w94, if_pos w118])
                    | exact tail _ (by unfold zfby; rw [if_pos q85, if_neg w94, if_neg w118])
                    | exact tail _ (by unfold zfby; rw [if_neg q85, if_pos q137])
                    | exact tail _ (by unfold zfby; rw [if_neg q85, if_neg q137, if_pos q151])
                    | exact tail _ (by unfold zfby; rw [if_neg q85, if_neg q137, if_neg q151])
                · refine z_iload dX11_fill_140 rfl ?_
                  refine z_sipush (w := 256) dX11_fill_142 (by decide) ?_
                  refine z_irem dX11_fill_145 (by decide) ?_
                  rw [show nI (zu (x * 1103515245 + 12345) / 65536) - nI (zu (x * 1103515245 + 12345) / 65536) / 256 * 256 = nI ((zu (x * 1103515245 + 12345) / 65536) % 256) from pk_rem (d := 256) (by omega) (by decide) (by decide)]
                  refine z_goto (t := 172) dX11_fill_146 (by decide) ?_
                  refine z_istore dX11_fill_172 (Nat.le_of_ble_eq_true rfl) ?_
                  first
                  | exact tail 0 (by unfold zfby; rw [if_pos q85, if_pos w94])
                  | exact tail _ (by unfold zfby; rw [if_pos q85, if_neg w94, if_pos w118])
                  | exact tail _ (by unfold zfby; rw [if_pos q85, if_neg w94, if_neg w118])
                  | exact tail _ (by unfold zfby; rw [if_neg q85, if_pos q137])
                  | exact tail _ (by unfold zfby; rw [if_neg q85, if_neg q137, if_pos q151])
                  | exact tail _ (by unfold zfby; rw [if_neg q85, if_neg q137, if_neg q151])
              · refine z_aload_n dX11_fill_88 rfl ?_
                refine zr_get dX11_fill_89 fX11_85_11 rfl rfl ?_
                rw [h3]
                refine z_iload dX11_fill_92 rfl ?_
                refine z_icmp_ge (t := 101) dX11_fill_94 (by decide) (fun q94 => ?_) (fun q94 => ?_)
                · have w94 : ¬ a 0 + i < 1 + zu seed / 268435456 := Nat.not_lt.mpr ((nI_leI (by omega) (by omega)).mp q94)
                  have hsr := hr1 (a 0 + i - (1 + zu seed / 268435456)) (by omega)
                  refine z_aload_n dX11_fill_101 rfl ?_
                  refine zr_get dX11_fill_102 fX11_7_11 rfl rfl ?_
                  refine z_aload_n dX11_fill_105 rfl ?_
                  refine zr_get dX11_fill_106 fX11_85_11 rfl rfl ?_
                  rw [h3]
                  refine z_iload dX11_fill_109 rfl ?_
                  refine z_isub dX11_fill_111 ?_
                  rw [zn_sub (by omega)]
                  refine zr_ald (a := _) dX11_fill_112 rfl (by decide) (show a 0 + i - (1 + zu seed / 268435456) < 300 by omega) ?_
                  rw [hsr.1]
                  refine z_iload dX11_fill_113 rfl ?_
                  refine z_bipush (w := 16) dX11_fill_115 (by decide) ?_
                  refine z_irem dX11_fill_117 (by decide) ?_
                  rw [show nI (zu (x * 1103515245 + 12345) / 65536) - nI (zu (x * 1103515245 + 12345) / 65536) / 16 * 16 = nI ((zu (x * 1103515245 + 12345) / 65536) % 16) from pk_rem (d := 16) (by omega) (by decide) (by decide)]
                  refine z_if_ne (t := 125) dX11_fill_118 (by decide) (fun q118 => ?_) (fun q118 => ?_)
                  · have w118 : ¬ (zu (x * 1103515245 + 12345) / 65536) % 16 = 0 := fun w => q118 (by rw [w]; rfl)
                    refine z_iconst (w := 0) dX11_fill_125 (by decide) ?_
                    refine z_iadd dX11_fill_126 ?_
                    first
                    | rw [show nI (tx1 (a 0 + i - (1 + zu seed / 268435456))) + 1 = nI ((tx1 (a 0 + i - (1 + zu seed / 268435456))) + 1) from nI_add _ 1]
                    | rw [show nI (tx1 (a 0 + i - (1 + zu seed / 268435456))) + 0 = nI ((tx1 (a 0 + i - (1 + zu seed / 268435456))) + 0) from nI_add _ 0]
                    refine z_sipush (w := 256) dX11_fill_127 (by decide) ?_
                    refine z_irem dX11_fill_130 (by decide) ?_
                    first
                    | rw [show nI ((tx1 (a 0 + i - (1 + zu seed / 268435456))) + 1) - nI ((tx1 (a 0 + i - (1 + zu seed / 268435456))) + 1) / 256 * 256 = nI (((tx1 (a 0 + i - (1 + zu seed / 268435456))) + 1) % 256) from pk_rem (d := 256) (by omega) (by decide) (by decide)]
                    | rw [show nI ((tx1 (a 0 + i - (1 + zu seed / 268435456))) + 0) - nI ((tx1 (a 0 + i - (1 + zu seed / 268435456))) + 0) / 256 * 256 = nI (((tx1 (a 0 + i - (1 + zu seed / 268435456))) + 0) % 256) from pk_rem (d := 256) (by omega) (by decide) (by decide)]
                    refine z_istore dX11_fill_131 (Nat.le_of_ble_eq_true rfl) ?_
                    refine z_goto (t := 174) dX11_fill_133 (by decide) ?_
                    first
                    | exact tail 0 (by unfold zfby; rw [if_pos q85, if_pos w94])
                    | exact tail _ (by unfold zfby; rw [if_pos q85, if_neg w94, if_pos w118])
                    | exact tail _ (by unfold zfby; rw [if_pos q85, if_neg w94, if_neg w118])
                    | exact tail _ (by unfold zfby; rw [if_neg q85, if_pos q137])
                    | exact tail _ (by unfold zfby; rw [if_neg q85, if_neg q137, if_pos q151])
                    | exact tail _ (by unfold zfby; rw [if_neg q85, if_neg q137, if_neg q151])
                  · have w118 : (zu (x * 1103515245 + 12345) / 65536) % 16 = 0 := (nI_eq (b := 0) (by omega) (by decide)).mp q118
                    refine z_iconst (w := 1) dX11_fill_121 (by decide) ?_
                    refine z_goto (t := 126) dX11_fill_122 (by decide) ?_
                    refine z_iadd dX11_fill_126 ?_
                    first
                    | rw [show nI (tx1 (a 0 + i - (1 + zu seed / 268435456))) + 1 = nI ((tx1 (a 0 + i - (1 + zu seed / 268435456))) + 1) from nI_add _ 1]
                    | rw [show nI (tx1 (a 0 + i - (1 + zu seed / 268435456))) + 0 = nI ((tx1 (a 0 + i - (1 + zu seed / 268435456))) + 0) from nI_add _ 0]
                    refine z_sipush (w := 256) dX11_fill_127 (by decide) ?_
                    refine z_irem dX11_fill_130 (by decide) ?_
                    first
                    | rw [show nI ((tx1 (a 0 + i - (1 + zu seed / 268435456))) + 1) - nI ((tx1 (a 0 + i - (1 + zu seed / 268435456))) + 1) / 256 * 256 = nI (((tx1 (a 0 + i - (1 + zu seed / 268435456))) + 1) % 256) from pk_rem (d := 256) (by omega) (by decide) (by decide)]
                    | rw [show nI ((tx1 (a 0 + i - (1 + zu seed / 268435456))) + 0) - nI ((tx1 (a 0 + i - (1 + zu seed / 268435456))) + 0) / 256 * 256 = nI (((tx1 (a 0 + i - (1 + zu seed / 268435456))) + 0) % 256) from pk_rem (d := 256) (by omega) (by decide) (by decide)]
                    refine z_istore dX11_fill_131 (Nat.le_of_ble_eq_true rfl) ?_
                    refine z_goto (t := 174) dX11_fill_133 (by decide) ?_
                    first
                    | exact tail 0 (by unfold zfby; rw [if_pos q85, if_pos w94])
                    | exact tail _ (by unfold zfby; rw [if_pos q85, if_neg w94, if_pos w118])
                    | exact tail _ (by unfold zfby; rw [if_pos q85, if_neg w94, if_neg w118])
                    | exact tail _ (by unfold zfby; rw [if_neg q85, if_pos q137])
                    | exact tail _ (by unfold zfby; rw [if_neg q85, if_neg q137, if_pos q151])
                    | exact tail _ (by unfold zfby; rw [if_neg q85, if_neg q137, if_neg q151])
                · have w94 : a 0 + i < 1 + zu seed / 268435456 := Nat.lt_of_not_le (fun w => q94 (nI_le w (by omega)))
                  refine z_iconst (w := 0) dX11_fill_97 (by decide) ?_
                  refine z_goto (t := 131) dX11_fill_98 (by decide) ?_
                  refine z_istore dX11_fill_131 (Nat.le_of_ble_eq_true rfl) ?_
                  refine z_goto (t := 174) dX11_fill_133 (by decide) ?_
                  first
                  | exact tail 0 (by unfold zfby; rw [if_pos q85, if_pos w94])
                  | exact tail _ (by unfold zfby; rw [if_pos q85, if_neg w94, if_pos w118])
                  | exact tail _ (by unfold zfby; rw [if_pos q85, if_neg w94, if_neg w118])
                  | exact tail _ (by unfold zfby; rw [if_neg q85, if_pos q137])
                  | exact tail _ (by unfold zfby; rw [if_neg q85, if_neg q137, if_pos q151])
                  | exact tail _ (by unfold zfby; rw [if_neg q85, if_neg q137, if_neg q151])
        exact loop k 0 seed 0 tx _ g (Nat.zero_add _) (by decide) zfv.refl zfg.refl e3 (fun j hj => ⟨r1 j hj, btx j hj⟩) rfl
      · have w36 : 300 < a 0 + k := Nat.lt_of_not_le (fun w => q36 (nI_le (b := 300) w (by decide)))
        rw [if_pos w36] at hK
        refine z_bipush (w := -2) dX11_fill_39 (by decide) ?_
        refine z_ireturn dX11_fill_41 trivial (Nat.le_of_ble_eq_true rfl) (Nat.le_of_ble_eq_true rfl) ?_
        exact hK _ g hQ0
    · rw [show zFil k seed how a tx = (a, tx, -1) from if_neg (fun p => zi10.mp q22 p.2)] at hK
      refine z_iconst (w := -1) dX11_fill_25 (by decide) ?_
      refine z_ireturn dX11_fill_26 trivial (Nat.le_of_ble_eq_true rfl) (Nat.le_of_ble_eq_true rfl) ?_
      exact hK _ g hQ0

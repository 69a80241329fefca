/-! the reference's models: a slot of its rows holds a tree -/
def zRt (T : zTree) : Prop := 1 ≤ T.1 ∧ T.1 ≤ 1500 ∧ (∀ i, 1 ≤ i → i < T.1 → T.2.1 i < i ∧ T.2.2.1 i < 256 ∧ 1 ≤ T.2.2.2 i ∧ T.2.2.2 i ≤ 1000) ∧ ∀ c d, 1 ≤ c → c < T.1 → 1 ≤ d → d < T.1 → T.2.1 c = T.2.1 d → T.2.2.1 c = T.2.2.1 d → c = d
def zRm (g : Nat → Nat → Int32) (s : Nat) (T : zTree) (lm : Nat) (lat : Nat → Nat) : Prop := g 4 s = nI T.1 ∧ g 8 s = nI lm ∧ (∀ i, i < T.1 → g 5 (1500 * s + i) = zm T.2.1 i) ∧ (∀ i, i < T.1 → g 6 (1500 * s + i) = zm T.2.2.1 i) ∧ (∀ i, i < T.1 → g 7 (1500 * s + i) = if i = 0 then 0 else nI (T.2.2.2 i)) ∧ (∀ i, i < lm → g 9 (4 * s + i) = nI (lat i) ∧ lat i < 256) ∧ lm ≤ 4 ∧ zRt T
theorem zx1500 (s i : Nat) : (1500 : Int32) * nI s + nI i = nI (1500 * s + i) := by rw [← nI_add, ← zn_mul]; rfl
theorem zx4 (s i : Nat) : (4 : Int32) * nI s + nI i = nI (4 * s + i) := by rw [← nI_add, ← zn_mul]; rfl
theorem zm_pos {f : Nat → Nat} {i : Nat} (h : 1 ≤ i) : zm f i = nI (f i) := by rw [zm, if_neg (by omega)]
/-- down the tree by the bytes from i on -/
def zwk (T : zTree) (lat : Nat → Nat) : Nat → Nat → Nat → Nat → Prop
  | 0, _, p, r => r = p
  | d + 1, i, p, r => ∃ c, 1 ≤ c ∧ c < T.1 ∧ T.2.1 c = p ∧ T.2.2.1 c = lat i ∧ zwk T lat d (i + 1) c r
abbrev rX11_child : Room := ⟨0, 0, 0, 0⟩
def SX11_child (G : zC) : zS := fun as h n K => ∃ (h0 : zH) (m : Nat) (v : Nat → Int32) (g : Nat → Nat → Int32) (s p b : Nat) (T : zTree) (lm : Nat) (lat : Nat → Nat), as = [.ref m, .int (nI s), .int (nI p), .int (nI b)] ∧ h = zRh G h0 m v g ∧ zRm g s T lm lat ∧ s ≤ 6 ∧ p < 1500 ∧ b < 256 ∧ (∀ c, 1 ≤ c → c < T.1 → T.2.1 c = p → T.2.2.1 c = b → K (some (.int (nI c))) h n) ∧ ((∀ c, 1 ≤ c → c < T.1 → T.2.1 c = p → T.2.2.1 c ≠ b) → K (some (.int (-1))) h n)
set_option maxRecDepth 100000 in
theorem tvX11_child {G : zC} {as : List Value} {h : zH} {n : Nat} {K : zP} (hs : SX11_child G as h n K) : (∃ b fs r, as = .ref b :: r ∧ h b = some (.inr (11, fs))) ∧ zCt G rX11_child mX11_child as h n K := by
  obtain ⟨h0, m, v, g, s, p, b, T, lm, lat, rfl, rfl, hM, hs, hp, hb, hK1, hK2⟩ := hs
  refine ⟨⟨_, _, _, rfl, zRh_o⟩, zCt.of (by decide) (Nat.le_of_ble_eq_true rfl) ?_⟩
  obtain ⟨hn, hlm, hP, hB, hC, hLt, hl4, hT1, hT2, hT3, hT4⟩ := hM
  have loop : ∀ (d i : Nat) (f : Int32), T.1 - i < d → 1 ≤ i → i ≤ T.1 → ((f = -1 ∧ ∀ c, 1 ≤ c → c < i → T.2.1 c = p → T.2.2.1 c ≠ b) ∨ (∃ c, 1 ≤ c ∧ c < i ∧ T.2.1 c = p ∧ T.2.2.1 c = b ∧ f = nI c)) → zZ (zXm G rX11_child mX11_child [.ref m, .int (nI s), .int (nI p), .int (nI b)] (zRh G h0 m v g) n K) 6 [(0, .ref m), (1, .int (nI s)), (2, .int (nI p)), (3, .int (nI b)), (4, .int f), (5, .int (nI i))] [] (zRh G h0 m v g) n 0 0 := by
    intro d
    induction d with
    | zero => intro i f hd; omega
    | succ d ih =>
      intro i f hd hi hiT hf
      refine z_iload dX11_child_6 rfl ?_
      refine z_aload_n dX11_child_8 rfl ?_
      refine zr_get dX11_child_9 fX11_19_11 rfl rfl ?_
      refine z_iload_n dX11_child_12 rfl ?_
      refine zr_ald (a := _) dX11_child_13 rfl (by decide) (by simp only [zrl]; omega) ?_
      rw [hn]
      refine z_icmp_ge (t := 66) dX11_child_14 (by decide) (fun q14 => ?_) (fun q14 => ?_)
      · have hie : i = T.1 := by have := (nI_leI (by omega) (by omega)).mp q14; omega
        refine z_iload dX11_child_66 rfl ?_
        refine z_ireturn dX11_child_68 trivial (Nat.le_of_ble_eq_true rfl) (Nat.le_of_ble_eq_true rfl) ?_
        rcases hf with ⟨rfl, hf⟩ | ⟨c, c1, c2, c3, c4, rfl⟩
        · exact hK2 (fun c g1 g2 g3 => hf c g1 (by omega) g3)
        · exact hK1 c c1 (by omega) c3 c4
      · have hil : i < T.1 := by have := mt (nI_leI (by omega) (by omega)).mpr q14; omega
        have hTi := hT3 i hi hil
        refine z_aload_n dX11_child_17 rfl ?_
        refine zr_get dX11_child_18 fX11_22_11 rfl rfl ?_
        refine z_sipush (w := 1500) dX11_child_21 (by decide) ?_
        refine z_iload_n dX11_child_24 rfl ?_
        refine z_imul dX11_child_25 ?_
        refine z_iload dX11_child_26 rfl ?_
        refine z_iadd dX11_child_28 ?_
        refine zr_ald (a := 1500 * s + i) dX11_child_29 (zx1500 s i) (by decide) (by simp only [zrl]; omega) ?_
        rw [hP i (by omega), zm_pos hi]
        refine z_iload_n dX11_child_30 rfl ?_
        refine z_icmp_ne (t := 56) dX11_child_31 (by decide) (fun q31 => ?_) (fun q31 => ?_)
        · have w31 : T.2.1 i ≠ p := mt (nI_eq (by omega) (by omega)).mpr q31
          refine z_iload dX11_child_56 rfl ?_
          refine z_istore dX11_child_58 (Nat.le_of_ble_eq_true rfl) ?_
          refine z_iinc dX11_child_60 rfl (Nat.le_of_ble_eq_true rfl) ?_
          refine z_goto (t := 6) dX11_child_63 (by decide) ?_
          rw [show nI i + Int32.ofInt 1 = nI (i + 1) from nI_1 i]
          refine ih (i + 1) _ (by omega) (by omega) (by omega) ?_
          rcases hf with ⟨rfl, hf⟩ | ⟨c, c1, c2, c3, c4, rfl⟩
          · refine Or.inl ⟨rfl, fun c g1 g2 g3 g4 => ?_⟩
            by_cases e : c = i
            · subst e; exact w31 g3
            · exact hf c g1 (by omega) g3 g4
          · exact Or.inr ⟨c, c1, by omega, c3, c4, rfl⟩
        · have w31 : T.2.1 i = p := (nI_eq (by omega) (by omega)).mp q31
          refine z_aload_n dX11_child_34 rfl ?_
          refine zr_get dX11_child_35 fX11_25_11 rfl rfl ?_
          refine z_sipush (w := 1500) dX11_child_38 (by decide) ?_
          refine z_iload_n dX11_child_41 rfl ?_
          refine z_imul dX11_child_42 ?_
          refine z_iload dX11_child_43 rfl ?_
          refine z_iadd dX11_child_45 ?_
          refine zr_ald (a := 1500 * s + i) dX11_child_46 (zx1500 s i) (by decide) (by simp only [zrl]; omega) ?_
          rw [hB i (by omega), zm_pos hi]
          refine z_iload_n dX11_child_47 rfl ?_
          refine z_icmp_ne (t := 56) dX11_child_48 (by decide) (fun q48 => ?_) (fun q48 => ?_)
          · have w48 : T.2.2.1 i ≠ b := mt (nI_eq (by omega) (by omega)).mpr q48
            refine z_iload dX11_child_56 rfl ?_
            refine z_istore dX11_child_58 (Nat.le_of_ble_eq_true rfl) ?_
            refine z_iinc dX11_child_60 rfl (Nat.le_of_ble_eq_true rfl) ?_
            refine z_goto (t := 6) dX11_child_63 (by decide) ?_
            rw [show nI i + Int32.ofInt 1 = nI (i + 1) from nI_1 i]
            refine ih (i + 1) _ (by omega) (by omega) (by omega) ?_
            rcases hf with ⟨rfl, hf⟩ | ⟨c, c1, c2, c3, c4, rfl⟩
            · refine Or.inl ⟨rfl, fun c g1 g2 g3 g4 => ?_⟩
              by_cases e : c = i
              · subst e; exact w48 g4
              · exact hf c g1 (by omega) g3 g4
            · exact Or.inr ⟨c, c1, by omega, c3, c4, rfl⟩
          · have w48 : T.2.2.1 i = b := (nI_eq (by omega) (by omega)).mp q48
            refine z_iload dX11_child_51 rfl ?_
            refine z_goto (t := 58) dX11_child_53 (by decide) ?_
            refine z_istore dX11_child_58 (Nat.le_of_ble_eq_true rfl) ?_
            refine z_iinc dX11_child_60 rfl (Nat.le_of_ble_eq_true rfl) ?_
            refine z_goto (t := 6) dX11_child_63 (by decide) ?_
            rw [show nI i + Int32.ofInt 1 = nI (i + 1) from nI_1 i]
            refine ih (i + 1) _ (by omega) (by omega) (by omega) ?_
            exact Or.inr ⟨i, hi, by omega, w31, w48, rfl⟩
  refine z_iconst (w := -1) dX11_child_0 (by decide) ?_
  refine z_istore dX11_child_1 (Nat.le_of_ble_eq_true rfl) ?_
  refine z_iconst (w := 1) dX11_child_3 (by decide) ?_
  refine z_istore dX11_child_4 (Nat.le_of_ble_eq_true rfl) ?_
  exact loop (T.1 + 1) 1 (-1) (by omega) (by omega) hT1 (Or.inl ⟨rfl, fun c g1 g2 => by omega⟩)
abbrev rX11_context : Room := ⟨1, 0, 0, 40⟩
def SX11_context (G : zC) : zS := fun as h n K => ∃ (h0 : zH) (m : Nat) (v : Nat → Int32) (g : Nat → Nat → Int32) (s k r : Nat) (T : zTree) (lm : Nat) (lat : Nat → Nat), as = [.ref m, .int (nI s), .int (nI k)] ∧ h = zRh G h0 m v g ∧ zRm g s T lm lat ∧ s ≤ 6 ∧ k ≤ lm ∧ zwk T lat k (lm - k) 0 r ∧ K (some (.int (nI r))) h n
set_option maxRecDepth 100000 in
theorem tvX11_context {G : zC} {as : List Value} {h : zH} {n : Nat} {K : zP} (hs : SX11_context G as h n K) : (∃ b fs r, as = .ref b :: r ∧ h b = some (.inr (11, fs))) ∧ zCt G rX11_context mX11_context as h n K := by
  obtain ⟨h0, m, v, g, s, k, r, T, lm, lat, rfl, rfl, hM, hs, hk, hw, hK⟩ := hs
  refine ⟨⟨_, _, _, rfl, zRh_o⟩, zCt.of (by decide) (Nat.le_of_ble_eq_true rfl) ?_⟩
  have hM0 := hM
  obtain ⟨hn, hlm, hP, hB, hC, hLt, hl4, hT1, hT2, hT3, hT4⟩ := hM
  have loop : ∀ (d i p : Nat), i + d = lm → p < T.1 → zwk T lat d i p r → zZ (zXm G rX11_context mX11_context [.ref m, .int (nI s), .int (nI k)] (zRh G h0 m v g) n K) 12 [(0, .ref m), (1, .int (nI s)), (2, .int (nI k)), (3, .int (nI p)), (4, .int (nI i))] [] (zRh G h0 m v g) n 0 0 := by
    intro d
    induction d with
    | zero =>
      intro i p hd hp hw
      refine z_iload dX11_context_12 rfl ?_
      refine z_aload_n dX11_context_14 rfl ?_
      refine zr_get dX11_context_15 fX11_31_11 rfl rfl ?_
      refine z_iload_n dX11_context_18 rfl ?_
      refine zr_ald (a := _) dX11_context_19 rfl (by decide) (by simp only [zrl]; omega) ?_
      rw [hlm]
      refine z_icmp_ge (t := 47) dX11_context_20 (by decide) (fun q20 => ?_) (fun q20 => ?_)
      · refine z_iload_n dX11_context_47 rfl ?_
        refine z_ireturn dX11_context_48 trivial (Nat.le_of_ble_eq_true rfl) (Nat.le_of_ble_eq_true rfl) ?_
        rw [show r = p from hw] at hK
        exact hK
      · exact absurd (nI_le (by omega) (by omega)) q20
    | succ d ih =>
      intro i p hd hp hw
      obtain ⟨c, c1, c2, c3, c4, hw⟩ := hw
      refine z_iload dX11_context_12 rfl ?_
      refine z_aload_n dX11_context_14 rfl ?_
      refine zr_get dX11_context_15 fX11_31_11 rfl rfl ?_
      refine z_iload_n dX11_context_18 rfl ?_
      refine zr_ald (a := _) dX11_context_19 rfl (by decide) (by simp only [zrl]; omega) ?_
      rw [hlm]
      refine z_icmp_ge (t := 47) dX11_context_20 (by decide) (fun q20 => ?_) (fun q20 => ?_)
      · exact absurd q20 (nI_ge (by omega) (by omega))
      · refine z_aload_n dX11_context_23 rfl ?_
        refine z_iload_n dX11_context_24 rfl ?_
        refine z_iload_n dX11_context_25 rfl ?_
        refine z_aload_n dX11_context_26 rfl ?_
        refine zr_get dX11_context_27 fX11_34_11 rfl rfl ?_
        refine z_iconst (w := 4) dX11_context_30 (by decide) ?_
        refine z_iload_n dX11_context_31 rfl ?_
        refine z_imul dX11_context_32 ?_
        refine z_iload dX11_context_33 rfl ?_
        refine z_iadd dX11_context_35 ?_
        refine zr_ald (a := 4 * s + i) dX11_context_36 (zx4 s i) (by decide) (by simp only [zrl]; omega) ?_
        rw [(hLt i (by omega)).1]
        refine zcall4 (zck_V (na := 3) (ci := 11) (R' := rX11_child) (M' := mX11_child) (fun _ _ _ _ => tvX11_child) (by decide) kX11_child lX11_99 (by decide +kernel) rfl) dX11_context_37 (Nat.le_of_ble_eq_true rfl) (Nat.le_of_ble_eq_true rfl) (Nat.le_of_ble_eq_true rfl) ?_
        refine ⟨h0, m, v, g, s, p, lat i, T, lm, lat, rfl, rfl, hM0, hs, (by omega), (hLt i (by omega)).2, (fun e e1 e2 e3 e4 => ?_), fun hno => absurd c4 (hno c c1 c2 c3)⟩
        obtain rfl := hT4 e c e1 e2 c1 c2 (e3.trans c3.symm) (e4.trans c4.symm)
        refine z_istore_n dX11_context_40 (Nat.le_of_ble_eq_true rfl) ?_
        refine z_iinc dX11_context_41 rfl (Nat.le_of_ble_eq_true rfl) ?_
        refine z_goto (t := 12) dX11_context_44 (by decide) ?_
        rw [show nI i + Int32.ofInt 1 = nI (i + 1) from nI_1 i]
        exact ih (i + 1) _ (by omega) c2 hw
  refine z_iconst (w := 0) dX11_context_0 (by decide) ?_
  refine z_istore_n dX11_context_1 (Nat.le_of_ble_eq_true rfl) ?_
  refine z_aload_n dX11_context_2 rfl ?_
  refine zr_get dX11_context_3 fX11_31_11 rfl rfl ?_
  refine z_iload_n dX11_context_6 rfl ?_
  refine zr_ald (a := _) dX11_context_7 rfl (by decide) (by simp only [zrl]; omega) ?_
  rw [hlm]
  refine z_iload_n dX11_context_8 rfl ?_
  refine z_isub dX11_context_9 ?_
  refine z_istore dX11_context_10 (Nat.le_of_ble_eq_true rfl) ?_
  rw [zn_sub hk]
  exact loop k (lm - k) 0 (by omega) (by omega) hw

/-! Model: likeness, steps, the constructor -/
abbrev rX3_sameFirst : Room := ⟨1, 0, 0, 40⟩
def SX3_sameFirst (G : zC) : zS := fun as h n K => ∃ (a b k m1 m2 : Nat) (f g : Nat → Int32), as = [.ref a, .ref b, .int (nI k)] ∧ h a = some (zI G m1 f) ∧ h b = some (zI G m2 g) ∧ k ≤ m1 ∧ k ≤ m2 ∧ m1 < 2147483648 ∧ m2 < 2147483648 ∧ ((∀ i, i < k → f i = g i) → K (some (.int 1)) h n) ∧ (∀ i, i < k → f i ≠ g i → K (some (.int 0)) h n)
set_option maxRecDepth 100000 in
theorem tX3_sameFirst {G : zC} {as : List Value} {h : zH} {n : Nat} {K : zP} (hs : SX3_sameFirst G as h n K) : zCt G rX3_sameFirst mX3_sameFirst as h n K := by
  obtain ⟨a, b, k, m1, m2, f, g, rfl, ha, hb, hk1, hk2, hm1, hm2, hK1, hK0⟩ := hs
  refine zCt.of (by decide) (Nat.le_of_ble_eq_true rfl) ?_
  have loop : ∀ (d i : Nat), i + d = k → (∀ j, j < i → f j = g j) → zZ (zXm G rX3_sameFirst mX3_sameFirst [.ref a, .ref b, .int (nI k)] h n K) 2 [(0, .ref a), (1, .ref b), (2, .int (nI k)), (3, .int (nI i))] [] h n 0 0 := by
    intro d
    induction d with
    | zero =>
      intro i hd hp
      refine z_iload_n dX3_sameFirst_2 rfl ?_
      refine z_iload_n dX3_sameFirst_3 rfl ?_
      refine z_icmp_ge (t := 28) dX3_sameFirst_4 (by decide) (fun q4 => ?_) (fun q4 => ?_)
      · refine z_iconst (w := 1) dX3_sameFirst_28 (by decide) ?_
        refine z_ireturn dX3_sameFirst_29 (by first | exact Or.inl rfl | exact Or.inr rfl | simp) (Nat.le_of_ble_eq_true rfl) (Nat.le_of_ble_eq_true rfl) ?_
        exact hK1 (fun j hj => hp j (by omega))
      · exact absurd (nI_le (by omega) (by omega)) q4
    | succ d ih =>
      intro i hd hp
      refine z_iload_n dX3_sameFirst_2 rfl ?_
      refine z_iload_n dX3_sameFirst_3 rfl ?_
      refine z_icmp_ge (t := 28) dX3_sameFirst_4 (by decide) (fun q4 => ?_) (fun q4 => ?_)
      · exact absurd q4 (nI_ge (by omega) (by omega))
      · refine z_aload_n dX3_sameFirst_7 rfl ?_
        refine z_iload_n dX3_sameFirst_8 rfl ?_
        refine zcall2 (zck_SN (R' := rX10_at) (M' := mX10_at) (fun _ _ _ _ => tX10_at) kX10_at lX3_67 nX3_67 (by decide +kernel) rfl) dX3_sameFirst_9 (Nat.le_of_ble_eq_true rfl) (Nat.le_of_ble_eq_true rfl) (Nat.le_of_ble_eq_true rfl) ?_
        refine ⟨_, _, _, _, rfl, (by first | assumption | exact zget_eq | exact zget_ne (by first | assumption | exact Ne.symm (by assumption) | omega) (by first | assumption | exact zget_eq | exact zget_ne (by first | assumption | exact Ne.symm (by assumption) | omega) (by first | assumption | exact zget_eq | exact zget_ne (by first | assumption | exact Ne.symm (by assumption) | omega) (by first | assumption | exact zget_eq)))), (by first | assumption | omega), ?_⟩
        refine z_aload_n dX3_sameFirst_12 rfl ?_
        refine z_iload_n dX3_sameFirst_13 rfl ?_
        refine zcall2 (zck_SN (R' := rX10_at) (M' := mX10_at) (fun _ _ _ _ => tX10_at) kX10_at lX3_67 nX3_67 (by decide +kernel) rfl) dX3_sameFirst_14 (Nat.le_of_ble_eq_true rfl) (Nat.le_of_ble_eq_true rfl) (Nat.le_of_ble_eq_true rfl) ?_
        refine ⟨_, _, _, _, rfl, (by first | assumption | exact zget_eq | exact zget_ne (by first | assumption | exact Ne.symm (by assumption) | omega) (by first | assumption | exact zget_eq | exact zget_ne (by first | assumption | exact Ne.symm (by assumption) | omega) (by first | assumption | exact zget_eq | exact zget_ne (by first | assumption | exact Ne.symm (by assumption) | omega) (by first | assumption | exact zget_eq)))), (by first | assumption | omega), ?_⟩
        rw [zat_in (by omega) hm1, zat_in (by omega) hm2]
        refine z_icmp_eq (t := 22) dX3_sameFirst_17 (by decide) (fun q17 => ?_) (fun q17 => ?_)
        · refine z_iinc dX3_sameFirst_22 rfl (Nat.le_of_ble_eq_true rfl) ?_
          rw [show nI i + Int32.ofInt 1 = nI (i + 1) from nI_1 i]
          refine z_goto (t := 2) dX3_sameFirst_25 (by decide) ?_
          exact ih (i + 1) (by omega) (fun j hj => by rcases Nat.lt_or_ge j i with q | q; exact hp j q; rw [show j = i by omega]; exact q17)
        · refine z_iconst (w := 0) dX3_sameFirst_20 (by decide) ?_
          refine z_ireturn dX3_sameFirst_21 (by first | exact Or.inl rfl | exact Or.inr rfl | simp) (Nat.le_of_ble_eq_true rfl) (Nat.le_of_ble_eq_true rfl) ?_
          exact hK0 i (by omega) q17
  refine z_iconst (w := 0) dX3_sameFirst_0 (by decide) ?_
  refine z_istore_n dX3_sameFirst_1 (Nat.le_of_ble_eq_true rfl) ?_
  exact loop k 0 (Nat.zero_add _) (fun j hj => absurd hj (Nat.not_lt_zero _))
/-- two models are the same, as the ints tell -/
def zLike (T : zTree) (lm : Nat) (lat : Nat → Nat) (T2 : zTree) (lm2 : Nat) (lat2 : Nat → Nat) : Prop := T.1 = T2.1 ∧ lm = lm2 ∧ (∀ i, i < T.1 → zm T.2.1 i = zm T2.2.1 i) ∧ (∀ i, i < T.1 → zm T.2.2.1 i = zm T2.2.2.1 i) ∧ (∀ i, i < T.1 → (if i = 0 then 0 else nI (T.2.2.2 i)) = (if i = 0 then 0 else nI (T2.2.2.2 i))) ∧ ∀ i, i < lm → nI (lat i) = nI (lat2 i)
abbrev rX3_isLike : Room := ⟨2, 0, 0, 80⟩
def SX3_isLike (G : zC) : zS := fun as h n K => ∃ (m m2 : zAm) (o rm : Nat) (T T2 : zTree) (ch ch2 : Nat → List Nat) (lm lm2 : Nat) (lat lat2 ctx ctx2 : Nat → Nat), as = [.ref m.1, .ref m2.1] ∧ zMod G h m o rm T ch lm lat ctx ∧ zMod G h m2 o rm T2 ch2 lm2 lat2 ctx2 ∧ (zLike T lm lat T2 lm2 lat2 → K (some (.int 1)) h n) ∧ (¬ zLike T lm lat T2 lm2 lat2 → K (some (.int 0)) h n)
set_option maxRecDepth 100000 in
theorem tvX3_isLike {G : zC} {as : List Value} {h : zH} {n : Nat} {K : zP} (hs : SX3_isLike G as h n K) : (∃ b fs r, as = .ref b :: r ∧ h b = some (.inr (4, fs))) ∧ zCt G rX3_isLike mX3_isLike as h n K := by
  obtain ⟨⟨a, p, b, c, f, x, l, t⟩, ⟨a2, p2, b2, c2, f2, x2, l2, t2⟩, o, rm, ⟨nm, par, byt, cnt⟩, ⟨nm2, par2, byt2, cnt2⟩, ch, ch2, lm, lm2, lat, lat2, ctx, ctx2, rfl, hM, hM2, hK1, hK0⟩ := hs
  obtain ⟨P, B, C, F, X, L, U, ⟨hk, hp, hb, hc, hf, hx, hl, hu, hdj, ho4, hr8, hr15, hnr, hlo⟩, -, ⟨w1, w2, w3, w4, w5⟩, hL, hU⟩ := hM
  obtain ⟨P2, B2, C2, F2, X2, L2, U2, ⟨gk, gp, gb, gc, gf, gx, gl, gu, -, -, -, -, hnr2, hlo2⟩, -, ⟨v1, v2, v3, v4, v5⟩, hL2, hU2⟩ := hM2
  dsimp only at hk hp hb hc hf hx hl hu hnr w1 w2 w3 w4 w5 gk gp gb gc gf gx gl gu hnr2 v1 v2 v3 v4 v5
  refine ⟨⟨_, _, _, rfl, hk⟩, zCt.of (by decide) (Nat.le_of_ble_eq_true rfl) ?_⟩
  refine z_aload_n dX3_isLike_0 rfl ?_
  refine z_getfield dX3_isLike_1 fX3_53_4 rfl (by first | assumption | exact zget_eq | exact zget_ne (by first | assumption | exact Ne.symm (by assumption) | omega) (by first | assumption | exact zget_eq | exact zget_ne (by first | assumption | exact Ne.symm (by assumption) | omega) (by first | assumption | exact zget_eq | exact zget_ne (by first | assumption | exact Ne.symm (by assumption) | omega) (by first | assumption | exact zget_eq)))) rfl ?_
  refine z_aload_n dX3_isLike_4 rfl ?_
  refine z_getfield dX3_isLike_5 fX3_53_4 rfl (by first | assumption | exact zget_eq | exact zget_ne (by first | assumption | exact Ne.symm (by assumption) | omega) (by first | assumption | exact zget_eq | exact zget_ne (by first | assumption | exact Ne.symm (by assumption) | omega) (by first | assumption | exact zget_eq | exact zget_ne (by first | assumption | exact Ne.symm (by assumption) | omega) (by first | assumption | exact zget_eq)))) rfl ?_
  refine z_icmp_ne (t := 22) dX3_isLike_8 (by decide) (fun q8 => ?_) (fun q8 => ?_)
  · rw [nI_eq (by omega) (by omega)] at q8
    have hn : ¬ zLike (nm, par, byt, cnt) lm lat (nm2, par2, byt2, cnt2) lm2 lat2 := fun z => q8 z.1
    refine z_iconst (w := 0) dX3_isLike_22 (by decide) ?_
    refine z_ireturn dX3_isLike_23 (by first | exact Or.inl rfl | exact Or.inr rfl | simp) (Nat.le_of_ble_eq_true rfl) (Nat.le_of_ble_eq_true rfl) ?_
    exact hK0 hn
  · rw [nI_eq (by omega) (by omega)] at q8
    subst q8
    refine z_aload_n dX3_isLike_11 rfl ?_
    refine z_getfield dX3_isLike_12 fX3_56_4 rfl (by first | assumption | exact zget_eq | exact zget_ne (by first | assumption | exact Ne.symm (by assumption) | omega) (by first | assumption | exact zget_eq | exact zget_ne (by first | assumption | exact Ne.symm (by assumption) | omega) (by first | assumption | exact zget_eq | exact zget_ne (by first | assumption | exact Ne.symm (by assumption) | omega) (by first | assumption | exact zget_eq)))) rfl ?_
    refine z_aload_n dX3_isLike_15 rfl ?_
    refine z_getfield dX3_isLike_16 fX3_56_4 rfl (by first | assumption | exact zget_eq | exact zget_ne (by first | assumption | exact Ne.symm (by assumption) | omega) (by first | assumption | exact zget_eq | exact zget_ne (by first | assumption | exact Ne.symm (by assumption) | omega) (by first | assumption | exact zget_eq | exact zget_ne (by first | assumption | exact Ne.symm (by assumption) | omega) (by first | assumption | exact zget_eq)))) rfl ?_
    refine z_icmp_eq (t := 24) dX3_isLike_19 (by decide) (fun q19 => ?_) (fun q19 => ?_)
    · rw [nI_eq (by omega) (by omega)] at q19
      subst q19
      refine z_aload_n dX3_isLike_24 rfl ?_
      refine z_getfield dX3_isLike_25 fX3_24_4 rfl (by first | assumption | exact zget_eq | exact zget_ne (by first | assumption | exact Ne.symm (by assumption) | omega) (by first | assumption | exact zget_eq | exact zget_ne (by first | assumption | exact Ne.symm (by assumption) | omega) (by first | assumption | exact zget_eq | exact zget_ne (by first | assumption | exact Ne.symm (by assumption) | omega) (by first | assumption | exact zget_eq)))) rfl ?_
      refine z_aload_n dX3_isLike_28 rfl ?_
      refine z_getfield dX3_isLike_29 fX3_24_4 rfl (by first | assumption | exact zget_eq | exact zget_ne (by first | assumption | exact Ne.symm (by assumption) | omega) (by first | assumption | exact zget_eq | exact zget_ne (by first | assumption | exact Ne.symm (by assumption) | omega) (by first | assumption | exact zget_eq | exact zget_ne (by first | assumption | exact Ne.symm (by assumption) | omega) (by first | assumption | exact zget_eq)))) rfl ?_
      refine z_aload_n dX3_isLike_32 rfl ?_
      refine z_getfield dX3_isLike_33 fX3_53_4 rfl (by first | assumption | exact zget_eq | exact zget_ne (by first | assumption | exact Ne.symm (by assumption) | omega) (by first | assumption | exact zget_eq | exact zget_ne (by first | assumption | exact Ne.symm (by assumption) | omega) (by first | assumption | exact zget_eq | exact zget_ne (by first | assumption | exact Ne.symm (by assumption) | omega) (by first | assumption | exact zget_eq)))) rfl ?_
      refine zcall3 (zck_S (R' := rX3_sameFirst) (M' := mX3_sameFirst) (fun _ _ _ _ => tX3_sameFirst) kX3_sameFirst lX3_63 (by decide +kernel) rfl) dX3_isLike_36 (Nat.le_of_ble_eq_true rfl) (Nat.le_of_ble_eq_true rfl) (Nat.le_of_ble_eq_true rfl) ?_
      refine ⟨_, _, nm, _, _, _, _, rfl, hp, gp, (by omega), (by omega), (by omega), (by omega), fun y0 => ?_, fun j hj hne => ?_⟩
      · refine z_if_eq (t := 100) dX3_isLike_39 (by decide) (fun q => absurd q (by decide)) (fun q => ?_)
        refine z_aload_n dX3_isLike_42 rfl ?_
        refine z_getfield dX3_isLike_43 fX3_28_4 rfl (by first | assumption | exact zget_eq | exact zget_ne (by first | assumption | exact Ne.symm (by assumption) | omega) (by first | assumption | exact zget_eq | exact zget_ne (by first | assumption | exact Ne.symm (by assumption) | omega) (by first | assumption | exact zget_eq | exact zget_ne (by first | assumption | exact Ne.symm (by assumption) | omega) (by first | assumption | exact zget_eq)))) rfl ?_
        refine z_aload_n dX3_isLike_46 rfl ?_
        refine z_getfield dX3_isLike_47 fX3_28_4 rfl (by first | assumption | exact zget_eq | exact zget_ne (by first | assumption | exact Ne.symm (by assumption) | omega) (by first | assumption | exact zget_eq | exact zget_ne (by first | assumption | exact Ne.symm (by assumption) | omega) (by first | assumption | exact zget_eq | exact zget_ne (by first | assumption | exact Ne.symm (by assumption) | omega) (by first | assumption | exact zget_eq)))) rfl ?_
        refine z_aload_n dX3_isLike_50 rfl ?_
        refine z_getfield dX3_isLike_51 fX3_53_4 rfl (by first | assumption | exact zget_eq | exact zget_ne (by first | assumption | exact Ne.symm (by assumption) | omega) (by first | assumption | exact zget_eq | exact zget_ne (by first | assumption | exact Ne.symm (by assumption) | omega) (by first | assumption | exact zget_eq | exact zget_ne (by first | assumption | exact Ne.symm (by assumption) | omega) (by first | assumption | exact zget_eq)))) rfl ?_
        refine zcall3 (zck_S (R' := rX3_sameFirst) (M' := mX3_sameFirst) (fun _ _ _ _ => tX3_sameFirst) kX3_sameFirst lX3_63 (by decide +kernel) rfl) dX3_isLike_54 (Nat.le_of_ble_eq_true rfl) (Nat.le_of_ble_eq_true rfl) (Nat.le_of_ble_eq_true rfl) ?_
        refine ⟨_, _, nm, _, _, _, _, rfl, hb, gb, (by omega), (by omega), (by omega), (by omega), fun y1 => ?_, fun j hj hne => ?_⟩
        · refine z_if_eq (t := 100) dX3_isLike_57 (by decide) (fun q => absurd q (by decide)) (fun q => ?_)
          refine z_aload_n dX3_isLike_60 rfl ?_
          refine z_getfield dX3_isLike_61 fX3_31_4 rfl (by first | assumption | exact zget_eq | exact zget_ne (by first | assumption | exact Ne.symm (by assumption) | omega) (by first | assumption | exact zget_eq | exact zget_ne (by first | assumption | exact Ne.symm (by assumption) | omega) (by first | assumption | exact zget_eq | exact zget_ne (by first | assumption | exact Ne.symm (by assumption) | omega) (by first | assumption | exact zget_eq)))) rfl ?_
          refine z_aload_n dX3_isLike_64 rfl ?_
          refine z_getfield dX3_isLike_65 fX3_31_4 rfl (by first | assumption | exact zget_eq | exact zget_ne (by first | assumption | exact Ne.symm (by assumption) | omega) (by first | assumption | exact zget_eq | exact zget_ne (by first | assumption | exact Ne.symm (by assumption) | omega) (by first | assumption | exact zget_eq | exact zget_ne (by first | assumption | exact Ne.symm (by assumption) | omega) (by first | assumption | exact zget_eq)))) rfl ?_
          refine z_aload_n dX3_isLike_68 rfl ?_
          refine z_getfield dX3_isLike_69 fX3_53_4 rfl (by first | assumption | exact zget_eq | exact zget_ne (by first | assumption | exact Ne.symm (by assumption) | omega) (by first | assumption | exact zget_eq | exact zget_ne (by first | assumption | exact Ne.symm (by assumption) | omega) (by first | assumption | exact zget_eq | exact zget_ne (by first | assumption | exact Ne.symm (by assumption) | omega) (by first | assumption | exact zget_eq)))) rfl ?_
          refine zcall3 (zck_S (R' := rX3_sameFirst) (M' := mX3_sameFirst) (fun _ _ _ _ => tX3_sameFirst) kX3_sameFirst lX3_63 (by decide +kernel) rfl) dX3_isLike_72 (Nat.le_of_ble_eq_true rfl) (Nat.le_of_ble_eq_true rfl) (Nat.le_of_ble_eq_true rfl) ?_
          refine ⟨_, _, nm, _, _, _, _, rfl, hc, gc, (by omega), (by omega), (by omega), (by omega), fun y2 => ?_, fun j hj hne => ?_⟩
          · refine z_if_eq (t := 100) dX3_isLike_75 (by decide) (fun q => absurd q (by decide)) (fun q => ?_)
            refine z_aload_n dX3_isLike_78 rfl ?_
            refine z_getfield dX3_isLike_79 fX3_40_4 rfl (by first | assumption | exact zget_eq | exact zget_ne (by first | assumption | exact Ne.symm (by assumption) | omega) (by first | assumption | exact zget_eq | exact zget_ne (by first | assumption | exact Ne.symm (by assumption) | omega) (by first | assumption | exact zget_eq | exact zget_ne (by first | assumption | exact Ne.symm (by assumption) | omega) (by first | assumption | exact zget_eq)))) rfl ?_
            refine z_aload_n dX3_isLike_82 rfl ?_
            refine z_getfield dX3_isLike_83 fX3_40_4 rfl (by first | assumption | exact zget_eq | exact zget_ne (by first | assumption | exact Ne.symm (by assumption) | omega) (by first | assumption | exact zget_eq | exact zget_ne (by first | assumption | exact Ne.symm (by assumption) | omega) (by first | assumption | exact zget_eq | exact zget_ne (by first | assumption | exact Ne.symm (by assumption) | omega) (by first | assumption | exact zget_eq)))) rfl ?_
            refine z_aload_n dX3_isLike_86 rfl ?_
            refine z_getfield dX3_isLike_87 fX3_56_4 rfl (by first | assumption | exact zget_eq | exact zget_ne (by first | assumption | exact Ne.symm (by assumption) | omega) (by first | assumption | exact zget_eq | exact zget_ne (by first | assumption | exact Ne.symm (by assumption) | omega) (by first | assumption | exact zget_eq | exact zget_ne (by first | assumption | exact Ne.symm (by assumption) | omega) (by first | assumption | exact zget_eq)))) rfl ?_
            refine zcall3 (zck_S (R' := rX3_sameFirst) (M' := mX3_sameFirst) (fun _ _ _ _ => tX3_sameFirst) kX3_sameFirst lX3_63 (by decide +kernel) rfl) dX3_isLike_90 (Nat.le_of_ble_eq_true rfl) (Nat.le_of_ble_eq_true rfl) (Nat.le_of_ble_eq_true rfl) ?_
            refine ⟨_, _, lm, _, _, _, _, rfl, hl, gl, (by omega), (by omega), (by omega), (by omega), fun y3 => ?_, fun j hj hne => ?_⟩
            · refine z_if_eq (t := 100) dX3_isLike_93 (by decide) (fun q => absurd q (by decide)) (fun q => ?_)
              refine z_iconst (w := 1) dX3_isLike_96 (by decide) ?_
              refine z_goto (t := 101) dX3_isLike_97 (by decide) ?_
              refine z_ireturn dX3_isLike_101 (by first | exact Or.inl rfl | exact Or.inr rfl | simp) (Nat.le_of_ble_eq_true rfl) (Nat.le_of_ble_eq_true rfl) ?_
              exact hK1 ⟨rfl, rfl, fun i hi => by rw [← w1 i hi, ← v1 i hi]; exact y0 i hi, fun i hi => by rw [← w2 i hi, ← v2 i hi]; exact y1 i hi, fun i hi => by rw [← w3 i hi, ← v3 i hi]; exact y2 i hi, fun i hi => by rw [← hL i hi, ← hL2 i hi]; exact y3 i hi⟩
            · refine z_if_eq (t := 100) dX3_isLike_93 (by decide) (fun q => ?_) (fun q => absurd rfl q)
              refine z_iconst (w := 0) dX3_isLike_100 (by decide) ?_
              refine z_ireturn dX3_isLike_101 (by first | exact Or.inl rfl | exact Or.inr rfl | simp) (Nat.le_of_ble_eq_true rfl) (Nat.le_of_ble_eq_true rfl) ?_
              exact hK0 (fun z => hne (by rw [hL j hj, hL2 j hj]; exact z.2.2.2.2.2 j hj))
          · refine z_if_eq (t := 100) dX3_isLike_75 (by decide) (fun q => ?_) (fun q => absurd rfl q)
            refine z_iconst (w := 0) dX3_isLike_100 (by decide) ?_
            refine z_ireturn dX3_isLike_101 (by first | exact Or.inl rfl | exact Or.inr rfl | simp) (Nat.le_of_ble_eq_true rfl) (Nat.le_of_ble_eq_true rfl) ?_
            exact hK0 (fun z => hne (by rw [w3 j hj, v3 j hj]; exact z.2.2.2.2.1 j hj))
        · refine z_if_eq (t := 100) dX3_isLike_57 (by decide) (fun q => ?_) (fun q => absurd rfl q)
          refine z_iconst (w := 0) dX3_isLike_100 (by decide) ?_
          refine z_ireturn dX3_isLike_101 (by first | exact Or.inl rfl | exact Or.inr rfl | simp) (Nat.le_of_ble_eq_true rfl) (Nat.le_of_ble_eq_true rfl) ?_
          exact hK0 (fun z => hne (by rw [w2 j hj, v2 j hj]; exact z.2.2.2.1 j hj))
      · refine z_if_eq (t := 100) dX3_isLike_39 (by decide) (fun q => ?_) (fun q => absurd rfl q)
        refine z_iconst (w := 0) dX3_isLike_100 (by decide) ?_
        refine z_ireturn dX3_isLike_101 (by first | exact Or.inl rfl | exact Or.inr rfl | simp) (Nat.le_of_ble_eq_true rfl) (Nat.le_of_ble_eq_true rfl) ?_
        exact hK0 (fun z => hne (by rw [w1 j hj, v1 j hj]; exact z.2.2.1 j hj))
    · rw [nI_eq (by omega) (by omega)] at q19
      have hn : ¬ zLike (nm, par, byt, cnt) lm lat (nm, par2, byt2, cnt2) lm2 lat2 := fun z => q19 z.2.1
      refine z_iconst (w := 0) dX3_isLike_22 (by decide) ?_
      refine z_ireturn dX3_isLike_23 (by first | exact Or.inl rfl | exact Or.inr rfl | simp) (Nat.le_of_ble_eq_true rfl) (Nat.le_of_ble_eq_true rfl) ?_
      exact hK0 hn
def zdp (par : Nat → Nat) : Nat → Nat → Nat
  | 0, _ => 0
  | f + 1, i => if i = 0 then 0 else 1 + zdp par f (par i)
abbrev rX3_stepsTo : Room := ⟨2, 0, 0, 80⟩
def SX3_stepsTo (G : zC) : zS := fun as h n K => ∃ (m : zAm) (o rm : Nat) (T : zTree) (ch : Nat → List Nat) (lm : Nat) (lat ctx : Nat → Nat) (i0 : Nat), as = [.ref m.1, .int (nI i0)] ∧ zMod G h m o rm T ch lm lat ctx ∧ i0 < T.1 ∧ K (some (.int (nI (zdp T.2.1 i0 i0)))) h n
set_option maxRecDepth 100000 in
theorem tvX3_stepsTo {G : zC} {as : List Value} {h : zH} {n : Nat} {K : zP} (hs : SX3_stepsTo G as h n K) : (∃ b fs r, as = .ref b :: r ∧ h b = some (.inr (4, fs))) ∧ zCt G rX3_stepsTo mX3_stepsTo as h n K := by
  obtain ⟨⟨a, p, b, c, f, x, l, t⟩, o, rm, ⟨nm, par, byt, cnt⟩, ch, lm, lat, ctx, i0, rfl, hM, hi0, hK⟩ := hs
  have hM0 := hM
  obtain ⟨P, B, C, F, X, L, U, ⟨hk, hp, hb, hc, hf, hx, hl, hu, hdj, ho4, hr8, hr15, hnr, hlo⟩, ⟨t1, t2, t3, t4⟩, ⟨w1, w2, w3, w4, w5⟩, hL, hU⟩ := hM
  dsimp only at hk hp hb hc hf hx hl hu hdj hnr t1 t2 t3 t4 w1 w2 w3 w4 w5
  have hdj0 := hdj
  obtain ⟨⟨npb, npc, npf, npx, npl, npt⟩, ⟨nbc, nbf, nbx, nbl, nbt⟩, ⟨ncf, ncx, ncl, nct⟩, ⟨nfx, nfl, nft⟩, ⟨nxl, nxt⟩, nlt⟩ := hdj
  have nap : a ≠ p := fun q => by rw [q, hp] at hk; simp at hk
  have nab : a ≠ b := fun q => by rw [q, hb] at hk; simp at hk
  have nac : a ≠ c := fun q => by rw [q, hc] at hk; simp at hk
  have naf : a ≠ f := fun q => by rw [q, hf] at hk; simp at hk
  have nax : a ≠ x := fun q => by rw [q, hx] at hk; simp at hk
  have nal : a ≠ l := fun q => by rw [q, hl] at hk; simp at hk
  have nat : a ≠ t := fun q => by rw [q, hu] at hk; simp at hk
  refine ⟨⟨_, _, _, rfl, hk⟩, zCt.of (by decide) (Nat.le_of_ble_eq_true rfl) ?_⟩
  dsimp only at hi0 hK
  have loop : ∀ (d u s : Nat), u ≤ d → s + u < nm → s + zdp par d u = zdp par i0 i0 → zZ (zXm G rX3_stepsTo mX3_stepsTo [.ref a, .int (nI i0)] h n K) 4 [(0, .ref a), (1, .int (nI i0)), (2, .int (nI s)), (3, .int (nI u))] [] h n 0 0 := by
    intro d
    induction d with
    | zero =>
      intro u s hu9 hs he
      have h0 : u = 0 := by omega
      subst h0
      refine z_iload_n dX3_stepsTo_4 rfl ?_
      refine z_if_le (t := 28) dX3_stepsTo_5 (by decide) (fun q5 => ?_) (fun q5 => ?_)
      · refine z_iload_n dX3_stepsTo_28 rfl ?_
        refine z_ireturn dX3_stepsTo_29 trivial (Nat.le_of_ble_eq_true rfl) (Nat.le_of_ble_eq_true rfl) ?_
        rw [← he] at hK
        exact hK
      · exact absurd (by decide) q5
    | succ d ih =>
      intro u s hu9 hs he
      by_cases h0 : u = 0
      · subst h0
        refine z_iload_n dX3_stepsTo_4 rfl ?_
        refine z_if_le (t := 28) dX3_stepsTo_5 (by decide) (fun q5 => ?_) (fun q5 => ?_)
        · refine z_iload_n dX3_stepsTo_28 rfl ?_
          refine z_ireturn dX3_stepsTo_29 trivial (Nat.le_of_ble_eq_true rfl) (Nat.le_of_ble_eq_true rfl) ?_
          rw [← he] at hK
          exact hK
        · exact absurd (by decide) q5
      · have hpu := (t4 u (by omega) (by omega)).1
        refine z_iload_n dX3_stepsTo_4 rfl ?_
        refine z_if_le (t := 28) dX3_stepsTo_5 (by decide) (fun q5 => ?_) (fun q5 => ?_)
        · exact absurd q5 (nI_nle (by omega) (by omega))
        · refine z_iload_n dX3_stepsTo_8 rfl ?_
          refine z_aload_n dX3_stepsTo_9 rfl ?_
          refine z_getfield dX3_stepsTo_10 fX3_53_4 rfl (by first | assumption | exact zget_eq | exact zget_ne (by first | assumption | exact Ne.symm (by assumption) | omega) (by first | assumption | exact zget_eq | exact zget_ne (by first | assumption | exact Ne.symm (by assumption) | omega) (by first | assumption | exact zget_eq | exact zget_ne (by first | assumption | exact Ne.symm (by assumption) | omega) (by first | assumption | exact zget_eq)))) rfl ?_
          refine z_icmp_ge (t := 28) dX3_stepsTo_13 (by decide) (fun q13 => ?_) (fun q13 => ?_)
          · exact absurd q13 (nI_ge (by omega) (by omega))
          · refine z_iinc dX3_stepsTo_16 rfl (Nat.le_of_ble_eq_true rfl) ?_
            rw [show nI s + Int32.ofInt 1 = nI (s + 1) from nI_1 s]
            refine z_aload_n dX3_stepsTo_19 rfl ?_
            refine z_iload_n dX3_stepsTo_20 rfl ?_
            refine zcall2 (zck_V (na := 1) (ci := 4) (R' := rX3_parentOf) (M' := mX3_parentOf) (fun _ _ _ _ => tvX3_parentOf) (by decide) kX3_parentOf lX3_71 (by decide +kernel) rfl) dX3_stepsTo_21 (Nat.le_of_ble_eq_true rfl) (Nat.le_of_ble_eq_true rfl) (Nat.le_of_ble_eq_true rfl) ?_
            refine ⟨_, _, _, _, _, _, rfl, (by first | assumption | exact hk), rfl, (by assumption), (by omega), (by omega), ?_⟩
            rw [w1 u (by omega), zm, if_neg h0]
            refine z_istore_n dX3_stepsTo_24 (Nat.le_of_ble_eq_true rfl) ?_
            refine z_goto (t := 4) dX3_stepsTo_25 (by decide) ?_
            exact ih (par u) (s + 1) (by omega) (by omega) (by simp only [zdp, if_neg h0] at he; omega)
  refine z_iconst (w := 0) dX3_stepsTo_0 (by decide) ?_
  refine z_istore_n dX3_stepsTo_1 (Nat.le_of_ble_eq_true rfl) ?_
  refine z_iload_n dX3_stepsTo_2 rfl ?_
  refine z_istore_n dX3_stepsTo_3 (Nat.le_of_ble_eq_true rfl) ?_
  exact loop i0 i0 0 (Nat.le_refl _) (by omega) (Nat.zero_add _)

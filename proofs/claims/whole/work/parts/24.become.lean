/-! Model: it becomes another, is like another, steps, is made -/
abbrev rX10_copyFirst : Room := ⟨1, 0, 0, 40⟩
def SX10_copyFirst (G : zC) : zS := fun as h n K => ∃ (a b k m1 m2 : Nat) (f g : Nat → Int32), as = [.ref a, .ref b, .int (nI k)] ∧ h a = some (zI G m1 f) ∧ h b = some (zI G m2 g) ∧ k ≤ m1 ∧ k ≤ m2 ∧ m1 < 2147483648 ∧ m2 < 2147483648 ∧ ∀ h', h' b = some (zI G m2 (va_cpy f g 0 0 k)) → (∀ q, q ≠ b → h' q = h q) → K none h' n
set_option maxRecDepth 100000 in
theorem tX10_copyFirst {G : zC} {as : List Value} {h : zH} {n : Nat} {K : zP} (hs : SX10_copyFirst G as h n K) : zCt G rX10_copyFirst mX10_copyFirst as h n K := by
  obtain ⟨a, b, k, m1, m2, f, g, rfl, ha, hb, hk1, hk2, hm1, hm2, hK⟩ := hs
  refine zCt.of (by decide) (Nat.le_of_ble_eq_true rfl) ?_
  refine z_iload_n dX10_copyFirst_0 rfl ?_
  refine z_if_lt (t := 24) dX10_copyFirst_1 (by decide) (fun q1 => ?_) (fun q1 => ?_)
  · exact absurd q1 (by first | exact nI_pos (by omega) | exact nI_nlt (by omega) (by omega))
  · refine z_iload_n dX10_copyFirst_4 rfl ?_
    refine z_aload_n dX10_copyFirst_5 rfl ?_
    refine z_alen dX10_copyFirst_6 (by first | assumption | exact zget_eq | exact zget_ne (by first | assumption | exact Ne.symm (by assumption) | omega) (by first | assumption | exact zget_eq | exact zget_ne (by first | assumption | exact Ne.symm (by assumption) | omega) (by first | assumption | exact zget_eq | exact zget_ne (by first | assumption | exact Ne.symm (by assumption) | omega) (by first | assumption | exact zget_eq)))) ?_
    refine z_icmp_gt (t := 24) dX10_copyFirst_7 (by decide) (fun q7 => ?_) (fun q7 => ?_)
    · exact absurd q7 (by first | exact nI_pos (by omega) | exact nI_nlt (by omega) (by omega))
    · refine z_iload_n dX10_copyFirst_10 rfl ?_
      refine z_aload_n dX10_copyFirst_11 rfl ?_
      refine z_alen dX10_copyFirst_12 (by first | assumption | exact zget_eq | exact zget_ne (by first | assumption | exact Ne.symm (by assumption) | omega) (by first | assumption | exact zget_eq | exact zget_ne (by first | assumption | exact Ne.symm (by assumption) | omega) (by first | assumption | exact zget_eq | exact zget_ne (by first | assumption | exact Ne.symm (by assumption) | omega) (by first | assumption | exact zget_eq)))) ?_
      refine z_icmp_gt (t := 24) dX10_copyFirst_13 (by decide) (fun q13 => ?_) (fun q13 => ?_)
      · exact absurd q13 (by first | exact nI_pos (by omega) | exact nI_nlt (by omega) (by omega))
      · refine z_aload_n dX10_copyFirst_16 rfl ?_
        refine z_iconst (w := 0) dX10_copyFirst_17 (by decide) ?_
        refine z_aload_n dX10_copyFirst_18 rfl ?_
        refine z_iconst (w := 0) dX10_copyFirst_19 (by decide) ?_
        refine z_iload_n dX10_copyFirst_20 rfl ?_
        refine zcall5 (zck_copy lX10_285 rfl) dX10_copyFirst_21 (Nat.le_of_ble_eq_true rfl) (Nat.le_of_ble_eq_true rfl) (Nat.le_of_ble_eq_true rfl) ?_
        refine ⟨_, _, _, _, _, _, _, rfl, ha, hb, nI_pos (by omega), (by rw [nI_clamp (by omega)]; exact hk1), (by rw [nI_clamp (by omega)]; exact hk2), ?_⟩
        refine z_vreturn dX10_copyFirst_24 rfl (Nat.le_of_ble_eq_true rfl) (Nat.le_of_ble_eq_true rfl) ?_
        exact hK _ (by rw [zget_eq, nI_clamp (by omega)]) (fun q hq => by rw [zup_ne hq])
abbrev rX3_become : Room := ⟨2, 0, 0, 80⟩
def SX3_become (G : zC) : zS := fun as h n K => ∃ (m m2 : zAm) (o rm nm0 lm0 : Nat) (P0 B0 C0 F0 X0 L0 U0 : Nat → Int32) (T : zTree) (ch : Nat → List Nat) (lm : Nat) (lat ctx : Nat → Nat), as = [.ref m.1, .ref m2.1] ∧ zMr G h m o rm nm0 lm0 P0 B0 C0 F0 X0 L0 U0 ∧ zMod G h m2 o rm T ch lm lat ctx ∧ (∀ q, zaw m q → ¬ zaw m2 q) ∧ ∀ h', zMod G h' m o rm T ch lm lat ctx → (∀ q, ¬ zaw m q → h' q = h q) → K none h' n
set_option maxRecDepth 100000 in
theorem tvX3_become {G : zC} {as : List Value} {h : zH} {n : Nat} {K : zP} (hs : SX3_become G as h n K) : (∃ b fs r, as = .ref b :: r ∧ h b = some (.inr (4, fs))) ∧ zCt G rX3_become mX3_become as h n K := by
  obtain ⟨⟨a, p, b, c, f, x, l, t⟩, ⟨a2, p2, b2, c2, f2, x2, l2, t2⟩, o, rm, nm0, lm0, P0, B0, C0, F0, X0, L0, U0, ⟨nm, par, byt, cnt⟩, ch, lm, lat, ctx, rfl, ⟨hk, hp, hb, hc, hf, hx, hl, hu, hdj, ho4, hr8, hr15, hnr0, hlo0⟩, hM, hdis, hK⟩ := hs
  obtain ⟨P, B, C, F, X, L, U, ⟨gk, gp, gb, gc, gf, gx, gl, gu, -, -, -, -, hnr, hlo⟩, htok, ⟨w1, w2, w3, w4, w5⟩, hL, hU⟩ := hM
  dsimp only at hk hp hb hc hf hx hl hu hdj gk gp gb gc gf gx gl gu hnr w1 w2 w3 w4 w5
  have hdj0 := hdj
  obtain ⟨⟨npb, npc, npf, npx, npl, npt⟩, ⟨nbc, nbf, nbx, nbl, nbt⟩, ⟨ncf, ncx, ncl, nct⟩, ⟨nfx, nfl, nft⟩, ⟨nxl, nxt⟩, nlt⟩ := hdj
  have nap : a ≠ p := fun q => by rw [q, hp] at hk; simp at hk
  have nab : a ≠ b := fun q => by rw [q, hb] at hk; simp at hk
  have nac : a ≠ c := fun q => by rw [q, hc] at hk; simp at hk
  have naf : a ≠ f := fun q => by rw [q, hf] at hk; simp at hk
  have nax : a ≠ x := fun q => by rw [q, hx] at hk; simp at hk
  have nal : a ≠ l := fun q => by rw [q, hl] at hk; simp at hk
  have nat : a ≠ t := fun q => by rw [q, hu] at hk; simp at hk
  have da := zaw_no (hdis a (Or.inl rfl))
  have dp := zaw_no (hdis p (Or.inr (Or.inl rfl)))
  have db := zaw_no (hdis b (Or.inr (Or.inr (Or.inl rfl))))
  have dc := zaw_no (hdis c (Or.inr (Or.inr (Or.inr (Or.inl rfl)))))
  have df := zaw_no (hdis f (Or.inr (Or.inr (Or.inr (Or.inr (Or.inl rfl))))))
  have dx := zaw_no (hdis x (Or.inr (Or.inr (Or.inr (Or.inr (Or.inr (Or.inl rfl)))))))
  have dl := zaw_no (hdis l (Or.inr (Or.inr (Or.inr (Or.inr (Or.inr (Or.inr (Or.inl rfl))))))))
  dsimp only at da dp db dc df dx dl
  have ga := Ne.symm da.1
  refine ⟨⟨_, _, _, rfl, hk⟩, zCt.of (by decide) (Nat.le_of_ble_eq_true rfl) ?_⟩
  refine z_aload_n dX3_become_0 rfl ?_
  refine z_aload_n dX3_become_1 rfl ?_
  refine z_getfield dX3_become_2 fX3_53_4 rfl (by first | exact hk | exact gk | assumption | exact zget_eq | exact zget_ne ga gk) rfl ?_
  refine z_putfield dX3_become_5 fX3_53_4 rfl (fun q => absurd q (by decide)) (by first | exact hk | exact gk | assumption | exact zget_eq | exact zget_ne ga gk) (Nat.le_of_ble_eq_true rfl) (Or.inl ⟨rfl, _, rfl⟩) ?_
  refine z_aload_n dX3_become_8 rfl ?_
  refine z_aload_n dX3_become_9 rfl ?_
  refine z_getfield dX3_become_10 fX3_56_4 rfl (by first | exact hk | exact gk | assumption | exact zget_eq | exact zget_ne ga gk) rfl ?_
  refine z_putfield dX3_become_13 fX3_56_4 rfl (fun q => absurd q (by decide)) (by first | exact hk | exact gk | assumption | exact zget_eq | exact zget_ne ga gk) (Nat.le_of_ble_eq_true rfl) (Or.inl ⟨rfl, _, rfl⟩) ?_
  have ka0 : (va_up (va_up h a (some (.inr (4, ([.int (nI o), .int (nI rm), .ref p, .ref b, .ref c, .ref f, .ref x, .int (nI nm0), .ref l, .int (nI lm0), .ref t] : List Value).set 7 (.int (nI nm)))))) a (some (.inr (4, (([.int (nI o), .int (nI rm), .ref p, .ref b, .ref c, .ref f, .ref x, .int (nI nm0), .ref l, .int (nI lm0), .ref t] : List Value).set 7 (.int (nI nm))).set 9 (.int (nI lm)))))) a = some (zO 4 [.int (nI o), .int (nI rm), .ref p, .ref b, .ref c, .ref f, .ref x, .int (nI nm), .ref l, .int (nI lm), .ref t]) := zget_eq
  have kg0 : (va_up (va_up h a (some (.inr (4, ([.int (nI o), .int (nI rm), .ref p, .ref b, .ref c, .ref f, .ref x, .int (nI nm0), .ref l, .int (nI lm0), .ref t] : List Value).set 7 (.int (nI nm)))))) a (some (.inr (4, (([.int (nI o), .int (nI rm), .ref p, .ref b, .ref c, .ref f, .ref x, .int (nI nm0), .ref l, .int (nI lm0), .ref t] : List Value).set 7 (.int (nI nm))).set 9 (.int (nI lm)))))) a2 = some (zO 4 [.int (nI o), .int (nI rm), .ref p2, .ref b2, .ref c2, .ref f2, .ref x2, .int (nI nm), .ref l2, .int (nI lm), .ref t2]) := by
    rw [zup_ne ga, zup_ne ga]; exact gk
  refine z_aload_n dX3_become_16 rfl ?_
  refine z_getfield dX3_become_17 fX3_24_4 rfl (by first | exact hk | exact gk | assumption | exact zget_eq | exact zget_ne ga gk) rfl ?_
  refine z_aload_n dX3_become_20 rfl ?_
  refine z_getfield dX3_become_21 fX3_24_4 rfl (by first | exact hk | exact gk | assumption | exact zget_eq | exact zget_ne ga gk) rfl ?_
  refine z_aload_n dX3_become_24 rfl ?_
  refine z_getfield dX3_become_25 fX3_53_4 rfl (by first | exact hk | exact gk | assumption | exact zget_eq | exact zget_ne ga gk) rfl ?_
  refine zcall3 (zck_SN (R' := rX10_copyFirst) (M' := mX10_copyFirst) (fun _ _ _ _ => tX10_copyFirst) kX10_copyFirst lX3_59 nX3_59 (by decide +kernel) rfl) dX3_become_28 (Nat.le_of_ble_eq_true rfl) (Nat.le_of_ble_eq_true rfl) (Nat.le_of_ble_eq_true rfl) ?_
  refine ⟨_, _, nm, _, _, _, _, rfl, (by rw [zup_ne (Ne.symm da.2.1), zup_ne (Ne.symm da.2.1)]; exact gp), (by rw [zup_ne (Ne.symm nap), zup_ne (Ne.symm nap)]; exact hp), (by omega), (by omega), (by omega), (by omega), fun h1 e1 o1 => ?_⟩
  have ka1 := (o1 a nap).trans ka0
  have kg1 := (o1 a2 (Ne.symm dp.1)).trans kg0
  refine z_aload_n dX3_become_31 rfl ?_
  refine z_getfield dX3_become_32 fX3_28_4 rfl (by first | exact hk | exact gk | assumption | exact zget_eq | exact zget_ne ga gk) rfl ?_
  refine z_aload_n dX3_become_35 rfl ?_
  refine z_getfield dX3_become_36 fX3_28_4 rfl (by first | exact hk | exact gk | assumption | exact zget_eq | exact zget_ne ga gk) rfl ?_
  refine z_aload_n dX3_become_39 rfl ?_
  refine z_getfield dX3_become_40 fX3_53_4 rfl (by first | exact hk | exact gk | assumption | exact zget_eq | exact zget_ne ga gk) rfl ?_
  refine zcall3 (zck_SN (R' := rX10_copyFirst) (M' := mX10_copyFirst) (fun _ _ _ _ => tX10_copyFirst) kX10_copyFirst lX3_59 nX3_59 (by decide +kernel) rfl) dX3_become_43 (Nat.le_of_ble_eq_true rfl) (Nat.le_of_ble_eq_true rfl) (Nat.le_of_ble_eq_true rfl) ?_
  refine ⟨_, _, nm, _, _, _, _, rfl, (by rw [o1 _ (Ne.symm dp.2.2.1), zup_ne (Ne.symm da.2.2.1), zup_ne (Ne.symm da.2.2.1)]; exact gb), (by rw [o1 _ (Ne.symm npb), zup_ne (Ne.symm nab), zup_ne (Ne.symm nab)]; exact hb), (by omega), (by omega), (by omega), (by omega), fun h2 e2 o2 => ?_⟩
  have ka2 := (o2 a nab).trans ka1
  have kg2 := (o2 a2 (Ne.symm db.1)).trans kg1
  refine z_aload_n dX3_become_46 rfl ?_
  refine z_getfield dX3_become_47 fX3_31_4 rfl (by first | exact hk | exact gk | assumption | exact zget_eq | exact zget_ne ga gk) rfl ?_
  refine z_aload_n dX3_become_50 rfl ?_
  refine z_getfield dX3_become_51 fX3_31_4 rfl (by first | exact hk | exact gk | assumption | exact zget_eq | exact zget_ne ga gk) rfl ?_
  refine z_aload_n dX3_become_54 rfl ?_
  refine z_getfield dX3_become_55 fX3_53_4 rfl (by first | exact hk | exact gk | assumption | exact zget_eq | exact zget_ne ga gk) rfl ?_
  refine zcall3 (zck_SN (R' := rX10_copyFirst) (M' := mX10_copyFirst) (fun _ _ _ _ => tX10_copyFirst) kX10_copyFirst lX3_59 nX3_59 (by decide +kernel) rfl) dX3_become_58 (Nat.le_of_ble_eq_true rfl) (Nat.le_of_ble_eq_true rfl) (Nat.le_of_ble_eq_true rfl) ?_
  refine ⟨_, _, nm, _, _, _, _, rfl, (by rw [o2 _ (Ne.symm db.2.2.2.1), o1 _ (Ne.symm dp.2.2.2.1), zup_ne (Ne.symm da.2.2.2.1), zup_ne (Ne.symm da.2.2.2.1)]; exact gc), (by rw [o2 _ (Ne.symm nbc), o1 _ (Ne.symm npc), zup_ne (Ne.symm nac), zup_ne (Ne.symm nac)]; exact hc), (by omega), (by omega), (by omega), (by omega), fun h3 e3 o3 => ?_⟩
  have ka3 := (o3 a nac).trans ka2
  have kg3 := (o3 a2 (Ne.symm dc.1)).trans kg2
  refine z_aload_n dX3_become_61 rfl ?_
  refine z_getfield dX3_become_62 fX3_34_4 rfl (by first | exact hk | exact gk | assumption | exact zget_eq | exact zget_ne ga gk) rfl ?_
  refine z_aload_n dX3_become_65 rfl ?_
  refine z_getfield dX3_become_66 fX3_34_4 rfl (by first | exact hk | exact gk | assumption | exact zget_eq | exact zget_ne ga gk) rfl ?_
  refine z_aload_n dX3_become_69 rfl ?_
  refine z_getfield dX3_become_70 fX3_53_4 rfl (by first | exact hk | exact gk | assumption | exact zget_eq | exact zget_ne ga gk) rfl ?_
  refine zcall3 (zck_SN (R' := rX10_copyFirst) (M' := mX10_copyFirst) (fun _ _ _ _ => tX10_copyFirst) kX10_copyFirst lX3_59 nX3_59 (by decide +kernel) rfl) dX3_become_73 (Nat.le_of_ble_eq_true rfl) (Nat.le_of_ble_eq_true rfl) (Nat.le_of_ble_eq_true rfl) ?_
  refine ⟨_, _, nm, _, _, _, _, rfl, (by rw [o3 _ (Ne.symm dc.2.2.2.2.1), o2 _ (Ne.symm db.2.2.2.2.1), o1 _ (Ne.symm dp.2.2.2.2.1), zup_ne (Ne.symm da.2.2.2.2.1), zup_ne (Ne.symm da.2.2.2.2.1)]; exact gf), (by rw [o3 _ (Ne.symm ncf), o2 _ (Ne.symm nbf), o1 _ (Ne.symm npf), zup_ne (Ne.symm naf), zup_ne (Ne.symm naf)]; exact hf), (by omega), (by omega), (by omega), (by omega), fun h4 e4 o4 => ?_⟩
  have ka4 := (o4 a naf).trans ka3
  have kg4 := (o4 a2 (Ne.symm df.1)).trans kg3
  refine z_aload_n dX3_become_76 rfl ?_
  refine z_getfield dX3_become_77 fX3_37_4 rfl (by first | exact hk | exact gk | assumption | exact zget_eq | exact zget_ne ga gk) rfl ?_
  refine z_aload_n dX3_become_80 rfl ?_
  refine z_getfield dX3_become_81 fX3_37_4 rfl (by first | exact hk | exact gk | assumption | exact zget_eq | exact zget_ne ga gk) rfl ?_
  refine z_aload_n dX3_become_84 rfl ?_
  refine z_getfield dX3_become_85 fX3_53_4 rfl (by first | exact hk | exact gk | assumption | exact zget_eq | exact zget_ne ga gk) rfl ?_
  refine zcall3 (zck_SN (R' := rX10_copyFirst) (M' := mX10_copyFirst) (fun _ _ _ _ => tX10_copyFirst) kX10_copyFirst lX3_59 nX3_59 (by decide +kernel) rfl) dX3_become_88 (Nat.le_of_ble_eq_true rfl) (Nat.le_of_ble_eq_true rfl) (Nat.le_of_ble_eq_true rfl) ?_
  refine ⟨_, _, nm, _, _, _, _, rfl, (by rw [o4 _ (Ne.symm df.2.2.2.2.2.1), o3 _ (Ne.symm dc.2.2.2.2.2.1), o2 _ (Ne.symm db.2.2.2.2.2.1), o1 _ (Ne.symm dp.2.2.2.2.2.1), zup_ne (Ne.symm da.2.2.2.2.2.1), zup_ne (Ne.symm da.2.2.2.2.2.1)]; exact gx), (by rw [o4 _ (Ne.symm nfx), o3 _ (Ne.symm ncx), o2 _ (Ne.symm nbx), o1 _ (Ne.symm npx), zup_ne (Ne.symm nax), zup_ne (Ne.symm nax)]; exact hx), (by omega), (by omega), (by omega), (by omega), fun h5 e5 o5 => ?_⟩
  have ka5 := (o5 a nax).trans ka4
  have kg5 := (o5 a2 (Ne.symm dx.1)).trans kg4
  refine z_aload_n dX3_become_91 rfl ?_
  refine z_getfield dX3_become_92 fX3_40_4 rfl (by first | exact hk | exact gk | assumption | exact zget_eq | exact zget_ne ga gk) rfl ?_
  refine z_aload_n dX3_become_95 rfl ?_
  refine z_getfield dX3_become_96 fX3_40_4 rfl (by first | exact hk | exact gk | assumption | exact zget_eq | exact zget_ne ga gk) rfl ?_
  refine z_aload_n dX3_become_99 rfl ?_
  refine z_getfield dX3_become_100 fX3_56_4 rfl (by first | exact hk | exact gk | assumption | exact zget_eq | exact zget_ne ga gk) rfl ?_
  refine zcall3 (zck_SN (R' := rX10_copyFirst) (M' := mX10_copyFirst) (fun _ _ _ _ => tX10_copyFirst) kX10_copyFirst lX3_59 nX3_59 (by decide +kernel) rfl) dX3_become_103 (Nat.le_of_ble_eq_true rfl) (Nat.le_of_ble_eq_true rfl) (Nat.le_of_ble_eq_true rfl) ?_
  refine ⟨_, _, lm, _, _, _, _, rfl, (by rw [o5 _ (Ne.symm dx.2.2.2.2.2.2.1), o4 _ (Ne.symm df.2.2.2.2.2.2.1), o3 _ (Ne.symm dc.2.2.2.2.2.2.1), o2 _ (Ne.symm db.2.2.2.2.2.2.1), o1 _ (Ne.symm dp.2.2.2.2.2.2.1), zup_ne (Ne.symm da.2.2.2.2.2.2.1), zup_ne (Ne.symm da.2.2.2.2.2.2.1)]; exact gl), (by rw [o5 _ (Ne.symm nxl), o4 _ (Ne.symm nfl), o3 _ (Ne.symm ncl), o2 _ (Ne.symm nbl), o1 _ (Ne.symm npl), zup_ne (Ne.symm nal), zup_ne (Ne.symm nal)]; exact hl), (by omega), (by omega), (by omega), (by omega), fun h6 e6 o6 => ?_⟩
  have ka6 := (o6 a nal).trans ka5
  have kg6 := (o6 a2 (Ne.symm dl.1)).trans kg5
  refine z_aload_n dX3_become_106 rfl ?_
  refine z_getfield dX3_become_107 fX3_43_4 rfl (by first | exact hk | exact gk | assumption | exact zget_eq | exact zget_ne ga gk) rfl ?_
  refine z_aload_n dX3_become_110 rfl ?_
  refine z_getfield dX3_become_111 fX3_43_4 rfl (by first | exact hk | exact gk | assumption | exact zget_eq | exact zget_ne ga gk) rfl ?_
  refine z_aload_n dX3_become_114 rfl ?_
  refine z_getfield dX3_become_115 fX3_56_4 rfl (by first | exact hk | exact gk | assumption | exact zget_eq | exact zget_ne ga gk) rfl ?_
  refine z_iconst (w := 1) dX3_become_118 (by decide) ?_
  refine z_iadd dX3_become_119 ?_
  rw [nI_1]
  refine zcall3 (zck_SN (R' := rX10_copyFirst) (M' := mX10_copyFirst) (fun _ _ _ _ => tX10_copyFirst) kX10_copyFirst lX3_59 nX3_59 (by decide +kernel) rfl) dX3_become_120 (Nat.le_of_ble_eq_true rfl) (Nat.le_of_ble_eq_true rfl) (Nat.le_of_ble_eq_true rfl) ?_
  refine ⟨_, _, (lm + 1), _, _, _, _, rfl, (by rw [o6 _ (Ne.symm dl.2.2.2.2.2.2.2), o5 _ (Ne.symm dx.2.2.2.2.2.2.2), o4 _ (Ne.symm df.2.2.2.2.2.2.2), o3 _ (Ne.symm dc.2.2.2.2.2.2.2), o2 _ (Ne.symm db.2.2.2.2.2.2.2), o1 _ (Ne.symm dp.2.2.2.2.2.2.2), zup_ne (Ne.symm da.2.2.2.2.2.2.2), zup_ne (Ne.symm da.2.2.2.2.2.2.2)]; exact gu), (by rw [o6 _ (Ne.symm nlt), o5 _ (Ne.symm nxt), o4 _ (Ne.symm nft), o3 _ (Ne.symm nct), o2 _ (Ne.symm nbt), o1 _ (Ne.symm npt), zup_ne (Ne.symm nat), zup_ne (Ne.symm nat)]; exact hu), (by omega), (by omega), (by omega), (by omega), fun h7 e7 o7 => ?_⟩
  refine z_vreturn dX3_become_123 rfl (Nat.le_of_ble_eq_true rfl) (Nat.le_of_ble_eq_true rfl) ?_
  refine hK h7 ⟨va_cpy P P0 0 0 nm, va_cpy B B0 0 0 nm, va_cpy C C0 0 0 nm, va_cpy F F0 0 0 nm, va_cpy X X0 0 0 nm, va_cpy L L0 0 0 lm, va_cpy U U0 0 0 (lm + 1), ⟨(o7 a nat).trans ka6, ?_, ?_, ?_, ?_, ?_, ?_, e7, hdj0, ho4, hr8, hr15, hnr, hlo⟩, htok, ⟨fun i hi => (sb_cpy0 hi).trans (w1 i hi), fun i hi => (sb_cpy0 hi).trans (w2 i hi), fun i hi => (sb_cpy0 hi).trans (w3 i hi), fun i hi => (sb_cpy0 hi).trans (w4 i hi), fun i hi => zlink_mono (w5 i hi) (fun e he => sb_cpy0 (htok.2.2.1 i e hi he).2.1)⟩, fun i hi => (sb_cpy0 hi).trans (hL i hi), fun i hi => (sb_cpy0 (Nat.lt_succ_of_le hi)).trans (hU i hi)⟩ (fun q hq => ?_)
  · rw [o7 p npt, o6 p npl, o5 p npx, o4 p npf, o3 p npc, o2 p npb]; exact e1
  · rw [o7 b nbt, o6 b nbl, o5 b nbx, o4 b nbf, o3 b nbc]; exact e2
  · rw [o7 c nct, o6 c ncl, o5 c ncx, o4 c ncf]; exact e3
  · rw [o7 f nft, o6 f nfl, o5 f nfx]; exact e4
  · rw [o7 x nxt, o6 x nxl]; exact e5
  · rw [o7 l nlt]; exact e6
  · obtain ⟨g1, g2, g3, g4, g5, g6, g7, g8⟩ := zaw_no hq
    rw [o7 q g8, o6 q g7, o5 q g6, o4 q g5, o3 q g4, o2 q g3, o1 q g2, zup_ne g1, zup_ne g1]

/-! Teller: what is excluded, what is offered -/
def zTel (G : zC) (h : zH) (a k mk : Nat) (R : Nat) (E : Nat → Bool) (ex es : Nat) (fi : Int32) : Prop := h a = some (zO 8 [.ref k, .ref mk, .int (nI R), .int (nI ex), .int (nI es), .int fi]) ∧ R < 1073741824 ∧ (∀ s, 256 ≤ s → E s = false) ∧ ∃ M, h mk = some (zI G 256 M) ∧ (∀ s, s < 256 → ∃ v, v ≤ R ∧ M s = nI v) ∧ ∀ s, s < 256 → (E s = true ↔ M s = nI R)
theorem zTel.to {G : zC} {h h' : zH} {a k mk R : Nat} {E : Nat → Bool} {ex es : Nat} {fi : Int32} (H : zTel G h a k mk R E ex es fi) (h1 : h' a = h a) (h2 : h' mk = h mk) : zTel G h' a k mk R E ex es fi := by
  obtain ⟨q1, q2, q3, M, q4, q5⟩ := H
  exact ⟨h1.trans q1, q2, q3, M, h2.trans q4, q5⟩
theorem zMod.to {G : zC} {h h' : zH} {m : zAm} {o rm lm : Nat} {T : zTree} {ch : Nat → List Nat} {lat ctx : Nat → Nat} (H : zMod G h m o rm T ch lm lat ctx) (e : ∀ q, zaw m q → h' q = h q) : zMod G h' m o rm T ch lm lat ctx := by
  obtain ⟨P, B, C, F, X, L, U, ⟨q1, q2, q3, q4, q5, q6, q7, q8, q9⟩, z⟩ := H
  exact ⟨P, B, C, F, X, L, U, ⟨(e _ (Or.inl rfl)).trans q1, (e _ (Or.inr (Or.inl rfl))).trans q2, (e _ (Or.inr (Or.inr (Or.inl rfl)))).trans q3, (e _ (Or.inr (Or.inr (Or.inr (Or.inl rfl))))).trans q4, (e _ (Or.inr (Or.inr (Or.inr (Or.inr (Or.inl rfl)))))).trans q5, (e _ (Or.inr (Or.inr (Or.inr (Or.inr (Or.inr (Or.inl rfl))))))).trans q6, (e _ (Or.inr (Or.inr (Or.inr (Or.inr (Or.inr (Or.inr (Or.inl rfl)))))))).trans q7, (e _ (Or.inr (Or.inr (Or.inr (Or.inr (Or.inr (Or.inr (Or.inr rfl)))))))).trans q8, q9⟩, z⟩
def zoff (byt cnt : Nat → Nat) (E : Nat → Bool) : List Nat → List (Nat × Nat)
  | [] => []
  | c :: r => if E (byt c) = true then zoff byt cnt E r else (byt c, cnt c) :: zoff byt cnt E r
theorem zoff_len (byt cnt : Nat → Nat) (E : Nat → Bool) (l : List Nat) : (zoff byt cnt E l).length ≤ l.length := by
  induction l with
  | nil => exact Nat.le_refl _
  | cons c r ih =>
    simp only [zoff, List.length_cons]
    split
    · omega
    · simp only [List.length_cons]; omega
def zflat (E : Nat → Bool) : Nat → Nat → List (Nat × Nat)
  | 0, _ => []
  | d + 1, s => if E s = true then zflat E d (s + 1) else (s, 1) :: zflat E d (s + 1)
theorem zflat_len (E : Nat → Bool) : ∀ d s, (zflat E d s).length ≤ d
  | 0, _ => Nat.le_refl _
  | d + 1, s => by
    have := zflat_len E d (s + 1)
    simp only [zflat]
    split
    · omega
    · simp only [List.length_cons]; omega
abbrev rX8_isExcluded : Room := ⟨1, 0, 0, 40⟩
def SX8_isExcluded (G : zC) : zS := fun as h n K => ∃ (a k mk R ex es s : Nat) (fi : Int32) (E : Nat → Bool), as = [.ref a, .int (nI s)] ∧ zTel G h a k mk R E ex es fi ∧ 0 < R ∧ s ≤ 256 ∧ K (some (.int (if E s = true then 1 else 0))) h n
set_option maxRecDepth 100000 in
theorem tvX8_isExcluded {G : zC} {as : List Value} {h : zH} {n : Nat} {K : zP} (hs : SX8_isExcluded G as h n K) : (∃ b fs r, as = .ref b :: r ∧ h b = some (.inr (8, fs))) ∧ zCt G rX8_isExcluded mX8_isExcluded as h n K := by
  obtain ⟨a, k, mk, R, ex, es, s, fi, E, rfl, hT, hR0, hs, hK⟩ := hs
  obtain ⟨hk, hR, hE, M, hm, hv, hM⟩ := hT
  have hat : zat 256 M (nI s) = nI R ↔ E s = true := by
    rcases Nat.lt_or_ge s 256 with z | z
    · rw [zat_in z (by omega)]; exact (hM s z).symm
    · have e : s = 256 := by omega
      subst e
      rw [hE 256 (Nat.le_refl _)]
      have e2 : zat 256 M (nI 256) = -1 := by
        unfold zat
        rw [if_neg (nI_pos (by omega)), if_pos (nI_le (Nat.le_refl _) (by omega))]
      rw [e2]
      exact ⟨fun q => absurd q.symm (zhd_ne (by omega)), fun q => by simp at q⟩
  refine ⟨⟨_, _, _, rfl, hk⟩, zCt.of (by decide) (Nat.le_of_ble_eq_true rfl) ?_⟩
  refine z_aload_n dX8_isExcluded_0 rfl ?_
  refine z_getfield dX8_isExcluded_1 fX8_18_8 rfl (by first | assumption | exact zget_eq | exact zget_ne (by first | assumption | exact Ne.symm (by assumption) | omega) (by first | assumption | exact zget_eq | exact zget_ne (by first | assumption | exact Ne.symm (by assumption) | omega) (by first | assumption | exact zget_eq | exact zget_ne (by first | assumption | exact Ne.symm (by assumption) | omega) (by first | assumption | exact zget_eq)))) rfl ?_
  refine z_iload_n dX8_isExcluded_4 rfl ?_
  refine zcall2 (zck_SN (R' := rX10_at) (M' := mX10_at) (fun _ _ _ _ => tX10_at) kX10_at lX8_68 nX8_68 (by decide +kernel) rfl) dX8_isExcluded_5 (Nat.le_of_ble_eq_true rfl) (Nat.le_of_ble_eq_true rfl) (Nat.le_of_ble_eq_true rfl) ?_
  refine ⟨_, _, _, _, rfl, (by first | assumption | exact zget_eq | exact zget_ne (by first | assumption | exact Ne.symm (by assumption) | omega) (by first | assumption | exact zget_eq | exact zget_ne (by first | assumption | exact Ne.symm (by assumption) | omega) (by first | assumption | exact zget_eq | exact zget_ne (by first | assumption | exact Ne.symm (by assumption) | omega) (by first | assumption | exact zget_eq)))), (by first | assumption | omega), ?_⟩
  refine z_aload_n dX8_isExcluded_8 rfl ?_
  refine z_getfield dX8_isExcluded_9 fX8_32_8 rfl (by first | assumption | exact zget_eq | exact zget_ne (by first | assumption | exact Ne.symm (by assumption) | omega) (by first | assumption | exact zget_eq | exact zget_ne (by first | assumption | exact Ne.symm (by assumption) | omega) (by first | assumption | exact zget_eq | exact zget_ne (by first | assumption | exact Ne.symm (by assumption) | omega) (by first | assumption | exact zget_eq)))) rfl ?_
  refine z_icmp_ne (t := 19) dX8_isExcluded_12 (by decide) (fun q12 => ?_) (fun q12 => ?_)
  · rw [if_neg (fun z => q12 (hat.mpr z))] at hK
    refine z_iconst (w := 0) dX8_isExcluded_19 (by decide) ?_
    refine z_ireturn dX8_isExcluded_20 (by first | exact Or.inl rfl | exact Or.inr rfl | simp) (Nat.le_of_ble_eq_true rfl) (Nat.le_of_ble_eq_true rfl) ?_
    exact hK
  · rw [if_pos (hat.mp q12)] at hK
    refine z_iconst (w := 1) dX8_isExcluded_15 (by decide) ?_
    refine z_goto (t := 20) dX8_isExcluded_16 (by decide) ?_
    refine z_ireturn dX8_isExcluded_20 (by first | exact Or.inl rfl | exact Or.inr rfl | simp) (Nat.le_of_ble_eq_true rfl) (Nat.le_of_ble_eq_true rfl) ?_
    exact hK
abbrev rX8_offerChildren : Room := ⟨3, 0, 0, 120⟩
def SX8_offerChildren (G : zC) : zS := fun as h n K => ∃ (a k kb kc mk R ex es : Nat) (fi : Int32) (E : Nat → Bool) (L0 : List (Nat × Nat)) (m : zAm) (o rm : Nat) (T : zTree) (ch : Nat → List Nat) (lm : Nat) (lat ctx : Nat → Nat) (p0 : Nat), as = [.ref a, .ref m.1, .int (nI p0)] ∧ zTel G h a k mk R E ex es fi ∧ zCho G h k kb kc L0 ∧ 0 < R ∧ mk ≠ kb ∧ mk ≠ kc ∧ zMod G h m o rm T ch lm lat ctx ∧ (∀ q, zaw m q → q ≠ k ∧ q ≠ kb ∧ q ≠ kc) ∧ p0 < T.1 ∧ ∀ h', zCho G h' k kb kc (zoff T.2.2.1 T.2.2.2 E (ch p0)) → (∀ q, q ≠ k → q ≠ kb → q ≠ kc → h' q = h q) → K none h' n
set_option maxRecDepth 100000 in
theorem tvX8_offerChildren {G : zC} {as : List Value} {h : zH} {n : Nat} {K : zP} (hs : SX8_offerChildren G as h n K) : (∃ b fs r, as = .ref b :: r ∧ h b = some (.inr (8, fs))) ∧ zCt G rX8_offerChildren mX8_offerChildren as h n K := by
  obtain ⟨a, k, kb, kc, mk, R, ex, es, fi, E, L0, ⟨am, ap, ab, ac, af, ax, al, at9⟩, o, rm, ⟨nm, par, byt, cnt⟩, ch, lm, lat, ctx, p0, rfl, hT, hL0, hR0, hd1, hd2, hM, hdis, hp0, hK⟩ := hs
  have hk := hT.1
  obtain ⟨na1, na2, na3⟩ := hL0.obj hk (by decide)
  have hmk := hT.2.2.2.choose_spec.1
  have nm1 := hL0.arr hmk
  have hN := hM.nums
  dsimp only at hp0 hK hN
  have hl256 := zlen256 (hN.1.2.1 p0 hp0).2 (fun d hd => (hN.1.2.2.2 d (hN.1.2.2.1 p0 d hp0 hd).1 (hN.1.2.2.1 p0 d hp0 hd).2.1).2.2.1)
  refine ⟨⟨_, _, _, rfl, hk⟩, zCt.of (by decide) (Nat.le_of_ble_eq_true rfl) ?_⟩
  have loop : ∀ (r : List Nat) (j : Nat) (La : List (Nat × Nat)) (h1 : zH), (∀ c, c ∈ r → c ∈ ch p0) → (∃ X, h1 ax = some (zI G rm X) ∧ zlink X r) → r.length < j → j ≤ nm → La.length + r.length ≤ 256 → zCho G h1 k kb kc La → La ++ zoff byt cnt E r = zoff byt cnt E (ch p0) → (∀ q, q ≠ k → q ≠ kb → q ≠ kc → h1 q = h q) → zZ (zXm G rX8_offerChildren mX8_offerChildren [.ref a, .ref am, .int (nI p0)] h n K) 19 [(0, .ref a), (1, .ref am), (2, .int (nI p0)), (3, .int (nI j)), (4, .int (zhd r))] [] h1 n 0 0 := by
    intro r
    induction r with
    | nil =>
      intro j La h1 hm1 hx1 hj hj2 hll hC1 he ho
      refine z_iload dX8_offerChildren_19 rfl ?_
      refine z_iconst (w := -1) dX8_offerChildren_21 (by decide) ?_
      refine z_icmp_eq (t := 75) dX8_offerChildren_22 (by decide) (fun q22 => ?_) (fun q22 => ?_)
      · refine z_vreturn dX8_offerChildren_75 rfl (Nat.le_of_ble_eq_true rfl) (Nat.le_of_ble_eq_true rfl) ?_
        simp only [zoff, List.append_nil] at he
        rw [he] at hC1
        exact hK h1 hC1 ho
      · exact absurd rfl q22
    | cons d r ih =>
      intro j La h1 hm1 hx1 hj hj2 hll hC1 he ho
      obtain ⟨X1, hxa, hxl⟩ := hx1
      have hd := hN.1.2.2.1 p0 d hp0 (hm1 d List.mem_cons_self)
      have hd4 := hN.1.2.2.2 d hd.1 hd.2.1
      dsimp only at hd hd4
      have hM1 := hM.to (h' := h1) (fun q hq => ho q (hdis q hq).1 (hdis q hq).2.1 (hdis q hq).2.2)
      have hT1 := hT.to (ho a (Ne.symm na1) (Ne.symm na2) (Ne.symm na3)) (ho mk (Ne.symm nm1) hd1 hd2)
      have hk1 := hT1.1
      obtain ⟨P, B, C, F, X, L, U, ⟨r1, r2, r3, r4, r5, r6, r7, r8, -⟩, -, ⟨w1, w2, w3, w4, w5⟩, -⟩ := id hM1
      dsimp only at r1 r2 r3 r4 r5 r6 r7 r8 w1 w2 w3 w4 w5
      simp only [List.length_cons] at hj hll
      simp only [zhd]
      by_cases hE : E (byt d) = true
      · refine z_iload dX8_offerChildren_19 rfl ?_
        refine z_iconst (w := -1) dX8_offerChildren_21 (by decide) ?_
        refine z_icmp_eq (t := 75) dX8_offerChildren_22 (by decide) (fun q22 => ?_) (fun q22 => ?_)
        · exact absurd q22 (zhd_ne (by omega))
        · refine z_iload_n dX8_offerChildren_25 rfl ?_
          refine z_if_le (t := 75) dX8_offerChildren_26 (by decide) (fun q26 => ?_) (fun q26 => ?_)
          · exact absurd q26 (nI_nle (by omega) (by omega))
          · refine z_aload_n dX8_offerChildren_29 rfl ?_
            refine z_iload dX8_offerChildren_30 rfl ?_
            refine zcall2 (zck_V (na := 1) (ci := 4) (R' := rX3_byteOf) (M' := mX3_byteOf) (fun _ _ _ _ => tvX3_byteOf) (by decide) kX3_byteOf lX8_81 (by decide +kernel) rfl) dX8_offerChildren_32 (Nat.le_of_ble_eq_true rfl) (Nat.le_of_ble_eq_true rfl) (Nat.le_of_ble_eq_true rfl) ?_
            refine ⟨_, _, _, _, _, _, rfl, r1, rfl, r3, (by omega), (by omega), ?_⟩
            rw [w2 d hd.2.1, zm, if_neg (by omega)]
            refine z_istore dX8_offerChildren_35 (Nat.le_of_ble_eq_true rfl) ?_
            refine z_aload_n dX8_offerChildren_37 rfl ?_
            refine z_iload dX8_offerChildren_38 rfl ?_
            refine zcall2 (zck_V (na := 1) (ci := 8) (R' := rX8_isExcluded) (M' := mX8_isExcluded) (fun _ _ _ _ => tvX8_isExcluded) (by decide) kX8_isExcluded lX8_84 (by decide +kernel) rfl) dX8_offerChildren_40 (Nat.le_of_ble_eq_true rfl) (Nat.le_of_ble_eq_true rfl) (Nat.le_of_ble_eq_true rfl) ?_
            refine ⟨_, _, _, _, _, _, _, _, _, rfl, hT1, hR0, (by omega), ?_⟩
            rw [if_pos hE]
            refine z_if_ne (t := 61) dX8_offerChildren_43 (by decide) (fun q43 => ?_) (fun q43 => ?_)
            · refine z_iinc dX8_offerChildren_61 rfl (Nat.le_of_ble_eq_true rfl) ?_
              rw [show nI j + Int32.ofInt (-1) = nI (j - 1) from sb_m1 (by omega)]
              refine z_aload_n dX8_offerChildren_64 rfl ?_
              refine z_iload dX8_offerChildren_65 rfl ?_
              refine zcall2 (zck_V (na := 1) (ci := 4) (R' := rX3_nextSibling) (M' := mX3_nextSibling) (fun _ _ _ _ => tvX3_nextSibling) (by decide) kX3_nextSibling lX8_91 (by decide +kernel) rfl) dX8_offerChildren_67 (Nat.le_of_ble_eq_true rfl) (Nat.le_of_ble_eq_true rfl) (Nat.le_of_ble_eq_true rfl) ?_
              refine ⟨_, _, _, _, _, _, rfl, r1, rfl, hxa, (by omega), (by omega), ?_⟩
              rw [hxl.1]
              refine z_istore dX8_offerChildren_70 (Nat.le_of_ble_eq_true rfl) ?_
              refine z_goto (t := 19) dX8_offerChildren_72 (by decide) ?_
              refine zZ.keep [0, 1, 2, 3, 4] ?_
              exact ih (j - 1) La h1 (fun c hc => hm1 c (List.mem_cons_of_mem _ hc)) ⟨X1, hxa, hxl.2⟩ (by omega) (by omega) (by omega) hC1 (by rw [← he]; simp [zoff, hE]) (fun q z1 z2 z3 => ho q z1 z2 z3)
            · exact absurd q43 (by decide)
      · refine z_iload dX8_offerChildren_19 rfl ?_
        refine z_iconst (w := -1) dX8_offerChildren_21 (by decide) ?_
        refine z_icmp_eq (t := 75) dX8_offerChildren_22 (by decide) (fun q22 => ?_) (fun q22 => ?_)
        · exact absurd q22 (zhd_ne (by omega))
        · refine z_iload_n dX8_offerChildren_25 rfl ?_
          refine z_if_le (t := 75) dX8_offerChildren_26 (by decide) (fun q26 => ?_) (fun q26 => ?_)
          · exact absurd q26 (nI_nle (by omega) (by omega))
          · refine z_aload_n dX8_offerChildren_29 rfl ?_
            refine z_iload dX8_offerChildren_30 rfl ?_
            refine zcall2 (zck_V (na := 1) (ci := 4) (R' := rX3_byteOf) (M' := mX3_byteOf) (fun _ _ _ _ => tvX3_byteOf) (by decide) kX3_byteOf lX8_81 (by decide +kernel) rfl) dX8_offerChildren_32 (Nat.le_of_ble_eq_true rfl) (Nat.le_of_ble_eq_true rfl) (Nat.le_of_ble_eq_true rfl) ?_
            refine ⟨_, _, _, _, _, _, rfl, r1, rfl, r3, (by omega), (by omega), ?_⟩
            rw [w2 d hd.2.1, zm, if_neg (by omega)]
            refine z_istore dX8_offerChildren_35 (Nat.le_of_ble_eq_true rfl) ?_
            refine z_aload_n dX8_offerChildren_37 rfl ?_
            refine z_iload dX8_offerChildren_38 rfl ?_
            refine zcall2 (zck_V (na := 1) (ci := 8) (R' := rX8_isExcluded) (M' := mX8_isExcluded) (fun _ _ _ _ => tvX8_isExcluded) (by decide) kX8_isExcluded lX8_84 (by decide +kernel) rfl) dX8_offerChildren_40 (Nat.le_of_ble_eq_true rfl) (Nat.le_of_ble_eq_true rfl) (Nat.le_of_ble_eq_true rfl) ?_
            refine ⟨_, _, _, _, _, _, _, _, _, rfl, hT1, hR0, (by omega), ?_⟩
            rw [if_neg hE]
            refine z_if_ne (t := 61) dX8_offerChildren_43 (by decide) (fun q43 => ?_) (fun q43 => ?_)
            · exact absurd rfl q43
            · refine z_aload_n dX8_offerChildren_46 rfl ?_
              refine z_getfield dX8_offerChildren_47 fX8_12_8 rfl (by first | assumption | exact zget_eq | exact zget_ne (by first | assumption | exact Ne.symm (by assumption) | omega) (by first | assumption | exact zget_eq | exact zget_ne (by first | assumption | exact Ne.symm (by assumption) | omega) (by first | assumption | exact zget_eq | exact zget_ne (by first | assumption | exact Ne.symm (by assumption) | omega) (by first | assumption | exact zget_eq)))) rfl ?_
              refine z_iload dX8_offerChildren_50 rfl ?_
              refine z_aload_n dX8_offerChildren_52 rfl ?_
              refine z_iload dX8_offerChildren_53 rfl ?_
              refine zcall2 (zck_V (na := 1) (ci := 4) (R' := rX3_countOf) (M' := mX3_countOf) (fun _ _ _ _ => tvX3_countOf) (by decide) kX3_countOf lX8_88 (by decide +kernel) rfl) dX8_offerChildren_55 (Nat.le_of_ble_eq_true rfl) (Nat.le_of_ble_eq_true rfl) (Nat.le_of_ble_eq_true rfl) ?_
              refine ⟨_, _, _, _, _, _, rfl, r1, rfl, r4, (by omega), (by omega), ?_⟩
              rw [w3 d hd.2.1, if_neg (by omega)]
              refine zcall3 (zck_V (na := 2) (ci := 2) (R' := rX0_offer) (M' := mX0_offer) (fun _ _ _ _ => tvX0_offer) (by decide) kX0_offer lX8_52 (by decide +kernel) rfl) dX8_offerChildren_58 (Nat.le_of_ble_eq_true rfl) (Nat.le_of_ble_eq_true rfl) (Nat.le_of_ble_eq_true rfl) ?_
              refine ⟨_, _, _, _, _, _, rfl, hC1, (by omega), fun h2 hC2 o2 => ?_⟩
              have r1b := (o2 am (hdis am (by simp [zaw])).1 (hdis am (by simp [zaw])).2.1 (hdis am (by simp [zaw])).2.2).trans r1
              have hxb := (o2 ax (hdis ax (by simp [zaw])).1 (hdis ax (by simp [zaw])).2.1 (hdis ax (by simp [zaw])).2.2).trans hxa
              refine z_iinc dX8_offerChildren_61 rfl (Nat.le_of_ble_eq_true rfl) ?_
              rw [show nI j + Int32.ofInt (-1) = nI (j - 1) from sb_m1 (by omega)]
              refine z_aload_n dX8_offerChildren_64 rfl ?_
              refine z_iload dX8_offerChildren_65 rfl ?_
              refine zcall2 (zck_V (na := 1) (ci := 4) (R' := rX3_nextSibling) (M' := mX3_nextSibling) (fun _ _ _ _ => tvX3_nextSibling) (by decide) kX3_nextSibling lX8_91 (by decide +kernel) rfl) dX8_offerChildren_67 (Nat.le_of_ble_eq_true rfl) (Nat.le_of_ble_eq_true rfl) (Nat.le_of_ble_eq_true rfl) ?_
              refine ⟨_, _, _, _, _, _, rfl, r1b, rfl, hxb, (by omega), (by omega), ?_⟩
              rw [hxl.1]
              refine z_istore dX8_offerChildren_70 (Nat.le_of_ble_eq_true rfl) ?_
              refine z_goto (t := 19) dX8_offerChildren_72 (by decide) ?_
              refine zZ.keep [0, 1, 2, 3, 4] ?_
              exact ih (j - 1) (La ++ [(byt d, cnt d)]) h2 (fun c hc => hm1 c (List.mem_cons_of_mem _ hc)) ⟨X1, hxb, hxl.2⟩ (by omega) (by omega) (by simp only [List.length_append, List.length_cons, List.length_nil]; omega) hC2 (by rw [← he]; simp [zoff, hE]) (fun q z1 z2 z3 => (o2 q z1 z2 z3).trans (ho q z1 z2 z3))
  obtain ⟨P, B, C, F, X, L, U, ⟨r1, r2, r3, r4, r5, r6, r7, r8, -⟩, -, ⟨w1, w2, w3, w4, w5⟩, -⟩ := id hM
  dsimp only at r1 r2 r3 r4 r5 r6 r7 r8 w1 w2 w3 w4 w5
  refine z_aload_n dX8_offerChildren_0 rfl ?_
  refine z_getfield dX8_offerChildren_1 fX8_12_8 rfl (by first | assumption | exact zget_eq | exact zget_ne (by first | assumption | exact Ne.symm (by assumption) | omega) (by first | assumption | exact zget_eq | exact zget_ne (by first | assumption | exact Ne.symm (by assumption) | omega) (by first | assumption | exact zget_eq | exact zget_ne (by first | assumption | exact Ne.symm (by assumption) | omega) (by first | assumption | exact zget_eq)))) rfl ?_
  refine zcall1 (zck_V (na := 0) (ci := 2) (R' := rX0_begin) (M' := mX0_begin) (fun _ _ _ _ => tvX0_begin) (by decide) kX0_begin lX8_72 (by decide +kernel) rfl) dX8_offerChildren_4 (Nat.le_of_ble_eq_true rfl) (Nat.le_of_ble_eq_true rfl) (Nat.le_of_ble_eq_true rfl) ?_
  refine ⟨_, _, _, _, rfl, hL0, fun h2 hC2 o2 => ?_⟩
  have r1b := (o2 am (hdis am (by simp [zaw])).1 (hdis am (by simp [zaw])).2.1 (hdis am (by simp [zaw])).2.2).trans r1
  have r5b := (o2 af (hdis af (by simp [zaw])).1 (hdis af (by simp [zaw])).2.1 (hdis af (by simp [zaw])).2.2).trans r5
  refine z_aload_n dX8_offerChildren_7 rfl ?_
  refine zcall1 (zck_V (na := 0) (ci := 4) (R' := rX3_nodeMany) (M' := mX3_nodeMany) (fun _ _ _ _ => tvX3_nodeMany) (by decide) kX3_nodeMany lX8_75 (by decide +kernel) rfl) dX8_offerChildren_8 (Nat.le_of_ble_eq_true rfl) (Nat.le_of_ble_eq_true rfl) (Nat.le_of_ble_eq_true rfl) ?_
  refine ⟨_, _, _, rfl, r1b, rfl, ?_⟩
  refine z_istore_n dX8_offerChildren_11 (Nat.le_of_ble_eq_true rfl) ?_
  refine z_aload_n dX8_offerChildren_12 rfl ?_
  refine z_iload_n dX8_offerChildren_13 rfl ?_
  refine zcall2 (zck_V (na := 1) (ci := 4) (R' := rX3_firstChild) (M' := mX3_firstChild) (fun _ _ _ _ => tvX3_firstChild) (by decide) kX3_firstChild lX8_78 (by decide +kernel) rfl) dX8_offerChildren_14 (Nat.le_of_ble_eq_true rfl) (Nat.le_of_ble_eq_true rfl) (Nat.le_of_ble_eq_true rfl) ?_
  refine ⟨_, _, _, _, _, _, rfl, r1b, rfl, r5b, (by omega), (by omega), ?_⟩
  rw [w4 p0 hp0]
  refine z_istore dX8_offerChildren_17 (Nat.le_of_ble_eq_true rfl) ?_
  exact loop (ch p0) nm [] h2 (fun c hc => hc) ⟨X, (o2 ax (hdis ax (by simp [zaw])).1 (hdis ax (by simp [zaw])).2.1 (hdis ax (by simp [zaw])).2.2).trans r6, w5 p0 hp0⟩ (hN.1.2.1 p0 hp0).1 (Nat.le_refl _) (by simp only [List.length_nil]; omega) hC2 rfl o2

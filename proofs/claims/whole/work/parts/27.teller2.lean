/-! Teller: what is flat, what was offered is excluded; the report of a sign -/
abbrev rX8_offerFlat : Room := ⟨2, 0, 0, 80⟩
def SX8_offerFlat (G : zC) : zS := fun as h n K => ∃ (a k kb kc mk R ex es : Nat) (fi : Int32) (E : Nat → Bool) (L0 : List (Nat × Nat)), as = [.ref a] ∧ zTel G h a k mk R E ex es fi ∧ zCho G h k kb kc L0 ∧ 0 < R ∧ mk ≠ kb ∧ mk ≠ kc ∧ ∀ h', zCho G h' k kb kc (zflat E 257 0) → (∀ q, q ≠ k → q ≠ kb → q ≠ kc → h' q = h q) → K none h' n
set_option maxRecDepth 100000 in
theorem tvX8_offerFlat {G : zC} {as : List Value} {h : zH} {n : Nat} {K : zP} (hs : SX8_offerFlat G as h n K) : (∃ b fs r, as = .ref b :: r ∧ h b = some (.inr (8, fs))) ∧ zCt G rX8_offerFlat mX8_offerFlat as h n K := by
  obtain ⟨a, k, kb, kc, mk, R, ex, es, fi, E, L0, rfl, hT, hL0, hR0, hd1, hd2, hK⟩ := hs
  have hk := hT.1
  obtain ⟨na1, na2, na3⟩ := hL0.obj hk (by decide)
  have hmk := hT.2.2.2.choose_spec.1
  have nm1 := hL0.arr hmk
  refine ⟨⟨_, _, _, rfl, hk⟩, zCt.of (by decide) (Nat.le_of_ble_eq_true rfl) ?_⟩
  have loop : ∀ (d s : Nat) (La : List (Nat × Nat)) (h1 : zH), s + d = 257 → La.length ≤ s → zCho G h1 k kb kc La → La ++ zflat E d s = zflat E 257 0 → (∀ q, q ≠ k → q ≠ kb → q ≠ kc → h1 q = h q) → zZ (zXm G rX8_offerFlat mX8_offerFlat [.ref a] h n K) 9 [(0, .ref a), (1, .int (nI s))] [] h1 n 0 0 := by
    intro d
    induction d with
    | zero =>
      intro s La h1 hd hll hC1 he ho
      refine z_iload_n dX8_offerFlat_9 rfl ?_
      refine z_sipush (w := 257) dX8_offerFlat_10 (by decide) ?_
      refine z_icmp_ge (t := 39) dX8_offerFlat_13 (by decide) (fun q13 => ?_) (fun q13 => ?_)
      · refine z_vreturn dX8_offerFlat_39 rfl (Nat.le_of_ble_eq_true rfl) (Nat.le_of_ble_eq_true rfl) ?_
        simp only [zflat, List.append_nil] at he
        rw [he] at hC1
        exact hK h1 hC1 ho
      · exact absurd (nI_le (a := 257) (by omega) (by omega)) q13
    | succ d ih =>
      intro s La h1 hd hll hC1 he ho
      have hT1 := hT.to (ho a (Ne.symm na1) (Ne.symm na2) (Ne.symm na3)) (ho mk (Ne.symm nm1) hd1 hd2)
      have hk1 := hT1.1
      by_cases hE : E s = true
      · refine z_iload_n dX8_offerFlat_9 rfl ?_
        refine z_sipush (w := 257) dX8_offerFlat_10 (by decide) ?_
        refine z_icmp_ge (t := 39) dX8_offerFlat_13 (by decide) (fun q13 => ?_) (fun q13 => ?_)
        · exact absurd q13 (nI_ge (b := 257) (by omega) (by omega))
        · refine z_aload_n dX8_offerFlat_16 rfl ?_
          refine z_iload_n dX8_offerFlat_17 rfl ?_
          refine zcall2 (zck_V (na := 1) (ci := 8) (R' := rX8_isExcluded) (M' := mX8_isExcluded) (fun _ _ _ _ => tvX8_isExcluded) (by decide) kX8_isExcluded lX8_84 (by decide +kernel) rfl) dX8_offerFlat_18 (Nat.le_of_ble_eq_true rfl) (Nat.le_of_ble_eq_true rfl) (Nat.le_of_ble_eq_true rfl) ?_
          refine ⟨_, _, _, _, _, _, _, _, _, rfl, hT1, hR0, (by omega), ?_⟩
          rw [if_pos hE]
          refine z_if_ne (t := 33) dX8_offerFlat_21 (by decide) (fun q21 => ?_) (fun q21 => ?_)
          · refine z_iinc dX8_offerFlat_33 rfl (Nat.le_of_ble_eq_true rfl) ?_
            rw [show nI s + Int32.ofInt 1 = nI (s + 1) from nI_1 s]
            refine z_goto (t := 9) dX8_offerFlat_36 (by decide) ?_
            exact ih (s + 1) La h1 (by omega) (by omega) hC1 (by rw [← he]; simp [zflat, hE]) ho
          · exact absurd q21 (by decide)
      · refine z_iload_n dX8_offerFlat_9 rfl ?_
        refine z_sipush (w := 257) dX8_offerFlat_10 (by decide) ?_
        refine z_icmp_ge (t := 39) dX8_offerFlat_13 (by decide) (fun q13 => ?_) (fun q13 => ?_)
        · exact absurd q13 (nI_ge (b := 257) (by omega) (by omega))
        · refine z_aload_n dX8_offerFlat_16 rfl ?_
          refine z_iload_n dX8_offerFlat_17 rfl ?_
          refine zcall2 (zck_V (na := 1) (ci := 8) (R' := rX8_isExcluded) (M' := mX8_isExcluded) (fun _ _ _ _ => tvX8_isExcluded) (by decide) kX8_isExcluded lX8_84 (by decide +kernel) rfl) dX8_offerFlat_18 (Nat.le_of_ble_eq_true rfl) (Nat.le_of_ble_eq_true rfl) (Nat.le_of_ble_eq_true rfl) ?_
          refine ⟨_, _, _, _, _, _, _, _, _, rfl, hT1, hR0, (by omega), ?_⟩
          rw [if_neg hE]
          refine z_if_ne (t := 33) dX8_offerFlat_21 (by decide) (fun q21 => ?_) (fun q21 => ?_)
          · exact absurd rfl q21
          · refine z_aload_n dX8_offerFlat_24 rfl ?_
            refine z_getfield dX8_offerFlat_25 fX8_12_8 rfl (by first | assumption | exact zget_eq | exact zget_ne (by first | assumption | exact Ne.symm (by assumption) | omega) (by first | assumption | exact zget_eq | exact zget_ne (by first | assumption | exact Ne.symm (by assumption) | omega) (by first | assumption | exact zget_eq | exact zget_ne (by first | assumption | exact Ne.symm (by assumption) | omega) (by first | assumption | exact zget_eq)))) rfl ?_
            refine z_iload_n dX8_offerFlat_28 rfl ?_
            refine z_iconst (w := 1) dX8_offerFlat_29 (by decide) ?_
            refine zcall3 (zck_V (na := 2) (ci := 2) (R' := rX0_offer) (M' := mX0_offer) (fun _ _ _ _ => tvX0_offer) (by decide) kX0_offer lX8_52 (by decide +kernel) rfl) dX8_offerFlat_30 (Nat.le_of_ble_eq_true rfl) (Nat.le_of_ble_eq_true rfl) (Nat.le_of_ble_eq_true rfl) ?_
            refine ⟨k, kb, kc, La, s, 1, rfl, hC1, (by omega), fun h2 hC2 o2 => ?_⟩
            refine z_iinc dX8_offerFlat_33 rfl (Nat.le_of_ble_eq_true rfl) ?_
            rw [show nI s + Int32.ofInt 1 = nI (s + 1) from nI_1 s]
            refine z_goto (t := 9) dX8_offerFlat_36 (by decide) ?_
            exact ih (s + 1) (La ++ [(s, 1)]) h2 (by omega) (by simp only [List.length_append, List.length_cons, List.length_nil]; omega) hC2 (by rw [← he]; simp [zflat, hE]) (fun q z1 z2 z3 => (o2 q z1 z2 z3).trans (ho q z1 z2 z3))
  refine z_aload_n dX8_offerFlat_0 rfl ?_
  refine z_getfield dX8_offerFlat_1 fX8_12_8 rfl (by first | assumption | exact zget_eq | exact zget_ne (by first | assumption | exact Ne.symm (by assumption) | omega) (by first | assumption | exact zget_eq | exact zget_ne (by first | assumption | exact Ne.symm (by assumption) | omega) (by first | assumption | exact zget_eq | exact zget_ne (by first | assumption | exact Ne.symm (by assumption) | omega) (by first | assumption | exact zget_eq)))) rfl ?_
  refine zcall1 (zck_V (na := 0) (ci := 2) (R' := rX0_begin) (M' := mX0_begin) (fun _ _ _ _ => tvX0_begin) (by decide) kX0_begin lX8_72 (by decide +kernel) rfl) dX8_offerFlat_4 (Nat.le_of_ble_eq_true rfl) (Nat.le_of_ble_eq_true rfl) (Nat.le_of_ble_eq_true rfl) ?_
  refine ⟨_, _, _, _, rfl, hL0, fun h2 hC2 o2 => ?_⟩
  refine z_iconst (w := 0) dX8_offerFlat_7 (by decide) ?_
  refine z_istore_n dX8_offerFlat_8 (Nat.le_of_ble_eq_true rfl) ?_
  exact loop 257 0 [] h2 rfl (Nat.le_refl _) hC2 rfl o2
def zexc (E : Nat → Bool) (L : List (Nat × Nat)) : Nat → Nat → Bool
  | 0, s => E s
  | i + 1, s => zexc E L i s || decide (s = zsg L i)
abbrev rX8_excludeOffered : Room := ⟨2, 0, 0, 80⟩
def SX8_excludeOffered (G : zC) : zS := fun as h n K => ∃ (a k kb kc mk R ex es : Nat) (fi : Int32) (E : Nat → Bool) (L0 : List (Nat × Nat)), as = [.ref a] ∧ zTel G h a k mk R E ex es fi ∧ zCho G h k kb kc L0 ∧ 0 < L0.length ∧ (∀ i, i < L0.length - 1 → zsg L0 i < 256) ∧ mk ≠ kb ∧ mk ≠ kc ∧ ex < 1000000 ∧ ∀ h', zTel G h' a k mk R (zexc E L0 (L0.length - 1)) (ex + (L0.length - 1)) es fi → (∀ q, q ≠ a → q ≠ mk → h' q = h q) → K none h' n
set_option maxRecDepth 100000 in
theorem tvX8_excludeOffered {G : zC} {as : List Value} {h : zH} {n : Nat} {K : zP} (hs : SX8_excludeOffered G as h n K) : (∃ b fs r, as = .ref b :: r ∧ h b = some (.inr (8, fs))) ∧ zCt G rX8_excludeOffered mX8_excludeOffered as h n K := by
  obtain ⟨a, k, kb, kc, mk, R, ex, es, fi, E, L0, rfl, hT, hL0, hl0, hsg, hd1, hd2, hex, hK⟩ := hs
  have hk := hT.1
  obtain ⟨na1, na2, na3⟩ := hL0.obj hk (by decide)
  have hmk := hT.2.2.2.choose_spec.1
  have nm1 := hL0.arr hmk
  have nam : a ≠ mk := fun q => by rw [q, hmk] at hk; simp at hk
  have hl257 := hL0.choose_spec.choose_spec.2.2.2.2.2.2
  refine ⟨⟨_, _, _, rfl, hk⟩, zCt.of (by decide) (Nat.le_of_ble_eq_true rfl) ?_⟩
  have loop : ∀ (d i : Nat) (h1 : zH), i + d = L0.length - 1 → zTel G h1 a k mk R (zexc E L0 i) (ex + i) es fi → (∀ q, q ≠ a → q ≠ mk → h1 q = h q) → zZ (zXm G rX8_excludeOffered mX8_excludeOffered [.ref a] h n K) 2 [(0, .ref a), (1, .int (nI i))] [] h1 n 0 0 := by
    intro d
    induction d with
    | zero =>
      intro i h1 hd hT1 ho
      have hk1 := hT1.1
      have hL1 := hL0.to (ho k na1 nm1) (ho kb na2 (Ne.symm hd1)) (ho kc na3 (Ne.symm hd2))
      refine z_iload_n dX8_excludeOffered_2 rfl ?_
      refine z_aload_n dX8_excludeOffered_3 rfl ?_
      refine z_getfield dX8_excludeOffered_4 fX8_12_8 rfl (by first | assumption | exact zget_eq | exact zget_ne (by first | assumption | exact Ne.symm (by assumption) | omega) (by first | assumption | exact zget_eq | exact zget_ne (by first | assumption | exact Ne.symm (by assumption) | omega) (by first | assumption | exact zget_eq | exact zget_ne (by first | assumption | exact Ne.symm (by assumption) | omega) (by first | assumption | exact zget_eq)))) rfl ?_
      refine zcall1 (zck_V (na := 0) (ci := 2) (R' := rX0_many) (M' := mX0_many) (fun _ _ _ _ => tvX0_many) (by decide) kX0_many lX8_49 (by decide +kernel) rfl) dX8_excludeOffered_7 (Nat.le_of_ble_eq_true rfl) (Nat.le_of_ble_eq_true rfl) (Nat.le_of_ble_eq_true rfl) ?_
      refine ⟨_, _, _, _, rfl, hL1, ?_⟩
      refine z_iconst (w := 1) dX8_excludeOffered_10 (by decide) ?_
      refine z_isub dX8_excludeOffered_11 ?_
      rw [show nI L0.length - 1 = nI (L0.length - 1) from pk_sub (b := 1) hl0]
      refine z_icmp_ge (t := 50) dX8_excludeOffered_12 (by decide) (fun q12 => ?_) (fun q12 => ?_)
      · refine z_vreturn dX8_excludeOffered_50 rfl (Nat.le_of_ble_eq_true rfl) (Nat.le_of_ble_eq_true rfl) ?_
        rw [show L0.length - 1 = i by omega] at hK
        exact hK h1 hT1 ho
      · exact absurd (nI_le (by omega) (by omega)) q12
    | succ d ih =>
      intro i h1 hd hT1 ho
      have hL1 := hL0.to (ho k na1 nm1) (ho kb na2 (Ne.symm hd1)) (ho kc na3 (Ne.symm hd2))
      obtain ⟨hk1, hR1, hE1, M, hm1, hv1, hM1⟩ := hT1
      have hs9 := hsg i (by omega)
      refine z_iload_n dX8_excludeOffered_2 rfl ?_
      refine z_aload_n dX8_excludeOffered_3 rfl ?_
      refine z_getfield dX8_excludeOffered_4 fX8_12_8 rfl (by first | assumption | exact zget_eq | exact zget_ne (by first | assumption | exact Ne.symm (by assumption) | omega) (by first | assumption | exact zget_eq | exact zget_ne (by first | assumption | exact Ne.symm (by assumption) | omega) (by first | assumption | exact zget_eq | exact zget_ne (by first | assumption | exact Ne.symm (by assumption) | omega) (by first | assumption | exact zget_eq)))) rfl ?_
      refine zcall1 (zck_V (na := 0) (ci := 2) (R' := rX0_many) (M' := mX0_many) (fun _ _ _ _ => tvX0_many) (by decide) kX0_many lX8_49 (by decide +kernel) rfl) dX8_excludeOffered_7 (Nat.le_of_ble_eq_true rfl) (Nat.le_of_ble_eq_true rfl) (Nat.le_of_ble_eq_true rfl) ?_
      refine ⟨_, _, _, _, rfl, hL1, ?_⟩
      refine z_iconst (w := 1) dX8_excludeOffered_10 (by decide) ?_
      refine z_isub dX8_excludeOffered_11 ?_
      rw [show nI L0.length - 1 = nI (L0.length - 1) from pk_sub (b := 1) hl0]
      refine z_icmp_ge (t := 50) dX8_excludeOffered_12 (by decide) (fun q12 => ?_) (fun q12 => ?_)
      · exact absurd q12 (nI_ge (by omega) (by omega))
      · refine z_aload_n dX8_excludeOffered_15 rfl ?_
        refine z_getfield dX8_excludeOffered_16 fX8_18_8 rfl (by first | assumption | exact zget_eq | exact zget_ne (by first | assumption | exact Ne.symm (by assumption) | omega) (by first | assumption | exact zget_eq | exact zget_ne (by first | assumption | exact Ne.symm (by assumption) | omega) (by first | assumption | exact zget_eq | exact zget_ne (by first | assumption | exact Ne.symm (by assumption) | omega) (by first | assumption | exact zget_eq)))) rfl ?_
        refine z_aload_n dX8_excludeOffered_19 rfl ?_
        refine z_getfield dX8_excludeOffered_20 fX8_12_8 rfl (by first | assumption | exact zget_eq | exact zget_ne (by first | assumption | exact Ne.symm (by assumption) | omega) (by first | assumption | exact zget_eq | exact zget_ne (by first | assumption | exact Ne.symm (by assumption) | omega) (by first | assumption | exact zget_eq | exact zget_ne (by first | assumption | exact Ne.symm (by assumption) | omega) (by first | assumption | exact zget_eq)))) rfl ?_
        refine z_iload_n dX8_excludeOffered_23 rfl ?_
        refine zcall2 (zck_V (na := 1) (ci := 2) (R' := rX0_signAt) (M' := mX0_signAt) (fun _ _ _ _ => tvX0_signAt) (by decide) kX0_signAt lX8_94 (by decide +kernel) rfl) dX8_excludeOffered_24 (Nat.le_of_ble_eq_true rfl) (Nat.le_of_ble_eq_true rfl) (Nat.le_of_ble_eq_true rfl) ?_
        refine ⟨_, _, _, _, _, rfl, hL1, (by omega), ?_⟩
        refine z_aload_n dX8_excludeOffered_27 rfl ?_
        refine z_getfield dX8_excludeOffered_28 fX8_32_8 rfl (by first | assumption | exact zget_eq | exact zget_ne (by first | assumption | exact Ne.symm (by assumption) | omega) (by first | assumption | exact zget_eq | exact zget_ne (by first | assumption | exact Ne.symm (by assumption) | omega) (by first | assumption | exact zget_eq | exact zget_ne (by first | assumption | exact Ne.symm (by assumption) | omega) (by first | assumption | exact zget_eq)))) rfl ?_
        refine zcall3 (zck_SN (R' := rX10_put) (M' := mX10_put) (fun _ _ _ _ => tX10_put) kX10_put lX8_97 nX8_97 (by decide +kernel) rfl) dX8_excludeOffered_31 (Nat.le_of_ble_eq_true rfl) (Nat.le_of_ble_eq_true rfl) (Nat.le_of_ble_eq_true rfl) ?_
        refine ⟨_, _, _, _, _, rfl, hm1, (by omega), fun h2 e2 o2 => ?_⟩
        rw [zpt_in hs9 (by omega)] at e2
        have hk2 := (o2 a nam).trans hk1
        refine z_aload_n dX8_excludeOffered_34 rfl ?_
        refine z_dup dX8_excludeOffered_35 rfl ?_
        refine z_getfield dX8_excludeOffered_36 fX8_22_8 rfl (by first | assumption | exact zget_eq | exact zget_ne (by first | assumption | exact Ne.symm (by assumption) | omega) (by first | assumption | exact zget_eq | exact zget_ne (by first | assumption | exact Ne.symm (by assumption) | omega) (by first | assumption | exact zget_eq | exact zget_ne (by first | assumption | exact Ne.symm (by assumption) | omega) (by first | assumption | exact zget_eq)))) rfl ?_
        refine z_iconst (w := 1) dX8_excludeOffered_39 (by decide) ?_
        refine z_iadd dX8_excludeOffered_40 ?_
        refine z_putfield dX8_excludeOffered_41 fX8_22_8 rfl (fun q => absurd q (by decide)) (by first | assumption | exact zget_eq | exact zget_ne (by first | assumption | exact Ne.symm (by assumption) | omega) (by first | assumption | exact zget_eq | exact zget_ne (by first | assumption | exact Ne.symm (by assumption) | omega) (by first | assumption | exact zget_eq | exact zget_ne (by first | assumption | exact Ne.symm (by assumption) | omega) (by first | assumption | exact zget_eq)))) (Nat.le_of_ble_eq_true rfl) (Or.inl ⟨rfl, _, rfl⟩) ?_
        refine z_iinc dX8_excludeOffered_44 rfl (Nat.le_of_ble_eq_true rfl) ?_
        rw [show nI i + Int32.ofInt 1 = nI (i + 1) from nI_1 i]
        refine z_goto (t := 2) dX8_excludeOffered_47 (by decide) ?_
        refine ih (i + 1) _ (by omega) ⟨by rw [zget_eq]; simp [nI_1, Nat.add_assoc], hR1, fun s hs => ?_, upd M (zsg L0 i) (nI R), by rw [zup_ne (Ne.symm nam)]; exact e2, fun s hs => ?_, fun s hs => ?_⟩ (fun q z1 z2 => by rw [zup_ne z1, o2 q z2]; exact ho q z1 z2)
        · simp only [zexc, hE1 s hs, Bool.false_or, decide_eq_false_iff_not]; omega
        · by_cases z : s = zsg L0 i
          · exact ⟨R, Nat.le_refl _, by rw [z, pk_us]⟩
          · obtain ⟨v, g1, g2⟩ := hv1 s hs
            exact ⟨v, g1, by rw [pk_un z]; exact g2⟩
        · by_cases z : s = zsg L0 i
          · rw [z, pk_us]; simp [zexc]
          · rw [pk_un z]; simp only [zexc, Bool.or_eq_true, decide_eq_true_eq, z, or_false]; exact hM1 s hs
  refine z_iconst (w := 0) dX8_excludeOffered_0 (by decide) ?_
  refine z_istore_n dX8_excludeOffered_1 (Nat.le_of_ble_eq_true rfl) ?_
  exact loop (L0.length - 1) 0 h (Nat.zero_add _) hT (fun q _ _ => rfl)
abbrev rX5_noteSign : Room := ⟨1, 0, 0, 40⟩
def SX5_noteSign (G : zC) : zS := fun as h n K => ∃ (a ae ac b k : Nat) (fe fc : Nat → Int32) (ex es esc : Int32) (v3 v5 w0 w1 w2 : Value) (fi : Int32), as = [.ref a, .ref b] ∧ h a = some (zO 6 [.ref ae, .ref ac, .int (nI k), v3, .int esc, v5]) ∧ h ae = some (zI G 301 fe) ∧ h ac = some (zI G 301 fc) ∧ ae ≠ ac ∧ h b = some (zO 8 [w0, w1, w2, .int ex, .int es, .int fi]) ∧ k < 301 ∧ ∀ h', h' a = some (zO 6 [.ref ae, .ref ac, .int (nI (k + 1)), v3, .int (esc + es), v5]) → h' ae = some (zI G 301 (upd fe k ex)) → h' ac = some (zI G 301 (upd fc k fi)) → (∀ q, q ≠ a → q ≠ ae → q ≠ ac → h' q = h q) → K none h' n
set_option maxRecDepth 100000 in
theorem tvX5_noteSign {G : zC} {as : List Value} {h : zH} {n : Nat} {K : zP} (hs : SX5_noteSign G as h n K) : (∃ b fs r, as = .ref b :: r ∧ h b = some (.inr (6, fs))) ∧ zCt G rX5_noteSign mX5_noteSign as h n K := by
  obtain ⟨a, ae, ac, b, k, fe, fc, ex, es, esc, v3, v5, w0, w1, w2, fi, rfl, hk, he, hc, hec, hb, hk3, hK⟩ := hs
  have nae : a ≠ ae := fun q => by rw [q, he] at hk; simp at hk
  have nac : a ≠ ac := fun q => by rw [q, hc] at hk; simp at hk
  have nbe : b ≠ ae := fun q => by rw [q, he] at hb; simp at hb
  have nbc : b ≠ ac := fun q => by rw [q, hc] at hb; simp at hb
  have nba : b ≠ a := fun q => by rw [q, hk] at hb; simp at hb
  refine ⟨⟨_, _, _, rfl, hk⟩, zCt.of (by decide) (Nat.le_of_ble_eq_true rfl) ?_⟩
  refine z_aload_n dX5_noteSign_0 rfl ?_
  refine z_getfield dX5_noteSign_1 fX5_9_6 rfl (by first | assumption | exact zget_eq | exact zget_ne (by first | assumption | exact Ne.symm (by assumption) | omega) (by first | assumption | exact zget_eq | exact zget_ne (by first | assumption | exact Ne.symm (by assumption) | omega) (by first | assumption | exact zget_eq | exact zget_ne (by first | assumption | exact Ne.symm (by assumption) | omega) (by first | assumption | exact zget_eq)))) rfl ?_
  refine z_aload_n dX5_noteSign_4 rfl ?_
  refine z_getfield dX5_noteSign_5 fX5_18_6 rfl (by first | assumption | exact zget_eq | exact zget_ne (by first | assumption | exact Ne.symm (by assumption) | omega) (by first | assumption | exact zget_eq | exact zget_ne (by first | assumption | exact Ne.symm (by assumption) | omega) (by first | assumption | exact zget_eq | exact zget_ne (by first | assumption | exact Ne.symm (by assumption) | omega) (by first | assumption | exact zget_eq)))) rfl ?_
  refine z_aload_n dX5_noteSign_8 rfl ?_
  refine zcall1 (zck_V (na := 0) (ci := 8) (R' := rX8_excludedMany) (M' := mX8_excludedMany) (fun _ _ _ _ => tvX8_excludedMany) (by decide) kX8_excludedMany lX5_31 (by decide +kernel) rfl) dX5_noteSign_9 (Nat.le_of_ble_eq_true rfl) (Nat.le_of_ble_eq_true rfl) (Nat.le_of_ble_eq_true rfl) ?_
  refine ⟨_, _, _, rfl, (by first | assumption | exact zget_eq | exact zget_ne (by first | assumption | exact Ne.symm (by assumption) | omega) (by first | assumption | exact zget_eq | exact zget_ne (by first | assumption | exact Ne.symm (by assumption) | omega) (by first | assumption | exact zget_eq | exact zget_ne (by first | assumption | exact Ne.symm (by assumption) | omega) (by first | assumption | exact zget_eq)))), rfl, ?_⟩
  refine zcall3 (zck_SN (R' := rX10_put) (M' := mX10_put) (fun _ _ _ _ => tX10_put) kX10_put lX5_37 nX5_37 (by decide +kernel) rfl) dX5_noteSign_12 (Nat.le_of_ble_eq_true rfl) (Nat.le_of_ble_eq_true rfl) (Nat.le_of_ble_eq_true rfl) ?_
  refine ⟨_, _, _, _, _, rfl, he, (by omega), fun h1 e1 o1 => ?_⟩
  rw [zpt_in hk3 (by omega)] at e1
  have k1 := (o1 a nae).trans hk
  have b1 := (o1 b nbe).trans hb
  have c1 := (o1 ac (Ne.symm hec)).trans hc
  refine z_aload_n dX5_noteSign_15 rfl ?_
  refine z_getfield dX5_noteSign_16 fX5_15_6 rfl (by first | assumption | exact zget_eq | exact zget_ne (by first | assumption | exact Ne.symm (by assumption) | omega) (by first | assumption | exact zget_eq | exact zget_ne (by first | assumption | exact Ne.symm (by assumption) | omega) (by first | assumption | exact zget_eq | exact zget_ne (by first | assumption | exact Ne.symm (by assumption) | omega) (by first | assumption | exact zget_eq)))) rfl ?_
  refine z_aload_n dX5_noteSign_19 rfl ?_
  refine z_getfield dX5_noteSign_20 fX5_18_6 rfl (by first | assumption | exact zget_eq | exact zget_ne (by first | assumption | exact Ne.symm (by assumption) | omega) (by first | assumption | exact zget_eq | exact zget_ne (by first | assumption | exact Ne.symm (by assumption) | omega) (by first | assumption | exact zget_eq | exact zget_ne (by first | assumption | exact Ne.symm (by assumption) | omega) (by first | assumption | exact zget_eq)))) rfl ?_
  refine z_aload_n dX5_noteSign_23 rfl ?_
  refine zcall1 (zck_V (na := 0) (ci := 8) (R' := rX8_foundIn) (M' := mX8_foundIn) (fun _ _ _ _ => tvX8_foundIn) (by decide) kX8_foundIn lX5_41 (by decide +kernel) rfl) dX5_noteSign_24 (Nat.le_of_ble_eq_true rfl) (Nat.le_of_ble_eq_true rfl) (Nat.le_of_ble_eq_true rfl) ?_
  refine ⟨_, _, _, rfl, (by first | assumption | exact zget_eq | exact zget_ne (by first | assumption | exact Ne.symm (by assumption) | omega) (by first | assumption | exact zget_eq | exact zget_ne (by first | assumption | exact Ne.symm (by assumption) | omega) (by first | assumption | exact zget_eq | exact zget_ne (by first | assumption | exact Ne.symm (by assumption) | omega) (by first | assumption | exact zget_eq)))), rfl, ?_⟩
  refine zcall3 (zck_SN (R' := rX10_put) (M' := mX10_put) (fun _ _ _ _ => tX10_put) kX10_put lX5_37 nX5_37 (by decide +kernel) rfl) dX5_noteSign_27 (Nat.le_of_ble_eq_true rfl) (Nat.le_of_ble_eq_true rfl) (Nat.le_of_ble_eq_true rfl) ?_
  refine ⟨_, _, _, _, _, rfl, c1, (by omega), fun h2 e2 o2 => ?_⟩
  rw [zpt_in hk3 (by omega)] at e2
  have k2 := (o2 a nac).trans k1
  have b2 := (o2 b nbc).trans b1
  refine z_aload_n dX5_noteSign_30 rfl ?_
  refine z_dup dX5_noteSign_31 rfl ?_
  refine z_getfield dX5_noteSign_32 fX5_25_6 rfl (by first | assumption | exact zget_eq | exact zget_ne (by first | assumption | exact Ne.symm (by assumption) | omega) (by first | assumption | exact zget_eq | exact zget_ne (by first | assumption | exact Ne.symm (by assumption) | omega) (by first | assumption | exact zget_eq | exact zget_ne (by first | assumption | exact Ne.symm (by assumption) | omega) (by first | assumption | exact zget_eq)))) rfl ?_
  refine z_aload_n dX5_noteSign_35 rfl ?_
  refine zcall1 (zck_V (na := 0) (ci := 8) (R' := rX8_escapes) (M' := mX8_escapes) (fun _ _ _ _ => tvX8_escapes) (by decide) kX8_escapes lX5_44 (by decide +kernel) rfl) dX5_noteSign_36 (Nat.le_of_ble_eq_true rfl) (Nat.le_of_ble_eq_true rfl) (Nat.le_of_ble_eq_true rfl) ?_
  refine ⟨_, _, _, rfl, (by first | assumption | exact zget_eq | exact zget_ne (by first | assumption | exact Ne.symm (by assumption) | omega) (by first | assumption | exact zget_eq | exact zget_ne (by first | assumption | exact Ne.symm (by assumption) | omega) (by first | assumption | exact zget_eq | exact zget_ne (by first | assumption | exact Ne.symm (by assumption) | omega) (by first | assumption | exact zget_eq)))), rfl, ?_⟩
  refine z_iadd dX5_noteSign_39 ?_
  refine z_putfield dX5_noteSign_40 fX5_25_6 rfl (fun q => absurd q (by decide)) (by first | assumption | exact zget_eq | exact zget_ne (by first | assumption | exact Ne.symm (by assumption) | omega) (by first | assumption | exact zget_eq | exact zget_ne (by first | assumption | exact Ne.symm (by assumption) | omega) (by first | assumption | exact zget_eq | exact zget_ne (by first | assumption | exact Ne.symm (by assumption) | omega) (by first | assumption | exact zget_eq)))) (Nat.le_of_ble_eq_true rfl) (Or.inl ⟨rfl, _, rfl⟩) ?_
  refine z_aload_n dX5_noteSign_43 rfl ?_
  refine z_dup dX5_noteSign_44 rfl ?_
  refine z_getfield dX5_noteSign_45 fX5_18_6 rfl (by first | assumption | exact zget_eq | exact zget_ne (by first | assumption | exact Ne.symm (by assumption) | omega) (by first | assumption | exact zget_eq | exact zget_ne (by first | assumption | exact Ne.symm (by assumption) | omega) (by first | assumption | exact zget_eq | exact zget_ne (by first | assumption | exact Ne.symm (by assumption) | omega) (by first | assumption | exact zget_eq)))) rfl ?_
  refine z_iconst (w := 1) dX5_noteSign_48 (by decide) ?_
  refine z_iadd dX5_noteSign_49 ?_
  refine z_putfield dX5_noteSign_50 fX5_18_6 rfl (fun q => absurd q (by decide)) (by first | assumption | exact zget_eq | exact zget_ne (by first | assumption | exact Ne.symm (by assumption) | omega) (by first | assumption | exact zget_eq | exact zget_ne (by first | assumption | exact Ne.symm (by assumption) | omega) (by first | assumption | exact zget_eq | exact zget_ne (by first | assumption | exact Ne.symm (by assumption) | omega) (by first | assumption | exact zget_eq)))) (Nat.le_of_ble_eq_true rfl) (Or.inl ⟨rfl, _, rfl⟩) ?_
  refine z_vreturn dX5_noteSign_53 rfl (Nat.le_of_ble_eq_true rfl) (Nat.le_of_ble_eq_true rfl) ?_
  exact hK _ (by rw [zget_eq]; simp [nI_1]) (by rw [zup_ne (Ne.symm nae), zup_ne (Ne.symm nae), o2 ae hec]; exact e1) (by rw [zup_ne (Ne.symm nac), zup_ne (Ne.symm nac)]; exact e2) (fun q z1 z2 z3 => by rw [zup_ne z1, zup_ne z1, o2 q z3, o1 q z2])
/-! how far a coder goes -/
theorem zset_w {lo hi g : Nat} (h : zset lo hi = some g) (hl : lo ≤ hi) (hh : hi < 65536) : hi - lo + 1 ≤ 32768 ∧ g ≤ lo ∧ 2 * (lo - g) ≤ 2 * (hi - g) + 1 ∧ 2 * (hi - g) + 1 < 65536 ∧ 2 * (hi - g) + 1 - 2 * (lo - g) + 1 = 2 * (hi - lo + 1) := by
  rcases zset_some h with ⟨rfl, b1⟩ | ⟨rfl, b1, b2⟩ | ⟨rfl, b1, b2, b3, b4⟩ <;> omega
theorem zset_none {lo hi : Nat} (h : zset lo hi = none) (hl : lo ≤ hi) : 16384 < hi - lo + 1 := by
  unfold zset at h
  split at h
  · cases h
  · split at h
    · cases h
    · split at h
      · cases h
      · omega
theorem zshift_p (e : zEs) (g : Nat) : (zshift e g).2.1 + (zshift e g).2.2.2.2 = e.2.1 + e.2.2.2.2 + 1 ∧ (zshift e g).2.2.1 = 2 * (e.2.2.1 - g) ∧ (zshift e g).2.2.2.1 = 2 * (e.2.2.2.1 - g) + 1 := by
  unfold zshift zlh
  split
  · exact ⟨by simp only; omega, rfl, rfl⟩
  · exact ⟨by simp only [zput1]; omega, rfl, rfl⟩
theorem zren_ok : ∀ (d j : Nat) (e : zEs), j ≤ d → e.2.2.1 ≤ e.2.2.2.1 → e.2.2.2.1 < 65536 → 32768 < (e.2.2.2.1 - e.2.2.1 + 1) * 2 ^ j → zset (zren d e).2.2.1 (zren d e).2.2.2.1 = none ∧ (zren d e).2.2.1 ≤ (zren d e).2.2.2.1 ∧ (zren d e).2.2.2.1 < 65536 ∧ (zren d e).2.1 + (zren d e).2.2.2.2 ≤ e.2.1 + e.2.2.2.2 + j := by
  intro d
  induction d with
  | zero =>
    intro j e hj hl hh hw
    have : j = 0 := by omega
    subst this
    refine ⟨?_, hl, hh, Nat.le_refl _⟩
    cases hs : zset e.2.2.1 e.2.2.2.1 with
    | none => exact hs
    | some g => have := (zset_w hs hl hh).1; simp at hw; omega
  | succ d ih =>
    intro j e hj hl hh hw
    cases hs : zset e.2.2.1 e.2.2.2.1 with
    | none => rw [zren_none hs]; exact ⟨hs, hl, hh, Nat.le_add_right _ _⟩
    | some g =>
      rw [zren_some hs]
      obtain ⟨b1, b2, b3, b4, b5⟩ := zset_w hs hl hh
      obtain ⟨p1, p2, p3⟩ := zshift_p e g
      cases j with
      | zero => simp at hw; omega
      | succ j =>
        have := ih j (zshift e g) (by omega) (by rw [p2, p3]; exact b3) (by rw [p3]; exact b4) (by rw [p2, p3, b5]; rw [Nat.pow_succ] at hw; rw [Nat.mul_comm 2 _, Nat.mul_assoc, Nat.mul_comm 2 _]; exact hw)
        refine ⟨this.1, this.2.1, this.2.2.1, ?_⟩
        have h4 := this.2.2.2
        omega
theorem znar_w {lo hi x y t : Nat} (h1 : lo ≤ hi) (h2 : 16384 < hi - lo + 1) (h3 : 0 < t) (h4 : t ≤ 556) (h7 : 0 < y) : (hi - lo + 1) * x / t + 29 ≤ (hi - lo + 1) * (x + y) / t := by
  rw [Nat.le_div_iff_mul_le h3]
  have a1 : (hi - lo + 1) * x / t * t ≤ (hi - lo + 1) * x := Nat.div_mul_le_self _ _
  have a2 : 16385 * 1 ≤ (hi - lo + 1) * y := Nat.mul_le_mul (by omega) h7
  rw [Nat.add_mul, Nat.mul_add]
  have a3 : 29 * t ≤ 16385 := by omega
  omega
/-- a coder that is settled -/
def zEok (e : zEs) : Prop := e.2.2.1 ≤ e.2.2.2.1 ∧ e.2.2.2.1 < 65536 ∧ 16384 < e.2.2.2.1 - e.2.2.1 + 1
theorem ztake_ok {e : zEs} {x y t : Nat} (he : zEok e) (h3 : 0 < t) (h4 : t ≤ 556) (h6 : x + y ≤ t) (h7 : 0 < y) : zEok (ztake e x y t) ∧ (ztake e x y t).2.1 + (ztake e x y t).2.2.2.2 ≤ e.2.1 + e.2.2.2.2 + 11 := by
  obtain ⟨f, p, lo, hi, held⟩ := e
  obtain ⟨h1, h2, h5⟩ := he
  dsimp only at h1 h2 h5
  obtain ⟨z1, z2, z3, z4⟩ := znar_ok h1 h2 h3 (by omega) (by omega) h6 h7
  have z5 := znar_w (x := x) (y := y) h1 h5 h3 h4 h7
  have hr := zren_ok 16 11 (znar (f, p, lo, hi, held) x y t) (by omega) (by
    simp only [znar]
    revert z1 z2 z5
    generalize (hi - lo + 1) * x / t = A
    generalize (hi - lo + 1) * (x + y) / t = B
    intro z1 z2 z5
    omega) (by
    simp only [znar]
    revert z1 z2 z5
    generalize (hi - lo + 1) * x / t = A
    generalize (hi - lo + 1) * (x + y) / t = B
    intro z1 z2 z5
    omega) (by
    simp only [znar]
    revert z1 z2 z5
    generalize (hi - lo + 1) * x / t = A
    generalize (hi - lo + 1) * (x + y) / t = B
    intro z1 z2 z5
    have : 29 ≤ lo + B - 1 - (lo + A) + 1 := by omega
    have := Nat.mul_le_mul_right (2 ^ 11) this
    omega)
  exact ⟨⟨hr.2.1, hr.2.2.1, zset_none hr.1 hr.2.1⟩, hr.2.2.2⟩

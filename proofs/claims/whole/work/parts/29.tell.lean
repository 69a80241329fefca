/-! Teller.tell for the three speakers -/
def zkI (c : Nat) : Int32 := if c = 0 then -1 else nI (c - 1)
abbrev rX8_tell_3 : Room := ⟨4, 0, 0, 160⟩
def SX8_tell_3 (G : zC) : zS := fun as h n K => ∃ (a k kb kc mk R ex0 es0 : Nat) (f0 : Int32) (E0 : Nat → Bool) (L0 : List (Nat × Nat)) (m : zAm) (o rm : Nat) (T : zTree) (ch : Nat → List Nat) (lm : Nat) (lat ctx : Nat → Nat) (sa x : Nat) (s0 : Int32), as = [.ref a, .ref m.1, .ref sa] ∧ zTel G h a k mk R E0 ex0 es0 f0 ∧ zCho G h k kb kc L0 ∧ mk ≠ kb ∧ mk ≠ kc ∧ zMod G h m o rm T ch lm lat ctx ∧ zSb T ch ∧ (∀ q, zaw m q → q ≠ k ∧ q ≠ kb ∧ q ≠ kc ∧ q ≠ mk ∧ q ≠ a ∧ q ≠ sa) ∧ (∀ j, j ≤ lm → ctx j < T.1) ∧ R < 1000000000 ∧ h sa = some (zO 3 [.int (nI x), .int s0]) ∧ x ≤ 256 ∧ ∀ h' y, zTl (zSyM x) T.2.2.1 T.2.2.2 ch ctx (lm + 1) (fun _ => false) 0 0 s0 y → zTel G h' a k mk (R + 1) y.2.1 y.2.2.1 y.2.2.2.1 (zfi y.2.2.2.2.2) → h' sa = some (zO 3 [.int (nI x), .int y.1]) → (∃ L, zCho G h' k kb kc L) → (∀ q, q ≠ a → q ≠ k → q ≠ kb → q ≠ kc → q ≠ mk → q ≠ sa → h' q = h q) → K (some (.int (nI y.2.2.2.2.1))) h' n
set_option maxRecDepth 100000 in
set_option maxHeartbeats 2000000 in
theorem tvX8_tell_3 {G : zC} {as : List Value} {h : zH} {n : Nat} {K : zP} (hs : SX8_tell_3 G as h n K) : (∃ b fs r, as = .ref b :: r ∧ h b = some (.inr (8, fs))) ∧ zCt G rX8_tell_3 mX8_tell as h n K := by
  obtain ⟨a, k, kb, kc, mk, R, ex0, es0, f0, E0, L0, ⟨am, ap, ab, ac, af, ax, al, at9⟩, o, rm, T, ch, lm, lat, ctx, sa, x, s0, rfl, hT, hL0, hd1, hd2, hM, hSb, hdis, hctx, hR, hSp, hx, hK⟩ := hs
  have hk := hT.1
  refine ⟨⟨_, _, _, rfl, hk⟩, zCt.of (by decide) (Nat.le_of_ble_eq_true rfl) ?_⟩
  obtain ⟨na1, na2, na3⟩ := hL0.obj hk (by decide)
  have hmk := hT.2.2.2.choose_spec.1
  have nmk := hL0.arr hmk
  have nam : a ≠ mk := fun q => by rw [q, hmk] at hk; simp at hk
  have hN := hM.nums
  have hobj := hM.obj
  dsimp only at hobj
  obtain ⟨ns1, ns2, ns3⟩ := hL0.obj hSp (by decide)
  have nsa : sa ≠ a := fun q => by rw [q, hk] at hSp; simp at hSp
  have nsm : sa ≠ mk := fun q => by rw [q, hmk] at hSp; simp at hSp
  have loop : ∀ (c : Nat) (E : Nat → Bool) (ex es : Nat) (s1 : Int32) (fi : Int32) (h1 : zH), c ≤ lm + 1 → (∀ y, zTl (zSyM x) T.2.2.1 T.2.2.2 ch ctx c E ex es s1 y → zTl (zSyM x) T.2.2.1 T.2.2.2 ch ctx (lm + 1) (fun _ => false) 0 0 s0 y) → zTel G h1 a k mk (R + 1) E ex es fi → (∃ L, zCho G h1 k kb kc L) → h1 sa = some (zO 3 [.int (nI x), .int s1]) → True → ex + 256 * c ≤ 256 * (lm + 1) → (∀ q, q ≠ a → q ≠ k → q ≠ kb → q ≠ kc → q ≠ mk → q ≠ sa → h1 q = h q) → zZ (zXm G rX8_tell_3 mX8_tell [.ref a, .ref am, .ref sa] h n K) 25 [(0, .ref a), (1, .ref am), (2, .ref sa), (3, .int (zkI c))] [] h1 n 0 0 := by
    intro c
    induction c with
    | zero =>
      intro E ex es s1 fi h1 hcl hy hT1 hC1 hS1 hI1 hex ho
      obtain ⟨L1, hC1⟩ := hC1
      have hk1 := hT1.1
      have hfl := zflat_ok (hT1.2.2.1 256 (Nat.le_refl _))
      have hTf : zTel G (va_up h1 a (some (zO 8 [.ref k, .ref mk, .int (nI (R + 1)), .int (nI ex), .int (nI es), .int (-1)]))) a k mk (R + 1) E ex es (-1) := ⟨zget_eq, hT1.2.1, hT1.2.2.1, hT1.2.2.2.choose, by rw [zup_ne (Ne.symm nam)]; exact hT1.2.2.2.choose_spec.1, hT1.2.2.2.choose_spec.2⟩
      have hCf : zCho G (va_up h1 a (some (zO 8 [.ref k, .ref mk, .int (nI (R + 1)), .int (nI ex), .int (nI es), .int (-1)]))) k kb kc L1 := hC1.to (zup_ne na1) (zup_ne na2) (zup_ne na3)
      refine z_iload_n dX8_tell_25 rfl ?_
      refine z_if_lt (t := 115) dX8_tell_26 (by decide) (fun q26 => ?_) (fun q26 => ?_)
      · refine z_aload_n dX8_tell_115 rfl ?_
        refine z_iconst (w := -1) dX8_tell_116 (by decide) ?_
        refine z_putfield dX8_tell_117 fX8_29_8 rfl (fun q => absurd q (by decide)) (by first | assumption | exact zget_eq | exact zget_ne (by first | assumption | exact Ne.symm (by assumption) | omega) (by first | assumption | exact zget_eq | exact zget_ne (by first | assumption | exact Ne.symm (by assumption) | omega) (by first | assumption | exact zget_eq | exact zget_ne (by first | assumption | exact Ne.symm (by assumption) | omega) (by first | assumption | exact zget_eq)))) (Nat.le_of_ble_eq_true rfl) (Or.inl ⟨rfl, _, rfl⟩) ?_
        refine z_aload_n dX8_tell_120 rfl ?_
        refine zcall1 (zck_V (na := 0) (ci := 8) (R' := rX8_offerFlat) (M' := mX8_offerFlat) (fun _ _ _ _ => tvX8_offerFlat) (by decide) kX8_offerFlat lX8_65 (by decide +kernel) rfl) dX8_tell_121 (Nat.le_of_ble_eq_true rfl) (Nat.le_of_ble_eq_true rfl) (Nat.le_of_ble_eq_true rfl) ?_
        refine ⟨a, k, kb, kc, mk, R + 1, ex, es, -1, E, L1, rfl, hTf, hCf, Nat.succ_pos _, hd1, hd2, fun h2 hC2 o2 => ?_⟩
        have hT2 := hTf.to (o2 a (Ne.symm na1) (Ne.symm na2) (Ne.symm na3)) (o2 mk (Ne.symm nmk) hd1 hd2)
        have hk2 := hT2.1
        refine z_aload_n dX8_tell_124 rfl ?_
        refine z_aload_n dX8_tell_125 rfl ?_
        refine z_getfield dX8_tell_126 fX8_12_8 rfl (by first | assumption | exact zget_eq | exact zget_ne (by first | assumption | exact Ne.symm (by assumption) | omega) (by first | assumption | exact zget_eq | exact zget_ne (by first | assumption | exact Ne.symm (by assumption) | omega) (by first | assumption | exact zget_eq | exact zget_ne (by first | assumption | exact Ne.symm (by assumption) | omega) (by first | assumption | exact zget_eq)))) rfl ?_
        refine zcall2 (zck_U (na := 1) (ci := 3) (C := RX2) (owner := "PpmTrees$Speaker") (x := ⟨"PpmTrees$Speaker", "say", "(LPpmTrees$Choices;)I"⟩) (R' := rX7_say_3) (M' := mX7_say) (fun _ _ _ _ => tvX7_say_3) (by decide) kX7_say lUX8_56_3 (Or.inr rfl) (by decide +kernel) rfl) dX8_tell_129 (Nat.le_of_ble_eq_true rfl) (Nat.le_of_ble_eq_true rfl) (Nat.le_of_ble_eq_true rfl) ?_
        refine ⟨sa, k, kb, kc, x, s1, (zflat E 257 0), rfl, (by rw [o2 sa (Ne.symm ns1) (Ne.symm ns2) (Ne.symm ns3), zup_ne nsa]; exact hS1), hC2, hfl.1, (by omega), (fun i hi => by have := (hfl.2.2.1 i hi).1; omega), (by have := hfl.2.2.2.1; omega), fun i j h3 hpk hco e3 o3 => ?_⟩
        refine z_ireturn dX8_tell_132 trivial (Nat.le_of_ble_eq_true rfl) (Nat.le_of_ble_eq_true rfl) ?_
        have hL9 : ∃ L9, L9 = zflat E 257 0 := ⟨_, rfl⟩
        obtain ⟨L9, hL9⟩ := hL9
        rw [← hL9] at hpk hco hC2 ⊢
        refine hK h3 (s1 + nI j, E, ex, es, zsg L9 i, none) (hy _ ?_) ?_ ?_ ⟨L9, hC2.to (o3 k ns1) (o3 kb ns2) (o3 kc ns3)⟩ (fun q z1 z2 z3 z4 z5 z6 => ?_)
        · subst hL9
          exact ⟨i, _, ⟨hpk, j, hco, rfl⟩, rfl⟩
        · exact hT2.to (o3 a (Ne.symm nsa)) (o3 mk (Ne.symm nsm))
        · exact e3
        · rw [o3 q z6, o2 q z2 z3 z4, zup_ne z1]; exact ho q z1 z2 z3 z4 z5 z6
      · exact absurd (by decide) q26
    | succ c ih =>
      intro E ex es s1 fi h1 hcl hy hT1 hC1 hS1 hI1 hex ho
      obtain ⟨L1, hC1⟩ := hC1
      have hk1 := hT1.1
      have hcn := hctx c (by omega)
      have hzk : zkI (c + 1) = nI c := by simp [zkI]
      have hM1 := hM.to (h' := h1) (fun q hq => by obtain ⟨e1, e2, e3, e4, e5, e6⟩ := hdis q hq; exact ho q e5 e1 e2 e3 e4 e6)
      obtain ⟨U1, hu1, hU1⟩ := hM1.con
      have hob1 := hM1.obj
      dsimp only at hu1 hob1
      rw [hzk]
      refine z_iload_n dX8_tell_25 rfl ?_
      refine z_if_lt (t := 115) dX8_tell_26 (by decide) (fun q26 => ?_) (fun q26 => ?_)
      · exact absurd q26 (nI_pos (by omega))
      · refine z_aload_n dX8_tell_29 rfl ?_
        refine z_aload_n dX8_tell_30 rfl ?_
        refine z_aload_n dX8_tell_31 rfl ?_
        refine z_iload_n dX8_tell_32 rfl ?_
        refine zcall2 (zck_V (na := 1) (ci := 4) (R' := rX3_context) (M' := mX3_context) (fun _ _ _ _ => tvX3_context) (by decide) kX3_context lX8_41 (by decide +kernel) rfl) dX8_tell_33 (Nat.le_of_ble_eq_true rfl) (Nat.le_of_ble_eq_true rfl) (Nat.le_of_ble_eq_true rfl) ?_
        refine ⟨_, _, _, _, _, _, rfl, hob1, rfl, hu1, (by omega), (by omega), ?_⟩
        rw [hU1 c (by omega)]
        refine zcall3 (zck_V (na := 2) (ci := 8) (R' := rX8_offerChildren) (M' := mX8_offerChildren) (fun _ _ _ _ => tvX8_offerChildren) (by decide) kX8_offerChildren lX8_45 (by decide +kernel) rfl) dX8_tell_36 (Nat.le_of_ble_eq_true rfl) (Nat.le_of_ble_eq_true rfl) (Nat.le_of_ble_eq_true rfl) ?_
        refine ⟨a, k, kb, kc, mk, R + 1, ex, es, fi, E, L1, _, _, _, _, _, _, _, _, _, rfl, hT1, hC1, Nat.succ_pos _, hd1, hd2, hM1, (fun q hq => ⟨(hdis q hq).1, (hdis q hq).2.1, (hdis q hq).2.2.1⟩), hcn, fun h2 hC2 o2 => ?_⟩
        have hT2 := hT1.to (o2 a (Ne.symm na1) (Ne.symm na2) (Ne.symm na3)) (o2 mk (Ne.symm nmk) hd1 hd2)
        have hk2 := hT2.1
        refine z_aload_n dX8_tell_39 rfl ?_
        refine z_getfield dX8_tell_40 fX8_12_8 rfl (by first | assumption | exact zget_eq | exact zget_ne (by first | assumption | exact Ne.symm (by assumption) | omega) (by first | assumption | exact zget_eq | exact zget_ne (by first | assumption | exact Ne.symm (by assumption) | omega) (by first | assumption | exact zget_eq | exact zget_ne (by first | assumption | exact Ne.symm (by assumption) | omega) (by first | assumption | exact zget_eq)))) rfl ?_
        refine zcall1 (zck_V (na := 0) (ci := 2) (R' := rX0_many) (M' := mX0_many) (fun _ _ _ _ => tvX0_many) (by decide) kX0_many lX8_49 (by decide +kernel) rfl) dX8_tell_43 (Nat.le_of_ble_eq_true rfl) (Nat.le_of_ble_eq_true rfl) (Nat.le_of_ble_eq_true rfl) ?_
        refine ⟨_, _, _, _, rfl, hC2, ?_⟩
        by_cases hz : zoff T.2.2.1 T.2.2.2 E (ch (ctx c)) = []
        · rw [show (zoff T.2.2.1 T.2.2.2 E (ch (ctx c))).length = 0 by rw [hz]; rfl]
          refine z_if_ne (t := 52) dX8_tell_46 (by decide) (fun q46 => ?_) (fun q46 => ?_)
          · exact absurd nI_0 q46
          · refine z_goto (t := 109) dX8_tell_49 (by decide) ?_
            refine z_iinc dX8_tell_109 rfl (Nat.le_of_ble_eq_true rfl) ?_
            rw [show nI c + Int32.ofInt (-1) = zkI c by unfold zkI; split; (rename_i e; subst e; decide); exact sb_m1 (by omega)]
            refine z_goto (t := 25) dX8_tell_112 (by decide) ?_
            refine zZ.keep [0, 1, 2, 3] ?_
            exact ih E ex es s1 fi h2 (by omega) (fun y hq => hy y (Or.inl ⟨hz, hq⟩)) hT2 ⟨_, hC2⟩ ((o2 sa (Ne.symm ns1) (Ne.symm ns2) (Ne.symm ns3)).trans hS1) trivial (by omega) (fun q z1 z2 z3 z4 z5 z6 => by rw [o2 q z2 z3 z4]; exact ho q z1 z2 z3 z4 z5 z6)
        · obtain ⟨hfl, hlow, hl257⟩ := zoff_ok hN.1 hSb hcn E hz
          refine z_if_ne (t := 52) dX8_tell_46 (by decide) (fun q46 => ?_) (fun q46 => ?_)
          · refine z_aload_n dX8_tell_52 rfl ?_
            refine z_getfield dX8_tell_53 fX8_12_8 rfl (by first | assumption | exact zget_eq | exact zget_ne (by first | assumption | exact Ne.symm (by assumption) | omega) (by first | assumption | exact zget_eq | exact zget_ne (by first | assumption | exact Ne.symm (by assumption) | omega) (by first | assumption | exact zget_eq | exact zget_ne (by first | assumption | exact Ne.symm (by assumption) | omega) (by first | assumption | exact zget_eq)))) rfl ?_
            refine z_sipush (w := 257) dX8_tell_56 (by decide) ?_
            refine z_aload_n dX8_tell_59 rfl ?_
            refine z_getfield dX8_tell_60 fX8_12_8 rfl (by first | assumption | exact zget_eq | exact zget_ne (by first | assumption | exact Ne.symm (by assumption) | omega) (by first | assumption | exact zget_eq | exact zget_ne (by first | assumption | exact Ne.symm (by assumption) | omega) (by first | assumption | exact zget_eq | exact zget_ne (by first | assumption | exact Ne.symm (by assumption) | omega) (by first | assumption | exact zget_eq)))) rfl ?_
            refine zcall1 (zck_V (na := 0) (ci := 2) (R' := rX0_many) (M' := mX0_many) (fun _ _ _ _ => tvX0_many) (by decide) kX0_many lX8_49 (by decide +kernel) rfl) dX8_tell_63 (Nat.le_of_ble_eq_true rfl) (Nat.le_of_ble_eq_true rfl) (Nat.le_of_ble_eq_true rfl) ?_
            refine ⟨_, _, _, _, rfl, hC2, ?_⟩
            refine zcall3 (zck_V (na := 2) (ci := 2) (R' := rX0_offer) (M' := mX0_offer) (fun _ _ _ _ => tvX0_offer) (by decide) kX0_offer lX8_52 (by decide +kernel) rfl) dX8_tell_66 (Nat.le_of_ble_eq_true rfl) (Nat.le_of_ble_eq_true rfl) (Nat.le_of_ble_eq_true rfl) ?_
            refine ⟨k, kb, kc, zoff T.2.2.1 T.2.2.2 E (ch (ctx c)), 257, (zoff T.2.2.1 T.2.2.2 E (ch (ctx c))).length, rfl, hC2, (by omega), fun h4 hC4 o4 => ?_⟩
            have o24 : ∀ q, q ≠ k → q ≠ kb → q ≠ kc → h4 q = h1 q := fun q z2 z3 z4 => (o4 q z2 z3 z4).trans (o2 q z2 z3 z4)
            have hT4 := hT1.to (o24 a (Ne.symm na1) (Ne.symm na2) (Ne.symm na3)) (o24 mk (Ne.symm nmk) hd1 hd2)
            have hk4 := hT4.1
            refine z_aload_n dX8_tell_69 rfl ?_
            refine z_aload_n dX8_tell_70 rfl ?_
            refine z_getfield dX8_tell_71 fX8_12_8 rfl (by first | assumption | exact zget_eq | exact zget_ne (by first | assumption | exact Ne.symm (by assumption) | omega) (by first | assumption | exact zget_eq | exact zget_ne (by first | assumption | exact Ne.symm (by assumption) | omega) (by first | assumption | exact zget_eq | exact zget_ne (by first | assumption | exact Ne.symm (by assumption) | omega) (by first | assumption | exact zget_eq)))) rfl ?_
            refine zcall2 (zck_U (na := 1) (ci := 3) (C := RX2) (owner := "PpmTrees$Speaker") (x := ⟨"PpmTrees$Speaker", "say", "(LPpmTrees$Choices;)I"⟩) (R' := rX7_say_3) (M' := mX7_say) (fun _ _ _ _ => tvX7_say_3) (by decide) kX7_say lUX8_56_3 (Or.inr rfl) (by decide +kernel) rfl) dX8_tell_74 (Nat.le_of_ble_eq_true rfl) (Nat.le_of_ble_eq_true rfl) (Nat.le_of_ble_eq_true rfl) ?_
            refine ⟨sa, k, kb, kc, x, s1, (zoff T.2.2.1 T.2.2.2 E (ch (ctx c)) ++ [(257, (zoff T.2.2.1 T.2.2.2 E (ch (ctx c))).length)]), rfl, ((o24 sa (Ne.symm ns1) (Ne.symm ns2) (Ne.symm ns3)).trans hS1), hC4, hfl.1, (by omega), (fun i hi => by have := (hfl.2.2.1 i hi).1; omega), (by have := hfl.2.2.2.1; omega), fun i j h3 hpk hco e3 o3 => ?_⟩
            have hL9 : ∃ L9, L9 = zoff T.2.2.1 T.2.2.2 E (ch (ctx c)) ++ [(257, (zoff T.2.2.1 T.2.2.2 E (ch (ctx c))).length)] := ⟨_, rfl⟩
            obtain ⟨L9, hL9⟩ := hL9
            rw [← hL9] at hpk hco hC4 hfl hlow ⊢
            have hi9 : i < L9.length := hpk.1
            have hsi : zsg L9 i ≤ 257 := (hfl.2.2.1 i hi9).1
            have hT5 := hT4.to (o3 a (Ne.symm nsa)) (o3 mk (Ne.symm nsm))
            have hk5 := hT5.1
            have hC5 := hC4.to (o3 k ns1) (o3 kb ns2) (o3 kc ns3)
            refine z_istore dX8_tell_77 (Nat.le_of_ble_eq_true rfl) ?_
            refine z_iload dX8_tell_79 rfl ?_
            refine z_sipush (w := 257) dX8_tell_81 (by decide) ?_
            refine z_icmp_eq (t := 95) dX8_tell_84 (by decide) (fun q84 => ?_) (fun q84 => ?_)
            · have q84b : zsg L9 i = 257 := (nI_eq (a := zsg L9 i) (b := 257) (by omega) (by omega)).mp q84
              refine z_aload_n dX8_tell_95 rfl ?_
              refine z_dup dX8_tell_96 rfl ?_
              refine z_getfield dX8_tell_97 fX8_26_8 rfl (by first | assumption | exact zget_eq | exact zget_ne (by first | assumption | exact Ne.symm (by assumption) | omega) (by first | assumption | exact zget_eq | exact zget_ne (by first | assumption | exact Ne.symm (by assumption) | omega) (by first | assumption | exact zget_eq | exact zget_ne (by first | assumption | exact Ne.symm (by assumption) | omega) (by first | assumption | exact zget_eq)))) rfl ?_
              refine z_iconst (w := 1) dX8_tell_100 (by decide) ?_
              refine z_iadd dX8_tell_101 ?_
              refine z_putfield dX8_tell_102 fX8_26_8 rfl (fun q => absurd q (by decide)) (by first | assumption | exact zget_eq | exact zget_ne (by first | assumption | exact Ne.symm (by assumption) | omega) (by first | assumption | exact zget_eq | exact zget_ne (by first | assumption | exact Ne.symm (by assumption) | omega) (by first | assumption | exact zget_eq | exact zget_ne (by first | assumption | exact Ne.symm (by assumption) | omega) (by first | assumption | exact zget_eq)))) (Nat.le_of_ble_eq_true rfl) (Or.inl ⟨rfl, _, rfl⟩) ?_
              refine z_aload_n dX8_tell_105 rfl ?_
              refine zcall1 (zck_V (na := 0) (ci := 8) (R' := rX8_excludeOffered) (M' := mX8_excludeOffered) (fun _ _ _ _ => tvX8_excludeOffered) (by decide) kX8_excludeOffered lX8_62 (by decide +kernel) rfl) dX8_tell_106 (Nat.le_of_ble_eq_true rfl) (Nat.le_of_ble_eq_true rfl) (Nat.le_of_ble_eq_true rfl) ?_
              have hT6 : zTel G (va_up h3 a (some (zO 8 [.ref k, .ref mk, .int (nI (R + 1)), .int (nI ex), .int (nI es + 1), .int fi]))) a k mk (R + 1) E ex (es + 1) fi := ⟨by rw [zget_eq, nI_1], hT5.2.1, hT5.2.2.1, hT5.2.2.2.choose, by rw [zup_ne (Ne.symm nam)]; exact hT5.2.2.2.choose_spec.1, hT5.2.2.2.choose_spec.2⟩
              have hC6 : zCho G (va_up h3 a (some (zO 8 [.ref k, .ref mk, .int (nI (R + 1)), .int (nI ex), .int (nI es + 1), .int fi]))) k kb kc L9 := hC5.to (zup_ne na1) (zup_ne na2) (zup_ne na3)
              have hl9 : L9.length - 1 = (zoff T.2.2.1 T.2.2.2 E (ch (ctx c))).length := by rw [hL9]; simp
              refine ⟨a, k, kb, kc, mk, R + 1, ex, es + 1, fi, E, L9, rfl, hT6, hC6, hfl.1, (fun j hj => hlow j (by omega)), hd1, hd2, (by omega), fun h7 hT7 o7 => ?_⟩
              rw [hl9] at hT7
              refine z_iinc dX8_tell_109 rfl (Nat.le_of_ble_eq_true rfl) ?_
              rw [show nI c + Int32.ofInt (-1) = zkI c by unfold zkI; split; (rename_i e; subst e; decide); exact sb_m1 (by omega)]
              refine z_goto (t := 25) dX8_tell_112 (by decide) ?_
              refine zZ.keep [0, 1, 2, 3] ?_
              refine ih _ _ _ (s1 + nI j) fi h7 (by omega) (fun y hq => hy y (Or.inr ⟨hz, i, _, ?_, Or.inr ⟨?_, hq⟩⟩)) ?_ ⟨L9, hC6.to (o7 k na1 nmk) (o7 kb na2 (Ne.symm hd1)) (o7 kc na3 (Ne.symm hd2))⟩ (by rw [o7 sa nsa nsm, zup_ne nsa]; exact e3) trivial (by omega) (fun q z1 z2 z3 z4 z5 z6 => ?_)
              · subst hL9; exact ⟨hpk, j, hco, rfl⟩
              · subst hL9; exact q84b
              · rw [hL9] at hT7; exact hT7
              · rw [o7 q z1 z5, zup_ne z1, o3 q z6, o24 q z2 z3 z4]; exact ho q z1 z2 z3 z4 z5 z6
            · have q84b : zsg L9 i ≠ 257 := fun z => q84 (by rw [z]; rfl)
              refine z_aload_n dX8_tell_87 rfl ?_
              refine z_iload_n dX8_tell_88 rfl ?_
              refine z_putfield dX8_tell_89 fX8_29_8 rfl (fun q => absurd q (by decide)) (by first | assumption | exact zget_eq | exact zget_ne (by first | assumption | exact Ne.symm (by assumption) | omega) (by first | assumption | exact zget_eq | exact zget_ne (by first | assumption | exact Ne.symm (by assumption) | omega) (by first | assumption | exact zget_eq | exact zget_ne (by first | assumption | exact Ne.symm (by assumption) | omega) (by first | assumption | exact zget_eq)))) (Nat.le_of_ble_eq_true rfl) (Or.inl ⟨rfl, _, rfl⟩) ?_
              refine z_iload dX8_tell_92 rfl ?_
              refine z_ireturn dX8_tell_94 trivial (Nat.le_of_ble_eq_true rfl) (Nat.le_of_ble_eq_true rfl) ?_
              refine hK _ (s1 + nI j, E, ex, es, zsg L9 i, some c) (hy _ (Or.inr ⟨hz, i, s1 + nI j, ?_, Or.inl ⟨?_, by subst hL9; rfl⟩⟩)) ⟨zget_eq, hT5.2.1, hT5.2.2.1, hT5.2.2.2.choose, by rw [zup_ne (Ne.symm nam)]; exact hT5.2.2.2.choose_spec.1, hT5.2.2.2.choose_spec.2⟩ ?_ ⟨L9, hC5.to (zup_ne na1) (zup_ne na2) (zup_ne na3)⟩ (fun q z1 z2 z3 z4 z5 z6 => ?_)
              · subst hL9; exact ⟨hpk, j, hco, rfl⟩
              · subst hL9; exact q84b
              · rw [zup_ne nsa]; exact e3
              · rw [zup_ne z1, o3 q z6, o24 q z2 z3 z4]; exact ho q z1 z2 z3 z4 z5 z6
          · exact absurd q46 (nI_ne0 (List.length_pos_iff.mpr hz) (by omega))
  obtain ⟨hk0, hR0, hE0', M, hm0, hv0, hM0⟩ := hT
  have hna : ∀ q, zaw (am, ap, ab, ac, af, ax, al, at9) q → q ≠ a := fun q hq => (hdis q hq).2.2.2.2.1
  refine z_aload_n dX8_tell_0 rfl ?_
  refine z_dup dX8_tell_1 rfl ?_
  refine z_getfield dX8_tell_2 fX8_32_8 rfl (by first | assumption | exact zget_eq | exact zget_ne (by first | assumption | exact Ne.symm (by assumption) | omega) (by first | assumption | exact zget_eq | exact zget_ne (by first | assumption | exact Ne.symm (by assumption) | omega) (by first | assumption | exact zget_eq | exact zget_ne (by first | assumption | exact Ne.symm (by assumption) | omega) (by first | assumption | exact zget_eq)))) rfl ?_
  refine z_iconst (w := 1) dX8_tell_5 (by decide) ?_
  refine z_iadd dX8_tell_6 ?_
  refine z_putfield dX8_tell_7 fX8_32_8 rfl (fun q => absurd q (by decide)) (by first | assumption | exact zget_eq | exact zget_ne (by first | assumption | exact Ne.symm (by assumption) | omega) (by first | assumption | exact zget_eq | exact zget_ne (by first | assumption | exact Ne.symm (by assumption) | omega) (by first | assumption | exact zget_eq | exact zget_ne (by first | assumption | exact Ne.symm (by assumption) | omega) (by first | assumption | exact zget_eq)))) (Nat.le_of_ble_eq_true rfl) (Or.inl ⟨rfl, _, rfl⟩) ?_
  refine z_aload_n dX8_tell_10 rfl ?_
  refine z_iconst (w := 0) dX8_tell_11 (by decide) ?_
  refine z_putfield dX8_tell_12 fX8_22_8 rfl (fun q => absurd q (by decide)) (by first | assumption | exact zget_eq | exact zget_ne (by first | assumption | exact Ne.symm (by assumption) | omega) (by first | assumption | exact zget_eq | exact zget_ne (by first | assumption | exact Ne.symm (by assumption) | omega) (by first | assumption | exact zget_eq | exact zget_ne (by first | assumption | exact Ne.symm (by assumption) | omega) (by first | assumption | exact zget_eq)))) (Nat.le_of_ble_eq_true rfl) (Or.inl ⟨rfl, _, rfl⟩) ?_
  refine z_aload_n dX8_tell_15 rfl ?_
  refine z_iconst (w := 0) dX8_tell_16 (by decide) ?_
  refine z_putfield dX8_tell_17 fX8_26_8 rfl (fun q => absurd q (by decide)) (by first | assumption | exact zget_eq | exact zget_ne (by first | assumption | exact Ne.symm (by assumption) | omega) (by first | assumption | exact zget_eq | exact zget_ne (by first | assumption | exact Ne.symm (by assumption) | omega) (by first | assumption | exact zget_eq | exact zget_ne (by first | assumption | exact Ne.symm (by assumption) | omega) (by first | assumption | exact zget_eq)))) (Nat.le_of_ble_eq_true rfl) (Or.inl ⟨rfl, _, rfl⟩) ?_
  refine z_aload_n dX8_tell_20 rfl ?_
  refine zcall1 (zck_V (na := 0) (ci := 4) (R' := rX3_latestMany) (M' := mX3_latestMany) (fun _ _ _ _ => tvX3_latestMany) (by decide) kX3_latestMany lX8_35 (by decide +kernel) rfl) dX8_tell_21 (Nat.le_of_ble_eq_true rfl) (Nat.le_of_ble_eq_true rfl) (Nat.le_of_ble_eq_true rfl) ?_
  refine ⟨_, _, _, rfl, (by rw [zup_ne (hna am (by simp [zaw])), zup_ne (hna am (by simp [zaw])), zup_ne (hna am (by simp [zaw]))]; exact hobj), rfl, ?_⟩
  refine z_istore_n dX8_tell_24 (Nat.le_of_ble_eq_true rfl) ?_
  rw [show nI lm = zkI (lm + 1) by simp [zkI]]
  refine loop (lm + 1) (fun _ => false) 0 0 s0 f0 _ (Nat.le_refl _) (fun y hq => hq) ⟨?_, (by omega), fun s _ => rfl, M, ?_, fun s hs => ?_, fun s hs => ?_⟩ ⟨L0, hL0.to ?_ ?_ ?_⟩ (by rw [zup_ne nsa, zup_ne nsa, zup_ne nsa]; exact hSp) trivial (by omega) (fun q z1 z2 z3 z4 z5 z6 => ?_)
  · rw [zget_eq]; simp [nI_1, nI_0]
  · rw [zup_ne (Ne.symm nam), zup_ne (Ne.symm nam), zup_ne (Ne.symm nam)]; exact hm0
  · obtain ⟨u, g1, g2⟩ := hv0 s hs
    exact ⟨u, by omega, g2⟩
  · obtain ⟨u, g1, g2⟩ := hv0 s hs
    rw [g2, nI_eq (by omega) (by omega)]
    exact ⟨fun z => by simp at z, fun z => by omega⟩
  · rw [zup_ne na1, zup_ne na1, zup_ne na1]
  · rw [zup_ne na2, zup_ne na2, zup_ne na2]
  · rw [zup_ne na3, zup_ne na3, zup_ne na3]
  · rw [zup_ne z1, zup_ne z1, zup_ne z1]
abbrev rX8_tell_9 : Room := ⟨4, 0, 0, 160⟩
def SX8_tell_9 (G : zC) : zS := fun as h n K => ∃ (a k kb kc mk R ex0 es0 : Nat) (f0 : Int32) (E0 : Nat → Bool) (L0 : List (Nat × Nat)) (m : zAm) (o rm : Nat) (T : zTree) (ch : Nat → List Nat) (lm : Nat) (lat ctx : Nat → Nat) (sa w r x : Nat) (s0 : zEs), as = [.ref a, .ref m.1, .ref sa] ∧ zTel G h a k mk R E0 ex0 es0 f0 ∧ zCho G h k kb kc L0 ∧ mk ≠ kb ∧ mk ≠ kc ∧ zMod G h m o rm T ch lm lat ctx ∧ zSb T ch ∧ (∀ q, zaw m q → q ≠ k ∧ q ≠ kb ∧ q ≠ kc ∧ q ≠ mk ∧ q ≠ a ∧ q ≠ sa ∧ q ≠ w ∧ q ≠ r) ∧ (∀ j, j ≤ lm → ctx j < T.1) ∧ R < 1000000000 ∧ zCd G h 9 sa w r [.int (nI x)] s0 ∧ x ≤ 256 ∧ kb ≠ r ∧ kc ≠ r ∧ mk ≠ r ∧ zEok s0 ∧ s0.2.1 + s0.2.2.2.2 + 11 * (lm + 1) + 16 ≤ 19872 ∧ ∀ h' y, zTl (zSyW x) T.2.2.1 T.2.2.2 ch ctx (lm + 1) (fun _ => false) 0 0 s0 y → zTel G h' a k mk (R + 1) y.2.1 y.2.2.1 y.2.2.2.1 (zfi y.2.2.2.2.2) → zCd G h' 9 sa w r [.int (nI x)] y.1 → (∃ L, zCho G h' k kb kc L) → (∀ q, q ≠ a → q ≠ k → q ≠ kb → q ≠ kc → q ≠ mk → q ≠ sa → q ≠ w → q ≠ r → h' q = h q) → K (some (.int (nI y.2.2.2.2.1))) h' n
set_option maxRecDepth 100000 in
set_option maxHeartbeats 2000000 in
theorem tvX8_tell_9 {G : zC} {as : List Value} {h : zH} {n : Nat} {K : zP} (hs : SX8_tell_9 G as h n K) : (∃ b fs r, as = .ref b :: r ∧ h b = some (.inr (8, fs))) ∧ zCt G rX8_tell_9 mX8_tell as h n K := by
  obtain ⟨a, k, kb, kc, mk, R, ex0, es0, f0, E0, L0, ⟨am, ap, ab, ac, af, ax, al, at9⟩, o, rm, T, ch, lm, lat, ctx, sa, w, r, x, s0, rfl, hT, hL0, hd1, hd2, hM, hSb, hdis, hctx, hR, hSp, hx, hbr, hcr, hmr, hE0, hcap0, hK⟩ := hs
  have hk := hT.1
  refine ⟨⟨_, _, _, rfl, hk⟩, zCt.of (by decide) (Nat.le_of_ble_eq_true rfl) ?_⟩
  obtain ⟨na1, na2, na3⟩ := hL0.obj hk (by decide)
  have hmk := hT.2.2.2.choose_spec.1
  have nmk := hL0.arr hmk
  have nam : a ≠ mk := fun q => by rw [q, hmk] at hk; simp at hk
  have hN := hM.nums
  have hobj := hM.obj
  dsimp only at hobj
  have hSk := hSp.1
  have hSw := hSp.2.1
  have hSr := hSp.2.2
  obtain ⟨nsw, nsr, nwr⟩ := hSp.ne (by decide)
  obtain ⟨ns1, ns2, ns3⟩ := hL0.obj hSk (by decide)
  obtain ⟨nw1, nw2, nw3⟩ := hL0.obj hSw (by decide)
  have nr1 := hL0.arr hSr
  have nsa : sa ≠ a := fun q => by rw [q, hk] at hSk; simp at hSk
  have nsm : sa ≠ mk := fun q => by rw [q, hmk] at hSk; simp at hSk
  have nwa : w ≠ a := fun q => by rw [q, hk] at hSw; simp at hSw
  have nwm : w ≠ mk := fun q => by rw [q, hmk] at hSw; simp at hSw
  have nra : r ≠ a := fun q => by rw [q, hk] at hSr; simp at hSr
  have loop : ∀ (c : Nat) (E : Nat → Bool) (ex es : Nat) (s1 : zEs) (fi : Int32) (h1 : zH), c ≤ lm + 1 → (∀ y, zTl (zSyW x) T.2.2.1 T.2.2.2 ch ctx c E ex es s1 y → zTl (zSyW x) T.2.2.1 T.2.2.2 ch ctx (lm + 1) (fun _ => false) 0 0 s0 y) → zTel G h1 a k mk (R + 1) E ex es fi → (∃ L, zCho G h1 k kb kc L) → zCd G h1 9 sa w r [.int (nI x)] s1 → zEok s1 ∧ s1.2.1 + s1.2.2.2.2 + 11 * c + 16 ≤ 19872 → ex + 256 * c ≤ 256 * (lm + 1) → (∀ q, q ≠ a → q ≠ k → q ≠ kb → q ≠ kc → q ≠ mk → q ≠ sa → q ≠ w → q ≠ r → h1 q = h q) → zZ (zXm G rX8_tell_9 mX8_tell [.ref a, .ref am, .ref sa] h n K) 25 [(0, .ref a), (1, .ref am), (2, .ref sa), (3, .int (zkI c))] [] h1 n 0 0 := by
    intro c
    induction c with
    | zero =>
      intro E ex es s1 fi h1 hcl hy hT1 hC1 hS1 hI1 hex ho
      obtain ⟨L1, hC1⟩ := hC1
      have hk1 := hT1.1
      have hfl := zflat_ok (hT1.2.2.1 256 (Nat.le_refl _))
      have hTf : zTel G (va_up h1 a (some (zO 8 [.ref k, .ref mk, .int (nI (R + 1)), .int (nI ex), .int (nI es), .int (-1)]))) a k mk (R + 1) E ex es (-1) := ⟨zget_eq, hT1.2.1, hT1.2.2.1, hT1.2.2.2.choose, by rw [zup_ne (Ne.symm nam)]; exact hT1.2.2.2.choose_spec.1, hT1.2.2.2.choose_spec.2⟩
      have hCf : zCho G (va_up h1 a (some (zO 8 [.ref k, .ref mk, .int (nI (R + 1)), .int (nI ex), .int (nI es), .int (-1)]))) k kb kc L1 := hC1.to (zup_ne na1) (zup_ne na2) (zup_ne na3)
      refine z_iload_n dX8_tell_25 rfl ?_
      refine z_if_lt (t := 115) dX8_tell_26 (by decide) (fun q26 => ?_) (fun q26 => ?_)
      · refine z_aload_n dX8_tell_115 rfl ?_
        refine z_iconst (w := -1) dX8_tell_116 (by decide) ?_
        refine z_putfield dX8_tell_117 fX8_29_8 rfl (fun q => absurd q (by decide)) (by first | assumption | exact zget_eq | exact zget_ne (by first | assumption | exact Ne.symm (by assumption) | omega) (by first | assumption | exact zget_eq | exact zget_ne (by first | assumption | exact Ne.symm (by assumption) | omega) (by first | assumption | exact zget_eq | exact zget_ne (by first | assumption | exact Ne.symm (by assumption) | omega) (by first | assumption | exact zget_eq)))) (Nat.le_of_ble_eq_true rfl) (Or.inl ⟨rfl, _, rfl⟩) ?_
        refine z_aload_n dX8_tell_120 rfl ?_
        refine zcall1 (zck_V (na := 0) (ci := 8) (R' := rX8_offerFlat) (M' := mX8_offerFlat) (fun _ _ _ _ => tvX8_offerFlat) (by decide) kX8_offerFlat lX8_65 (by decide +kernel) rfl) dX8_tell_121 (Nat.le_of_ble_eq_true rfl) (Nat.le_of_ble_eq_true rfl) (Nat.le_of_ble_eq_true rfl) ?_
        refine ⟨a, k, kb, kc, mk, R + 1, ex, es, -1, E, L1, rfl, hTf, hCf, Nat.succ_pos _, hd1, hd2, fun h2 hC2 o2 => ?_⟩
        have hT2 := hTf.to (o2 a (Ne.symm na1) (Ne.symm na2) (Ne.symm na3)) (o2 mk (Ne.symm nmk) hd1 hd2)
        have hk2 := hT2.1
        refine z_aload_n dX8_tell_124 rfl ?_
        refine z_aload_n dX8_tell_125 rfl ?_
        refine z_getfield dX8_tell_126 fX8_12_8 rfl (by first | assumption | exact zget_eq | exact zget_ne (by first | assumption | exact Ne.symm (by assumption) | omega) (by first | assumption | exact zget_eq | exact zget_ne (by first | assumption | exact Ne.symm (by assumption) | omega) (by first | assumption | exact zget_eq | exact zget_ne (by first | assumption | exact Ne.symm (by assumption) | omega) (by first | assumption | exact zget_eq)))) rfl ?_
        refine zcall2 (zck_U (na := 1) (ci := 9) (C := RX9) (owner := "PpmTrees$Speaker") (x := ⟨"PpmTrees$Speaker", "say", "(LPpmTrees$Choices;)I"⟩) (R' := rX7_say_9) (M' := mX7_say) (fun _ _ _ _ => tvX7_say_9) (by decide) kX7_say lUX8_56_9 (Or.inr rfl) (by decide +kernel) rfl) dX8_tell_129 (Nat.le_of_ble_eq_true rfl) (Nat.le_of_ble_eq_true rfl) (Nat.le_of_ble_eq_true rfl) ?_
        refine ⟨sa, w, r, k, kb, kc, x, (zflat E 257 0), s1, rfl, ⟨by rw [o2 sa (Ne.symm ns1) (Ne.symm ns2) (Ne.symm ns3), zup_ne nsa]; exact hS1.1, by rw [o2 w (Ne.symm nw1) (Ne.symm nw2) (Ne.symm nw3), zup_ne nwa]; exact hS1.2.1, by rw [o2 r (Ne.symm nr1) (Ne.symm hbr) (Ne.symm hcr), zup_ne nra]; exact hS1.2.2⟩, (by omega), hC2, hbr, hcr, hfl.1, (fun i hi => ⟨by have := (hfl.2.2.1 i hi).1; omega, (hfl.2.2.1 i hi).2⟩), (by have := hfl.2.2.2.1; omega), (by have := hfl.2.2.2.1; have := hI1.1.2.2; omega), hI1.1.1, hI1.1.2.1, (by have := hI1.2; omega), fun i h3 hpk e3 o3 => ?_⟩
        refine z_ireturn dX8_tell_132 trivial (Nat.le_of_ble_eq_true rfl) (Nat.le_of_ble_eq_true rfl) ?_
        have hL9 : ∃ L9, L9 = zflat E 257 0 := ⟨_, rfl⟩
        obtain ⟨L9, hL9⟩ := hL9
        rw [← hL9] at hpk e3 hC2 ⊢
        refine hK h3 (ztake s1 (zps L9 i) (zln L9 i) (zps L9 L9.length), E, ex, es, zsg L9 i, none) (hy _ ?_) ?_ ?_ ⟨L9, hC2.to (o3 k ns1 nw1 nr1) (o3 kb ns2 nw2 hbr) (o3 kc ns3 nw3 hcr)⟩ (fun q z1 z2 z3 z4 z5 z6 z7 z8 => ?_)
        · subst hL9
          exact ⟨i, _, ⟨hpk, rfl⟩, rfl⟩
        · exact hT2.to (o3 a (Ne.symm nsa) (Ne.symm nwa) (Ne.symm nra)) (o3 mk (Ne.symm nsm) (Ne.symm nwm) hmr)
        · exact e3
        · rw [o3 q z6 z7 z8, o2 q z2 z3 z4, zup_ne z1]; exact ho q z1 z2 z3 z4 z5 z6 z7 z8
      · exact absurd (by decide) q26
    | succ c ih =>
      intro E ex es s1 fi h1 hcl hy hT1 hC1 hS1 hI1 hex ho
      obtain ⟨L1, hC1⟩ := hC1
      have hk1 := hT1.1
      have hcn := hctx c (by omega)
      have hzk : zkI (c + 1) = nI c := by simp [zkI]
      have hM1 := hM.to (h' := h1) (fun q hq => by obtain ⟨e1, e2, e3, e4, e5, e6, e7, e8⟩ := hdis q hq; exact ho q e5 e1 e2 e3 e4 e6 e7 e8)
      obtain ⟨U1, hu1, hU1⟩ := hM1.con
      have hob1 := hM1.obj
      dsimp only at hu1 hob1
      rw [hzk]
      refine z_iload_n dX8_tell_25 rfl ?_
      refine z_if_lt (t := 115) dX8_tell_26 (by decide) (fun q26 => ?_) (fun q26 => ?_)
      · exact absurd q26 (nI_pos (by omega))
      · refine z_aload_n dX8_tell_29 rfl ?_
        refine z_aload_n dX8_tell_30 rfl ?_
        refine z_aload_n dX8_tell_31 rfl ?_
        refine z_iload_n dX8_tell_32 rfl ?_
        refine zcall2 (zck_V (na := 1) (ci := 4) (R' := rX3_context) (M' := mX3_context) (fun _ _ _ _ => tvX3_context) (by decide) kX3_context lX8_41 (by decide +kernel) rfl) dX8_tell_33 (Nat.le_of_ble_eq_true rfl) (Nat.le_of_ble_eq_true rfl) (Nat.le_of_ble_eq_true rfl) ?_
        refine ⟨_, _, _, _, _, _, rfl, hob1, rfl, hu1, (by omega), (by omega), ?_⟩
        rw [hU1 c (by omega)]
        refine zcall3 (zck_V (na := 2) (ci := 8) (R' := rX8_offerChildren) (M' := mX8_offerChildren) (fun _ _ _ _ => tvX8_offerChildren) (by decide) kX8_offerChildren lX8_45 (by decide +kernel) rfl) dX8_tell_36 (Nat.le_of_ble_eq_true rfl) (Nat.le_of_ble_eq_true rfl) (Nat.le_of_ble_eq_true rfl) ?_
        refine ⟨a, k, kb, kc, mk, R + 1, ex, es, fi, E, L1, _, _, _, _, _, _, _, _, _, rfl, hT1, hC1, Nat.succ_pos _, hd1, hd2, hM1, (fun q hq => ⟨(hdis q hq).1, (hdis q hq).2.1, (hdis q hq).2.2.1⟩), hcn, fun h2 hC2 o2 => ?_⟩
        have hT2 := hT1.to (o2 a (Ne.symm na1) (Ne.symm na2) (Ne.symm na3)) (o2 mk (Ne.symm nmk) hd1 hd2)
        have hk2 := hT2.1
        refine z_aload_n dX8_tell_39 rfl ?_
        refine z_getfield dX8_tell_40 fX8_12_8 rfl (by first | assumption | exact zget_eq | exact zget_ne (by first | assumption | exact Ne.symm (by assumption) | omega) (by first | assumption | exact zget_eq | exact zget_ne (by first | assumption | exact Ne.symm (by assumption) | omega) (by first | assumption | exact zget_eq | exact zget_ne (by first | assumption | exact Ne.symm (by assumption) | omega) (by first | assumption | exact zget_eq)))) rfl ?_
        refine zcall1 (zck_V (na := 0) (ci := 2) (R' := rX0_many) (M' := mX0_many) (fun _ _ _ _ => tvX0_many) (by decide) kX0_many lX8_49 (by decide +kernel) rfl) dX8_tell_43 (Nat.le_of_ble_eq_true rfl) (Nat.le_of_ble_eq_true rfl) (Nat.le_of_ble_eq_true rfl) ?_
        refine ⟨_, _, _, _, rfl, hC2, ?_⟩
        by_cases hz : zoff T.2.2.1 T.2.2.2 E (ch (ctx c)) = []
        · rw [show (zoff T.2.2.1 T.2.2.2 E (ch (ctx c))).length = 0 by rw [hz]; rfl]
          refine z_if_ne (t := 52) dX8_tell_46 (by decide) (fun q46 => ?_) (fun q46 => ?_)
          · exact absurd nI_0 q46
          · refine z_goto (t := 109) dX8_tell_49 (by decide) ?_
            refine z_iinc dX8_tell_109 rfl (Nat.le_of_ble_eq_true rfl) ?_
            rw [show nI c + Int32.ofInt (-1) = zkI c by unfold zkI; split; (rename_i e; subst e; decide); exact sb_m1 (by omega)]
            refine z_goto (t := 25) dX8_tell_112 (by decide) ?_
            refine zZ.keep [0, 1, 2, 3] ?_
            exact ih E ex es s1 fi h2 (by omega) (fun y hq => hy y (Or.inl ⟨hz, hq⟩)) hT2 ⟨_, hC2⟩ ⟨(o2 sa (Ne.symm ns1) (Ne.symm ns2) (Ne.symm ns3)).trans hS1.1, (o2 w (Ne.symm nw1) (Ne.symm nw2) (Ne.symm nw3)).trans hS1.2.1, (o2 r (Ne.symm nr1) (Ne.symm hbr) (Ne.symm hcr)).trans hS1.2.2⟩ ⟨hI1.1, by have := hI1.2; omega⟩ (by omega) (fun q z1 z2 z3 z4 z5 z6 z7 z8 => by rw [o2 q z2 z3 z4]; exact ho q z1 z2 z3 z4 z5 z6 z7 z8)
        · obtain ⟨hfl, hlow, hl257⟩ := zoff_ok hN.1 hSb hcn E hz
          refine z_if_ne (t := 52) dX8_tell_46 (by decide) (fun q46 => ?_) (fun q46 => ?_)
          · refine z_aload_n dX8_tell_52 rfl ?_
            refine z_getfield dX8_tell_53 fX8_12_8 rfl (by first | assumption | exact zget_eq | exact zget_ne (by first | assumption | exact Ne.symm (by assumption) | omega) (by first | assumption | exact zget_eq | exact zget_ne (by first | assumption | exact Ne.symm (by assumption) | omega) (by first | assumption | exact zget_eq | exact zget_ne (by first | assumption | exact Ne.symm (by assumption) | omega) (by first | assumption | exact zget_eq)))) rfl ?_
            refine z_sipush (w := 257) dX8_tell_56 (by decide) ?_
            refine z_aload_n dX8_tell_59 rfl ?_
            refine z_getfield dX8_tell_60 fX8_12_8 rfl (by first | assumption | exact zget_eq | exact zget_ne (by first | assumption | exact Ne.symm (by assumption) | omega) (by first | assumption | exact zget_eq | exact zget_ne (by first | assumption | exact Ne.symm (by assumption) | omega) (by first | assumption | exact zget_eq | exact zget_ne (by first | assumption | exact Ne.symm (by assumption) | omega) (by first | assumption | exact zget_eq)))) rfl ?_
            refine zcall1 (zck_V (na := 0) (ci := 2) (R' := rX0_many) (M' := mX0_many) (fun _ _ _ _ => tvX0_many) (by decide) kX0_many lX8_49 (by decide +kernel) rfl) dX8_tell_63 (Nat.le_of_ble_eq_true rfl) (Nat.le_of_ble_eq_true rfl) (Nat.le_of_ble_eq_true rfl) ?_
            refine ⟨_, _, _, _, rfl, hC2, ?_⟩
            refine zcall3 (zck_V (na := 2) (ci := 2) (R' := rX0_offer) (M' := mX0_offer) (fun _ _ _ _ => tvX0_offer) (by decide) kX0_offer lX8_52 (by decide +kernel) rfl) dX8_tell_66 (Nat.le_of_ble_eq_true rfl) (Nat.le_of_ble_eq_true rfl) (Nat.le_of_ble_eq_true rfl) ?_
            refine ⟨k, kb, kc, zoff T.2.2.1 T.2.2.2 E (ch (ctx c)), 257, (zoff T.2.2.1 T.2.2.2 E (ch (ctx c))).length, rfl, hC2, (by omega), fun h4 hC4 o4 => ?_⟩
            have o24 : ∀ q, q ≠ k → q ≠ kb → q ≠ kc → h4 q = h1 q := fun q z2 z3 z4 => (o4 q z2 z3 z4).trans (o2 q z2 z3 z4)
            have hT4 := hT1.to (o24 a (Ne.symm na1) (Ne.symm na2) (Ne.symm na3)) (o24 mk (Ne.symm nmk) hd1 hd2)
            have hk4 := hT4.1
            refine z_aload_n dX8_tell_69 rfl ?_
            refine z_aload_n dX8_tell_70 rfl ?_
            refine z_getfield dX8_tell_71 fX8_12_8 rfl (by first | assumption | exact zget_eq | exact zget_ne (by first | assumption | exact Ne.symm (by assumption) | omega) (by first | assumption | exact zget_eq | exact zget_ne (by first | assumption | exact Ne.symm (by assumption) | omega) (by first | assumption | exact zget_eq | exact zget_ne (by first | assumption | exact Ne.symm (by assumption) | omega) (by first | assumption | exact zget_eq)))) rfl ?_
            refine zcall2 (zck_U (na := 1) (ci := 9) (C := RX9) (owner := "PpmTrees$Speaker") (x := ⟨"PpmTrees$Speaker", "say", "(LPpmTrees$Choices;)I"⟩) (R' := rX7_say_9) (M' := mX7_say) (fun _ _ _ _ => tvX7_say_9) (by decide) kX7_say lUX8_56_9 (Or.inr rfl) (by decide +kernel) rfl) dX8_tell_74 (Nat.le_of_ble_eq_true rfl) (Nat.le_of_ble_eq_true rfl) (Nat.le_of_ble_eq_true rfl) ?_
            refine ⟨sa, w, r, k, kb, kc, x, (zoff T.2.2.1 T.2.2.2 E (ch (ctx c)) ++ [(257, (zoff T.2.2.1 T.2.2.2 E (ch (ctx c))).length)]), s1, rfl, ⟨(o24 sa (Ne.symm ns1) (Ne.symm ns2) (Ne.symm ns3)).trans hS1.1, (o24 w (Ne.symm nw1) (Ne.symm nw2) (Ne.symm nw3)).trans hS1.2.1, (o24 r (Ne.symm nr1) (Ne.symm hbr) (Ne.symm hcr)).trans hS1.2.2⟩, (by omega), hC4, hbr, hcr, hfl.1, (fun i hi => ⟨by have := (hfl.2.2.1 i hi).1; omega, (hfl.2.2.1 i hi).2⟩), (by have := hfl.2.2.2.1; omega), (by have := hfl.2.2.2.1; have := hI1.1.2.2; omega), hI1.1.1, hI1.1.2.1, (by have := hI1.2; omega), fun i h3 hpk e3 o3 => ?_⟩
            have hL9 : ∃ L9, L9 = zoff T.2.2.1 T.2.2.2 E (ch (ctx c)) ++ [(257, (zoff T.2.2.1 T.2.2.2 E (ch (ctx c))).length)] := ⟨_, rfl⟩
            obtain ⟨L9, hL9⟩ := hL9
            rw [← hL9] at hpk e3 hC4 hfl hlow ⊢
            have hi9 : i < L9.length := hpk.1
            have hsi : zsg L9 i ≤ 257 := (hfl.2.2.1 i hi9).1
            have hT5 := hT4.to (o3 a (Ne.symm nsa) (Ne.symm nwa) (Ne.symm nra)) (o3 mk (Ne.symm nsm) (Ne.symm nwm) hmr)
            have hk5 := hT5.1
            have hC5 := hC4.to (o3 k ns1 nw1 nr1) (o3 kb ns2 nw2 hbr) (o3 kc ns3 nw3 hcr)
            obtain ⟨hE5, hE6⟩ := ztake_ok (e := s1) (x := zps L9 i) (y := zln L9 i) (t := zps L9 L9.length) hI1.1 hfl.2.2.2.2 hfl.2.2.2.1 (zln_le hi9) (hfl.2.2.1 i hi9).2
            refine z_istore dX8_tell_77 (Nat.le_of_ble_eq_true rfl) ?_
            refine z_iload dX8_tell_79 rfl ?_
            refine z_sipush (w := 257) dX8_tell_81 (by decide) ?_
            refine z_icmp_eq (t := 95) dX8_tell_84 (by decide) (fun q84 => ?_) (fun q84 => ?_)
            · have q84b : zsg L9 i = 257 := (nI_eq (a := zsg L9 i) (b := 257) (by omega) (by omega)).mp q84
              refine z_aload_n dX8_tell_95 rfl ?_
              refine z_dup dX8_tell_96 rfl ?_
              refine z_getfield dX8_tell_97 fX8_26_8 rfl (by first | assumption | exact zget_eq | exact zget_ne (by first | assumption | exact Ne.symm (by assumption) | omega) (by first | assumption | exact zget_eq | exact zget_ne (by first | assumption | exact Ne.symm (by assumption) | omega) (by first | assumption | exact zget_eq | exact zget_ne (by first | assumption | exact Ne.symm (by assumption) | omega) (by first | assumption | exact zget_eq)))) rfl ?_
              refine z_iconst (w := 1) dX8_tell_100 (by decide) ?_
              refine z_iadd dX8_tell_101 ?_
              refine z_putfield dX8_tell_102 fX8_26_8 rfl (fun q => absurd q (by decide)) (by first | assumption | exact zget_eq | exact zget_ne (by first | assumption | exact Ne.symm (by assumption) | omega) (by first | assumption | exact zget_eq | exact zget_ne (by first | assumption | exact Ne.symm (by assumption) | omega) (by first | assumption | exact zget_eq | exact zget_ne (by first | assumption | exact Ne.symm (by assumption) | omega) (by first | assumption | exact zget_eq)))) (Nat.le_of_ble_eq_true rfl) (Or.inl ⟨rfl, _, rfl⟩) ?_
              refine z_aload_n dX8_tell_105 rfl ?_
              refine zcall1 (zck_V (na := 0) (ci := 8) (R' := rX8_excludeOffered) (M' := mX8_excludeOffered) (fun _ _ _ _ => tvX8_excludeOffered) (by decide) kX8_excludeOffered lX8_62 (by decide +kernel) rfl) dX8_tell_106 (Nat.le_of_ble_eq_true rfl) (Nat.le_of_ble_eq_true rfl) (Nat.le_of_ble_eq_true rfl) ?_
              have hT6 : zTel G (va_up h3 a (some (zO 8 [.ref k, .ref mk, .int (nI (R + 1)), .int (nI ex), .int (nI es + 1), .int fi]))) a k mk (R + 1) E ex (es + 1) fi := ⟨by rw [zget_eq, nI_1], hT5.2.1, hT5.2.2.1, hT5.2.2.2.choose, by rw [zup_ne (Ne.symm nam)]; exact hT5.2.2.2.choose_spec.1, hT5.2.2.2.choose_spec.2⟩
              have hC6 : zCho G (va_up h3 a (some (zO 8 [.ref k, .ref mk, .int (nI (R + 1)), .int (nI ex), .int (nI es + 1), .int fi]))) k kb kc L9 := hC5.to (zup_ne na1) (zup_ne na2) (zup_ne na3)
              have hl9 : L9.length - 1 = (zoff T.2.2.1 T.2.2.2 E (ch (ctx c))).length := by rw [hL9]; simp
              refine ⟨a, k, kb, kc, mk, R + 1, ex, es + 1, fi, E, L9, rfl, hT6, hC6, hfl.1, (fun j hj => hlow j (by omega)), hd1, hd2, (by omega), fun h7 hT7 o7 => ?_⟩
              rw [hl9] at hT7
              refine z_iinc dX8_tell_109 rfl (Nat.le_of_ble_eq_true rfl) ?_
              rw [show nI c + Int32.ofInt (-1) = zkI c by unfold zkI; split; (rename_i e; subst e; decide); exact sb_m1 (by omega)]
              refine z_goto (t := 25) dX8_tell_112 (by decide) ?_
              refine zZ.keep [0, 1, 2, 3] ?_
              refine ih _ _ _ (ztake s1 (zps L9 i) (zln L9 i) (zps L9 L9.length)) fi h7 (by omega) (fun y hq => hy y (Or.inr ⟨hz, i, _, ?_, Or.inr ⟨?_, hq⟩⟩)) ?_ ⟨L9, hC6.to (o7 k na1 nmk) (o7 kb na2 (Ne.symm hd1)) (o7 kc na3 (Ne.symm hd2))⟩ ⟨by rw [o7 sa nsa nsm, zup_ne nsa]; exact e3.1, by rw [o7 w nwa nwm, zup_ne nwa]; exact e3.2.1, by rw [o7 r nra (Ne.symm hmr), zup_ne nra]; exact e3.2.2⟩ ⟨hE5, by have := hI1.2; omega⟩ (by omega) (fun q z1 z2 z3 z4 z5 z6 z7 z8 => ?_)
              · subst hL9; exact ⟨hpk, rfl⟩
              · subst hL9; exact q84b
              · rw [hL9] at hT7; exact hT7
              · rw [o7 q z1 z5, zup_ne z1, o3 q z6 z7 z8, o24 q z2 z3 z4]; exact ho q z1 z2 z3 z4 z5 z6 z7 z8
            · have q84b : zsg L9 i ≠ 257 := fun z => q84 (by rw [z]; rfl)
              refine z_aload_n dX8_tell_87 rfl ?_
              refine z_iload_n dX8_tell_88 rfl ?_
              refine z_putfield dX8_tell_89 fX8_29_8 rfl (fun q => absurd q (by decide)) (by first | assumption | exact zget_eq | exact zget_ne (by first | assumption | exact Ne.symm (by assumption) | omega) (by first | assumption | exact zget_eq | exact zget_ne (by first | assumption | exact Ne.symm (by assumption) | omega) (by first | assumption | exact zget_eq | exact zget_ne (by first | assumption | exact Ne.symm (by assumption) | omega) (by first | assumption | exact zget_eq)))) (Nat.le_of_ble_eq_true rfl) (Or.inl ⟨rfl, _, rfl⟩) ?_
              refine z_iload dX8_tell_92 rfl ?_
              refine z_ireturn dX8_tell_94 trivial (Nat.le_of_ble_eq_true rfl) (Nat.le_of_ble_eq_true rfl) ?_
              refine hK _ (ztake s1 (zps L9 i) (zln L9 i) (zps L9 L9.length), E, ex, es, zsg L9 i, some c) (hy _ (Or.inr ⟨hz, i, ztake s1 (zps L9 i) (zln L9 i) (zps L9 L9.length), ?_, Or.inl ⟨?_, by subst hL9; rfl⟩⟩)) ⟨zget_eq, hT5.2.1, hT5.2.2.1, hT5.2.2.2.choose, by rw [zup_ne (Ne.symm nam)]; exact hT5.2.2.2.choose_spec.1, hT5.2.2.2.choose_spec.2⟩ ?_ ⟨L9, hC5.to (zup_ne na1) (zup_ne na2) (zup_ne na3)⟩ (fun q z1 z2 z3 z4 z5 z6 z7 z8 => ?_)
              · subst hL9; exact ⟨hpk, rfl⟩
              · subst hL9; exact q84b
              · exact ⟨by rw [zup_ne nsa]; exact e3.1, by rw [zup_ne nwa]; exact e3.2.1, by rw [zup_ne nra]; exact e3.2.2⟩
              · rw [zup_ne z1, o3 q z6 z7 z8, o24 q z2 z3 z4]; exact ho q z1 z2 z3 z4 z5 z6 z7 z8
          · exact absurd q46 (nI_ne0 (List.length_pos_iff.mpr hz) (by omega))
  obtain ⟨hk0, hR0, hE0', M, hm0, hv0, hM0⟩ := hT
  have hna : ∀ q, zaw (am, ap, ab, ac, af, ax, al, at9) q → q ≠ a := fun q hq => (hdis q hq).2.2.2.2.1
  refine z_aload_n dX8_tell_0 rfl ?_
  refine z_dup dX8_tell_1 rfl ?_
  refine z_getfield dX8_tell_2 fX8_32_8 rfl (by first | assumption | exact zget_eq | exact zget_ne (by first | assumption | exact Ne.symm (by assumption) | omega) (by first | assumption | exact zget_eq | exact zget_ne (by first | assumption | exact Ne.symm (by assumption) | omega) (by first | assumption | exact zget_eq | exact zget_ne (by first | assumption | exact Ne.symm (by assumption) | omega) (by first | assumption | exact zget_eq)))) rfl ?_
  refine z_iconst (w := 1) dX8_tell_5 (by decide) ?_
  refine z_iadd dX8_tell_6 ?_
  refine z_putfield dX8_tell_7 fX8_32_8 rfl (fun q => absurd q (by decide)) (by first | assumption | exact zget_eq | exact zget_ne (by first | assumption | exact Ne.symm (by assumption) | omega) (by first | assumption | exact zget_eq | exact zget_ne (by first | assumption | exact Ne.symm (by assumption) | omega) (by first | assumption | exact zget_eq | exact zget_ne (by first | assumption | exact Ne.symm (by assumption) | omega) (by first | assumption | exact zget_eq)))) (Nat.le_of_ble_eq_true rfl) (Or.inl ⟨rfl, _, rfl⟩) ?_
  refine z_aload_n dX8_tell_10 rfl ?_
  refine z_iconst (w := 0) dX8_tell_11 (by decide) ?_
  refine z_putfield dX8_tell_12 fX8_22_8 rfl (fun q => absurd q (by decide)) (by first | assumption | exact zget_eq | exact zget_ne (by first | assumption | exact Ne.symm (by assumption) | omega) (by first | assumption | exact zget_eq | exact zget_ne (by first | assumption | exact Ne.symm (by assumption) | omega) (by first | assumption | exact zget_eq | exact zget_ne (by first | assumption | exact Ne.symm (by assumption) | omega) (by first | assumption | exact zget_eq)))) (Nat.le_of_ble_eq_true rfl) (Or.inl ⟨rfl, _, rfl⟩) ?_
  refine z_aload_n dX8_tell_15 rfl ?_
  refine z_iconst (w := 0) dX8_tell_16 (by decide) ?_
  refine z_putfield dX8_tell_17 fX8_26_8 rfl (fun q => absurd q (by decide)) (by first | assumption | exact zget_eq | exact zget_ne (by first | assumption | exact Ne.symm (by assumption) | omega) (by first | assumption | exact zget_eq | exact zget_ne (by first | assumption | exact Ne.symm (by assumption) | omega) (by first | assumption | exact zget_eq | exact zget_ne (by first | assumption | exact Ne.symm (by assumption) | omega) (by first | assumption | exact zget_eq)))) (Nat.le_of_ble_eq_true rfl) (Or.inl ⟨rfl, _, rfl⟩) ?_
  refine z_aload_n dX8_tell_20 rfl ?_
  refine zcall1 (zck_V (na := 0) (ci := 4) (R' := rX3_latestMany) (M' := mX3_latestMany) (fun _ _ _ _ => tvX3_latestMany) (by decide) kX3_latestMany lX8_35 (by decide +kernel) rfl) dX8_tell_21 (Nat.le_of_ble_eq_true rfl) (Nat.le_of_ble_eq_true rfl) (Nat.le_of_ble_eq_true rfl) ?_
  refine ⟨_, _, _, rfl, (by rw [zup_ne (hna am (by simp [zaw])), zup_ne (hna am (by simp [zaw])), zup_ne (hna am (by simp [zaw]))]; exact hobj), rfl, ?_⟩
  refine z_istore_n dX8_tell_24 (Nat.le_of_ble_eq_true rfl) ?_
  rw [show nI lm = zkI (lm + 1) by simp [zkI]]
  refine loop (lm + 1) (fun _ => false) 0 0 s0 f0 _ (Nat.le_refl _) (fun y hq => hq) ⟨?_, (by omega), fun s _ => rfl, M, ?_, fun s hs => ?_, fun s hs => ?_⟩ ⟨L0, hL0.to ?_ ?_ ?_⟩ ⟨by rw [zup_ne nsa, zup_ne nsa, zup_ne nsa]; exact hSp.1, by rw [zup_ne nwa, zup_ne nwa, zup_ne nwa]; exact hSp.2.1, by rw [zup_ne nra, zup_ne nra, zup_ne nra]; exact hSp.2.2⟩ ⟨hE0, hcap0⟩ (by omega) (fun q z1 z2 z3 z4 z5 z6 z7 z8 => ?_)
  · rw [zget_eq]; simp [nI_1, nI_0]
  · rw [zup_ne (Ne.symm nam), zup_ne (Ne.symm nam), zup_ne (Ne.symm nam)]; exact hm0
  · obtain ⟨u, g1, g2⟩ := hv0 s hs
    exact ⟨u, by omega, g2⟩
  · obtain ⟨u, g1, g2⟩ := hv0 s hs
    rw [g2, nI_eq (by omega) (by omega)]
    exact ⟨fun z => by simp at z, fun z => by omega⟩
  · rw [zup_ne na1, zup_ne na1, zup_ne na1]
  · rw [zup_ne na2, zup_ne na2, zup_ne na2]
  · rw [zup_ne na3, zup_ne na3, zup_ne na3]
  · rw [zup_ne z1, zup_ne z1, zup_ne z1]
abbrev rX8_tell_7 : Room := ⟨4, 0, 0, 160⟩
def SX8_tell_7 (G : zC) : zS := fun as h n K => ∃ (a k kb kc mk R ex0 es0 : Nat) (f0 : Int32) (E0 : Nat → Bool) (L0 : List (Nat × Nat)) (m : zAm) (o rm : Nat) (T : zTree) (ch : Nat → List Nat) (lm : Nat) (lat ctx : Nat → Nat) (sa w r s sr ms kk : Nat) (g : Nat → Int32) (s0 : zEs × Nat × Nat), as = [.ref a, .ref m.1, .ref sa] ∧ zTel G h a k mk R E0 ex0 es0 f0 ∧ zCho G h k kb kc L0 ∧ mk ≠ kb ∧ mk ≠ kc ∧ zMod G h m o rm T ch lm lat ctx ∧ zSb T ch ∧ (∀ q, zaw m q → q ≠ k ∧ q ≠ kb ∧ q ≠ kc ∧ q ≠ mk ∧ q ≠ a ∧ q ≠ sa ∧ q ≠ w ∧ q ≠ r) ∧ (∀ j, j ≤ lm → ctx j < T.1) ∧ R < 1000000000 ∧ zCd G h 7 sa w r [.ref s, .int (nI s0.2.1), .int (nI s0.2.2)] s0.1 ∧ kb ≠ r ∧ kc ≠ r ∧ mk ≠ r ∧ h s = some (zO 5 [.ref sr, .int (nI kk)]) ∧ h sr = some (zI G ms g) ∧ ms < 2147483648 ∧ kk ≤ ms ∧ s ≠ w ∧ sr ≠ r ∧ sr ≠ mk ∧ sr ≠ kb ∧ sr ≠ kc ∧ zEok s0.1 ∧ s0.1.2.1 + s0.1.2.2.2.2 + 11 * (lm + 1) + 16 ≤ 19872 ∧ s0.1.2.2.1 ≤ s0.2.1 ∧ s0.2.1 ≤ s0.1.2.2.2.1 ∧ s0.2.2 + 16 * (lm + 1) < 1000000 ∧ ∀ h' y, zTl (zSyR g kk) T.2.2.1 T.2.2.2 ch ctx (lm + 1) (fun _ => false) 0 0 s0 y → zTel G h' a k mk (R + 1) y.2.1 y.2.2.1 y.2.2.2.1 (zfi y.2.2.2.2.2) → zCd G h' 7 sa w r [.ref s, .int (nI y.1.2.1), .int (nI y.1.2.2)] y.1.1 → (∃ L, zCho G h' k kb kc L) → (∀ q, q ≠ a → q ≠ k → q ≠ kb → q ≠ kc → q ≠ mk → q ≠ sa → q ≠ w → q ≠ r → h' q = h q) → K (some (.int (nI y.2.2.2.2.1))) h' n
set_option maxRecDepth 100000 in
set_option maxHeartbeats 2000000 in
theorem tvX8_tell_7 {G : zC} {as : List Value} {h : zH} {n : Nat} {K : zP} (hs : SX8_tell_7 G as h n K) : (∃ b fs r, as = .ref b :: r ∧ h b = some (.inr (8, fs))) ∧ zCt G rX8_tell_7 mX8_tell as h n K := by
  obtain ⟨a, k, kb, kc, mk, R, ex0, es0, f0, E0, L0, ⟨am, ap, ab, ac, af, ax, al, at9⟩, o, rm, T, ch, lm, lat, ctx, sa, w, r, s, sr, ms, kk, g, s0, rfl, hT, hL0, hd1, hd2, hM, hSb, hdis, hctx, hR, hSp, hbr, hcr, hmr, hs1, hsr, hms, hkm, hsw, hsrr, hsm, hsb1, hsc, hE0, hcap0, hn1, hn2, htk, hK⟩ := hs
  have hk := hT.1
  refine ⟨⟨_, _, _, rfl, hk⟩, zCt.of (by decide) (Nat.le_of_ble_eq_true rfl) ?_⟩
  obtain ⟨na1, na2, na3⟩ := hL0.obj hk (by decide)
  have hmk := hT.2.2.2.choose_spec.1
  have nmk := hL0.arr hmk
  have nam : a ≠ mk := fun q => by rw [q, hmk] at hk; simp at hk
  have hN := hM.nums
  have hobj := hM.obj
  dsimp only at hobj
  have hSk := hSp.1
  have hSw := hSp.2.1
  have hSr := hSp.2.2
  obtain ⟨nsw, nsr, nwr⟩ := hSp.ne (by decide)
  obtain ⟨ns1, ns2, ns3⟩ := hL0.obj hSk (by decide)
  obtain ⟨nw1, nw2, nw3⟩ := hL0.obj hSw (by decide)
  have nr1 := hL0.arr hSr
  have nsa : sa ≠ a := fun q => by rw [q, hk] at hSk; simp at hSk
  have nsm : sa ≠ mk := fun q => by rw [q, hmk] at hSk; simp at hSk
  have nwa : w ≠ a := fun q => by rw [q, hk] at hSw; simp at hSw
  have nwm : w ≠ mk := fun q => by rw [q, hmk] at hSw; simp at hSw
  have nra : r ≠ a := fun q => by rw [q, hk] at hSr; simp at hSr
  have nca : s ≠ a := fun q => by rw [q, hk] at hs1; simp at hs1
  have ncm : s ≠ mk := fun q => by rw [q, hmk] at hs1; simp at hs1
  have ncs : s ≠ sa := fun q => by rw [q, hSk] at hs1; simp at hs1
  have ncr : s ≠ r := fun q => by rw [q, hSr] at hs1; simp at hs1
  obtain ⟨nc1, nc2, nc3⟩ := hL0.obj hs1 (by decide)
  have nda : sr ≠ a := fun q => by rw [q, hk] at hsr; simp at hsr
  have nds : sr ≠ sa := fun q => by rw [q, hSk] at hsr; simp at hsr
  have ndw : sr ≠ w := fun q => by rw [q, hSw] at hsr; simp at hsr
  have ndk := hL0.arr hsr
  have loop : ∀ (c : Nat) (E : Nat → Bool) (ex es : Nat) (s1 : (zEs × Nat × Nat)) (fi : Int32) (h1 : zH), c ≤ lm + 1 → (∀ y, zTl (zSyR g kk) T.2.2.1 T.2.2.2 ch ctx c E ex es s1 y → zTl (zSyR g kk) T.2.2.1 T.2.2.2 ch ctx (lm + 1) (fun _ => false) 0 0 s0 y) → zTel G h1 a k mk (R + 1) E ex es fi → (∃ L, zCho G h1 k kb kc L) → zCd G h1 7 sa w r [.ref s, .int (nI s1.2.1), .int (nI s1.2.2)] s1.1 → zEok s1.1 ∧ s1.1.2.1 + s1.1.2.2.2.2 + 11 * c + 16 ≤ 19872 ∧ s1.1.2.2.1 ≤ s1.2.1 ∧ s1.2.1 ≤ s1.1.2.2.2.1 ∧ s1.2.2 + 16 * c < 1000000 → ex + 256 * c ≤ 256 * (lm + 1) → (∀ q, q ≠ a → q ≠ k → q ≠ kb → q ≠ kc → q ≠ mk → q ≠ sa → q ≠ w → q ≠ r → h1 q = h q) → zZ (zXm G rX8_tell_7 mX8_tell [.ref a, .ref am, .ref sa] h n K) 25 [(0, .ref a), (1, .ref am), (2, .ref sa), (3, .int (zkI c))] [] h1 n 0 0 := by
    intro c
    induction c with
    | zero =>
      intro E ex es s1 fi h1 hcl hy hT1 hC1 hS1 hI1 hex ho
      obtain ⟨L1, hC1⟩ := hC1
      have hk1 := hT1.1
      have hfl := zflat_ok (hT1.2.2.1 256 (Nat.le_refl _))
      have hTf : zTel G (va_up h1 a (some (zO 8 [.ref k, .ref mk, .int (nI (R + 1)), .int (nI ex), .int (nI es), .int (-1)]))) a k mk (R + 1) E ex es (-1) := ⟨zget_eq, hT1.2.1, hT1.2.2.1, hT1.2.2.2.choose, by rw [zup_ne (Ne.symm nam)]; exact hT1.2.2.2.choose_spec.1, hT1.2.2.2.choose_spec.2⟩
      have hCf : zCho G (va_up h1 a (some (zO 8 [.ref k, .ref mk, .int (nI (R + 1)), .int (nI ex), .int (nI es), .int (-1)]))) k kb kc L1 := hC1.to (zup_ne na1) (zup_ne na2) (zup_ne na3)
      refine z_iload_n dX8_tell_25 rfl ?_
      refine z_if_lt (t := 115) dX8_tell_26 (by decide) (fun q26 => ?_) (fun q26 => ?_)
      · refine z_aload_n dX8_tell_115 rfl ?_
        refine z_iconst (w := -1) dX8_tell_116 (by decide) ?_
        refine z_putfield dX8_tell_117 fX8_29_8 rfl (fun q => absurd q (by decide)) (by first | assumption | exact zget_eq | exact zget_ne (by first | assumption | exact Ne.symm (by assumption) | omega) (by first | assumption | exact zget_eq | exact zget_ne (by first | assumption | exact Ne.symm (by assumption) | omega) (by first | assumption | exact zget_eq | exact zget_ne (by first | assumption | exact Ne.symm (by assumption) | omega) (by first | assumption | exact zget_eq)))) (Nat.le_of_ble_eq_true rfl) (Or.inl ⟨rfl, _, rfl⟩) ?_
        refine z_aload_n dX8_tell_120 rfl ?_
        refine zcall1 (zck_V (na := 0) (ci := 8) (R' := rX8_offerFlat) (M' := mX8_offerFlat) (fun _ _ _ _ => tvX8_offerFlat) (by decide) kX8_offerFlat lX8_65 (by decide +kernel) rfl) dX8_tell_121 (Nat.le_of_ble_eq_true rfl) (Nat.le_of_ble_eq_true rfl) (Nat.le_of_ble_eq_true rfl) ?_
        refine ⟨a, k, kb, kc, mk, R + 1, ex, es, -1, E, L1, rfl, hTf, hCf, Nat.succ_pos _, hd1, hd2, fun h2 hC2 o2 => ?_⟩
        have hT2 := hTf.to (o2 a (Ne.symm na1) (Ne.symm na2) (Ne.symm na3)) (o2 mk (Ne.symm nmk) hd1 hd2)
        have hk2 := hT2.1
        refine z_aload_n dX8_tell_124 rfl ?_
        refine z_aload_n dX8_tell_125 rfl ?_
        refine z_getfield dX8_tell_126 fX8_12_8 rfl (by first | assumption | exact zget_eq | exact zget_ne (by first | assumption | exact Ne.symm (by assumption) | omega) (by first | assumption | exact zget_eq | exact zget_ne (by first | assumption | exact Ne.symm (by assumption) | omega) (by first | assumption | exact zget_eq | exact zget_ne (by first | assumption | exact Ne.symm (by assumption) | omega) (by first | assumption | exact zget_eq)))) rfl ?_
        refine zcall2 (zck_U (na := 1) (ci := 7) (C := RX6) (owner := "PpmTrees$Speaker") (x := ⟨"PpmTrees$Speaker", "say", "(LPpmTrees$Choices;)I"⟩) (R' := rX7_say_7) (M' := mX7_say) (fun _ _ _ _ => tvX7_say_7) (by decide) kX7_say lUX8_56_7 (Or.inr rfl) (by decide +kernel) rfl) dX8_tell_129 (Nat.le_of_ble_eq_true rfl) (Nat.le_of_ble_eq_true rfl) (Nat.le_of_ble_eq_true rfl) ?_
        refine ⟨sa, w, r, k, kb, kc, s, sr, ms, kk, s1.2.1, s1.2.2, g, (zflat E 257 0), s1.1, rfl, ⟨by rw [o2 sa (Ne.symm ns1) (Ne.symm ns2) (Ne.symm ns3), zup_ne nsa]; exact hS1.1, by rw [o2 w (Ne.symm nw1) (Ne.symm nw2) (Ne.symm nw3), zup_ne nwa]; exact hS1.2.1, by rw [o2 r (Ne.symm nr1) (Ne.symm hbr) (Ne.symm hcr), zup_ne nra]; exact hS1.2.2⟩, (by rw [o2 s (Ne.symm nc1) (Ne.symm nc2) (Ne.symm nc3), zup_ne nca, ho s nca (Ne.symm nc1) (Ne.symm nc2) (Ne.symm nc3) ncm ncs hsw ncr]; exact hs1), (by rw [o2 sr (Ne.symm ndk) hsb1 hsc, zup_ne nda, ho sr nda (Ne.symm ndk) hsb1 hsc hsm nds ndw hsrr]; exact hsr), hms, hkm, hsw, hsrr, (by have := hI1.2.2.2.2; omega), hI1.2.2.1, hI1.2.2.2.1, hC2, hbr, hcr, hfl.1, (fun i hi => ⟨by have := (hfl.2.2.1 i hi).1; omega, (hfl.2.2.1 i hi).2⟩), (by have := hfl.2.2.2.1; omega), (by have := hfl.2.2.2.1; have := hI1.1.2.2; omega), hI1.1.1, hI1.1.2.1, (by have := hI1.2.1; omega), fun i h3 hi3 v1 v2 e3 o3 => ?_⟩
        refine z_ireturn dX8_tell_132 trivial (Nat.le_of_ble_eq_true rfl) (Nat.le_of_ble_eq_true rfl) ?_
        have hL9 : ∃ L9, L9 = zflat E 257 0 := ⟨_, rfl⟩
        obtain ⟨L9, hL9⟩ := hL9
        rw [← hL9] at v1 v2 e3 hi3 hC2 ⊢
        refine hK h3 ((ztake s1.1 (zps L9 i) (zln L9 i) (zps L9 L9.length), zrnum (zbn g kk) 16 (znar s1.1 (zps L9 i) (zln L9 i) (zps L9 L9.length)).2.2.1 (znar s1.1 (zps L9 i) (zln L9 i) (zps L9 L9.length)).2.2.2.1 s1.2.1 s1.2.2), E, ex, es, zsg L9 i, none) (hy _ ?_) ?_ ?_ ⟨L9, hC2.to (o3 k ns1 nw1 nr1) (o3 kb ns2 nw2 hbr) (o3 kc ns3 nw3 hcr)⟩ (fun q z1 z2 z3 z4 z5 z6 z7 z8 => ?_)
        · subst hL9
          exact ⟨i, _, ⟨hi3, v1, v2, rfl⟩, rfl⟩
        · exact hT2.to (o3 a (Ne.symm nsa) (Ne.symm nwa) (Ne.symm nra)) (o3 mk (Ne.symm nsm) (Ne.symm nwm) hmr)
        · exact e3
        · rw [o3 q z6 z7 z8, o2 q z2 z3 z4, zup_ne z1]; exact ho q z1 z2 z3 z4 z5 z6 z7 z8
      · exact absurd (by decide) q26
    | succ c ih =>
      intro E ex es s1 fi h1 hcl hy hT1 hC1 hS1 hI1 hex ho
      obtain ⟨L1, hC1⟩ := hC1
      have hk1 := hT1.1
      have hcn := hctx c (by omega)
      have hzk : zkI (c + 1) = nI c := by simp [zkI]
      have hM1 := hM.to (h' := h1) (fun q hq => by obtain ⟨e1, e2, e3, e4, e5, e6, e7, e8⟩ := hdis q hq; exact ho q e5 e1 e2 e3 e4 e6 e7 e8)
      obtain ⟨U1, hu1, hU1⟩ := hM1.con
      have hob1 := hM1.obj
      dsimp only at hu1 hob1
      rw [hzk]
      refine z_iload_n dX8_tell_25 rfl ?_
      refine z_if_lt (t := 115) dX8_tell_26 (by decide) (fun q26 => ?_) (fun q26 => ?_)
      · exact absurd q26 (nI_pos (by omega))
      · refine z_aload_n dX8_tell_29 rfl ?_
        refine z_aload_n dX8_tell_30 rfl ?_
        refine z_aload_n dX8_tell_31 rfl ?_
        refine z_iload_n dX8_tell_32 rfl ?_
        refine zcall2 (zck_V (na := 1) (ci := 4) (R' := rX3_context) (M' := mX3_context) (fun _ _ _ _ => tvX3_context) (by decide) kX3_context lX8_41 (by decide +kernel) rfl) dX8_tell_33 (Nat.le_of_ble_eq_true rfl) (Nat.le_of_ble_eq_true rfl) (Nat.le_of_ble_eq_true rfl) ?_
        refine ⟨_, _, _, _, _, _, rfl, hob1, rfl, hu1, (by omega), (by omega), ?_⟩
        rw [hU1 c (by omega)]
        refine zcall3 (zck_V (na := 2) (ci := 8) (R' := rX8_offerChildren) (M' := mX8_offerChildren) (fun _ _ _ _ => tvX8_offerChildren) (by decide) kX8_offerChildren lX8_45 (by decide +kernel) rfl) dX8_tell_36 (Nat.le_of_ble_eq_true rfl) (Nat.le_of_ble_eq_true rfl) (Nat.le_of_ble_eq_true rfl) ?_
        refine ⟨a, k, kb, kc, mk, R + 1, ex, es, fi, E, L1, _, _, _, _, _, _, _, _, _, rfl, hT1, hC1, Nat.succ_pos _, hd1, hd2, hM1, (fun q hq => ⟨(hdis q hq).1, (hdis q hq).2.1, (hdis q hq).2.2.1⟩), hcn, fun h2 hC2 o2 => ?_⟩
        have hT2 := hT1.to (o2 a (Ne.symm na1) (Ne.symm na2) (Ne.symm na3)) (o2 mk (Ne.symm nmk) hd1 hd2)
        have hk2 := hT2.1
        refine z_aload_n dX8_tell_39 rfl ?_
        refine z_getfield dX8_tell_40 fX8_12_8 rfl (by first | assumption | exact zget_eq | exact zget_ne (by first | assumption | exact Ne.symm (by assumption) | omega) (by first | assumption | exact zget_eq | exact zget_ne (by first | assumption | exact Ne.symm (by assumption) | omega) (by first | assumption | exact zget_eq | exact zget_ne (by first | assumption | exact Ne.symm (by assumption) | omega) (by first | assumption | exact zget_eq)))) rfl ?_
        refine zcall1 (zck_V (na := 0) (ci := 2) (R' := rX0_many) (M' := mX0_many) (fun _ _ _ _ => tvX0_many) (by decide) kX0_many lX8_49 (by decide +kernel) rfl) dX8_tell_43 (Nat.le_of_ble_eq_true rfl) (Nat.le_of_ble_eq_true rfl) (Nat.le_of_ble_eq_true rfl) ?_
        refine ⟨_, _, _, _, rfl, hC2, ?_⟩
        by_cases hz : zoff T.2.2.1 T.2.2.2 E (ch (ctx c)) = []
        · rw [show (zoff T.2.2.1 T.2.2.2 E (ch (ctx c))).length = 0 by rw [hz]; rfl]
          refine z_if_ne (t := 52) dX8_tell_46 (by decide) (fun q46 => ?_) (fun q46 => ?_)
          · exact absurd nI_0 q46
          · refine z_goto (t := 109) dX8_tell_49 (by decide) ?_
            refine z_iinc dX8_tell_109 rfl (Nat.le_of_ble_eq_true rfl) ?_
            rw [show nI c + Int32.ofInt (-1) = zkI c by unfold zkI; split; (rename_i e; subst e; decide); exact sb_m1 (by omega)]
            refine z_goto (t := 25) dX8_tell_112 (by decide) ?_
            refine zZ.keep [0, 1, 2, 3] ?_
            exact ih E ex es s1 fi h2 (by omega) (fun y hq => hy y (Or.inl ⟨hz, hq⟩)) hT2 ⟨_, hC2⟩ ⟨(o2 sa (Ne.symm ns1) (Ne.symm ns2) (Ne.symm ns3)).trans hS1.1, (o2 w (Ne.symm nw1) (Ne.symm nw2) (Ne.symm nw3)).trans hS1.2.1, (o2 r (Ne.symm nr1) (Ne.symm hbr) (Ne.symm hcr)).trans hS1.2.2⟩ ⟨hI1.1, by have := hI1.2.1; omega, hI1.2.2.1, hI1.2.2.2.1, by have := hI1.2.2.2.2; omega⟩ (by omega) (fun q z1 z2 z3 z4 z5 z6 z7 z8 => by rw [o2 q z2 z3 z4]; exact ho q z1 z2 z3 z4 z5 z6 z7 z8)
        · obtain ⟨hfl, hlow, hl257⟩ := zoff_ok hN.1 hSb hcn E hz
          refine z_if_ne (t := 52) dX8_tell_46 (by decide) (fun q46 => ?_) (fun q46 => ?_)
          · refine z_aload_n dX8_tell_52 rfl ?_
            refine z_getfield dX8_tell_53 fX8_12_8 rfl (by first | assumption | exact zget_eq | exact zget_ne (by first | assumption | exact Ne.symm (by assumption) | omega) (by first | assumption | exact zget_eq | exact zget_ne (by first | assumption | exact Ne.symm (by assumption) | omega) (by first | assumption | exact zget_eq | exact zget_ne (by first | assumption | exact Ne.symm (by assumption) | omega) (by first | assumption | exact zget_eq)))) rfl ?_
            refine z_sipush (w := 257) dX8_tell_56 (by decide) ?_
            refine z_aload_n dX8_tell_59 rfl ?_
            refine z_getfield dX8_tell_60 fX8_12_8 rfl (by first | assumption | exact zget_eq | exact zget_ne (by first | assumption | exact Ne.symm (by assumption) | omega) (by first | assumption | exact zget_eq | exact zget_ne (by first | assumption | exact Ne.symm (by assumption) | omega) (by first | assumption | exact zget_eq | exact zget_ne (by first | assumption | exact Ne.symm (by assumption) | omega) (by first | assumption | exact zget_eq)))) rfl ?_
            refine zcall1 (zck_V (na := 0) (ci := 2) (R' := rX0_many) (M' := mX0_many) (fun _ _ _ _ => tvX0_many) (by decide) kX0_many lX8_49 (by decide +kernel) rfl) dX8_tell_63 (Nat.le_of_ble_eq_true rfl) (Nat.le_of_ble_eq_true rfl) (Nat.le_of_ble_eq_true rfl) ?_
            refine ⟨_, _, _, _, rfl, hC2, ?_⟩
            refine zcall3 (zck_V (na := 2) (ci := 2) (R' := rX0_offer) (M' := mX0_offer) (fun _ _ _ _ => tvX0_offer) (by decide) kX0_offer lX8_52 (by decide +kernel) rfl) dX8_tell_66 (Nat.le_of_ble_eq_true rfl) (Nat.le_of_ble_eq_true rfl) (Nat.le_of_ble_eq_true rfl) ?_
            refine ⟨k, kb, kc, zoff T.2.2.1 T.2.2.2 E (ch (ctx c)), 257, (zoff T.2.2.1 T.2.2.2 E (ch (ctx c))).length, rfl, hC2, (by omega), fun h4 hC4 o4 => ?_⟩
            have o24 : ∀ q, q ≠ k → q ≠ kb → q ≠ kc → h4 q = h1 q := fun q z2 z3 z4 => (o4 q z2 z3 z4).trans (o2 q z2 z3 z4)
            have hT4 := hT1.to (o24 a (Ne.symm na1) (Ne.symm na2) (Ne.symm na3)) (o24 mk (Ne.symm nmk) hd1 hd2)
            have hk4 := hT4.1
            refine z_aload_n dX8_tell_69 rfl ?_
            refine z_aload_n dX8_tell_70 rfl ?_
            refine z_getfield dX8_tell_71 fX8_12_8 rfl (by first | assumption | exact zget_eq | exact zget_ne (by first | assumption | exact Ne.symm (by assumption) | omega) (by first | assumption | exact zget_eq | exact zget_ne (by first | assumption | exact Ne.symm (by assumption) | omega) (by first | assumption | exact zget_eq | exact zget_ne (by first | assumption | exact Ne.symm (by assumption) | omega) (by first | assumption | exact zget_eq)))) rfl ?_
            refine zcall2 (zck_U (na := 1) (ci := 7) (C := RX6) (owner := "PpmTrees$Speaker") (x := ⟨"PpmTrees$Speaker", "say", "(LPpmTrees$Choices;)I"⟩) (R' := rX7_say_7) (M' := mX7_say) (fun _ _ _ _ => tvX7_say_7) (by decide) kX7_say lUX8_56_7 (Or.inr rfl) (by decide +kernel) rfl) dX8_tell_74 (Nat.le_of_ble_eq_true rfl) (Nat.le_of_ble_eq_true rfl) (Nat.le_of_ble_eq_true rfl) ?_
            refine ⟨sa, w, r, k, kb, kc, s, sr, ms, kk, s1.2.1, s1.2.2, g, (zoff T.2.2.1 T.2.2.2 E (ch (ctx c)) ++ [(257, (zoff T.2.2.1 T.2.2.2 E (ch (ctx c))).length)]), s1.1, rfl, ⟨(o24 sa (Ne.symm ns1) (Ne.symm ns2) (Ne.symm ns3)).trans hS1.1, (o24 w (Ne.symm nw1) (Ne.symm nw2) (Ne.symm nw3)).trans hS1.2.1, (o24 r (Ne.symm nr1) (Ne.symm hbr) (Ne.symm hcr)).trans hS1.2.2⟩, ((o24 s (Ne.symm nc1) (Ne.symm nc2) (Ne.symm nc3)).trans ((ho s nca (Ne.symm nc1) (Ne.symm nc2) (Ne.symm nc3) ncm ncs hsw ncr).trans hs1)), ((o24 sr (Ne.symm ndk) hsb1 hsc).trans ((ho sr nda (Ne.symm ndk) hsb1 hsc hsm nds ndw hsrr).trans hsr)), hms, hkm, hsw, hsrr, (by have := hI1.2.2.2.2; omega), hI1.2.2.1, hI1.2.2.2.1, hC4, hbr, hcr, hfl.1, (fun i hi => ⟨by have := (hfl.2.2.1 i hi).1; omega, (hfl.2.2.1 i hi).2⟩), (by have := hfl.2.2.2.1; omega), (by have := hfl.2.2.2.1; have := hI1.1.2.2; omega), hI1.1.1, hI1.1.2.1, (by have := hI1.2.1; omega), fun i h3 hi3 v1 v2 e3 o3 => ?_⟩
            have hL9 : ∃ L9, L9 = zoff T.2.2.1 T.2.2.2 E (ch (ctx c)) ++ [(257, (zoff T.2.2.1 T.2.2.2 E (ch (ctx c))).length)] := ⟨_, rfl⟩
            obtain ⟨L9, hL9⟩ := hL9
            rw [← hL9] at v1 v2 e3 hi3 hC4 hfl hlow ⊢
            have hi9 : i < L9.length := hi3
            have hsi : zsg L9 i ≤ 257 := (hfl.2.2.1 i hi9).1
            have hT5 := hT4.to (o3 a (Ne.symm nsa) (Ne.symm nwa) (Ne.symm nra)) (o3 mk (Ne.symm nsm) (Ne.symm nwm) hmr)
            have hk5 := hT5.1
            have hC5 := hC4.to (o3 k ns1 nw1 nr1) (o3 kb ns2 nw2 hbr) (o3 kc ns3 nw3 hcr)
            obtain ⟨hE5, hE6⟩ := ztake_ok (e := s1.1) (x := zps L9 i) (y := zln L9 i) (t := zps L9 L9.length) hI1.1 hfl.2.2.2.2 hfl.2.2.2.1 (zln_le hi9) (hfl.2.2.1 i hi9).2
            have v3 := v2
            rw [zps_succ hi9] at v3
            obtain ⟨w1, w2⟩ := zdec_ok hI1.2.2.1 hI1.2.2.2.1 hfl.2.2.2.2 v1 v3
            have hR5 := zrnum_ok (zbn_le g kk) 16 (znar s1.1 (zps L9 i) (zln L9 i) (zps L9 L9.length)) s1.2.1 s1.2.2 w1 w2 (by
              obtain ⟨y1, y2, -, -⟩ := znar_ok hI1.1.1 hI1.1.2.1 hfl.2.2.2.2 (by have := hfl.2.2.2.1; omega) (by have := hfl.2.2.2.1; have := hI1.1.2.2; omega) (zln_le hi9) (hfl.2.2.1 i hi9).2
              have := hI1.1.2.1
              have := hI1.1.1
              simp only [znar]
              revert y1 y2
              generalize (s1.1.2.2.2.1 - s1.1.2.2.1 + 1) * zps L9 i / zps L9 L9.length = A
              generalize (s1.1.2.2.2.1 - s1.1.2.2.1 + 1) * (zps L9 i + zln L9 i) / zps L9 L9.length = B
              intro y1 y2
              omega)
            refine z_istore dX8_tell_77 (Nat.le_of_ble_eq_true rfl) ?_
            refine z_iload dX8_tell_79 rfl ?_
            refine z_sipush (w := 257) dX8_tell_81 (by decide) ?_
            refine z_icmp_eq (t := 95) dX8_tell_84 (by decide) (fun q84 => ?_) (fun q84 => ?_)
            · have q84b : zsg L9 i = 257 := (nI_eq (a := zsg L9 i) (b := 257) (by omega) (by omega)).mp q84
              refine z_aload_n dX8_tell_95 rfl ?_
              refine z_dup dX8_tell_96 rfl ?_
              refine z_getfield dX8_tell_97 fX8_26_8 rfl (by first | assumption | exact zget_eq | exact zget_ne (by first | assumption | exact Ne.symm (by assumption) | omega) (by first | assumption | exact zget_eq | exact zget_ne (by first | assumption | exact Ne.symm (by assumption) | omega) (by first | assumption | exact zget_eq | exact zget_ne (by first | assumption | exact Ne.symm (by assumption) | omega) (by first | assumption | exact zget_eq)))) rfl ?_
              refine z_iconst (w := 1) dX8_tell_100 (by decide) ?_
              refine z_iadd dX8_tell_101 ?_
              refine z_putfield dX8_tell_102 fX8_26_8 rfl (fun q => absurd q (by decide)) (by first | assumption | exact zget_eq | exact zget_ne (by first | assumption | exact Ne.symm (by assumption) | omega) (by first | assumption | exact zget_eq | exact zget_ne (by first | assumption | exact Ne.symm (by assumption) | omega) (by first | assumption | exact zget_eq | exact zget_ne (by first | assumption | exact Ne.symm (by assumption) | omega) (by first | assumption | exact zget_eq)))) (Nat.le_of_ble_eq_true rfl) (Or.inl ⟨rfl, _, rfl⟩) ?_
              refine z_aload_n dX8_tell_105 rfl ?_
              refine zcall1 (zck_V (na := 0) (ci := 8) (R' := rX8_excludeOffered) (M' := mX8_excludeOffered) (fun _ _ _ _ => tvX8_excludeOffered) (by decide) kX8_excludeOffered lX8_62 (by decide +kernel) rfl) dX8_tell_106 (Nat.le_of_ble_eq_true rfl) (Nat.le_of_ble_eq_true rfl) (Nat.le_of_ble_eq_true rfl) ?_
              have hT6 : zTel G (va_up h3 a (some (zO 8 [.ref k, .ref mk, .int (nI (R + 1)), .int (nI ex), .int (nI es + 1), .int fi]))) a k mk (R + 1) E ex (es + 1) fi := ⟨by rw [zget_eq, nI_1], hT5.2.1, hT5.2.2.1, hT5.2.2.2.choose, by rw [zup_ne (Ne.symm nam)]; exact hT5.2.2.2.choose_spec.1, hT5.2.2.2.choose_spec.2⟩
              have hC6 : zCho G (va_up h3 a (some (zO 8 [.ref k, .ref mk, .int (nI (R + 1)), .int (nI ex), .int (nI es + 1), .int fi]))) k kb kc L9 := hC5.to (zup_ne na1) (zup_ne na2) (zup_ne na3)
              have hl9 : L9.length - 1 = (zoff T.2.2.1 T.2.2.2 E (ch (ctx c))).length := by rw [hL9]; simp
              refine ⟨a, k, kb, kc, mk, R + 1, ex, es + 1, fi, E, L9, rfl, hT6, hC6, hfl.1, (fun j hj => hlow j (by omega)), hd1, hd2, (by omega), fun h7 hT7 o7 => ?_⟩
              rw [hl9] at hT7
              refine z_iinc dX8_tell_109 rfl (Nat.le_of_ble_eq_true rfl) ?_
              rw [show nI c + Int32.ofInt (-1) = zkI c by unfold zkI; split; (rename_i e; subst e; decide); exact sb_m1 (by omega)]
              refine z_goto (t := 25) dX8_tell_112 (by decide) ?_
              refine zZ.keep [0, 1, 2, 3] ?_
              refine ih _ _ _ ((ztake s1.1 (zps L9 i) (zln L9 i) (zps L9 L9.length), zrnum (zbn g kk) 16 (znar s1.1 (zps L9 i) (zln L9 i) (zps L9 L9.length)).2.2.1 (znar s1.1 (zps L9 i) (zln L9 i) (zps L9 L9.length)).2.2.2.1 s1.2.1 s1.2.2)) fi h7 (by omega) (fun y hq => hy y (Or.inr ⟨hz, i, _, ?_, Or.inr ⟨?_, hq⟩⟩)) ?_ ⟨L9, hC6.to (o7 k na1 nmk) (o7 kb na2 (Ne.symm hd1)) (o7 kc na3 (Ne.symm hd2))⟩ ⟨by rw [o7 sa nsa nsm, zup_ne nsa]; exact e3.1, by rw [o7 w nwa nwm, zup_ne nwa]; exact e3.2.1, by rw [o7 r nra (Ne.symm hmr), zup_ne nra]; exact e3.2.2⟩ ⟨hE5, by have := hI1.2.1; simp only; omega, hR5.1, hR5.2.1, by have := hI1.2.2.2.2; have := hR5.2.2; simp only; omega⟩ (by omega) (fun q z1 z2 z3 z4 z5 z6 z7 z8 => ?_)
              · subst hL9; exact ⟨hi3, v1, v2, rfl⟩
              · subst hL9; exact q84b
              · rw [hL9] at hT7; exact hT7
              · rw [o7 q z1 z5, zup_ne z1, o3 q z6 z7 z8, o24 q z2 z3 z4]; exact ho q z1 z2 z3 z4 z5 z6 z7 z8
            · have q84b : zsg L9 i ≠ 257 := fun z => q84 (by rw [z]; rfl)
              refine z_aload_n dX8_tell_87 rfl ?_
              refine z_iload_n dX8_tell_88 rfl ?_
              refine z_putfield dX8_tell_89 fX8_29_8 rfl (fun q => absurd q (by decide)) (by first | assumption | exact zget_eq | exact zget_ne (by first | assumption | exact Ne.symm (by assumption) | omega) (by first | assumption | exact zget_eq | exact zget_ne (by first | assumption | exact Ne.symm (by assumption) | omega) (by first | assumption | exact zget_eq | exact zget_ne (by first | assumption | exact Ne.symm (by assumption) | omega) (by first | assumption | exact zget_eq)))) (Nat.le_of_ble_eq_true rfl) (Or.inl ⟨rfl, _, rfl⟩) ?_
              refine z_iload dX8_tell_92 rfl ?_
              refine z_ireturn dX8_tell_94 trivial (Nat.le_of_ble_eq_true rfl) (Nat.le_of_ble_eq_true rfl) ?_
              refine hK _ ((ztake s1.1 (zps L9 i) (zln L9 i) (zps L9 L9.length), zrnum (zbn g kk) 16 (znar s1.1 (zps L9 i) (zln L9 i) (zps L9 L9.length)).2.2.1 (znar s1.1 (zps L9 i) (zln L9 i) (zps L9 L9.length)).2.2.2.1 s1.2.1 s1.2.2), E, ex, es, zsg L9 i, some c) (hy _ (Or.inr ⟨hz, i, (ztake s1.1 (zps L9 i) (zln L9 i) (zps L9 L9.length), zrnum (zbn g kk) 16 (znar s1.1 (zps L9 i) (zln L9 i) (zps L9 L9.length)).2.2.1 (znar s1.1 (zps L9 i) (zln L9 i) (zps L9 L9.length)).2.2.2.1 s1.2.1 s1.2.2), ?_, Or.inl ⟨?_, by subst hL9; rfl⟩⟩)) ⟨zget_eq, hT5.2.1, hT5.2.2.1, hT5.2.2.2.choose, by rw [zup_ne (Ne.symm nam)]; exact hT5.2.2.2.choose_spec.1, hT5.2.2.2.choose_spec.2⟩ ?_ ⟨L9, hC5.to (zup_ne na1) (zup_ne na2) (zup_ne na3)⟩ (fun q z1 z2 z3 z4 z5 z6 z7 z8 => ?_)
              · subst hL9; exact ⟨hi3, v1, v2, rfl⟩
              · subst hL9; exact q84b
              · exact ⟨by rw [zup_ne nsa]; exact e3.1, by rw [zup_ne nwa]; exact e3.2.1, by rw [zup_ne nra]; exact e3.2.2⟩
              · rw [zup_ne z1, o3 q z6 z7 z8, o24 q z2 z3 z4]; exact ho q z1 z2 z3 z4 z5 z6 z7 z8
          · exact absurd q46 (nI_ne0 (List.length_pos_iff.mpr hz) (by omega))
  obtain ⟨hk0, hR0, hE0', M, hm0, hv0, hM0⟩ := hT
  have hna : ∀ q, zaw (am, ap, ab, ac, af, ax, al, at9) q → q ≠ a := fun q hq => (hdis q hq).2.2.2.2.1
  refine z_aload_n dX8_tell_0 rfl ?_
  refine z_dup dX8_tell_1 rfl ?_
  refine z_getfield dX8_tell_2 fX8_32_8 rfl (by first | assumption | exact zget_eq | exact zget_ne (by first | assumption | exact Ne.symm (by assumption) | omega) (by first | assumption | exact zget_eq | exact zget_ne (by first | assumption | exact Ne.symm (by assumption) | omega) (by first | assumption | exact zget_eq | exact zget_ne (by first | assumption | exact Ne.symm (by assumption) | omega) (by first | assumption | exact zget_eq)))) rfl ?_
  refine z_iconst (w := 1) dX8_tell_5 (by decide) ?_
  refine z_iadd dX8_tell_6 ?_
  refine z_putfield dX8_tell_7 fX8_32_8 rfl (fun q => absurd q (by decide)) (by first | assumption | exact zget_eq | exact zget_ne (by first | assumption | exact Ne.symm (by assumption) | omega) (by first | assumption | exact zget_eq | exact zget_ne (by first | assumption | exact Ne.symm (by assumption) | omega) (by first | assumption | exact zget_eq | exact zget_ne (by first | assumption | exact Ne.symm (by assumption) | omega) (by first | assumption | exact zget_eq)))) (Nat.le_of_ble_eq_true rfl) (Or.inl ⟨rfl, _, rfl⟩) ?_
  refine z_aload_n dX8_tell_10 rfl ?_
  refine z_iconst (w := 0) dX8_tell_11 (by decide) ?_
  refine z_putfield dX8_tell_12 fX8_22_8 rfl (fun q => absurd q (by decide)) (by first | assumption | exact zget_eq | exact zget_ne (by first | assumption | exact Ne.symm (by assumption) | omega) (by first | assumption | exact zget_eq | exact zget_ne (by first | assumption | exact Ne.symm (by assumption) | omega) (by first | assumption | exact zget_eq | exact zget_ne (by first | assumption | exact Ne.symm (by assumption) | omega) (by first | assumption | exact zget_eq)))) (Nat.le_of_ble_eq_true rfl) (Or.inl ⟨rfl, _, rfl⟩) ?_
  refine z_aload_n dX8_tell_15 rfl ?_
  refine z_iconst (w := 0) dX8_tell_16 (by decide) ?_
  refine z_putfield dX8_tell_17 fX8_26_8 rfl (fun q => absurd q (by decide)) (by first | assumption | exact zget_eq | exact zget_ne (by first | assumption | exact Ne.symm (by assumption) | omega) (by first | assumption | exact zget_eq | exact zget_ne (by first | assumption | exact Ne.symm (by assumption) | omega) (by first | assumption | exact zget_eq | exact zget_ne (by first | assumption | exact Ne.symm (by assumption) | omega) (by first | assumption | exact zget_eq)))) (Nat.le_of_ble_eq_true rfl) (Or.inl ⟨rfl, _, rfl⟩) ?_
  refine z_aload_n dX8_tell_20 rfl ?_
  refine zcall1 (zck_V (na := 0) (ci := 4) (R' := rX3_latestMany) (M' := mX3_latestMany) (fun _ _ _ _ => tvX3_latestMany) (by decide) kX3_latestMany lX8_35 (by decide +kernel) rfl) dX8_tell_21 (Nat.le_of_ble_eq_true rfl) (Nat.le_of_ble_eq_true rfl) (Nat.le_of_ble_eq_true rfl) ?_
  refine ⟨_, _, _, rfl, (by rw [zup_ne (hna am (by simp [zaw])), zup_ne (hna am (by simp [zaw])), zup_ne (hna am (by simp [zaw]))]; exact hobj), rfl, ?_⟩
  refine z_istore_n dX8_tell_24 (Nat.le_of_ble_eq_true rfl) ?_
  rw [show nI lm = zkI (lm + 1) by simp [zkI]]
  refine loop (lm + 1) (fun _ => false) 0 0 s0 f0 _ (Nat.le_refl _) (fun y hq => hq) ⟨?_, (by omega), fun s _ => rfl, M, ?_, fun s hs => ?_, fun s hs => ?_⟩ ⟨L0, hL0.to ?_ ?_ ?_⟩ ⟨by rw [zup_ne nsa, zup_ne nsa, zup_ne nsa]; exact hSp.1, by rw [zup_ne nwa, zup_ne nwa, zup_ne nwa]; exact hSp.2.1, by rw [zup_ne nra, zup_ne nra, zup_ne nra]; exact hSp.2.2⟩ ⟨hE0, hcap0, hn1, hn2, htk⟩ (by omega) (fun q z1 z2 z3 z4 z5 z6 z7 z8 => ?_)
  · rw [zget_eq]; simp [nI_1, nI_0]
  · rw [zup_ne (Ne.symm nam), zup_ne (Ne.symm nam), zup_ne (Ne.symm nam)]; exact hm0
  · obtain ⟨u, g1, g2⟩ := hv0 s hs
    exact ⟨u, by omega, g2⟩
  · obtain ⟨u, g1, g2⟩ := hv0 s hs
    rw [g2, nI_eq (by omega) (by omega)]
    exact ⟨fun z => by simp at z, fun z => by omega⟩
  · rw [zup_ne na1, zup_ne na1, zup_ne na1]
  · rw [zup_ne na2, zup_ne na2, zup_ne na2]
  · rw [zup_ne na3, zup_ne na3, zup_ne na3]
  · rw [zup_ne z1, zup_ne z1, zup_ne z1]

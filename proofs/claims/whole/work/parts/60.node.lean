/-! the class: node, on the road that returns -/
abbrev rX10_node : Room := ⟨3, 0, 0, 120⟩
def SX10_node (G : zC) : zS := fun as h n K => ∃ (x b t rn : Nat) (o rm : Nat) (a tx : Nat → Nat) (gg : Nat → Int32) (rx : Nat → Nat) (M : Nat → zMs) (z : Nat → Int32) (XX : Nat → Nat) (F : Nat → Option Nat) (e i w r : Int32), as = [.ref x, .int e, .int i, .int w] ∧ zOkS o rm a tx M ∧ zCS G h n x b t rn o rm a tx gg rx M z XX F ∧ rn ≤ 100000 ∧ zQno M e i w = some r ∧ (zCS G h n x b t (rn + 302) o rm a tx gg rx M z XX F → K (some (.int r)) h n)
set_option maxRecDepth 100000 in
theorem tvX10_node {G : zC} {as : List Value} {h : zH} {n : Nat} {K : zP} (hs : SX10_node G as h n K) : (∃ b fs r, as = .ref b :: r ∧ h b = some (.inr (10, fs))) ∧ zCt G rX10_node mX10_node as h n K := by
  obtain ⟨x, b, t, rn, o, rm, a, tx, gg, rx, M, z, XX, F, e, i, w, r, rfl, hB, hC, hrn, hK⟩ := hs
  have hC0 := hC
  obtain ⟨b1, b2, b3, b4, b5, b6, b7, b8, btx, bM⟩ := hB
  obtain ⟨rO, tO, rM, tM, tr, kt, rt, Nt, c0, cO, cM, cb, cn, ck, pT, pO, pR, pU, pA, pB, pN, pS, pL, pE, pP, pW, pD⟩ := hC
  refine ⟨⟨_, _, _, rfl, c0⟩, zCt.of (by decide) (Nat.le_of_ble_eq_true rfl) ?_⟩
  obtain ⟨hq, hK⟩ := hK
  refine z_iload_n dX10_node_0 rfl ?_
  refine zcall1 (zck_S (R' := rX10_isEnd) (M' := mX10_isEnd) (fun _ _ _ _ => tX10_isEnd) kX10_isEnd lX10_226 (by decide +kernel) rfl) dX10_node_1 (Nat.le_of_ble_eq_true rfl) (Nat.le_of_ble_eq_true rfl) (Nat.le_of_ble_eq_true rfl) ?_
  refine ⟨_, rfl, ?_⟩
  refine z_if_eq (t := 16) dX10_node_4 (by decide) (fun q4 => ?_) (fun q4 => ?_)
  · rw [show zQno M e i w = some (-1) from if_neg (fun p => zi10.mp q4 p.1)] at hq
    cases hq
    refine z_iconst (w := -1) dX10_node_16 (by decide) ?_
    refine z_ireturn dX10_node_17 trivial (Nat.le_of_ble_eq_true rfl) (Nat.le_of_ble_eq_true rfl) ?_
    exact hK (hC0.mono (by omega))
  · rcases zin2.mp (zi11.mp q4) with rfl | rfl
    · refine z_iload_n dX10_node_7 rfl ?_
      refine z_if_lt (t := 16) dX10_node_8 (by decide) (fun q8 => ?_) (fun q8 => ?_)
      · rw [show zQno M 0 i w = some (-1) from if_neg (fun p => absurd q8 (Int32.not_lt.mpr p.2.1))] at hq
        cases hq
        refine z_iconst (w := -1) dX10_node_16 (by decide) ?_
        refine z_ireturn dX10_node_17 trivial (Nat.le_of_ble_eq_true rfl) (Nat.le_of_ble_eq_true rfl) ?_
        exact hK (hC0.mono (by omega))
      · refine z_iload_n dX10_node_11 rfl ?_
        refine z_iconst (w := 3) dX10_node_12 (by decide) ?_
        refine z_icmp_le (t := 18) dX10_node_13 (by decide) (fun q13 => ?_) (fun q13 => ?_)
        · have hin : zIn w 4 := (zin_le (u := 3) (by decide)).mp ⟨Int32.not_lt.mp q8, q13⟩
          rw [show zQno M 0 i w = (if zIn i (M 0).1.1 then some (if w = 0 then zm (M 0).1.2.1 (zt i) else if w = 1 then zm (M 0).1.2.2.1 (zt i) else if w = 2 then (if zt i = 0 then 0 else nI ((M 0).1.2.2.2 (zt i))) else nI (zdp (M 0).1.2.1 (zt i) (zt i))) else none) from if_pos ⟨by decide, hin⟩] at hq
          refine z_aload_n dX10_node_18 rfl ?_
          refine z_iload_n dX10_node_19 rfl ?_
          refine zcall2 (zck_V (na := 1) (ci := 10) (R' := rX10_model) (M' := mX10_model) (fun _ _ _ _ => tvX10_model) (by decide) kX10_model lX10_229 (by decide +kernel) rfl) dX10_node_20 (Nat.le_of_ble_eq_true rfl) (Nat.le_of_ble_eq_true rfl) (Nat.le_of_ble_eq_true rfl) ?_
          refine ⟨_, _, _, _, _, _, _, _, _, _, .null, .null, _, _, _, _, _, _, _, _, _, _, _, _, rfl, c0, ?_⟩
          rw [if_pos (show (0 : Int32) = 0 from rfl)]
          refine z_astore dX10_node_23 (Nat.le_of_ble_eq_true rfl) ?_
          refine z_iload_n dX10_node_25 rfl ?_
          refine z_if_lt (t := 38) dX10_node_26 (by decide) (fun q26 => ?_) (fun q26 => ?_)
          · rw [if_neg (fun p => absurd q26 (Int32.not_lt.mpr p.1))] at hq
            cases hq
          · refine z_iload_n dX10_node_29 rfl ?_
            refine z_aload dX10_node_30 rfl ?_
            refine zcall1 (zck_V (na := 0) (ci := 4) (R' := rX3_nodeMany) (M' := mX3_nodeMany) (fun _ _ _ _ => tvX3_nodeMany) (by decide) kX3_nodeMany lX10_233 (by decide +kernel) rfl) dX10_node_32 (Nat.le_of_ble_eq_true rfl) (Nat.le_of_ble_eq_true rfl) (Nat.le_of_ble_eq_true rfl) ?_
            refine ⟨_, _, _, rfl, pA.obj, rfl, ?_⟩
            refine z_icmp_lt (t := 48) dX10_node_35 (by decide) (fun q35 => ?_) (fun q35 => ?_)
            · have hi0 : zIn i (M 0).1.1 := ⟨Int32.not_lt.mp q26, q35⟩
              rw [if_pos hi0] at hq
              have hr := Option.some.inj hq
              have hn9 := pA.nums
              have hi := zIn.nat hi0 (by omega)
              obtain ⟨j, rfl, hj⟩ := hin.ex (by decide)
              have hj4 : j = 0 ∨ j = 1 ∨ j = 2 ∨ j = 3 := by omega
              have pp := pA
              obtain ⟨P, B, C, F9, X9, L, U, ⟨hk, hp, hb, hc, hf, hx, hl, hu, hdj, ho4, hr8, hr15, hnr, hlo⟩, -, ⟨w1, w2, w3, w4, w5⟩, -, -⟩ := pA
              dsimp only at hk hp hb hc hnr
              refine z_iload_n dX10_node_48 rfl ?_
              rcases hj4 with rfl | rfl | rfl | rfl
              · refine z_tableIn (t := 76) dX10_node_49 (by decide) (by decide) rfl (by decide) ?_
                refine z_aload dX10_node_76 rfl ?_
                refine z_iload_n dX10_node_78 rfl ?_
                refine zcall2 (zck_V (na := 1) (ci := 4) (R' := rX3_parentOf) (M' := mX3_parentOf) (fun _ _ _ _ => tvX3_parentOf) (by decide) kX3_parentOf lX10_243 (by decide +kernel) rfl) dX10_node_79 (Nat.le_of_ble_eq_true rfl) (Nat.le_of_ble_eq_true rfl) (Nat.le_of_ble_eq_true rfl) ?_
                refine ⟨_, _, _, _, _, zt i, (by rw [← hi.1]), hk, rfl, hp, (by omega), (by omega), ?_⟩
                refine z_ireturn dX10_node_82 trivial (Nat.le_of_ble_eq_true rfl) (Nat.le_of_ble_eq_true rfl) ?_
                rw [w1 _ hi.2]
                have hr9 := hr.symm
                rw [hr9] at hK
                exact hK (hC0.mono (by omega))
              · refine z_tableIn (t := 83) dX10_node_49 (by decide) (by decide) rfl (by decide) ?_
                refine z_aload dX10_node_83 rfl ?_
                refine z_iload_n dX10_node_85 rfl ?_
                refine zcall2 (zck_V (na := 1) (ci := 4) (R' := rX3_byteOf) (M' := mX3_byteOf) (fun _ _ _ _ => tvX3_byteOf) (by decide) kX3_byteOf lX10_246 (by decide +kernel) rfl) dX10_node_86 (Nat.le_of_ble_eq_true rfl) (Nat.le_of_ble_eq_true rfl) (Nat.le_of_ble_eq_true rfl) ?_
                refine ⟨_, _, _, _, _, zt i, (by rw [← hi.1]), hk, rfl, hb, (by omega), (by omega), ?_⟩
                refine z_ireturn dX10_node_89 trivial (Nat.le_of_ble_eq_true rfl) (Nat.le_of_ble_eq_true rfl) ?_
                rw [w2 _ hi.2]
                have hr9 := hr.symm
                rw [hr9] at hK
                exact hK (hC0.mono (by omega))
              · refine z_tableIn (t := 90) dX10_node_49 (by decide) (by decide) rfl (by decide) ?_
                refine z_aload dX10_node_90 rfl ?_
                refine z_iload_n dX10_node_92 rfl ?_
                refine zcall2 (zck_V (na := 1) (ci := 4) (R' := rX3_countOf) (M' := mX3_countOf) (fun _ _ _ _ => tvX3_countOf) (by decide) kX3_countOf lX10_249 (by decide +kernel) rfl) dX10_node_93 (Nat.le_of_ble_eq_true rfl) (Nat.le_of_ble_eq_true rfl) (Nat.le_of_ble_eq_true rfl) ?_
                refine ⟨_, _, _, _, _, zt i, (by rw [← hi.1]), hk, rfl, hc, (by omega), (by omega), ?_⟩
                refine z_ireturn dX10_node_96 trivial (Nat.le_of_ble_eq_true rfl) (Nat.le_of_ble_eq_true rfl) ?_
                rw [w3 _ hi.2]
                have hr9 := hr.symm
                rw [hr9] at hK
                exact hK (hC0.mono (by omega))
              · refine z_tableOut (t := 97) dX10_node_49 (Or.inr (by decide)) (by decide) ?_
                refine z_aload dX10_node_97 rfl ?_
                refine z_iload_n dX10_node_99 rfl ?_
                refine zcall2 (zck_V (na := 1) (ci := 4) (R' := rX3_stepsTo) (M' := mX3_stepsTo) (fun _ _ _ _ => tvX3_stepsTo) (by decide) kX3_stepsTo lX10_252 (by decide +kernel) rfl) dX10_node_100 (Nat.le_of_ble_eq_true rfl) (Nat.le_of_ble_eq_true rfl) (Nat.le_of_ble_eq_true rfl) ?_
                refine ⟨zmk _, o, rm, _, _, _, _, _, zt i, (by rw [← hi.1]), pp, hi.2, ?_⟩
                refine z_ireturn dX10_node_103 trivial (Nat.le_of_ble_eq_true rfl) (Nat.le_of_ble_eq_true rfl) ?_
                have hr9 := hr.symm
                rw [hr9] at hK
                exact hK (hC0.mono (by omega))
            · rw [if_neg (fun p => q35 p.2)] at hq
              cases hq
        · rw [show zQno M 0 i w = some (-1) from if_neg (fun p => q13 ((zin_le (u := 3) (by decide)).mpr p.2).2)] at hq
          cases hq
          refine z_iconst (w := -1) dX10_node_16 (by decide) ?_
          refine z_ireturn dX10_node_17 trivial (Nat.le_of_ble_eq_true rfl) (Nat.le_of_ble_eq_true rfl) ?_
          exact hK (hC0.mono (by omega))
    · refine z_iload_n dX10_node_7 rfl ?_
      refine z_if_lt (t := 16) dX10_node_8 (by decide) (fun q8 => ?_) (fun q8 => ?_)
      · rw [show zQno M 1 i w = some (-1) from if_neg (fun p => absurd q8 (Int32.not_lt.mpr p.2.1))] at hq
        cases hq
        refine z_iconst (w := -1) dX10_node_16 (by decide) ?_
        refine z_ireturn dX10_node_17 trivial (Nat.le_of_ble_eq_true rfl) (Nat.le_of_ble_eq_true rfl) ?_
        exact hK (hC0.mono (by omega))
      · refine z_iload_n dX10_node_11 rfl ?_
        refine z_iconst (w := 3) dX10_node_12 (by decide) ?_
        refine z_icmp_le (t := 18) dX10_node_13 (by decide) (fun q13 => ?_) (fun q13 => ?_)
        · have hin : zIn w 4 := (zin_le (u := 3) (by decide)).mp ⟨Int32.not_lt.mp q8, q13⟩
          rw [show zQno M 1 i w = (if zIn i (M 1).1.1 then some (if w = 0 then zm (M 1).1.2.1 (zt i) else if w = 1 then zm (M 1).1.2.2.1 (zt i) else if w = 2 then (if zt i = 0 then 0 else nI ((M 1).1.2.2.2 (zt i))) else nI (zdp (M 1).1.2.1 (zt i) (zt i))) else none) from if_pos ⟨by decide, hin⟩] at hq
          refine z_aload_n dX10_node_18 rfl ?_
          refine z_iload_n dX10_node_19 rfl ?_
          refine zcall2 (zck_V (na := 1) (ci := 10) (R' := rX10_model) (M' := mX10_model) (fun _ _ _ _ => tvX10_model) (by decide) kX10_model lX10_229 (by decide +kernel) rfl) dX10_node_20 (Nat.le_of_ble_eq_true rfl) (Nat.le_of_ble_eq_true rfl) (Nat.le_of_ble_eq_true rfl) ?_
          refine ⟨_, _, _, _, _, _, _, _, _, _, .null, .null, _, _, _, _, _, _, _, _, _, _, _, _, rfl, c0, ?_⟩
          rw [if_neg (show ¬ (1 : Int32) = 0 by decide)]
          refine z_astore dX10_node_23 (Nat.le_of_ble_eq_true rfl) ?_
          refine z_iload_n dX10_node_25 rfl ?_
          refine z_if_lt (t := 38) dX10_node_26 (by decide) (fun q26 => ?_) (fun q26 => ?_)
          · rw [if_neg (fun p => absurd q26 (Int32.not_lt.mpr p.1))] at hq
            cases hq
          · refine z_iload_n dX10_node_29 rfl ?_
            refine z_aload dX10_node_30 rfl ?_
            refine zcall1 (zck_V (na := 0) (ci := 4) (R' := rX3_nodeMany) (M' := mX3_nodeMany) (fun _ _ _ _ => tvX3_nodeMany) (by decide) kX3_nodeMany lX10_233 (by decide +kernel) rfl) dX10_node_32 (Nat.le_of_ble_eq_true rfl) (Nat.le_of_ble_eq_true rfl) (Nat.le_of_ble_eq_true rfl) ?_
            refine ⟨_, _, _, rfl, pB.obj, rfl, ?_⟩
            refine z_icmp_lt (t := 48) dX10_node_35 (by decide) (fun q35 => ?_) (fun q35 => ?_)
            · have hi0 : zIn i (M 1).1.1 := ⟨Int32.not_lt.mp q26, q35⟩
              rw [if_pos hi0] at hq
              have hr := Option.some.inj hq
              have hn9 := pB.nums
              have hi := zIn.nat hi0 (by omega)
              obtain ⟨j, rfl, hj⟩ := hin.ex (by decide)
              have hj4 : j = 0 ∨ j = 1 ∨ j = 2 ∨ j = 3 := by omega
              have pp := pB
              obtain ⟨P, B, C, F9, X9, L, U, ⟨hk, hp, hb, hc, hf, hx, hl, hu, hdj, ho4, hr8, hr15, hnr, hlo⟩, -, ⟨w1, w2, w3, w4, w5⟩, -, -⟩ := pB
              dsimp only at hk hp hb hc hnr
              refine z_iload_n dX10_node_48 rfl ?_
              rcases hj4 with rfl | rfl | rfl | rfl
              · refine z_tableIn (t := 76) dX10_node_49 (by decide) (by decide) rfl (by decide) ?_
                refine z_aload dX10_node_76 rfl ?_
                refine z_iload_n dX10_node_78 rfl ?_
                refine zcall2 (zck_V (na := 1) (ci := 4) (R' := rX3_parentOf) (M' := mX3_parentOf) (fun _ _ _ _ => tvX3_parentOf) (by decide) kX3_parentOf lX10_243 (by decide +kernel) rfl) dX10_node_79 (Nat.le_of_ble_eq_true rfl) (Nat.le_of_ble_eq_true rfl) (Nat.le_of_ble_eq_true rfl) ?_
                refine ⟨_, _, _, _, _, zt i, (by rw [← hi.1]), hk, rfl, hp, (by omega), (by omega), ?_⟩
                refine z_ireturn dX10_node_82 trivial (Nat.le_of_ble_eq_true rfl) (Nat.le_of_ble_eq_true rfl) ?_
                rw [w1 _ hi.2]
                have hr9 := hr.symm
                rw [hr9] at hK
                exact hK (hC0.mono (by omega))
              · refine z_tableIn (t := 83) dX10_node_49 (by decide) (by decide) rfl (by decide) ?_
                refine z_aload dX10_node_83 rfl ?_
                refine z_iload_n dX10_node_85 rfl ?_
                refine zcall2 (zck_V (na := 1) (ci := 4) (R' := rX3_byteOf) (M' := mX3_byteOf) (fun _ _ _ _ => tvX3_byteOf) (by decide) kX3_byteOf lX10_246 (by decide +kernel) rfl) dX10_node_86 (Nat.le_of_ble_eq_true rfl) (Nat.le_of_ble_eq_true rfl) (Nat.le_of_ble_eq_true rfl) ?_
                refine ⟨_, _, _, _, _, zt i, (by rw [← hi.1]), hk, rfl, hb, (by omega), (by omega), ?_⟩
                refine z_ireturn dX10_node_89 trivial (Nat.le_of_ble_eq_true rfl) (Nat.le_of_ble_eq_true rfl) ?_
                rw [w2 _ hi.2]
                have hr9 := hr.symm
                rw [hr9] at hK
                exact hK (hC0.mono (by omega))
              · refine z_tableIn (t := 90) dX10_node_49 (by decide) (by decide) rfl (by decide) ?_
                refine z_aload dX10_node_90 rfl ?_
                refine z_iload_n dX10_node_92 rfl ?_
                refine zcall2 (zck_V (na := 1) (ci := 4) (R' := rX3_countOf) (M' := mX3_countOf) (fun _ _ _ _ => tvX3_countOf) (by decide) kX3_countOf lX10_249 (by decide +kernel) rfl) dX10_node_93 (Nat.le_of_ble_eq_true rfl) (Nat.le_of_ble_eq_true rfl) (Nat.le_of_ble_eq_true rfl) ?_
                refine ⟨_, _, _, _, _, zt i, (by rw [← hi.1]), hk, rfl, hc, (by omega), (by omega), ?_⟩
                refine z_ireturn dX10_node_96 trivial (Nat.le_of_ble_eq_true rfl) (Nat.le_of_ble_eq_true rfl) ?_
                rw [w3 _ hi.2]
                have hr9 := hr.symm
                rw [hr9] at hK
                exact hK (hC0.mono (by omega))
              · refine z_tableOut (t := 97) dX10_node_49 (Or.inr (by decide)) (by decide) ?_
                refine z_aload dX10_node_97 rfl ?_
                refine z_iload_n dX10_node_99 rfl ?_
                refine zcall2 (zck_V (na := 1) (ci := 4) (R' := rX3_stepsTo) (M' := mX3_stepsTo) (fun _ _ _ _ => tvX3_stepsTo) (by decide) kX3_stepsTo lX10_252 (by decide +kernel) rfl) dX10_node_100 (Nat.le_of_ble_eq_true rfl) (Nat.le_of_ble_eq_true rfl) (Nat.le_of_ble_eq_true rfl) ?_
                refine ⟨zmk _, o, rm, _, _, _, _, _, zt i, (by rw [← hi.1]), pp, hi.2, ?_⟩
                refine z_ireturn dX10_node_103 trivial (Nat.le_of_ble_eq_true rfl) (Nat.le_of_ble_eq_true rfl) ?_
                have hr9 := hr.symm
                rw [hr9] at hK
                exact hK (hC0.mono (by omega))
            · rw [if_neg (fun p => q35 p.2)] at hq
              cases hq
        · rw [show zQno M 1 i w = some (-1) from if_neg (fun p => q13 ((zin_le (u := 3) (by decide)).mpr p.2).2)] at hq
          cases hq
          refine z_iconst (w := -1) dX10_node_16 (by decide) ?_
          refine z_ireturn dX10_node_17 trivial (Nat.le_of_ble_eq_true rfl) (Nat.le_of_ble_eq_true rfl) ?_
          exact hK (hC0.mono (by omega))

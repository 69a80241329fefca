/-! the class: calls on models -/
theorem zpS.mM {G : zC} {h : zH} {n x b t o rm k0 : Nat} {M M' : Nat → zMs} (H : zpS G h n x b t o rm k0 M) (e : ∀ i, i < k0 → M' (3 + i) = M (3 + i)) : zpS G h n x b t o rm k0 M' := by
  obtain ⟨mc, e9, k, f, sm, N, s1, s2, s3, s4, s5, s6, s7, s8⟩ := H
  exact ⟨mc, e9, k, f, sm, N, s1, s2, s3, s4, s5, fun i hi => (s6 i hi).trans (e i hi).symm, s7, s8⟩
abbrev rX10_nodes : Room := ⟨1, 0, 0, 40⟩
def SX10_nodes (G : zC) : zS := fun as h n K => ∃ (x b t rn : Nat) (o rm : Nat) (a tx : Nat → Nat) (gg : Nat → Int32) (rx : Nat → Nat) (M : Nat → zMs) (z : Nat → Int32) (XX : Nat → Nat) (F : Nat → Option Nat) (e : Int32), as = [.ref x, .int e] ∧ zOkS o rm a tx M ∧ zCS G h n x b t rn o rm a tx gg rx M z XX F ∧ rn ≤ 100000 ∧ ∀ h' n', zCS G h' n' x b t (rn + 302) o rm a tx gg rx M z XX F → zfrm x b h h' → n ≤ n' → K (some (.int (zQnd M e))) h' n'
set_option maxRecDepth 100000 in
theorem tvX10_nodes {G : zC} {as : List Value} {h : zH} {n : Nat} {K : zP} (hs : SX10_nodes G as h n K) : (∃ b fs r, as = .ref b :: r ∧ h b = some (.inr (10, fs))) ∧ zCt G rX10_nodes mX10_nodes as h n K := by
  obtain ⟨x, b, t, rn, o, rm, a, tx, gg, rx, M, z, XX, F, e, rfl, hB, hC, hrn, hK⟩ := hs
  have hC0 := hC
  obtain ⟨b1, b2, b3, b4, b5, b6, b7, b8, btx, bM⟩ := hB
  obtain ⟨rO, tO, rM, tM, tr, kt, rt, Nt, c0, cO, cM, cb, cn, ck, pT, pO, pR, pU, pA, pB, pN, pS, pL, pE, pP, pW, pD⟩ := hC
  refine ⟨⟨_, _, _, rfl, c0⟩, zCt.of (by decide) (Nat.le_of_ble_eq_true rfl) ?_⟩
  refine z_iload_n dX10_nodes_0 rfl ?_
  refine zcall1 (zck_S (R' := rX10_isEnd) (M' := mX10_isEnd) (fun _ _ _ _ => tX10_isEnd) kX10_isEnd lX10_226 (by decide +kernel) rfl) dX10_nodes_1 (Nat.le_of_ble_eq_true rfl) (Nat.le_of_ble_eq_true rfl) (Nat.le_of_ble_eq_true rfl) ?_
  refine ⟨_, rfl, ?_⟩
  refine z_if_eq (t := 18) dX10_nodes_4 (by decide) (fun q4 => ?_) (fun q4 => ?_)
  · rw [show zQnd M e = -1 from if_neg (zi10.mp q4)] at hK
    refine z_iconst (w := -1) dX10_nodes_18 (by decide) ?_
    refine z_ireturn dX10_nodes_19 trivial (Nat.le_of_ble_eq_true rfl) (Nat.le_of_ble_eq_true rfl) ?_
    exact hK h n (hC0.mono (by omega)) (fun _ _ _ => rfl) (Nat.le_refl _)
  · rcases zin2.mp (zi11.mp q4) with rfl | rfl
    · refine z_aload_n dX10_nodes_7 rfl ?_
      refine z_iload_n dX10_nodes_8 rfl ?_
      refine zcall2 (zck_V (na := 1) (ci := 10) (R' := rX10_model) (M' := mX10_model) (fun _ _ _ _ => tvX10_model) (by decide) kX10_model lX10_229 (by decide +kernel) rfl) dX10_nodes_9 (Nat.le_of_ble_eq_true rfl) (Nat.le_of_ble_eq_true rfl) (Nat.le_of_ble_eq_true rfl) ?_
      refine ⟨_, _, _, _, _, _, _, _, _, _, .null, .null, _, _, _, _, _, _, _, _, _, _, _, _, rfl, c0, ?_⟩
      rw [if_pos (show (0 : Int32) = 0 from rfl)]
      refine zcall1 (zck_V (na := 0) (ci := 4) (R' := rX3_nodeMany) (M' := mX3_nodeMany) (fun _ _ _ _ => tvX3_nodeMany) (by decide) kX3_nodeMany lX10_233 (by decide +kernel) rfl) dX10_nodes_12 (Nat.le_of_ble_eq_true rfl) (Nat.le_of_ble_eq_true rfl) (Nat.le_of_ble_eq_true rfl) ?_
      refine ⟨_, _, _, rfl, pA.obj, rfl, ?_⟩
      refine z_goto (t := 19) dX10_nodes_15 (by decide) ?_
      refine z_ireturn dX10_nodes_19 trivial (Nat.le_of_ble_eq_true rfl) (Nat.le_of_ble_eq_true rfl) ?_
      rw [show zQnd M 0 = nI (M 0).1.1 from if_pos (by decide)] at hK
      exact hK h n (hC0.mono (by omega)) (fun _ _ _ => rfl) (Nat.le_refl _)
    · refine z_aload_n dX10_nodes_7 rfl ?_
      refine z_iload_n dX10_nodes_8 rfl ?_
      refine zcall2 (zck_V (na := 1) (ci := 10) (R' := rX10_model) (M' := mX10_model) (fun _ _ _ _ => tvX10_model) (by decide) kX10_model lX10_229 (by decide +kernel) rfl) dX10_nodes_9 (Nat.le_of_ble_eq_true rfl) (Nat.le_of_ble_eq_true rfl) (Nat.le_of_ble_eq_true rfl) ?_
      refine ⟨_, _, _, _, _, _, _, _, _, _, .null, .null, _, _, _, _, _, _, _, _, _, _, _, _, rfl, c0, ?_⟩
      rw [if_neg (show ¬ (1 : Int32) = 0 by decide)]
      refine zcall1 (zck_V (na := 0) (ci := 4) (R' := rX3_nodeMany) (M' := mX3_nodeMany) (fun _ _ _ _ => tvX3_nodeMany) (by decide) kX3_nodeMany lX10_233 (by decide +kernel) rfl) dX10_nodes_12 (Nat.le_of_ble_eq_true rfl) (Nat.le_of_ble_eq_true rfl) (Nat.le_of_ble_eq_true rfl) ?_
      refine ⟨_, _, _, rfl, pB.obj, rfl, ?_⟩
      refine z_goto (t := 19) dX10_nodes_15 (by decide) ?_
      refine z_ireturn dX10_nodes_19 trivial (Nat.le_of_ble_eq_true rfl) (Nat.le_of_ble_eq_true rfl) ?_
      rw [show zQnd M 1 = nI (M 1).1.1 from if_pos (by decide)] at hK
      exact hK h n (hC0.mono (by omega)) (fun _ _ _ => rfl) (Nat.le_refl _)
abbrev rX10_latest : Room := ⟨2, 0, 0, 80⟩
def SX10_latest (G : zC) : zS := fun as h n K => ∃ (x b t rn : Nat) (o rm : Nat) (a tx : Nat → Nat) (gg : Nat → Int32) (rx : Nat → Nat) (M : Nat → zMs) (z : Nat → Int32) (XX : Nat → Nat) (F : Nat → Option Nat) (e i : Int32), as = [.ref x, .int e, .int i] ∧ zOkS o rm a tx M ∧ zCS G h n x b t rn o rm a tx gg rx M z XX F ∧ rn ≤ 100000 ∧ ∀ h' n', zCS G h' n' x b t (rn + 302) o rm a tx gg rx M z XX F → zfrm x b h h' → n ≤ n' → K (some (.int (zQla M e i))) h' n'
set_option maxRecDepth 100000 in
theorem tvX10_latest {G : zC} {as : List Value} {h : zH} {n : Nat} {K : zP} (hs : SX10_latest G as h n K) : (∃ b fs r, as = .ref b :: r ∧ h b = some (.inr (10, fs))) ∧ zCt G rX10_latest mX10_latest as h n K := by
  obtain ⟨x, b, t, rn, o, rm, a, tx, gg, rx, M, z, XX, F, e, i, rfl, hB, hC, hrn, hK⟩ := hs
  have hC0 := hC
  obtain ⟨b1, b2, b3, b4, b5, b6, b7, b8, btx, bM⟩ := hB
  obtain ⟨rO, tO, rM, tM, tr, kt, rt, Nt, c0, cO, cM, cb, cn, ck, pT, pO, pR, pU, pA, pB, pN, pS, pL, pE, pP, pW, pD⟩ := hC
  refine ⟨⟨_, _, _, rfl, c0⟩, zCt.of (by decide) (Nat.le_of_ble_eq_true rfl) ?_⟩
  refine z_iload_n dX10_latest_0 rfl ?_
  refine zcall1 (zck_S (R' := rX10_isEnd) (M' := mX10_isEnd) (fun _ _ _ _ => tX10_isEnd) kX10_isEnd lX10_226 (by decide +kernel) rfl) dX10_latest_1 (Nat.le_of_ble_eq_true rfl) (Nat.le_of_ble_eq_true rfl) (Nat.le_of_ble_eq_true rfl) ?_
  refine ⟨_, rfl, ?_⟩
  refine z_if_eq (t := 23) dX10_latest_4 (by decide) (fun q4 => ?_) (fun q4 => ?_)
  · rw [show zQla M e i = -1 from if_neg (fun p => zi10.mp q4 p.1)] at hK
    refine z_iconst (w := -1) dX10_latest_23 (by decide) ?_
    refine z_ireturn dX10_latest_24 trivial (Nat.le_of_ble_eq_true rfl) (Nat.le_of_ble_eq_true rfl) ?_
    exact hK h n (hC0.mono (by omega)) (fun _ _ _ => rfl) (Nat.le_refl _)
  · rcases zin2.mp (zi11.mp q4) with rfl | rfl
    · refine z_iload_n dX10_latest_7 rfl ?_
      refine z_if_lt (t := 23) dX10_latest_8 (by decide) (fun q8 => ?_) (fun q8 => ?_)
      · rw [show zQla M 0 i = -1 from if_neg (fun p => absurd q8 (Int32.not_lt.mpr p.2.1))] at hK
        refine z_iconst (w := -1) dX10_latest_23 (by decide) ?_
        refine z_ireturn dX10_latest_24 trivial (Nat.le_of_ble_eq_true rfl) (Nat.le_of_ble_eq_true rfl) ?_
        exact hK h n (hC0.mono (by omega)) (fun _ _ _ => rfl) (Nat.le_refl _)
      · refine z_iload_n dX10_latest_11 rfl ?_
        refine z_aload_n dX10_latest_12 rfl ?_
        refine z_iload_n dX10_latest_13 rfl ?_
        refine zcall2 (zck_V (na := 1) (ci := 10) (R' := rX10_model) (M' := mX10_model) (fun _ _ _ _ => tvX10_model) (by decide) kX10_model lX10_229 (by decide +kernel) rfl) dX10_latest_14 (Nat.le_of_ble_eq_true rfl) (Nat.le_of_ble_eq_true rfl) (Nat.le_of_ble_eq_true rfl) ?_
        refine ⟨_, _, _, _, _, _, _, _, _, _, .null, .null, _, _, _, _, _, _, _, _, _, _, _, _, rfl, c0, ?_⟩
        rw [if_pos (show (0 : Int32) = 0 from rfl)]
        refine zcall1 (zck_V (na := 0) (ci := 4) (R' := rX3_latestMany) (M' := mX3_latestMany) (fun _ _ _ _ => tvX3_latestMany) (by decide) kX3_latestMany lX10_255 (by decide +kernel) rfl) dX10_latest_17 (Nat.le_of_ble_eq_true rfl) (Nat.le_of_ble_eq_true rfl) (Nat.le_of_ble_eq_true rfl) ?_
        refine ⟨_, _, _, rfl, pA.obj, rfl, ?_⟩
        refine z_icmp_lt (t := 25) dX10_latest_20 (by decide) (fun q20 => ?_) (fun q20 => ?_)
        · have hin : zIn i (M 0).2.2.1 := ⟨Int32.not_lt.mp q8, q20⟩
          have hi := zIn.nat hin (by have := (bM 0 (zSlot.e (by decide))).2.2.2.1; omega)
          refine z_aload_n dX10_latest_25 rfl ?_
          refine z_iload_n dX10_latest_26 rfl ?_
          refine zcall2 (zck_V (na := 1) (ci := 10) (R' := rX10_model) (M' := mX10_model) (fun _ _ _ _ => tvX10_model) (by decide) kX10_model lX10_229 (by decide +kernel) rfl) dX10_latest_27 (Nat.le_of_ble_eq_true rfl) (Nat.le_of_ble_eq_true rfl) (Nat.le_of_ble_eq_true rfl) ?_
          refine ⟨_, _, _, _, _, _, _, _, _, _, .null, .null, _, _, _, _, _, _, _, _, _, _, _, _, rfl, c0, ?_⟩
          rw [if_pos (show (0 : Int32) = 0 from rfl)]
          refine z_iload_n dX10_latest_30 rfl ?_
          refine zcall2 (zck_V (na := 1) (ci := 4) (R' := rX3_latestByte) (M' := mX3_latestByte) (fun _ _ _ _ => tvX3_latestByte) (by decide) kX3_latestByte lX10_258 (by decide +kernel) rfl) dX10_latest_31 (Nat.le_of_ble_eq_true rfl) (Nat.le_of_ble_eq_true rfl) (Nat.le_of_ble_eq_true rfl) ?_
          obtain ⟨P, B, C, F9, X9, L, U, ⟨hk, hp, hb, hc, hf, hx, hl, hu, hdj, ho4, hr8, hr15, hnr, hlo⟩, -, -, hL, -⟩ := pA
          refine ⟨_, _, _, _, L, zt i, (by rw [← hi.1]), hk, rfl, hl, (by omega), (by omega), ?_⟩
          rw [hL _ hi.2]
          refine z_ireturn dX10_latest_34 trivial (Nat.le_of_ble_eq_true rfl) (Nat.le_of_ble_eq_true rfl) ?_
          rw [show zQla M 0 i = nI ((M 0).2.2.2.1 (zt i)) from if_pos ⟨by decide, hin⟩] at hK
          exact hK h n (hC0.mono (by omega)) (fun _ _ _ => rfl) (Nat.le_refl _)
        · rw [show zQla M 0 i = -1 from if_neg (fun p => q20 p.2.2)] at hK
          refine z_iconst (w := -1) dX10_latest_23 (by decide) ?_
          refine z_ireturn dX10_latest_24 trivial (Nat.le_of_ble_eq_true rfl) (Nat.le_of_ble_eq_true rfl) ?_
          exact hK h n (hC0.mono (by omega)) (fun _ _ _ => rfl) (Nat.le_refl _)
    · refine z_iload_n dX10_latest_7 rfl ?_
      refine z_if_lt (t := 23) dX10_latest_8 (by decide) (fun q8 => ?_) (fun q8 => ?_)
      · rw [show zQla M 1 i = -1 from if_neg (fun p => absurd q8 (Int32.not_lt.mpr p.2.1))] at hK
        refine z_iconst (w := -1) dX10_latest_23 (by decide) ?_
        refine z_ireturn dX10_latest_24 trivial (Nat.le_of_ble_eq_true rfl) (Nat.le_of_ble_eq_true rfl) ?_
        exact hK h n (hC0.mono (by omega)) (fun _ _ _ => rfl) (Nat.le_refl _)
      · refine z_iload_n dX10_latest_11 rfl ?_
        refine z_aload_n dX10_latest_12 rfl ?_
        refine z_iload_n dX10_latest_13 rfl ?_
        refine zcall2 (zck_V (na := 1) (ci := 10) (R' := rX10_model) (M' := mX10_model) (fun _ _ _ _ => tvX10_model) (by decide) kX10_model lX10_229 (by decide +kernel) rfl) dX10_latest_14 (Nat.le_of_ble_eq_true rfl) (Nat.le_of_ble_eq_true rfl) (Nat.le_of_ble_eq_true rfl) ?_
        refine ⟨_, _, _, _, _, _, _, _, _, _, .null, .null, _, _, _, _, _, _, _, _, _, _, _, _, rfl, c0, ?_⟩
        rw [if_neg (show ¬ (1 : Int32) = 0 by decide)]
        refine zcall1 (zck_V (na := 0) (ci := 4) (R' := rX3_latestMany) (M' := mX3_latestMany) (fun _ _ _ _ => tvX3_latestMany) (by decide) kX3_latestMany lX10_255 (by decide +kernel) rfl) dX10_latest_17 (Nat.le_of_ble_eq_true rfl) (Nat.le_of_ble_eq_true rfl) (Nat.le_of_ble_eq_true rfl) ?_
        refine ⟨_, _, _, rfl, pB.obj, rfl, ?_⟩
        refine z_icmp_lt (t := 25) dX10_latest_20 (by decide) (fun q20 => ?_) (fun q20 => ?_)
        · have hin : zIn i (M 1).2.2.1 := ⟨Int32.not_lt.mp q8, q20⟩
          have hi := zIn.nat hin (by have := (bM 1 (zSlot.e (by decide))).2.2.2.1; omega)
          refine z_aload_n dX10_latest_25 rfl ?_
          refine z_iload_n dX10_latest_26 rfl ?_
          refine zcall2 (zck_V (na := 1) (ci := 10) (R' := rX10_model) (M' := mX10_model) (fun _ _ _ _ => tvX10_model) (by decide) kX10_model lX10_229 (by decide +kernel) rfl) dX10_latest_27 (Nat.le_of_ble_eq_true rfl) (Nat.le_of_ble_eq_true rfl) (Nat.le_of_ble_eq_true rfl) ?_
          refine ⟨_, _, _, _, _, _, _, _, _, _, .null, .null, _, _, _, _, _, _, _, _, _, _, _, _, rfl, c0, ?_⟩
          rw [if_neg (show ¬ (1 : Int32) = 0 by decide)]
          refine z_iload_n dX10_latest_30 rfl ?_
          refine zcall2 (zck_V (na := 1) (ci := 4) (R' := rX3_latestByte) (M' := mX3_latestByte) (fun _ _ _ _ => tvX3_latestByte) (by decide) kX3_latestByte lX10_258 (by decide +kernel) rfl) dX10_latest_31 (Nat.le_of_ble_eq_true rfl) (Nat.le_of_ble_eq_true rfl) (Nat.le_of_ble_eq_true rfl) ?_
          obtain ⟨P, B, C, F9, X9, L, U, ⟨hk, hp, hb, hc, hf, hx, hl, hu, hdj, ho4, hr8, hr15, hnr, hlo⟩, -, -, hL, -⟩ := pB
          refine ⟨_, _, _, _, L, zt i, (by rw [← hi.1]), hk, rfl, hl, (by omega), (by omega), ?_⟩
          rw [hL _ hi.2]
          refine z_ireturn dX10_latest_34 trivial (Nat.le_of_ble_eq_true rfl) (Nat.le_of_ble_eq_true rfl) ?_
          rw [show zQla M 1 i = nI ((M 1).2.2.2.1 (zt i)) from if_pos ⟨by decide, hin⟩] at hK
          exact hK h n (hC0.mono (by omega)) (fun _ _ _ => rfl) (Nat.le_refl _)
        · rw [show zQla M 1 i = -1 from if_neg (fun p => q20 p.2.2)] at hK
          refine z_iconst (w := -1) dX10_latest_23 (by decide) ?_
          refine z_ireturn dX10_latest_24 trivial (Nat.le_of_ble_eq_true rfl) (Nat.le_of_ble_eq_true rfl) ?_
          exact hK h n (hC0.mono (by omega)) (fun _ _ _ => rfl) (Nat.le_refl _)
abbrev rX10_reset : Room := ⟨2, 0, 0, 80⟩
def SX10_reset (G : zC) : zS := fun as h n K => ∃ (x b t rn : Nat) (o rm : Nat) (a tx : Nat → Nat) (gg : Nat → Int32) (rx : Nat → Nat) (M : Nat → zMs) (z : Nat → Int32) (XX : Nat → Nat) (F : Nat → Option Nat) (e : Int32), as = [.ref x, .int e] ∧ zOkS o rm a tx M ∧ zCS G h n x b t rn o rm a tx gg rx M z XX F ∧ rn ≤ 100000 ∧ ∀ h' n', zCS G h' n' x b t (rn + 302) o rm a tx gg rx (zRes M e).1 z XX F → zfrm x b h h' → n ≤ n' → K (some (.int (zRes M e).2)) h' n'
set_option maxRecDepth 100000 in
theorem tvX10_reset {G : zC} {as : List Value} {h : zH} {n : Nat} {K : zP} (hs : SX10_reset G as h n K) : (∃ b fs r, as = .ref b :: r ∧ h b = some (.inr (10, fs))) ∧ zCt G rX10_reset mX10_reset as h n K := by
  obtain ⟨x, b, t, rn, o, rm, a, tx, gg, rx, M, z, XX, F, e, rfl, hB, hC, hrn, hK⟩ := hs
  have hC0 := hC
  obtain ⟨b1, b2, b3, b4, b5, b6, b7, b8, btx, bM⟩ := hB
  obtain ⟨rO, tO, rM, tM, tr, kt, rt, Nt, c0, cO, cM, cb, cn, ck, pT, pO, pR, pU, pA, pB, pN, pS, pL, pE, pP, pW, pD⟩ := hC
  refine ⟨⟨_, _, _, rfl, c0⟩, zCt.of (by decide) (Nat.le_of_ble_eq_true rfl) ?_⟩
  refine z_iload_n dX10_reset_0 rfl ?_
  refine zcall1 (zck_S (R' := rX10_isEnd) (M' := mX10_isEnd) (fun _ _ _ _ => tX10_isEnd) kX10_isEnd lX10_226 (by decide +kernel) rfl) dX10_reset_1 (Nat.le_of_ble_eq_true rfl) (Nat.le_of_ble_eq_true rfl) (Nat.le_of_ble_eq_true rfl) ?_
  refine ⟨_, rfl, ?_⟩
  refine z_if_ne (t := 9) dX10_reset_4 (by decide) (fun q4 => ?_) (fun q4 => ?_)
  · rcases zin2.mp (zi11.mp q4) with rfl | rfl
    · refine z_aload_n dX10_reset_9 rfl ?_
      refine z_iload_n dX10_reset_10 rfl ?_
      refine zcall2 (zck_V (na := 1) (ci := 10) (R' := rX10_model) (M' := mX10_model) (fun _ _ _ _ => tvX10_model) (by decide) kX10_model lX10_229 (by decide +kernel) rfl) dX10_reset_11 (Nat.le_of_ble_eq_true rfl) (Nat.le_of_ble_eq_true rfl) (Nat.le_of_ble_eq_true rfl) ?_
      refine ⟨_, _, _, _, _, _, _, _, _, _, .null, .null, _, _, _, _, _, _, _, _, _, _, _, _, rfl, c0, ?_⟩
      rw [if_pos (show (0 : Int32) = 0 from rfl)]
      refine zcall1 (zck_V (na := 0) (ci := 4) (R' := rX3_nodeMany) (M' := mX3_nodeMany) (fun _ _ _ _ => tvX3_nodeMany) (by decide) kX3_nodeMany lX10_233 (by decide +kernel) rfl) dX10_reset_14 (Nat.le_of_ble_eq_true rfl) (Nat.le_of_ble_eq_true rfl) (Nat.le_of_ble_eq_true rfl) ?_
      refine ⟨_, _, _, rfl, pA.obj, rfl, ?_⟩
      refine z_istore_n dX10_reset_17 (Nat.le_of_ble_eq_true rfl) ?_
      refine z_aload_n dX10_reset_18 rfl ?_
      refine z_iload_n dX10_reset_19 rfl ?_
      refine zcall2 (zck_V (na := 1) (ci := 10) (R' := rX10_model) (M' := mX10_model) (fun _ _ _ _ => tvX10_model) (by decide) kX10_model lX10_229 (by decide +kernel) rfl) dX10_reset_20 (Nat.le_of_ble_eq_true rfl) (Nat.le_of_ble_eq_true rfl) (Nat.le_of_ble_eq_true rfl) ?_
      refine ⟨_, _, _, _, _, _, _, _, _, _, .null, .null, _, _, _, _, _, _, _, _, _, _, _, _, rfl, c0, ?_⟩
      rw [if_pos (show (0 : Int32) = 0 from rfl)]
      refine zcall1 (zck_V (na := 0) (ci := 4) (R' := rX3_begin) (M' := mX3_begin) (fun _ _ _ _ => tvX3_begin) (by decide) kX3_begin lX10_261 (by decide +kernel) rfl) dX10_reset_23 (Nat.le_of_ble_eq_true rfl) (Nat.le_of_ble_eq_true rfl) (Nat.le_of_ble_eq_true rfl) ?_
      have pp := pA
      obtain ⟨P, B, C, F9, X9, L, U, hr, -⟩ := pp
      refine ⟨zmk (x + 19), o, rm, _, _, P, B, C, F9, X9, L, U, rfl, hr, fun h1 g1 g2 => ?_⟩
      have hE : ∀ q, ¬ (x + 19 ≤ q ∧ q < x + 19 + 8) → h1 q = h q := fun q hq => g2 q (fun w => hq (zmk_aw.mp w))
      have g9 : zpM G h1 (x + 19) o rm zM0 := g1 _ _ _ _
      refine z_iload_n dX10_reset_26 rfl ?_
      refine z_ireturn dX10_reset_27 trivial (Nat.le_of_ble_eq_true rfl) (Nat.le_of_ble_eq_true rfl) ?_
      rw [show zRes M 0 = (va_up M 0 zM0, nI (M 0).1.1) from if_pos (by decide)] at hK
      dsimp only at hK
      exact hK h1 n ⟨rO, tO, rM, tM, tr, kt, rt, Nt, ((hE _ (by omega)).trans c0), cO, cM, cb, cn, ck, (pT.cg (hE _ (by omega)) (hE _ (by omega))), (pO.cg (hE _ (by omega)) (hE _ (by omega))), (pR.cg (hE _ (by omega)) (hE _ (by omega))), (pU.cg (hE _ (by omega)) (hE _ (by omega))), g9, (zpM.cg pB (fun q z1 z2 => hE q (by omega))), (zpM.cg pN (fun q z1 z2 => hE q (by omega))), (zpS.mM (pS.cg (hE _ (by omega)) (fun q z1 => hE q (by omega)) (Nat.le_refl _)) (fun i _ => va_up_ne _ _ (by omega))), (pL.cg (fun q z1 z2 => hE q (by omega)) (by omega)), (pE.cg (hE _ (by omega))), (pP.cg (fun q z1 z2 => hE q (by omega))), (pW.cg (hE _ (by omega))), (pD.cg (fun q z1 z2 => hE q (by omega)))⟩ (fun q z1 z2 => hE q (by omega)) (Nat.le_refl _)
    · refine z_aload_n dX10_reset_9 rfl ?_
      refine z_iload_n dX10_reset_10 rfl ?_
      refine zcall2 (zck_V (na := 1) (ci := 10) (R' := rX10_model) (M' := mX10_model) (fun _ _ _ _ => tvX10_model) (by decide) kX10_model lX10_229 (by decide +kernel) rfl) dX10_reset_11 (Nat.le_of_ble_eq_true rfl) (Nat.le_of_ble_eq_true rfl) (Nat.le_of_ble_eq_true rfl) ?_
      refine ⟨_, _, _, _, _, _, _, _, _, _, .null, .null, _, _, _, _, _, _, _, _, _, _, _, _, rfl, c0, ?_⟩
      rw [if_neg (show ¬ (1 : Int32) = 0 by decide)]
      refine zcall1 (zck_V (na := 0) (ci := 4) (R' := rX3_nodeMany) (M' := mX3_nodeMany) (fun _ _ _ _ => tvX3_nodeMany) (by decide) kX3_nodeMany lX10_233 (by decide +kernel) rfl) dX10_reset_14 (Nat.le_of_ble_eq_true rfl) (Nat.le_of_ble_eq_true rfl) (Nat.le_of_ble_eq_true rfl) ?_
      refine ⟨_, _, _, rfl, pB.obj, rfl, ?_⟩
      refine z_istore_n dX10_reset_17 (Nat.le_of_ble_eq_true rfl) ?_
      refine z_aload_n dX10_reset_18 rfl ?_
      refine z_iload_n dX10_reset_19 rfl ?_
      refine zcall2 (zck_V (na := 1) (ci := 10) (R' := rX10_model) (M' := mX10_model) (fun _ _ _ _ => tvX10_model) (by decide) kX10_model lX10_229 (by decide +kernel) rfl) dX10_reset_20 (Nat.le_of_ble_eq_true rfl) (Nat.le_of_ble_eq_true rfl) (Nat.le_of_ble_eq_true rfl) ?_
      refine ⟨_, _, _, _, _, _, _, _, _, _, .null, .null, _, _, _, _, _, _, _, _, _, _, _, _, rfl, c0, ?_⟩
      rw [if_neg (show ¬ (1 : Int32) = 0 by decide)]
      refine zcall1 (zck_V (na := 0) (ci := 4) (R' := rX3_begin) (M' := mX3_begin) (fun _ _ _ _ => tvX3_begin) (by decide) kX3_begin lX10_261 (by decide +kernel) rfl) dX10_reset_23 (Nat.le_of_ble_eq_true rfl) (Nat.le_of_ble_eq_true rfl) (Nat.le_of_ble_eq_true rfl) ?_
      have pp := pB
      obtain ⟨P, B, C, F9, X9, L, U, hr, -⟩ := pp
      refine ⟨zmk (rM), o, rm, _, _, P, B, C, F9, X9, L, U, rfl, hr, fun h1 g1 g2 => ?_⟩
      have hE : ∀ q, ¬ (rM ≤ q ∧ q < rM + 8) → h1 q = h q := fun q hq => g2 q (fun w => hq (zmk_aw.mp w))
      have g9 : zpM G h1 (rM) o rm zM0 := g1 _ _ _ _
      refine z_iload_n dX10_reset_26 rfl ?_
      refine z_ireturn dX10_reset_27 trivial (Nat.le_of_ble_eq_true rfl) (Nat.le_of_ble_eq_true rfl) ?_
      rw [show zRes M 1 = (va_up M 1 zM0, nI (M 1).1.1) from if_pos (by decide)] at hK
      dsimp only at hK
      exact hK h1 n ⟨rO, tO, rM, tM, tr, kt, rt, Nt, ((hE _ (by omega)).trans c0), cO, cM, cb, cn, ck, (pT.cg (hE _ (by omega)) (hE _ (by omega))), (pO.cg (hE _ (by omega)) (hE _ (by omega))), (pR.cg (hE _ (by omega)) (hE _ (by omega))), (pU.cg (hE _ (by omega)) (hE _ (by omega))), (zpM.cg pA (fun q z1 z2 => hE q (by omega))), g9, (zpM.cg pN (fun q z1 z2 => hE q (by omega))), (zpS.mM (pS.cg (hE _ (by omega)) (fun q z1 => hE q (by omega)) (Nat.le_refl _)) (fun i _ => va_up_ne _ _ (by omega))), (pL.cg (fun q z1 z2 => hE q (by omega)) (by omega)), (pE.cg (hE _ (by omega))), (pP.cg (fun q z1 z2 => hE q (by omega))), (pW.cg (hE _ (by omega))), (pD.cg (fun q z1 z2 => hE q (by omega)))⟩ (fun q z1 z2 => hE q (by omega)) (Nat.le_refl _)
  · refine z_iconst (w := -1) dX10_reset_7 (by decide) ?_
    refine z_ireturn dX10_reset_8 trivial (Nat.le_of_ble_eq_true rfl) (Nat.le_of_ble_eq_true rfl) ?_
    rw [show zRes M e = (M, -1) from if_neg (zi10.mp q4)] at hK
    exact hK h n (hC0.mono (by omega)) (fun _ _ _ => rfl) (Nat.le_refl _)
abbrev rX10_equal : Room := ⟨3, 0, 0, 120⟩
def SX10_equal (G : zC) : zS := fun as h n K => ∃ (x b t rn : Nat) (o rm : Nat) (a tx : Nat → Nat) (gg : Nat → Int32) (rx : Nat → Nat) (M : Nat → zMs) (z : Nat → Int32) (XX : Nat → Nat) (F : Nat → Option Nat), as = [.ref x] ∧ zOkS o rm a tx M ∧ zCS G h n x b t rn o rm a tx gg rx M z XX F ∧ rn ≤ 100000 ∧ (zLike (M 0).1 (M 0).2.2.1 (M 0).2.2.2.1 (M 1).1 (M 1).2.2.1 (M 1).2.2.2.1 → zCS G h n x b t (rn + 302) o rm a tx gg rx M z XX F → K (some (.int 1)) h n) ∧ (¬ zLike (M 0).1 (M 0).2.2.1 (M 0).2.2.2.1 (M 1).1 (M 1).2.2.1 (M 1).2.2.2.1 → zCS G h n x b t (rn + 302) o rm a tx gg rx M z XX F → K (some (.int 0)) h n)
set_option maxRecDepth 100000 in
theorem tvX10_equal {G : zC} {as : List Value} {h : zH} {n : Nat} {K : zP} (hs : SX10_equal G as h n K) : (∃ b fs r, as = .ref b :: r ∧ h b = some (.inr (10, fs))) ∧ zCt G rX10_equal mX10_equal as h n K := by
  obtain ⟨x, b, t, rn, o, rm, a, tx, gg, rx, M, z, XX, F, rfl, hB, hC, hrn, hK⟩ := hs
  have hC0 := hC
  obtain ⟨b1, b2, b3, b4, b5, b6, b7, b8, btx, bM⟩ := hB
  obtain ⟨rO, tO, rM, tM, tr, kt, rt, Nt, c0, cO, cM, cb, cn, ck, pT, pO, pR, pU, pA, pB, pN, pS, pL, pE, pP, pW, pD⟩ := hC
  refine ⟨⟨_, _, _, rfl, c0⟩, zCt.of (by decide) (Nat.le_of_ble_eq_true rfl) ?_⟩
  refine z_aload_n dX10_equal_0 rfl ?_
  refine z_getfield dX10_equal_1 fX10_79_10 rfl c0 rfl ?_
  refine z_aload_n dX10_equal_4 rfl ?_
  refine z_getfield dX10_equal_5 fX10_83_10 rfl c0 rfl ?_
  refine zcall2 (zck_V (na := 1) (ci := 4) (R' := rX3_isLike) (M' := mX3_isLike) (fun _ _ _ _ => tvX3_isLike) (by decide) kX3_isLike lX10_262 (by decide +kernel) rfl) dX10_equal_8 (Nat.le_of_ble_eq_true rfl) (Nat.le_of_ble_eq_true rfl) (Nat.le_of_ble_eq_true rfl) ?_
  refine ⟨zmk (x + 19), zmk rM, o, rm, _, _, _, _, _, _, _, _, _, _, rfl, pA, pB, fun k1 => ?_, fun k1 => ?_⟩
  · refine z_if_eq (t := 18) dX10_equal_11 (by decide) (fun q11 => ?_) (fun q11 => ?_)
    · exact absurd q11 (by decide)
    · refine z_iconst (w := 1) dX10_equal_14 (by decide) ?_
      refine z_goto (t := 19) dX10_equal_15 (by decide) ?_
      refine z_ireturn dX10_equal_19 trivial (Nat.le_of_ble_eq_true rfl) (Nat.le_of_ble_eq_true rfl) ?_
      exact hK.1 k1 (hC0.mono (by omega))
  · refine z_if_eq (t := 18) dX10_equal_11 (by decide) (fun q11 => ?_) (fun q11 => ?_)
    · refine z_iconst (w := 0) dX10_equal_18 (by decide) ?_
      refine z_ireturn dX10_equal_19 trivial (Nat.le_of_ble_eq_true rfl) (Nat.le_of_ble_eq_true rfl) ?_
      exact hK.2 k1 (hC0.mono (by omega))
    · exact absurd rfl q11
abbrev rX10_cost : Room := ⟨5, 0, 0, 200⟩
def SX10_cost (G : zC) : zS := fun as h n K => ∃ (x b t rn : Nat) (o rm : Nat) (a tx : Nat → Nat) (gg : Nat → Int32) (rx : Nat → Nat) (M : Nat → zMs) (z : Nat → Int32) (XX : Nat → Nat) (F : Nat → Option Nat) (e y : Int32), as = [.ref x, .int e, .int y] ∧ zOkS o rm a tx M ∧ zCS G h n x b t rn o rm a tx gg rx M z XX F ∧ rn ≤ 100000 ∧ ∀ h' r, zCst M e y r → zCS G h' n x b t (rn + 302) o rm a tx gg rx M z XX F → zfrm x b h h' → K (some (.int r)) h' n
set_option maxRecDepth 100000 in
theorem tvX10_cost {G : zC} {as : List Value} {h : zH} {n : Nat} {K : zP} (hs : SX10_cost G as h n K) : (∃ b fs r, as = .ref b :: r ∧ h b = some (.inr (10, fs))) ∧ zCt G rX10_cost mX10_cost as h n K := by
  obtain ⟨x, b, t, rn, o, rm, a, tx, gg, rx, M, z, XX, F, e, y, rfl, hB, hC, hrn, hK⟩ := hs
  have hC0 := hC
  obtain ⟨b1, b2, b3, b4, b5, b6, b7, b8, btx, bM⟩ := hB
  obtain ⟨rO, tO, rM, tM, tr, kt, rt, Nt, c0, cO, cM, cb, cn, ck, pT, pO, pR, pU, pA, pB, pN, pS, pL, pE, pP, pW, pD⟩ := hC
  refine ⟨⟨_, _, _, rfl, c0⟩, zCt.of (by decide) (Nat.le_of_ble_eq_true rfl) ?_⟩
  refine z_iload_n dX10_cost_0 rfl ?_
  refine zcall1 (zck_S (R' := rX10_isEnd) (M' := mX10_isEnd) (fun _ _ _ _ => tX10_isEnd) kX10_isEnd lX10_226 (by decide +kernel) rfl) dX10_cost_1 (Nat.le_of_ble_eq_true rfl) (Nat.le_of_ble_eq_true rfl) (Nat.le_of_ble_eq_true rfl) ?_
  refine ⟨_, rfl, ?_⟩
  refine z_if_eq (t := 18) dX10_cost_4 (by decide) (fun q4 => ?_) (fun q4 => ?_)
  · have hno : ¬ (zIn e 2 ∧ zIn y 257) := fun p => zi10.mp q4 p.1
    refine z_iconst (w := -1) dX10_cost_18 (by decide) ?_
    refine z_ireturn dX10_cost_19 trivial (Nat.le_of_ble_eq_true rfl) (Nat.le_of_ble_eq_true rfl) ?_
    exact hK h (-1) (Or.inl ⟨hno, rfl⟩) (hC0.mono (by omega)) (fun _ _ _ => rfl)
  · rcases zin2.mp (zi11.mp q4) with rfl | rfl
    · refine z_iload_n dX10_cost_7 rfl ?_
      refine z_if_lt (t := 18) dX10_cost_8 (by decide) (fun q8 => ?_) (fun q8 => ?_)
      · have hno : ¬ (zIn 0 2 ∧ zIn y 257) := fun p => absurd q8 (Int32.not_lt.mpr p.2.1)
        refine z_iconst (w := -1) dX10_cost_18 (by decide) ?_
        refine z_ireturn dX10_cost_19 trivial (Nat.le_of_ble_eq_true rfl) (Nat.le_of_ble_eq_true rfl) ?_
        exact hK h (-1) (Or.inl ⟨hno, rfl⟩) (hC0.mono (by omega)) (fun _ _ _ => rfl)
      · refine z_iload_n dX10_cost_11 rfl ?_
        refine z_sipush (w := 256) dX10_cost_12 (by decide) ?_
        refine z_icmp_le (t := 20) dX10_cost_15 (by decide) (fun q15 => ?_) (fun q15 => ?_)
        · have hin : zIn y 257 := (zin_le (u := 256) (by decide)).mp ⟨Int32.not_lt.mp q8, q15⟩
          have hi := zIn.nat hin (by decide)
          refine z_aload_n dX10_cost_20 rfl ?_
          refine z_getfield dX10_cost_21 fX10_44_10 rfl (by first | exact c0 | exact (hE _ (by omega)).trans c0 | exact (hE2 _ (by omega)).trans c0) rfl ?_
          refine z_iload_n dX10_cost_24 rfl ?_
          refine zcall2 (zck_V (na := 1) (ci := 3) (R' := rX2_begin) (M' := mX2_begin) (fun _ _ _ _ => tvX2_begin) (by decide) kX2_begin lX10_280 (by decide +kernel) rfl) dX10_cost_25 (Nat.le_of_ble_eq_true rfl) (Nat.le_of_ble_eq_true rfl) (Nat.le_of_ble_eq_true rfl) ?_
          obtain ⟨m0, m1, pE1⟩ := pE
          refine ⟨_, _, _, _, rfl, pE1, fun h1 g1 g2 => ?_⟩
          have hE : ∀ q, ¬ q = x + 15 → h1 q = h q := fun q hq => g2 q hq
          refine z_aload_n dX10_cost_28 rfl ?_
          refine z_getfield dX10_cost_29 fX10_37_10 rfl (by first | exact c0 | exact (hE _ (by omega)).trans c0 | exact (hE2 _ (by omega)).trans c0) rfl ?_
          refine z_aload_n dX10_cost_32 rfl ?_
          refine z_iload_n dX10_cost_33 rfl ?_
          refine zcall2 (zck_V (na := 1) (ci := 10) (R' := rX10_model) (M' := mX10_model) (fun _ _ _ _ => tvX10_model) (by decide) kX10_model lX10_229 (by decide +kernel) rfl) dX10_cost_34 (Nat.le_of_ble_eq_true rfl) (Nat.le_of_ble_eq_true rfl) (Nat.le_of_ble_eq_true rfl) ?_
          refine ⟨_, _, _, _, _, _, _, _, _, _, .null, .null, _, _, _, _, _, _, _, _, _, _, _, _, rfl, ((hE _ (by omega)).trans c0), ?_⟩
          rw [if_pos (show (0 : Int32) = 0 from rfl)]
          refine z_aload_n dX10_cost_37 rfl ?_
          refine z_getfield dX10_cost_38 fX10_44_10 rfl (by first | exact c0 | exact (hE _ (by omega)).trans c0 | exact (hE2 _ (by omega)).trans c0) rfl ?_
          refine zcall3 (zck_V (na := 2) (ci := 8) (R' := rX8_tell_3) (M' := mX8_tell) (fun _ _ _ _ => tvX8_tell_3) (by decide) kX8_tell lX10_181 (by decide +kernel) rfl) dX10_cost_41 (Nat.le_of_ble_eq_true rfl) (Nat.le_of_ble_eq_true rfl) (Nat.le_of_ble_eq_true rfl) ?_
          obtain ⟨R, E, ex, es9, fi, L, l1, l2, l3⟩ := pL
          have hMi := bM 0 (zSlot.e (by decide))
          refine ⟨x + 10, x + 11, x + 12, x + 13, x + 14, R, ex, es9, fi, E, L, zmk (x + 19), o, rm, _, _, _, _, _, x + 15, zt y, 0, rfl, l1.to (hE _ (by omega)) (hE _ (by omega)), l2.to (hE _ (by omega)) (hE _ (by omega)) (hE _ (by omega)), (by omega), (by omega), zpM.cg pA (fun q z1 z2 => hE q (by omega)), hMi.2.1, (fun q hq => by have := zmk_aw.mp hq; omega), (fun j hj => (hMi.2.2.2.2.2.2.1 j hj).1), (by omega), (by rw [g1, ← hi.1]), (by omega), fun h2 yy d1 d2 d3 d4 d5 => ?_⟩
          have hE2 : ∀ q, ¬ (x + 10 ≤ q ∧ q < x + 16) → h2 q = h q := fun q hq => (d5 q (by omega) (by omega) (by omega) (by omega) (by omega) (by omega)).trans (hE q (by omega))
          refine z_pop dX10_cost_44 rfl ?_
          refine z_aload_n dX10_cost_45 rfl ?_
          refine z_getfield dX10_cost_46 fX10_44_10 rfl (by first | exact c0 | exact (hE _ (by omega)).trans c0 | exact (hE2 _ (by omega)).trans c0) rfl ?_
          refine zcall1 (zck_V (na := 0) (ci := 3) (R' := rX2_sum) (M' := mX2_sum) (fun _ _ _ _ => tvX2_sum) (by decide) kX2_sum lX10_282 (by decide +kernel) rfl) dX10_cost_49 (Nat.le_of_ble_eq_true rfl) (Nat.le_of_ble_eq_true rfl) (Nat.le_of_ble_eq_true rfl) ?_
          refine ⟨_, _, _, rfl, d3, rfl, ?_⟩
          refine z_ireturn dX10_cost_52 trivial (Nat.le_of_ble_eq_true rfl) (Nat.le_of_ble_eq_true rfl) ?_
          obtain ⟨L2, d4⟩ := d4
          exact hK h2 yy.1 (Or.inr ⟨by decide, hin, yy, d1, rfl⟩) ⟨rO, tO, rM, tM, tr, kt, rt, Nt, ((hE2 _ (by omega)).trans c0), cO, cM, cb, cn, ck, (pT.cg (hE2 _ (by omega)) (hE2 _ (by omega))), (pO.cg (hE2 _ (by omega)) (hE2 _ (by omega))), (pR.cg (hE2 _ (by omega)) (hE2 _ (by omega))), (pU.cg (hE2 _ (by omega)) (hE2 _ (by omega))), (zpM.cg pA (fun q z1 z2 => hE2 q (by omega))), (zpM.cg pB (fun q z1 z2 => hE2 q (by omega))), (zpM.cg pN (fun q z1 z2 => hE2 q (by omega))), (pS.cg (hE2 _ (by omega)) (fun q z1 => hE2 q (by omega)) (Nat.le_refl _)), ⟨_, _, _, _, _, L2, d2, d4, by omega⟩, ⟨_, _, d3⟩, (pP.cg (fun q z1 z2 => hE2 q (by omega))), (pW.cg (hE2 _ (by omega))), (pD.cg (fun q z1 z2 => hE2 q (by omega)))⟩ (fun q z1 z2 => hE2 q (by omega))
        · have hno : ¬ (zIn 0 2 ∧ zIn y 257) := fun p => q15 ((zin_le (u := 256) (by decide)).mpr p.2).2
          refine z_iconst (w := -1) dX10_cost_18 (by decide) ?_
          refine z_ireturn dX10_cost_19 trivial (Nat.le_of_ble_eq_true rfl) (Nat.le_of_ble_eq_true rfl) ?_
          exact hK h (-1) (Or.inl ⟨hno, rfl⟩) (hC0.mono (by omega)) (fun _ _ _ => rfl)
    · refine z_iload_n dX10_cost_7 rfl ?_
      refine z_if_lt (t := 18) dX10_cost_8 (by decide) (fun q8 => ?_) (fun q8 => ?_)
      · have hno : ¬ (zIn 1 2 ∧ zIn y 257) := fun p => absurd q8 (Int32.not_lt.mpr p.2.1)
        refine z_iconst (w := -1) dX10_cost_18 (by decide) ?_
        refine z_ireturn dX10_cost_19 trivial (Nat.le_of_ble_eq_true rfl) (Nat.le_of_ble_eq_true rfl) ?_
        exact hK h (-1) (Or.inl ⟨hno, rfl⟩) (hC0.mono (by omega)) (fun _ _ _ => rfl)
      · refine z_iload_n dX10_cost_11 rfl ?_
        refine z_sipush (w := 256) dX10_cost_12 (by decide) ?_
        refine z_icmp_le (t := 20) dX10_cost_15 (by decide) (fun q15 => ?_) (fun q15 => ?_)
        · have hin : zIn y 257 := (zin_le (u := 256) (by decide)).mp ⟨Int32.not_lt.mp q8, q15⟩
          have hi := zIn.nat hin (by decide)
          refine z_aload_n dX10_cost_20 rfl ?_
          refine z_getfield dX10_cost_21 fX10_44_10 rfl (by first | exact c0 | exact (hE _ (by omega)).trans c0 | exact (hE2 _ (by omega)).trans c0) rfl ?_
          refine z_iload_n dX10_cost_24 rfl ?_
          refine zcall2 (zck_V (na := 1) (ci := 3) (R' := rX2_begin) (M' := mX2_begin) (fun _ _ _ _ => tvX2_begin) (by decide) kX2_begin lX10_280 (by decide +kernel) rfl) dX10_cost_25 (Nat.le_of_ble_eq_true rfl) (Nat.le_of_ble_eq_true rfl) (Nat.le_of_ble_eq_true rfl) ?_
          obtain ⟨m0, m1, pE1⟩ := pE
          refine ⟨_, _, _, _, rfl, pE1, fun h1 g1 g2 => ?_⟩
          have hE : ∀ q, ¬ q = x + 15 → h1 q = h q := fun q hq => g2 q hq
          refine z_aload_n dX10_cost_28 rfl ?_
          refine z_getfield dX10_cost_29 fX10_37_10 rfl (by first | exact c0 | exact (hE _ (by omega)).trans c0 | exact (hE2 _ (by omega)).trans c0) rfl ?_
          refine z_aload_n dX10_cost_32 rfl ?_
          refine z_iload_n dX10_cost_33 rfl ?_
          refine zcall2 (zck_V (na := 1) (ci := 10) (R' := rX10_model) (M' := mX10_model) (fun _ _ _ _ => tvX10_model) (by decide) kX10_model lX10_229 (by decide +kernel) rfl) dX10_cost_34 (Nat.le_of_ble_eq_true rfl) (Nat.le_of_ble_eq_true rfl) (Nat.le_of_ble_eq_true rfl) ?_
          refine ⟨_, _, _, _, _, _, _, _, _, _, .null, .null, _, _, _, _, _, _, _, _, _, _, _, _, rfl, ((hE _ (by omega)).trans c0), ?_⟩
          rw [if_neg (show ¬ (1 : Int32) = 0 by decide)]
          refine z_aload_n dX10_cost_37 rfl ?_
          refine z_getfield dX10_cost_38 fX10_44_10 rfl (by first | exact c0 | exact (hE _ (by omega)).trans c0 | exact (hE2 _ (by omega)).trans c0) rfl ?_
          refine zcall3 (zck_V (na := 2) (ci := 8) (R' := rX8_tell_3) (M' := mX8_tell) (fun _ _ _ _ => tvX8_tell_3) (by decide) kX8_tell lX10_181 (by decide +kernel) rfl) dX10_cost_41 (Nat.le_of_ble_eq_true rfl) (Nat.le_of_ble_eq_true rfl) (Nat.le_of_ble_eq_true rfl) ?_
          obtain ⟨R, E, ex, es9, fi, L, l1, l2, l3⟩ := pL
          have hMi := bM 1 (zSlot.e (by decide))
          refine ⟨x + 10, x + 11, x + 12, x + 13, x + 14, R, ex, es9, fi, E, L, zmk rM, o, rm, _, _, _, _, _, x + 15, zt y, 0, rfl, l1.to (hE _ (by omega)) (hE _ (by omega)), l2.to (hE _ (by omega)) (hE _ (by omega)) (hE _ (by omega)), (by omega), (by omega), zpM.cg pB (fun q z1 z2 => hE q (by omega)), hMi.2.1, (fun q hq => by have := zmk_aw.mp hq; omega), (fun j hj => (hMi.2.2.2.2.2.2.1 j hj).1), (by omega), (by rw [g1, ← hi.1]), (by omega), fun h2 yy d1 d2 d3 d4 d5 => ?_⟩
          have hE2 : ∀ q, ¬ (x + 10 ≤ q ∧ q < x + 16) → h2 q = h q := fun q hq => (d5 q (by omega) (by omega) (by omega) (by omega) (by omega) (by omega)).trans (hE q (by omega))
          refine z_pop dX10_cost_44 rfl ?_
          refine z_aload_n dX10_cost_45 rfl ?_
          refine z_getfield dX10_cost_46 fX10_44_10 rfl (by first | exact c0 | exact (hE _ (by omega)).trans c0 | exact (hE2 _ (by omega)).trans c0) rfl ?_
          refine zcall1 (zck_V (na := 0) (ci := 3) (R' := rX2_sum) (M' := mX2_sum) (fun _ _ _ _ => tvX2_sum) (by decide) kX2_sum lX10_282 (by decide +kernel) rfl) dX10_cost_49 (Nat.le_of_ble_eq_true rfl) (Nat.le_of_ble_eq_true rfl) (Nat.le_of_ble_eq_true rfl) ?_
          refine ⟨_, _, _, rfl, d3, rfl, ?_⟩
          refine z_ireturn dX10_cost_52 trivial (Nat.le_of_ble_eq_true rfl) (Nat.le_of_ble_eq_true rfl) ?_
          obtain ⟨L2, d4⟩ := d4
          exact hK h2 yy.1 (Or.inr ⟨by decide, hin, yy, d1, rfl⟩) ⟨rO, tO, rM, tM, tr, kt, rt, Nt, ((hE2 _ (by omega)).trans c0), cO, cM, cb, cn, ck, (pT.cg (hE2 _ (by omega)) (hE2 _ (by omega))), (pO.cg (hE2 _ (by omega)) (hE2 _ (by omega))), (pR.cg (hE2 _ (by omega)) (hE2 _ (by omega))), (pU.cg (hE2 _ (by omega)) (hE2 _ (by omega))), (zpM.cg pA (fun q z1 z2 => hE2 q (by omega))), (zpM.cg pB (fun q z1 z2 => hE2 q (by omega))), (zpM.cg pN (fun q z1 z2 => hE2 q (by omega))), (pS.cg (hE2 _ (by omega)) (fun q z1 => hE2 q (by omega)) (Nat.le_refl _)), ⟨_, _, _, _, _, L2, d2, d4, by omega⟩, ⟨_, _, d3⟩, (pP.cg (fun q z1 z2 => hE2 q (by omega))), (pW.cg (hE2 _ (by omega))), (pD.cg (fun q z1 z2 => hE2 q (by omega)))⟩ (fun q z1 z2 => hE2 q (by omega))
        · have hno : ¬ (zIn 1 2 ∧ zIn y 257) := fun p => q15 ((zin_le (u := 256) (by decide)).mpr p.2).2
          refine z_iconst (w := -1) dX10_cost_18 (by decide) ?_
          refine z_ireturn dX10_cost_19 trivial (Nat.le_of_ble_eq_true rfl) (Nat.le_of_ble_eq_true rfl) ?_
          exact hK h (-1) (Or.inl ⟨hno, rfl⟩) (hC0.mono (by omega)) (fun _ _ _ => rfl)

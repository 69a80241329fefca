/-! the class: the shelf -/
theorem lcast : zall [.classLink RX10 74 RX3] = true := by decide +kernel
abbrev rX10_restore : Room := ⟨3, 0, 0, 120⟩
def SX10_restore (G : zC) : zS := fun as h n K => ∃ (x b t rn : Nat) (o rm : Nat) (a tx : Nat → Nat) (gg : Nat → Int32) (rx : Nat → Nat) (M : Nat → zMs) (z : Nat → Int32) (XX : Nat → Nat) (F : Nat → Option Nat) (e k : Int32), as = [.ref x, .int e, .int k] ∧ zOkS o rm a tx M ∧ zCS G h n x b t rn o rm a tx gg rx M z XX F ∧ rn ≤ 100000 ∧ ∀ h' n', zCS G h' n' x b t (rn + 302) o rm a tx gg rx (zRsr a M e k).1 z XX F → zfrm x b h h' → n ≤ n' → K (some (.int (zRsr a M e k).2)) h' n'
set_option maxRecDepth 100000 in
theorem tvX10_restore {G : zC} {as : List Value} {h : zH} {n : Nat} {K : zP} (hs : SX10_restore G as h n K) : (∃ b fs r, as = .ref b :: r ∧ h b = some (.inr (10, fs))) ∧ zCt G rX10_restore mX10_restore as h n K := by
  obtain ⟨x, b, t, rn, o, rm, a, tx, gg, rx, M, z, XX, F, e, k, rfl, hB, hC, hrn, hK⟩ := hs
  have hC0 := hC
  obtain ⟨b1, b2, b3, b4, b5, b6, b7, b8, btx, bM⟩ := hB
  obtain ⟨rO, tO, rM, tM, tr, kt, rt, Nt, c0, cO, cM, cb, cn, ck, pT, pO, pR, pU, pA, pB, pN, pS, pL, pE, pP, pW, pD⟩ := hC
  refine ⟨⟨_, _, _, rfl, c0⟩, zCt.of (by decide) (Nat.le_of_ble_eq_true rfl) ?_⟩
  have pS0 := pS
  obtain ⟨mc, e9, ks, f, sm, N, s1, s2, s3, s4, s5, s6, s7, s8⟩ := pS
  refine z_iload_n dX10_restore_0 rfl ?_
  refine zcall1 (zck_S (R' := rX10_isEnd) (M' := mX10_isEnd) (fun _ _ _ _ => tX10_isEnd) kX10_isEnd lX10_226 (by decide +kernel) rfl) dX10_restore_1 (Nat.le_of_ble_eq_true rfl) (Nat.le_of_ble_eq_true rfl) (Nat.le_of_ble_eq_true rfl) ?_
  refine ⟨_, rfl, ?_⟩
  refine z_if_eq (t := 30) dX10_restore_4 (by decide) (fun q4 => ?_) (fun q4 => ?_)
  · rw [show zRsr a M e k = (M, -1) from if_neg (fun p => zi10.mp q4 p.1)] at hK
    refine z_iconst (w := -1) dX10_restore_30 (by decide) ?_
    refine z_ireturn dX10_restore_31 trivial (Nat.le_of_ble_eq_true rfl) (Nat.le_of_ble_eq_true rfl) ?_
    exact hK h n (hC0.mono (by omega)) (fun _ _ _ => rfl) (Nat.le_refl _)
  · rcases zin2.mp (zi11.mp q4) with rfl | rfl
    · refine z_iload_n dX10_restore_7 rfl ?_
      refine z_if_lt (t := 30) dX10_restore_8 (by decide) (fun q8 => ?_) (fun q8 => ?_)
      · rw [show zRsr a M 0 k = (M, -1) from if_neg (fun p => absurd q8 (Int32.not_lt.mpr p.2.1))] at hK
        refine z_iconst (w := -1) dX10_restore_30 (by decide) ?_
        refine z_ireturn dX10_restore_31 trivial (Nat.le_of_ble_eq_true rfl) (Nat.le_of_ble_eq_true rfl) ?_
        exact hK h n (hC0.mono (by omega)) (fun _ _ _ => rfl) (Nat.le_refl _)
      · refine z_iload_n dX10_restore_11 rfl ?_
        refine z_aload_n dX10_restore_12 rfl ?_
        refine z_getfield dX10_restore_13 fX10_266_10 rfl (by first | exact c0 | exact (hE _ (by omega)).trans c0) rfl ?_
        refine z_icmp_ge (t := 30) dX10_restore_16 (by decide) (fun q16 => ?_) (fun q16 => ?_)
        · rw [show zRsr a M 0 k = (M, -1) from if_neg (fun p => absurd q16 (Int32.not_le.mpr p.2.2))] at hK
          refine z_iconst (w := -1) dX10_restore_30 (by decide) ?_
          refine z_ireturn dX10_restore_31 trivial (Nat.le_of_ble_eq_true rfl) (Nat.le_of_ble_eq_true rfl) ?_
          exact hK h n (hC0.mono (by omega)) (fun _ _ _ => rfl) (Nat.le_refl _)
        · have hin : zIn k (a 3) := ⟨Int32.not_lt.mp q8, Int32.not_le.mp q16⟩
          have hi := zIn.nat hin (by omega)
          have hjk : zt k < ks := by omega
          have he9 : h e9 = some (zRf G 10 f) := by
            rcases s4 with ⟨w, _⟩ | ⟨w, _⟩
            · omega
            · exact w
          refine z_iload_n dX10_restore_19 rfl ?_
          refine z_aload_n dX10_restore_20 rfl ?_
          refine z_getfield dX10_restore_21 fX10_30_10 rfl (by first | exact c0 | exact (hE _ (by omega)).trans c0) rfl ?_
          refine zcall1 (zck_V (na := 0) (ci := 1) (R' := rJx4a65c_size_8abf5) (M' := mJx4a65c_size_8abf5) (fun _ _ _ _ => tvJx4a65c_size_8abf5) (by decide) kJx4a65c_size_8abf5 lX10_269 (by decide +kernel) rfl) dX10_restore_24 (Nat.le_of_ble_eq_true rfl) (Nat.le_of_ble_eq_true rfl) (Nat.le_of_ble_eq_true rfl) ?_
          refine ⟨_, _, _, _, rfl, s1, ?_⟩
          refine z_icmp_lt (t := 32) dX10_restore_27 (by decide) (fun q27 => ?_) (fun q27 => ?_)
          · refine z_aload_n dX10_restore_32 rfl ?_
            refine z_iload_n dX10_restore_33 rfl ?_
            refine zcall2 (zck_V (na := 1) (ci := 10) (R' := rX10_model) (M' := mX10_model) (fun _ _ _ _ => tvX10_model) (by decide) kX10_model lX10_229 (by decide +kernel) rfl) dX10_restore_34 (Nat.le_of_ble_eq_true rfl) (Nat.le_of_ble_eq_true rfl) (Nat.le_of_ble_eq_true rfl) ?_
            refine ⟨_, _, _, _, _, _, _, _, _, _, .null, .null, _, _, _, _, _, _, _, _, _, _, _, _, rfl, c0, ?_⟩
            rw [if_pos (show (0 : Int32) = 0 from rfl)]
            refine z_aload_n dX10_restore_37 rfl ?_
            refine z_getfield dX10_restore_38 fX10_30_10 rfl (by first | exact c0 | exact (hE _ (by omega)).trans c0) rfl ?_
            refine z_iload_n dX10_restore_41 rfl ?_
            refine zcall2 (zck_V (na := 1) (ci := 1) (R' := rJx4a65c_get_915e3) (M' := mJx4a65c_get_915e3) (fun _ _ _ _ => tvJx4a65c_get_915e3) (by decide) kJx4a65c_get_915e3 lX10_276 (by decide +kernel) rfl) dX10_restore_42 (Nat.le_of_ble_eq_true rfl) (Nat.le_of_ble_eq_true rfl) (Nat.le_of_ble_eq_true rfl) ?_
            refine ⟨_, _, 10, zt k, ks, sm (zt k), _, f, (by rw [← hi.1]), s1, he9, hjk, (by omega), (by decide), (s5 _ hjk).1, ?_⟩
            refine z_cast dX10_restore_45 lcast ((s5 _ hjk).2.2.2).obj ?_
            refine zcall2 (zck_V (na := 1) (ci := 4) (R' := rX3_become) (M' := mX3_become) (fun _ _ _ _ => tvX3_become) (by decide) kX3_become lX10_189 (by decide +kernel) rfl) dX10_restore_48 (Nat.le_of_ble_eq_true rfl) (Nat.le_of_ble_eq_true rfl) (Nat.le_of_ble_eq_true rfl) ?_
            obtain ⟨P, B, C, F9, X9, L, U, hr, -⟩ := pA
            refine ⟨zmk (x + 19), zmk (sm (zt k)), o, rm, _, _, P, B, C, F9, X9, L, U, _, _, _, _, _, rfl, hr, (s5 _ hjk).2.2.2, (fun q hq w => by have := zmk_aw.mp hq; have := zmk_aw.mp w; have := (s5 _ hjk).2.1; omega), fun h1 g1 g2 => ?_⟩
            have hE : ∀ q, ¬ ((x + 19) ≤ q ∧ q < (x + 19) + 8) → h1 q = h q := fun q hq => g2 q (fun w => hq (zmk_aw.mp w))
            refine z_aload_n dX10_restore_51 rfl ?_
            refine z_iload_n dX10_restore_52 rfl ?_
            refine zcall2 (zck_V (na := 1) (ci := 10) (R' := rX10_model) (M' := mX10_model) (fun _ _ _ _ => tvX10_model) (by decide) kX10_model lX10_229 (by decide +kernel) rfl) dX10_restore_53 (Nat.le_of_ble_eq_true rfl) (Nat.le_of_ble_eq_true rfl) (Nat.le_of_ble_eq_true rfl) ?_
            refine ⟨_, _, _, _, _, _, _, _, _, _, .null, .null, _, _, _, _, _, _, _, _, _, _, _, _, rfl, ((hE _ (by omega)).trans c0), ?_⟩
            rw [if_pos (show (0 : Int32) = 0 from rfl)]
            refine zcall1 (zck_V (na := 0) (ci := 4) (R' := rX3_nodeMany) (M' := mX3_nodeMany) (fun _ _ _ _ => tvX3_nodeMany) (by decide) kX3_nodeMany lX10_233 (by decide +kernel) rfl) dX10_restore_56 (Nat.le_of_ble_eq_true rfl) (Nat.le_of_ble_eq_true rfl) (Nat.le_of_ble_eq_true rfl) ?_
            refine ⟨_, _, _, rfl, g1.obj, rfl, ?_⟩
            refine z_ireturn dX10_restore_59 trivial (Nat.le_of_ble_eq_true rfl) (Nat.le_of_ble_eq_true rfl) ?_
            rw [show zRsr a M 0 k = (va_up M 0 (M (3 + zt k)), nI (M (3 + zt k)).1.1) from if_pos ⟨by decide, hin⟩] at hK
            dsimp only at hK
            rw [s6 _ hi.2] at g1 ⊢
            exact hK h1 n ⟨rO, tO, rM, tM, tr, kt, rt, Nt, ((hE _ (by omega)).trans c0), cO, cM, cb, cn, ck, (pT.cg (hE _ (by omega)) (hE _ (by omega))), (pO.cg (hE _ (by omega)) (hE _ (by omega))), (pR.cg (hE _ (by omega)) (hE _ (by omega))), (pU.cg (hE _ (by omega)) (hE _ (by omega))), g1, (zpM.cg pB (fun q z1 z2 => hE q (by omega))), (zpM.cg pN (fun q z1 z2 => hE q (by omega))), (zpS.mM (pS0.cg (hE _ (by omega)) (fun q z1 => hE q (by omega)) (Nat.le_refl _)) (fun i _ => va_up_ne _ _ (by omega))), (pL.cg (fun q z1 z2 => hE q (by omega)) (by omega)), (pE.cg (hE _ (by omega))), (pP.cg (fun q z1 z2 => hE q (by omega))), (pW.cg (hE _ (by omega))), (pD.cg (fun q z1 z2 => hE q (by omega)))⟩ (fun q z1 z2 => hE q (by omega)) (Nat.le_refl _)
          · exact absurd (by rw [hi.1]; exact nI_lt hjk (by omega)) q27
    · refine z_iload_n dX10_restore_7 rfl ?_
      refine z_if_lt (t := 30) dX10_restore_8 (by decide) (fun q8 => ?_) (fun q8 => ?_)
      · rw [show zRsr a M 1 k = (M, -1) from if_neg (fun p => absurd q8 (Int32.not_lt.mpr p.2.1))] at hK
        refine z_iconst (w := -1) dX10_restore_30 (by decide) ?_
        refine z_ireturn dX10_restore_31 trivial (Nat.le_of_ble_eq_true rfl) (Nat.le_of_ble_eq_true rfl) ?_
        exact hK h n (hC0.mono (by omega)) (fun _ _ _ => rfl) (Nat.le_refl _)
      · refine z_iload_n dX10_restore_11 rfl ?_
        refine z_aload_n dX10_restore_12 rfl ?_
        refine z_getfield dX10_restore_13 fX10_266_10 rfl (by first | exact c0 | exact (hE _ (by omega)).trans c0) rfl ?_
        refine z_icmp_ge (t := 30) dX10_restore_16 (by decide) (fun q16 => ?_) (fun q16 => ?_)
        · rw [show zRsr a M 1 k = (M, -1) from if_neg (fun p => absurd q16 (Int32.not_le.mpr p.2.2))] at hK
          refine z_iconst (w := -1) dX10_restore_30 (by decide) ?_
          refine z_ireturn dX10_restore_31 trivial (Nat.le_of_ble_eq_true rfl) (Nat.le_of_ble_eq_true rfl) ?_
          exact hK h n (hC0.mono (by omega)) (fun _ _ _ => rfl) (Nat.le_refl _)
        · have hin : zIn k (a 3) := ⟨Int32.not_lt.mp q8, Int32.not_le.mp q16⟩
          have hi := zIn.nat hin (by omega)
          have hjk : zt k < ks := by omega
          have he9 : h e9 = some (zRf G 10 f) := by
            rcases s4 with ⟨w, _⟩ | ⟨w, _⟩
            · omega
            · exact w
          refine z_iload_n dX10_restore_19 rfl ?_
          refine z_aload_n dX10_restore_20 rfl ?_
          refine z_getfield dX10_restore_21 fX10_30_10 rfl (by first | exact c0 | exact (hE _ (by omega)).trans c0) rfl ?_
          refine zcall1 (zck_V (na := 0) (ci := 1) (R' := rJx4a65c_size_8abf5) (M' := mJx4a65c_size_8abf5) (fun _ _ _ _ => tvJx4a65c_size_8abf5) (by decide) kJx4a65c_size_8abf5 lX10_269 (by decide +kernel) rfl) dX10_restore_24 (Nat.le_of_ble_eq_true rfl) (Nat.le_of_ble_eq_true rfl) (Nat.le_of_ble_eq_true rfl) ?_
          refine ⟨_, _, _, _, rfl, s1, ?_⟩
          refine z_icmp_lt (t := 32) dX10_restore_27 (by decide) (fun q27 => ?_) (fun q27 => ?_)
          · refine z_aload_n dX10_restore_32 rfl ?_
            refine z_iload_n dX10_restore_33 rfl ?_
            refine zcall2 (zck_V (na := 1) (ci := 10) (R' := rX10_model) (M' := mX10_model) (fun _ _ _ _ => tvX10_model) (by decide) kX10_model lX10_229 (by decide +kernel) rfl) dX10_restore_34 (Nat.le_of_ble_eq_true rfl) (Nat.le_of_ble_eq_true rfl) (Nat.le_of_ble_eq_true rfl) ?_
            refine ⟨_, _, _, _, _, _, _, _, _, _, .null, .null, _, _, _, _, _, _, _, _, _, _, _, _, rfl, c0, ?_⟩
            rw [if_neg (show ¬ (1 : Int32) = 0 by decide)]
            refine z_aload_n dX10_restore_37 rfl ?_
            refine z_getfield dX10_restore_38 fX10_30_10 rfl (by first | exact c0 | exact (hE _ (by omega)).trans c0) rfl ?_
            refine z_iload_n dX10_restore_41 rfl ?_
            refine zcall2 (zck_V (na := 1) (ci := 1) (R' := rJx4a65c_get_915e3) (M' := mJx4a65c_get_915e3) (fun _ _ _ _ => tvJx4a65c_get_915e3) (by decide) kJx4a65c_get_915e3 lX10_276 (by decide +kernel) rfl) dX10_restore_42 (Nat.le_of_ble_eq_true rfl) (Nat.le_of_ble_eq_true rfl) (Nat.le_of_ble_eq_true rfl) ?_
            refine ⟨_, _, 10, zt k, ks, sm (zt k), _, f, (by rw [← hi.1]), s1, he9, hjk, (by omega), (by decide), (s5 _ hjk).1, ?_⟩
            refine z_cast dX10_restore_45 lcast ((s5 _ hjk).2.2.2).obj ?_
            refine zcall2 (zck_V (na := 1) (ci := 4) (R' := rX3_become) (M' := mX3_become) (fun _ _ _ _ => tvX3_become) (by decide) kX3_become lX10_189 (by decide +kernel) rfl) dX10_restore_48 (Nat.le_of_ble_eq_true rfl) (Nat.le_of_ble_eq_true rfl) (Nat.le_of_ble_eq_true rfl) ?_
            obtain ⟨P, B, C, F9, X9, L, U, hr, -⟩ := pB
            refine ⟨zmk rM, zmk (sm (zt k)), o, rm, _, _, P, B, C, F9, X9, L, U, _, _, _, _, _, rfl, hr, (s5 _ hjk).2.2.2, (fun q hq w => by have := zmk_aw.mp hq; have := zmk_aw.mp w; have := (s5 _ hjk).2.1; omega), fun h1 g1 g2 => ?_⟩
            have hE : ∀ q, ¬ (rM ≤ q ∧ q < rM + 8) → h1 q = h q := fun q hq => g2 q (fun w => hq (zmk_aw.mp w))
            refine z_aload_n dX10_restore_51 rfl ?_
            refine z_iload_n dX10_restore_52 rfl ?_
            refine zcall2 (zck_V (na := 1) (ci := 10) (R' := rX10_model) (M' := mX10_model) (fun _ _ _ _ => tvX10_model) (by decide) kX10_model lX10_229 (by decide +kernel) rfl) dX10_restore_53 (Nat.le_of_ble_eq_true rfl) (Nat.le_of_ble_eq_true rfl) (Nat.le_of_ble_eq_true rfl) ?_
            refine ⟨_, _, _, _, _, _, _, _, _, _, .null, .null, _, _, _, _, _, _, _, _, _, _, _, _, rfl, ((hE _ (by omega)).trans c0), ?_⟩
            rw [if_neg (show ¬ (1 : Int32) = 0 by decide)]
            refine zcall1 (zck_V (na := 0) (ci := 4) (R' := rX3_nodeMany) (M' := mX3_nodeMany) (fun _ _ _ _ => tvX3_nodeMany) (by decide) kX3_nodeMany lX10_233 (by decide +kernel) rfl) dX10_restore_56 (Nat.le_of_ble_eq_true rfl) (Nat.le_of_ble_eq_true rfl) (Nat.le_of_ble_eq_true rfl) ?_
            refine ⟨_, _, _, rfl, g1.obj, rfl, ?_⟩
            refine z_ireturn dX10_restore_59 trivial (Nat.le_of_ble_eq_true rfl) (Nat.le_of_ble_eq_true rfl) ?_
            rw [show zRsr a M 1 k = (va_up M 1 (M (3 + zt k)), nI (M (3 + zt k)).1.1) from if_pos ⟨by decide, hin⟩] at hK
            dsimp only at hK
            rw [s6 _ hi.2] at g1 ⊢
            exact hK h1 n ⟨rO, tO, rM, tM, tr, kt, rt, Nt, ((hE _ (by omega)).trans c0), cO, cM, cb, cn, ck, (pT.cg (hE _ (by omega)) (hE _ (by omega))), (pO.cg (hE _ (by omega)) (hE _ (by omega))), (pR.cg (hE _ (by omega)) (hE _ (by omega))), (pU.cg (hE _ (by omega)) (hE _ (by omega))), (zpM.cg pA (fun q z1 z2 => hE q (by omega))), g1, (zpM.cg pN (fun q z1 z2 => hE q (by omega))), (zpS.mM (pS0.cg (hE _ (by omega)) (fun q z1 => hE q (by omega)) (Nat.le_refl _)) (fun i _ => va_up_ne _ _ (by omega))), (pL.cg (fun q z1 z2 => hE q (by omega)) (by omega)), (pE.cg (hE _ (by omega))), (pP.cg (fun q z1 z2 => hE q (by omega))), (pW.cg (hE _ (by omega))), (pD.cg (fun q z1 z2 => hE q (by omega)))⟩ (fun q z1 z2 => hE q (by omega)) (Nat.le_refl _)
          · exact absurd (by rw [hi.1]; exact nI_lt hjk (by omega)) q27
abbrev rX10_save : Room := ⟨5, 9, 7530, 200⟩
def SX10_save (G : zC) (t : Nat) : zS := fun as h n K => ∃ (x b rn : Nat) (o rm : Nat) (a tx : Nat → Nat) (gg : Nat → Int32) (rx : Nat → Nat) (M : Nat → zMs) (z : Nat → Int32) (XX : Nat → Nat) (F : Nat → Option Nat) (e : Int32), as = [.ref x, .int e] ∧ zOkS o rm a tx M ∧ zCS G h n x b t rn o rm a tx gg rx M z XX F ∧ rn ≤ 100000 ∧ ∀ h' n', zCS G h' n' x b t (rn + 302) o rm (zSav a M e).1 tx gg rx (zSav a M e).2.1 z XX F → zfrm x b h h' → n ≤ n' → K (some (.int (zSav a M e).2.2)) h' n'
set_option maxRecDepth 100000 in
theorem tvX10_save {G : zC} {t : Nat} {as : List Value} {h : zH} {n : Nat} {K : zP} (hs : SX10_save G t as h n K) : (∃ b fs r, as = .ref b :: r ∧ h b = some (.inr (10, fs))) ∧ zCs G t rX10_save mX10_save as h n K := by
  obtain ⟨x, b, rn, o, rm, a, tx, gg, rx, M, z, XX, F, e, rfl, hB, hC, hrn, hK⟩ := hs
  have hC0 := hC
  obtain ⟨b1, b2, b3, b4, b5, b6, b7, b8, btx, bM⟩ := hB
  obtain ⟨rO, tO, rM, tM, tr, kt, rt, Nt, c0, cO, cM, cb, cn, ck, pT, pO, pR, pU, pA, pB, pN, pS, pL, pE, pP, pW, pD⟩ := hC
  refine ⟨⟨_, _, _, rfl, c0⟩, zCs.of (by decide) (Nat.le_of_ble_eq_true rfl) ?_⟩
  have pS0 := pS
  obtain ⟨mc, e9, ks, f, sm, N, s1, s2, s3, s4, s5, s6, s7, s8⟩ := pS
  refine z_iload_n dX10_save_0 rfl ?_
  refine zcall1 (zck_S (R' := rX10_isEnd) (M' := mX10_isEnd) (fun _ _ _ _ => tX10_isEnd) kX10_isEnd lX10_226 (by decide +kernel) rfl) dX10_save_1 (Nat.le_of_ble_eq_true rfl) (Nat.le_of_ble_eq_true rfl) (Nat.le_of_ble_eq_true rfl) ?_
  refine ⟨_, rfl, ?_⟩
  refine z_if_ne (t := 9) dX10_save_4 (by decide) (fun q4 => ?_) (fun q4 => ?_)
  · refine z_aload_n dX10_save_9 rfl ?_
    refine z_getfield dX10_save_10 fX10_266_10 rfl c0 rfl ?_
    refine z_iconst (w := 4) dX10_save_13 (by decide) ?_
    refine z_icmp_lt (t := 20) dX10_save_14 (by decide) (fun q14 => ?_) (fun q14 => ?_)
    · have w14 : a 3 < 4 := (nI_ltI (b := 4) (by omega) (by decide)).mp q14
      rw [show zSav a M e = (va_up a 3 (a 3 + 1), va_up M (3 + a 3) (M (zt e)), nI (a 3)) from (if_neg (fun p => p (zi11.mp q4))).trans (if_neg (by omega))] at hK
      dsimp only at hK
      rcases zin2.mp (zi11.mp q4) with rfl | rfl
      · rw [show zt 0 = 0 from rfl] at hK
        have fin : ∀ (h1 : zH) (n1 c s : Nat) (mc : Int32) (e9 ks : Nat) (f : Nat → Option Nat) (sm : Nat → Nat) (N : Nat → zMs), c ≤ 9 → s ≤ 7530 → n ≤ n1 → (∀ q, x ≤ q → q < x + 47 → q ≠ x + 9 → h1 q = h q) → zfrm x b h h1 → h1 (x + 9) = some (zO 1 [.int mc, .ref e9, .int (nI ks)]) → a 3 < ks → ks ≤ 4 → h1 e9 = some (zRf G 10 f) → b ≤ e9 → e9 < n1 → (∀ i, i < ks → f i = some (sm i) ∧ b ≤ sm i ∧ sm i + 8 ≤ n1 ∧ zpM G h1 (sm i) o rm (N i)) → (∀ i, i < a 3 → N i = M (3 + i)) → (∀ i j, i < ks → j < ks → i ≠ j → sm i + 8 ≤ sm j ∨ sm j + 8 ≤ sm i) → (∀ i, i < ks → ¬ (sm i ≤ e9 ∧ e9 < sm i + 8)) → zZ (zXs G t rX10_save mX10_save [.ref x, .int 0] h n K) 57 [(0, .ref x), (1, .int 0)] [] h1 n1 c s := by
          intro h1 n1 c s mc e9 ks f sm N hc hs hn1 hE1 hfr s1 s2 s3 s4 sb sn s5 s6 s7 s8
          have k0 : h1 x = some (zO 10 (zobj x o rm (a 3) z rO tO rM tM tr)) := (hE1 x (by omega) (by omega) (by omega)).trans c0
          have y5 := s5 (a 3) s2
          have pp := zpM.cg (h' := h1) pA (fun q z1 z2 => hE1 q (by omega) (by omega) (by omega))
          refine z_aload_n dX10_save_57 rfl ?_
          refine z_getfield dX10_save_58 fX10_266_10 rfl (by first | exact k0 | exact (hE2 _ (by omega)).trans k0 | exact zget_eq) rfl ?_
          refine z_aload_n dX10_save_61 rfl ?_
          refine z_getfield dX10_save_62 fX10_30_10 rfl (by first | exact k0 | exact (hE2 _ (by omega)).trans k0 | exact zget_eq) rfl ?_
          refine zcall1 (zck_V (na := 0) (ci := 1) (R' := rJx4a65c_size_8abf5) (M' := mJx4a65c_size_8abf5) (fun _ _ _ _ => tvJx4a65c_size_8abf5) (by decide) kJx4a65c_size_8abf5 lX10_269 (by decide +kernel) rfl) dX10_save_65 hc hs (Nat.le_of_ble_eq_true rfl) ?_
          refine ⟨_, _, _, _, rfl, s1, ?_⟩
          refine z_icmp_ge (t := 93) dX10_save_68 (by decide) (fun q68 => ?_) (fun q68 => ?_)
          · exact absurd ((nI_leI (by omega) (by omega)).mp q68) (by omega)
          · refine z_aload_n dX10_save_71 rfl ?_
            refine z_getfield dX10_save_72 fX10_30_10 rfl (by first | exact k0 | exact (hE2 _ (by omega)).trans k0 | exact zget_eq) rfl ?_
            refine z_aload_n dX10_save_75 rfl ?_
            refine z_getfield dX10_save_76 fX10_266_10 rfl (by first | exact k0 | exact (hE2 _ (by omega)).trans k0 | exact zget_eq) rfl ?_
            refine zcall2 (zck_V (na := 1) (ci := 1) (R' := rJx4a65c_get_915e3) (M' := mJx4a65c_get_915e3) (fun _ _ _ _ => tvJx4a65c_get_915e3) (by decide) kJx4a65c_get_915e3 lX10_276 (by decide +kernel) rfl) dX10_save_79 hc hs (Nat.le_of_ble_eq_true rfl) ?_
            refine ⟨_, _, 10, a 3, ks, sm (a 3), _, f, rfl, s1, s4, s2, (by omega), (by decide), y5.1, ?_⟩
            refine z_cast dX10_save_82 lcast y5.2.2.2.obj ?_
            refine z_aload_n dX10_save_85 rfl ?_
            refine z_iload_n dX10_save_86 rfl ?_
            refine zcall2 (zck_V (na := 1) (ci := 10) (R' := rX10_model) (M' := mX10_model) (fun _ _ _ _ => tvX10_model) (by decide) kX10_model lX10_229 (by decide +kernel) rfl) dX10_save_87 hc hs (Nat.le_of_ble_eq_true rfl) ?_
            refine ⟨_, _, _, _, _, _, _, _, _, _, .null, .null, _, _, _, _, _, _, _, _, _, _, _, _, rfl, k0, ?_⟩
            rw [if_pos (show (0 : Int32) = 0 from rfl)]
            refine zcall2 (zck_V (na := 1) (ci := 4) (R' := rX3_become) (M' := mX3_become) (fun _ _ _ _ => tvX3_become) (by decide) kX3_become lX10_189 (by decide +kernel) rfl) dX10_save_90 hc hs (Nat.le_of_ble_eq_true rfl) ?_
            obtain ⟨P, B, C, F9, X9, L, U, hr, -⟩ := y5.2.2.2
            refine ⟨zmk (sm (a 3)), zmk (x + 19), o, rm, _, _, P, B, C, F9, X9, L, U, _, _, _, _, _, rfl, hr, pp, (fun q hq w => by have := zmk_aw.mp hq; have := zmk_aw.mp w; omega), fun h2 g1 g2 => ?_⟩
            have hE2 : ∀ q, ¬ (sm (a 3) ≤ q ∧ q < sm (a 3) + 8) → h2 q = h1 q := fun q hq => g2 q (fun w => hq (zmk_aw.mp w))
            refine z_aload_n dX10_save_93 rfl ?_
            refine z_dup dX10_save_94 rfl ?_
            refine z_getfield dX10_save_95 fX10_266_10 rfl (by first | exact k0 | exact (hE2 _ (by omega)).trans k0 | exact zget_eq) rfl ?_
            refine z_iconst (w := 1) dX10_save_98 (by decide) ?_
            refine z_iadd dX10_save_99 ?_
            rw [nI_1]
            refine z_putfield dX10_save_100 fX10_266_10 rfl (fun q => absurd q (by decide)) (by first | exact k0 | exact (hE2 _ (by omega)).trans k0 | exact zget_eq) (Nat.le_of_ble_eq_true rfl) (Or.inl ⟨rfl, _, rfl⟩) ?_
            refine z_aload_n dX10_save_103 rfl ?_
            refine z_getfield dX10_save_104 fX10_266_10 rfl (by first | exact k0 | exact (hE2 _ (by omega)).trans k0 | exact zget_eq) rfl ?_
            refine z_iconst (w := 1) dX10_save_107 (by decide) ?_
            refine z_isub dX10_save_108 ?_
            rw [show nI (a 3 + 1) - 1 = nI (a 3) by rw [show (1 : Int32) = nI 1 from rfl, zn_sub (by omega), Nat.add_sub_cancel]]
            refine zZ.toS ?_
            refine z_ireturn dX10_save_109 trivial hc hs ?_
            have hE3 : ∀ q, x ≤ q → q < x + 47 → q ≠ x + 9 → q ≠ x → va_up h2 x (some (zO 10 (zobj x o rm (a 3 + 1) z rO tO rM tM tr))) q = h q := fun q q1 q2 q3 q4 => by
              rw [zup_ne q4, hE2 q (by omega)]; exact hE1 q q1 q2 q3
            have hE4 : ∀ q, q ≠ x → ¬ (sm (a 3) ≤ q ∧ q < sm (a 3) + 8) → va_up h2 x (some (zO 10 (zobj x o rm (a 3 + 1) z rO tO rM tM tr))) q = h1 q := fun q q1 q2 => by
              rw [zup_ne q1]; exact hE2 q q2
            refine hK _ n1 ⟨rO, tO, rM, tM, tr, kt, rt, Nt, zget_eq, cO, cM, cb, by omega, ck, pT.cg (hE3 _ (by omega) (by omega) (by omega) (by omega)) (hE3 _ (by omega) (by omega) (by omega) (by omega)), pO.cg (hE3 _ (by omega) (by omega) (by omega) (by omega)) (hE3 _ (by omega) (by omega) (by omega) (by omega)), pR.cg (hE3 _ (by omega) (by omega) (by omega) (by omega)) (hE3 _ (by omega) (by omega) (by omega) (by omega)), pU.cg (hE3 _ (by omega) (by omega) (by omega) (by omega)) (hE3 _ (by omega) (by omega) (by omega) (by omega)), ?_, ?_, zpM.cg pN (fun q z1 z2 => hE3 q (by omega) (by omega) (by omega) (by omega)), ⟨mc, e9, ks, f, sm, va_up N (a 3) (M 0), (hE4 _ (by omega) (by omega)).trans s1, s2, s3, Or.inr ⟨(hE4 _ (by omega) (s8 _ s2)).trans s4, sb, sn⟩, fun i hi => ?_, fun i hi => ?_, s7, s8⟩, pL.cg (fun q z1 z2 => hE3 q (by omega) (by omega) (by omega) (by omega)) (by omega), pE.cg (hE3 _ (by omega) (by omega) (by omega) (by omega)), pP.cg (fun q z1 z2 => hE3 q (by omega) (by omega) (by omega) (by omega)), pW.cg (hE3 _ (by omega) (by omega) (by omega) (by omega)), pD.cg (fun q z1 z2 => hE3 q (by omega) (by omega) (by omega) (by omega))⟩ (fun q z1 z2 => ?_) hn1
            · rw [va_up_ne _ _ (by omega)]; exact zpM.cg pA (fun q z1 z2 => hE3 q (by omega) (by omega) (by omega) (by omega))
            · rw [va_up_ne _ _ (by omega)]; exact zpM.cg pB (fun q z1 z2 => hE3 q (by omega) (by omega) (by omega) (by omega))
            · obtain ⟨y1, y2, y3, y4⟩ := s5 i hi
              refine ⟨y1, y2, y3, ?_⟩
              by_cases ei : i = a 3
              · rw [ei, va_up_self]
                exact zpM.cg g1 (fun q z1 z2 => zup_ne (by omega))
              · rw [va_up_ne _ _ ei]
                have := s7 i (a 3) hi s2 ei
                exact zpM.cg y4 (fun q z1 z2 => hE4 q (by omega) (by omega))
            · have hi : i < a 3 + 1 := hi
              by_cases ei : i = a 3
              · rw [ei, va_up_self, va_up_self]
              · rw [va_up_ne _ _ ei, va_up_ne _ _ (by omega)]; exact s6 i (by omega)
            · exact (hE4 q (by omega) (by omega)).trans (hfr q z1 z2)
        rcases s4 with ⟨rfl, rfl, rfl⟩ | ⟨s4, sb, sn⟩
        · refine z_aload_n dX10_save_20 rfl ?_
          refine z_getfield dX10_save_21 fX10_266_10 rfl (by first | exact c0 | exact (zup_ne (by omega)).trans c0) rfl ?_
          refine z_aload_n dX10_save_24 rfl ?_
          refine z_getfield dX10_save_25 fX10_30_10 rfl (by first | exact c0 | exact (zup_ne (by omega)).trans c0) rfl ?_
          refine zcall1 (zck_V (na := 0) (ci := 1) (R' := rJx4a65c_size_8abf5) (M' := mJx4a65c_size_8abf5) (fun _ _ _ _ => tvJx4a65c_size_8abf5) (by decide) kJx4a65c_size_8abf5 lX10_269 (by decide +kernel) rfl) dX10_save_28 (Nat.le_of_ble_eq_true rfl) (Nat.le_of_ble_eq_true rfl) (Nat.le_of_ble_eq_true rfl) ?_
          refine ⟨_, _, _, _, rfl, s1, ?_⟩
          refine z_icmp_lt (t := 57) dX10_save_31 (by decide) (fun q31 => ?_) (fun q31 => ?_)
          · exact absurd ((nI_ltI (b := 0) (by omega) (by decide)).mp q31) (by omega)
          · have w31 : a 3 = 0 := by omega
            refine z_aload_n dX10_save_34 rfl ?_
            refine z_getfield dX10_save_35 fX10_30_10 rfl (by first | exact c0 | exact (zup_ne (by omega)).trans c0) rfl ?_
            refine z_new dX10_save_38 nwX10_74 rfl (Nat.le_of_ble_eq_true rfl) (Nat.le_of_ble_eq_true rfl) ?_
            refine z_dup dX10_save_41 rfl ?_
            refine z_aload_n dX10_save_42 rfl ?_
            refine z_getfield dX10_save_43 fX10_68_10 rfl (by first | exact c0 | exact (zup_ne (by omega)).trans c0) rfl ?_
            refine z_aload_n dX10_save_46 rfl ?_
            refine z_getfield dX10_save_47 fX10_71_10 rfl (by first | exact c0 | exact (zup_ne (by omega)).trans c0) rfl ?_
            refine zcall3 (zck_I (na := 2) (R' := rX3_init) (M' := mX3_init) (fun _ _ _ _ => tiX3_init) rfl kX3_init lX10_76 rfl (by decide +kernel) rfl) dX10_save_50 (Nat.le_of_ble_eq_true rfl) (Nat.le_of_ble_eq_true rfl) (Nat.le_of_ble_eq_true rfl) ?_
            refine ⟨_, _, _, rfl, zget_eq, rfl, b1, b2, b3, fun h1 g1 g2 => ?_⟩
            have k9 : h1 (x + 9) = h (x + 9) := by rw [g2 _ (by omega), zup_ne (by omega)]
            refine zcall2 (zck_Vs (na := 1) (ci := 1) (R' := rJx4a65c_add_9ea2d) (M' := mJx4a65c_add_9ea2d) (fun _ _ _ _ => tvJx4a65c_add_9ea2d) (by decide) kJx4a65c_add_9ea2d lX10_272 (by decide +kernel) rfl) dX10_save_53 (Nat.le_of_ble_eq_true rfl) (Nat.le_of_ble_eq_true rfl) (Nat.le_of_ble_eq_true rfl) ?_
            refine ⟨_, n, _, _, mc, (fun _ => none), _, rfl, k9.trans s1, (by omega), (by omega), g1.obj, Or.inl ⟨rfl, rfl, fun h2 d1 d2 d3 => ?_⟩⟩
            refine z_pop dX10_save_56 rfl ?_
            have hE2 : ∀ q, q ≠ x + 9 → q ≠ (n + 8) → ¬ (n ≤ q ∧ q < n + 8) → h2 q = h q := fun q q1 q2 q3 => by
              rw [d3 q q1 q2, g2 q (by omega), zup_ne (by omega)]
            refine fin h2 (n + 9) _ _ (mc + 1) (n + 8) (0 + 1) (va_up (fun _ => none) 0 (some n)) (va_up sm 0 n) (va_up N 0 zM0) (Nat.le_of_ble_eq_true rfl) (Nat.le_of_ble_eq_true rfl) (by omega) (fun q q1 q2 q3 => hE2 q q3 (by omega) (by omega)) (fun q z1 z2 => hE2 q (by omega) (by omega) (by omega)) d1 (by omega) (by omega) d2 (by omega) (by omega) (fun i hi => ?_) (fun i hi => ?_) (fun i j hi hj hij => ?_) (fun i hi => ?_)
            · by_cases ei : i = 0
              · rw [ei, va_up_self, va_up_self, va_up_self]
                refine ⟨rfl, by omega, by omega, zpM.cg g1 (fun q z1 z2 => d3 q (by omega) (by omega))⟩
              · rw [va_up_ne _ _ ei, va_up_ne _ _ ei, va_up_ne _ _ ei]
                obtain ⟨y1, y2, y3, y4⟩ := s5 i (by omega)
                have y8 := s8 i (by omega)
                exact ⟨y1, y2, by omega, zpM.cg y4 (fun q z1 z2 => hE2 q (by omega) (by omega) (by omega))⟩
            · rw [va_up_ne _ _ (by omega)]; exact s6 i hi
            · by_cases ei : i = 0
              · have := (s5 j (by omega)).2.2.1
                rw [ei, va_up_self, va_up_ne _ _ (by omega)]; omega
              · by_cases ej : j = 0
                · have := (s5 i (by omega)).2.2.1
                  rw [ej, va_up_self, va_up_ne _ _ ei]; omega
                · rw [va_up_ne _ _ ei, va_up_ne _ _ ej]; exact s7 i j (by omega) (by omega) hij
            · by_cases ei : i = 0
              · rw [ei, va_up_self]; omega
              · rw [va_up_ne _ _ ei]
                have := (s5 i (by omega)).2.2.1
                have := s8 i (by omega)
                omega
        · refine z_aload_n dX10_save_20 rfl ?_
          refine z_getfield dX10_save_21 fX10_266_10 rfl (by first | exact c0 | exact (zup_ne (by omega)).trans c0) rfl ?_
          refine z_aload_n dX10_save_24 rfl ?_
          refine z_getfield dX10_save_25 fX10_30_10 rfl (by first | exact c0 | exact (zup_ne (by omega)).trans c0) rfl ?_
          refine zcall1 (zck_V (na := 0) (ci := 1) (R' := rJx4a65c_size_8abf5) (M' := mJx4a65c_size_8abf5) (fun _ _ _ _ => tvJx4a65c_size_8abf5) (by decide) kJx4a65c_size_8abf5 lX10_269 (by decide +kernel) rfl) dX10_save_28 (Nat.le_of_ble_eq_true rfl) (Nat.le_of_ble_eq_true rfl) (Nat.le_of_ble_eq_true rfl) ?_
          refine ⟨_, _, _, _, rfl, s1, ?_⟩
          refine z_icmp_lt (t := 57) dX10_save_31 (by decide) (fun q31 => ?_) (fun q31 => ?_)
          · exact fin h n _ _ mc e9 ks f sm N (Nat.le_of_ble_eq_true rfl) (Nat.le_of_ble_eq_true rfl) (Nat.le_refl _) (fun _ _ _ _ => rfl) (fun _ _ _ => rfl) s1 ((nI_ltI (by omega) (by omega)).mp q31) s3 s4 sb sn s5 s6 s7 s8
          · have w31 : a 3 = ks := by have := mt (nI_lt · (by omega)) q31; omega
            refine z_aload_n dX10_save_34 rfl ?_
            refine z_getfield dX10_save_35 fX10_30_10 rfl (by first | exact c0 | exact (zup_ne (by omega)).trans c0) rfl ?_
            refine z_new dX10_save_38 nwX10_74 rfl (Nat.le_of_ble_eq_true rfl) (Nat.le_of_ble_eq_true rfl) ?_
            refine z_dup dX10_save_41 rfl ?_
            refine z_aload_n dX10_save_42 rfl ?_
            refine z_getfield dX10_save_43 fX10_68_10 rfl (by first | exact c0 | exact (zup_ne (by omega)).trans c0) rfl ?_
            refine z_aload_n dX10_save_46 rfl ?_
            refine z_getfield dX10_save_47 fX10_71_10 rfl (by first | exact c0 | exact (zup_ne (by omega)).trans c0) rfl ?_
            refine zcall3 (zck_I (na := 2) (R' := rX3_init) (M' := mX3_init) (fun _ _ _ _ => tiX3_init) rfl kX3_init lX10_76 rfl (by decide +kernel) rfl) dX10_save_50 (Nat.le_of_ble_eq_true rfl) (Nat.le_of_ble_eq_true rfl) (Nat.le_of_ble_eq_true rfl) ?_
            refine ⟨_, _, _, rfl, zget_eq, rfl, b1, b2, b3, fun h1 g1 g2 => ?_⟩
            have k9 : h1 (x + 9) = h (x + 9) := by rw [g2 _ (by omega), zup_ne (by omega)]
            refine zcall2 (zck_Vs (na := 1) (ci := 1) (R' := rJx4a65c_add_9ea2d) (M' := mJx4a65c_add_9ea2d) (fun _ _ _ _ => tvJx4a65c_add_9ea2d) (by decide) kJx4a65c_add_9ea2d lX10_272 (by decide +kernel) rfl) dX10_save_53 (Nat.le_of_ble_eq_true rfl) (Nat.le_of_ble_eq_true rfl) (Nat.le_of_ble_eq_true rfl) ?_
            refine ⟨_, n, e9, ks, mc, f, _, rfl, k9.trans s1, (by omega), (by omega), g1.obj, Or.inr ⟨by rw [g2 _ (by omega), zup_ne (by omega)]; exact s4, (by omega), fun h2 d1 d2 d3 => ?_⟩⟩
            refine z_pop dX10_save_56 rfl ?_
            have hE2 : ∀ q, q ≠ x + 9 → q ≠ e9 → ¬ (n ≤ q ∧ q < n + 8) → h2 q = h q := fun q q1 q2 q3 => by
              rw [d3 q q1 q2, g2 q (by omega), zup_ne (by omega)]
            refine fin h2 (n + 8) _ _ (mc + 1) e9 (ks + 1) (va_up f ks (some n)) (va_up sm ks n) (va_up N ks zM0) (Nat.le_of_ble_eq_true rfl) (Nat.le_of_ble_eq_true rfl) (by omega) (fun q q1 q2 q3 => hE2 q q3 (by omega) (by omega)) (fun q z1 z2 => hE2 q (by omega) (by omega) (by omega)) d1 (by omega) (by omega) d2 (by omega) (by omega) (fun i hi => ?_) (fun i hi => ?_) (fun i j hi hj hij => ?_) (fun i hi => ?_)
            · by_cases ei : i = ks
              · rw [ei, va_up_self, va_up_self, va_up_self]
                refine ⟨rfl, by omega, by omega, zpM.cg g1 (fun q z1 z2 => d3 q (by omega) (by omega))⟩
              · rw [va_up_ne _ _ ei, va_up_ne _ _ ei, va_up_ne _ _ ei]
                obtain ⟨y1, y2, y3, y4⟩ := s5 i (by omega)
                have y8 := s8 i (by omega)
                exact ⟨y1, y2, by omega, zpM.cg y4 (fun q z1 z2 => hE2 q (by omega) (by omega) (by omega))⟩
            · rw [va_up_ne _ _ (by omega)]; exact s6 i hi
            · by_cases ei : i = ks
              · have := (s5 j (by omega)).2.2.1
                rw [ei, va_up_self, va_up_ne _ _ (by omega)]; omega
              · by_cases ej : j = ks
                · have := (s5 i (by omega)).2.2.1
                  rw [ej, va_up_self, va_up_ne _ _ ei]; omega
                · rw [va_up_ne _ _ ei, va_up_ne _ _ ej]; exact s7 i j (by omega) (by omega) hij
            · by_cases ei : i = ks
              · rw [ei, va_up_self]; omega
              · rw [va_up_ne _ _ ei]
                have := (s5 i (by omega)).2.2.1
                have := s8 i (by omega)
                omega
      · rw [show zt 1 = 1 from rfl] at hK
        have fin : ∀ (h1 : zH) (n1 c s : Nat) (mc : Int32) (e9 ks : Nat) (f : Nat → Option Nat) (sm : Nat → Nat) (N : Nat → zMs), c ≤ 9 → s ≤ 7530 → n ≤ n1 → (∀ q, x ≤ q → q < x + 47 → q ≠ x + 9 → h1 q = h q) → zfrm x b h h1 → h1 (x + 9) = some (zO 1 [.int mc, .ref e9, .int (nI ks)]) → a 3 < ks → ks ≤ 4 → h1 e9 = some (zRf G 10 f) → b ≤ e9 → e9 < n1 → (∀ i, i < ks → f i = some (sm i) ∧ b ≤ sm i ∧ sm i + 8 ≤ n1 ∧ zpM G h1 (sm i) o rm (N i)) → (∀ i, i < a 3 → N i = M (3 + i)) → (∀ i j, i < ks → j < ks → i ≠ j → sm i + 8 ≤ sm j ∨ sm j + 8 ≤ sm i) → (∀ i, i < ks → ¬ (sm i ≤ e9 ∧ e9 < sm i + 8)) → zZ (zXs G t rX10_save mX10_save [.ref x, .int 1] h n K) 57 [(0, .ref x), (1, .int 1)] [] h1 n1 c s := by
          intro h1 n1 c s mc e9 ks f sm N hc hs hn1 hE1 hfr s1 s2 s3 s4 sb sn s5 s6 s7 s8
          have k0 : h1 x = some (zO 10 (zobj x o rm (a 3) z rO tO rM tM tr)) := (hE1 x (by omega) (by omega) (by omega)).trans c0
          have y5 := s5 (a 3) s2
          have pp := zpM.cg (h' := h1) pB (fun q z1 z2 => hE1 q (by omega) (by omega) (by omega))
          refine z_aload_n dX10_save_57 rfl ?_
          refine z_getfield dX10_save_58 fX10_266_10 rfl (by first | exact k0 | exact (hE2 _ (by omega)).trans k0 | exact zget_eq) rfl ?_
          refine z_aload_n dX10_save_61 rfl ?_
          refine z_getfield dX10_save_62 fX10_30_10 rfl (by first | exact k0 | exact (hE2 _ (by omega)).trans k0 | exact zget_eq) rfl ?_
          refine zcall1 (zck_V (na := 0) (ci := 1) (R' := rJx4a65c_size_8abf5) (M' := mJx4a65c_size_8abf5) (fun _ _ _ _ => tvJx4a65c_size_8abf5) (by decide) kJx4a65c_size_8abf5 lX10_269 (by decide +kernel) rfl) dX10_save_65 hc hs (Nat.le_of_ble_eq_true rfl) ?_
          refine ⟨_, _, _, _, rfl, s1, ?_⟩
          refine z_icmp_ge (t := 93) dX10_save_68 (by decide) (fun q68 => ?_) (fun q68 => ?_)
          · exact absurd ((nI_leI (by omega) (by omega)).mp q68) (by omega)
          · refine z_aload_n dX10_save_71 rfl ?_
            refine z_getfield dX10_save_72 fX10_30_10 rfl (by first | exact k0 | exact (hE2 _ (by omega)).trans k0 | exact zget_eq) rfl ?_
            refine z_aload_n dX10_save_75 rfl ?_
            refine z_getfield dX10_save_76 fX10_266_10 rfl (by first | exact k0 | exact (hE2 _ (by omega)).trans k0 | exact zget_eq) rfl ?_
            refine zcall2 (zck_V (na := 1) (ci := 1) (R' := rJx4a65c_get_915e3) (M' := mJx4a65c_get_915e3) (fun _ _ _ _ => tvJx4a65c_get_915e3) (by decide) kJx4a65c_get_915e3 lX10_276 (by decide +kernel) rfl) dX10_save_79 hc hs (Nat.le_of_ble_eq_true rfl) ?_
            refine ⟨_, _, 10, a 3, ks, sm (a 3), _, f, rfl, s1, s4, s2, (by omega), (by decide), y5.1, ?_⟩
            refine z_cast dX10_save_82 lcast y5.2.2.2.obj ?_
            refine z_aload_n dX10_save_85 rfl ?_
            refine z_iload_n dX10_save_86 rfl ?_
            refine zcall2 (zck_V (na := 1) (ci := 10) (R' := rX10_model) (M' := mX10_model) (fun _ _ _ _ => tvX10_model) (by decide) kX10_model lX10_229 (by decide +kernel) rfl) dX10_save_87 hc hs (Nat.le_of_ble_eq_true rfl) ?_
            refine ⟨_, _, _, _, _, _, _, _, _, _, .null, .null, _, _, _, _, _, _, _, _, _, _, _, _, rfl, k0, ?_⟩
            rw [if_neg (show ¬ (1 : Int32) = 0 by decide)]
            refine zcall2 (zck_V (na := 1) (ci := 4) (R' := rX3_become) (M' := mX3_become) (fun _ _ _ _ => tvX3_become) (by decide) kX3_become lX10_189 (by decide +kernel) rfl) dX10_save_90 hc hs (Nat.le_of_ble_eq_true rfl) ?_
            obtain ⟨P, B, C, F9, X9, L, U, hr, -⟩ := y5.2.2.2
            refine ⟨zmk (sm (a 3)), zmk rM, o, rm, _, _, P, B, C, F9, X9, L, U, _, _, _, _, _, rfl, hr, pp, (fun q hq w => by have := zmk_aw.mp hq; have := zmk_aw.mp w; omega), fun h2 g1 g2 => ?_⟩
            have hE2 : ∀ q, ¬ (sm (a 3) ≤ q ∧ q < sm (a 3) + 8) → h2 q = h1 q := fun q hq => g2 q (fun w => hq (zmk_aw.mp w))
            refine z_aload_n dX10_save_93 rfl ?_
            refine z_dup dX10_save_94 rfl ?_
            refine z_getfield dX10_save_95 fX10_266_10 rfl (by first | exact k0 | exact (hE2 _ (by omega)).trans k0 | exact zget_eq) rfl ?_
            refine z_iconst (w := 1) dX10_save_98 (by decide) ?_
            refine z_iadd dX10_save_99 ?_
            rw [nI_1]
            refine z_putfield dX10_save_100 fX10_266_10 rfl (fun q => absurd q (by decide)) (by first | exact k0 | exact (hE2 _ (by omega)).trans k0 | exact zget_eq) (Nat.le_of_ble_eq_true rfl) (Or.inl ⟨rfl, _, rfl⟩) ?_
            refine z_aload_n dX10_save_103 rfl ?_
            refine z_getfield dX10_save_104 fX10_266_10 rfl (by first | exact k0 | exact (hE2 _ (by omega)).trans k0 | exact zget_eq) rfl ?_
            refine z_iconst (w := 1) dX10_save_107 (by decide) ?_
            refine z_isub dX10_save_108 ?_
            rw [show nI (a 3 + 1) - 1 = nI (a 3) by rw [show (1 : Int32) = nI 1 from rfl, zn_sub (by omega), Nat.add_sub_cancel]]
            refine zZ.toS ?_
            refine z_ireturn dX10_save_109 trivial hc hs ?_
            have hE3 : ∀ q, x ≤ q → q < x + 47 → q ≠ x + 9 → q ≠ x → va_up h2 x (some (zO 10 (zobj x o rm (a 3 + 1) z rO tO rM tM tr))) q = h q := fun q q1 q2 q3 q4 => by
              rw [zup_ne q4, hE2 q (by omega)]; exact hE1 q q1 q2 q3
            have hE4 : ∀ q, q ≠ x → ¬ (sm (a 3) ≤ q ∧ q < sm (a 3) + 8) → va_up h2 x (some (zO 10 (zobj x o rm (a 3 + 1) z rO tO rM tM tr))) q = h1 q := fun q q1 q2 => by
              rw [zup_ne q1]; exact hE2 q q2
            refine hK _ n1 ⟨rO, tO, rM, tM, tr, kt, rt, Nt, zget_eq, cO, cM, cb, by omega, ck, pT.cg (hE3 _ (by omega) (by omega) (by omega) (by omega)) (hE3 _ (by omega) (by omega) (by omega) (by omega)), pO.cg (hE3 _ (by omega) (by omega) (by omega) (by omega)) (hE3 _ (by omega) (by omega) (by omega) (by omega)), pR.cg (hE3 _ (by omega) (by omega) (by omega) (by omega)) (hE3 _ (by omega) (by omega) (by omega) (by omega)), pU.cg (hE3 _ (by omega) (by omega) (by omega) (by omega)) (hE3 _ (by omega) (by omega) (by omega) (by omega)), ?_, ?_, zpM.cg pN (fun q z1 z2 => hE3 q (by omega) (by omega) (by omega) (by omega)), ⟨mc, e9, ks, f, sm, va_up N (a 3) (M 1), (hE4 _ (by omega) (by omega)).trans s1, s2, s3, Or.inr ⟨(hE4 _ (by omega) (s8 _ s2)).trans s4, sb, sn⟩, fun i hi => ?_, fun i hi => ?_, s7, s8⟩, pL.cg (fun q z1 z2 => hE3 q (by omega) (by omega) (by omega) (by omega)) (by omega), pE.cg (hE3 _ (by omega) (by omega) (by omega) (by omega)), pP.cg (fun q z1 z2 => hE3 q (by omega) (by omega) (by omega) (by omega)), pW.cg (hE3 _ (by omega) (by omega) (by omega) (by omega)), pD.cg (fun q z1 z2 => hE3 q (by omega) (by omega) (by omega) (by omega))⟩ (fun q z1 z2 => ?_) hn1
            · rw [va_up_ne _ _ (by omega)]; exact zpM.cg pA (fun q z1 z2 => hE3 q (by omega) (by omega) (by omega) (by omega))
            · rw [va_up_ne _ _ (by omega)]; exact zpM.cg pB (fun q z1 z2 => hE3 q (by omega) (by omega) (by omega) (by omega))
            · obtain ⟨y1, y2, y3, y4⟩ := s5 i hi
              refine ⟨y1, y2, y3, ?_⟩
              by_cases ei : i = a 3
              · rw [ei, va_up_self]
                exact zpM.cg g1 (fun q z1 z2 => zup_ne (by omega))
              · rw [va_up_ne _ _ ei]
                have := s7 i (a 3) hi s2 ei
                exact zpM.cg y4 (fun q z1 z2 => hE4 q (by omega) (by omega))
            · have hi : i < a 3 + 1 := hi
              by_cases ei : i = a 3
              · rw [ei, va_up_self, va_up_self]
              · rw [va_up_ne _ _ ei, va_up_ne _ _ (by omega)]; exact s6 i (by omega)
            · exact (hE4 q (by omega) (by omega)).trans (hfr q z1 z2)
        rcases s4 with ⟨rfl, rfl, rfl⟩ | ⟨s4, sb, sn⟩
        · refine z_aload_n dX10_save_20 rfl ?_
          refine z_getfield dX10_save_21 fX10_266_10 rfl (by first | exact c0 | exact (zup_ne (by omega)).trans c0) rfl ?_
          refine z_aload_n dX10_save_24 rfl ?_
          refine z_getfield dX10_save_25 fX10_30_10 rfl (by first | exact c0 | exact (zup_ne (by omega)).trans c0) rfl ?_
          refine zcall1 (zck_V (na := 0) (ci := 1) (R' := rJx4a65c_size_8abf5) (M' := mJx4a65c_size_8abf5) (fun _ _ _ _ => tvJx4a65c_size_8abf5) (by decide) kJx4a65c_size_8abf5 lX10_269 (by decide +kernel) rfl) dX10_save_28 (Nat.le_of_ble_eq_true rfl) (Nat.le_of_ble_eq_true rfl) (Nat.le_of_ble_eq_true rfl) ?_
          refine ⟨_, _, _, _, rfl, s1, ?_⟩
          refine z_icmp_lt (t := 57) dX10_save_31 (by decide) (fun q31 => ?_) (fun q31 => ?_)
          · exact absurd ((nI_ltI (b := 0) (by omega) (by decide)).mp q31) (by omega)
          · have w31 : a 3 = 0 := by omega
            refine z_aload_n dX10_save_34 rfl ?_
            refine z_getfield dX10_save_35 fX10_30_10 rfl (by first | exact c0 | exact (zup_ne (by omega)).trans c0) rfl ?_
            refine z_new dX10_save_38 nwX10_74 rfl (Nat.le_of_ble_eq_true rfl) (Nat.le_of_ble_eq_true rfl) ?_
            refine z_dup dX10_save_41 rfl ?_
            refine z_aload_n dX10_save_42 rfl ?_
            refine z_getfield dX10_save_43 fX10_68_10 rfl (by first | exact c0 | exact (zup_ne (by omega)).trans c0) rfl ?_
            refine z_aload_n dX10_save_46 rfl ?_
            refine z_getfield dX10_save_47 fX10_71_10 rfl (by first | exact c0 | exact (zup_ne (by omega)).trans c0) rfl ?_
            refine zcall3 (zck_I (na := 2) (R' := rX3_init) (M' := mX3_init) (fun _ _ _ _ => tiX3_init) rfl kX3_init lX10_76 rfl (by decide +kernel) rfl) dX10_save_50 (Nat.le_of_ble_eq_true rfl) (Nat.le_of_ble_eq_true rfl) (Nat.le_of_ble_eq_true rfl) ?_
            refine ⟨_, _, _, rfl, zget_eq, rfl, b1, b2, b3, fun h1 g1 g2 => ?_⟩
            have k9 : h1 (x + 9) = h (x + 9) := by rw [g2 _ (by omega), zup_ne (by omega)]
            refine zcall2 (zck_Vs (na := 1) (ci := 1) (R' := rJx4a65c_add_9ea2d) (M' := mJx4a65c_add_9ea2d) (fun _ _ _ _ => tvJx4a65c_add_9ea2d) (by decide) kJx4a65c_add_9ea2d lX10_272 (by decide +kernel) rfl) dX10_save_53 (Nat.le_of_ble_eq_true rfl) (Nat.le_of_ble_eq_true rfl) (Nat.le_of_ble_eq_true rfl) ?_
            refine ⟨_, n, _, _, mc, (fun _ => none), _, rfl, k9.trans s1, (by omega), (by omega), g1.obj, Or.inl ⟨rfl, rfl, fun h2 d1 d2 d3 => ?_⟩⟩
            refine z_pop dX10_save_56 rfl ?_
            have hE2 : ∀ q, q ≠ x + 9 → q ≠ (n + 8) → ¬ (n ≤ q ∧ q < n + 8) → h2 q = h q := fun q q1 q2 q3 => by
              rw [d3 q q1 q2, g2 q (by omega), zup_ne (by omega)]
            refine fin h2 (n + 9) _ _ (mc + 1) (n + 8) (0 + 1) (va_up (fun _ => none) 0 (some n)) (va_up sm 0 n) (va_up N 0 zM0) (Nat.le_of_ble_eq_true rfl) (Nat.le_of_ble_eq_true rfl) (by omega) (fun q q1 q2 q3 => hE2 q q3 (by omega) (by omega)) (fun q z1 z2 => hE2 q (by omega) (by omega) (by omega)) d1 (by omega) (by omega) d2 (by omega) (by omega) (fun i hi => ?_) (fun i hi => ?_) (fun i j hi hj hij => ?_) (fun i hi => ?_)
            · by_cases ei : i = 0
              · rw [ei, va_up_self, va_up_self, va_up_self]
                refine ⟨rfl, by omega, by omega, zpM.cg g1 (fun q z1 z2 => d3 q (by omega) (by omega))⟩
              · rw [va_up_ne _ _ ei, va_up_ne _ _ ei, va_up_ne _ _ ei]
                obtain ⟨y1, y2, y3, y4⟩ := s5 i (by omega)
                have y8 := s8 i (by omega)
                exact ⟨y1, y2, by omega, zpM.cg y4 (fun q z1 z2 => hE2 q (by omega) (by omega) (by omega))⟩
            · rw [va_up_ne _ _ (by omega)]; exact s6 i hi
            · by_cases ei : i = 0
              · have := (s5 j (by omega)).2.2.1
                rw [ei, va_up_self, va_up_ne _ _ (by omega)]; omega
              · by_cases ej : j = 0
                · have := (s5 i (by omega)).2.2.1
                  rw [ej, va_up_self, va_up_ne _ _ ei]; omega
                · rw [va_up_ne _ _ ei, va_up_ne _ _ ej]; exact s7 i j (by omega) (by omega) hij
            · by_cases ei : i = 0
              · rw [ei, va_up_self]; omega
              · rw [va_up_ne _ _ ei]
                have := (s5 i (by omega)).2.2.1
                have := s8 i (by omega)
                omega
        · refine z_aload_n dX10_save_20 rfl ?_
          refine z_getfield dX10_save_21 fX10_266_10 rfl (by first | exact c0 | exact (zup_ne (by omega)).trans c0) rfl ?_
          refine z_aload_n dX10_save_24 rfl ?_
          refine z_getfield dX10_save_25 fX10_30_10 rfl (by first | exact c0 | exact (zup_ne (by omega)).trans c0) rfl ?_
          refine zcall1 (zck_V (na := 0) (ci := 1) (R' := rJx4a65c_size_8abf5) (M' := mJx4a65c_size_8abf5) (fun _ _ _ _ => tvJx4a65c_size_8abf5) (by decide) kJx4a65c_size_8abf5 lX10_269 (by decide +kernel) rfl) dX10_save_28 (Nat.le_of_ble_eq_true rfl) (Nat.le_of_ble_eq_true rfl) (Nat.le_of_ble_eq_true rfl) ?_
          refine ⟨_, _, _, _, rfl, s1, ?_⟩
          refine z_icmp_lt (t := 57) dX10_save_31 (by decide) (fun q31 => ?_) (fun q31 => ?_)
          · exact fin h n _ _ mc e9 ks f sm N (Nat.le_of_ble_eq_true rfl) (Nat.le_of_ble_eq_true rfl) (Nat.le_refl _) (fun _ _ _ _ => rfl) (fun _ _ _ => rfl) s1 ((nI_ltI (by omega) (by omega)).mp q31) s3 s4 sb sn s5 s6 s7 s8
          · have w31 : a 3 = ks := by have := mt (nI_lt · (by omega)) q31; omega
            refine z_aload_n dX10_save_34 rfl ?_
            refine z_getfield dX10_save_35 fX10_30_10 rfl (by first | exact c0 | exact (zup_ne (by omega)).trans c0) rfl ?_
            refine z_new dX10_save_38 nwX10_74 rfl (Nat.le_of_ble_eq_true rfl) (Nat.le_of_ble_eq_true rfl) ?_
            refine z_dup dX10_save_41 rfl ?_
            refine z_aload_n dX10_save_42 rfl ?_
            refine z_getfield dX10_save_43 fX10_68_10 rfl (by first | exact c0 | exact (zup_ne (by omega)).trans c0) rfl ?_
            refine z_aload_n dX10_save_46 rfl ?_
            refine z_getfield dX10_save_47 fX10_71_10 rfl (by first | exact c0 | exact (zup_ne (by omega)).trans c0) rfl ?_
            refine zcall3 (zck_I (na := 2) (R' := rX3_init) (M' := mX3_init) (fun _ _ _ _ => tiX3_init) rfl kX3_init lX10_76 rfl (by decide +kernel) rfl) dX10_save_50 (Nat.le_of_ble_eq_true rfl) (Nat.le_of_ble_eq_true rfl) (Nat.le_of_ble_eq_true rfl) ?_
            refine ⟨_, _, _, rfl, zget_eq, rfl, b1, b2, b3, fun h1 g1 g2 => ?_⟩
            have k9 : h1 (x + 9) = h (x + 9) := by rw [g2 _ (by omega), zup_ne (by omega)]
            refine zcall2 (zck_Vs (na := 1) (ci := 1) (R' := rJx4a65c_add_9ea2d) (M' := mJx4a65c_add_9ea2d) (fun _ _ _ _ => tvJx4a65c_add_9ea2d) (by decide) kJx4a65c_add_9ea2d lX10_272 (by decide +kernel) rfl) dX10_save_53 (Nat.le_of_ble_eq_true rfl) (Nat.le_of_ble_eq_true rfl) (Nat.le_of_ble_eq_true rfl) ?_
            refine ⟨_, n, e9, ks, mc, f, _, rfl, k9.trans s1, (by omega), (by omega), g1.obj, Or.inr ⟨by rw [g2 _ (by omega), zup_ne (by omega)]; exact s4, (by omega), fun h2 d1 d2 d3 => ?_⟩⟩
            refine z_pop dX10_save_56 rfl ?_
            have hE2 : ∀ q, q ≠ x + 9 → q ≠ e9 → ¬ (n ≤ q ∧ q < n + 8) → h2 q = h q := fun q q1 q2 q3 => by
              rw [d3 q q1 q2, g2 q (by omega), zup_ne (by omega)]
            refine fin h2 (n + 8) _ _ (mc + 1) e9 (ks + 1) (va_up f ks (some n)) (va_up sm ks n) (va_up N ks zM0) (Nat.le_of_ble_eq_true rfl) (Nat.le_of_ble_eq_true rfl) (by omega) (fun q q1 q2 q3 => hE2 q q3 (by omega) (by omega)) (fun q z1 z2 => hE2 q (by omega) (by omega) (by omega)) d1 (by omega) (by omega) d2 (by omega) (by omega) (fun i hi => ?_) (fun i hi => ?_) (fun i j hi hj hij => ?_) (fun i hi => ?_)
            · by_cases ei : i = ks
              · rw [ei, va_up_self, va_up_self, va_up_self]
                refine ⟨rfl, by omega, by omega, zpM.cg g1 (fun q z1 z2 => d3 q (by omega) (by omega))⟩
              · rw [va_up_ne _ _ ei, va_up_ne _ _ ei, va_up_ne _ _ ei]
                obtain ⟨y1, y2, y3, y4⟩ := s5 i (by omega)
                have y8 := s8 i (by omega)
                exact ⟨y1, y2, by omega, zpM.cg y4 (fun q z1 z2 => hE2 q (by omega) (by omega) (by omega))⟩
            · rw [va_up_ne _ _ (by omega)]; exact s6 i hi
            · by_cases ei : i = ks
              · have := (s5 j (by omega)).2.2.1
                rw [ei, va_up_self, va_up_ne _ _ (by omega)]; omega
              · by_cases ej : j = ks
                · have := (s5 i (by omega)).2.2.1
                  rw [ej, va_up_self, va_up_ne _ _ ei]; omega
                · rw [va_up_ne _ _ ei, va_up_ne _ _ ej]; exact s7 i j (by omega) (by omega) hij
            · by_cases ei : i = ks
              · rw [ei, va_up_self]; omega
              · rw [va_up_ne _ _ ei]
                have := (s5 i (by omega)).2.2.1
                have := s8 i (by omega)
                omega
    · have w14 : a 3 = 4 := by have := mt (nI_lt (b := 4) · (by decide)) q14; omega
      rw [show zSav a M e = (a, M, -2) from (if_neg (fun p => p (zi11.mp q4))).trans (if_pos w14)] at hK
      refine z_bipush (w := -2) dX10_save_17 (by decide) ?_
      refine zZ.toS ?_
      refine z_ireturn dX10_save_19 trivial (Nat.le_of_ble_eq_true rfl) (Nat.le_of_ble_eq_true rfl) ?_
      exact hK h n (hC0.mono (by omega)) (fun _ _ _ => rfl) (Nat.le_refl _)
  · refine z_iconst (w := -1) dX10_save_7 (by decide) ?_
    refine zZ.toS ?_
    refine z_ireturn dX10_save_8 trivial (Nat.le_of_ble_eq_true rfl) (Nat.le_of_ble_eq_true rfl) ?_
    rw [show zSav a M e = (a, M, -1) from if_pos (zi10.mp q4)] at hK
    exact hK h n (hC0.mono (by omega)) (fun _ _ _ => rfl) (Nat.le_refl _)

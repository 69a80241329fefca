/-! the class: open, as a whole -/
theorem zpP.mz {G : zC} {h : zH} {x k : Nat} {z z' : Nat → Int32} {XX : Nat → Nat} {F : Nat → Option Nat} (H : zpP G h x k z XX F) (e3 : z' 3 = z 3) (e4 : z' 4 = z 4) (e5 : z' 5 = z 5) : zpP G h x k z' XX F := by
  obtain ⟨fe, fc, bi, es, rs, w1, w2, w3, w4, w5⟩ := H
  exact ⟨fe, fc, bi, es, rs, w1, w2, w3, fun w => by rw [e3, e4, e5]; exact w4 w, w5⟩
abbrev rX10_open : Room := ⟨6, 0, 0, 240⟩
def SX10_open (G : zC) : zS := fun as h n K => ∃ (x b t rn : Nat) (o rm : Nat) (a tx : Nat → Nat) (gg : Nat → Int32) (rx : Nat → Nat) (M : Nat → zMs) (z : Nat → Int32) (XX : Nat → Nat) (F : Nat → Option Nat), as = [.ref x] ∧ zOkS o rm a tx M ∧ zCS G h n x b t rn o rm a tx gg rx M z XX F ∧ rn ≤ 100000 ∧ ∀ h' a1 rx1 M1 z1 r, zOpn o rm a gg rx M z a1 rx1 M1 z1 r → zCS G h' n x b t (rn + 302) o rm a1 tx gg rx1 M1 z1 XX F → zfrm x b h h' → K (some (.int r)) h' n
set_option maxRecDepth 100000 in
theorem tvX10_open {G : zC} {as : List Value} {h : zH} {n : Nat} {K : zP} (hs : SX10_open G as h n K) : (∃ b fs r, as = .ref b :: r ∧ h b = some (.inr (10, fs))) ∧ zCt G rX10_open mX10_open as h n K := by
  obtain ⟨x, b, t, rn, o, rm, a, tx, gg, rx, M, z, XX, F, rfl, hB, hC, hrn, hK⟩ := hs
  have hC0 := hC
  obtain ⟨b1, b2, b3, b4, b5, b6, b7, b8, btx, bM⟩ := hB
  obtain ⟨rO, tO, rM, tM, tr, kt, rt, Nt, c0, cO, cM, cb, cn, ck, pT, pO, pR, pU, pA, pB, pN, pS, pL, pE, pP, pW, pD⟩ := hC
  refine ⟨⟨_, _, _, rfl, c0⟩, zCt.of (by decide) (Nat.le_of_ble_eq_true rfl) ?_⟩
  obtain ⟨R0, E0, ex0, ee0, f0, L0, l1, l2, l3⟩ := pL
  obtain ⟨u1, u2, u3, u4, u6, u7, u8, fa, d1, d2, d3⟩ := pD
  refine z_aload_n dX10_open_0 rfl ?_
  refine z_getfield dX10_open_1 fX10_86_10 rfl (by first | exact c0 | exact (hE1 _ (by omega)).trans c0 | exact k2 | exact zget_eq | exact k4 | exact k5) rfl ?_
  refine z_aload_n dX10_open_4 rfl ?_
  refine z_getfield dX10_open_5 fX10_83_10 rfl (by first | exact c0 | exact (hE1 _ (by omega)).trans c0 | exact k2 | exact zget_eq | exact k4 | exact k5) rfl ?_
  refine zcall2 (zck_V (na := 1) (ci := 4) (R' := rX3_become) (M' := mX3_become) (fun _ _ _ _ => tvX3_become) (by decide) kX3_become lX10_189 (by decide +kernel) rfl) dX10_open_8 (Nat.le_of_ble_eq_true rfl) (Nat.le_of_ble_eq_true rfl) (Nat.le_of_ble_eq_true rfl) ?_
  obtain ⟨P, B, C, F9, X9, L, U, hr, -⟩ := pN
  refine ⟨zmk tM, zmk rM, o, rm, _, _, P, B, C, F9, X9, L, U, _, _, _, _, _, rfl, hr, pB, (fun q hq w => by have := zmk_aw.mp hq; have := zmk_aw.mp w; omega), fun h1 g1 g2 => ?_⟩
  have hE1 : ∀ q, ¬ (tM ≤ q ∧ q < tM + 8) → h1 q = h q := fun q hq => g2 q (fun w => hq (zmk_aw.mp w))
  refine z_aload_n dX10_open_11 rfl ?_
  refine z_getfield dX10_open_12 fX10_24_10 rfl (by first | exact c0 | exact (hE1 _ (by omega)).trans c0 | exact k2 | exact zget_eq | exact k4 | exact k5) rfl ?_
  refine z_iconst (w := 0) dX10_open_15 (by decide) ?_
  refine zcall2 (zck_V (na := 1) (ci := 5) (R' := rX4_keepFirst) (M' := mX4_keepFirst) (fun _ _ _ _ => tvX4_keepFirst) (by decide) kX4_keepFirst lX10_111 (by decide +kernel) rfl) dX10_open_16 (Nat.le_of_ble_eq_true rfl) (Nat.le_of_ble_eq_true rfl) (Nat.le_of_ble_eq_true rfl) ?_
  refine ⟨_, _, _, _, rfl, (hE1 _ (by omega)).trans pU.1, fun h2 g3 g4 => ?_⟩
  have hE2 : ∀ q, ¬ q = tO → h2 q = h1 q := fun q hq => g4 q hq
  have k2 : h2 x = some (zO 10 (zobj x o rm (a 3) z rO tO rM tM tr)) := by rw [hE2 _ (by omega), hE1 _ (by omega)]; exact c0
  refine z_aload_n dX10_open_19 rfl ?_
  refine z_iconst (w := 0) dX10_open_20 (by decide) ?_
  refine z_putfield dX10_open_21 fX10_193_10 rfl (fun q => absurd q (by decide)) (by first | exact c0 | exact (hE1 _ (by omega)).trans c0 | exact k2 | exact zget_eq | exact k4 | exact k5) (Nat.le_of_ble_eq_true rfl) (Or.inl ⟨rfl, _, rfl⟩) ?_
  refine z_aload_n dX10_open_24 rfl ?_
  refine z_getfield dX10_open_25 fX10_103_10 rfl (by first | exact c0 | exact (hE1 _ (by omega)).trans c0 | exact k2 | exact zget_eq | exact k4 | exact k5) rfl ?_
  refine zcall1 (zck_V (na := 0) (ci := 7) (R' := rX6_begin) (M' := mX6_begin) (fun _ _ _ _ => tvX6_begin) (by decide) kX6_begin lX10_196 (by decide +kernel) rfl) dX10_open_28 (Nat.le_of_ble_eq_true rfl) (Nat.le_of_ble_eq_true rfl) (Nat.le_of_ble_eq_true rfl) ?_
  have hE3 : ∀ q, ¬ q = x → (va_up h2 x (some (zO 10 (zobj x o rm (a 3) z rO tO rM tM (nI 0))))) q = h2 q := fun q hq => zup_ne hq
  have hE4 : ∀ q, ¬ (q = x ∨ q = tO ∨ (tM ≤ q ∧ q < tM + 8)) → (va_up h2 x (some (zO 10 (zobj x o rm (a 3) z rO tO rM tM (nI 0))))) q = h q := fun q hq => by rw [hE3 q (by omega), hE2 q (by omega), hE1 q (by omega)]
  refine ⟨x + 44, x + 45, x + 46, x + 3, x + 4, 2484, a 1, _, _, _, _, _, _, _, fa, gg, rfl, (hE4 _ (by omega)).trans d1, (hE4 _ (by omega)).trans d2, (hE4 _ (by omega)).trans d3, (hE4 _ (by omega)).trans pO.1, (hE4 _ (by omega)).trans pO.2, (by decide), b5, (by omega), (by omega), fun h4 y1 y2 => ?_⟩
  have hE5 : ∀ q, ¬ (x + 44 ≤ q ∧ q < x + 47) → h4 q = (va_up h2 x (some (zO 10 (zobj x o rm (a 3) z rO tO rM tM (nI 0))))) q := fun q hq => y2 q (by omega) (by omega) (by omega)
  have hE6 : ∀ q, ¬ (q = x ∨ (x + 10 ≤ q ∧ q < x + 15) ∨ (x + 44 ≤ q ∧ q < x + 47) ∨ q = tO ∨ q = tO + 1 ∨ (tM ≤ q ∧ q < tM + 8)) → h4 q = h q := fun q hq => (hE5 q (by omega)).trans (hE4 q (by omega))
  have hT6 : ∀ q, x + 10 ≤ q → q < x + 15 → h4 q = h q := fun q w1 w2 => (hE5 q (by omega)).trans (hE4 q (by omega))
  have k4 : h4 x = some (zO 10 (zobj x o rm (a 3) z rO tO rM tM (nI 0))) := (hE5 _ (by omega)).trans zget_eq
  refine z_aload_n dX10_open_31 rfl ?_
  refine zcall1 (zck_V (na := 0) (ci := 10) (R' := rX10_read) (M' := mX10_read) (fun _ _ _ _ => tvX10_read) (by decide) kX10_read lX10_197 (by decide +kernel) rfl) dX10_open_32 (Nat.le_of_ble_eq_true rfl) (Nat.le_of_ble_eq_true rfl) (Nat.le_of_ble_eq_true rfl) ?_
  obtain ⟨ft, tf1, tf2⟩ := pU.2
  have pU4 : zpR G h4 tO 0 rt := ⟨by rw [hE5 _ (by omega), hE3 _ (by omega)]; exact g3, ft, by rw [hE5 _ (by omega), hE4 _ (by omega)]; exact tf1, fun i hi => absurd hi (Nat.not_lt_zero _)⟩
  have pM4 : zpM G h4 tM o rm (M 1) := zpM.cg g1 (fun q z1 z2 => by rw [hE5 _ (by omega), hE3 _ (by omega), hE2 _ (by omega)])
  refine ⟨x, o, rm, a 3, a 1, R0, z, rO, tO, rM, tM, gg, fa, rt, M 1, E0, ex0, ee0, f0, L0, rfl, k4, cO, cM, (hE6 _ (by omega)).trans pO.1, (hE6 _ (by omega)).trans pO.2, b5, pM4, bM 1 (zSlot.e (by decide)), b1, b2, b3, pU4, y1, l1.to (hT6 _ (by omega) (by omega)) (hT6 _ (by omega) (by omega)), l2.to (hT6 _ (by omega) (by omega)) (hT6 _ (by omega) (by omega)) (hT6 _ (by omega) (by omega)), (by omega), fun h5 ff Rr cd tr5 kt5 rt5 Nt5 hz k5 pU5 hkt5 pN5 pL5 pD5 hE7 hcase => ?_⟩
  have hE8 : ∀ q, ¬ (q = x ∨ (x + 10 ≤ q ∧ q < x + 15) ∨ (x + 44 ≤ q ∧ q < x + 47) ∨ q = tO ∨ q = tO + 1 ∨ (tM ≤ q ∧ q < tM + 8)) → h5 q = h q := fun q hq => (hE7 q hq).trans (hE6 q hq)
  refine z_istore_n dX10_open_35 (Nat.le_of_ble_eq_true rfl) ?_
  rcases hcase with ⟨rfl, rfl⟩ | ⟨rfl, rfl⟩ | ⟨rfl, rfl, rfl, rfl, rfl, ⟨v6, v7, hCd⟩, hcd⟩
  · refine z_aload_n dX10_open_36 rfl ?_
    refine z_iload_n dX10_open_37 rfl ?_
    refine z_iconst (w := 3) dX10_open_38 (by decide) ?_
    refine z_icmp_ne (t := 52) dX10_open_39 (by decide) (fun q39 => ?_) (fun q39 => ?_)
    · refine z_bipush (w := -3) dX10_open_52 (by decide) ?_
      refine z_putfield dX10_open_54 fX10_55_10 rfl (fun q => absurd q (by decide)) k5 (Nat.le_of_ble_eq_true rfl) (Or.inl ⟨rfl, _, rfl⟩) ?_
      refine z_iload_n dX10_open_57 rfl ?_
      refine z_if_eq (t := 66) dX10_open_58 (by decide) (fun q58 => ?_) (fun q58 => ?_)
      · exact absurd q58 (by decide)
      · refine z_bipush (w := -10) dX10_open_61 (by decide) ?_
        refine z_iload_n dX10_open_63 rfl ?_
        refine z_isub dX10_open_64 ?_
        refine z_ireturn dX10_open_65 trivial (Nat.le_of_ble_eq_true rfl) (Nat.le_of_ble_eq_true rfl) ?_
        have hE9 : ∀ q, ¬ (q = x ∨ (x + 10 ≤ q ∧ q < x + 15) ∨ (x + 44 ≤ q ∧ q < x + 47) ∨ q = tO ∨ q = tO + 1 ∨ (tM ≤ q ∧ q < tM + 8)) → q ≠ x → va_up h5 x (some (zO 10 (zobj x o rm (a 3) (va_up z 2 (-3)) rO tO rM tM tr5))) q = h q := fun q hq hx => (zup_ne hx).trans (hE8 q hq)
        rw [show (-10 : Int32) - 1 = -11 by decide]
        exact hK _ a rx M (va_up z 2 (-3)) (-11) ⟨301, 1, Rr, rt, fa, hz, Or.inl ⟨rfl, rfl, rfl, rfl, rfl, rfl⟩⟩ ⟨rO, tO, rM, tM, tr5, kt5, rt5, Nt5, zget_eq, cO, cM, cb, cn, hkt5, pT.cg (hE9 _ (by omega) (by omega)) (hE9 _ (by omega) (by omega)), pO.cg (hE9 _ (by omega) (by omega)) (hE9 _ (by omega) (by omega)), pR.cg (hE9 _ (by omega) (by omega)) (hE9 _ (by omega) (by omega)), pU5.cg (zup_ne (by omega)) (zup_ne (by omega)), zpM.cg pA (fun q z1 z2 => hE9 q (by omega) (by omega)), zpM.cg pB (fun q z1 z2 => hE9 q (by omega) (by omega)), zpM.cg pN5 (fun q z1 z2 => zup_ne (by omega)), pS.cg (hE9 _ (by omega) (by omega)) (fun q z1 => hE9 q (by omega) (by omega)) (Nat.le_refl _), pL5.cg (fun q z1 z2 => zup_ne (by omega)) (by omega), pE.cg (hE9 _ (by omega) (by omega)), (pP.cg (fun q z1 z2 => hE9 q (by omega) (by omega))).mz rfl rfl rfl, pW.cg (hE9 _ (by omega) (by omega)), pD5.cg (fun q z1 z2 => zup_ne (by omega))⟩ (fun q z1 z2 => hE9 q (by omega) (by omega))
    · exact absurd q39 (by decide)
  · refine z_aload_n dX10_open_36 rfl ?_
    refine z_iload_n dX10_open_37 rfl ?_
    refine z_iconst (w := 3) dX10_open_38 (by decide) ?_
    refine z_icmp_ne (t := 52) dX10_open_39 (by decide) (fun q39 => ?_) (fun q39 => ?_)
    · refine z_bipush (w := -3) dX10_open_52 (by decide) ?_
      refine z_putfield dX10_open_54 fX10_55_10 rfl (fun q => absurd q (by decide)) k5 (Nat.le_of_ble_eq_true rfl) (Or.inl ⟨rfl, _, rfl⟩) ?_
      refine z_iload_n dX10_open_57 rfl ?_
      refine z_if_eq (t := 66) dX10_open_58 (by decide) (fun q58 => ?_) (fun q58 => ?_)
      · exact absurd q58 (by decide)
      · refine z_bipush (w := -10) dX10_open_61 (by decide) ?_
        refine z_iload_n dX10_open_63 rfl ?_
        refine z_isub dX10_open_64 ?_
        refine z_ireturn dX10_open_65 trivial (Nat.le_of_ble_eq_true rfl) (Nat.le_of_ble_eq_true rfl) ?_
        have hE9 : ∀ q, ¬ (q = x ∨ (x + 10 ≤ q ∧ q < x + 15) ∨ (x + 44 ≤ q ∧ q < x + 47) ∨ q = tO ∨ q = tO + 1 ∨ (tM ≤ q ∧ q < tM + 8)) → q ≠ x → va_up h5 x (some (zO 10 (zobj x o rm (a 3) (va_up z 2 (-3)) rO tO rM tM tr5))) q = h q := fun q hq hx => (zup_ne hx).trans (hE8 q hq)
        rw [show (-10 : Int32) - 2 = -12 by decide]
        exact hK _ a rx M (va_up z 2 (-3)) (-12) ⟨301, 2, Rr, rt, fa, hz, Or.inr (Or.inl ⟨rfl, rfl, rfl, rfl, rfl, rfl⟩)⟩ ⟨rO, tO, rM, tM, tr5, kt5, rt5, Nt5, zget_eq, cO, cM, cb, cn, hkt5, pT.cg (hE9 _ (by omega) (by omega)) (hE9 _ (by omega) (by omega)), pO.cg (hE9 _ (by omega) (by omega)) (hE9 _ (by omega) (by omega)), pR.cg (hE9 _ (by omega) (by omega)) (hE9 _ (by omega) (by omega)), pU5.cg (zup_ne (by omega)) (zup_ne (by omega)), zpM.cg pA (fun q z1 z2 => hE9 q (by omega) (by omega)), zpM.cg pB (fun q z1 z2 => hE9 q (by omega) (by omega)), zpM.cg pN5 (fun q z1 z2 => zup_ne (by omega)), pS.cg (hE9 _ (by omega) (by omega)) (fun q z1 => hE9 q (by omega) (by omega)) (Nat.le_refl _), pL5.cg (fun q z1 z2 => zup_ne (by omega)) (by omega), pE.cg (hE9 _ (by omega) (by omega)), (pP.cg (fun q z1 z2 => hE9 q (by omega) (by omega))).mz rfl rfl rfl, pW.cg (hE9 _ (by omega) (by omega)), pD5.cg (fun q z1 z2 => zup_ne (by omega))⟩ (fun q z1 z2 => hE9 q (by omega) (by omega))
    · exact absurd q39 (by decide)
  · rcases hcd with ⟨rfl, hq1, hq2⟩ | ⟨rfl, hq⟩
    · refine z_aload_n dX10_open_36 rfl ?_
      refine z_iload_n dX10_open_37 rfl ?_
      refine z_iconst (w := 3) dX10_open_38 (by decide) ?_
      refine z_icmp_ne (t := 52) dX10_open_39 (by decide) (fun q39 => ?_) (fun q39 => ?_)
      · refine z_bipush (w := -3) dX10_open_52 (by decide) ?_
        refine z_putfield dX10_open_54 fX10_55_10 rfl (fun q => absurd q (by decide)) (by first | exact k5 | exact e1) (Nat.le_of_ble_eq_true rfl) (Or.inl ⟨rfl, _, rfl⟩) ?_
        refine z_iload_n dX10_open_57 rfl ?_
        refine z_if_eq (t := 66) dX10_open_58 (by decide) (fun q58 => ?_) (fun q58 => ?_)
        · refine z_aload_n dX10_open_66 rfl ?_
          refine zcall1 (zck_V (na := 0) (ci := 10) (R' := rX10_takeTrial) (M' := mX10_takeTrial) (fun _ _ _ _ => tvX10_takeTrial) (by decide) kX10_takeTrial lX10_203 (by decide +kernel) rfl) dX10_open_67 (Nat.le_of_ble_eq_true rfl) (Nat.le_of_ble_eq_true rfl) (Nat.le_of_ble_eq_true rfl) ?_
          refine ⟨x, o, rm, a 3, va_up z 2 (-3), rO, tO, rM, tM, nI Rr.2.2.2.2, rfl, zget_eq, fun h6 e1 e2 => ?_⟩
          have hE9 : ∀ q, ¬ q = x → h6 q = h5 q := fun q hq => (e2 q hq).trans (zup_ne hq)
          have hE10 : ∀ q, ¬ (q = x ∨ (x + 10 ≤ q ∧ q < x + 15) ∨ (x + 44 ≤ q ∧ q < x + 47) ∨ q = tO ∨ q = tO + 1 ∨ (tM ≤ q ∧ q < tM + 8)) → q ≠ x → h6 q = h q := fun q hq hx => (hE9 q hx).trans (hE8 q hq)
          refine z_aload_n dX10_open_70 rfl ?_
          refine z_getfield dX10_open_71 fX10_21_10 rfl (by first | exact k5 | exact e1) rfl ?_
          refine zcall1 (zck_V (na := 0) (ci := 5) (R' := rX4_many) (M' := mX4_many) (fun _ _ _ _ => tvX4_many) (by decide) kX4_many lX10_107 (by decide +kernel) rfl) dX10_open_74 (Nat.le_of_ble_eq_true rfl) (Nat.le_of_ble_eq_true rfl) (Nat.le_of_ble_eq_true rfl) ?_
          refine ⟨_, _, _, rfl, ((hE9 _ (by omega)).trans pU5.1), ?_⟩
          refine z_ireturn dX10_open_77 trivial (Nat.le_of_ble_eq_true rfl) (Nat.le_of_ble_eq_true rfl) ?_
          refine hK h6 (va_up a 2 Rr.2.2.1) Rr.2.2.2.1 (va_up M 1 Rr.1) (va_up (va_up z 1 (z 1 + nI Rr.2.2.2.2)) 2 (-3)) _ ⟨301, 0, Rr, rt, fa, hz, Or.inr (Or.inr ⟨rfl, a 1, by omega, Nat.le_refl _, hq2, fun _ w => absurd w (Nat.lt_irrefl _), Or.inr ⟨⟨hq1.symm, rfl⟩, rfl, rfl, rfl, rfl, rfl⟩⟩)⟩ ⟨tO, rO, tM, rM, _, a 2, rx, M 1, e1, by omega, by omega, cb, cn, by omega, pT.cg (hE10 _ (by omega) (by omega)) (hE10 _ (by omega) (by omega)), pO.cg (hE10 _ (by omega) (by omega)) (hE10 _ (by omega) (by omega)), pU5.cg (hE9 _ (by omega)) (hE9 _ (by omega)), pR.cg (hE10 _ (by omega) (by omega)) (hE10 _ (by omega) (by omega)), zpM.cg pA (fun q z1 z2 => hE10 q (by omega) (by omega)), zpM.cg pN5 (fun q z1 z2 => hE9 q (by omega)), zpM.cg pB (fun q z1 z2 => hE10 q (by omega) (by omega)), zpS.mM (pS.cg (hE10 _ (by omega) (by omega)) (fun q z1 => hE10 q (by omega) (by omega)) (Nat.le_refl _)) (fun i _ => va_up_ne _ _ (by omega)), pL5.cg (fun q z1 z2 => hE9 q (by omega)) (by omega), pE.cg (hE10 _ (by omega) (by omega)), (pP.cg (fun q z1 z2 => hE10 q (by omega) (by omega))).mz rfl rfl rfl, pW.cg (hE10 _ (by omega) (by omega)), pD5.cg (fun q z1 z2 => hE9 q (by omega))⟩ (fun q z1 z2 => hE10 q (by omega) (by omega))
        · exact absurd rfl q58
      · exact absurd q39 (by decide)
    · have hcap : ((zpe Rr.2.1.1).2.1 + 7) / 8 ≤ 2484 := by
        obtain ⟨_, _, k3, _, _, k6⟩ := zRd_pk 301 _ Rr (bM 1 (zSlot.e (by decide))) (Nat.zero_le _) hz
        obtain ⟨es', rs', X', F', hPk⟩ := k6 0 0 XX F
        obtain ⟨-, -, p3⟩ := zPk_ok b1 _ 0 _ _ (bM 1 (zSlot.e (by decide))) (zEok0 fa) (Nat.le_refl _) hPk
        have := zpe_bits Rr.2.1.1
        dsimp only at p3
        omega
      refine z_aload_n dX10_open_36 rfl ?_
      refine z_iload_n dX10_open_37 rfl ?_
      refine z_iconst (w := 3) dX10_open_38 (by decide) ?_
      refine z_icmp_ne (t := 52) dX10_open_39 (by decide) (fun q39 => ?_) (fun q39 => ?_)
      · exact absurd rfl q39
      · refine z_aload_n dX10_open_42 rfl ?_
        refine z_getfield dX10_open_43 fX10_103_10 rfl k5 rfl ?_
        refine zcall1 (zck_V (na := 0) (ci := 7) (R' := rX6_firstDifference) (M' := mX6_firstDifference) (fun _ _ _ _ => tvX6_firstDifference) (by decide) kX6_firstDifference lX10_200 (by decide +kernel) rfl) dX10_open_46 (Nat.le_of_ble_eq_true rfl) (Nat.le_of_ble_eq_true rfl) (Nat.le_of_ble_eq_true rfl) ?_
        refine ⟨_, _, _, _, _, 2484, 2484, a 1, ((zpe Rr.2.1.1).2.1 + 7) / 8, _, _, _, _, _, _, gg, (zpe Rr.2.1.1).1, rfl, hCd.1, (hE8 _ (by omega)).trans pO.1, hCd.2.1, (hE8 _ (by omega)).trans pO.2, hCd.2.2, (by decide), (by decide), b5, hcap, fun i1 c1 c2 c3 => ?_⟩
        have hmn : min (a 1) (((zpe Rr.2.1.1).2.1 + 7) / 8) ≤ a 1 := Nat.min_le_left _ _
        have hmn2 : min (a 1) (((zpe Rr.2.1.1).2.1 + 7) / 8) ≤ ((zpe Rr.2.1.1).2.1 + 7) / 8 := Nat.min_le_right _ _
        have hmn3 : min (a 1) (((zpe Rr.2.1.1).2.1 + 7) / 8) = a 1 ∨ min (a 1) (((zpe Rr.2.1.1).2.1 + 7) / 8) = ((zpe Rr.2.1.1).2.1 + 7) / 8 := by omega
        have hno : ¬ (i1 = ((zpe Rr.2.1.1).2.1 + 7) / 8 ∧ i1 = a 1) := fun w => hq ⟨by omega, fun j hj => (c2 j (by omega)).symm⟩
        have hzr : zfr i1 (min (a 1) (((zpe Rr.2.1.1).2.1 + 7) / 8)) (a 1) (((zpe Rr.2.1.1).2.1 + 7) / 8) = nI i1 := by
          unfold zfr
          split
          · rfl
          · rw [if_neg (by omega), show min (a 1) (((zpe Rr.2.1.1).2.1 + 7) / 8) = i1 by omega]
        rw [hzr]
        refine z_goto (t := 54) dX10_open_49 (by decide) ?_
        refine z_putfield dX10_open_54 fX10_55_10 rfl (fun q => absurd q (by decide)) k5 (Nat.le_of_ble_eq_true rfl) (Or.inl ⟨rfl, _, rfl⟩) ?_
        refine z_iload_n dX10_open_57 rfl ?_
        refine z_if_eq (t := 66) dX10_open_58 (by decide) (fun q58 => ?_) (fun q58 => ?_)
        · exact absurd q58 (by decide)
        · refine z_bipush (w := -10) dX10_open_61 (by decide) ?_
          refine z_iload_n dX10_open_63 rfl ?_
          refine z_isub dX10_open_64 ?_
          refine z_ireturn dX10_open_65 trivial (Nat.le_of_ble_eq_true rfl) (Nat.le_of_ble_eq_true rfl) ?_
          have hE9 : ∀ q, ¬ (q = x ∨ (x + 10 ≤ q ∧ q < x + 15) ∨ (x + 44 ≤ q ∧ q < x + 47) ∨ q = tO ∨ q = tO + 1 ∨ (tM ≤ q ∧ q < tM + 8)) → q ≠ x → va_up h5 x (some (zO 10 (zobj x o rm (a 3) (va_up z 2 (nI i1)) rO tO rM tM (nI Rr.2.2.2.2)))) q = h q := fun q hq hx => (zup_ne hx).trans (hE8 q hq)
          rw [show (-10 : Int32) - 3 = -13 by decide]
          exact hK _ a rx M (va_up z 2 (nI i1)) (-13) ⟨301, 0, Rr, rt, fa, hz, Or.inr (Or.inr ⟨rfl, i1, by omega, by omega, fun j hj => (c2 j hj).symm, fun w1 w2 w3 => c3 (by omega) w3.symm, Or.inl ⟨hno, rfl, rfl, rfl, rfl, rfl⟩⟩)⟩ ⟨rO, tO, rM, tM, _, _, _, _, zget_eq, cO, cM, cb, cn, hkt5, pT.cg (hE9 _ (by omega) (by omega)) (hE9 _ (by omega) (by omega)), pO.cg (hE9 _ (by omega) (by omega)) (hE9 _ (by omega) (by omega)), pR.cg (hE9 _ (by omega) (by omega)) (hE9 _ (by omega) (by omega)), pU5.cg (zup_ne (by omega)) (zup_ne (by omega)), zpM.cg pA (fun q z1 z2 => hE9 q (by omega) (by omega)), zpM.cg pB (fun q z1 z2 => hE9 q (by omega) (by omega)), zpM.cg pN5 (fun q z1 z2 => zup_ne (by omega)), pS.cg (hE9 _ (by omega) (by omega)) (fun q z1 => hE9 q (by omega) (by omega)) (Nat.le_refl _), pL5.cg (fun q z1 z2 => zup_ne (by omega)) (by omega), pE.cg (hE9 _ (by omega) (by omega)), (pP.cg (fun q z1 z2 => hE9 q (by omega) (by omega))).mz rfl rfl rfl, pW.cg (hE9 _ (by omega) (by omega)), pD5.cg (fun q z1 z2 => zup_ne (by omega))⟩ (fun q z1 z2 => hE9 q (by omega) (by omega))

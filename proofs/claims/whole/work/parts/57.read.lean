/-! the class: open -/
abbrev rX10_takeTrial : Room := ⟨0, 0, 0, 0⟩
def SX10_takeTrial (G : zC) : zS := fun as h n K => ∃ (x o rm k3 : Nat) (z : Nat → Int32) (rO tO rM tM : Nat) (tr : Int32), as = [.ref x] ∧ h x = some (zO 10 (zobj x o rm k3 z rO tO rM tM tr)) ∧ ∀ h', h' x = some (zO 10 (zobj x o rm k3 (va_up z 1 (z 1 + tr)) tO rO tM rM tr)) → (∀ q, q ≠ x → h' q = h q) → K none h' n
set_option maxRecDepth 100000 in
theorem tvX10_takeTrial {G : zC} {as : List Value} {h : zH} {n : Nat} {K : zP} (hs : SX10_takeTrial G as h n K) : (∃ b fs r, as = .ref b :: r ∧ h b = some (.inr (10, fs))) ∧ zCt G rX10_takeTrial mX10_takeTrial as h n K := by
  obtain ⟨x, o, rm, k3, z, rO, tO, rM, tM, tr, rfl, c0, hK⟩ := hs
  refine ⟨⟨_, _, _, rfl, c0⟩, zCt.of (by decide) (Nat.le_of_ble_eq_true rfl) ?_⟩
  refine z_aload_n dX10_takeTrial_0 rfl ?_
  refine z_getfield dX10_takeTrial_1 fX10_83_10 rfl (by first | exact c0 | exact zget_eq) rfl ?_
  refine z_astore_n dX10_takeTrial_4 (Nat.le_of_ble_eq_true rfl) ?_
  refine z_aload_n dX10_takeTrial_5 rfl ?_
  refine z_aload_n dX10_takeTrial_6 rfl ?_
  refine z_getfield dX10_takeTrial_7 fX10_86_10 rfl (by first | exact c0 | exact zget_eq) rfl ?_
  refine z_putfield dX10_takeTrial_10 fX10_83_10 rfl (fun q => absurd q (by decide)) (by first | exact c0 | exact zget_eq) (Nat.le_of_ble_eq_true rfl) (Or.inr (Or.inl ⟨rfl, _, rfl⟩)) ?_
  refine z_aload_n dX10_takeTrial_13 rfl ?_
  refine z_aload_n dX10_takeTrial_14 rfl ?_
  refine z_putfield dX10_takeTrial_15 fX10_86_10 rfl (fun q => absurd q (by decide)) (by first | exact c0 | exact zget_eq) (Nat.le_of_ble_eq_true rfl) (Or.inr (Or.inl ⟨rfl, _, rfl⟩)) ?_
  refine z_aload_n dX10_takeTrial_18 rfl ?_
  refine z_getfield dX10_takeTrial_19 fX10_21_10 rfl (by first | exact c0 | exact zget_eq) rfl ?_
  refine z_astore_n dX10_takeTrial_22 (Nat.le_of_ble_eq_true rfl) ?_
  refine z_aload_n dX10_takeTrial_23 rfl ?_
  refine z_aload_n dX10_takeTrial_24 rfl ?_
  refine z_getfield dX10_takeTrial_25 fX10_24_10 rfl (by first | exact c0 | exact zget_eq) rfl ?_
  refine z_putfield dX10_takeTrial_28 fX10_21_10 rfl (fun q => absurd q (by decide)) (by first | exact c0 | exact zget_eq) (Nat.le_of_ble_eq_true rfl) (Or.inr (Or.inl ⟨rfl, _, rfl⟩)) ?_
  refine z_aload_n dX10_takeTrial_31 rfl ?_
  refine z_aload_n dX10_takeTrial_32 rfl ?_
  refine z_putfield dX10_takeTrial_33 fX10_24_10 rfl (fun q => absurd q (by decide)) (by first | exact c0 | exact zget_eq) (Nat.le_of_ble_eq_true rfl) (Or.inr (Or.inl ⟨rfl, _, rfl⟩)) ?_
  refine z_aload_n dX10_takeTrial_36 rfl ?_
  refine z_dup dX10_takeTrial_37 rfl ?_
  refine z_getfield dX10_takeTrial_38 fX10_210_10 rfl (by first | exact c0 | exact zget_eq) rfl ?_
  refine z_aload_n dX10_takeTrial_41 rfl ?_
  refine z_getfield dX10_takeTrial_42 fX10_193_10 rfl (by first | exact c0 | exact zget_eq) rfl ?_
  refine z_iadd dX10_takeTrial_45 ?_
  refine z_putfield dX10_takeTrial_46 fX10_210_10 rfl (fun q => absurd q (by decide)) (by first | exact c0 | exact zget_eq) (Nat.le_of_ble_eq_true rfl) (Or.inl ⟨rfl, _, rfl⟩) ?_
  refine z_vreturn dX10_takeTrial_49 rfl (Nat.le_of_ble_eq_true rfl) (Nat.le_of_ble_eq_true rfl) ?_
  exact hK _ (by rw [zget_eq]; rfl) (fun q hq => by simp only [va_up, if_neg hq])
abbrev rX10_read : Room := ⟨5, 0, 0, 200⟩
def SX10_read (G : zC) : zS := fun as h n K => ∃ (x o rm k3 kk R : Nat) (z : Nat → Int32) (rO tO rM tM : Nat) (gg f0 : Nat → Int32) (rt : Nat → Nat) (M1 : zMs) (E : Nat → Bool) (ex es : Nat) (f1 : Int32) (L : List (Nat × Nat)), as = [.ref x] ∧ h x = some (zO 10 (zobj x o rm k3 z rO tO rM tM (nI 0))) ∧ ((rO = x + 5 ∧ tO = x + 7) ∨ (rO = x + 7 ∧ tO = x + 5)) ∧ ((rM = x + 27 ∧ tM = x + 35) ∨ (rM = x + 35 ∧ tM = x + 27)) ∧ h (x + 3) = some (zO 5 [.ref (x + 4), .int (nI kk)]) ∧ h (x + 4) = some (zI G 2484 gg) ∧ kk ≤ 2484 ∧ zpM G h tM o rm M1 ∧ zMi o rm M1 ∧ o ≤ 4 ∧ 8 ≤ rm ∧ rm ≤ 1500 ∧ zpR G h tO 0 rt ∧ zCd G h 7 (x + 44) (x + 45) (x + 46) [.ref (x + 3), .int (nI (znum0 (zbn gg kk) 16)), .int (nI 16)] (f0, 0, 0, 65535, 0) ∧ zTel G h (x + 10) (x + 11) (x + 14) R E ex es f1 ∧ zCho G h (x + 11) (x + 12) (x + 13) L ∧ R < 1000000 ∧ ∀ (h' : zH) (f : Nat) (Rr : zRr) (cd tr : Int32) (kt : Nat) (rt' : Nat → Nat) (Nt : zMs), zRd o rm gg kk 301 (M1, ((f0, 0, 0, 65535, 0), znum0 (zbn gg kk) 16, 16), 0, rt, 0) f Rr → h' x = some (zO 10 (zobj x o rm k3 z rO tO rM tM tr)) → zpR G h' tO kt rt' → kt ≤ 300 → zpM G h' tM o rm Nt → zpL G h' x (R + 302) → zpD G h' x → (∀ q, ¬ (q = x ∨ (x + 10 ≤ q ∧ q < x + 15) ∨ (x + 44 ≤ q ∧ q < x + 47) ∨ q = tO ∨ q = tO + 1 ∨ (tM ≤ q ∧ q < tM + 8)) → h' q = h q) → ((f = 1 ∧ cd = 1) ∨ (f = 2 ∧ cd = 2) ∨ (f = 0 ∧ Nt = Rr.1 ∧ kt = Rr.2.2.1 ∧ rt' = Rr.2.2.2.1 ∧ tr = nI Rr.2.2.2.2 ∧ (∃ v6 v7, zCd G h' 7 (x + 44) (x + 45) (x + 46) [.ref (x + 3), v6, v7] (zpe Rr.2.1.1)) ∧ ((cd = 0 ∧ (((zpe Rr.2.1.1).2.1 + 7) / 8 = kk ∧ ∀ j, j < kk → (zpe Rr.2.1.1).1 j = gg j)) ∨ (cd = 3 ∧ ¬ (((zpe Rr.2.1.1).2.1 + 7) / 8 = kk ∧ ∀ j, j < kk → (zpe Rr.2.1.1).1 j = gg j))))) → K (some (.int cd)) h' n
set_option maxRecDepth 100000 in
theorem tvX10_read {G : zC} {as : List Value} {h : zH} {n : Nat} {K : zP} (hs : SX10_read G as h n K) : (∃ b fs r, as = .ref b :: r ∧ h b = some (.inr (10, fs))) ∧ zCt G rX10_read mX10_read as h n K := by
  obtain ⟨x, o, rm, k3, kk, R, z, rO, tO, rM, tM, gg, f0, rt, M1, E, ex, es, f1, L, rfl, c0, cO, cM, pO1, pO2, hkk, hM, hMi, b1, b2, b3, pU, hCd, hT, hL, hR, hK⟩ := hs
  refine ⟨⟨_, _, _, rfl, c0⟩, zCt.of (by decide) (Nat.le_of_ble_eq_true rfl) ?_⟩
  have loop : ∀ (d i : Nat) (P : zRr) (h1 : zH) (Rn : Nat) (E : Nat → Bool) (ex es : Nat) (f1 : Int32) (L : List (Nat × Nat)), d + i = 301 → i ≤ 300 → P.2.2.1 = i → h1 x = some (zO 10 (zobj x o rm k3 z rO tO rM tM (nI P.2.2.2.2))) → zpM G h1 tM o rm P.1 → zMi o rm P.1 → zpR G h1 tO i P.2.2.2.1 → zCd G h1 7 (x + 44) (x + 45) (x + 46) [.ref (x + 3), .int (nI P.2.1.2.1), .int (nI P.2.1.2.2)] P.2.1.1 → zRs P.2.1 → P.2.1.1.2.1 + P.2.1.1.2.2.2.2 ≤ 66 * i → P.2.1.2.2 ≤ 8 * kk + 112 → zTel G h1 (x + 10) (x + 11) (x + 14) Rn E ex es f1 → zCho G h1 (x + 11) (x + 12) (x + 13) L → Rn ≤ R + i → (∀ q, ¬ (q = x ∨ (x + 10 ≤ q ∧ q < x + 15) ∨ (x + 44 ≤ q ∧ q < x + 47) ∨ q = tO ∨ q = tO + 1 ∨ (tM ≤ q ∧ q < tM + 8)) → h1 q = h q) → (∀ (h' : zH) (f : Nat) (Rr : zRr) (cd tr : Int32) (kt : Nat) (rt' : Nat → Nat) (Nt : zMs), zRd o rm gg kk d P f Rr → h' x = some (zO 10 (zobj x o rm k3 z rO tO rM tM tr)) → zpR G h' tO kt rt' → kt ≤ 300 → zpM G h' tM o rm Nt → zpL G h' x (R + 302) → zpD G h' x → (∀ q, ¬ (q = x ∨ (x + 10 ≤ q ∧ q < x + 15) ∨ (x + 44 ≤ q ∧ q < x + 47) ∨ q = tO ∨ q = tO + 1 ∨ (tM ≤ q ∧ q < tM + 8)) → h' q = h q) → ((f = 1 ∧ cd = 1) ∨ (f = 2 ∧ cd = 2) ∨ (f = 0 ∧ Nt = Rr.1 ∧ kt = Rr.2.2.1 ∧ rt' = Rr.2.2.2.1 ∧ tr = nI Rr.2.2.2.2 ∧ (∃ v6 v7, zCd G h' 7 (x + 44) (x + 45) (x + 46) [.ref (x + 3), v6, v7] (zpe Rr.2.1.1)) ∧ ((cd = 0 ∧ (((zpe Rr.2.1.1).2.1 + 7) / 8 = kk ∧ ∀ j, j < kk → (zpe Rr.2.1.1).1 j = gg j)) ∨ (cd = 3 ∧ ¬ (((zpe Rr.2.1.1).2.1 + 7) / 8 = kk ∧ ∀ j, j < kk → (zpe Rr.2.1.1).1 j = gg j))))) → K (some (.int cd)) h' n) → zZ (zXm G rX10_read mX10_read [.ref x] h n K) 2 [(0, .ref x), (1, .int (nI i))] [] h1 n 0 0 := by
    intro d
    induction d with
    | zero => intro i P h1 Rn E ex es f1 L hd hi; omega
    | succ d ih =>
      intro i P h1 Rn E ex es f1 L hd hi hgot k0 hM hMi pU hCd hS hcap htk hT hL hRn hE hK
      have hlm4 : P.1.2.2.1 ≤ 4 := Nat.le_trans hMi.2.2.2.1 b1
      have pO1' : h1 (x + 3) = some (zO 5 [.ref (x + 4), .int (nI kk)]) := (hE _ (by omega)).trans pO1
      have pO2' : h1 (x + 4) = some (zI G 2484 gg) := (hE _ (by omega)).trans pO2
      have hD0 : zpD G h1 x := ⟨_, _, _, _, _, _, _, _, hCd.1, hCd.2.1, hCd.2.2⟩
      have hcx : ∀ k, k < P.1.2.2.1 + 1 → P.1.2.2.2.2 k < P.1.1.1 := fun k hk => (hMi.2.2.2.2.2.2.1 k (by omega)).1
      refine z_iload_n dX10_read_2 rfl ?_
      refine z_sipush (w := 300) dX10_read_3 (by decide) ?_
      refine z_icmp_gt (t := 127) dX10_read_6 (by decide) (fun q6 => ?_) (fun q6 => ?_)
      · exact absurd ((nI_ltI (a := 300) (by decide) (by omega)).mp q6) (by omega)
      · refine z_aload_n dX10_read_9 rfl ?_
        refine z_getfield dX10_read_10 fX10_103_10 rfl (by first | exact k0 | exact k2) rfl ?_
        refine zcall1 (zck_V (na := 0) (ci := 7) (R' := rX6_takenBehind) (M' := mX6_takenBehind) (fun _ _ _ _ => tvX6_takenBehind) (by decide) kX6_takenBehind lX10_206 (by decide +kernel) rfl) dX10_read_13 (Nat.le_of_ble_eq_true rfl) (Nat.le_of_ble_eq_true rfl) (Nat.le_of_ble_eq_true rfl) ?_
        refine ⟨_, _, _, _, _, _, _, _, _, _, _, rfl, hCd.1, pO1', ?_⟩
        rw [show (8 : Int32) * nI kk = nI (8 * kk) from zn_mul 8 kk]
        refine z_bipush (w := 16) dX10_read_16 (by decide) ?_
        refine z_icmp_le (t := 23) dX10_read_18 (by decide) (fun q18 => ?_) (fun q18 => ?_)
        · have w18 : ¬ 8 * kk + 16 < P.2.1.2.2 := Nat.not_lt.mpr ((zsuble (c := 16) (by omega) (by omega) (by decide)).mp q18)
          refine z_aload_n dX10_read_23 rfl ?_
          refine z_getfield dX10_read_24 fX10_37_10 rfl (by first | exact k0 | exact k2) rfl ?_
          refine z_aload_n dX10_read_27 rfl ?_
          refine z_getfield dX10_read_28 fX10_86_10 rfl (by first | exact k0 | exact k2) rfl ?_
          refine z_aload_n dX10_read_31 rfl ?_
          refine z_getfield dX10_read_32 fX10_103_10 rfl (by first | exact k0 | exact k2) rfl ?_
          refine zcall3 (zck_V (na := 2) (ci := 8) (R' := rX8_tell_7) (M' := mX8_tell) (fun _ _ _ _ => tvX8_tell_7) (by decide) kX8_tell lX10_181 (by decide +kernel) rfl) dX10_read_35 (Nat.le_of_ble_eq_true rfl) (Nat.le_of_ble_eq_true rfl) (Nat.le_of_ble_eq_true rfl) ?_
          refine ⟨x + 10, x + 11, x + 12, x + 13, x + 14, Rn, ex, es, f1, E, L, zmk tM, o, rm, _, _, _, _, _, x + 44, x + 45, x + 46, x + 3, x + 4, 2484, kk, gg, P.2.1, rfl, hT, hL, (by omega), (by omega), hM, hMi.2.1, (fun q hq => by have := zmk_aw.mp hq; omega), (fun j hj => (hMi.2.2.2.2.2.2.1 j hj).1), (by omega), hCd, (by omega), (by omega), (by omega), pO1', pO2', (by decide), hkk, (by omega), (by omega), (by omega), (by omega), (by omega), hS.1, (by omega), hS.2.1, hS.2.2, (by omega), fun h2 y t1 t2 t3 t4 t5 => ?_⟩
          have hy := zTl_r hMi.1 hMi.2.1 (N := P.1.2.2.1 + 1) hcx _ _ _ _ _ y (Nat.le_refl _) rfl hS.1 hS.2.1 hS.2.2 t1
          have hsg := zTl_sg (fun _ _ _ _ h => h.1) hMi.1 (N := P.1.2.2.1 + 1) hcx _ _ _ _ _ y (Nat.le_refl _) t1
          have hE1 : ∀ q, ¬ ((x + 10 ≤ q ∧ q < x + 15) ∨ (x + 44 ≤ q ∧ q < x + 47)) → h2 q = h1 q := fun q hq => t5 q (by omega) (by omega) (by omega) (by omega) (by omega) (by omega) (by omega) (by omega)
          have hE2 : ∀ q, ¬ (q = x ∨ (x + 10 ≤ q ∧ q < x + 15) ∨ (x + 44 ≤ q ∧ q < x + 47) ∨ q = tO ∨ q = tO + 1 ∨ (tM ≤ q ∧ q < tM + 8)) → h2 q = h q := fun q hq => (hE1 q (by omega)).trans (hE q hq)
          have k2 := (hE1 x (by omega)).trans k0
          have hM2 := zpM.cg (h' := h2) hM (fun q z1 z2 => hE1 q (by omega))
          have pU2 := pU.cg (h' := h2) (hE1 _ (by omega)) (hE1 _ (by omega))
          obtain ⟨L2, t4⟩ := t4
          refine z_istore_n dX10_read_38 (Nat.le_of_ble_eq_true rfl) ?_
          by_cases e6 : y.2.2.2.2.1 = 256
          · rw [e6]
            refine z_iload_n dX10_read_39 rfl ?_
            refine z_sipush (w := 256) dX10_read_40 (by decide) ?_
            refine z_icmp_ne (t := 70) dX10_read_43 (by decide) (fun q43 => ?_) (fun q43 => ?_)
            · exact absurd rfl q43
            · refine z_aload_n dX10_read_46 rfl ?_
              refine z_getfield dX10_read_47 fX10_103_10 rfl (by first | exact k2 | exact (hE3 _ (by omega)).trans k2) rfl ?_
              refine zcall1 (zck_U (na := 0) (ci := 7) (C := RX6) (owner := "PpmTrees$Coder") (x := ⟨"PpmTrees$Reader", "finish", "()V"⟩) (R' := rX1_finish_7) (M' := mX1_finish) (fun _ _ _ _ => tvX1_finish_7) (by decide) kX1_finish lUX10_209_7 (Or.inl dUX10_209) (by decide +kernel) rfl) dX10_read_50 (Nat.le_of_ble_eq_true rfl) (Nat.le_of_ble_eq_true rfl) (Nat.le_of_ble_eq_true rfl) ?_
              refine ⟨_, _, _, _, _, rfl, t3, (by have := hy.1.1; have := hy.1.2.1; omega), (by have := hy.2.1; omega), fun h3 y1 y2 => ?_⟩
              have hE3 : ∀ q, ¬ (x + 44 ≤ q ∧ q < x + 47) → h3 q = h2 q := fun q hq => y2 q (by omega) (by omega) (by omega)
              have hE4 : ∀ q, ¬ (q = x ∨ (x + 10 ≤ q ∧ q < x + 15) ∨ (x + 44 ≤ q ∧ q < x + 47) ∨ q = tO ∨ q = tO + 1 ∨ (tM ≤ q ∧ q < tM + 8)) → h3 q = h q := fun q hq => (hE3 q (by omega)).trans (hE2 q hq)
              have hbits := zpe_bits y.1.1
              have y1' : zCd G h3 7 (x + 44) (x + 45) (x + 46) [.ref (x + 3), .int (nI y.1.2.1), .int (nI y.1.2.2)] (zpe y.1.1) := y1
              have hrd : zRd o rm gg kk (d + 1) P 0 (P.1, y.1, P.2.2) := Or.inr ⟨w18, y, t1, Or.inl ⟨e6, rfl, rfl⟩⟩
              have fin : ∀ cd : Int32, ((cd = 0 ∧ (((zpe y.1.1).2.1 + 7) / 8 = kk ∧ ∀ j, j < kk → (zpe y.1.1).1 j = gg j)) ∨ (cd = 3 ∧ ¬ (((zpe y.1.1).2.1 + 7) / 8 = kk ∧ ∀ j, j < kk → (zpe y.1.1).1 j = gg j))) → K (some (.int cd)) h3 n := fun cd hcd => hK h3 0 (P.1, y.1, P.2.2) cd _ i P.2.2.2.1 P.1 hrd ((hE3 _ (by omega)).trans k2) (pU2.cg (hE3 _ (by omega)) (hE3 _ (by omega))) hi (zpM.cg hM2 (fun q z1 z2 => hE3 q (by omega))) ⟨Rn + 1, _, _, _, _, L2, t2.to (hE3 _ (by omega)) (hE3 _ (by omega)), t4.to (hE3 _ (by omega)) (hE3 _ (by omega)) (hE3 _ (by omega)), by omega⟩ ⟨_, _, _, _, _, _, _, _, y1'.1, y1'.2.1, y1'.2.2⟩ hE4 (Or.inr (Or.inr ⟨rfl, rfl, hgot.symm, rfl, rfl, ⟨_, _, y1'⟩, hcd⟩))
              refine z_aload_n dX10_read_53 rfl ?_
              refine z_getfield dX10_read_54 fX10_103_10 rfl (by first | exact k2 | exact (hE3 _ (by omega)).trans k2) rfl ?_
              refine zcall1 (zck_V (na := 0) (ci := 7) (R' := rX6_firstDifference) (M' := mX6_firstDifference) (fun _ _ _ _ => tvX6_firstDifference) (by decide) kX6_firstDifference lX10_200 (by decide +kernel) rfl) dX10_read_57 (Nat.le_of_ble_eq_true rfl) (Nat.le_of_ble_eq_true rfl) (Nat.le_of_ble_eq_true rfl) ?_
              refine ⟨_, _, _, _, _, 2484, 2484, kk, ((zpe y.1.1).2.1 + 7) / 8, _, _, _, _, _, _, gg, (zpe y.1.1).1, rfl, y1'.1, (hE4 _ (by omega)).trans pO1, y1'.2.1, (hE4 _ (by omega)).trans pO2, y1'.2.2, (by decide), (by decide), hkk, (by have := hy.2.1; omega), fun i1 c1 c2 c3 => ?_⟩
              have hmn : min kk (((zpe y.1.1).2.1 + 7) / 8) ≤ kk := Nat.min_le_left _ _
              have hmn2 : min kk (((zpe y.1.1).2.1 + 7) / 8) ≤ ((zpe y.1.1).2.1 + 7) / 8 := Nat.min_le_right _ _
              refine z_iconst (w := -1) dX10_read_60 (by decide) ?_
              refine z_icmp_ne (t := 68) dX10_read_61 (by decide) (fun q61 => ?_) (fun q61 => ?_)
              · have hq : ¬ (((zpe y.1.1).2.1 + 7) / 8 = kk ∧ ∀ j, j < kk → (zpe y.1.1).1 j = gg j) := fun w => by
                  apply q61
                  unfold zfr
                  rw [if_neg (fun w2 => c3 w2 (w.2 i1 (by omega)).symm), if_pos w.1.symm]
                refine z_iconst (w := 3) dX10_read_68 (by decide) ?_
                refine z_ireturn dX10_read_69 trivial (Nat.le_of_ble_eq_true rfl) (Nat.le_of_ble_eq_true rfl) ?_
                first
                | exact fin 0 (Or.inl ⟨rfl, hq.2.symm, fun j hj => (c2 j (by omega)).symm⟩)
                | exact fin 3 (Or.inr ⟨rfl, hq⟩)
              · have hq : i1 = min kk (((zpe y.1.1).2.1 + 7) / 8) ∧ kk = ((zpe y.1.1).2.1 + 7) / 8 := by
                  unfold zfr at q61
                  split at q61
                  · exact absurd q61 (zpos_ne (k := i1) (by omega))
                  · split at q61
                    · exact ⟨by omega, by assumption⟩
                    · exact absurd q61 (zpos_ne (k := min kk (((zpe y.1.1).2.1 + 7) / 8)) (by omega))
                refine z_iconst (w := 0) dX10_read_64 (by decide) ?_
                refine z_goto (t := 69) dX10_read_65 (by decide) ?_
                refine z_ireturn dX10_read_69 trivial (Nat.le_of_ble_eq_true rfl) (Nat.le_of_ble_eq_true rfl) ?_
                first
                | exact fin 0 (Or.inl ⟨rfl, hq.2.symm, fun j hj => (c2 j (by omega)).symm⟩)
                | exact fin 3 (Or.inr ⟨rfl, hq⟩)
          · have hsl : y.2.2.2.2.1 < 256 := by have := hsg.1; omega
            refine z_iload_n dX10_read_39 rfl ?_
            refine z_sipush (w := 256) dX10_read_40 (by decide) ?_
            refine z_icmp_ne (t := 70) dX10_read_43 (by decide) (fun q43 => ?_) (fun q43 => ?_)
            · refine z_aload_n dX10_read_70 rfl ?_
              refine z_getfield dX10_read_71 fX10_24_10 rfl (by first | exact k2 | exact k3') rfl ?_
              refine zcall1 (zck_V (na := 0) (ci := 5) (R' := rX4_many) (M' := mX4_many) (fun _ _ _ _ => tvX4_many) (by decide) kX4_many lX10_107 (by decide +kernel) rfl) dX10_read_74 (Nat.le_of_ble_eq_true rfl) (Nat.le_of_ble_eq_true rfl) (Nat.le_of_ble_eq_true rfl) ?_
              refine ⟨_, _, _, rfl, pU2.1, ?_⟩
              refine z_sipush (w := 300) dX10_read_77 (by decide) ?_
              refine z_icmp_lt (t := 85) dX10_read_80 (by decide) (fun q80 => ?_) (fun q80 => ?_)
              · have w80 : i < 300 := (nI_ltI (b := 300) (by omega) (by decide)).mp q80
                refine z_aload_n dX10_read_85 rfl ?_
                refine z_getfield dX10_read_86 fX10_24_10 rfl (by first | exact k2 | exact k3') rfl ?_
                refine z_iload_n dX10_read_89 rfl ?_
                refine zcall2 (zck_V (na := 1) (ci := 5) (R' := rX4_append) (M' := mX4_append) (fun _ _ _ _ => tvX4_append) (by decide) kX4_append lX10_118 (by decide +kernel) rfl) dX10_read_90 (Nat.le_of_ble_eq_true rfl) (Nat.le_of_ble_eq_true rfl) (Nat.le_of_ble_eq_true rfl) ?_
                obtain ⟨f9, uf1, uf2⟩ := pU2.2
                refine ⟨_, _, _, _, f9, _, rfl, pU2.1, uf1, (by decide), (by omega), fun h3 g1 g2 g3 => ?_⟩
                have hE3 : ∀ q, ¬ (q = tO ∨ q = tO + 1) → h3 q = h2 q := fun q hq => g3 q (by omega) (by omega)
                have pU3 : zpR G h3 tO (i + 1) (va_up P.2.2.2.1 i y.2.2.2.2.1) := ⟨g1, _, g2, fun j hj => by
                  by_cases e9 : j = i
                  · rw [e9, zu_eq, va_up_self]
                  · rw [zu_ne e9, va_up_ne _ _ e9]; exact uf2 j (by omega)⟩
                have k3' := (hE3 x (by omega)).trans k2
                refine z_aload_n dX10_read_93 rfl ?_
                refine z_getfield dX10_read_94 fX10_86_10 rfl (by first | exact k2 | exact k3') rfl ?_
                refine z_iload_n dX10_read_97 rfl ?_
                refine z_aload_n dX10_read_98 rfl ?_
                refine z_getfield dX10_read_99 fX10_37_10 rfl (by first | exact k2 | exact k3') rfl ?_
                refine zcall1 (zck_V (na := 0) (ci := 8) (R' := rX8_lowestToLearn) (M' := mX8_lowestToLearn) (fun _ _ _ _ => tvX8_lowestToLearn) (by decide) kX8_lowestToLearn lX10_153 (by decide +kernel) rfl) dX10_read_102 (Nat.le_of_ble_eq_true rfl) (Nat.le_of_ble_eq_true rfl) (Nat.le_of_ble_eq_true rfl) ?_
                refine ⟨_, _, _, _, _, _, _, rfl, (hE3 _ (by omega)).trans t2.1, ?_⟩
                rw [zfi_lo (fun k hk => by have := (hsg.2.2 k hk).1; omega)]
                refine zcall3 (zck_V (na := 2) (ci := 4) (R' := rX3_learn) (M' := mX3_learn) (fun _ _ _ _ => tvX3_learn) (by decide) kX3_learn lX10_156 (by decide +kernel) rfl) dX10_read_105 (Nat.le_of_ble_eq_true rfl) (Nat.le_of_ble_eq_true rfl) (Nat.le_of_ble_eq_true rfl) ?_
                obtain ⟨f1', f2'⟩ := zfound hMi (y := y) (b := y.2.2.2.2.1) (fun k hk => ⟨(hsg.2.2 k hk).1, (hsg.2.2 k hk).2.2⟩)
                have hM3 : zpM G h3 tM o rm P.1 := zpM.cg hM2 (fun q z1 z2 => hE3 q (by omega))
                refine ⟨zmk tM, o, rm, _, _, _, _, _, y.2.2.2.2.1, zlo y.2.2.2.2.2, rfl, hM3, hMi.2.1, hsl, hMi.2.2.2.2.2.1, f1', (fun k hk => (hMi.2.2.2.2.2.2.1 k hk).1), f2', fun h4 T' ch' r1 r2 r3 r4 r5 => ?_, fun h4 d9 T1 ch1 r1 r2 r3 r4 r5 => ?_⟩
                · have hE4 : ∀ q, ¬ (tM ≤ q ∧ q < tM + 8) → h4 q = h3 q := fun q hq => r5 q (fun w => hq (zmk_aw.mp w))
                  have hE4' : ∀ q, ¬ ((tM ≤ q ∧ q < tM + 8) ∨ q = tO ∨ q = tO + 1) → h4 q = h2 q := fun q hq => (hE4 q (by omega)).trans (hE3 q (by omega))
                  have hLn := zLn.no hMi b3 b1 hsl f1' f2' r1 r2 r3 r4.nums.1 r4.nums.2.2.2.2.1
                  refine z_if_eq (t := 121) dX10_read_108 (by decide) (fun q108 => ?_) (fun q108 => ?_)
                  · refine z_iinc dX10_read_121 rfl (Nat.le_of_ble_eq_true rfl) ?_
                    refine z_goto (t := 2) dX10_read_124 (by decide) ?_
                    rw [show nI i + Int32.ofInt 1 = nI (i + 1) from nI_1 i]
                    refine zZ.keep [0, 1] ?_
                    refine ih (i + 1) (zMn o y.2.2.2.2.1 P.1 T' ch', y.1, P.2.2.1 + 1, va_up P.2.2.2.1 P.2.2.1 y.2.2.2.2.1, P.2.2.2.2 + false.toNat) h4 (Rn + 1) _ _ _ _ L2 (by omega) (by omega) (by dsimp only; omega) ((hE4 _ (by omega)).trans k3') r4 hLn.1 (by rw [hgot]; exact pU3.cg (hE4 _ (by omega)) (hE4 _ (by omega))) ⟨(hE4' _ (by omega)).trans t3.1, (hE4' _ (by omega)).trans t3.2.1, (hE4' _ (by omega)).trans t3.2.2⟩ ⟨hy.1, hy.2.2.1, hy.2.2.2.1⟩ (by have := hy.2.1; dsimp only; omega) (by have := hy.2.2.2.2; dsimp only; omega) (t2.to (hE4' _ (by omega)) (hE4' _ (by omega))) (t4.to (hE4' _ (by omega)) (hE4' _ (by omega)) (hE4' _ (by omega))) (by omega) (fun q hq => ?_) (fun h' f Rr cd tr kt rt' Nt hz => hK h' f Rr cd tr kt rt' Nt (Or.inr ⟨w18, y, t1, Or.inr (Or.inr ⟨e6, by omega, false, _, hLn, hz⟩)⟩))
                    rw [hE4' q (by omega)]; exact hE2 q hq
                  · exact absurd rfl q108
                · have hE4 : ∀ q, ¬ (tM ≤ q ∧ q < tM + 8) → h4 q = h3 q := fun q hq => r5 q (fun w => hq (zmk_aw.mp w))
                  have hLn := zLn.yes (o := o) b2 r1 r2 r3
                  have k4 := (hE4 x (by omega)).trans k3'
                  refine z_if_eq (t := 121) dX10_read_108 (by decide) (fun q108 => ?_) (fun q108 => ?_)
                  · exact absurd q108 (by decide)
                  · refine z_aload_n dX10_read_111 rfl ?_
                    refine z_dup dX10_read_112 rfl ?_
                    refine z_getfield dX10_read_113 fX10_193_10 rfl k4 rfl ?_
                    refine z_iconst (w := 1) dX10_read_116 (by decide) ?_
                    refine z_iadd dX10_read_117 ?_
                    rw [nI_1]
                    refine z_putfield dX10_read_118 fX10_193_10 rfl (fun q => absurd q (by decide)) k4 (Nat.le_of_ble_eq_true rfl) (Or.inl ⟨rfl, _, rfl⟩) ?_
                    refine z_iinc dX10_read_121 rfl (Nat.le_of_ble_eq_true rfl) ?_
                    refine z_goto (t := 2) dX10_read_124 (by decide) ?_
                    have hE6 : ∀ q, ¬ ((tM ≤ q ∧ q < tM + 8) ∨ q = x) → va_up h4 x (some (zO 10 (zobj x o rm k3 z rO tO rM tM (nI (P.2.2.2.2 + 1))))) q = h3 q := fun q hq => (zup_ne (by omega)).trans (hE4 q (by omega))
                    have hE6' : ∀ q, ¬ ((tM ≤ q ∧ q < tM + 8) ∨ q = tO ∨ q = tO + 1 ∨ q = x) → va_up h4 x (some (zO 10 (zobj x o rm k3 z rO tO rM tM (nI (P.2.2.2.2 + 1))))) q = h2 q := fun q hq => (hE6 q (by omega)).trans (hE3 q (by omega))
                    rw [show nI i + Int32.ofInt 1 = nI (i + 1) from nI_1 i]
                    refine zZ.keep [0, 1] ?_
                    refine ih (i + 1) (zM0, y.1, P.2.2.1 + 1, va_up P.2.2.2.1 P.2.2.1 y.2.2.2.2.1, P.2.2.2.2 + true.toNat) (va_up h4 x (some (zO 10 (zobj x o rm k3 z rO tO rM tM (nI (P.2.2.2.2 + 1)))))) (Rn + 1) _ _ _ _ L2 (by omega) (by omega) (by dsimp only; omega) zget_eq (zpM.cg (r4 _ _ _ _) (fun q z1 z2 => zup_ne (by omega))) hLn.1 (by rw [hgot]; exact pU3.cg (hE6 _ (by omega)) (hE6 _ (by omega))) ⟨(hE6' _ (by omega)).trans t3.1, (hE6' _ (by omega)).trans t3.2.1, (hE6' _ (by omega)).trans t3.2.2⟩ ⟨hy.1, hy.2.2.1, hy.2.2.2.1⟩ (by have := hy.2.1; dsimp only; omega) (by have := hy.2.2.2.2; dsimp only; omega) (t2.to (hE6' _ (by omega)) (hE6' _ (by omega))) (t4.to (hE6' _ (by omega)) (hE6' _ (by omega)) (hE6' _ (by omega))) (by omega) (fun q hq => ?_) (fun h' f Rr cd tr kt rt' Nt hz => hK h' f Rr cd tr kt rt' Nt (Or.inr ⟨w18, y, t1, Or.inr (Or.inr ⟨e6, by omega, true, _, hLn, hz⟩)⟩))
                    rw [hE6' q (by omega)]; exact hE2 q hq
              · have w80 : i = 300 := by have := mt (nI_lt (b := 300) · (by decide)) q80; omega
                refine z_iconst (w := 2) dX10_read_83 (by decide) ?_
                refine z_ireturn dX10_read_84 trivial (Nat.le_of_ble_eq_true rfl) (Nat.le_of_ble_eq_true rfl) ?_
                exact hK h2 2 P 2 _ _ _ _ (Or.inr ⟨w18, y, t1, Or.inr (Or.inl ⟨e6, by omega, rfl⟩)⟩) k2 pU2 hi hM2 ⟨Rn + 1, _, _, _, _, L2, t2, t4, by omega⟩ ⟨_, _, _, _, _, _, _, _, t3.1, t3.2.1, t3.2.2⟩ hE2 (Or.inr (Or.inl ⟨rfl, rfl⟩))
            · exact absurd ((nI_eq (b := 256) (by omega) (by decide)).mp q43) e6
        · have w18 : 8 * kk + 16 < P.2.1.2.2 := Nat.lt_of_not_le (fun w => q18 ((zsuble (c := 16) (by omega) (by omega) (by decide)).mpr w))
          refine z_iconst (w := 1) dX10_read_21 (by decide) ?_
          refine z_ireturn dX10_read_22 trivial (Nat.le_of_ble_eq_true rfl) (Nat.le_of_ble_eq_true rfl) ?_
          exact hK h1 1 P 1 _ _ _ _ (Or.inl ⟨w18, rfl⟩) k0 pU hi hM ⟨Rn, E, ex, es, f1, L, hT, hL, by omega⟩ hD0 hE (Or.inl ⟨rfl, rfl⟩)
  refine z_iconst (w := 0) dX10_read_0 (by decide) ?_
  refine z_istore_n dX10_read_1 (Nat.le_of_ble_eq_true rfl) ?_
  refine loop 301 0 (M1, ((f0, 0, 0, 65535, 0), znum0 (zbn gg kk) 16, 16), 0, rt, 0) h R E ex es f1 L rfl (by decide) rfl c0 hM hMi pU hCd ⟨zEok0 f0, Nat.zero_le _, Nat.le_of_lt_succ (znum0_lt (zbn gg kk) (zbn_le gg kk) 16)⟩ (Nat.le_refl _) (by dsimp only; omega) hT hL (Nat.le_refl _) (fun _ _ => rfl) hK

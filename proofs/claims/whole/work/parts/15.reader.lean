/-! the reader: its number follows -/
def zbn (g : Nat → Int32) (k p : Nat) : Nat := if p / 8 < k then ((g (p / 8)) >>> (nI (7 - p % 8) &&& 31)).toBitVec.toNat % 2 else 0
theorem zbn_le (g : Nat → Int32) (k p : Nat) : zbn g k p ≤ 1 := by
  unfold zbn; split <;> omega
theorem zbit_eq (g : Nat → Int32) (k p : Nat) : zbit g k p = nI (zbn g k p) := by
  unfold zbit zbn zbt
  split
  · exact pk_and _ (m := 1) 1 (by decide)
  · exact nI_0.symm
def zrnum (bs : Nat → Nat) : Nat → Nat → Nat → Nat → Nat → Nat × Nat
  | 0, _, _, num, tak => (num, tak)
  | d + 1, lo, hi, num, tak => match zset lo hi with
    | none => (num, tak)
    | some g => zrnum bs d (2 * (lo - g)) (2 * (hi - g) + 1) (2 * (num - g) + bs tak) (tak + 1)
theorem zrnum_none {bs : Nat → Nat} {d lo hi num tak : Nat} (h : zset lo hi = none) : zrnum bs (d + 1) lo hi num tak = (num, tak) := by
  simp only [zrnum, h]
theorem zrnum_some {bs : Nat → Nat} {d lo hi num tak g : Nat} (h : zset lo hi = some g) : zrnum bs (d + 1) lo hi num tak = zrnum bs d (2 * (lo - g)) (2 * (hi - g) + 1) (2 * (num - g) + bs tak) (tak + 1) := by
  simp only [zrnum, h]
abbrev rX6_shifted_7 : Room := ⟨1, 0, 0, 40⟩
def SX6_shifted_7 (G : zC) : zS := fun as h n K => ∃ (a s sr ms k num tak g0 : Nat) (v0 v1 v2 v3 v4 : Value) (g : Nat → Int32), as = [.ref a, .int (nI g0)] ∧ h a = some (zO 7 [v0, v1, v2, v3, v4, .ref s, .int (nI num), .int (nI tak)]) ∧ h s = some (zO 5 [.ref sr, .int (nI k)]) ∧ h sr = some (zI G ms g) ∧ ms < 2147483648 ∧ k ≤ ms ∧ g0 ≤ num ∧ num < 65536 ∧ tak < 2147483647 ∧ ∀ h', h' a = some (zO 7 [v0, v1, v2, v3, v4, .ref s, .int (nI (2 * (num - g0) + zbn g k tak)), .int (nI (tak + 1))]) → (∀ q, q ≠ a → h' q = h q) → K none h' n
set_option maxRecDepth 100000 in
set_option maxHeartbeats 1000000 in
theorem tvX6_shifted_7 {G : zC} {as : List Value} {h : zH} {n : Nat} {K : zP} (hs : SX6_shifted_7 G as h n K) : (∃ b fs r, as = .ref b :: r ∧ h b = some (.inr (7, fs))) ∧ zCt G rX6_shifted_7 mX6_shifted as h n K := by
  obtain ⟨a, s, sr, ms, k, num, tak, g0, v0, v1, v2, v3, v4, g, rfl, hk, hs1, hr1, hm, hkm, hg0, hnum, htak, hK⟩ := hs
  have has : a ≠ s := fun q => by rw [q, hs1] at hk; simp at hk
  have har : a ≠ sr := fun q => by rw [q, hr1] at hk; simp at hk
  refine ⟨⟨_, _, _, rfl, hk⟩, zCt.of (by decide) (Nat.le_of_ble_eq_true rfl) ?_⟩
  refine z_aload_n dX6_shifted_0 rfl ?_
  refine z_iconst (w := 2) dX6_shifted_1 (by decide) ?_
  refine z_aload_n dX6_shifted_2 rfl ?_
  refine z_getfield dX6_shifted_3 fX6_19_7 rfl (by first | assumption | exact zget_eq | exact zget_ne (by first | assumption | exact Ne.symm (by assumption) | omega) (by first | assumption | exact zget_eq | exact zget_ne (by first | assumption | exact Ne.symm (by assumption) | omega) (by first | assumption | exact zget_eq | exact zget_ne (by first | assumption | exact Ne.symm (by assumption) | omega) (by first | assumption | exact zget_eq)))) rfl ?_
  refine z_iload_n dX6_shifted_6 rfl ?_
  refine z_isub dX6_shifted_7 ?_
  refine z_imul dX6_shifted_8 ?_
  refine z_aload_n dX6_shifted_9 rfl ?_
  refine z_getfield dX6_shifted_10 fX6_9_7 rfl (by first | assumption | exact zget_eq | exact zget_ne (by first | assumption | exact Ne.symm (by assumption) | omega) (by first | assumption | exact zget_eq | exact zget_ne (by first | assumption | exact Ne.symm (by assumption) | omega) (by first | assumption | exact zget_eq | exact zget_ne (by first | assumption | exact Ne.symm (by assumption) | omega) (by first | assumption | exact zget_eq)))) rfl ?_
  refine z_aload_n dX6_shifted_13 rfl ?_
  refine z_getfield dX6_shifted_14 fX6_23_7 rfl (by first | assumption | exact zget_eq | exact zget_ne (by first | assumption | exact Ne.symm (by assumption) | omega) (by first | assumption | exact zget_eq | exact zget_ne (by first | assumption | exact Ne.symm (by assumption) | omega) (by first | assumption | exact zget_eq | exact zget_ne (by first | assumption | exact Ne.symm (by assumption) | omega) (by first | assumption | exact zget_eq)))) rfl ?_
  refine zcall2 (zck_V (na := 1) (ci := 5) (R' := rX4_bitAt) (M' := mX4_bitAt) (fun _ _ _ _ => tvX4_bitAt) (by decide) kX4_bitAt lX6_59 (by decide +kernel) rfl) dX6_shifted_17 (Nat.le_of_ble_eq_true rfl) (Nat.le_of_ble_eq_true rfl) (Nat.le_of_ble_eq_true rfl) ?_
  refine ⟨_, _, _, _, _, _, rfl, (by first | assumption | exact zget_eq | exact zget_ne (by first | assumption | exact Ne.symm (by assumption) | omega) (by first | assumption | exact zget_eq | exact zget_ne (by first | assumption | exact Ne.symm (by assumption) | omega) (by first | assumption | exact zget_eq | exact zget_ne (by first | assumption | exact Ne.symm (by assumption) | omega) (by first | assumption | exact zget_eq)))), (by first | assumption | exact zget_eq | exact zget_ne (by first | assumption | exact Ne.symm (by assumption) | omega) (by first | assumption | exact zget_eq | exact zget_ne (by first | assumption | exact Ne.symm (by assumption) | omega) (by first | assumption | exact zget_eq | exact zget_ne (by first | assumption | exact Ne.symm (by assumption) | omega) (by first | assumption | exact zget_eq)))), (by first | assumption | omega), (by first | assumption | omega), (by first | assumption | omega), ?_⟩
  refine z_iadd dX6_shifted_20 ?_
  rw [show (2 : Int32) * (nI num - nI g0) + zbit g k tak = nI (2 * (num - g0) + zbn g k tak) by rw [zbit_eq, pk_sub hg0, show (2 : Int32) = nI 2 by decide, pk_mul, nI_add]]
  refine z_putfield dX6_shifted_21 fX6_19_7 rfl (fun q => absurd q (by decide)) (by first | assumption | exact zget_eq | exact zget_ne (by first | assumption | exact Ne.symm (by assumption) | omega) (by first | assumption | exact zget_eq | exact zget_ne (by first | assumption | exact Ne.symm (by assumption) | omega) (by first | assumption | exact zget_eq | exact zget_ne (by first | assumption | exact Ne.symm (by assumption) | omega) (by first | assumption | exact zget_eq)))) (Nat.le_of_ble_eq_true rfl) (Or.inl ⟨rfl, _, rfl⟩) ?_
  refine z_aload_n dX6_shifted_24 rfl ?_
  refine z_dup dX6_shifted_25 rfl ?_
  refine z_getfield dX6_shifted_26 fX6_23_7 rfl (by first | assumption | exact zget_eq | exact zget_ne (by first | assumption | exact Ne.symm (by assumption) | omega) (by first | assumption | exact zget_eq | exact zget_ne (by first | assumption | exact Ne.symm (by assumption) | omega) (by first | assumption | exact zget_eq | exact zget_ne (by first | assumption | exact Ne.symm (by assumption) | omega) (by first | assumption | exact zget_eq)))) rfl ?_
  refine z_iconst (w := 1) dX6_shifted_29 (by decide) ?_
  refine z_iadd dX6_shifted_30 ?_
  refine z_putfield dX6_shifted_31 fX6_23_7 rfl (fun q => absurd q (by decide)) (by first | assumption | exact zget_eq | exact zget_ne (by first | assumption | exact Ne.symm (by assumption) | omega) (by first | assumption | exact zget_eq | exact zget_ne (by first | assumption | exact Ne.symm (by assumption) | omega) (by first | assumption | exact zget_eq | exact zget_ne (by first | assumption | exact Ne.symm (by assumption) | omega) (by first | assumption | exact zget_eq)))) (Nat.le_of_ble_eq_true rfl) (Or.inl ⟨rfl, _, rfl⟩) ?_
  refine z_vreturn dX6_shifted_34 rfl (Nat.le_of_ble_eq_true rfl) (Nat.le_of_ble_eq_true rfl) ?_
  exact hK _ (by rw [zget_eq]; simp [nI_1]) (fun q hq => by rw [zup_ne hq, zup_ne hq])
abbrev rX1_take_7 : Room := ⟨2, 0, 0, 80⟩
def SX1_take_7 (G : zC) : zS := fun as h n K => ∃ (a w r s sr ms k num tak : Nat) (g : Nat → Int32) (e : zEs) (x y t : Nat), as = [.ref a, .int (nI x), .int (nI y), .int (nI t)] ∧ zCd G h 7 a w r [.ref s, .int (nI num), .int (nI tak)] e ∧ h s = some (zO 5 [.ref sr, .int (nI k)]) ∧ h sr = some (zI G ms g) ∧ ms < 2147483648 ∧ k ≤ ms ∧ s ≠ w ∧ sr ≠ r ∧ tak < 1000000 ∧ (znar e x y t).2.2.1 ≤ num ∧ num ≤ (znar e x y t).2.2.2.1 ∧ e.2.2.1 ≤ e.2.2.2.1 ∧ e.2.2.2.1 < 65536 ∧ 0 < t ∧ t ≤ 16384 ∧ t ≤ e.2.2.2.1 - e.2.2.1 + 1 ∧ x + y ≤ t ∧ 0 < y ∧ e.2.1 + e.2.2.2.2 + 16 ≤ 19872 ∧ ∀ h', zCd G h' 7 a w r [.ref s, .int (nI (zrnum (zbn g k) 16 (znar e x y t).2.2.1 (znar e x y t).2.2.2.1 num tak).1), .int (nI (zrnum (zbn g k) 16 (znar e x y t).2.2.1 (znar e x y t).2.2.2.1 num tak).2)] (ztake e x y t) → (∀ q, q ≠ a → q ≠ w → q ≠ r → h' q = h q) → K none h' n
set_option maxRecDepth 100000 in
set_option maxHeartbeats 1000000 in
theorem tvX1_take_7 {G : zC} {as : List Value} {h : zH} {n : Nat} {K : zP} (hs : SX1_take_7 G as h n K) : (∃ b fs r, as = .ref b :: r ∧ h b = some (.inr (7, fs))) ∧ zCt G rX1_take_7 mX1_take as h n K := by
  obtain ⟨a, w, r, s, sr, ms, k, num, tak, g, ⟨f, p, lo, hi, held⟩, x, y, t, rfl, hC, hs1, hsr, hms, hkm, hsw, hsrr, htak, hnl, hnh, hlh, hhi, ht0, ht1, ht2, hxy, hy, hcap, hK⟩ := hs
  obtain ⟨haw, har, hwr⟩ := hC.ne (by decide)
  have hC0 := hC
  obtain ⟨hk, hw, hr⟩ := hC
  dsimp only at hk hw hr hlh hhi ht2 hcap
  dsimp only [znar] at hnl hnh hK
  have hsa : s ≠ a := fun q => by rw [q, hk] at hs1; simp at hs1
  have hsra : sr ≠ a := fun q => by rw [q, hk] at hsr; simp at hsr
  have hsr2 : s ≠ r := fun q => by rw [q, hr] at hs1; simp at hs1
  have hsrw : sr ≠ w := fun q => by rw [q, hw] at hsr; simp at hsr
  obtain ⟨z1, z2, z3, z4⟩ := znar_ok hlh hhi ht0 ht1 ht2 hxy hy
  have z0 : 1 ≤ (hi - lo + 1) * (x + y) / t := Nat.le_trans (Nat.le_add_left 1 _) z1
  have m1 : lo + (hi - lo + 1) * x / t ≤ lo + (hi - lo + 1) * (x + y) / t - 1 := by
    revert z1 z2
    generalize (hi - lo + 1) * x / t = A
    generalize (hi - lo + 1) * (x + y) / t = B
    intro z1 z2
    omega
  have m2 : lo + (hi - lo + 1) * (x + y) / t - 1 < 65536 := by
    revert z1 z2
    generalize (hi - lo + 1) * x / t = A
    generalize (hi - lo + 1) * (x + y) / t = B
    intro z1 z2
    omega
  have hHi : nI lo + nI (hi - lo + 1) * (nI x + nI y) / nI t - 1 = nI (lo + (hi - lo + 1) * (x + y) / t - 1) := by
    rw [nI_add, pk_mul, pk_div z3 ht0 (by omega), nI_add]
    exact pk_sub (b := 1) (by omega)
  have hLo : nI lo + nI (hi - lo + 1) * nI x / nI t = nI (lo + (hi - lo + 1) * x / t) := by
    rw [pk_mul, pk_div z4 ht0 (by omega), nI_add]
  refine ⟨⟨_, _, _, rfl, hk⟩, zCt.of (by decide) (Nat.le_of_ble_eq_true rfl) ?_⟩
  have loop : ∀ (d tn : Nat) (f1 : Nat → Int32) (p1 lo1 hi1 held1 num1 tak1 : Nat) (h1 : zH), tn + d = 16 → zCd G h1 7 a w r [.ref s, .int (nI num1), .int (nI tak1)] (f1, p1, lo1, hi1, held1) → lo1 ≤ num1 → num1 ≤ hi1 → tak1 + d < 1000020 → zrnum (zbn g k) d lo1 hi1 num1 tak1 = zrnum (zbn g k) 16 (lo + (hi - lo + 1) * x / t) (lo + (hi - lo + 1) * (x + y) / t - 1) num tak → lo1 ≤ hi1 → hi1 < 65536 → p1 + held1 + d ≤ 19872 → zren d (f1, p1, lo1, hi1, held1) = ztake (f, p, lo, hi, held) x y t → (∀ q, q ≠ a → q ≠ w → q ≠ r → h1 q = h q) → zZ (zXm G rX1_take_7 mX1_take [.ref a, .int (nI x), .int (nI y), .int (nI t)] h n K) 48 [(0, .ref a), (1, .int (nI x)), (2, .int (nI y)), (3, .int (nI t)), (4, .int (nI (hi - lo + 1))), (5, .int (nI tn))] [] h1 n 0 0 := by
    intro d
    induction d with
    | zero =>
      intro tn f1 p1 lo1 hi1 held1 num1 tak1 h1 hd hC1 n1 n2 n3 hzn hl1 hh1 hc1 hz ho
      have e16 : tn = 16 := by omega
      subst e16
      refine z_iload dX1_take_48 rfl ?_
      refine z_bipush (w := 16) dX1_take_50 (by decide) ?_
      refine z_icmp_ge (t := 145) dX1_take_52 (by decide) (fun q52 => ?_) (fun q52 => ?_)
      · refine z_vreturn dX1_take_145 rfl (Nat.le_of_ble_eq_true rfl) (Nat.le_of_ble_eq_true rfl) ?_
        rw [← hz, ← hzn] at hK
        exact hK _ hC1 ho
      · exact absurd (by decide) q52
    | succ d ih =>
      intro tn f1 p1 lo1 hi1 held1 num1 tak1 h1 hd hC1 n1 n2 n3 hzn hl1 hh1 hc1 hz ho
      have hlt : ¬ (16 : Int32) ≤ nI tn := nI_ge (b := 16) (by omega) (by decide)
      cases hs : zset lo1 hi1 with
      | none =>
        rw [zren_none hs] at hz
        rw [zrnum_none hs] at hzn
        refine z_iload dX1_take_48 rfl ?_
        refine z_bipush (w := 16) dX1_take_50 (by decide) ?_
        refine z_icmp_ge (t := 145) dX1_take_52 (by decide) (fun q52 => ?_) (fun q52 => ?_)
        · exact absurd q52 hlt
        · refine z_aload_n dX1_take_55 rfl ?_
          refine zcall1 (zck_UX (na := 0) (ci := 7) (C := RX6) (R' := rX1_settledPart_7) (M' := mX1_settledPart) (fun _ _ _ _ => tvX1_settledPart_7) (by decide) kX1_settledPart lPX1_39 xPX1_39_7 (by decide +kernel) rfl) dX1_take_56 (Nat.le_of_ble_eq_true rfl) (Nat.le_of_ble_eq_true rfl) (Nat.le_of_ble_eq_true rfl) ?_
          refine ⟨a, w, r, [.ref s, .int (nI num1), .int (nI tak1)], (f1, p1, lo1, hi1, held1), rfl, hC1, (show lo1 < 65536 by omega), (show hi1 < 65536 by omega), ?_⟩
          show zZ _ _ _ [.int (zseti lo1 hi1)] _ _ _ _
          rw [show zseti lo1 hi1 = -1 by simp only [zseti, hs]]
          refine z_istore dX1_take_59 (Nat.le_of_ble_eq_true rfl) ?_
          refine z_iload dX1_take_61 rfl ?_
          refine z_iconst (w := -1) dX1_take_63 (by decide) ?_
          refine z_icmp_ne (t := 68) dX1_take_64 (by decide) (fun q64 => ?_) (fun q64 => ?_)
          · exact absurd rfl q64
          · refine z_vreturn dX1_take_67 rfl (Nat.le_of_ble_eq_true rfl) (Nat.le_of_ble_eq_true rfl) ?_
            rw [← hz, ← hzn] at hK
            exact hK _ hC1 ho
      | some g2 =>
        rw [zren_some hs] at hz
        rw [zrnum_some hs] at hzn
        have hs9 := (ho s hsa hsw hsr2).trans hs1
        have hr9 := (ho sr hsra hsrw hsrr).trans hsr
        have hb9 := zbn_le g k tak1
        rcases zset_some hs with ⟨rfl, b1⟩ | ⟨rfl, b1, b2⟩ | ⟨rfl, b1, b2, b3, b4⟩
        · refine z_iload dX1_take_48 rfl ?_
          refine z_bipush (w := 16) dX1_take_50 (by decide) ?_
          refine z_icmp_ge (t := 145) dX1_take_52 (by decide) (fun q52 => ?_) (fun q52 => ?_)
          · exact absurd q52 hlt
          · refine z_aload_n dX1_take_55 rfl ?_
            refine zcall1 (zck_UX (na := 0) (ci := 7) (C := RX6) (R' := rX1_settledPart_7) (M' := mX1_settledPart) (fun _ _ _ _ => tvX1_settledPart_7) (by decide) kX1_settledPart lPX1_39 xPX1_39_7 (by decide +kernel) rfl) dX1_take_56 (Nat.le_of_ble_eq_true rfl) (Nat.le_of_ble_eq_true rfl) (Nat.le_of_ble_eq_true rfl) ?_
            refine ⟨a, w, r, [.ref s, .int (nI num1), .int (nI tak1)], (f1, p1, lo1, hi1, held1), rfl, hC1, (show lo1 < 65536 by omega), (show hi1 < 65536 by omega), ?_⟩
            show zZ _ _ _ [.int (zseti lo1 hi1)] _ _ _ _
            rw [show zseti lo1 hi1 = 0 by simp only [zseti, hs]; decide]
            refine z_istore dX1_take_59 (Nat.le_of_ble_eq_true rfl) ?_
            refine z_iload dX1_take_61 rfl ?_
            refine z_iconst (w := -1) dX1_take_63 (by decide) ?_
            refine z_icmp_ne (t := 68) dX1_take_64 (by decide) (fun q64 => ?_) (fun q64 => ?_)
            · refine z_iload dX1_take_68 rfl ?_
              refine z_sipush (w := 16384) dX1_take_70 (by decide) ?_
              refine z_icmp_ne (t := 89) dX1_take_73 (by decide) (fun q73 => ?_) (fun q73 => ?_)
              · refine z_aload_n dX1_take_89 rfl ?_
                refine z_iload dX1_take_90 rfl ?_
                refine z_ldc dX1_take_92 coX1_42 ?_
                refine z_icmp_ne (t := 101) dX1_take_94 (by decide) (fun q94 => ?_) (fun q94 => ?_)
                · refine z_iconst (w := 0) dX1_take_101 (by decide) ?_
                  refine zcall2 (zck_UX (na := 1) (ci := 7) (C := RX6) (R' := rX1_putBit_7) (M' := mX1_putBit) (fun _ _ _ _ => tvX1_putBit_7) (by decide) kX1_putBit lPX1_43 xPX1_43_7 (by decide +kernel) rfl) dX1_take_102 (Nat.le_of_ble_eq_true rfl) (Nat.le_of_ble_eq_true rfl) (Nat.le_of_ble_eq_true rfl) ?_
                  refine ⟨a, w, r, [.ref s, .int (nI num1), .int (nI tak1)], (f1, p1, lo1, hi1, held1), _, rfl, hC1, (show p1 + 1 + held1 ≤ 19872 by omega), fun h2 hC2 o2 => ?_⟩
                  obtain ⟨hk2, hw2, hr2⟩ := hC2
                  simp only [zput1] at hk2 hw2 hr2
                  refine z_aload_n dX1_take_105 rfl ?_
                  refine z_iconst (w := 2) dX1_take_106 (by decide) ?_
                  refine z_aload_n dX1_take_107 rfl ?_
                  refine z_getfield dX1_take_108 fX1_25_7 rfl (by first | assumption | exact zget_eq | exact zget_ne (by first | assumption | exact Ne.symm (by assumption) | omega) (by first | assumption | exact zget_eq | exact zget_ne (by first | assumption | exact Ne.symm (by assumption) | omega) (by first | assumption | exact zget_eq | exact zget_ne (by first | assumption | exact Ne.symm (by assumption) | omega) (by first | assumption | exact zget_eq)))) rfl ?_
                  refine z_iload dX1_take_111 rfl ?_
                  refine z_isub dX1_take_113 ?_
                  refine z_imul dX1_take_114 ?_
                  rw [show (2 : Int32) * (nI lo1 - 0) = nI (2 * (lo1 - 0)) by rw [show (0 : Int32) = nI 0 by decide, pk_sub (by omega)]; exact pk_mul 2 _]
                  refine z_putfield dX1_take_115 fX1_25_7 rfl (fun q => absurd q (by decide)) (by first | assumption | exact zget_eq | exact zget_ne (by first | assumption | exact Ne.symm (by assumption) | omega) (by first | assumption | exact zget_eq | exact zget_ne (by first | assumption | exact Ne.symm (by assumption) | omega) (by first | assumption | exact zget_eq | exact zget_ne (by first | assumption | exact Ne.symm (by assumption) | omega) (by first | assumption | exact zget_eq)))) (Nat.le_of_ble_eq_true rfl) (Or.inl ⟨rfl, _, rfl⟩) ?_
                  refine z_aload_n dX1_take_118 rfl ?_
                  refine z_iconst (w := 2) dX1_take_119 (by decide) ?_
                  refine z_aload_n dX1_take_120 rfl ?_
                  refine z_getfield dX1_take_121 fX1_29_7 rfl (by first | assumption | exact zget_eq | exact zget_ne (by first | assumption | exact Ne.symm (by assumption) | omega) (by first | assumption | exact zget_eq | exact zget_ne (by first | assumption | exact Ne.symm (by assumption) | omega) (by first | assumption | exact zget_eq | exact zget_ne (by first | assumption | exact Ne.symm (by assumption) | omega) (by first | assumption | exact zget_eq)))) rfl ?_
                  refine z_iload dX1_take_124 rfl ?_
                  refine z_isub dX1_take_126 ?_
                  refine z_imul dX1_take_127 ?_
                  refine z_iconst (w := 1) dX1_take_128 (by decide) ?_
                  refine z_iadd dX1_take_129 ?_
                  rw [show (2 : Int32) * (nI hi1 - 0) + 1 = nI (2 * (hi1 - 0) + 1) by rw [show (0 : Int32) = nI 0 by decide, pk_sub (by omega), show (2 : Int32) = nI 2 by decide, pk_mul]; exact nI_1 _]
                  refine z_putfield dX1_take_130 fX1_29_7 rfl (fun q => absurd q (by decide)) (by first | assumption | exact zget_eq | exact zget_ne (by first | assumption | exact Ne.symm (by assumption) | omega) (by first | assumption | exact zget_eq | exact zget_ne (by first | assumption | exact Ne.symm (by assumption) | omega) (by first | assumption | exact zget_eq | exact zget_ne (by first | assumption | exact Ne.symm (by assumption) | omega) (by first | assumption | exact zget_eq)))) (Nat.le_of_ble_eq_true rfl) (Or.inl ⟨rfl, _, rfl⟩) ?_
                  refine z_aload_n dX1_take_133 rfl ?_
                  refine z_iload dX1_take_134 rfl ?_
                  refine zcall2 (zck_U (na := 1) (ci := 7) (C := RX6) (owner := "PpmTrees$Coder") (x := ⟨"PpmTrees$Coder", "shifted", "(I)V"⟩) (R' := rX6_shifted_7) (M' := mX6_shifted) (fun _ _ _ _ => tvX6_shifted_7) (by decide) kX6_shifted lUX1_46_7 (Or.inl dUX1_46) (by decide +kernel) rfl) dX1_take_136 (Nat.le_of_ble_eq_true rfl) (Nat.le_of_ble_eq_true rfl) (Nat.le_of_ble_eq_true rfl) ?_
                  refine ⟨a, s, sr, ms, k, num1, tak1, 0, _, _, _, _, _, g, rfl, zget_eq, (by rw [zup_ne hsa, zup_ne hsa, o2 s hsa hsw hsr2]; exact hs9), (by rw [zup_ne hsra, zup_ne hsra, o2 sr hsra hsrw hsrr]; exact hr9), hms, hkm, (by omega), (by omega), (by omega), fun h5 e5 o5 => ?_⟩
                  refine z_iinc dX1_take_139 rfl (Nat.le_of_ble_eq_true rfl) ?_
                  rw [show nI tn + Int32.ofInt 1 = nI (tn + 1) from nI_1 tn]
                  refine z_goto (t := 48) dX1_take_142 (by decide) ?_
                  refine zZ.keep [0, 1, 2, 3, 4, 5] ?_
                  refine ih (tn + 1) (zsbs (1 - 0) held1 (zsb f1 p1 0) (p1 + 1)) (p1 + 1 + held1) (2 * (lo1 - 0)) (2 * (hi1 - 0) + 1) 0 (2 * (num1 - 0) + zbn g k tak1) (tak1 + 1) _ (by omega) (And.intro ?_ (And.intro ?_ ?_)) (by omega) (by omega) (by omega) hzn (by omega) (by omega) (by omega) ?_ ?_
                  · first | exact e5 | (rw [e5]; simp [nI_1])
                  · rw [o5 w (Ne.symm haw), zup_ne (Ne.symm haw), zup_ne (Ne.symm haw)]; exact hw2
                  · rw [o5 r (Ne.symm har), zup_ne (Ne.symm har), zup_ne (Ne.symm har)]; exact hr2
                  · rw [← hz]; rfl
                  · intro q g1 g2 g3; rw [o5 q g1, zup_ne g1, zup_ne g1, o2 q g1 g2 g3]; exact ho q g1 g2 g3
                · exact absurd q94 (by decide)
              · exact absurd q73 (by decide)
            · exact absurd q64 (by decide)
        · refine z_iload dX1_take_48 rfl ?_
          refine z_bipush (w := 16) dX1_take_50 (by decide) ?_
          refine z_icmp_ge (t := 145) dX1_take_52 (by decide) (fun q52 => ?_) (fun q52 => ?_)
          · exact absurd q52 hlt
          · refine z_aload_n dX1_take_55 rfl ?_
            refine zcall1 (zck_UX (na := 0) (ci := 7) (C := RX6) (R' := rX1_settledPart_7) (M' := mX1_settledPart) (fun _ _ _ _ => tvX1_settledPart_7) (by decide) kX1_settledPart lPX1_39 xPX1_39_7 (by decide +kernel) rfl) dX1_take_56 (Nat.le_of_ble_eq_true rfl) (Nat.le_of_ble_eq_true rfl) (Nat.le_of_ble_eq_true rfl) ?_
            refine ⟨a, w, r, [.ref s, .int (nI num1), .int (nI tak1)], (f1, p1, lo1, hi1, held1), rfl, hC1, (show lo1 < 65536 by omega), (show hi1 < 65536 by omega), ?_⟩
            show zZ _ _ _ [.int (zseti lo1 hi1)] _ _ _ _
            rw [show zseti lo1 hi1 = 32768 by simp only [zseti, hs]; decide]
            refine z_istore dX1_take_59 (Nat.le_of_ble_eq_true rfl) ?_
            refine z_iload dX1_take_61 rfl ?_
            refine z_iconst (w := -1) dX1_take_63 (by decide) ?_
            refine z_icmp_ne (t := 68) dX1_take_64 (by decide) (fun q64 => ?_) (fun q64 => ?_)
            · refine z_iload dX1_take_68 rfl ?_
              refine z_sipush (w := 16384) dX1_take_70 (by decide) ?_
              refine z_icmp_ne (t := 89) dX1_take_73 (by decide) (fun q73 => ?_) (fun q73 => ?_)
              · refine z_aload_n dX1_take_89 rfl ?_
                refine z_iload dX1_take_90 rfl ?_
                refine z_ldc dX1_take_92 coX1_42 ?_
                refine z_icmp_ne (t := 101) dX1_take_94 (by decide) (fun q94 => ?_) (fun q94 => ?_)
                · exact absurd rfl q94
                · refine z_iconst (w := 1) dX1_take_97 (by decide) ?_
                  refine z_goto (t := 102) dX1_take_98 (by decide) ?_
                  refine zcall2 (zck_UX (na := 1) (ci := 7) (C := RX6) (R' := rX1_putBit_7) (M' := mX1_putBit) (fun _ _ _ _ => tvX1_putBit_7) (by decide) kX1_putBit lPX1_43 xPX1_43_7 (by decide +kernel) rfl) dX1_take_102 (Nat.le_of_ble_eq_true rfl) (Nat.le_of_ble_eq_true rfl) (Nat.le_of_ble_eq_true rfl) ?_
                  refine ⟨a, w, r, [.ref s, .int (nI num1), .int (nI tak1)], (f1, p1, lo1, hi1, held1), _, rfl, hC1, (show p1 + 1 + held1 ≤ 19872 by omega), fun h2 hC2 o2 => ?_⟩
                  obtain ⟨hk2, hw2, hr2⟩ := hC2
                  simp only [zput1] at hk2 hw2 hr2
                  refine z_aload_n dX1_take_105 rfl ?_
                  refine z_iconst (w := 2) dX1_take_106 (by decide) ?_
                  refine z_aload_n dX1_take_107 rfl ?_
                  refine z_getfield dX1_take_108 fX1_25_7 rfl (by first | assumption | exact zget_eq | exact zget_ne (by first | assumption | exact Ne.symm (by assumption) | omega) (by first | assumption | exact zget_eq | exact zget_ne (by first | assumption | exact Ne.symm (by assumption) | omega) (by first | assumption | exact zget_eq | exact zget_ne (by first | assumption | exact Ne.symm (by assumption) | omega) (by first | assumption | exact zget_eq)))) rfl ?_
                  refine z_iload dX1_take_111 rfl ?_
                  refine z_isub dX1_take_113 ?_
                  refine z_imul dX1_take_114 ?_
                  rw [show (2 : Int32) * (nI lo1 - 32768) = nI (2 * (lo1 - 32768)) by rw [show (32768 : Int32) = nI 32768 by decide, pk_sub (by omega)]; exact pk_mul 2 _]
                  refine z_putfield dX1_take_115 fX1_25_7 rfl (fun q => absurd q (by decide)) (by first | assumption | exact zget_eq | exact zget_ne (by first | assumption | exact Ne.symm (by assumption) | omega) (by first | assumption | exact zget_eq | exact zget_ne (by first | assumption | exact Ne.symm (by assumption) | omega) (by first | assumption | exact zget_eq | exact zget_ne (by first | assumption | exact Ne.symm (by assumption) | omega) (by first | assumption | exact zget_eq)))) (Nat.le_of_ble_eq_true rfl) (Or.inl ⟨rfl, _, rfl⟩) ?_
                  refine z_aload_n dX1_take_118 rfl ?_
                  refine z_iconst (w := 2) dX1_take_119 (by decide) ?_
                  refine z_aload_n dX1_take_120 rfl ?_
                  refine z_getfield dX1_take_121 fX1_29_7 rfl (by first | assumption | exact zget_eq | exact zget_ne (by first | assumption | exact Ne.symm (by assumption) | omega) (by first | assumption | exact zget_eq | exact zget_ne (by first | assumption | exact Ne.symm (by assumption) | omega) (by first | assumption | exact zget_eq | exact zget_ne (by first | assumption | exact Ne.symm (by assumption) | omega) (by first | assumption | exact zget_eq)))) rfl ?_
                  refine z_iload dX1_take_124 rfl ?_
                  refine z_isub dX1_take_126 ?_
                  refine z_imul dX1_take_127 ?_
                  refine z_iconst (w := 1) dX1_take_128 (by decide) ?_
                  refine z_iadd dX1_take_129 ?_
                  rw [show (2 : Int32) * (nI hi1 - 32768) + 1 = nI (2 * (hi1 - 32768) + 1) by rw [show (32768 : Int32) = nI 32768 by decide, pk_sub (by omega), show (2 : Int32) = nI 2 by decide, pk_mul]; exact nI_1 _]
                  refine z_putfield dX1_take_130 fX1_29_7 rfl (fun q => absurd q (by decide)) (by first | assumption | exact zget_eq | exact zget_ne (by first | assumption | exact Ne.symm (by assumption) | omega) (by first | assumption | exact zget_eq | exact zget_ne (by first | assumption | exact Ne.symm (by assumption) | omega) (by first | assumption | exact zget_eq | exact zget_ne (by first | assumption | exact Ne.symm (by assumption) | omega) (by first | assumption | exact zget_eq)))) (Nat.le_of_ble_eq_true rfl) (Or.inl ⟨rfl, _, rfl⟩) ?_
                  refine z_aload_n dX1_take_133 rfl ?_
                  refine z_iload dX1_take_134 rfl ?_
                  refine zcall2 (zck_U (na := 1) (ci := 7) (C := RX6) (owner := "PpmTrees$Coder") (x := ⟨"PpmTrees$Coder", "shifted", "(I)V"⟩) (R' := rX6_shifted_7) (M' := mX6_shifted) (fun _ _ _ _ => tvX6_shifted_7) (by decide) kX6_shifted lUX1_46_7 (Or.inl dUX1_46) (by decide +kernel) rfl) dX1_take_136 (Nat.le_of_ble_eq_true rfl) (Nat.le_of_ble_eq_true rfl) (Nat.le_of_ble_eq_true rfl) ?_
                  refine ⟨a, s, sr, ms, k, num1, tak1, 32768, _, _, _, _, _, g, rfl, zget_eq, (by rw [zup_ne hsa, zup_ne hsa, o2 s hsa hsw hsr2]; exact hs9), (by rw [zup_ne hsra, zup_ne hsra, o2 sr hsra hsrw hsrr]; exact hr9), hms, hkm, (by omega), (by omega), (by omega), fun h5 e5 o5 => ?_⟩
                  refine z_iinc dX1_take_139 rfl (Nat.le_of_ble_eq_true rfl) ?_
                  rw [show nI tn + Int32.ofInt 1 = nI (tn + 1) from nI_1 tn]
                  refine z_goto (t := 48) dX1_take_142 (by decide) ?_
                  refine zZ.keep [0, 1, 2, 3, 4, 5] ?_
                  refine ih (tn + 1) (zsbs (1 - 1) held1 (zsb f1 p1 1) (p1 + 1)) (p1 + 1 + held1) (2 * (lo1 - 32768)) (2 * (hi1 - 32768) + 1) 0 (2 * (num1 - 32768) + zbn g k tak1) (tak1 + 1) _ (by omega) (And.intro ?_ (And.intro ?_ ?_)) (by omega) (by omega) (by omega) hzn (by omega) (by omega) (by omega) ?_ ?_
                  · first | exact e5 | (rw [e5]; simp [nI_1])
                  · rw [o5 w (Ne.symm haw), zup_ne (Ne.symm haw), zup_ne (Ne.symm haw)]; exact hw2
                  · rw [o5 r (Ne.symm har), zup_ne (Ne.symm har), zup_ne (Ne.symm har)]; exact hr2
                  · rw [← hz]; rfl
                  · intro q g1 g2 g3; rw [o5 q g1, zup_ne g1, zup_ne g1, o2 q g1 g2 g3]; exact ho q g1 g2 g3
              · exact absurd q73 (by decide)
            · exact absurd q64 (by decide)
        · refine z_iload dX1_take_48 rfl ?_
          refine z_bipush (w := 16) dX1_take_50 (by decide) ?_
          refine z_icmp_ge (t := 145) dX1_take_52 (by decide) (fun q52 => ?_) (fun q52 => ?_)
          · exact absurd q52 hlt
          · refine z_aload_n dX1_take_55 rfl ?_
            refine zcall1 (zck_UX (na := 0) (ci := 7) (C := RX6) (R' := rX1_settledPart_7) (M' := mX1_settledPart) (fun _ _ _ _ => tvX1_settledPart_7) (by decide) kX1_settledPart lPX1_39 xPX1_39_7 (by decide +kernel) rfl) dX1_take_56 (Nat.le_of_ble_eq_true rfl) (Nat.le_of_ble_eq_true rfl) (Nat.le_of_ble_eq_true rfl) ?_
            refine ⟨a, w, r, [.ref s, .int (nI num1), .int (nI tak1)], (f1, p1, lo1, hi1, held1), rfl, hC1, (show lo1 < 65536 by omega), (show hi1 < 65536 by omega), ?_⟩
            show zZ _ _ _ [.int (zseti lo1 hi1)] _ _ _ _
            rw [show zseti lo1 hi1 = 16384 by simp only [zseti, hs]; decide]
            refine z_istore dX1_take_59 (Nat.le_of_ble_eq_true rfl) ?_
            refine z_iload dX1_take_61 rfl ?_
            refine z_iconst (w := -1) dX1_take_63 (by decide) ?_
            refine z_icmp_ne (t := 68) dX1_take_64 (by decide) (fun q64 => ?_) (fun q64 => ?_)
            · refine z_iload dX1_take_68 rfl ?_
              refine z_sipush (w := 16384) dX1_take_70 (by decide) ?_
              refine z_icmp_ne (t := 89) dX1_take_73 (by decide) (fun q73 => ?_) (fun q73 => ?_)
              · exact absurd rfl q73
              · obtain ⟨hk1, hw1, hr1⟩ := id hC1
                dsimp only at hk1 hw1 hr1
                refine z_aload_n dX1_take_76 rfl ?_
                refine z_dup dX1_take_77 rfl ?_
                refine z_getfield dX1_take_78 fX1_32_7 rfl (by first | assumption | exact zget_eq | exact zget_ne (by first | assumption | exact Ne.symm (by assumption) | omega) (by first | assumption | exact zget_eq | exact zget_ne (by first | assumption | exact Ne.symm (by assumption) | omega) (by first | assumption | exact zget_eq | exact zget_ne (by first | assumption | exact Ne.symm (by assumption) | omega) (by first | assumption | exact zget_eq)))) rfl ?_
                refine z_iconst (w := 1) dX1_take_81 (by decide) ?_
                refine z_iadd dX1_take_82 ?_
                refine z_putfield dX1_take_83 fX1_32_7 rfl (fun q => absurd q (by decide)) (by first | assumption | exact zget_eq | exact zget_ne (by first | assumption | exact Ne.symm (by assumption) | omega) (by first | assumption | exact zget_eq | exact zget_ne (by first | assumption | exact Ne.symm (by assumption) | omega) (by first | assumption | exact zget_eq | exact zget_ne (by first | assumption | exact Ne.symm (by assumption) | omega) (by first | assumption | exact zget_eq)))) (Nat.le_of_ble_eq_true rfl) (Or.inl ⟨rfl, _, rfl⟩) ?_
                refine z_goto (t := 105) dX1_take_86 (by decide) ?_
                refine z_aload_n dX1_take_105 rfl ?_
                refine z_iconst (w := 2) dX1_take_106 (by decide) ?_
                refine z_aload_n dX1_take_107 rfl ?_
                refine z_getfield dX1_take_108 fX1_25_7 rfl (by first | assumption | exact zget_eq | exact zget_ne (by first | assumption | exact Ne.symm (by assumption) | omega) (by first | assumption | exact zget_eq | exact zget_ne (by first | assumption | exact Ne.symm (by assumption) | omega) (by first | assumption | exact zget_eq | exact zget_ne (by first | assumption | exact Ne.symm (by assumption) | omega) (by first | assumption | exact zget_eq)))) rfl ?_
                refine z_iload dX1_take_111 rfl ?_
                refine z_isub dX1_take_113 ?_
                refine z_imul dX1_take_114 ?_
                rw [show (2 : Int32) * (nI lo1 - 16384) = nI (2 * (lo1 - 16384)) by rw [show (16384 : Int32) = nI 16384 by decide, pk_sub (by omega)]; exact pk_mul 2 _]
                refine z_putfield dX1_take_115 fX1_25_7 rfl (fun q => absurd q (by decide)) (by first | assumption | exact zget_eq | exact zget_ne (by first | assumption | exact Ne.symm (by assumption) | omega) (by first | assumption | exact zget_eq | exact zget_ne (by first | assumption | exact Ne.symm (by assumption) | omega) (by first | assumption | exact zget_eq | exact zget_ne (by first | assumption | exact Ne.symm (by assumption) | omega) (by first | assumption | exact zget_eq)))) (Nat.le_of_ble_eq_true rfl) (Or.inl ⟨rfl, _, rfl⟩) ?_
                refine z_aload_n dX1_take_118 rfl ?_
                refine z_iconst (w := 2) dX1_take_119 (by decide) ?_
                refine z_aload_n dX1_take_120 rfl ?_
                refine z_getfield dX1_take_121 fX1_29_7 rfl (by first | assumption | exact zget_eq | exact zget_ne (by first | assumption | exact Ne.symm (by assumption) | omega) (by first | assumption | exact zget_eq | exact zget_ne (by first | assumption | exact Ne.symm (by assumption) | omega) (by first | assumption | exact zget_eq | exact zget_ne (by first | assumption | exact Ne.symm (by assumption) | omega) (by first | assumption | exact zget_eq)))) rfl ?_
                refine z_iload dX1_take_124 rfl ?_
                refine z_isub dX1_take_126 ?_
                refine z_imul dX1_take_127 ?_
                refine z_iconst (w := 1) dX1_take_128 (by decide) ?_
                refine z_iadd dX1_take_129 ?_
                rw [show (2 : Int32) * (nI hi1 - 16384) + 1 = nI (2 * (hi1 - 16384) + 1) by rw [show (16384 : Int32) = nI 16384 by decide, pk_sub (by omega), show (2 : Int32) = nI 2 by decide, pk_mul]; exact nI_1 _]
                refine z_putfield dX1_take_130 fX1_29_7 rfl (fun q => absurd q (by decide)) (by first | assumption | exact zget_eq | exact zget_ne (by first | assumption | exact Ne.symm (by assumption) | omega) (by first | assumption | exact zget_eq | exact zget_ne (by first | assumption | exact Ne.symm (by assumption) | omega) (by first | assumption | exact zget_eq | exact zget_ne (by first | assumption | exact Ne.symm (by assumption) | omega) (by first | assumption | exact zget_eq)))) (Nat.le_of_ble_eq_true rfl) (Or.inl ⟨rfl, _, rfl⟩) ?_
                refine z_aload_n dX1_take_133 rfl ?_
                refine z_iload dX1_take_134 rfl ?_
                refine zcall2 (zck_U (na := 1) (ci := 7) (C := RX6) (owner := "PpmTrees$Coder") (x := ⟨"PpmTrees$Coder", "shifted", "(I)V"⟩) (R' := rX6_shifted_7) (M' := mX6_shifted) (fun _ _ _ _ => tvX6_shifted_7) (by decide) kX6_shifted lUX1_46_7 (Or.inl dUX1_46) (by decide +kernel) rfl) dX1_take_136 (Nat.le_of_ble_eq_true rfl) (Nat.le_of_ble_eq_true rfl) (Nat.le_of_ble_eq_true rfl) ?_
                refine ⟨a, s, sr, ms, k, num1, tak1, 16384, _, _, _, _, _, g, rfl, zget_eq, (by rw [zup_ne hsa, zup_ne hsa, zup_ne hsa]; exact hs9), (by rw [zup_ne hsra, zup_ne hsra, zup_ne hsra]; exact hr9), hms, hkm, (by omega), (by omega), (by omega), fun h5 e5 o5 => ?_⟩
                refine z_iinc dX1_take_139 rfl (Nat.le_of_ble_eq_true rfl) ?_
                rw [show nI tn + Int32.ofInt 1 = nI (tn + 1) from nI_1 tn]
                refine z_goto (t := 48) dX1_take_142 (by decide) ?_
                refine zZ.keep [0, 1, 2, 3, 4, 5] ?_
                refine ih (tn + 1) f1 p1 (2 * (lo1 - 16384)) (2 * (hi1 - 16384) + 1) (held1 + 1) (2 * (num1 - 16384) + zbn g k tak1) (tak1 + 1) _ (by omega) (And.intro ?_ (And.intro ?_ ?_)) (by omega) (by omega) (by omega) hzn (by omega) (by omega) (by omega) ?_ ?_
                · first | exact e5 | (rw [e5]; simp [nI_1])
                · rw [o5 w (Ne.symm haw), zup_ne (Ne.symm haw), zup_ne (Ne.symm haw), zup_ne (Ne.symm haw)]; exact hC1.2.1
                · rw [o5 r (Ne.symm har), zup_ne (Ne.symm har), zup_ne (Ne.symm har), zup_ne (Ne.symm har)]; exact hC1.2.2
                · rw [← hz]; rfl
                · intro q g1 g2 g3; rw [o5 q g1, zup_ne g1, zup_ne g1, zup_ne g1]; exact ho q g1 g2 g3
            · exact absurd q64 (by decide)
  refine z_iload_n dX1_take_0 rfl ?_
  refine z_if_gt (t := 5) dX1_take_1 (by decide) (fun q1 => ?_) (fun q1 => ?_)
  · refine z_aload_n dX1_take_5 rfl ?_
    refine zcall1 (zck_U (na := 0) (ci := 7) (C := RX6) (owner := "PpmTrees$Coder") (x := ⟨"PpmTrees$Coder", "width", "()I"⟩) (R' := rX1_width_7) (M' := mX1_width) (fun _ _ _ _ => tvX1_width_7) (by decide) kX1_width lUX1_35_7 (Or.inl dUX1_35) (by decide +kernel) rfl) dX1_take_6 (Nat.le_of_ble_eq_true rfl) (Nat.le_of_ble_eq_true rfl) (Nat.le_of_ble_eq_true rfl) ?_
    refine ⟨_, _, _, _, _, rfl, hC0, hlh, ?_⟩
    show zZ _ _ _ [.int (nI (hi - lo + 1))] _ _ _ _
    refine z_istore dX1_take_9 (Nat.le_of_ble_eq_true rfl) ?_
    refine z_aload_n dX1_take_11 rfl ?_
    refine z_aload_n dX1_take_12 rfl ?_
    refine z_getfield dX1_take_13 fX1_25_7 rfl (by first | assumption | exact zget_eq | exact zget_ne (by first | assumption | exact Ne.symm (by assumption) | omega) (by first | assumption | exact zget_eq | exact zget_ne (by first | assumption | exact Ne.symm (by assumption) | omega) (by first | assumption | exact zget_eq | exact zget_ne (by first | assumption | exact Ne.symm (by assumption) | omega) (by first | assumption | exact zget_eq)))) rfl ?_
    refine z_iload dX1_take_16 rfl ?_
    refine z_iload_n dX1_take_18 rfl ?_
    refine z_iload_n dX1_take_19 rfl ?_
    refine z_iadd dX1_take_20 ?_
    refine z_imul dX1_take_21 ?_
    refine z_iload_n dX1_take_22 rfl ?_
    refine z_idiv dX1_take_23 (nI_ne0 ht0 (by omega)) ?_
    refine z_iadd dX1_take_24 ?_
    refine z_iconst (w := 1) dX1_take_25 (by decide) ?_
    refine z_isub dX1_take_26 ?_
    rw [hHi]
    refine z_putfield dX1_take_27 fX1_29_7 rfl (fun q => absurd q (by decide)) (by first | assumption | exact zget_eq | exact zget_ne (by first | assumption | exact Ne.symm (by assumption) | omega) (by first | assumption | exact zget_eq | exact zget_ne (by first | assumption | exact Ne.symm (by assumption) | omega) (by first | assumption | exact zget_eq | exact zget_ne (by first | assumption | exact Ne.symm (by assumption) | omega) (by first | assumption | exact zget_eq)))) (Nat.le_of_ble_eq_true rfl) (Or.inl ⟨rfl, _, rfl⟩) ?_
    refine z_aload_n dX1_take_30 rfl ?_
    refine z_aload_n dX1_take_31 rfl ?_
    refine z_getfield dX1_take_32 fX1_25_7 rfl (by first | assumption | exact zget_eq | exact zget_ne (by first | assumption | exact Ne.symm (by assumption) | omega) (by first | assumption | exact zget_eq | exact zget_ne (by first | assumption | exact Ne.symm (by assumption) | omega) (by first | assumption | exact zget_eq | exact zget_ne (by first | assumption | exact Ne.symm (by assumption) | omega) (by first | assumption | exact zget_eq)))) rfl ?_
    refine z_iload dX1_take_35 rfl ?_
    refine z_iload_n dX1_take_37 rfl ?_
    refine z_imul dX1_take_38 ?_
    refine z_iload_n dX1_take_39 rfl ?_
    refine z_idiv dX1_take_40 (nI_ne0 ht0 (by omega)) ?_
    refine z_iadd dX1_take_41 ?_
    rw [hLo]
    refine z_putfield dX1_take_42 fX1_25_7 rfl (fun q => absurd q (by decide)) (by first | assumption | exact zget_eq | exact zget_ne (by first | assumption | exact Ne.symm (by assumption) | omega) (by first | assumption | exact zget_eq | exact zget_ne (by first | assumption | exact Ne.symm (by assumption) | omega) (by first | assumption | exact zget_eq | exact zget_ne (by first | assumption | exact Ne.symm (by assumption) | omega) (by first | assumption | exact zget_eq)))) (Nat.le_of_ble_eq_true rfl) (Or.inl ⟨rfl, _, rfl⟩) ?_
    refine z_iconst (w := 0) dX1_take_45 (by decide) ?_
    refine z_istore dX1_take_46 (Nat.le_of_ble_eq_true rfl) ?_
    exact loop 16 0 f p _ _ held num tak _ rfl ⟨by rw [zget_eq]; rfl, by rw [zup_ne (Ne.symm haw), zup_ne (Ne.symm haw)]; exact hw, by rw [zup_ne (Ne.symm har), zup_ne (Ne.symm har)]; exact hr⟩ hnl hnh (by omega) rfl m1 m2 (by omega) rfl (fun q g1 g2 g3 => by rw [zup_ne g1, zup_ne g1])
  · exact absurd (zposI ht0 (by omega)) q1

/-! the class: fill -/
theorem zsub3 {k b : Nat} (hk : k ≤ 1000) (hb : b ≤ 1000) : (nI k - 1 - nI b).toInt = (k : Int) - 1 - (b : Int) := by
  rw [Int32.toInt_sub, show (1 : Int32) = nI 1 from rfl, zsubI (by omega) (by omega), nI_toInt (by omega)]
  exact Int.bmod_eq_of_le (by omega) (by omega)
theorem zsub3_in {k b : Nat} (hk : k ≤ 1000) (hb : b ≤ 1000) : zIn (nI k - 1 - nI b) k ↔ 1 + b ≤ k := by
  have h0 : (0 : Int32).toInt = 0 := rfl
  rw [zIn, Int32.le_iff_toInt_le, Int32.lt_iff_toInt_lt, zsub3 hk hb, nI_toInt (by omega), h0]
  omega
theorem zsub3_nI {k b : Nat} (h : 1 + b ≤ k) : nI k - 1 - nI b = nI (k - (1 + b)) := by
  rw [show (1 : Int32) = nI 1 from rfl, zn_sub (by omega), zn_sub (by omega)]
  congr 1
  omega
abbrev rX10_echoedByte : Room := ⟨2, 0, 0, 80⟩
def SX10_echoedByte (G : zC) : zS := fun as h n K => ∃ (x k b zz : Nat) (tx : Nat → Nat) (w0 w1 w3 w4 w5 w6 w7 w8 w9 w10 w11 w12 w13 w14 w15 w16 w17 w18 w19 : Value), as = [.ref x, .int (nI zz), .int (nI k - 1 - nI b)] ∧ h x = some (zO 10 [w0, w1, .ref (x + 1), w3, w4, w5, w6, w7, w8, w9, w10, w11, w12, w13, w14, w15, w16, w17, w18, w19]) ∧ zpR G h (x + 1) k tx ∧ k ≤ 300 ∧ b < 16 ∧ zz < 65536 ∧ (∀ i, i < k → tx i < 256) ∧ K (some (.int (nI (if k < 1 + b then 0 else (tx (k - (1 + b)) + (if zz % 16 = 0 then 1 else 0)) % 256)))) h n
set_option maxRecDepth 100000 in
theorem tvX10_echoedByte {G : zC} {as : List Value} {h : zH} {n : Nat} {K : zP} (hs : SX10_echoedByte G as h n K) : (∃ b fs r, as = .ref b :: r ∧ h b = some (.inr (10, fs))) ∧ zCt G rX10_echoedByte mX10_echoedByte as h n K := by
  obtain ⟨x, k, b, zz, tx, w0, w1, w3, w4, w5, w6, w7, w8, w9, w10, w11, w12, w13, w14, w15, w16, w17, w18, w19, rfl, c0, pT, hk3, hb, hzz, htx, hK⟩ := hs
  refine ⟨⟨_, _, _, rfl, c0⟩, zCt.of (by decide) (Nat.le_of_ble_eq_true rfl) ?_⟩
  refine z_aload_n dX10_echoedByte_0 rfl ?_
  refine z_getfield dX10_echoedByte_1 fX10_14_10 rfl c0 rfl ?_
  refine z_iload_n dX10_echoedByte_4 rfl ?_
  refine zcall2 (zck_V (na := 1) (ci := 5) (R' := rX4_has) (M' := mX4_has) (fun _ _ _ _ => tvX4_has) (by decide) kX4_has lX10_129 (by decide +kernel) rfl) dX10_echoedByte_5 (Nat.le_of_ble_eq_true rfl) (Nat.le_of_ble_eq_true rfl) (Nat.le_of_ble_eq_true rfl) ?_
  refine ⟨_, _, _, _, rfl, pT.1, ?_⟩
  rw [zhas_in]
  refine z_if_ne (t := 13) dX10_echoedByte_8 (by decide) (fun q8 => ?_) (fun q8 => ?_)
  · have w8 : 1 + b ≤ k := (zsub3_in (by omega) (by omega)).mp (zi11.mp q8)
    have hlt := htx (k - (1 + b)) (by omega)
    rw [if_neg (by omega)] at hK
    refine z_iload_n dX10_echoedByte_13 rfl ?_
    refine z_bipush (w := 16) dX10_echoedByte_14 (by decide) ?_
    refine z_irem dX10_echoedByte_16 (by decide) ?_
    rw [show nI zz - nI zz / 16 * 16 = nI (zz % 16) from pk_rem (d := 16) (by omega) (by decide) (by decide)]
    refine z_if_ne (t := 24) dX10_echoedByte_17 (by decide) (fun q17 => ?_) (fun q17 => ?_)
    · have w17 : ¬ zz % 16 = 0 := fun w => q17 (by rw [w]; rfl)
      rw [if_neg w17] at hK
      refine z_iconst (w := 0) dX10_echoedByte_24 (by decide) ?_
      refine z_istore_n dX10_echoedByte_25 (Nat.le_of_ble_eq_true rfl) ?_
      refine z_aload_n dX10_echoedByte_26 rfl ?_
      refine z_getfield dX10_echoedByte_27 fX10_14_10 rfl c0 rfl ?_
      refine z_iload_n dX10_echoedByte_30 rfl ?_
      refine zcall2 (zck_V (na := 1) (ci := 5) (R' := rX4_byteAt) (M' := mX4_byteAt) (fun _ _ _ _ => tvX4_byteAt) (by decide) kX4_byteAt lX10_132 (by decide +kernel) rfl) dX10_echoedByte_31 (Nat.le_of_ble_eq_true rfl) (Nat.le_of_ble_eq_true rfl) (Nat.le_of_ble_eq_true rfl) ?_
      obtain ⟨f, rf1, rf2⟩ := pT.2
      refine ⟨_, _, _, _, f, _, rfl, pT.1, rf1, (by decide), ?_⟩
      rw [zsub3_nI w8, zat_in (show k - (1 + b) < 300 by omega) (by decide), rf2 _ (by omega)]
      refine z_iload_n dX10_echoedByte_34 rfl ?_
      refine z_iadd dX10_echoedByte_35 ?_
      first
      | rw [show nI (tx (k - (1 + b))) + 1 = nI ((tx (k - (1 + b))) + 1) from nI_add _ 1]
      | rw [show nI (tx (k - (1 + b))) + 0 = nI ((tx (k - (1 + b))) + 0) from nI_add _ 0]
      refine z_sipush (w := 256) dX10_echoedByte_36 (by decide) ?_
      refine z_irem dX10_echoedByte_39 (by decide) ?_
      first
      | rw [show nI ((tx (k - (1 + b))) + 1) - nI ((tx (k - (1 + b))) + 1) / 256 * 256 = nI (((tx (k - (1 + b))) + 1) % 256) from pk_rem (d := 256) (by omega) (by decide) (by decide)]
      | rw [show nI ((tx (k - (1 + b))) + 0) - nI ((tx (k - (1 + b))) + 0) / 256 * 256 = nI (((tx (k - (1 + b))) + 0) % 256) from pk_rem (d := 256) (by omega) (by decide) (by decide)]
      refine z_ireturn dX10_echoedByte_40 trivial (Nat.le_of_ble_eq_true rfl) (Nat.le_of_ble_eq_true rfl) ?_
      exact hK
    · have w17 : zz % 16 = 0 := (nI_eq (b := 0) (by omega) (by decide)).mp q17
      rw [if_pos w17] at hK
      refine z_iconst (w := 1) dX10_echoedByte_20 (by decide) ?_
      refine z_goto (t := 25) dX10_echoedByte_21 (by decide) ?_
      refine z_istore_n dX10_echoedByte_25 (Nat.le_of_ble_eq_true rfl) ?_
      refine z_aload_n dX10_echoedByte_26 rfl ?_
      refine z_getfield dX10_echoedByte_27 fX10_14_10 rfl c0 rfl ?_
      refine z_iload_n dX10_echoedByte_30 rfl ?_
      refine zcall2 (zck_V (na := 1) (ci := 5) (R' := rX4_byteAt) (M' := mX4_byteAt) (fun _ _ _ _ => tvX4_byteAt) (by decide) kX4_byteAt lX10_132 (by decide +kernel) rfl) dX10_echoedByte_31 (Nat.le_of_ble_eq_true rfl) (Nat.le_of_ble_eq_true rfl) (Nat.le_of_ble_eq_true rfl) ?_
      obtain ⟨f, rf1, rf2⟩ := pT.2
      refine ⟨_, _, _, _, f, _, rfl, pT.1, rf1, (by decide), ?_⟩
      rw [zsub3_nI w8, zat_in (show k - (1 + b) < 300 by omega) (by decide), rf2 _ (by omega)]
      refine z_iload_n dX10_echoedByte_34 rfl ?_
      refine z_iadd dX10_echoedByte_35 ?_
      first
      | rw [show nI (tx (k - (1 + b))) + 1 = nI ((tx (k - (1 + b))) + 1) from nI_add _ 1]
      | rw [show nI (tx (k - (1 + b))) + 0 = nI ((tx (k - (1 + b))) + 0) from nI_add _ 0]
      refine z_sipush (w := 256) dX10_echoedByte_36 (by decide) ?_
      refine z_irem dX10_echoedByte_39 (by decide) ?_
      first
      | rw [show nI ((tx (k - (1 + b))) + 1) - nI ((tx (k - (1 + b))) + 1) / 256 * 256 = nI (((tx (k - (1 + b))) + 1) % 256) from pk_rem (d := 256) (by omega) (by decide) (by decide)]
      | rw [show nI ((tx (k - (1 + b))) + 0) - nI ((tx (k - (1 + b))) + 0) / 256 * 256 = nI (((tx (k - (1 + b))) + 0) % 256) from pk_rem (d := 256) (by omega) (by decide) (by decide)]
      refine z_ireturn dX10_echoedByte_40 trivial (Nat.le_of_ble_eq_true rfl) (Nat.le_of_ble_eq_true rfl) ?_
      exact hK
  · have w8 : ¬ 1 + b ≤ k := fun w => zi10.mp q8 ((zsub3_in (by omega) (by omega)).mpr w)
    rw [if_pos (by omega)] at hK
    refine z_iconst (w := 0) dX10_echoedByte_11 (by decide) ?_
    refine z_ireturn dX10_echoedByte_12 trivial (Nat.le_of_ble_eq_true rfl) (Nat.le_of_ble_eq_true rfl) ?_
    exact hK
abbrev rX10_madeByte : Room := ⟨3, 0, 0, 120⟩
def SX10_madeByte (G : zC) : zS := fun as h n K => ∃ (x k zz bf : Nat) (seed how : Int32) (tx : Nat → Nat) (w0 w1 w3 w4 w5 w6 w7 w8 w9 w10 w11 w12 w13 w14 w15 w16 w17 w18 w19 : Value), as = [.ref x, .int (nI zz), .int seed, .int how, .int (nI bf)] ∧ h x = some (zO 10 [w0, w1, .ref (x + 1), w3, w4, w5, w6, w7, w8, w9, w10, w11, w12, w13, w14, w15, w16, w17, w18, w19]) ∧ zpR G h (x + 1) k tx ∧ k ≤ 300 ∧ zz < 65536 ∧ bf < 256 ∧ zIn how 4 ∧ (∀ i, i < k → tx i < 256) ∧ K (some (.int (nI (zfby how seed zz bf k tx)))) h n
set_option maxRecDepth 100000 in
theorem tvX10_madeByte {G : zC} {as : List Value} {h : zH} {n : Nat} {K : zP} (hs : SX10_madeByte G as h n K) : (∃ b fs r, as = .ref b :: r ∧ h b = some (.inr (10, fs))) ∧ zCt G rX10_madeByte mX10_madeByte as h n K := by
  obtain ⟨x, k, zz, bf, seed, how, tx, w0, w1, w3, w4, w5, w6, w7, w8, w9, w10, w11, w12, w13, w14, w15, w16, w17, w18, w19, rfl, c0, pT, hk3, hzz, hbf, hhow, htx, hK⟩ := hs
  refine ⟨⟨_, _, _, rfl, c0⟩, zCt.of (by decide) (Nat.le_of_ble_eq_true rfl) ?_⟩
  have hbk : zu seed / 268435456 < 16 := by have := zu_lt seed; omega
  obtain ⟨j, rfl, hj⟩ := hhow.ex (by decide)
  have hj4 : j = 0 ∨ j = 1 ∨ j = 2 ∨ j = 3 := by omega
  refine z_iload_n dX10_madeByte_0 rfl ?_
  rcases hj4 with rfl | rfl | rfl | rfl
  · refine z_tableIn (t := 28) dX10_madeByte_1 (by decide) (by decide) rfl (by decide) ?_
    refine z_iload_n dX10_madeByte_28 rfl ?_
    refine z_sipush (w := 256) dX10_madeByte_29 (by decide) ?_
    refine z_irem dX10_madeByte_32 (by decide) ?_
    rw [show nI zz - nI zz / 256 * 256 = nI (zz % 256) from pk_rem (d := 256) (by omega) (by decide) (by decide)]
    refine z_ireturn dX10_madeByte_33 trivial (Nat.le_of_ble_eq_true rfl) (Nat.le_of_ble_eq_true rfl) ?_
    exact hK
  · refine z_tableIn (t := 34) dX10_madeByte_1 (by decide) (by decide) rfl (by decide) ?_
    refine z_iload_n dX10_madeByte_34 rfl ?_
    refine z_iconst (w := 4) dX10_madeByte_35 (by decide) ?_
    refine z_irem dX10_madeByte_36 (by decide) ?_
    rw [show nI zz - nI zz / 4 * 4 = nI (zz % 4) from pk_rem (d := 4) (by omega) (by decide) (by decide)]
    refine z_ireturn dX10_madeByte_37 trivial (Nat.le_of_ble_eq_true rfl) (Nat.le_of_ble_eq_true rfl) ?_
    exact hK
  · refine z_tableIn (t := 38) dX10_madeByte_1 (by decide) (by decide) rfl (by decide) ?_
    refine z_aload_n dX10_madeByte_38 rfl ?_
    refine z_iload_n dX10_madeByte_39 rfl ?_
    refine z_aload_n dX10_madeByte_40 rfl ?_
    refine z_getfield dX10_madeByte_41 fX10_14_10 rfl c0 rfl ?_
    refine zcall1 (zck_V (na := 0) (ci := 5) (R' := rX4_many) (M' := mX4_many) (fun _ _ _ _ => tvX4_many) (by decide) kX4_many lX10_107 (by decide +kernel) rfl) dX10_madeByte_44 (Nat.le_of_ble_eq_true rfl) (Nat.le_of_ble_eq_true rfl) (Nat.le_of_ble_eq_true rfl) ?_
    refine ⟨_, _, _, rfl, pT.1, ?_⟩
    refine z_iconst (w := 1) dX10_madeByte_47 (by decide) ?_
    refine z_isub dX10_madeByte_48 ?_
    refine z_iload_n dX10_madeByte_49 rfl ?_
    refine z_bipush (w := 28) dX10_madeByte_50 (by decide) ?_
    refine z_iushr dX10_madeByte_52 ?_
    rw [zu28]
    refine z_isub dX10_madeByte_53 ?_
    refine zcall3 (zck_V (na := 2) (ci := 10) (R' := rX10_echoedByte) (M' := mX10_echoedByte) (fun _ _ _ _ => tvX10_echoedByte) (by decide) kX10_echoedByte lX10_126 (by decide +kernel) rfl) dX10_madeByte_54 (Nat.le_of_ble_eq_true rfl) (Nat.le_of_ble_eq_true rfl) (Nat.le_of_ble_eq_true rfl) ?_
    refine ⟨_, k, _, _, tx, _, _, _, _, _, _, _, _, _, _, _, _, _, _, _, _, _, _, _, rfl, c0, pT, hk3, hbk, hzz, htx, ?_⟩
    refine z_ireturn dX10_madeByte_57 trivial (Nat.le_of_ble_eq_true rfl) (Nat.le_of_ble_eq_true rfl) ?_
    exact hK
  · refine z_tableOut (t := 58) dX10_madeByte_1 (Or.inr (by decide)) (by decide) ?_
    refine z_iload dX10_madeByte_58 rfl ?_
    refine z_iload_n dX10_madeByte_60 rfl ?_
    refine z_iconst (w := 4) dX10_madeByte_61 (by decide) ?_
    refine z_irem dX10_madeByte_62 (by decide) ?_
    rw [show nI zz - nI zz / 4 * 4 = nI (zz % 4) from pk_rem (d := 4) (by omega) (by decide) (by decide)]
    refine z_iadd dX10_madeByte_63 ?_
    rw [nI_add]
    refine z_sipush (w := 256) dX10_madeByte_64 (by decide) ?_
    refine z_irem dX10_madeByte_67 (by decide) ?_
    rw [show nI (bf + zz % 4) - nI (bf + zz % 4) / 256 * 256 = nI ((bf + zz % 4) % 256) from pk_rem (d := 256) (by omega) (by decide) (by decide)]
    refine z_ireturn dX10_madeByte_68 trivial (Nat.le_of_ble_eq_true rfl) (Nat.le_of_ble_eq_true rfl) ?_
    exact hK
abbrev rX10_fill : Room := ⟨4, 0, 0, 160⟩
def SX10_fill (G : zC) : zS := fun as h n K => ∃ (x b t rn : Nat) (o rm : Nat) (a tx : Nat → Nat) (gg : Nat → Int32) (rx : Nat → Nat) (M : Nat → zMs) (z : Nat → Int32) (XX : Nat → Nat) (F : Nat → Option Nat) (k seed how : Int32), as = [.ref x, .int k, .int seed, .int how] ∧ zOkS o rm a tx M ∧ zCS G h n x b t rn o rm a tx gg rx M z XX F ∧ rn ≤ 100000 ∧ ∀ h' n', zCS G h' n' x b t (rn + 302) o rm (zFil k seed how a tx).1 (zFil k seed how a tx).2.1 gg rx M z XX F → zfrm x b h h' → n ≤ n' → K (some (.int (zFil k seed how a tx).2.2)) h' n'
set_option maxRecDepth 100000 in
theorem tvX10_fill {G : zC} {as : List Value} {h : zH} {n : Nat} {K : zP} (hs : SX10_fill G as h n K) : (∃ b fs r, as = .ref b :: r ∧ h b = some (.inr (10, fs))) ∧ zCt G rX10_fill mX10_fill as h n K := by
  obtain ⟨x, b, t, rn, o, rm, a, tx, gg, rx, M, z, XX, F, k, seed, how, rfl, hB, hC, hrn, hK⟩ := hs
  have hC0 := hC
  obtain ⟨b1, b2, b3, b4, b5, b6, b7, b8, btx, bM⟩ := hB
  obtain ⟨rO, tO, rM, tM, tr, kt, rt, Nt, c0, cO, cM, cb, cn, ck, pT, pO, pR, pU, pA, pB, pN, pS, pL, pE, pP, pW, pD⟩ := hC
  refine ⟨⟨_, _, _, rfl, c0⟩, zCt.of (by decide) (Nat.le_of_ble_eq_true rfl) ?_⟩
  refine z_iload_n dX10_fill_0 rfl ?_
  refine z_iconst (w := 1) dX10_fill_1 (by decide) ?_
  refine z_icmp_lt (t := 21) dX10_fill_2 (by decide) (fun q2 => ?_) (fun q2 => ?_)
  · rw [show zFil k seed how a tx = (a, tx, -1) from if_neg (fun p => absurd q2 (Int32.not_lt.mpr p.1.1))] at hK
    refine z_iconst (w := -1) dX10_fill_21 (by decide) ?_
    refine z_ireturn dX10_fill_22 trivial (Nat.le_of_ble_eq_true rfl) (Nat.le_of_ble_eq_true rfl) ?_
    exact hK h n (hC0.mono (by omega)) (fun _ _ _ => rfl) (Nat.le_refl _)
  · refine z_iload_n dX10_fill_5 rfl ?_
    refine z_sipush (w := 300) dX10_fill_6 (by decide) ?_
    refine z_icmp_gt (t := 21) dX10_fill_9 (by decide) (fun q9 => ?_) (fun q9 => ?_)
    · rw [show zFil k seed how a tx = (a, tx, -1) from if_neg (fun p => absurd q9 (Int32.not_lt.mpr p.1.2))] at hK
      refine z_iconst (w := -1) dX10_fill_21 (by decide) ?_
      refine z_ireturn dX10_fill_22 trivial (Nat.le_of_ble_eq_true rfl) (Nat.le_of_ble_eq_true rfl) ?_
      exact hK h n (hC0.mono (by omega)) (fun _ _ _ => rfl) (Nat.le_refl _)
    · refine z_iload_n dX10_fill_12 rfl ?_
      refine z_if_lt (t := 21) dX10_fill_13 (by decide) (fun q13 => ?_) (fun q13 => ?_)
      · rw [show zFil k seed how a tx = (a, tx, -1) from if_neg (fun p => absurd q13 (Int32.not_lt.mpr p.2.1))] at hK
        refine z_iconst (w := -1) dX10_fill_21 (by decide) ?_
        refine z_ireturn dX10_fill_22 trivial (Nat.le_of_ble_eq_true rfl) (Nat.le_of_ble_eq_true rfl) ?_
        exact hK h n (hC0.mono (by omega)) (fun _ _ _ => rfl) (Nat.le_refl _)
      · refine z_iload_n dX10_fill_16 rfl ?_
        refine z_iconst (w := 3) dX10_fill_17 (by decide) ?_
        refine z_icmp_le (t := 23) dX10_fill_18 (by decide) (fun q18 => ?_) (fun q18 => ?_)
        · have hhow : zIn how 4 := (zin_le (u := 3) (by decide)).mp ⟨Int32.not_lt.mp q13, q18⟩
          have hk1 : 1 ≤ k ∧ k ≤ 300 := ⟨Int32.not_lt.mp q2, Int32.not_lt.mp q9⟩
          rw [show zFil k seed how a tx = (if 300 < a 0 + zt k then (a, tx, -2) else (va_up a 0 (a 0 + zt k), zfll how seed (zt k) seed 0 (a 0) tx, nI (a 0 + zt k))) from if_pos ⟨hk1, hhow⟩] at hK
          obtain ⟨k, k1, k2, rfl⟩ := zin_nat (l := 1) (u := 300) (by decide) hk1 (by decide)
          rw [(zIn_nI (k := 301) (by decide) (by omega)).2] at hK
          refine z_aload_n dX10_fill_23 rfl ?_
          refine z_getfield dX10_fill_24 fX10_14_10 rfl c0 rfl ?_
          refine zcall1 (zck_V (na := 0) (ci := 5) (R' := rX4_many) (M' := mX4_many) (fun _ _ _ _ => tvX4_many) (by decide) kX4_many lX10_107 (by decide +kernel) rfl) dX10_fill_27 (Nat.le_of_ble_eq_true rfl) (Nat.le_of_ble_eq_true rfl) (Nat.le_of_ble_eq_true rfl) ?_
          refine ⟨_, _, _, rfl, pT.1, ?_⟩
          refine z_iload_n dX10_fill_30 rfl ?_
          refine z_iadd dX10_fill_31 ?_
          rw [nI_add]
          refine z_sipush (w := 300) dX10_fill_32 (by decide) ?_
          refine z_icmp_le (t := 41) dX10_fill_35 (by decide) (fun q35 => ?_) (fun q35 => ?_)
          · have w36 : ¬ 300 < a 0 + k := Nat.not_lt.mpr ((nI_leI (b := 300) (by omega) (by decide)).mp q35)
            rw [if_neg w36] at hK
            dsimp only at hK
            refine z_iload_n dX10_fill_41 rfl ?_
            refine z_istore dX10_fill_42 (Nat.le_of_ble_eq_true rfl) ?_
            refine z_iconst (w := 0) dX10_fill_44 (by decide) ?_
            refine z_istore dX10_fill_45 (Nat.le_of_ble_eq_true rfl) ?_
            refine z_iconst (w := 0) dX10_fill_47 (by decide) ?_
            refine z_istore dX10_fill_48 (Nat.le_of_ble_eq_true rfl) ?_
            have loop : ∀ (d i : Nat) (y : Int32) (bf : Nat) (tx1 : Nat → Nat) (h1 : zH), i + d = k → bf < 256 → (∀ q, ¬ (q = x + 1 ∨ q = x + 2) → h1 q = h q) → zpR G h1 (x + 1) (a 0 + i) tx1 → (∀ j, j < a 0 + i → tx1 j < 256) → zfll how seed d y bf (a 0 + i) tx1 = zfll how seed k seed 0 (a 0) tx → zZ (zXm G rX10_fill mX10_fill [.ref x, .int (nI k), .int seed, .int how] h n K) 50 [(0, .ref x), (1, .int (nI k)), (2, .int seed), (3, .int how), (4, .int y), (5, .int (nI bf)), (6, .int (nI i))] [] h1 n 0 0 := by
              intro d
              induction d with
              | zero =>
                intro i y bf tx1 h1 hd hbf hE pT1 htx1 hz
                have hi : i = k := by omega
                subst hi
                refine z_iload dX10_fill_50 rfl ?_
                refine z_iload_n dX10_fill_52 rfl ?_
                refine z_icmp_ge (t := 97) dX10_fill_53 (by decide) (fun q53 => ?_) (fun q53 => ?_)
                · refine z_aload_n dX10_fill_97 rfl ?_
                  refine z_getfield dX10_fill_98 fX10_14_10 rfl ((hE _ (by omega)).trans c0) rfl ?_
                  refine zcall1 (zck_V (na := 0) (ci := 5) (R' := rX4_many) (M' := mX4_many) (fun _ _ _ _ => tvX4_many) (by decide) kX4_many lX10_107 (by decide +kernel) rfl) dX10_fill_101 (Nat.le_of_ble_eq_true rfl) (Nat.le_of_ble_eq_true rfl) (Nat.le_of_ble_eq_true rfl) ?_
                  refine ⟨_, _, _, rfl, pT1.1, ?_⟩
                  refine z_ireturn dX10_fill_104 trivial (Nat.le_of_ble_eq_true rfl) (Nat.le_of_ble_eq_true rfl) ?_
                  rw [← hz] at hK
                  exact hK h1 n ⟨rO, tO, rM, tM, tr, kt, rt, Nt, ((hE _ (by omega)).trans c0), cO, cM, cb, cn, ck, pT1, (pO.cg (hE _ (by omega)) (hE _ (by omega))), (pR.cg (hE _ (by omega)) (hE _ (by omega))), (pU.cg (hE _ (by omega)) (hE _ (by omega))), (zpM.cg pA (fun q z1 z2 => hE q (by omega))), (zpM.cg pB (fun q z1 z2 => hE q (by omega))), (zpM.cg pN (fun q z1 z2 => hE q (by omega))), (pS.cg (hE _ (by omega)) (fun q z1 => hE q (by omega)) (Nat.le_refl _)), (pL.cg (fun q z1 z2 => hE q (by omega)) (by omega)), (pE.cg (hE _ (by omega))), (pP.cg (fun q z1 z2 => hE q (by omega))), (pW.cg (hE _ (by omega))), (pD.cg (fun q z1 z2 => hE q (by omega)))⟩ (fun q z1 z2 => hE q (by omega)) (Nat.le_refl _)
                · exact absurd (Int32.le_refl _) q53
              | succ d ih =>
                intro i y bf tx1 h1 hd hbf hE pT1 htx1 hz
                have k0 := (hE x (by omega)).trans c0
                have hzz : (zu (y * 1103515245 + 12345) / 65536) < 65536 := by have := zu_lt (y * 1103515245 + 12345); omega
                refine z_iload dX10_fill_50 rfl ?_
                refine z_iload_n dX10_fill_52 rfl ?_
                refine z_icmp_ge (t := 97) dX10_fill_53 (by decide) (fun q53 => ?_) (fun q53 => ?_)
                · exact absurd ((nI_leI (by omega) (by omega)).mp q53) (by omega)
                · refine z_iload dX10_fill_56 rfl ?_
                  refine z_ldc dX10_fill_58 coX10_121 ?_
                  refine z_imul dX10_fill_60 ?_
                  refine z_sipush (w := 12345) dX10_fill_61 (by decide) ?_
                  refine z_iadd dX10_fill_64 ?_
                  refine z_istore dX10_fill_65 (Nat.le_of_ble_eq_true rfl) ?_
                  refine z_aload_n dX10_fill_67 rfl ?_
                  refine z_iload dX10_fill_68 rfl ?_
                  refine z_bipush (w := 16) dX10_fill_70 (by decide) ?_
                  refine z_iushr dX10_fill_72 ?_
                  rw [zu16]
                  refine z_iload_n dX10_fill_73 rfl ?_
                  refine z_iload_n dX10_fill_74 rfl ?_
                  refine z_iload dX10_fill_75 rfl ?_
                  refine zcall5 (zck_V (na := 4) (ci := 10) (R' := rX10_madeByte) (M' := mX10_madeByte) (fun _ _ _ _ => tvX10_madeByte) (by decide) kX10_madeByte lX10_122 (by decide +kernel) rfl) dX10_fill_77 (Nat.le_of_ble_eq_true rfl) (Nat.le_of_ble_eq_true rfl) (Nat.le_of_ble_eq_true rfl) ?_
                  refine ⟨_, a 0 + i, _, bf, seed, how, tx1, _, _, _, _, _, _, _, _, _, _, _, _, _, _, _, _, _, _, _, rfl, k0, pT1, (by omega), hzz, hbf, hhow, htx1, ?_⟩
                  refine z_istore dX10_fill_80 (Nat.le_of_ble_eq_true rfl) ?_
                  refine z_aload_n dX10_fill_82 rfl ?_
                  refine z_getfield dX10_fill_83 fX10_14_10 rfl k0 rfl ?_
                  refine z_iload dX10_fill_86 rfl ?_
                  refine zcall2 (zck_V (na := 1) (ci := 5) (R' := rX4_append) (M' := mX4_append) (fun _ _ _ _ => tvX4_append) (by decide) kX4_append lX10_118 (by decide +kernel) rfl) dX10_fill_88 (Nat.le_of_ble_eq_true rfl) (Nat.le_of_ble_eq_true rfl) (Nat.le_of_ble_eq_true rfl) ?_
                  obtain ⟨f, tf1, tf2⟩ := pT1.2
                  refine ⟨_, _, _, _, f, _, rfl, pT1.1, tf1, (by decide), (by omega), fun h2 g1 g2 g3 => ?_⟩
                  have hE2 : ∀ q, ¬ (q = x + 1 ∨ q = x + 2) → h2 q = h q := fun q hq => (g3 q (by omega) (by omega)).trans (hE q hq)
                  refine z_iinc dX10_fill_91 rfl (Nat.le_of_ble_eq_true rfl) ?_
                  refine z_goto (t := 50) dX10_fill_94 (by decide) ?_
                  rw [show nI i + Int32.ofInt 1 = nI (i + 1) from nI_1 i]
                  refine ih (i + 1) _ (zfby how seed (zu (y * 1103515245 + 12345) / 65536) bf (a 0 + i) tx1) (va_up tx1 (a 0 + i) (zfby how seed (zu (y * 1103515245 + 12345) / 65536) bf (a 0 + i) tx1)) h2 (by omega) (zfby_lt _ _ _ _ _ _) hE2 ⟨g1, _, g2, fun j hj => ?_⟩ (fun j hj => ?_) (by rw [← hz]; rfl)
                  · by_cases e : j = a 0 + i
                    · rw [e, zu_eq, va_up_self]
                    · rw [zu_ne e, va_up_ne _ _ e]; exact tf2 j (by omega)
                  · by_cases e : j = a 0 + i
                    · rw [e, va_up_self]; exact zfby_lt _ _ _ _ _ _
                    · rw [va_up_ne _ _ e]; exact htx1 j (by omega)
            exact loop k 0 seed 0 tx h (Nat.zero_add _) (by decide) (fun _ _ => rfl) pT btx rfl
          · have w36 : 300 < a 0 + k := Nat.lt_of_not_le (fun w => q35 (nI_le (b := 300) w (by decide)))
            rw [if_pos w36] at hK
            refine z_bipush (w := -2) dX10_fill_38 (by decide) ?_
            refine z_ireturn dX10_fill_40 trivial (Nat.le_of_ble_eq_true rfl) (Nat.le_of_ble_eq_true rfl) ?_
            exact hK h n (hC0.mono (by omega)) (fun _ _ _ => rfl) (Nat.le_refl _)
        · rw [show zFil k seed how a tx = (a, tx, -1) from if_neg (fun p => q18 ((zin_le (u := 3) (by decide)).mpr p.2).2)] at hK
          refine z_iconst (w := -1) dX10_fill_21 (by decide) ?_
          refine z_ireturn dX10_fill_22 trivial (Nat.le_of_ble_eq_true rfl) (Nat.le_of_ble_eq_true rfl) ?_
          exact hK h n (hC0.mono (by omega)) (fun _ _ _ => rfl) (Nat.le_refl _)

/-! the class: calls that ask, and small ones that change -/
theorem zpos_ne {k : Nat} (h : k < 2147483648) : ¬ zfi (some k) = -1 := fun e => by
  have h1 := congrArg Int32.toInt e
  rw [show zfi (some k) = nI k from rfl, nI_toInt h, show (-1 : Int32).toInt = -1 from rfl] at h1
  omega
abbrev rX10_add : Room := ⟨2, 0, 0, 80⟩
def SX10_add (G : zC) : zS := fun as h n K => ∃ (x b t rn : Nat) (o rm : Nat) (a tx : Nat → Nat) (gg : Nat → Int32) (rx : Nat → Nat) (M : Nat → zMs) (z : Nat → Int32) (XX : Nat → Nat) (F : Nat → Option Nat) (bb : Int32), as = [.ref x, .int bb] ∧ zOkS o rm a tx M ∧ zCS G h n x b t rn o rm a tx gg rx M z XX F ∧ rn ≤ 100000 ∧ ∀ h' n', zCS G h' n' x b t (rn + 302) o rm (zAdd bb a tx).1 (zAdd bb a tx).2.1 gg rx M z XX F → zfrm x b h h' → n ≤ n' → K (some (.int (zAdd bb a tx).2.2)) h' n'
set_option maxRecDepth 100000 in
theorem tvX10_add {G : zC} {as : List Value} {h : zH} {n : Nat} {K : zP} (hs : SX10_add G as h n K) : (∃ b fs r, as = .ref b :: r ∧ h b = some (.inr (10, fs))) ∧ zCt G rX10_add mX10_add as h n K := by
  obtain ⟨x, b, t, rn, o, rm, a, tx, gg, rx, M, z, XX, F, bb, rfl, hB, hC, hrn, hK⟩ := hs
  have hC0 := hC
  obtain ⟨b1, b2, b3, b4, b5, b6, b7, b8, btx, bM⟩ := hB
  obtain ⟨rO, tO, rM, tM, tr, kt, rt, Nt, c0, cO, cM, cb, cn, ck, pT, pO, pR, pU, pA, pB, pN, pS, pL, pE, pP, pW, pD⟩ := hC
  refine ⟨⟨_, _, _, rfl, c0⟩, zCt.of (by decide) (Nat.le_of_ble_eq_true rfl) ?_⟩
  refine z_iload_n dX10_add_0 rfl ?_
  refine zcall1 (zck_S (R' := rX10_isByte) (M' := mX10_isByte) (fun _ _ _ _ => tX10_isByte) kX10_isByte lX10_114 (by decide +kernel) rfl) dX10_add_1 (Nat.le_of_ble_eq_true rfl) (Nat.le_of_ble_eq_true rfl) (Nat.le_of_ble_eq_true rfl) ?_
  refine ⟨_, rfl, ?_⟩
  refine z_if_ne (t := 9) dX10_add_4 (by decide) (fun q4 => ?_) (fun q4 => ?_)
  · refine z_aload_n dX10_add_9 rfl ?_
    refine z_getfield dX10_add_10 fX10_14_10 rfl (by first | exact c0 | exact (hE _ (by omega)).trans c0) rfl ?_
    refine zcall1 (zck_V (na := 0) (ci := 5) (R' := rX4_many) (M' := mX4_many) (fun _ _ _ _ => tvX4_many) (by decide) kX4_many lX10_107 (by decide +kernel) rfl) dX10_add_13 (Nat.le_of_ble_eq_true rfl) (Nat.le_of_ble_eq_true rfl) (Nat.le_of_ble_eq_true rfl) ?_
    refine ⟨_, _, _, rfl, pT.1, ?_⟩
    refine z_sipush (w := 300) dX10_add_16 (by decide) ?_
    refine z_icmp_lt (t := 25) dX10_add_19 (by decide) (fun q19 => ?_) (fun q19 => ?_)
    · have w19 : a 0 < 300 := (nI_ltI (b := 300) (by omega) (by decide)).mp q19
      refine z_aload_n dX10_add_25 rfl ?_
      refine z_getfield dX10_add_26 fX10_14_10 rfl (by first | exact c0 | exact (hE _ (by omega)).trans c0) rfl ?_
      refine z_iload_n dX10_add_29 rfl ?_
      refine zcall2 (zck_V (na := 1) (ci := 5) (R' := rX4_append) (M' := mX4_append) (fun _ _ _ _ => tvX4_append) (by decide) kX4_append lX10_118 (by decide +kernel) rfl) dX10_add_30 (Nat.le_of_ble_eq_true rfl) (Nat.le_of_ble_eq_true rfl) (Nat.le_of_ble_eq_true rfl) ?_
      obtain ⟨f, tf1, tf2⟩ := pT.2
      refine ⟨_, _, _, _, f, _, rfl, pT.1, tf1, (by decide), (by omega), fun h1 g1 g2 g3 => ?_⟩
      have hE : ∀ q, ¬ (q = x + 1 ∨ q = x + 2) → h1 q = h q := fun q hq => g3 q (by omega) (by omega)
      refine z_aload_n dX10_add_33 rfl ?_
      refine z_getfield dX10_add_34 fX10_14_10 rfl (by first | exact c0 | exact (hE _ (by omega)).trans c0) rfl ?_
      refine zcall1 (zck_V (na := 0) (ci := 5) (R' := rX4_many) (M' := mX4_many) (fun _ _ _ _ => tvX4_many) (by decide) kX4_many lX10_107 (by decide +kernel) rfl) dX10_add_37 (Nat.le_of_ble_eq_true rfl) (Nat.le_of_ble_eq_true rfl) (Nat.le_of_ble_eq_true rfl) ?_
      refine ⟨_, _, _, rfl, g1, ?_⟩
      refine z_ireturn dX10_add_40 trivial (Nat.le_of_ble_eq_true rfl) (Nat.le_of_ble_eq_true rfl) ?_
      rw [show zAdd bb a tx = (va_up a 0 (a 0 + 1), va_up tx (a 0) (zt bb), nI (a 0 + 1)) from (if_neg (fun w => w (zi11.mp q4))).trans (if_neg (by omega))] at hK
      dsimp only at hK
      have hb := zIn.nat (zi11.mp q4) (by decide)
      refine hK h1 n ⟨rO, tO, rM, tM, tr, kt, rt, Nt, ((hE _ (by omega)).trans c0), cO, cM, cb, cn, ck, ⟨g1, _, g2, ?_⟩, (pO.cg (hE _ (by omega)) (hE _ (by omega))), (pR.cg (hE _ (by omega)) (hE _ (by omega))), (pU.cg (hE _ (by omega)) (hE _ (by omega))), (zpM.cg pA (fun q z1 z2 => hE q (by omega))), (zpM.cg pB (fun q z1 z2 => hE q (by omega))), (zpM.cg pN (fun q z1 z2 => hE q (by omega))), (pS.cg (hE _ (by omega)) (fun q z1 => hE q (by omega)) (Nat.le_refl _)), (pL.cg (fun q z1 z2 => hE q (by omega)) (by omega)), (pE.cg (hE _ (by omega))), (pP.cg (fun q z1 z2 => hE q (by omega))), (pW.cg (hE _ (by omega))), (pD.cg (fun q z1 z2 => hE q (by omega)))⟩ (fun q z1 z2 => hE q (by omega)) (Nat.le_refl _)
      intro i hi
      by_cases e : i = a 0
      · rw [e, zu_eq, va_up_self]; exact hb.1
      · have hi : i < a 0 + 1 := hi
        rw [zu_ne e, va_up_ne _ _ e]; exact tf2 i (by omega)
    · have w19 : a 0 = 300 := by
        have := mt (nI_lt (b := 300) · (by decide)) q19
        omega
      refine z_bipush (w := -2) dX10_add_22 (by decide) ?_
      refine z_ireturn dX10_add_24 trivial (Nat.le_of_ble_eq_true rfl) (Nat.le_of_ble_eq_true rfl) ?_
      rw [show zAdd bb a tx = (a, tx, -2) from (if_neg (fun w => w (zi11.mp q4))).trans (if_pos w19)] at hK
      exact hK h n (hC0.mono (by omega)) (fun _ _ _ => rfl) (Nat.le_refl _)
  · refine z_iconst (w := -1) dX10_add_7 (by decide) ?_
    refine z_ireturn dX10_add_8 trivial (Nat.le_of_ble_eq_true rfl) (Nat.le_of_ble_eq_true rfl) ?_
    rw [show zAdd bb a tx = (a, tx, -1) from if_pos (zi10.mp q4)] at hK
    exact hK h n (hC0.mono (by omega)) (fun _ _ _ => rfl) (Nat.le_refl _)
abbrev rX10_size : Room := ⟨1, 0, 0, 40⟩
def SX10_size (G : zC) : zS := fun as h n K => ∃ (x b t rn : Nat) (o rm : Nat) (a tx : Nat → Nat) (gg : Nat → Int32) (rx : Nat → Nat) (M : Nat → zMs) (z : Nat → Int32) (XX : Nat → Nat) (F : Nat → Option Nat) (w : Int32), as = [.ref x, .int w] ∧ zOkS o rm a tx M ∧ zCS G h n x b t rn o rm a tx gg rx M z XX F ∧ rn ≤ 100000 ∧ ∀ h' n', zCS G h' n' x b t (rn + 302) o rm a tx gg rx M z XX F → zfrm x b h h' → n ≤ n' → K (some (.int (zQsz a w))) h' n'
set_option maxRecDepth 100000 in
theorem tvX10_size {G : zC} {as : List Value} {h : zH} {n : Nat} {K : zP} (hs : SX10_size G as h n K) : (∃ b fs r, as = .ref b :: r ∧ h b = some (.inr (10, fs))) ∧ zCt G rX10_size mX10_size as h n K := by
  obtain ⟨x, b, t, rn, o, rm, a, tx, gg, rx, M, z, XX, F, w, rfl, hB, hC, hrn, hK⟩ := hs
  have hC0 := hC
  obtain ⟨b1, b2, b3, b4, b5, b6, b7, b8, btx, bM⟩ := hB
  obtain ⟨rO, tO, rM, tM, tr, kt, rt, Nt, c0, cO, cM, cb, cn, ck, pT, pO, pR, pU, pA, pB, pN, pS, pL, pE, pP, pW, pD⟩ := hC
  refine ⟨⟨_, _, _, rfl, c0⟩, zCt.of (by decide) (Nat.le_of_ble_eq_true rfl) ?_⟩
  have zw3 : zIn w 3 → w = 0 ∨ w = 1 ∨ w = 2 := fun p => by
    obtain ⟨j, rfl, hj⟩ := p.ex (by decide)
    have : j = 0 ∨ j = 1 ∨ j = 2 := by omega
    rcases this with rfl | rfl | rfl
    · exact Or.inl rfl
    · exact Or.inr (Or.inl rfl)
    · exact Or.inr (Or.inr rfl)
  refine z_iload_n dX10_size_0 rfl ?_
  refine zcall1 (zck_S (R' := rX10_isRow) (M' := mX10_isRow) (fun _ _ _ _ => tX10_isRow) kX10_isRow lX10_136 (by decide +kernel) rfl) dX10_size_1 (Nat.le_of_ble_eq_true rfl) (Nat.le_of_ble_eq_true rfl) (Nat.le_of_ble_eq_true rfl) ?_
  refine ⟨_, rfl, ?_⟩
  refine z_if_eq (t := 18) dX10_size_4 (by decide) (fun q4 => ?_) (fun q4 => ?_)
  · rw [show zQsz a w = -1 from (if_neg (fun e => zi10.mp q4 (by rw [e]; decide))).trans ((if_neg (fun e => zi10.mp q4 (by rw [e]; decide))).trans (if_neg (fun e => zi10.mp q4 (by rw [e]; decide))))] at hK
    refine z_iconst (w := -1) dX10_size_18 (by decide) ?_
    refine z_ireturn dX10_size_19 trivial (Nat.le_of_ble_eq_true rfl) (Nat.le_of_ble_eq_true rfl) ?_
    exact hK h n (hC0.mono (by omega)) (fun _ _ _ => rfl) (Nat.le_refl _)
  · refine z_aload_n dX10_size_7 rfl ?_
    refine z_iload_n dX10_size_8 rfl ?_
    refine zcall2 (zck_V (na := 1) (ci := 10) (R' := rX10_row) (M' := mX10_row) (fun _ _ _ _ => tvX10_row) (by decide) kX10_row lX10_139 (by decide +kernel) rfl) dX10_size_9 (Nat.le_of_ble_eq_true rfl) (Nat.le_of_ble_eq_true rfl) (Nat.le_of_ble_eq_true rfl) ?_
    refine ⟨_, _, _, _, _, _, _, .null, .null, .null, _, _, _, _, _, _, _, _, _, _, _, _, _, _, _, rfl, c0, ?_⟩
    rcases zw3 (zi11.mp q4) with rfl | rfl | rfl
    · refine zcall1 (zck_V (na := 0) (ci := 5) (R' := rX4_many) (M' := mX4_many) (fun _ _ _ _ => tvX4_many) (by decide) kX4_many lX10_107 (by decide +kernel) rfl) dX10_size_12 (Nat.le_of_ble_eq_true rfl) (Nat.le_of_ble_eq_true rfl) (Nat.le_of_ble_eq_true rfl) ?_
      refine ⟨_, _, _, rfl, pT.1, ?_⟩
      refine z_goto (t := 19) dX10_size_15 (by decide) ?_
      refine z_ireturn dX10_size_19 trivial (Nat.le_of_ble_eq_true rfl) (Nat.le_of_ble_eq_true rfl) ?_
      exact hK h n (hC0.mono (by omega)) (fun _ _ _ => rfl) (Nat.le_refl _)
    · refine zcall1 (zck_V (na := 0) (ci := 5) (R' := rX4_many) (M' := mX4_many) (fun _ _ _ _ => tvX4_many) (by decide) kX4_many lX10_107 (by decide +kernel) rfl) dX10_size_12 (Nat.le_of_ble_eq_true rfl) (Nat.le_of_ble_eq_true rfl) (Nat.le_of_ble_eq_true rfl) ?_
      refine ⟨_, _, _, rfl, pO.1, ?_⟩
      refine z_goto (t := 19) dX10_size_15 (by decide) ?_
      refine z_ireturn dX10_size_19 trivial (Nat.le_of_ble_eq_true rfl) (Nat.le_of_ble_eq_true rfl) ?_
      exact hK h n (hC0.mono (by omega)) (fun _ _ _ => rfl) (Nat.le_refl _)
    · refine zcall1 (zck_V (na := 0) (ci := 5) (R' := rX4_many) (M' := mX4_many) (fun _ _ _ _ => tvX4_many) (by decide) kX4_many lX10_107 (by decide +kernel) rfl) dX10_size_12 (Nat.le_of_ble_eq_true rfl) (Nat.le_of_ble_eq_true rfl) (Nat.le_of_ble_eq_true rfl) ?_
      refine ⟨_, _, _, rfl, pR.1, ?_⟩
      refine z_goto (t := 19) dX10_size_15 (by decide) ?_
      refine z_ireturn dX10_size_19 trivial (Nat.le_of_ble_eq_true rfl) (Nat.le_of_ble_eq_true rfl) ?_
      exact hK h n (hC0.mono (by omega)) (fun _ _ _ => rfl) (Nat.le_refl _)
abbrev rX10_octet : Room := ⟨2, 0, 0, 80⟩
def SX10_octet (G : zC) : zS := fun as h n K => ∃ (x b t rn : Nat) (o rm : Nat) (a tx : Nat → Nat) (gg : Nat → Int32) (rx : Nat → Nat) (M : Nat → zMs) (z : Nat → Int32) (XX : Nat → Nat) (F : Nat → Option Nat) (w i : Int32), as = [.ref x, .int w, .int i] ∧ zOkS o rm a tx M ∧ zCS G h n x b t rn o rm a tx gg rx M z XX F ∧ rn ≤ 100000 ∧ ∀ h' n', zCS G h' n' x b t (rn + 302) o rm a tx gg rx M z XX F → zfrm x b h h' → n ≤ n' → K (some (.int (zQoc a tx gg rx w i))) h' n'
set_option maxRecDepth 100000 in
theorem tvX10_octet {G : zC} {as : List Value} {h : zH} {n : Nat} {K : zP} (hs : SX10_octet G as h n K) : (∃ b fs r, as = .ref b :: r ∧ h b = some (.inr (10, fs))) ∧ zCt G rX10_octet mX10_octet as h n K := by
  obtain ⟨x, b, t, rn, o, rm, a, tx, gg, rx, M, z, XX, F, w, i, rfl, hB, hC, hrn, hK⟩ := hs
  have hC0 := hC
  obtain ⟨b1, b2, b3, b4, b5, b6, b7, b8, btx, bM⟩ := hB
  obtain ⟨rO, tO, rM, tM, tr, kt, rt, Nt, c0, cO, cM, cb, cn, ck, pT, pO, pR, pU, pA, pB, pN, pS, pL, pE, pP, pW, pD⟩ := hC
  refine ⟨⟨_, _, _, rfl, c0⟩, zCt.of (by decide) (Nat.le_of_ble_eq_true rfl) ?_⟩
  have zw3 : zIn w 3 → w = 0 ∨ w = 1 ∨ w = 2 := fun p => by
    obtain ⟨j, rfl, hj⟩ := p.ex (by decide)
    have : j = 0 ∨ j = 1 ∨ j = 2 := by omega
    rcases this with rfl | rfl | rfl
    · exact Or.inl rfl
    · exact Or.inr (Or.inl rfl)
    · exact Or.inr (Or.inr rfl)
  refine z_iload_n dX10_octet_0 rfl ?_
  refine zcall1 (zck_S (R' := rX10_isRow) (M' := mX10_isRow) (fun _ _ _ _ => tX10_isRow) kX10_isRow lX10_136 (by decide +kernel) rfl) dX10_octet_1 (Nat.le_of_ble_eq_true rfl) (Nat.le_of_ble_eq_true rfl) (Nat.le_of_ble_eq_true rfl) ?_
  refine ⟨_, rfl, ?_⟩
  refine z_if_eq (t := 19) dX10_octet_4 (by decide) (fun q4 => ?_) (fun q4 => ?_)
  · rw [show zQoc a tx gg rx w i = -1 from (if_neg (fun p => zi10.mp q4 (by rw [p.1]; decide))).trans ((if_neg (fun p => zi10.mp q4 (by rw [p.1]; decide))).trans (if_neg (fun p => zi10.mp q4 (by rw [p.1]; decide))))] at hK
    refine z_iconst (w := -1) dX10_octet_19 (by decide) ?_
    refine z_ireturn dX10_octet_20 trivial (Nat.le_of_ble_eq_true rfl) (Nat.le_of_ble_eq_true rfl) ?_
    exact hK h n (hC0.mono (by omega)) (fun _ _ _ => rfl) (Nat.le_refl _)
  · refine z_aload_n dX10_octet_7 rfl ?_
    refine z_iload_n dX10_octet_8 rfl ?_
    refine zcall2 (zck_V (na := 1) (ci := 10) (R' := rX10_row) (M' := mX10_row) (fun _ _ _ _ => tvX10_row) (by decide) kX10_row lX10_139 (by decide +kernel) rfl) dX10_octet_9 (Nat.le_of_ble_eq_true rfl) (Nat.le_of_ble_eq_true rfl) (Nat.le_of_ble_eq_true rfl) ?_
    refine ⟨_, _, _, _, _, _, _, .null, .null, .null, _, _, _, _, _, _, _, _, _, _, _, _, _, _, _, rfl, c0, ?_⟩
    rcases zw3 (zi11.mp q4) with rfl | rfl | rfl
    · refine z_iload_n dX10_octet_12 rfl ?_
      refine zcall2 (zck_V (na := 1) (ci := 5) (R' := rX4_has) (M' := mX4_has) (fun _ _ _ _ => tvX4_has) (by decide) kX4_has lX10_129 (by decide +kernel) rfl) dX10_octet_13 (Nat.le_of_ble_eq_true rfl) (Nat.le_of_ble_eq_true rfl) (Nat.le_of_ble_eq_true rfl) ?_
      refine ⟨_, _, _, _, rfl, pT.1, ?_⟩
      rw [zhas_in]
      refine z_if_ne (t := 21) dX10_octet_16 (by decide) (fun q16 => ?_) (fun q16 => ?_)
      · refine z_aload_n dX10_octet_21 rfl ?_
        refine z_iload_n dX10_octet_22 rfl ?_
        refine zcall2 (zck_V (na := 1) (ci := 10) (R' := rX10_row) (M' := mX10_row) (fun _ _ _ _ => tvX10_row) (by decide) kX10_row lX10_139 (by decide +kernel) rfl) dX10_octet_23 (Nat.le_of_ble_eq_true rfl) (Nat.le_of_ble_eq_true rfl) (Nat.le_of_ble_eq_true rfl) ?_
        refine ⟨_, _, _, _, _, _, _, .null, .null, .null, _, _, _, _, _, _, _, _, _, _, _, _, _, _, _, rfl, c0, ?_⟩
        refine z_iload_n dX10_octet_26 rfl ?_
        refine zcall2 (zck_V (na := 1) (ci := 5) (R' := rX4_byteAt) (M' := mX4_byteAt) (fun _ _ _ _ => tvX4_byteAt) (by decide) kX4_byteAt lX10_132 (by decide +kernel) rfl) dX10_octet_27 (Nat.le_of_ble_eq_true rfl) (Nat.le_of_ble_eq_true rfl) (Nat.le_of_ble_eq_true rfl) ?_
        obtain ⟨f, rf1, rf2⟩ := (pT.2)
        refine ⟨_, _, _, _, f, _, rfl, pT.1, rf1, (by decide), ?_⟩
        refine z_ireturn dX10_octet_30 trivial (Nat.le_of_ble_eq_true rfl) (Nat.le_of_ble_eq_true rfl) ?_
        have hi := zIn.nat (zi11.mp q16) (show a 0 < 2147483648 by omega)
        rw [show zQoc a tx gg rx 0 i = nI (tx (zt i)) from if_pos ⟨rfl, zi11.mp q16⟩] at hK
        rw [hi.1, zat_in (show zt i < 300 by omega) (by decide)]
        rw [rf2 _ hi.2]
        exact hK h n (hC0.mono (by omega)) (fun _ _ _ => rfl) (Nat.le_refl _)
      · rw [show zQoc a tx gg rx 0 i = -1 from (if_neg (fun p => zi10.mp q16 p.2)).trans ((if_neg (fun p => absurd p.1 (by decide))).trans (if_neg (fun p => absurd p.1 (by decide))))] at hK
        refine z_iconst (w := -1) dX10_octet_19 (by decide) ?_
        refine z_ireturn dX10_octet_20 trivial (Nat.le_of_ble_eq_true rfl) (Nat.le_of_ble_eq_true rfl) ?_
        exact hK h n (hC0.mono (by omega)) (fun _ _ _ => rfl) (Nat.le_refl _)
    · refine z_iload_n dX10_octet_12 rfl ?_
      refine zcall2 (zck_V (na := 1) (ci := 5) (R' := rX4_has) (M' := mX4_has) (fun _ _ _ _ => tvX4_has) (by decide) kX4_has lX10_129 (by decide +kernel) rfl) dX10_octet_13 (Nat.le_of_ble_eq_true rfl) (Nat.le_of_ble_eq_true rfl) (Nat.le_of_ble_eq_true rfl) ?_
      refine ⟨_, _, _, _, rfl, pO.1, ?_⟩
      rw [zhas_in]
      refine z_if_ne (t := 21) dX10_octet_16 (by decide) (fun q16 => ?_) (fun q16 => ?_)
      · refine z_aload_n dX10_octet_21 rfl ?_
        refine z_iload_n dX10_octet_22 rfl ?_
        refine zcall2 (zck_V (na := 1) (ci := 10) (R' := rX10_row) (M' := mX10_row) (fun _ _ _ _ => tvX10_row) (by decide) kX10_row lX10_139 (by decide +kernel) rfl) dX10_octet_23 (Nat.le_of_ble_eq_true rfl) (Nat.le_of_ble_eq_true rfl) (Nat.le_of_ble_eq_true rfl) ?_
        refine ⟨_, _, _, _, _, _, _, .null, .null, .null, _, _, _, _, _, _, _, _, _, _, _, _, _, _, _, rfl, c0, ?_⟩
        refine z_iload_n dX10_octet_26 rfl ?_
        refine zcall2 (zck_V (na := 1) (ci := 5) (R' := rX4_byteAt) (M' := mX4_byteAt) (fun _ _ _ _ => tvX4_byteAt) (by decide) kX4_byteAt lX10_132 (by decide +kernel) rfl) dX10_octet_27 (Nat.le_of_ble_eq_true rfl) (Nat.le_of_ble_eq_true rfl) (Nat.le_of_ble_eq_true rfl) ?_
        refine ⟨_, _, _, _, gg, _, rfl, pO.1, pO.2, (by decide), ?_⟩
        refine z_ireturn dX10_octet_30 trivial (Nat.le_of_ble_eq_true rfl) (Nat.le_of_ble_eq_true rfl) ?_
        have hi := zIn.nat (zi11.mp q16) (show a 1 < 2147483648 by omega)
        rw [show zQoc a tx gg rx 1 i = gg (zt i) from (if_neg (fun p => absurd p.1 (by decide))).trans (if_pos ⟨rfl, zi11.mp q16⟩)] at hK
        rw [hi.1, zat_in (show zt i < 2484 by omega) (by decide)]
        exact hK h n (hC0.mono (by omega)) (fun _ _ _ => rfl) (Nat.le_refl _)
      · rw [show zQoc a tx gg rx 1 i = -1 from (if_neg (fun p => absurd p.1 (by decide))).trans ((if_neg (fun p => zi10.mp q16 p.2)).trans (if_neg (fun p => absurd p.1 (by decide))))] at hK
        refine z_iconst (w := -1) dX10_octet_19 (by decide) ?_
        refine z_ireturn dX10_octet_20 trivial (Nat.le_of_ble_eq_true rfl) (Nat.le_of_ble_eq_true rfl) ?_
        exact hK h n (hC0.mono (by omega)) (fun _ _ _ => rfl) (Nat.le_refl _)
    · refine z_iload_n dX10_octet_12 rfl ?_
      refine zcall2 (zck_V (na := 1) (ci := 5) (R' := rX4_has) (M' := mX4_has) (fun _ _ _ _ => tvX4_has) (by decide) kX4_has lX10_129 (by decide +kernel) rfl) dX10_octet_13 (Nat.le_of_ble_eq_true rfl) (Nat.le_of_ble_eq_true rfl) (Nat.le_of_ble_eq_true rfl) ?_
      refine ⟨_, _, _, _, rfl, pR.1, ?_⟩
      rw [zhas_in]
      refine z_if_ne (t := 21) dX10_octet_16 (by decide) (fun q16 => ?_) (fun q16 => ?_)
      · refine z_aload_n dX10_octet_21 rfl ?_
        refine z_iload_n dX10_octet_22 rfl ?_
        refine zcall2 (zck_V (na := 1) (ci := 10) (R' := rX10_row) (M' := mX10_row) (fun _ _ _ _ => tvX10_row) (by decide) kX10_row lX10_139 (by decide +kernel) rfl) dX10_octet_23 (Nat.le_of_ble_eq_true rfl) (Nat.le_of_ble_eq_true rfl) (Nat.le_of_ble_eq_true rfl) ?_
        refine ⟨_, _, _, _, _, _, _, .null, .null, .null, _, _, _, _, _, _, _, _, _, _, _, _, _, _, _, rfl, c0, ?_⟩
        refine z_iload_n dX10_octet_26 rfl ?_
        refine zcall2 (zck_V (na := 1) (ci := 5) (R' := rX4_byteAt) (M' := mX4_byteAt) (fun _ _ _ _ => tvX4_byteAt) (by decide) kX4_byteAt lX10_132 (by decide +kernel) rfl) dX10_octet_27 (Nat.le_of_ble_eq_true rfl) (Nat.le_of_ble_eq_true rfl) (Nat.le_of_ble_eq_true rfl) ?_
        obtain ⟨f, rf1, rf2⟩ := (pR.2)
        refine ⟨_, _, _, _, f, _, rfl, pR.1, rf1, (by decide), ?_⟩
        refine z_ireturn dX10_octet_30 trivial (Nat.le_of_ble_eq_true rfl) (Nat.le_of_ble_eq_true rfl) ?_
        have hi := zIn.nat (zi11.mp q16) (show a 2 < 2147483648 by omega)
        rw [show zQoc a tx gg rx 2 i = nI (rx (zt i)) from (if_neg (fun p => absurd p.1 (by decide))).trans ((if_neg (fun p => absurd p.1 (by decide))).trans (if_pos ⟨rfl, zi11.mp q16⟩))] at hK
        rw [hi.1, zat_in (show zt i < 300 by omega) (by decide)]
        rw [rf2 _ hi.2]
        exact hK h n (hC0.mono (by omega)) (fun _ _ _ => rfl) (Nat.le_refl _)
      · rw [show zQoc a tx gg rx 2 i = -1 from (if_neg (fun p => absurd p.1 (by decide))).trans ((if_neg (fun p => absurd p.1 (by decide))).trans (if_neg (fun p => zi10.mp q16 p.2)))] at hK
        refine z_iconst (w := -1) dX10_octet_19 (by decide) ?_
        refine z_ireturn dX10_octet_20 trivial (Nat.le_of_ble_eq_true rfl) (Nat.le_of_ble_eq_true rfl) ?_
        exact hK h n (hC0.mono (by omega)) (fun _ _ _ => rfl) (Nat.le_refl _)
abbrev rX10_alter : Room := ⟨2, 0, 0, 80⟩
def SX10_alter (G : zC) : zS := fun as h n K => ∃ (x b t rn : Nat) (o rm : Nat) (a tx : Nat → Nat) (gg : Nat → Int32) (rx : Nat → Nat) (M : Nat → zMs) (z : Nat → Int32) (XX : Nat → Nat) (F : Nat → Option Nat) (i bb : Int32), as = [.ref x, .int i, .int bb] ∧ zOkS o rm a tx M ∧ zCS G h n x b t rn o rm a tx gg rx M z XX F ∧ rn ≤ 100000 ∧ ∀ h' n', zCS G h' n' x b t (rn + 302) o rm a tx (zAlt i bb a gg).1 rx M z XX F → zfrm x b h h' → n ≤ n' → K (some (.int (zAlt i bb a gg).2)) h' n'
set_option maxRecDepth 100000 in
theorem tvX10_alter {G : zC} {as : List Value} {h : zH} {n : Nat} {K : zP} (hs : SX10_alter G as h n K) : (∃ b fs r, as = .ref b :: r ∧ h b = some (.inr (10, fs))) ∧ zCt G rX10_alter mX10_alter as h n K := by
  obtain ⟨x, b, t, rn, o, rm, a, tx, gg, rx, M, z, XX, F, i, bb, rfl, hB, hC, hrn, hK⟩ := hs
  have hC0 := hC
  obtain ⟨b1, b2, b3, b4, b5, b6, b7, b8, btx, bM⟩ := hB
  obtain ⟨rO, tO, rM, tM, tr, kt, rt, Nt, c0, cO, cM, cb, cn, ck, pT, pO, pR, pU, pA, pB, pN, pS, pL, pE, pP, pW, pD⟩ := hC
  refine ⟨⟨_, _, _, rfl, c0⟩, zCt.of (by decide) (Nat.le_of_ble_eq_true rfl) ?_⟩
  refine z_aload_n dX10_alter_0 rfl ?_
  refine z_getfield dX10_alter_1 fX10_18_10 rfl c0 rfl ?_
  refine z_iload_n dX10_alter_4 rfl ?_
  refine zcall2 (zck_V (na := 1) (ci := 5) (R' := rX4_has) (M' := mX4_has) (fun _ _ _ _ => tvX4_has) (by decide) kX4_has lX10_129 (by decide +kernel) rfl) dX10_alter_5 (Nat.le_of_ble_eq_true rfl) (Nat.le_of_ble_eq_true rfl) (Nat.le_of_ble_eq_true rfl) ?_
  refine ⟨_, _, _, _, rfl, pO.1, ?_⟩
  rw [zhas_in]
  refine z_if_eq (t := 18) dX10_alter_8 (by decide) (fun q8 => ?_) (fun q8 => ?_)
  · refine z_iconst (w := -1) dX10_alter_18 (by decide) ?_
    refine z_ireturn dX10_alter_19 trivial (Nat.le_of_ble_eq_true rfl) (Nat.le_of_ble_eq_true rfl) ?_
    rw [show zAlt i bb a gg = (gg, -1) from if_neg (fun p => by first | exact zi10.mp q8 p.1 | exact zi10.mp q15 p.2)] at hK
    exact hK h n (hC0.mono (by omega)) (fun _ _ _ => rfl) (Nat.le_refl _)
  · refine z_iload_n dX10_alter_11 rfl ?_
    refine zcall1 (zck_S (R' := rX10_isByte) (M' := mX10_isByte) (fun _ _ _ _ => tX10_isByte) kX10_isByte lX10_114 (by decide +kernel) rfl) dX10_alter_12 (Nat.le_of_ble_eq_true rfl) (Nat.le_of_ble_eq_true rfl) (Nat.le_of_ble_eq_true rfl) ?_
    refine ⟨_, rfl, ?_⟩
    refine z_if_ne (t := 20) dX10_alter_15 (by decide) (fun q15 => ?_) (fun q15 => ?_)
    · refine z_aload_n dX10_alter_20 rfl ?_
      refine z_getfield dX10_alter_21 fX10_18_10 rfl c0 rfl ?_
      refine z_iload_n dX10_alter_24 rfl ?_
      refine zcall2 (zck_V (na := 1) (ci := 5) (R' := rX4_byteAt) (M' := mX4_byteAt) (fun _ _ _ _ => tvX4_byteAt) (by decide) kX4_byteAt lX10_132 (by decide +kernel) rfl) dX10_alter_25 (Nat.le_of_ble_eq_true rfl) (Nat.le_of_ble_eq_true rfl) (Nat.le_of_ble_eq_true rfl) ?_
      refine ⟨_, _, _, _, gg, _, rfl, pO.1, pO.2, (by decide), ?_⟩
      have hi := zIn.nat (zi11.mp q8) (show a 1 < 2147483648 by omega)
      refine z_istore_n dX10_alter_28 (Nat.le_of_ble_eq_true rfl) ?_
      refine z_aload_n dX10_alter_29 rfl ?_
      refine z_getfield dX10_alter_30 fX10_18_10 rfl c0 rfl ?_
      refine z_iload_n dX10_alter_33 rfl ?_
      refine z_iload_n dX10_alter_34 rfl ?_
      refine zcall3 (zck_V (na := 2) (ci := 5) (R' := rX4_change) (M' := mX4_change) (fun _ _ _ _ => tvX4_change) (by decide) kX4_change lX10_143 (by decide +kernel) rfl) dX10_alter_35 (Nat.le_of_ble_eq_true rfl) (Nat.le_of_ble_eq_true rfl) (Nat.le_of_ble_eq_true rfl) ?_
      refine ⟨_, _, _, _, gg, _, _, rfl, pO.1, pO.2, (by decide), fun h1 g1 g2 => ?_⟩
      have hE : ∀ q, ¬ q = x + 4 → h1 q = h q := fun q hq => g2 q hq
      refine z_iload_n dX10_alter_38 rfl ?_
      refine z_ireturn dX10_alter_39 trivial (Nat.le_of_ble_eq_true rfl) (Nat.le_of_ble_eq_true rfl) ?_
      rw [show zAlt i bb a gg = (va_up gg (zt i) bb, gg (zt i)) from if_pos ⟨zi11.mp q8, zi11.mp q15⟩] at hK
      dsimp only at hK
      have e1 : zat 2484 gg i = gg (zt i) := by
        have w := zat_in (g := gg) (show zt i < 2484 by omega) (by decide)
        rw [← hi.1] at w
        exact w
      have e2 : zpt 2484 gg i bb = va_up gg (zt i) bb := by
        have w := zpt_in (g := gg) (x := bb) (show zt i < 2484 by omega) (by decide)
        rw [← hi.1] at w
        exact w
      rw [e1]
      rw [e2] at g1
      exact hK h1 n ⟨rO, tO, rM, tM, tr, kt, rt, Nt, ((hE _ (by omega)).trans c0), cO, cM, cb, cn, ck, (pT.cg (hE _ (by omega)) (hE _ (by omega))), ⟨(hE _ (by omega)).trans pO.1, g1⟩, (pR.cg (hE _ (by omega)) (hE _ (by omega))), (pU.cg (hE _ (by omega)) (hE _ (by omega))), (zpM.cg pA (fun q z1 z2 => hE q (by omega))), (zpM.cg pB (fun q z1 z2 => hE q (by omega))), (zpM.cg pN (fun q z1 z2 => hE q (by omega))), (pS.cg (hE _ (by omega)) (fun q z1 => hE q (by omega)) (Nat.le_refl _)), (pL.cg (fun q z1 z2 => hE q (by omega)) (by omega)), (pE.cg (hE _ (by omega))), (pP.cg (fun q z1 z2 => hE q (by omega))), (pW.cg (hE _ (by omega))), (pD.cg (fun q z1 z2 => hE q (by omega)))⟩ (fun q z1 z2 => hE q (by omega)) (Nat.le_refl _)
    · refine z_iconst (w := -1) dX10_alter_18 (by decide) ?_
      refine z_ireturn dX10_alter_19 trivial (Nat.le_of_ble_eq_true rfl) (Nat.le_of_ble_eq_true rfl) ?_
      rw [show zAlt i bb a gg = (gg, -1) from if_neg (fun p => by first | exact zi10.mp q8 p.1 | exact zi10.mp q15 p.2)] at hK
      exact hK h n (hC0.mono (by omega)) (fun _ _ _ => rfl) (Nat.le_refl _)
abbrev rX10_cut : Room := ⟨1, 0, 0, 40⟩
def SX10_cut (G : zC) : zS := fun as h n K => ∃ (x b t rn : Nat) (o rm : Nat) (a tx : Nat → Nat) (gg : Nat → Int32) (rx : Nat → Nat) (M : Nat → zMs) (z : Nat → Int32) (XX : Nat → Nat) (F : Nat → Option Nat) (y : Int32), as = [.ref x, .int y] ∧ zOkS o rm a tx M ∧ zCS G h n x b t rn o rm a tx gg rx M z XX F ∧ rn ≤ 100000 ∧ ∀ h' n', zCS G h' n' x b t (rn + 302) o rm (zCut y a).1 tx gg rx M z XX F → zfrm x b h h' → n ≤ n' → K (some (.int (zCut y a).2)) h' n'
set_option maxRecDepth 100000 in
theorem tvX10_cut {G : zC} {as : List Value} {h : zH} {n : Nat} {K : zP} (hs : SX10_cut G as h n K) : (∃ b fs r, as = .ref b :: r ∧ h b = some (.inr (10, fs))) ∧ zCt G rX10_cut mX10_cut as h n K := by
  obtain ⟨x, b, t, rn, o, rm, a, tx, gg, rx, M, z, XX, F, y, rfl, hB, hC, hrn, hK⟩ := hs
  have hC0 := hC
  obtain ⟨b1, b2, b3, b4, b5, b6, b7, b8, btx, bM⟩ := hB
  obtain ⟨rO, tO, rM, tM, tr, kt, rt, Nt, c0, cO, cM, cb, cn, ck, pT, pO, pR, pU, pA, pB, pN, pS, pL, pE, pP, pW, pD⟩ := hC
  refine ⟨⟨_, _, _, rfl, c0⟩, zCt.of (by decide) (Nat.le_of_ble_eq_true rfl) ?_⟩
  refine z_aload_n dX10_cut_0 rfl ?_
  refine z_getfield dX10_cut_1 fX10_18_10 rfl c0 rfl ?_
  refine zcall1 (zck_V (na := 0) (ci := 5) (R' := rX4_many) (M' := mX4_many) (fun _ _ _ _ => tvX4_many) (by decide) kX4_many lX10_107 (by decide +kernel) rfl) dX10_cut_4 (Nat.le_of_ble_eq_true rfl) (Nat.le_of_ble_eq_true rfl) (Nat.le_of_ble_eq_true rfl) ?_
  refine ⟨_, _, _, rfl, pO.1, ?_⟩
  refine z_istore_n dX10_cut_7 (Nat.le_of_ble_eq_true rfl) ?_
  refine z_iload_n dX10_cut_8 rfl ?_
  refine z_if_lt (t := 17) dX10_cut_9 (by decide) (fun q9 => ?_) (fun q9 => ?_)
  · rw [show zCut y a = (a, -1) from if_neg (fun p => absurd q9 (Int32.not_lt.mpr p.1))] at hK
    refine z_iconst (w := -1) dX10_cut_17 (by decide) ?_
    refine z_ireturn dX10_cut_18 trivial (Nat.le_of_ble_eq_true rfl) (Nat.le_of_ble_eq_true rfl) ?_
    exact hK h n (hC0.mono (by omega)) (fun _ _ _ => rfl) (Nat.le_refl _)
  · refine z_iload_n dX10_cut_12 rfl ?_
    refine z_iload_n dX10_cut_13 rfl ?_
    refine z_icmp_le (t := 19) dX10_cut_14 (by decide) (fun q14 => ?_) (fun q14 => ?_)
    · have hin : zIn y (a 1 + 1) := (zin_le (by omega)).mp ⟨Int32.not_lt.mp q9, q14⟩
      refine z_aload_n dX10_cut_19 rfl ?_
      refine z_getfield dX10_cut_20 fX10_18_10 rfl c0 rfl ?_
      refine z_iload_n dX10_cut_23 rfl ?_
      refine zcall2 (zck_V (na := 1) (ci := 5) (R' := rX4_keepFirst) (M' := mX4_keepFirst) (fun _ _ _ _ => tvX4_keepFirst) (by decide) kX4_keepFirst lX10_111 (by decide +kernel) rfl) dX10_cut_24 (Nat.le_of_ble_eq_true rfl) (Nat.le_of_ble_eq_true rfl) (Nat.le_of_ble_eq_true rfl) ?_
      refine ⟨_, _, _, _, rfl, pO.1, fun h1 g1 g2 => ?_⟩
      have hE : ∀ q, ¬ q = x + 3 → h1 q = h q := fun q hq => g2 q hq
      refine z_iload_n dX10_cut_27 rfl ?_
      refine z_iload_n dX10_cut_28 rfl ?_
      refine z_isub dX10_cut_29 ?_
      refine z_ireturn dX10_cut_30 trivial (Nat.le_of_ble_eq_true rfl) (Nat.le_of_ble_eq_true rfl) ?_
      have hi := zIn.nat hin (show a 1 + 1 < 2147483648 by omega)
      rw [show zCut y a = (va_up a 1 (zt y), nI (a 1 - zt y)) from if_pos hin, show nI (a 1 - zt y) = nI (a 1) - y by rw [← zn_sub (by omega), ← hi.1]] at hK
      dsimp only at hK
      exact hK h1 n ⟨rO, tO, rM, tM, tr, kt, rt, Nt, ((hE _ (by omega)).trans c0), cO, cM, cb, cn, ck, (pT.cg (hE _ (by omega)) (hE _ (by omega))), ⟨by show h1 (x + 3) = some (zO 5 [.ref (x + 4), .int (nI (zt y))]); rw [← hi.1]; exact g1, (hE _ (by omega)).trans pO.2⟩, (pR.cg (hE _ (by omega)) (hE _ (by omega))), (pU.cg (hE _ (by omega)) (hE _ (by omega))), (zpM.cg pA (fun q z1 z2 => hE q (by omega))), (zpM.cg pB (fun q z1 z2 => hE q (by omega))), (zpM.cg pN (fun q z1 z2 => hE q (by omega))), (pS.cg (hE _ (by omega)) (fun q z1 => hE q (by omega)) (Nat.le_refl _)), (pL.cg (fun q z1 z2 => hE q (by omega)) (by omega)), (pE.cg (hE _ (by omega))), (pP.cg (fun q z1 z2 => hE q (by omega))), (pW.cg (hE _ (by omega))), (pD.cg (fun q z1 z2 => hE q (by omega)))⟩ (fun q z1 z2 => hE q (by omega)) (Nat.le_refl _)
    · rw [show zCut y a = (a, -1) from if_neg (fun p => q14 ((zin_le (by omega)).mpr p).2)] at hK
      refine z_iconst (w := -1) dX10_cut_17 (by decide) ?_
      refine z_ireturn dX10_cut_18 trivial (Nat.le_of_ble_eq_true rfl) (Nat.le_of_ble_eq_true rfl) ?_
      exact hK h n (hC0.mono (by omega)) (fun _ _ _ => rfl) (Nat.le_refl _)
abbrev rX10_place : Room := ⟨0, 0, 0, 0⟩
def SX10_place (G : zC) : zS := fun as h n K => ∃ (x b t rn : Nat) (o rm : Nat) (a tx : Nat → Nat) (gg : Nat → Int32) (rx : Nat → Nat) (M : Nat → zMs) (z : Nat → Int32) (XX : Nat → Nat) (F : Nat → Option Nat), as = [.ref x] ∧ zOkS o rm a tx M ∧ zCS G h n x b t rn o rm a tx gg rx M z XX F ∧ rn ≤ 100000 ∧ ∀ h' n', zCS G h' n' x b t (rn + 302) o rm a tx gg rx M z XX F → zfrm x b h h' → n ≤ n' → K (some (.int (z 2))) h' n'
set_option maxRecDepth 100000 in
theorem tvX10_place {G : zC} {as : List Value} {h : zH} {n : Nat} {K : zP} (hs : SX10_place G as h n K) : (∃ b fs r, as = .ref b :: r ∧ h b = some (.inr (10, fs))) ∧ zCt G rX10_place mX10_place as h n K := by
  obtain ⟨x, b, t, rn, o, rm, a, tx, gg, rx, M, z, XX, F, rfl, hB, hC, hrn, hK⟩ := hs
  have hC0 := hC
  obtain ⟨b1, b2, b3, b4, b5, b6, b7, b8, btx, bM⟩ := hB
  obtain ⟨rO, tO, rM, tM, tr, kt, rt, Nt, c0, cO, cM, cb, cn, ck, pT, pO, pR, pU, pA, pB, pN, pS, pL, pE, pP, pW, pD⟩ := hC
  refine ⟨⟨_, _, _, rfl, c0⟩, zCt.of (by decide) (Nat.le_of_ble_eq_true rfl) ?_⟩
  refine z_aload_n dX10_place_0 rfl ?_
  refine z_getfield dX10_place_1 fX10_55_10 rfl c0 rfl ?_
  refine z_ireturn dX10_place_4 trivial (Nat.le_of_ble_eq_true rfl) (Nat.le_of_ble_eq_true rfl) ?_
  exact hK h n (hC0.mono (by omega)) (fun _ _ _ => rfl) (Nat.le_refl _)
abbrev rX10_forget : Room := ⟨0, 0, 0, 0⟩
def SX10_forget (G : zC) : zS := fun as h n K => ∃ (x b t rn : Nat) (o rm : Nat) (a tx : Nat → Nat) (gg : Nat → Int32) (rx : Nat → Nat) (M : Nat → zMs) (z : Nat → Int32) (XX : Nat → Nat) (F : Nat → Option Nat), as = [.ref x] ∧ zOkS o rm a tx M ∧ zCS G h n x b t rn o rm a tx gg rx M z XX F ∧ rn ≤ 100000 ∧ ∀ h' n', zCS G h' n' x b t (rn + 302) o rm (va_up a 3 0) tx gg rx M z XX F → zfrm x b h h' → n ≤ n' → K (some (.int (nI (a 3)))) h' n'
set_option maxRecDepth 100000 in
theorem tvX10_forget {G : zC} {as : List Value} {h : zH} {n : Nat} {K : zP} (hs : SX10_forget G as h n K) : (∃ b fs r, as = .ref b :: r ∧ h b = some (.inr (10, fs))) ∧ zCt G rX10_forget mX10_forget as h n K := by
  obtain ⟨x, b, t, rn, o, rm, a, tx, gg, rx, M, z, XX, F, rfl, hB, hC, hrn, hK⟩ := hs
  have hC0 := hC
  obtain ⟨b1, b2, b3, b4, b5, b6, b7, b8, btx, bM⟩ := hB
  obtain ⟨rO, tO, rM, tM, tr, kt, rt, Nt, c0, cO, cM, cb, cn, ck, pT, pO, pR, pU, pA, pB, pN, pS, pL, pE, pP, pW, pD⟩ := hC
  refine ⟨⟨_, _, _, rfl, c0⟩, zCt.of (by decide) (Nat.le_of_ble_eq_true rfl) ?_⟩
  refine z_aload_n dX10_forget_0 rfl ?_
  refine z_getfield dX10_forget_1 fX10_266_10 rfl c0 rfl ?_
  refine z_istore_n dX10_forget_4 (Nat.le_of_ble_eq_true rfl) ?_
  refine z_aload_n dX10_forget_5 rfl ?_
  refine z_iconst (w := 0) dX10_forget_6 (by decide) ?_
  refine z_putfield dX10_forget_7 fX10_266_10 rfl (fun q => absurd q (by decide)) c0 (Nat.le_of_ble_eq_true rfl) (Or.inl ⟨rfl, _, rfl⟩) ?_
  refine z_iload_n dX10_forget_10 rfl ?_
  refine z_ireturn dX10_forget_11 trivial (Nat.le_of_ble_eq_true rfl) (Nat.le_of_ble_eq_true rfl) ?_
  have hE : ∀ q, ¬ q = x → va_up h x (some (zO 10 (zobj x o rm 0 z rO tO rM tM tr))) q = h q := fun q hq => zup_ne hq
  exact hK _ n ⟨rO, tO, rM, tM, tr, kt, rt, Nt, zget_eq, cO, cM, cb, cn, ck, (pT.cg (hE _ (by omega)) (hE _ (by omega))), (pO.cg (hE _ (by omega)) (hE _ (by omega))), (pR.cg (hE _ (by omega)) (hE _ (by omega))), (pU.cg (hE _ (by omega)) (hE _ (by omega))), (zpM.cg pA (fun q z1 z2 => hE q (by omega))), (zpM.cg pB (fun q z1 z2 => hE q (by omega))), (zpM.cg pN (fun q z1 z2 => hE q (by omega))), (by
    have p9 := pS.cg (h' := va_up h x (some (zO 10 (zobj x o rm 0 z rO tO rM tM tr)))) (hE _ (by omega)) (fun q z1 => hE q (by omega)) (Nat.le_refl _)
    obtain ⟨mc, e, k, f, sm, N, s1, s2, s3, s4, s5, s6, s7, s8⟩ := p9
    exact ⟨mc, e, k, f, sm, N, s1, Nat.zero_le _, s3, s4, s5, fun i hi => absurd hi (Nat.not_lt_zero _), s7, s8⟩), (pL.cg (fun q z1 z2 => hE q (by omega)) (by omega)), (pE.cg (hE _ (by omega))), (pP.cg (fun q z1 z2 => hE q (by omega))), (pW.cg (hE _ (by omega))), (pD.cg (fun q z1 z2 => hE q (by omega)))⟩ (fun q z1 z2 => hE q (by omega)) (Nat.le_refl _)
abbrev rX10_restarted : Room := ⟨1, 0, 0, 40⟩
def SX10_restarted (G : zC) : zS := fun as h n K => ∃ (x b t rn : Nat) (o rm : Nat) (a tx : Nat → Nat) (gg : Nat → Int32) (rx : Nat → Nat) (M : Nat → zMs) (z : Nat → Int32) (XX : Nat → Nat) (F : Nat → Option Nat) (e : Int32), as = [.ref x, .int e] ∧ zOkS o rm a tx M ∧ zCS G h n x b t rn o rm a tx gg rx M z XX F ∧ rn ≤ 100000 ∧ ∀ h' n', zCS G h' n' x b t (rn + 302) o rm a tx gg rx M z XX F → zfrm x b h h' → n ≤ n' → K (some (.int (zQre z e))) h' n'
set_option maxRecDepth 100000 in
theorem tvX10_restarted {G : zC} {as : List Value} {h : zH} {n : Nat} {K : zP} (hs : SX10_restarted G as h n K) : (∃ b fs r, as = .ref b :: r ∧ h b = some (.inr (10, fs))) ∧ zCt G rX10_restarted mX10_restarted as h n K := by
  obtain ⟨x, b, t, rn, o, rm, a, tx, gg, rx, M, z, XX, F, e, rfl, hB, hC, hrn, hK⟩ := hs
  have hC0 := hC
  obtain ⟨b1, b2, b3, b4, b5, b6, b7, b8, btx, bM⟩ := hB
  obtain ⟨rO, tO, rM, tM, tr, kt, rt, Nt, c0, cO, cM, cb, cn, ck, pT, pO, pR, pU, pA, pB, pN, pS, pL, pE, pP, pW, pD⟩ := hC
  refine ⟨⟨_, _, _, rfl, c0⟩, zCt.of (by decide) (Nat.le_of_ble_eq_true rfl) ?_⟩
  refine z_iload_n dX10_restarted_0 rfl ?_
  refine zcall1 (zck_S (R' := rX10_isEnd) (M' := mX10_isEnd) (fun _ _ _ _ => tX10_isEnd) kX10_isEnd lX10_226 (by decide +kernel) rfl) dX10_restarted_1 (Nat.le_of_ble_eq_true rfl) (Nat.le_of_ble_eq_true rfl) (Nat.le_of_ble_eq_true rfl) ?_
  refine ⟨_, rfl, ?_⟩
  refine z_if_ne (t := 9) dX10_restarted_4 (by decide) (fun q4 => ?_) (fun q4 => ?_)
  · refine z_iload_n dX10_restarted_9 rfl ?_
    refine z_if_ne (t := 20) dX10_restarted_10 (by decide) (fun q10 => ?_) (fun q10 => ?_)
    · have e1 : e = 1 := (zin2.mp (zi11.mp q4)).resolve_left q10
      rw [show zQre z e = z 1 by unfold zQre; rw [if_pos (zi11.mp q4), e1]; rfl] at hK
      refine z_aload_n dX10_restarted_20 rfl ?_
      refine z_getfield dX10_restarted_21 fX10_210_10 rfl c0 rfl ?_
      refine z_ireturn dX10_restarted_24 trivial (Nat.le_of_ble_eq_true rfl) (Nat.le_of_ble_eq_true rfl) ?_
      exact hK h n (hC0.mono (by omega)) (fun _ _ _ => rfl) (Nat.le_refl _)
    · rw [show zQre z e = z 0 by unfold zQre; rw [if_pos (zi11.mp q4), q10]; rfl] at hK
      refine z_aload_n dX10_restarted_13 rfl ?_
      refine z_getfield dX10_restarted_14 fX10_172_10 rfl c0 rfl ?_
      refine z_goto (t := 24) dX10_restarted_17 (by decide) ?_
      refine z_ireturn dX10_restarted_24 trivial (Nat.le_of_ble_eq_true rfl) (Nat.le_of_ble_eq_true rfl) ?_
      exact hK h n (hC0.mono (by omega)) (fun _ _ _ => rfl) (Nat.le_refl _)
  · refine z_iconst (w := -1) dX10_restarted_7 (by decide) ?_
    refine z_ireturn dX10_restarted_8 trivial (Nat.le_of_ble_eq_true rfl) (Nat.le_of_ble_eq_true rfl) ?_
    rw [show zQre z e = -1 from if_neg (zi10.mp q4)] at hK
    exact hK h n (hC0.mono (by omega)) (fun _ _ _ => rfl) (Nat.le_refl _)
theorem z_lookup {X : zX} {pc : Nat} {lv : List (Nat × Value)} {st : List Value} {h : zH} {n c s : Nat} {dflt : Int} {ps : Array (Int × Int)} {len : Nat} {x : Int32} {off : Int} {t : Nat} (hd : decode (zxM X).2.1 pc = .ok (.lookupswitch dflt ps, len)) (hp : (ps.toList.zip (ps.toList.drop 1)).all (fun (a, next) => a.1 < next.1) = true) (ho : Op.lookupswitch.offset ps.toList dflt x.toInt = off) (ht : (pc : Int) + off = (t : Int)) (k : zZ X t lv st h n c s) : zZ X pc lv (.int x :: st) h n c s :=
  fun p e s0 m below meth c0 H locs ls hF h1 h2 h3 h4 h5 h6 => lv_lookup hF.1 hF.2.1 hd hp ho ht (k p e s0 m below meth c0 H locs ls hF h1 h2 h3 h4 h5 h6)
theorem z_tableIn {X : zX} {pc : Nat} {lv : List (Nat × Value)} {st : List Value} {h : zH} {n c s : Nat} {dflt lo hi : Int} {offs : Array Int} {len : Nat} {x : Int32} {off : Int} {t : Nat} (hd : decode (zxM X).2.1 pc = .ok (.tableswitch dflt lo hi offs, len)) (g1 : ¬ x.toInt < lo) (g2 : ¬ hi < x.toInt) (ho : offs[(x.toInt - lo).toNat]? = some off) (ht : (pc : Int) + off = (t : Int)) (k : zZ X t lv st h n c s) : zZ X pc lv (.int x :: st) h n c s :=
  fun p e s0 m below meth c0 H locs ls hF h1 h2 h3 h4 h5 h6 => lv_tableIn hF.1 hF.2.1 hd g1 g2 ho ht (k p e s0 m below meth c0 H locs ls hF h1 h2 h3 h4 h5 h6)
theorem z_tableOut {X : zX} {pc : Nat} {lv : List (Nat × Value)} {st : List Value} {h : zH} {n c s : Nat} {dflt lo hi : Int} {offs : Array Int} {len : Nat} {x : Int32} {t : Nat} (hd : decode (zxM X).2.1 pc = .ok (.tableswitch dflt lo hi offs, len)) (g1 : x.toInt < lo ∨ hi < x.toInt) (ht : (pc : Int) + dflt = (t : Int)) (k : zZ X t lv st h n c s) : zZ X pc lv (.int x :: st) h n c s :=
  fun p e s0 m below meth c0 H locs ls hF h1 h2 h3 h4 h5 h6 => lv_tableOut hF.1 hF.2.1 hd g1 ht (k p e s0 m below meth c0 H locs ls hF h1 h2 h3 h4 h5 h6)
abbrev rX10_told : Room := ⟨1, 0, 0, 40⟩
def SX10_told (G : zC) : zS := fun as h n K => ∃ (x b t rn : Nat) (o rm : Nat) (a tx : Nat → Nat) (gg : Nat → Int32) (rx : Nat → Nat) (M : Nat → zMs) (z : Nat → Int32) (XX : Nat → Nat) (F : Nat → Option Nat) (w : Int32), as = [.ref x, .int w] ∧ zOkS o rm a tx M ∧ zCS G h n x b t rn o rm a tx gg rx M z XX F ∧ rn ≤ 100000 ∧ ∀ h' n', zCS G h' n' x b t (rn + 302) o rm a tx gg rx M z XX F → zfrm x b h h' → n ≤ n' → K (some (.int (zQto a z w))) h' n'
set_option maxRecDepth 100000 in
theorem tvX10_told {G : zC} {as : List Value} {h : zH} {n : Nat} {K : zP} (hs : SX10_told G as h n K) : (∃ b fs r, as = .ref b :: r ∧ h b = some (.inr (10, fs))) ∧ zCt G rX10_told mX10_told as h n K := by
  obtain ⟨x, b, t, rn, o, rm, a, tx, gg, rx, M, z, XX, F, w, rfl, hB, hC, hrn, hK⟩ := hs
  have hC0 := hC
  obtain ⟨b1, b2, b3, b4, b5, b6, b7, b8, btx, bM⟩ := hB
  obtain ⟨rO, tO, rM, tM, tr, kt, rt, Nt, c0, cO, cM, cb, cn, ck, pT, pO, pR, pU, pA, pB, pN, pS, pL, pE, pP, pW, pD⟩ := hC
  refine ⟨⟨_, _, _, rfl, c0⟩, zCt.of (by decide) (Nat.le_of_ble_eq_true rfl) ?_⟩
  have pP0 := pP
  obtain ⟨fe, fc, bi, es9, rs9, p1, p2, p3, p4, p5⟩ := pP
  refine z_iload_n dX10_told_0 rfl ?_
  refine z_if_lt (t := 9) dX10_told_1 (by decide) (fun q1 => ?_) (fun q1 => ?_)
  · rw [show zQto a z w = -1 from if_pos (fun p => absurd q1 (Int32.not_lt.mpr p.1))] at hK
    refine z_iconst (w := -1) dX10_told_9 (by decide) ?_
    refine z_ireturn dX10_told_10 trivial (Nat.le_of_ble_eq_true rfl) (Nat.le_of_ble_eq_true rfl) ?_
    exact hK h n (hC0.mono (by omega)) (fun _ _ _ => rfl) (Nat.le_refl _)
  · refine z_iload_n dX10_told_4 rfl ?_
    refine z_iconst (w := 2) dX10_told_5 (by decide) ?_
    refine z_icmp_le (t := 11) dX10_told_6 (by decide) (fun q6 => ?_) (fun q6 => ?_)
    · have hin : zIn w 3 := (zin_le (u := 2) (by decide)).mp ⟨Int32.not_lt.mp q1, q6⟩
      refine z_aload_n dX10_told_11 rfl ?_
      refine z_getfield dX10_told_12 fX10_51_10 rfl c0 rfl ?_
      refine zcall1 (zck_V (na := 0) (ci := 6) (R' := rX5_signs) (M' := mX5_signs) (fun _ _ _ _ => tvX5_signs) (by decide) kX5_signs lX10_213 (by decide +kernel) rfl) dX10_told_15 (Nat.le_of_ble_eq_true rfl) (Nat.le_of_ble_eq_true rfl) (Nat.le_of_ble_eq_true rfl) ?_
      refine ⟨_, _, _, rfl, p1, rfl, ?_⟩
      refine z_if_ne (t := 24) dX10_told_18 (by decide) (fun q18 => ?_) (fun q18 => ?_)
      · have w18 : ¬ a 4 = 0 := fun e => q18 (by rw [e]; rfl)
        rw [show zQto a z w = z (3 + zt w) from (if_neg (fun p => p hin)).trans (if_neg w18)] at hK
        obtain ⟨g3, g4, g5⟩ := p4 w18
        obtain ⟨j, rfl, hj⟩ := hin.ex (by decide)
        rw [(zIn_nI (by decide) hj).2] at hK
        have hj3 : j = 0 ∨ j = 1 ∨ j = 2 := by omega
        refine z_iload_n dX10_told_24 rfl ?_
        rcases hj3 with rfl | rfl | rfl
        · refine z_lookup (t := 52) dX10_told_25 (by decide) rfl (by decide) ?_
          refine z_aload_n dX10_told_52 rfl ?_
          refine z_getfield dX10_told_53 fX10_51_10 rfl c0 rfl ?_
          refine zcall1 (zck_V (na := 0) (ci := 6) (R' := rX5_bits) (M' := mX5_bits) (fun _ _ _ _ => tvX5_bits) (by decide) kX5_bits lX10_216 (by decide +kernel) rfl) dX10_told_56 (Nat.le_of_ble_eq_true rfl) (Nat.le_of_ble_eq_true rfl) (Nat.le_of_ble_eq_true rfl) ?_
          refine ⟨_, _, _, rfl, p1, rfl, ?_⟩
          refine z_ireturn dX10_told_59 trivial (Nat.le_of_ble_eq_true rfl) (Nat.le_of_ble_eq_true rfl) ?_
          rw [g3]
          exact hK h n (hC0.mono (by omega)) (fun _ _ _ => rfl) (Nat.le_refl _)
        · refine z_lookup (t := 60) dX10_told_25 (by decide) rfl (by decide) ?_
          refine z_aload_n dX10_told_60 rfl ?_
          refine z_getfield dX10_told_61 fX10_51_10 rfl c0 rfl ?_
          refine zcall1 (zck_V (na := 0) (ci := 6) (R' := rX5_escapes) (M' := mX5_escapes) (fun _ _ _ _ => tvX5_escapes) (by decide) kX5_escapes lX10_217 (by decide +kernel) rfl) dX10_told_64 (Nat.le_of_ble_eq_true rfl) (Nat.le_of_ble_eq_true rfl) (Nat.le_of_ble_eq_true rfl) ?_
          refine ⟨_, _, _, rfl, p1, rfl, ?_⟩
          refine z_ireturn dX10_told_67 trivial (Nat.le_of_ble_eq_true rfl) (Nat.le_of_ble_eq_true rfl) ?_
          rw [g4]
          exact hK h n (hC0.mono (by omega)) (fun _ _ _ => rfl) (Nat.le_refl _)
        · refine z_lookup (t := 68) dX10_told_25 (by decide) rfl (by decide) ?_
          refine z_aload_n dX10_told_68 rfl ?_
          refine z_getfield dX10_told_69 fX10_51_10 rfl c0 rfl ?_
          refine zcall1 (zck_V (na := 0) (ci := 6) (R' := rX5_restarts) (M' := mX5_restarts) (fun _ _ _ _ => tvX5_restarts) (by decide) kX5_restarts lX10_175 (by decide +kernel) rfl) dX10_told_72 (Nat.le_of_ble_eq_true rfl) (Nat.le_of_ble_eq_true rfl) (Nat.le_of_ble_eq_true rfl) ?_
          refine ⟨_, _, _, rfl, p1, rfl, ?_⟩
          refine z_ireturn dX10_told_75 trivial (Nat.le_of_ble_eq_true rfl) (Nat.le_of_ble_eq_true rfl) ?_
          rw [g5]
          exact hK h n (hC0.mono (by omega)) (fun _ _ _ => rfl) (Nat.le_refl _)
      · have w18 : a 4 = 0 := (nI_eq (b := 0) (by omega) (by decide)).mp q18
        rw [show zQto a z w = -3 from (if_neg (fun p => p hin)).trans (if_pos w18)] at hK
        refine z_bipush (w := -3) dX10_told_21 (by decide) ?_
        refine z_ireturn dX10_told_23 trivial (Nat.le_of_ble_eq_true rfl) (Nat.le_of_ble_eq_true rfl) ?_
        exact hK h n (hC0.mono (by omega)) (fun _ _ _ => rfl) (Nat.le_refl _)
    · rw [show zQto a z w = -1 from if_pos (fun p => q6 ((zin_le (u := 2) (by decide)).mpr p).2)] at hK
      refine z_iconst (w := -1) dX10_told_9 (by decide) ?_
      refine z_ireturn dX10_told_10 trivial (Nat.le_of_ble_eq_true rfl) (Nat.le_of_ble_eq_true rfl) ?_
      exact hK h n (hC0.mono (by omega)) (fun _ _ _ => rfl) (Nat.le_refl _)
abbrev rX10_sign : Room := ⟨2, 0, 0, 80⟩
def SX10_sign (G : zC) : zS := fun as h n K => ∃ (x b t rn : Nat) (o rm : Nat) (a tx : Nat → Nat) (gg : Nat → Int32) (rx : Nat → Nat) (M : Nat → zMs) (z : Nat → Int32) (XX : Nat → Nat) (F : Nat → Option Nat) (i w : Int32), as = [.ref x, .int i, .int w] ∧ zOkS o rm a tx M ∧ zCS G h n x b t rn o rm a tx gg rx M z XX F ∧ rn ≤ 100000 ∧ ∀ h' n', zCS G h' n' x b t (rn + 302) o rm a tx gg rx M z XX F → zfrm x b h h' → n ≤ n' → K (some (.int (zQsg a XX F i w))) h' n'
set_option maxRecDepth 100000 in
theorem tvX10_sign {G : zC} {as : List Value} {h : zH} {n : Nat} {K : zP} (hs : SX10_sign G as h n K) : (∃ b fs r, as = .ref b :: r ∧ h b = some (.inr (10, fs))) ∧ zCt G rX10_sign mX10_sign as h n K := by
  obtain ⟨x, b, t, rn, o, rm, a, tx, gg, rx, M, z, XX, F, i, w, rfl, hB, hC, hrn, hK⟩ := hs
  have hC0 := hC
  obtain ⟨b1, b2, b3, b4, b5, b6, b7, b8, btx, bM⟩ := hB
  obtain ⟨rO, tO, rM, tM, tr, kt, rt, Nt, c0, cO, cM, cb, cn, ck, pT, pO, pR, pU, pA, pB, pN, pS, pL, pE, pP, pW, pD⟩ := hC
  refine ⟨⟨_, _, _, rfl, c0⟩, zCt.of (by decide) (Nat.le_of_ble_eq_true rfl) ?_⟩
  have pP0 := pP
  obtain ⟨fe, fc, bi, es9, rs9, p1, p2, p3, p4, p5⟩ := pP
  refine z_iload_n dX10_sign_0 rfl ?_
  refine z_if_lt (t := 24) dX10_sign_1 (by decide) (fun q1 => ?_) (fun q1 => ?_)
  · rw [show zQsg a XX F i w = -1 from if_neg (fun p => absurd q1 (Int32.not_lt.mpr p.1.1))] at hK
    refine z_iconst (w := -1) dX10_sign_24 (by decide) ?_
    refine z_ireturn dX10_sign_25 trivial (Nat.le_of_ble_eq_true rfl) (Nat.le_of_ble_eq_true rfl) ?_
    exact hK h n (hC0.mono (by omega)) (fun _ _ _ => rfl) (Nat.le_refl _)
  · refine z_iload_n dX10_sign_4 rfl ?_
    refine z_aload_n dX10_sign_5 rfl ?_
    refine z_getfield dX10_sign_6 fX10_51_10 rfl c0 rfl ?_
    refine zcall1 (zck_V (na := 0) (ci := 6) (R' := rX5_signs) (M' := mX5_signs) (fun _ _ _ _ => tvX5_signs) (by decide) kX5_signs lX10_213 (by decide +kernel) rfl) dX10_sign_9 (Nat.le_of_ble_eq_true rfl) (Nat.le_of_ble_eq_true rfl) (Nat.le_of_ble_eq_true rfl) ?_
    refine ⟨_, _, _, rfl, p1, rfl, ?_⟩
    refine z_icmp_ge (t := 24) dX10_sign_12 (by decide) (fun q12 => ?_) (fun q12 => ?_)
    · rw [show zQsg a XX F i w = -1 from if_neg (fun p => absurd q12 (Int32.not_le.mpr p.1.2))] at hK
      refine z_iconst (w := -1) dX10_sign_24 (by decide) ?_
      refine z_ireturn dX10_sign_25 trivial (Nat.le_of_ble_eq_true rfl) (Nat.le_of_ble_eq_true rfl) ?_
      exact hK h n (hC0.mono (by omega)) (fun _ _ _ => rfl) (Nat.le_refl _)
    · refine z_iload_n dX10_sign_15 rfl ?_
      refine z_if_lt (t := 24) dX10_sign_16 (by decide) (fun q16 => ?_) (fun q16 => ?_)
      · rw [show zQsg a XX F i w = -1 from if_neg (fun p => absurd q16 (Int32.not_lt.mpr p.2.1))] at hK
        refine z_iconst (w := -1) dX10_sign_24 (by decide) ?_
        refine z_ireturn dX10_sign_25 trivial (Nat.le_of_ble_eq_true rfl) (Nat.le_of_ble_eq_true rfl) ?_
        exact hK h n (hC0.mono (by omega)) (fun _ _ _ => rfl) (Nat.le_refl _)
      · refine z_iload_n dX10_sign_19 rfl ?_
        refine z_iconst (w := 1) dX10_sign_20 (by decide) ?_
        refine z_icmp_le (t := 26) dX10_sign_21 (by decide) (fun q21 => ?_) (fun q21 => ?_)
        · have hin : zIn i (a 4) ∧ zIn w 2 := ⟨⟨Int32.not_lt.mp q1, Int32.not_le.mp q12⟩, (zin_le (u := 1) (by decide)).mp ⟨Int32.not_lt.mp q16, q21⟩⟩
          have hi := zIn.nat hin.1 (show a 4 < 2147483648 by omega)
          refine z_iload_n dX10_sign_26 rfl ?_
          refine z_if_ne (t := 39) dX10_sign_27 (by decide) (fun q27 => ?_) (fun q27 => ?_)
          · rw [show zQsg a XX F i w = zff (F (zt i)) from (if_pos hin).trans (if_neg q27)] at hK
            refine z_aload_n dX10_sign_39 rfl ?_
            refine z_getfield dX10_sign_40 fX10_51_10 rfl c0 rfl ?_
            refine z_iload_n dX10_sign_43 rfl ?_
            refine zcall2 (zck_V (na := 1) (ci := 6) (R' := rX5_contextOf) (M' := mX5_contextOf) (fun _ _ _ _ => tvX5_contextOf) (by decide) kX5_contextOf lX10_223 (by decide +kernel) rfl) dX10_sign_44 (Nat.le_of_ble_eq_true rfl) (Nat.le_of_ble_eq_true rfl) (Nat.le_of_ble_eq_true rfl) ?_
            refine ⟨_, _, _, _, _, _, _, _, fc, zt i, (by rw [← hi.1]), p1, p3, (by decide), (by omega), ?_⟩
            rw [(p5 _ hi.2).2.1]
            refine z_istore_n dX10_sign_47 (Nat.le_of_ble_eq_true rfl) ?_
            rcases hF9 : F (zt i) with _ | k9
            · refine z_iload_n dX10_sign_48 rfl ?_
              refine z_iconst (w := -1) dX10_sign_49 (by decide) ?_
              refine z_icmp_ne (t := 58) dX10_sign_50 (by decide) (fun q50 => ?_) (fun q50 => ?_)
              · exact absurd rfl q50
              · refine z_bipush (w := -3) dX10_sign_53 (by decide) ?_
                refine z_goto (t := 59) dX10_sign_55 (by decide) ?_
                refine z_ireturn dX10_sign_59 trivial (Nat.le_of_ble_eq_true rfl) (Nat.le_of_ble_eq_true rfl) ?_
                rw [hF9] at hK
                exact hK h n (hC0.mono (by omega)) (fun _ _ _ => rfl) (Nat.le_refl _)
            · refine z_iload_n dX10_sign_48 rfl ?_
              refine z_iconst (w := -1) dX10_sign_49 (by decide) ?_
              refine z_icmp_ne (t := 58) dX10_sign_50 (by decide) (fun q50 => ?_) (fun q50 => ?_)
              · refine z_iload_n dX10_sign_58 rfl ?_
                refine z_ireturn dX10_sign_59 trivial (Nat.le_of_ble_eq_true rfl) (Nat.le_of_ble_eq_true rfl) ?_
                rw [hF9] at hK
                exact hK h n (hC0.mono (by omega)) (fun _ _ _ => rfl) (Nat.le_refl _)
              · exact absurd q50 (zpos_ne (by have := (p5 _ hi.2).2.2 k9 hF9; omega))
          · refine z_aload_n dX10_sign_30 rfl ?_
            refine z_getfield dX10_sign_31 fX10_51_10 rfl c0 rfl ?_
            refine z_iload_n dX10_sign_34 rfl ?_
            refine zcall2 (zck_V (na := 1) (ci := 6) (R' := rX5_excludedOf) (M' := mX5_excludedOf) (fun _ _ _ _ => tvX5_excludedOf) (by decide) kX5_excludedOf lX10_220 (by decide +kernel) rfl) dX10_sign_35 (Nat.le_of_ble_eq_true rfl) (Nat.le_of_ble_eq_true rfl) (Nat.le_of_ble_eq_true rfl) ?_
            refine ⟨_, _, _, _, _, _, _, _, fe, zt i, (by rw [← hi.1]), p1, p2, (by decide), (by omega), ?_⟩
            refine z_ireturn dX10_sign_38 trivial (Nat.le_of_ble_eq_true rfl) (Nat.le_of_ble_eq_true rfl) ?_
            rw [show zQsg a XX F i w = nI (XX (zt i)) from (if_pos hin).trans (if_pos q27)] at hK
            rw [(p5 _ hi.2).1]
            exact hK h n (hC0.mono (by omega)) (fun _ _ _ => rfl) (Nat.le_refl _)
        · rw [show zQsg a XX F i w = -1 from if_neg (fun p => q21 ((zin_le (u := 1) (by decide)).mpr p.2).2)] at hK
          refine z_iconst (w := -1) dX10_sign_24 (by decide) ?_
          refine z_ireturn dX10_sign_25 trivial (Nat.le_of_ble_eq_true rfl) (Nat.le_of_ble_eq_true rfl) ?_
          exact hK h n (hC0.mono (by omega)) (fun _ _ _ => rfl) (Nat.le_refl _)

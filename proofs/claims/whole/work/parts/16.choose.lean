/-! who chooses: the meter, the writer, the reader -/
theorem zshN : ∀ n, n < 32 → ((nI n &&& 31).toBitVec.smod 32).toNat = n := by decide
theorem zshl {l k : Nat} (hk : k < 32) (h : l * 2 ^ k < 4294967296) : nI l <<< (nI k &&& 31) = nI (l * 2 ^ k) := pk_shlN _ k (zshN k hk) h
/-- an index that is chosen for a wanted sign -/
def zpick (L : List (Nat × Nat)) (x i : Nat) : Prop := i < L.length ∧ (zsg L i = x ∨ (i = L.length - 1 ∧ zsg L i ≠ x)) ∧ ∀ j, j < i → zsg L j ≠ x
/-- the least power -/
def zcost (l t k : Nat) : Prop := k ≤ 16 ∧ (∀ j, j < k → l * 2 ^ j < t) ∧ (k < 16 → t ≤ l * 2 ^ k)
abbrev rX9_choose : Room := ⟨2, 0, 0, 80⟩
def SX9_choose (G : zC) : zS := fun as h n K => ∃ (a k b c x : Nat) (v0 v1 v2 v3 v4 : Value) (L : List (Nat × Nat)), as = [.ref a, .ref k] ∧ h a = some (zO 9 [v0, v1, v2, v3, v4, .int (nI x)]) ∧ zCho G h k b c L ∧ 0 < L.length ∧ x < 2147483648 ∧ (∀ i, i < L.length → zsg L i < 2147483648) ∧ ∀ i, zpick L x i → K (some (.int (nI i))) h n
set_option maxRecDepth 100000 in
set_option maxHeartbeats 1000000 in
theorem tvX9_choose {G : zC} {as : List Value} {h : zH} {n : Nat} {K : zP} (hs : SX9_choose G as h n K) : (∃ b fs r, as = .ref b :: r ∧ h b = some (.inr (9, fs))) ∧ zCt G rX9_choose mX9_choose as h n K := by
  obtain ⟨a, k, b, c, x, v0, v1, v2, v3, v4, L, rfl, hk, hC, h0, hx, hz, hK⟩ := hs
  refine ⟨⟨_, _, _, rfl, hk⟩, zCt.of (by decide) (Nat.le_of_ble_eq_true rfl) ?_⟩
  refine z_aload_n dX9_choose_0 rfl ?_
  refine z_aload_n dX9_choose_1 rfl ?_
  refine z_getfield dX9_choose_2 fX9_7_9 rfl (by first | assumption | exact zget_eq | exact zget_ne (by first | assumption | exact Ne.symm (by assumption) | omega) (by first | assumption | exact zget_eq | exact zget_ne (by first | assumption | exact Ne.symm (by assumption) | omega) (by first | assumption | exact zget_eq | exact zget_ne (by first | assumption | exact Ne.symm (by assumption) | omega) (by first | assumption | exact zget_eq)))) rfl ?_
  refine zcall2 (zck_V (na := 1) (ci := 2) (R' := rX0_indexOf) (M' := mX0_indexOf) (fun _ _ _ _ => tvX0_indexOf) (by decide) kX0_indexOf lX9_13 (by decide +kernel) rfl) dX9_choose_5 (Nat.le_of_ble_eq_true rfl) (Nat.le_of_ble_eq_true rfl) (Nat.le_of_ble_eq_true rfl) ?_
  refine ⟨_, _, _, _, _, rfl, (by assumption), (by first | assumption | omega), (by first | assumption | omega), (by assumption), fun i1 b1 c1 d1 => ?_⟩
  refine z_ireturn dX9_choose_8 trivial (Nat.le_of_ble_eq_true rfl) (Nat.le_of_ble_eq_true rfl) ?_
  exact hK i1 ⟨b1, c1, d1⟩
abbrev rX2_choose : Room := ⟨2, 0, 0, 80⟩
def SX2_choose (G : zC) : zS := fun as h n K => ∃ (a k b c x : Nat) (v0 : Value) (L : List (Nat × Nat)), as = [.ref a, .ref k] ∧ h a = some (zO 3 [.int (nI x), v0]) ∧ zCho G h k b c L ∧ 0 < L.length ∧ x < 2147483648 ∧ (∀ i, i < L.length → zsg L i < 2147483648) ∧ ∀ i, zpick L x i → K (some (.int (nI i))) h n
set_option maxRecDepth 100000 in
set_option maxHeartbeats 1000000 in
theorem tvX2_choose {G : zC} {as : List Value} {h : zH} {n : Nat} {K : zP} (hs : SX2_choose G as h n K) : (∃ b fs r, as = .ref b :: r ∧ h b = some (.inr (3, fs))) ∧ zCt G rX2_choose mX2_choose as h n K := by
  obtain ⟨a, k, b, c, x, v0, L, rfl, hk, hC, h0, hx, hz, hK⟩ := hs
  refine ⟨⟨_, _, _, rfl, hk⟩, zCt.of (by decide) (Nat.le_of_ble_eq_true rfl) ?_⟩
  refine z_aload_n dX2_choose_0 rfl ?_
  refine z_aload_n dX2_choose_1 rfl ?_
  refine z_getfield dX2_choose_2 fX2_9_3 rfl (by first | assumption | exact zget_eq | exact zget_ne (by first | assumption | exact Ne.symm (by assumption) | omega) (by first | assumption | exact zget_eq | exact zget_ne (by first | assumption | exact Ne.symm (by assumption) | omega) (by first | assumption | exact zget_eq | exact zget_ne (by first | assumption | exact Ne.symm (by assumption) | omega) (by first | assumption | exact zget_eq)))) rfl ?_
  refine zcall2 (zck_V (na := 1) (ci := 2) (R' := rX0_indexOf) (M' := mX0_indexOf) (fun _ _ _ _ => tvX0_indexOf) (by decide) kX0_indexOf lX2_18 (by decide +kernel) rfl) dX2_choose_5 (Nat.le_of_ble_eq_true rfl) (Nat.le_of_ble_eq_true rfl) (Nat.le_of_ble_eq_true rfl) ?_
  refine ⟨_, _, _, _, _, rfl, (by assumption), (by first | assumption | omega), (by first | assumption | omega), (by assumption), fun i1 b1 c1 d1 => ?_⟩
  refine z_ireturn dX2_choose_8 trivial (Nat.le_of_ble_eq_true rfl) (Nat.le_of_ble_eq_true rfl) ?_
  exact hK i1 ⟨b1, c1, d1⟩
abbrev rX2_take : Room := ⟨0, 0, 0, 0⟩
def SX2_take (G : zC) : zS := fun as h n K => ∃ (a x y t : Nat) (v0 : Value) (sm : Int32), as = [.ref a, .int (nI x), .int (nI y), .int (nI t)] ∧ h a = some (zO 3 [v0, .int sm]) ∧ y < 65536 ∧ t < 65536 ∧ ∀ k h', zcost y t k → h' a = some (zO 3 [v0, .int (sm + nI k)]) → (∀ q, q ≠ a → h' q = h q) → K none h' n
set_option maxRecDepth 100000 in
set_option maxHeartbeats 1000000 in
theorem tvX2_take {G : zC} {as : List Value} {h : zH} {n : Nat} {K : zP} (hs : SX2_take G as h n K) : (∃ b fs r, as = .ref b :: r ∧ h b = some (.inr (3, fs))) ∧ zCt G rX2_take mX2_take as h n K := by
  obtain ⟨a, x, y, t, v0, sm, rfl, hk, hy, ht, hK⟩ := hs
  refine ⟨⟨_, _, _, rfl, hk⟩, zCt.of (by decide) (Nat.le_of_ble_eq_true rfl) ?_⟩
  have loop : ∀ (d k : Nat), k + d = 16 → (∀ j, j < k → y * 2 ^ j < t) → zZ (zXm G rX2_take mX2_take [.ref a, .int (nI x), .int (nI y), .int (nI t)] h n K) 3 [(0, .ref a), (1, .int (nI x)), (2, .int (nI y)), (3, .int (nI t)), (4, .int (nI k))] [] h n 0 0 := by
    intro d
    induction d with
    | zero =>
      intro k hd hp
      have e16 : k = 16 := by omega
      subst e16
      refine z_iload dX2_take_3 rfl ?_
      refine z_bipush (w := 16) dX2_take_5 (by decide) ?_
      refine z_icmp_ge (t := 24) dX2_take_7 (by decide) (fun q7 => ?_) (fun q7 => ?_)
      · refine z_aload_n dX2_take_24 rfl ?_
        refine z_dup dX2_take_25 rfl ?_
        refine z_getfield dX2_take_26 fX2_15_3 rfl (by first | assumption | exact zget_eq | exact zget_ne (by first | assumption | exact Ne.symm (by assumption) | omega) (by first | assumption | exact zget_eq | exact zget_ne (by first | assumption | exact Ne.symm (by assumption) | omega) (by first | assumption | exact zget_eq | exact zget_ne (by first | assumption | exact Ne.symm (by assumption) | omega) (by first | assumption | exact zget_eq)))) rfl ?_
        refine z_iload dX2_take_29 rfl ?_
        refine z_iadd dX2_take_31 ?_
        refine z_putfield dX2_take_32 fX2_15_3 rfl (fun q => absurd q (by decide)) (by first | assumption | exact zget_eq | exact zget_ne (by first | assumption | exact Ne.symm (by assumption) | omega) (by first | assumption | exact zget_eq | exact zget_ne (by first | assumption | exact Ne.symm (by assumption) | omega) (by first | assumption | exact zget_eq | exact zget_ne (by first | assumption | exact Ne.symm (by assumption) | omega) (by first | assumption | exact zget_eq)))) (Nat.le_of_ble_eq_true rfl) (Or.inl ⟨rfl, _, rfl⟩) ?_
        refine z_vreturn dX2_take_35 rfl (Nat.le_of_ble_eq_true rfl) (Nat.le_of_ble_eq_true rfl) ?_
        exact hK _ _ ⟨Nat.le_refl _, hp, fun q => absurd q (Nat.lt_irrefl _)⟩ zget_eq (fun q hq => by rw [zup_ne hq])
      · exact absurd (by decide) q7
    | succ d ih =>
      intro k hd hp
      have hlt : ¬ (16 : Int32) ≤ nI k := nI_ge (b := 16) (by omega) (by decide)
      have hpw : 2 ^ k ≤ 2 ^ 15 := Nat.pow_le_pow_right (by decide) (by omega)
      have hmul : y * 2 ^ k ≤ 65536 * 2 ^ 15 := Nat.mul_le_mul (by omega) hpw
      refine z_iload dX2_take_3 rfl ?_
      refine z_bipush (w := 16) dX2_take_5 (by decide) ?_
      refine z_icmp_ge (t := 24) dX2_take_7 (by decide) (fun q7 => ?_) (fun q7 => ?_)
      · exact absurd q7 hlt
      · refine z_iload_n dX2_take_10 rfl ?_
        refine z_iload dX2_take_11 rfl ?_
        refine z_ishl dX2_take_13 ?_
        rw [zshl (by omega) (by omega)]
        refine z_iload_n dX2_take_14 rfl ?_
        refine z_icmp_ge (t := 24) dX2_take_15 (by decide) (fun q15 => ?_) (fun q15 => ?_)
        · have q15b : t ≤ y * 2 ^ k := by
            rcases Nat.lt_or_ge (y * 2 ^ k) t with z | z
            · exact absurd q15 (nI_ge z (by omega))
            · exact z
          refine z_aload_n dX2_take_24 rfl ?_
          refine z_dup dX2_take_25 rfl ?_
          refine z_getfield dX2_take_26 fX2_15_3 rfl (by first | assumption | exact zget_eq | exact zget_ne (by first | assumption | exact Ne.symm (by assumption) | omega) (by first | assumption | exact zget_eq | exact zget_ne (by first | assumption | exact Ne.symm (by assumption) | omega) (by first | assumption | exact zget_eq | exact zget_ne (by first | assumption | exact Ne.symm (by assumption) | omega) (by first | assumption | exact zget_eq)))) rfl ?_
          refine z_iload dX2_take_29 rfl ?_
          refine z_iadd dX2_take_31 ?_
          refine z_putfield dX2_take_32 fX2_15_3 rfl (fun q => absurd q (by decide)) (by first | assumption | exact zget_eq | exact zget_ne (by first | assumption | exact Ne.symm (by assumption) | omega) (by first | assumption | exact zget_eq | exact zget_ne (by first | assumption | exact Ne.symm (by assumption) | omega) (by first | assumption | exact zget_eq | exact zget_ne (by first | assumption | exact Ne.symm (by assumption) | omega) (by first | assumption | exact zget_eq)))) (Nat.le_of_ble_eq_true rfl) (Or.inl ⟨rfl, _, rfl⟩) ?_
          refine z_vreturn dX2_take_35 rfl (Nat.le_of_ble_eq_true rfl) (Nat.le_of_ble_eq_true rfl) ?_
          exact hK _ _ ⟨by omega, hp, fun _ => q15b⟩ zget_eq (fun q hq => by rw [zup_ne hq])
        · have q15b : y * 2 ^ k < t := by
            rcases Nat.lt_or_ge (y * 2 ^ k) t with z | z
            · exact z
            · by_cases hb : y * 2 ^ k < 2147483648
              · exact absurd (nI_le z hb) q15
              · exfalso
                have : y * 2 ^ k ≤ 65535 * 2 ^ 15 := Nat.mul_le_mul (by omega) hpw
                omega
          refine z_iinc dX2_take_18 rfl (Nat.le_of_ble_eq_true rfl) ?_
          rw [show nI k + Int32.ofInt 1 = nI (k + 1) from nI_1 k]
          refine z_goto (t := 3) dX2_take_21 (by decide) ?_
          exact ih (k + 1) (by omega) (fun j hj => by rcases Nat.lt_or_ge j k with q | q; exact hp j q; rw [show j = k by omega]; exact q15b)
  refine z_iconst (w := 0) dX2_take_0 (by decide) ?_
  refine z_istore dX2_take_1 (Nat.le_of_ble_eq_true rfl) ?_
  exact loop 16 0 rfl (fun j hj => absurd hj (Nat.not_lt_zero _))
abbrev rX6_choose : Room := ⟨2, 0, 0, 80⟩
def SX6_choose (G : zC) : zS := fun as h n K => ∃ (a w r k b c num : Nat) (v5 v7 : Value) (L : List (Nat × Nat)) (e : zEs), as = [.ref a, .ref k] ∧ zCd G h 7 a w r [v5, .int (nI num), v7] e ∧ zCho G h k b c L ∧ e.2.2.1 ≤ num ∧ num ≤ e.2.2.2.1 ∧ e.2.2.2.1 < 65536 ∧ 0 < zps L L.length ∧ zps L L.length ≤ 16384 ∧ ∀ i, i < L.length → zps L i ≤ ((num - e.2.2.1 + 1) * zps L L.length - 1) / (e.2.2.2.1 - e.2.2.1 + 1) → ((num - e.2.2.1 + 1) * zps L L.length - 1) / (e.2.2.2.1 - e.2.2.1 + 1) < zps L (i + 1) → K (some (.int (nI i))) h n
set_option maxRecDepth 100000 in
set_option maxHeartbeats 1000000 in
theorem tvX6_choose {G : zC} {as : List Value} {h : zH} {n : Nat} {K : zP} (hs : SX6_choose G as h n K) : (∃ b fs r, as = .ref b :: r ∧ h b = some (.inr (7, fs))) ∧ zCt G rX6_choose mX6_choose as h n K := by
  obtain ⟨a, w, r, k, b, c, num, v5, v7, L, ⟨f, p, lo, hi, held⟩, rfl, hC, hL, hn1, hn2, hhi, ht0, ht1, hK⟩ := hs
  have hC0 := hC
  obtain ⟨hk, hw, hr⟩ := hC
  dsimp only at hk hw hr hn1 hn2 hhi hK
  have hb1 : (num - lo + 1) * zps L L.length ≤ (hi - lo + 1) * zps L L.length := Nat.mul_le_mul_right _ (by omega)
  have hb2 : (hi - lo + 1) * zps L L.length ≤ 65536 * 16384 := Nat.mul_le_mul (by omega) ht1
  have hb3 : 1 * 1 ≤ (num - lo + 1) * zps L L.length := Nat.mul_le_mul (by omega) ht0
  have hv : ((num - lo + 1) * zps L L.length - 1) / (hi - lo + 1) < zps L L.length := by
    rw [Nat.div_lt_iff_lt_mul (by omega)]
    have hcm := Nat.mul_comm (zps L L.length) (hi - lo + 1)
    omega
  have hV : ((nI num - nI lo + 1) * nI (zps L L.length) - 1) / nI (hi - lo + 1) = nI (((num - lo + 1) * zps L L.length - 1) / (hi - lo + 1)) := by
    rw [pk_sub hn1, nI_1, pk_mul, show nI ((num - lo + 1) * zps L L.length) - 1 = nI ((num - lo + 1) * zps L L.length - 1) from pk_sub (b := 1) (by omega), pk_div (by omega) (by omega) (by omega)]
  refine ⟨⟨_, _, _, rfl, hk⟩, zCt.of (by decide) (Nat.le_of_ble_eq_true rfl) ?_⟩
  refine z_aload_n dX6_choose_0 rfl ?_
  refine zcall1 (zck_U (na := 0) (ci := 7) (C := RX6) (owner := "PpmTrees$Coder") (x := ⟨"PpmTrees$Reader", "width", "()I"⟩) (R' := rX1_width_7) (M' := mX1_width) (fun _ _ _ _ => tvX1_width_7) (by decide) kX1_width lUX6_44_7 (Or.inl dUX6_44) (by decide +kernel) rfl) dX6_choose_1 (Nat.le_of_ble_eq_true rfl) (Nat.le_of_ble_eq_true rfl) (Nat.le_of_ble_eq_true rfl) ?_
  refine ⟨_, _, _, _, _, rfl, hC0, (show lo ≤ hi by omega), ?_⟩
  show zZ _ _ _ [.int (nI (hi - lo + 1))] _ _ _ _
  refine z_istore_n dX6_choose_4 (Nat.le_of_ble_eq_true rfl) ?_
  refine z_iload_n dX6_choose_5 rfl ?_
  refine z_if_gt (t := 11) dX6_choose_6 (by decide) (fun q6 => ?_) (fun q6 => ?_)
  · refine z_aload_n dX6_choose_11 rfl ?_
    refine z_aload_n dX6_choose_12 rfl ?_
    refine z_getfield dX6_choose_13 fX6_19_7 rfl (by first | assumption | exact zget_eq | exact zget_ne (by first | assumption | exact Ne.symm (by assumption) | omega) (by first | assumption | exact zget_eq | exact zget_ne (by first | assumption | exact Ne.symm (by assumption) | omega) (by first | assumption | exact zget_eq | exact zget_ne (by first | assumption | exact Ne.symm (by assumption) | omega) (by first | assumption | exact zget_eq)))) rfl ?_
    refine z_aload_n dX6_choose_16 rfl ?_
    refine zcall1 (zck_U (na := 0) (ci := 7) (C := RX6) (owner := "PpmTrees$Coder") (x := ⟨"PpmTrees$Reader", "low", "()I"⟩) (R' := rX1_low_7) (M' := mX1_low) (fun _ _ _ _ => tvX1_low_7) (by decide) kX1_low lUX6_47_7 (Or.inl dUX6_47) (by decide +kernel) rfl) dX6_choose_17 (Nat.le_of_ble_eq_true rfl) (Nat.le_of_ble_eq_true rfl) (Nat.le_of_ble_eq_true rfl) ?_
    refine ⟨_, _, _, rfl, (by first | assumption | exact zget_eq | exact zget_ne (by first | assumption | exact Ne.symm (by assumption) | omega) (by first | assumption | exact zget_eq | exact zget_ne (by first | assumption | exact Ne.symm (by assumption) | omega) (by first | assumption | exact zget_eq | exact zget_ne (by first | assumption | exact Ne.symm (by assumption) | omega) (by first | assumption | exact zget_eq)))), rfl, ?_⟩
    refine z_isub dX6_choose_20 ?_
    refine z_iconst (w := 1) dX6_choose_21 (by decide) ?_
    refine z_iadd dX6_choose_22 ?_
    refine z_aload_n dX6_choose_23 rfl ?_
    refine zcall1 (zck_V (na := 0) (ci := 2) (R' := rX0_total) (M' := mX0_total) (fun _ _ _ _ => tvX0_total) (by decide) kX0_total lX6_50 (by decide +kernel) rfl) dX6_choose_24 (Nat.le_of_ble_eq_true rfl) (Nat.le_of_ble_eq_true rfl) (Nat.le_of_ble_eq_true rfl) ?_
    refine ⟨_, _, _, _, rfl, (by assumption), ?_⟩
    refine z_imul dX6_choose_27 ?_
    refine z_iconst (w := 1) dX6_choose_28 (by decide) ?_
    refine z_isub dX6_choose_29 ?_
    refine z_iload_n dX6_choose_30 rfl ?_
    refine z_idiv dX6_choose_31 (nI_ne0 (by omega) (by omega)) ?_
    refine zcall2 (zck_V (na := 1) (ci := 2) (R' := rX0_indexOfPoint) (M' := mX0_indexOfPoint) (fun _ _ _ _ => tvX0_indexOfPoint) (by decide) kX0_indexOfPoint lX6_55 (by decide +kernel) rfl) dX6_choose_32 (Nat.le_of_ble_eq_true rfl) (Nat.le_of_ble_eq_true rfl) (Nat.le_of_ble_eq_true rfl) ?_
    rw [hV]
    refine ⟨_, _, _, _, _, rfl, hL, hv, (by omega), fun i1 b1 c1 d1 => ?_⟩
    refine z_ireturn dX6_choose_35 trivial (Nat.le_of_ble_eq_true rfl) (Nat.le_of_ble_eq_true rfl) ?_
    exact hK i1 b1 c1 d1
  · exact absurd (zposI (by omega) (by omega)) q6
abbrev rX6_takenBehind : Room := ⟨1, 0, 0, 40⟩
def SX6_takenBehind (G : zC) : zS := fun as h n K => ∃ (a s : Nat) (v0 v1 v2 v3 v4 v6 v8 : Value) (tak k : Int32), as = [.ref a] ∧ h a = some (zO 7 [v0, v1, v2, v3, v4, .ref s, v6, .int tak]) ∧ h s = some (zO 5 [v8, .int k]) ∧ K (some (.int (tak - 8 * k))) h n
set_option maxRecDepth 100000 in
set_option maxHeartbeats 1000000 in
theorem tvX6_takenBehind {G : zC} {as : List Value} {h : zH} {n : Nat} {K : zP} (hs : SX6_takenBehind G as h n K) : (∃ b fs r, as = .ref b :: r ∧ h b = some (.inr (7, fs))) ∧ zCt G rX6_takenBehind mX6_takenBehind as h n K := by
  obtain ⟨a, s, v0, v1, v2, v3, v4, v6, v8, tak, k, rfl, hk, hs1, hK⟩ := hs
  refine ⟨⟨_, _, _, rfl, hk⟩, zCt.of (by decide) (Nat.le_of_ble_eq_true rfl) ?_⟩
  refine z_aload_n dX6_takenBehind_0 rfl ?_
  refine z_getfield dX6_takenBehind_1 fX6_23_7 rfl (by first | assumption | exact zget_eq | exact zget_ne (by first | assumption | exact Ne.symm (by assumption) | omega) (by first | assumption | exact zget_eq | exact zget_ne (by first | assumption | exact Ne.symm (by assumption) | omega) (by first | assumption | exact zget_eq | exact zget_ne (by first | assumption | exact Ne.symm (by assumption) | omega) (by first | assumption | exact zget_eq)))) rfl ?_
  refine z_bipush (w := 8) dX6_takenBehind_4 (by decide) ?_
  refine z_aload_n dX6_takenBehind_6 rfl ?_
  refine z_getfield dX6_takenBehind_7 fX6_9_7 rfl (by first | assumption | exact zget_eq | exact zget_ne (by first | assumption | exact Ne.symm (by assumption) | omega) (by first | assumption | exact zget_eq | exact zget_ne (by first | assumption | exact Ne.symm (by assumption) | omega) (by first | assumption | exact zget_eq | exact zget_ne (by first | assumption | exact Ne.symm (by assumption) | omega) (by first | assumption | exact zget_eq)))) rfl ?_
  refine zcall1 (zck_V (na := 0) (ci := 5) (R' := rX4_many) (M' := mX4_many) (fun _ _ _ _ => tvX4_many) (by decide) kX4_many lX6_30 (by decide +kernel) rfl) dX6_takenBehind_10 (Nat.le_of_ble_eq_true rfl) (Nat.le_of_ble_eq_true rfl) (Nat.le_of_ble_eq_true rfl) ?_
  refine ⟨_, _, _, rfl, (by first | assumption | exact zget_eq | exact zget_ne (by first | assumption | exact Ne.symm (by assumption) | omega) (by first | assumption | exact zget_eq | exact zget_ne (by first | assumption | exact Ne.symm (by assumption) | omega) (by first | assumption | exact zget_eq | exact zget_ne (by first | assumption | exact Ne.symm (by assumption) | omega) (by first | assumption | exact zget_eq)))), ?_⟩
  refine z_imul dX6_takenBehind_13 ?_
  refine z_isub dX6_takenBehind_14 ?_
  refine z_ireturn dX6_takenBehind_15 trivial (Nat.le_of_ble_eq_true rfl) (Nat.le_of_ble_eq_true rfl) ?_
  exact hK
abbrev rX6_firstDifference : Room := ⟨2, 0, 0, 80⟩
def SX6_firstDifference (G : zC) : zS := fun as h n K => ∃ (a s w r t m1 m2 k1 k2 : Nat) (v1 v2 v3 v4 v6 v7 : Value) (f g : Nat → Int32), as = [.ref a] ∧ h a = some (zO 7 [.ref w, v1, v2, v3, v4, .ref s, v6, v7]) ∧ h s = some (zO 5 [.ref r, .int (nI k1)]) ∧ h w = some (zO 5 [.ref t, .int (nI k2)]) ∧ h r = some (zI G m1 f) ∧ h t = some (zI G m2 g) ∧ m1 < 2147483648 ∧ m2 < 2147483648 ∧ k1 ≤ m1 ∧ k2 ≤ m2 ∧ ∀ i, i ≤ min k1 k2 → (∀ j, j < i → f j = g j) → (i < min k1 k2 → f i ≠ g i) → K (some (.int (zfr i (min k1 k2) k1 k2))) h n
set_option maxRecDepth 100000 in
set_option maxHeartbeats 1000000 in
theorem tvX6_firstDifference {G : zC} {as : List Value} {h : zH} {n : Nat} {K : zP} (hs : SX6_firstDifference G as h n K) : (∃ b fs r, as = .ref b :: r ∧ h b = some (.inr (7, fs))) ∧ zCt G rX6_firstDifference mX6_firstDifference as h n K := by
  obtain ⟨a, s, w, r, t, m1, m2, k1, k2, v1, v2, v3, v4, v6, v7, f, g, rfl, hk, hs1, hw, hr, ht, hm1, hm2, hk1, hk2, hK⟩ := hs
  refine ⟨⟨_, _, _, rfl, hk⟩, zCt.of (by decide) (Nat.le_of_ble_eq_true rfl) ?_⟩
  refine z_aload_n dX6_firstDifference_0 rfl ?_
  refine z_getfield dX6_firstDifference_1 fX6_9_7 rfl (by first | assumption | exact zget_eq | exact zget_ne (by first | assumption | exact Ne.symm (by assumption) | omega) (by first | assumption | exact zget_eq | exact zget_ne (by first | assumption | exact Ne.symm (by assumption) | omega) (by first | assumption | exact zget_eq | exact zget_ne (by first | assumption | exact Ne.symm (by assumption) | omega) (by first | assumption | exact zget_eq)))) rfl ?_
  refine z_aload_n dX6_firstDifference_4 rfl ?_
  refine zcall1 (zck_U (na := 0) (ci := 7) (C := RX6) (owner := "PpmTrees$Coder") (x := ⟨"PpmTrees$Reader", "written", "()LPpmTrees$Octets;"⟩) (R' := rX1_written_7) (M' := mX1_written) (fun _ _ _ _ => tvX1_written_7) (by decide) kX1_written lUX6_36_7 (Or.inl dUX6_36) (by decide +kernel) rfl) dX6_firstDifference_5 (Nat.le_of_ble_eq_true rfl) (Nat.le_of_ble_eq_true rfl) (Nat.le_of_ble_eq_true rfl) ?_
  refine ⟨_, _, _, rfl, (by first | assumption | exact zget_eq | exact zget_ne (by first | assumption | exact Ne.symm (by assumption) | omega) (by first | assumption | exact zget_eq | exact zget_ne (by first | assumption | exact Ne.symm (by assumption) | omega) (by first | assumption | exact zget_eq | exact zget_ne (by first | assumption | exact Ne.symm (by assumption) | omega) (by first | assumption | exact zget_eq)))), rfl, ?_⟩
  refine zcall2 (zck_V (na := 1) (ci := 5) (R' := rX4_firstDifference) (M' := mX4_firstDifference) (fun _ _ _ _ => tvX4_firstDifference) (by decide) kX4_firstDifference lX6_40 (by decide +kernel) rfl) dX6_firstDifference_8 (Nat.le_of_ble_eq_true rfl) (Nat.le_of_ble_eq_true rfl) (Nat.le_of_ble_eq_true rfl) ?_
  refine ⟨_, _, _, _, _, _, _, _, _, _, rfl, (by first | assumption | exact zget_eq | exact zget_ne (by first | assumption | exact Ne.symm (by assumption) | omega) (by first | assumption | exact zget_eq | exact zget_ne (by first | assumption | exact Ne.symm (by assumption) | omega) (by first | assumption | exact zget_eq | exact zget_ne (by first | assumption | exact Ne.symm (by assumption) | omega) (by first | assumption | exact zget_eq)))), (by first | assumption | exact zget_eq | exact zget_ne (by first | assumption | exact Ne.symm (by assumption) | omega) (by first | assumption | exact zget_eq | exact zget_ne (by first | assumption | exact Ne.symm (by assumption) | omega) (by first | assumption | exact zget_eq | exact zget_ne (by first | assumption | exact Ne.symm (by assumption) | omega) (by first | assumption | exact zget_eq)))), (by first | assumption | exact zget_eq | exact zget_ne (by first | assumption | exact Ne.symm (by assumption) | omega) (by first | assumption | exact zget_eq | exact zget_ne (by first | assumption | exact Ne.symm (by assumption) | omega) (by first | assumption | exact zget_eq | exact zget_ne (by first | assumption | exact Ne.symm (by assumption) | omega) (by first | assumption | exact zget_eq)))), (by first | assumption | exact zget_eq | exact zget_ne (by first | assumption | exact Ne.symm (by assumption) | omega) (by first | assumption | exact zget_eq | exact zget_ne (by first | assumption | exact Ne.symm (by assumption) | omega) (by first | assumption | exact zget_eq | exact zget_ne (by first | assumption | exact Ne.symm (by assumption) | omega) (by first | assumption | exact zget_eq)))), (by first | assumption | omega), (by first | assumption | omega), (by first | assumption | omega), (by first | assumption | omega), fun i1 b1 p1 d1 => ?_⟩
  refine z_ireturn dX6_firstDifference_11 trivial (Nat.le_of_ble_eq_true rfl) (Nat.le_of_ble_eq_true rfl) ?_
  exact hK i1 b1 p1 d1
def znum0 (bs : Nat → Nat) : Nat → Nat
  | 0 => 0
  | d + 1 => 2 * znum0 bs d + bs d
theorem znum0_lt (bs : Nat → Nat) (hb : ∀ p, bs p ≤ 1) (d : Nat) : znum0 bs d < 2 ^ d := by
  induction d with
  | zero => simp [znum0]
  | succ d ih =>
    have := hb d
    simp only [znum0, Nat.pow_succ]
    omega
abbrev rX6_begin : Room := ⟨2, 0, 0, 80⟩
def SX6_begin (G : zC) : zS := fun as h n K => ∃ (a w r s sr ms k : Nat) (v1 v2 v3 v4 v5 v6 v7 : Value) (f g : Nat → Int32), as = [.ref a] ∧ h a = some (zO 7 [.ref w, v1, v2, v3, v4, .ref s, v6, v7]) ∧ h w = some (zO 5 [.ref r, v5]) ∧ h r = some (zI G 2484 f) ∧ h s = some (zO 5 [.ref sr, .int (nI k)]) ∧ h sr = some (zI G ms g) ∧ ms < 2147483648 ∧ k ≤ ms ∧ s ≠ w ∧ sr ≠ r ∧ ∀ h', zCd G h' 7 a w r [.ref s, .int (nI (znum0 (zbn g k) 16)), .int (nI 16)] (f, 0, 0, 65535, 0) → (∀ q, q ≠ a → q ≠ w → q ≠ r → h' q = h q) → K none h' n
set_option maxRecDepth 100000 in
set_option maxHeartbeats 1000000 in
theorem tvX6_begin {G : zC} {as : List Value} {h : zH} {n : Nat} {K : zP} (hs : SX6_begin G as h n K) : (∃ b fs r, as = .ref b :: r ∧ h b = some (.inr (7, fs))) ∧ zCt G rX6_begin mX6_begin as h n K := by
  obtain ⟨a, w, r, s, sr, ms, k, v1, v2, v3, v4, v5, v6, v7, f, g, rfl, hk, hw, hr, hs1, hsr, hms, hkm, hsw, hsrr, hK⟩ := hs
  have haw : a ≠ w := fun q => by rw [q, hw] at hk; simp at hk
  have har : a ≠ r := fun q => by rw [q, hr] at hk; simp at hk
  have hsa : s ≠ a := fun q => by rw [q, hk] at hs1; simp at hs1
  have hsra : sr ≠ a := fun q => by rw [q, hk] at hsr; simp at hsr
  have hsr2 : s ≠ r := fun q => by rw [q, hr] at hs1; simp at hs1
  have hsrw : sr ≠ w := fun q => by rw [q, hw] at hsr; simp at hsr
  refine ⟨⟨_, _, _, rfl, hk⟩, zCt.of (by decide) (Nat.le_of_ble_eq_true rfl) ?_⟩
  have loop : ∀ (d i : Nat) (h1 : zH), i + d = 16 → zCd G h1 7 a w r [.ref s, .int (nI (znum0 (zbn g k) i)), .int (nI i)] (f, 0, 0, 65535, 0) → (∀ q, q ≠ a → q ≠ w → q ≠ r → h1 q = h q) → zZ (zXm G rX6_begin mX6_begin [.ref a] h n K) 16 [(0, .ref a), (1, .int (nI i))] [] h1 n 0 0 := by
    intro d
    induction d with
    | zero =>
      intro i h1 hd hC1 ho
      have e16 : i = 16 := by omega
      subst e16
      refine z_iload_n dX6_begin_16 rfl ?_
      refine z_bipush (w := 16) dX6_begin_17 (by decide) ?_
      refine z_icmp_ge (t := 33) dX6_begin_19 (by decide) (fun q19 => ?_) (fun q19 => ?_)
      · refine z_vreturn dX6_begin_33 rfl (Nat.le_of_ble_eq_true rfl) (Nat.le_of_ble_eq_true rfl) ?_
        exact hK h1 hC1 ho
      · exact absurd (by decide) q19
    | succ d ih =>
      intro i h1 hd hC1 ho
      have hlt : ¬ (16 : Int32) ≤ nI i := nI_ge (b := 16) (by omega) (by decide)
      have hnn := znum0_lt (zbn g k) (zbn_le g k) i
      have hpw : 2 ^ i ≤ 2 ^ 15 := Nat.pow_le_pow_right (by decide) (by omega)
      obtain ⟨hk1, hw1, hr1⟩ := hC1
      dsimp only at hk1 hw1 hr1
      refine z_iload_n dX6_begin_16 rfl ?_
      refine z_bipush (w := 16) dX6_begin_17 (by decide) ?_
      refine z_icmp_ge (t := 33) dX6_begin_19 (by decide) (fun q19 => ?_) (fun q19 => ?_)
      · exact absurd q19 hlt
      · refine z_aload_n dX6_begin_22 rfl ?_
        refine z_iconst (w := 0) dX6_begin_23 (by decide) ?_
        refine zcall2 (zck_V (na := 1) (ci := 7) (R' := rX6_shifted_7) (M' := mX6_shifted) (fun _ _ _ _ => tvX6_shifted_7) (by decide) kX6_shifted lX6_26 (by decide +kernel) rfl) dX6_begin_24 (Nat.le_of_ble_eq_true rfl) (Nat.le_of_ble_eq_true rfl) (Nat.le_of_ble_eq_true rfl) ?_
        refine ⟨a, s, sr, ms, k, znum0 (zbn g k) i, i, 0, _, _, _, _, _, g, rfl, hk1, ((ho s hsa hsw hsr2).trans hs1), ((ho sr hsra hsrw hsrr).trans hsr), hms, hkm, Nat.zero_le _, (by omega), (by omega), fun h5 e5 o5 => ?_⟩
        refine z_iinc dX6_begin_27 rfl (Nat.le_of_ble_eq_true rfl) ?_
        rw [show nI i + Int32.ofInt 1 = nI (i + 1) from nI_1 i]
        refine z_goto (t := 16) dX6_begin_30 (by decide) ?_
        exact ih (i + 1) h5 (by omega) ⟨e5, (o5 w (Ne.symm haw)).trans hw1, (o5 r (Ne.symm har)).trans hr1⟩ (fun q g1 g2 g3 => by rw [o5 q g1]; exact ho q g1 g2 g3)
  refine z_aload_n dX6_begin_0 rfl ?_
  refine zcall1 (zck_SU (na := 0) (ci := 7) (R' := rX1_begin_7) (M' := mX1_begin) rfl (fun _ _ _ _ => tvX1_begin_7) (by decide) kX1_begin lsX6_15 (by decide) (by decide +kernel) rfl) dX6_begin_1 (Nat.le_of_ble_eq_true rfl) (Nat.le_of_ble_eq_true rfl) (Nat.le_of_ble_eq_true rfl) ?_
  refine ⟨_, _, _, _, _, _, _, _, _, _, rfl, hk, hw, hr, fun h2 hC2 o2 => ?_⟩
  obtain ⟨hk2, hw2, hr2⟩ := hC2
  dsimp only at hk2 hw2 hr2
  refine z_aload_n dX6_begin_4 rfl ?_
  refine z_iconst (w := 0) dX6_begin_5 (by decide) ?_
  refine z_putfield dX6_begin_6 fX6_19_7 rfl (fun q => absurd q (by decide)) (by first | assumption | exact zget_eq | exact zget_ne (by first | assumption | exact Ne.symm (by assumption) | omega) (by first | assumption | exact zget_eq | exact zget_ne (by first | assumption | exact Ne.symm (by assumption) | omega) (by first | assumption | exact zget_eq | exact zget_ne (by first | assumption | exact Ne.symm (by assumption) | omega) (by first | assumption | exact zget_eq)))) (Nat.le_of_ble_eq_true rfl) (Or.inl ⟨rfl, _, rfl⟩) ?_
  refine z_aload_n dX6_begin_9 rfl ?_
  refine z_iconst (w := 0) dX6_begin_10 (by decide) ?_
  refine z_putfield dX6_begin_11 fX6_23_7 rfl (fun q => absurd q (by decide)) (by first | assumption | exact zget_eq | exact zget_ne (by first | assumption | exact Ne.symm (by assumption) | omega) (by first | assumption | exact zget_eq | exact zget_ne (by first | assumption | exact Ne.symm (by assumption) | omega) (by first | assumption | exact zget_eq | exact zget_ne (by first | assumption | exact Ne.symm (by assumption) | omega) (by first | assumption | exact zget_eq)))) (Nat.le_of_ble_eq_true rfl) (Or.inl ⟨rfl, _, rfl⟩) ?_
  refine z_iconst (w := 0) dX6_begin_14 (by decide) ?_
  refine z_istore_n dX6_begin_15 (Nat.le_of_ble_eq_true rfl) ?_
  exact loop 16 0 _ rfl ⟨by rw [zget_eq]; simp [znum0, nI_0], by rw [zup_ne (Ne.symm haw), zup_ne (Ne.symm haw)]; exact hw2, by rw [zup_ne (Ne.symm har), zup_ne (Ne.symm har)]; exact hr2⟩ (fun q g1 g2 g3 => by rw [zup_ne g1, zup_ne g1, o2 q g1 g2 g3])

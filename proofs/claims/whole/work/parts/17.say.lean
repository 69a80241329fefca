/-! Speaker.say -/
theorem zCho.to {G : zC} {h h' : zH} {k b c : Nat} {L : List (Nat × Nat)} (H : zCho G h k b c L) (h1 : h' k = h k) (h2 : h' b = h b) (h3 : h' c = h c) : zCho G h' k b c L := by
  obtain ⟨f, g, q1, q2, q3, q4⟩ := H
  exact ⟨f, g, h1.trans q1, h2.trans q2, h3.trans q3, q4⟩
theorem zCho.obj {G : zC} {h : zH} {k b c a ci : Nat} {fs : List Value} {L : List (Nat × Nat)} (H : zCho G h k b c L) (ha : h a = some (zO ci fs)) (hci : ci ≠ 2) : k ≠ a ∧ b ≠ a ∧ c ≠ a := by
  obtain ⟨f, g, q1, q2, q3, q4⟩ := H
  refine ⟨fun q => ?_, fun q => ?_, fun q => ?_⟩
  · rw [q, ha] at q1; simp at q1; exact hci q1.1
  · rw [q, ha] at q2; simp at q2
  · rw [q, ha] at q3; simp at q3
theorem zCho.arr {G : zC} {h : zH} {k b c a m : Nat} {f0 : Nat → Int32} {L : List (Nat × Nat)} (H : zCho G h k b c L) (ha : h a = some (zI G m f0)) : k ≠ a := by
  obtain ⟨f, g, q1, q2, q3, q4⟩ := H
  intro q; rw [q, ha] at q1; simp at q1
theorem zln_le {L : List (Nat × Nat)} {i : Nat} (hi : i < L.length) : zps L i + zln L i ≤ zps L L.length := by
  rw [← zps_succ hi]; exact zps_le (by omega) (Nat.le_refl _)
theorem zdec_ok {lo hi num t a l : Nat} (h1 : lo ≤ num) (h2 : num ≤ hi) (ht : 0 < t) (h3 : a ≤ ((num - lo + 1) * t - 1) / (hi - lo + 1)) (h4 : ((num - lo + 1) * t - 1) / (hi - lo + 1) < a + l) : lo + (hi - lo + 1) * a / t ≤ num ∧ num ≤ lo + (hi - lo + 1) * (a + l) / t - 1 := by
  have hp : 1 * 1 ≤ (num - lo + 1) * t := Nat.mul_le_mul (by omega) ht
  rw [Nat.le_div_iff_mul_le (by omega)] at h3
  rw [Nat.div_lt_iff_lt_mul (by omega)] at h4
  have e1 := Nat.mul_comm a (hi - lo + 1)
  have e2 := Nat.mul_comm (a + l) (hi - lo + 1)
  have q1 : (hi - lo + 1) * a / t < num - lo + 1 := by
    rw [Nat.div_lt_iff_lt_mul ht]; omega
  have q2 : num - lo + 1 ≤ (hi - lo + 1) * (a + l) / t := by
    rw [Nat.le_div_iff_mul_le ht]; omega
  omega
abbrev rX7_say_3 : Room := ⟨3, 0, 0, 120⟩
def SX7_say_3 (G : zC) : zS := fun as h n K => ∃ (a k b c x : Nat) (sm : Int32) (L : List (Nat × Nat)), as = [.ref a, .ref k] ∧ h a = some (zO 3 [.int (nI x), .int sm]) ∧ zCho G h k b c L ∧ 0 < L.length ∧ x < 2147483648 ∧ (∀ i, i < L.length → zsg L i < 2147483648) ∧ zps L L.length < 65536 ∧ ∀ i j h', zpick L x i → zcost (zln L i) (zps L L.length) j → h' a = some (zO 3 [.int (nI x), .int (sm + nI j)]) → (∀ q, q ≠ a → h' q = h q) → K (some (.int (nI (zsg L i)))) h' n
set_option maxRecDepth 100000 in
set_option maxHeartbeats 1000000 in
theorem tvX7_say_3 {G : zC} {as : List Value} {h : zH} {n : Nat} {K : zP} (hs : SX7_say_3 G as h n K) : (∃ b fs r, as = .ref b :: r ∧ h b = some (.inr (3, fs))) ∧ zCt G rX7_say_3 mX7_say as h n K := by
  obtain ⟨a, k, b, c, x, sm, L, rfl, hk, hL, h0, hx, hz, ht, hK⟩ := hs
  obtain ⟨d1, d2, d3⟩ := hL.obj hk (by decide)
  refine ⟨⟨_, _, _, rfl, hk⟩, zCt.of (by decide) (Nat.le_of_ble_eq_true rfl) ?_⟩
  refine z_aload_n dX7_say_0 rfl ?_
  refine z_aload_n dX7_say_1 rfl ?_
  refine zcall2 (zck_U (na := 1) (ci := 3) (C := RX2) (owner := "PpmTrees$Speaker") (x := ⟨"PpmTrees$Speaker", "choose", "(LPpmTrees$Choices;)I"⟩) (R' := rX2_choose) (M' := mX2_choose) (fun _ _ _ _ => tvX2_choose) (by decide) kX2_choose lUX7_7_3 (Or.inl dUX7_7) (by decide +kernel) rfl) dX7_say_2 (Nat.le_of_ble_eq_true rfl) (Nat.le_of_ble_eq_true rfl) (Nat.le_of_ble_eq_true rfl) ?_
  refine ⟨a, k, b, c, x, _, L, rfl, hk, hL, h0, hx, hz, fun i hp => ?_⟩
  have hi1 := hp.1
  have hll := zln_le hi1
  refine z_istore_n dX7_say_5 (Nat.le_of_ble_eq_true rfl) ?_
  refine z_aload_n dX7_say_6 rfl ?_
  refine z_aload_n dX7_say_7 rfl ?_
  refine z_iload_n dX7_say_8 rfl ?_
  refine zcall2 (zck_V (na := 1) (ci := 2) (R' := rX0_startAt) (M' := mX0_startAt) (fun _ _ _ _ => tvX0_startAt) (by decide) kX0_startAt lX7_13 (by decide +kernel) rfl) dX7_say_9 (Nat.le_of_ble_eq_true rfl) (Nat.le_of_ble_eq_true rfl) (Nat.le_of_ble_eq_true rfl) ?_
  refine ⟨_, _, _, _, _, rfl, hL, hi1, ?_⟩
  refine z_aload_n dX7_say_12 rfl ?_
  refine z_iload_n dX7_say_13 rfl ?_
  refine zcall2 (zck_V (na := 1) (ci := 2) (R' := rX0_lengthAt) (M' := mX0_lengthAt) (fun _ _ _ _ => tvX0_lengthAt) (by decide) kX0_lengthAt lX7_19 (by decide +kernel) rfl) dX7_say_14 (Nat.le_of_ble_eq_true rfl) (Nat.le_of_ble_eq_true rfl) (Nat.le_of_ble_eq_true rfl) ?_
  refine ⟨_, _, _, _, _, rfl, hL, hi1, ?_⟩
  refine z_aload_n dX7_say_17 rfl ?_
  refine zcall1 (zck_V (na := 0) (ci := 2) (R' := rX0_total) (M' := mX0_total) (fun _ _ _ _ => tvX0_total) (by decide) kX0_total lX7_22 (by decide +kernel) rfl) dX7_say_18 (Nat.le_of_ble_eq_true rfl) (Nat.le_of_ble_eq_true rfl) (Nat.le_of_ble_eq_true rfl) ?_
  refine ⟨_, _, _, _, rfl, hL, ?_⟩
  refine zcall4 (zck_U (na := 3) (ci := 3) (C := RX2) (owner := "PpmTrees$Speaker") (x := ⟨"PpmTrees$Speaker", "take", "(III)V"⟩) (R' := rX2_take) (M' := mX2_take) (fun _ _ _ _ => tvX2_take) (by decide) kX2_take lUX7_26_3 (Or.inl dUX7_26) (by decide +kernel) rfl) dX7_say_21 (Nat.le_of_ble_eq_true rfl) (Nat.le_of_ble_eq_true rfl) (Nat.le_of_ble_eq_true rfl) ?_
  refine ⟨a, zps L i, zln L i, zps L L.length, _, sm, rfl, hk, (by omega), ht, fun j h2 hc2 e2 o2 => ?_⟩
  have hL2 := hL.to (o2 k d1) (o2 b d2) (o2 c d3)
  refine z_aload_n dX7_say_24 rfl ?_
  refine z_iload_n dX7_say_25 rfl ?_
  refine zcall2 (zck_V (na := 1) (ci := 2) (R' := rX0_signAt) (M' := mX0_signAt) (fun _ _ _ _ => tvX0_signAt) (by decide) kX0_signAt lX7_30 (by decide +kernel) rfl) dX7_say_26 (Nat.le_of_ble_eq_true rfl) (Nat.le_of_ble_eq_true rfl) (Nat.le_of_ble_eq_true rfl) ?_
  refine ⟨_, _, _, _, _, rfl, hL2, hi1, ?_⟩
  refine z_ireturn dX7_say_29 trivial (Nat.le_of_ble_eq_true rfl) (Nat.le_of_ble_eq_true rfl) ?_
  exact hK i j h2 hp hc2 e2 o2
abbrev rX7_say_9 : Room := ⟨3, 0, 0, 120⟩
def SX7_say_9 (G : zC) : zS := fun as h n K => ∃ (a w r k b c x : Nat) (L : List (Nat × Nat)) (e : zEs), as = [.ref a, .ref k] ∧ zCd G h 9 a w r [.int (nI x)] e ∧ x < 2147483648 ∧ zCho G h k b c L ∧ b ≠ r ∧ c ≠ r ∧ 0 < L.length ∧ (∀ i, i < L.length → zsg L i < 2147483648 ∧ 0 < zln L i) ∧ zps L L.length ≤ 16384 ∧ zps L L.length ≤ e.2.2.2.1 - e.2.2.1 + 1 ∧ e.2.2.1 ≤ e.2.2.2.1 ∧ e.2.2.2.1 < 65536 ∧ e.2.1 + e.2.2.2.2 + 16 ≤ 19872 ∧ ∀ i h', zpick L x i → zCd G h' 9 a w r [.int (nI x)] (ztake e (zps L i) (zln L i) (zps L L.length)) → (∀ q, q ≠ a → q ≠ w → q ≠ r → h' q = h q) → K (some (.int (nI (zsg L i)))) h' n
set_option maxRecDepth 100000 in
set_option maxHeartbeats 1000000 in
theorem tvX7_say_9 {G : zC} {as : List Value} {h : zH} {n : Nat} {K : zP} (hs : SX7_say_9 G as h n K) : (∃ b fs r, as = .ref b :: r ∧ h b = some (.inr (9, fs))) ∧ zCt G rX7_say_9 mX7_say as h n K := by
  obtain ⟨a, w, r, k, b, c, x, L, ⟨f, p, lo, hi, held⟩, rfl, hC, hx, hL, hbr, hcr, h0, hz, ht, htw, hlh, hhi, hcap, hK⟩ := hs
  have hC0 := hC
  obtain ⟨haw, har, hwr⟩ := hC.ne (by decide)
  obtain ⟨hk, hw, hr⟩ := hC
  obtain ⟨d1, d2, d3⟩ := hL.obj hk (by decide)
  obtain ⟨d4, d5, d6⟩ := hL.obj hw (by decide)
  have d7 := hL.arr hr
  dsimp only at hk hw hr htw hlh hhi hcap
  refine ⟨⟨_, _, _, rfl, hk⟩, zCt.of (by decide) (Nat.le_of_ble_eq_true rfl) ?_⟩
  refine z_aload_n dX7_say_0 rfl ?_
  refine z_aload_n dX7_say_1 rfl ?_
  refine zcall2 (zck_U (na := 1) (ci := 9) (C := RX9) (owner := "PpmTrees$Speaker") (x := ⟨"PpmTrees$Speaker", "choose", "(LPpmTrees$Choices;)I"⟩) (R' := rX9_choose) (M' := mX9_choose) (fun _ _ _ _ => tvX9_choose) (by decide) kX9_choose lUX7_7_9 (Or.inl dUX7_7) (by decide +kernel) rfl) dX7_say_2 (Nat.le_of_ble_eq_true rfl) (Nat.le_of_ble_eq_true rfl) (Nat.le_of_ble_eq_true rfl) ?_
  refine ⟨a, k, b, c, x, _, _, _, _, _, L, rfl, hk, hL, h0, hx, (fun i hi => (hz i hi).1), fun i hp => ?_⟩
  have hi1 := hp.1
  have hll := zln_le hi1
  have hl0 := (hz i hi1).2
  refine z_istore_n dX7_say_5 (Nat.le_of_ble_eq_true rfl) ?_
  refine z_aload_n dX7_say_6 rfl ?_
  refine z_aload_n dX7_say_7 rfl ?_
  refine z_iload_n dX7_say_8 rfl ?_
  refine zcall2 (zck_V (na := 1) (ci := 2) (R' := rX0_startAt) (M' := mX0_startAt) (fun _ _ _ _ => tvX0_startAt) (by decide) kX0_startAt lX7_13 (by decide +kernel) rfl) dX7_say_9 (Nat.le_of_ble_eq_true rfl) (Nat.le_of_ble_eq_true rfl) (Nat.le_of_ble_eq_true rfl) ?_
  refine ⟨_, _, _, _, _, rfl, hL, hi1, ?_⟩
  refine z_aload_n dX7_say_12 rfl ?_
  refine z_iload_n dX7_say_13 rfl ?_
  refine zcall2 (zck_V (na := 1) (ci := 2) (R' := rX0_lengthAt) (M' := mX0_lengthAt) (fun _ _ _ _ => tvX0_lengthAt) (by decide) kX0_lengthAt lX7_19 (by decide +kernel) rfl) dX7_say_14 (Nat.le_of_ble_eq_true rfl) (Nat.le_of_ble_eq_true rfl) (Nat.le_of_ble_eq_true rfl) ?_
  refine ⟨_, _, _, _, _, rfl, hL, hi1, ?_⟩
  refine z_aload_n dX7_say_17 rfl ?_
  refine zcall1 (zck_V (na := 0) (ci := 2) (R' := rX0_total) (M' := mX0_total) (fun _ _ _ _ => tvX0_total) (by decide) kX0_total lX7_22 (by decide +kernel) rfl) dX7_say_18 (Nat.le_of_ble_eq_true rfl) (Nat.le_of_ble_eq_true rfl) (Nat.le_of_ble_eq_true rfl) ?_
  refine ⟨_, _, _, _, rfl, hL, ?_⟩
  refine zcall4 (zck_U (na := 3) (ci := 9) (C := RX9) (owner := "PpmTrees$Speaker") (x := ⟨"PpmTrees$Speaker", "take", "(III)V"⟩) (R' := rX1_take_9) (M' := mX1_take) (fun _ _ _ _ => tvX1_take_9) (by decide) kX1_take lUX7_26_9 (Or.inl dUX7_26) (by decide +kernel) rfl) dX7_say_21 (Nat.le_of_ble_eq_true rfl) (Nat.le_of_ble_eq_true rfl) (Nat.le_of_ble_eq_true rfl) ?_
  refine ⟨a, w, r, _, (f, p, lo, hi, held), zps L i, zln L i, zps L L.length, rfl, hC0, hlh, hhi, (by omega), ht, htw, hll, hl0, hcap, fun h2 c2 o2 => ?_⟩
  have hL2 := hL.to (o2 k d1 d4 d7) (o2 b d2 d5 hbr) (o2 c d3 d6 hcr)
  refine z_aload_n dX7_say_24 rfl ?_
  refine z_iload_n dX7_say_25 rfl ?_
  refine zcall2 (zck_V (na := 1) (ci := 2) (R' := rX0_signAt) (M' := mX0_signAt) (fun _ _ _ _ => tvX0_signAt) (by decide) kX0_signAt lX7_30 (by decide +kernel) rfl) dX7_say_26 (Nat.le_of_ble_eq_true rfl) (Nat.le_of_ble_eq_true rfl) (Nat.le_of_ble_eq_true rfl) ?_
  refine ⟨_, _, _, _, _, rfl, hL2, hi1, ?_⟩
  refine z_ireturn dX7_say_29 trivial (Nat.le_of_ble_eq_true rfl) (Nat.le_of_ble_eq_true rfl) ?_
  exact hK i h2 hp c2 o2
abbrev rX7_say_7 : Room := ⟨3, 0, 0, 120⟩
def SX7_say_7 (G : zC) : zS := fun as h n K => ∃ (a w r k b c s sr ms kk num tak : Nat) (g : Nat → Int32) (L : List (Nat × Nat)) (e : zEs), as = [.ref a, .ref k] ∧ zCd G h 7 a w r [.ref s, .int (nI num), .int (nI tak)] e ∧ h s = some (zO 5 [.ref sr, .int (nI kk)]) ∧ h sr = some (zI G ms g) ∧ ms < 2147483648 ∧ kk ≤ ms ∧ s ≠ w ∧ sr ≠ r ∧ tak < 1000000 ∧ e.2.2.1 ≤ num ∧ num ≤ e.2.2.2.1 ∧ zCho G h k b c L ∧ b ≠ r ∧ c ≠ r ∧ 0 < L.length ∧ (∀ i, i < L.length → zsg L i < 2147483648 ∧ 0 < zln L i) ∧ zps L L.length ≤ 16384 ∧ zps L L.length ≤ e.2.2.2.1 - e.2.2.1 + 1 ∧ e.2.2.1 ≤ e.2.2.2.1 ∧ e.2.2.2.1 < 65536 ∧ e.2.1 + e.2.2.2.2 + 16 ≤ 19872 ∧ ∀ i h', i < L.length → zps L i ≤ (((num - e.2.2.1 + 1) * zps L L.length - 1) / (e.2.2.2.1 - e.2.2.1 + 1)) → (((num - e.2.2.1 + 1) * zps L L.length - 1) / (e.2.2.2.1 - e.2.2.1 + 1)) < zps L (i + 1) → zCd G h' 7 a w r [.ref s, .int (nI (zrnum (zbn g kk) 16 (znar e (zps L i) (zln L i) (zps L L.length)).2.2.1 (znar e (zps L i) (zln L i) (zps L L.length)).2.2.2.1 num tak).1), .int (nI (zrnum (zbn g kk) 16 (znar e (zps L i) (zln L i) (zps L L.length)).2.2.1 (znar e (zps L i) (zln L i) (zps L L.length)).2.2.2.1 num tak).2)] (ztake e (zps L i) (zln L i) (zps L L.length)) → (∀ q, q ≠ a → q ≠ w → q ≠ r → h' q = h q) → K (some (.int (nI (zsg L i)))) h' n
set_option maxRecDepth 100000 in
set_option maxHeartbeats 1000000 in
theorem tvX7_say_7 {G : zC} {as : List Value} {h : zH} {n : Nat} {K : zP} (hs : SX7_say_7 G as h n K) : (∃ b fs r, as = .ref b :: r ∧ h b = some (.inr (7, fs))) ∧ zCt G rX7_say_7 mX7_say as h n K := by
  obtain ⟨a, w, r, k, b, c, s, sr, ms, kk, num, tak, g, L, ⟨f, p, lo, hi, held⟩, rfl, hC, hs1, hsr, hms, hkm, hsw, hsrr, htak, hn1, hn2, hL, hbr, hcr, h0, hz, ht, htw, hlh, hhi, hcap, hK⟩ := hs
  have hC0 := hC
  obtain ⟨haw, har, hwr⟩ := hC.ne (by decide)
  obtain ⟨hk, hw, hr⟩ := hC
  obtain ⟨d1, d2, d3⟩ := hL.obj hk (by decide)
  obtain ⟨d4, d5, d6⟩ := hL.obj hw (by decide)
  have d7 := hL.arr hr
  dsimp only at hk hw hr htw hlh hhi hcap hn1 hn2
  dsimp only at hK
  have hpos : 0 < zps L L.length := Nat.lt_of_lt_of_le (hz 0 h0).2 (Nat.le_trans (Nat.le_add_left _ _) (zln_le h0))
  refine ⟨⟨_, _, _, rfl, hk⟩, zCt.of (by decide) (Nat.le_of_ble_eq_true rfl) ?_⟩
  refine z_aload_n dX7_say_0 rfl ?_
  refine z_aload_n dX7_say_1 rfl ?_
  refine zcall2 (zck_U (na := 1) (ci := 7) (C := RX6) (owner := "PpmTrees$Speaker") (x := ⟨"PpmTrees$Speaker", "choose", "(LPpmTrees$Choices;)I"⟩) (R' := rX6_choose) (M' := mX6_choose) (fun _ _ _ _ => tvX6_choose) (by decide) kX6_choose lUX7_7_7 (Or.inl dUX7_7) (by decide +kernel) rfl) dX7_say_2 (Nat.le_of_ble_eq_true rfl) (Nat.le_of_ble_eq_true rfl) (Nat.le_of_ble_eq_true rfl) ?_
  refine ⟨a, w, r, k, b, c, num, _, _, L, (f, p, lo, hi, held), rfl, hC0, hL, hn1, hn2, hhi, hpos, ht, fun i hi1 v1 v2 => ?_⟩
  dsimp only at v1 v2
  have hll := zln_le hi1
  have hl0 := (hz i hi1).2
  have v3 := v2
  rw [zps_succ hi1] at v3
  obtain ⟨w1, w2⟩ := zdec_ok hn1 hn2 hpos v1 v3
  refine z_istore_n dX7_say_5 (Nat.le_of_ble_eq_true rfl) ?_
  refine z_aload_n dX7_say_6 rfl ?_
  refine z_aload_n dX7_say_7 rfl ?_
  refine z_iload_n dX7_say_8 rfl ?_
  refine zcall2 (zck_V (na := 1) (ci := 2) (R' := rX0_startAt) (M' := mX0_startAt) (fun _ _ _ _ => tvX0_startAt) (by decide) kX0_startAt lX7_13 (by decide +kernel) rfl) dX7_say_9 (Nat.le_of_ble_eq_true rfl) (Nat.le_of_ble_eq_true rfl) (Nat.le_of_ble_eq_true rfl) ?_
  refine ⟨_, _, _, _, _, rfl, hL, hi1, ?_⟩
  refine z_aload_n dX7_say_12 rfl ?_
  refine z_iload_n dX7_say_13 rfl ?_
  refine zcall2 (zck_V (na := 1) (ci := 2) (R' := rX0_lengthAt) (M' := mX0_lengthAt) (fun _ _ _ _ => tvX0_lengthAt) (by decide) kX0_lengthAt lX7_19 (by decide +kernel) rfl) dX7_say_14 (Nat.le_of_ble_eq_true rfl) (Nat.le_of_ble_eq_true rfl) (Nat.le_of_ble_eq_true rfl) ?_
  refine ⟨_, _, _, _, _, rfl, hL, hi1, ?_⟩
  refine z_aload_n dX7_say_17 rfl ?_
  refine zcall1 (zck_V (na := 0) (ci := 2) (R' := rX0_total) (M' := mX0_total) (fun _ _ _ _ => tvX0_total) (by decide) kX0_total lX7_22 (by decide +kernel) rfl) dX7_say_18 (Nat.le_of_ble_eq_true rfl) (Nat.le_of_ble_eq_true rfl) (Nat.le_of_ble_eq_true rfl) ?_
  refine ⟨_, _, _, _, rfl, hL, ?_⟩
  refine zcall4 (zck_U (na := 3) (ci := 7) (C := RX6) (owner := "PpmTrees$Speaker") (x := ⟨"PpmTrees$Speaker", "take", "(III)V"⟩) (R' := rX1_take_7) (M' := mX1_take) (fun _ _ _ _ => tvX1_take_7) (by decide) kX1_take lUX7_26_7 (Or.inl dUX7_26) (by decide +kernel) rfl) dX7_say_21 (Nat.le_of_ble_eq_true rfl) (Nat.le_of_ble_eq_true rfl) (Nat.le_of_ble_eq_true rfl) ?_
  refine ⟨a, w, r, s, sr, ms, kk, num, tak, g, (f, p, lo, hi, held), zps L i, zln L i, zps L L.length, rfl, hC0, hs1, hsr, hms, hkm, hsw, hsrr, htak, w1, w2, hlh, hhi, hpos, ht, htw, hll, hl0, hcap, fun h2 c2 o2 => ?_⟩
  have hL2 := hL.to (o2 k d1 d4 d7) (o2 b d2 d5 hbr) (o2 c d3 d6 hcr)
  refine z_aload_n dX7_say_24 rfl ?_
  refine z_iload_n dX7_say_25 rfl ?_
  refine zcall2 (zck_V (na := 1) (ci := 2) (R' := rX0_signAt) (M' := mX0_signAt) (fun _ _ _ _ => tvX0_signAt) (by decide) kX0_signAt lX7_30 (by decide +kernel) rfl) dX7_say_26 (Nat.le_of_ble_eq_true rfl) (Nat.le_of_ble_eq_true rfl) (Nat.le_of_ble_eq_true rfl) ?_
  refine ⟨_, _, _, _, _, rfl, hL2, hi1, ?_⟩
  refine z_ireturn dX7_say_29 trivial (Nat.le_of_ble_eq_true rfl) (Nat.le_of_ble_eq_true rfl) ?_
  exact hK i h2 hi1 v1 v2 c2 o2

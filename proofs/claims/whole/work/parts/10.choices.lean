/-! Octets: the first difference; the constructor -/
theorem znmin {a b : Nat} (ha : a < 2147483648) (hb : b < 2147483648) : (if nI b < nI a then nI b else nI a) = nI (min a b) := by
  by_cases h : b < a
  · rw [if_pos (nI_lt h ha), Nat.min_eq_right (by omega)]
  · rw [if_neg (nI_nlt (by omega) hb), Nat.min_eq_left (by omega)]
def zfr (i m k1 k2 : Nat) : Int32 := if i < m then nI i else if k1 = k2 then -1 else nI m
abbrev rX4_firstDifference : Room := ⟨1, 0, 0, 40⟩
def SX4_firstDifference (G : zC) : zS := fun as h n K => ∃ (a b r t m1 m2 k1 k2 : Nat) (f g : Nat → Int32), as = [.ref a, .ref b] ∧ h a = some (zO 5 [.ref r, .int (nI k1)]) ∧ h b = some (zO 5 [.ref t, .int (nI k2)]) ∧ h r = some (zI G m1 f) ∧ h t = some (zI G m2 g) ∧ m1 < 2147483648 ∧ m2 < 2147483648 ∧ k1 ≤ m1 ∧ k2 ≤ m2 ∧ ∀ i, i ≤ min k1 k2 → (∀ j, j < i → f j = g j) → (i < min k1 k2 → f i ≠ g i) → K (some (.int (zfr i (min k1 k2) k1 k2))) h n
set_option maxRecDepth 100000 in
theorem tvX4_firstDifference {G : zC} {as : List Value} {h : zH} {n : Nat} {K : zP} (hs : SX4_firstDifference G as h n K) : (∃ b fs r, as = .ref b :: r ∧ h b = some (.inr (5, fs))) ∧ zCt G rX4_firstDifference mX4_firstDifference as h n K := by
  obtain ⟨a, b, r, t, m1, m2, k1, k2, f, g, rfl, ha, hb, hr, ht, hm1, hm2, hk1, hk2, hK⟩ := hs
  refine ⟨⟨_, _, _, rfl, ha⟩, zCt.of (by decide) (Nat.le_of_ble_eq_true rfl) ?_⟩
  have loop : ∀ (d i : Nat), i ≤ min k1 k2 → min k1 k2 - i < d → (∀ j, j < i → f j = g j) → zZ (zXm G rX4_firstDifference mX4_firstDifference [.ref a, .ref b] h n K) 14 [(0, .ref a), (1, .ref b), (2, .int (nI (min k1 k2))), (3, .int (nI i))] [] h n 0 0 := by
    intro d
    induction d with
    | zero => intro i h1 h2; omega
    | succ d ih =>
      intro i hi hd hp
      refine z_iload_n dX4_firstDifference_14 rfl ?_
      refine z_iload_n dX4_firstDifference_15 rfl ?_
      refine z_icmp_ge (t := 46) dX4_firstDifference_16 (by decide) (fun q16 => ?_) (fun q16 => ?_)
      · rw [nI_leI (by omega) (by omega)] at q16
        have hii : i = min k1 k2 := by omega
        have hK := hK i hi hp (fun q => by omega)
        rw [zfr, if_neg (by omega)] at hK
        refine z_aload_n dX4_firstDifference_46 rfl ?_
        refine z_getfield dX4_firstDifference_47 fX4_21_5 rfl (by first | assumption | exact zget_eq | exact zget_ne (by first | assumption | exact Ne.symm (by assumption) | omega) (by first | assumption | exact zget_eq | exact zget_ne (by first | assumption | exact Ne.symm (by assumption) | omega) (by first | assumption | exact zget_eq | exact zget_ne (by first | assumption | exact Ne.symm (by assumption) | omega) (by first | assumption | exact zget_eq)))) rfl ?_
        refine z_aload_n dX4_firstDifference_50 rfl ?_
        refine z_getfield dX4_firstDifference_51 fX4_21_5 rfl (by first | assumption | exact zget_eq | exact zget_ne (by first | assumption | exact Ne.symm (by assumption) | omega) (by first | assumption | exact zget_eq | exact zget_ne (by first | assumption | exact Ne.symm (by assumption) | omega) (by first | assumption | exact zget_eq | exact zget_ne (by first | assumption | exact Ne.symm (by assumption) | omega) (by first | assumption | exact zget_eq)))) rfl ?_
        refine z_icmp_ne (t := 61) dX4_firstDifference_54 (by decide) (fun q54 => ?_) (fun q54 => ?_)
        · rw [nI_eq (by omega) (by omega)] at q54
          rw [if_neg q54] at hK
          refine z_iload_n dX4_firstDifference_61 rfl ?_
          refine z_ireturn dX4_firstDifference_62 trivial (Nat.le_of_ble_eq_true rfl) (Nat.le_of_ble_eq_true rfl) ?_
          exact hK
        · rw [nI_eq (by omega) (by omega)] at q54
          rw [if_pos q54] at hK
          refine z_iconst (w := -1) dX4_firstDifference_57 (by decide) ?_
          refine z_goto (t := 62) dX4_firstDifference_58 (by decide) ?_
          refine z_ireturn dX4_firstDifference_62 trivial (Nat.le_of_ble_eq_true rfl) (Nat.le_of_ble_eq_true rfl) ?_
          exact hK
      · rw [nI_leI (by omega) (by omega)] at q16
        refine z_aload_n dX4_firstDifference_19 rfl ?_
        refine z_getfield dX4_firstDifference_20 fX4_15_5 rfl (by first | assumption | exact zget_eq | exact zget_ne (by first | assumption | exact Ne.symm (by assumption) | omega) (by first | assumption | exact zget_eq | exact zget_ne (by first | assumption | exact Ne.symm (by assumption) | omega) (by first | assumption | exact zget_eq | exact zget_ne (by first | assumption | exact Ne.symm (by assumption) | omega) (by first | assumption | exact zget_eq)))) rfl ?_
        refine z_iload_n dX4_firstDifference_23 rfl ?_
        refine zcall2 (zck_SN (R' := rX10_at) (M' := mX10_at) (fun _ _ _ _ => tX10_at) kX10_at lX4_25 nX4_25 (by decide +kernel) rfl) dX4_firstDifference_24 (Nat.le_of_ble_eq_true rfl) (Nat.le_of_ble_eq_true rfl) (Nat.le_of_ble_eq_true rfl) ?_
        refine ⟨_, _, _, _, rfl, (by first | assumption | exact zget_eq | exact zget_ne (by first | assumption | exact Ne.symm (by assumption) | omega) (by first | assumption | exact zget_eq | exact zget_ne (by first | assumption | exact Ne.symm (by assumption) | omega) (by first | assumption | exact zget_eq | exact zget_ne (by first | assumption | exact Ne.symm (by assumption) | omega) (by first | assumption | exact zget_eq)))), (by first | assumption | omega), ?_⟩
        refine z_aload_n dX4_firstDifference_27 rfl ?_
        refine z_getfield dX4_firstDifference_28 fX4_15_5 rfl (by first | assumption | exact zget_eq | exact zget_ne (by first | assumption | exact Ne.symm (by assumption) | omega) (by first | assumption | exact zget_eq | exact zget_ne (by first | assumption | exact Ne.symm (by assumption) | omega) (by first | assumption | exact zget_eq | exact zget_ne (by first | assumption | exact Ne.symm (by assumption) | omega) (by first | assumption | exact zget_eq)))) rfl ?_
        refine z_iload_n dX4_firstDifference_31 rfl ?_
        refine zcall2 (zck_SN (R' := rX10_at) (M' := mX10_at) (fun _ _ _ _ => tX10_at) kX10_at lX4_25 nX4_25 (by decide +kernel) rfl) dX4_firstDifference_32 (Nat.le_of_ble_eq_true rfl) (Nat.le_of_ble_eq_true rfl) (Nat.le_of_ble_eq_true rfl) ?_
        refine ⟨_, _, _, _, rfl, (by first | assumption | exact zget_eq | exact zget_ne (by first | assumption | exact Ne.symm (by assumption) | omega) (by first | assumption | exact zget_eq | exact zget_ne (by first | assumption | exact Ne.symm (by assumption) | omega) (by first | assumption | exact zget_eq | exact zget_ne (by first | assumption | exact Ne.symm (by assumption) | omega) (by first | assumption | exact zget_eq)))), (by first | assumption | omega), ?_⟩
        rw [zat_in (by omega) hm1, zat_in (by omega) hm2]
        refine z_icmp_eq (t := 40) dX4_firstDifference_35 (by decide) (fun q35 => ?_) (fun q35 => ?_)
        · refine z_iinc dX4_firstDifference_40 rfl (Nat.le_of_ble_eq_true rfl) ?_
          rw [show nI i + Int32.ofInt 1 = nI (i + 1) from nI_1 i]
          refine z_goto (t := 14) dX4_firstDifference_43 (by decide) ?_
          exact ih (i + 1) (by omega) (by omega) (fun j hj => by rcases Nat.lt_or_ge j i with q | q; exact hp j q; rw [show j = i by omega]; exact q35)
        · have hK := hK i hi hp (fun _ => q35)
          rw [zfr, if_pos (by omega)] at hK
          refine z_iload_n dX4_firstDifference_38 rfl ?_
          refine z_ireturn dX4_firstDifference_39 trivial (Nat.le_of_ble_eq_true rfl) (Nat.le_of_ble_eq_true rfl) ?_
          exact hK
  refine z_aload_n dX4_firstDifference_0 rfl ?_
  refine z_getfield dX4_firstDifference_1 fX4_21_5 rfl (by first | assumption | exact zget_eq | exact zget_ne (by first | assumption | exact Ne.symm (by assumption) | omega) (by first | assumption | exact zget_eq | exact zget_ne (by first | assumption | exact Ne.symm (by assumption) | omega) (by first | assumption | exact zget_eq | exact zget_ne (by first | assumption | exact Ne.symm (by assumption) | omega) (by first | assumption | exact zget_eq)))) rfl ?_
  refine z_aload_n dX4_firstDifference_4 rfl ?_
  refine z_getfield dX4_firstDifference_5 fX4_21_5 rfl (by first | assumption | exact zget_eq | exact zget_ne (by first | assumption | exact Ne.symm (by assumption) | omega) (by first | assumption | exact zget_eq | exact zget_ne (by first | assumption | exact Ne.symm (by assumption) | omega) (by first | assumption | exact zget_eq | exact zget_ne (by first | assumption | exact Ne.symm (by assumption) | omega) (by first | assumption | exact zget_eq)))) rfl ?_
  refine zcall2 (zck_min lX4_33 kJmin rfl) dX4_firstDifference_8 (Nat.le_of_ble_eq_true rfl) (Nat.le_of_ble_eq_true rfl) (Nat.le_of_ble_eq_true rfl) ?_
  refine ⟨_, _, rfl, ?_⟩
  rw [znmin (by omega) (by omega)]
  refine z_istore_n dX4_firstDifference_11 (Nat.le_of_ble_eq_true rfl) ?_
  refine z_iconst (w := 0) dX4_firstDifference_12 (by decide) ?_
  refine z_istore_n dX4_firstDifference_13 (Nat.le_of_ble_eq_true rfl) ?_
  exact loop _ 0 (Nat.zero_le _) (Nat.lt_succ_self _) (fun j hj => absurd hj (Nat.not_lt_zero _))
abbrev rX4_init (m : Nat) : Room := ⟨1, 1, m, 40⟩
def SX4_init (G : zC) (m : Nat) : zS := fun as h n K => ∃ (a : Nat), as = [.ref a, .int (nI m)] ∧ h a = some (zO 5 [.null, .int 0]) ∧ a < n ∧ m ≤ 100000 ∧ ∀ h', h' a = some (zO 5 [.ref n, .int 0]) → h' n = some (zI G m (fun _ => 0)) → (∀ q, q ≠ a → q ≠ n → h' q = h q) → K none h' (n + 1)
theorem znmax0 {a : Nat} (ha : a < 2147483648) : (if (0 : Int32) < nI a then nI a else 0) = nI a := by
  rcases Nat.eq_zero_or_pos a with rfl | h
  · decide
  · rw [if_pos]
    have := nI_lt h ha
    rwa [nI_0] at this
set_option maxRecDepth 100000 in
theorem tiX4_init {G : zC} {m : Nat} {as : List Value} {h : zH} {n : Nat} {K : zP} (hs : SX4_init G m as h n K) : (∃ b r, as = .ref b :: r) ∧ zCt G (rX4_init m) mX4_init as h n K := by
  obtain ⟨a, rfl, hk, han, hm, hK⟩ := hs
  have hne : a ≠ n := by omega
  refine ⟨⟨_, _, rfl⟩, zCt.of (by decide) (Nat.le_of_ble_eq_true rfl) ?_⟩
  refine z_aload_n dX4_init_0 rfl ?_
  refine zcall1 (zck_O lX4_3 kJobj rfl) dX4_init_1 (Nat.le_of_ble_eq_true rfl) (by first | exact Nat.le_of_ble_eq_true rfl | exact Nat.zero_le _) (Nat.le_of_ble_eq_true rfl) ?_
  refine ⟨⟨_, rfl⟩, ?_⟩
  refine z_aload_n dX4_init_4 rfl ?_
  refine z_iconst (w := 0) dX4_init_5 (by decide) ?_
  refine z_iload_n dX4_init_6 rfl ?_
  refine zcall2 (zck_max lX4_9 kJmax rfl) dX4_init_7 (Nat.le_of_ble_eq_true rfl) (by first | exact Nat.le_of_ble_eq_true rfl | exact Nat.zero_le _) (Nat.le_of_ble_eq_true rfl) ?_
  refine ⟨_, _, rfl, ?_⟩
  rw [znmax0 (by omega)]
  refine z_newi dX4_init_10 zwI (nI_pos (by omega)) (by rw [nI_clamp (by omega)]; omega) (Nat.le_of_ble_eq_true rfl) (by rw [nI_clamp (by omega)]; show 0 + m ≤ m; omega) ?_
  refine z_putfield dX4_init_12 fiX4_15_5 rfl (fun _ => rfl) (by first | assumption | exact zget_eq | exact zget_ne (by first | assumption | exact Ne.symm (by assumption) | omega) (by first | assumption | exact zget_eq | exact zget_ne (by first | assumption | exact Ne.symm (by assumption) | omega) (by first | assumption | exact zget_eq | exact zget_ne (by first | assumption | exact Ne.symm (by assumption) | omega) (by first | assumption | exact zget_eq)))) (Nat.le_of_ble_eq_true rfl) (Or.inr (Or.inl ⟨rfl, _, rfl⟩)) ?_
  refine z_vreturn dX4_init_15 rfl (Nat.le_of_ble_eq_true rfl) (by rw [nI_clamp (by omega)]; show 0 + 0 + m ≤ m; omega) ?_
  exact hK _ (by simp [va_up]) (by rw [zup_ne (Ne.symm hne), zget_eq, nI_clamp (by omega)]) (fun q h1 h2 => by simp [va_up, h1, h2])
/-! Choices: a list of signs and lengths -/
def zsg (L : List (Nat × Nat)) (i : Nat) : Nat := (L.getD i (0, 0)).1
def zln (L : List (Nat × Nat)) (i : Nat) : Nat := (L.getD i (0, 0)).2
def zps (L : List (Nat × Nat)) (i : Nat) : Nat := ((L.take i).map Prod.snd).sum
theorem zps_0 (L : List (Nat × Nat)) : zps L 0 = 0 := by simp [zps]
theorem zps_succ {L : List (Nat × Nat)} {i : Nat} (h : i < L.length) : zps L (i + 1) = zps L i + zln L i := by
  unfold zps zln
  rw [List.take_add_one, List.getElem?_eq_getElem h, List.map_append, List.sum_append]
  congr 1
  simp [List.getD_eq_getElem?_getD, h]
theorem zps_app {L : List (Nat × Nat)} {p : Nat × Nat} {i : Nat} (h : i ≤ L.length) : zps (L ++ [p]) i = zps L i := by
  unfold zps
  rw [List.take_append_of_le_length h]
theorem zps_last (L : List (Nat × Nat)) (p : Nat × Nat) : zps (L ++ [p]) (L.length + 1) = zps L L.length + p.2 := by
  unfold zps
  rw [List.take_of_length_le (by simp), List.take_length]
  simp
theorem zsg_app {L : List (Nat × Nat)} {p : Nat × Nat} {i : Nat} (h : i < L.length) : zsg (L ++ [p]) i = zsg L i := by
  simp [zsg, List.getD_eq_getElem?_getD, List.getElem?_append_left h]
theorem zsg_last (L : List (Nat × Nat)) (p : Nat × Nat) : zsg (L ++ [p]) L.length = p.1 := by
  simp [zsg, List.getD_eq_getElem?_getD]
theorem zps_le {L : List (Nat × Nat)} {i j : Nat} (h : i ≤ j) (hj : j ≤ L.length) : zps L i ≤ zps L j := by
  induction j with
  | zero => rw [show i = 0 by omega]; exact Nat.le_refl _
  | succ j ih =>
    rcases Nat.eq_or_lt_of_le h with e | e
    · rw [e]; exact Nat.le_refl _
    · have := ih (by omega) (by omega)
      rw [zps_succ (by omega)]
      omega
def zCho (G : zC) (h : zH) (k a b : Nat) (L : List (Nat × Nat)) : Prop := ∃ f g, h k = some (zO 2 [.ref a, .ref b, .int (nI L.length)]) ∧ h a = some (zI G 257 f) ∧ h b = some (zI G 258 g) ∧ a ≠ b ∧ (∀ i, i < L.length → f i = nI (zsg L i)) ∧ (∀ i, i ≤ L.length → g i = nI (zps L i)) ∧ L.length ≤ 257
abbrev rX0_many : Room := ⟨0, 0, 0, 0⟩
def SX0_many (G : zC) : zS := fun as h n K => ∃ (k a b : Nat) (L : List (Nat × Nat)), as = [.ref k] ∧ zCho G h k a b L ∧ K (some (.int (nI L.length))) h n
set_option maxRecDepth 100000 in
theorem tvX0_many {G : zC} {as : List Value} {h : zH} {n : Nat} {K : zP} (hs : SX0_many G as h n K) : (∃ b fs r, as = .ref b :: r ∧ h b = some (.inr (2, fs))) ∧ zCt G rX0_many mX0_many as h n K := by
  obtain ⟨k, a, b, L, rfl, hC, hK⟩ := hs
  obtain ⟨f, g, hk, ha, hb, hab, hf, hg, hl⟩ := hC
  refine ⟨⟨_, _, _, rfl, hk⟩, zCt.of (by decide) (Nat.le_of_ble_eq_true rfl) ?_⟩
  refine z_aload_n dX0_many_0 rfl ?_
  refine z_getfield dX0_many_1 fX0_18_2 rfl (by first | assumption | exact zget_eq | exact zget_ne (by first | assumption | exact Ne.symm (by assumption) | omega) (by first | assumption | exact zget_eq | exact zget_ne (by first | assumption | exact Ne.symm (by assumption) | omega) (by first | assumption | exact zget_eq | exact zget_ne (by first | assumption | exact Ne.symm (by assumption) | omega) (by first | assumption | exact zget_eq)))) rfl ?_
  refine z_ireturn dX0_many_4 trivial (Nat.le_of_ble_eq_true rfl) (Nat.le_of_ble_eq_true rfl) ?_
  exact hK
abbrev rX0_total : Room := ⟨1, 0, 0, 40⟩
def SX0_total (G : zC) : zS := fun as h n K => ∃ (k a b : Nat) (L : List (Nat × Nat)), as = [.ref k] ∧ zCho G h k a b L ∧ K (some (.int (nI (zps L L.length)))) h n
set_option maxRecDepth 100000 in
theorem tvX0_total {G : zC} {as : List Value} {h : zH} {n : Nat} {K : zP} (hs : SX0_total G as h n K) : (∃ b fs r, as = .ref b :: r ∧ h b = some (.inr (2, fs))) ∧ zCt G rX0_total mX0_total as h n K := by
  obtain ⟨k, a, b, L, rfl, hC, hK⟩ := hs
  obtain ⟨f, g, hk, ha, hb, hab, hf, hg, hl⟩ := hC
  refine ⟨⟨_, _, _, rfl, hk⟩, zCt.of (by decide) (Nat.le_of_ble_eq_true rfl) ?_⟩
  refine z_aload_n dX0_total_0 rfl ?_
  refine z_getfield dX0_total_1 fX0_15_2 rfl (by first | assumption | exact zget_eq | exact zget_ne (by first | assumption | exact Ne.symm (by assumption) | omega) (by first | assumption | exact zget_eq | exact zget_ne (by first | assumption | exact Ne.symm (by assumption) | omega) (by first | assumption | exact zget_eq | exact zget_ne (by first | assumption | exact Ne.symm (by assumption) | omega) (by first | assumption | exact zget_eq)))) rfl ?_
  refine z_aload_n dX0_total_4 rfl ?_
  refine z_getfield dX0_total_5 fX0_18_2 rfl (by first | assumption | exact zget_eq | exact zget_ne (by first | assumption | exact Ne.symm (by assumption) | omega) (by first | assumption | exact zget_eq | exact zget_ne (by first | assumption | exact Ne.symm (by assumption) | omega) (by first | assumption | exact zget_eq | exact zget_ne (by first | assumption | exact Ne.symm (by assumption) | omega) (by first | assumption | exact zget_eq)))) rfl ?_
  refine zcall2 (zck_SN (R' := rX10_at) (M' := mX10_at) (fun _ _ _ _ => tX10_at) kX10_at lX0_26 nX0_26 (by decide +kernel) rfl) dX0_total_8 (Nat.le_of_ble_eq_true rfl) (Nat.le_of_ble_eq_true rfl) (Nat.le_of_ble_eq_true rfl) ?_
  refine ⟨_, _, _, _, rfl, (by first | assumption | exact zget_eq | exact zget_ne (by first | assumption | exact Ne.symm (by assumption) | omega) (by first | assumption | exact zget_eq | exact zget_ne (by first | assumption | exact Ne.symm (by assumption) | omega) (by first | assumption | exact zget_eq | exact zget_ne (by first | assumption | exact Ne.symm (by assumption) | omega) (by first | assumption | exact zget_eq)))), (by first | assumption | omega), ?_⟩
  refine z_ireturn dX0_total_11 trivial (Nat.le_of_ble_eq_true rfl) (Nat.le_of_ble_eq_true rfl) ?_
  rw [zat_in (by omega) (by omega), hg _ (Nat.le_refl _)]
  exact hK
abbrev rX0_signAt : Room := ⟨1, 0, 0, 40⟩
def SX0_signAt (G : zC) : zS := fun as h n K => ∃ (k a b : Nat) (L : List (Nat × Nat)) (i : Nat), as = [.ref k, .int (nI i)] ∧ zCho G h k a b L ∧ i < L.length ∧ K (some (.int (nI (zsg L i)))) h n
set_option maxRecDepth 100000 in
theorem tvX0_signAt {G : zC} {as : List Value} {h : zH} {n : Nat} {K : zP} (hs : SX0_signAt G as h n K) : (∃ b fs r, as = .ref b :: r ∧ h b = some (.inr (2, fs))) ∧ zCt G rX0_signAt mX0_signAt as h n K := by
  obtain ⟨k, a, b, L, i, rfl, hC, hi, hK⟩ := hs
  obtain ⟨f, g, hk, ha, hb, hab, hf, hg, hl⟩ := hC
  refine ⟨⟨_, _, _, rfl, hk⟩, zCt.of (by decide) (Nat.le_of_ble_eq_true rfl) ?_⟩
  refine z_aload_n dX0_signAt_0 rfl ?_
  refine z_getfield dX0_signAt_1 fX0_9_2 rfl (by first | assumption | exact zget_eq | exact zget_ne (by first | assumption | exact Ne.symm (by assumption) | omega) (by first | assumption | exact zget_eq | exact zget_ne (by first | assumption | exact Ne.symm (by assumption) | omega) (by first | assumption | exact zget_eq | exact zget_ne (by first | assumption | exact Ne.symm (by assumption) | omega) (by first | assumption | exact zget_eq)))) rfl ?_
  refine z_iload_n dX0_signAt_4 rfl ?_
  refine zcall2 (zck_SN (R' := rX10_at) (M' := mX10_at) (fun _ _ _ _ => tX10_at) kX10_at lX0_26 nX0_26 (by decide +kernel) rfl) dX0_signAt_5 (Nat.le_of_ble_eq_true rfl) (Nat.le_of_ble_eq_true rfl) (Nat.le_of_ble_eq_true rfl) ?_
  refine ⟨_, _, _, _, rfl, (by first | assumption | exact zget_eq | exact zget_ne (by first | assumption | exact Ne.symm (by assumption) | omega) (by first | assumption | exact zget_eq | exact zget_ne (by first | assumption | exact Ne.symm (by assumption) | omega) (by first | assumption | exact zget_eq | exact zget_ne (by first | assumption | exact Ne.symm (by assumption) | omega) (by first | assumption | exact zget_eq)))), (by first | assumption | omega), ?_⟩
  refine z_ireturn dX0_signAt_8 trivial (Nat.le_of_ble_eq_true rfl) (Nat.le_of_ble_eq_true rfl) ?_
  rw [zat_in (by omega) (by omega), hf _ hi]
  exact hK
abbrev rX0_startAt : Room := ⟨1, 0, 0, 40⟩
def SX0_startAt (G : zC) : zS := fun as h n K => ∃ (k a b : Nat) (L : List (Nat × Nat)) (i : Nat), as = [.ref k, .int (nI i)] ∧ zCho G h k a b L ∧ i < L.length ∧ K (some (.int (nI (zps L i)))) h n
set_option maxRecDepth 100000 in
theorem tvX0_startAt {G : zC} {as : List Value} {h : zH} {n : Nat} {K : zP} (hs : SX0_startAt G as h n K) : (∃ b fs r, as = .ref b :: r ∧ h b = some (.inr (2, fs))) ∧ zCt G rX0_startAt mX0_startAt as h n K := by
  obtain ⟨k, a, b, L, i, rfl, hC, hi, hK⟩ := hs
  obtain ⟨f, g, hk, ha, hb, hab, hf, hg, hl⟩ := hC
  refine ⟨⟨_, _, _, rfl, hk⟩, zCt.of (by decide) (Nat.le_of_ble_eq_true rfl) ?_⟩
  refine z_aload_n dX0_startAt_0 rfl ?_
  refine z_getfield dX0_startAt_1 fX0_15_2 rfl (by first | assumption | exact zget_eq | exact zget_ne (by first | assumption | exact Ne.symm (by assumption) | omega) (by first | assumption | exact zget_eq | exact zget_ne (by first | assumption | exact Ne.symm (by assumption) | omega) (by first | assumption | exact zget_eq | exact zget_ne (by first | assumption | exact Ne.symm (by assumption) | omega) (by first | assumption | exact zget_eq)))) rfl ?_
  refine z_iload_n dX0_startAt_4 rfl ?_
  refine zcall2 (zck_SN (R' := rX10_at) (M' := mX10_at) (fun _ _ _ _ => tX10_at) kX10_at lX0_26 nX0_26 (by decide +kernel) rfl) dX0_startAt_5 (Nat.le_of_ble_eq_true rfl) (Nat.le_of_ble_eq_true rfl) (Nat.le_of_ble_eq_true rfl) ?_
  refine ⟨_, _, _, _, rfl, (by first | assumption | exact zget_eq | exact zget_ne (by first | assumption | exact Ne.symm (by assumption) | omega) (by first | assumption | exact zget_eq | exact zget_ne (by first | assumption | exact Ne.symm (by assumption) | omega) (by first | assumption | exact zget_eq | exact zget_ne (by first | assumption | exact Ne.symm (by assumption) | omega) (by first | assumption | exact zget_eq)))), (by first | assumption | omega), ?_⟩
  refine z_ireturn dX0_startAt_8 trivial (Nat.le_of_ble_eq_true rfl) (Nat.le_of_ble_eq_true rfl) ?_
  rw [zat_in (by omega) (by omega), hg _ (by omega)]
  exact hK
abbrev rX0_lengthAt : Room := ⟨1, 0, 0, 40⟩
def SX0_lengthAt (G : zC) : zS := fun as h n K => ∃ (k a b : Nat) (L : List (Nat × Nat)) (i : Nat), as = [.ref k, .int (nI i)] ∧ zCho G h k a b L ∧ i < L.length ∧ K (some (.int (nI (zln L i)))) h n
set_option maxRecDepth 100000 in
theorem tvX0_lengthAt {G : zC} {as : List Value} {h : zH} {n : Nat} {K : zP} (hs : SX0_lengthAt G as h n K) : (∃ b fs r, as = .ref b :: r ∧ h b = some (.inr (2, fs))) ∧ zCt G rX0_lengthAt mX0_lengthAt as h n K := by
  obtain ⟨k, a, b, L, i, rfl, hC, hi, hK⟩ := hs
  obtain ⟨f, g, hk, ha, hb, hab, hf, hg, hl⟩ := hC
  refine ⟨⟨_, _, _, rfl, hk⟩, zCt.of (by decide) (Nat.le_of_ble_eq_true rfl) ?_⟩
  refine z_aload_n dX0_lengthAt_0 rfl ?_
  refine z_getfield dX0_lengthAt_1 fX0_15_2 rfl (by first | assumption | exact zget_eq | exact zget_ne (by first | assumption | exact Ne.symm (by assumption) | omega) (by first | assumption | exact zget_eq | exact zget_ne (by first | assumption | exact Ne.symm (by assumption) | omega) (by first | assumption | exact zget_eq | exact zget_ne (by first | assumption | exact Ne.symm (by assumption) | omega) (by first | assumption | exact zget_eq)))) rfl ?_
  refine z_iload_n dX0_lengthAt_4 rfl ?_
  refine z_iconst (w := 1) dX0_lengthAt_5 (by decide) ?_
  refine z_iadd dX0_lengthAt_6 ?_
  rw [nI_1]
  refine zcall2 (zck_SN (R' := rX10_at) (M' := mX10_at) (fun _ _ _ _ => tX10_at) kX10_at lX0_26 nX0_26 (by decide +kernel) rfl) dX0_lengthAt_7 (Nat.le_of_ble_eq_true rfl) (Nat.le_of_ble_eq_true rfl) (Nat.le_of_ble_eq_true rfl) ?_
  refine ⟨_, _, _, _, rfl, (by first | assumption | exact zget_eq | exact zget_ne (by first | assumption | exact Ne.symm (by assumption) | omega) (by first | assumption | exact zget_eq | exact zget_ne (by first | assumption | exact Ne.symm (by assumption) | omega) (by first | assumption | exact zget_eq | exact zget_ne (by first | assumption | exact Ne.symm (by assumption) | omega) (by first | assumption | exact zget_eq)))), (by first | assumption | omega), ?_⟩
  refine z_aload_n dX0_lengthAt_10 rfl ?_
  refine z_getfield dX0_lengthAt_11 fX0_15_2 rfl (by first | assumption | exact zget_eq | exact zget_ne (by first | assumption | exact Ne.symm (by assumption) | omega) (by first | assumption | exact zget_eq | exact zget_ne (by first | assumption | exact Ne.symm (by assumption) | omega) (by first | assumption | exact zget_eq | exact zget_ne (by first | assumption | exact Ne.symm (by assumption) | omega) (by first | assumption | exact zget_eq)))) rfl ?_
  refine z_iload_n dX0_lengthAt_14 rfl ?_
  refine zcall2 (zck_SN (R' := rX10_at) (M' := mX10_at) (fun _ _ _ _ => tX10_at) kX10_at lX0_26 nX0_26 (by decide +kernel) rfl) dX0_lengthAt_15 (Nat.le_of_ble_eq_true rfl) (Nat.le_of_ble_eq_true rfl) (Nat.le_of_ble_eq_true rfl) ?_
  refine ⟨_, _, _, _, rfl, (by first | assumption | exact zget_eq | exact zget_ne (by first | assumption | exact Ne.symm (by assumption) | omega) (by first | assumption | exact zget_eq | exact zget_ne (by first | assumption | exact Ne.symm (by assumption) | omega) (by first | assumption | exact zget_eq | exact zget_ne (by first | assumption | exact Ne.symm (by assumption) | omega) (by first | assumption | exact zget_eq)))), (by first | assumption | omega), ?_⟩
  refine z_isub dX0_lengthAt_18 ?_
  refine z_ireturn dX0_lengthAt_19 trivial (Nat.le_of_ble_eq_true rfl) (Nat.le_of_ble_eq_true rfl) ?_
  rw [zat_in (by omega) (by omega), zat_in (by omega) (by omega), hg _ (by omega), hg _ (by omega), pk_sub (zps_le (by omega) (by omega)), zps_succ hi, Nat.add_sub_cancel_left]
  exact hK

/-! Choices: begin, offer, where a sign or a point lies; the constructor -/
abbrev rX0_begin : Room := ⟨1, 0, 0, 40⟩
def SX0_begin (G : zC) : zS := fun as h n K => ∃ (k a b : Nat) (L : List (Nat × Nat)), as = [.ref k] ∧ zCho G h k a b L ∧ ∀ h', zCho G h' k a b [] → (∀ q, q ≠ k → q ≠ a → q ≠ b → h' q = h q) → K none h' n
set_option maxRecDepth 100000 in
theorem tvX0_begin {G : zC} {as : List Value} {h : zH} {n : Nat} {K : zP} (hs : SX0_begin G as h n K) : (∃ b fs r, as = .ref b :: r ∧ h b = some (.inr (2, fs))) ∧ zCt G rX0_begin mX0_begin as h n K := by
  obtain ⟨k, a, b, L, rfl, hC, hK⟩ := hs
  obtain ⟨f, g, hk, ha, hb, hab, hf, hg, hl⟩ := hC
  have hka : k ≠ a := fun e => by rw [e, ha] at hk; simp at hk
  have hkb : k ≠ b := fun e => by rw [e, hb] at hk; simp at hk
  refine ⟨⟨_, _, _, rfl, hk⟩, zCt.of (by decide) (Nat.le_of_ble_eq_true rfl) ?_⟩
  refine z_aload_n dX0_begin_0 rfl ?_
  refine z_iconst (w := 0) dX0_begin_1 (by decide) ?_
  refine z_putfield dX0_begin_2 fX0_18_2 rfl (fun q => absurd q (by decide)) (by first | assumption | exact zget_eq | exact zget_ne (by first | assumption | exact Ne.symm (by assumption) | omega) (by first | assumption | exact zget_eq | exact zget_ne (by first | assumption | exact Ne.symm (by assumption) | omega) (by first | assumption | exact zget_eq | exact zget_ne (by first | assumption | exact Ne.symm (by assumption) | omega) (by first | assumption | exact zget_eq)))) (Nat.le_of_ble_eq_true rfl) (Or.inl ⟨rfl, _, rfl⟩) ?_
  refine z_aload_n dX0_begin_5 rfl ?_
  refine z_getfield dX0_begin_6 fX0_15_2 rfl (by first | assumption | exact zget_eq | exact zget_ne (by first | assumption | exact Ne.symm (by assumption) | omega) (by first | assumption | exact zget_eq | exact zget_ne (by first | assumption | exact Ne.symm (by assumption) | omega) (by first | assumption | exact zget_eq | exact zget_ne (by first | assumption | exact Ne.symm (by assumption) | omega) (by first | assumption | exact zget_eq)))) rfl ?_
  refine z_iconst (w := 0) dX0_begin_9 (by decide) ?_
  refine z_iconst (w := 0) dX0_begin_10 (by decide) ?_
  refine zcall3 (zck_SN (R' := rX10_put) (M' := mX10_put) (fun _ _ _ _ => tX10_put) kX10_put lX0_22 nX0_22 (by decide +kernel) rfl) dX0_begin_11 (Nat.le_of_ble_eq_true rfl) (Nat.le_of_ble_eq_true rfl) (Nat.le_of_ble_eq_true rfl) ?_
  refine ⟨_, _, _, _, _, rfl, (by first | assumption | exact zget_eq | exact zget_ne (by first | assumption | exact Ne.symm (by assumption) | omega) (by first | assumption | exact zget_eq | exact zget_ne (by first | assumption | exact Ne.symm (by assumption) | omega) (by first | assumption | exact zget_eq | exact zget_ne (by first | assumption | exact Ne.symm (by assumption) | omega) (by first | assumption | exact zget_eq)))), (by first | assumption | omega), fun h1 e1 o1 => ?_⟩
  refine z_vreturn dX0_begin_14 rfl (Nat.le_of_ble_eq_true rfl) (Nat.le_of_ble_eq_true rfl) ?_
  rw [← nI_0, zpt_in (by omega) (by omega)] at e1
  refine hK _ ⟨f, upd g 0 0, (by rw [o1 k hkb]; exact zget_eq), (by rw [o1 a hab, zup_ne (Ne.symm hka)]; exact ha), e1, hab, fun i hi => absurd hi (Nat.not_lt_zero _), fun i hi => ?_, Nat.zero_le _⟩ (fun q h2 h3 h4 => by rw [o1 q h4, zup_ne h2])
  rw [show i = 0 from Nat.le_zero.mp hi]
  rfl
abbrev rX0_offer : Room := ⟨1, 0, 0, 40⟩
def SX0_offer (G : zC) : zS := fun as h n K => ∃ (k a b : Nat) (L : List (Nat × Nat)) (x y : Nat), as = [.ref k, .int (nI x), .int (nI y)] ∧ zCho G h k a b L ∧ L.length < 257 ∧ ∀ h', zCho G h' k a b (L ++ [(x, y)]) → (∀ q, q ≠ k → q ≠ a → q ≠ b → h' q = h q) → K none h' n
set_option maxRecDepth 100000 in
theorem tvX0_offer {G : zC} {as : List Value} {h : zH} {n : Nat} {K : zP} (hs : SX0_offer G as h n K) : (∃ b fs r, as = .ref b :: r ∧ h b = some (.inr (2, fs))) ∧ zCt G rX0_offer mX0_offer as h n K := by
  obtain ⟨k, a, b, L, x, y, rfl, hC, hll, hK⟩ := hs
  obtain ⟨f, g, hk, ha, hb, hab, hf, hg, hl⟩ := hC
  have hka : k ≠ a := fun e => by rw [e, ha] at hk; simp at hk
  have hkb : k ≠ b := fun e => by rw [e, hb] at hk; simp at hk
  refine ⟨⟨_, _, _, rfl, hk⟩, zCt.of (by decide) (Nat.le_of_ble_eq_true rfl) ?_⟩
  refine z_aload_n dX0_offer_0 rfl ?_
  refine z_getfield dX0_offer_1 fX0_9_2 rfl (by first | assumption | exact zget_eq | exact zget_ne (by first | assumption | exact Ne.symm (by assumption) | omega) (by first | assumption | exact zget_eq | exact zget_ne (by first | assumption | exact Ne.symm (by assumption) | omega) (by first | assumption | exact zget_eq | exact zget_ne (by first | assumption | exact Ne.symm (by assumption) | omega) (by first | assumption | exact zget_eq)))) rfl ?_
  refine z_aload_n dX0_offer_4 rfl ?_
  refine z_getfield dX0_offer_5 fX0_18_2 rfl (by first | assumption | exact zget_eq | exact zget_ne (by first | assumption | exact Ne.symm (by assumption) | omega) (by first | assumption | exact zget_eq | exact zget_ne (by first | assumption | exact Ne.symm (by assumption) | omega) (by first | assumption | exact zget_eq | exact zget_ne (by first | assumption | exact Ne.symm (by assumption) | omega) (by first | assumption | exact zget_eq)))) rfl ?_
  refine z_iload_n dX0_offer_8 rfl ?_
  refine zcall3 (zck_SN (R' := rX10_put) (M' := mX10_put) (fun _ _ _ _ => tX10_put) kX10_put lX0_22 nX0_22 (by decide +kernel) rfl) dX0_offer_9 (Nat.le_of_ble_eq_true rfl) (Nat.le_of_ble_eq_true rfl) (Nat.le_of_ble_eq_true rfl) ?_
  refine ⟨_, _, _, _, _, rfl, (by first | assumption | exact zget_eq | exact zget_ne (by first | assumption | exact Ne.symm (by assumption) | omega) (by first | assumption | exact zget_eq | exact zget_ne (by first | assumption | exact Ne.symm (by assumption) | omega) (by first | assumption | exact zget_eq | exact zget_ne (by first | assumption | exact Ne.symm (by assumption) | omega) (by first | assumption | exact zget_eq)))), (by first | assumption | omega), fun h1 e1 o1 => ?_⟩
  have o1a := o1
  have e1a := e1
  have hk1 := (o1 k hka).trans hk
  have hb1 := (o1 b (Ne.symm hab)).trans hb
  rw [zpt_in (by omega) (by omega)] at e1a
  clear e1 o1
  refine z_aload_n dX0_offer_12 rfl ?_
  refine z_getfield dX0_offer_13 fX0_15_2 rfl (by first | assumption | exact zget_eq | exact zget_ne (by first | assumption | exact Ne.symm (by assumption) | omega) (by first | assumption | exact zget_eq | exact zget_ne (by first | assumption | exact Ne.symm (by assumption) | omega) (by first | assumption | exact zget_eq | exact zget_ne (by first | assumption | exact Ne.symm (by assumption) | omega) (by first | assumption | exact zget_eq)))) rfl ?_
  refine z_aload_n dX0_offer_16 rfl ?_
  refine z_getfield dX0_offer_17 fX0_18_2 rfl (by first | assumption | exact zget_eq | exact zget_ne (by first | assumption | exact Ne.symm (by assumption) | omega) (by first | assumption | exact zget_eq | exact zget_ne (by first | assumption | exact Ne.symm (by assumption) | omega) (by first | assumption | exact zget_eq | exact zget_ne (by first | assumption | exact Ne.symm (by assumption) | omega) (by first | assumption | exact zget_eq)))) rfl ?_
  refine z_iconst (w := 1) dX0_offer_20 (by decide) ?_
  refine z_iadd dX0_offer_21 ?_
  rw [nI_1]
  refine z_aload_n dX0_offer_22 rfl ?_
  refine z_getfield dX0_offer_23 fX0_15_2 rfl (by first | assumption | exact zget_eq | exact zget_ne (by first | assumption | exact Ne.symm (by assumption) | omega) (by first | assumption | exact zget_eq | exact zget_ne (by first | assumption | exact Ne.symm (by assumption) | omega) (by first | assumption | exact zget_eq | exact zget_ne (by first | assumption | exact Ne.symm (by assumption) | omega) (by first | assumption | exact zget_eq)))) rfl ?_
  refine z_aload_n dX0_offer_26 rfl ?_
  refine z_getfield dX0_offer_27 fX0_18_2 rfl (by first | assumption | exact zget_eq | exact zget_ne (by first | assumption | exact Ne.symm (by assumption) | omega) (by first | assumption | exact zget_eq | exact zget_ne (by first | assumption | exact Ne.symm (by assumption) | omega) (by first | assumption | exact zget_eq | exact zget_ne (by first | assumption | exact Ne.symm (by assumption) | omega) (by first | assumption | exact zget_eq)))) rfl ?_
  refine zcall2 (zck_SN (R' := rX10_at) (M' := mX10_at) (fun _ _ _ _ => tX10_at) kX10_at lX0_26 nX0_26 (by decide +kernel) rfl) dX0_offer_30 (Nat.le_of_ble_eq_true rfl) (Nat.le_of_ble_eq_true rfl) (Nat.le_of_ble_eq_true rfl) ?_
  refine ⟨_, _, _, _, rfl, (by first | assumption | exact zget_eq | exact zget_ne (by first | assumption | exact Ne.symm (by assumption) | omega) (by first | assumption | exact zget_eq | exact zget_ne (by first | assumption | exact Ne.symm (by assumption) | omega) (by first | assumption | exact zget_eq | exact zget_ne (by first | assumption | exact Ne.symm (by assumption) | omega) (by first | assumption | exact zget_eq)))), (by first | assumption | omega), ?_⟩
  rw [zat_in (by omega) (by omega), hg _ (Nat.le_refl _)]
  refine z_iload_n dX0_offer_33 rfl ?_
  refine z_iadd dX0_offer_34 ?_
  rw [nI_add]
  refine zcall3 (zck_SN (R' := rX10_put) (M' := mX10_put) (fun _ _ _ _ => tX10_put) kX10_put lX0_22 nX0_22 (by decide +kernel) rfl) dX0_offer_35 (Nat.le_of_ble_eq_true rfl) (Nat.le_of_ble_eq_true rfl) (Nat.le_of_ble_eq_true rfl) ?_
  refine ⟨_, _, _, _, _, rfl, (by first | assumption | exact zget_eq | exact zget_ne (by first | assumption | exact Ne.symm (by assumption) | omega) (by first | assumption | exact zget_eq | exact zget_ne (by first | assumption | exact Ne.symm (by assumption) | omega) (by first | assumption | exact zget_eq | exact zget_ne (by first | assumption | exact Ne.symm (by assumption) | omega) (by first | assumption | exact zget_eq)))), (by first | assumption | omega), fun h1 e1 o1 => ?_⟩
  rw [zpt_in (by omega) (by omega)] at e1
  have hk2 := (o1 k hkb).trans hk1
  have ha2 := (o1 a hab).trans e1a
  refine z_aload_n dX0_offer_38 rfl ?_
  refine z_dup dX0_offer_39 rfl ?_
  refine z_getfield dX0_offer_40 fX0_18_2 rfl (by first | assumption | exact zget_eq | exact zget_ne (by first | assumption | exact Ne.symm (by assumption) | omega) (by first | assumption | exact zget_eq | exact zget_ne (by first | assumption | exact Ne.symm (by assumption) | omega) (by first | assumption | exact zget_eq | exact zget_ne (by first | assumption | exact Ne.symm (by assumption) | omega) (by first | assumption | exact zget_eq)))) rfl ?_
  refine z_iconst (w := 1) dX0_offer_43 (by decide) ?_
  refine z_iadd dX0_offer_44 ?_
  refine z_putfield dX0_offer_45 fX0_18_2 rfl (fun q => absurd q (by decide)) (by first | assumption | exact zget_eq | exact zget_ne (by first | assumption | exact Ne.symm (by assumption) | omega) (by first | assumption | exact zget_eq | exact zget_ne (by first | assumption | exact Ne.symm (by assumption) | omega) (by first | assumption | exact zget_eq | exact zget_ne (by first | assumption | exact Ne.symm (by assumption) | omega) (by first | assumption | exact zget_eq)))) (Nat.le_of_ble_eq_true rfl) (Or.inl ⟨rfl, _, rfl⟩) ?_
  refine z_vreturn dX0_offer_48 rfl (Nat.le_of_ble_eq_true rfl) (Nat.le_of_ble_eq_true rfl) ?_
  refine hK _ ⟨_, _, (by rw [zget_eq]; simp [nI_1]), (by rw [zup_ne (Ne.symm hka)]; exact ha2), (by rw [zup_ne (Ne.symm hkb)]; exact e1), hab, fun i hi => ?_, fun i hi => ?_, (by simp; omega)⟩ (fun q h2 h3 h4 => by rw [zup_ne h2, o1 q h4, o1a q h3])
  · rcases Nat.lt_or_ge i L.length with q | q
    · rw [zsg_app q, ← hf i q]; exact pk_un (by omega)
    · have : i = L.length := by simp at hi; omega
      rw [this, zsg_last]; exact pk_us
  · rcases Nat.lt_or_ge L.length i with q | q
    · have : i = L.length + 1 := by simp at hi; omega
      rw [this, zps_last]; exact pk_us
    · rw [zps_app q, ← hg i q]; exact pk_un (by omega)
abbrev rX0_indexOf : Room := ⟨1, 0, 0, 40⟩
def SX0_indexOf (G : zC) : zS := fun as h n K => ∃ (k a b : Nat) (L : List (Nat × Nat)) (x : Nat), as = [.ref k, .int (nI x)] ∧ zCho G h k a b L ∧ 0 < L.length ∧ x < 2147483648 ∧ (∀ i, i < L.length → zsg L i < 2147483648) ∧ ∀ i, i < L.length → (zsg L i = x ∨ (i = L.length - 1 ∧ zsg L i ≠ x)) → (∀ j, j < i → zsg L j ≠ x) → K (some (.int (nI i))) h n
set_option maxRecDepth 100000 in
theorem tvX0_indexOf {G : zC} {as : List Value} {h : zH} {n : Nat} {K : zP} (hs : SX0_indexOf G as h n K) : (∃ b fs r, as = .ref b :: r ∧ h b = some (.inr (2, fs))) ∧ zCt G rX0_indexOf mX0_indexOf as h n K := by
  obtain ⟨k, a, b, L, x, rfl, hC, h0, hx, hz, hK⟩ := hs
  obtain ⟨f, g, hk, ha, hb, hab, hf, hg, hl⟩ := hC
  have hka : k ≠ a := fun e => by rw [e, ha] at hk; simp at hk
  have hkb : k ≠ b := fun e => by rw [e, hb] at hk; simp at hk
  refine ⟨⟨_, _, _, rfl, hk⟩, zCt.of (by decide) (Nat.le_of_ble_eq_true rfl) ?_⟩
  have loop : ∀ (d i : Nat), i ≤ L.length → L.length - i < d → (∀ j, j < i → zsg L j ≠ x) → zZ (zXm G rX0_indexOf mX0_indexOf [.ref k, .int (nI x)] h n K) 2 [(0, .ref k), (1, .int (nI x)), (2, .int (nI i))] [] h n 0 0 := by
    intro d
    induction d with
    | zero => intro i h1 h2; omega
    | succ d ih =>
      intro i hi hd hp
      refine z_iload_n dX0_indexOf_2 rfl ?_
      refine z_aload_n dX0_indexOf_3 rfl ?_
      refine z_getfield dX0_indexOf_4 fX0_18_2 rfl (by first | assumption | exact zget_eq | exact zget_ne (by first | assumption | exact Ne.symm (by assumption) | omega) (by first | assumption | exact zget_eq | exact zget_ne (by first | assumption | exact Ne.symm (by assumption) | omega) (by first | assumption | exact zget_eq | exact zget_ne (by first | assumption | exact Ne.symm (by assumption) | omega) (by first | assumption | exact zget_eq)))) rfl ?_
      refine z_icmp_ge (t := 30) dX0_indexOf_7 (by decide) (fun q7 => ?_) (fun q7 => ?_)
      · rw [nI_leI (by omega) (by omega)] at q7
        refine z_aload_n dX0_indexOf_30 rfl ?_
        refine z_getfield dX0_indexOf_31 fX0_18_2 rfl (by first | assumption | exact zget_eq | exact zget_ne (by first | assumption | exact Ne.symm (by assumption) | omega) (by first | assumption | exact zget_eq | exact zget_ne (by first | assumption | exact Ne.symm (by assumption) | omega) (by first | assumption | exact zget_eq | exact zget_ne (by first | assumption | exact Ne.symm (by assumption) | omega) (by first | assumption | exact zget_eq)))) rfl ?_
        refine z_iconst (w := 1) dX0_indexOf_34 (by decide) ?_
        refine z_isub dX0_indexOf_35 ?_
        refine z_ireturn dX0_indexOf_36 trivial (Nat.le_of_ble_eq_true rfl) (Nat.le_of_ble_eq_true rfl) ?_
        rw [show nI L.length - 1 = nI (L.length - 1) from pk_sub (a := L.length) (b := 1) h0]
        exact hK (L.length - 1) (by omega) (Or.inr ⟨rfl, hp _ (by omega)⟩) (fun j hj => hp j (by omega))
      · rw [nI_leI (by omega) (by omega)] at q7
        refine z_aload_n dX0_indexOf_10 rfl ?_
        refine z_getfield dX0_indexOf_11 fX0_9_2 rfl (by first | assumption | exact zget_eq | exact zget_ne (by first | assumption | exact Ne.symm (by assumption) | omega) (by first | assumption | exact zget_eq | exact zget_ne (by first | assumption | exact Ne.symm (by assumption) | omega) (by first | assumption | exact zget_eq | exact zget_ne (by first | assumption | exact Ne.symm (by assumption) | omega) (by first | assumption | exact zget_eq)))) rfl ?_
        refine z_iload_n dX0_indexOf_14 rfl ?_
        refine zcall2 (zck_SN (R' := rX10_at) (M' := mX10_at) (fun _ _ _ _ => tX10_at) kX10_at lX0_26 nX0_26 (by decide +kernel) rfl) dX0_indexOf_15 (Nat.le_of_ble_eq_true rfl) (Nat.le_of_ble_eq_true rfl) (Nat.le_of_ble_eq_true rfl) ?_
        refine ⟨_, _, _, _, rfl, (by first | assumption | exact zget_eq | exact zget_ne (by first | assumption | exact Ne.symm (by assumption) | omega) (by first | assumption | exact zget_eq | exact zget_ne (by first | assumption | exact Ne.symm (by assumption) | omega) (by first | assumption | exact zget_eq | exact zget_ne (by first | assumption | exact Ne.symm (by assumption) | omega) (by first | assumption | exact zget_eq)))), (by first | assumption | omega), ?_⟩
        refine z_iload_n dX0_indexOf_18 rfl ?_
        rw [zat_in (by omega) (by omega), hf _ (by omega)]
        refine z_icmp_ne (t := 24) dX0_indexOf_19 (by decide) (fun q19 => ?_) (fun q19 => ?_)
        · rw [nI_eq (hz i (by omega)) hx] at q19
          refine z_iinc dX0_indexOf_24 rfl (Nat.le_of_ble_eq_true rfl) ?_
          rw [show nI i + Int32.ofInt 1 = nI (i + 1) from nI_1 i]
          refine z_goto (t := 2) dX0_indexOf_27 (by decide) ?_
          exact ih (i + 1) (by omega) (by omega) (fun j hj => by rcases Nat.lt_or_ge j i with q | q; exact hp j q; rw [show j = i by omega]; exact q19)
        · rw [nI_eq (hz i (by omega)) hx] at q19
          refine z_iload_n dX0_indexOf_22 rfl ?_
          refine z_ireturn dX0_indexOf_23 trivial (Nat.le_of_ble_eq_true rfl) (Nat.le_of_ble_eq_true rfl) ?_
          exact hK i (by omega) (Or.inl q19) hp
  refine z_iconst (w := 0) dX0_indexOf_0 (by decide) ?_
  refine z_istore_n dX0_indexOf_1 (Nat.le_of_ble_eq_true rfl) ?_
  exact loop _ 0 (Nat.zero_le _) (Nat.lt_succ_self _) (fun j hj => absurd hj (Nat.not_lt_zero _))
abbrev rX0_indexOfPoint : Room := ⟨1, 0, 0, 40⟩
def SX0_indexOfPoint (G : zC) : zS := fun as h n K => ∃ (k a b : Nat) (L : List (Nat × Nat)) (v : Nat), as = [.ref k, .int (nI v)] ∧ zCho G h k a b L ∧ v < zps L L.length ∧ zps L L.length < 2147483648 ∧ ∀ i, i < L.length → zps L i ≤ v → v < zps L (i + 1) → K (some (.int (nI i))) h n
set_option maxRecDepth 100000 in
theorem tvX0_indexOfPoint {G : zC} {as : List Value} {h : zH} {n : Nat} {K : zP} (hs : SX0_indexOfPoint G as h n K) : (∃ b fs r, as = .ref b :: r ∧ h b = some (.inr (2, fs))) ∧ zCt G rX0_indexOfPoint mX0_indexOfPoint as h n K := by
  obtain ⟨k, a, b, L, v, rfl, hC, hv, hz, hK⟩ := hs
  obtain ⟨f, g, hk, ha, hb, hab, hf, hg, hl⟩ := hC
  have hka : k ≠ a := fun e => by rw [e, ha] at hk; simp at hk
  have hkb : k ≠ b := fun e => by rw [e, hb] at hk; simp at hk
  refine ⟨⟨_, _, _, rfl, hk⟩, zCt.of (by decide) (Nat.le_of_ble_eq_true rfl) ?_⟩
  have loop : ∀ (d i : Nat), i ≤ L.length → L.length - i < d → zps L i ≤ v → zZ (zXm G rX0_indexOfPoint mX0_indexOfPoint [.ref k, .int (nI v)] h n K) 2 [(0, .ref k), (1, .int (nI v)), (2, .int (nI i))] [] h n 0 0 := by
    intro d
    induction d with
    | zero => intro i h1 h2; omega
    | succ d ih =>
      intro i hi hd hp
      refine z_iload_n dX0_indexOfPoint_2 rfl ?_
      refine z_aload_n dX0_indexOfPoint_3 rfl ?_
      refine z_getfield dX0_indexOfPoint_4 fX0_18_2 rfl (by first | assumption | exact zget_eq | exact zget_ne (by first | assumption | exact Ne.symm (by assumption) | omega) (by first | assumption | exact zget_eq | exact zget_ne (by first | assumption | exact Ne.symm (by assumption) | omega) (by first | assumption | exact zget_eq | exact zget_ne (by first | assumption | exact Ne.symm (by assumption) | omega) (by first | assumption | exact zget_eq)))) rfl ?_
      refine z_icmp_ge (t := 32) dX0_indexOfPoint_7 (by decide) (fun q7 => ?_) (fun q7 => ?_)
      · rw [nI_leI (by omega) (by omega)] at q7
        rw [show i = L.length by omega] at hp
        omega
      · rw [nI_leI (by omega) (by omega)] at q7
        have hle := zps_le (L := L) (i := i + 1) (j := L.length) (by omega) (Nat.le_refl _)
        refine z_iload_n dX0_indexOfPoint_10 rfl ?_
        refine z_aload_n dX0_indexOfPoint_11 rfl ?_
        refine z_getfield dX0_indexOfPoint_12 fX0_15_2 rfl (by first | assumption | exact zget_eq | exact zget_ne (by first | assumption | exact Ne.symm (by assumption) | omega) (by first | assumption | exact zget_eq | exact zget_ne (by first | assumption | exact Ne.symm (by assumption) | omega) (by first | assumption | exact zget_eq | exact zget_ne (by first | assumption | exact Ne.symm (by assumption) | omega) (by first | assumption | exact zget_eq)))) rfl ?_
        refine z_iload_n dX0_indexOfPoint_15 rfl ?_
        refine z_iconst (w := 1) dX0_indexOfPoint_16 (by decide) ?_
        refine z_iadd dX0_indexOfPoint_17 ?_
        rw [nI_1]
        refine zcall2 (zck_SN (R' := rX10_at) (M' := mX10_at) (fun _ _ _ _ => tX10_at) kX10_at lX0_26 nX0_26 (by decide +kernel) rfl) dX0_indexOfPoint_18 (Nat.le_of_ble_eq_true rfl) (Nat.le_of_ble_eq_true rfl) (Nat.le_of_ble_eq_true rfl) ?_
        refine ⟨_, _, _, _, rfl, (by first | assumption | exact zget_eq | exact zget_ne (by first | assumption | exact Ne.symm (by assumption) | omega) (by first | assumption | exact zget_eq | exact zget_ne (by first | assumption | exact Ne.symm (by assumption) | omega) (by first | assumption | exact zget_eq | exact zget_ne (by first | assumption | exact Ne.symm (by assumption) | omega) (by first | assumption | exact zget_eq)))), (by first | assumption | omega), ?_⟩
        rw [zat_in (by omega) (by omega), hg _ (by omega)]
        refine z_icmp_ge (t := 26) dX0_indexOfPoint_21 (by decide) (fun q21 => ?_) (fun q21 => ?_)
        · rw [nI_leI (by omega) (by omega)] at q21
          refine z_iinc dX0_indexOfPoint_26 rfl (Nat.le_of_ble_eq_true rfl) ?_
          rw [show nI i + Int32.ofInt 1 = nI (i + 1) from nI_1 i]
          refine z_goto (t := 2) dX0_indexOfPoint_29 (by decide) ?_
          exact ih (i + 1) (by omega) (by omega) (by omega)
        · rw [nI_leI (by omega) (by omega)] at q21
          refine z_iload_n dX0_indexOfPoint_24 rfl ?_
          refine z_ireturn dX0_indexOfPoint_25 trivial (Nat.le_of_ble_eq_true rfl) (Nat.le_of_ble_eq_true rfl) ?_
          exact hK i (by omega) hp (by omega)
  refine z_iconst (w := 0) dX0_indexOfPoint_0 (by decide) ?_
  refine z_istore_n dX0_indexOfPoint_1 (Nat.le_of_ble_eq_true rfl) ?_
  exact loop _ 0 (Nat.zero_le _) (Nat.lt_succ_self _) (by rw [zps_0]; exact Nat.zero_le _)
abbrev rX0_init : Room := ⟨1, 2, 515, 40⟩
def SX0_init (G : zC) : zS := fun as h n K => ∃ (k : Nat), as = [.ref k] ∧ h k = some (zO 2 [.null, .null, .int 0]) ∧ k < n ∧ ∀ h', zCho G h' k n (n + 1) [] → (∀ q, q ≠ k → q ≠ n → q ≠ n + 1 → h' q = h q) → K none h' (n + 2)
set_option maxRecDepth 100000 in
theorem tiX0_init {G : zC} {as : List Value} {h : zH} {n : Nat} {K : zP} (hs : SX0_init G as h n K) : (∃ b r, as = .ref b :: r) ∧ zCt G rX0_init mX0_init as h n K := by
  obtain ⟨k, rfl, hk, hkn, hK⟩ := hs
  refine ⟨⟨_, _, rfl⟩, zCt.of (by decide) (Nat.le_of_ble_eq_true rfl) ?_⟩
  refine z_aload_n dX0_init_0 rfl ?_
  refine zcall1 (zck_O lX0_3 kJobj rfl) dX0_init_1 (Nat.le_of_ble_eq_true rfl) (Nat.le_of_ble_eq_true rfl) (Nat.le_of_ble_eq_true rfl) ?_
  refine ⟨⟨_, rfl⟩, ?_⟩
  refine z_aload_n dX0_init_4 rfl ?_
  refine z_sipush (w := 257) dX0_init_5 (by decide) ?_
  refine z_newi dX0_init_8 zwI (by decide) (by decide) (Nat.le_of_ble_eq_true rfl) (Nat.le_of_ble_eq_true rfl) ?_
  refine z_putfield dX0_init_10 fiX0_9_2 rfl (fun _ => rfl) (by first | assumption | exact zget_eq | exact zget_ne (by first | assumption | exact Ne.symm (by assumption) | omega) (by first | assumption | exact zget_eq | exact zget_ne (by first | assumption | exact Ne.symm (by assumption) | omega) (by first | assumption | exact zget_eq | exact zget_ne (by first | assumption | exact Ne.symm (by assumption) | omega) (by first | assumption | exact zget_eq)))) (Nat.le_of_ble_eq_true rfl) (Or.inr (Or.inl ⟨rfl, _, rfl⟩)) ?_
  refine z_aload_n dX0_init_13 rfl ?_
  refine z_sipush (w := 258) dX0_init_14 (by decide) ?_
  refine z_newi dX0_init_17 zwI (by decide) (by decide) (Nat.le_of_ble_eq_true rfl) (Nat.le_of_ble_eq_true rfl) ?_
  refine z_putfield dX0_init_19 fiX0_15_2 rfl (fun _ => rfl) (by first | assumption | exact zget_eq | exact zget_ne (by first | assumption | exact Ne.symm (by assumption) | omega) (by first | assumption | exact zget_eq | exact zget_ne (by first | assumption | exact Ne.symm (by assumption) | omega) (by first | assumption | exact zget_eq | exact zget_ne (by first | assumption | exact Ne.symm (by assumption) | omega) (by first | assumption | exact zget_eq)))) (Nat.le_of_ble_eq_true rfl) (Or.inr (Or.inl ⟨rfl, _, rfl⟩)) ?_
  refine z_vreturn dX0_init_22 rfl (Nat.le_of_ble_eq_true rfl) (Nat.le_of_ble_eq_true rfl) ?_
  exact hK _ ⟨_, _, (by rw [zget_eq]; rfl), (by simp [va_up, show n ≠ k by omega]; rfl), (by simp [va_up, show n + 1 ≠ k by omega]; rfl), (by omega), fun i hi => absurd hi (Nat.not_lt_zero _), fun i hi => by rw [show i = 0 from Nat.le_zero.mp hi]; rfl, Nat.zero_le _⟩ (fun q h1 h2 h3 => by simp [va_up, h1, h2, h3])

/-! the coder, as mathematics: a row of bits, low, high, what is held -/
def zsb (f : Nat → Int32) (p : Nat) (x : Int32) : Nat → Int32 := upd f (p / 8) ((if p % 8 = 0 then 0 else f (p / 8)) ||| (x <<< (nI (7 - p % 8) &&& 31)))
def zsbs (x : Int32) : Nat → (Nat → Int32) → Nat → (Nat → Int32)
  | 0, f, _ => f
  | j + 1, f, p => zsbs x j (zsb f p x) (p + 1)
def zset (lo hi : Nat) : Option Nat := if hi < 32768 then some 0 else if 32768 ≤ lo then some 32768 else if 16384 ≤ lo ∧ hi < 49152 then some 16384 else none
def zseti (lo hi : Nat) : Int32 := match zset lo hi with
  | some g => nI g
  | none => -1
abbrev zEs : Type := (Nat → Int32) × Nat × Nat × Nat × Nat
def zput1 (e : zEs) (b : Int32) : zEs := (zsbs (1 - b) e.2.2.2.2 (zsb e.1 e.2.1 b) (e.2.1 + 1), e.2.1 + 1 + e.2.2.2.2, e.2.2.1, e.2.2.2.1, 0)
def zlh (e : zEs) (g : Nat) : zEs := (e.1, e.2.1, 2 * (e.2.2.1 - g), 2 * (e.2.2.2.1 - g) + 1, e.2.2.2.2)
def zshift (e : zEs) (g : Nat) : zEs := zlh (if g = 16384 then (e.1, e.2.1, e.2.2.1, e.2.2.2.1, e.2.2.2.2 + 1) else zput1 e (if g = 32768 then 1 else 0)) g
def zren : Nat → zEs → zEs
  | 0, e => e
  | d + 1, e => match zset e.2.2.1 e.2.2.2.1 with
    | none => e
    | some g => zren d (zshift e g)
def zn16 : (16384 : Int32) = nI 16384 := by decide
def zn32 : (32768 : Int32) = nI 32768 := by decide
def zn49 : (49152 : Int32) = nI 49152 := by decide
/-- a coder's cells -/
def zCd (G : zC) (h : zH) (ci a w r : Nat) (tl : List Value) (e : zEs) : Prop := h a = some (zO ci (.ref w :: .int (nI e.2.1) :: .int (nI e.2.2.1) :: .int (nI e.2.2.2.1) :: .int (nI e.2.2.2.2) :: tl)) ∧ h w = some (zO 5 [.ref r, .int (nI ((e.2.1 + 7) / 8))]) ∧ h r = some (zI G 2484 e.1)
theorem zCd.ne {G : zC} {h : zH} {ci a w r : Nat} {tl : List Value} {e : zEs} (hci : ci ≠ 5) (H : zCd G h ci a w r tl e) : a ≠ w ∧ a ≠ r ∧ w ≠ r := by
  obtain ⟨h1, h2, h3⟩ := H
  refine ⟨fun q => ?_, fun q => ?_, fun q => ?_⟩
  · rw [q, h2] at h1; simp at h1 <;> omega
  · rw [q, h3] at h1; simp at h1
  · rw [q, h3] at h2; simp at h2
theorem zct (p : Nat) : (p + 1 + 7) / 8 = p / 8 + 1 := by omega
abbrev rX1_width_7 : Room := ⟨0, 0, 0, 0⟩
def SX1_width_7 (G : zC) : zS := fun as h n K => ∃ (a w r : Nat) (tl : List Value) (e : zEs), as = [.ref a] ∧ zCd G h 7 a w r tl e ∧ e.2.2.1 ≤ e.2.2.2.1 ∧ K (some (.int (nI (e.2.2.2.1 - e.2.2.1 + 1)))) h n
set_option maxRecDepth 100000 in
theorem tvX1_width_7 {G : zC} {as : List Value} {h : zH} {n : Nat} {K : zP} (hs : SX1_width_7 G as h n K) : (∃ b fs r, as = .ref b :: r ∧ h b = some (.inr (7, fs))) ∧ zCt G rX1_width_7 mX1_width as h n K := by
  obtain ⟨a, w, r, tl, ⟨f, p, lo, hi, held⟩, rfl, hC, hlh, hK⟩ := hs
  obtain ⟨hk, hw, hr⟩ := hC
  dsimp only at hk hw hr hlh hK
  refine ⟨⟨_, _, _, rfl, hk⟩, zCt.of (by decide) (Nat.le_of_ble_eq_true rfl) ?_⟩
  refine z_aload_n dX1_width_0 rfl ?_
  refine z_getfield dX1_width_1 fX1_29_7 rfl (by first | assumption | exact zget_eq | exact zget_ne (by first | assumption | exact Ne.symm (by assumption) | omega) (by first | assumption | exact zget_eq | exact zget_ne (by first | assumption | exact Ne.symm (by assumption) | omega) (by first | assumption | exact zget_eq | exact zget_ne (by first | assumption | exact Ne.symm (by assumption) | omega) (by first | assumption | exact zget_eq)))) rfl ?_
  refine z_aload_n dX1_width_4 rfl ?_
  refine z_getfield dX1_width_5 fX1_25_7 rfl (by first | assumption | exact zget_eq | exact zget_ne (by first | assumption | exact Ne.symm (by assumption) | omega) (by first | assumption | exact zget_eq | exact zget_ne (by first | assumption | exact Ne.symm (by assumption) | omega) (by first | assumption | exact zget_eq | exact zget_ne (by first | assumption | exact Ne.symm (by assumption) | omega) (by first | assumption | exact zget_eq)))) rfl ?_
  refine z_isub dX1_width_8 ?_
  refine z_iconst (w := 1) dX1_width_9 (by decide) ?_
  refine z_iadd dX1_width_10 ?_
  refine z_ireturn dX1_width_11 trivial (Nat.le_of_ble_eq_true rfl) (Nat.le_of_ble_eq_true rfl) ?_
  rw [pk_sub hlh, nI_1]
  exact hK
abbrev rX1_settledPart_7 : Room := ⟨0, 0, 0, 0⟩
def SX1_settledPart_7 (G : zC) : zS := fun as h n K => ∃ (a w r : Nat) (tl : List Value) (e : zEs), as = [.ref a] ∧ zCd G h 7 a w r tl e ∧ e.2.2.1 < 65536 ∧ e.2.2.2.1 < 65536 ∧ K (some (.int (zseti e.2.2.1 e.2.2.2.1))) h n
set_option maxRecDepth 100000 in
theorem tvX1_settledPart_7 {G : zC} {as : List Value} {h : zH} {n : Nat} {K : zP} (hs : SX1_settledPart_7 G as h n K) : (∃ b fs r, as = .ref b :: r ∧ h b = some (.inr (7, fs))) ∧ zCt G rX1_settledPart_7 mX1_settledPart as h n K := by
  obtain ⟨a, w, r, tl, ⟨f, p, lo, hi, held⟩, rfl, hC, hlo, hhi, hK⟩ := hs
  obtain ⟨hk, hw, hr⟩ := hC
  dsimp only at hk hw hr hlo hhi hK
  unfold zseti zset at hK
  refine ⟨⟨_, _, _, rfl, hk⟩, zCt.of (by decide) (Nat.le_of_ble_eq_true rfl) ?_⟩
  refine z_aload_n dX1_settledPart_0 rfl ?_
  refine z_getfield dX1_settledPart_1 fX1_29_7 rfl (by first | assumption | exact zget_eq | exact zget_ne (by first | assumption | exact Ne.symm (by assumption) | omega) (by first | assumption | exact zget_eq | exact zget_ne (by first | assumption | exact Ne.symm (by assumption) | omega) (by first | assumption | exact zget_eq | exact zget_ne (by first | assumption | exact Ne.symm (by assumption) | omega) (by first | assumption | exact zget_eq)))) rfl ?_
  refine z_ldc dX1_settledPart_4 coX1_42 ?_
  refine z_icmp_ge (t := 11) dX1_settledPart_6 (by decide) (fun q6 => ?_) (fun q6 => ?_)
  · rw [zn32, nI_leI (by omega) (by omega)] at q6
    rw [if_neg (by omega)] at hK
    refine z_aload_n dX1_settledPart_11 rfl ?_
    refine z_getfield dX1_settledPart_12 fX1_25_7 rfl (by first | assumption | exact zget_eq | exact zget_ne (by first | assumption | exact Ne.symm (by assumption) | omega) (by first | assumption | exact zget_eq | exact zget_ne (by first | assumption | exact Ne.symm (by assumption) | omega) (by first | assumption | exact zget_eq | exact zget_ne (by first | assumption | exact Ne.symm (by assumption) | omega) (by first | assumption | exact zget_eq)))) rfl ?_
    refine z_ldc dX1_settledPart_15 coX1_42 ?_
    refine z_icmp_lt (t := 23) dX1_settledPart_17 (by decide) (fun q17 => ?_) (fun q17 => ?_)
    · rw [zn32, nI_ltI (by omega) (by omega)] at q17
      rw [if_neg (by omega)] at hK
      refine z_aload_n dX1_settledPart_23 rfl ?_
      refine z_getfield dX1_settledPart_24 fX1_25_7 rfl (by first | assumption | exact zget_eq | exact zget_ne (by first | assumption | exact Ne.symm (by assumption) | omega) (by first | assumption | exact zget_eq | exact zget_ne (by first | assumption | exact Ne.symm (by assumption) | omega) (by first | assumption | exact zget_eq | exact zget_ne (by first | assumption | exact Ne.symm (by assumption) | omega) (by first | assumption | exact zget_eq)))) rfl ?_
      refine z_sipush (w := 16384) dX1_settledPart_27 (by decide) ?_
      refine z_icmp_lt (t := 48) dX1_settledPart_30 (by decide) (fun q30 => ?_) (fun q30 => ?_)
      · rw [zn16, nI_ltI (by omega) (by omega)] at q30
        rw [if_neg (by omega)] at hK
        refine z_iconst (w := -1) dX1_settledPart_48 (by decide) ?_
        refine z_ireturn dX1_settledPart_49 trivial (Nat.le_of_ble_eq_true rfl) (Nat.le_of_ble_eq_true rfl) ?_
        exact hK
      · rw [zn16, nI_ltI (by omega) (by omega)] at q30
        refine z_aload_n dX1_settledPart_33 rfl ?_
        refine z_getfield dX1_settledPart_34 fX1_29_7 rfl (by first | assumption | exact zget_eq | exact zget_ne (by first | assumption | exact Ne.symm (by assumption) | omega) (by first | assumption | exact zget_eq | exact zget_ne (by first | assumption | exact Ne.symm (by assumption) | omega) (by first | assumption | exact zget_eq | exact zget_ne (by first | assumption | exact Ne.symm (by assumption) | omega) (by first | assumption | exact zget_eq)))) rfl ?_
        refine z_ldc dX1_settledPart_37 coX1_49 ?_
        refine z_icmp_ge (t := 48) dX1_settledPart_39 (by decide) (fun q39 => ?_) (fun q39 => ?_)
        · rw [zn49, nI_leI (by omega) (by omega)] at q39
          rw [if_neg (by omega)] at hK
          refine z_iconst (w := -1) dX1_settledPart_48 (by decide) ?_
          refine z_ireturn dX1_settledPart_49 trivial (Nat.le_of_ble_eq_true rfl) (Nat.le_of_ble_eq_true rfl) ?_
          exact hK
        · rw [zn49, nI_leI (by omega) (by omega)] at q39
          rw [if_pos (by omega)] at hK
          refine z_sipush (w := 16384) dX1_settledPart_42 (by decide) ?_
          refine z_goto (t := 49) dX1_settledPart_45 (by decide) ?_
          refine z_ireturn dX1_settledPart_49 trivial (Nat.le_of_ble_eq_true rfl) (Nat.le_of_ble_eq_true rfl) ?_
          exact hK
    · rw [zn32, nI_ltI (by omega) (by omega)] at q17
      rw [if_pos (by omega)] at hK
      refine z_ldc dX1_settledPart_20 coX1_42 ?_
      refine z_ireturn dX1_settledPart_22 trivial (Nat.le_of_ble_eq_true rfl) (Nat.le_of_ble_eq_true rfl) ?_
      exact hK
  · rw [zn32, nI_leI (by omega) (by omega)] at q6
    rw [if_pos (by omega)] at hK
    refine z_iconst (w := 0) dX1_settledPart_9 (by decide) ?_
    refine z_ireturn dX1_settledPart_10 trivial (Nat.le_of_ble_eq_true rfl) (Nat.le_of_ble_eq_true rfl) ?_
    exact hK
abbrev rX1_putBit_7 : Room := ⟨1, 0, 0, 40⟩
def SX1_putBit_7 (G : zC) : zS := fun as h n K => ∃ (a w r : Nat) (tl : List Value) (e : zEs) (b : Int32), as = [.ref a, .int b] ∧ zCd G h 7 a w r tl e ∧ e.2.1 + 1 + e.2.2.2.2 ≤ 19872 ∧ ∀ h', zCd G h' 7 a w r tl (zput1 e b) → (∀ q, q ≠ a → q ≠ w → q ≠ r → h' q = h q) → K none h' n
set_option maxRecDepth 100000 in
theorem tvX1_putBit_7 {G : zC} {as : List Value} {h : zH} {n : Nat} {K : zP} (hs : SX1_putBit_7 G as h n K) : (∃ b fs r, as = .ref b :: r ∧ h b = some (.inr (7, fs))) ∧ zCt G rX1_putBit_7 mX1_putBit as h n K := by
  obtain ⟨a, w, r, tl, ⟨f, p, lo, hi, held⟩, b, rfl, hC, hcap, hK⟩ := hs
  obtain ⟨haw, har, hwr⟩ := hC.ne (by decide)
  obtain ⟨hk, hw, hr⟩ := hC
  dsimp only at hk hw hr hcap hK
  refine ⟨⟨_, _, _, rfl, hk⟩, zCt.of (by decide) (Nat.le_of_ble_eq_true rfl) ?_⟩
  have loop : ∀ (d p' : Nat) (f' : Nat → Int32) (h1 : zH), p' + d ≤ 19872 → zCd G h1 7 a w r tl (f', p', lo, hi, d) → zsbs (1 - b) d f' p' = zsbs (1 - b) held (zsb f p b) (p + 1) → p' + d = p + 1 + held → (∀ q, q ≠ a → q ≠ w → q ≠ r → h1 q = h q) → zZ (zXm G rX1_putBit_7 mX1_putBit [.ref a, .int b] h n K) 22 [(0, .ref a), (1, .int b)] [] h1 n 0 0 := by
    intro d
    induction d with
    | zero =>
      intro p' f' h1 hc2 hC2 he hp2 ho
      obtain ⟨hk2, hw2, hr2⟩ := hC2
      dsimp only at hk2 hw2 hr2
      refine z_aload_n dX1_putBit_22 rfl ?_
      refine z_getfield dX1_putBit_23 fX1_32_7 rfl (by first | assumption | exact zget_eq | exact zget_ne (by first | assumption | exact Ne.symm (by assumption) | omega) (by first | assumption | exact zget_eq | exact zget_ne (by first | assumption | exact Ne.symm (by assumption) | omega) (by first | assumption | exact zget_eq | exact zget_ne (by first | assumption | exact Ne.symm (by assumption) | omega) (by first | assumption | exact zget_eq)))) rfl ?_
      refine z_if_le (t := 66) dX1_putBit_26 (by decide) (fun q26 => ?_) (fun q26 => ?_)
      · refine z_vreturn dX1_putBit_66 rfl (Nat.le_of_ble_eq_true rfl) (Nat.le_of_ble_eq_true rfl) ?_
        exact hK h1 ⟨by rw [hk2]; simp only [zput1, ← hp2] <;> rfl, by rw [hw2]; simp only [zput1, ← hp2] <;> rfl, by rw [hr2]; simp only [zput1, ← he] <;> rfl⟩ ho
      · exact absurd (by decide) q26
    | succ d ih =>
      intro p' f' h1 hc2 hC2 he hp2 ho
      obtain ⟨hk2, hw2, hr2⟩ := hC2
      dsimp only at hk2 hw2 hr2
      refine z_aload_n dX1_putBit_22 rfl ?_
      refine z_getfield dX1_putBit_23 fX1_32_7 rfl (by first | assumption | exact zget_eq | exact zget_ne (by first | assumption | exact Ne.symm (by assumption) | omega) (by first | assumption | exact zget_eq | exact zget_ne (by first | assumption | exact Ne.symm (by assumption) | omega) (by first | assumption | exact zget_eq | exact zget_ne (by first | assumption | exact Ne.symm (by assumption) | omega) (by first | assumption | exact zget_eq)))) rfl ?_
      refine z_if_le (t := 66) dX1_putBit_26 (by decide) (fun q26 => ?_) (fun q26 => ?_)
      · exact absurd q26 (nI_nle (by omega) (by omega))
      · refine z_aload_n dX1_putBit_29 rfl ?_
        refine z_getfield dX1_putBit_30 fX1_9_7 rfl (by first | assumption | exact zget_eq | exact zget_ne (by first | assumption | exact Ne.symm (by assumption) | omega) (by first | assumption | exact zget_eq | exact zget_ne (by first | assumption | exact Ne.symm (by assumption) | omega) (by first | assumption | exact zget_eq | exact zget_ne (by first | assumption | exact Ne.symm (by assumption) | omega) (by first | assumption | exact zget_eq)))) rfl ?_
        refine z_aload_n dX1_putBit_33 rfl ?_
        refine z_getfield dX1_putBit_34 fX1_21_7 rfl (by first | assumption | exact zget_eq | exact zget_ne (by first | assumption | exact Ne.symm (by assumption) | omega) (by first | assumption | exact zget_eq | exact zget_ne (by first | assumption | exact Ne.symm (by assumption) | omega) (by first | assumption | exact zget_eq | exact zget_ne (by first | assumption | exact Ne.symm (by assumption) | omega) (by first | assumption | exact zget_eq)))) rfl ?_
        refine z_iconst (w := 1) dX1_putBit_37 (by decide) ?_
        refine z_iload_n dX1_putBit_38 rfl ?_
        refine z_isub dX1_putBit_39 ?_
        refine zcall3 (zck_V (na := 2) (ci := 5) (R' := rX4_setBit) (M' := mX4_setBit) (fun _ _ _ _ => tvX4_setBit) (by decide) kX4_setBit lX1_50 (by decide +kernel) rfl) dX1_putBit_40 (Nat.le_of_ble_eq_true rfl) (Nat.le_of_ble_eq_true rfl) (Nat.le_of_ble_eq_true rfl) ?_
        refine ⟨_, _, _, _, _, _, _, rfl, hw2, hr2, (by omega), rfl, (by omega), (by omega), fun h3 e1 e2 o1 => ?_⟩
        have hk3 := (o1 a haw har).trans hk2
        refine z_aload_n dX1_putBit_43 rfl ?_
        refine z_dup dX1_putBit_44 rfl ?_
        refine z_getfield dX1_putBit_45 fX1_21_7 rfl (by first | assumption | exact zget_eq | exact zget_ne (by first | assumption | exact Ne.symm (by assumption) | omega) (by first | assumption | exact zget_eq | exact zget_ne (by first | assumption | exact Ne.symm (by assumption) | omega) (by first | assumption | exact zget_eq | exact zget_ne (by first | assumption | exact Ne.symm (by assumption) | omega) (by first | assumption | exact zget_eq)))) rfl ?_
        refine z_iconst (w := 1) dX1_putBit_48 (by decide) ?_
        refine z_iadd dX1_putBit_49 ?_
        refine z_putfield dX1_putBit_50 fX1_21_7 rfl (fun q => absurd q (by decide)) (by first | assumption | exact zget_eq | exact zget_ne (by first | assumption | exact Ne.symm (by assumption) | omega) (by first | assumption | exact zget_eq | exact zget_ne (by first | assumption | exact Ne.symm (by assumption) | omega) (by first | assumption | exact zget_eq | exact zget_ne (by first | assumption | exact Ne.symm (by assumption) | omega) (by first | assumption | exact zget_eq)))) (Nat.le_of_ble_eq_true rfl) (Or.inl ⟨rfl, _, rfl⟩) ?_
        refine z_aload_n dX1_putBit_53 rfl ?_
        refine z_dup dX1_putBit_54 rfl ?_
        refine z_getfield dX1_putBit_55 fX1_32_7 rfl (by first | assumption | exact zget_eq | exact zget_ne (by first | assumption | exact Ne.symm (by assumption) | omega) (by first | assumption | exact zget_eq | exact zget_ne (by first | assumption | exact Ne.symm (by assumption) | omega) (by first | assumption | exact zget_eq | exact zget_ne (by first | assumption | exact Ne.symm (by assumption) | omega) (by first | assumption | exact zget_eq)))) rfl ?_
        refine z_iconst (w := 1) dX1_putBit_58 (by decide) ?_
        refine z_isub dX1_putBit_59 ?_
        refine z_putfield dX1_putBit_60 fX1_32_7 rfl (fun q => absurd q (by decide)) (by first | assumption | exact zget_eq | exact zget_ne (by first | assumption | exact Ne.symm (by assumption) | omega) (by first | assumption | exact zget_eq | exact zget_ne (by first | assumption | exact Ne.symm (by assumption) | omega) (by first | assumption | exact zget_eq | exact zget_ne (by first | assumption | exact Ne.symm (by assumption) | omega) (by first | assumption | exact zget_eq)))) (Nat.le_of_ble_eq_true rfl) (Or.inl ⟨rfl, _, rfl⟩) ?_
        refine z_goto (t := 22) dX1_putBit_63 (by decide) ?_
        exact ih (p' + 1) _ _ (by omega) ⟨by rw [zget_eq]; simp [nI_1, nI_pred], by rw [zup_ne (Ne.symm haw), zup_ne (Ne.symm haw), e1, zct], by rw [zup_ne (Ne.symm har), zup_ne (Ne.symm har)]; exact e2⟩ (by rw [← he]; rfl) (by omega) (fun q g1 g2 g3 => by rw [zup_ne g1, zup_ne g1, o1 q g2 g3, ho q g1 g2 g3])
  refine z_aload_n dX1_putBit_0 rfl ?_
  refine z_getfield dX1_putBit_1 fX1_9_7 rfl (by first | assumption | exact zget_eq | exact zget_ne (by first | assumption | exact Ne.symm (by assumption) | omega) (by first | assumption | exact zget_eq | exact zget_ne (by first | assumption | exact Ne.symm (by assumption) | omega) (by first | assumption | exact zget_eq | exact zget_ne (by first | assumption | exact Ne.symm (by assumption) | omega) (by first | assumption | exact zget_eq)))) rfl ?_
  refine z_aload_n dX1_putBit_4 rfl ?_
  refine z_getfield dX1_putBit_5 fX1_21_7 rfl (by first | assumption | exact zget_eq | exact zget_ne (by first | assumption | exact Ne.symm (by assumption) | omega) (by first | assumption | exact zget_eq | exact zget_ne (by first | assumption | exact Ne.symm (by assumption) | omega) (by first | assumption | exact zget_eq | exact zget_ne (by first | assumption | exact Ne.symm (by assumption) | omega) (by first | assumption | exact zget_eq)))) rfl ?_
  refine z_iload_n dX1_putBit_8 rfl ?_
  refine zcall3 (zck_V (na := 2) (ci := 5) (R' := rX4_setBit) (M' := mX4_setBit) (fun _ _ _ _ => tvX4_setBit) (by decide) kX4_setBit lX1_50 (by decide +kernel) rfl) dX1_putBit_9 (Nat.le_of_ble_eq_true rfl) (Nat.le_of_ble_eq_true rfl) (Nat.le_of_ble_eq_true rfl) ?_
  refine ⟨_, _, _, _, _, _, _, rfl, hw, hr, (by omega), rfl, (by omega), (by omega), fun h1 e1 e2 o1 => ?_⟩
  have hk1 := (o1 a haw har).trans hk
  refine z_aload_n dX1_putBit_12 rfl ?_
  refine z_dup dX1_putBit_13 rfl ?_
  refine z_getfield dX1_putBit_14 fX1_21_7 rfl (by first | assumption | exact zget_eq | exact zget_ne (by first | assumption | exact Ne.symm (by assumption) | omega) (by first | assumption | exact zget_eq | exact zget_ne (by first | assumption | exact Ne.symm (by assumption) | omega) (by first | assumption | exact zget_eq | exact zget_ne (by first | assumption | exact Ne.symm (by assumption) | omega) (by first | assumption | exact zget_eq)))) rfl ?_
  refine z_iconst (w := 1) dX1_putBit_17 (by decide) ?_
  refine z_iadd dX1_putBit_18 ?_
  refine z_putfield dX1_putBit_19 fX1_21_7 rfl (fun q => absurd q (by decide)) (by first | assumption | exact zget_eq | exact zget_ne (by first | assumption | exact Ne.symm (by assumption) | omega) (by first | assumption | exact zget_eq | exact zget_ne (by first | assumption | exact Ne.symm (by assumption) | omega) (by first | assumption | exact zget_eq | exact zget_ne (by first | assumption | exact Ne.symm (by assumption) | omega) (by first | assumption | exact zget_eq)))) (Nat.le_of_ble_eq_true rfl) (Or.inl ⟨rfl, _, rfl⟩) ?_
  exact loop held (p + 1) _ _ (by omega) ⟨by rw [zget_eq]; simp [nI_1], by rw [zup_ne (Ne.symm haw), e1, zct], by rw [zup_ne (Ne.symm har)]; exact e2⟩ rfl rfl (fun q g1 g2 g3 => by rw [zup_ne g1, o1 q g2 g3])
abbrev rX1_width_9 : Room := ⟨0, 0, 0, 0⟩
def SX1_width_9 (G : zC) : zS := fun as h n K => ∃ (a w r : Nat) (tl : List Value) (e : zEs), as = [.ref a] ∧ zCd G h 9 a w r tl e ∧ e.2.2.1 ≤ e.2.2.2.1 ∧ K (some (.int (nI (e.2.2.2.1 - e.2.2.1 + 1)))) h n
set_option maxRecDepth 100000 in
theorem tvX1_width_9 {G : zC} {as : List Value} {h : zH} {n : Nat} {K : zP} (hs : SX1_width_9 G as h n K) : (∃ b fs r, as = .ref b :: r ∧ h b = some (.inr (9, fs))) ∧ zCt G rX1_width_9 mX1_width as h n K := by
  obtain ⟨a, w, r, tl, ⟨f, p, lo, hi, held⟩, rfl, hC, hlh, hK⟩ := hs
  obtain ⟨hk, hw, hr⟩ := hC
  dsimp only at hk hw hr hlh hK
  refine ⟨⟨_, _, _, rfl, hk⟩, zCt.of (by decide) (Nat.le_of_ble_eq_true rfl) ?_⟩
  refine z_aload_n dX1_width_0 rfl ?_
  refine z_getfield dX1_width_1 fX1_29_9 rfl (by first | assumption | exact zget_eq | exact zget_ne (by first | assumption | exact Ne.symm (by assumption) | omega) (by first | assumption | exact zget_eq | exact zget_ne (by first | assumption | exact Ne.symm (by assumption) | omega) (by first | assumption | exact zget_eq | exact zget_ne (by first | assumption | exact Ne.symm (by assumption) | omega) (by first | assumption | exact zget_eq)))) rfl ?_
  refine z_aload_n dX1_width_4 rfl ?_
  refine z_getfield dX1_width_5 fX1_25_9 rfl (by first | assumption | exact zget_eq | exact zget_ne (by first | assumption | exact Ne.symm (by assumption) | omega) (by first | assumption | exact zget_eq | exact zget_ne (by first | assumption | exact Ne.symm (by assumption) | omega) (by first | assumption | exact zget_eq | exact zget_ne (by first | assumption | exact Ne.symm (by assumption) | omega) (by first | assumption | exact zget_eq)))) rfl ?_
  refine z_isub dX1_width_8 ?_
  refine z_iconst (w := 1) dX1_width_9 (by decide) ?_
  refine z_iadd dX1_width_10 ?_
  refine z_ireturn dX1_width_11 trivial (Nat.le_of_ble_eq_true rfl) (Nat.le_of_ble_eq_true rfl) ?_
  rw [pk_sub hlh, nI_1]
  exact hK
abbrev rX1_settledPart_9 : Room := ⟨0, 0, 0, 0⟩
def SX1_settledPart_9 (G : zC) : zS := fun as h n K => ∃ (a w r : Nat) (tl : List Value) (e : zEs), as = [.ref a] ∧ zCd G h 9 a w r tl e ∧ e.2.2.1 < 65536 ∧ e.2.2.2.1 < 65536 ∧ K (some (.int (zseti e.2.2.1 e.2.2.2.1))) h n
set_option maxRecDepth 100000 in
theorem tvX1_settledPart_9 {G : zC} {as : List Value} {h : zH} {n : Nat} {K : zP} (hs : SX1_settledPart_9 G as h n K) : (∃ b fs r, as = .ref b :: r ∧ h b = some (.inr (9, fs))) ∧ zCt G rX1_settledPart_9 mX1_settledPart as h n K := by
  obtain ⟨a, w, r, tl, ⟨f, p, lo, hi, held⟩, rfl, hC, hlo, hhi, hK⟩ := hs
  obtain ⟨hk, hw, hr⟩ := hC
  dsimp only at hk hw hr hlo hhi hK
  unfold zseti zset at hK
  refine ⟨⟨_, _, _, rfl, hk⟩, zCt.of (by decide) (Nat.le_of_ble_eq_true rfl) ?_⟩
  refine z_aload_n dX1_settledPart_0 rfl ?_
  refine z_getfield dX1_settledPart_1 fX1_29_9 rfl (by first | assumption | exact zget_eq | exact zget_ne (by first | assumption | exact Ne.symm (by assumption) | omega) (by first | assumption | exact zget_eq | exact zget_ne (by first | assumption | exact Ne.symm (by assumption) | omega) (by first | assumption | exact zget_eq | exact zget_ne (by first | assumption | exact Ne.symm (by assumption) | omega) (by first | assumption | exact zget_eq)))) rfl ?_
  refine z_ldc dX1_settledPart_4 coX1_42 ?_
  refine z_icmp_ge (t := 11) dX1_settledPart_6 (by decide) (fun q6 => ?_) (fun q6 => ?_)
  · rw [zn32, nI_leI (by omega) (by omega)] at q6
    rw [if_neg (by omega)] at hK
    refine z_aload_n dX1_settledPart_11 rfl ?_
    refine z_getfield dX1_settledPart_12 fX1_25_9 rfl (by first | assumption | exact zget_eq | exact zget_ne (by first | assumption | exact Ne.symm (by assumption) | omega) (by first | assumption | exact zget_eq | exact zget_ne (by first | assumption | exact Ne.symm (by assumption) | omega) (by first | assumption | exact zget_eq | exact zget_ne (by first | assumption | exact Ne.symm (by assumption) | omega) (by first | assumption | exact zget_eq)))) rfl ?_
    refine z_ldc dX1_settledPart_15 coX1_42 ?_
    refine z_icmp_lt (t := 23) dX1_settledPart_17 (by decide) (fun q17 => ?_) (fun q17 => ?_)
    · rw [zn32, nI_ltI (by omega) (by omega)] at q17
      rw [if_neg (by omega)] at hK
      refine z_aload_n dX1_settledPart_23 rfl ?_
      refine z_getfield dX1_settledPart_24 fX1_25_9 rfl (by first | assumption | exact zget_eq | exact zget_ne (by first | assumption | exact Ne.symm (by assumption) | omega) (by first | assumption | exact zget_eq | exact zget_ne (by first | assumption | exact Ne.symm (by assumption) | omega) (by first | assumption | exact zget_eq | exact zget_ne (by first | assumption | exact Ne.symm (by assumption) | omega) (by first | assumption | exact zget_eq)))) rfl ?_
      refine z_sipush (w := 16384) dX1_settledPart_27 (by decide) ?_
      refine z_icmp_lt (t := 48) dX1_settledPart_30 (by decide) (fun q30 => ?_) (fun q30 => ?_)
      · rw [zn16, nI_ltI (by omega) (by omega)] at q30
        rw [if_neg (by omega)] at hK
        refine z_iconst (w := -1) dX1_settledPart_48 (by decide) ?_
        refine z_ireturn dX1_settledPart_49 trivial (Nat.le_of_ble_eq_true rfl) (Nat.le_of_ble_eq_true rfl) ?_
        exact hK
      · rw [zn16, nI_ltI (by omega) (by omega)] at q30
        refine z_aload_n dX1_settledPart_33 rfl ?_
        refine z_getfield dX1_settledPart_34 fX1_29_9 rfl (by first | assumption | exact zget_eq | exact zget_ne (by first | assumption | exact Ne.symm (by assumption) | omega) (by first | assumption | exact zget_eq | exact zget_ne (by first | assumption | exact Ne.symm (by assumption) | omega) (by first | assumption | exact zget_eq | exact zget_ne (by first | assumption | exact Ne.symm (by assumption) | omega) (by first | assumption | exact zget_eq)))) rfl ?_
        refine z_ldc dX1_settledPart_37 coX1_49 ?_
        refine z_icmp_ge (t := 48) dX1_settledPart_39 (by decide) (fun q39 => ?_) (fun q39 => ?_)
        · rw [zn49, nI_leI (by omega) (by omega)] at q39
          rw [if_neg (by omega)] at hK
          refine z_iconst (w := -1) dX1_settledPart_48 (by decide) ?_
          refine z_ireturn dX1_settledPart_49 trivial (Nat.le_of_ble_eq_true rfl) (Nat.le_of_ble_eq_true rfl) ?_
          exact hK
        · rw [zn49, nI_leI (by omega) (by omega)] at q39
          rw [if_pos (by omega)] at hK
          refine z_sipush (w := 16384) dX1_settledPart_42 (by decide) ?_
          refine z_goto (t := 49) dX1_settledPart_45 (by decide) ?_
          refine z_ireturn dX1_settledPart_49 trivial (Nat.le_of_ble_eq_true rfl) (Nat.le_of_ble_eq_true rfl) ?_
          exact hK
    · rw [zn32, nI_ltI (by omega) (by omega)] at q17
      rw [if_pos (by omega)] at hK
      refine z_ldc dX1_settledPart_20 coX1_42 ?_
      refine z_ireturn dX1_settledPart_22 trivial (Nat.le_of_ble_eq_true rfl) (Nat.le_of_ble_eq_true rfl) ?_
      exact hK
  · rw [zn32, nI_leI (by omega) (by omega)] at q6
    rw [if_pos (by omega)] at hK
    refine z_iconst (w := 0) dX1_settledPart_9 (by decide) ?_
    refine z_ireturn dX1_settledPart_10 trivial (Nat.le_of_ble_eq_true rfl) (Nat.le_of_ble_eq_true rfl) ?_
    exact hK
abbrev rX1_putBit_9 : Room := ⟨1, 0, 0, 40⟩
def SX1_putBit_9 (G : zC) : zS := fun as h n K => ∃ (a w r : Nat) (tl : List Value) (e : zEs) (b : Int32), as = [.ref a, .int b] ∧ zCd G h 9 a w r tl e ∧ e.2.1 + 1 + e.2.2.2.2 ≤ 19872 ∧ ∀ h', zCd G h' 9 a w r tl (zput1 e b) → (∀ q, q ≠ a → q ≠ w → q ≠ r → h' q = h q) → K none h' n
set_option maxRecDepth 100000 in
theorem tvX1_putBit_9 {G : zC} {as : List Value} {h : zH} {n : Nat} {K : zP} (hs : SX1_putBit_9 G as h n K) : (∃ b fs r, as = .ref b :: r ∧ h b = some (.inr (9, fs))) ∧ zCt G rX1_putBit_9 mX1_putBit as h n K := by
  obtain ⟨a, w, r, tl, ⟨f, p, lo, hi, held⟩, b, rfl, hC, hcap, hK⟩ := hs
  obtain ⟨haw, har, hwr⟩ := hC.ne (by decide)
  obtain ⟨hk, hw, hr⟩ := hC
  dsimp only at hk hw hr hcap hK
  refine ⟨⟨_, _, _, rfl, hk⟩, zCt.of (by decide) (Nat.le_of_ble_eq_true rfl) ?_⟩
  have loop : ∀ (d p' : Nat) (f' : Nat → Int32) (h1 : zH), p' + d ≤ 19872 → zCd G h1 9 a w r tl (f', p', lo, hi, d) → zsbs (1 - b) d f' p' = zsbs (1 - b) held (zsb f p b) (p + 1) → p' + d = p + 1 + held → (∀ q, q ≠ a → q ≠ w → q ≠ r → h1 q = h q) → zZ (zXm G rX1_putBit_9 mX1_putBit [.ref a, .int b] h n K) 22 [(0, .ref a), (1, .int b)] [] h1 n 0 0 := by
    intro d
    induction d with
    | zero =>
      intro p' f' h1 hc2 hC2 he hp2 ho
      obtain ⟨hk2, hw2, hr2⟩ := hC2
      dsimp only at hk2 hw2 hr2
      refine z_aload_n dX1_putBit_22 rfl ?_
      refine z_getfield dX1_putBit_23 fX1_32_9 rfl (by first | assumption | exact zget_eq | exact zget_ne (by first | assumption | exact Ne.symm (by assumption) | omega) (by first | assumption | exact zget_eq | exact zget_ne (by first | assumption | exact Ne.symm (by assumption) | omega) (by first | assumption | exact zget_eq | exact zget_ne (by first | assumption | exact Ne.symm (by assumption) | omega) (by first | assumption | exact zget_eq)))) rfl ?_
      refine z_if_le (t := 66) dX1_putBit_26 (by decide) (fun q26 => ?_) (fun q26 => ?_)
      · refine z_vreturn dX1_putBit_66 rfl (Nat.le_of_ble_eq_true rfl) (Nat.le_of_ble_eq_true rfl) ?_
        exact hK h1 ⟨by rw [hk2]; simp only [zput1, ← hp2] <;> rfl, by rw [hw2]; simp only [zput1, ← hp2] <;> rfl, by rw [hr2]; simp only [zput1, ← he] <;> rfl⟩ ho
      · exact absurd (by decide) q26
    | succ d ih =>
      intro p' f' h1 hc2 hC2 he hp2 ho
      obtain ⟨hk2, hw2, hr2⟩ := hC2
      dsimp only at hk2 hw2 hr2
      refine z_aload_n dX1_putBit_22 rfl ?_
      refine z_getfield dX1_putBit_23 fX1_32_9 rfl (by first | assumption | exact zget_eq | exact zget_ne (by first | assumption | exact Ne.symm (by assumption) | omega) (by first | assumption | exact zget_eq | exact zget_ne (by first | assumption | exact Ne.symm (by assumption) | omega) (by first | assumption | exact zget_eq | exact zget_ne (by first | assumption | exact Ne.symm (by assumption) | omega) (by first | assumption | exact zget_eq)))) rfl ?_
      refine z_if_le (t := 66) dX1_putBit_26 (by decide) (fun q26 => ?_) (fun q26 => ?_)
      · exact absurd q26 (nI_nle (by omega) (by omega))
      · refine z_aload_n dX1_putBit_29 rfl ?_
        refine z_getfield dX1_putBit_30 fX1_9_9 rfl (by first | assumption | exact zget_eq | exact zget_ne (by first | assumption | exact Ne.symm (by assumption) | omega) (by first | assumption | exact zget_eq | exact zget_ne (by first | assumption | exact Ne.symm (by assumption) | omega) (by first | assumption | exact zget_eq | exact zget_ne (by first | assumption | exact Ne.symm (by assumption) | omega) (by first | assumption | exact zget_eq)))) rfl ?_
        refine z_aload_n dX1_putBit_33 rfl ?_
        refine z_getfield dX1_putBit_34 fX1_21_9 rfl (by first | assumption | exact zget_eq | exact zget_ne (by first | assumption | exact Ne.symm (by assumption) | omega) (by first | assumption | exact zget_eq | exact zget_ne (by first | assumption | exact Ne.symm (by assumption) | omega) (by first | assumption | exact zget_eq | exact zget_ne (by first | assumption | exact Ne.symm (by assumption) | omega) (by first | assumption | exact zget_eq)))) rfl ?_
        refine z_iconst (w := 1) dX1_putBit_37 (by decide) ?_
        refine z_iload_n dX1_putBit_38 rfl ?_
        refine z_isub dX1_putBit_39 ?_
        refine zcall3 (zck_V (na := 2) (ci := 5) (R' := rX4_setBit) (M' := mX4_setBit) (fun _ _ _ _ => tvX4_setBit) (by decide) kX4_setBit lX1_50 (by decide +kernel) rfl) dX1_putBit_40 (Nat.le_of_ble_eq_true rfl) (Nat.le_of_ble_eq_true rfl) (Nat.le_of_ble_eq_true rfl) ?_
        refine ⟨_, _, _, _, _, _, _, rfl, hw2, hr2, (by omega), rfl, (by omega), (by omega), fun h3 e1 e2 o1 => ?_⟩
        have hk3 := (o1 a haw har).trans hk2
        refine z_aload_n dX1_putBit_43 rfl ?_
        refine z_dup dX1_putBit_44 rfl ?_
        refine z_getfield dX1_putBit_45 fX1_21_9 rfl (by first | assumption | exact zget_eq | exact zget_ne (by first | assumption | exact Ne.symm (by assumption) | omega) (by first | assumption | exact zget_eq | exact zget_ne (by first | assumption | exact Ne.symm (by assumption) | omega) (by first | assumption | exact zget_eq | exact zget_ne (by first | assumption | exact Ne.symm (by assumption) | omega) (by first | assumption | exact zget_eq)))) rfl ?_
        refine z_iconst (w := 1) dX1_putBit_48 (by decide) ?_
        refine z_iadd dX1_putBit_49 ?_
        refine z_putfield dX1_putBit_50 fX1_21_9 rfl (fun q => absurd q (by decide)) (by first | assumption | exact zget_eq | exact zget_ne (by first | assumption | exact Ne.symm (by assumption) | omega) (by first | assumption | exact zget_eq | exact zget_ne (by first | assumption | exact Ne.symm (by assumption) | omega) (by first | assumption | exact zget_eq | exact zget_ne (by first | assumption | exact Ne.symm (by assumption) | omega) (by first | assumption | exact zget_eq)))) (Nat.le_of_ble_eq_true rfl) (Or.inl ⟨rfl, _, rfl⟩) ?_
        refine z_aload_n dX1_putBit_53 rfl ?_
        refine z_dup dX1_putBit_54 rfl ?_
        refine z_getfield dX1_putBit_55 fX1_32_9 rfl (by first | assumption | exact zget_eq | exact zget_ne (by first | assumption | exact Ne.symm (by assumption) | omega) (by first | assumption | exact zget_eq | exact zget_ne (by first | assumption | exact Ne.symm (by assumption) | omega) (by first | assumption | exact zget_eq | exact zget_ne (by first | assumption | exact Ne.symm (by assumption) | omega) (by first | assumption | exact zget_eq)))) rfl ?_
        refine z_iconst (w := 1) dX1_putBit_58 (by decide) ?_
        refine z_isub dX1_putBit_59 ?_
        refine z_putfield dX1_putBit_60 fX1_32_9 rfl (fun q => absurd q (by decide)) (by first | assumption | exact zget_eq | exact zget_ne (by first | assumption | exact Ne.symm (by assumption) | omega) (by first | assumption | exact zget_eq | exact zget_ne (by first | assumption | exact Ne.symm (by assumption) | omega) (by first | assumption | exact zget_eq | exact zget_ne (by first | assumption | exact Ne.symm (by assumption) | omega) (by first | assumption | exact zget_eq)))) (Nat.le_of_ble_eq_true rfl) (Or.inl ⟨rfl, _, rfl⟩) ?_
        refine z_goto (t := 22) dX1_putBit_63 (by decide) ?_
        exact ih (p' + 1) _ _ (by omega) ⟨by rw [zget_eq]; simp [nI_1, nI_pred], by rw [zup_ne (Ne.symm haw), zup_ne (Ne.symm haw), e1, zct], by rw [zup_ne (Ne.symm har), zup_ne (Ne.symm har)]; exact e2⟩ (by rw [← he]; rfl) (by omega) (fun q g1 g2 g3 => by rw [zup_ne g1, zup_ne g1, o1 q g2 g3, ho q g1 g2 g3])
  refine z_aload_n dX1_putBit_0 rfl ?_
  refine z_getfield dX1_putBit_1 fX1_9_9 rfl (by first | assumption | exact zget_eq | exact zget_ne (by first | assumption | exact Ne.symm (by assumption) | omega) (by first | assumption | exact zget_eq | exact zget_ne (by first | assumption | exact Ne.symm (by assumption) | omega) (by first | assumption | exact zget_eq | exact zget_ne (by first | assumption | exact Ne.symm (by assumption) | omega) (by first | assumption | exact zget_eq)))) rfl ?_
  refine z_aload_n dX1_putBit_4 rfl ?_
  refine z_getfield dX1_putBit_5 fX1_21_9 rfl (by first | assumption | exact zget_eq | exact zget_ne (by first | assumption | exact Ne.symm (by assumption) | omega) (by first | assumption | exact zget_eq | exact zget_ne (by first | assumption | exact Ne.symm (by assumption) | omega) (by first | assumption | exact zget_eq | exact zget_ne (by first | assumption | exact Ne.symm (by assumption) | omega) (by first | assumption | exact zget_eq)))) rfl ?_
  refine z_iload_n dX1_putBit_8 rfl ?_
  refine zcall3 (zck_V (na := 2) (ci := 5) (R' := rX4_setBit) (M' := mX4_setBit) (fun _ _ _ _ => tvX4_setBit) (by decide) kX4_setBit lX1_50 (by decide +kernel) rfl) dX1_putBit_9 (Nat.le_of_ble_eq_true rfl) (Nat.le_of_ble_eq_true rfl) (Nat.le_of_ble_eq_true rfl) ?_
  refine ⟨_, _, _, _, _, _, _, rfl, hw, hr, (by omega), rfl, (by omega), (by omega), fun h1 e1 e2 o1 => ?_⟩
  have hk1 := (o1 a haw har).trans hk
  refine z_aload_n dX1_putBit_12 rfl ?_
  refine z_dup dX1_putBit_13 rfl ?_
  refine z_getfield dX1_putBit_14 fX1_21_9 rfl (by first | assumption | exact zget_eq | exact zget_ne (by first | assumption | exact Ne.symm (by assumption) | omega) (by first | assumption | exact zget_eq | exact zget_ne (by first | assumption | exact Ne.symm (by assumption) | omega) (by first | assumption | exact zget_eq | exact zget_ne (by first | assumption | exact Ne.symm (by assumption) | omega) (by first | assumption | exact zget_eq)))) rfl ?_
  refine z_iconst (w := 1) dX1_putBit_17 (by decide) ?_
  refine z_iadd dX1_putBit_18 ?_
  refine z_putfield dX1_putBit_19 fX1_21_9 rfl (fun q => absurd q (by decide)) (by first | assumption | exact zget_eq | exact zget_ne (by first | assumption | exact Ne.symm (by assumption) | omega) (by first | assumption | exact zget_eq | exact zget_ne (by first | assumption | exact Ne.symm (by assumption) | omega) (by first | assumption | exact zget_eq | exact zget_ne (by first | assumption | exact Ne.symm (by assumption) | omega) (by first | assumption | exact zget_eq)))) (Nat.le_of_ble_eq_true rfl) (Or.inl ⟨rfl, _, rfl⟩) ?_
  exact loop held (p + 1) _ _ (by omega) ⟨by rw [zget_eq]; simp [nI_1], by rw [zup_ne (Ne.symm haw), e1, zct], by rw [zup_ne (Ne.symm har)]; exact e2⟩ rfl rfl (fun q g1 g2 g3 => by rw [zup_ne g1, o1 q g2 g3])

/-! Octets, the rest -/
set_option maxRecDepth 100000 in
theorem kJmax : Cond.code Lib.Math.max.name Lib.Math.max.code 2 (some .int) ∈ zT := zTm (i := 85) rfl rfl
set_option maxRecDepth 100000 in
theorem kJmin : Cond.code Lib.Math.min.name Lib.Math.min.code 2 (some .int) ∈ zT := zTm (i := 204) rfl rfl
set_option maxRecDepth 100000 in
theorem kJobj : Cond.code objectInit ⟨#[0xb1]⟩ 1 none ∈ zT := zTm (i := 76) rfl rfl
theorem lX4_9 : zall [.methodLink RX4 9 Lib.Math.max.name, .static Lib.Math.max.name, .initialized "java/lang/Math"] = true := by decide +kernel
theorem lX10_59 : zall [.methodLink RX10 59 Lib.Math.min.name, .static Lib.Math.min.name, .initialized "java/lang/Math"] = true := by decide +kernel
theorem lX10_65 : zall [.methodLink RX10 65 Lib.Math.max.name, .static Lib.Math.max.name, .initialized "java/lang/Math"] = true := by decide +kernel
theorem lX3_9 : zall [.methodLink RX3 9 Lib.Math.max.name, .static Lib.Math.max.name, .initialized "java/lang/Math"] = true := by decide +kernel
theorem lX10_285 : zall [.methodLink RX10 285 arraycopyName, .native arraycopyName, .static arraycopyName, .initialized "java/lang/System"] = true := by decide +kernel
theorem lX4_33 : zall [.methodLink RX4 33 Lib.Math.min.name, .static Lib.Math.min.name, .initialized "java/lang/Math"] = true := by decide +kernel
theorem zsh3 {p : Nat} (hp : p < 2147483648) : nI p >>> ((3 : Int32) &&& 31) = nI (p / 8) := pk_shrN hp _ 3 (by decide)
theorem zand7 {p : Nat} (hp : p < 2147483648) : nI p &&& (7 : Int32) = nI (p % 8) := pk_andN (by omega) 3 (by decide)
theorem zsub7 {p : Nat} (hp : p < 2147483648) : (7 : Int32) - (nI p &&& 7) = nI (7 - p % 8) := by
  rw [zand7 hp]
  exact pk_sub (a := 7) (b := p % 8) (by omega)
theorem zuu (f : Nat → Int32) (k : Nat) (x y : Int32) : upd (upd f k x) k y = upd f k y := by
  funext j
  by_cases h : j = k <;> simp [upd, h]
/-- a bit of a byte, from the highest on -/
def zbt (x : Int32) (j : Nat) : Int32 := (x >>> (nI (7 - j) &&& 31)) &&& 1
def zbit (f : Nat → Int32) (k p : Nat) : Int32 := if p / 8 < k then zbt (f (p / 8)) (p % 8) else 0
abbrev rX4_bitAt : Room := ⟨0, 0, 0, 0⟩
def SX4_bitAt (G : zC) : zS := fun as h n K => ∃ (a r m k p : Nat) (f : Nat → Int32), as = [.ref a, .int (nI p)] ∧ h a = some (zO 5 [.ref r, .int (nI k)]) ∧ h r = some (zI G m f) ∧ m < 2147483648 ∧ k ≤ m ∧ p < 2147483648 ∧ K (some (.int (zbit f k p))) h n
set_option maxRecDepth 100000 in
theorem tvX4_bitAt {G : zC} {as : List Value} {h : zH} {n : Nat} {K : zP} (hs : SX4_bitAt G as h n K) : (∃ b fs r, as = .ref b :: r ∧ h b = some (.inr (5, fs))) ∧ zCt G rX4_bitAt mX4_bitAt as h n K := by
  obtain ⟨a, r, m, k, p, f, rfl, hk, hr, hm, hkm, hp, hK⟩ := hs
  refine ⟨⟨_, _, _, rfl, hk⟩, zCt.of (by decide) (Nat.le_of_ble_eq_true rfl) ?_⟩
  refine z_iload_n dX4_bitAt_0 rfl ?_
  refine z_iconst (w := 3) dX4_bitAt_1 (by decide) ?_
  refine z_ishr dX4_bitAt_2 ?_
  rw [zsh3 hp]
  refine z_istore_n dX4_bitAt_3 (Nat.le_of_ble_eq_true rfl) ?_
  refine z_iload_n dX4_bitAt_4 rfl ?_
  refine z_if_lt (t := 25) dX4_bitAt_5 (by decide) (fun q5 => ?_) (fun q5 => ?_)
  · exact absurd q5 (nI_pos (by omega))
  · refine z_iload_n dX4_bitAt_8 rfl ?_
    refine z_aload_n dX4_bitAt_9 rfl ?_
    refine z_getfield dX4_bitAt_10 fX4_21_5 rfl (by first | assumption | exact zget_eq | exact zget_ne (by first | assumption | exact Ne.symm (by assumption) | omega) (by first | assumption | exact zget_eq | exact zget_ne (by first | assumption | exact Ne.symm (by assumption) | omega) (by first | assumption | exact zget_eq | exact zget_ne (by first | assumption | exact Ne.symm (by assumption) | omega) (by first | assumption | exact zget_eq)))) rfl ?_
    refine z_icmp_ge (t := 25) dX4_bitAt_13 (by decide) (fun q13 => ?_) (fun q13 => ?_)
    · rw [zbit, if_neg (by rw [nI_leI (by omega) (by omega)] at q13; omega)] at hK
      refine z_iconst (w := 0) dX4_bitAt_25 (by decide) ?_
      refine z_ireturn dX4_bitAt_26 trivial (Nat.le_of_ble_eq_true rfl) (Nat.le_of_ble_eq_true rfl) ?_
      exact hK
    · rw [nI_leI (by omega) (by omega)] at q13
      refine z_iload_n dX4_bitAt_16 rfl ?_
      refine z_aload_n dX4_bitAt_17 rfl ?_
      refine z_getfield dX4_bitAt_18 fX4_15_5 rfl (by first | assumption | exact zget_eq | exact zget_ne (by first | assumption | exact Ne.symm (by assumption) | omega) (by first | assumption | exact zget_eq | exact zget_ne (by first | assumption | exact Ne.symm (by assumption) | omega) (by first | assumption | exact zget_eq | exact zget_ne (by first | assumption | exact Ne.symm (by assumption) | omega) (by first | assumption | exact zget_eq)))) rfl ?_
      refine z_alen dX4_bitAt_21 (by first | assumption | exact zget_eq | exact zget_ne (by first | assumption | exact Ne.symm (by assumption) | omega) (by first | assumption | exact zget_eq | exact zget_ne (by first | assumption | exact Ne.symm (by assumption) | omega) (by first | assumption | exact zget_eq | exact zget_ne (by first | assumption | exact Ne.symm (by assumption) | omega) (by first | assumption | exact zget_eq)))) ?_
      refine z_icmp_lt (t := 27) dX4_bitAt_22 (by decide) (fun q22 => ?_) (fun q22 => ?_)
      · refine z_aload_n dX4_bitAt_27 rfl ?_
        refine z_getfield dX4_bitAt_28 fX4_15_5 rfl (by first | assumption | exact zget_eq | exact zget_ne (by first | assumption | exact Ne.symm (by assumption) | omega) (by first | assumption | exact zget_eq | exact zget_ne (by first | assumption | exact Ne.symm (by assumption) | omega) (by first | assumption | exact zget_eq | exact zget_ne (by first | assumption | exact Ne.symm (by assumption) | omega) (by first | assumption | exact zget_eq)))) rfl ?_
        refine z_iload_n dX4_bitAt_31 rfl ?_
        refine z_iaload dX4_bitAt_32 (by first | assumption | exact zget_eq | exact zget_ne (by first | assumption | exact Ne.symm (by assumption) | omega) (by first | assumption | exact zget_eq | exact zget_ne (by first | assumption | exact Ne.symm (by assumption) | omega) (by first | assumption | exact zget_eq | exact zget_ne (by first | assumption | exact Ne.symm (by assumption) | omega) (by first | assumption | exact zget_eq)))) (vp_in_nI (by omega) hm) ?_
        rw [nI_clamp (by omega)]
        refine z_bipush (w := 7) dX4_bitAt_33 (by decide) ?_
        refine z_iload_n dX4_bitAt_35 rfl ?_
        refine z_bipush (w := 7) dX4_bitAt_36 (by decide) ?_
        refine z_iand dX4_bitAt_38 ?_
        refine z_isub dX4_bitAt_39 ?_
        rw [zsub7 hp]
        refine z_ishr dX4_bitAt_40 ?_
        refine z_iconst (w := 1) dX4_bitAt_41 (by decide) ?_
        refine z_iand dX4_bitAt_42 ?_
        refine z_ireturn dX4_bitAt_43 trivial (Nat.le_of_ble_eq_true rfl) (Nat.le_of_ble_eq_true rfl) ?_
        rw [zbit, if_pos (by omega)] at hK
        exact hK
      · exact absurd (nI_lt (by omega) hm) q22
abbrev rX4_setBit : Room := ⟨0, 0, 0, 0⟩
def SX4_setBit (G : zC) : zS := fun as h n K => ∃ (a r m k p : Nat) (x : Int32) (f : Nat → Int32), as = [.ref a, .int (nI p), .int x] ∧ h a = some (zO 5 [.ref r, .int (nI k)]) ∧ h r = some (zI G m f) ∧ m < 2147483648 ∧ k = (p + 7) / 8 ∧ p / 8 < m ∧ p < 2147483640 ∧ ∀ h', h' a = some (zO 5 [.ref r, .int (nI (p / 8 + 1))]) → h' r = some (zI G m (upd f (p / 8) ((if p % 8 = 0 then 0 else f (p / 8)) ||| (x <<< (nI (7 - p % 8) &&& 31))))) → (∀ q, q ≠ a → q ≠ r → h' q = h q) → K none h' n
set_option maxRecDepth 100000 in
theorem tvX4_setBit {G : zC} {as : List Value} {h : zH} {n : Nat} {K : zP} (hs : SX4_setBit G as h n K) : (∃ b fs r, as = .ref b :: r ∧ h b = some (.inr (5, fs))) ∧ zCt G rX4_setBit mX4_setBit as h n K := by
  obtain ⟨a, r, m, k, p, x, f, rfl, hk, hr, hm, hkp, hpm, hp, hK⟩ := hs
  have har : a ≠ r := fun e => by rw [e, hr] at hk; simp at hk
  have hp' : p < 2147483648 := by omega
  refine ⟨⟨_, _, _, rfl, hk⟩, zCt.of (by decide) (Nat.le_of_ble_eq_true rfl) ?_⟩
  refine z_iload_n dX4_setBit_0 rfl ?_
  refine z_iconst (w := 3) dX4_setBit_1 (by decide) ?_
  refine z_ishr dX4_setBit_2 ?_
  rw [zsh3 hp']
  refine z_istore_n dX4_setBit_3 (Nat.le_of_ble_eq_true rfl) ?_
  refine z_iload_n dX4_setBit_4 rfl ?_
  refine z_if_lt (t := 25) dX4_setBit_5 (by decide) (fun q5 => ?_) (fun q5 => ?_)
  · exact absurd q5 (nI_pos (by omega))
  · refine z_iload_n dX4_setBit_8 rfl ?_
    refine z_aload_n dX4_setBit_9 rfl ?_
    refine z_getfield dX4_setBit_10 fX4_21_5 rfl (by first | assumption | exact zget_eq | exact zget_ne (by first | assumption | exact Ne.symm (by assumption) | omega) (by first | assumption | exact zget_eq | exact zget_ne (by first | assumption | exact Ne.symm (by assumption) | omega) (by first | assumption | exact zget_eq | exact zget_ne (by first | assumption | exact Ne.symm (by assumption) | omega) (by first | assumption | exact zget_eq)))) rfl ?_
    refine z_icmp_gt (t := 25) dX4_setBit_13 (by decide) (fun q13 => ?_) (fun q13 => ?_)
    · rw [nI_ltI (by omega) (by omega)] at q13; omega
    · refine z_iload_n dX4_setBit_16 rfl ?_
      refine z_aload_n dX4_setBit_17 rfl ?_
      refine z_getfield dX4_setBit_18 fX4_15_5 rfl (by first | assumption | exact zget_eq | exact zget_ne (by first | assumption | exact Ne.symm (by assumption) | omega) (by first | assumption | exact zget_eq | exact zget_ne (by first | assumption | exact Ne.symm (by assumption) | omega) (by first | assumption | exact zget_eq | exact zget_ne (by first | assumption | exact Ne.symm (by assumption) | omega) (by first | assumption | exact zget_eq)))) rfl ?_
      refine z_alen dX4_setBit_21 (by first | assumption | exact zget_eq | exact zget_ne (by first | assumption | exact Ne.symm (by assumption) | omega) (by first | assumption | exact zget_eq | exact zget_ne (by first | assumption | exact Ne.symm (by assumption) | omega) (by first | assumption | exact zget_eq | exact zget_ne (by first | assumption | exact Ne.symm (by assumption) | omega) (by first | assumption | exact zget_eq)))) ?_
      refine z_icmp_lt (t := 26) dX4_setBit_22 (by decide) (fun q22 => ?_) (fun q22 => ?_)
      · refine z_iload_n dX4_setBit_26 rfl ?_
        refine z_aload_n dX4_setBit_27 rfl ?_
        refine z_getfield dX4_setBit_28 fX4_21_5 rfl (by first | assumption | exact zget_eq | exact zget_ne (by first | assumption | exact Ne.symm (by assumption) | omega) (by first | assumption | exact zget_eq | exact zget_ne (by first | assumption | exact Ne.symm (by assumption) | omega) (by first | assumption | exact zget_eq | exact zget_ne (by first | assumption | exact Ne.symm (by assumption) | omega) (by first | assumption | exact zget_eq)))) rfl ?_
        refine z_icmp_ne (t := 51) dX4_setBit_31 (by decide) (fun q31 => ?_) (fun q31 => ?_)
        · rw [nI_eq (by omega) (by omega)] at q31
          have h0 : ¬ p % 8 = 0 := by omega
          rw [if_neg h0] at hK
          refine z_aload_n dX4_setBit_51 rfl ?_
          refine z_getfield dX4_setBit_52 fX4_15_5 rfl (by first | assumption | exact zget_eq | exact zget_ne (by first | assumption | exact Ne.symm (by assumption) | omega) (by first | assumption | exact zget_eq | exact zget_ne (by first | assumption | exact Ne.symm (by assumption) | omega) (by first | assumption | exact zget_eq | exact zget_ne (by first | assumption | exact Ne.symm (by assumption) | omega) (by first | assumption | exact zget_eq)))) rfl ?_
          refine z_iload_n dX4_setBit_55 rfl ?_
          refine z_dup2 dX4_setBit_56 rfl rfl ?_
          refine z_iaload dX4_setBit_57 (by first | assumption | exact zget_eq | exact zget_ne (by first | assumption | exact Ne.symm (by assumption) | omega) (by first | assumption | exact zget_eq | exact zget_ne (by first | assumption | exact Ne.symm (by assumption) | omega) (by first | assumption | exact zget_eq | exact zget_ne (by first | assumption | exact Ne.symm (by assumption) | omega) (by first | assumption | exact zget_eq)))) (vp_in_nI (by omega) hm) ?_
          try rw [nI_clamp (by omega)]
          refine z_iload_n dX4_setBit_58 rfl ?_
          refine z_bipush (w := 7) dX4_setBit_59 (by decide) ?_
          refine z_iload_n dX4_setBit_61 rfl ?_
          refine z_bipush (w := 7) dX4_setBit_62 (by decide) ?_
          refine z_iand dX4_setBit_64 ?_
          refine z_isub dX4_setBit_65 ?_
          rw [zsub7 hp']
          refine z_ishl dX4_setBit_66 ?_
          refine z_ior dX4_setBit_67 ?_
          refine z_iastore dX4_setBit_68 (by first | assumption | exact zget_eq | exact zget_ne (by first | assumption | exact Ne.symm (by assumption) | omega) (by first | assumption | exact zget_eq | exact zget_ne (by first | assumption | exact Ne.symm (by assumption) | omega) (by first | assumption | exact zget_eq | exact zget_ne (by first | assumption | exact Ne.symm (by assumption) | omega) (by first | assumption | exact zget_eq)))) (vp_in_nI (by omega) hm) ?_
          refine z_vreturn dX4_setBit_69 rfl (Nat.le_of_ble_eq_true rfl) (Nat.le_of_ble_eq_true rfl) ?_
          rw [nI_clamp (by omega)]
          by_cases e0 : p % 8 = 0
          · first
              | (exfalso; omega)
              | exact hK _ (by simp [va_up, har, nI_1, ← q31]) (by simp [va_up, har.symm, zuu, upd]) (fun q h2 h3 => by simp [va_up, h2, h3])
          · first
              | (exfalso; omega)
              | exact hK _ (by rw [zup_ne har, hk, show k = p / 8 + 1 by omega]) (by simp [va_up]) (fun q h2 h3 => by simp [va_up, h2, h3])
        · rw [nI_eq (by omega) (by omega)] at q31
          have h0 : p % 8 = 0 := by omega
          rw [if_pos h0] at hK
          refine z_aload_n dX4_setBit_34 rfl ?_
          refine z_getfield dX4_setBit_35 fX4_15_5 rfl (by first | assumption | exact zget_eq | exact zget_ne (by first | assumption | exact Ne.symm (by assumption) | omega) (by first | assumption | exact zget_eq | exact zget_ne (by first | assumption | exact Ne.symm (by assumption) | omega) (by first | assumption | exact zget_eq | exact zget_ne (by first | assumption | exact Ne.symm (by assumption) | omega) (by first | assumption | exact zget_eq)))) rfl ?_
          refine z_iload_n dX4_setBit_38 rfl ?_
          refine z_iconst (w := 0) dX4_setBit_39 (by decide) ?_
          refine z_iastore dX4_setBit_40 (by first | assumption | exact zget_eq | exact zget_ne (by first | assumption | exact Ne.symm (by assumption) | omega) (by first | assumption | exact zget_eq | exact zget_ne (by first | assumption | exact Ne.symm (by assumption) | omega) (by first | assumption | exact zget_eq | exact zget_ne (by first | assumption | exact Ne.symm (by assumption) | omega) (by first | assumption | exact zget_eq)))) (vp_in_nI (by omega) hm) ?_
          refine z_aload_n dX4_setBit_41 rfl ?_
          refine z_dup dX4_setBit_42 rfl ?_
          refine z_getfield dX4_setBit_43 fX4_21_5 rfl (by first | assumption | exact zget_eq | exact zget_ne (by first | assumption | exact Ne.symm (by assumption) | omega) (by first | assumption | exact zget_eq | exact zget_ne (by first | assumption | exact Ne.symm (by assumption) | omega) (by first | assumption | exact zget_eq | exact zget_ne (by first | assumption | exact Ne.symm (by assumption) | omega) (by first | assumption | exact zget_eq)))) rfl ?_
          refine z_iconst (w := 1) dX4_setBit_46 (by decide) ?_
          refine z_iadd dX4_setBit_47 ?_
          refine z_putfield dX4_setBit_48 fX4_21_5 rfl (fun q => absurd q (by decide)) (by first | assumption | exact zget_eq | exact zget_ne (by first | assumption | exact Ne.symm (by assumption) | omega) (by first | assumption | exact zget_eq | exact zget_ne (by first | assumption | exact Ne.symm (by assumption) | omega) (by first | assumption | exact zget_eq | exact zget_ne (by first | assumption | exact Ne.symm (by assumption) | omega) (by first | assumption | exact zget_eq)))) (Nat.le_of_ble_eq_true rfl) (Or.inl ⟨rfl, _, rfl⟩) ?_
          refine z_aload_n dX4_setBit_51 rfl ?_
          refine z_getfield dX4_setBit_52 fX4_15_5 rfl (by first | assumption | exact zget_eq | exact zget_ne (by first | assumption | exact Ne.symm (by assumption) | omega) (by first | assumption | exact zget_eq | exact zget_ne (by first | assumption | exact Ne.symm (by assumption) | omega) (by first | assumption | exact zget_eq | exact zget_ne (by first | assumption | exact Ne.symm (by assumption) | omega) (by first | assumption | exact zget_eq)))) rfl ?_
          refine z_iload_n dX4_setBit_55 rfl ?_
          refine z_dup2 dX4_setBit_56 rfl rfl ?_
          refine z_iaload dX4_setBit_57 (by first | assumption | exact zget_eq | exact zget_ne (by first | assumption | exact Ne.symm (by assumption) | omega) (by first | assumption | exact zget_eq | exact zget_ne (by first | assumption | exact Ne.symm (by assumption) | omega) (by first | assumption | exact zget_eq | exact zget_ne (by first | assumption | exact Ne.symm (by assumption) | omega) (by first | assumption | exact zget_eq)))) (vp_in_nI (by omega) hm) ?_
          try rw [nI_clamp (by omega)]
          refine z_iload_n dX4_setBit_58 rfl ?_
          refine z_bipush (w := 7) dX4_setBit_59 (by decide) ?_
          refine z_iload_n dX4_setBit_61 rfl ?_
          refine z_bipush (w := 7) dX4_setBit_62 (by decide) ?_
          refine z_iand dX4_setBit_64 ?_
          refine z_isub dX4_setBit_65 ?_
          rw [zsub7 hp']
          refine z_ishl dX4_setBit_66 ?_
          refine z_ior dX4_setBit_67 ?_
          refine z_iastore dX4_setBit_68 (by first | assumption | exact zget_eq | exact zget_ne (by first | assumption | exact Ne.symm (by assumption) | omega) (by first | assumption | exact zget_eq | exact zget_ne (by first | assumption | exact Ne.symm (by assumption) | omega) (by first | assumption | exact zget_eq | exact zget_ne (by first | assumption | exact Ne.symm (by assumption) | omega) (by first | assumption | exact zget_eq)))) (vp_in_nI (by omega) hm) ?_
          refine z_vreturn dX4_setBit_69 rfl (Nat.le_of_ble_eq_true rfl) (Nat.le_of_ble_eq_true rfl) ?_
          rw [nI_clamp (by omega)]
          by_cases e0 : p % 8 = 0
          · first
              | (exfalso; omega)
              | exact hK _ (by simp [va_up, har, nI_1, ← q31]) (by simp [va_up, har.symm, zuu, upd]) (fun q h2 h3 => by simp [va_up, h2, h3])
          · first
              | (exfalso; omega)
              | exact hK _ (by rw [zup_ne har, hk, show k = p / 8 + 1 by omega]) (by simp [va_up]) (fun q h2 h3 => by simp [va_up, h2, h3])
      · exact absurd (nI_lt hpm hm) q22

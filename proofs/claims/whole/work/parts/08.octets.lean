/-! Octets: a row of bytes -/
abbrev zO (ci : Nat) (fs : List Value) : va_E := .inr (ci, fs)
def zhas (c i : Int32) : Int32 := if i < 0 then 0 else if c ≤ i then 0 else 1
abbrev rX4_many : Room := ⟨0, 0, 0, 0⟩
def SX4_many (G : zC) : zS := fun as h n K => ∃ (a : Nat) (v0 : Value) (c : Int32), as = [.ref a] ∧ h a = some (zO 5 [v0, .int c]) ∧ K (some (.int c)) h n
set_option maxRecDepth 100000 in
theorem tvX4_many {G : zC} {as : List Value} {h : zH} {n : Nat} {K : zP} (hs : SX4_many G as h n K) : (∃ b fs r, as = .ref b :: r ∧ h b = some (.inr (5, fs))) ∧ zCt G rX4_many mX4_many as h n K := by
  obtain ⟨a, v0, c, rfl, hk, hK⟩ := hs
  refine ⟨⟨_, _, _, rfl, hk⟩, zCt.of (by decide) (Nat.le_of_ble_eq_true rfl) ?_⟩
  refine z_aload_n dX4_many_0 rfl ?_
  refine z_getfield dX4_many_1 fX4_21_5 rfl (by first | assumption | exact zget_eq | exact zget_ne (by first | assumption | exact Ne.symm (by assumption) | omega) (by first | assumption | exact zget_eq | exact zget_ne (by first | assumption | exact Ne.symm (by assumption) | omega) (by first | assumption | exact zget_eq | exact zget_ne (by first | assumption | exact Ne.symm (by assumption) | omega) (by first | assumption | exact zget_eq)))) rfl ?_
  refine z_ireturn dX4_many_4 trivial (Nat.le_of_ble_eq_true rfl) (Nat.le_of_ble_eq_true rfl) ?_
  exact hK
abbrev rX4_has : Room := ⟨0, 0, 0, 0⟩
def SX4_has (G : zC) : zS := fun as h n K => ∃ (a : Nat) (v0 : Value) (c i : Int32), as = [.ref a, .int i] ∧ h a = some (zO 5 [v0, .int c]) ∧ K (some (.int (zhas c i))) h n
set_option maxRecDepth 100000 in
theorem tvX4_has {G : zC} {as : List Value} {h : zH} {n : Nat} {K : zP} (hs : SX4_has G as h n K) : (∃ b fs r, as = .ref b :: r ∧ h b = some (.inr (5, fs))) ∧ zCt G rX4_has mX4_has as h n K := by
  obtain ⟨a, v0, c, i, rfl, hk, hK⟩ := hs
  refine ⟨⟨_, _, _, rfl, hk⟩, zCt.of (by decide) (Nat.le_of_ble_eq_true rfl) ?_⟩
  refine z_iload_n dX4_has_0 rfl ?_
  refine z_if_lt (t := 16) dX4_has_1 (by decide) (fun q1 => ?_) (fun q1 => ?_)
  · rw [zhas, if_pos q1] at hK
    refine z_iconst (w := 0) dX4_has_16 (by decide) ?_
    refine z_ireturn dX4_has_17 (by first | exact Or.inl rfl | exact Or.inr rfl | simp) (Nat.le_of_ble_eq_true rfl) (Nat.le_of_ble_eq_true rfl) ?_
    exact hK
  · refine z_iload_n dX4_has_4 rfl ?_
    refine z_aload_n dX4_has_5 rfl ?_
    refine z_getfield dX4_has_6 fX4_21_5 rfl (by first | assumption | exact zget_eq | exact zget_ne (by first | assumption | exact Ne.symm (by assumption) | omega) (by first | assumption | exact zget_eq | exact zget_ne (by first | assumption | exact Ne.symm (by assumption) | omega) (by first | assumption | exact zget_eq | exact zget_ne (by first | assumption | exact Ne.symm (by assumption) | omega) (by first | assumption | exact zget_eq)))) rfl ?_
    refine z_icmp_ge (t := 16) dX4_has_9 (by decide) (fun q9 => ?_) (fun q9 => ?_)
    · rw [zhas, if_neg q1, if_pos q9] at hK
      refine z_iconst (w := 0) dX4_has_16 (by decide) ?_
      refine z_ireturn dX4_has_17 (by first | exact Or.inl rfl | exact Or.inr rfl | simp) (Nat.le_of_ble_eq_true rfl) (Nat.le_of_ble_eq_true rfl) ?_
      exact hK
    · rw [zhas, if_neg q1, if_neg q9] at hK
      refine z_iconst (w := 1) dX4_has_12 (by decide) ?_
      refine z_goto (t := 17) dX4_has_13 (by decide) ?_
      refine z_ireturn dX4_has_17 (by first | exact Or.inl rfl | exact Or.inr rfl | simp) (Nat.le_of_ble_eq_true rfl) (Nat.le_of_ble_eq_true rfl) ?_
      exact hK
abbrev rX4_byteAt : Room := ⟨1, 0, 0, 40⟩
def SX4_byteAt (G : zC) : zS := fun as h n K => ∃ (a r : Nat) (v1 : Value) (m : Nat) (f : Nat → Int32) (i : Int32), as = [.ref a, .int i] ∧ h a = some (zO 5 [.ref r, v1]) ∧ h r = some (zI G m f) ∧ m < 2147483648 ∧ K (some (.int (zat m f i))) h n
set_option maxRecDepth 100000 in
theorem tvX4_byteAt {G : zC} {as : List Value} {h : zH} {n : Nat} {K : zP} (hs : SX4_byteAt G as h n K) : (∃ b fs r, as = .ref b :: r ∧ h b = some (.inr (5, fs))) ∧ zCt G rX4_byteAt mX4_byteAt as h n K := by
  obtain ⟨a, r, v1, m, f, i, rfl, hk, hr, hm, hK⟩ := hs
  refine ⟨⟨_, _, _, rfl, hk⟩, zCt.of (by decide) (Nat.le_of_ble_eq_true rfl) ?_⟩
  refine z_aload_n dX4_byteAt_0 rfl ?_
  refine z_getfield dX4_byteAt_1 fX4_15_5 rfl (by first | assumption | exact zget_eq | exact zget_ne (by first | assumption | exact Ne.symm (by assumption) | omega) (by first | assumption | exact zget_eq | exact zget_ne (by first | assumption | exact Ne.symm (by assumption) | omega) (by first | assumption | exact zget_eq | exact zget_ne (by first | assumption | exact Ne.symm (by assumption) | omega) (by first | assumption | exact zget_eq)))) rfl ?_
  refine z_iload_n dX4_byteAt_4 rfl ?_
  refine zcall2 (zck_SN (R' := rX10_at) (M' := mX10_at) (fun _ _ _ _ => tX10_at) kX10_at lX4_25 nX4_25 (by decide +kernel) rfl) dX4_byteAt_5 (Nat.le_of_ble_eq_true rfl) (Nat.le_of_ble_eq_true rfl) (Nat.le_of_ble_eq_true rfl) ?_
  refine ⟨_, _, _, _, rfl, (by first | assumption | exact zget_eq | exact zget_ne (by first | assumption | exact Ne.symm (by assumption) | omega) (by first | assumption | exact zget_eq | exact zget_ne (by first | assumption | exact Ne.symm (by assumption) | omega) (by first | assumption | exact zget_eq | exact zget_ne (by first | assumption | exact Ne.symm (by assumption) | omega) (by first | assumption | exact zget_eq)))), (by first | assumption | omega), ?_⟩
  refine z_ireturn dX4_byteAt_8 trivial (Nat.le_of_ble_eq_true rfl) (Nat.le_of_ble_eq_true rfl) ?_
  exact hK
abbrev rX4_change : Room := ⟨1, 0, 0, 40⟩
def SX4_change (G : zC) : zS := fun as h n K => ∃ (a r : Nat) (v1 : Value) (m : Nat) (f : Nat → Int32) (i b : Int32), as = [.ref a, .int i, .int b] ∧ h a = some (zO 5 [.ref r, v1]) ∧ h r = some (zI G m f) ∧ m < 2147483648 ∧ ∀ h', h' r = some (zI G m (zpt m f i b)) → (∀ q, q ≠ r → h' q = h q) → K none h' n
set_option maxRecDepth 100000 in
theorem tvX4_change {G : zC} {as : List Value} {h : zH} {n : Nat} {K : zP} (hs : SX4_change G as h n K) : (∃ b fs r, as = .ref b :: r ∧ h b = some (.inr (5, fs))) ∧ zCt G rX4_change mX4_change as h n K := by
  obtain ⟨a, r, v1, m, f, i, b, rfl, hk, hr, hm, hK⟩ := hs
  refine ⟨⟨_, _, _, rfl, hk⟩, zCt.of (by decide) (Nat.le_of_ble_eq_true rfl) ?_⟩
  refine z_aload_n dX4_change_0 rfl ?_
  refine z_getfield dX4_change_1 fX4_15_5 rfl (by first | assumption | exact zget_eq | exact zget_ne (by first | assumption | exact Ne.symm (by assumption) | omega) (by first | assumption | exact zget_eq | exact zget_ne (by first | assumption | exact Ne.symm (by assumption) | omega) (by first | assumption | exact zget_eq | exact zget_ne (by first | assumption | exact Ne.symm (by assumption) | omega) (by first | assumption | exact zget_eq)))) rfl ?_
  refine z_iload_n dX4_change_4 rfl ?_
  refine z_iload_n dX4_change_5 rfl ?_
  refine zcall3 (zck_SN (R' := rX10_put) (M' := mX10_put) (fun _ _ _ _ => tX10_put) kX10_put lX4_29 nX4_29 (by decide +kernel) rfl) dX4_change_6 (Nat.le_of_ble_eq_true rfl) (Nat.le_of_ble_eq_true rfl) (Nat.le_of_ble_eq_true rfl) ?_
  refine ⟨_, _, _, _, _, rfl, (by first | assumption | exact zget_eq | exact zget_ne (by first | assumption | exact Ne.symm (by assumption) | omega) (by first | assumption | exact zget_eq | exact zget_ne (by first | assumption | exact Ne.symm (by assumption) | omega) (by first | assumption | exact zget_eq | exact zget_ne (by first | assumption | exact Ne.symm (by assumption) | omega) (by first | assumption | exact zget_eq)))), (by first | assumption | omega), fun h1 e1 o1 => ?_⟩
  refine z_vreturn dX4_change_9 rfl (Nat.le_of_ble_eq_true rfl) (Nat.le_of_ble_eq_true rfl) ?_
  exact hK _ e1 o1
abbrev rX4_keepFirst : Room := ⟨0, 0, 0, 0⟩
def SX4_keepFirst (G : zC) : zS := fun as h n K => ∃ (a : Nat) (v0 v1 : Value) (c : Int32), as = [.ref a, .int c] ∧ h a = some (zO 5 [v0, v1]) ∧ ∀ h', h' a = some (zO 5 [v0, .int c]) → (∀ q, q ≠ a → h' q = h q) → K none h' n
set_option maxRecDepth 100000 in
theorem tvX4_keepFirst {G : zC} {as : List Value} {h : zH} {n : Nat} {K : zP} (hs : SX4_keepFirst G as h n K) : (∃ b fs r, as = .ref b :: r ∧ h b = some (.inr (5, fs))) ∧ zCt G rX4_keepFirst mX4_keepFirst as h n K := by
  obtain ⟨a, v0, v1, c, rfl, hk, hK⟩ := hs
  refine ⟨⟨_, _, _, rfl, hk⟩, zCt.of (by decide) (Nat.le_of_ble_eq_true rfl) ?_⟩
  refine z_aload_n dX4_keepFirst_0 rfl ?_
  refine z_iload_n dX4_keepFirst_1 rfl ?_
  refine z_putfield dX4_keepFirst_2 fX4_21_5 rfl (fun q => absurd q (by decide)) (by first | assumption | exact zget_eq | exact zget_ne (by first | assumption | exact Ne.symm (by assumption) | omega) (by first | assumption | exact zget_eq | exact zget_ne (by first | assumption | exact Ne.symm (by assumption) | omega) (by first | assumption | exact zget_eq | exact zget_ne (by first | assumption | exact Ne.symm (by assumption) | omega) (by first | assumption | exact zget_eq)))) (Nat.le_of_ble_eq_true rfl) (Or.inl ⟨rfl, _, rfl⟩) ?_
  refine z_vreturn dX4_keepFirst_5 rfl (Nat.le_of_ble_eq_true rfl) (Nat.le_of_ble_eq_true rfl) ?_
  exact hK _ (by simp [va_up]) (fun q hq => by simp [va_up, hq])
abbrev rX4_append : Room := ⟨1, 0, 0, 40⟩
def SX4_append (G : zC) : zS := fun as h n K => ∃ (a r : Nat) (m k : Nat) (f : Nat → Int32) (b : Int32), as = [.ref a, .int b] ∧ h a = some (zO 5 [.ref r, .int (nI k)]) ∧ h r = some (zI G m f) ∧ m < 2147483648 ∧ k < m ∧ ∀ h', h' a = some (zO 5 [.ref r, .int (nI (k + 1))]) → h' r = some (zI G m (upd f k b)) → (∀ q, q ≠ a → q ≠ r → h' q = h q) → K none h' n
set_option maxRecDepth 100000 in
theorem tvX4_append {G : zC} {as : List Value} {h : zH} {n : Nat} {K : zP} (hs : SX4_append G as h n K) : (∃ b fs r, as = .ref b :: r ∧ h b = some (.inr (5, fs))) ∧ zCt G rX4_append mX4_append as h n K := by
  obtain ⟨a, r, m, k, f, b, rfl, hk, hr, hm, hlt, hK⟩ := hs
  have har : a ≠ r := fun e => by rw [e, hr] at hk; simp at hk
  refine ⟨⟨_, _, _, rfl, hk⟩, zCt.of (by decide) (Nat.le_of_ble_eq_true rfl) ?_⟩
  refine z_aload_n dX4_append_0 rfl ?_
  refine z_getfield dX4_append_1 fX4_21_5 rfl (by first | assumption | exact zget_eq | exact zget_ne (by first | assumption | exact Ne.symm (by assumption) | omega) (by first | assumption | exact zget_eq | exact zget_ne (by first | assumption | exact Ne.symm (by assumption) | omega) (by first | assumption | exact zget_eq | exact zget_ne (by first | assumption | exact Ne.symm (by assumption) | omega) (by first | assumption | exact zget_eq)))) rfl ?_
  refine z_aload_n dX4_append_4 rfl ?_
  refine z_getfield dX4_append_5 fX4_15_5 rfl (by first | assumption | exact zget_eq | exact zget_ne (by first | assumption | exact Ne.symm (by assumption) | omega) (by first | assumption | exact zget_eq | exact zget_ne (by first | assumption | exact Ne.symm (by assumption) | omega) (by first | assumption | exact zget_eq | exact zget_ne (by first | assumption | exact Ne.symm (by assumption) | omega) (by first | assumption | exact zget_eq)))) rfl ?_
  refine z_alen dX4_append_8 (by first | assumption | exact zget_eq | exact zget_ne (by first | assumption | exact Ne.symm (by assumption) | omega) (by first | assumption | exact zget_eq | exact zget_ne (by first | assumption | exact Ne.symm (by assumption) | omega) (by first | assumption | exact zget_eq | exact zget_ne (by first | assumption | exact Ne.symm (by assumption) | omega) (by first | assumption | exact zget_eq)))) ?_
  refine z_icmp_ge (t := 34) dX4_append_9 (by decide) (fun q9 => ?_) (fun q9 => ?_)
  · exact absurd q9 (nI_ge hlt hm)
  · refine z_aload_n dX4_append_12 rfl ?_
    refine z_getfield dX4_append_13 fX4_15_5 rfl (by first | assumption | exact zget_eq | exact zget_ne (by first | assumption | exact Ne.symm (by assumption) | omega) (by first | assumption | exact zget_eq | exact zget_ne (by first | assumption | exact Ne.symm (by assumption) | omega) (by first | assumption | exact zget_eq | exact zget_ne (by first | assumption | exact Ne.symm (by assumption) | omega) (by first | assumption | exact zget_eq)))) rfl ?_
    refine z_aload_n dX4_append_16 rfl ?_
    refine z_getfield dX4_append_17 fX4_21_5 rfl (by first | assumption | exact zget_eq | exact zget_ne (by first | assumption | exact Ne.symm (by assumption) | omega) (by first | assumption | exact zget_eq | exact zget_ne (by first | assumption | exact Ne.symm (by assumption) | omega) (by first | assumption | exact zget_eq | exact zget_ne (by first | assumption | exact Ne.symm (by assumption) | omega) (by first | assumption | exact zget_eq)))) rfl ?_
    refine z_iload_n dX4_append_20 rfl ?_
    refine zcall3 (zck_SN (R' := rX10_put) (M' := mX10_put) (fun _ _ _ _ => tX10_put) kX10_put lX4_29 nX4_29 (by decide +kernel) rfl) dX4_append_21 (Nat.le_of_ble_eq_true rfl) (Nat.le_of_ble_eq_true rfl) (Nat.le_of_ble_eq_true rfl) ?_
    refine ⟨_, _, _, _, _, rfl, (by first | assumption | exact zget_eq | exact zget_ne (by first | assumption | exact Ne.symm (by assumption) | omega) (by first | assumption | exact zget_eq | exact zget_ne (by first | assumption | exact Ne.symm (by assumption) | omega) (by first | assumption | exact zget_eq | exact zget_ne (by first | assumption | exact Ne.symm (by assumption) | omega) (by first | assumption | exact zget_eq)))), (by first | assumption | omega), fun h1 e1 o1 => ?_⟩
    have hk1 := (o1 a har).trans hk
    rw [zpt_in hlt hm] at e1
    refine z_aload_n dX4_append_24 rfl ?_
    refine z_dup dX4_append_25 rfl ?_
    refine z_getfield dX4_append_26 fX4_21_5 rfl (by first | assumption | exact zget_eq | exact zget_ne (by first | assumption | exact Ne.symm (by assumption) | omega) (by first | assumption | exact zget_eq | exact zget_ne (by first | assumption | exact Ne.symm (by assumption) | omega) (by first | assumption | exact zget_eq | exact zget_ne (by first | assumption | exact Ne.symm (by assumption) | omega) (by first | assumption | exact zget_eq)))) rfl ?_
    refine z_iconst (w := 1) dX4_append_29 (by decide) ?_
    refine z_iadd dX4_append_30 ?_
    refine z_putfield dX4_append_31 fX4_21_5 rfl (fun q => absurd q (by decide)) (by first | assumption | exact zget_eq | exact zget_ne (by first | assumption | exact Ne.symm (by assumption) | omega) (by first | assumption | exact zget_eq | exact zget_ne (by first | assumption | exact Ne.symm (by assumption) | omega) (by first | assumption | exact zget_eq | exact zget_ne (by first | assumption | exact Ne.symm (by assumption) | omega) (by first | assumption | exact zget_eq)))) (Nat.le_of_ble_eq_true rfl) (Or.inl ⟨rfl, _, rfl⟩) ?_
    refine z_vreturn dX4_append_34 rfl (Nat.le_of_ble_eq_true rfl) (Nat.le_of_ble_eq_true rfl) ?_
    exact hK _ (by simp [va_up, nI_1]) (by simp [va_up, har.symm, e1]) (fun q h2 h3 => by simp [va_up, h2, o1 q h3])

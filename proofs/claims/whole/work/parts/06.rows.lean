/-! rows of ints: at, put -/
abbrev zI (G : zC) (m : Nat) (g : Nat → Int32) : va_E := .inl (G.2.2.1, m, .inl g)
def zat (m : Nat) (g : Nat → Int32) (i : Int32) : Int32 := if i < 0 then -1 else if nI m ≤ i then -1 else g i.toNatClampNeg
def zpt (m : Nat) (g : Nat → Int32) (i x : Int32) : Nat → Int32 := if i < 0 then g else if nI m ≤ i then g else upd g i.toNatClampNeg x
theorem zvin {m : Nat} {i : Int32} (hm : m < 2147483648) (h1 : ¬ i < 0) (h2 : ¬ nI m ≤ i) : vp_in i m := by
  rcases pk_ix i hm with h | h | ⟨j, hj, rfl⟩
  · exact absurd h h1
  · exact absurd h h2
  · exact vp_in_nI hj hm
theorem zat_in {m j : Nat} {g : Nat → Int32} (hj : j < m) (hm : m < 2147483648) : zat m g (nI j) = g j := by
  unfold zat
  rw [if_neg (nI_pos (by omega)), if_neg (nI_ge hj hm), nI_clamp (by omega)]
theorem zpt_in {m j : Nat} {g : Nat → Int32} {x : Int32} (hj : j < m) (hm : m < 2147483648) : zpt m g (nI j) x = upd g j x := by
  unfold zpt
  rw [if_neg (nI_pos (by omega)), if_neg (nI_ge hj hm), nI_clamp (by omega)]
theorem zget_eq {h : zH} {k : Nat} {x : Option va_E} : va_up h k x k = x := va_up_self h k x
theorem zget_ne {h : zH} {k a : Nat} {x c : Option va_E} (hne : a ≠ k) (hc : h a = c) : va_up h k x a = c := (va_up_ne h x hne).trans hc
abbrev rX10_at : Room := ⟨0, 0, 0, 0⟩
def SX10_at (G : zC) : zS := fun as h n K => ∃ (a : Nat) (i : Int32) (m : Nat) (g : Nat → Int32), as = [.ref a, .int i] ∧ h a = some (zI G m g) ∧ m < 2147483648 ∧ K (some (.int (zat m g i))) h n
set_option maxRecDepth 100000 in
theorem tX10_at {G : zC} {as : List Value} {h : zH} {n : Nat} {K : zP} (hs : SX10_at G as h n K) : zCt G rX10_at mX10_at as h n K := by
  obtain ⟨a, i, m, g, rfl, hc, hm, hK⟩ := hs
  refine zCt.of (by decide) (Nat.le_of_ble_eq_true rfl) ?_
  refine z_iload_n dX10_at_0 rfl ?_
  refine z_if_lt (t := 16) dX10_at_1 (by decide) (fun q1 => ?_) (fun q1 => ?_)
  · rw [zat, if_pos q1] at hK
    refine z_iconst (w := -1) dX10_at_16 (by decide) ?_
    refine z_ireturn dX10_at_17 trivial (Nat.le_of_ble_eq_true rfl) (Nat.le_of_ble_eq_true rfl) ?_
    exact hK
  · refine z_iload_n dX10_at_4 rfl ?_
    refine z_aload_n dX10_at_5 rfl ?_
    refine z_alen dX10_at_6 (by first | assumption | exact zget_eq | exact zget_ne (by first | assumption | exact Ne.symm (by assumption) | omega) (by first | assumption | exact zget_eq | exact zget_ne (by first | assumption | exact Ne.symm (by assumption) | omega) (by first | assumption | exact zget_eq | exact zget_ne (by first | assumption | exact Ne.symm (by assumption) | omega) (by first | assumption | exact zget_eq)))) ?_
    refine z_icmp_ge (t := 16) dX10_at_7 (by decide) (fun q7 => ?_) (fun q7 => ?_)
    · rw [zat, if_neg q1, if_pos q7] at hK
      refine z_iconst (w := -1) dX10_at_16 (by decide) ?_
      refine z_ireturn dX10_at_17 trivial (Nat.le_of_ble_eq_true rfl) (Nat.le_of_ble_eq_true rfl) ?_
      exact hK
    · rw [zat, if_neg q1, if_neg q7] at hK
      refine z_aload_n dX10_at_10 rfl ?_
      refine z_iload_n dX10_at_11 rfl ?_
      refine z_iaload dX10_at_12 (by first | assumption | exact zget_eq | exact zget_ne (by first | assumption | exact Ne.symm (by assumption) | omega) (by first | assumption | exact zget_eq | exact zget_ne (by first | assumption | exact Ne.symm (by assumption) | omega) (by first | assumption | exact zget_eq | exact zget_ne (by first | assumption | exact Ne.symm (by assumption) | omega) (by first | assumption | exact zget_eq)))) (zvin hm q1 q7) ?_
      refine z_goto (t := 17) dX10_at_13 (by decide) ?_
      refine z_ireturn dX10_at_17 trivial (Nat.le_of_ble_eq_true rfl) (Nat.le_of_ble_eq_true rfl) ?_
      exact hK
abbrev rX10_put : Room := ⟨0, 0, 0, 0⟩
def SX10_put (G : zC) : zS := fun as h n K => ∃ (a : Nat) (i x : Int32) (m : Nat) (g : Nat → Int32), as = [.ref a, .int i, .int x] ∧ h a = some (zI G m g) ∧ m < 2147483648 ∧ ∀ h', h' a = some (zI G m (zpt m g i x)) → (∀ q, q ≠ a → h' q = h q) → K none h' n
set_option maxRecDepth 100000 in
theorem tX10_put {G : zC} {as : List Value} {h : zH} {n : Nat} {K : zP} (hs : SX10_put G as h n K) : zCt G rX10_put mX10_put as h n K := by
  obtain ⟨a, i, x, m, g, rfl, hc, hm, hK⟩ := hs
  refine zCt.of (by decide) (Nat.le_of_ble_eq_true rfl) ?_
  refine z_iload_n dX10_put_0 rfl ?_
  refine z_if_lt (t := 14) dX10_put_1 (by decide) (fun q1 => ?_) (fun q1 => ?_)
  · rw [zpt, if_pos q1] at hK
    refine z_vreturn dX10_put_14 rfl (Nat.le_of_ble_eq_true rfl) (Nat.le_of_ble_eq_true rfl) ?_
    exact hK _ (by simp [va_up, hc]) (fun q hq => by simp [va_up, hq])
  · refine z_iload_n dX10_put_4 rfl ?_
    refine z_aload_n dX10_put_5 rfl ?_
    refine z_alen dX10_put_6 (by first | assumption | exact zget_eq | exact zget_ne (by first | assumption | exact Ne.symm (by assumption) | omega) (by first | assumption | exact zget_eq | exact zget_ne (by first | assumption | exact Ne.symm (by assumption) | omega) (by first | assumption | exact zget_eq | exact zget_ne (by first | assumption | exact Ne.symm (by assumption) | omega) (by first | assumption | exact zget_eq)))) ?_
    refine z_icmp_ge (t := 14) dX10_put_7 (by decide) (fun q7 => ?_) (fun q7 => ?_)
    · rw [zpt, if_neg q1, if_pos q7] at hK
      refine z_vreturn dX10_put_14 rfl (Nat.le_of_ble_eq_true rfl) (Nat.le_of_ble_eq_true rfl) ?_
      exact hK _ (by simp [va_up, hc]) (fun q hq => by simp [va_up, hq])
    · rw [zpt, if_neg q1, if_neg q7] at hK
      refine z_aload_n dX10_put_10 rfl ?_
      refine z_iload_n dX10_put_11 rfl ?_
      refine z_iload_n dX10_put_12 rfl ?_
      refine z_iastore dX10_put_13 (by first | assumption | exact zget_eq | exact zget_ne (by first | assumption | exact Ne.symm (by assumption) | omega) (by first | assumption | exact zget_eq | exact zget_ne (by first | assumption | exact Ne.symm (by assumption) | omega) (by first | assumption | exact zget_eq | exact zget_ne (by first | assumption | exact Ne.symm (by assumption) | omega) (by first | assumption | exact zget_eq)))) (zvin hm q1 q7) ?_
      refine z_vreturn dX10_put_14 rfl (Nat.le_of_ble_eq_true rfl) (Nat.le_of_ble_eq_true rfl) ?_
      exact hK _ (by simp [va_up, hc]) (fun q hq => by simp [va_up, hq])

/-! the reference: one object, nineteen rows behind it; its world is two functions, v of the numbers and g of the rows -/
def zfs (v : Nat → Int32) (m : Nat) : List Value := [.int (v 0), .int (v 1), .int (v 2), .int (v 3), .ref (m + 1), .int (v 5), .ref (m + 2), .int (v 7), .ref (m + 3), .ref (m + 4), .ref (m + 5), .ref (m + 6), .ref (m + 7), .ref (m + 8), .ref (m + 9), .ref (m + 10), .int (v 16), .ref (m + 11), .int (v 18), .ref (m + 12), .int (v 20), .int (v 21), .int (v 22), .int (v 23), .int (v 24), .int (v 25), .int (v 26), .int (v 27), .int (v 28), .int (v 29), .ref (m + 13), .int (v 31), .int (v 32), .ref (m + 14), .ref (m + 15), .int (v 35), .ref (m + 16), .int (v 37), .ref (m + 17), .ref (m + 18), .int (v 40), .int (v 41), .int (v 42), .int (v 43), .ref (m + 19), .int (v 45)]
def zrl : Nat → Nat
  | 1 => 300
  | 2 => 6000
  | 3 => 300
  | 4 => 7
  | 5 => 10500
  | 6 => 10500
  | 7 => 10500
  | 8 => 7
  | 9 => 28
  | 10 => 2
  | 11 => 257
  | 12 => 256
  | 13 => 6000
  | 14 => 301
  | 15 => 301
  | 16 => 3
  | 17 => 301
  | 18 => 301
  | 19 => 300
  | _ => 0
def zRh (G : zC) (h0 : zH) (m : Nat) (v : Nat → Int32) (g : Nat → Nat → Int32) : zH := fun q => if q = m then some (zO 11 (zfs v m)) else if m < q ∧ q ≤ m + 19 then some (.inl (if q - m = 11 then G.2.2.2.1 else G.2.2.1, zrl (q - m), .inl (g (q - m)))) else h0 q
theorem zRh_o {G : zC} {h0 : zH} {m : Nat} {v : Nat → Int32} {g : Nat → Nat → Int32} : zRh G h0 m v g m = some (zO 11 (zfs v m)) := by simp [zRh]
theorem zRh_a {G : zC} {h0 : zH} {m : Nat} {v : Nat → Int32} {g : Nat → Nat → Int32} {j : Nat} (h1 : 1 ≤ j) (h2 : j ≤ 19) : zRh G h0 m v g (m + j) = some (.inl (if j = 11 then G.2.2.2.1 else G.2.2.1, zrl j, .inl (g j))) := by
  unfold zRh
  rw [if_neg (by omega), if_pos (by omega), Nat.add_sub_cancel_left]
theorem zRh_put {G : zC} {h0 : zH} {m : Nat} {v v' : Nat → Int32} {g : Nat → Nat → Int32} : va_up (zRh G h0 m v g) m (some (.inr (11, zfs v' m))) = zRh G h0 m v' g := by
  funext q
  by_cases h : q = m
  · subst h; simp [va_up, zRh]
  · simp [va_up, zRh, h]
theorem zRh_st {G : zC} {h0 : zH} {m : Nat} {v : Nat → Int32} {g : Nat → Nat → Int32} {j : Nat} (h1 : 1 ≤ j) (h2 : j ≤ 19) (f : Nat → Int32) : va_up (zRh G h0 m v g) (m + j) (some (.inl (if j = 11 then G.2.2.2.1 else G.2.2.1, zrl j, .inl f))) = zRh G h0 m v (va_up g j f) := by
  funext q
  by_cases h : q = m + j
  · subst h; rw [va_up_self, zRh_a h1 h2, va_up_self]
  · rw [va_up_ne _ _ h]
    unfold zRh
    by_cases hm : q = m
    · rw [if_pos hm, if_pos hm]
    · rw [if_neg hm, if_neg hm]
      by_cases hr : m < q ∧ q ≤ m + 19
      · rw [if_pos hr, if_pos hr, va_up_ne _ _ (by omega)]
      · rw [if_neg hr, if_neg hr]
theorem zrl_lt : ∀ j, zrl j < 2147483648
  | 0 => by decide
  | 1 => by decide
  | 2 => by decide
  | 3 => by decide
  | 4 => by decide
  | 5 => by decide
  | 6 => by decide
  | 7 => by decide
  | 8 => by decide
  | 9 => by decide
  | 10 => by decide
  | 11 => by decide
  | 12 => by decide
  | 13 => by decide
  | 14 => by decide
  | 15 => by decide
  | 16 => by decide
  | 17 => by decide
  | 18 => by decide
  | 19 => by decide
  | n + 20 => by show 0 < _; decide
section zRefRows
variable {X : zX} {pc : Nat} {lv : List (Nat × Value)} {st : List Value} {h0 : zH} {m : Nat} {v : Nat → Int32} {g : Nat → Nat → Int32} {n c s : Nat}
theorem zr_get {idx k0 w : Nat} {y : MethodName} {x : Value} (hd : decode (zxM X).2.1 pc = .ok (.getfield idx, 3)) (hf : zfOk y (idx, 11, k0, w) = true) (hy : y.cls = (zxM X).1.cls) (hx : (zfs v m)[k0]? = some x) (k : zZ X (pc + 3) lv (x :: st) (zRh (zxG X) h0 m v g) n c s) : zZ X pc lv (.ref m :: st) (zRh (zxG X) h0 m v g) n c s := z_getfield hd hf hy zRh_o hx k
theorem zr_put {idx k0 w : Nat} {y : MethodName} {x : Int32} (hd : decode (zxM X).2.1 pc = .ok (.putfield idx, 3)) (hf : zfOk y (idx, 11, k0, w) = true) (hy : y.cls = (zxM X).1.cls) (hyn : y.name = "<init>" → (zxM X).1.name = "<init>") (hs : (zfs v m).set k0 (.int x) = zfs (upd v k0 x) m) (hl : k0 < 46) (hv : w = 1 ∨ (w = 3 ∧ (x = 0 ∨ x = 1))) (k : zZ X (pc + 3) lv st (zRh (zxG X) h0 m (upd v k0 x) g) n c s) : zZ X pc lv (.int x :: .ref m :: st) (zRh (zxG X) h0 m v g) n c s := by
  refine z_putfield hd hf hy hyn zRh_o (by simpa [zfs] using hl) ?_ ?_
  · rcases hv with hv | hv
    · exact Or.inl ⟨hv, _, rfl⟩
    · exact Or.inr (Or.inr ⟨hv.1, _, rfl, hv.2⟩)
  · rw [hs, zRh_put]; exact k
theorem zr_ald {j a : Nat} {i : Int32} (hd : decode (zxM X).2.1 pc = .ok (.iaload, 1)) (hi : i = nI a) (hj : (j ≠ 11 ∧ 1 ≤ j) ∧ j ≤ 19) (ha : a < zrl j) (k : zZ X (pc + 1) lv (.int (g j a) :: st) (zRh (zxG X) h0 m v g) n c s) : zZ X pc lv (.int i :: .ref (m + j) :: st) (zRh (zxG X) h0 m v g) n c s := by
  have hb := zrl_lt j
  refine z_iaload hd (m0 := zrl j) (g := g j) (by rw [zRh_a hj.1.2 hj.2, if_neg hj.1.1]) (by rw [hi]; exact vp_in_nI ha (by omega)) ?_
  rw [hi, nI_clamp (by omega)]; exact k
theorem zr_ast {j a : Nat} {i x : Int32} (hd : decode (zxM X).2.1 pc = .ok (.iastore, 1)) (hi : i = nI a) (hj : (j ≠ 11 ∧ 1 ≤ j) ∧ j ≤ 19) (ha : a < zrl j) (k : zZ X (pc + 1) lv st (zRh (zxG X) h0 m v (va_up g j (upd (g j) a x))) n c s) : zZ X pc lv (.int x :: .int i :: .ref (m + j) :: st) (zRh (zxG X) h0 m v g) n c s := by
  have hb := zrl_lt j
  refine z_iastore hd (m0 := zrl j) (g := g j) (by rw [zRh_a hj.1.2 hj.2, if_neg hj.1.1]) (by rw [hi]; exact vp_in_nI ha (by omega)) ?_
  rw [hi, nI_clamp (by omega)]
  have := zRh_st (G := zxG X) (h0 := h0) (m := m) (v := v) (g := g) hj.1.2 hj.2 (upd (g j) a x)
  rw [if_neg hj.1.1] at this
  rw [this]; exact k
theorem zr_bld {a : Nat} {i : Int32} (hd : decode (zxM X).2.1 pc = .ok (.baload, 1)) (hi : i = nI a) (ha : a < 257) (k : zZ X (pc + 1) lv (.int (g 11 a) :: st) (zRh (zxG X) h0 m v g) n c s) : zZ X pc lv (.int i :: .ref (m + 11) :: st) (zRh (zxG X) h0 m v g) n c s := by
  refine z_baload hd (m0 := 257) (g := g 11) (by rw [zRh_a (by decide) (by decide)]; rfl) (by rw [hi]; exact vp_in_nI ha (by omega)) ?_
  rw [hi, nI_clamp (by omega)]; exact k
theorem zr_bst {a : Nat} {i x : Int32} (hd : decode (zxM X).2.1 pc = .ok (.bastore, 1)) (hi : i = nI a) (ha : a < 257) (hx : x = 0 ∨ x = 1) (k : zZ X (pc + 1) lv st (zRh (zxG X) h0 m v (va_up g 11 (upd (g 11) a x))) n c s) : zZ X pc lv (.int x :: .int i :: .ref (m + 11) :: st) (zRh (zxG X) h0 m v g) n c s := by
  refine z_bastore hd (m0 := 257) (g := g 11) (by rw [zRh_a (by decide) (by decide)]; rfl) (by rw [hi]; exact vp_in_nI ha (by omega)) ?_
  rw [hi, nI_clamp (by omega), show vp_nar .boolean x = x by rcases hx with rfl | rfl <;> decide]
  have := zRh_st (G := zxG X) (h0 := h0) (m := m) (v := v) (g := g) (j := 11) (by decide) (by decide) (upd (g 11) a x)
  rw [if_pos rfl] at this
  have e : zrl 11 = 257 := rfl
  rw [e] at this
  rw [this]; exact k
end zRefRows
theorem zu_eq {f : Nat → Int32} {k : Nat} {x : Int32} : upd f k x k = x := by simp [upd]
theorem zu_ne {f : Nat → Int32} {k j : Nat} {x : Int32} (h : ¬ j = k) : upd f k x j = f j := by simp [upd, h]
theorem zn_mul (a b : Nat) : nI a * nI b = nI (a * b) := (Int32.ofNat_mul a b).symm
theorem zn_sub {a b : Nat} (h : b ≤ a) : nI a - nI b = nI (a - b) := by
  have : nI (a - b) + nI b = nI a := by rw [nI_add, Nat.sub_add_cancel h]
  rw [← this, Int32.add_sub_cancel]
theorem zset_0 {v : Nat → Int32} {m : Nat} {x : Int32} : (zfs v m).set 0 (.int x) = zfs (upd v 0 x) m := rfl
theorem zset_1 {v : Nat → Int32} {m : Nat} {x : Int32} : (zfs v m).set 1 (.int x) = zfs (upd v 1 x) m := rfl
theorem zset_2 {v : Nat → Int32} {m : Nat} {x : Int32} : (zfs v m).set 2 (.int x) = zfs (upd v 2 x) m := rfl
theorem zset_3 {v : Nat → Int32} {m : Nat} {x : Int32} : (zfs v m).set 3 (.int x) = zfs (upd v 3 x) m := rfl
theorem zset_5 {v : Nat → Int32} {m : Nat} {x : Int32} : (zfs v m).set 5 (.int x) = zfs (upd v 5 x) m := rfl
theorem zset_7 {v : Nat → Int32} {m : Nat} {x : Int32} : (zfs v m).set 7 (.int x) = zfs (upd v 7 x) m := rfl
theorem zset_16 {v : Nat → Int32} {m : Nat} {x : Int32} : (zfs v m).set 16 (.int x) = zfs (upd v 16 x) m := rfl
theorem zset_18 {v : Nat → Int32} {m : Nat} {x : Int32} : (zfs v m).set 18 (.int x) = zfs (upd v 18 x) m := rfl
theorem zset_20 {v : Nat → Int32} {m : Nat} {x : Int32} : (zfs v m).set 20 (.int x) = zfs (upd v 20 x) m := rfl
theorem zset_21 {v : Nat → Int32} {m : Nat} {x : Int32} : (zfs v m).set 21 (.int x) = zfs (upd v 21 x) m := rfl
theorem zset_22 {v : Nat → Int32} {m : Nat} {x : Int32} : (zfs v m).set 22 (.int x) = zfs (upd v 22 x) m := rfl
theorem zset_23 {v : Nat → Int32} {m : Nat} {x : Int32} : (zfs v m).set 23 (.int x) = zfs (upd v 23 x) m := rfl
theorem zset_24 {v : Nat → Int32} {m : Nat} {x : Int32} : (zfs v m).set 24 (.int x) = zfs (upd v 24 x) m := rfl
theorem zset_25 {v : Nat → Int32} {m : Nat} {x : Int32} : (zfs v m).set 25 (.int x) = zfs (upd v 25 x) m := rfl
theorem zset_26 {v : Nat → Int32} {m : Nat} {x : Int32} : (zfs v m).set 26 (.int x) = zfs (upd v 26 x) m := rfl
theorem zset_27 {v : Nat → Int32} {m : Nat} {x : Int32} : (zfs v m).set 27 (.int x) = zfs (upd v 27 x) m := rfl
theorem zset_28 {v : Nat → Int32} {m : Nat} {x : Int32} : (zfs v m).set 28 (.int x) = zfs (upd v 28 x) m := rfl
theorem zset_29 {v : Nat → Int32} {m : Nat} {x : Int32} : (zfs v m).set 29 (.int x) = zfs (upd v 29 x) m := rfl
theorem zset_31 {v : Nat → Int32} {m : Nat} {x : Int32} : (zfs v m).set 31 (.int x) = zfs (upd v 31 x) m := rfl
theorem zset_32 {v : Nat → Int32} {m : Nat} {x : Int32} : (zfs v m).set 32 (.int x) = zfs (upd v 32 x) m := rfl
theorem zset_35 {v : Nat → Int32} {m : Nat} {x : Int32} : (zfs v m).set 35 (.int x) = zfs (upd v 35 x) m := rfl
theorem zset_37 {v : Nat → Int32} {m : Nat} {x : Int32} : (zfs v m).set 37 (.int x) = zfs (upd v 37 x) m := rfl
theorem zset_40 {v : Nat → Int32} {m : Nat} {x : Int32} : (zfs v m).set 40 (.int x) = zfs (upd v 40 x) m := rfl
theorem zset_41 {v : Nat → Int32} {m : Nat} {x : Int32} : (zfs v m).set 41 (.int x) = zfs (upd v 41 x) m := rfl
theorem zset_42 {v : Nat → Int32} {m : Nat} {x : Int32} : (zfs v m).set 42 (.int x) = zfs (upd v 42 x) m := rfl
theorem zset_43 {v : Nat → Int32} {m : Nat} {x : Int32} : (zfs v m).set 43 (.int x) = zfs (upd v 43 x) m := rfl
theorem zset_45 {v : Nat → Int32} {m : Nat} {x : Int32} : (zfs v m).set 45 (.int x) = zfs (upd v 45 x) m := rfl
/-! in -/
abbrev rX11_in : Room := ⟨0, 0, 0, 0⟩
def SX11_in (G : zC) : zS := fun as h n K => ∃ (x l u : Int32), as = [.int x, .int l, .int u] ∧ K (some (.int (if l ≤ x ∧ x ≤ u then 1 else 0))) h n
set_option maxRecDepth 100000 in
theorem tX11_in {G : zC} {as : List Value} {h : zH} {n : Nat} {K : zP} (hs : SX11_in G as h n K) : zCt G rX11_in mX11_in as h n K := by
  obtain ⟨x, l, u, rfl, hK⟩ := hs
  refine zCt.of (by decide) (Nat.le_of_ble_eq_true rfl) ?_
  refine z_iload_n dX11_in_0 rfl ?_
  refine z_iload_n dX11_in_1 rfl ?_
  refine z_icmp_lt (t := 14) dX11_in_2 (by decide) (fun q2 => ?_) (fun q2 => ?_)
  · refine z_iconst (w := 0) dX11_in_14 (by decide) ?_
    refine z_ireturn dX11_in_15 (by first | exact Or.inl rfl | exact Or.inr rfl | simp) (Nat.le_of_ble_eq_true rfl) (Nat.le_of_ble_eq_true rfl) ?_
    first | (rw [if_pos (by simp only [Int32.le_iff_toInt_le, Int32.lt_iff_toInt_lt] at *; omega)] at hK; exact hK) | (rw [if_neg (by simp only [Int32.le_iff_toInt_le, Int32.lt_iff_toInt_lt] at *; omega)] at hK; exact hK)
  · refine z_iload_n dX11_in_5 rfl ?_
    refine z_iload_n dX11_in_6 rfl ?_
    refine z_icmp_gt (t := 14) dX11_in_7 (by decide) (fun q7 => ?_) (fun q7 => ?_)
    · refine z_iconst (w := 0) dX11_in_14 (by decide) ?_
      refine z_ireturn dX11_in_15 (by first | exact Or.inl rfl | exact Or.inr rfl | simp) (Nat.le_of_ble_eq_true rfl) (Nat.le_of_ble_eq_true rfl) ?_
      first | (rw [if_pos (by simp only [Int32.le_iff_toInt_le, Int32.lt_iff_toInt_lt] at *; omega)] at hK; exact hK) | (rw [if_neg (by simp only [Int32.le_iff_toInt_le, Int32.lt_iff_toInt_lt] at *; omega)] at hK; exact hK)
    · refine z_iconst (w := 1) dX11_in_10 (by decide) ?_
      refine z_goto (t := 15) dX11_in_11 (by decide) ?_
      refine z_ireturn dX11_in_15 (by first | exact Or.inl rfl | exact Or.inr rfl | simp) (Nat.le_of_ble_eq_true rfl) (Nat.le_of_ble_eq_true rfl) ?_
      first | (rw [if_pos (by simp only [Int32.le_iff_toInt_le, Int32.lt_iff_toInt_lt] at *; omega)] at hK; exact hK) | (rw [if_neg (by simp only [Int32.le_iff_toInt_le, Int32.lt_iff_toInt_lt] at *; omega)] at hK; exact hK)
theorem zi10 {p : Prop} [Decidable p] : (if p then (1 : Int32) else 0) = 0 ↔ ¬ p := by by_cases h : p <;> simp [h]
theorem zin_nat {x : Int32} {l u : Nat} (hu : u < 2147483648) (h : nI l ≤ x ∧ x ≤ nI u) (hl : l ≤ u) : ∃ j, l ≤ j ∧ j ≤ u ∧ x = nI j := by
  have h1 := Int32.le_iff_toInt_le.mp h.1
  have h2 := Int32.le_iff_toInt_le.mp h.2
  rw [nI_toInt (by omega)] at h1 h2
  refine ⟨x.toInt.toNat, by omega, by omega, ?_⟩
  apply Int32.toInt_inj.mp
  rw [nI_toInt (by omega)]; omega

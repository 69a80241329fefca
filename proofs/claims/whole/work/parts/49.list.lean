/-! ArrayList, as far as the shelf goes -/
theorem lJxa1e45_1 : zall [.methodLink RJxa1e45 1 objectInit, .instanceMethod objectInit] = true := by decide +kernel
theorem lJxc12de_1 : zall [.methodLink RJxc12de 1 yJxa1e45_init_da8c8, .instanceMethod yJxa1e45_init_da8c8, .initialized (yJxa1e45_init_da8c8).cls] = true := by decide +kernel
theorem lJx4a65c_1 : zall [.methodLink RJx4a65c 1 yJxc12de_init_da8c8, .instanceMethod yJxc12de_init_da8c8, .initialized (yJxc12de_init_da8c8).cls] = true := by decide +kernel
theorem lJx4a65c_131 : zall [.methodLink RJx4a65c 131 yJx4a65c_add_72be8, .instanceMethod yJx4a65c_add_72be8, .selects (yJx4a65c_add_72be8).cls yJx4a65c_add_72be8 yJx4a65c_add_72be8, .initialized (yJx4a65c_add_72be8).cls] = true := by decide +kernel
theorem lJx4a65c_129 : zall [.methodLink RJx4a65c 129 yJx4a65c_grow_d5877, .instanceMethod yJx4a65c_grow_d5877, .selects (yJx4a65c_grow_d5877).cls yJx4a65c_grow_d5877 yJx4a65c_grow_d5877, .initialized (yJx4a65c_grow_d5877).cls] = true := by decide +kernel
theorem lJx4a65c_69 : zall [.methodLink RJx4a65c 69 yJx4a65c_grow_92f84, .instanceMethod yJx4a65c_grow_92f84, .selects (yJx4a65c_grow_92f84).cls yJx4a65c_grow_92f84 yJx4a65c_grow_92f84, .initialized (yJx4a65c_grow_92f84).cls] = true := by decide +kernel
theorem lJx4a65c_123 : zall [.methodLink RJx4a65c 123 yJx4a65c_elementData_915e3, .instanceMethod yJx4a65c_elementData_915e3, .selects (yJx4a65c_elementData_915e3).cls yJx4a65c_elementData_915e3 yJx4a65c_elementData_915e3, .initialized (yJx4a65c_elementData_915e3).cls] = true := by decide +kernel
theorem lJx4a65c_118 : zall [.methodLink RJx4a65c 118 yJ15_checkIndex_7cf53, .static yJ15_checkIndex_7cf53, .initialized (yJ15_checkIndex_7cf53).cls] = true := by decide +kernel
theorem lJ15_105 : zall [.methodLink RJ15 105 yJ3_checkIndex_8e157, .static yJ3_checkIndex_8e157, .initialized (yJ3_checkIndex_8e157).cls] = true := by decide +kernel
theorem lJx4a65c_79 : zall [.methodLink RJx4a65c 79 Lib.Math.max.name, .static Lib.Math.max.name, .initialized "java/lang/Math"] = true := by decide +kernel
theorem lmod : zall [.fieldLink RJx4a65c 63 RJx4a65c "modCount" "I", .sameField RJx4a65c "java/util/AbstractList" "modCount" "I"] = true := by decide +kernel
abbrev rJxa1e45_init_da8c8 : Room := ⟨1, 0, 0, 40⟩
def SJxa1e45_init_da8c8 (G : zC) : zS := fun as h n K => ∃ (a : Nat), as = [.ref a] ∧ K none h n
set_option maxRecDepth 100000 in
theorem tiJxa1e45_init_da8c8 {G : zC} {as : List Value} {h : zH} {n : Nat} {K : zP} (hs : SJxa1e45_init_da8c8 G as h n K) : (∃ b r, as = .ref b :: r) ∧ zCt G rJxa1e45_init_da8c8 mJxa1e45_init_da8c8 as h n K := by
  obtain ⟨a, rfl, hK⟩ := hs
  refine ⟨⟨_, _, rfl⟩, zCt.of (by decide) (Nat.le_of_ble_eq_true rfl) ?_⟩
  refine z_aload_n dJxa1e45_init_da8c8_0 rfl ?_
  refine zcall1 (zck_O lJxa1e45_1 kJobj rfl) dJxa1e45_init_da8c8_1 (Nat.le_of_ble_eq_true rfl) (Nat.le_of_ble_eq_true rfl) (Nat.le_of_ble_eq_true rfl) ?_
  refine ⟨⟨_, rfl⟩, ?_⟩
  refine z_vreturn dJxa1e45_init_da8c8_4 rfl (Nat.le_of_ble_eq_true rfl) (Nat.le_of_ble_eq_true rfl) ?_
  exact hK
abbrev rJxc12de_init_da8c8 : Room := ⟨2, 0, 0, 80⟩
def SJxc12de_init_da8c8 (G : zC) : zS := fun as h n K => ∃ (a : Nat) (v0 v1 v2 : Value), as = [.ref a] ∧ h a = some (zO 1 [v0, v1, v2]) ∧ K none (va_up h a (some (zO 1 [.int 0, v1, v2]))) n
set_option maxRecDepth 100000 in
theorem tiJxc12de_init_da8c8 {G : zC} {as : List Value} {h : zH} {n : Nat} {K : zP} (hs : SJxc12de_init_da8c8 G as h n K) : (∃ b r, as = .ref b :: r) ∧ zCt G rJxc12de_init_da8c8 mJxc12de_init_da8c8 as h n K := by
  obtain ⟨a, v0, v1, v2, rfl, hk, hK⟩ := hs
  refine ⟨⟨_, _, rfl⟩, zCt.of (by decide) (Nat.le_of_ble_eq_true rfl) ?_⟩
  refine z_aload_n dJxc12de_init_da8c8_0 rfl ?_
  refine zcall1 (zck_I (na := 0) (R' := rJxa1e45_init_da8c8) (M' := mJxa1e45_init_da8c8) (fun _ _ _ _ => tiJxa1e45_init_da8c8) rfl kJxa1e45_init_da8c8 lJxc12de_1 rfl (by decide +kernel) rfl) dJxc12de_init_da8c8_1 (Nat.le_of_ble_eq_true rfl) (Nat.le_of_ble_eq_true rfl) (Nat.le_of_ble_eq_true rfl) ?_
  refine ⟨_, rfl, ?_⟩
  refine z_aload_n dJxc12de_init_da8c8_4 rfl ?_
  refine z_iconst (w := 0) dJxc12de_init_da8c8_5 (by decide) ?_
  refine z_putfield dJxc12de_init_da8c8_6 fJxc12de_7_1 rfl (fun q => absurd q (by decide)) (by first | assumption | exact zget_eq | exact zget_ne (by first | assumption | exact Ne.symm (by assumption) | omega) (by first | assumption | exact zget_eq | exact zget_ne (by first | assumption | exact Ne.symm (by assumption) | omega) (by first | assumption | exact zget_eq | exact zget_ne (by first | assumption | exact Ne.symm (by assumption) | omega) (by first | assumption | exact zget_eq)))) (Nat.le_of_ble_eq_true rfl) (Or.inl ⟨rfl, _, rfl⟩) ?_
  refine z_vreturn dJxc12de_init_da8c8_9 rfl (Nat.le_of_ble_eq_true rfl) (Nat.le_of_ble_eq_true rfl) ?_
  exact hK
abbrev rJx4a65c_init_da8c8 : Room := ⟨3, 0, 0, 120⟩
def SJx4a65c_init_da8c8 (G : zC) (t : Nat) : zS := fun as h n K => ∃ (a : Nat) (v0 v1 : Value), as = [.ref a] ∧ h a = some (zO 1 [v0, v1, .int 0]) ∧ ∀ h', h' a = some (zO 1 [.int 0, .ref t, .int 0]) → (∀ q, q ≠ a → h' q = h q) → K none h' n
set_option maxRecDepth 100000 in
theorem tiJx4a65c_init_da8c8 {G : zC} {t : Nat} {as : List Value} {h : zH} {n : Nat} {K : zP} (hs : SJx4a65c_init_da8c8 G t as h n K) : (∃ b r, as = .ref b :: r) ∧ zCs G t rJx4a65c_init_da8c8 mJx4a65c_init_da8c8 as h n K := by
  obtain ⟨a, v0, v1, rfl, hk, hK⟩ := hs
  refine ⟨⟨_, _, rfl⟩, zCs.of (by decide) (Nat.le_of_ble_eq_true rfl) ?_⟩
  refine z_aload_n dJx4a65c_init_da8c8_0 rfl ?_
  refine zcall1 (zck_I (na := 0) (R' := rJxc12de_init_da8c8) (M' := mJxc12de_init_da8c8) (fun _ _ _ _ => tiJxc12de_init_da8c8) rfl kJxc12de_init_da8c8 lJx4a65c_1 rfl (by decide +kernel) rfl) dJx4a65c_init_da8c8_1 (Nat.le_of_ble_eq_true rfl) (Nat.le_of_ble_eq_true rfl) (Nat.le_of_ble_eq_true rfl) ?_
  refine ⟨_, _, _, _, rfl, hk, ?_⟩
  refine z_aload_n dJx4a65c_init_da8c8_4 rfl ?_
  refine z_getst dJx4a65c_init_da8c8_5 (by decide +kernel) ?_
  refine z_putfield dJx4a65c_init_da8c8_8 fJx4a65c_9_1 rfl (fun q => absurd q (by decide)) (by first | assumption | exact zget_eq | exact zget_ne (by first | assumption | exact Ne.symm (by assumption) | omega) (by first | assumption | exact zget_eq | exact zget_ne (by first | assumption | exact Ne.symm (by assumption) | omega) (by first | assumption | exact zget_eq | exact zget_ne (by first | assumption | exact Ne.symm (by assumption) | omega) (by first | assumption | exact zget_eq)))) (Nat.le_of_ble_eq_true rfl) (Or.inr (Or.inl ⟨rfl, _, rfl⟩)) ?_
  refine zZ.toS ?_
  refine z_vreturn dJx4a65c_init_da8c8_11 rfl (Nat.le_of_ble_eq_true rfl) (Nat.le_of_ble_eq_true rfl) ?_
  exact hK _ (by rw [zget_eq]; rfl) (fun q hq => by rw [zup_ne hq, zup_ne hq])
abbrev rJx4a65c_size_8abf5 : Room := ⟨0, 0, 0, 0⟩
def SJx4a65c_size_8abf5 (G : zC) : zS := fun as h n K => ∃ (a : Nat) (v0 v1 : Value) (k : Int32), as = [.ref a] ∧ h a = some (zO 1 [v0, v1, .int k]) ∧ K (some (.int k)) h n
set_option maxRecDepth 100000 in
theorem tvJx4a65c_size_8abf5 {G : zC} {as : List Value} {h : zH} {n : Nat} {K : zP} (hs : SJx4a65c_size_8abf5 G as h n K) : (∃ b fs r, as = .ref b :: r ∧ h b = some (.inr (1, fs))) ∧ zCt G rJx4a65c_size_8abf5 mJx4a65c_size_8abf5 as h n K := by
  obtain ⟨a, v0, v1, k, rfl, hk, hK⟩ := hs
  refine ⟨⟨_, _, _, rfl, hk⟩, zCt.of (by decide) (Nat.le_of_ble_eq_true rfl) ?_⟩
  refine z_aload_n dJx4a65c_size_8abf5_0 rfl ?_
  refine z_getfield dJx4a65c_size_8abf5_1 fJx4a65c_48_1 rfl (by first | assumption | exact zget_eq | exact zget_ne (by first | assumption | exact Ne.symm (by assumption) | omega) (by first | assumption | exact zget_eq | exact zget_ne (by first | assumption | exact Ne.symm (by assumption) | omega) (by first | assumption | exact zget_eq | exact zget_ne (by first | assumption | exact Ne.symm (by assumption) | omega) (by first | assumption | exact zget_eq)))) rfl ?_
  refine z_ireturn dJx4a65c_size_8abf5_4 trivial (Nat.le_of_ble_eq_true rfl) (Nat.le_of_ble_eq_true rfl) ?_
  exact hK
abbrev rJ3_checkIndex_8e157 : Room := ⟨0, 0, 0, 0⟩
def SJ3_checkIndex_8e157 (G : zC) : zS := fun as h n K => ∃ (i k : Nat), as = [.int (nI i), .int (nI k), .null] ∧ i < k ∧ k < 2147483648 ∧ K (some (.int (nI i))) h n
set_option maxRecDepth 100000 in
theorem tJ3_checkIndex_8e157 {G : zC} {as : List Value} {h : zH} {n : Nat} {K : zP} (hs : SJ3_checkIndex_8e157 G as h n K) : zCt G rJ3_checkIndex_8e157 mJ3_checkIndex_8e157 as h n K := by
  obtain ⟨i, k, rfl, hi, hk2, hK⟩ := hs
  refine zCt.of (by decide) (Nat.le_of_ble_eq_true rfl) ?_
  refine z_iload_n dJ3_checkIndex_8e157_0 rfl ?_
  refine z_if_lt (t := 9) dJ3_checkIndex_8e157_1 (by decide) (fun q1 => ?_) (fun q1 => ?_)
  · exact absurd q1 (nI_pos (by omega))
  · refine z_iload_n dJ3_checkIndex_8e157_4 rfl ?_
    refine z_iload_n dJ3_checkIndex_8e157_5 rfl ?_
    refine z_icmp_lt (t := 16) dJ3_checkIndex_8e157_6 (by decide) (fun q6 => ?_) (fun q6 => ?_)
    · refine z_iload_n dJ3_checkIndex_8e157_16 rfl ?_
      refine z_ireturn dJ3_checkIndex_8e157_17 trivial (Nat.le_of_ble_eq_true rfl) (Nat.le_of_ble_eq_true rfl) ?_
      exact hK
    · exact absurd (nI_lt hi hk2) q6
abbrev rJ15_checkIndex_7cf53 : Room := ⟨1, 0, 0, 40⟩
def SJ15_checkIndex_7cf53 (G : zC) : zS := fun as h n K => ∃ (i k : Nat), as = [.int (nI i), .int (nI k)] ∧ i < k ∧ k < 2147483648 ∧ K (some (.int (nI i))) h n
set_option maxRecDepth 100000 in
theorem tJ15_checkIndex_7cf53 {G : zC} {as : List Value} {h : zH} {n : Nat} {K : zP} (hs : SJ15_checkIndex_7cf53 G as h n K) : zCt G rJ15_checkIndex_7cf53 mJ15_checkIndex_7cf53 as h n K := by
  obtain ⟨i, k, rfl, hi, hk2, hK⟩ := hs
  refine zCt.of (by decide) (Nat.le_of_ble_eq_true rfl) ?_
  refine z_iload_n dJ15_checkIndex_7cf53_0 rfl ?_
  refine z_iload_n dJ15_checkIndex_7cf53_1 rfl ?_
  refine z_anull dJ15_checkIndex_7cf53_2 ?_
  refine zcall3 (zck_S (R' := rJ3_checkIndex_8e157) (M' := mJ3_checkIndex_8e157) (fun _ _ _ _ => tJ3_checkIndex_8e157) kJ3_checkIndex_8e157 lJ15_105 (by decide +kernel) rfl) dJ15_checkIndex_7cf53_3 (Nat.le_of_ble_eq_true rfl) (Nat.le_of_ble_eq_true rfl) (Nat.le_of_ble_eq_true rfl) ?_
  refine ⟨_, _, rfl, hi, hk2, ?_⟩
  refine z_ireturn dJ15_checkIndex_7cf53_6 trivial (Nat.le_of_ble_eq_true rfl) (Nat.le_of_ble_eq_true rfl) ?_
  exact hK
abbrev rJx4a65c_elementData_915e3 : Room := ⟨0, 0, 0, 0⟩
def SJx4a65c_elementData_915e3 (G : zC) : zS := fun as h n K => ∃ (a e m0 i q : Nat) (v0 v2 : Value) (f : Nat → Option Nat), as = [.ref a, .int (nI i)] ∧ h a = some (zO 1 [v0, .ref e, v2]) ∧ h e = some (zRf G m0 f) ∧ i < m0 ∧ m0 < 2147483648 ∧ f i = some q ∧ K (some (.ref q)) h n
set_option maxRecDepth 100000 in
theorem tvJx4a65c_elementData_915e3 {G : zC} {as : List Value} {h : zH} {n : Nat} {K : zP} (hs : SJx4a65c_elementData_915e3 G as h n K) : (∃ b fs r, as = .ref b :: r ∧ h b = some (.inr (1, fs))) ∧ zCt G rJx4a65c_elementData_915e3 mJx4a65c_elementData_915e3 as h n K := by
  obtain ⟨a, e, m0, i, q, v0, v2, f, rfl, hk, he, hi, hm, hf, hK⟩ := hs
  refine ⟨⟨_, _, _, rfl, hk⟩, zCt.of (by decide) (Nat.le_of_ble_eq_true rfl) ?_⟩
  refine z_aload_n dJx4a65c_elementData_915e3_0 rfl ?_
  refine z_getfield dJx4a65c_elementData_915e3_1 fJx4a65c_9_1 rfl (by first | assumption | exact zget_eq | exact zget_ne (by first | assumption | exact Ne.symm (by assumption) | omega) (by first | assumption | exact zget_eq | exact zget_ne (by first | assumption | exact Ne.symm (by assumption) | omega) (by first | assumption | exact zget_eq | exact zget_ne (by first | assumption | exact Ne.symm (by assumption) | omega) (by first | assumption | exact zget_eq)))) rfl ?_
  refine z_iload_n dJx4a65c_elementData_915e3_4 rfl ?_
  refine z_aald dJx4a65c_elementData_915e3_5 (by first | assumption | exact zget_eq | exact zget_ne (by first | assumption | exact Ne.symm (by assumption) | omega) (by first | assumption | exact zget_eq | exact zget_ne (by first | assumption | exact Ne.symm (by assumption) | omega) (by first | assumption | exact zget_eq | exact zget_ne (by first | assumption | exact Ne.symm (by assumption) | omega) (by first | assumption | exact zget_eq)))) (vp_in_nI hi hm) ?_
  rw [nI_clamp (by omega), hf]
  refine z_areturn dJx4a65c_elementData_915e3_6 rfl (Nat.le_of_ble_eq_true rfl) (Nat.le_of_ble_eq_true rfl) ?_
  exact hK
abbrev rJx4a65c_get_915e3 : Room := ⟨2, 0, 0, 80⟩
def SJx4a65c_get_915e3 (G : zC) : zS := fun as h n K => ∃ (a e m0 i k q : Nat) (v0 : Value) (f : Nat → Option Nat), as = [.ref a, .int (nI i)] ∧ h a = some (zO 1 [v0, .ref e, .int (nI k)]) ∧ h e = some (zRf G m0 f) ∧ i < k ∧ k ≤ m0 ∧ m0 < 2147483648 ∧ f i = some q ∧ K (some (.ref q)) h n
set_option maxRecDepth 100000 in
theorem tvJx4a65c_get_915e3 {G : zC} {as : List Value} {h : zH} {n : Nat} {K : zP} (hs : SJx4a65c_get_915e3 G as h n K) : (∃ b fs r, as = .ref b :: r ∧ h b = some (.inr (1, fs))) ∧ zCt G rJx4a65c_get_915e3 mJx4a65c_get_915e3 as h n K := by
  obtain ⟨a, e, m0, i, k, q, v0, f, rfl, hk, he, hik, hkm, hm, hf, hK⟩ := hs
  refine ⟨⟨_, _, _, rfl, hk⟩, zCt.of (by decide) (Nat.le_of_ble_eq_true rfl) ?_⟩
  refine z_iload_n dJx4a65c_get_915e3_0 rfl ?_
  refine z_aload_n dJx4a65c_get_915e3_1 rfl ?_
  refine z_getfield dJx4a65c_get_915e3_2 fJx4a65c_48_1 rfl (by first | assumption | exact zget_eq | exact zget_ne (by first | assumption | exact Ne.symm (by assumption) | omega) (by first | assumption | exact zget_eq | exact zget_ne (by first | assumption | exact Ne.symm (by assumption) | omega) (by first | assumption | exact zget_eq | exact zget_ne (by first | assumption | exact Ne.symm (by assumption) | omega) (by first | assumption | exact zget_eq)))) rfl ?_
  refine zcall2 (zck_S (R' := rJ15_checkIndex_7cf53) (M' := mJ15_checkIndex_7cf53) (fun _ _ _ _ => tJ15_checkIndex_7cf53) kJ15_checkIndex_7cf53 lJx4a65c_118 (by decide +kernel) rfl) dJx4a65c_get_915e3_5 (Nat.le_of_ble_eq_true rfl) (Nat.le_of_ble_eq_true rfl) (Nat.le_of_ble_eq_true rfl) ?_
  refine ⟨_, _, rfl, hik, (by omega), ?_⟩
  refine z_pop dJx4a65c_get_915e3_8 rfl ?_
  refine z_aload_n dJx4a65c_get_915e3_9 rfl ?_
  refine z_iload_n dJx4a65c_get_915e3_10 rfl ?_
  refine zcall2 (zck_V (na := 1) (ci := 1) (R' := rJx4a65c_elementData_915e3) (M' := mJx4a65c_elementData_915e3) (fun _ _ _ _ => tvJx4a65c_elementData_915e3) (by decide) kJx4a65c_elementData_915e3 lJx4a65c_123 (by decide +kernel) rfl) dJx4a65c_get_915e3_11 (Nat.le_of_ble_eq_true rfl) (Nat.le_of_ble_eq_true rfl) (Nat.le_of_ble_eq_true rfl) ?_
  refine ⟨_, _, _, _, _, _, _, _, rfl, hk, he, (by omega), hm, hf, ?_⟩
  refine z_areturn dJx4a65c_get_915e3_14 rfl (Nat.le_of_ble_eq_true rfl) (Nat.le_of_ble_eq_true rfl) ?_
  exact hK
abbrev rJx4a65c_grow_92f84 : Room := ⟨1, 1, 10, 40⟩
def SJx4a65c_grow_92f84 (G : zC) (t : Nat) : zS := fun as h n K => ∃ (a : Nat) (v0 v2 : Value), as = [.ref a, .int (nI 1)] ∧ h a = some (zO 1 [v0, .ref t, v2]) ∧ a < n ∧ ∀ h', h' a = some (zO 1 [v0, .ref n, v2]) → h' n = some (zRf G 10 (fun _ => none)) → (∀ q, q ≠ a → q ≠ n → h' q = h q) → K (some (.ref n)) h' (n + 1)
set_option maxRecDepth 100000 in
theorem tvJx4a65c_grow_92f84 {G : zC} {t : Nat} {as : List Value} {h : zH} {n : Nat} {K : zP} (hs : SJx4a65c_grow_92f84 G t as h n K) : (∃ b fs r, as = .ref b :: r ∧ h b = some (.inr (1, fs))) ∧ zCs G t rJx4a65c_grow_92f84 mJx4a65c_grow_92f84 as h n K := by
  obtain ⟨a, v0, v2, rfl, hk, han, hK⟩ := hs
  refine ⟨⟨_, _, _, rfl, hk⟩, zCs.of (by decide) (Nat.le_of_ble_eq_true rfl) ?_⟩
  refine z_aload_n dJx4a65c_grow_92f84_0 rfl ?_
  refine z_getfield dJx4a65c_grow_92f84_1 fJx4a65c_9_1 rfl (by first | assumption | exact zget_eq | exact zget_ne (by first | assumption | exact Ne.symm (by assumption) | omega) (by first | assumption | exact zget_eq | exact zget_ne (by first | assumption | exact Ne.symm (by assumption) | omega) (by first | assumption | exact zget_eq | exact zget_ne (by first | assumption | exact Ne.symm (by assumption) | omega) (by first | assumption | exact zget_eq)))) rfl ?_
  refine z_alenS dJx4a65c_grow_92f84_4 ?_
  refine z_istore_n dJx4a65c_grow_92f84_5 (Nat.le_of_ble_eq_true rfl) ?_
  refine z_iload_n dJx4a65c_grow_92f84_6 rfl ?_
  refine z_if_gt (t := 20) dJx4a65c_grow_92f84_7 (by decide) (fun q7 => ?_) (fun q7 => ?_)
  · exact absurd q7 (by decide)
  · refine z_aload_n dJx4a65c_grow_92f84_10 rfl ?_
    refine z_getfield dJx4a65c_grow_92f84_11 fJx4a65c_9_1 rfl (by first | assumption | exact zget_eq | exact zget_ne (by first | assumption | exact Ne.symm (by assumption) | omega) (by first | assumption | exact zget_eq | exact zget_ne (by first | assumption | exact Ne.symm (by assumption) | omega) (by first | assumption | exact zget_eq | exact zget_ne (by first | assumption | exact Ne.symm (by assumption) | omega) (by first | assumption | exact zget_eq)))) rfl ?_
    refine z_getst dJx4a65c_grow_92f84_14 (by decide +kernel) ?_
    refine z_acmp_eq (t := 45) dJx4a65c_grow_92f84_17 (by decide) (fun q17 => ?_) (fun q17 => ?_)
    · refine z_aload_n dJx4a65c_grow_92f84_45 rfl ?_
      refine z_bipush (w := 10) dJx4a65c_grow_92f84_46 (by decide) ?_
      refine z_iload_n dJx4a65c_grow_92f84_48 rfl ?_
      refine zcall2 (zck_max lJx4a65c_79 kJmax rfl) dJx4a65c_grow_92f84_49 (Nat.le_of_ble_eq_true rfl) (Nat.le_of_ble_eq_true rfl) (Nat.le_of_ble_eq_true rfl) ?_
      refine ⟨_, _, rfl, ?_⟩
      rw [show (if (10 : Int32) < nI 1 then nI 1 else 10) = 10 by decide]
      refine z_newq dJx4a65c_grow_92f84_52 (by decide +kernel) (by decide) (by decide) (Nat.le_of_ble_eq_true rfl) (Nat.le_of_ble_eq_true rfl) ?_
      refine z_dup_x1 dJx4a65c_grow_92f84_55 rfl rfl ?_
      refine z_putfield dJx4a65c_grow_92f84_56 fJx4a65c_9_1 rfl (fun q => absurd q (by decide)) (by first | assumption | exact zget_eq | exact zget_ne (by first | assumption | exact Ne.symm (by assumption) | omega) (by first | assumption | exact zget_eq | exact zget_ne (by first | assumption | exact Ne.symm (by assumption) | omega) (by first | assumption | exact zget_eq | exact zget_ne (by first | assumption | exact Ne.symm (by assumption) | omega) (by first | assumption | exact zget_eq)))) (Nat.le_of_ble_eq_true rfl) (Or.inr (Or.inl ⟨rfl, _, rfl⟩)) ?_
      refine zZ.toS ?_
      refine z_areturnA dJx4a65c_grow_92f84_59 rfl (Nat.le_of_ble_eq_true rfl) (Nat.le_of_ble_eq_true rfl) ?_
      exact hK _ (by rw [zget_eq]; rfl) (by rw [zup_ne (by omega), zget_eq]; rfl) (fun q h1 h2 => by rw [zup_ne h1, zup_ne h2])
    · exact absurd rfl q17
abbrev rJx4a65c_grow_d5877 : Room := ⟨2, 1, 10, 80⟩
def SJx4a65c_grow_d5877 (G : zC) (t : Nat) : zS := fun as h n K => ∃ (a : Nat) (v0 : Value), as = [.ref a] ∧ h a = some (zO 1 [v0, .ref t, .int (nI 0)]) ∧ a < n ∧ ∀ h', h' a = some (zO 1 [v0, .ref n, .int (nI 0)]) → h' n = some (zRf G 10 (fun _ => none)) → (∀ q, q ≠ a → q ≠ n → h' q = h q) → K (some (.ref n)) h' (n + 1)
set_option maxRecDepth 100000 in
theorem tvJx4a65c_grow_d5877 {G : zC} {t : Nat} {as : List Value} {h : zH} {n : Nat} {K : zP} (hs : SJx4a65c_grow_d5877 G t as h n K) : (∃ b fs r, as = .ref b :: r ∧ h b = some (.inr (1, fs))) ∧ zCs G t rJx4a65c_grow_d5877 mJx4a65c_grow_d5877 as h n K := by
  obtain ⟨a, v0, rfl, hk, han, hK⟩ := hs
  refine ⟨⟨_, _, _, rfl, hk⟩, zCs.of (by decide) (Nat.le_of_ble_eq_true rfl) ?_⟩
  refine z_aload_n dJx4a65c_grow_d5877_0 rfl ?_
  refine z_aload_n dJx4a65c_grow_d5877_1 rfl ?_
  refine z_getfield dJx4a65c_grow_d5877_2 fJx4a65c_48_1 rfl (by first | assumption | exact zget_eq | exact zget_ne (by first | assumption | exact Ne.symm (by assumption) | omega) (by first | assumption | exact zget_eq | exact zget_ne (by first | assumption | exact Ne.symm (by assumption) | omega) (by first | assumption | exact zget_eq | exact zget_ne (by first | assumption | exact Ne.symm (by assumption) | omega) (by first | assumption | exact zget_eq)))) rfl ?_
  refine z_iconst (w := 1) dJx4a65c_grow_d5877_5 (by decide) ?_
  refine z_iadd dJx4a65c_grow_d5877_6 ?_
  rw [show nI 0 + 1 = nI 1 from nI_1 0]
  refine zcall2 (zck_Vs (na := 1) (ci := 1) (R' := rJx4a65c_grow_92f84) (M' := mJx4a65c_grow_92f84) (fun _ _ _ _ => tvJx4a65c_grow_92f84) (by decide) kJx4a65c_grow_92f84 lJx4a65c_69 (by decide +kernel) rfl) dJx4a65c_grow_d5877_7 (Nat.le_of_ble_eq_true rfl) (Nat.le_of_ble_eq_true rfl) (Nat.le_of_ble_eq_true rfl) ?_
  refine ⟨_, _, _, rfl, hk, han, fun h1 g1 g2 g3 => ?_⟩
  refine zZ.toS ?_
  refine z_areturnA dJx4a65c_grow_d5877_10 rfl (Nat.le_of_ble_eq_true rfl) (Nat.le_of_ble_eq_true rfl) ?_
  exact hK h1 g1 g2 g3
abbrev rJx4a65c_add_72be8 : Room := ⟨3, 1, 10, 120⟩
def SJx4a65c_add_72be8 (G : zC) (t : Nat) : zS := fun as h n K => ∃ (a q e k : Nat) (v0 : Value) (f : Nat → Option Nat) (fs : List Value), as = [.ref a, .ref q, .ref e, .int (nI k)] ∧ h a = some (zO 1 [v0, .ref e, .int (nI k)]) ∧ a < n ∧ q < n ∧ h q = some (zO 4 fs) ∧ ((k = 0 ∧ e = t ∧ ∀ h', h' a = some (zO 1 [v0, .ref n, .int (nI 1)]) → h' n = some (zRf G 10 (va_up (fun _ => none) 0 (some q))) → (∀ p, p ≠ a → p ≠ n → h' p = h p) → K none h' (n + 1)) ∨ (h e = some (zRf G 10 f) ∧ k < 10 ∧ ∀ h', h' a = some (zO 1 [v0, .ref e, .int (nI (k + 1))]) → h' e = some (zRf G 10 (va_up f k (some q))) → (∀ p, p ≠ a → p ≠ e → h' p = h p) → K none h' n))
set_option maxRecDepth 100000 in
theorem tvJx4a65c_add_72be8 {G : zC} {t : Nat} {as : List Value} {h : zH} {n : Nat} {K : zP} (hs : SJx4a65c_add_72be8 G t as h n K) : (∃ b fs r, as = .ref b :: r ∧ h b = some (.inr (1, fs))) ∧ zCs G t rJx4a65c_add_72be8 mJx4a65c_add_72be8 as h n K := by
  obtain ⟨a, q, e, k, v0, f, fs, rfl, hk, han, hqn, hq, hc⟩ := hs
  refine ⟨⟨_, _, _, rfl, hk⟩, zCs.of (by decide) (Nat.le_of_ble_eq_true rfl) ?_⟩
  have hqa : q ≠ a := fun z => by rw [z, hk] at hq; simp at hq
  rcases hc with ⟨rfl, rfl, hK⟩ | ⟨he, hk9, hK⟩
  · refine z_iload_n dJx4a65c_add_72be8_0 rfl ?_
    refine z_aload_n dJx4a65c_add_72be8_1 rfl ?_
    refine z_alenS dJx4a65c_add_72be8_2 ?_
    refine z_icmp_ne (t := 11) dJx4a65c_add_72be8_3 (by decide) (fun q3 => ?_) (fun q3 => ?_)
    · exact absurd rfl q3
    · refine z_aload_n dJx4a65c_add_72be8_6 rfl ?_
      refine zcall1 (zck_Vs (na := 0) (ci := 1) (R' := rJx4a65c_grow_d5877) (M' := mJx4a65c_grow_d5877) (fun _ _ _ _ => tvJx4a65c_grow_d5877) (by decide) kJx4a65c_grow_d5877 lJx4a65c_129 (by decide +kernel) rfl) dJx4a65c_add_72be8_7 (Nat.le_of_ble_eq_true rfl) (Nat.le_of_ble_eq_true rfl) (Nat.le_of_ble_eq_true rfl) ?_
      refine ⟨_, _, rfl, hk, han, fun h1 g1 g2 g3 => ?_⟩
      refine z_astore_n dJx4a65c_add_72be8_10 (Nat.le_of_ble_eq_true rfl) ?_
      refine z_aload_n dJx4a65c_add_72be8_11 rfl ?_
      refine z_iload_n dJx4a65c_add_72be8_12 rfl ?_
      refine z_aload_n dJx4a65c_add_72be8_13 rfl ?_
      refine z_aast dJx4a65c_add_72be8_14 g2 ((g3 q hqa (by omega)).trans hq) (vp_in_nI (by decide) (by decide)) ?_
      refine z_aload_n dJx4a65c_add_72be8_15 rfl ?_
      refine z_iload_n dJx4a65c_add_72be8_16 rfl ?_
      refine z_iconst (w := 1) dJx4a65c_add_72be8_17 (by decide) ?_
      refine z_iadd dJx4a65c_add_72be8_18 ?_
      rw [nI_1]
      refine z_putfield dJx4a65c_add_72be8_19 fJx4a65c_48_1 rfl (fun q => absurd q (by decide)) (by first | assumption | exact zget_eq | exact zget_ne (by first | assumption | exact Ne.symm (by assumption) | omega) (by first | assumption | exact zget_eq | exact zget_ne (by first | assumption | exact Ne.symm (by assumption) | omega) (by first | assumption | exact zget_eq | exact zget_ne (by first | assumption | exact Ne.symm (by assumption) | omega) (by first | assumption | exact zget_eq)))) (Nat.le_of_ble_eq_true rfl) (Or.inl ⟨rfl, _, rfl⟩) ?_
      refine zZ.toS ?_
      refine z_vreturn dJx4a65c_add_72be8_22 rfl (Nat.le_of_ble_eq_true rfl) (Nat.le_of_ble_eq_true rfl) ?_
      exact hK _ (by rw [zget_eq]; rfl) (by rw [zup_ne (by omega), zget_eq, nI_clamp (by decide)]) (fun p p1 p2 => by rw [zup_ne p1, zup_ne p2, g3 p p1 p2])
  · have hea : e ≠ a := fun z => by rw [z, hk] at he; simp at he
    refine z_iload_n dJx4a65c_add_72be8_0 rfl ?_
    refine z_aload_n dJx4a65c_add_72be8_1 rfl ?_
    refine z_alenq dJx4a65c_add_72be8_2 he ?_
    refine z_icmp_ne (t := 11) dJx4a65c_add_72be8_3 (by decide) (fun q3 => ?_) (fun q3 => ?_)
    · refine z_aload_n dJx4a65c_add_72be8_11 rfl ?_
      refine z_iload_n dJx4a65c_add_72be8_12 rfl ?_
      refine z_aload_n dJx4a65c_add_72be8_13 rfl ?_
      refine z_aast dJx4a65c_add_72be8_14 he hq (vp_in_nI hk9 (by decide)) ?_
      refine z_aload_n dJx4a65c_add_72be8_15 rfl ?_
      refine z_iload_n dJx4a65c_add_72be8_16 rfl ?_
      refine z_iconst (w := 1) dJx4a65c_add_72be8_17 (by decide) ?_
      refine z_iadd dJx4a65c_add_72be8_18 ?_
      rw [nI_1]
      refine z_putfield dJx4a65c_add_72be8_19 fJx4a65c_48_1 rfl (fun q => absurd q (by decide)) (by first | assumption | exact zget_eq | exact zget_ne (by first | assumption | exact Ne.symm (by assumption) | omega) (by first | assumption | exact zget_eq | exact zget_ne (by first | assumption | exact Ne.symm (by assumption) | omega) (by first | assumption | exact zget_eq | exact zget_ne (by first | assumption | exact Ne.symm (by assumption) | omega) (by first | assumption | exact zget_eq)))) (Nat.le_of_ble_eq_true rfl) (Or.inl ⟨rfl, _, rfl⟩) ?_
      refine zZ.toS ?_
      refine z_vreturn dJx4a65c_add_72be8_22 rfl (Nat.le_of_ble_eq_true rfl) (Nat.le_of_ble_eq_true rfl) ?_
      exact hK _ (by rw [zget_eq]; rfl) (by rw [zup_ne (fun z => by rw [z, hk] at he; simp at he), zget_eq, nI_clamp (by omega)]) (fun p p1 p2 => by rw [zup_ne p1, zup_ne p2])
    · exact absurd ((nI_eq (by omega) (by decide)).mp q3) (by omega)
abbrev rJx4a65c_add_9ea2d : Room := ⟨4, 1, 10, 160⟩
def SJx4a65c_add_9ea2d (G : zC) (t : Nat) : zS := fun as h n K => ∃ (a q e k : Nat) (mc : Int32) (f : Nat → Option Nat) (fs : List Value), as = [.ref a, .ref q] ∧ h a = some (zO 1 [.int mc, .ref e, .int (nI k)]) ∧ a < n ∧ q < n ∧ h q = some (zO 4 fs) ∧ ((k = 0 ∧ e = t ∧ ∀ h', h' a = some (zO 1 [.int (mc + 1), .ref n, .int (nI 1)]) → h' n = some (zRf G 10 (va_up (fun _ => none) 0 (some q))) → (∀ p, p ≠ a → p ≠ n → h' p = h p) → K (some (.int 1)) h' (n + 1)) ∨ (h e = some (zRf G 10 f) ∧ k < 10 ∧ ∀ h', h' a = some (zO 1 [.int (mc + 1), .ref e, .int (nI (k + 1))]) → h' e = some (zRf G 10 (va_up f k (some q))) → (∀ p, p ≠ a → p ≠ e → h' p = h p) → K (some (.int 1)) h' n))
set_option maxRecDepth 100000 in
theorem tvJx4a65c_add_9ea2d {G : zC} {t : Nat} {as : List Value} {h : zH} {n : Nat} {K : zP} (hs : SJx4a65c_add_9ea2d G t as h n K) : (∃ b fs r, as = .ref b :: r ∧ h b = some (.inr (1, fs))) ∧ zCs G t rJx4a65c_add_9ea2d mJx4a65c_add_9ea2d as h n K := by
  obtain ⟨a, q, e, k, mc, f, fs, rfl, hk, han, hqn, hq, hc⟩ := hs
  refine ⟨⟨_, _, _, rfl, hk⟩, zCs.of (by decide) (Nat.le_of_ble_eq_true rfl) ?_⟩
  have hqa : q ≠ a := fun z => by rw [z, hk] at hq; simp at hq
  rcases hc with ⟨rfl, rfl, hK⟩ | ⟨he, hk9, hK⟩
  · refine z_aload_n dJx4a65c_add_9ea2d_0 rfl ?_
    refine z_dup dJx4a65c_add_9ea2d_1 rfl ?_
    refine z_getI dJx4a65c_add_9ea2d_2 lmod hk ?_
    refine z_iconst (w := 1) dJx4a65c_add_9ea2d_5 (by decide) ?_
    refine z_iadd dJx4a65c_add_9ea2d_6 ?_
    refine z_putI dJx4a65c_add_9ea2d_7 lmod hk ?_
    refine z_aload_n dJx4a65c_add_9ea2d_10 rfl ?_
    refine z_aload_n dJx4a65c_add_9ea2d_11 rfl ?_
    refine z_aload_n dJx4a65c_add_9ea2d_12 rfl ?_
    refine z_getfield dJx4a65c_add_9ea2d_13 fJx4a65c_9_1 rfl (by first | assumption | exact zget_eq | exact zget_ne (by first | assumption | exact Ne.symm (by assumption) | omega) (by first | assumption | exact zget_eq | exact zget_ne (by first | assumption | exact Ne.symm (by assumption) | omega) (by first | assumption | exact zget_eq | exact zget_ne (by first | assumption | exact Ne.symm (by assumption) | omega) (by first | assumption | exact zget_eq)))) rfl ?_
    refine z_aload_n dJx4a65c_add_9ea2d_16 rfl ?_
    refine z_getfield dJx4a65c_add_9ea2d_17 fJx4a65c_48_1 rfl (by first | assumption | exact zget_eq | exact zget_ne (by first | assumption | exact Ne.symm (by assumption) | omega) (by first | assumption | exact zget_eq | exact zget_ne (by first | assumption | exact Ne.symm (by assumption) | omega) (by first | assumption | exact zget_eq | exact zget_ne (by first | assumption | exact Ne.symm (by assumption) | omega) (by first | assumption | exact zget_eq)))) rfl ?_
    refine zcall4 (zck_Vs (na := 3) (ci := 1) (R' := rJx4a65c_add_72be8) (M' := mJx4a65c_add_72be8) (fun _ _ _ _ => tvJx4a65c_add_72be8) (by decide) kJx4a65c_add_72be8 lJx4a65c_131 (by decide +kernel) rfl) dJx4a65c_add_9ea2d_20 (Nat.le_of_ble_eq_true rfl) (Nat.le_of_ble_eq_true rfl) (Nat.le_of_ble_eq_true rfl) ?_
    refine ⟨_, _, _, _, _, f, fs, rfl, zget_eq, han, hqn, ((zup_ne hqa).trans hq), Or.inl ⟨rfl, rfl, fun h1 g1 g2 g3 => ?_⟩⟩
    refine z_iconst (w := 1) dJx4a65c_add_9ea2d_23 (by decide) ?_
    refine zZ.toS ?_
    refine z_ireturn dJx4a65c_add_9ea2d_24 (by first | exact Or.inl rfl | exact Or.inr rfl | simp) (Nat.le_of_ble_eq_true rfl) (Nat.le_of_ble_eq_true rfl) ?_
    exact hK h1 g1 g2 (fun p p1 p2 => (g3 p p1 p2).trans (zup_ne p1))
  · have hea : e ≠ a := fun z => by rw [z, hk] at he; simp at he
    refine z_aload_n dJx4a65c_add_9ea2d_0 rfl ?_
    refine z_dup dJx4a65c_add_9ea2d_1 rfl ?_
    refine z_getI dJx4a65c_add_9ea2d_2 lmod hk ?_
    refine z_iconst (w := 1) dJx4a65c_add_9ea2d_5 (by decide) ?_
    refine z_iadd dJx4a65c_add_9ea2d_6 ?_
    refine z_putI dJx4a65c_add_9ea2d_7 lmod hk ?_
    refine z_aload_n dJx4a65c_add_9ea2d_10 rfl ?_
    refine z_aload_n dJx4a65c_add_9ea2d_11 rfl ?_
    refine z_aload_n dJx4a65c_add_9ea2d_12 rfl ?_
    refine z_getfield dJx4a65c_add_9ea2d_13 fJx4a65c_9_1 rfl (by first | assumption | exact zget_eq | exact zget_ne (by first | assumption | exact Ne.symm (by assumption) | omega) (by first | assumption | exact zget_eq | exact zget_ne (by first | assumption | exact Ne.symm (by assumption) | omega) (by first | assumption | exact zget_eq | exact zget_ne (by first | assumption | exact Ne.symm (by assumption) | omega) (by first | assumption | exact zget_eq)))) rfl ?_
    refine z_aload_n dJx4a65c_add_9ea2d_16 rfl ?_
    refine z_getfield dJx4a65c_add_9ea2d_17 fJx4a65c_48_1 rfl (by first | assumption | exact zget_eq | exact zget_ne (by first | assumption | exact Ne.symm (by assumption) | omega) (by first | assumption | exact zget_eq | exact zget_ne (by first | assumption | exact Ne.symm (by assumption) | omega) (by first | assumption | exact zget_eq | exact zget_ne (by first | assumption | exact Ne.symm (by assumption) | omega) (by first | assumption | exact zget_eq)))) rfl ?_
    refine zcall4 (zck_Vs (na := 3) (ci := 1) (R' := rJx4a65c_add_72be8) (M' := mJx4a65c_add_72be8) (fun _ _ _ _ => tvJx4a65c_add_72be8) (by decide) kJx4a65c_add_72be8 lJx4a65c_131 (by decide +kernel) rfl) dJx4a65c_add_9ea2d_20 (Nat.le_of_ble_eq_true rfl) (Nat.le_of_ble_eq_true rfl) (Nat.le_of_ble_eq_true rfl) ?_
    refine ⟨_, _, _, _, _, f, fs, rfl, zget_eq, han, hqn, ((zup_ne hqa).trans hq), Or.inr ⟨(zup_ne hea).trans he, hk9, fun h1 g1 g2 g3 => ?_⟩⟩
    refine z_iconst (w := 1) dJx4a65c_add_9ea2d_23 (by decide) ?_
    refine zZ.toS ?_
    refine z_ireturn dJx4a65c_add_9ea2d_24 (by first | exact Or.inl rfl | exact Or.inr rfl | simp) (Nat.le_of_ble_eq_true rfl) (Nat.le_of_ble_eq_true rfl) ?_
    exact hK h1 g1 g2 (fun p p1 p2 => (g3 p p1 p2).trans (zup_ne p1))

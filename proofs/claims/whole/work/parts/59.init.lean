/-! the class: its constructor -/
theorem zmm4 (p : Int32) : (if (0 : Int32) < (if p < 4 then p else 4) then (if p < 4 then p else 4) else 0) = nI (zclo p) := by
  unfold zclo
  by_cases h1 : p < 0
  · rw [if_pos h1, if_pos (Int32.lt_trans h1 (by decide)), if_neg (fun w => Int32.lt_irrefl (Int32.lt_trans h1 w))]; rfl
  · rw [if_neg h1]
    by_cases h2 : 4 < p
    · rw [if_pos h2, if_neg (fun w => Int32.lt_irrefl (Int32.lt_trans h2 w)), if_pos (by decide)]; rfl
    · rw [if_neg h2, znt h1]
      by_cases h3 : p < 4
      · rw [if_pos h3]
        split
        · rfl
        · rename_i h4
          have := Int32.toInt_inj.mp (show (0 : Int32).toInt = p.toInt by
            rw [Int32.lt_iff_toInt_lt] at h1 h4
            have h0 : (0 : Int32).toInt = 0 := rfl
            omega)
          exact this
      · rw [if_neg h3, if_pos (by decide)]
        exact Int32.toInt_inj.mp (by
          rw [Int32.lt_iff_toInt_lt] at h2 h3
          omega)
theorem zmm1500 (p : Int32) : (if (8 : Int32) < (if p < 1500 then p else 1500) then (if p < 1500 then p else 1500) else 8) = nI (zclr p) := by
  unfold zclr
  by_cases h1 : p < 8
  · rw [if_pos h1, if_pos (Int32.lt_trans h1 (by decide)), if_neg (fun w => Int32.lt_irrefl (Int32.lt_trans h1 w))]; rfl
  · rw [if_neg h1]
    by_cases h2 : 1500 < p
    · rw [if_pos h2, if_neg (fun w => Int32.lt_irrefl (Int32.lt_trans h2 w)), if_pos (by decide)]; rfl
    · rw [if_neg h2, znt (fun w => h1 (Int32.lt_trans w (by decide)))]
      by_cases h3 : p < 1500
      · rw [if_pos h3]
        split
        · rfl
        · rename_i h4
          exact Int32.toInt_inj.mp (by
            rw [Int32.lt_iff_toInt_lt] at h1 h4
            omega)
      · rw [if_neg h3, if_pos (by decide)]
        exact Int32.toInt_inj.mp (by
          rw [Int32.lt_iff_toInt_lt] at h2 h3
          omega)
abbrev rX10_init : Room := ⟨4, 46, 29845, 160⟩
def SX10_init (G : zC) (t : Nat) : zS := fun as h n K => ∃ (x : Nat) (p q : Int32), as = [.ref x, .int p, .int q] ∧ h x = some (zO 10 [.int 0, .int 0, .null, .null, .null, .null, .null, .null, .null, .int 0, .int 0, .int 0, .null, .int 0, .null, .null, .null, .null, .null, .int 0]) ∧ n = x + 1 ∧ ∀ h', (∀ b n' tx rx XX F, x + 47 ≤ b → b ≤ n' → zCS G h' n' x b t 0 (zclo p) (zclr q) (fun _ => 0) tx (fun _ => 0) rx (fun _ => zM0) (va_up (fun _ => 0) 2 (-3)) XX F) → (∀ q, ¬ (x ≤ q ∧ q < x + 47) → h' q = h q) → K none h' (x + 47)
set_option maxRecDepth 100000 in
theorem tiX10_init {G : zC} {t : Nat} {as : List Value} {h : zH} {n : Nat} {K : zP} (hs : SX10_init G t as h n K) : (∃ b r, as = .ref b :: r) ∧ zCs G t rX10_init mX10_init as h n K := by
  obtain ⟨x, p, q, rfl, c0, rfl, hK⟩ := hs
  refine ⟨⟨_, _, rfl⟩, zCs.of (by decide) (Nat.le_of_ble_eq_true rfl) ?_⟩
  have oo4 := zclo_ok p
  have r8 := zclr_ok q
  refine z_aload_n dX10_init_0 rfl ?_
  refine zcall1 (zck_O lX10_3 kJobj rfl) dX10_init_1 (Nat.le_of_ble_eq_true rfl) (Nat.le_of_ble_eq_true rfl) (Nat.le_of_ble_eq_true rfl) ?_
  refine ⟨⟨_, rfl⟩, ?_⟩
  refine z_aload_n dX10_init_4 rfl ?_
  refine z_new dX10_init_5 nwX10_9 rfl (Nat.le_of_ble_eq_true rfl) (Nat.le_of_ble_eq_true rfl) ?_
  refine z_dup dX10_init_8 rfl ?_
  refine z_sipush (w := 300) dX10_init_9 (by decide) ?_
  refine zcall2 (zck_I (na := 1) (R' := rX4_init 300) (M' := mX4_init) (fun _ _ _ _ => tiX4_init) rfl kX4_init lX10_11 rfl (by decide +kernel) rfl) dX10_init_12 (Nat.le_of_ble_eq_true rfl) (Nat.le_of_ble_eq_true rfl) (Nat.le_of_ble_eq_true rfl) ?_
  refine ⟨_, rfl, zget_eq, (by omega), (by decide), fun h1 a1 b1 e1 => ?_⟩
  have E1 : ∀ q, ¬ (x + 1 ≤ q ∧ q < x + 3) → h1 q = h q := fun q hq => (e1 q (by omega) (by omega)).trans (zup_ne (by omega))
  refine z_putfield dX10_init_15 fiX10_14_10 rfl (fun _ => rfl) ((E1 x (by omega)).trans c0) (Nat.le_of_ble_eq_true rfl) (Or.inr (Or.inl ⟨rfl, _, rfl⟩)) ?_
  generalize hg1 : va_up h1 x _ = W1
  have o1 : W1 x = some (zO 10 [.int 0, .int 0, .ref (x + 1), .null, .null, .null, .null, .null, .null, .int 0, .int 0, .int 0, .null, .int 0, .null, .null, .null, .null, .null, .int 0]) := by rw [← hg1]; exact zget_eq
  have f1 : ∀ q, q ≠ x → W1 q = h1 q := fun q hq => by rw [← hg1]; exact zup_ne hq
  refine z_aload_n dX10_init_18 rfl ?_
  refine z_new dX10_init_19 nwX10_9 rfl (Nat.le_of_ble_eq_true rfl) (Nat.le_of_ble_eq_true rfl) ?_
  refine z_dup dX10_init_22 rfl ?_
  refine z_sipush (w := 2484) dX10_init_23 (by decide) ?_
  refine zcall2 (zck_I (na := 1) (R' := rX4_init 2484) (M' := mX4_init) (fun _ _ _ _ => tiX4_init) rfl kX4_init lX10_11 rfl (by decide +kernel) rfl) dX10_init_26 (Nat.le_of_ble_eq_true rfl) (Nat.le_of_ble_eq_true rfl) (Nat.le_of_ble_eq_true rfl) ?_
  refine ⟨_, rfl, zget_eq, (by omega), (by decide), fun h2 a2 b2 e2 => ?_⟩
  have E2 : ∀ q, ¬ (x + 3 ≤ q ∧ q < x + 5) → h2 q = W1 q := fun q hq => (e2 q (by omega) (by omega)).trans (zup_ne (by omega))
  refine z_putfield dX10_init_29 fiX10_18_10 rfl (fun _ => rfl) ((E2 x (by omega)).trans o1) (Nat.le_of_ble_eq_true rfl) (Or.inr (Or.inl ⟨rfl, _, rfl⟩)) ?_
  generalize hg2 : va_up h2 x _ = W2
  have o2 : W2 x = some (zO 10 [.int 0, .int 0, .ref (x + 1), .ref (x + 3), .null, .null, .null, .null, .null, .int 0, .int 0, .int 0, .null, .int 0, .null, .null, .null, .null, .null, .int 0]) := by rw [← hg2]; exact zget_eq
  have f2 : ∀ q, q ≠ x → W2 q = h2 q := fun q hq => by rw [← hg2]; exact zup_ne hq
  refine z_aload_n dX10_init_32 rfl ?_
  refine z_new dX10_init_33 nwX10_9 rfl (Nat.le_of_ble_eq_true rfl) (Nat.le_of_ble_eq_true rfl) ?_
  refine z_dup dX10_init_36 rfl ?_
  refine z_sipush (w := 300) dX10_init_37 (by decide) ?_
  refine zcall2 (zck_I (na := 1) (R' := rX4_init 300) (M' := mX4_init) (fun _ _ _ _ => tiX4_init) rfl kX4_init lX10_11 rfl (by decide +kernel) rfl) dX10_init_40 (Nat.le_of_ble_eq_true rfl) (Nat.le_of_ble_eq_true rfl) (Nat.le_of_ble_eq_true rfl) ?_
  refine ⟨_, rfl, zget_eq, (by omega), (by decide), fun h3 a3 b3 e3 => ?_⟩
  have E3 : ∀ q, ¬ (x + 5 ≤ q ∧ q < x + 7) → h3 q = W2 q := fun q hq => (e3 q (by omega) (by omega)).trans (zup_ne (by omega))
  refine z_putfield dX10_init_43 fX10_21_10 rfl (fun q => absurd q (by decide)) ((E3 x (by omega)).trans o2) (Nat.le_of_ble_eq_true rfl) (Or.inr (Or.inl ⟨rfl, _, rfl⟩)) ?_
  generalize hg3 : va_up h3 x _ = W3
  have o3 : W3 x = some (zO 10 [.int 0, .int 0, .ref (x + 1), .ref (x + 3), .ref (x + 5), .null, .null, .null, .null, .int 0, .int 0, .int 0, .null, .int 0, .null, .null, .null, .null, .null, .int 0]) := by rw [← hg3]; exact zget_eq
  have f3 : ∀ q, q ≠ x → W3 q = h3 q := fun q hq => by rw [← hg3]; exact zup_ne hq
  refine z_aload_n dX10_init_46 rfl ?_
  refine z_new dX10_init_47 nwX10_9 rfl (Nat.le_of_ble_eq_true rfl) (Nat.le_of_ble_eq_true rfl) ?_
  refine z_dup dX10_init_50 rfl ?_
  refine z_sipush (w := 300) dX10_init_51 (by decide) ?_
  refine zcall2 (zck_I (na := 1) (R' := rX4_init 300) (M' := mX4_init) (fun _ _ _ _ => tiX4_init) rfl kX4_init lX10_11 rfl (by decide +kernel) rfl) dX10_init_54 (Nat.le_of_ble_eq_true rfl) (Nat.le_of_ble_eq_true rfl) (Nat.le_of_ble_eq_true rfl) ?_
  refine ⟨_, rfl, zget_eq, (by omega), (by decide), fun h4 a4 b4 e4 => ?_⟩
  have E4 : ∀ q, ¬ (x + 7 ≤ q ∧ q < x + 9) → h4 q = W3 q := fun q hq => (e4 q (by omega) (by omega)).trans (zup_ne (by omega))
  refine z_putfield dX10_init_57 fX10_24_10 rfl (fun q => absurd q (by decide)) ((E4 x (by omega)).trans o3) (Nat.le_of_ble_eq_true rfl) (Or.inr (Or.inl ⟨rfl, _, rfl⟩)) ?_
  generalize hg4 : va_up h4 x _ = W4
  have o4 : W4 x = some (zO 10 [.int 0, .int 0, .ref (x + 1), .ref (x + 3), .ref (x + 5), .ref (x + 7), .null, .null, .null, .int 0, .int 0, .int 0, .null, .int 0, .null, .null, .null, .null, .null, .int 0]) := by rw [← hg4]; exact zget_eq
  have f4 : ∀ q, q ≠ x → W4 q = h4 q := fun q hq => by rw [← hg4]; exact zup_ne hq
  refine z_aload_n dX10_init_60 rfl ?_
  refine z_new dX10_init_61 nwX10_27 rfl (Nat.le_of_ble_eq_true rfl) (Nat.le_of_ble_eq_true rfl) ?_
  refine z_dup dX10_init_64 rfl ?_
  refine zcall1 (zck_Is (na := 0) (R' := rJx4a65c_init_da8c8) (M' := mJx4a65c_init_da8c8) (fun _ _ _ _ => tiJx4a65c_init_da8c8) rfl kJx4a65c_init_da8c8 lX10_29 rfl (by decide +kernel) rfl) dX10_init_65 (Nat.le_of_ble_eq_true rfl) (Nat.le_of_ble_eq_true rfl) (Nat.le_of_ble_eq_true rfl) ?_
  refine ⟨_, _, _, rfl, zget_eq, fun h5 a5 e5 => ?_⟩
  have E5 : ∀ q, ¬ (x + 9 ≤ q ∧ q < x + 10) → h5 q = W4 q := fun q hq => (e5 q (by omega)).trans (zup_ne (by omega))
  refine z_putfield dX10_init_68 fiX10_30_10 rfl (fun _ => rfl) ((E5 x (by omega)).trans o4) (Nat.le_of_ble_eq_true rfl) (Or.inr (Or.inl ⟨rfl, _, rfl⟩)) ?_
  generalize hg5 : va_up h5 x _ = W5
  have o5 : W5 x = some (zO 10 [.int 0, .int 0, .ref (x + 1), .ref (x + 3), .ref (x + 5), .ref (x + 7), .null, .null, .null, .int 0, .int 0, .int 0, .ref (x + 9), .int 0, .null, .null, .null, .null, .null, .int 0]) := by rw [← hg5]; exact zget_eq
  have f5 : ∀ q, q ≠ x → W5 q = h5 q := fun q hq => by rw [← hg5]; exact zup_ne hq
  refine z_aload_n dX10_init_71 rfl ?_
  refine z_new dX10_init_72 nwX10_34 rfl (Nat.le_of_ble_eq_true rfl) (Nat.le_of_ble_eq_true rfl) ?_
  refine z_dup dX10_init_75 rfl ?_
  refine zcall1 (zck_IN (na := 0) (R' := rX8_init) (M' := mX8_init) (fun _ _ _ _ => tiX8_init) rfl kX8_init lX10_36 nX10_36 rfl (by decide +kernel) rfl) dX10_init_76 (Nat.le_of_ble_eq_true rfl) (Nat.le_of_ble_eq_true rfl) (Nat.le_of_ble_eq_true rfl) ?_
  refine ⟨_, rfl, zget_eq, (by omega), fun h6 a6 b6 e6 => ?_⟩
  have E6 : ∀ q, ¬ (x + 10 ≤ q ∧ q < x + 15) → h6 q = W5 q := fun q hq => (e6 q (by omega) (by omega)).trans (zup_ne (by omega))
  refine z_putfield dX10_init_79 fiX10_37_10 rfl (fun _ => rfl) ((E6 x (by omega)).trans o5) (Nat.le_of_ble_eq_true rfl) (Or.inr (Or.inl ⟨rfl, _, rfl⟩)) ?_
  generalize hg6 : va_up h6 x _ = W6
  have o6 : W6 x = some (zO 10 [.int 0, .int 0, .ref (x + 1), .ref (x + 3), .ref (x + 5), .ref (x + 7), .null, .null, .null, .int 0, .int 0, .int 0, .ref (x + 9), .int 0, .ref (x + 10), .null, .null, .null, .null, .int 0]) := by rw [← hg6]; exact zget_eq
  have f6 : ∀ q, q ≠ x → W6 q = h6 q := fun q hq => by rw [← hg6]; exact zup_ne hq
  refine z_aload_n dX10_init_82 rfl ?_
  refine z_new dX10_init_83 nwX10_41 rfl (Nat.le_of_ble_eq_true rfl) (Nat.le_of_ble_eq_true rfl) ?_
  refine z_dup dX10_init_86 rfl ?_
  refine zcall1 (zck_IN (na := 0) (R' := rX2_init) (M' := mX2_init) (fun _ _ _ _ => tiX2_init) rfl kX2_init lX10_43 nX10_43 rfl (by decide +kernel) rfl) dX10_init_87 (Nat.le_of_ble_eq_true rfl) (Nat.le_of_ble_eq_true rfl) (Nat.le_of_ble_eq_true rfl) ?_
  refine ⟨_, rfl, ?_⟩
  generalize hh7 : va_up W6 (x + 15) _ = h7
  have a7 : h7 (x + 15) = some (zO 3 [.int 0, .int 0]) := by rw [← hh7]; exact zget_eq
  have E7 : ∀ q, ¬ (x + 15 ≤ q ∧ q < x + 16) → h7 q = W6 q := fun q hq => by rw [← hh7]; exact zup_ne (by omega)
  refine z_putfield dX10_init_90 fiX10_44_10 rfl (fun _ => rfl) ((E7 x (by omega)).trans o6) (Nat.le_of_ble_eq_true rfl) (Or.inr (Or.inl ⟨rfl, _, rfl⟩)) ?_
  generalize hg7 : va_up h7 x _ = W7
  have o7 : W7 x = some (zO 10 [.int 0, .int 0, .ref (x + 1), .ref (x + 3), .ref (x + 5), .ref (x + 7), .null, .null, .null, .int 0, .int 0, .int 0, .ref (x + 9), .int 0, .ref (x + 10), .null, .null, .ref (x + 15), .null, .int 0]) := by rw [← hg7]; exact zget_eq
  have f7 : ∀ q, q ≠ x → W7 q = h7 q := fun q hq => by rw [← hg7]; exact zup_ne hq
  refine z_aload_n dX10_init_93 rfl ?_
  refine z_new dX10_init_94 nwX10_48 rfl (Nat.le_of_ble_eq_true rfl) (Nat.le_of_ble_eq_true rfl) ?_
  refine z_dup dX10_init_97 rfl ?_
  refine zcall1 (zck_IN (na := 0) (R' := rX5_init) (M' := mX5_init) (fun _ _ _ _ => tiX5_init) rfl kX5_init lX10_50 nX10_50 rfl (by decide +kernel) rfl) dX10_init_98 (Nat.le_of_ble_eq_true rfl) (Nat.le_of_ble_eq_true rfl) (Nat.le_of_ble_eq_true rfl) ?_
  refine ⟨_, rfl, zget_eq, (by omega), fun h8 a8 b8 d8 e8 => ?_⟩
  have E8 : ∀ q, ¬ (x + 16 ≤ q ∧ q < x + 19) → h8 q = W7 q := fun q hq => (e8 q (by omega) (by omega) (by omega)).trans (zup_ne (by omega))
  refine z_putfield dX10_init_101 fiX10_51_10 rfl (fun _ => rfl) ((E8 x (by omega)).trans o7) (Nat.le_of_ble_eq_true rfl) (Or.inr (Or.inl ⟨rfl, _, rfl⟩)) ?_
  generalize hg8 : va_up h8 x _ = W8
  have o8 : W8 x = some (zO 10 [.int 0, .int 0, .ref (x + 1), .ref (x + 3), .ref (x + 5), .ref (x + 7), .null, .null, .null, .int 0, .int 0, .int 0, .ref (x + 9), .int 0, .ref (x + 10), .null, .null, .ref (x + 15), .ref (x + 16), .int 0]) := by rw [← hg8]; exact zget_eq
  have f8 : ∀ q, q ≠ x → W8 q = h8 q := fun q hq => by rw [← hg8]; exact zup_ne hq
  refine z_aload_n dX10_init_104 rfl ?_
  refine z_bipush (w := -3) dX10_init_105 (by decide) ?_
  refine z_putfield dX10_init_107 fX10_55_10 rfl (fun q => absurd q (by decide)) o8 (Nat.le_of_ble_eq_true rfl) (Or.inl ⟨rfl, _, rfl⟩) ?_
  refine z_aload_n dX10_init_110 rfl ?_
  refine z_iconst (w := 0) dX10_init_111 (by decide) ?_
  refine z_iconst (w := 4) dX10_init_112 (by decide) ?_
  refine z_iload_n dX10_init_113 rfl ?_
  refine zcall2 (zck_min lX10_59 kJmin rfl) dX10_init_114 (Nat.le_of_ble_eq_true rfl) (Nat.le_of_ble_eq_true rfl) (Nat.le_of_ble_eq_true rfl) ?_
  refine ⟨_, _, rfl, ?_⟩
  refine zcall2 (zck_max lX10_65 kJmax rfl) dX10_init_117 (Nat.le_of_ble_eq_true rfl) (Nat.le_of_ble_eq_true rfl) (Nat.le_of_ble_eq_true rfl) ?_
  refine ⟨_, _, rfl, ?_⟩
  rw [zmm4]
  refine z_putfield dX10_init_120 fiX10_68_10 rfl (fun _ => rfl) zget_eq (Nat.le_of_ble_eq_true rfl) (Or.inl ⟨rfl, _, rfl⟩) ?_
  refine z_aload_n dX10_init_123 rfl ?_
  refine z_bipush (w := 8) dX10_init_124 (by decide) ?_
  refine z_sipush (w := 1500) dX10_init_126 (by decide) ?_
  refine z_iload_n dX10_init_129 rfl ?_
  refine zcall2 (zck_min lX10_59 kJmin rfl) dX10_init_130 (Nat.le_of_ble_eq_true rfl) (Nat.le_of_ble_eq_true rfl) (Nat.le_of_ble_eq_true rfl) ?_
  refine ⟨_, _, rfl, ?_⟩
  refine zcall2 (zck_max lX10_65 kJmax rfl) dX10_init_133 (Nat.le_of_ble_eq_true rfl) (Nat.le_of_ble_eq_true rfl) (Nat.le_of_ble_eq_true rfl) ?_
  refine ⟨_, _, rfl, ?_⟩
  rw [zmm1500]
  refine z_putfield dX10_init_136 fiX10_71_10 rfl (fun _ => rfl) zget_eq (Nat.le_of_ble_eq_true rfl) (Or.inl ⟨rfl, _, rfl⟩) ?_
  generalize hgA : va_up (va_up (va_up W8 x _) x _) x _ = WA
  have oA : WA x = some (zO 10 [.int (nI (zclo p)), .int (nI (zclr q)), .ref (x + 1), .ref (x + 3), .ref (x + 5), .ref (x + 7), .null, .null, .null, .int 0, .int 0, .int 0, .ref (x + 9), .int 0, .ref (x + 10), .null, .null, .ref (x + 15), .ref (x + 16), .int (-3)]) := by rw [← hgA]; exact zget_eq
  have fA : ∀ q, q ≠ x → WA q = W8 q := fun q hq => by rw [← hgA, zup_ne hq, zup_ne hq, zup_ne hq]
  refine z_aload_n dX10_init_139 rfl ?_
  refine z_new dX10_init_140 nwX10_74 rfl (Nat.le_of_ble_eq_true rfl) (Nat.le_of_ble_eq_true rfl) ?_
  refine z_dup dX10_init_143 rfl ?_
  refine z_aload_n dX10_init_144 rfl ?_
  refine z_getfield dX10_init_145 fX10_68_10 rfl (by first | assumption | exact zget_eq | exact (zup_ne (by omega)).trans (by assumption) | exact (zup_ne (by omega)).trans ((zup_ne (by omega)).trans (by assumption))) rfl ?_
  refine z_aload_n dX10_init_148 rfl ?_
  refine z_getfield dX10_init_149 fX10_71_10 rfl (by first | assumption | exact zget_eq | exact (zup_ne (by omega)).trans (by assumption) | exact (zup_ne (by omega)).trans ((zup_ne (by omega)).trans (by assumption))) rfl ?_
  refine zcall3 (zck_I (na := 2) (R' := rX3_init) (M' := mX3_init) (fun _ _ _ _ => tiX3_init) rfl kX3_init lX10_76 rfl (by decide +kernel) rfl) dX10_init_152 (Nat.le_of_ble_eq_true rfl) (Nat.le_of_ble_eq_true rfl) (Nat.le_of_ble_eq_true rfl) ?_
  refine ⟨x + 19, zclo p, zclr q, rfl, zget_eq, rfl, oo4, r8.1, r8.2, fun h9 a9 e9 => ?_⟩
  have E9 : ∀ q, ¬ (x + 19 ≤ q ∧ q < x + 27) → h9 q = WA q := fun q hq => (e9 q (by omega)).trans (zup_ne (by omega))
  refine z_putfield dX10_init_155 fiX10_79_10 rfl (fun _ => rfl) ((E9 x (by omega)).trans oA) (Nat.le_of_ble_eq_true rfl) (Or.inr (Or.inl ⟨rfl, _, rfl⟩)) ?_
  generalize hg9 : va_up h9 x _ = W9
  have o9 : W9 x = some (zO 10 [.int (nI (zclo p)), .int (nI (zclr q)), .ref (x + 1), .ref (x + 3), .ref (x + 5), .ref (x + 7), .ref (x + 19), .null, .null, .int 0, .int 0, .int 0, .ref (x + 9), .int 0, .ref (x + 10), .null, .null, .ref (x + 15), .ref (x + 16), .int (-3)]) := by rw [← hg9]; exact zget_eq
  have f9 : ∀ q, q ≠ x → W9 q = h9 q := fun q hq => by rw [← hg9]; exact zup_ne hq
  refine z_aload_n dX10_init_158 rfl ?_
  refine z_new dX10_init_159 nwX10_74 rfl (Nat.le_of_ble_eq_true rfl) (Nat.le_of_ble_eq_true rfl) ?_
  refine z_dup dX10_init_162 rfl ?_
  refine z_aload_n dX10_init_163 rfl ?_
  refine z_getfield dX10_init_164 fX10_68_10 rfl (by first | assumption | exact zget_eq | exact (zup_ne (by omega)).trans (by assumption) | exact (zup_ne (by omega)).trans ((zup_ne (by omega)).trans (by assumption))) rfl ?_
  refine z_aload_n dX10_init_167 rfl ?_
  refine z_getfield dX10_init_168 fX10_71_10 rfl (by first | assumption | exact zget_eq | exact (zup_ne (by omega)).trans (by assumption) | exact (zup_ne (by omega)).trans ((zup_ne (by omega)).trans (by assumption))) rfl ?_
  refine zcall3 (zck_I (na := 2) (R' := rX3_init) (M' := mX3_init) (fun _ _ _ _ => tiX3_init) rfl kX3_init lX10_76 rfl (by decide +kernel) rfl) dX10_init_171 (Nat.le_of_ble_eq_true rfl) (Nat.le_of_ble_eq_true rfl) (Nat.le_of_ble_eq_true rfl) ?_
  refine ⟨x + 27, zclo p, zclr q, rfl, zget_eq, rfl, oo4, r8.1, r8.2, fun h10 a10 e10 => ?_⟩
  have E10 : ∀ q, ¬ (x + 27 ≤ q ∧ q < x + 35) → h10 q = W9 q := fun q hq => (e10 q (by omega)).trans (zup_ne (by omega))
  refine z_putfield dX10_init_174 fX10_83_10 rfl (fun q => absurd q (by decide)) ((E10 x (by omega)).trans o9) (Nat.le_of_ble_eq_true rfl) (Or.inr (Or.inl ⟨rfl, _, rfl⟩)) ?_
  generalize hg10 : va_up h10 x _ = W10
  have o10 : W10 x = some (zO 10 [.int (nI (zclo p)), .int (nI (zclr q)), .ref (x + 1), .ref (x + 3), .ref (x + 5), .ref (x + 7), .ref (x + 19), .ref (x + 27), .null, .int 0, .int 0, .int 0, .ref (x + 9), .int 0, .ref (x + 10), .null, .null, .ref (x + 15), .ref (x + 16), .int (-3)]) := by rw [← hg10]; exact zget_eq
  have f10 : ∀ q, q ≠ x → W10 q = h10 q := fun q hq => by rw [← hg10]; exact zup_ne hq
  refine z_aload_n dX10_init_177 rfl ?_
  refine z_new dX10_init_178 nwX10_74 rfl (Nat.le_of_ble_eq_true rfl) (Nat.le_of_ble_eq_true rfl) ?_
  refine z_dup dX10_init_181 rfl ?_
  refine z_aload_n dX10_init_182 rfl ?_
  refine z_getfield dX10_init_183 fX10_68_10 rfl (by first | assumption | exact zget_eq | exact (zup_ne (by omega)).trans (by assumption) | exact (zup_ne (by omega)).trans ((zup_ne (by omega)).trans (by assumption))) rfl ?_
  refine z_aload_n dX10_init_186 rfl ?_
  refine z_getfield dX10_init_187 fX10_71_10 rfl (by first | assumption | exact zget_eq | exact (zup_ne (by omega)).trans (by assumption) | exact (zup_ne (by omega)).trans ((zup_ne (by omega)).trans (by assumption))) rfl ?_
  refine zcall3 (zck_I (na := 2) (R' := rX3_init) (M' := mX3_init) (fun _ _ _ _ => tiX3_init) rfl kX3_init lX10_76 rfl (by decide +kernel) rfl) dX10_init_190 (Nat.le_of_ble_eq_true rfl) (Nat.le_of_ble_eq_true rfl) (Nat.le_of_ble_eq_true rfl) ?_
  refine ⟨x + 35, zclo p, zclr q, rfl, zget_eq, rfl, oo4, r8.1, r8.2, fun h11 a11 e11 => ?_⟩
  have E11 : ∀ q, ¬ (x + 35 ≤ q ∧ q < x + 43) → h11 q = W10 q := fun q hq => (e11 q (by omega)).trans (zup_ne (by omega))
  refine z_putfield dX10_init_193 fX10_86_10 rfl (fun q => absurd q (by decide)) ((E11 x (by omega)).trans o10) (Nat.le_of_ble_eq_true rfl) (Or.inr (Or.inl ⟨rfl, _, rfl⟩)) ?_
  generalize hg11 : va_up h11 x _ = W11
  have o11 : W11 x = some (zO 10 [.int (nI (zclo p)), .int (nI (zclr q)), .ref (x + 1), .ref (x + 3), .ref (x + 5), .ref (x + 7), .ref (x + 19), .ref (x + 27), .ref (x + 35), .int 0, .int 0, .int 0, .ref (x + 9), .int 0, .ref (x + 10), .null, .null, .ref (x + 15), .ref (x + 16), .int (-3)]) := by rw [← hg11]; exact zget_eq
  have f11 : ∀ q, q ≠ x → W11 q = h11 q := fun q hq => by rw [← hg11]; exact zup_ne hq
  refine z_aload_n dX10_init_196 rfl ?_
  refine z_new dX10_init_197 nwX10_89 rfl (Nat.le_of_ble_eq_true rfl) (Nat.le_of_ble_eq_true rfl) ?_
  refine z_dup dX10_init_200 rfl ?_
  refine z_aload_n dX10_init_201 rfl ?_
  refine z_getfield dX10_init_202 fX10_18_10 rfl (by first | assumption | exact zget_eq | exact (zup_ne (by omega)).trans (by assumption) | exact (zup_ne (by omega)).trans ((zup_ne (by omega)).trans (by assumption))) rfl ?_
  refine zcall2 (zck_I (na := 1) (R' := rX9_init) (M' := mX9_init) (fun _ _ _ _ => tiX9_init) rfl kX9_init lX10_91 rfl (by decide +kernel) rfl) dX10_init_205 (Nat.le_of_ble_eq_true rfl) (Nat.le_of_ble_eq_true rfl) (Nat.le_of_ble_eq_true rfl) ?_
  refine ⟨_, _, _, _, _, _, _, _, rfl, zget_eq, ?_⟩
  generalize hh12 : va_up (va_up W11 (x + 43) _) (x + 43) _ = h12
  have a12 : h12 (x + 43) = some (zO 9 [.ref (x + 3), .int 0, .int 0, .int 0, .int 0, .int 0]) := by rw [← hh12]; exact zget_eq
  have E12 : ∀ q, ¬ (x + 43 ≤ q ∧ q < x + 44) → h12 q = W11 q := fun q hq => by rw [← hh12, zup_ne (by omega), zup_ne (by omega)]
  refine z_putfield dX10_init_208 fiX10_94_10 rfl (fun _ => rfl) ((E12 x (by omega)).trans o11) (Nat.le_of_ble_eq_true rfl) (Or.inr (Or.inl ⟨rfl, _, rfl⟩)) ?_
  generalize hg12 : va_up h12 x _ = W12
  have o12 : W12 x = some (zO 10 [.int (nI (zclo p)), .int (nI (zclr q)), .ref (x + 1), .ref (x + 3), .ref (x + 5), .ref (x + 7), .ref (x + 19), .ref (x + 27), .ref (x + 35), .int 0, .int 0, .int 0, .ref (x + 9), .int 0, .ref (x + 10), .ref (x + 43), .null, .ref (x + 15), .ref (x + 16), .int (-3)]) := by rw [← hg12]; exact zget_eq
  have f12 : ∀ q, q ≠ x → W12 q = h12 q := fun q hq => by rw [← hg12]; exact zup_ne hq
  refine z_aload_n dX10_init_211 rfl ?_
  refine z_new dX10_init_212 nwX10_98 rfl (Nat.le_of_ble_eq_true rfl) (Nat.le_of_ble_eq_true rfl) ?_
  refine z_dup dX10_init_215 rfl ?_
  refine z_aload_n dX10_init_216 rfl ?_
  refine z_getfield dX10_init_217 fX10_18_10 rfl (by first | assumption | exact zget_eq | exact (zup_ne (by omega)).trans (by assumption) | exact (zup_ne (by omega)).trans ((zup_ne (by omega)).trans (by assumption))) rfl ?_
  refine z_new dX10_init_220 nwX10_9 rfl (Nat.le_of_ble_eq_true rfl) (Nat.le_of_ble_eq_true rfl) ?_
  refine z_dup dX10_init_223 rfl ?_
  refine z_sipush (w := 2484) dX10_init_224 (by decide) ?_
  refine zcall2 (zck_I (na := 1) (R' := rX4_init 2484) (M' := mX4_init) (fun _ _ _ _ => tiX4_init) rfl kX4_init lX10_11 rfl (by decide +kernel) rfl) dX10_init_227 (Nat.le_of_ble_eq_true rfl) (Nat.le_of_ble_eq_true rfl) (Nat.le_of_ble_eq_true rfl) ?_
  refine ⟨_, rfl, zget_eq, (by omega), (by decide), fun g13 ga gb ge => ?_⟩
  refine zcall3 (zck_I (na := 2) (R' := rX6_init) (M' := mX6_init) (fun _ _ _ _ => tiX6_init) rfl kX6_init lX10_100 rfl (by decide +kernel) rfl) dX10_init_230 (Nat.le_of_ble_eq_true rfl) (Nat.le_of_ble_eq_true rfl) (Nat.le_of_ble_eq_true rfl) ?_
  refine ⟨_, _, _, _, _, _, _, _, _, _, _, rfl, (by rw [ge _ (by omega) (by omega), zup_ne (by omega)]; exact zget_eq), fun h13 a13 e13 => ?_⟩
  have b13 : h13 (x + 45) = some (zO 5 [.ref (x + 46), .int 0]) := (e13 _ (by omega)).trans ga
  have d13 : h13 (x + 46) = some (zI G 2484 (fun _ => 0)) := (e13 _ (by omega)).trans gb
  have E13 : ∀ q, ¬ (x + 44 ≤ q ∧ q < x + 47) → h13 q = W12 q := fun q hq => by rw [e13 q (by omega), ge q (by omega) (by omega), zup_ne (by omega), zup_ne (by omega)]
  refine z_putfield dX10_init_233 fiX10_103_10 rfl (fun _ => rfl) ((E13 x (by omega)).trans o12) (Nat.le_of_ble_eq_true rfl) (Or.inr (Or.inl ⟨rfl, _, rfl⟩)) ?_
  generalize hg13 : va_up h13 x _ = W13
  have o13 : W13 x = some (zO 10 [.int (nI (zclo p)), .int (nI (zclr q)), .ref (x + 1), .ref (x + 3), .ref (x + 5), .ref (x + 7), .ref (x + 19), .ref (x + 27), .ref (x + 35), .int 0, .int 0, .int 0, .ref (x + 9), .int 0, .ref (x + 10), .ref (x + 43), .ref (x + 44), .ref (x + 15), .ref (x + 16), .int (-3)]) := by rw [← hg13]; exact zget_eq
  have f13 : ∀ q, q ≠ x → W13 q = h13 q := fun q hq => by rw [← hg13]; exact zup_ne hq
  have T13 : ∀ q, q ≠ x → W13 q = h13 q := f13
  have T12 : ∀ q, q ≠ x → q < x + 44 → W13 q = h12 q := fun q h1 h2 => (T13 q h1).trans ((E13 q (by omega)).trans (f12 q h1))
  have T11 : ∀ q, q ≠ x → q < x + 43 → W13 q = h11 q := fun q h1 h2 => (T12 q h1 (by omega)).trans ((E12 q (by omega)).trans (f11 q h1))
  have T10 : ∀ q, q ≠ x → q < x + 35 → W13 q = h10 q := fun q h1 h2 => (T11 q h1 (by omega)).trans ((E11 q (by omega)).trans (f10 q h1))
  have T9 : ∀ q, q ≠ x → q < x + 27 → W13 q = h9 q := fun q h1 h2 => (T10 q h1 (by omega)).trans ((E10 q (by omega)).trans (f9 q h1))
  have T8 : ∀ q, q ≠ x → q < x + 19 → W13 q = h8 q := fun q h1 h2 => (T9 q h1 (by omega)).trans ((E9 q (by omega)).trans ((fA q h1).trans (f8 q h1)))
  have T7 : ∀ q, q ≠ x → q < x + 16 → W13 q = h7 q := fun q h1 h2 => (T8 q h1 (by omega)).trans ((E8 q (by omega)).trans (f7 q h1))
  have T6 : ∀ q, q ≠ x → q < x + 15 → W13 q = h6 q := fun q h1 h2 => (T7 q h1 (by omega)).trans ((E7 q (by omega)).trans (f6 q h1))
  have T5 : ∀ q, q ≠ x → q < x + 10 → W13 q = h5 q := fun q h1 h2 => (T6 q h1 (by omega)).trans ((E6 q (by omega)).trans (f5 q h1))
  have T4 : ∀ q, q ≠ x → q < x + 9 → W13 q = h4 q := fun q h1 h2 => (T5 q h1 (by omega)).trans ((E5 q (by omega)).trans (f4 q h1))
  have T3 : ∀ q, q ≠ x → q < x + 7 → W13 q = h3 q := fun q h1 h2 => (T4 q h1 (by omega)).trans ((E4 q (by omega)).trans (f3 q h1))
  have T2 : ∀ q, q ≠ x → q < x + 5 → W13 q = h2 q := fun q h1 h2 => (T3 q h1 (by omega)).trans ((E3 q (by omega)).trans (f2 q h1))
  have T1 : ∀ q, q ≠ x → q < x + 3 → W13 q = h1 q := fun q h1 h2 => (T2 q h1 (by omega)).trans ((E2 q (by omega)).trans (f1 q h1))
  refine zZ.toS ?_
  refine z_vreturn dX10_init_236 rfl (Nat.le_of_ble_eq_true rfl) (Nat.le_of_ble_eq_true rfl) ?_
  refine hK W13 (fun b n' tx rx XX F hb hn => ⟨x + 5, x + 7, x + 27, x + 35, 0, 0, fun _ => 0, zM0, o13, Or.inl ⟨rfl, rfl⟩, Or.inl ⟨rfl, rfl⟩, hb, hn, by decide, ⟨(T1 (x + 1) (by omega) (by omega)).trans a1, _, (T1 (x + 2) (by omega) (by omega)).trans b1, fun i hi => absurd hi (Nat.not_lt_zero _)⟩, ⟨(T2 (x + 3) (by omega) (by omega)).trans a2, (T2 (x + 4) (by omega) (by omega)).trans b2⟩, ⟨(T3 (x + 5) (by omega) (by omega)).trans a3, _, (T3 (x + 6) (by omega) (by omega)).trans b3, fun i hi => absurd hi (Nat.not_lt_zero _)⟩, ⟨(T4 (x + 7) (by omega) (by omega)).trans a4, _, (T4 (x + 8) (by omega) (by omega)).trans b4, fun i hi => absurd hi (Nat.not_lt_zero _)⟩, zpM.cg a9 (fun q z1 z2 => T9 q (by omega) (by omega)), zpM.cg a10 (fun q z1 z2 => T10 q (by omega) (by omega)), zpM.cg a11 (fun q z1 z2 => T11 q (by omega) (by omega)), ⟨0, t, 0, fun _ => none, fun _ => 0, fun _ => zM0, (T5 (x + 9) (by omega) (by omega)).trans a5, Nat.le_refl _, by decide, Or.inl ⟨rfl, rfl, rfl⟩, fun i hi => absurd hi (Nat.not_lt_zero _), fun i hi => absurd hi (Nat.not_lt_zero _), fun i j hi => absurd hi (Nat.not_lt_zero _), fun i hi => absurd hi (Nat.not_lt_zero _)⟩, ⟨0, _, _, _, _, _, a6.to (T6 _ (by omega) (by omega)) (T6 _ (by omega) (by omega)), b6.to (T6 _ (by omega) (by omega)) (T6 _ (by omega) (by omega)) (T6 _ (by omega) (by omega)), Nat.le_refl _⟩, ⟨_, _, (T7 (x + 15) (by omega) (by omega)).trans a7⟩, ⟨_, _, 0, 0, 0, (T8 (x + 16) (by omega) (by omega)).trans a8, (T8 (x + 17) (by omega) (by omega)).trans b8, (T8 (x + 18) (by omega) (by omega)).trans d8, fun w => absurd rfl w, fun i hi => absurd hi (Nat.not_lt_zero _)⟩, ⟨_, _, _, _, _, (T12 (x + 43) (by omega) (by omega)).trans a12⟩, ⟨_, _, _, _, _, _, _, _, (T13 _ (by omega)).trans a13, (T13 _ (by omega)).trans b13, (T13 _ (by omega)).trans d13⟩⟩) (fun q hq => ((T13 q (by omega)).trans ((E13 q (by omega)).trans ((f12 q (by omega)).trans ((E12 q (by omega)).trans ((f11 q (by omega)).trans ((E11 q (by omega)).trans ((f10 q (by omega)).trans ((E10 q (by omega)).trans ((f9 q (by omega)).trans ((E9 q (by omega)).trans ((fA q (by omega)).trans ((f8 q (by omega)).trans ((E8 q (by omega)).trans ((f7 q (by omega)).trans ((E7 q (by omega)).trans ((f6 q (by omega)).trans ((E6 q (by omega)).trans ((f5 q (by omega)).trans ((E5 q (by omega)).trans ((f4 q (by omega)).trans ((E4 q (by omega)).trans ((f3 q (by omega)).trans ((E3 q (by omega)).trans ((f2 q (by omega)).trans ((E2 q (by omega)).trans ((f1 q (by omega)).trans (E1 q (by omega)))))))))))))))))))))))))))))

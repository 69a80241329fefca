/-! the constructors of what is nested -/
abbrev rX7_init : Room := ⟨1, 0, 0, 40⟩
def SX7_init (G : zC) : zS := fun as h n K => ∃ (a : Nat), as = [.ref a] ∧ K none h n
set_option maxRecDepth 100000 in
theorem tiX7_init {G : zC} {as : List Value} {h : zH} {n : Nat} {K : zP} (hs : SX7_init G as h n K) : (∃ b r, as = .ref b :: r) ∧ zCt G rX7_init mX7_init as h n K := by
  obtain ⟨a, rfl, hK⟩ := hs
  refine ⟨⟨_, _, rfl⟩, zCt.of (by decide) (Nat.le_of_ble_eq_true rfl) ?_⟩
  refine z_aload_n dX7_init_0 rfl ?_
  refine zcall1 (zck_O lX7_1 kJobj rfl) dX7_init_1 (Nat.le_of_ble_eq_true rfl) (Nat.le_of_ble_eq_true rfl) (Nat.le_of_ble_eq_true rfl) ?_
  refine ⟨⟨_, rfl⟩, ?_⟩
  refine z_vreturn dX7_init_4 rfl (Nat.le_of_ble_eq_true rfl) (Nat.le_of_ble_eq_true rfl) ?_
  exact hK
abbrev rX2_init : Room := ⟨2, 0, 0, 80⟩
def SX2_init (G : zC) : zS := fun as h n K => ∃ (a : Nat), as = [.ref a] ∧ K none h n
set_option maxRecDepth 100000 in
theorem tiX2_init {G : zC} {as : List Value} {h : zH} {n : Nat} {K : zP} (hs : SX2_init G as h n K) : (∃ b r, as = .ref b :: r) ∧ zCt G rX2_init mX2_init as h n K := by
  obtain ⟨a, rfl, hK⟩ := hs
  refine ⟨⟨_, _, rfl⟩, zCt.of (by decide) (Nat.le_of_ble_eq_true rfl) ?_⟩
  refine z_aload_n dX2_init_0 rfl ?_
  refine zcall1 (zck_IN (na := 0) (R' := rX7_init) (M' := mX7_init) (fun _ _ _ _ => tiX7_init) rfl kX7_init lX2_3 nX2_3 rfl (by decide +kernel) rfl) dX2_init_1 (Nat.le_of_ble_eq_true rfl) (Nat.le_of_ble_eq_true rfl) (Nat.le_of_ble_eq_true rfl) ?_
  refine ⟨_, rfl, ?_⟩
  refine z_vreturn dX2_init_4 rfl (Nat.le_of_ble_eq_true rfl) (Nat.le_of_ble_eq_true rfl) ?_
  exact hK
abbrev rX1_init_7 : Room := ⟨2, 0, 0, 80⟩
def SX1_init_7 (G : zC) : zS := fun as h n K => ∃ (a w : Nat) (v0 v1 v2 v3 v4 v5 v6 v7 : Value), as = [.ref a, .ref w] ∧ h a = some (zO 7 [v0, v1, v2, v3, v4, v5, v6, v7]) ∧ K none (va_up h a (some (zO 7 [.ref w, v1, v2, v3, v4, v5, v6, v7]))) n
set_option maxRecDepth 100000 in
theorem tiX1_init_7 {G : zC} {as : List Value} {h : zH} {n : Nat} {K : zP} (hs : SX1_init_7 G as h n K) : (∃ b r, as = .ref b :: r) ∧ zCt G rX1_init_7 mX1_init as h n K := by
  obtain ⟨a, w, v0, v1, v2, v3, v4, v5, v6, v7, rfl, hk, hK⟩ := hs
  refine ⟨⟨_, _, rfl⟩, zCt.of (by decide) (Nat.le_of_ble_eq_true rfl) ?_⟩
  refine z_aload_n dX1_init_0 rfl ?_
  refine zcall1 (zck_IN (na := 0) (R' := rX7_init) (M' := mX7_init) (fun _ _ _ _ => tiX7_init) rfl kX7_init lX1_3 nX1_3 rfl (by decide +kernel) rfl) dX1_init_1 (Nat.le_of_ble_eq_true rfl) (Nat.le_of_ble_eq_true rfl) (Nat.le_of_ble_eq_true rfl) ?_
  refine ⟨_, rfl, ?_⟩
  refine z_aload_n dX1_init_4 rfl ?_
  refine z_aload_n dX1_init_5 rfl ?_
  refine z_putfield dX1_init_6 fiX1_9_7 rfl (fun _ => rfl) (by first | assumption | exact zget_eq | exact zget_ne (by first | assumption | exact Ne.symm (by assumption) | omega) (by first | assumption | exact zget_eq | exact zget_ne (by first | assumption | exact Ne.symm (by assumption) | omega) (by first | assumption | exact zget_eq | exact zget_ne (by first | assumption | exact Ne.symm (by assumption) | omega) (by first | assumption | exact zget_eq)))) (Nat.le_of_ble_eq_true rfl) (Or.inr (Or.inl ⟨rfl, _, rfl⟩)) ?_
  refine z_vreturn dX1_init_9 rfl (Nat.le_of_ble_eq_true rfl) (Nat.le_of_ble_eq_true rfl) ?_
  exact hK
abbrev rX1_init_9 : Room := ⟨2, 0, 0, 80⟩
def SX1_init_9 (G : zC) : zS := fun as h n K => ∃ (a w : Nat) (v0 v1 v2 v3 v4 v5 : Value), as = [.ref a, .ref w] ∧ h a = some (zO 9 [v0, v1, v2, v3, v4, v5]) ∧ K none (va_up h a (some (zO 9 [.ref w, v1, v2, v3, v4, v5]))) n
set_option maxRecDepth 100000 in
theorem tiX1_init_9 {G : zC} {as : List Value} {h : zH} {n : Nat} {K : zP} (hs : SX1_init_9 G as h n K) : (∃ b r, as = .ref b :: r) ∧ zCt G rX1_init_9 mX1_init as h n K := by
  obtain ⟨a, w, v0, v1, v2, v3, v4, v5, rfl, hk, hK⟩ := hs
  refine ⟨⟨_, _, rfl⟩, zCt.of (by decide) (Nat.le_of_ble_eq_true rfl) ?_⟩
  refine z_aload_n dX1_init_0 rfl ?_
  refine zcall1 (zck_IN (na := 0) (R' := rX7_init) (M' := mX7_init) (fun _ _ _ _ => tiX7_init) rfl kX7_init lX1_3 nX1_3 rfl (by decide +kernel) rfl) dX1_init_1 (Nat.le_of_ble_eq_true rfl) (Nat.le_of_ble_eq_true rfl) (Nat.le_of_ble_eq_true rfl) ?_
  refine ⟨_, rfl, ?_⟩
  refine z_aload_n dX1_init_4 rfl ?_
  refine z_aload_n dX1_init_5 rfl ?_
  refine z_putfield dX1_init_6 fiX1_9_9 rfl (fun _ => rfl) (by first | assumption | exact zget_eq | exact zget_ne (by first | assumption | exact Ne.symm (by assumption) | omega) (by first | assumption | exact zget_eq | exact zget_ne (by first | assumption | exact Ne.symm (by assumption) | omega) (by first | assumption | exact zget_eq | exact zget_ne (by first | assumption | exact Ne.symm (by assumption) | omega) (by first | assumption | exact zget_eq)))) (Nat.le_of_ble_eq_true rfl) (Or.inr (Or.inl ⟨rfl, _, rfl⟩)) ?_
  refine z_vreturn dX1_init_9 rfl (Nat.le_of_ble_eq_true rfl) (Nat.le_of_ble_eq_true rfl) ?_
  exact hK
abbrev rX9_init : Room := ⟨3, 0, 0, 120⟩
def SX9_init (G : zC) : zS := fun as h n K => ∃ (a w : Nat) (v0 v1 v2 v3 v4 v5 : Value), as = [.ref a, .ref w] ∧ h a = some (zO 9 [v0, v1, v2, v3, v4, v5]) ∧ K none (va_up h a (some (zO 9 [.ref w, v1, v2, v3, v4, v5]))) n
set_option maxRecDepth 100000 in
theorem tiX9_init {G : zC} {as : List Value} {h : zH} {n : Nat} {K : zP} (hs : SX9_init G as h n K) : (∃ b r, as = .ref b :: r) ∧ zCt G rX9_init mX9_init as h n K := by
  obtain ⟨a, w, v0, v1, v2, v3, v4, v5, rfl, hk, hK⟩ := hs
  refine ⟨⟨_, _, rfl⟩, zCt.of (by decide) (Nat.le_of_ble_eq_true rfl) ?_⟩
  refine z_aload_n dX9_init_0 rfl ?_
  refine z_aload_n dX9_init_1 rfl ?_
  refine zcall2 (zck_I (na := 1) (R' := rX1_init_9) (M' := mX1_init) (fun _ _ _ _ => tiX1_init_9) rfl kX1_init lX9_1 rfl (by decide +kernel) rfl) dX9_init_2 (Nat.le_of_ble_eq_true rfl) (Nat.le_of_ble_eq_true rfl) (Nat.le_of_ble_eq_true rfl) ?_
  refine ⟨_, _, _, _, _, _, _, _, rfl, hk, ?_⟩
  refine z_vreturn dX9_init_5 rfl (Nat.le_of_ble_eq_true rfl) (Nat.le_of_ble_eq_true rfl) ?_
  exact hK
abbrev rX6_init : Room := ⟨3, 0, 0, 120⟩
def SX6_init (G : zC) : zS := fun as h n K => ∃ (a s w : Nat) (v0 v1 v2 v3 v4 v5 v6 v7 : Value), as = [.ref a, .ref s, .ref w] ∧ h a = some (zO 7 [v0, v1, v2, v3, v4, v5, v6, v7]) ∧ ∀ h', h' a = some (zO 7 [.ref w, v1, v2, v3, v4, .ref s, v6, v7]) → (∀ q, q ≠ a → h' q = h q) → K none h' n
set_option maxRecDepth 100000 in
theorem tiX6_init {G : zC} {as : List Value} {h : zH} {n : Nat} {K : zP} (hs : SX6_init G as h n K) : (∃ b r, as = .ref b :: r) ∧ zCt G rX6_init mX6_init as h n K := by
  obtain ⟨a, s, w, v0, v1, v2, v3, v4, v5, v6, v7, rfl, hk, hK⟩ := hs
  refine ⟨⟨_, _, rfl⟩, zCt.of (by decide) (Nat.le_of_ble_eq_true rfl) ?_⟩
  refine z_aload_n dX6_init_0 rfl ?_
  refine z_aload_n dX6_init_1 rfl ?_
  refine zcall2 (zck_I (na := 1) (R' := rX1_init_7) (M' := mX1_init) (fun _ _ _ _ => tiX1_init_7) rfl kX1_init lX6_3 rfl (by decide +kernel) rfl) dX6_init_2 (Nat.le_of_ble_eq_true rfl) (Nat.le_of_ble_eq_true rfl) (Nat.le_of_ble_eq_true rfl) ?_
  refine ⟨_, _, _, _, _, _, _, _, _, _, rfl, hk, ?_⟩
  refine z_aload_n dX6_init_5 rfl ?_
  refine z_aload_n dX6_init_6 rfl ?_
  refine z_putfield dX6_init_7 fiX6_9_7 rfl (fun _ => rfl) (by first | assumption | exact zget_eq | exact zget_ne (by first | assumption | exact Ne.symm (by assumption) | omega) (by first | assumption | exact zget_eq | exact zget_ne (by first | assumption | exact Ne.symm (by assumption) | omega) (by first | assumption | exact zget_eq | exact zget_ne (by first | assumption | exact Ne.symm (by assumption) | omega) (by first | assumption | exact zget_eq)))) (Nat.le_of_ble_eq_true rfl) (Or.inr (Or.inl ⟨rfl, _, rfl⟩)) ?_
  refine z_vreturn dX6_init_10 rfl (Nat.le_of_ble_eq_true rfl) (Nat.le_of_ble_eq_true rfl) ?_
  exact hK _ (by rw [zget_eq]; rfl) (fun q hq => by rw [zup_ne hq, zup_ne hq])
abbrev rX5_init : Room := ⟨1, 2, 602, 40⟩
def SX5_init (G : zC) : zS := fun as h n K => ∃ (a : Nat), as = [.ref a] ∧ h a = some (zO 6 [.null, .null, .int 0, .int 0, .int 0, .int 0]) ∧ a < n ∧ ∀ h', h' a = some (zO 6 [.ref n, .ref (n + 1), .int 0, .int 0, .int 0, .int 0]) → h' n = some (zI G 301 (fun _ => 0)) → h' (n + 1) = some (zI G 301 (fun _ => 0)) → (∀ q, q ≠ a → q ≠ n → q ≠ n + 1 → h' q = h q) → K none h' (n + 2)
set_option maxRecDepth 100000 in
theorem tiX5_init {G : zC} {as : List Value} {h : zH} {n : Nat} {K : zP} (hs : SX5_init G as h n K) : (∃ b r, as = .ref b :: r) ∧ zCt G rX5_init mX5_init as h n K := by
  obtain ⟨a, rfl, hk, han, hK⟩ := hs
  refine ⟨⟨_, _, rfl⟩, zCt.of (by decide) (Nat.le_of_ble_eq_true rfl) ?_⟩
  refine z_aload_n dX5_init_0 rfl ?_
  refine zcall1 (zck_O lX5_3 kJobj rfl) dX5_init_1 (Nat.le_of_ble_eq_true rfl) (Nat.le_of_ble_eq_true rfl) (Nat.le_of_ble_eq_true rfl) ?_
  refine ⟨⟨_, rfl⟩, ?_⟩
  refine z_aload_n dX5_init_4 rfl ?_
  refine z_sipush (w := 301) dX5_init_5 (by decide) ?_
  refine z_newi dX5_init_8 zwI (by decide) (by decide) (Nat.le_of_ble_eq_true rfl) (Nat.le_of_ble_eq_true rfl) ?_
  refine z_putfield dX5_init_10 fiX5_9_6 rfl (fun _ => rfl) (by first | assumption | exact zget_eq | exact zget_ne (by first | assumption | exact Ne.symm (by assumption) | omega) (by first | assumption | exact zget_eq | exact zget_ne (by first | assumption | exact Ne.symm (by assumption) | omega) (by first | assumption | exact zget_eq | exact zget_ne (by first | assumption | exact Ne.symm (by assumption) | omega) (by first | assumption | exact zget_eq)))) (Nat.le_of_ble_eq_true rfl) (Or.inr (Or.inl ⟨rfl, _, rfl⟩)) ?_
  refine z_aload_n dX5_init_13 rfl ?_
  refine z_sipush (w := 301) dX5_init_14 (by decide) ?_
  refine z_newi dX5_init_17 zwI (by decide) (by decide) (Nat.le_of_ble_eq_true rfl) (Nat.le_of_ble_eq_true rfl) ?_
  refine z_putfield dX5_init_19 fiX5_15_6 rfl (fun _ => rfl) (by first | assumption | exact zget_eq | exact zget_ne (by first | assumption | exact Ne.symm (by assumption) | omega) (by first | assumption | exact zget_eq | exact zget_ne (by first | assumption | exact Ne.symm (by assumption) | omega) (by first | assumption | exact zget_eq | exact zget_ne (by first | assumption | exact Ne.symm (by assumption) | omega) (by first | assumption | exact zget_eq)))) (Nat.le_of_ble_eq_true rfl) (Or.inr (Or.inl ⟨rfl, _, rfl⟩)) ?_
  refine z_vreturn dX5_init_22 rfl (Nat.le_of_ble_eq_true rfl) (Nat.le_of_ble_eq_true rfl) ?_
  exact hK _ (by rw [zget_eq]; rfl) (by simp [va_up, show n ≠ a by omega]) (by simp [va_up, show n + 1 ≠ a by omega]) (fun q h1 h2 h3 => by simp [va_up, h1, h2, h3])
abbrev rX8_init : Room := ⟨2, 4, 774, 80⟩
def SX8_init (G : zC) : zS := fun as h n K => ∃ (a : Nat), as = [.ref a] ∧ h a = some (zO 8 [.null, .null, .int 0, .int 0, .int 0, .int 0]) ∧ a < n ∧ ∀ h', zTel G h' a n (n + 3) 0 (fun s => decide (s < 256)) 0 0 0 → zCho G h' n (n + 1) (n + 2) [] → (∀ q, q ≠ a → (q < n ∨ n + 4 ≤ q) → h' q = h q) → K none h' (n + 4)
set_option maxRecDepth 100000 in
theorem tiX8_init {G : zC} {as : List Value} {h : zH} {n : Nat} {K : zP} (hs : SX8_init G as h n K) : (∃ b r, as = .ref b :: r) ∧ zCt G rX8_init mX8_init as h n K := by
  obtain ⟨a, rfl, hk, han, hK⟩ := hs
  refine ⟨⟨_, _, rfl⟩, zCt.of (by decide) (Nat.le_of_ble_eq_true rfl) ?_⟩
  refine z_aload_n dX8_init_0 rfl ?_
  refine zcall1 (zck_O lX8_3 kJobj rfl) dX8_init_1 (Nat.le_of_ble_eq_true rfl) (Nat.le_of_ble_eq_true rfl) (Nat.le_of_ble_eq_true rfl) ?_
  refine ⟨⟨_, rfl⟩, ?_⟩
  refine z_aload_n dX8_init_4 rfl ?_
  refine z_new dX8_init_5 nwX8_9 rfl (Nat.le_of_ble_eq_true rfl) (Nat.le_of_ble_eq_true rfl) ?_
  refine z_dup dX8_init_8 rfl ?_
  refine zcall1 (zck_IN (na := 0) (R' := rX0_init) (M' := mX0_init) (fun _ _ _ _ => tiX0_init) rfl kX0_init lX8_11 nX8_11 rfl (by decide +kernel) rfl) dX8_init_9 (Nat.le_of_ble_eq_true rfl) (Nat.le_of_ble_eq_true rfl) (Nat.le_of_ble_eq_true rfl) ?_
  refine ⟨_, rfl, zget_eq, (by omega), fun h1 c1 o1 => ?_⟩
  have ha1 : h1 a = some (zO 8 [.null, .null, .int 0, .int 0, .int 0, .int 0]) := by rw [o1 a (by omega) (by omega) (by omega), zup_ne (by omega)]; exact hk
  refine z_putfield dX8_init_12 fiX8_12_8 rfl (fun _ => rfl) ha1 (Nat.le_of_ble_eq_true rfl) (Or.inr (Or.inl ⟨rfl, _, rfl⟩)) ?_
  refine z_aload_n dX8_init_15 rfl ?_
  refine z_sipush (w := 256) dX8_init_16 (by decide) ?_
  refine z_newi dX8_init_19 zwI (by decide) (by decide) (Nat.le_of_ble_eq_true rfl) (Nat.le_of_ble_eq_true rfl) ?_
  refine z_putfield dX8_init_21 fiX8_18_8 rfl (fun _ => rfl) (by first | assumption | exact zget_eq | exact zget_ne (by first | assumption | exact Ne.symm (by assumption) | omega) (by first | assumption | exact zget_eq | exact zget_ne (by first | assumption | exact Ne.symm (by assumption) | omega) (by first | assumption | exact zget_eq | exact zget_ne (by first | assumption | exact Ne.symm (by assumption) | omega) (by first | assumption | exact zget_eq)))) (Nat.le_of_ble_eq_true rfl) (Or.inr (Or.inl ⟨rfl, _, rfl⟩)) ?_
  refine z_vreturn dX8_init_24 rfl (Nat.le_of_ble_eq_true rfl) (Nat.le_of_ble_eq_true rfl) ?_
  refine hK _ ⟨by rw [zget_eq]; rfl, by decide, fun s hs => by simp; omega, fun _ => 0, by simp [va_up, show n + 3 ≠ a by omega], fun s hs => ⟨0, Nat.le_refl _, rfl⟩, fun s hs => by simp [hs]; rfl⟩ (c1.to ?_ ?_ ?_) (fun q h1 h2 => ?_)
  · rw [zup_ne (by omega), zup_ne (by omega), zup_ne (by omega)]
  · rw [zup_ne (by omega), zup_ne (by omega), zup_ne (by omega)]
  · rw [zup_ne (by omega), zup_ne (by omega), zup_ne (by omega)]
  · rw [zup_ne h1, zup_ne (by omega), zup_ne h1, o1 q (by omega) (by omega) (by omega), zup_ne (by omega)]
abbrev zmk (k : Nat) : zAm := (k, k + 1, k + 2, k + 3, k + 4, k + 5, k + 6, k + 7)
abbrev zpM (G : zC) (h : zH) (k o rm : Nat) (M : zMs) : Prop := zMod G h (zmk k) o rm M.1 M.2.1 M.2.2.1 M.2.2.2.1 M.2.2.2.2
theorem zmk_aw {k q : Nat} : zaw (zmk k) q ↔ (k ≤ q ∧ q < k + 8) := by
  unfold zaw zmk
  dsimp only
  omega
abbrev rX3_init : Room := ⟨2, 7, 7509, 80⟩
def SX3_init (G : zC) : zS := fun as h n K => ∃ (a o rm : Nat), as = [.ref a, .int (nI o), .int (nI rm)] ∧ h a = some (zO 4 [.int 0, .int 0, .null, .null, .null, .null, .null, .int 0, .null, .int 0, .null]) ∧ n = a + 1 ∧ o ≤ 4 ∧ 8 ≤ rm ∧ rm ≤ 1500 ∧ ∀ h', zpM G h' a o rm zM0 → (∀ q, (q < a ∨ a + 8 ≤ q) → h' q = h q) → K none h' (n + 7)
set_option maxRecDepth 100000 in
theorem tiX3_init {G : zC} {as : List Value} {h : zH} {n : Nat} {K : zP} (hs : SX3_init G as h n K) : (∃ b r, as = .ref b :: r) ∧ zCt G rX3_init mX3_init as h n K := by
  obtain ⟨a, o, rm, rfl, hk, rfl, ho, hr8, hr, hK⟩ := hs
  refine ⟨⟨_, _, rfl⟩, zCt.of (by decide) (Nat.le_of_ble_eq_true rfl) ?_⟩
  refine z_aload_n dX3_init_0 rfl ?_
  refine zcall1 (zck_O lX3_3 kJobj rfl) dX3_init_1 (Nat.le_of_ble_eq_true rfl) (by first | exact Nat.le_of_ble_eq_true rfl | (show 0 + 0 + 0 + 0 + rm + rm + rm + rm + rm + o + (o + 1) + 0 ≤ 7509; omega)) (Nat.le_of_ble_eq_true rfl) ?_
  refine ⟨⟨_, rfl⟩, ?_⟩
  refine z_aload_n dX3_init_4 rfl ?_
  refine z_iconst (w := 0) dX3_init_5 (by decide) ?_
  refine z_iload_n dX3_init_6 rfl ?_
  refine zcall2 (zck_max lX3_9 kJmax rfl) dX3_init_7 (Nat.le_of_ble_eq_true rfl) (by first | exact Nat.le_of_ble_eq_true rfl | (show 0 + 0 + 0 + 0 + rm + rm + rm + rm + rm + o + (o + 1) + 0 ≤ 7509; omega)) (Nat.le_of_ble_eq_true rfl) ?_
  refine ⟨_, _, rfl, ?_⟩
  rw [show (if (0 : Int32) < nI o then nI o else 0) = nI o by split; rfl; (rename_i z; rcases Nat.eq_zero_or_pos o with e | e; (rw [e]; rfl); (exact absurd (nI_lt (a := 0) e (by omega)) z))]
  refine z_putfield dX3_init_10 fiX3_15_4 rfl (fun _ => rfl) (by first | assumption | exact zget_eq | exact zget_ne (by first | assumption | exact Ne.symm (by assumption) | omega) (by first | assumption | exact zget_eq | exact zget_ne (by first | assumption | exact Ne.symm (by assumption) | omega) (by first | assumption | exact zget_eq | exact zget_ne (by first | assumption | exact Ne.symm (by assumption) | omega) (by first | assumption | exact zget_eq)))) (Nat.le_of_ble_eq_true rfl) (Or.inl ⟨rfl, _, rfl⟩) ?_
  refine z_aload_n dX3_init_13 rfl ?_
  refine z_iconst (w := 1) dX3_init_14 (by decide) ?_
  refine z_iload_n dX3_init_15 rfl ?_
  refine zcall2 (zck_max lX3_9 kJmax rfl) dX3_init_16 (Nat.le_of_ble_eq_true rfl) (by first | exact Nat.le_of_ble_eq_true rfl | (show 0 + 0 + 0 + 0 + rm + rm + rm + rm + rm + o + (o + 1) + 0 ≤ 7509; omega)) (Nat.le_of_ble_eq_true rfl) ?_
  refine ⟨_, _, rfl, ?_⟩
  rw [show (if (1 : Int32) < nI rm then nI rm else 1) = nI rm from if_pos (nI_lt (a := 1) (by omega) (by omega))]
  refine z_putfield dX3_init_19 fiX3_21_4 rfl (fun _ => rfl) (by first | assumption | exact zget_eq | exact zget_ne (by first | assumption | exact Ne.symm (by assumption) | omega) (by first | assumption | exact zget_eq | exact zget_ne (by first | assumption | exact Ne.symm (by assumption) | omega) (by first | assumption | exact zget_eq | exact zget_ne (by first | assumption | exact Ne.symm (by assumption) | omega) (by first | assumption | exact zget_eq)))) (Nat.le_of_ble_eq_true rfl) (Or.inl ⟨rfl, _, rfl⟩) ?_
  refine z_aload_n dX3_init_22 rfl ?_
  refine z_aload_n dX3_init_23 rfl ?_
  refine z_getfield dX3_init_24 fX3_21_4 rfl (by first | assumption | exact zget_eq | exact zget_ne (by first | assumption | exact Ne.symm (by assumption) | omega) (by first | assumption | exact zget_eq | exact zget_ne (by first | assumption | exact Ne.symm (by assumption) | omega) (by first | assumption | exact zget_eq | exact zget_ne (by first | assumption | exact Ne.symm (by assumption) | omega) (by first | assumption | exact zget_eq)))) rfl ?_
  refine z_newi dX3_init_27 zwI (nI_pos (by omega)) (by rw [nI_clamp (by omega)]; omega) (Nat.le_of_ble_eq_true rfl) (by rw [nI_clamp (by omega)]; show 0 + rm ≤ 7509; omega) ?_
  rw [nI_clamp (by omega)]
  refine z_putfield dX3_init_29 fiX3_24_4 rfl (fun _ => rfl) (by first | assumption | exact zget_eq | exact zget_ne (by first | assumption | exact Ne.symm (by assumption) | omega) (by first | assumption | exact zget_eq | exact zget_ne (by first | assumption | exact Ne.symm (by assumption) | omega) (by first | assumption | exact zget_eq | exact zget_ne (by first | assumption | exact Ne.symm (by assumption) | omega) (by first | assumption | exact zget_eq)))) (Nat.le_of_ble_eq_true rfl) (Or.inr (Or.inl ⟨rfl, _, rfl⟩)) ?_
  refine z_aload_n dX3_init_32 rfl ?_
  refine z_aload_n dX3_init_33 rfl ?_
  refine z_getfield dX3_init_34 fX3_21_4 rfl (by first | assumption | exact zget_eq | exact zget_ne (by first | assumption | exact Ne.symm (by assumption) | omega) (by first | assumption | exact zget_eq | exact zget_ne (by first | assumption | exact Ne.symm (by assumption) | omega) (by first | assumption | exact zget_eq | exact zget_ne (by first | assumption | exact Ne.symm (by assumption) | omega) (by first | assumption | exact zget_eq)))) rfl ?_
  refine z_newi dX3_init_37 zwI (nI_pos (by omega)) (by rw [nI_clamp (by omega)]; omega) (Nat.le_of_ble_eq_true rfl) (by rw [nI_clamp (by omega)]; show 0 + rm + rm ≤ 7509; omega) ?_
  rw [nI_clamp (by omega)]
  refine z_putfield dX3_init_39 fiX3_28_4 rfl (fun _ => rfl) (by first | assumption | exact zget_eq | exact zget_ne (by first | assumption | exact Ne.symm (by assumption) | omega) (by first | assumption | exact zget_eq | exact zget_ne (by first | assumption | exact Ne.symm (by assumption) | omega) (by first | assumption | exact zget_eq | exact zget_ne (by first | assumption | exact Ne.symm (by assumption) | omega) (by first | assumption | exact zget_eq)))) (Nat.le_of_ble_eq_true rfl) (Or.inr (Or.inl ⟨rfl, _, rfl⟩)) ?_
  refine z_aload_n dX3_init_42 rfl ?_
  refine z_aload_n dX3_init_43 rfl ?_
  refine z_getfield dX3_init_44 fX3_21_4 rfl (by first | assumption | exact zget_eq | exact zget_ne (by first | assumption | exact Ne.symm (by assumption) | omega) (by first | assumption | exact zget_eq | exact zget_ne (by first | assumption | exact Ne.symm (by assumption) | omega) (by first | assumption | exact zget_eq | exact zget_ne (by first | assumption | exact Ne.symm (by assumption) | omega) (by first | assumption | exact zget_eq)))) rfl ?_
  refine z_newi dX3_init_47 zwI (nI_pos (by omega)) (by rw [nI_clamp (by omega)]; omega) (Nat.le_of_ble_eq_true rfl) (by rw [nI_clamp (by omega)]; show 0 + rm + rm + rm ≤ 7509; omega) ?_
  rw [nI_clamp (by omega)]
  refine z_putfield dX3_init_49 fiX3_31_4 rfl (fun _ => rfl) (by first | assumption | exact zget_eq | exact zget_ne (by first | assumption | exact Ne.symm (by assumption) | omega) (by first | assumption | exact zget_eq | exact zget_ne (by first | assumption | exact Ne.symm (by assumption) | omega) (by first | assumption | exact zget_eq | exact zget_ne (by first | assumption | exact Ne.symm (by assumption) | omega) (by first | assumption | exact zget_eq)))) (Nat.le_of_ble_eq_true rfl) (Or.inr (Or.inl ⟨rfl, _, rfl⟩)) ?_
  refine z_aload_n dX3_init_52 rfl ?_
  refine z_aload_n dX3_init_53 rfl ?_
  refine z_getfield dX3_init_54 fX3_21_4 rfl (by first | assumption | exact zget_eq | exact zget_ne (by first | assumption | exact Ne.symm (by assumption) | omega) (by first | assumption | exact zget_eq | exact zget_ne (by first | assumption | exact Ne.symm (by assumption) | omega) (by first | assumption | exact zget_eq | exact zget_ne (by first | assumption | exact Ne.symm (by assumption) | omega) (by first | assumption | exact zget_eq)))) rfl ?_
  refine z_newi dX3_init_57 zwI (nI_pos (by omega)) (by rw [nI_clamp (by omega)]; omega) (Nat.le_of_ble_eq_true rfl) (by rw [nI_clamp (by omega)]; show 0 + rm + rm + rm + rm ≤ 7509; omega) ?_
  rw [nI_clamp (by omega)]
  refine z_putfield dX3_init_59 fiX3_34_4 rfl (fun _ => rfl) (by first | assumption | exact zget_eq | exact zget_ne (by first | assumption | exact Ne.symm (by assumption) | omega) (by first | assumption | exact zget_eq | exact zget_ne (by first | assumption | exact Ne.symm (by assumption) | omega) (by first | assumption | exact zget_eq | exact zget_ne (by first | assumption | exact Ne.symm (by assumption) | omega) (by first | assumption | exact zget_eq)))) (Nat.le_of_ble_eq_true rfl) (Or.inr (Or.inl ⟨rfl, _, rfl⟩)) ?_
  refine z_aload_n dX3_init_62 rfl ?_
  refine z_aload_n dX3_init_63 rfl ?_
  refine z_getfield dX3_init_64 fX3_21_4 rfl (by first | assumption | exact zget_eq | exact zget_ne (by first | assumption | exact Ne.symm (by assumption) | omega) (by first | assumption | exact zget_eq | exact zget_ne (by first | assumption | exact Ne.symm (by assumption) | omega) (by first | assumption | exact zget_eq | exact zget_ne (by first | assumption | exact Ne.symm (by assumption) | omega) (by first | assumption | exact zget_eq)))) rfl ?_
  refine z_newi dX3_init_67 zwI (nI_pos (by omega)) (by rw [nI_clamp (by omega)]; omega) (Nat.le_of_ble_eq_true rfl) (by rw [nI_clamp (by omega)]; show 0 + rm + rm + rm + rm + rm ≤ 7509; omega) ?_
  rw [nI_clamp (by omega)]
  refine z_putfield dX3_init_69 fiX3_37_4 rfl (fun _ => rfl) (by first | assumption | exact zget_eq | exact zget_ne (by first | assumption | exact Ne.symm (by assumption) | omega) (by first | assumption | exact zget_eq | exact zget_ne (by first | assumption | exact Ne.symm (by assumption) | omega) (by first | assumption | exact zget_eq | exact zget_ne (by first | assumption | exact Ne.symm (by assumption) | omega) (by first | assumption | exact zget_eq)))) (Nat.le_of_ble_eq_true rfl) (Or.inr (Or.inl ⟨rfl, _, rfl⟩)) ?_
  refine z_aload_n dX3_init_72 rfl ?_
  refine z_aload_n dX3_init_73 rfl ?_
  refine z_getfield dX3_init_74 fX3_15_4 rfl (by first | assumption | exact zget_eq | exact zget_ne (by first | assumption | exact Ne.symm (by assumption) | omega) (by first | assumption | exact zget_eq | exact zget_ne (by first | assumption | exact Ne.symm (by assumption) | omega) (by first | assumption | exact zget_eq | exact zget_ne (by first | assumption | exact Ne.symm (by assumption) | omega) (by first | assumption | exact zget_eq)))) rfl ?_
  refine z_newi dX3_init_77 zwI (nI_pos (by omega)) (by rw [nI_clamp (by omega)]; omega) (Nat.le_of_ble_eq_true rfl) (by rw [nI_clamp (by omega)]; show 0 + rm + rm + rm + rm + rm + o ≤ 7509; omega) ?_
  rw [nI_clamp (by omega)]
  refine z_putfield dX3_init_79 fiX3_40_4 rfl (fun _ => rfl) (by first | assumption | exact zget_eq | exact zget_ne (by first | assumption | exact Ne.symm (by assumption) | omega) (by first | assumption | exact zget_eq | exact zget_ne (by first | assumption | exact Ne.symm (by assumption) | omega) (by first | assumption | exact zget_eq | exact zget_ne (by first | assumption | exact Ne.symm (by assumption) | omega) (by first | assumption | exact zget_eq)))) (Nat.le_of_ble_eq_true rfl) (Or.inr (Or.inl ⟨rfl, _, rfl⟩)) ?_
  refine z_aload_n dX3_init_82 rfl ?_
  refine z_aload_n dX3_init_83 rfl ?_
  refine z_getfield dX3_init_84 fX3_15_4 rfl (by first | assumption | exact zget_eq | exact zget_ne (by first | assumption | exact Ne.symm (by assumption) | omega) (by first | assumption | exact zget_eq | exact zget_ne (by first | assumption | exact Ne.symm (by assumption) | omega) (by first | assumption | exact zget_eq | exact zget_ne (by first | assumption | exact Ne.symm (by assumption) | omega) (by first | assumption | exact zget_eq)))) rfl ?_
  refine z_iconst (w := 1) dX3_init_87 (by decide) ?_
  refine z_iadd dX3_init_88 ?_
  rw [nI_1]
  refine z_newi dX3_init_89 zwI (nI_pos (by omega)) (by rw [nI_clamp (by omega)]; omega) (Nat.le_of_ble_eq_true rfl) (by rw [nI_clamp (by omega)]; show 0 + rm + rm + rm + rm + rm + o + (o + 1) ≤ 7509; omega) ?_
  rw [nI_clamp (by omega)]
  refine z_putfield dX3_init_91 fiX3_43_4 rfl (fun _ => rfl) (by first | assumption | exact zget_eq | exact zget_ne (by first | assumption | exact Ne.symm (by assumption) | omega) (by first | assumption | exact zget_eq | exact zget_ne (by first | assumption | exact Ne.symm (by assumption) | omega) (by first | assumption | exact zget_eq | exact zget_ne (by first | assumption | exact Ne.symm (by assumption) | omega) (by first | assumption | exact zget_eq)))) (Nat.le_of_ble_eq_true rfl) (Or.inr (Or.inl ⟨rfl, _, rfl⟩)) ?_
  refine z_aload_n dX3_init_94 rfl ?_
  refine zcall1 (zck_V (na := 0) (ci := 4) (R' := rX3_begin) (M' := mX3_begin) (fun _ _ _ _ => tvX3_begin) (by decide) kX3_begin lX3_46 (by decide +kernel) rfl) dX3_init_95 (Nat.le_of_ble_eq_true rfl) (by first | exact Nat.le_of_ble_eq_true rfl | (show 0 + 0 + 0 + 0 + rm + rm + rm + rm + rm + o + (o + 1) + 0 ≤ 7509; omega)) (Nat.le_of_ble_eq_true rfl) ?_
  refine ⟨zmk a, o, rm, 0, 0, (fun _ => 0), (fun _ => 0), (fun _ => 0), (fun _ => 0), (fun _ => 0), (fun _ => 0), (fun _ => 0), rfl, ⟨by rw [zget_eq]; rfl, ?_, ?_, ?_, ?_, ?_, ?_, ?_, ?_, ho, hr8, hr, Nat.zero_le _, Nat.zero_le _⟩, fun h1 c1 o1 => ?_⟩
  · simp [va_up]
  · simp [va_up]
  · simp [va_up]
  · simp [va_up]
  · simp [va_up]
  · simp [va_up]
  · simp [va_up]
  · unfold zdj; dsimp only; omega
  refine z_vreturn dX3_init_98 rfl (Nat.le_of_ble_eq_true rfl) (by first | exact Nat.le_of_ble_eq_true rfl | (show 0 + 0 + 0 + 0 + rm + rm + rm + rm + rm + o + (o + 1) + 0 ≤ 7509; omega)) ?_
  exact hK h1 (c1 _ _ _ _) (fun q hq => by rw [o1 q (fun z => by have := zmk_aw.mp z; omega)]; simp only [va_up, if_neg (show ¬ q = a by omega), if_neg (show ¬ q = a + 1 by omega), if_neg (show ¬ q = a + 1 + 1 by omega), if_neg (show ¬ q = a + 1 + 1 + 1 by omega), if_neg (show ¬ q = a + 1 + 1 + 1 + 1 by omega), if_neg (show ¬ q = a + 1 + 1 + 1 + 1 + 1 by omega), if_neg (show ¬ q = a + 1 + 1 + 1 + 1 + 1 + 1 by omega), if_neg (show ¬ q = a + 1 + 1 + 1 + 1 + 1 + 1 + 1 by omega)])

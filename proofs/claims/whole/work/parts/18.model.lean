/-! Model: a tree of nodes, chained children, the latest bytes, the contexts -/
def zhd : List Nat → Int32
  | [] => -1
  | c :: _ => nI c
def zlink (X : Nat → Int32) : List Nat → Prop
  | [] => True
  | c :: r => X c = zhd r ∧ zlink X r
def zm (f : Nat → Nat) (i : Nat) : Int32 := if i = 0 then -1 else nI (f i)
/-- how many nodes, their parents, bytes, counts -/
abbrev zTree : Type := Nat × (Nat → Nat) × (Nat → Nat) × (Nat → Nat)
/-- the tree is one, and the lists are the children's, by rising bytes -/
def zTok (T : zTree) (ch : Nat → List Nat) : Prop := 1 ≤ T.1 ∧ (∀ p, p < T.1 → (ch p).length < T.1 ∧ (ch p).Pairwise (fun c d => T.2.2.1 c < T.2.2.1 d)) ∧ (∀ p c, p < T.1 → c ∈ ch p → 1 ≤ c ∧ c < T.1 ∧ T.2.1 c = p) ∧ ∀ c, 1 ≤ c → c < T.1 → T.2.1 c < c ∧ c ∈ ch (T.2.1 c) ∧ T.2.2.1 c < 256 ∧ 1 ≤ T.2.2.2 c
def zRaw (T : zTree) (ch : Nat → List Nat) (P B C F X : Nat → Int32) : Prop := (∀ i, i < T.1 → P i = zm T.2.1 i) ∧ (∀ i, i < T.1 → B i = zm T.2.2.1 i) ∧ (∀ i, i < T.1 → C i = if i = 0 then 0 else nI (T.2.2.2 i)) ∧ (∀ i, i < T.1 → F i = zhd (ch i)) ∧ ∀ i, i < T.1 → zlink X (ch i)
abbrev zAm : Type := Nat × Nat × Nat × Nat × Nat × Nat × Nat × Nat
def zaw (m : zAm) (q : Nat) : Prop := q = m.1 ∨ q = m.2.1 ∨ q = m.2.2.1 ∨ q = m.2.2.2.1 ∨ q = m.2.2.2.2.1 ∨ q = m.2.2.2.2.2.1 ∨ q = m.2.2.2.2.2.2.1 ∨ q = m.2.2.2.2.2.2.2
def zdj (p b c f x l t : Nat) : Prop := (p ≠ b ∧ p ≠ c ∧ p ≠ f ∧ p ≠ x ∧ p ≠ l ∧ p ≠ t) ∧ (b ≠ c ∧ b ≠ f ∧ b ≠ x ∧ b ≠ l ∧ b ≠ t) ∧ (c ≠ f ∧ c ≠ x ∧ c ≠ l ∧ c ≠ t) ∧ (f ≠ x ∧ f ≠ l ∧ f ≠ t) ∧ (x ≠ l ∧ x ≠ t) ∧ l ≠ t
/-- a model's cells, as they lie -/
def zMr (G : zC) (h : zH) (m : zAm) (o rm nm lm : Nat) (P B C F X L U : Nat → Int32) : Prop := h m.1 = some (zO 4 [.int (nI o), .int (nI rm), .ref m.2.1, .ref m.2.2.1, .ref m.2.2.2.1, .ref m.2.2.2.2.1, .ref m.2.2.2.2.2.1, .int (nI nm), .ref m.2.2.2.2.2.2.1, .int (nI lm), .ref m.2.2.2.2.2.2.2]) ∧ h m.2.1 = some (zI G rm P) ∧ h m.2.2.1 = some (zI G rm B) ∧ h m.2.2.2.1 = some (zI G rm C) ∧ h m.2.2.2.2.1 = some (zI G rm F) ∧ h m.2.2.2.2.2.1 = some (zI G rm X) ∧ h m.2.2.2.2.2.2.1 = some (zI G o L) ∧ h m.2.2.2.2.2.2.2 = some (zI G (o + 1) U) ∧ zdj m.2.1 m.2.2.1 m.2.2.2.1 m.2.2.2.2.1 m.2.2.2.2.2.1 m.2.2.2.2.2.2.1 m.2.2.2.2.2.2.2 ∧ o ≤ 4 ∧ 8 ≤ rm ∧ rm ≤ 1500 ∧ nm ≤ rm ∧ lm ≤ o
/-- a model, as it is meant -/
def zMod (G : zC) (h : zH) (m : zAm) (o rm : Nat) (T : zTree) (ch : Nat → List Nat) (lm : Nat) (lat ctx : Nat → Nat) : Prop := ∃ P B C F X L U, zMr G h m o rm T.1 lm P B C F X L U ∧ zTok T ch ∧ zRaw T ch P B C F X ∧ (∀ i, i < lm → L i = nI (lat i)) ∧ ∀ k, k ≤ lm → U k = nI (ctx k)
def zfc (byt : Nat → Nat) (b : Nat) : List Nat → Int32
  | [] => -1
  | c :: r => if byt c = b then nI c else zfc byt b r
def zsum (cnt : Nat → Nat) : List Nat → Nat
  | [] => 0
  | c :: r => cnt c + zsum cnt r
theorem zsum_le {cnt : Nat → Nat} {c : Nat} {l : List Nat} (h : c ∈ l) : cnt c ≤ zsum cnt l := by
  induction l with
  | nil => simp at h
  | cons d r ih =>
    rcases List.mem_cons.mp h with rfl | h
    · exact Nat.le_add_right _ _
    · exact Nat.le_trans (ih h) (Nat.le_add_left _ _)
theorem zhd_ne {c : Nat} (h : c < 2147483648) : nI c ≠ -1 := fun q => by
  have h1 := nI_toInt h
  rw [q] at h1
  have : (-1 : Int32).toInt = -1 := by decide
  rw [this] at h1
  omega
theorem zlink_mono {X X' : Nat → Int32} {l : List Nat} (h : zlink X l) (e : ∀ c, c ∈ l → X' c = X c) : zlink X' l := by
  induction l with
  | nil => trivial
  | cons d r ih => exact ⟨(e d List.mem_cons_self).trans h.1, ih h.2 (fun c hc => e c (List.mem_cons_of_mem _ hc))⟩
abbrev rX3_nodeMany : Room := ⟨0, 0, 0, 0⟩
def SX3_nodeMany (G : zC) : zS := fun as h n K => ∃ (a : Nat) (fs : List Value) (x : Int32), as = [.ref a] ∧ h a = some (zO 4 fs) ∧ fs[7]? = some (.int x) ∧ K (some (.int x)) h n
set_option maxRecDepth 100000 in
theorem tvX3_nodeMany {G : zC} {as : List Value} {h : zH} {n : Nat} {K : zP} (hs : SX3_nodeMany G as h n K) : (∃ b fs r, as = .ref b :: r ∧ h b = some (.inr (4, fs))) ∧ zCt G rX3_nodeMany mX3_nodeMany as h n K := by
  obtain ⟨a, fs, x, rfl, hk, hv, hK⟩ := hs
  refine ⟨⟨_, _, _, rfl, hk⟩, zCt.of (by decide) (Nat.le_of_ble_eq_true rfl) ?_⟩
  refine z_aload_n dX3_nodeMany_0 rfl ?_
  refine z_getfield dX3_nodeMany_1 fX3_53_4 rfl hk hv ?_
  exact z_ireturn dX3_nodeMany_4 trivial (Nat.le_of_ble_eq_true rfl) (Nat.le_of_ble_eq_true rfl) hK
abbrev rX3_latestMany : Room := ⟨0, 0, 0, 0⟩
def SX3_latestMany (G : zC) : zS := fun as h n K => ∃ (a : Nat) (fs : List Value) (x : Int32), as = [.ref a] ∧ h a = some (zO 4 fs) ∧ fs[9]? = some (.int x) ∧ K (some (.int x)) h n
set_option maxRecDepth 100000 in
theorem tvX3_latestMany {G : zC} {as : List Value} {h : zH} {n : Nat} {K : zP} (hs : SX3_latestMany G as h n K) : (∃ b fs r, as = .ref b :: r ∧ h b = some (.inr (4, fs))) ∧ zCt G rX3_latestMany mX3_latestMany as h n K := by
  obtain ⟨a, fs, x, rfl, hk, hv, hK⟩ := hs
  refine ⟨⟨_, _, _, rfl, hk⟩, zCt.of (by decide) (Nat.le_of_ble_eq_true rfl) ?_⟩
  refine z_aload_n dX3_latestMany_0 rfl ?_
  refine z_getfield dX3_latestMany_1 fX3_56_4 rfl hk hv ?_
  exact z_ireturn dX3_latestMany_4 trivial (Nat.le_of_ble_eq_true rfl) (Nat.le_of_ble_eq_true rfl) hK
abbrev rX3_parentOf : Room := ⟨1, 0, 0, 40⟩
def SX3_parentOf (G : zC) : zS := fun as h n K => ∃ (a r m : Nat) (fs : List Value) (f : Nat → Int32) (i : Nat), as = [.ref a, .int (nI i)] ∧ h a = some (zO 4 fs) ∧ fs[2]? = some (.ref r) ∧ h r = some (zI G m f) ∧ m < 2147483648 ∧ i < m ∧ K (some (.int (f i))) h n
set_option maxRecDepth 100000 in
theorem tvX3_parentOf {G : zC} {as : List Value} {h : zH} {n : Nat} {K : zP} (hs : SX3_parentOf G as h n K) : (∃ b fs r, as = .ref b :: r ∧ h b = some (.inr (4, fs))) ∧ zCt G rX3_parentOf mX3_parentOf as h n K := by
  obtain ⟨a, r, m, fs, f, i, rfl, hk, hv, hr, hm, hi, hK⟩ := hs
  refine ⟨⟨_, _, _, rfl, hk⟩, zCt.of (by decide) (Nat.le_of_ble_eq_true rfl) ?_⟩
  refine z_aload_n dX3_parentOf_0 rfl ?_
  refine z_getfield dX3_parentOf_1 fX3_24_4 rfl hk hv ?_
  refine z_iload_n dX3_parentOf_4 rfl ?_
  refine zcall2 (zck_SN (R' := rX10_at) (M' := mX10_at) (fun _ _ _ _ => tX10_at) kX10_at lX3_67 nX3_67 (by decide +kernel) rfl) dX3_parentOf_5 (Nat.le_of_ble_eq_true rfl) (Nat.le_of_ble_eq_true rfl) (Nat.le_of_ble_eq_true rfl) ?_
  refine ⟨_, _, _, _, rfl, (by first | assumption | exact zget_eq | exact zget_ne (by first | assumption | exact Ne.symm (by assumption) | omega) (by first | assumption | exact zget_eq | exact zget_ne (by first | assumption | exact Ne.symm (by assumption) | omega) (by first | assumption | exact zget_eq | exact zget_ne (by first | assumption | exact Ne.symm (by assumption) | omega) (by first | assumption | exact zget_eq)))), (by first | assumption | omega), ?_⟩
  refine z_ireturn dX3_parentOf_8 trivial (Nat.le_of_ble_eq_true rfl) (Nat.le_of_ble_eq_true rfl) ?_
  rw [zat_in hi hm]
  exact hK
abbrev rX3_byteOf : Room := ⟨1, 0, 0, 40⟩
def SX3_byteOf (G : zC) : zS := fun as h n K => ∃ (a r m : Nat) (fs : List Value) (f : Nat → Int32) (i : Nat), as = [.ref a, .int (nI i)] ∧ h a = some (zO 4 fs) ∧ fs[3]? = some (.ref r) ∧ h r = some (zI G m f) ∧ m < 2147483648 ∧ i < m ∧ K (some (.int (f i))) h n
set_option maxRecDepth 100000 in
theorem tvX3_byteOf {G : zC} {as : List Value} {h : zH} {n : Nat} {K : zP} (hs : SX3_byteOf G as h n K) : (∃ b fs r, as = .ref b :: r ∧ h b = some (.inr (4, fs))) ∧ zCt G rX3_byteOf mX3_byteOf as h n K := by
  obtain ⟨a, r, m, fs, f, i, rfl, hk, hv, hr, hm, hi, hK⟩ := hs
  refine ⟨⟨_, _, _, rfl, hk⟩, zCt.of (by decide) (Nat.le_of_ble_eq_true rfl) ?_⟩
  refine z_aload_n dX3_byteOf_0 rfl ?_
  refine z_getfield dX3_byteOf_1 fX3_28_4 rfl hk hv ?_
  refine z_iload_n dX3_byteOf_4 rfl ?_
  refine zcall2 (zck_SN (R' := rX10_at) (M' := mX10_at) (fun _ _ _ _ => tX10_at) kX10_at lX3_67 nX3_67 (by decide +kernel) rfl) dX3_byteOf_5 (Nat.le_of_ble_eq_true rfl) (Nat.le_of_ble_eq_true rfl) (Nat.le_of_ble_eq_true rfl) ?_
  refine ⟨_, _, _, _, rfl, (by first | assumption | exact zget_eq | exact zget_ne (by first | assumption | exact Ne.symm (by assumption) | omega) (by first | assumption | exact zget_eq | exact zget_ne (by first | assumption | exact Ne.symm (by assumption) | omega) (by first | assumption | exact zget_eq | exact zget_ne (by first | assumption | exact Ne.symm (by assumption) | omega) (by first | assumption | exact zget_eq)))), (by first | assumption | omega), ?_⟩
  refine z_ireturn dX3_byteOf_8 trivial (Nat.le_of_ble_eq_true rfl) (Nat.le_of_ble_eq_true rfl) ?_
  rw [zat_in hi hm]
  exact hK
abbrev rX3_countOf : Room := ⟨1, 0, 0, 40⟩
def SX3_countOf (G : zC) : zS := fun as h n K => ∃ (a r m : Nat) (fs : List Value) (f : Nat → Int32) (i : Nat), as = [.ref a, .int (nI i)] ∧ h a = some (zO 4 fs) ∧ fs[4]? = some (.ref r) ∧ h r = some (zI G m f) ∧ m < 2147483648 ∧ i < m ∧ K (some (.int (f i))) h n
set_option maxRecDepth 100000 in
theorem tvX3_countOf {G : zC} {as : List Value} {h : zH} {n : Nat} {K : zP} (hs : SX3_countOf G as h n K) : (∃ b fs r, as = .ref b :: r ∧ h b = some (.inr (4, fs))) ∧ zCt G rX3_countOf mX3_countOf as h n K := by
  obtain ⟨a, r, m, fs, f, i, rfl, hk, hv, hr, hm, hi, hK⟩ := hs
  refine ⟨⟨_, _, _, rfl, hk⟩, zCt.of (by decide) (Nat.le_of_ble_eq_true rfl) ?_⟩
  refine z_aload_n dX3_countOf_0 rfl ?_
  refine z_getfield dX3_countOf_1 fX3_31_4 rfl hk hv ?_
  refine z_iload_n dX3_countOf_4 rfl ?_
  refine zcall2 (zck_SN (R' := rX10_at) (M' := mX10_at) (fun _ _ _ _ => tX10_at) kX10_at lX3_67 nX3_67 (by decide +kernel) rfl) dX3_countOf_5 (Nat.le_of_ble_eq_true rfl) (Nat.le_of_ble_eq_true rfl) (Nat.le_of_ble_eq_true rfl) ?_
  refine ⟨_, _, _, _, rfl, (by first | assumption | exact zget_eq | exact zget_ne (by first | assumption | exact Ne.symm (by assumption) | omega) (by first | assumption | exact zget_eq | exact zget_ne (by first | assumption | exact Ne.symm (by assumption) | omega) (by first | assumption | exact zget_eq | exact zget_ne (by first | assumption | exact Ne.symm (by assumption) | omega) (by first | assumption | exact zget_eq)))), (by first | assumption | omega), ?_⟩
  refine z_ireturn dX3_countOf_8 trivial (Nat.le_of_ble_eq_true rfl) (Nat.le_of_ble_eq_true rfl) ?_
  rw [zat_in hi hm]
  exact hK
abbrev rX3_firstChild : Room := ⟨1, 0, 0, 40⟩
def SX3_firstChild (G : zC) : zS := fun as h n K => ∃ (a r m : Nat) (fs : List Value) (f : Nat → Int32) (i : Nat), as = [.ref a, .int (nI i)] ∧ h a = some (zO 4 fs) ∧ fs[5]? = some (.ref r) ∧ h r = some (zI G m f) ∧ m < 2147483648 ∧ i < m ∧ K (some (.int (f i))) h n
set_option maxRecDepth 100000 in
theorem tvX3_firstChild {G : zC} {as : List Value} {h : zH} {n : Nat} {K : zP} (hs : SX3_firstChild G as h n K) : (∃ b fs r, as = .ref b :: r ∧ h b = some (.inr (4, fs))) ∧ zCt G rX3_firstChild mX3_firstChild as h n K := by
  obtain ⟨a, r, m, fs, f, i, rfl, hk, hv, hr, hm, hi, hK⟩ := hs
  refine ⟨⟨_, _, _, rfl, hk⟩, zCt.of (by decide) (Nat.le_of_ble_eq_true rfl) ?_⟩
  refine z_aload_n dX3_firstChild_0 rfl ?_
  refine z_getfield dX3_firstChild_1 fX3_34_4 rfl hk hv ?_
  refine z_iload_n dX3_firstChild_4 rfl ?_
  refine zcall2 (zck_SN (R' := rX10_at) (M' := mX10_at) (fun _ _ _ _ => tX10_at) kX10_at lX3_67 nX3_67 (by decide +kernel) rfl) dX3_firstChild_5 (Nat.le_of_ble_eq_true rfl) (Nat.le_of_ble_eq_true rfl) (Nat.le_of_ble_eq_true rfl) ?_
  refine ⟨_, _, _, _, rfl, (by first | assumption | exact zget_eq | exact zget_ne (by first | assumption | exact Ne.symm (by assumption) | omega) (by first | assumption | exact zget_eq | exact zget_ne (by first | assumption | exact Ne.symm (by assumption) | omega) (by first | assumption | exact zget_eq | exact zget_ne (by first | assumption | exact Ne.symm (by assumption) | omega) (by first | assumption | exact zget_eq)))), (by first | assumption | omega), ?_⟩
  refine z_ireturn dX3_firstChild_8 trivial (Nat.le_of_ble_eq_true rfl) (Nat.le_of_ble_eq_true rfl) ?_
  rw [zat_in hi hm]
  exact hK
abbrev rX3_nextSibling : Room := ⟨1, 0, 0, 40⟩
def SX3_nextSibling (G : zC) : zS := fun as h n K => ∃ (a r m : Nat) (fs : List Value) (f : Nat → Int32) (i : Nat), as = [.ref a, .int (nI i)] ∧ h a = some (zO 4 fs) ∧ fs[6]? = some (.ref r) ∧ h r = some (zI G m f) ∧ m < 2147483648 ∧ i < m ∧ K (some (.int (f i))) h n
set_option maxRecDepth 100000 in
theorem tvX3_nextSibling {G : zC} {as : List Value} {h : zH} {n : Nat} {K : zP} (hs : SX3_nextSibling G as h n K) : (∃ b fs r, as = .ref b :: r ∧ h b = some (.inr (4, fs))) ∧ zCt G rX3_nextSibling mX3_nextSibling as h n K := by
  obtain ⟨a, r, m, fs, f, i, rfl, hk, hv, hr, hm, hi, hK⟩ := hs
  refine ⟨⟨_, _, _, rfl, hk⟩, zCt.of (by decide) (Nat.le_of_ble_eq_true rfl) ?_⟩
  refine z_aload_n dX3_nextSibling_0 rfl ?_
  refine z_getfield dX3_nextSibling_1 fX3_37_4 rfl hk hv ?_
  refine z_iload_n dX3_nextSibling_4 rfl ?_
  refine zcall2 (zck_SN (R' := rX10_at) (M' := mX10_at) (fun _ _ _ _ => tX10_at) kX10_at lX3_67 nX3_67 (by decide +kernel) rfl) dX3_nextSibling_5 (Nat.le_of_ble_eq_true rfl) (Nat.le_of_ble_eq_true rfl) (Nat.le_of_ble_eq_true rfl) ?_
  refine ⟨_, _, _, _, rfl, (by first | assumption | exact zget_eq | exact zget_ne (by first | assumption | exact Ne.symm (by assumption) | omega) (by first | assumption | exact zget_eq | exact zget_ne (by first | assumption | exact Ne.symm (by assumption) | omega) (by first | assumption | exact zget_eq | exact zget_ne (by first | assumption | exact Ne.symm (by assumption) | omega) (by first | assumption | exact zget_eq)))), (by first | assumption | omega), ?_⟩
  refine z_ireturn dX3_nextSibling_8 trivial (Nat.le_of_ble_eq_true rfl) (Nat.le_of_ble_eq_true rfl) ?_
  rw [zat_in hi hm]
  exact hK
abbrev rX3_latestByte : Room := ⟨1, 0, 0, 40⟩
def SX3_latestByte (G : zC) : zS := fun as h n K => ∃ (a r m : Nat) (fs : List Value) (f : Nat → Int32) (i : Nat), as = [.ref a, .int (nI i)] ∧ h a = some (zO 4 fs) ∧ fs[8]? = some (.ref r) ∧ h r = some (zI G m f) ∧ m < 2147483648 ∧ i < m ∧ K (some (.int (f i))) h n
set_option maxRecDepth 100000 in
theorem tvX3_latestByte {G : zC} {as : List Value} {h : zH} {n : Nat} {K : zP} (hs : SX3_latestByte G as h n K) : (∃ b fs r, as = .ref b :: r ∧ h b = some (.inr (4, fs))) ∧ zCt G rX3_latestByte mX3_latestByte as h n K := by
  obtain ⟨a, r, m, fs, f, i, rfl, hk, hv, hr, hm, hi, hK⟩ := hs
  refine ⟨⟨_, _, _, rfl, hk⟩, zCt.of (by decide) (Nat.le_of_ble_eq_true rfl) ?_⟩
  refine z_aload_n dX3_latestByte_0 rfl ?_
  refine z_getfield dX3_latestByte_1 fX3_40_4 rfl hk hv ?_
  refine z_iload_n dX3_latestByte_4 rfl ?_
  refine zcall2 (zck_SN (R' := rX10_at) (M' := mX10_at) (fun _ _ _ _ => tX10_at) kX10_at lX3_67 nX3_67 (by decide +kernel) rfl) dX3_latestByte_5 (Nat.le_of_ble_eq_true rfl) (Nat.le_of_ble_eq_true rfl) (Nat.le_of_ble_eq_true rfl) ?_
  refine ⟨_, _, _, _, rfl, (by first | assumption | exact zget_eq | exact zget_ne (by first | assumption | exact Ne.symm (by assumption) | omega) (by first | assumption | exact zget_eq | exact zget_ne (by first | assumption | exact Ne.symm (by assumption) | omega) (by first | assumption | exact zget_eq | exact zget_ne (by first | assumption | exact Ne.symm (by assumption) | omega) (by first | assumption | exact zget_eq)))), (by first | assumption | omega), ?_⟩
  refine z_ireturn dX3_latestByte_8 trivial (Nat.le_of_ble_eq_true rfl) (Nat.le_of_ble_eq_true rfl) ?_
  rw [zat_in hi hm]
  exact hK
abbrev rX3_context : Room := ⟨1, 0, 0, 40⟩
def SX3_context (G : zC) : zS := fun as h n K => ∃ (a r m : Nat) (fs : List Value) (f : Nat → Int32) (i : Nat), as = [.ref a, .int (nI i)] ∧ h a = some (zO 4 fs) ∧ fs[10]? = some (.ref r) ∧ h r = some (zI G m f) ∧ m < 2147483648 ∧ i < m ∧ K (some (.int (f i))) h n
set_option maxRecDepth 100000 in
theorem tvX3_context {G : zC} {as : List Value} {h : zH} {n : Nat} {K : zP} (hs : SX3_context G as h n K) : (∃ b fs r, as = .ref b :: r ∧ h b = some (.inr (4, fs))) ∧ zCt G rX3_context mX3_context as h n K := by
  obtain ⟨a, r, m, fs, f, i, rfl, hk, hv, hr, hm, hi, hK⟩ := hs
  refine ⟨⟨_, _, _, rfl, hk⟩, zCt.of (by decide) (Nat.le_of_ble_eq_true rfl) ?_⟩
  refine z_aload_n dX3_context_0 rfl ?_
  refine z_getfield dX3_context_1 fX3_43_4 rfl hk hv ?_
  refine z_iload_n dX3_context_4 rfl ?_
  refine zcall2 (zck_SN (R' := rX10_at) (M' := mX10_at) (fun _ _ _ _ => tX10_at) kX10_at lX3_67 nX3_67 (by decide +kernel) rfl) dX3_context_5 (Nat.le_of_ble_eq_true rfl) (Nat.le_of_ble_eq_true rfl) (Nat.le_of_ble_eq_true rfl) ?_
  refine ⟨_, _, _, _, rfl, (by first | assumption | exact zget_eq | exact zget_ne (by first | assumption | exact Ne.symm (by assumption) | omega) (by first | assumption | exact zget_eq | exact zget_ne (by first | assumption | exact Ne.symm (by assumption) | omega) (by first | assumption | exact zget_eq | exact zget_ne (by first | assumption | exact Ne.symm (by assumption) | omega) (by first | assumption | exact zget_eq)))), (by first | assumption | omega), ?_⟩
  refine z_ireturn dX3_context_8 trivial (Nat.le_of_ble_eq_true rfl) (Nat.le_of_ble_eq_true rfl) ?_
  rw [zat_in hi hm]
  exact hK
abbrev rX3_childOf : Room := ⟨2, 0, 0, 80⟩
def SX3_childOf (G : zC) : zS := fun as h n K => ∃ (m : zAm) (o rm : Nat) (T : zTree) (ch : Nat → List Nat) (lm : Nat) (lat ctx : Nat → Nat) (p0 b0 : Nat), as = [.ref m.1, .int (nI p0), .int (nI b0)] ∧ zMod G h m o rm T ch lm lat ctx ∧ p0 < T.1 ∧ b0 < 256 ∧ K (some (.int (zfc T.2.2.1 b0 (ch p0)))) h n
set_option maxRecDepth 100000 in
theorem tvX3_childOf {G : zC} {as : List Value} {h : zH} {n : Nat} {K : zP} (hs : SX3_childOf G as h n K) : (∃ b fs r, as = .ref b :: r ∧ h b = some (.inr (4, fs))) ∧ zCt G rX3_childOf mX3_childOf as h n K := by
  obtain ⟨⟨a, p, b, c, f, x, l, t⟩, o, rm, ⟨nm, par, byt, cnt⟩, ch, lm, lat, ctx, p0, b0, rfl, hM, hp0, hb0, hK⟩ := hs
  obtain ⟨P, B, C, F, X, L, U, ⟨hk, hp, hb, hc, hf, hx, hl, hu, hdj, ho4, hr8, hr15, hnr, hlo⟩, ⟨t1, t2, t3, t4⟩, ⟨w1, w2, w3, w4, w5⟩, hL, hU⟩ := hM
  dsimp only at hk hp hb hc hf hx hl hu hdj hnr t1 t2 t3 t4 w1 w2 w3 w4 w5
  refine ⟨⟨_, _, _, rfl, hk⟩, zCt.of (by decide) (Nat.le_of_ble_eq_true rfl) ?_⟩
  dsimp only at hp0 hK
  have loop : ∀ (r : List Nat) (j : Nat), zlink X r → (∀ c, c ∈ r → c ∈ ch p0) → r.length < j → j ≤ nm → zfc byt b0 r = zfc byt b0 (ch p0) → zZ (zXm G rX3_childOf mX3_childOf [.ref a, .int (nI p0), .int (nI b0)] h n K) 12 [(0, .ref a), (1, .int (nI p0)), (2, .int (nI b0)), (3, .int (nI j)), (4, .int (zhd r))] [] h n 0 0 := by
    intro r
    induction r with
    | nil =>
      intro j hk1 hm1 hj hj2 he
      refine z_iload dX3_childOf_12 rfl ?_
      refine z_iconst (w := -1) dX3_childOf_14 (by decide) ?_
      refine z_icmp_eq (t := 49) dX3_childOf_15 (by decide) (fun q15 => ?_) (fun q15 => ?_)
      · refine z_iconst (w := -1) dX3_childOf_49 (by decide) ?_
        refine z_ireturn dX3_childOf_50 trivial (Nat.le_of_ble_eq_true rfl) (Nat.le_of_ble_eq_true rfl) ?_
        rw [← he] at hK
        exact hK
      · exact absurd rfl q15
    | cons d r ih =>
      intro j hk1 hm1 hj hj2 he
      have hd := t3 p0 d hp0 (hm1 d List.mem_cons_self)
      have hby := (t4 d hd.1 hd.2.1).2.2.1
      simp only [List.length_cons] at hj
      simp only [zhd]
      refine z_iload dX3_childOf_12 rfl ?_
      refine z_iconst (w := -1) dX3_childOf_14 (by decide) ?_
      refine z_icmp_eq (t := 49) dX3_childOf_15 (by decide) (fun q15 => ?_) (fun q15 => ?_)
      · exact absurd q15 (zhd_ne (by omega))
      · refine z_iload_n dX3_childOf_18 rfl ?_
        refine z_if_le (t := 49) dX3_childOf_19 (by decide) (fun q19 => ?_) (fun q19 => ?_)
        · exact absurd q19 (nI_nle (by omega) (by omega))
        · refine z_aload_n dX3_childOf_22 rfl ?_
          refine z_iload dX3_childOf_23 rfl ?_
          refine zcall2 (zck_V (na := 1) (ci := 4) (R' := rX3_byteOf) (M' := mX3_byteOf) (fun _ _ _ _ => tvX3_byteOf) (by decide) kX3_byteOf lX3_98 (by decide +kernel) rfl) dX3_childOf_25 (Nat.le_of_ble_eq_true rfl) (Nat.le_of_ble_eq_true rfl) (Nat.le_of_ble_eq_true rfl) ?_
          refine ⟨_, _, _, _, _, _, rfl, (by first | assumption | exact hk), rfl, (by assumption), (by omega), (by omega), ?_⟩
          rw [w2 d hd.2.1, zm, if_neg (by omega)]
          refine z_iload_n dX3_childOf_28 rfl ?_
          refine z_icmp_ne (t := 35) dX3_childOf_29 (by decide) (fun q29 => ?_) (fun q29 => ?_)
          · rw [nI_eq (by omega) (by omega)] at q29
            refine z_iinc dX3_childOf_35 rfl (Nat.le_of_ble_eq_true rfl) ?_
            rw [show nI j + Int32.ofInt (-1) = nI (j - 1) from sb_m1 (by omega)]
            refine z_aload_n dX3_childOf_38 rfl ?_
            refine z_iload dX3_childOf_39 rfl ?_
            refine zcall2 (zck_V (na := 1) (ci := 4) (R' := rX3_nextSibling) (M' := mX3_nextSibling) (fun _ _ _ _ => tvX3_nextSibling) (by decide) kX3_nextSibling lX3_101 (by decide +kernel) rfl) dX3_childOf_41 (Nat.le_of_ble_eq_true rfl) (Nat.le_of_ble_eq_true rfl) (Nat.le_of_ble_eq_true rfl) ?_
            refine ⟨_, _, _, _, _, _, rfl, (by first | assumption | exact hk), rfl, (by assumption), (by omega), (by omega), ?_⟩
            rw [hk1.1]
            refine z_istore dX3_childOf_44 (Nat.le_of_ble_eq_true rfl) ?_
            refine z_goto (t := 12) dX3_childOf_46 (by decide) ?_
            exact ih (j - 1) hk1.2 (fun c hc => hm1 c (List.mem_cons_of_mem _ hc)) (by omega) (by omega) (by rw [← he]; simp [zfc, q29])
          · rw [nI_eq (by omega) (by omega)] at q29
            have he2 : zfc byt b0 (ch p0) = nI d := by rw [← he]; simp [zfc, q29]
            rw [he2] at hK
            refine z_iload dX3_childOf_32 rfl ?_
            refine z_ireturn dX3_childOf_34 trivial (Nat.le_of_ble_eq_true rfl) (Nat.le_of_ble_eq_true rfl) ?_
            exact hK
  refine z_aload_n dX3_childOf_0 rfl ?_
  refine z_getfield dX3_childOf_1 fX3_53_4 rfl (by first | assumption | exact zget_eq | exact zget_ne (by first | assumption | exact Ne.symm (by assumption) | omega) (by first | assumption | exact zget_eq | exact zget_ne (by first | assumption | exact Ne.symm (by assumption) | omega) (by first | assumption | exact zget_eq | exact zget_ne (by first | assumption | exact Ne.symm (by assumption) | omega) (by first | assumption | exact zget_eq)))) rfl ?_
  refine z_istore_n dX3_childOf_4 (Nat.le_of_ble_eq_true rfl) ?_
  refine z_aload_n dX3_childOf_5 rfl ?_
  refine z_iload_n dX3_childOf_6 rfl ?_
  refine zcall2 (zck_V (na := 1) (ci := 4) (R' := rX3_firstChild) (M' := mX3_firstChild) (fun _ _ _ _ => tvX3_firstChild) (by decide) kX3_firstChild lX3_95 (by decide +kernel) rfl) dX3_childOf_7 (Nat.le_of_ble_eq_true rfl) (Nat.le_of_ble_eq_true rfl) (Nat.le_of_ble_eq_true rfl) ?_
  refine ⟨_, _, _, _, _, _, rfl, (by first | assumption | exact hk), rfl, (by assumption), (by omega), (by omega), ?_⟩
  rw [w4 p0 hp0]
  refine z_istore dX3_childOf_10 (Nat.le_of_ble_eq_true rfl) ?_
  exact loop (ch p0) nm (w5 p0 hp0) (fun c hc => hc) (t2 p0 hp0).1 (Nat.le_refl _) rfl
abbrev rX3_countsTogether : Room := ⟨2, 0, 0, 80⟩
def SX3_countsTogether (G : zC) : zS := fun as h n K => ∃ (m : zAm) (o rm : Nat) (T : zTree) (ch : Nat → List Nat) (lm : Nat) (lat ctx : Nat → Nat) (p0 : Nat), as = [.ref m.1, .int (nI p0)] ∧ zMod G h m o rm T ch lm lat ctx ∧ p0 < T.1 ∧ zsum T.2.2.2 (ch p0) < 1000000 ∧ K (some (.int (nI (zsum T.2.2.2 (ch p0))))) h n
set_option maxRecDepth 100000 in
theorem tvX3_countsTogether {G : zC} {as : List Value} {h : zH} {n : Nat} {K : zP} (hs : SX3_countsTogether G as h n K) : (∃ b fs r, as = .ref b :: r ∧ h b = some (.inr (4, fs))) ∧ zCt G rX3_countsTogether mX3_countsTogether as h n K := by
  obtain ⟨⟨a, p, b, c, f, x, l, t⟩, o, rm, ⟨nm, par, byt, cnt⟩, ch, lm, lat, ctx, p0, rfl, hM, hp0, hs0, hK⟩ := hs
  obtain ⟨P, B, C, F, X, L, U, ⟨hk, hp, hb, hc, hf, hx, hl, hu, hdj, ho4, hr8, hr15, hnr, hlo⟩, ⟨t1, t2, t3, t4⟩, ⟨w1, w2, w3, w4, w5⟩, hL, hU⟩ := hM
  dsimp only at hk hp hb hc hf hx hl hu hdj hnr t1 t2 t3 t4 w1 w2 w3 w4 w5
  refine ⟨⟨_, _, _, rfl, hk⟩, zCt.of (by decide) (Nat.le_of_ble_eq_true rfl) ?_⟩
  dsimp only at hp0 hs0 hK
  have loop : ∀ (r : List Nat) (j s : Nat), zlink X r → (∀ c, c ∈ r → c ∈ ch p0) → r.length < j → j ≤ nm → s + zsum cnt r = zsum cnt (ch p0) → zZ (zXm G rX3_countsTogether mX3_countsTogether [.ref a, .int (nI p0)] h n K) 14 [(0, .ref a), (1, .int (nI p0)), (2, .int (nI s)), (3, .int (nI j)), (4, .int (zhd r))] [] h n 0 0 := by
    intro r
    induction r with
    | nil =>
      intro j s hk1 hm1 hj hj2 he
      refine z_iload dX3_countsTogether_14 rfl ?_
      refine z_iconst (w := -1) dX3_countsTogether_16 (by decide) ?_
      refine z_icmp_eq (t := 47) dX3_countsTogether_17 (by decide) (fun q17 => ?_) (fun q17 => ?_)
      · refine z_iload_n dX3_countsTogether_47 rfl ?_
        refine z_ireturn dX3_countsTogether_48 trivial (Nat.le_of_ble_eq_true rfl) (Nat.le_of_ble_eq_true rfl) ?_
        rw [← he] at hK
        exact hK
      · exact absurd rfl q17
    | cons d r ih =>
      intro j s hk1 hm1 hj hj2 he
      have hd := t3 p0 d hp0 (hm1 d List.mem_cons_self)
      simp only [List.length_cons] at hj
      simp only [zsum] at he
      simp only [zhd]
      refine z_iload dX3_countsTogether_14 rfl ?_
      refine z_iconst (w := -1) dX3_countsTogether_16 (by decide) ?_
      refine z_icmp_eq (t := 47) dX3_countsTogether_17 (by decide) (fun q17 => ?_) (fun q17 => ?_)
      · exact absurd q17 (zhd_ne (by omega))
      · refine z_iload_n dX3_countsTogether_20 rfl ?_
        refine z_if_le (t := 47) dX3_countsTogether_21 (by decide) (fun q21 => ?_) (fun q21 => ?_)
        · exact absurd q21 (nI_nle (by omega) (by omega))
        · refine z_iload_n dX3_countsTogether_24 rfl ?_
          refine z_aload_n dX3_countsTogether_25 rfl ?_
          refine z_iload dX3_countsTogether_26 rfl ?_
          refine zcall2 (zck_V (na := 1) (ci := 4) (R' := rX3_countOf) (M' := mX3_countOf) (fun _ _ _ _ => tvX3_countOf) (by decide) kX3_countOf lX3_81 (by decide +kernel) rfl) dX3_countsTogether_28 (Nat.le_of_ble_eq_true rfl) (Nat.le_of_ble_eq_true rfl) (Nat.le_of_ble_eq_true rfl) ?_
          refine ⟨_, _, _, _, _, _, rfl, (by first | assumption | exact hk), rfl, (by assumption), (by omega), (by omega), ?_⟩
          rw [w3 d hd.2.1, if_neg (by omega)]
          refine z_iadd dX3_countsTogether_31 ?_
          rw [nI_add]
          refine z_istore_n dX3_countsTogether_32 (Nat.le_of_ble_eq_true rfl) ?_
          refine z_iinc dX3_countsTogether_33 rfl (Nat.le_of_ble_eq_true rfl) ?_
          rw [show nI j + Int32.ofInt (-1) = nI (j - 1) from sb_m1 (by omega)]
          refine z_aload_n dX3_countsTogether_36 rfl ?_
          refine z_iload dX3_countsTogether_37 rfl ?_
          refine zcall2 (zck_V (na := 1) (ci := 4) (R' := rX3_nextSibling) (M' := mX3_nextSibling) (fun _ _ _ _ => tvX3_nextSibling) (by decide) kX3_nextSibling lX3_101 (by decide +kernel) rfl) dX3_countsTogether_39 (Nat.le_of_ble_eq_true rfl) (Nat.le_of_ble_eq_true rfl) (Nat.le_of_ble_eq_true rfl) ?_
          refine ⟨_, _, _, _, _, _, rfl, (by first | assumption | exact hk), rfl, (by assumption), (by omega), (by omega), ?_⟩
          rw [hk1.1]
          refine z_istore dX3_countsTogether_42 (Nat.le_of_ble_eq_true rfl) ?_
          refine z_goto (t := 14) dX3_countsTogether_44 (by decide) ?_
          exact ih (j - 1) (s + cnt d) hk1.2 (fun c hc => hm1 c (List.mem_cons_of_mem _ hc)) (by omega) (by omega) (by omega)
  refine z_iconst (w := 0) dX3_countsTogether_0 (by decide) ?_
  refine z_istore_n dX3_countsTogether_1 (Nat.le_of_ble_eq_true rfl) ?_
  refine z_aload_n dX3_countsTogether_2 rfl ?_
  refine z_getfield dX3_countsTogether_3 fX3_53_4 rfl (by first | assumption | exact zget_eq | exact zget_ne (by first | assumption | exact Ne.symm (by assumption) | omega) (by first | assumption | exact zget_eq | exact zget_ne (by first | assumption | exact Ne.symm (by assumption) | omega) (by first | assumption | exact zget_eq | exact zget_ne (by first | assumption | exact Ne.symm (by assumption) | omega) (by first | assumption | exact zget_eq)))) rfl ?_
  refine z_istore_n dX3_countsTogether_6 (Nat.le_of_ble_eq_true rfl) ?_
  refine z_aload_n dX3_countsTogether_7 rfl ?_
  refine z_iload_n dX3_countsTogether_8 rfl ?_
  refine zcall2 (zck_V (na := 1) (ci := 4) (R' := rX3_firstChild) (M' := mX3_firstChild) (fun _ _ _ _ => tvX3_firstChild) (by decide) kX3_firstChild lX3_95 (by decide +kernel) rfl) dX3_countsTogether_9 (Nat.le_of_ble_eq_true rfl) (Nat.le_of_ble_eq_true rfl) (Nat.le_of_ble_eq_true rfl) ?_
  refine ⟨_, _, _, _, _, _, rfl, (by first | assumption | exact hk), rfl, (by assumption), (by omega), (by omega), ?_⟩
  rw [w4 p0 hp0]
  refine z_istore dX3_countsTogether_12 (Nat.le_of_ble_eq_true rfl) ?_
  exact loop (ch p0) nm 0 (w5 p0 hp0) (fun c hc => hc) (t2 p0 hp0).1 (Nat.le_refl _) (Nat.zero_add _)

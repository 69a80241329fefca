/-! the reference: its constructor -/
def zRp (G : zC) (h0 : zH) (m k : Nat) (fs : List Value) : zH := fun q => if q = m then some (zO 11 fs) else if m < q ∧ q ≤ m + k then some (.inl (if q - m = 11 then G.2.2.2.1 else G.2.2.1, zrl (q - m), .inl (fun _ => 0))) else h0 q
def zfk (m k : Nat) (p : Int32) : List Value := [.int 0, .int 0, .int 0, .int 0, (if 1 ≤ k then .ref (m + 1) else .null), .int 0, (if 2 ≤ k then .ref (m + 2) else .null), .int 0, (if 3 ≤ k then .ref (m + 3) else .null), (if 4 ≤ k then .ref (m + 4) else .null), (if 5 ≤ k then .ref (m + 5) else .null), (if 6 ≤ k then .ref (m + 6) else .null), (if 7 ≤ k then .ref (m + 7) else .null), (if 8 ≤ k then .ref (m + 8) else .null), (if 9 ≤ k then .ref (m + 9) else .null), (if 10 ≤ k then .ref (m + 10) else .null), .int 0, (if 11 ≤ k then .ref (m + 11) else .null), .int 0, (if 12 ≤ k then .ref (m + 12) else .null), .int 0, .int 0, .int 0, .int 0, .int 0, .int 0, .int 0, .int 0, .int 0, .int 0, (if 13 ≤ k then .ref (m + 13) else .null), .int 0, .int 0, (if 14 ≤ k then .ref (m + 14) else .null), (if 15 ≤ k then .ref (m + 15) else .null), .int 0, (if 16 ≤ k then .ref (m + 16) else .null), .int 0, (if 17 ≤ k then .ref (m + 17) else .null), (if 18 ≤ k then .ref (m + 18) else .null), .int 0, .int 0, .int p, .int 0, (if 19 ≤ k then .ref (m + 19) else .null), .int 0]
theorem zRp_o {G : zC} {h0 : zH} {m k : Nat} {fs : List Value} : zRp G h0 m k fs m = some (zO 11 fs) := by simp [zRp]
theorem zRp_0 {G : zC} {h0 : zH} {m : Nat} {fs : List Value} (h : h0 m = some (zO 11 fs)) : h0 = zRp G h0 m 0 fs := by
  funext q
  unfold zRp
  by_cases e : q = m
  · rw [if_pos e, e, h]
  · rw [if_neg e, if_neg (by omega)]
theorem zRp_put {G : zC} {h0 : zH} {m k : Nat} {fs fs' : List Value} : va_up (zRp G h0 m k fs) m (some (.inr (11, fs'))) = zRp G h0 m k fs' := by
  funext q
  by_cases h : q = m
  · subst h; simp [va_up, zRp]
  · simp [va_up, zRp, h]
theorem zRp_new {G : zC} {h0 : zH} {m k ad len ty : Nat} {fs : List Value} (ha : ad = m + (k + 1)) (hl : len = zrl (k + 1)) (ht : ty = if k + 1 = 11 then G.2.2.2.1 else G.2.2.1) : va_up (zRp G h0 m k fs) ad (some (.inl (ty, len, .inl (fun _ => 0)))) = zRp G h0 m (k + 1) fs := by
  subst ha hl ht
  funext q
  by_cases h : q = m + (k + 1)
  · subst h
    rw [va_up_self]
    unfold zRp
    rw [if_neg (show ¬ m + (k + 1) = m by omega), if_pos (show m < m + (k + 1) ∧ m + (k + 1) ≤ m + (k + 1) by omega), Nat.add_sub_cancel_left]
  · rw [va_up_ne _ _ h]
    unfold zRp
    by_cases e : q = m
    · rw [if_pos e, if_pos e]
    · rw [if_neg e, if_neg e]
      by_cases e2 : m < q ∧ q ≤ m + k
      · rw [if_pos e2, if_pos (show m < q ∧ q ≤ m + (k + 1) by omega)]
      · rw [if_neg e2, if_neg (show ¬ (m < q ∧ q ≤ m + (k + 1)) by omega)]
theorem zZ.hs {X : zX} {pc : Nat} {lv : List (Nat × Value)} {st : List Value} {w w' : zH} {n c s s' c' : Nat} (h : w = w') (hs : s = s') (hc : c = c') (k : zZ X pc lv st w' n c' s') : zZ X pc lv st w n c s := by rw [h, hs, hc]; exact k
theorem zZ.hw {X : zX} {pc : Nat} {lv : List (Nat × Value)} {st : List Value} {w w' : zH} {n c s : Nat} (h : w = w') (k : zZ X pc lv st w' n c s) : zZ X pc lv st w n c s := by rw [h]; exact k
def zclo (x : Int32) : Nat := if x < 0 then 0 else if 4 < x then 4 else zt x
def zclr (y : Int32) : Nat := if y < 8 then 8 else if 1500 < y then 1500 else zt y
theorem zclo_ok (x : Int32) : zclo x ≤ 4 := by
  unfold zclo
  split
  · omega
  · split
    · omega
    · rename_i h1 h2
      rw [Int32.lt_iff_toInt_lt] at h1 h2
      have : (4 : Int32).toInt = 4 := rfl
      unfold zt; omega
theorem zclr_ok (y : Int32) : 8 ≤ zclr y ∧ zclr y ≤ 1500 := by
  unfold zclr
  split
  · omega
  · split
    · omega
    · rename_i h1 h2
      rw [Int32.lt_iff_toInt_lt] at h1 h2
      have : (1500 : Int32).toInt = 1500 := rfl
      have : (8 : Int32).toInt = 8 := rfl
      unfold zt; omega
theorem znt {x : Int32} (h : ¬ x < 0) : nI (zt x) = x := by
  rw [Int32.lt_iff_toInt_lt] at h
  have h0 : (0 : Int32).toInt = 0 := rfl
  have := Int32.toInt_lt x
  apply Int32.toInt_inj.mp
  rw [nI_toInt (by unfold zt; omega)]
  unfold zt; omega
abbrev zv0 (x y : Int32) : Nat → Int32 := upd (upd (upd (fun _ => 0) 42 (-3)) 1 x) 2 y
theorem zRp_h {G : zC} {h0 : zH} {m : Nat} {fs : List Value} {v : Nat → Int32} (h : fs = zfs v m) : zRp G h0 m 19 fs = zRh G h0 m v (fun _ _ => 0) := by rw [h]; rfl
theorem zRh_p {G : zC} {h0 : zH} {m : Nat} {fs : List Value} {v : Nat → Int32} {g : Nat → Nat → Int32} : zRh G (zRp G h0 m 0 fs) m v g = zRh G h0 m v g := by
  funext q
  unfold zRh zRp
  by_cases e : q = m
  · rw [if_pos e, if_pos e]
  · rw [if_neg e, if_neg e, if_neg e, if_neg (by omega : ¬ (m < q ∧ q ≤ m + 0))]
abbrev rX11_init : Room := ⟨1, 19, 46164, 40⟩
def SX11_init (G : zC) : zS := fun as h n K => ∃ (m : Nat) (x y : Int32), as = [.ref m, .int x, .int y] ∧ h m = some (zO 11 [.int 0, .int 0, .int 0, .int 0, .null, .int 0, .null, .int 0, .null, .null, .null, .null, .null, .null, .null, .null, .int 0, .null, .int 0, .null, .int 0, .int 0, .int 0, .int 0, .int 0, .int 0, .int 0, .int 0, .int 0, .int 0, .null, .int 0, .int 0, .null, .null, .int 0, .null, .int 0, .null, .null, .int 0, .int 0, .int 0, .int 0, .null, .int 0]) ∧ n = m + 1 ∧ ∀ (v : Nat → Int32) (g : Nat → Nat → Int32), (∀ tx gg rx XX F, zRS v g (zclo x) (zclr y) (fun _ => 0) tx gg rx (fun _ => zM0) (va_up (fun _ => 0) 2 (-3)) XX F) → K none (zRh G h m v g) (n + 19)
set_option maxRecDepth 100000 in
theorem tiX11_init {G : zC} {as : List Value} {h : zH} {n : Nat} {K : zP} (hs : SX11_init G as h n K) : (∃ b r, as = .ref b :: r) ∧ zCt G rX11_init mX11_init as h n K := by
  obtain ⟨m, x, y, rfl, hm, rfl, hK⟩ := hs
  refine ⟨⟨_, _, rfl⟩, zCt.of (by decide) (Nat.le_of_ble_eq_true rfl) ?_⟩
  obtain ⟨h0, rfl⟩ : ∃ h0, h = zRp G h0 m 0 (zfk m 0 0) := ⟨h, zRp_0 hm⟩
  have tail : ∀ (c s : Nat) (w1 w2 : Int32), c ≤ 19 → s ≤ 46164 → w1 = nI (zclo x) → w2 = nI (zclr y) → zZ (zXm G rX11_init mX11_init [.ref m, .int x, .int y] (zRp G h0 m 0 (zfk m 0 0)) (m + 1) K) 225 [(0, .ref m), (1, .int x), (2, .int y)] [] (zRh G h0 m (zv0 w1 w2) (fun _ _ => 0)) (m + 20) c s := by
    intro c s w1 w2 hc hs h1 h2
    refine z_aload_n dX11_init_225 rfl ?_
    refine z_iconst (w := 0) dX11_init_226 (by decide) ?_
    refine zcall2 (zck_V (na := 1) (ci := 11) (R' := rX11_begin) (M' := mX11_begin) (fun _ _ _ _ => tvX11_begin) (by decide) kX11_begin lX11_78 (by decide +kernel) rfl) dX11_init_227 hc hs (Nat.le_of_ble_eq_true rfl) ?_
    refine ⟨h0, m, _, (fun _ _ => 0), 0, rfl, rfl, (by decide), fun g1 hg1 hMg1 => ?_⟩
    refine z_aload_n dX11_init_230 rfl ?_
    refine z_iconst (w := 1) dX11_init_231 (by decide) ?_
    refine zcall2 (zck_V (na := 1) (ci := 11) (R' := rX11_begin) (M' := mX11_begin) (fun _ _ _ _ => tvX11_begin) (by decide) kX11_begin lX11_78 (by decide +kernel) rfl) dX11_init_232 hc hs (Nat.le_of_ble_eq_true rfl) ?_
    refine ⟨h0, m, _, g1, 1, rfl, rfl, (by decide), fun g2 hg2 hMg2 => ?_⟩
    refine z_vreturn dX11_init_235 rfl hc hs ?_
    refine (congrArg (fun w => K none w (m + 1 + 19)) (zRh_p (fs := zfk m 0 0))).mp (hK _ g2 (fun tx gg rx XX F => ⟨h1, h2, rfl, rfl, rfl, rfl, rfl, rfl, rfl, fun i hi => absurd hi (Nat.not_lt_zero _), fun i hi => absurd hi (Nat.not_lt_zero _), fun i hi => absurd hi (Nat.not_lt_zero _), by rw [hg2.1 10 (by decide), hg1.1 10 (by decide)]; rfl, by rw [hg2.1 10 (by decide), hg1.1 10 (by decide)]; rfl, fun h => absurd rfl h, fun i hi => absurd hi (Nat.not_lt_zero _), fun s hs => ?_⟩))
    have hs : s = 0 ∨ s = 1 ∨ (3 ≤ s ∧ s < 3 + 0) := hs
    rcases hs with rfl | rfl | hs
    · exact (hMg1 _ _ _ _).other hg2 (by decide)
    · exact hMg2 _ _ _ _
    · omega
  refine z_aload_n dX11_init_0 rfl ?_
  refine zcall1 (zck_O lX11_1 kJobj rfl) dX11_init_1 (Nat.le_of_ble_eq_true rfl) (Nat.le_of_ble_eq_true rfl) (Nat.le_of_ble_eq_true rfl) ?_
  refine ⟨⟨_, rfl⟩, ?_⟩
  refine z_aload_n dX11_init_4 rfl ?_
  refine z_sipush (w := 300) dX11_init_5 (by decide) ?_
  refine z_newi dX11_init_8 zwI (by decide) (by decide) (Nat.le_of_ble_eq_true rfl) (Nat.le_of_ble_eq_true rfl) ?_
  refine zZ.hs (s' := 300) (c' := 1) (zRp_new (k := 0) rfl (by decide) rfl) (by decide) rfl ?_
  refine z_putfield dX11_init_10 fiX11_7_11 rfl (fun _ => rfl) zRp_o (Nat.le_of_ble_eq_true rfl) (Or.inr (Or.inl ⟨rfl, _, rfl⟩)) ?_
  refine zZ.hw (zRp_put (fs' := zfk m 1 0)) ?_
  refine z_aload_n dX11_init_13 rfl ?_
  refine z_sipush (w := 6000) dX11_init_14 (by decide) ?_
  refine z_newi dX11_init_17 zwI (by decide) (by decide) (Nat.le_of_ble_eq_true rfl) (Nat.le_of_ble_eq_true rfl) ?_
  refine zZ.hs (s' := 6300) (c' := 2) (zRp_new (k := 1) rfl (by decide) rfl) (by decide) rfl ?_
  refine z_putfield dX11_init_19 fiX11_13_11 rfl (fun _ => rfl) zRp_o (Nat.le_of_ble_eq_true rfl) (Or.inr (Or.inl ⟨rfl, _, rfl⟩)) ?_
  refine zZ.hw (zRp_put (fs' := zfk m 2 0)) ?_
  refine z_aload_n dX11_init_22 rfl ?_
  refine z_sipush (w := 300) dX11_init_23 (by decide) ?_
  refine z_newi dX11_init_26 zwI (by decide) (by decide) (Nat.le_of_ble_eq_true rfl) (Nat.le_of_ble_eq_true rfl) ?_
  refine zZ.hs (s' := 6600) (c' := 3) (zRp_new (k := 2) rfl (by decide) rfl) (by decide) rfl ?_
  refine z_putfield dX11_init_28 fiX11_16_11 rfl (fun _ => rfl) zRp_o (Nat.le_of_ble_eq_true rfl) (Or.inr (Or.inl ⟨rfl, _, rfl⟩)) ?_
  refine zZ.hw (zRp_put (fs' := zfk m 3 0)) ?_
  refine z_aload_n dX11_init_31 rfl ?_
  refine z_bipush (w := 7) dX11_init_32 (by decide) ?_
  refine z_newi dX11_init_34 zwI (by decide) (by decide) (Nat.le_of_ble_eq_true rfl) (Nat.le_of_ble_eq_true rfl) ?_
  refine zZ.hs (s' := 6607) (c' := 4) (zRp_new (k := 3) rfl (by decide) rfl) (by decide) rfl ?_
  refine z_putfield dX11_init_36 fiX11_19_11 rfl (fun _ => rfl) zRp_o (Nat.le_of_ble_eq_true rfl) (Or.inr (Or.inl ⟨rfl, _, rfl⟩)) ?_
  refine zZ.hw (zRp_put (fs' := zfk m 4 0)) ?_
  refine z_aload_n dX11_init_39 rfl ?_
  refine z_sipush (w := 10500) dX11_init_40 (by decide) ?_
  refine z_newi dX11_init_43 zwI (by decide) (by decide) (Nat.le_of_ble_eq_true rfl) (Nat.le_of_ble_eq_true rfl) ?_
  refine zZ.hs (s' := 17107) (c' := 5) (zRp_new (k := 4) rfl (by decide) rfl) (by decide) rfl ?_
  refine z_putfield dX11_init_45 fiX11_22_11 rfl (fun _ => rfl) zRp_o (Nat.le_of_ble_eq_true rfl) (Or.inr (Or.inl ⟨rfl, _, rfl⟩)) ?_
  refine zZ.hw (zRp_put (fs' := zfk m 5 0)) ?_
  refine z_aload_n dX11_init_48 rfl ?_
  refine z_sipush (w := 10500) dX11_init_49 (by decide) ?_
  refine z_newi dX11_init_52 zwI (by decide) (by decide) (Nat.le_of_ble_eq_true rfl) (Nat.le_of_ble_eq_true rfl) ?_
  refine zZ.hs (s' := 27607) (c' := 6) (zRp_new (k := 5) rfl (by decide) rfl) (by decide) rfl ?_
  refine z_putfield dX11_init_54 fiX11_25_11 rfl (fun _ => rfl) zRp_o (Nat.le_of_ble_eq_true rfl) (Or.inr (Or.inl ⟨rfl, _, rfl⟩)) ?_
  refine zZ.hw (zRp_put (fs' := zfk m 6 0)) ?_
  refine z_aload_n dX11_init_57 rfl ?_
  refine z_sipush (w := 10500) dX11_init_58 (by decide) ?_
  refine z_newi dX11_init_61 zwI (by decide) (by decide) (Nat.le_of_ble_eq_true rfl) (Nat.le_of_ble_eq_true rfl) ?_
  refine zZ.hs (s' := 38107) (c' := 7) (zRp_new (k := 6) rfl (by decide) rfl) (by decide) rfl ?_
  refine z_putfield dX11_init_63 fiX11_28_11 rfl (fun _ => rfl) zRp_o (Nat.le_of_ble_eq_true rfl) (Or.inr (Or.inl ⟨rfl, _, rfl⟩)) ?_
  refine zZ.hw (zRp_put (fs' := zfk m 7 0)) ?_
  refine z_aload_n dX11_init_66 rfl ?_
  refine z_bipush (w := 7) dX11_init_67 (by decide) ?_
  refine z_newi dX11_init_69 zwI (by decide) (by decide) (Nat.le_of_ble_eq_true rfl) (Nat.le_of_ble_eq_true rfl) ?_
  refine zZ.hs (s' := 38114) (c' := 8) (zRp_new (k := 7) rfl (by decide) rfl) (by decide) rfl ?_
  refine z_putfield dX11_init_71 fiX11_31_11 rfl (fun _ => rfl) zRp_o (Nat.le_of_ble_eq_true rfl) (Or.inr (Or.inl ⟨rfl, _, rfl⟩)) ?_
  refine zZ.hw (zRp_put (fs' := zfk m 8 0)) ?_
  refine z_aload_n dX11_init_74 rfl ?_
  refine z_bipush (w := 28) dX11_init_75 (by decide) ?_
  refine z_newi dX11_init_77 zwI (by decide) (by decide) (Nat.le_of_ble_eq_true rfl) (Nat.le_of_ble_eq_true rfl) ?_
  refine zZ.hs (s' := 38142) (c' := 9) (zRp_new (k := 8) rfl (by decide) rfl) (by decide) rfl ?_
  refine z_putfield dX11_init_79 fiX11_34_11 rfl (fun _ => rfl) zRp_o (Nat.le_of_ble_eq_true rfl) (Or.inr (Or.inl ⟨rfl, _, rfl⟩)) ?_
  refine zZ.hw (zRp_put (fs' := zfk m 9 0)) ?_
  refine z_aload_n dX11_init_82 rfl ?_
  refine z_iconst (w := 2) dX11_init_83 (by decide) ?_
  refine z_newi dX11_init_84 zwI (by decide) (by decide) (Nat.le_of_ble_eq_true rfl) (Nat.le_of_ble_eq_true rfl) ?_
  refine zZ.hs (s' := 38144) (c' := 10) (zRp_new (k := 9) rfl (by decide) rfl) (by decide) rfl ?_
  refine z_putfield dX11_init_86 fiX11_37_11 rfl (fun _ => rfl) zRp_o (Nat.le_of_ble_eq_true rfl) (Or.inr (Or.inl ⟨rfl, _, rfl⟩)) ?_
  refine zZ.hw (zRp_put (fs' := zfk m 10 0)) ?_
  refine z_aload_n dX11_init_89 rfl ?_
  refine z_sipush (w := 257) dX11_init_90 (by decide) ?_
  refine z_newz dX11_init_93 zwZ (by decide) (by decide) (Nat.le_of_ble_eq_true rfl) (Nat.le_of_ble_eq_true rfl) ?_
  refine zZ.hs (s' := 38401) (c' := 11) (zRp_new (k := 10) rfl (by decide) rfl) (by decide) rfl ?_
  refine z_putfield dX11_init_95 fiX11_40_11 rfl (fun _ => rfl) zRp_o (Nat.le_of_ble_eq_true rfl) (Or.inr (Or.inl ⟨rfl, _, rfl⟩)) ?_
  refine zZ.hw (zRp_put (fs' := zfk m 11 0)) ?_
  refine z_aload_n dX11_init_98 rfl ?_
  refine z_sipush (w := 256) dX11_init_99 (by decide) ?_
  refine z_newi dX11_init_102 zwI (by decide) (by decide) (Nat.le_of_ble_eq_true rfl) (Nat.le_of_ble_eq_true rfl) ?_
  refine zZ.hs (s' := 38657) (c' := 12) (zRp_new (k := 11) rfl (by decide) rfl) (by decide) rfl ?_
  refine z_putfield dX11_init_104 fiX11_44_11 rfl (fun _ => rfl) zRp_o (Nat.le_of_ble_eq_true rfl) (Or.inr (Or.inl ⟨rfl, _, rfl⟩)) ?_
  refine zZ.hw (zRp_put (fs' := zfk m 12 0)) ?_
  refine z_aload_n dX11_init_107 rfl ?_
  refine z_sipush (w := 6000) dX11_init_108 (by decide) ?_
  refine z_newi dX11_init_111 zwI (by decide) (by decide) (Nat.le_of_ble_eq_true rfl) (Nat.le_of_ble_eq_true rfl) ?_
  refine zZ.hs (s' := 44657) (c' := 13) (zRp_new (k := 12) rfl (by decide) rfl) (by decide) rfl ?_
  refine z_putfield dX11_init_113 fiX11_47_11 rfl (fun _ => rfl) zRp_o (Nat.le_of_ble_eq_true rfl) (Or.inr (Or.inl ⟨rfl, _, rfl⟩)) ?_
  refine zZ.hw (zRp_put (fs' := zfk m 13 0)) ?_
  refine z_aload_n dX11_init_116 rfl ?_
  refine z_sipush (w := 301) dX11_init_117 (by decide) ?_
  refine z_newi dX11_init_120 zwI (by decide) (by decide) (Nat.le_of_ble_eq_true rfl) (Nat.le_of_ble_eq_true rfl) ?_
  refine zZ.hs (s' := 44958) (c' := 14) (zRp_new (k := 13) rfl (by decide) rfl) (by decide) rfl ?_
  refine z_putfield dX11_init_122 fiX11_50_11 rfl (fun _ => rfl) zRp_o (Nat.le_of_ble_eq_true rfl) (Or.inr (Or.inl ⟨rfl, _, rfl⟩)) ?_
  refine zZ.hw (zRp_put (fs' := zfk m 14 0)) ?_
  refine z_aload_n dX11_init_125 rfl ?_
  refine z_sipush (w := 301) dX11_init_126 (by decide) ?_
  refine z_newi dX11_init_129 zwI (by decide) (by decide) (Nat.le_of_ble_eq_true rfl) (Nat.le_of_ble_eq_true rfl) ?_
  refine zZ.hs (s' := 45259) (c' := 15) (zRp_new (k := 14) rfl (by decide) rfl) (by decide) rfl ?_
  refine z_putfield dX11_init_131 fiX11_53_11 rfl (fun _ => rfl) zRp_o (Nat.le_of_ble_eq_true rfl) (Or.inr (Or.inl ⟨rfl, _, rfl⟩)) ?_
  refine zZ.hw (zRp_put (fs' := zfk m 15 0)) ?_
  refine z_aload_n dX11_init_134 rfl ?_
  refine z_iconst (w := 3) dX11_init_135 (by decide) ?_
  refine z_newi dX11_init_136 zwI (by decide) (by decide) (Nat.le_of_ble_eq_true rfl) (Nat.le_of_ble_eq_true rfl) ?_
  refine zZ.hs (s' := 45262) (c' := 16) (zRp_new (k := 15) rfl (by decide) rfl) (by decide) rfl ?_
  refine z_putfield dX11_init_138 fiX11_56_11 rfl (fun _ => rfl) zRp_o (Nat.le_of_ble_eq_true rfl) (Or.inr (Or.inl ⟨rfl, _, rfl⟩)) ?_
  refine zZ.hw (zRp_put (fs' := zfk m 16 0)) ?_
  refine z_aload_n dX11_init_141 rfl ?_
  refine z_sipush (w := 301) dX11_init_142 (by decide) ?_
  refine z_newi dX11_init_145 zwI (by decide) (by decide) (Nat.le_of_ble_eq_true rfl) (Nat.le_of_ble_eq_true rfl) ?_
  refine zZ.hs (s' := 45563) (c' := 17) (zRp_new (k := 16) rfl (by decide) rfl) (by decide) rfl ?_
  refine z_putfield dX11_init_147 fiX11_59_11 rfl (fun _ => rfl) zRp_o (Nat.le_of_ble_eq_true rfl) (Or.inr (Or.inl ⟨rfl, _, rfl⟩)) ?_
  refine zZ.hw (zRp_put (fs' := zfk m 17 0)) ?_
  refine z_aload_n dX11_init_150 rfl ?_
  refine z_sipush (w := 301) dX11_init_151 (by decide) ?_
  refine z_newi dX11_init_154 zwI (by decide) (by decide) (Nat.le_of_ble_eq_true rfl) (Nat.le_of_ble_eq_true rfl) ?_
  refine zZ.hs (s' := 45864) (c' := 18) (zRp_new (k := 17) rfl (by decide) rfl) (by decide) rfl ?_
  refine z_putfield dX11_init_156 fiX11_62_11 rfl (fun _ => rfl) zRp_o (Nat.le_of_ble_eq_true rfl) (Or.inr (Or.inl ⟨rfl, _, rfl⟩)) ?_
  refine zZ.hw (zRp_put (fs' := zfk m 18 0)) ?_
  refine z_aload_n dX11_init_159 rfl ?_
  refine z_bipush (w := -3) dX11_init_160 (by decide) ?_
  refine z_putfield dX11_init_162 fX11_65_11 rfl (fun q => absurd q (by decide)) zRp_o (Nat.le_of_ble_eq_true rfl) (Or.inl ⟨rfl, _, rfl⟩) ?_
  refine zZ.hw (zRp_put (fs' := zfk m 18 (-3))) ?_
  refine z_aload_n dX11_init_165 rfl ?_
  refine z_sipush (w := 300) dX11_init_166 (by decide) ?_
  refine z_newi dX11_init_169 zwI (by decide) (by decide) (Nat.le_of_ble_eq_true rfl) (Nat.le_of_ble_eq_true rfl) ?_
  refine zZ.hs (s' := 46164) (c' := 19) (zRp_new (k := 18) rfl (by decide) rfl) (by decide) rfl ?_
  refine z_putfield dX11_init_171 fiX11_69_11 rfl (fun _ => rfl) zRp_o (Nat.le_of_ble_eq_true rfl) (Or.inr (Or.inl ⟨rfl, _, rfl⟩)) ?_
  refine zZ.hw ((zRp_put (fs' := zfk m 19 (-3))).trans (zRp_h (v := upd (fun _ => 0) 42 (-3)) rfl)) ?_
  refine z_aload_n dX11_init_174 rfl ?_
  refine z_iload_n dX11_init_175 rfl ?_
  refine z_if_ge (t := 183) dX11_init_176 (by decide) (fun q176 => ?_) (fun q176 => ?_)
  · refine z_iload_n dX11_init_183 rfl ?_
    refine z_iconst (w := 4) dX11_init_184 (by decide) ?_
    refine z_icmp_le (t := 192) dX11_init_185 (by decide) (fun q185 => ?_) (fun q185 => ?_)
    · refine z_iload_n dX11_init_192 rfl ?_
      refine zr_put dX11_init_193 fiX11_72_11 rfl (fun _ => rfl) zset_1 (by decide) (Or.inl rfl) ?_
      refine z_aload_n dX11_init_196 rfl ?_
      refine z_iload_n dX11_init_197 rfl ?_
      refine z_bipush (w := 8) dX11_init_198 (by decide) ?_
      refine z_icmp_ge (t := 208) dX11_init_200 (by decide) (fun q200 => ?_) (fun q200 => ?_)
      · refine z_iload_n dX11_init_208 rfl ?_
        refine z_sipush (w := 1500) dX11_init_209 (by decide) ?_
        refine z_icmp_le (t := 221) dX11_init_212 (by decide) (fun q212 => ?_) (fun q212 => ?_)
        · refine z_iload_n dX11_init_221 rfl ?_
          refine zr_put dX11_init_222 fiX11_75_11 rfl (fun _ => rfl) zset_2 (by decide) (Or.inl rfl) ?_
          refine tail _ _ _ _ (Nat.le_of_ble_eq_true rfl) (Nat.le_of_ble_eq_true rfl) ?_ ?_
          · unfold zclo
            first
            | rw [if_pos (Int32.not_le.mp q176)]; rfl
            | (have w : ¬ x < 0 := Int32.not_lt.mpr q176
               rw [if_neg w, if_neg (Int32.not_lt.mpr q185), znt w])
            | (have w : ¬ x < 0 := Int32.not_lt.mpr q176
               rw [if_neg w, if_pos (Int32.not_le.mp q185)]; rfl)
          · unfold zclr
            first
            | rw [if_pos (Int32.not_le.mp q200)]; rfl
            | (have w : ¬ y < 8 := Int32.not_lt.mpr q200
               rw [if_neg w, if_neg (Int32.not_lt.mpr q212), znt (fun h => w (Int32.lt_trans h (by decide)))])
            | (have w : ¬ y < 8 := Int32.not_lt.mpr q200
               rw [if_neg w, if_pos (Int32.not_le.mp q212)]; rfl)
        · refine z_sipush (w := 1500) dX11_init_215 (by decide) ?_
          refine z_goto (t := 222) dX11_init_218 (by decide) ?_
          refine zr_put dX11_init_222 fiX11_75_11 rfl (fun _ => rfl) zset_2 (by decide) (Or.inl rfl) ?_
          refine tail _ _ _ _ (Nat.le_of_ble_eq_true rfl) (Nat.le_of_ble_eq_true rfl) ?_ ?_
          · unfold zclo
            first
            | rw [if_pos (Int32.not_le.mp q176)]; rfl
            | (have w : ¬ x < 0 := Int32.not_lt.mpr q176
               rw [if_neg w, if_neg (Int32.not_lt.mpr q185), znt w])
            | (have w : ¬ x < 0 := Int32.not_lt.mpr q176
               rw [if_neg w, if_pos (Int32.not_le.mp q185)]; rfl)
          · unfold zclr
            first
            | rw [if_pos (Int32.not_le.mp q200)]; rfl
            | (have w : ¬ y < 8 := Int32.not_lt.mpr q200
               rw [if_neg w, if_neg (Int32.not_lt.mpr q212), znt (fun h => w (Int32.lt_trans h (by decide)))])
            | (have w : ¬ y < 8 := Int32.not_lt.mpr q200
               rw [if_neg w, if_pos (Int32.not_le.mp q212)]; rfl)
      · refine z_bipush (w := 8) dX11_init_203 (by decide) ?_
        refine z_goto (t := 222) dX11_init_205 (by decide) ?_
        refine zr_put dX11_init_222 fiX11_75_11 rfl (fun _ => rfl) zset_2 (by decide) (Or.inl rfl) ?_
        refine tail _ _ _ _ (Nat.le_of_ble_eq_true rfl) (Nat.le_of_ble_eq_true rfl) ?_ ?_
        · unfold zclo
          first
          | rw [if_pos (Int32.not_le.mp q176)]; rfl
          | (have w : ¬ x < 0 := Int32.not_lt.mpr q176
             rw [if_neg w, if_neg (Int32.not_lt.mpr q185), znt w])
          | (have w : ¬ x < 0 := Int32.not_lt.mpr q176
             rw [if_neg w, if_pos (Int32.not_le.mp q185)]; rfl)
        · unfold zclr
          first
          | rw [if_pos (Int32.not_le.mp q200)]; rfl
          | (have w : ¬ y < 8 := Int32.not_lt.mpr q200
             rw [if_neg w, if_neg (Int32.not_lt.mpr q212), znt (fun h => w (Int32.lt_trans h (by decide)))])
          | (have w : ¬ y < 8 := Int32.not_lt.mpr q200
             rw [if_neg w, if_pos (Int32.not_le.mp q212)]; rfl)
    · refine z_iconst (w := 4) dX11_init_188 (by decide) ?_
      refine z_goto (t := 193) dX11_init_189 (by decide) ?_
      refine zr_put dX11_init_193 fiX11_72_11 rfl (fun _ => rfl) zset_1 (by decide) (Or.inl rfl) ?_
      refine z_aload_n dX11_init_196 rfl ?_
      refine z_iload_n dX11_init_197 rfl ?_
      refine z_bipush (w := 8) dX11_init_198 (by decide) ?_
      refine z_icmp_ge (t := 208) dX11_init_200 (by decide) (fun q200 => ?_) (fun q200 => ?_)
      · refine z_iload_n dX11_init_208 rfl ?_
        refine z_sipush (w := 1500) dX11_init_209 (by decide) ?_
        refine z_icmp_le (t := 221) dX11_init_212 (by decide) (fun q212 => ?_) (fun q212 => ?_)
        · refine z_iload_n dX11_init_221 rfl ?_
          refine zr_put dX11_init_222 fiX11_75_11 rfl (fun _ => rfl) zset_2 (by decide) (Or.inl rfl) ?_
          refine tail _ _ _ _ (Nat.le_of_ble_eq_true rfl) (Nat.le_of_ble_eq_true rfl) ?_ ?_
          · unfold zclo
            first
            | rw [if_pos (Int32.not_le.mp q176)]; rfl
            | (have w : ¬ x < 0 := Int32.not_lt.mpr q176
               rw [if_neg w, if_neg (Int32.not_lt.mpr q185), znt w])
            | (have w : ¬ x < 0 := Int32.not_lt.mpr q176
               rw [if_neg w, if_pos (Int32.not_le.mp q185)]; rfl)
          · unfold zclr
            first
            | rw [if_pos (Int32.not_le.mp q200)]; rfl
            | (have w : ¬ y < 8 := Int32.not_lt.mpr q200
               rw [if_neg w, if_neg (Int32.not_lt.mpr q212), znt (fun h => w (Int32.lt_trans h (by decide)))])
            | (have w : ¬ y < 8 := Int32.not_lt.mpr q200
               rw [if_neg w, if_pos (Int32.not_le.mp q212)]; rfl)
        · refine z_sipush (w := 1500) dX11_init_215 (by decide) ?_
          refine z_goto (t := 222) dX11_init_218 (by decide) ?_
          refine zr_put dX11_init_222 fiX11_75_11 rfl (fun _ => rfl) zset_2 (by decide) (Or.inl rfl) ?_
          refine tail _ _ _ _ (Nat.le_of_ble_eq_true rfl) (Nat.le_of_ble_eq_true rfl) ?_ ?_
          · unfold zclo
            first
            | rw [if_pos (Int32.not_le.mp q176)]; rfl
            | (have w : ¬ x < 0 := Int32.not_lt.mpr q176
               rw [if_neg w, if_neg (Int32.not_lt.mpr q185), znt w])
            | (have w : ¬ x < 0 := Int32.not_lt.mpr q176
               rw [if_neg w, if_pos (Int32.not_le.mp q185)]; rfl)
          · unfold zclr
            first
            | rw [if_pos (Int32.not_le.mp q200)]; rfl
            | (have w : ¬ y < 8 := Int32.not_lt.mpr q200
               rw [if_neg w, if_neg (Int32.not_lt.mpr q212), znt (fun h => w (Int32.lt_trans h (by decide)))])
            | (have w : ¬ y < 8 := Int32.not_lt.mpr q200
               rw [if_neg w, if_pos (Int32.not_le.mp q212)]; rfl)
      · refine z_bipush (w := 8) dX11_init_203 (by decide) ?_
        refine z_goto (t := 222) dX11_init_205 (by decide) ?_
        refine zr_put dX11_init_222 fiX11_75_11 rfl (fun _ => rfl) zset_2 (by decide) (Or.inl rfl) ?_
        refine tail _ _ _ _ (Nat.le_of_ble_eq_true rfl) (Nat.le_of_ble_eq_true rfl) ?_ ?_
        · unfold zclo
          first
          | rw [if_pos (Int32.not_le.mp q176)]; rfl
          | (have w : ¬ x < 0 := Int32.not_lt.mpr q176
             rw [if_neg w, if_neg (Int32.not_lt.mpr q185), znt w])
          | (have w : ¬ x < 0 := Int32.not_lt.mpr q176
             rw [if_neg w, if_pos (Int32.not_le.mp q185)]; rfl)
        · unfold zclr
          first
          | rw [if_pos (Int32.not_le.mp q200)]; rfl
          | (have w : ¬ y < 8 := Int32.not_lt.mpr q200
             rw [if_neg w, if_neg (Int32.not_lt.mpr q212), znt (fun h => w (Int32.lt_trans h (by decide)))])
          | (have w : ¬ y < 8 := Int32.not_lt.mpr q200
             rw [if_neg w, if_pos (Int32.not_le.mp q212)]; rfl)
  · refine z_iconst (w := 0) dX11_init_179 (by decide) ?_
    refine z_goto (t := 193) dX11_init_180 (by decide) ?_
    refine zr_put dX11_init_193 fiX11_72_11 rfl (fun _ => rfl) zset_1 (by decide) (Or.inl rfl) ?_
    refine z_aload_n dX11_init_196 rfl ?_
    refine z_iload_n dX11_init_197 rfl ?_
    refine z_bipush (w := 8) dX11_init_198 (by decide) ?_
    refine z_icmp_ge (t := 208) dX11_init_200 (by decide) (fun q200 => ?_) (fun q200 => ?_)
    · refine z_iload_n dX11_init_208 rfl ?_
      refine z_sipush (w := 1500) dX11_init_209 (by decide) ?_
      refine z_icmp_le (t := 221) dX11_init_212 (by decide) (fun q212 => ?_) (fun q212 => ?_)
      · refine z_iload_n dX11_init_221 rfl ?_
        refine zr_put dX11_init_222 fiX11_75_11 rfl (fun _ => rfl) zset_2 (by decide) (Or.inl rfl) ?_
        refine tail _ _ _ _ (Nat.le_of_ble_eq_true rfl) (Nat.le_of_ble_eq_true rfl) ?_ ?_
        · unfold zclo
          first
          | rw [if_pos (Int32.not_le.mp q176)]; rfl
          | (have w : ¬ x < 0 := Int32.not_lt.mpr q176
             rw [if_neg w, if_neg (Int32.not_lt.mpr q185), znt w])
          | (have w : ¬ x < 0 := Int32.not_lt.mpr q176
             rw [if_neg w, if_pos (Int32.not_le.mp q185)]; rfl)
        · unfold zclr
          first
          | rw [if_pos (Int32.not_le.mp q200)]; rfl
          | (have w : ¬ y < 8 := Int32.not_lt.mpr q200
             rw [if_neg w, if_neg (Int32.not_lt.mpr q212), znt (fun h => w (Int32.lt_trans h (by decide)))])
          | (have w : ¬ y < 8 := Int32.not_lt.mpr q200
             rw [if_neg w, if_pos (Int32.not_le.mp q212)]; rfl)
      · refine z_sipush (w := 1500) dX11_init_215 (by decide) ?_
        refine z_goto (t := 222) dX11_init_218 (by decide) ?_
        refine zr_put dX11_init_222 fiX11_75_11 rfl (fun _ => rfl) zset_2 (by decide) (Or.inl rfl) ?_
        refine tail _ _ _ _ (Nat.le_of_ble_eq_true rfl) (Nat.le_of_ble_eq_true rfl) ?_ ?_
        · unfold zclo
          first
          | rw [if_pos (Int32.not_le.mp q176)]; rfl
          | (have w : ¬ x < 0 := Int32.not_lt.mpr q176
             rw [if_neg w, if_neg (Int32.not_lt.mpr q185), znt w])
          | (have w : ¬ x < 0 := Int32.not_lt.mpr q176
             rw [if_neg w, if_pos (Int32.not_le.mp q185)]; rfl)
        · unfold zclr
          first
          | rw [if_pos (Int32.not_le.mp q200)]; rfl
          | (have w : ¬ y < 8 := Int32.not_lt.mpr q200
             rw [if_neg w, if_neg (Int32.not_lt.mpr q212), znt (fun h => w (Int32.lt_trans h (by decide)))])
          | (have w : ¬ y < 8 := Int32.not_lt.mpr q200
             rw [if_neg w, if_pos (Int32.not_le.mp q212)]; rfl)
    · refine z_bipush (w := 8) dX11_init_203 (by decide) ?_
      refine z_goto (t := 222) dX11_init_205 (by decide) ?_
      refine zr_put dX11_init_222 fiX11_75_11 rfl (fun _ => rfl) zset_2 (by decide) (Or.inl rfl) ?_
      refine tail _ _ _ _ (Nat.le_of_ble_eq_true rfl) (Nat.le_of_ble_eq_true rfl) ?_ ?_
      · unfold zclo
        first
        | rw [if_pos (Int32.not_le.mp q176)]; rfl
        | (have w : ¬ x < 0 := Int32.not_lt.mpr q176
           rw [if_neg w, if_neg (Int32.not_lt.mpr q185), znt w])
        | (have w : ¬ x < 0 := Int32.not_lt.mpr q176
           rw [if_neg w, if_pos (Int32.not_le.mp q185)]; rfl)
      · unfold zclr
        first
        | rw [if_pos (Int32.not_le.mp q200)]; rfl
        | (have w : ¬ y < 8 := Int32.not_lt.mpr q200
           rw [if_neg w, if_neg (Int32.not_lt.mpr q212), znt (fun h => w (Int32.lt_trans h (by decide)))])
        | (have w : ¬ y < 8 := Int32.not_lt.mpr q200
           rw [if_neg w, if_pos (Int32.not_le.mp q212)]; rfl)

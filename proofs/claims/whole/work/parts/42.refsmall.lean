/-! the reference: its state as a whole, and its small calls -/
abbrev zIn (i : Int32) (k : Nat) : Prop := 0 ≤ i ∧ i < nI k
def zt (i : Int32) : Nat := i.toInt.toNat
theorem zIn.nat {i : Int32} {k : Nat} (h : zIn i k) (hk : k < 2147483648) : i = nI (zt i) ∧ zt i < k := by
  have h1 := Int32.le_iff_toInt_le.mp h.1
  have h2 := Int32.lt_iff_toInt_lt.mp h.2
  have h0 : (0 : Int32).toInt = 0 := rfl
  rw [h0] at h1
  rw [nI_toInt hk] at h2
  exact ⟨Int32.toInt_inj.mp (by rw [nI_toInt (by unfold zt; omega)]; unfold zt; omega), by unfold zt; omega⟩
theorem zIn_nI {j k : Nat} (hk : k < 2147483648) (h : j < k) : zIn (nI j) k ∧ zt (nI j) = j := by
  have h0 : (0 : Int32).toInt = 0 := rfl
  refine ⟨⟨?_, ?_⟩, ?_⟩
  · rw [Int32.le_iff_toInt_le, nI_toInt (by omega), h0]; omega
  · rw [Int32.lt_iff_toInt_lt, nI_toInt (by omega), nI_toInt hk]; omega
  · unfold zt; rw [nI_toInt (by omega)]; omega
theorem zin_sub {i : Int32} {k : Nat} (hk : k < 2147483648) : (0 ≤ i ∧ i ≤ nI k - 1) ↔ zIn i k := by
  refine and_congr_right (fun h => ?_)
  rcases Nat.eq_zero_or_pos k with rfl | hp
  · have h0 : (0 : Int32).toInt = 0 := rfl
    have h1 : (nI 0 - 1).toInt = -1 := rfl
    have h2 : (nI 0).toInt = 0 := rfl
    rw [Int32.le_iff_toInt_le] at h
    rw [Int32.le_iff_toInt_le, Int32.lt_iff_toInt_lt, h1, h2]
    omega
  · rw [show (1 : Int32) = nI 1 from rfl, zn_sub hp, Int32.le_iff_toInt_le, Int32.lt_iff_toInt_lt, nI_toInt (by omega), nI_toInt hk]
    omega
theorem zin_le {i : Int32} {u : Nat} (hk : u < 2147483647) : (0 ≤ i ∧ i ≤ nI u) ↔ zIn i (u + 1) := by
  refine and_congr_right (fun h => ?_)
  rw [Int32.le_iff_toInt_le, Int32.lt_iff_toInt_lt, nI_toInt (by omega), nI_toInt (by omega)]
  omega
theorem zif_in {i : Int32} {k : Nat} (hk : k < 2147483648) : (if (0 : Int32) ≤ i ∧ i ≤ nI k - 1 then (1 : Int32) else 0) = if zIn i k then 1 else 0 := by
  by_cases h : zIn i k
  · rw [if_pos h, if_pos ((zin_sub hk).mpr h)]
  · rw [if_neg h, if_neg (fun w => h ((zin_sub hk).mp w))]
theorem zif_le {i : Int32} {u : Nat} (hk : u < 2147483647) : (if (0 : Int32) ≤ i ∧ i ≤ nI u then (1 : Int32) else 0) = if zIn i (u + 1) then 1 else 0 := by
  by_cases h : zIn i (u + 1)
  · rw [if_pos h, if_pos ((zin_le hk).mpr h)]
  · rw [if_neg h, if_neg (fun w => h ((zin_le hk).mp w))]
theorem zi11 {p : Prop} [Decidable p] : ¬ (if p then (1 : Int32) else 0) = 0 ↔ p := by by_cases h : p <;> simp [h]
def zSlot (a : Nat → Nat) (s : Nat) : Prop := s = 0 ∨ s = 1 ∨ (3 ≤ s ∧ s < 3 + a 3)
def zOkS (o rm : Nat) (a tx : Nat → Nat) (M : Nat → zMs) : Prop := o ≤ 4 ∧ 8 ≤ rm ∧ rm ≤ 1500 ∧ a 0 ≤ 300 ∧ a 1 ≤ 2484 ∧ a 2 ≤ 300 ∧ a 3 ≤ 4 ∧ a 4 ≤ 301 ∧ (∀ i, i < a 0 → tx i < 256) ∧ ∀ s, zSlot a s → zMi o rm (M s)
def zRS (v : Nat → Int32) (g : Nat → Nat → Int32) (o rm : Nat) (a tx : Nat → Nat) (gg : Nat → Int32) (rx : Nat → Nat) (M : Nat → zMs) (z : Nat → Int32) (XX : Nat → Nat) (F : Nat → Option Nat) : Prop := v 1 = nI o ∧ v 2 = nI rm ∧ v 3 = nI (a 0) ∧ v 5 = nI (a 1) ∧ v 7 = nI (a 2) ∧ v 16 = nI (a 3) ∧ v 37 = nI (a 4) ∧ v 35 = (if a 4 = 0 then 0 else 1) ∧ v 42 = z 2 ∧ (∀ i, i < a 0 → g 1 i = nI (tx i)) ∧ (∀ i, i < a 1 → g 2 i = gg i) ∧ (∀ i, i < a 2 → g 3 i = nI (rx i)) ∧ g 10 0 = z 0 ∧ g 10 1 = z 1 ∧ (a 4 ≠ 0 → ∀ i, i < 3 → g 16 i = z (3 + i)) ∧ (∀ i, i < a 4 → g 17 i = nI (XX i) ∧ g 18 i = zff (F i)) ∧ ∀ s, zSlot a s → zRm g s (M s).1 (M s).2.2.1 (M s).2.2.2.1
def zfos (s : Nat) (g g' : Nat → Nat → Int32) : Prop := (∀ j, j ∈ [1, 2, 3, 10, 16, 17, 18] → g' j = g j) ∧ ∀ t T lm lat, t ≠ s → zRm g t T lm lat → zRm g' t T lm lat
theorem zfos.refl {s : Nat} {g : Nat → Nat → Int32} : zfos s g g := ⟨fun _ _ => rfl, fun _ _ _ _ _ h => h⟩
theorem zfos.trans {s : Nat} {g g1 g2 : Nat → Nat → Int32} (h : zfos s g g1) (h2 : zfos s g1 g2) : zfos s g g2 := ⟨fun j hj => (h2.1 j hj).trans (h.1 j hj), fun t T lm lat ht H => h2.2 t T lm lat ht (h.2 t T lm lat ht H)⟩
theorem zin7 {j : Nat} (h : j ∈ [1, 2, 3, 10, 16, 17, 18]) : j = 1 ∨ j = 2 ∨ j = 3 ∨ j = 10 ∨ j = 16 ∨ j = 17 ∨ j = 18 := by simpa using h
theorem zfos.ofm {s : Nat} {g g' : Nat → Nat → Int32} (h : zfm s g g') : zfos s g g' := ⟨fun j hj => h.1 j (by rcases zin7 hj with rfl | rfl | rfl | rfl | rfl | rfl | rfl <;> decide), fun _ _ _ _ ht H => H.other h ht⟩
theorem zfos.ofx {s : Nat} {g g' : Nat → Nat → Int32} (h : zfx s g g') : zfos s g g' := ⟨fun j hj => h.1 j (by rcases zin7 hj with rfl | rfl | rfl | rfl | rfl | rfl | rfl <;> decide), fun _ _ _ _ ht H => H.otherx h ht⟩
theorem zfos.ofg {s : Nat} {g g' : Nat → Nat → Int32} {S : List Nat} (h : zfg S g g') (hS : (S.all fun j => decide (j < 4 ∨ 9 < j)) = true) (h2 : (S.all fun j => decide (j ∉ [1, 2, 3, 10, 16, 17, 18])) = true) : zfos s g g' := ⟨fun j hj => h j (fun w => by have := List.all_eq_true.mp h2 j w; simp only [decide_eq_true_eq] at this; exact this hj), fun _ _ _ _ _ H => H.keep h hS⟩
abbrev zVs : List Nat := [0, 18, 20, 21, 22, 23, 24, 25, 26, 27, 28, 29, 31, 32, 40, 41, 43, 45]
theorem zRS.mv {v v' : Nat → Int32} {g g' : Nat → Nat → Int32} {o rm : Nat} {a tx : Nat → Nat} {gg : Nat → Int32} {rx : Nat → Nat} {M : Nat → zMs} {z : Nat → Int32} {XX : Nat → Nat} {F : Nat → Option Nat} (H : zRS v g o rm a tx gg rx M z XX F) (hv : zfv zVs v v') (hg : zfos 2 g g') : zRS v' g' o rm a tx gg rx M z XX F := by
  obtain ⟨e1, e2, e3, e5, e7, e16, e37, e35, e42, r1, r2, r3, c0, c1, r16, r17, hsl⟩ := H
  have w : ∀ j, j ∈ [1, 2, 3, 10, 16, 17, 18] → ∀ i, g' j i = g j i := fun j hj i => congrFun (hg.1 j hj) i
  refine ⟨(hv 1 (by decide)).trans e1, (hv 2 (by decide)).trans e2, (hv 3 (by decide)).trans e3, (hv 5 (by decide)).trans e5, (hv 7 (by decide)).trans e7, (hv 16 (by decide)).trans e16, (hv 37 (by decide)).trans e37, (hv 35 (by decide)).trans e35, (hv 42 (by decide)).trans e42, fun i hi => (w 1 (by decide) i).trans (r1 i hi), fun i hi => (w 2 (by decide) i).trans (r2 i hi), fun i hi => (w 3 (by decide) i).trans (r3 i hi), (w 10 (by decide) 0).trans c0, (w 10 (by decide) 1).trans c1, fun h i hi => (w 16 (by decide) i).trans (r16 h i hi), fun i hi => ⟨(w 17 (by decide) i).trans (r17 i hi).1, (w 18 (by decide) i).trans (r17 i hi).2⟩, fun s hs => hg.2 s _ _ _ ?_ (hsl s hs)⟩
  rcases hs with h | h | h <;> omega
theorem zRS.thr {v : Nat → Int32} {g : Nat → Nat → Int32} {o rm : Nat} {a tx : Nat → Nat} {gg : Nat → Int32} {rx : Nat → Nat} {M : Nat → zMs} {z : Nat → Int32} {XX : Nat → Nat} {F : Nat → Option Nat} (H : zRS v g o rm a tx gg rx M z XX F) (x : Int32) : zRS (upd v 0 x) g o rm a tx gg rx M z XX F := H.mv (zfv.refl.up (by decide) _) zfos.refl
abbrev rX11_thrown : Room := ⟨0, 0, 0, 0⟩
def SX11_thrown (G : zC) : zS := fun as h n K => ∃ (h0 : zH) (m : Nat) (v : Nat → Int32) (g : Nat → Nat → Int32) (x : Int32), as = [.ref m] ∧ h = zRh G h0 m v g ∧ v 0 = x ∧ K (some (.int x)) h n
set_option maxRecDepth 100000 in
theorem tvX11_thrown {G : zC} {as : List Value} {h : zH} {n : Nat} {K : zP} (hs : SX11_thrown G as h n K) : (∃ b fs r, as = .ref b :: r ∧ h b = some (.inr (11, fs))) ∧ zCt G rX11_thrown mX11_thrown as h n K := by
  obtain ⟨h0, m, v, g, x, rfl, rfl, hx, hK⟩ := hs
  refine ⟨⟨_, _, _, rfl, zRh_o⟩, zCt.of (by decide) (Nat.le_of_ble_eq_true rfl) ?_⟩
  refine z_aload_n dX11_thrown_0 rfl ?_
  refine zr_get dX11_thrown_1 fX11_82_11 rfl rfl ?_
  rw [hx]
  refine z_ireturn dX11_thrown_4 trivial (Nat.le_of_ble_eq_true rfl) (Nat.le_of_ble_eq_true rfl) ?_
  exact hK
abbrev rX11_clear : Room := ⟨1, 0, 0, 40⟩
def SX11_clear (G : zC) : zS := fun as h n K => ∃ (h0 : zH) (m : Nat) (v : Nat → Int32) (g : Nat → Nat → Int32) (o rm : Nat) (a tx : Nat → Nat) (gg : Nat → Int32) (rx : Nat → Nat) (M : Nat → zMs) (z : Nat → Int32) (XX : Nat → Nat) (F : Nat → Option Nat), as = [.ref m] ∧ h = zRh G h0 m v g ∧ zOkS o rm a tx M ∧ zRS v g o rm a tx gg rx M z XX F ∧ ∀ v' g', zRS v' g' o rm (va_up a 0 0) tx gg rx M z XX F → K (some (.int (nI (a 0)))) (zRh G h0 m v' g') n
set_option maxRecDepth 100000 in
theorem tvX11_clear {G : zC} {as : List Value} {h : zH} {n : Nat} {K : zP} (hs : SX11_clear G as h n K) : (∃ b fs r, as = .ref b :: r ∧ h b = some (.inr (11, fs))) ∧ zCt G rX11_clear mX11_clear as h n K := by
  obtain ⟨h0, m, v, g, o, rm, a, tx, gg, rx, M, z, XX, F, rfl, rfl, hB, hS, hK⟩ := hs
  refine ⟨⟨_, _, _, rfl, zRh_o⟩, zCt.of (by decide) (Nat.le_of_ble_eq_true rfl) ?_⟩
  have hQ : zRS (upd v 0 0) g o rm a tx gg rx M z XX F := hS.thr 0
  have hQ0 := hQ
  obtain ⟨b1, b2, b3, b4, b5, b6, b7, b8, btx, bM⟩ := hB
  obtain ⟨e1, e2, e3, e5, e7, e16, e37, e35, e42, r1, r2, r3, c0, c1, r16, r17, hsl⟩ := hQ
  refine z_aload_n dX11_clear_0 rfl ?_
  refine z_iconst (w := 0) dX11_clear_1 (by decide) ?_
  refine zr_put dX11_clear_2 fX11_82_11 rfl (fun q => absurd q (by decide)) zset_0 (by decide) (Or.inl rfl) ?_
  refine z_aload_n dX11_clear_5 rfl ?_
  refine zr_get dX11_clear_6 fX11_85_11 rfl rfl ?_
  rw [e3]
  refine z_istore_n dX11_clear_9 (Nat.le_of_ble_eq_true rfl) ?_
  refine z_aload_n dX11_clear_10 rfl ?_
  refine z_iconst (w := 0) dX11_clear_11 (by decide) ?_
  refine zr_put dX11_clear_12 fX11_85_11 rfl (fun q => absurd q (by decide)) zset_3 (by decide) (Or.inl rfl) ?_
  refine z_iload_n dX11_clear_15 rfl ?_
  refine z_ireturn dX11_clear_16 trivial (Nat.le_of_ble_eq_true rfl) (Nat.le_of_ble_eq_true rfl) ?_
  exact hK _ g ⟨((((zfv.refl (S := [3])).up (by decide) _) 1 (by decide)).trans e1), ((((zfv.refl (S := [3])).up (by decide) _) 2 (by decide)).trans e2), zu_eq, ((((zfv.refl (S := [3])).up (by decide) _) 5 (by decide)).trans e5), ((((zfv.refl (S := [3])).up (by decide) _) 7 (by decide)).trans e7), ((((zfv.refl (S := [3])).up (by decide) _) 16 (by decide)).trans e16), ((((zfv.refl (S := [3])).up (by decide) _) 37 (by decide)).trans e37), ((((zfv.refl (S := [3])).up (by decide) _) 35 (by decide)).trans e35), ((((zfv.refl (S := [3])).up (by decide) _) 42 (by decide)).trans e42), (fun i hi => absurd hi (Nat.not_lt_zero _)), (fun i hi => (congrFun ((zfg.refl (S := [])) 2 (by decide)) i).trans (r2 i hi)), (fun i hi => (congrFun ((zfg.refl (S := [])) 3 (by decide)) i).trans (r3 i hi)), ((congrFun ((zfg.refl (S := [])) 10 (by decide)) 0).trans c0), ((congrFun ((zfg.refl (S := [])) 10 (by decide)) 1).trans c1), (fun w i hi => (congrFun ((zfg.refl (S := [])) 16 (by decide)) i).trans (r16 w i hi)), (fun i hi => ⟨(congrFun ((zfg.refl (S := [])) 17 (by decide)) i).trans (r17 i hi).1, (congrFun ((zfg.refl (S := [])) 18 (by decide)) i).trans (r17 i hi).2⟩), (fun s hs => (hsl s hs).keep (zfg.refl (S := [])) (by decide))⟩
def zAdd (b : Int32) (a tx : Nat → Nat) : (Nat → Nat) × (Nat → Nat) × Int32 := if ¬ zIn b 256 then (a, tx, -1) else if a 0 = 300 then (a, tx, -2) else (va_up a 0 (a 0 + 1), va_up tx (a 0) (zt b), nI (a 0 + 1))
abbrev rX11_add : Room := ⟨1, 0, 0, 40⟩
def SX11_add (G : zC) : zS := fun as h n K => ∃ (h0 : zH) (m : Nat) (v : Nat → Int32) (g : Nat → Nat → Int32) (o rm : Nat) (a tx : Nat → Nat) (gg : Nat → Int32) (rx : Nat → Nat) (M : Nat → zMs) (z : Nat → Int32) (XX : Nat → Nat) (F : Nat → Option Nat) (b : Int32), as = [.ref m, .int b] ∧ h = zRh G h0 m v g ∧ zOkS o rm a tx M ∧ zRS v g o rm a tx gg rx M z XX F ∧ ∀ v' g', zRS v' g' o rm (zAdd b a tx).1 (zAdd b a tx).2.1 gg rx M z XX F → K (some (.int (zAdd b a tx).2.2)) (zRh G h0 m v' g') n
set_option maxRecDepth 100000 in
theorem tvX11_add {G : zC} {as : List Value} {h : zH} {n : Nat} {K : zP} (hs : SX11_add G as h n K) : (∃ b fs r, as = .ref b :: r ∧ h b = some (.inr (11, fs))) ∧ zCt G rX11_add mX11_add as h n K := by
  obtain ⟨h0, m, v, g, o, rm, a, tx, gg, rx, M, z, XX, F, b, rfl, rfl, hB, hS, hK⟩ := hs
  refine ⟨⟨_, _, _, rfl, zRh_o⟩, zCt.of (by decide) (Nat.le_of_ble_eq_true rfl) ?_⟩
  have hQ : zRS (upd v 0 0) g o rm a tx gg rx M z XX F := hS.thr 0
  have hQ0 := hQ
  obtain ⟨b1, b2, b3, b4, b5, b6, b7, b8, btx, bM⟩ := hB
  obtain ⟨e1, e2, e3, e5, e7, e16, e37, e35, e42, r1, r2, r3, c0, c1, r16, r17, hsl⟩ := hQ
  refine z_aload_n dX11_add_0 rfl ?_
  refine z_iconst (w := 0) dX11_add_1 (by decide) ?_
  refine zr_put dX11_add_2 fX11_82_11 rfl (fun q => absurd q (by decide)) zset_0 (by decide) (Or.inl rfl) ?_
  refine z_iload_n dX11_add_5 rfl ?_
  refine z_iconst (w := 0) dX11_add_6 (by decide) ?_
  refine z_sipush (w := 255) dX11_add_7 (by decide) ?_
  refine zcall3 (zck_S (R' := rX11_in) (M' := mX11_in) (fun _ _ _ _ => tX11_in) kX11_in lX11_88 (by decide +kernel) rfl) dX11_add_10 (Nat.le_of_ble_eq_true rfl) (Nat.le_of_ble_eq_true rfl) (Nat.le_of_ble_eq_true rfl) ?_
  refine ⟨_, _, _, rfl, ?_⟩
  rw [show (if (0 : Int32) ≤ b ∧ b ≤ 255 then (1 : Int32) else 0) = if zIn b 256 then 1 else 0 from zif_le (u := 255) (by decide)]
  refine z_if_ne (t := 18) dX11_add_13 (by decide) (fun q13 => ?_) (fun q13 => ?_)
  · refine z_aload_n dX11_add_18 rfl ?_
    refine zr_get dX11_add_19 fX11_85_11 rfl rfl ?_
    rw [e3]
    refine z_sipush (w := 300) dX11_add_22 (by decide) ?_
    refine z_icmp_ne (t := 31) dX11_add_25 (by decide) (fun q25 => ?_) (fun q25 => ?_)
    · have w25 : ¬ a 0 = 300 := fun e => q25 (by rw [e]; rfl)
      refine z_aload_n dX11_add_31 rfl ?_
      refine zr_get dX11_add_32 fX11_7_11 rfl rfl ?_
      refine z_aload_n dX11_add_35 rfl ?_
      refine zr_get dX11_add_36 fX11_85_11 rfl rfl ?_
      rw [e3]
      refine z_iload_n dX11_add_39 rfl ?_
      refine zr_ast (a := _) dX11_add_40 rfl (by decide) (show a 0 < 300 by omega) ?_
      refine z_aload_n dX11_add_41 rfl ?_
      refine z_dup dX11_add_42 rfl ?_
      refine zr_get dX11_add_43 fX11_85_11 rfl rfl ?_
      rw [e3]
      refine z_iconst (w := 1) dX11_add_46 (by decide) ?_
      refine z_iadd dX11_add_47 ?_
      rw [nI_1]
      refine zr_put dX11_add_48 fX11_85_11 rfl (fun q => absurd q (by decide)) zset_3 (by decide) (Or.inl rfl) ?_
      refine z_aload_n dX11_add_51 rfl ?_
      refine zr_get dX11_add_52 fX11_85_11 rfl rfl ?_
      rw [zu_eq]
      refine z_ireturn dX11_add_55 trivial (Nat.le_of_ble_eq_true rfl) (Nat.le_of_ble_eq_true rfl) ?_
      rw [show zAdd b a tx = (va_up a 0 (a 0 + 1), va_up tx (a 0) (zt b), nI (a 0 + 1)) from (if_neg (fun w => w (zi11.mp q13))).trans (if_neg w25)] at hK
      dsimp only at hK
      have hb := zIn.nat (zi11.mp q13) (by decide)
      refine hK _ _ ⟨((((zfv.refl (S := [3])).up (by decide) _) 1 (by decide)).trans e1), ((((zfv.refl (S := [3])).up (by decide) _) 2 (by decide)).trans e2), zu_eq, ((((zfv.refl (S := [3])).up (by decide) _) 5 (by decide)).trans e5), ((((zfv.refl (S := [3])).up (by decide) _) 7 (by decide)).trans e7), ((((zfv.refl (S := [3])).up (by decide) _) 16 (by decide)).trans e16), ((((zfv.refl (S := [3])).up (by decide) _) 37 (by decide)).trans e37), ((((zfv.refl (S := [3])).up (by decide) _) 35 (by decide)).trans e35), ((((zfv.refl (S := [3])).up (by decide) _) 42 (by decide)).trans e42), ?_, (fun i hi => (congrFun (((zfg.refl (S := [1])).up (by decide) _) 2 (by decide)) i).trans (r2 i hi)), (fun i hi => (congrFun (((zfg.refl (S := [1])).up (by decide) _) 3 (by decide)) i).trans (r3 i hi)), ((congrFun (((zfg.refl (S := [1])).up (by decide) _) 10 (by decide)) 0).trans c0), ((congrFun (((zfg.refl (S := [1])).up (by decide) _) 10 (by decide)) 1).trans c1), (fun w i hi => (congrFun (((zfg.refl (S := [1])).up (by decide) _) 16 (by decide)) i).trans (r16 w i hi)), (fun i hi => ⟨(congrFun (((zfg.refl (S := [1])).up (by decide) _) 17 (by decide)) i).trans (r17 i hi).1, (congrFun (((zfg.refl (S := [1])).up (by decide) _) 18 (by decide)) i).trans (r17 i hi).2⟩), (fun s hs => (hsl s hs).keep ((zfg.refl (S := [1])).up (by decide) _) (by decide))⟩
      intro i hi
      rw [zng]
      by_cases e : i = a 0
      · rw [e, zu_eq, va_up_self]; exact hb.1
      · have hi : i < a 0 + 1 := hi
        rw [zu_ne e, va_up_ne _ _ e]; exact r1 i (by omega)
    · have w25 : a 0 = 300 := (nI_eq (b := 300) (by omega) (by omega)).mp q25
      refine z_bipush (w := -2) dX11_add_28 (by decide) ?_
      refine z_ireturn dX11_add_30 trivial (Nat.le_of_ble_eq_true rfl) (Nat.le_of_ble_eq_true rfl) ?_
      rw [show zAdd b a tx = (a, tx, -2) from (if_neg (fun w => w (zi11.mp q13))).trans (if_pos w25)] at hK
      exact hK _ g hQ0
  · refine z_iconst (w := -1) dX11_add_16 (by decide) ?_
    refine z_ireturn dX11_add_17 trivial (Nat.le_of_ble_eq_true rfl) (Nat.le_of_ble_eq_true rfl) ?_
    rw [show zAdd b a tx = (a, tx, -1) from if_pos (zi10.mp q13)] at hK
    exact hK _ g hQ0
def zQsz (a : Nat → Nat) (w : Int32) : Int32 := if w = 0 then nI (a 0) else if w = 1 then nI (a 1) else if w = 2 then nI (a 2) else -1
abbrev rX11_size : Room := ⟨0, 0, 0, 0⟩
def SX11_size (G : zC) : zS := fun as h n K => ∃ (h0 : zH) (m : Nat) (v : Nat → Int32) (g : Nat → Nat → Int32) (o rm : Nat) (a tx : Nat → Nat) (gg : Nat → Int32) (rx : Nat → Nat) (M : Nat → zMs) (z : Nat → Int32) (XX : Nat → Nat) (F : Nat → Option Nat) (w : Int32), as = [.ref m, .int w] ∧ h = zRh G h0 m v g ∧ zOkS o rm a tx M ∧ zRS v g o rm a tx gg rx M z XX F ∧ ∀ v' g', zRS v' g' o rm a tx gg rx M z XX F → K (some (.int (zQsz a w))) (zRh G h0 m v' g') n
set_option maxRecDepth 100000 in
theorem tvX11_size {G : zC} {as : List Value} {h : zH} {n : Nat} {K : zP} (hs : SX11_size G as h n K) : (∃ b fs r, as = .ref b :: r ∧ h b = some (.inr (11, fs))) ∧ zCt G rX11_size mX11_size as h n K := by
  obtain ⟨h0, m, v, g, o, rm, a, tx, gg, rx, M, z, XX, F, w, rfl, rfl, hB, hS, hK⟩ := hs
  refine ⟨⟨_, _, _, rfl, zRh_o⟩, zCt.of (by decide) (Nat.le_of_ble_eq_true rfl) ?_⟩
  have hQ : zRS (upd v 0 0) g o rm a tx gg rx M z XX F := hS.thr 0
  have hQ0 := hQ
  obtain ⟨b1, b2, b3, b4, b5, b6, b7, b8, btx, bM⟩ := hB
  obtain ⟨e1, e2, e3, e5, e7, e16, e37, e35, e42, r1, r2, r3, c0, c1, r16, r17, hsl⟩ := hQ
  refine z_aload_n dX11_size_0 rfl ?_
  refine z_iconst (w := 0) dX11_size_1 (by decide) ?_
  refine zr_put dX11_size_2 fX11_82_11 rfl (fun q => absurd q (by decide)) zset_0 (by decide) (Or.inl rfl) ?_
  refine z_iload_n dX11_size_5 rfl ?_
  refine z_if_ne (t := 16) dX11_size_6 (by decide) (fun q6 => ?_) (fun q6 => ?_)
  · refine z_iload_n dX11_size_16 rfl ?_
    refine z_iconst (w := 1) dX11_size_17 (by decide) ?_
    refine z_icmp_ne (t := 28) dX11_size_18 (by decide) (fun q18 => ?_) (fun q18 => ?_)
    · refine z_iload_n dX11_size_28 rfl ?_
      refine z_iconst (w := 2) dX11_size_29 (by decide) ?_
      refine z_icmp_ne (t := 40) dX11_size_30 (by decide) (fun q30 => ?_) (fun q30 => ?_)
      · refine z_iconst (w := -1) dX11_size_40 (by decide) ?_
        refine z_ireturn dX11_size_41 trivial (Nat.le_of_ble_eq_true rfl) (Nat.le_of_ble_eq_true rfl) ?_
        first
        | (rw [show zQsz a w = nI (a 0) from if_pos q6] at hK; exact hK _ g hQ0)
        | (rw [show zQsz a w = nI (a 1) from (if_neg q6).trans (if_pos q18)] at hK; exact hK _ g hQ0)
        | (rw [show zQsz a w = nI (a 2) from (if_neg q6).trans ((if_neg q18).trans (if_pos q30))] at hK; exact hK _ g hQ0)
        | (rw [show zQsz a w = -1 from (if_neg q6).trans ((if_neg q18).trans (if_neg q30))] at hK; exact hK _ g hQ0)
      · refine z_aload_n dX11_size_33 rfl ?_
        refine zr_get dX11_size_34 fX11_96_11 rfl rfl ?_
        rw [e7]
        refine z_goto (t := 41) dX11_size_37 (by decide) ?_
        refine z_ireturn dX11_size_41 trivial (Nat.le_of_ble_eq_true rfl) (Nat.le_of_ble_eq_true rfl) ?_
        first
        | (rw [show zQsz a w = nI (a 0) from if_pos q6] at hK; exact hK _ g hQ0)
        | (rw [show zQsz a w = nI (a 1) from (if_neg q6).trans (if_pos q18)] at hK; exact hK _ g hQ0)
        | (rw [show zQsz a w = nI (a 2) from (if_neg q6).trans ((if_neg q18).trans (if_pos q30))] at hK; exact hK _ g hQ0)
        | (rw [show zQsz a w = -1 from (if_neg q6).trans ((if_neg q18).trans (if_neg q30))] at hK; exact hK _ g hQ0)
    · refine z_aload_n dX11_size_21 rfl ?_
      refine zr_get dX11_size_22 fX11_93_11 rfl rfl ?_
      rw [e5]
      refine z_goto (t := 41) dX11_size_25 (by decide) ?_
      refine z_ireturn dX11_size_41 trivial (Nat.le_of_ble_eq_true rfl) (Nat.le_of_ble_eq_true rfl) ?_
      first
      | (rw [show zQsz a w = nI (a 0) from if_pos q6] at hK; exact hK _ g hQ0)
      | (rw [show zQsz a w = nI (a 1) from (if_neg q6).trans (if_pos q18)] at hK; exact hK _ g hQ0)
      | (rw [show zQsz a w = nI (a 2) from (if_neg q6).trans ((if_neg q18).trans (if_pos q30))] at hK; exact hK _ g hQ0)
      | (rw [show zQsz a w = -1 from (if_neg q6).trans ((if_neg q18).trans (if_neg q30))] at hK; exact hK _ g hQ0)
  · refine z_aload_n dX11_size_9 rfl ?_
    refine zr_get dX11_size_10 fX11_85_11 rfl rfl ?_
    rw [e3]
    refine z_goto (t := 41) dX11_size_13 (by decide) ?_
    refine z_ireturn dX11_size_41 trivial (Nat.le_of_ble_eq_true rfl) (Nat.le_of_ble_eq_true rfl) ?_
    first
    | (rw [show zQsz a w = nI (a 0) from if_pos q6] at hK; exact hK _ g hQ0)
    | (rw [show zQsz a w = nI (a 1) from (if_neg q6).trans (if_pos q18)] at hK; exact hK _ g hQ0)
    | (rw [show zQsz a w = nI (a 2) from (if_neg q6).trans ((if_neg q18).trans (if_pos q30))] at hK; exact hK _ g hQ0)
    | (rw [show zQsz a w = -1 from (if_neg q6).trans ((if_neg q18).trans (if_neg q30))] at hK; exact hK _ g hQ0)
def zQoc (a tx : Nat → Nat) (gg : Nat → Int32) (rx : Nat → Nat) (w i : Int32) : Int32 := if w = 0 ∧ zIn i (a 0) then nI (tx (zt i)) else if w = 1 ∧ zIn i (a 1) then gg (zt i) else if w = 2 ∧ zIn i (a 2) then nI (rx (zt i)) else -1
abbrev rX11_octet : Room := ⟨1, 0, 0, 40⟩
def SX11_octet (G : zC) : zS := fun as h n K => ∃ (h0 : zH) (m : Nat) (v : Nat → Int32) (g : Nat → Nat → Int32) (o rm : Nat) (a tx : Nat → Nat) (gg : Nat → Int32) (rx : Nat → Nat) (M : Nat → zMs) (z : Nat → Int32) (XX : Nat → Nat) (F : Nat → Option Nat) (w i : Int32), as = [.ref m, .int w, .int i] ∧ h = zRh G h0 m v g ∧ zOkS o rm a tx M ∧ zRS v g o rm a tx gg rx M z XX F ∧ ∀ v' g', zRS v' g' o rm a tx gg rx M z XX F → K (some (.int (zQoc a tx gg rx w i))) (zRh G h0 m v' g') n
set_option maxRecDepth 100000 in
theorem tvX11_octet {G : zC} {as : List Value} {h : zH} {n : Nat} {K : zP} (hs : SX11_octet G as h n K) : (∃ b fs r, as = .ref b :: r ∧ h b = some (.inr (11, fs))) ∧ zCt G rX11_octet mX11_octet as h n K := by
  obtain ⟨h0, m, v, g, o, rm, a, tx, gg, rx, M, z, XX, F, w, i, rfl, rfl, hB, hS, hK⟩ := hs
  refine ⟨⟨_, _, _, rfl, zRh_o⟩, zCt.of (by decide) (Nat.le_of_ble_eq_true rfl) ?_⟩
  have hQ : zRS (upd v 0 0) g o rm a tx gg rx M z XX F := hS.thr 0
  have hQ0 := hQ
  obtain ⟨b1, b2, b3, b4, b5, b6, b7, b8, btx, bM⟩ := hB
  obtain ⟨e1, e2, e3, e5, e7, e16, e37, e35, e42, r1, r2, r3, c0, c1, r16, r17, hsl⟩ := hQ
  refine z_aload_n dX11_octet_0 rfl ?_
  refine z_iconst (w := 0) dX11_octet_1 (by decide) ?_
  refine zr_put dX11_octet_2 fX11_82_11 rfl (fun q => absurd q (by decide)) zset_0 (by decide) (Or.inl rfl) ?_
  refine z_iload_n dX11_octet_5 rfl ?_
  refine z_if_ne (t := 30) dX11_octet_6 (by decide) (fun q6 => ?_) (fun q6 => ?_)
  · refine z_iload_n dX11_octet_30 rfl ?_
    refine z_iconst (w := 1) dX11_octet_31 (by decide) ?_
    refine z_icmp_ne (t := 56) dX11_octet_32 (by decide) (fun q32 => ?_) (fun q32 => ?_)
    · refine z_iload_n dX11_octet_56 rfl ?_
      refine z_iconst (w := 2) dX11_octet_57 (by decide) ?_
      refine z_icmp_ne (t := 84) dX11_octet_58 (by decide) (fun q58 => ?_) (fun q58 => ?_)
      · refine z_iconst (w := -1) dX11_octet_84 (by decide) ?_
        refine z_ireturn dX11_octet_85 trivial (Nat.le_of_ble_eq_true rfl) (Nat.le_of_ble_eq_true rfl) ?_
        have n0 : ¬ (w = 0 ∧ zIn i (a 0)) := fun p => (by first | exact q6 p.1 | exact zi10.mp q20 p.2)
        have n1 : ¬ (w = 1 ∧ zIn i (a 1)) := fun p => (by first | exact q32 p.1 | exact zi10.mp q46 p.2)
        first
        | (rw [show zQoc a tx gg rx w i = nI (rx (zt i)) from (if_neg n0).trans ((if_neg n1).trans (if_pos ⟨q58, zi11.mp q72⟩))] at hK; exact hK _ g hQ0)
        | (have n2 : ¬ (w = 2 ∧ zIn i (a 2)) := fun p => (by first | exact q58 p.1 | exact zi10.mp q72 p.2); rw [show zQoc a tx gg rx w i = -1 from (if_neg n0).trans ((if_neg n1).trans (if_neg n2))] at hK; exact hK _ g hQ0)
      · refine z_iload_n dX11_octet_61 rfl ?_
        refine z_iconst (w := 0) dX11_octet_62 (by decide) ?_
        refine z_aload_n dX11_octet_63 rfl ?_
        refine zr_get dX11_octet_64 fX11_96_11 rfl rfl ?_
        rw [e7]
        refine z_iconst (w := 1) dX11_octet_67 (by decide) ?_
        refine z_isub dX11_octet_68 ?_
        refine zcall3 (zck_S (R' := rX11_in) (M' := mX11_in) (fun _ _ _ _ => tX11_in) kX11_in lX11_88 (by decide +kernel) rfl) dX11_octet_69 (Nat.le_of_ble_eq_true rfl) (Nat.le_of_ble_eq_true rfl) (Nat.le_of_ble_eq_true rfl) ?_
        refine ⟨_, _, _, rfl, ?_⟩
        rw [zif_in (k := a 2) (by omega)]
        refine z_if_eq (t := 84) dX11_octet_72 (by decide) (fun q72 => ?_) (fun q72 => ?_)
        · refine z_iconst (w := -1) dX11_octet_84 (by decide) ?_
          refine z_ireturn dX11_octet_85 trivial (Nat.le_of_ble_eq_true rfl) (Nat.le_of_ble_eq_true rfl) ?_
          have n0 : ¬ (w = 0 ∧ zIn i (a 0)) := fun p => (by first | exact q6 p.1 | exact zi10.mp q20 p.2)
          have n1 : ¬ (w = 1 ∧ zIn i (a 1)) := fun p => (by first | exact q32 p.1 | exact zi10.mp q46 p.2)
          first
          | (rw [show zQoc a tx gg rx w i = nI (rx (zt i)) from (if_neg n0).trans ((if_neg n1).trans (if_pos ⟨q58, zi11.mp q72⟩))] at hK; exact hK _ g hQ0)
          | (have n2 : ¬ (w = 2 ∧ zIn i (a 2)) := fun p => (by first | exact q58 p.1 | exact zi10.mp q72 p.2); rw [show zQoc a tx gg rx w i = -1 from (if_neg n0).trans ((if_neg n1).trans (if_neg n2))] at hK; exact hK _ g hQ0)
        · refine z_aload_n dX11_octet_75 rfl ?_
          refine zr_get dX11_octet_76 fX11_16_11 rfl rfl ?_
          refine z_iload_n dX11_octet_79 rfl ?_
          have hi := zIn.nat (zi11.mp q72) (show a 2 < 2147483648 by omega)
          refine zr_ald (a := zt i) dX11_octet_80 hi.1 (by decide) (show zt i < 300 by omega) ?_
          rw [r3 _ hi.2]
          refine z_goto (t := 85) dX11_octet_81 (by decide) ?_
          refine z_ireturn dX11_octet_85 trivial (Nat.le_of_ble_eq_true rfl) (Nat.le_of_ble_eq_true rfl) ?_
          have n0 : ¬ (w = 0 ∧ zIn i (a 0)) := fun p => (by first | exact q6 p.1 | exact zi10.mp q20 p.2)
          have n1 : ¬ (w = 1 ∧ zIn i (a 1)) := fun p => (by first | exact q32 p.1 | exact zi10.mp q46 p.2)
          first
          | (rw [show zQoc a tx gg rx w i = nI (rx (zt i)) from (if_neg n0).trans ((if_neg n1).trans (if_pos ⟨q58, zi11.mp q72⟩))] at hK; exact hK _ g hQ0)
          | (have n2 : ¬ (w = 2 ∧ zIn i (a 2)) := fun p => (by first | exact q58 p.1 | exact zi10.mp q72 p.2); rw [show zQoc a tx gg rx w i = -1 from (if_neg n0).trans ((if_neg n1).trans (if_neg n2))] at hK; exact hK _ g hQ0)
    · refine z_iload_n dX11_octet_35 rfl ?_
      refine z_iconst (w := 0) dX11_octet_36 (by decide) ?_
      refine z_aload_n dX11_octet_37 rfl ?_
      refine zr_get dX11_octet_38 fX11_93_11 rfl rfl ?_
      rw [e5]
      refine z_iconst (w := 1) dX11_octet_41 (by decide) ?_
      refine z_isub dX11_octet_42 ?_
      refine zcall3 (zck_S (R' := rX11_in) (M' := mX11_in) (fun _ _ _ _ => tX11_in) kX11_in lX11_88 (by decide +kernel) rfl) dX11_octet_43 (Nat.le_of_ble_eq_true rfl) (Nat.le_of_ble_eq_true rfl) (Nat.le_of_ble_eq_true rfl) ?_
      refine ⟨_, _, _, rfl, ?_⟩
      rw [zif_in (k := a 1) (by omega)]
      refine z_if_eq (t := 56) dX11_octet_46 (by decide) (fun q46 => ?_) (fun q46 => ?_)
      · refine z_iload_n dX11_octet_56 rfl ?_
        refine z_iconst (w := 2) dX11_octet_57 (by decide) ?_
        refine z_icmp_ne (t := 84) dX11_octet_58 (by decide) (fun q58 => ?_) (fun q58 => ?_)
        · refine z_iconst (w := -1) dX11_octet_84 (by decide) ?_
          refine z_ireturn dX11_octet_85 trivial (Nat.le_of_ble_eq_true rfl) (Nat.le_of_ble_eq_true rfl) ?_
          have n0 : ¬ (w = 0 ∧ zIn i (a 0)) := fun p => (by first | exact q6 p.1 | exact zi10.mp q20 p.2)
          have n1 : ¬ (w = 1 ∧ zIn i (a 1)) := fun p => (by first | exact q32 p.1 | exact zi10.mp q46 p.2)
          first
          | (rw [show zQoc a tx gg rx w i = nI (rx (zt i)) from (if_neg n0).trans ((if_neg n1).trans (if_pos ⟨q58, zi11.mp q72⟩))] at hK; exact hK _ g hQ0)
          | (have n2 : ¬ (w = 2 ∧ zIn i (a 2)) := fun p => (by first | exact q58 p.1 | exact zi10.mp q72 p.2); rw [show zQoc a tx gg rx w i = -1 from (if_neg n0).trans ((if_neg n1).trans (if_neg n2))] at hK; exact hK _ g hQ0)
        · refine z_iload_n dX11_octet_61 rfl ?_
          refine z_iconst (w := 0) dX11_octet_62 (by decide) ?_
          refine z_aload_n dX11_octet_63 rfl ?_
          refine zr_get dX11_octet_64 fX11_96_11 rfl rfl ?_
          rw [e7]
          refine z_iconst (w := 1) dX11_octet_67 (by decide) ?_
          refine z_isub dX11_octet_68 ?_
          refine zcall3 (zck_S (R' := rX11_in) (M' := mX11_in) (fun _ _ _ _ => tX11_in) kX11_in lX11_88 (by decide +kernel) rfl) dX11_octet_69 (Nat.le_of_ble_eq_true rfl) (Nat.le_of_ble_eq_true rfl) (Nat.le_of_ble_eq_true rfl) ?_
          refine ⟨_, _, _, rfl, ?_⟩
          rw [zif_in (k := a 2) (by omega)]
          refine z_if_eq (t := 84) dX11_octet_72 (by decide) (fun q72 => ?_) (fun q72 => ?_)
          · refine z_iconst (w := -1) dX11_octet_84 (by decide) ?_
            refine z_ireturn dX11_octet_85 trivial (Nat.le_of_ble_eq_true rfl) (Nat.le_of_ble_eq_true rfl) ?_
            have n0 : ¬ (w = 0 ∧ zIn i (a 0)) := fun p => (by first | exact q6 p.1 | exact zi10.mp q20 p.2)
            have n1 : ¬ (w = 1 ∧ zIn i (a 1)) := fun p => (by first | exact q32 p.1 | exact zi10.mp q46 p.2)
            first
            | (rw [show zQoc a tx gg rx w i = nI (rx (zt i)) from (if_neg n0).trans ((if_neg n1).trans (if_pos ⟨q58, zi11.mp q72⟩))] at hK; exact hK _ g hQ0)
            | (have n2 : ¬ (w = 2 ∧ zIn i (a 2)) := fun p => (by first | exact q58 p.1 | exact zi10.mp q72 p.2); rw [show zQoc a tx gg rx w i = -1 from (if_neg n0).trans ((if_neg n1).trans (if_neg n2))] at hK; exact hK _ g hQ0)
          · refine z_aload_n dX11_octet_75 rfl ?_
            refine zr_get dX11_octet_76 fX11_16_11 rfl rfl ?_
            refine z_iload_n dX11_octet_79 rfl ?_
            have hi := zIn.nat (zi11.mp q72) (show a 2 < 2147483648 by omega)
            refine zr_ald (a := zt i) dX11_octet_80 hi.1 (by decide) (show zt i < 300 by omega) ?_
            rw [r3 _ hi.2]
            refine z_goto (t := 85) dX11_octet_81 (by decide) ?_
            refine z_ireturn dX11_octet_85 trivial (Nat.le_of_ble_eq_true rfl) (Nat.le_of_ble_eq_true rfl) ?_
            have n0 : ¬ (w = 0 ∧ zIn i (a 0)) := fun p => (by first | exact q6 p.1 | exact zi10.mp q20 p.2)
            have n1 : ¬ (w = 1 ∧ zIn i (a 1)) := fun p => (by first | exact q32 p.1 | exact zi10.mp q46 p.2)
            first
            | (rw [show zQoc a tx gg rx w i = nI (rx (zt i)) from (if_neg n0).trans ((if_neg n1).trans (if_pos ⟨q58, zi11.mp q72⟩))] at hK; exact hK _ g hQ0)
            | (have n2 : ¬ (w = 2 ∧ zIn i (a 2)) := fun p => (by first | exact q58 p.1 | exact zi10.mp q72 p.2); rw [show zQoc a tx gg rx w i = -1 from (if_neg n0).trans ((if_neg n1).trans (if_neg n2))] at hK; exact hK _ g hQ0)
      · refine z_aload_n dX11_octet_49 rfl ?_
        refine zr_get dX11_octet_50 fX11_13_11 rfl rfl ?_
        refine z_iload_n dX11_octet_53 rfl ?_
        have hi := zIn.nat (zi11.mp q46) (show a 1 < 2147483648 by omega)
        refine zr_ald (a := zt i) dX11_octet_54 hi.1 (by decide) (show zt i < 6000 by omega) ?_
        rw [r2 _ hi.2]
        refine z_ireturn dX11_octet_55 trivial (Nat.le_of_ble_eq_true rfl) (Nat.le_of_ble_eq_true rfl) ?_
        have n0 : ¬ (w = 0 ∧ zIn i (a 0)) := fun p => (by first | exact q6 p.1 | exact zi10.mp q20 p.2)
        rw [show zQoc a tx gg rx w i = gg (zt i) from (if_neg n0).trans (if_pos ⟨q32, zi11.mp q46⟩)] at hK
        exact hK _ g hQ0
  · refine z_iload_n dX11_octet_9 rfl ?_
    refine z_iconst (w := 0) dX11_octet_10 (by decide) ?_
    refine z_aload_n dX11_octet_11 rfl ?_
    refine zr_get dX11_octet_12 fX11_85_11 rfl rfl ?_
    rw [e3]
    refine z_iconst (w := 1) dX11_octet_15 (by decide) ?_
    refine z_isub dX11_octet_16 ?_
    refine zcall3 (zck_S (R' := rX11_in) (M' := mX11_in) (fun _ _ _ _ => tX11_in) kX11_in lX11_88 (by decide +kernel) rfl) dX11_octet_17 (Nat.le_of_ble_eq_true rfl) (Nat.le_of_ble_eq_true rfl) (Nat.le_of_ble_eq_true rfl) ?_
    refine ⟨_, _, _, rfl, ?_⟩
    rw [zif_in (k := a 0) (by omega)]
    refine z_if_eq (t := 30) dX11_octet_20 (by decide) (fun q20 => ?_) (fun q20 => ?_)
    · refine z_iload_n dX11_octet_30 rfl ?_
      refine z_iconst (w := 1) dX11_octet_31 (by decide) ?_
      refine z_icmp_ne (t := 56) dX11_octet_32 (by decide) (fun q32 => ?_) (fun q32 => ?_)
      · refine z_iload_n dX11_octet_56 rfl ?_
        refine z_iconst (w := 2) dX11_octet_57 (by decide) ?_
        refine z_icmp_ne (t := 84) dX11_octet_58 (by decide) (fun q58 => ?_) (fun q58 => ?_)
        · refine z_iconst (w := -1) dX11_octet_84 (by decide) ?_
          refine z_ireturn dX11_octet_85 trivial (Nat.le_of_ble_eq_true rfl) (Nat.le_of_ble_eq_true rfl) ?_
          have n0 : ¬ (w = 0 ∧ zIn i (a 0)) := fun p => (by first | exact q6 p.1 | exact zi10.mp q20 p.2)
          have n1 : ¬ (w = 1 ∧ zIn i (a 1)) := fun p => (by first | exact q32 p.1 | exact zi10.mp q46 p.2)
          first
          | (rw [show zQoc a tx gg rx w i = nI (rx (zt i)) from (if_neg n0).trans ((if_neg n1).trans (if_pos ⟨q58, zi11.mp q72⟩))] at hK; exact hK _ g hQ0)
          | (have n2 : ¬ (w = 2 ∧ zIn i (a 2)) := fun p => (by first | exact q58 p.1 | exact zi10.mp q72 p.2); rw [show zQoc a tx gg rx w i = -1 from (if_neg n0).trans ((if_neg n1).trans (if_neg n2))] at hK; exact hK _ g hQ0)
        · refine z_iload_n dX11_octet_61 rfl ?_
          refine z_iconst (w := 0) dX11_octet_62 (by decide) ?_
          refine z_aload_n dX11_octet_63 rfl ?_
          refine zr_get dX11_octet_64 fX11_96_11 rfl rfl ?_
          rw [e7]
          refine z_iconst (w := 1) dX11_octet_67 (by decide) ?_
          refine z_isub dX11_octet_68 ?_
          refine zcall3 (zck_S (R' := rX11_in) (M' := mX11_in) (fun _ _ _ _ => tX11_in) kX11_in lX11_88 (by decide +kernel) rfl) dX11_octet_69 (Nat.le_of_ble_eq_true rfl) (Nat.le_of_ble_eq_true rfl) (Nat.le_of_ble_eq_true rfl) ?_
          refine ⟨_, _, _, rfl, ?_⟩
          rw [zif_in (k := a 2) (by omega)]
          refine z_if_eq (t := 84) dX11_octet_72 (by decide) (fun q72 => ?_) (fun q72 => ?_)
          · refine z_iconst (w := -1) dX11_octet_84 (by decide) ?_
            refine z_ireturn dX11_octet_85 trivial (Nat.le_of_ble_eq_true rfl) (Nat.le_of_ble_eq_true rfl) ?_
            have n0 : ¬ (w = 0 ∧ zIn i (a 0)) := fun p => (by first | exact q6 p.1 | exact zi10.mp q20 p.2)
            have n1 : ¬ (w = 1 ∧ zIn i (a 1)) := fun p => (by first | exact q32 p.1 | exact zi10.mp q46 p.2)
            first
            | (rw [show zQoc a tx gg rx w i = nI (rx (zt i)) from (if_neg n0).trans ((if_neg n1).trans (if_pos ⟨q58, zi11.mp q72⟩))] at hK; exact hK _ g hQ0)
            | (have n2 : ¬ (w = 2 ∧ zIn i (a 2)) := fun p => (by first | exact q58 p.1 | exact zi10.mp q72 p.2); rw [show zQoc a tx gg rx w i = -1 from (if_neg n0).trans ((if_neg n1).trans (if_neg n2))] at hK; exact hK _ g hQ0)
          · refine z_aload_n dX11_octet_75 rfl ?_
            refine zr_get dX11_octet_76 fX11_16_11 rfl rfl ?_
            refine z_iload_n dX11_octet_79 rfl ?_
            have hi := zIn.nat (zi11.mp q72) (show a 2 < 2147483648 by omega)
            refine zr_ald (a := zt i) dX11_octet_80 hi.1 (by decide) (show zt i < 300 by omega) ?_
            rw [r3 _ hi.2]
            refine z_goto (t := 85) dX11_octet_81 (by decide) ?_
            refine z_ireturn dX11_octet_85 trivial (Nat.le_of_ble_eq_true rfl) (Nat.le_of_ble_eq_true rfl) ?_
            have n0 : ¬ (w = 0 ∧ zIn i (a 0)) := fun p => (by first | exact q6 p.1 | exact zi10.mp q20 p.2)
            have n1 : ¬ (w = 1 ∧ zIn i (a 1)) := fun p => (by first | exact q32 p.1 | exact zi10.mp q46 p.2)
            first
            | (rw [show zQoc a tx gg rx w i = nI (rx (zt i)) from (if_neg n0).trans ((if_neg n1).trans (if_pos ⟨q58, zi11.mp q72⟩))] at hK; exact hK _ g hQ0)
            | (have n2 : ¬ (w = 2 ∧ zIn i (a 2)) := fun p => (by first | exact q58 p.1 | exact zi10.mp q72 p.2); rw [show zQoc a tx gg rx w i = -1 from (if_neg n0).trans ((if_neg n1).trans (if_neg n2))] at hK; exact hK _ g hQ0)
      · refine z_iload_n dX11_octet_35 rfl ?_
        refine z_iconst (w := 0) dX11_octet_36 (by decide) ?_
        refine z_aload_n dX11_octet_37 rfl ?_
        refine zr_get dX11_octet_38 fX11_93_11 rfl rfl ?_
        rw [e5]
        refine z_iconst (w := 1) dX11_octet_41 (by decide) ?_
        refine z_isub dX11_octet_42 ?_
        refine zcall3 (zck_S (R' := rX11_in) (M' := mX11_in) (fun _ _ _ _ => tX11_in) kX11_in lX11_88 (by decide +kernel) rfl) dX11_octet_43 (Nat.le_of_ble_eq_true rfl) (Nat.le_of_ble_eq_true rfl) (Nat.le_of_ble_eq_true rfl) ?_
        refine ⟨_, _, _, rfl, ?_⟩
        rw [zif_in (k := a 1) (by omega)]
        refine z_if_eq (t := 56) dX11_octet_46 (by decide) (fun q46 => ?_) (fun q46 => ?_)
        · refine z_iload_n dX11_octet_56 rfl ?_
          refine z_iconst (w := 2) dX11_octet_57 (by decide) ?_
          refine z_icmp_ne (t := 84) dX11_octet_58 (by decide) (fun q58 => ?_) (fun q58 => ?_)
          · refine z_iconst (w := -1) dX11_octet_84 (by decide) ?_
            refine z_ireturn dX11_octet_85 trivial (Nat.le_of_ble_eq_true rfl) (Nat.le_of_ble_eq_true rfl) ?_
            have n0 : ¬ (w = 0 ∧ zIn i (a 0)) := fun p => (by first | exact q6 p.1 | exact zi10.mp q20 p.2)
            have n1 : ¬ (w = 1 ∧ zIn i (a 1)) := fun p => (by first | exact q32 p.1 | exact zi10.mp q46 p.2)
            first
            | (rw [show zQoc a tx gg rx w i = nI (rx (zt i)) from (if_neg n0).trans ((if_neg n1).trans (if_pos ⟨q58, zi11.mp q72⟩))] at hK; exact hK _ g hQ0)
            | (have n2 : ¬ (w = 2 ∧ zIn i (a 2)) := fun p => (by first | exact q58 p.1 | exact zi10.mp q72 p.2); rw [show zQoc a tx gg rx w i = -1 from (if_neg n0).trans ((if_neg n1).trans (if_neg n2))] at hK; exact hK _ g hQ0)
          · refine z_iload_n dX11_octet_61 rfl ?_
            refine z_iconst (w := 0) dX11_octet_62 (by decide) ?_
            refine z_aload_n dX11_octet_63 rfl ?_
            refine zr_get dX11_octet_64 fX11_96_11 rfl rfl ?_
            rw [e7]
            refine z_iconst (w := 1) dX11_octet_67 (by decide) ?_
            refine z_isub dX11_octet_68 ?_
            refine zcall3 (zck_S (R' := rX11_in) (M' := mX11_in) (fun _ _ _ _ => tX11_in) kX11_in lX11_88 (by decide +kernel) rfl) dX11_octet_69 (Nat.le_of_ble_eq_true rfl) (Nat.le_of_ble_eq_true rfl) (Nat.le_of_ble_eq_true rfl) ?_
            refine ⟨_, _, _, rfl, ?_⟩
            rw [zif_in (k := a 2) (by omega)]
            refine z_if_eq (t := 84) dX11_octet_72 (by decide) (fun q72 => ?_) (fun q72 => ?_)
            · refine z_iconst (w := -1) dX11_octet_84 (by decide) ?_
              refine z_ireturn dX11_octet_85 trivial (Nat.le_of_ble_eq_true rfl) (Nat.le_of_ble_eq_true rfl) ?_
              have n0 : ¬ (w = 0 ∧ zIn i (a 0)) := fun p => (by first | exact q6 p.1 | exact zi10.mp q20 p.2)
              have n1 : ¬ (w = 1 ∧ zIn i (a 1)) := fun p => (by first | exact q32 p.1 | exact zi10.mp q46 p.2)
              first
              | (rw [show zQoc a tx gg rx w i = nI (rx (zt i)) from (if_neg n0).trans ((if_neg n1).trans (if_pos ⟨q58, zi11.mp q72⟩))] at hK; exact hK _ g hQ0)
              | (have n2 : ¬ (w = 2 ∧ zIn i (a 2)) := fun p => (by first | exact q58 p.1 | exact zi10.mp q72 p.2); rw [show zQoc a tx gg rx w i = -1 from (if_neg n0).trans ((if_neg n1).trans (if_neg n2))] at hK; exact hK _ g hQ0)
            · refine z_aload_n dX11_octet_75 rfl ?_
              refine zr_get dX11_octet_76 fX11_16_11 rfl rfl ?_
              refine z_iload_n dX11_octet_79 rfl ?_
              have hi := zIn.nat (zi11.mp q72) (show a 2 < 2147483648 by omega)
              refine zr_ald (a := zt i) dX11_octet_80 hi.1 (by decide) (show zt i < 300 by omega) ?_
              rw [r3 _ hi.2]
              refine z_goto (t := 85) dX11_octet_81 (by decide) ?_
              refine z_ireturn dX11_octet_85 trivial (Nat.le_of_ble_eq_true rfl) (Nat.le_of_ble_eq_true rfl) ?_
              have n0 : ¬ (w = 0 ∧ zIn i (a 0)) := fun p => (by first | exact q6 p.1 | exact zi10.mp q20 p.2)
              have n1 : ¬ (w = 1 ∧ zIn i (a 1)) := fun p => (by first | exact q32 p.1 | exact zi10.mp q46 p.2)
              first
              | (rw [show zQoc a tx gg rx w i = nI (rx (zt i)) from (if_neg n0).trans ((if_neg n1).trans (if_pos ⟨q58, zi11.mp q72⟩))] at hK; exact hK _ g hQ0)
              | (have n2 : ¬ (w = 2 ∧ zIn i (a 2)) := fun p => (by first | exact q58 p.1 | exact zi10.mp q72 p.2); rw [show zQoc a tx gg rx w i = -1 from (if_neg n0).trans ((if_neg n1).trans (if_neg n2))] at hK; exact hK _ g hQ0)
        · refine z_aload_n dX11_octet_49 rfl ?_
          refine zr_get dX11_octet_50 fX11_13_11 rfl rfl ?_
          refine z_iload_n dX11_octet_53 rfl ?_
          have hi := zIn.nat (zi11.mp q46) (show a 1 < 2147483648 by omega)
          refine zr_ald (a := zt i) dX11_octet_54 hi.1 (by decide) (show zt i < 6000 by omega) ?_
          rw [r2 _ hi.2]
          refine z_ireturn dX11_octet_55 trivial (Nat.le_of_ble_eq_true rfl) (Nat.le_of_ble_eq_true rfl) ?_
          have n0 : ¬ (w = 0 ∧ zIn i (a 0)) := fun p => (by first | exact q6 p.1 | exact zi10.mp q20 p.2)
          rw [show zQoc a tx gg rx w i = gg (zt i) from (if_neg n0).trans (if_pos ⟨q32, zi11.mp q46⟩)] at hK
          exact hK _ g hQ0
    · refine z_aload_n dX11_octet_23 rfl ?_
      refine zr_get dX11_octet_24 fX11_7_11 rfl rfl ?_
      refine z_iload_n dX11_octet_27 rfl ?_
      have hi := zIn.nat (zi11.mp q20) (show a 0 < 2147483648 by omega)
      refine zr_ald (a := zt i) dX11_octet_28 hi.1 (by decide) (show zt i < 300 by omega) ?_
      rw [r1 _ hi.2]
      refine z_ireturn dX11_octet_29 trivial (Nat.le_of_ble_eq_true rfl) (Nat.le_of_ble_eq_true rfl) ?_
      rw [show zQoc a tx gg rx w i = nI (tx (zt i)) from if_pos ⟨q6, zi11.mp q20⟩] at hK
      exact hK _ g hQ0
def zAlt (i b : Int32) (a : Nat → Nat) (gg : Nat → Int32) : (Nat → Int32) × Int32 := if zIn i (a 1) ∧ zIn b 256 then (va_up gg (zt i) b, gg (zt i)) else (gg, -1)
abbrev rX11_alter : Room := ⟨1, 0, 0, 40⟩
def SX11_alter (G : zC) : zS := fun as h n K => ∃ (h0 : zH) (m : Nat) (v : Nat → Int32) (g : Nat → Nat → Int32) (o rm : Nat) (a tx : Nat → Nat) (gg : Nat → Int32) (rx : Nat → Nat) (M : Nat → zMs) (z : Nat → Int32) (XX : Nat → Nat) (F : Nat → Option Nat) (i b : Int32), as = [.ref m, .int i, .int b] ∧ h = zRh G h0 m v g ∧ zOkS o rm a tx M ∧ zRS v g o rm a tx gg rx M z XX F ∧ ∀ v' g', zRS v' g' o rm a tx (zAlt i b a gg).1 rx M z XX F → K (some (.int (zAlt i b a gg).2)) (zRh G h0 m v' g') n
set_option maxRecDepth 100000 in
theorem tvX11_alter {G : zC} {as : List Value} {h : zH} {n : Nat} {K : zP} (hs : SX11_alter G as h n K) : (∃ b fs r, as = .ref b :: r ∧ h b = some (.inr (11, fs))) ∧ zCt G rX11_alter mX11_alter as h n K := by
  obtain ⟨h0, m, v, g, o, rm, a, tx, gg, rx, M, z, XX, F, i, b, rfl, rfl, hB, hS, hK⟩ := hs
  refine ⟨⟨_, _, _, rfl, zRh_o⟩, zCt.of (by decide) (Nat.le_of_ble_eq_true rfl) ?_⟩
  have hQ : zRS (upd v 0 0) g o rm a tx gg rx M z XX F := hS.thr 0
  have hQ0 := hQ
  obtain ⟨b1, b2, b3, b4, b5, b6, b7, b8, btx, bM⟩ := hB
  obtain ⟨e1, e2, e3, e5, e7, e16, e37, e35, e42, r1, r2, r3, c0, c1, r16, r17, hsl⟩ := hQ
  refine z_aload_n dX11_alter_0 rfl ?_
  refine z_iconst (w := 0) dX11_alter_1 (by decide) ?_
  refine zr_put dX11_alter_2 fX11_82_11 rfl (fun q => absurd q (by decide)) zset_0 (by decide) (Or.inl rfl) ?_
  refine z_iload_n dX11_alter_5 rfl ?_
  refine z_iconst (w := 0) dX11_alter_6 (by decide) ?_
  refine z_aload_n dX11_alter_7 rfl ?_
  refine zr_get dX11_alter_8 fX11_93_11 rfl rfl ?_
  rw [e5]
  refine z_iconst (w := 1) dX11_alter_11 (by decide) ?_
  refine z_isub dX11_alter_12 ?_
  refine zcall3 (zck_S (R' := rX11_in) (M' := mX11_in) (fun _ _ _ _ => tX11_in) kX11_in lX11_88 (by decide +kernel) rfl) dX11_alter_13 (Nat.le_of_ble_eq_true rfl) (Nat.le_of_ble_eq_true rfl) (Nat.le_of_ble_eq_true rfl) ?_
  refine ⟨_, _, _, rfl, ?_⟩
  rw [zif_in (k := a 1) (by omega)]
  refine z_if_eq (t := 30) dX11_alter_16 (by decide) (fun q16 => ?_) (fun q16 => ?_)
  · refine z_iconst (w := -1) dX11_alter_30 (by decide) ?_
    refine z_ireturn dX11_alter_31 trivial (Nat.le_of_ble_eq_true rfl) (Nat.le_of_ble_eq_true rfl) ?_
    rw [show zAlt i b a gg = (gg, -1) from if_neg (fun p => by first | exact zi10.mp q16 p.1 | exact zi10.mp q27 p.2)] at hK
    exact hK _ g hQ0
  · refine z_iload_n dX11_alter_19 rfl ?_
    refine z_iconst (w := 0) dX11_alter_20 (by decide) ?_
    refine z_sipush (w := 255) dX11_alter_21 (by decide) ?_
    refine zcall3 (zck_S (R' := rX11_in) (M' := mX11_in) (fun _ _ _ _ => tX11_in) kX11_in lX11_88 (by decide +kernel) rfl) dX11_alter_24 (Nat.le_of_ble_eq_true rfl) (Nat.le_of_ble_eq_true rfl) (Nat.le_of_ble_eq_true rfl) ?_
    refine ⟨_, _, _, rfl, ?_⟩
    rw [show (if (0 : Int32) ≤ b ∧ b ≤ 255 then (1 : Int32) else 0) = if zIn b 256 then 1 else 0 from zif_le (u := 255) (by decide)]
    refine z_if_ne (t := 32) dX11_alter_27 (by decide) (fun q27 => ?_) (fun q27 => ?_)
    · refine z_aload_n dX11_alter_32 rfl ?_
      refine zr_get dX11_alter_33 fX11_13_11 rfl rfl ?_
      refine z_iload_n dX11_alter_36 rfl ?_
      have hi := zIn.nat (zi11.mp q16) (show a 1 < 2147483648 by omega)
      refine zr_ald (a := zt i) dX11_alter_37 hi.1 (by decide) (show zt i < 6000 by omega) ?_
      rw [r2 _ hi.2]
      refine z_istore_n dX11_alter_38 (Nat.le_of_ble_eq_true rfl) ?_
      refine z_aload_n dX11_alter_39 rfl ?_
      refine zr_get dX11_alter_40 fX11_13_11 rfl rfl ?_
      refine z_iload_n dX11_alter_43 rfl ?_
      refine z_iload_n dX11_alter_44 rfl ?_
      refine zr_ast (a := zt i) dX11_alter_45 hi.1 (by decide) (show zt i < 6000 by omega) ?_
      refine z_iload_n dX11_alter_46 rfl ?_
      refine z_ireturn dX11_alter_47 trivial (Nat.le_of_ble_eq_true rfl) (Nat.le_of_ble_eq_true rfl) ?_
      rw [show zAlt i b a gg = (va_up gg (zt i) b, gg (zt i)) from if_pos ⟨zi11.mp q16, zi11.mp q27⟩] at hK
      dsimp only at hK
      refine hK _ _ ⟨(((zfv.refl (S := [])) 1 (by decide)).trans e1), (((zfv.refl (S := [])) 2 (by decide)).trans e2), (((zfv.refl (S := [])) 3 (by decide)).trans e3), (((zfv.refl (S := [])) 5 (by decide)).trans e5), (((zfv.refl (S := [])) 7 (by decide)).trans e7), (((zfv.refl (S := [])) 16 (by decide)).trans e16), (((zfv.refl (S := [])) 37 (by decide)).trans e37), (((zfv.refl (S := [])) 35 (by decide)).trans e35), (((zfv.refl (S := [])) 42 (by decide)).trans e42), (fun i hi => (congrFun (((zfg.refl (S := [2])).up (by decide) _) 1 (by decide)) i).trans (r1 i hi)), ?_, (fun i hi => (congrFun (((zfg.refl (S := [2])).up (by decide) _) 3 (by decide)) i).trans (r3 i hi)), ((congrFun (((zfg.refl (S := [2])).up (by decide) _) 10 (by decide)) 0).trans c0), ((congrFun (((zfg.refl (S := [2])).up (by decide) _) 10 (by decide)) 1).trans c1), (fun w i hi => (congrFun (((zfg.refl (S := [2])).up (by decide) _) 16 (by decide)) i).trans (r16 w i hi)), (fun i hi => ⟨(congrFun (((zfg.refl (S := [2])).up (by decide) _) 17 (by decide)) i).trans (r17 i hi).1, (congrFun (((zfg.refl (S := [2])).up (by decide) _) 18 (by decide)) i).trans (r17 i hi).2⟩), (fun s hs => (hsl s hs).keep ((zfg.refl (S := [2])).up (by decide) _) (by decide))⟩
      intro j hj
      rw [zng]
      by_cases e : j = zt i
      · rw [e, zu_eq, va_up_self]
      · rw [zu_ne e, va_up_ne _ _ e]; exact r2 j hj
    · refine z_iconst (w := -1) dX11_alter_30 (by decide) ?_
      refine z_ireturn dX11_alter_31 trivial (Nat.le_of_ble_eq_true rfl) (Nat.le_of_ble_eq_true rfl) ?_
      rw [show zAlt i b a gg = (gg, -1) from if_neg (fun p => by first | exact zi10.mp q16 p.1 | exact zi10.mp q27 p.2)] at hK
      exact hK _ g hQ0
def zCut (x : Int32) (a : Nat → Nat) : (Nat → Nat) × Int32 := if zIn x (a 1 + 1) then (va_up a 1 (zt x), nI (a 1 - zt x)) else (a, -1)
abbrev rX11_cut : Room := ⟨1, 0, 0, 40⟩
def SX11_cut (G : zC) : zS := fun as h n K => ∃ (h0 : zH) (m : Nat) (v : Nat → Int32) (g : Nat → Nat → Int32) (o rm : Nat) (a tx : Nat → Nat) (gg : Nat → Int32) (rx : Nat → Nat) (M : Nat → zMs) (z : Nat → Int32) (XX : Nat → Nat) (F : Nat → Option Nat) (x : Int32), as = [.ref m, .int x] ∧ h = zRh G h0 m v g ∧ zOkS o rm a tx M ∧ zRS v g o rm a tx gg rx M z XX F ∧ ∀ v' g', zRS v' g' o rm (zCut x a).1 tx gg rx M z XX F → K (some (.int (zCut x a).2)) (zRh G h0 m v' g') n
set_option maxRecDepth 100000 in
theorem tvX11_cut {G : zC} {as : List Value} {h : zH} {n : Nat} {K : zP} (hs : SX11_cut G as h n K) : (∃ b fs r, as = .ref b :: r ∧ h b = some (.inr (11, fs))) ∧ zCt G rX11_cut mX11_cut as h n K := by
  obtain ⟨h0, m, v, g, o, rm, a, tx, gg, rx, M, z, XX, F, x, rfl, rfl, hB, hS, hK⟩ := hs
  refine ⟨⟨_, _, _, rfl, zRh_o⟩, zCt.of (by decide) (Nat.le_of_ble_eq_true rfl) ?_⟩
  have hQ : zRS (upd v 0 0) g o rm a tx gg rx M z XX F := hS.thr 0
  have hQ0 := hQ
  obtain ⟨b1, b2, b3, b4, b5, b6, b7, b8, btx, bM⟩ := hB
  obtain ⟨e1, e2, e3, e5, e7, e16, e37, e35, e42, r1, r2, r3, c0, c1, r16, r17, hsl⟩ := hQ
  refine z_aload_n dX11_cut_0 rfl ?_
  refine z_iconst (w := 0) dX11_cut_1 (by decide) ?_
  refine zr_put dX11_cut_2 fX11_82_11 rfl (fun q => absurd q (by decide)) zset_0 (by decide) (Or.inl rfl) ?_
  refine z_iload_n dX11_cut_5 rfl ?_
  refine z_iconst (w := 0) dX11_cut_6 (by decide) ?_
  refine z_aload_n dX11_cut_7 rfl ?_
  refine zr_get dX11_cut_8 fX11_93_11 rfl rfl ?_
  rw [e5]
  refine zcall3 (zck_S (R' := rX11_in) (M' := mX11_in) (fun _ _ _ _ => tX11_in) kX11_in lX11_88 (by decide +kernel) rfl) dX11_cut_11 (Nat.le_of_ble_eq_true rfl) (Nat.le_of_ble_eq_true rfl) (Nat.le_of_ble_eq_true rfl) ?_
  refine ⟨_, _, _, rfl, ?_⟩
  rw [zif_le (by omega)]
  refine z_if_ne (t := 19) dX11_cut_14 (by decide) (fun q14 => ?_) (fun q14 => ?_)
  · refine z_aload_n dX11_cut_19 rfl ?_
    refine zr_get dX11_cut_20 fX11_93_11 rfl rfl ?_
    rw [e5]
    refine z_iload_n dX11_cut_23 rfl ?_
    refine z_isub dX11_cut_24 ?_
    refine z_istore_n dX11_cut_25 (Nat.le_of_ble_eq_true rfl) ?_
    refine z_aload_n dX11_cut_26 rfl ?_
    refine z_iload_n dX11_cut_27 rfl ?_
    refine zr_put dX11_cut_28 fX11_93_11 rfl (fun q => absurd q (by decide)) zset_5 (by decide) (Or.inl rfl) ?_
    refine z_iload_n dX11_cut_31 rfl ?_
    refine z_ireturn dX11_cut_32 trivial (Nat.le_of_ble_eq_true rfl) (Nat.le_of_ble_eq_true rfl) ?_
    have hi := zIn.nat (zi11.mp q14) (show a 1 + 1 < 2147483648 by omega)
    rw [show zCut x a = (va_up a 1 (zt x), nI (a 1 - zt x)) from if_pos (zi11.mp q14), show nI (a 1 - zt x) = nI (a 1) - x by rw [← zn_sub (by omega), ← hi.1]] at hK
    dsimp only at hK
    exact hK _ g ⟨((((zfv.refl (S := [5])).up (by decide) _) 1 (by decide)).trans e1), ((((zfv.refl (S := [5])).up (by decide) _) 2 (by decide)).trans e2), ((((zfv.refl (S := [5])).up (by decide) _) 3 (by decide)).trans e3), (zu_eq.trans hi.1), ((((zfv.refl (S := [5])).up (by decide) _) 7 (by decide)).trans e7), ((((zfv.refl (S := [5])).up (by decide) _) 16 (by decide)).trans e16), ((((zfv.refl (S := [5])).up (by decide) _) 37 (by decide)).trans e37), ((((zfv.refl (S := [5])).up (by decide) _) 35 (by decide)).trans e35), ((((zfv.refl (S := [5])).up (by decide) _) 42 (by decide)).trans e42), (fun i hi => (congrFun ((zfg.refl (S := [])) 1 (by decide)) i).trans (r1 i hi)), (fun j hj => r2 j (by have hj : j < zt x := hj; omega)), (fun i hi => (congrFun ((zfg.refl (S := [])) 3 (by decide)) i).trans (r3 i hi)), ((congrFun ((zfg.refl (S := [])) 10 (by decide)) 0).trans c0), ((congrFun ((zfg.refl (S := [])) 10 (by decide)) 1).trans c1), (fun w i hi => (congrFun ((zfg.refl (S := [])) 16 (by decide)) i).trans (r16 w i hi)), (fun i hi => ⟨(congrFun ((zfg.refl (S := [])) 17 (by decide)) i).trans (r17 i hi).1, (congrFun ((zfg.refl (S := [])) 18 (by decide)) i).trans (r17 i hi).2⟩), (fun s hs => (hsl s hs).keep (zfg.refl (S := [])) (by decide))⟩
  · refine z_iconst (w := -1) dX11_cut_17 (by decide) ?_
    refine z_ireturn dX11_cut_18 trivial (Nat.le_of_ble_eq_true rfl) (Nat.le_of_ble_eq_true rfl) ?_
    rw [show zCut x a = (a, -1) from if_neg (zi10.mp q14)] at hK
    exact hK _ g hQ0
abbrev rX11_place : Room := ⟨0, 0, 0, 0⟩
def SX11_place (G : zC) : zS := fun as h n K => ∃ (h0 : zH) (m : Nat) (v : Nat → Int32) (g : Nat → Nat → Int32) (o rm : Nat) (a tx : Nat → Nat) (gg : Nat → Int32) (rx : Nat → Nat) (M : Nat → zMs) (z : Nat → Int32) (XX : Nat → Nat) (F : Nat → Option Nat), as = [.ref m] ∧ h = zRh G h0 m v g ∧ zOkS o rm a tx M ∧ zRS v g o rm a tx gg rx M z XX F ∧ ∀ v' g', zRS v' g' o rm a tx gg rx M z XX F → K (some (.int (z 2))) (zRh G h0 m v' g') n
set_option maxRecDepth 100000 in
theorem tvX11_place {G : zC} {as : List Value} {h : zH} {n : Nat} {K : zP} (hs : SX11_place G as h n K) : (∃ b fs r, as = .ref b :: r ∧ h b = some (.inr (11, fs))) ∧ zCt G rX11_place mX11_place as h n K := by
  obtain ⟨h0, m, v, g, o, rm, a, tx, gg, rx, M, z, XX, F, rfl, rfl, hB, hS, hK⟩ := hs
  refine ⟨⟨_, _, _, rfl, zRh_o⟩, zCt.of (by decide) (Nat.le_of_ble_eq_true rfl) ?_⟩
  have hQ : zRS (upd v 0 0) g o rm a tx gg rx M z XX F := hS.thr 0
  have hQ0 := hQ
  obtain ⟨b1, b2, b3, b4, b5, b6, b7, b8, btx, bM⟩ := hB
  obtain ⟨e1, e2, e3, e5, e7, e16, e37, e35, e42, r1, r2, r3, c0, c1, r16, r17, hsl⟩ := hQ
  refine z_aload_n dX11_place_0 rfl ?_
  refine z_iconst (w := 0) dX11_place_1 (by decide) ?_
  refine zr_put dX11_place_2 fX11_82_11 rfl (fun q => absurd q (by decide)) zset_0 (by decide) (Or.inl rfl) ?_
  refine z_aload_n dX11_place_5 rfl ?_
  refine zr_get dX11_place_6 fX11_65_11 rfl rfl ?_
  rw [e42]
  refine z_ireturn dX11_place_9 trivial (Nat.le_of_ble_eq_true rfl) (Nat.le_of_ble_eq_true rfl) ?_
  exact hK _ g hQ0
def zQto (a : Nat → Nat) (z : Nat → Int32) (w : Int32) : Int32 := if ¬ zIn w 3 then -1 else if a 4 = 0 then -3 else z (3 + zt w)
abbrev rX11_told : Room := ⟨1, 0, 0, 40⟩
def SX11_told (G : zC) : zS := fun as h n K => ∃ (h0 : zH) (m : Nat) (v : Nat → Int32) (g : Nat → Nat → Int32) (o rm : Nat) (a tx : Nat → Nat) (gg : Nat → Int32) (rx : Nat → Nat) (M : Nat → zMs) (z : Nat → Int32) (XX : Nat → Nat) (F : Nat → Option Nat) (w : Int32), as = [.ref m, .int w] ∧ h = zRh G h0 m v g ∧ zOkS o rm a tx M ∧ zRS v g o rm a tx gg rx M z XX F ∧ ∀ v' g', zRS v' g' o rm a tx gg rx M z XX F → K (some (.int (zQto a z w))) (zRh G h0 m v' g') n
set_option maxRecDepth 100000 in
theorem tvX11_told {G : zC} {as : List Value} {h : zH} {n : Nat} {K : zP} (hs : SX11_told G as h n K) : (∃ b fs r, as = .ref b :: r ∧ h b = some (.inr (11, fs))) ∧ zCt G rX11_told mX11_told as h n K := by
  obtain ⟨h0, m, v, g, o, rm, a, tx, gg, rx, M, z, XX, F, w, rfl, rfl, hB, hS, hK⟩ := hs
  refine ⟨⟨_, _, _, rfl, zRh_o⟩, zCt.of (by decide) (Nat.le_of_ble_eq_true rfl) ?_⟩
  have hQ : zRS (upd v 0 0) g o rm a tx gg rx M z XX F := hS.thr 0
  have hQ0 := hQ
  obtain ⟨b1, b2, b3, b4, b5, b6, b7, b8, btx, bM⟩ := hB
  obtain ⟨e1, e2, e3, e5, e7, e16, e37, e35, e42, r1, r2, r3, c0, c1, r16, r17, hsl⟩ := hQ
  refine z_aload_n dX11_told_0 rfl ?_
  refine z_iconst (w := 0) dX11_told_1 (by decide) ?_
  refine zr_put dX11_told_2 fX11_82_11 rfl (fun q => absurd q (by decide)) zset_0 (by decide) (Or.inl rfl) ?_
  refine z_iload_n dX11_told_5 rfl ?_
  refine z_iconst (w := 0) dX11_told_6 (by decide) ?_
  refine z_iconst (w := 2) dX11_told_7 (by decide) ?_
  refine zcall3 (zck_S (R' := rX11_in) (M' := mX11_in) (fun _ _ _ _ => tX11_in) kX11_in lX11_88 (by decide +kernel) rfl) dX11_told_8 (Nat.le_of_ble_eq_true rfl) (Nat.le_of_ble_eq_true rfl) (Nat.le_of_ble_eq_true rfl) ?_
  refine ⟨_, _, _, rfl, ?_⟩
  rw [show (if (0 : Int32) ≤ w ∧ w ≤ 2 then (1 : Int32) else 0) = if zIn w 3 then 1 else 0 from zif_le (u := 2) (by decide)]
  refine z_if_ne (t := 18) dX11_told_11 (by decide) (fun q11 => ?_) (fun q11 => ?_)
  · refine z_aload_n dX11_told_18 rfl ?_
    refine zr_get dX11_told_19 fX11_194_11 rfl rfl ?_
    rw [e35]
    refine z_if_eq (t := 34) dX11_told_22 (by decide) (fun q22 => ?_) (fun q22 => ?_)
    · have w22 : a 4 = 0 := by
        by_cases e : a 4 = 0
        · exact e
        · rw [if_neg e] at q22; exact absurd q22 (by decide)
      refine z_bipush (w := -3) dX11_told_34 (by decide) ?_
      refine z_ireturn dX11_told_36 trivial (Nat.le_of_ble_eq_true rfl) (Nat.le_of_ble_eq_true rfl) ?_
      first
      | (rw [show zQto a z w = -1 from if_pos (zi10.mp q11)] at hK; exact hK _ g hQ0)
      | (rw [show zQto a z w = -3 from (if_neg (fun p => p (zi11.mp q11))).trans (if_pos w22)] at hK; exact hK _ g hQ0)
      | (rw [show zQto a z w = z (3 + zt w) from (if_neg (fun p => p (zi11.mp q11))).trans (if_neg w22)] at hK; exact hK _ g hQ0)
    · have w22 : ¬ a 4 = 0 := fun e => q22 (if_pos e)
      refine z_aload_n dX11_told_25 rfl ?_
      refine zr_get dX11_told_26 fX11_56_11 rfl rfl ?_
      refine z_iload_n dX11_told_29 rfl ?_
      have hi := zIn.nat (zi11.mp q11) (by decide)
      refine zr_ald (a := zt w) dX11_told_30 hi.1 (by decide) (show zt w < 3 from hi.2) ?_
      rw [r16 w22 _ hi.2]
      refine z_goto (t := 36) dX11_told_31 (by decide) ?_
      refine z_ireturn dX11_told_36 trivial (Nat.le_of_ble_eq_true rfl) (Nat.le_of_ble_eq_true rfl) ?_
      first
      | (rw [show zQto a z w = -1 from if_pos (zi10.mp q11)] at hK; exact hK _ g hQ0)
      | (rw [show zQto a z w = -3 from (if_neg (fun p => p (zi11.mp q11))).trans (if_pos w22)] at hK; exact hK _ g hQ0)
      | (rw [show zQto a z w = z (3 + zt w) from (if_neg (fun p => p (zi11.mp q11))).trans (if_neg w22)] at hK; exact hK _ g hQ0)
  · refine z_iconst (w := -1) dX11_told_14 (by decide) ?_
    refine z_goto (t := 36) dX11_told_15 (by decide) ?_
    refine z_ireturn dX11_told_36 trivial (Nat.le_of_ble_eq_true rfl) (Nat.le_of_ble_eq_true rfl) ?_
    first
    | (rw [show zQto a z w = -1 from if_pos (zi10.mp q11)] at hK; exact hK _ g hQ0)
    | (rw [show zQto a z w = -3 from (if_neg (fun p => p (zi11.mp q11))).trans (if_pos w22)] at hK; exact hK _ g hQ0)
    | (rw [show zQto a z w = z (3 + zt w) from (if_neg (fun p => p (zi11.mp q11))).trans (if_neg w22)] at hK; exact hK _ g hQ0)
def zQsg (a XX : Nat → Nat) (F : Nat → Option Nat) (i w : Int32) : Int32 := if zIn i (a 4) ∧ zIn w 2 then (if w = 0 then nI (XX (zt i)) else zff (F (zt i))) else -1
abbrev rX11_sign : Room := ⟨1, 0, 0, 40⟩
def SX11_sign (G : zC) : zS := fun as h n K => ∃ (h0 : zH) (m : Nat) (v : Nat → Int32) (g : Nat → Nat → Int32) (o rm : Nat) (a tx : Nat → Nat) (gg : Nat → Int32) (rx : Nat → Nat) (M : Nat → zMs) (z : Nat → Int32) (XX : Nat → Nat) (F : Nat → Option Nat) (i w : Int32), as = [.ref m, .int i, .int w] ∧ h = zRh G h0 m v g ∧ zOkS o rm a tx M ∧ zRS v g o rm a tx gg rx M z XX F ∧ ∀ v' g', zRS v' g' o rm a tx gg rx M z XX F → K (some (.int (zQsg a XX F i w))) (zRh G h0 m v' g') n
set_option maxRecDepth 100000 in
theorem tvX11_sign {G : zC} {as : List Value} {h : zH} {n : Nat} {K : zP} (hs : SX11_sign G as h n K) : (∃ b fs r, as = .ref b :: r ∧ h b = some (.inr (11, fs))) ∧ zCt G rX11_sign mX11_sign as h n K := by
  obtain ⟨h0, m, v, g, o, rm, a, tx, gg, rx, M, z, XX, F, i, w, rfl, rfl, hB, hS, hK⟩ := hs
  refine ⟨⟨_, _, _, rfl, zRh_o⟩, zCt.of (by decide) (Nat.le_of_ble_eq_true rfl) ?_⟩
  have hQ : zRS (upd v 0 0) g o rm a tx gg rx M z XX F := hS.thr 0
  have hQ0 := hQ
  obtain ⟨b1, b2, b3, b4, b5, b6, b7, b8, btx, bM⟩ := hB
  obtain ⟨e1, e2, e3, e5, e7, e16, e37, e35, e42, r1, r2, r3, c0, c1, r16, r17, hsl⟩ := hQ
  refine z_aload_n dX11_sign_0 rfl ?_
  refine z_iconst (w := 0) dX11_sign_1 (by decide) ?_
  refine zr_put dX11_sign_2 fX11_82_11 rfl (fun q => absurd q (by decide)) zset_0 (by decide) (Or.inl rfl) ?_
  refine z_iload_n dX11_sign_5 rfl ?_
  refine z_iconst (w := 0) dX11_sign_6 (by decide) ?_
  refine z_aload_n dX11_sign_7 rfl ?_
  refine zr_get dX11_sign_8 fX11_197_11 rfl rfl ?_
  rw [e37]
  refine z_iconst (w := 1) dX11_sign_11 (by decide) ?_
  refine z_isub dX11_sign_12 ?_
  refine zcall3 (zck_S (R' := rX11_in) (M' := mX11_in) (fun _ _ _ _ => tX11_in) kX11_in lX11_88 (by decide +kernel) rfl) dX11_sign_13 (Nat.le_of_ble_eq_true rfl) (Nat.le_of_ble_eq_true rfl) (Nat.le_of_ble_eq_true rfl) ?_
  refine ⟨_, _, _, rfl, ?_⟩
  rw [zif_in (k := a 4) (by omega)]
  refine z_if_eq (t := 28) dX11_sign_16 (by decide) (fun q16 => ?_) (fun q16 => ?_)
  · refine z_iconst (w := -1) dX11_sign_28 (by decide) ?_
    refine z_ireturn dX11_sign_29 trivial (Nat.le_of_ble_eq_true rfl) (Nat.le_of_ble_eq_true rfl) ?_
    rw [show zQsg a XX F i w = -1 from if_neg (fun p => by first | exact zi10.mp q16 p.1 | exact zi10.mp q25 p.2)] at hK
    exact hK _ g hQ0
  · refine z_iload_n dX11_sign_19 rfl ?_
    refine z_iconst (w := 0) dX11_sign_20 (by decide) ?_
    refine z_iconst (w := 1) dX11_sign_21 (by decide) ?_
    refine zcall3 (zck_S (R' := rX11_in) (M' := mX11_in) (fun _ _ _ _ => tX11_in) kX11_in lX11_88 (by decide +kernel) rfl) dX11_sign_22 (Nat.le_of_ble_eq_true rfl) (Nat.le_of_ble_eq_true rfl) (Nat.le_of_ble_eq_true rfl) ?_
    refine ⟨_, _, _, rfl, ?_⟩
    rw [show (if (0 : Int32) ≤ w ∧ w ≤ 1 then (1 : Int32) else 0) = if zIn w 2 then 1 else 0 from zif_le (u := 1) (by decide)]
    refine z_if_ne (t := 30) dX11_sign_25 (by decide) (fun q25 => ?_) (fun q25 => ?_)
    · refine z_iload_n dX11_sign_30 rfl ?_
      refine z_if_ne (t := 43) dX11_sign_31 (by decide) (fun q31 => ?_) (fun q31 => ?_)
      · refine z_aload_n dX11_sign_43 rfl ?_
        refine zr_get dX11_sign_44 fX11_62_11 rfl rfl ?_
        refine z_iload_n dX11_sign_47 rfl ?_
        have hi := zIn.nat (zi11.mp q16) (show a 4 < 2147483648 by omega)
        refine zr_ald (a := zt i) dX11_sign_48 hi.1 (by decide) (show zt i < 301 by omega) ?_
        rw [(r17 _ hi.2).2]
        refine z_ireturn dX11_sign_49 trivial (Nat.le_of_ble_eq_true rfl) (Nat.le_of_ble_eq_true rfl) ?_
        first
        | (rw [show zQsg a XX F i w = nI (XX (zt i)) from (if_pos ⟨zi11.mp q16, zi11.mp q25⟩).trans (if_pos q31)] at hK; exact hK _ g hQ0)
        | (rw [show zQsg a XX F i w = zff (F (zt i)) from (if_pos ⟨zi11.mp q16, zi11.mp q25⟩).trans (if_neg q31)] at hK; exact hK _ g hQ0)
      · refine z_aload_n dX11_sign_34 rfl ?_
        refine zr_get dX11_sign_35 fX11_59_11 rfl rfl ?_
        refine z_iload_n dX11_sign_38 rfl ?_
        have hi := zIn.nat (zi11.mp q16) (show a 4 < 2147483648 by omega)
        refine zr_ald (a := zt i) dX11_sign_39 hi.1 (by decide) (show zt i < 301 by omega) ?_
        rw [(r17 _ hi.2).1]
        refine z_goto (t := 49) dX11_sign_40 (by decide) ?_
        refine z_ireturn dX11_sign_49 trivial (Nat.le_of_ble_eq_true rfl) (Nat.le_of_ble_eq_true rfl) ?_
        first
        | (rw [show zQsg a XX F i w = nI (XX (zt i)) from (if_pos ⟨zi11.mp q16, zi11.mp q25⟩).trans (if_pos q31)] at hK; exact hK _ g hQ0)
        | (rw [show zQsg a XX F i w = zff (F (zt i)) from (if_pos ⟨zi11.mp q16, zi11.mp q25⟩).trans (if_neg q31)] at hK; exact hK _ g hQ0)
    · refine z_iconst (w := -1) dX11_sign_28 (by decide) ?_
      refine z_ireturn dX11_sign_29 trivial (Nat.le_of_ble_eq_true rfl) (Nat.le_of_ble_eq_true rfl) ?_
      rw [show zQsg a XX F i w = -1 from if_neg (fun p => by first | exact zi10.mp q16 p.1 | exact zi10.mp q25 p.2)] at hK
      exact hK _ g hQ0

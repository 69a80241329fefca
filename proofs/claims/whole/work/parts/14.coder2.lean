/-! a private method of the class above, called by that class's own code -/
theorem zck_UX {X : zX} {R' : Room} {M' : zM} {S : zS} {idx na ci : Nat} {C : String} (hS : ∀ as h n K, S as h n K → (∃ b fs r, as = .ref b :: r ∧ h b = some (.inr (ci, fs))) ∧ zCt (zxG X) R' M' as h n K) (hci : zcn ci C = true) (hc : Cond.code M'.1 M'.2.1 M'.2.2.1 M'.2.2.2 ∈ zT) (hw : zall [.methodLink (zxM X).1.cls idx M'.1, .sameMethod M'.1.cls M'.1.cls M'.1.name M'.1.desc, .instanceMethod M'.1, .initialized M'.1.cls] = true) (hsx : Cond.selects C M'.1 M'.1 ∈ zx) (hn : znd M'.1 na = true) (hR : zroom R' (zxR X) M'.2.2.1 = true) : zCk X (.invokevirtual idx) (na + 1) R'.cells R'.slots S := by
  intro pc lv as rest h n c s K hd hl hcc hss hcat hs kk p e s0 m below meth c0 H locs ls hF h1 h2 h3 h4 h5 h6
  have hts := hF.2.2.2.2.2.1
  have w := zall_spec hw
  simp only [zroom, Bool.and_eq_true, decide_eq_true_eq] at hR
  obtain ⟨⟨b, fs, r, rfl, hb⟩, hM⟩ := hS as h n K hs
  obtain ⟨n1, n2, n3⟩ := znd_spec hn
  have cu : va_CU (zxR X) s0 (zxA X).toArray (zxM X).1.cls C M'.1.cls idx M'.1 M'.1 M'.2.1 M'.2.2.1 M'.2.2.2 (zws M') R' R'.cells R'.slots na :=
    ⟨⟨rfl, rfl, hR.1, hR.2, pay_in hts (zgoodIn hc), List.mem_cons_self⟩, hts _ hc, hts _ (w _ (by simp)), ⟨n1, n2⟩, fun sig hsig => by
      rw [hsig] at n3
      exact (Option.some.inj n3).symm, hts _ (w _ (by simp)), hts _ (w _ (by simp)), va_Decl.of (hts _ (w (.instanceMethod M'.1) (by simp))) (hts _ hc), hts _ (List.mem_append_right _ hsx), hts _ (w (.instanceMethod M'.1) (by simp))⟩
  exact z_run (va_runU (b := b) (As := r) (rest := rest) ⟨hF.1, hF.2.1, hF.2.2.2.1, hF.2.2.2.2.1, hts⟩ hM cu ⟨zblind, zrecv hF.K h3 hb hci, fun U hU hW => ⟨rfl, by rw [hU]; exact h2, by rw [hU]; exact h3, zK.warm hW hF.K⟩⟩ rfl (by simpa using hl) h6.1 (by simp) (lv_room hcat) hd ⟨hcc, hss⟩) hF h1 h2 h4 h5 h6 kk
theorem lPX1_39 : zall [.methodLink RX1 39 yX1_settledPart, .sameMethod RX1 RX1 "settledPart" "()I", .instanceMethod yX1_settledPart, .initialized RX1] = true := by decide +kernel
theorem lPX1_43 : zall [.methodLink RX1 43 yX1_putBit, .sameMethod RX1 RX1 "putBit" "(I)V", .instanceMethod yX1_putBit, .initialized RX1] = true := by decide +kernel
theorem xPX1_39_7 : Cond.selects RX6 yX1_settledPart yX1_settledPart ∈ zx := List.mem_of_getElem? (i := 0) rfl
theorem xPX1_39_9 : Cond.selects RX9 yX1_settledPart yX1_settledPart ∈ zx := List.mem_of_getElem? (i := 1) rfl
theorem xPX1_43_7 : Cond.selects RX6 yX1_putBit yX1_putBit ∈ zx := List.mem_of_getElem? (i := 2) rfl
theorem xPX1_43_9 : Cond.selects RX9 yX1_putBit yX1_putBit ∈ zx := List.mem_of_getElem? (i := 3) rfl
/-! a method of the class above, by super -/
theorem zck_SU {X : zX} {R' : Room} {M' : zM} {S : zS} {idx na ci : Nat} {C : String} {TT : u_T} {N : Nat} (hv : vwCl[ci]? = some (C, TT, N)) (hS : ∀ as h n K, S as h n K → (∃ b fs r, as = .ref b :: r ∧ h b = some (.inr (ci, fs))) ∧ zCt (zxG X) R' M' as h n K) (hci : zcn ci C = true) (hc : Cond.code M'.1 M'.2.1 M'.2.2.1 M'.2.2.2 ∈ zT) (hw : zall [.methodLink (zxM X).1.cls idx M'.1, .sameMethod M'.1.cls M'.1.cls M'.1.name M'.1.desc, .superclass (zxM X).1.cls M'.1.cls, .instanceMethod M'.1, .initialized M'.1.cls] = true) (hni : M'.1.name ≠ "<init>") (hn : znd M'.1 na = true) (hR : zroom R' (zxR X) M'.2.2.1 = true) : zCk X (.invokespecial idx) (na + 1) R'.cells R'.slots S := by
  intro pc lv as rest h n c s K hd hl hcc hss hcat hs kk p e s0 m below meth c0 H locs ls hF h1 h2 h3 h4 h5 h6
  have hts := hF.2.2.2.2.2.1
  have w := zall_spec hw
  simp only [zroom, Bool.and_eq_true, decide_eq_true_eq] at hR
  obtain ⟨⟨b, fs, r, rfl, hb⟩, hM⟩ := hS as h n K hs
  obtain ⟨n1, n2, n3⟩ := znd_spec hn
  have cu : va_CS (zxR X) s0 (zxA X).toArray (zxM X).1.cls idx M'.1 M'.2.1 M'.2.2.1 M'.2.2.2 (zws M') R' R'.cells R'.slots na :=
    ⟨⟨rfl, rfl, hR.1, hR.2, pay_in hts (zgoodIn hc), List.mem_cons_self⟩, hts _ (w _ (by simp)), hts _ (w _ (by simp)), hts _ (w (.superclass (zxM X).1.cls M'.1.cls) (by simp)), hts _ (w (.instanceMethod M'.1) (by simp)), hts _ (w _ (by simp)), hts _ hc, hni, fun sig hsig => by
      rw [hsig] at n3
      exact (Option.some.inj n3).symm⟩
  exact z_run (va_runSU (b := b) (As := r) (rest := rest) (hF.K.1.1 ci _ hv).2 ⟨hF.1, hF.2.1, hF.2.2.2.1, hF.2.2.2.2.1, hts⟩ hM cu ⟨zblind, zrecv hF.K h3 hb hci, fun U hU hW => ⟨rfl, by rw [hU]; exact h2, by rw [hU]; exact h3, zK.warm hW hF.K⟩⟩ rfl (by simpa using hl) h6.1 (by simp) (lv_room hcat) hd ⟨hcc, hss⟩) hF h1 h2 h4 h5 h6 kk
theorem lsX6_15 : zall [.methodLink RX6 15 yX1_begin, .sameMethod RX1 RX1 "begin" "()V", .superclass RX6 RX1, .instanceMethod yX1_begin, .initialized RX1] = true := by decide +kernel
/-! the coder: begin, finish, take -/
def znar (e : zEs) (x y t : Nat) : zEs := (e.1, e.2.1, e.2.2.1 + (e.2.2.2.1 - e.2.2.1 + 1) * x / t, e.2.2.1 + (e.2.2.2.1 - e.2.2.1 + 1) * (x + y) / t - 1, e.2.2.2.2)
def ztake (e : zEs) (x y t : Nat) : zEs := zren 16 (znar e x y t)
def zn65 : (65535 : Int32) = nI 65535 := by decide
theorem znar_ok {lo hi x y t : Nat} (h1 : lo ≤ hi) (h2 : hi < 65536) (h3 : 0 < t) (h4 : t ≤ 16384) (h5 : t ≤ hi - lo + 1) (h6 : x + y ≤ t) (h7 : 0 < y) : (hi - lo + 1) * x / t + 1 ≤ (hi - lo + 1) * (x + y) / t ∧ (hi - lo + 1) * (x + y) / t ≤ hi - lo + 1 ∧ (hi - lo + 1) * (x + y) < 2147483648 ∧ (hi - lo + 1) * x < 2147483648 := by
  generalize hw : hi - lo + 1 = w at *
  have hwb : w ≤ 65536 := by omega
  have b1 : w * (x + y) ≤ w * t := Nat.mul_le_mul_left _ h6
  have b2 : w * t ≤ 65536 * 16384 := Nat.mul_le_mul hwb h4
  have b3 : w * x ≤ w * (x + y) := Nat.mul_le_mul_left _ (by omega)
  refine ⟨?_, ?_, by omega, by omega⟩
  · rw [← Nat.add_div_right _ h3]
    apply Nat.div_le_div_right
    rw [Nat.mul_add]
    have : t * 1 ≤ w * y := Nat.mul_le_mul h5 h7
    omega
  · apply Nat.div_le_of_le_mul
    rw [Nat.mul_comm t w]
    exact b1
abbrev rX1_begin_7 : Room := ⟨1, 0, 0, 40⟩
def SX1_begin_7 (G : zC) : zS := fun as h n K => ∃ (a w r : Nat) (v1 v2 v3 v4 v5 : Value) (tl : List Value) (f : Nat → Int32), as = [.ref a] ∧ h a = some (zO 7 (.ref w :: v1 :: v2 :: v3 :: v4 :: tl)) ∧ h w = some (zO 5 [.ref r, v5]) ∧ h r = some (zI G 2484 f) ∧ ∀ h', zCd G h' 7 a w r tl (f, 0, 0, 65535, 0) → (∀ q, q ≠ a → q ≠ w → q ≠ r → h' q = h q) → K none h' n
set_option maxRecDepth 100000 in
set_option maxHeartbeats 1000000 in
theorem tvX1_begin_7 {G : zC} {as : List Value} {h : zH} {n : Nat} {K : zP} (hs : SX1_begin_7 G as h n K) : (∃ b fs r, as = .ref b :: r ∧ h b = some (.inr (7, fs))) ∧ zCt G rX1_begin_7 mX1_begin as h n K := by
  obtain ⟨a, w, r, v1, v2, v3, v4, v5, tl, f, rfl, hk, hw, hr, hK⟩ := hs
  have haw : a ≠ w := fun q => by rw [q, hw] at hk; simp at hk
  have har : a ≠ r := fun q => by rw [q, hr] at hk; simp at hk
  have hwr : w ≠ r := fun q => by rw [q, hr] at hw; simp at hw
  refine ⟨⟨_, _, _, rfl, hk⟩, zCt.of (by decide) (Nat.le_of_ble_eq_true rfl) ?_⟩
  refine z_aload_n dX1_begin_0 rfl ?_
  refine z_getfield dX1_begin_1 fX1_9_7 rfl (by first | assumption | exact zget_eq | exact zget_ne (by first | assumption | exact Ne.symm (by assumption) | omega) (by first | assumption | exact zget_eq | exact zget_ne (by first | assumption | exact Ne.symm (by assumption) | omega) (by first | assumption | exact zget_eq | exact zget_ne (by first | assumption | exact Ne.symm (by assumption) | omega) (by first | assumption | exact zget_eq)))) rfl ?_
  refine z_iconst (w := 0) dX1_begin_4 (by decide) ?_
  refine zcall2 (zck_V (na := 1) (ci := 5) (R' := rX4_keepFirst) (M' := mX4_keepFirst) (fun _ _ _ _ => tvX4_keepFirst) (by decide) kX4_keepFirst lX1_15 (by decide +kernel) rfl) dX1_begin_5 (Nat.le_of_ble_eq_true rfl) (Nat.le_of_ble_eq_true rfl) (Nat.le_of_ble_eq_true rfl) ?_
  refine ⟨_, _, _, _, rfl, (by first | assumption | exact zget_eq | exact zget_ne (by first | assumption | exact Ne.symm (by assumption) | omega) (by first | assumption | exact zget_eq | exact zget_ne (by first | assumption | exact Ne.symm (by assumption) | omega) (by first | assumption | exact zget_eq | exact zget_ne (by first | assumption | exact Ne.symm (by assumption) | omega) (by first | assumption | exact zget_eq)))), fun h1 e1 o1 => ?_⟩
  have hk1 := (o1 a haw).trans hk
  refine z_aload_n dX1_begin_8 rfl ?_
  refine z_iconst (w := 0) dX1_begin_9 (by decide) ?_
  refine z_putfield dX1_begin_10 fX1_21_7 rfl (fun q => absurd q (by decide)) (by first | assumption | exact zget_eq | exact zget_ne (by first | assumption | exact Ne.symm (by assumption) | omega) (by first | assumption | exact zget_eq | exact zget_ne (by first | assumption | exact Ne.symm (by assumption) | omega) (by first | assumption | exact zget_eq | exact zget_ne (by first | assumption | exact Ne.symm (by assumption) | omega) (by first | assumption | exact zget_eq)))) (Nat.le_of_ble_eq_true rfl) (Or.inl ⟨rfl, _, rfl⟩) ?_
  refine z_aload_n dX1_begin_13 rfl ?_
  refine z_iconst (w := 0) dX1_begin_14 (by decide) ?_
  refine z_putfield dX1_begin_15 fX1_25_7 rfl (fun q => absurd q (by decide)) (by first | assumption | exact zget_eq | exact zget_ne (by first | assumption | exact Ne.symm (by assumption) | omega) (by first | assumption | exact zget_eq | exact zget_ne (by first | assumption | exact Ne.symm (by assumption) | omega) (by first | assumption | exact zget_eq | exact zget_ne (by first | assumption | exact Ne.symm (by assumption) | omega) (by first | assumption | exact zget_eq)))) (Nat.le_of_ble_eq_true rfl) (Or.inl ⟨rfl, _, rfl⟩) ?_
  refine z_aload_n dX1_begin_18 rfl ?_
  refine z_ldc dX1_begin_19 coX1_28 ?_
  refine z_putfield dX1_begin_21 fX1_29_7 rfl (fun q => absurd q (by decide)) (by first | assumption | exact zget_eq | exact zget_ne (by first | assumption | exact Ne.symm (by assumption) | omega) (by first | assumption | exact zget_eq | exact zget_ne (by first | assumption | exact Ne.symm (by assumption) | omega) (by first | assumption | exact zget_eq | exact zget_ne (by first | assumption | exact Ne.symm (by assumption) | omega) (by first | assumption | exact zget_eq)))) (Nat.le_of_ble_eq_true rfl) (Or.inl ⟨rfl, _, rfl⟩) ?_
  refine z_aload_n dX1_begin_24 rfl ?_
  refine z_iconst (w := 0) dX1_begin_25 (by decide) ?_
  refine z_putfield dX1_begin_26 fX1_32_7 rfl (fun q => absurd q (by decide)) (by first | assumption | exact zget_eq | exact zget_ne (by first | assumption | exact Ne.symm (by assumption) | omega) (by first | assumption | exact zget_eq | exact zget_ne (by first | assumption | exact Ne.symm (by assumption) | omega) (by first | assumption | exact zget_eq | exact zget_ne (by first | assumption | exact Ne.symm (by assumption) | omega) (by first | assumption | exact zget_eq)))) (Nat.le_of_ble_eq_true rfl) (Or.inl ⟨rfl, _, rfl⟩) ?_
  refine z_vreturn dX1_begin_29 rfl (Nat.le_of_ble_eq_true rfl) (Nat.le_of_ble_eq_true rfl) ?_
  exact hK _ ⟨by rw [zget_eq]; rfl, by rw [zup_ne (Ne.symm haw), zup_ne (Ne.symm haw), zup_ne (Ne.symm haw), zup_ne (Ne.symm haw), e1]; simp [nI_0], by rw [zup_ne (Ne.symm har), zup_ne (Ne.symm har), zup_ne (Ne.symm har), zup_ne (Ne.symm har), o1 r (Ne.symm hwr)]; exact hr⟩ (fun q g1 g2 g3 => by rw [zup_ne g1, zup_ne g1, zup_ne g1, zup_ne g1, o1 q g2])
abbrev rX1_finish_7 : Room := ⟨2, 0, 0, 80⟩
def SX1_finish_7 (G : zC) : zS := fun as h n K => ∃ (a w r : Nat) (tl : List Value) (e : zEs), as = [.ref a] ∧ zCd G h 7 a w r tl e ∧ e.2.2.1 < 65536 ∧ e.2.1 + e.2.2.2.2 + 2 ≤ 19872 ∧ ∀ h', zCd G h' 7 a w r tl (zput1 (e.1, e.2.1, e.2.2.1, e.2.2.2.1, e.2.2.2.2 + 1) (if e.2.2.1 < 16384 then 0 else 1)) → (∀ q, q ≠ a → q ≠ w → q ≠ r → h' q = h q) → K none h' n
set_option maxRecDepth 100000 in
set_option maxHeartbeats 1000000 in
theorem tvX1_finish_7 {G : zC} {as : List Value} {h : zH} {n : Nat} {K : zP} (hs : SX1_finish_7 G as h n K) : (∃ b fs r, as = .ref b :: r ∧ h b = some (.inr (7, fs))) ∧ zCt G rX1_finish_7 mX1_finish as h n K := by
  obtain ⟨a, w, r, tl, ⟨f, p, lo, hi, held⟩, rfl, hC, hlo, hcap, hK⟩ := hs
  obtain ⟨haw, har, hwr⟩ := hC.ne (by decide)
  obtain ⟨hk, hw, hr⟩ := hC
  dsimp only at hk hw hr hlo hcap hK
  refine ⟨⟨_, _, _, rfl, hk⟩, zCt.of (by decide) (Nat.le_of_ble_eq_true rfl) ?_⟩
  refine z_aload_n dX1_finish_0 rfl ?_
  refine z_dup dX1_finish_1 rfl ?_
  refine z_getfield dX1_finish_2 fX1_32_7 rfl (by first | assumption | exact zget_eq | exact zget_ne (by first | assumption | exact Ne.symm (by assumption) | omega) (by first | assumption | exact zget_eq | exact zget_ne (by first | assumption | exact Ne.symm (by assumption) | omega) (by first | assumption | exact zget_eq | exact zget_ne (by first | assumption | exact Ne.symm (by assumption) | omega) (by first | assumption | exact zget_eq)))) rfl ?_
  refine z_iconst (w := 1) dX1_finish_5 (by decide) ?_
  refine z_iadd dX1_finish_6 ?_
  refine z_putfield dX1_finish_7 fX1_32_7 rfl (fun q => absurd q (by decide)) (by first | assumption | exact zget_eq | exact zget_ne (by first | assumption | exact Ne.symm (by assumption) | omega) (by first | assumption | exact zget_eq | exact zget_ne (by first | assumption | exact Ne.symm (by assumption) | omega) (by first | assumption | exact zget_eq | exact zget_ne (by first | assumption | exact Ne.symm (by assumption) | omega) (by first | assumption | exact zget_eq)))) (Nat.le_of_ble_eq_true rfl) (Or.inl ⟨rfl, _, rfl⟩) ?_
  refine z_aload_n dX1_finish_10 rfl ?_
  refine z_aload_n dX1_finish_11 rfl ?_
  refine z_getfield dX1_finish_12 fX1_25_7 rfl (by first | assumption | exact zget_eq | exact zget_ne (by first | assumption | exact Ne.symm (by assumption) | omega) (by first | assumption | exact zget_eq | exact zget_ne (by first | assumption | exact Ne.symm (by assumption) | omega) (by first | assumption | exact zget_eq | exact zget_ne (by first | assumption | exact Ne.symm (by assumption) | omega) (by first | assumption | exact zget_eq)))) rfl ?_
  refine z_sipush (w := 16384) dX1_finish_15 (by decide) ?_
  refine z_icmp_ge (t := 25) dX1_finish_18 (by decide) (fun q18 => ?_) (fun q18 => ?_)
  · rw [zn16, nI_leI (by omega) (by omega)] at q18
    rw [if_neg (by omega)] at hK
    refine z_iconst (w := 1) dX1_finish_25 (by decide) ?_
    refine zcall2 (zck_UX (na := 1) (ci := 7) (C := RX6) (R' := rX1_putBit_7) (M' := mX1_putBit) (fun _ _ _ _ => tvX1_putBit_7) (by decide) kX1_putBit lPX1_43 xPX1_43_7 (by decide +kernel) rfl) dX1_finish_26 (Nat.le_of_ble_eq_true rfl) (Nat.le_of_ble_eq_true rfl) (Nat.le_of_ble_eq_true rfl) ?_
    refine ⟨a, w, r, tl, (f, p, lo, hi, held + 1), _, rfl, ⟨by rw [zget_eq]; simp [nI_1], by rw [zup_ne (Ne.symm haw)]; exact hw, by rw [zup_ne (Ne.symm har)]; exact hr⟩, (by show p + 1 + (held + 1) ≤ 19872; omega), fun h1 c1 o1 => ?_⟩
    refine z_vreturn dX1_finish_29 rfl (Nat.le_of_ble_eq_true rfl) (Nat.le_of_ble_eq_true rfl) ?_
    exact hK _ c1 (fun q g1 g2 g3 => by rw [o1 q g1 g2 g3, zup_ne g1])
  · rw [zn16, nI_leI (by omega) (by omega)] at q18
    rw [if_pos (by omega)] at hK
    refine z_iconst (w := 0) dX1_finish_21 (by decide) ?_
    refine z_goto (t := 26) dX1_finish_22 (by decide) ?_
    refine zcall2 (zck_UX (na := 1) (ci := 7) (C := RX6) (R' := rX1_putBit_7) (M' := mX1_putBit) (fun _ _ _ _ => tvX1_putBit_7) (by decide) kX1_putBit lPX1_43 xPX1_43_7 (by decide +kernel) rfl) dX1_finish_26 (Nat.le_of_ble_eq_true rfl) (Nat.le_of_ble_eq_true rfl) (Nat.le_of_ble_eq_true rfl) ?_
    refine ⟨a, w, r, tl, (f, p, lo, hi, held + 1), _, rfl, ⟨by rw [zget_eq]; simp [nI_1], by rw [zup_ne (Ne.symm haw)]; exact hw, by rw [zup_ne (Ne.symm har)]; exact hr⟩, (by show p + 1 + (held + 1) ≤ 19872; omega), fun h1 c1 o1 => ?_⟩
    refine z_vreturn dX1_finish_29 rfl (Nat.le_of_ble_eq_true rfl) (Nat.le_of_ble_eq_true rfl) ?_
    exact hK _ c1 (fun q g1 g2 g3 => by rw [o1 q g1 g2 g3, zup_ne g1])
abbrev rX1_begin_9 : Room := ⟨1, 0, 0, 40⟩
def SX1_begin_9 (G : zC) : zS := fun as h n K => ∃ (a w r : Nat) (v1 v2 v3 v4 v5 : Value) (tl : List Value) (f : Nat → Int32), as = [.ref a] ∧ h a = some (zO 9 (.ref w :: v1 :: v2 :: v3 :: v4 :: tl)) ∧ h w = some (zO 5 [.ref r, v5]) ∧ h r = some (zI G 2484 f) ∧ ∀ h', zCd G h' 9 a w r tl (f, 0, 0, 65535, 0) → (∀ q, q ≠ a → q ≠ w → q ≠ r → h' q = h q) → K none h' n
set_option maxRecDepth 100000 in
set_option maxHeartbeats 1000000 in
theorem tvX1_begin_9 {G : zC} {as : List Value} {h : zH} {n : Nat} {K : zP} (hs : SX1_begin_9 G as h n K) : (∃ b fs r, as = .ref b :: r ∧ h b = some (.inr (9, fs))) ∧ zCt G rX1_begin_9 mX1_begin as h n K := by
  obtain ⟨a, w, r, v1, v2, v3, v4, v5, tl, f, rfl, hk, hw, hr, hK⟩ := hs
  have haw : a ≠ w := fun q => by rw [q, hw] at hk; simp at hk
  have har : a ≠ r := fun q => by rw [q, hr] at hk; simp at hk
  have hwr : w ≠ r := fun q => by rw [q, hr] at hw; simp at hw
  refine ⟨⟨_, _, _, rfl, hk⟩, zCt.of (by decide) (Nat.le_of_ble_eq_true rfl) ?_⟩
  refine z_aload_n dX1_begin_0 rfl ?_
  refine z_getfield dX1_begin_1 fX1_9_9 rfl (by first | assumption | exact zget_eq | exact zget_ne (by first | assumption | exact Ne.symm (by assumption) | omega) (by first | assumption | exact zget_eq | exact zget_ne (by first | assumption | exact Ne.symm (by assumption) | omega) (by first | assumption | exact zget_eq | exact zget_ne (by first | assumption | exact Ne.symm (by assumption) | omega) (by first | assumption | exact zget_eq)))) rfl ?_
  refine z_iconst (w := 0) dX1_begin_4 (by decide) ?_
  refine zcall2 (zck_V (na := 1) (ci := 5) (R' := rX4_keepFirst) (M' := mX4_keepFirst) (fun _ _ _ _ => tvX4_keepFirst) (by decide) kX4_keepFirst lX1_15 (by decide +kernel) rfl) dX1_begin_5 (Nat.le_of_ble_eq_true rfl) (Nat.le_of_ble_eq_true rfl) (Nat.le_of_ble_eq_true rfl) ?_
  refine ⟨_, _, _, _, rfl, (by first | assumption | exact zget_eq | exact zget_ne (by first | assumption | exact Ne.symm (by assumption) | omega) (by first | assumption | exact zget_eq | exact zget_ne (by first | assumption | exact Ne.symm (by assumption) | omega) (by first | assumption | exact zget_eq | exact zget_ne (by first | assumption | exact Ne.symm (by assumption) | omega) (by first | assumption | exact zget_eq)))), fun h1 e1 o1 => ?_⟩
  have hk1 := (o1 a haw).trans hk
  refine z_aload_n dX1_begin_8 rfl ?_
  refine z_iconst (w := 0) dX1_begin_9 (by decide) ?_
  refine z_putfield dX1_begin_10 fX1_21_9 rfl (fun q => absurd q (by decide)) (by first | assumption | exact zget_eq | exact zget_ne (by first | assumption | exact Ne.symm (by assumption) | omega) (by first | assumption | exact zget_eq | exact zget_ne (by first | assumption | exact Ne.symm (by assumption) | omega) (by first | assumption | exact zget_eq | exact zget_ne (by first | assumption | exact Ne.symm (by assumption) | omega) (by first | assumption | exact zget_eq)))) (Nat.le_of_ble_eq_true rfl) (Or.inl ⟨rfl, _, rfl⟩) ?_
  refine z_aload_n dX1_begin_13 rfl ?_
  refine z_iconst (w := 0) dX1_begin_14 (by decide) ?_
  refine z_putfield dX1_begin_15 fX1_25_9 rfl (fun q => absurd q (by decide)) (by first | assumption | exact zget_eq | exact zget_ne (by first | assumption | exact Ne.symm (by assumption) | omega) (by first | assumption | exact zget_eq | exact zget_ne (by first | assumption | exact Ne.symm (by assumption) | omega) (by first | assumption | exact zget_eq | exact zget_ne (by first | assumption | exact Ne.symm (by assumption) | omega) (by first | assumption | exact zget_eq)))) (Nat.le_of_ble_eq_true rfl) (Or.inl ⟨rfl, _, rfl⟩) ?_
  refine z_aload_n dX1_begin_18 rfl ?_
  refine z_ldc dX1_begin_19 coX1_28 ?_
  refine z_putfield dX1_begin_21 fX1_29_9 rfl (fun q => absurd q (by decide)) (by first | assumption | exact zget_eq | exact zget_ne (by first | assumption | exact Ne.symm (by assumption) | omega) (by first | assumption | exact zget_eq | exact zget_ne (by first | assumption | exact Ne.symm (by assumption) | omega) (by first | assumption | exact zget_eq | exact zget_ne (by first | assumption | exact Ne.symm (by assumption) | omega) (by first | assumption | exact zget_eq)))) (Nat.le_of_ble_eq_true rfl) (Or.inl ⟨rfl, _, rfl⟩) ?_
  refine z_aload_n dX1_begin_24 rfl ?_
  refine z_iconst (w := 0) dX1_begin_25 (by decide) ?_
  refine z_putfield dX1_begin_26 fX1_32_9 rfl (fun q => absurd q (by decide)) (by first | assumption | exact zget_eq | exact zget_ne (by first | assumption | exact Ne.symm (by assumption) | omega) (by first | assumption | exact zget_eq | exact zget_ne (by first | assumption | exact Ne.symm (by assumption) | omega) (by first | assumption | exact zget_eq | exact zget_ne (by first | assumption | exact Ne.symm (by assumption) | omega) (by first | assumption | exact zget_eq)))) (Nat.le_of_ble_eq_true rfl) (Or.inl ⟨rfl, _, rfl⟩) ?_
  refine z_vreturn dX1_begin_29 rfl (Nat.le_of_ble_eq_true rfl) (Nat.le_of_ble_eq_true rfl) ?_
  exact hK _ ⟨by rw [zget_eq]; rfl, by rw [zup_ne (Ne.symm haw), zup_ne (Ne.symm haw), zup_ne (Ne.symm haw), zup_ne (Ne.symm haw), e1]; simp [nI_0], by rw [zup_ne (Ne.symm har), zup_ne (Ne.symm har), zup_ne (Ne.symm har), zup_ne (Ne.symm har), o1 r (Ne.symm hwr)]; exact hr⟩ (fun q g1 g2 g3 => by rw [zup_ne g1, zup_ne g1, zup_ne g1, zup_ne g1, o1 q g2])
abbrev rX1_finish_9 : Room := ⟨2, 0, 0, 80⟩
def SX1_finish_9 (G : zC) : zS := fun as h n K => ∃ (a w r : Nat) (tl : List Value) (e : zEs), as = [.ref a] ∧ zCd G h 9 a w r tl e ∧ e.2.2.1 < 65536 ∧ e.2.1 + e.2.2.2.2 + 2 ≤ 19872 ∧ ∀ h', zCd G h' 9 a w r tl (zput1 (e.1, e.2.1, e.2.2.1, e.2.2.2.1, e.2.2.2.2 + 1) (if e.2.2.1 < 16384 then 0 else 1)) → (∀ q, q ≠ a → q ≠ w → q ≠ r → h' q = h q) → K none h' n
set_option maxRecDepth 100000 in
set_option maxHeartbeats 1000000 in
theorem tvX1_finish_9 {G : zC} {as : List Value} {h : zH} {n : Nat} {K : zP} (hs : SX1_finish_9 G as h n K) : (∃ b fs r, as = .ref b :: r ∧ h b = some (.inr (9, fs))) ∧ zCt G rX1_finish_9 mX1_finish as h n K := by
  obtain ⟨a, w, r, tl, ⟨f, p, lo, hi, held⟩, rfl, hC, hlo, hcap, hK⟩ := hs
  obtain ⟨haw, har, hwr⟩ := hC.ne (by decide)
  obtain ⟨hk, hw, hr⟩ := hC
  dsimp only at hk hw hr hlo hcap hK
  refine ⟨⟨_, _, _, rfl, hk⟩, zCt.of (by decide) (Nat.le_of_ble_eq_true rfl) ?_⟩
  refine z_aload_n dX1_finish_0 rfl ?_
  refine z_dup dX1_finish_1 rfl ?_
  refine z_getfield dX1_finish_2 fX1_32_9 rfl (by first | assumption | exact zget_eq | exact zget_ne (by first | assumption | exact Ne.symm (by assumption) | omega) (by first | assumption | exact zget_eq | exact zget_ne (by first | assumption | exact Ne.symm (by assumption) | omega) (by first | assumption | exact zget_eq | exact zget_ne (by first | assumption | exact Ne.symm (by assumption) | omega) (by first | assumption | exact zget_eq)))) rfl ?_
  refine z_iconst (w := 1) dX1_finish_5 (by decide) ?_
  refine z_iadd dX1_finish_6 ?_
  refine z_putfield dX1_finish_7 fX1_32_9 rfl (fun q => absurd q (by decide)) (by first | assumption | exact zget_eq | exact zget_ne (by first | assumption | exact Ne.symm (by assumption) | omega) (by first | assumption | exact zget_eq | exact zget_ne (by first | assumption | exact Ne.symm (by assumption) | omega) (by first | assumption | exact zget_eq | exact zget_ne (by first | assumption | exact Ne.symm (by assumption) | omega) (by first | assumption | exact zget_eq)))) (Nat.le_of_ble_eq_true rfl) (Or.inl ⟨rfl, _, rfl⟩) ?_
  refine z_aload_n dX1_finish_10 rfl ?_
  refine z_aload_n dX1_finish_11 rfl ?_
  refine z_getfield dX1_finish_12 fX1_25_9 rfl (by first | assumption | exact zget_eq | exact zget_ne (by first | assumption | exact Ne.symm (by assumption) | omega) (by first | assumption | exact zget_eq | exact zget_ne (by first | assumption | exact Ne.symm (by assumption) | omega) (by first | assumption | exact zget_eq | exact zget_ne (by first | assumption | exact Ne.symm (by assumption) | omega) (by first | assumption | exact zget_eq)))) rfl ?_
  refine z_sipush (w := 16384) dX1_finish_15 (by decide) ?_
  refine z_icmp_ge (t := 25) dX1_finish_18 (by decide) (fun q18 => ?_) (fun q18 => ?_)
  · rw [zn16, nI_leI (by omega) (by omega)] at q18
    rw [if_neg (by omega)] at hK
    refine z_iconst (w := 1) dX1_finish_25 (by decide) ?_
    refine zcall2 (zck_UX (na := 1) (ci := 9) (C := RX9) (R' := rX1_putBit_9) (M' := mX1_putBit) (fun _ _ _ _ => tvX1_putBit_9) (by decide) kX1_putBit lPX1_43 xPX1_43_9 (by decide +kernel) rfl) dX1_finish_26 (Nat.le_of_ble_eq_true rfl) (Nat.le_of_ble_eq_true rfl) (Nat.le_of_ble_eq_true rfl) ?_
    refine ⟨a, w, r, tl, (f, p, lo, hi, held + 1), _, rfl, ⟨by rw [zget_eq]; simp [nI_1], by rw [zup_ne (Ne.symm haw)]; exact hw, by rw [zup_ne (Ne.symm har)]; exact hr⟩, (by show p + 1 + (held + 1) ≤ 19872; omega), fun h1 c1 o1 => ?_⟩
    refine z_vreturn dX1_finish_29 rfl (Nat.le_of_ble_eq_true rfl) (Nat.le_of_ble_eq_true rfl) ?_
    exact hK _ c1 (fun q g1 g2 g3 => by rw [o1 q g1 g2 g3, zup_ne g1])
  · rw [zn16, nI_leI (by omega) (by omega)] at q18
    rw [if_pos (by omega)] at hK
    refine z_iconst (w := 0) dX1_finish_21 (by decide) ?_
    refine z_goto (t := 26) dX1_finish_22 (by decide) ?_
    refine zcall2 (zck_UX (na := 1) (ci := 9) (C := RX9) (R' := rX1_putBit_9) (M' := mX1_putBit) (fun _ _ _ _ => tvX1_putBit_9) (by decide) kX1_putBit lPX1_43 xPX1_43_9 (by decide +kernel) rfl) dX1_finish_26 (Nat.le_of_ble_eq_true rfl) (Nat.le_of_ble_eq_true rfl) (Nat.le_of_ble_eq_true rfl) ?_
    refine ⟨a, w, r, tl, (f, p, lo, hi, held + 1), _, rfl, ⟨by rw [zget_eq]; simp [nI_1], by rw [zup_ne (Ne.symm haw)]; exact hw, by rw [zup_ne (Ne.symm har)]; exact hr⟩, (by show p + 1 + (held + 1) ≤ 19872; omega), fun h1 c1 o1 => ?_⟩
    refine z_vreturn dX1_finish_29 rfl (Nat.le_of_ble_eq_true rfl) (Nat.le_of_ble_eq_true rfl) ?_
    exact hK _ c1 (fun q g1 g2 g3 => by rw [o1 q g1 g2 g3, zup_ne g1])
def zkeep (lv : List (Nat × Value)) : List Nat → List (Nat × Value)
  | [] => []
  | i :: r => match zlk lv i with
    | some v => (i, v) :: zkeep lv r
    | none => zkeep lv r
theorem zkeep_sub {lv : List (Nat × Value)} {ks : List Nat} : ∀ q ∈ zkeep lv ks, q ∈ lv := by
  induction ks with
  | nil => intro q h; simp [zkeep] at h
  | cons i r ih =>
    intro q h
    unfold zkeep at h
    split at h
    · rename_i v hv
      rcases List.mem_cons.mp h with rfl | h
      · exact zlk_mem hv
      · exact ih q h
    · exact ih q h
/-- fewer locals are named -/
theorem zZ.keep {X : zX} {pc : Nat} {lv : List (Nat × Value)} {st : List Value} {h : zH} {n c s : Nat} (ks : List Nat) (k : zZ X pc (zkeep lv ks) st h n c s) : zZ X pc lv st h n c s := zZ.sub zkeep_sub k
theorem zset_some {lo hi g : Nat} (h : zset lo hi = some g) : (g = 0 ∧ hi < 32768) ∨ (g = 32768 ∧ 32768 ≤ lo ∧ 32768 ≤ hi) ∨ (g = 16384 ∧ 16384 ≤ lo ∧ lo < 32768 ∧ 32768 ≤ hi ∧ hi < 49152) := by
  unfold zset at h
  split at h
  · cases h; exact Or.inl ⟨rfl, by assumption⟩
  · split at h
    · cases h; exact Or.inr (Or.inl ⟨rfl, by assumption, by omega⟩)
    · split at h
      · cases h; exact Or.inr (Or.inr ⟨rfl, by omega, by omega, by omega, by omega⟩)
      · cases h
theorem zren_some {d : Nat} {e : zEs} {g : Nat} (h : zset e.2.2.1 e.2.2.2.1 = some g) : zren (d + 1) e = zren d (zshift e g) := by
  simp only [zren, h]
theorem zren_none {d : Nat} {e : zEs} (h : zset e.2.2.1 e.2.2.2.1 = none) : zren (d + 1) e = e := by
  simp only [zren, h]
theorem zposI {t : Nat} (h : 0 < t) (ht : t < 2147483648) : (0 : Int32) < nI t := by
  have := nI_lt h ht
  rwa [nI_0] at this
abbrev rX1_take_9 : Room := ⟨2, 0, 0, 80⟩
def SX1_take_9 (G : zC) : zS := fun as h n K => ∃ (a w r : Nat) (tl : List Value) (e : zEs) (x y t : Nat), as = [.ref a, .int (nI x), .int (nI y), .int (nI t)] ∧ zCd G h 9 a w r tl e ∧ e.2.2.1 ≤ e.2.2.2.1 ∧ e.2.2.2.1 < 65536 ∧ 0 < t ∧ t ≤ 16384 ∧ t ≤ e.2.2.2.1 - e.2.2.1 + 1 ∧ x + y ≤ t ∧ 0 < y ∧ e.2.1 + e.2.2.2.2 + 16 ≤ 19872 ∧ ∀ h', zCd G h' 9 a w r tl (ztake e x y t) → (∀ q, q ≠ a → q ≠ w → q ≠ r → h' q = h q) → K none h' n
set_option maxRecDepth 100000 in
set_option maxHeartbeats 1000000 in
theorem tvX1_take_9 {G : zC} {as : List Value} {h : zH} {n : Nat} {K : zP} (hs : SX1_take_9 G as h n K) : (∃ b fs r, as = .ref b :: r ∧ h b = some (.inr (9, fs))) ∧ zCt G rX1_take_9 mX1_take as h n K := by
  obtain ⟨a, w, r, tl, ⟨f, p, lo, hi, held⟩, x, y, t, rfl, hC, hlh, hhi, ht0, ht1, ht2, hxy, hy, hcap, hK⟩ := hs
  obtain ⟨haw, har, hwr⟩ := hC.ne (by decide)
  have hC0 := hC
  obtain ⟨hk, hw, hr⟩ := hC
  dsimp only at hk hw hr hlh hhi ht2 hcap hK
  obtain ⟨z1, z2, z3, z4⟩ := znar_ok hlh hhi ht0 ht1 ht2 hxy hy
  have z0 : 1 ≤ (hi - lo + 1) * (x + y) / t := Nat.le_trans (Nat.le_add_left 1 _) z1
  have m1 : lo + (hi - lo + 1) * x / t ≤ lo + (hi - lo + 1) * (x + y) / t - 1 := by
    revert z1 z2
    generalize (hi - lo + 1) * x / t = A
    generalize (hi - lo + 1) * (x + y) / t = B
    intro z1 z2
    omega
  have m2 : lo + (hi - lo + 1) * (x + y) / t - 1 < 65536 := by
    revert z1 z2
    generalize (hi - lo + 1) * x / t = A
    generalize (hi - lo + 1) * (x + y) / t = B
    intro z1 z2
    omega
  have hHi : nI lo + nI (hi - lo + 1) * (nI x + nI y) / nI t - 1 = nI (lo + (hi - lo + 1) * (x + y) / t - 1) := by
    rw [nI_add, pk_mul, pk_div z3 ht0 (by omega), nI_add]
    exact pk_sub (b := 1) (by omega)
  have hLo : nI lo + nI (hi - lo + 1) * nI x / nI t = nI (lo + (hi - lo + 1) * x / t) := by
    rw [pk_mul, pk_div z4 ht0 (by omega), nI_add]
  refine ⟨⟨_, _, _, rfl, hk⟩, zCt.of (by decide) (Nat.le_of_ble_eq_true rfl) ?_⟩
  have loop : ∀ (d tn : Nat) (f1 : Nat → Int32) (p1 lo1 hi1 held1 : Nat) (h1 : zH), tn + d = 16 → zCd G h1 9 a w r tl (f1, p1, lo1, hi1, held1) → lo1 ≤ hi1 → hi1 < 65536 → p1 + held1 + d ≤ 19872 → zren d (f1, p1, lo1, hi1, held1) = ztake (f, p, lo, hi, held) x y t → (∀ q, q ≠ a → q ≠ w → q ≠ r → h1 q = h q) → zZ (zXm G rX1_take_9 mX1_take [.ref a, .int (nI x), .int (nI y), .int (nI t)] h n K) 48 [(0, .ref a), (1, .int (nI x)), (2, .int (nI y)), (3, .int (nI t)), (4, .int (nI (hi - lo + 1))), (5, .int (nI tn))] [] h1 n 0 0 := by
    intro d
    induction d with
    | zero =>
      intro tn f1 p1 lo1 hi1 held1 h1 hd hC1 hl1 hh1 hc1 hz ho
      have e16 : tn = 16 := by omega
      subst e16
      refine z_iload dX1_take_48 rfl ?_
      refine z_bipush (w := 16) dX1_take_50 (by decide) ?_
      refine z_icmp_ge (t := 145) dX1_take_52 (by decide) (fun q52 => ?_) (fun q52 => ?_)
      · refine z_vreturn dX1_take_145 rfl (Nat.le_of_ble_eq_true rfl) (Nat.le_of_ble_eq_true rfl) ?_
        rw [← hz] at hK
        exact hK _ hC1 ho
      · exact absurd (by decide) q52
    | succ d ih =>
      intro tn f1 p1 lo1 hi1 held1 h1 hd hC1 hl1 hh1 hc1 hz ho
      have hlt : ¬ (16 : Int32) ≤ nI tn := nI_ge (b := 16) (by omega) (by decide)
      cases hs : zset lo1 hi1 with
      | none =>
        rw [zren_none hs] at hz
        refine z_iload dX1_take_48 rfl ?_
        refine z_bipush (w := 16) dX1_take_50 (by decide) ?_
        refine z_icmp_ge (t := 145) dX1_take_52 (by decide) (fun q52 => ?_) (fun q52 => ?_)
        · exact absurd q52 hlt
        · refine z_aload_n dX1_take_55 rfl ?_
          refine zcall1 (zck_UX (na := 0) (ci := 9) (C := RX9) (R' := rX1_settledPart_9) (M' := mX1_settledPart) (fun _ _ _ _ => tvX1_settledPart_9) (by decide) kX1_settledPart lPX1_39 xPX1_39_9 (by decide +kernel) rfl) dX1_take_56 (Nat.le_of_ble_eq_true rfl) (Nat.le_of_ble_eq_true rfl) (Nat.le_of_ble_eq_true rfl) ?_
          refine ⟨a, w, r, tl, (f1, p1, lo1, hi1, held1), rfl, hC1, (show lo1 < 65536 by omega), (show hi1 < 65536 by omega), ?_⟩
          show zZ _ _ _ [.int (zseti lo1 hi1)] _ _ _ _
          rw [show zseti lo1 hi1 = -1 by simp only [zseti, hs]]
          refine z_istore dX1_take_59 (Nat.le_of_ble_eq_true rfl) ?_
          refine z_iload dX1_take_61 rfl ?_
          refine z_iconst (w := -1) dX1_take_63 (by decide) ?_
          refine z_icmp_ne (t := 68) dX1_take_64 (by decide) (fun q64 => ?_) (fun q64 => ?_)
          · exact absurd rfl q64
          · refine z_vreturn dX1_take_67 rfl (Nat.le_of_ble_eq_true rfl) (Nat.le_of_ble_eq_true rfl) ?_
            rw [← hz] at hK
            exact hK _ hC1 ho
      | some g =>
        rw [zren_some hs] at hz
        rcases zset_some hs with ⟨rfl, b1⟩ | ⟨rfl, b1, b2⟩ | ⟨rfl, b1, b2, b3, b4⟩
        · refine z_iload dX1_take_48 rfl ?_
          refine z_bipush (w := 16) dX1_take_50 (by decide) ?_
          refine z_icmp_ge (t := 145) dX1_take_52 (by decide) (fun q52 => ?_) (fun q52 => ?_)
          · exact absurd q52 hlt
          · refine z_aload_n dX1_take_55 rfl ?_
            refine zcall1 (zck_UX (na := 0) (ci := 9) (C := RX9) (R' := rX1_settledPart_9) (M' := mX1_settledPart) (fun _ _ _ _ => tvX1_settledPart_9) (by decide) kX1_settledPart lPX1_39 xPX1_39_9 (by decide +kernel) rfl) dX1_take_56 (Nat.le_of_ble_eq_true rfl) (Nat.le_of_ble_eq_true rfl) (Nat.le_of_ble_eq_true rfl) ?_
            refine ⟨a, w, r, tl, (f1, p1, lo1, hi1, held1), rfl, hC1, (show lo1 < 65536 by omega), (show hi1 < 65536 by omega), ?_⟩
            show zZ _ _ _ [.int (zseti lo1 hi1)] _ _ _ _
            rw [show zseti lo1 hi1 = 0 by simp only [zseti, hs]; decide]
            refine z_istore dX1_take_59 (Nat.le_of_ble_eq_true rfl) ?_
            refine z_iload dX1_take_61 rfl ?_
            refine z_iconst (w := -1) dX1_take_63 (by decide) ?_
            refine z_icmp_ne (t := 68) dX1_take_64 (by decide) (fun q64 => ?_) (fun q64 => ?_)
            · refine z_iload dX1_take_68 rfl ?_
              refine z_sipush (w := 16384) dX1_take_70 (by decide) ?_
              refine z_icmp_ne (t := 89) dX1_take_73 (by decide) (fun q73 => ?_) (fun q73 => ?_)
              · refine z_aload_n dX1_take_89 rfl ?_
                refine z_iload dX1_take_90 rfl ?_
                refine z_ldc dX1_take_92 coX1_42 ?_
                refine z_icmp_ne (t := 101) dX1_take_94 (by decide) (fun q94 => ?_) (fun q94 => ?_)
                · refine z_iconst (w := 0) dX1_take_101 (by decide) ?_
                  refine zcall2 (zck_UX (na := 1) (ci := 9) (C := RX9) (R' := rX1_putBit_9) (M' := mX1_putBit) (fun _ _ _ _ => tvX1_putBit_9) (by decide) kX1_putBit lPX1_43 xPX1_43_9 (by decide +kernel) rfl) dX1_take_102 (Nat.le_of_ble_eq_true rfl) (Nat.le_of_ble_eq_true rfl) (Nat.le_of_ble_eq_true rfl) ?_
                  refine ⟨a, w, r, tl, (f1, p1, lo1, hi1, held1), _, rfl, hC1, (show p1 + 1 + held1 ≤ 19872 by omega), fun h2 hC2 o2 => ?_⟩
                  obtain ⟨hk2, hw2, hr2⟩ := hC2
                  simp only [zput1] at hk2 hw2 hr2
                  refine z_aload_n dX1_take_105 rfl ?_
                  refine z_iconst (w := 2) dX1_take_106 (by decide) ?_
                  refine z_aload_n dX1_take_107 rfl ?_
                  refine z_getfield dX1_take_108 fX1_25_9 rfl (by first | assumption | exact zget_eq | exact zget_ne (by first | assumption | exact Ne.symm (by assumption) | omega) (by first | assumption | exact zget_eq | exact zget_ne (by first | assumption | exact Ne.symm (by assumption) | omega) (by first | assumption | exact zget_eq | exact zget_ne (by first | assumption | exact Ne.symm (by assumption) | omega) (by first | assumption | exact zget_eq)))) rfl ?_
                  refine z_iload dX1_take_111 rfl ?_
                  refine z_isub dX1_take_113 ?_
                  refine z_imul dX1_take_114 ?_
                  rw [show (2 : Int32) * (nI lo1 - 0) = nI (2 * (lo1 - 0)) by rw [show (0 : Int32) = nI 0 by decide, pk_sub (by omega)]; exact pk_mul 2 _]
                  refine z_putfield dX1_take_115 fX1_25_9 rfl (fun q => absurd q (by decide)) (by first | assumption | exact zget_eq | exact zget_ne (by first | assumption | exact Ne.symm (by assumption) | omega) (by first | assumption | exact zget_eq | exact zget_ne (by first | assumption | exact Ne.symm (by assumption) | omega) (by first | assumption | exact zget_eq | exact zget_ne (by first | assumption | exact Ne.symm (by assumption) | omega) (by first | assumption | exact zget_eq)))) (Nat.le_of_ble_eq_true rfl) (Or.inl ⟨rfl, _, rfl⟩) ?_
                  refine z_aload_n dX1_take_118 rfl ?_
                  refine z_iconst (w := 2) dX1_take_119 (by decide) ?_
                  refine z_aload_n dX1_take_120 rfl ?_
                  refine z_getfield dX1_take_121 fX1_29_9 rfl (by first | assumption | exact zget_eq | exact zget_ne (by first | assumption | exact Ne.symm (by assumption) | omega) (by first | assumption | exact zget_eq | exact zget_ne (by first | assumption | exact Ne.symm (by assumption) | omega) (by first | assumption | exact zget_eq | exact zget_ne (by first | assumption | exact Ne.symm (by assumption) | omega) (by first | assumption | exact zget_eq)))) rfl ?_
                  refine z_iload dX1_take_124 rfl ?_
                  refine z_isub dX1_take_126 ?_
                  refine z_imul dX1_take_127 ?_
                  refine z_iconst (w := 1) dX1_take_128 (by decide) ?_
                  refine z_iadd dX1_take_129 ?_
                  rw [show (2 : Int32) * (nI hi1 - 0) + 1 = nI (2 * (hi1 - 0) + 1) by rw [show (0 : Int32) = nI 0 by decide, pk_sub (by omega), show (2 : Int32) = nI 2 by decide, pk_mul]; exact nI_1 _]
                  refine z_putfield dX1_take_130 fX1_29_9 rfl (fun q => absurd q (by decide)) (by first | assumption | exact zget_eq | exact zget_ne (by first | assumption | exact Ne.symm (by assumption) | omega) (by first | assumption | exact zget_eq | exact zget_ne (by first | assumption | exact Ne.symm (by assumption) | omega) (by first | assumption | exact zget_eq | exact zget_ne (by first | assumption | exact Ne.symm (by assumption) | omega) (by first | assumption | exact zget_eq)))) (Nat.le_of_ble_eq_true rfl) (Or.inl ⟨rfl, _, rfl⟩) ?_
                  refine z_aload_n dX1_take_133 rfl ?_
                  refine z_iload dX1_take_134 rfl ?_
                  refine zcall2 (zck_U (na := 1) (ci := 9) (C := RX9) (owner := "PpmTrees$Coder") (x := ⟨"PpmTrees$Coder", "shifted", "(I)V"⟩) (R' := rX9_shifted) (M' := mX9_shifted) (fun _ _ _ _ => tvX9_shifted) (by decide) kX9_shifted lUX1_46_9 (Or.inl dUX1_46) (by decide +kernel) rfl) dX1_take_136 (Nat.le_of_ble_eq_true rfl) (Nat.le_of_ble_eq_true rfl) (Nat.le_of_ble_eq_true rfl) ?_
                  refine ⟨_, _, _, rfl, zget_eq, ?_⟩
                  refine z_iinc dX1_take_139 rfl (Nat.le_of_ble_eq_true rfl) ?_
                  rw [show nI tn + Int32.ofInt 1 = nI (tn + 1) from nI_1 tn]
                  refine z_goto (t := 48) dX1_take_142 (by decide) ?_
                  refine zZ.keep [0, 1, 2, 3, 4, 5] ?_
                  refine ih (tn + 1) (zsbs (1 - 0) held1 (zsb f1 p1 0) (p1 + 1)) (p1 + 1 + held1) (2 * (lo1 - 0)) (2 * (hi1 - 0) + 1) 0 _ (by omega) (And.intro ?_ (And.intro ?_ ?_)) (by omega) (by omega) (by omega) ?_ ?_
                  · rw [zget_eq]; simp [nI_1]
                  · rw [zup_ne (Ne.symm haw), zup_ne (Ne.symm haw)]; exact hw2
                  · rw [zup_ne (Ne.symm har), zup_ne (Ne.symm har)]; exact hr2
                  · rw [← hz]; rfl
                  · intro q g1 g2 g3; rw [zup_ne g1, zup_ne g1, o2 q g1 g2 g3]; exact ho q g1 g2 g3
                · exact absurd q94 (by decide)
              · exact absurd q73 (by decide)
            · exact absurd q64 (by decide)
        · refine z_iload dX1_take_48 rfl ?_
          refine z_bipush (w := 16) dX1_take_50 (by decide) ?_
          refine z_icmp_ge (t := 145) dX1_take_52 (by decide) (fun q52 => ?_) (fun q52 => ?_)
          · exact absurd q52 hlt
          · refine z_aload_n dX1_take_55 rfl ?_
            refine zcall1 (zck_UX (na := 0) (ci := 9) (C := RX9) (R' := rX1_settledPart_9) (M' := mX1_settledPart) (fun _ _ _ _ => tvX1_settledPart_9) (by decide) kX1_settledPart lPX1_39 xPX1_39_9 (by decide +kernel) rfl) dX1_take_56 (Nat.le_of_ble_eq_true rfl) (Nat.le_of_ble_eq_true rfl) (Nat.le_of_ble_eq_true rfl) ?_
            refine ⟨a, w, r, tl, (f1, p1, lo1, hi1, held1), rfl, hC1, (show lo1 < 65536 by omega), (show hi1 < 65536 by omega), ?_⟩
            show zZ _ _ _ [.int (zseti lo1 hi1)] _ _ _ _
            rw [show zseti lo1 hi1 = 32768 by simp only [zseti, hs]; decide]
            refine z_istore dX1_take_59 (Nat.le_of_ble_eq_true rfl) ?_
            refine z_iload dX1_take_61 rfl ?_
            refine z_iconst (w := -1) dX1_take_63 (by decide) ?_
            refine z_icmp_ne (t := 68) dX1_take_64 (by decide) (fun q64 => ?_) (fun q64 => ?_)
            · refine z_iload dX1_take_68 rfl ?_
              refine z_sipush (w := 16384) dX1_take_70 (by decide) ?_
              refine z_icmp_ne (t := 89) dX1_take_73 (by decide) (fun q73 => ?_) (fun q73 => ?_)
              · refine z_aload_n dX1_take_89 rfl ?_
                refine z_iload dX1_take_90 rfl ?_
                refine z_ldc dX1_take_92 coX1_42 ?_
                refine z_icmp_ne (t := 101) dX1_take_94 (by decide) (fun q94 => ?_) (fun q94 => ?_)
                · exact absurd rfl q94
                · refine z_iconst (w := 1) dX1_take_97 (by decide) ?_
                  refine z_goto (t := 102) dX1_take_98 (by decide) ?_
                  refine zcall2 (zck_UX (na := 1) (ci := 9) (C := RX9) (R' := rX1_putBit_9) (M' := mX1_putBit) (fun _ _ _ _ => tvX1_putBit_9) (by decide) kX1_putBit lPX1_43 xPX1_43_9 (by decide +kernel) rfl) dX1_take_102 (Nat.le_of_ble_eq_true rfl) (Nat.le_of_ble_eq_true rfl) (Nat.le_of_ble_eq_true rfl) ?_
                  refine ⟨a, w, r, tl, (f1, p1, lo1, hi1, held1), _, rfl, hC1, (show p1 + 1 + held1 ≤ 19872 by omega), fun h2 hC2 o2 => ?_⟩
                  obtain ⟨hk2, hw2, hr2⟩ := hC2
                  simp only [zput1] at hk2 hw2 hr2
                  refine z_aload_n dX1_take_105 rfl ?_
                  refine z_iconst (w := 2) dX1_take_106 (by decide) ?_
                  refine z_aload_n dX1_take_107 rfl ?_
                  refine z_getfield dX1_take_108 fX1_25_9 rfl (by first | assumption | exact zget_eq | exact zget_ne (by first | assumption | exact Ne.symm (by assumption) | omega) (by first | assumption | exact zget_eq | exact zget_ne (by first | assumption | exact Ne.symm (by assumption) | omega) (by first | assumption | exact zget_eq | exact zget_ne (by first | assumption | exact Ne.symm (by assumption) | omega) (by first | assumption | exact zget_eq)))) rfl ?_
                  refine z_iload dX1_take_111 rfl ?_
                  refine z_isub dX1_take_113 ?_
                  refine z_imul dX1_take_114 ?_
                  rw [show (2 : Int32) * (nI lo1 - 32768) = nI (2 * (lo1 - 32768)) by rw [show (32768 : Int32) = nI 32768 by decide, pk_sub (by omega)]; exact pk_mul 2 _]
                  refine z_putfield dX1_take_115 fX1_25_9 rfl (fun q => absurd q (by decide)) (by first | assumption | exact zget_eq | exact zget_ne (by first | assumption | exact Ne.symm (by assumption) | omega) (by first | assumption | exact zget_eq | exact zget_ne (by first | assumption | exact Ne.symm (by assumption) | omega) (by first | assumption | exact zget_eq | exact zget_ne (by first | assumption | exact Ne.symm (by assumption) | omega) (by first | assumption | exact zget_eq)))) (Nat.le_of_ble_eq_true rfl) (Or.inl ⟨rfl, _, rfl⟩) ?_
                  refine z_aload_n dX1_take_118 rfl ?_
                  refine z_iconst (w := 2) dX1_take_119 (by decide) ?_
                  refine z_aload_n dX1_take_120 rfl ?_
                  refine z_getfield dX1_take_121 fX1_29_9 rfl (by first | assumption | exact zget_eq | exact zget_ne (by first | assumption | exact Ne.symm (by assumption) | omega) (by first | assumption | exact zget_eq | exact zget_ne (by first | assumption | exact Ne.symm (by assumption) | omega) (by first | assumption | exact zget_eq | exact zget_ne (by first | assumption | exact Ne.symm (by assumption) | omega) (by first | assumption | exact zget_eq)))) rfl ?_
                  refine z_iload dX1_take_124 rfl ?_
                  refine z_isub dX1_take_126 ?_
                  refine z_imul dX1_take_127 ?_
                  refine z_iconst (w := 1) dX1_take_128 (by decide) ?_
                  refine z_iadd dX1_take_129 ?_
                  rw [show (2 : Int32) * (nI hi1 - 32768) + 1 = nI (2 * (hi1 - 32768) + 1) by rw [show (32768 : Int32) = nI 32768 by decide, pk_sub (by omega), show (2 : Int32) = nI 2 by decide, pk_mul]; exact nI_1 _]
                  refine z_putfield dX1_take_130 fX1_29_9 rfl (fun q => absurd q (by decide)) (by first | assumption | exact zget_eq | exact zget_ne (by first | assumption | exact Ne.symm (by assumption) | omega) (by first | assumption | exact zget_eq | exact zget_ne (by first | assumption | exact Ne.symm (by assumption) | omega) (by first | assumption | exact zget_eq | exact zget_ne (by first | assumption | exact Ne.symm (by assumption) | omega) (by first | assumption | exact zget_eq)))) (Nat.le_of_ble_eq_true rfl) (Or.inl ⟨rfl, _, rfl⟩) ?_
                  refine z_aload_n dX1_take_133 rfl ?_
                  refine z_iload dX1_take_134 rfl ?_
                  refine zcall2 (zck_U (na := 1) (ci := 9) (C := RX9) (owner := "PpmTrees$Coder") (x := ⟨"PpmTrees$Coder", "shifted", "(I)V"⟩) (R' := rX9_shifted) (M' := mX9_shifted) (fun _ _ _ _ => tvX9_shifted) (by decide) kX9_shifted lUX1_46_9 (Or.inl dUX1_46) (by decide +kernel) rfl) dX1_take_136 (Nat.le_of_ble_eq_true rfl) (Nat.le_of_ble_eq_true rfl) (Nat.le_of_ble_eq_true rfl) ?_
                  refine ⟨_, _, _, rfl, zget_eq, ?_⟩
                  refine z_iinc dX1_take_139 rfl (Nat.le_of_ble_eq_true rfl) ?_
                  rw [show nI tn + Int32.ofInt 1 = nI (tn + 1) from nI_1 tn]
                  refine z_goto (t := 48) dX1_take_142 (by decide) ?_
                  refine zZ.keep [0, 1, 2, 3, 4, 5] ?_
                  refine ih (tn + 1) (zsbs (1 - 1) held1 (zsb f1 p1 1) (p1 + 1)) (p1 + 1 + held1) (2 * (lo1 - 32768)) (2 * (hi1 - 32768) + 1) 0 _ (by omega) (And.intro ?_ (And.intro ?_ ?_)) (by omega) (by omega) (by omega) ?_ ?_
                  · rw [zget_eq]; simp [nI_1]
                  · rw [zup_ne (Ne.symm haw), zup_ne (Ne.symm haw)]; exact hw2
                  · rw [zup_ne (Ne.symm har), zup_ne (Ne.symm har)]; exact hr2
                  · rw [← hz]; rfl
                  · intro q g1 g2 g3; rw [zup_ne g1, zup_ne g1, o2 q g1 g2 g3]; exact ho q g1 g2 g3
              · exact absurd q73 (by decide)
            · exact absurd q64 (by decide)
        · refine z_iload dX1_take_48 rfl ?_
          refine z_bipush (w := 16) dX1_take_50 (by decide) ?_
          refine z_icmp_ge (t := 145) dX1_take_52 (by decide) (fun q52 => ?_) (fun q52 => ?_)
          · exact absurd q52 hlt
          · refine z_aload_n dX1_take_55 rfl ?_
            refine zcall1 (zck_UX (na := 0) (ci := 9) (C := RX9) (R' := rX1_settledPart_9) (M' := mX1_settledPart) (fun _ _ _ _ => tvX1_settledPart_9) (by decide) kX1_settledPart lPX1_39 xPX1_39_9 (by decide +kernel) rfl) dX1_take_56 (Nat.le_of_ble_eq_true rfl) (Nat.le_of_ble_eq_true rfl) (Nat.le_of_ble_eq_true rfl) ?_
            refine ⟨a, w, r, tl, (f1, p1, lo1, hi1, held1), rfl, hC1, (show lo1 < 65536 by omega), (show hi1 < 65536 by omega), ?_⟩
            show zZ _ _ _ [.int (zseti lo1 hi1)] _ _ _ _
            rw [show zseti lo1 hi1 = 16384 by simp only [zseti, hs]; decide]
            refine z_istore dX1_take_59 (Nat.le_of_ble_eq_true rfl) ?_
            refine z_iload dX1_take_61 rfl ?_
            refine z_iconst (w := -1) dX1_take_63 (by decide) ?_
            refine z_icmp_ne (t := 68) dX1_take_64 (by decide) (fun q64 => ?_) (fun q64 => ?_)
            · refine z_iload dX1_take_68 rfl ?_
              refine z_sipush (w := 16384) dX1_take_70 (by decide) ?_
              refine z_icmp_ne (t := 89) dX1_take_73 (by decide) (fun q73 => ?_) (fun q73 => ?_)
              · exact absurd rfl q73
              · obtain ⟨hk1, hw1, hr1⟩ := id hC1
                dsimp only at hk1 hw1 hr1
                refine z_aload_n dX1_take_76 rfl ?_
                refine z_dup dX1_take_77 rfl ?_
                refine z_getfield dX1_take_78 fX1_32_9 rfl (by first | assumption | exact zget_eq | exact zget_ne (by first | assumption | exact Ne.symm (by assumption) | omega) (by first | assumption | exact zget_eq | exact zget_ne (by first | assumption | exact Ne.symm (by assumption) | omega) (by first | assumption | exact zget_eq | exact zget_ne (by first | assumption | exact Ne.symm (by assumption) | omega) (by first | assumption | exact zget_eq)))) rfl ?_
                refine z_iconst (w := 1) dX1_take_81 (by decide) ?_
                refine z_iadd dX1_take_82 ?_
                refine z_putfield dX1_take_83 fX1_32_9 rfl (fun q => absurd q (by decide)) (by first | assumption | exact zget_eq | exact zget_ne (by first | assumption | exact Ne.symm (by assumption) | omega) (by first | assumption | exact zget_eq | exact zget_ne (by first | assumption | exact Ne.symm (by assumption) | omega) (by first | assumption | exact zget_eq | exact zget_ne (by first | assumption | exact Ne.symm (by assumption) | omega) (by first | assumption | exact zget_eq)))) (Nat.le_of_ble_eq_true rfl) (Or.inl ⟨rfl, _, rfl⟩) ?_
                refine z_goto (t := 105) dX1_take_86 (by decide) ?_
                refine z_aload_n dX1_take_105 rfl ?_
                refine z_iconst (w := 2) dX1_take_106 (by decide) ?_
                refine z_aload_n dX1_take_107 rfl ?_
                refine z_getfield dX1_take_108 fX1_25_9 rfl (by first | assumption | exact zget_eq | exact zget_ne (by first | assumption | exact Ne.symm (by assumption) | omega) (by first | assumption | exact zget_eq | exact zget_ne (by first | assumption | exact Ne.symm (by assumption) | omega) (by first | assumption | exact zget_eq | exact zget_ne (by first | assumption | exact Ne.symm (by assumption) | omega) (by first | assumption | exact zget_eq)))) rfl ?_
                refine z_iload dX1_take_111 rfl ?_
                refine z_isub dX1_take_113 ?_
                refine z_imul dX1_take_114 ?_
                rw [show (2 : Int32) * (nI lo1 - 16384) = nI (2 * (lo1 - 16384)) by rw [show (16384 : Int32) = nI 16384 by decide, pk_sub (by omega)]; exact pk_mul 2 _]
                refine z_putfield dX1_take_115 fX1_25_9 rfl (fun q => absurd q (by decide)) (by first | assumption | exact zget_eq | exact zget_ne (by first | assumption | exact Ne.symm (by assumption) | omega) (by first | assumption | exact zget_eq | exact zget_ne (by first | assumption | exact Ne.symm (by assumption) | omega) (by first | assumption | exact zget_eq | exact zget_ne (by first | assumption | exact Ne.symm (by assumption) | omega) (by first | assumption | exact zget_eq)))) (Nat.le_of_ble_eq_true rfl) (Or.inl ⟨rfl, _, rfl⟩) ?_
                refine z_aload_n dX1_take_118 rfl ?_
                refine z_iconst (w := 2) dX1_take_119 (by decide) ?_
                refine z_aload_n dX1_take_120 rfl ?_
                refine z_getfield dX1_take_121 fX1_29_9 rfl (by first | assumption | exact zget_eq | exact zget_ne (by first | assumption | exact Ne.symm (by assumption) | omega) (by first | assumption | exact zget_eq | exact zget_ne (by first | assumption | exact Ne.symm (by assumption) | omega) (by first | assumption | exact zget_eq | exact zget_ne (by first | assumption | exact Ne.symm (by assumption) | omega) (by first | assumption | exact zget_eq)))) rfl ?_
                refine z_iload dX1_take_124 rfl ?_
                refine z_isub dX1_take_126 ?_
                refine z_imul dX1_take_127 ?_
                refine z_iconst (w := 1) dX1_take_128 (by decide) ?_
                refine z_iadd dX1_take_129 ?_
                rw [show (2 : Int32) * (nI hi1 - 16384) + 1 = nI (2 * (hi1 - 16384) + 1) by rw [show (16384 : Int32) = nI 16384 by decide, pk_sub (by omega), show (2 : Int32) = nI 2 by decide, pk_mul]; exact nI_1 _]
                refine z_putfield dX1_take_130 fX1_29_9 rfl (fun q => absurd q (by decide)) (by first | assumption | exact zget_eq | exact zget_ne (by first | assumption | exact Ne.symm (by assumption) | omega) (by first | assumption | exact zget_eq | exact zget_ne (by first | assumption | exact Ne.symm (by assumption) | omega) (by first | assumption | exact zget_eq | exact zget_ne (by first | assumption | exact Ne.symm (by assumption) | omega) (by first | assumption | exact zget_eq)))) (Nat.le_of_ble_eq_true rfl) (Or.inl ⟨rfl, _, rfl⟩) ?_
                refine z_aload_n dX1_take_133 rfl ?_
                refine z_iload dX1_take_134 rfl ?_
                refine zcall2 (zck_U (na := 1) (ci := 9) (C := RX9) (owner := "PpmTrees$Coder") (x := ⟨"PpmTrees$Coder", "shifted", "(I)V"⟩) (R' := rX9_shifted) (M' := mX9_shifted) (fun _ _ _ _ => tvX9_shifted) (by decide) kX9_shifted lUX1_46_9 (Or.inl dUX1_46) (by decide +kernel) rfl) dX1_take_136 (Nat.le_of_ble_eq_true rfl) (Nat.le_of_ble_eq_true rfl) (Nat.le_of_ble_eq_true rfl) ?_
                refine ⟨_, _, _, rfl, zget_eq, ?_⟩
                refine z_iinc dX1_take_139 rfl (Nat.le_of_ble_eq_true rfl) ?_
                rw [show nI tn + Int32.ofInt 1 = nI (tn + 1) from nI_1 tn]
                refine z_goto (t := 48) dX1_take_142 (by decide) ?_
                refine zZ.keep [0, 1, 2, 3, 4, 5] ?_
                refine ih (tn + 1) f1 p1 (2 * (lo1 - 16384)) (2 * (hi1 - 16384) + 1) (held1 + 1) _ (by omega) (And.intro ?_ (And.intro ?_ ?_)) (by omega) (by omega) (by omega) ?_ ?_
                · rw [zget_eq]; simp [nI_1]
                · rw [zup_ne (Ne.symm haw), zup_ne (Ne.symm haw), zup_ne (Ne.symm haw)]; exact hC1.2.1
                · rw [zup_ne (Ne.symm har), zup_ne (Ne.symm har), zup_ne (Ne.symm har)]; exact hC1.2.2
                · rw [← hz]; rfl
                · intro q g1 g2 g3; rw [zup_ne g1, zup_ne g1, zup_ne g1]; exact ho q g1 g2 g3
            · exact absurd q64 (by decide)
  refine z_iload_n dX1_take_0 rfl ?_
  refine z_if_gt (t := 5) dX1_take_1 (by decide) (fun q1 => ?_) (fun q1 => ?_)
  · refine z_aload_n dX1_take_5 rfl ?_
    refine zcall1 (zck_U (na := 0) (ci := 9) (C := RX9) (owner := "PpmTrees$Coder") (x := ⟨"PpmTrees$Coder", "width", "()I"⟩) (R' := rX1_width_9) (M' := mX1_width) (fun _ _ _ _ => tvX1_width_9) (by decide) kX1_width lUX1_35_9 (Or.inl dUX1_35) (by decide +kernel) rfl) dX1_take_6 (Nat.le_of_ble_eq_true rfl) (Nat.le_of_ble_eq_true rfl) (Nat.le_of_ble_eq_true rfl) ?_
    refine ⟨_, _, _, _, _, rfl, hC0, hlh, ?_⟩
    show zZ _ _ _ [.int (nI (hi - lo + 1))] _ _ _ _
    refine z_istore dX1_take_9 (Nat.le_of_ble_eq_true rfl) ?_
    refine z_aload_n dX1_take_11 rfl ?_
    refine z_aload_n dX1_take_12 rfl ?_
    refine z_getfield dX1_take_13 fX1_25_9 rfl (by first | assumption | exact zget_eq | exact zget_ne (by first | assumption | exact Ne.symm (by assumption) | omega) (by first | assumption | exact zget_eq | exact zget_ne (by first | assumption | exact Ne.symm (by assumption) | omega) (by first | assumption | exact zget_eq | exact zget_ne (by first | assumption | exact Ne.symm (by assumption) | omega) (by first | assumption | exact zget_eq)))) rfl ?_
    refine z_iload dX1_take_16 rfl ?_
    refine z_iload_n dX1_take_18 rfl ?_
    refine z_iload_n dX1_take_19 rfl ?_
    refine z_iadd dX1_take_20 ?_
    refine z_imul dX1_take_21 ?_
    refine z_iload_n dX1_take_22 rfl ?_
    refine z_idiv dX1_take_23 (nI_ne0 ht0 (by omega)) ?_
    refine z_iadd dX1_take_24 ?_
    refine z_iconst (w := 1) dX1_take_25 (by decide) ?_
    refine z_isub dX1_take_26 ?_
    rw [hHi]
    refine z_putfield dX1_take_27 fX1_29_9 rfl (fun q => absurd q (by decide)) (by first | assumption | exact zget_eq | exact zget_ne (by first | assumption | exact Ne.symm (by assumption) | omega) (by first | assumption | exact zget_eq | exact zget_ne (by first | assumption | exact Ne.symm (by assumption) | omega) (by first | assumption | exact zget_eq | exact zget_ne (by first | assumption | exact Ne.symm (by assumption) | omega) (by first | assumption | exact zget_eq)))) (Nat.le_of_ble_eq_true rfl) (Or.inl ⟨rfl, _, rfl⟩) ?_
    refine z_aload_n dX1_take_30 rfl ?_
    refine z_aload_n dX1_take_31 rfl ?_
    refine z_getfield dX1_take_32 fX1_25_9 rfl (by first | assumption | exact zget_eq | exact zget_ne (by first | assumption | exact Ne.symm (by assumption) | omega) (by first | assumption | exact zget_eq | exact zget_ne (by first | assumption | exact Ne.symm (by assumption) | omega) (by first | assumption | exact zget_eq | exact zget_ne (by first | assumption | exact Ne.symm (by assumption) | omega) (by first | assumption | exact zget_eq)))) rfl ?_
    refine z_iload dX1_take_35 rfl ?_
    refine z_iload_n dX1_take_37 rfl ?_
    refine z_imul dX1_take_38 ?_
    refine z_iload_n dX1_take_39 rfl ?_
    refine z_idiv dX1_take_40 (nI_ne0 ht0 (by omega)) ?_
    refine z_iadd dX1_take_41 ?_
    rw [hLo]
    refine z_putfield dX1_take_42 fX1_25_9 rfl (fun q => absurd q (by decide)) (by first | assumption | exact zget_eq | exact zget_ne (by first | assumption | exact Ne.symm (by assumption) | omega) (by first | assumption | exact zget_eq | exact zget_ne (by first | assumption | exact Ne.symm (by assumption) | omega) (by first | assumption | exact zget_eq | exact zget_ne (by first | assumption | exact Ne.symm (by assumption) | omega) (by first | assumption | exact zget_eq)))) (Nat.le_of_ble_eq_true rfl) (Or.inl ⟨rfl, _, rfl⟩) ?_
    refine z_iconst (w := 0) dX1_take_45 (by decide) ?_
    refine z_istore dX1_take_46 (Nat.le_of_ble_eq_true rfl) ?_
    exact loop 16 0 f p _ _ held _ rfl ⟨by rw [zget_eq]; rfl, by rw [zup_ne (Ne.symm haw), zup_ne (Ne.symm haw)]; exact hw, by rw [zup_ne (Ne.symm har), zup_ne (Ne.symm har)]; exact hr⟩ m1 m2 (by omega) rfl (fun q g1 g2 g3 => by rw [zup_ne g1, zup_ne g1])
  · exact absurd (zposI ht0 (by omega)) q1

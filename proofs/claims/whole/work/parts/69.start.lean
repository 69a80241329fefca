/-! the law: its start -/
set_option maxRecDepth 100000 in
theorem zwJ9 : Cond.arrayClass .long ∈ zT := zall_spec (ws := [.arrayClass .long]) (by decide +kernel) _ (by simp)
set_option maxRecDepth 100000 in
theorem zstart {G : zC} {b0 N0 L : Nat} {xs : Nat → Int32} {t ms : Nat} (hl : G.1.stackTraces = false) (hL : L ≤ 258) : zZ (zXl G b0 N0 L xs t ms) 0 [(0, .ref b0)] [] (fun _ => none) N0 0 0 := by
  refine z_new dL_law_0 nwL_8 rfl (Nat.le_of_ble_eq_true rfl) (Nat.le_of_ble_eq_true rfl) ?_
  refine z_dup dL_law_3 rfl ?_
  refine z_aload_n dL_law_4 rfl ?_
  refine z_iconst (w := 0) dL_law_5 (by decide) ?_
  refine zcall2 (zck_Sh (Y' := zYx b0 L xs) (R' := rL_cell) (M' := mL_cell) (zYx_ride (fun _ _ q => q.1)) zYx_bl (fun _ _ _ _ => tL_cell) kL_cell lL_15 (by decide +kernel) rfl) dL_law_6 (Nat.le_of_ble_eq_true rfl) (Nat.le_of_ble_eq_true rfl) (Nat.le_of_ble_eq_true rfl) ?_
  refine ⟨0, rfl, by decide, hL, ?_⟩
  refine z_aload_n dL_law_9 rfl ?_
  refine z_iconst (w := 1) dL_law_10 (by decide) ?_
  refine zcall2 (zck_Sh (Y' := zYx b0 L xs) (R' := rL_cell) (M' := mL_cell) (zYx_ride (fun _ _ q => q.1)) zYx_bl (fun _ _ _ _ => tL_cell) kL_cell lL_15 (by decide +kernel) rfl) dL_law_11 (Nat.le_of_ble_eq_true rfl) (Nat.le_of_ble_eq_true rfl) (Nat.le_of_ble_eq_true rfl) ?_
  refine ⟨1, rfl, by decide, hL, ?_⟩
  refine zcall3 (zck_Ih (na := 2) (Y' := fun B U => zSt G t B U U.heap) (R' := rX10_init) (M' := mX10_init) (zSt_ride (fun _ _ q => q.2.1)) zSt_bl (fun _ _ _ _ => tiX10_init) rfl kX10_init lL_21 rfl (by decide +kernel) rfl) dL_law_14 (Nat.le_of_ble_eq_true rfl) (Nat.le_of_ble_eq_true rfl) (Nat.le_of_ble_eq_true rfl) ?_
  refine ⟨N0, _, _, rfl, va_up_self _ _ _, rfl, fun h1 hC hE => ?_⟩
  refine z_astore_n dL_law_17 (Nat.le_of_ble_eq_true rfl) ?_
  refine z_new dL_law_18 nwL_24 rfl (Nat.le_of_ble_eq_true rfl) (Nat.le_of_ble_eq_true rfl) ?_
  refine z_dup dL_law_21 rfl ?_
  refine z_aload_n dL_law_22 rfl ?_
  refine z_iconst (w := 0) dL_law_23 (by decide) ?_
  refine zcall2 (zck_Sh (Y' := zYx b0 L xs) (R' := rL_cell) (M' := mL_cell) (zYx_ride (fun _ _ q => q.1)) zYx_bl (fun _ _ _ _ => tL_cell) kL_cell lL_15 (by decide +kernel) rfl) dL_law_24 (Nat.le_of_ble_eq_true rfl) (Nat.le_of_ble_eq_true rfl) (Nat.le_of_ble_eq_true rfl) ?_
  refine ⟨0, rfl, by decide, hL, ?_⟩
  refine z_aload_n dL_law_27 rfl ?_
  refine z_iconst (w := 1) dL_law_28 (by decide) ?_
  refine zcall2 (zck_Sh (Y' := zYx b0 L xs) (R' := rL_cell) (M' := mL_cell) (zYx_ride (fun _ _ q => q.1)) zYx_bl (fun _ _ _ _ => tL_cell) kL_cell lL_15 (by decide +kernel) rfl) dL_law_29 (Nat.le_of_ble_eq_true rfl) (Nat.le_of_ble_eq_true rfl) (Nat.le_of_ble_eq_true rfl) ?_
  refine ⟨1, rfl, by decide, hL, ?_⟩
  refine zcall3 (zck_I (na := 2) (R' := rX11_init) (M' := mX11_init) (fun _ _ _ _ => tiX11_init) rfl kX11_init lL_26 rfl (by decide +kernel) rfl) dL_law_32 (Nat.le_of_ble_eq_true rfl) (Nat.le_of_ble_eq_true rfl) (Nat.le_of_ble_eq_true rfl) ?_
  refine ⟨N0 + 47, _, _, rfl, va_up_self _ _ _, rfl, fun v g hS => ?_⟩
  refine z_astore_n dL_law_35 (Nat.le_of_ble_eq_true rfl) ?_
  refine z_iconst (w := 1) dL_law_36 (by decide) ?_
  refine z_newj dL_law_37 zwJ9 (by decide) (by decide) (Nat.le_of_ble_eq_true rfl) (Nat.le_of_ble_eq_true rfl) ?_
  refine z_astore_n dL_law_39 (Nat.le_of_ble_eq_true rfl) ?_
  refine z_iconst (w := 2) dL_law_40 (by decide) ?_
  refine z_istore dL_law_41 (Nat.le_of_ble_eq_true rfl) ?_
  rw [show N0 + 47 + 1 + 19 = N0 + 67 from rfl]
  refine zloop (x := N0) hl hL 64 0 2 _ _ _ _ rfl (by omega) (Nat.le_of_ble_eq_true rfl) (Nat.le_of_ble_eq_true rfl) (by decide) ?_
  exact ⟨0, _, _, fun _ => 0, fun _ => 0, fun _ => 0, fun _ => 0, fun _ => zM0, _, fun _ => 0, fun _ => none, v, g, fun _ => 0, zOkS.first _ _ _, (hC (N0 + 68) (N0 + 68) _ _ _ _ (by omega) (by omega)).cg (fun q hq => (va_up_ne _ _ (by omega)).trans ((zRh_out (by omega)).trans (va_up_ne _ _ (by omega)))) (Nat.le_refl _) (Nat.le_refl _), by omega, zRh_self zRh_rf (fun q q1 q2 => va_up_ne _ _ (by omega)), hS _ _ _ _ _, va_up_self _ _ _⟩

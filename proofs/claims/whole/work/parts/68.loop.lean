/-! the law: node; its loop -/
set_option maxRecDepth 100000 in
theorem zk_node {G : zC} {b0 N0 L : Nat} {xs : Nat → Int32} {t ms x i k n c s : Nat} {h : zH} (hL : L ≤ 258) (hi : i + 3 < L) (hk : k ≤ 64) (hc : c + 20 ≤ 600128) (hs : s + 8000 ≤ 7301064) (H : zLi G h n x t k) (hgo : ∀ h' n' c' s', zLi G h' n' x t (k + 1) → c' ≤ c + 9 → s' ≤ s + 7530 → zZ (zXl G b0 N0 L xs t ms) 789 (zlv b0 x i) [] h' n' c' s') (hl : G.1.stackTraces = false) : zZ (zXl G b0 N0 L xs t ms) 497 (zlv b0 x i) [] h n c s := by
  obtain ⟨rn, o, rm, a, tx, gg, rx, M, z, XX, F, v, g, f, hB, hC, hrn, he, hR, hJ⟩ := H
  refine z_aload_n dL_law_497 rfl ?_
  refine z_aload_n dL_law_498 rfl ?_
  refine z_iload dL_law_499 rfl ?_
  refine z_iconst (w := 1) dL_law_501 (by decide) ?_
  refine z_iadd dL_law_502 ?_
  refine z_sld (fun _ _ q => q.1) dL_law_503 (zlin (i := i) (j := 1) (by omega) hL) ?_
  refine z_aload_n dL_law_504 rfl ?_
  refine z_iload dL_law_505 rfl ?_
  refine z_iconst (w := 2) dL_law_507 (by decide) ?_
  refine z_iadd dL_law_508 ?_
  refine z_sld (fun _ _ q => q.1) dL_law_509 (zlin (i := i) (j := 2) (by omega) hL) ?_
  refine z_aload_n dL_law_510 rfl ?_
  refine z_iload dL_law_511 rfl ?_
  refine z_iconst (w := 3) dL_law_513 (by decide) ?_
  refine z_iadd dL_law_514 ?_
  refine z_sld (fun _ _ q => q.1) dL_law_515 (zlin (i := i) (j := 3) (by omega) hL) ?_
  refine z_aload_n dL_law_516 rfl ?_
  refine zcall5 (zck_Sw (Y' := zYt ms) (R' := rL_node) (M' := mL_node) (zYt_ride (fun _ _ q => q.2.2)) zYt_bl (fun _ _ _ _ => tL_node hl) kL_node lL_82 (by decide +kernel) rfl) dL_law_517 (by show c + 1 ≤ 600128; omega) (by show s + 6 ≤ 7301064; omega) (Nat.le_of_ble_eq_true rfl) ?_
  refine ⟨x, x + 68, t, rn, x + 67, o, rm, a, tx, gg, rx, M, z, XX, F, _, _, _, f, rfl, hB, hC, by omega, hJ, fun r hq => ?_, fun hq n1 hn1 => ?_⟩
  · have hU : ∀ q, q ≠ x + 67 → va_up h (x + 67) (some (zJ G 1 (vp_updL f 0 r.toInt64))) q = h q := fun q e => va_up_ne _ _ e
    have hJ1 : va_up h (x + 67) (some (zJ G 1 (vp_updL f 0 r.toInt64))) (x + 67) = some (zJ G 1 (vp_updL f 0 r.toInt64)) := va_up_self _ _ _
    generalize va_up h (x + 67) (some (zJ G 1 (vp_updL f 0 r.toInt64))) = h1 at hU hJ1 ⊢
    have e1 := zRh_self he (fun q q1 q2 => hU q (by omega))
    refine z_istore dL_law_520 (Nat.le_of_ble_eq_true rfl) ?_
    refine z_aload_n dL_law_522 rfl ?_
    refine z_aload_n dL_law_523 rfl ?_
    refine z_iload dL_law_524 rfl ?_
    refine z_iconst (w := 1) dL_law_526 (by decide) ?_
    refine z_iadd dL_law_527 ?_
    refine z_sld (fun _ _ q => q.1) dL_law_528 (zlin (i := i) (j := 1) (by omega) hL) ?_
    refine z_aload_n dL_law_529 rfl ?_
    refine z_iload dL_law_530 rfl ?_
    refine z_iconst (w := 2) dL_law_532 (by decide) ?_
    refine z_iadd dL_law_533 ?_
    refine z_sld (fun _ _ q => q.1) dL_law_534 (zlin (i := i) (j := 2) (by omega) hL) ?_
    refine z_aload_n dL_law_535 rfl ?_
    refine z_iload dL_law_536 rfl ?_
    refine z_iconst (w := 3) dL_law_538 (by decide) ?_
    refine z_iadd dL_law_539 ?_
    refine z_sld (fun _ _ q => q.1) dL_law_540 (zlin (i := i) (j := 3) (by omega) hL) ?_
    refine zcall4 (zck_V (na := 3) (ci := 11) (R' := rX11_node) (M' := mX11_node) (fun _ _ _ _ => tvX11_node) (by decide) kX11_node lL_85 (by decide +kernel) rfl) dL_law_541 (by show c + 1 + 0 ≤ 600128; omega) (by show s + 6 + 0 ≤ 7301064; omega) (Nat.le_of_ble_eq_true rfl) ?_
    refine ⟨h1, x + 47, v, g, o, rm, a, tx, gg, rx, M, z, XX, F, _, _, _, rfl, e1, hB, hR, fun r2 v' hq2 v0 hR' => ?_, fun v' hq2 _ _ => by rw [hq] at hq2; cases hq2⟩
    have er : r = r2 := by rw [hq] at hq2; exact Option.some.inj hq2
    subst er
    refine z_istore dL_law_544 (Nat.le_of_ble_eq_true rfl) ?_
    refine z_aload_n dL_law_546 rfl ?_
    refine zcall1 (zck_V (na := 0) (ci := 11) (R' := rX11_thrown) (M' := mX11_thrown) (fun _ _ _ _ => tvX11_thrown) (by decide) kX11_thrown lL_86 (by decide +kernel) rfl) dL_law_547 (by show c + 1 + 0 + 0 ≤ 600128; omega) (by show s + 6 + 0 + 0 ≤ 7301064; omega) (Nat.le_of_ble_eq_true rfl) ?_
    refine ⟨h1, x + 47, v', g, _, rfl, rfl, v0, ?_⟩
    refine z_iload dL_law_550 rfl ?_
    refine z_icmp_eq (t := 557) dL_law_552 (by decide) (fun _ => ?_) (fun q => absurd rfl q)
    refine z_iload dL_law_557 rfl ?_
    refine z_if_ne (t := 574) dL_law_559 (by decide) (fun q => absurd rfl q) (fun _ => ?_)
    refine z_aload_n dL_law_562 rfl ?_
    refine z_iconst (w := 0) dL_law_563 (by decide) ?_
    refine z_lald dL_law_564 ((zRh_out (by omega)).trans hJ1) (vp_in_nI (n := 0) (N := 1) (by decide) (by decide)) ?_
    rw [show (vp_updL f 0 r.toInt64) (0 : Int32).toNatClampNeg = r.toInt64 from rfl]
    refine z_iload dL_law_565 rfl ?_
    refine z_i2l dL_law_567 ?_
    refine z_lcmp dL_law_568 ?_
    refine z_if_eq (t := 574) dL_law_569 (by decide) (fun _ => ?_) (fun q => absurd ((lg_cmp_eq _ _).mpr rfl) q)
    refine z_goto (t := 789) dL_law_574 (by decide) ?_
    refine zZ.sub (lv' := zlv b0 x i) (fun q hq => List.mem_append_left [(5, _), (6, _)] hq) ?_
    exact hgo _ _ _ _ ⟨rn, _, _, _, _, _, _, _, _, _, _, v', g, (vp_updL f 0 r.toInt64), hB, hC.cg (fun q hq => (zRh_out (by omega)).trans (hU q (by omega))) (Nat.le_refl _) (Nat.le_refl _), by omega, zRh_rf, hR', (zRh_out (by omega)).trans hJ1⟩ (by show c + 1 + 0 + 0 ≤ c + 9; omega) (by show s + 6 + 0 + 0 ≤ s + 7530; omega)
  · refine z_istore dL_law_520 (Nat.le_of_ble_eq_true rfl) ?_
    refine z_aload_n dL_law_522 rfl ?_
    refine z_aload_n dL_law_523 rfl ?_
    refine z_iload dL_law_524 rfl ?_
    refine z_iconst (w := 1) dL_law_526 (by decide) ?_
    refine z_iadd dL_law_527 ?_
    refine z_sld (fun _ _ q => q.1) dL_law_528 (zlin (i := i) (j := 1) (by omega) hL) ?_
    refine z_aload_n dL_law_529 rfl ?_
    refine z_iload dL_law_530 rfl ?_
    refine z_iconst (w := 2) dL_law_532 (by decide) ?_
    refine z_iadd dL_law_533 ?_
    refine z_sld (fun _ _ q => q.1) dL_law_534 (zlin (i := i) (j := 2) (by omega) hL) ?_
    refine z_aload_n dL_law_535 rfl ?_
    refine z_iload dL_law_536 rfl ?_
    refine z_iconst (w := 3) dL_law_538 (by decide) ?_
    refine z_iadd dL_law_539 ?_
    refine z_sld (fun _ _ q => q.1) dL_law_540 (zlin (i := i) (j := 3) (by omega) hL) ?_
    refine zcall4 (zck_V (na := 3) (ci := 11) (R' := rX11_node) (M' := mX11_node) (fun _ _ _ _ => tvX11_node) (by decide) kX11_node lL_85 (by decide +kernel) rfl) dL_law_541 (by show c + 1 + 0 ≤ 600128; omega) (by show s + 6 + 0 ≤ 7301064; omega) (Nat.le_of_ble_eq_true rfl) ?_
    refine ⟨h, x + 47, v, g, o, rm, a, tx, gg, rx, M, z, XX, F, _, _, _, rfl, he, hB, hR, fun r2 v' hq2 _ _ => (by rw [hq] at hq2; cases hq2), fun v' hq2 v0 hR' => ?_⟩
    refine z_istore dL_law_544 (Nat.le_of_ble_eq_true rfl) ?_
    refine z_aload_n dL_law_546 rfl ?_
    refine zcall1 (zck_V (na := 0) (ci := 11) (R' := rX11_thrown) (M' := mX11_thrown) (fun _ _ _ _ => tvX11_thrown) (by decide) kX11_thrown lL_86 (by decide +kernel) rfl) dL_law_547 (by show c + 1 + 0 + 0 ≤ 600128; omega) (by show s + 6 + 0 + 0 ≤ 7301064; omega) (Nat.le_of_ble_eq_true rfl) ?_
    refine ⟨h, x + 47, v', g, _, rfl, rfl, v0, ?_⟩
    refine z_iload dL_law_550 rfl ?_
    refine z_icmp_eq (t := 557) dL_law_552 (by decide) (fun _ => ?_) (fun q => absurd rfl q)
    refine z_iload dL_law_557 rfl ?_
    refine z_if_ne (t := 574) dL_law_559 (by decide) (fun _ => ?_) (fun q => absurd q (by decide))
    refine z_goto (t := 789) dL_law_574 (by decide) ?_
    refine zZ.sub (lv' := zlv b0 x i) (fun q hq => List.mem_append_left [(5, _), (6, _)] hq) ?_
    exact hgo _ _ _ _ ⟨rn, _, _, _, _, _, _, _, _, _, _, v', g, f, hB, hC.cg (fun q hq => zRh_out (by omega)) hn1 (Nat.le_refl _), by omega, zRh_rf, hR', (zRh_out (by omega)).trans hJ⟩ (by show c + 1 + 0 + 0 ≤ c + 9; omega) (by show s + 6 + 0 + 0 ≤ s + 7530; omega)
theorem zsw (y : Int32) : 0 ≤ (y &&& 31).toInt ∧ (y &&& 31).toInt < 32 := by
  have h : (y &&& 31).toInt = ((y.toBitVec &&& 31#32).toNat : Int) := by
    have h1 : (y.toBitVec &&& 31#32).toNat < 32 := by
      rw [BitVec.toNat_and]
      exact Nat.lt_of_le_of_lt Nat.and_le_right (by decide)
    have h2 : (y &&& 31).toBitVec = y.toBitVec &&& 31#32 := rfl
    show (y &&& 31).toBitVec.toInt = _
    rw [h2, BitVec.toInt_eq_toNat_of_lt (by omega)]
  have h1 : (y.toBitVec &&& 31#32).toNat < 32 := by
    rw [BitVec.toNat_and]
    exact Nat.lt_of_le_of_lt Nat.and_le_right (by decide)
  omega
set_option maxRecDepth 100000 in
theorem zbody {G : zC} {b0 N0 L : Nat} {xs : Nat → Int32} {t ms x i k n c s : Nat} {h : zH} (hl : G.1.stackTraces = false) (hL : L ≤ 258) (hi : i + 3 < L) (hk : k ≤ 64) (hc : c + 20 ≤ 600128) (hs : s + 8000 ≤ 7301064) (H : zLi G h n x t k) (hgo : ∀ h' n' c' s', zLi G h' n' x t (k + 1) → c' ≤ c + 9 → s' ≤ s + 7530 → zZ (zXl G b0 N0 L xs t ms) 789 (zlv b0 x i) [] h' n' c' s') : zZ (zXl G b0 N0 L xs t ms) 52 (zlv b0 x i) [] h n c s := by
  refine z_aload_n dL_law_52 rfl ?_
  refine z_iload dL_law_53 rfl ?_
  refine z_sld (fun _ _ q => q.1) dL_law_55 (vp_in_nI (by omega) (by omega)) ?_
  refine z_bipush (w := 31) dL_law_56 (by decide) ?_
  refine z_iand dL_law_58 ?_
  have hd9 : zZ (zXl G b0 N0 L xs t ms) 789 (zlv b0 x i) [] h n c s := by
    obtain ⟨rn, o, rm, a, tx, gg, rx, M, z, XX, F, v, g, f, hB, hC, hrn, he, hR, hJ⟩ := H
    exact hgo _ _ _ _ ⟨rn, o, rm, a, tx, gg, rx, M, z, XX, F, v, g, f, hB, hC, by omega, he, hR, hJ⟩ (by omega) (by omega)
  refine z_table dL_law_59 (by decide) (fun _ => ⟨by decide, hd9⟩) ?_
  refine ⟨fun _ => ⟨by decide, zk_clear hL hi hk hc hs H hgo⟩, fun _ => ⟨by decide, zk_add hL hi hk hc hs H hgo⟩, fun _ => ⟨by decide, zk_fill hL hi hk hc hs H hgo⟩, fun _ => ⟨by decide, zk_size hL hi hk hc hs H hgo⟩, fun _ => ⟨by decide, zk_octet hL hi hk hc hs H hgo⟩, fun _ => ⟨by decide, zk_alter hL hi hk hc hs H hgo⟩, fun _ => ⟨by decide, zk_cut hL hi hk hc hs H hgo⟩, fun _ => ⟨by decide, zk_pack hL hi hk hc hs H hgo⟩, fun _ => ⟨by decide, zk_open hL hi hk hc hs H hgo⟩, fun _ => ⟨by decide, zk_place hL hi hk hc hs H hgo⟩, fun _ => ⟨by decide, zk_told hL hi hk hc hs H hgo⟩, fun _ => ⟨by decide, zk_sign hL hi hk hc hs H hgo⟩, fun _ => ⟨by decide, zk_nodes hL hi hk hc hs H hgo⟩, fun _ => ⟨by decide, zk_node hL hi hk hc hs H hgo hl⟩, fun _ => ⟨by decide, zk_latest hL hi hk hc hs H hgo⟩, fun _ => ⟨by decide, zk_restarted hL hi hk hc hs H hgo⟩, fun _ => ⟨by decide, zk_reset hL hi hk hc hs H hgo⟩, fun _ => ⟨by decide, zk_equal hL hi hk hc hs H hgo⟩, fun _ => ⟨by decide, zk_save hL hi hk hc hs H hgo⟩, fun _ => ⟨by decide, zk_restore hL hi hk hc hs H hgo⟩, fun _ => ⟨by decide, zk_forget hL hi hk hc hs H hgo⟩, fun _ => ⟨by decide, zk_cost hL hi hk hc hs H hgo⟩, trivial⟩
set_option maxRecDepth 100000 in
theorem zloop {G : zC} {b0 N0 L : Nat} {xs : Nat → Int32} {t ms x : Nat} (hl : G.1.stackTraces = false) (hL : L ≤ 258) : ∀ (d k i n c s : Nat) (h : zH), i = 2 + 4 * k → L < i + 4 * d + 4 → c ≤ 200 + 9 * k → s ≤ 100000 + 7530 * k → k ≤ 64 → zLi G h n x t k → zZ (zXl G b0 N0 L xs t ms) 43 (zlv b0 x i) [] h n c s
  | d, k, i, n, c, s, h, hik, hd, hc, hs, hk, H => by
    refine z_iload dL_law_43 rfl ?_
    refine z_aload_n dL_law_45 rfl ?_
    refine z_slen (fun _ _ q => q.1) dL_law_46 ?_
    refine z_iconst (w := 4) dL_law_47 (by decide) ?_
    refine z_isub dL_law_48 ?_
    refine z_icmp_gt (t := 795) dL_law_49 (by decide) (fun q => ?_) (fun q => ?_)
    · refine z_iconst (w := 1) dL_law_795 (by decide) ?_
      exact z_lret dL_law_796 (by omega) (by omega)
    · have hi : i + 3 < L := by
        have q9 := Int32.not_lt.mp q
        rw [Int32.le_iff_toInt_le] at q9
        have e1 : (nI L - 4).toInt = (L : Int) - 4 := by
          have := zsubI (a := L) (b := 4) (by omega) (by omega)
          exact this
        rw [e1, nI_toInt (by omega)] at q9
        omega
      match d, hd with
      | 0, hd => omega
      | d + 1, hd =>
        refine zbody hl hL hi hk (by omega) (by omega) H (fun h' n' c' s' H' hc' hs' => ?_)
        refine z_iinc dL_law_789 rfl (Nat.le_of_ble_eq_true rfl) ?_
        refine z_goto (t := 43) dL_law_792 (by decide) ?_
        have e4 : nI i + Int32.ofInt 4 = nI (i + 4) := by
          rw [show (Int32.ofInt 4) = nI 4 from rfl, nI_add]
        show zZ (zXl G b0 N0 L xs t ms) 43 [(0, .ref b0), (1, .ref x), (2, .ref (x + 47)), (3, .ref (x + 67)), (4, .int (nI i + Int32.ofInt 4))] [] h' n' c' s'
        rw [e4]
        exact zloop hl hL d (k + 1) (i + 4) n' c' s' h' (by omega) (by omega) (by omega) (by omega) (by omega) H'
  termination_by d => d

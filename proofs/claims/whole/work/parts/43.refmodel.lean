/-! the reference: calls on models -/
theorem zIn.ex {i : Int32} {k : Nat} (h : zIn i k) (hk : k < 2147483648) : ∃ j, i = nI j ∧ j < k := ⟨zt i, h.nat hk⟩
theorem zSlot.e {a : Nat → Nat} {s : Nat} (h : s < 2) : zSlot a s := by unfold zSlot; omega
theorem zSlot.le {a : Nat → Nat} {s : Nat} (h : zSlot a s) (ha : a 3 ≤ 4) : s ≤ 6 := by unfold zSlot at h; omega
def zQnd (M : Nat → zMs) (e : Int32) : Int32 := if zIn e 2 then nI (M (zt e)).1.1 else -1
abbrev rX11_nodes : Room := ⟨1, 0, 0, 40⟩
def SX11_nodes (G : zC) : zS := fun as h n K => ∃ (h0 : zH) (m : Nat) (v : Nat → Int32) (g : Nat → Nat → Int32) (o rm : Nat) (a tx : Nat → Nat) (gg : Nat → Int32) (rx : Nat → Nat) (M : Nat → zMs) (z : Nat → Int32) (XX : Nat → Nat) (F : Nat → Option Nat) (e : Int32), as = [.ref m, .int e] ∧ h = zRh G h0 m v g ∧ zOkS o rm a tx M ∧ zRS v g o rm a tx gg rx M z XX F ∧ ∀ v' g', zRS v' g' o rm a tx gg rx M z XX F → K (some (.int (zQnd M e))) (zRh G h0 m v' g') n
set_option maxRecDepth 100000 in
theorem tvX11_nodes {G : zC} {as : List Value} {h : zH} {n : Nat} {K : zP} (hs : SX11_nodes G as h n K) : (∃ b fs r, as = .ref b :: r ∧ h b = some (.inr (11, fs))) ∧ zCt G rX11_nodes mX11_nodes as h n K := by
  obtain ⟨h0, m, v, g, o, rm, a, tx, gg, rx, M, z, XX, F, e, rfl, rfl, hB, hS, hK⟩ := hs
  refine ⟨⟨_, _, _, rfl, zRh_o⟩, zCt.of (by decide) (Nat.le_of_ble_eq_true rfl) ?_⟩
  have hQ : zRS (upd v 0 0) g o rm a tx gg rx M z XX F := hS.thr 0
  have hQ0 := hQ
  obtain ⟨b1, b2, b3, b4, b5, b6, b7, b8, btx, bM⟩ := hB
  obtain ⟨e1, e2, e3, e5, e7, e16, e37, e35, e42, r1, r2, r3, c0, c1, r16, r17, hsl⟩ := hQ
  refine z_aload_n dX11_nodes_0 rfl ?_
  refine z_iconst (w := 0) dX11_nodes_1 (by decide) ?_
  refine zr_put dX11_nodes_2 fX11_82_11 rfl (fun q => absurd q (by decide)) zset_0 (by decide) (Or.inl rfl) ?_
  refine z_iload_n dX11_nodes_5 rfl ?_
  refine z_iconst (w := 0) dX11_nodes_6 (by decide) ?_
  refine z_iconst (w := 1) dX11_nodes_7 (by decide) ?_
  refine zcall3 (zck_S (R' := rX11_in) (M' := mX11_in) (fun _ _ _ _ => tX11_in) kX11_in lX11_88 (by decide +kernel) rfl) dX11_nodes_8 (Nat.le_of_ble_eq_true rfl) (Nat.le_of_ble_eq_true rfl) (Nat.le_of_ble_eq_true rfl) ?_
  refine ⟨_, _, _, rfl, ?_⟩
  rw [show (if (0 : Int32) ≤ e ∧ e ≤ 1 then (1 : Int32) else 0) = if zIn e 2 then 1 else 0 from zif_le (u := 1) (by decide)]
  refine z_if_eq (t := 23) dX11_nodes_11 (by decide) (fun q11 => ?_) (fun q11 => ?_)
  · rw [show zQnd M e = -1 from if_neg (zi10.mp q11)] at hK
    refine z_iconst (w := -1) dX11_nodes_23 (by decide) ?_
    refine z_ireturn dX11_nodes_24 trivial (Nat.le_of_ble_eq_true rfl) (Nat.le_of_ble_eq_true rfl) ?_
    exact hK _ g hQ0
  · rw [show zQnd M e = nI (M (zt e)).1.1 from if_pos (zi11.mp q11)] at hK
    obtain ⟨s, rfl, hs⟩ := zIn.ex (zi11.mp q11) (by first | decide | omega)
    have zs := (zIn_nI (by first | decide | omega) hs).2
    rw [zs] at hK
    refine z_aload_n dX11_nodes_14 rfl ?_
    refine zr_get dX11_nodes_15 fX11_19_11 rfl rfl ?_
    refine z_iload_n dX11_nodes_18 rfl ?_
    refine zr_ald (a := _) dX11_nodes_19 rfl (by decide) (show s < 7 by omega) ?_
    rw [(hsl s (zSlot.e hs)).1]
    refine z_goto (t := 24) dX11_nodes_20 (by decide) ?_
    refine z_ireturn dX11_nodes_24 trivial (Nat.le_of_ble_eq_true rfl) (Nat.le_of_ble_eq_true rfl) ?_
    exact hK _ g hQ0
def zQno (M : Nat → zMs) (e i w : Int32) : Option Int32 := if zIn e 2 ∧ zIn w 4 then (if zIn i (M (zt e)).1.1 then some (if w = 0 then zm (M (zt e)).1.2.1 (zt i) else if w = 1 then zm (M (zt e)).1.2.2.1 (zt i) else if w = 2 then (if zt i = 0 then 0 else nI ((M (zt e)).1.2.2.2 (zt i))) else nI (zdp (M (zt e)).1.2.1 (zt i) (zt i))) else none) else some (-1)
abbrev rX11_node : Room := ⟨1, 0, 0, 40⟩
def SX11_node (G : zC) : zS := fun as h n K => ∃ (h0 : zH) (m : Nat) (v : Nat → Int32) (g : Nat → Nat → Int32) (o rm : Nat) (a tx : Nat → Nat) (gg : Nat → Int32) (rx : Nat → Nat) (M : Nat → zMs) (z : Nat → Int32) (XX : Nat → Nat) (F : Nat → Option Nat) (e i w : Int32), as = [.ref m, .int e, .int i, .int w] ∧ h = zRh G h0 m v g ∧ zOkS o rm a tx M ∧ zRS v g o rm a tx gg rx M z XX F ∧ (∀ r v', zQno M e i w = some r → v' 0 = 0 → zRS v' g o rm a tx gg rx M z XX F → K (some (.int r)) (zRh G h0 m v' g) n) ∧ (∀ v', zQno M e i w = none → v' 0 = 1 → zRS v' g o rm a tx gg rx M z XX F → K (some (.int 0)) (zRh G h0 m v' g) n)
set_option maxRecDepth 100000 in
theorem tvX11_node {G : zC} {as : List Value} {h : zH} {n : Nat} {K : zP} (hs : SX11_node G as h n K) : (∃ b fs r, as = .ref b :: r ∧ h b = some (.inr (11, fs))) ∧ zCt G rX11_node mX11_node as h n K := by
  obtain ⟨h0, m, v, g, o, rm, a, tx, gg, rx, M, z, XX, F, e, i, w, rfl, rfl, hB, hS, hK⟩ := hs
  refine ⟨⟨_, _, _, rfl, zRh_o⟩, zCt.of (by decide) (Nat.le_of_ble_eq_true rfl) ?_⟩
  have hQ : zRS (upd v 0 0) g o rm a tx gg rx M z XX F := hS.thr 0
  have hQ0 := hQ
  obtain ⟨b1, b2, b3, b4, b5, b6, b7, b8, btx, bM⟩ := hB
  obtain ⟨e1, e2, e3, e5, e7, e16, e37, e35, e42, r1, r2, r3, c0, c1, r16, r17, hsl⟩ := hQ
  obtain ⟨hK, hKn⟩ := hK
  refine z_aload_n dX11_node_0 rfl ?_
  refine z_iconst (w := 0) dX11_node_1 (by decide) ?_
  refine zr_put dX11_node_2 fX11_82_11 rfl (fun q => absurd q (by decide)) zset_0 (by decide) (Or.inl rfl) ?_
  refine z_iload_n dX11_node_5 rfl ?_
  refine z_iconst (w := 0) dX11_node_6 (by decide) ?_
  refine z_iconst (w := 1) dX11_node_7 (by decide) ?_
  refine zcall3 (zck_S (R' := rX11_in) (M' := mX11_in) (fun _ _ _ _ => tX11_in) kX11_in lX11_88 (by decide +kernel) rfl) dX11_node_8 (Nat.le_of_ble_eq_true rfl) (Nat.le_of_ble_eq_true rfl) (Nat.le_of_ble_eq_true rfl) ?_
  refine ⟨_, _, _, rfl, ?_⟩
  rw [show (if (0 : Int32) ≤ e ∧ e ≤ 1 then (1 : Int32) else 0) = if zIn e 2 then 1 else 0 from zif_le (u := 1) (by decide)]
  refine z_if_eq (t := 23) dX11_node_11 (by decide) (fun q11 => ?_) (fun q11 => ?_)
  · refine z_iconst (w := -1) dX11_node_23 (by decide) ?_
    refine z_ireturn dX11_node_24 trivial (Nat.le_of_ble_eq_true rfl) (Nat.le_of_ble_eq_true rfl) ?_
    exact hK _ _ (if_neg (fun p => by first | exact zi10.mp q11 p.1 | exact zi10.mp q20 p.2)) zu_eq hQ0
  · refine z_iload_n dX11_node_14 rfl ?_
    refine z_iconst (w := 0) dX11_node_15 (by decide) ?_
    refine z_iconst (w := 3) dX11_node_16 (by decide) ?_
    refine zcall3 (zck_S (R' := rX11_in) (M' := mX11_in) (fun _ _ _ _ => tX11_in) kX11_in lX11_88 (by decide +kernel) rfl) dX11_node_17 (Nat.le_of_ble_eq_true rfl) (Nat.le_of_ble_eq_true rfl) (Nat.le_of_ble_eq_true rfl) ?_
    refine ⟨_, _, _, rfl, ?_⟩
    rw [show (if (0 : Int32) ≤ w ∧ w ≤ 3 then (1 : Int32) else 0) = if zIn w 4 then 1 else 0 from zif_le (u := 3) (by decide)]
    refine z_if_ne (t := 25) dX11_node_20 (by decide) (fun q20 => ?_) (fun q20 => ?_)
    · obtain ⟨s, rfl, hs⟩ := zIn.ex (zi11.mp q11) (by decide)
      have zs := (zIn_nI (by decide) hs).2
      have hm9 := (hsl s (zSlot.e hs))
      have hlt9 := hm9.2.2.2.2.2.2.2.2.1
      refine z_iload_n dX11_node_25 rfl ?_
      refine z_iconst (w := 0) dX11_node_26 (by decide) ?_
      refine z_aload_n dX11_node_27 rfl ?_
      refine zr_get dX11_node_28 fX11_19_11 rfl rfl ?_
      refine z_iload_n dX11_node_31 rfl ?_
      refine zr_ald (a := _) dX11_node_32 rfl (by decide) (show s < 7 by omega) ?_
      rw [hm9.1]
      refine z_iconst (w := 1) dX11_node_33 (by decide) ?_
      refine z_isub dX11_node_34 ?_
      refine zcall3 (zck_S (R' := rX11_in) (M' := mX11_in) (fun _ _ _ _ => tX11_in) kX11_in lX11_88 (by decide +kernel) rfl) dX11_node_35 (Nat.le_of_ble_eq_true rfl) (Nat.le_of_ble_eq_true rfl) (Nat.le_of_ble_eq_true rfl) ?_
      refine ⟨_, _, _, rfl, ?_⟩
      rw [zif_in (k := (M s).1.1) (by omega)]
      refine z_if_ne (t := 48) dX11_node_38 (by decide) (fun q38 => ?_) (fun q38 => ?_)
      · obtain ⟨j, rfl, hj⟩ := zIn.ex (zi11.mp q38) (by omega)
        have zj := (zIn_nI (by omega) hj).2
        have hNo : zQno M (nI s) (nI j) w = some (if w = 0 then zm (M s).1.2.1 j else if w = 1 then zm (M s).1.2.2.1 j else if w = 2 then (if j = 0 then 0 else nI ((M s).1.2.2.2 j)) else nI (zdp (M s).1.2.1 j j)) := by
          unfold zQno
          rw [if_pos ⟨zi11.mp q11, zi11.mp q20⟩, zs, if_pos (zi11.mp q38), zj]
        obtain ⟨wn, hw, hwn⟩ := zIn.ex (zi11.mp q20) (by decide)
        refine z_sipush (w := 1500) dX11_node_48 (by decide) ?_
        refine z_iload_n dX11_node_51 rfl ?_
        refine z_imul dX11_node_52 ?_
        refine z_iload_n dX11_node_53 rfl ?_
        refine z_iadd dX11_node_54 ?_
        rw [zx1500]
        refine z_istore dX11_node_55 (Nat.le_of_ble_eq_true rfl) ?_
        refine z_iload_n dX11_node_57 rfl ?_
        refine z_iconst (w := 3) dX11_node_58 (by decide) ?_
        refine z_icmp_ge (t := 99) dX11_node_59 (by decide) (fun q59 => ?_) (fun q59 => ?_)
        · have w59 : wn = 3 := by
            rw [hw] at q59
            have := (nI_leI (a := 3) (by decide) (by omega)).mp q59
            omega
          refine z_iconst (w := 0) dX11_node_99 (by decide) ?_
          refine z_istore dX11_node_100 (Nat.le_of_ble_eq_true rfl) ?_
          refine z_iload_n dX11_node_102 rfl ?_
          refine z_istore dX11_node_103 (Nat.le_of_ble_eq_true rfl) ?_
          have hlt := (hsl s (zSlot.e hs)).2.2.2.2.2.2.2
          have loop : ∀ (d u c : Nat), u ≤ d → u < (M s).1.1 → c + zdp (M s).1.2.1 d u = zdp (M s).1.2.1 j j → zZ (zXm G rX11_node mX11_node [.ref m, .int (nI s), .int (nI j), .int w] (zRh G h0 m v g) n K) 105 [(0, .ref m), (1, .int (nI s)), (2, .int (nI j)), (3, .int w), (4, .int (nI (1500 * s + j))), (5, .int (nI c)), (6, .int (nI u))] [] (zRh G h0 m (upd v 0 0) g) n 0 0 := by
            intro d
            induction d with
            | zero =>
              intro u c hu1 hu2 he
              have hu0 : u = 0 := by omega
              subst hu0
              refine z_iload dX11_node_105 rfl ?_
              refine z_if_le (t := 131) dX11_node_107 (by decide) (fun q107 => ?_) (fun q107 => ?_)
              · refine z_iload dX11_node_131 rfl ?_
                refine z_ireturn dX11_node_133 trivial (Nat.le_of_ble_eq_true rfl) (Nat.le_of_ble_eq_true rfl) ?_
                refine hK _ _ ?_ zu_eq hQ0
                rw [hNo, hw, w59, if_neg (by decide), if_neg (by decide), if_neg (by decide), ← he]
                rfl
              · exact absurd (by decide) q107
            | succ d ih =>
              intro u c hu1 hu2 he
              by_cases hu0 : u = 0
              · subst hu0
                refine z_iload dX11_node_105 rfl ?_
                refine z_if_le (t := 131) dX11_node_107 (by decide) (fun q107 => ?_) (fun q107 => ?_)
                · refine z_iload dX11_node_131 rfl ?_
                  refine z_ireturn dX11_node_133 trivial (Nat.le_of_ble_eq_true rfl) (Nat.le_of_ble_eq_true rfl) ?_
                  refine hK _ _ ?_ zu_eq hQ0
                  rw [hNo, hw, w59, if_neg (by decide), if_neg (by decide), if_neg (by decide), ← he]
                  simp [zdp]
                · exact absurd (by decide) q107
              · have hpu := (hlt.2.2.1 u (by omega) hu2).1
                refine z_iload dX11_node_105 rfl ?_
                refine z_if_le (t := 131) dX11_node_107 (by decide) (fun q107 => ?_) (fun q107 => ?_)
                · exact absurd q107 (nI_nle (by omega) (by omega))
                · refine z_iinc dX11_node_110 rfl (Nat.le_of_ble_eq_true rfl) ?_
                  rw [show nI c + Int32.ofInt 1 = nI (c + 1) from nI_1 c]
                  refine z_aload_n dX11_node_113 rfl ?_
                  refine zr_get dX11_node_114 fX11_22_11 rfl rfl ?_
                  refine z_sipush (w := 1500) dX11_node_117 (by decide) ?_
                  refine z_iload_n dX11_node_120 rfl ?_
                  refine z_imul dX11_node_121 ?_
                  refine z_iload dX11_node_122 rfl ?_
                  refine z_iadd dX11_node_124 ?_
                  refine zr_ald (a := 1500 * s + u) dX11_node_125 (zx1500 s u) (by decide) (show 1500 * s + u < 10500 by omega) ?_
                  rw [hm9.2.2.1 u hu2, zm, if_neg hu0]
                  refine z_istore dX11_node_126 (Nat.le_of_ble_eq_true rfl) ?_
                  refine z_goto (t := 105) dX11_node_128 (by decide) ?_
                  exact ih _ (c + 1) (by omega) (by omega) (by simp only [zdp, if_neg hu0] at he; omega)
          exact loop j j 0 (Nat.le_refl _) hj (Nat.zero_add _)
        · have w59 : wn < 3 := by
            rcases Nat.lt_or_ge wn 3 with x | x
            · exact x
            · exact absurd (by rw [hw]; exact (nI_leI (a := 3) (by decide) (by omega)).mpr x) q59
          refine z_iload_n dX11_node_62 rfl ?_
          refine z_if_ne (t := 76) dX11_node_63 (by decide) (fun q63 => ?_) (fun q63 => ?_)
          · refine z_iload_n dX11_node_76 rfl ?_
            refine z_iconst (w := 1) dX11_node_77 (by decide) ?_
            refine z_icmp_ne (t := 91) dX11_node_78 (by decide) (fun q78 => ?_) (fun q78 => ?_)
            · refine z_aload_n dX11_node_91 rfl ?_
              refine zr_get dX11_node_92 fX11_28_11 rfl rfl ?_
              refine z_iload dX11_node_95 rfl ?_
              refine zr_ald (a := 1500 * s + j) dX11_node_97 rfl (by decide) (show 1500 * s + j < 10500 by have := hlt9; omega) ?_
              rw [hm9.2.2.2.2.1 j hj]
              refine z_ireturn dX11_node_98 trivial (Nat.le_of_ble_eq_true rfl) (Nat.le_of_ble_eq_true rfl) ?_
              refine hK _ _ ?_ zu_eq hQ0
              rw [hNo]
              first
              | rw [if_pos q63]
              | rw [if_neg q63, if_pos q78]
              | (rw [if_neg q63, if_neg q78, if_pos]
                 rw [hw]
                 have n0 : wn ≠ 0 := fun x => q63 (by rw [hw, x]; rfl)
                 have n1 : wn ≠ 1 := fun x => q78 (by rw [hw, x]; rfl)
                 rw [show wn = 2 by omega]; rfl)
            · refine z_aload_n dX11_node_81 rfl ?_
              refine zr_get dX11_node_82 fX11_25_11 rfl rfl ?_
              refine z_iload dX11_node_85 rfl ?_
              refine zr_ald (a := 1500 * s + j) dX11_node_87 rfl (by decide) (show 1500 * s + j < 10500 by have := hlt9; omega) ?_
              rw [hm9.2.2.2.1 j hj]
              refine z_goto (t := 98) dX11_node_88 (by decide) ?_
              refine z_ireturn dX11_node_98 trivial (Nat.le_of_ble_eq_true rfl) (Nat.le_of_ble_eq_true rfl) ?_
              refine hK _ _ ?_ zu_eq hQ0
              rw [hNo]
              first
              | rw [if_pos q63]
              | rw [if_neg q63, if_pos q78]
              | (rw [if_neg q63, if_neg q78, if_pos]
                 rw [hw]
                 have n0 : wn ≠ 0 := fun x => q63 (by rw [hw, x]; rfl)
                 have n1 : wn ≠ 1 := fun x => q78 (by rw [hw, x]; rfl)
                 rw [show wn = 2 by omega]; rfl)
          · refine z_aload_n dX11_node_66 rfl ?_
            refine zr_get dX11_node_67 fX11_22_11 rfl rfl ?_
            refine z_iload dX11_node_70 rfl ?_
            refine zr_ald (a := 1500 * s + j) dX11_node_72 rfl (by decide) (show 1500 * s + j < 10500 by have := hlt9; omega) ?_
            rw [hm9.2.2.1 j hj]
            refine z_goto (t := 98) dX11_node_73 (by decide) ?_
            refine z_ireturn dX11_node_98 trivial (Nat.le_of_ble_eq_true rfl) (Nat.le_of_ble_eq_true rfl) ?_
            refine hK _ _ ?_ zu_eq hQ0
            rw [hNo]
            first
            | rw [if_pos q63]
            | rw [if_neg q63, if_pos q78]
            | (rw [if_neg q63, if_neg q78, if_pos]
               rw [hw]
               have n0 : wn ≠ 0 := fun x => q63 (by rw [hw, x]; rfl)
               have n1 : wn ≠ 1 := fun x => q78 (by rw [hw, x]; rfl)
               rw [show wn = 2 by omega]; rfl)
      · refine z_aload_n dX11_node_41 rfl ?_
        refine z_iconst (w := 1) dX11_node_42 (by decide) ?_
        refine zr_put dX11_node_43 fX11_82_11 rfl (fun q => absurd q (by decide)) zset_0 (by decide) (Or.inl rfl) ?_
        refine z_iconst (w := 0) dX11_node_46 (by decide) ?_
        refine z_ireturn dX11_node_47 trivial (Nat.le_of_ble_eq_true rfl) (Nat.le_of_ble_eq_true rfl) ?_
        refine hKn _ ?_ zu_eq ?_
        · unfold zQno
          rw [if_pos ⟨zi11.mp q11, zi11.mp q20⟩, zs, if_neg (zi10.mp q38)]
        · exact hQ0.mv (zfv.refl.up (by decide) _) zfos.refl
    · refine z_iconst (w := -1) dX11_node_23 (by decide) ?_
      refine z_ireturn dX11_node_24 trivial (Nat.le_of_ble_eq_true rfl) (Nat.le_of_ble_eq_true rfl) ?_
      exact hK _ _ (if_neg (fun p => by first | exact zi10.mp q11 p.1 | exact zi10.mp q20 p.2)) zu_eq hQ0
def zQla (M : Nat → zMs) (e i : Int32) : Int32 := if zIn e 2 ∧ zIn i (M (zt e)).2.2.1 then nI ((M (zt e)).2.2.2.1 (zt i)) else -1
abbrev rX11_latest : Room := ⟨1, 0, 0, 40⟩
def SX11_latest (G : zC) : zS := fun as h n K => ∃ (h0 : zH) (m : Nat) (v : Nat → Int32) (g : Nat → Nat → Int32) (o rm : Nat) (a tx : Nat → Nat) (gg : Nat → Int32) (rx : Nat → Nat) (M : Nat → zMs) (z : Nat → Int32) (XX : Nat → Nat) (F : Nat → Option Nat) (e i : Int32), as = [.ref m, .int e, .int i] ∧ h = zRh G h0 m v g ∧ zOkS o rm a tx M ∧ zRS v g o rm a tx gg rx M z XX F ∧ ∀ v' g', zRS v' g' o rm a tx gg rx M z XX F → K (some (.int (zQla M e i))) (zRh G h0 m v' g') n
set_option maxRecDepth 100000 in
theorem tvX11_latest {G : zC} {as : List Value} {h : zH} {n : Nat} {K : zP} (hs : SX11_latest G as h n K) : (∃ b fs r, as = .ref b :: r ∧ h b = some (.inr (11, fs))) ∧ zCt G rX11_latest mX11_latest as h n K := by
  obtain ⟨h0, m, v, g, o, rm, a, tx, gg, rx, M, z, XX, F, e, i, rfl, rfl, hB, hS, hK⟩ := hs
  refine ⟨⟨_, _, _, rfl, zRh_o⟩, zCt.of (by decide) (Nat.le_of_ble_eq_true rfl) ?_⟩
  have hQ : zRS (upd v 0 0) g o rm a tx gg rx M z XX F := hS.thr 0
  have hQ0 := hQ
  obtain ⟨b1, b2, b3, b4, b5, b6, b7, b8, btx, bM⟩ := hB
  obtain ⟨e1, e2, e3, e5, e7, e16, e37, e35, e42, r1, r2, r3, c0, c1, r16, r17, hsl⟩ := hQ
  refine z_aload_n dX11_latest_0 rfl ?_
  refine z_iconst (w := 0) dX11_latest_1 (by decide) ?_
  refine zr_put dX11_latest_2 fX11_82_11 rfl (fun q => absurd q (by decide)) zset_0 (by decide) (Or.inl rfl) ?_
  refine z_iload_n dX11_latest_5 rfl ?_
  refine z_iconst (w := 0) dX11_latest_6 (by decide) ?_
  refine z_iconst (w := 1) dX11_latest_7 (by decide) ?_
  refine zcall3 (zck_S (R' := rX11_in) (M' := mX11_in) (fun _ _ _ _ => tX11_in) kX11_in lX11_88 (by decide +kernel) rfl) dX11_latest_8 (Nat.le_of_ble_eq_true rfl) (Nat.le_of_ble_eq_true rfl) (Nat.le_of_ble_eq_true rfl) ?_
  refine ⟨_, _, _, rfl, ?_⟩
  rw [show (if (0 : Int32) ≤ e ∧ e ≤ 1 then (1 : Int32) else 0) = if zIn e 2 then 1 else 0 from zif_le (u := 1) (by decide)]
  refine z_if_eq (t := 43) dX11_latest_11 (by decide) (fun q11 => ?_) (fun q11 => ?_)
  · rw [show zQla M e i = -1 from if_neg (fun p => zi10.mp q11 p.1)] at hK
    refine z_iconst (w := -1) dX11_latest_43 (by decide) ?_
    refine z_ireturn dX11_latest_44 trivial (Nat.le_of_ble_eq_true rfl) (Nat.le_of_ble_eq_true rfl) ?_
    exact hK _ g hQ0
  · obtain ⟨s, rfl, hs⟩ := zIn.ex (zi11.mp q11) (by first | decide | omega)
    have zs := (zIn_nI (by first | decide | omega) hs).2
    have hm9 := hsl s (zSlot.e hs)
    have hl9 := hm9.2.2.2.2.2.2.1
    refine z_iload_n dX11_latest_14 rfl ?_
    refine z_iconst (w := 0) dX11_latest_15 (by decide) ?_
    refine z_aload_n dX11_latest_16 rfl ?_
    refine zr_get dX11_latest_17 fX11_31_11 rfl rfl ?_
    refine z_iload_n dX11_latest_20 rfl ?_
    refine zr_ald (a := _) dX11_latest_21 rfl (by decide) (show s < 7 by omega) ?_
    rw [hm9.2.1]
    refine z_iconst (w := 1) dX11_latest_22 (by decide) ?_
    refine z_isub dX11_latest_23 ?_
    refine zcall3 (zck_S (R' := rX11_in) (M' := mX11_in) (fun _ _ _ _ => tX11_in) kX11_in lX11_88 (by decide +kernel) rfl) dX11_latest_24 (Nat.le_of_ble_eq_true rfl) (Nat.le_of_ble_eq_true rfl) (Nat.le_of_ble_eq_true rfl) ?_
    refine ⟨_, _, _, rfl, ?_⟩
    rw [zif_in (k := (M s).2.2.1) (by omega)]
    refine z_if_eq (t := 43) dX11_latest_27 (by decide) (fun q27 => ?_) (fun q27 => ?_)
    · rw [show zQla M (nI s) i = -1 from if_neg (fun p => zi10.mp q27 (by rw [← zs]; exact p.2))] at hK
      refine z_iconst (w := -1) dX11_latest_43 (by decide) ?_
      refine z_ireturn dX11_latest_44 trivial (Nat.le_of_ble_eq_true rfl) (Nat.le_of_ble_eq_true rfl) ?_
      exact hK _ g hQ0
    · rw [show zQla M (nI s) i = nI ((M (zt (nI s))).2.2.2.1 (zt i)) from if_pos ⟨zi11.mp q11, by rw [zs]; exact zi11.mp q27⟩, zs] at hK
      obtain ⟨j, rfl, hj⟩ := zIn.ex (zi11.mp q27) (by omega)
      rw [(zIn_nI (by omega) hj).2] at hK
      refine z_aload_n dX11_latest_30 rfl ?_
      refine zr_get dX11_latest_31 fX11_34_11 rfl rfl ?_
      refine z_iconst (w := 4) dX11_latest_34 (by decide) ?_
      refine z_iload_n dX11_latest_35 rfl ?_
      refine z_imul dX11_latest_36 ?_
      refine z_iload_n dX11_latest_37 rfl ?_
      refine z_iadd dX11_latest_38 ?_
      refine zr_ald (a := 4 * s + j) dX11_latest_39 (zx4 s j) (by decide) (show 4 * s + j < 28 by omega) ?_
      rw [(hm9.2.2.2.2.2.1 j hj).1]
      refine z_goto (t := 44) dX11_latest_40 (by decide) ?_
      refine z_ireturn dX11_latest_44 trivial (Nat.le_of_ble_eq_true rfl) (Nat.le_of_ble_eq_true rfl) ?_
      exact hK _ g hQ0
def zQre (z : Nat → Int32) (e : Int32) : Int32 := if zIn e 2 then z (zt e) else -1
abbrev rX11_restarted : Room := ⟨1, 0, 0, 40⟩
def SX11_restarted (G : zC) : zS := fun as h n K => ∃ (h0 : zH) (m : Nat) (v : Nat → Int32) (g : Nat → Nat → Int32) (o rm : Nat) (a tx : Nat → Nat) (gg : Nat → Int32) (rx : Nat → Nat) (M : Nat → zMs) (z : Nat → Int32) (XX : Nat → Nat) (F : Nat → Option Nat) (e : Int32), as = [.ref m, .int e] ∧ h = zRh G h0 m v g ∧ zOkS o rm a tx M ∧ zRS v g o rm a tx gg rx M z XX F ∧ ∀ v' g', zRS v' g' o rm a tx gg rx M z XX F → K (some (.int (zQre z e))) (zRh G h0 m v' g') n
set_option maxRecDepth 100000 in
theorem tvX11_restarted {G : zC} {as : List Value} {h : zH} {n : Nat} {K : zP} (hs : SX11_restarted G as h n K) : (∃ b fs r, as = .ref b :: r ∧ h b = some (.inr (11, fs))) ∧ zCt G rX11_restarted mX11_restarted as h n K := by
  obtain ⟨h0, m, v, g, o, rm, a, tx, gg, rx, M, z, XX, F, e, rfl, rfl, hB, hS, hK⟩ := hs
  refine ⟨⟨_, _, _, rfl, zRh_o⟩, zCt.of (by decide) (Nat.le_of_ble_eq_true rfl) ?_⟩
  have hQ : zRS (upd v 0 0) g o rm a tx gg rx M z XX F := hS.thr 0
  have hQ0 := hQ
  obtain ⟨b1, b2, b3, b4, b5, b6, b7, b8, btx, bM⟩ := hB
  obtain ⟨e1, e2, e3, e5, e7, e16, e37, e35, e42, r1, r2, r3, c0, c1, r16, r17, hsl⟩ := hQ
  refine z_aload_n dX11_restarted_0 rfl ?_
  refine z_iconst (w := 0) dX11_restarted_1 (by decide) ?_
  refine zr_put dX11_restarted_2 fX11_82_11 rfl (fun q => absurd q (by decide)) zset_0 (by decide) (Or.inl rfl) ?_
  refine z_iload_n dX11_restarted_5 rfl ?_
  refine z_iconst (w := 0) dX11_restarted_6 (by decide) ?_
  refine z_iconst (w := 1) dX11_restarted_7 (by decide) ?_
  refine zcall3 (zck_S (R' := rX11_in) (M' := mX11_in) (fun _ _ _ _ => tX11_in) kX11_in lX11_88 (by decide +kernel) rfl) dX11_restarted_8 (Nat.le_of_ble_eq_true rfl) (Nat.le_of_ble_eq_true rfl) (Nat.le_of_ble_eq_true rfl) ?_
  refine ⟨_, _, _, rfl, ?_⟩
  rw [show (if (0 : Int32) ≤ e ∧ e ≤ 1 then (1 : Int32) else 0) = if zIn e 2 then 1 else 0 from zif_le (u := 1) (by decide)]
  refine z_if_eq (t := 23) dX11_restarted_11 (by decide) (fun q11 => ?_) (fun q11 => ?_)
  · rw [show zQre z e = -1 from if_neg (zi10.mp q11)] at hK
    refine z_iconst (w := -1) dX11_restarted_23 (by decide) ?_
    refine z_ireturn dX11_restarted_24 trivial (Nat.le_of_ble_eq_true rfl) (Nat.le_of_ble_eq_true rfl) ?_
    exact hK _ g hQ0
  · rw [show zQre z e = z (zt e) from if_pos (zi11.mp q11)] at hK
    obtain ⟨s, rfl, hs⟩ := zIn.ex (zi11.mp q11) (by first | decide | omega)
    have zs := (zIn_nI (by first | decide | omega) hs).2
    rw [zs] at hK
    have hc : g 10 s = z s := by
      have : s = 0 ∨ s = 1 := by omega
      rcases this with rfl | rfl
      · exact c0
      · exact c1
    refine z_aload_n dX11_restarted_14 rfl ?_
    refine zr_get dX11_restarted_15 fX11_37_11 rfl rfl ?_
    refine z_iload_n dX11_restarted_18 rfl ?_
    refine zr_ald (a := _) dX11_restarted_19 rfl (by decide) (show s < 2 from hs) ?_
    rw [hc]
    refine z_goto (t := 24) dX11_restarted_20 (by decide) ?_
    refine z_ireturn dX11_restarted_24 trivial (Nat.le_of_ble_eq_true rfl) (Nat.le_of_ble_eq_true rfl) ?_
    exact hK _ g hQ0
def zRes (M : Nat → zMs) (e : Int32) : (Nat → zMs) × Int32 := if zIn e 2 then (va_up M (zt e) zM0, nI (M (zt e)).1.1) else (M, -1)
abbrev rX11_reset : Room := ⟨1, 0, 0, 40⟩
def SX11_reset (G : zC) : zS := fun as h n K => ∃ (h0 : zH) (m : Nat) (v : Nat → Int32) (g : Nat → Nat → Int32) (o rm : Nat) (a tx : Nat → Nat) (gg : Nat → Int32) (rx : Nat → Nat) (M : Nat → zMs) (z : Nat → Int32) (XX : Nat → Nat) (F : Nat → Option Nat) (e : Int32), as = [.ref m, .int e] ∧ h = zRh G h0 m v g ∧ zOkS o rm a tx M ∧ zRS v g o rm a tx gg rx M z XX F ∧ ∀ v' g', zRS v' g' o rm a tx gg rx (zRes M e).1 z XX F → K (some (.int (zRes M e).2)) (zRh G h0 m v' g') n
set_option maxRecDepth 100000 in
theorem tvX11_reset {G : zC} {as : List Value} {h : zH} {n : Nat} {K : zP} (hs : SX11_reset G as h n K) : (∃ b fs r, as = .ref b :: r ∧ h b = some (.inr (11, fs))) ∧ zCt G rX11_reset mX11_reset as h n K := by
  obtain ⟨h0, m, v, g, o, rm, a, tx, gg, rx, M, z, XX, F, e, rfl, rfl, hB, hS, hK⟩ := hs
  refine ⟨⟨_, _, _, rfl, zRh_o⟩, zCt.of (by decide) (Nat.le_of_ble_eq_true rfl) ?_⟩
  have hQ : zRS (upd v 0 0) g o rm a tx gg rx M z XX F := hS.thr 0
  have hQ0 := hQ
  obtain ⟨b1, b2, b3, b4, b5, b6, b7, b8, btx, bM⟩ := hB
  obtain ⟨e1, e2, e3, e5, e7, e16, e37, e35, e42, r1, r2, r3, c0, c1, r16, r17, hsl⟩ := hQ
  refine z_aload_n dX11_reset_0 rfl ?_
  refine z_iconst (w := 0) dX11_reset_1 (by decide) ?_
  refine zr_put dX11_reset_2 fX11_82_11 rfl (fun q => absurd q (by decide)) zset_0 (by decide) (Or.inl rfl) ?_
  refine z_iload_n dX11_reset_5 rfl ?_
  refine z_iconst (w := 0) dX11_reset_6 (by decide) ?_
  refine z_iconst (w := 1) dX11_reset_7 (by decide) ?_
  refine zcall3 (zck_S (R' := rX11_in) (M' := mX11_in) (fun _ _ _ _ => tX11_in) kX11_in lX11_88 (by decide +kernel) rfl) dX11_reset_8 (Nat.le_of_ble_eq_true rfl) (Nat.le_of_ble_eq_true rfl) (Nat.le_of_ble_eq_true rfl) ?_
  refine ⟨_, _, _, rfl, ?_⟩
  rw [show (if (0 : Int32) ≤ e ∧ e ≤ 1 then (1 : Int32) else 0) = if zIn e 2 then 1 else 0 from zif_le (u := 1) (by decide)]
  refine z_if_ne (t := 16) dX11_reset_11 (by decide) (fun q11 => ?_) (fun q11 => ?_)
  · rw [show zRes M e = (va_up M (zt e) zM0, nI (M (zt e)).1.1) from if_pos (zi11.mp q11)] at hK
    obtain ⟨s, rfl, hs⟩ := zIn.ex (zi11.mp q11) (by first | decide | omega)
    have zs := (zIn_nI (by first | decide | omega) hs).2
    rw [zs] at hK
    refine z_aload_n dX11_reset_16 rfl ?_
    refine zr_get dX11_reset_17 fX11_19_11 rfl rfl ?_
    refine z_iload_n dX11_reset_20 rfl ?_
    refine zr_ald (a := _) dX11_reset_21 rfl (by decide) (show s < 7 by omega) ?_
    rw [(hsl s (zSlot.e hs)).1]
    refine z_istore_n dX11_reset_22 (Nat.le_of_ble_eq_true rfl) ?_
    refine z_aload_n dX11_reset_23 rfl ?_
    refine z_iload_n dX11_reset_24 rfl ?_
    refine zcall2 (zck_V (na := 1) (ci := 11) (R' := rX11_begin) (M' := mX11_begin) (fun _ _ _ _ => tvX11_begin) (by decide) kX11_begin lX11_78 (by decide +kernel) rfl) dX11_reset_25 (Nat.le_of_ble_eq_true rfl) (Nat.le_of_ble_eq_true rfl) (Nat.le_of_ble_eq_true rfl) ?_
    refine ⟨h0, m, _, g, s, rfl, rfl, (by omega), fun g1 hg1 hM1 => ?_⟩
    refine z_iload_n dX11_reset_28 rfl ?_
    refine z_ireturn dX11_reset_29 trivial (Nat.le_of_ble_eq_true rfl) (Nat.le_of_ble_eq_true rfl) ?_
    refine hK _ _ ⟨(((zfv.refl (S := [])) 1 (by decide)).trans e1), (((zfv.refl (S := [])) 2 (by decide)).trans e2), (((zfv.refl (S := [])) 3 (by decide)).trans e3), (((zfv.refl (S := [])) 5 (by decide)).trans e5), (((zfv.refl (S := [])) 7 (by decide)).trans e7), (((zfv.refl (S := [])) 16 (by decide)).trans e16), (((zfv.refl (S := [])) 37 (by decide)).trans e37), (((zfv.refl (S := [])) 35 (by decide)).trans e35), (((zfv.refl (S := [])) 42 (by decide)).trans e42), (fun i hi => (congrFun (hg1.1 1 (by decide)) i).trans (r1 i hi)), (fun i hi => (congrFun (hg1.1 2 (by decide)) i).trans (r2 i hi)), (fun i hi => (congrFun (hg1.1 3 (by decide)) i).trans (r3 i hi)), ((congrFun (hg1.1 10 (by decide)) 0).trans c0), ((congrFun (hg1.1 10 (by decide)) 1).trans c1), (fun w i hi => (congrFun (hg1.1 16 (by decide)) i).trans (r16 w i hi)), (fun i hi => ⟨(congrFun (hg1.1 17 (by decide)) i).trans (r17 i hi).1, (congrFun (hg1.1 18 (by decide)) i).trans (r17 i hi).2⟩), ?_⟩
    intro t ht
    dsimp only
    by_cases e : t = s
    · rw [e, va_up_self]; exact hM1 _ _ _ _
    · rw [va_up_ne _ _ e]; exact (hsl t ht).other hg1 e
  · rw [show zRes M e = (M, -1) from if_neg (zi10.mp q11)] at hK
    refine z_iconst (w := -1) dX11_reset_14 (by decide) ?_
    refine z_ireturn dX11_reset_15 trivial (Nat.le_of_ble_eq_true rfl) (Nat.le_of_ble_eq_true rfl) ?_
    exact hK _ g hQ0
def zSav (a : Nat → Nat) (M : Nat → zMs) (e : Int32) : (Nat → Nat) × (Nat → zMs) × Int32 := if ¬ zIn e 2 then (a, M, -1) else if a 3 = 4 then (a, M, -2) else (va_up a 3 (a 3 + 1), va_up M (3 + a 3) (M (zt e)), nI (a 3))
abbrev rX11_save : Room := ⟨1, 0, 0, 40⟩
def SX11_save (G : zC) : zS := fun as h n K => ∃ (h0 : zH) (m : Nat) (v : Nat → Int32) (g : Nat → Nat → Int32) (o rm : Nat) (a tx : Nat → Nat) (gg : Nat → Int32) (rx : Nat → Nat) (M : Nat → zMs) (z : Nat → Int32) (XX : Nat → Nat) (F : Nat → Option Nat) (e : Int32), as = [.ref m, .int e] ∧ h = zRh G h0 m v g ∧ zOkS o rm a tx M ∧ zRS v g o rm a tx gg rx M z XX F ∧ ∀ v' g', zRS v' g' o rm (zSav a M e).1 tx gg rx (zSav a M e).2.1 z XX F → K (some (.int (zSav a M e).2.2)) (zRh G h0 m v' g') n
set_option maxRecDepth 100000 in
theorem tvX11_save {G : zC} {as : List Value} {h : zH} {n : Nat} {K : zP} (hs : SX11_save G as h n K) : (∃ b fs r, as = .ref b :: r ∧ h b = some (.inr (11, fs))) ∧ zCt G rX11_save mX11_save as h n K := by
  obtain ⟨h0, m, v, g, o, rm, a, tx, gg, rx, M, z, XX, F, e, rfl, rfl, hB, hS, hK⟩ := hs
  refine ⟨⟨_, _, _, rfl, zRh_o⟩, zCt.of (by decide) (Nat.le_of_ble_eq_true rfl) ?_⟩
  have hQ : zRS (upd v 0 0) g o rm a tx gg rx M z XX F := hS.thr 0
  have hQ0 := hQ
  obtain ⟨b1, b2, b3, b4, b5, b6, b7, b8, btx, bM⟩ := hB
  obtain ⟨e1, e2, e3, e5, e7, e16, e37, e35, e42, r1, r2, r3, c0, c1, r16, r17, hsl⟩ := hQ
  refine z_aload_n dX11_save_0 rfl ?_
  refine z_iconst (w := 0) dX11_save_1 (by decide) ?_
  refine zr_put dX11_save_2 fX11_82_11 rfl (fun q => absurd q (by decide)) zset_0 (by decide) (Or.inl rfl) ?_
  refine z_iload_n dX11_save_5 rfl ?_
  refine z_iconst (w := 0) dX11_save_6 (by decide) ?_
  refine z_iconst (w := 1) dX11_save_7 (by decide) ?_
  refine zcall3 (zck_S (R' := rX11_in) (M' := mX11_in) (fun _ _ _ _ => tX11_in) kX11_in lX11_88 (by decide +kernel) rfl) dX11_save_8 (Nat.le_of_ble_eq_true rfl) (Nat.le_of_ble_eq_true rfl) (Nat.le_of_ble_eq_true rfl) ?_
  refine ⟨_, _, _, rfl, ?_⟩
  rw [show (if (0 : Int32) ≤ e ∧ e ≤ 1 then (1 : Int32) else 0) = if zIn e 2 then 1 else 0 from zif_le (u := 1) (by decide)]
  refine z_if_ne (t := 16) dX11_save_11 (by decide) (fun q11 => ?_) (fun q11 => ?_)
  · refine z_aload_n dX11_save_16 rfl ?_
    refine zr_get dX11_save_17 fX11_228_11 rfl rfl ?_
    rw [e16]
    refine z_iconst (w := 4) dX11_save_20 (by decide) ?_
    refine z_icmp_ne (t := 27) dX11_save_21 (by decide) (fun q21 => ?_) (fun q21 => ?_)
    · have w21 : ¬ a 3 = 4 := fun x => q21 (by rw [x]; rfl)
      rw [show zSav a M e = (va_up a 3 (a 3 + 1), va_up M (3 + a 3) (M (zt e)), nI (a 3)) from (if_neg (fun p => p (zi11.mp q11))).trans (if_neg w21)] at hK
      obtain ⟨s, rfl, hs⟩ := zIn.ex (zi11.mp q11) (by first | decide | omega)
      have zs := (zIn_nI (by first | decide | omega) hs).2
      rw [zs] at hK
      refine z_aload_n dX11_save_27 rfl ?_
      refine z_iload_n dX11_save_28 rfl ?_
      refine z_iconst (w := 3) dX11_save_29 (by decide) ?_
      refine z_aload_n dX11_save_30 rfl ?_
      refine zr_get dX11_save_31 fX11_228_11 rfl rfl ?_
      rw [e16]
      refine z_iadd dX11_save_34 ?_
      rw [show (3 : Int32) + nI (a 3) = nI (3 + a 3) from nI_add 3 (a 3)]
      refine zcall3 (zck_V (na := 2) (ci := 11) (R' := rX11_copy) (M' := mX11_copy) (fun _ _ _ _ => tvX11_copy) (by decide) kX11_copy lX11_219 (by decide +kernel) rfl) dX11_save_35 (Nat.le_of_ble_eq_true rfl) (Nat.le_of_ble_eq_true rfl) (Nat.le_of_ble_eq_true rfl) ?_
      refine ⟨h0, m, _, g, s, 3 + a 3, _, _, _, rfl, rfl, hsl _ (zSlot.e hs), (by omega), (by omega), (by omega), fun g1 hg1 hM1 => ?_⟩
      refine z_aload_n dX11_save_38 rfl ?_
      refine z_dup dX11_save_39 rfl ?_
      refine zr_get dX11_save_40 fX11_228_11 rfl rfl ?_
      rw [e16]
      refine z_iconst (w := 1) dX11_save_43 (by decide) ?_
      refine z_iadd dX11_save_44 ?_
      rw [nI_1]
      refine zr_put dX11_save_45 fX11_228_11 rfl (fun q => absurd q (by decide)) zset_16 (by decide) (Or.inl rfl) ?_
      refine z_aload_n dX11_save_48 rfl ?_
      refine zr_get dX11_save_49 fX11_228_11 rfl rfl ?_
      rw [zu_eq]
      refine z_iconst (w := 1) dX11_save_52 (by decide) ?_
      refine z_isub dX11_save_53 ?_
      rw [show nI (a 3 + 1) - 1 = nI (a 3) by rw [show (1 : Int32) = nI 1 from rfl, zn_sub (by omega), Nat.add_sub_cancel]]
      refine z_ireturn dX11_save_54 trivial (Nat.le_of_ble_eq_true rfl) (Nat.le_of_ble_eq_true rfl) ?_
      refine hK _ _ ⟨((((zfv.refl (S := [16])).up (by decide) _) 1 (by decide)).trans e1), ((((zfv.refl (S := [16])).up (by decide) _) 2 (by decide)).trans e2), ((((zfv.refl (S := [16])).up (by decide) _) 3 (by decide)).trans e3), ((((zfv.refl (S := [16])).up (by decide) _) 5 (by decide)).trans e5), ((((zfv.refl (S := [16])).up (by decide) _) 7 (by decide)).trans e7), zu_eq, ((((zfv.refl (S := [16])).up (by decide) _) 37 (by decide)).trans e37), ((((zfv.refl (S := [16])).up (by decide) _) 35 (by decide)).trans e35), ((((zfv.refl (S := [16])).up (by decide) _) 42 (by decide)).trans e42), (fun i hi => (congrFun (hg1.1 1 (by decide)) i).trans (r1 i hi)), (fun i hi => (congrFun (hg1.1 2 (by decide)) i).trans (r2 i hi)), (fun i hi => (congrFun (hg1.1 3 (by decide)) i).trans (r3 i hi)), ((congrFun (hg1.1 10 (by decide)) 0).trans c0), ((congrFun (hg1.1 10 (by decide)) 1).trans c1), (fun w i hi => (congrFun (hg1.1 16 (by decide)) i).trans (r16 w i hi)), (fun i hi => ⟨(congrFun (hg1.1 17 (by decide)) i).trans (r17 i hi).1, (congrFun (hg1.1 18 (by decide)) i).trans (r17 i hi).2⟩), ?_⟩
      intro t ht
      dsimp only
      by_cases e : t = 3 + a 3
      · rw [e, va_up_self]; exact hM1
      · rw [va_up_ne _ _ e]
        refine (hsl t ?_).other hg1 e
        have ht : t = 0 ∨ t = 1 ∨ (3 ≤ t ∧ t < 3 + (a 3 + 1)) := ht
        unfold zSlot
        omega
    · have w21 : a 3 = 4 := (nI_eq (b := 4) (by omega) (by decide)).mp q21
      rw [show zSav a M e = (a, M, -2) from (if_neg (fun p => p (zi11.mp q11))).trans (if_pos w21)] at hK
      refine z_bipush (w := -2) dX11_save_24 (by decide) ?_
      refine z_ireturn dX11_save_26 trivial (Nat.le_of_ble_eq_true rfl) (Nat.le_of_ble_eq_true rfl) ?_
      exact hK _ g hQ0
  · refine z_iconst (w := -1) dX11_save_14 (by decide) ?_
    refine z_ireturn dX11_save_15 trivial (Nat.le_of_ble_eq_true rfl) (Nat.le_of_ble_eq_true rfl) ?_
    rw [show zSav a M e = (a, M, -1) from if_pos (zi10.mp q11)] at hK
    exact hK _ g hQ0
def zRsr (a : Nat → Nat) (M : Nat → zMs) (e k : Int32) : (Nat → zMs) × Int32 := if zIn e 2 ∧ zIn k (a 3) then (va_up M (zt e) (M (3 + zt k)), nI (M (3 + zt k)).1.1) else (M, -1)
abbrev rX11_restore : Room := ⟨1, 0, 0, 40⟩
def SX11_restore (G : zC) : zS := fun as h n K => ∃ (h0 : zH) (m : Nat) (v : Nat → Int32) (g : Nat → Nat → Int32) (o rm : Nat) (a tx : Nat → Nat) (gg : Nat → Int32) (rx : Nat → Nat) (M : Nat → zMs) (z : Nat → Int32) (XX : Nat → Nat) (F : Nat → Option Nat) (e k : Int32), as = [.ref m, .int e, .int k] ∧ h = zRh G h0 m v g ∧ zOkS o rm a tx M ∧ zRS v g o rm a tx gg rx M z XX F ∧ ∀ v' g', zRS v' g' o rm a tx gg rx (zRsr a M e k).1 z XX F → K (some (.int (zRsr a M e k).2)) (zRh G h0 m v' g') n
set_option maxRecDepth 100000 in
theorem tvX11_restore {G : zC} {as : List Value} {h : zH} {n : Nat} {K : zP} (hs : SX11_restore G as h n K) : (∃ b fs r, as = .ref b :: r ∧ h b = some (.inr (11, fs))) ∧ zCt G rX11_restore mX11_restore as h n K := by
  obtain ⟨h0, m, v, g, o, rm, a, tx, gg, rx, M, z, XX, F, e, k, rfl, rfl, hB, hS, hK⟩ := hs
  refine ⟨⟨_, _, _, rfl, zRh_o⟩, zCt.of (by decide) (Nat.le_of_ble_eq_true rfl) ?_⟩
  have hQ : zRS (upd v 0 0) g o rm a tx gg rx M z XX F := hS.thr 0
  have hQ0 := hQ
  obtain ⟨b1, b2, b3, b4, b5, b6, b7, b8, btx, bM⟩ := hB
  obtain ⟨e1, e2, e3, e5, e7, e16, e37, e35, e42, r1, r2, r3, c0, c1, r16, r17, hsl⟩ := hQ
  refine z_aload_n dX11_restore_0 rfl ?_
  refine z_iconst (w := 0) dX11_restore_1 (by decide) ?_
  refine zr_put dX11_restore_2 fX11_82_11 rfl (fun q => absurd q (by decide)) zset_0 (by decide) (Or.inl rfl) ?_
  refine z_iload_n dX11_restore_5 rfl ?_
  refine z_iconst (w := 0) dX11_restore_6 (by decide) ?_
  refine z_iconst (w := 1) dX11_restore_7 (by decide) ?_
  refine zcall3 (zck_S (R' := rX11_in) (M' := mX11_in) (fun _ _ _ _ => tX11_in) kX11_in lX11_88 (by decide +kernel) rfl) dX11_restore_8 (Nat.le_of_ble_eq_true rfl) (Nat.le_of_ble_eq_true rfl) (Nat.le_of_ble_eq_true rfl) ?_
  refine ⟨_, _, _, rfl, ?_⟩
  rw [show (if (0 : Int32) ≤ e ∧ e ≤ 1 then (1 : Int32) else 0) = if zIn e 2 then 1 else 0 from zif_le (u := 1) (by decide)]
  refine z_if_eq (t := 28) dX11_restore_11 (by decide) (fun q11 => ?_) (fun q11 => ?_)
  · refine z_iconst (w := -1) dX11_restore_28 (by decide) ?_
    refine z_ireturn dX11_restore_29 trivial (Nat.le_of_ble_eq_true rfl) (Nat.le_of_ble_eq_true rfl) ?_
    rw [show zRsr a M e k = (M, -1) from if_neg (fun p => by first | exact zi10.mp q11 p.1 | exact zi10.mp q25 p.2)] at hK
    exact hK _ g hQ0
  · refine z_iload_n dX11_restore_14 rfl ?_
    refine z_iconst (w := 0) dX11_restore_15 (by decide) ?_
    refine z_aload_n dX11_restore_16 rfl ?_
    refine zr_get dX11_restore_17 fX11_228_11 rfl rfl ?_
    rw [e16]
    refine z_iconst (w := 1) dX11_restore_20 (by decide) ?_
    refine z_isub dX11_restore_21 ?_
    refine zcall3 (zck_S (R' := rX11_in) (M' := mX11_in) (fun _ _ _ _ => tX11_in) kX11_in lX11_88 (by decide +kernel) rfl) dX11_restore_22 (Nat.le_of_ble_eq_true rfl) (Nat.le_of_ble_eq_true rfl) (Nat.le_of_ble_eq_true rfl) ?_
    refine ⟨_, _, _, rfl, ?_⟩
    rw [zif_in (k := a 3) (by omega)]
    refine z_if_ne (t := 30) dX11_restore_25 (by decide) (fun q25 => ?_) (fun q25 => ?_)
    · rw [show zRsr a M e k = (va_up M (zt e) (M (3 + zt k)), nI (M (3 + zt k)).1.1) from if_pos ⟨zi11.mp q11, zi11.mp q25⟩] at hK
      obtain ⟨s, rfl, hs⟩ := zIn.ex (zi11.mp q11) (by first | decide | omega)
      have zs := (zIn_nI (by first | decide | omega) hs).2
      obtain ⟨j, rfl, hj⟩ := zIn.ex (zi11.mp q25) (by first | decide | omega)
      have zj := (zIn_nI (by first | decide | omega) hj).2
      rw [zs, zj] at hK
      refine z_aload_n dX11_restore_30 rfl ?_
      refine z_iconst (w := 3) dX11_restore_31 (by decide) ?_
      refine z_iload_n dX11_restore_32 rfl ?_
      refine z_iadd dX11_restore_33 ?_
      rw [show (3 : Int32) + nI j = nI (3 + j) from nI_add 3 j]
      refine z_iload_n dX11_restore_34 rfl ?_
      refine zcall3 (zck_V (na := 2) (ci := 11) (R' := rX11_copy) (M' := mX11_copy) (fun _ _ _ _ => tvX11_copy) (by decide) kX11_copy lX11_219 (by decide +kernel) rfl) dX11_restore_35 (Nat.le_of_ble_eq_true rfl) (Nat.le_of_ble_eq_true rfl) (Nat.le_of_ble_eq_true rfl) ?_
      refine ⟨h0, m, _, g, 3 + j, s, _, _, _, rfl, rfl, hsl _ (Or.inr (Or.inr ⟨by omega, by omega⟩)), (by omega), (by omega), (by omega), fun g1 hg1 hM1 => ?_⟩
      refine z_aload_n dX11_restore_38 rfl ?_
      refine zr_get dX11_restore_39 fX11_19_11 rfl rfl ?_
      refine z_iload_n dX11_restore_42 rfl ?_
      refine zr_ald (a := _) dX11_restore_43 rfl (by decide) (show s < 7 by omega) ?_
      rw [hM1.1]
      refine z_ireturn dX11_restore_44 trivial (Nat.le_of_ble_eq_true rfl) (Nat.le_of_ble_eq_true rfl) ?_
      refine hK _ _ ⟨(((zfv.refl (S := [])) 1 (by decide)).trans e1), (((zfv.refl (S := [])) 2 (by decide)).trans e2), (((zfv.refl (S := [])) 3 (by decide)).trans e3), (((zfv.refl (S := [])) 5 (by decide)).trans e5), (((zfv.refl (S := [])) 7 (by decide)).trans e7), (((zfv.refl (S := [])) 16 (by decide)).trans e16), (((zfv.refl (S := [])) 37 (by decide)).trans e37), (((zfv.refl (S := [])) 35 (by decide)).trans e35), (((zfv.refl (S := [])) 42 (by decide)).trans e42), (fun i hi => (congrFun (hg1.1 1 (by decide)) i).trans (r1 i hi)), (fun i hi => (congrFun (hg1.1 2 (by decide)) i).trans (r2 i hi)), (fun i hi => (congrFun (hg1.1 3 (by decide)) i).trans (r3 i hi)), ((congrFun (hg1.1 10 (by decide)) 0).trans c0), ((congrFun (hg1.1 10 (by decide)) 1).trans c1), (fun w i hi => (congrFun (hg1.1 16 (by decide)) i).trans (r16 w i hi)), (fun i hi => ⟨(congrFun (hg1.1 17 (by decide)) i).trans (r17 i hi).1, (congrFun (hg1.1 18 (by decide)) i).trans (r17 i hi).2⟩), ?_⟩
      intro t ht
      dsimp only
      by_cases e : t = s
      · rw [e, va_up_self]; exact hM1
      · rw [va_up_ne _ _ e]; exact (hsl t ht).other hg1 e
    · refine z_iconst (w := -1) dX11_restore_28 (by decide) ?_
      refine z_ireturn dX11_restore_29 trivial (Nat.le_of_ble_eq_true rfl) (Nat.le_of_ble_eq_true rfl) ?_
      rw [show zRsr a M e k = (M, -1) from if_neg (fun p => by first | exact zi10.mp q11 p.1 | exact zi10.mp q25 p.2)] at hK
      exact hK _ g hQ0
abbrev rX11_forget : Room := ⟨1, 0, 0, 40⟩
def SX11_forget (G : zC) : zS := fun as h n K => ∃ (h0 : zH) (m : Nat) (v : Nat → Int32) (g : Nat → Nat → Int32) (o rm : Nat) (a tx : Nat → Nat) (gg : Nat → Int32) (rx : Nat → Nat) (M : Nat → zMs) (z : Nat → Int32) (XX : Nat → Nat) (F : Nat → Option Nat), as = [.ref m] ∧ h = zRh G h0 m v g ∧ zOkS o rm a tx M ∧ zRS v g o rm a tx gg rx M z XX F ∧ ∀ v' g', zRS v' g' o rm (va_up a 3 0) tx gg rx M z XX F → K (some (.int (nI (a 3)))) (zRh G h0 m v' g') n
set_option maxRecDepth 100000 in
theorem tvX11_forget {G : zC} {as : List Value} {h : zH} {n : Nat} {K : zP} (hs : SX11_forget G as h n K) : (∃ b fs r, as = .ref b :: r ∧ h b = some (.inr (11, fs))) ∧ zCt G rX11_forget mX11_forget as h n K := by
  obtain ⟨h0, m, v, g, o, rm, a, tx, gg, rx, M, z, XX, F, rfl, rfl, hB, hS, hK⟩ := hs
  refine ⟨⟨_, _, _, rfl, zRh_o⟩, zCt.of (by decide) (Nat.le_of_ble_eq_true rfl) ?_⟩
  have hQ : zRS (upd v 0 0) g o rm a tx gg rx M z XX F := hS.thr 0
  have hQ0 := hQ
  obtain ⟨b1, b2, b3, b4, b5, b6, b7, b8, btx, bM⟩ := hB
  obtain ⟨e1, e2, e3, e5, e7, e16, e37, e35, e42, r1, r2, r3, c0, c1, r16, r17, hsl⟩ := hQ
  refine z_aload_n dX11_forget_0 rfl ?_
  refine z_iconst (w := 0) dX11_forget_1 (by decide) ?_
  refine zr_put dX11_forget_2 fX11_82_11 rfl (fun q => absurd q (by decide)) zset_0 (by decide) (Or.inl rfl) ?_
  refine z_aload_n dX11_forget_5 rfl ?_
  refine zr_get dX11_forget_6 fX11_228_11 rfl rfl ?_
  rw [e16]
  refine z_istore_n dX11_forget_9 (Nat.le_of_ble_eq_true rfl) ?_
  refine z_aload_n dX11_forget_10 rfl ?_
  refine z_iconst (w := 0) dX11_forget_11 (by decide) ?_
  refine zr_put dX11_forget_12 fX11_228_11 rfl (fun q => absurd q (by decide)) zset_16 (by decide) (Or.inl rfl) ?_
  refine z_iload_n dX11_forget_15 rfl ?_
  refine z_ireturn dX11_forget_16 trivial (Nat.le_of_ble_eq_true rfl) (Nat.le_of_ble_eq_true rfl) ?_
  exact hK _ g ⟨((((zfv.refl (S := [16])).up (by decide) _) 1 (by decide)).trans e1), ((((zfv.refl (S := [16])).up (by decide) _) 2 (by decide)).trans e2), ((((zfv.refl (S := [16])).up (by decide) _) 3 (by decide)).trans e3), ((((zfv.refl (S := [16])).up (by decide) _) 5 (by decide)).trans e5), ((((zfv.refl (S := [16])).up (by decide) _) 7 (by decide)).trans e7), zu_eq, ((((zfv.refl (S := [16])).up (by decide) _) 37 (by decide)).trans e37), ((((zfv.refl (S := [16])).up (by decide) _) 35 (by decide)).trans e35), ((((zfv.refl (S := [16])).up (by decide) _) 42 (by decide)).trans e42), (fun i hi => (congrFun ((zfg.refl (S := [])) 1 (by decide)) i).trans (r1 i hi)), (fun i hi => (congrFun ((zfg.refl (S := [])) 2 (by decide)) i).trans (r2 i hi)), (fun i hi => (congrFun ((zfg.refl (S := [])) 3 (by decide)) i).trans (r3 i hi)), ((congrFun ((zfg.refl (S := [])) 10 (by decide)) 0).trans c0), ((congrFun ((zfg.refl (S := [])) 10 (by decide)) 1).trans c1), (fun w i hi => (congrFun ((zfg.refl (S := [])) 16 (by decide)) i).trans (r16 w i hi)), (fun i hi => ⟨(congrFun ((zfg.refl (S := [])) 17 (by decide)) i).trans (r17 i hi).1, (congrFun ((zfg.refl (S := [])) 18 (by decide)) i).trans (r17 i hi).2⟩), (fun t ht => hsl t (by have ht : t = 0 ∨ t = 1 ∨ (3 ≤ t ∧ t < 3 + 0) := ht; unfold zSlot; omega))⟩

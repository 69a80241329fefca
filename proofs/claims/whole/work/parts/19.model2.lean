/-! Model: counts are lessened, a child grows, it begins -/
theorem zpw_ne {byt : Nat → Nat} {d : Nat} {r : List Nat} (h : (d :: r).Pairwise (fun c e => byt c < byt e)) : d ∉ r := fun hm => by
  have := (List.pairwise_cons.mp h).1 d hm
  omega
theorem zaw_no {m : zAm} {q : Nat} (h : ¬ zaw m q) : q ≠ m.1 ∧ q ≠ m.2.1 ∧ q ≠ m.2.2.1 ∧ q ≠ m.2.2.2.1 ∧ q ≠ m.2.2.2.2.1 ∧ q ≠ m.2.2.2.2.2.1 ∧ q ≠ m.2.2.2.2.2.2.1 ∧ q ≠ m.2.2.2.2.2.2.2 := by
  unfold zaw at h
  simp only [not_or] at h
  exact h
def zhalf (cnt : Nat → Nat) (l : List Nat) (i : Nat) : Nat := if i ∈ l then (cnt i + 1) / 2 else cnt i
def zless (cnt : Nat → Nat) (l : List Nat) : Nat → Nat := if zsum cnt l ≤ 200 then cnt else zhalf cnt l
abbrev rX3_lessenCounts : Room := ⟨3, 0, 0, 120⟩
def SX3_lessenCounts (G : zC) : zS := fun as h n K => ∃ (m : zAm) (o rm : Nat) (T : zTree) (ch : Nat → List Nat) (lm : Nat) (lat ctx : Nat → Nat) (p0 : Nat), as = [.ref m.1, .int (nI p0)] ∧ zMod G h m o rm T ch lm lat ctx ∧ p0 < T.1 ∧ zsum T.2.2.2 (ch p0) < 1000000 ∧ ∀ h', zMod G h' m o rm (T.1, T.2.1, T.2.2.1, zless T.2.2.2 (ch p0)) ch lm lat ctx → (∀ q, ¬ zaw m q → h' q = h q) → K none h' n
set_option maxRecDepth 100000 in
theorem tvX3_lessenCounts {G : zC} {as : List Value} {h : zH} {n : Nat} {K : zP} (hs : SX3_lessenCounts G as h n K) : (∃ b fs r, as = .ref b :: r ∧ h b = some (.inr (4, fs))) ∧ zCt G rX3_lessenCounts mX3_lessenCounts as h n K := by
  obtain ⟨⟨a, p, b, c, f, x, l, t⟩, o, rm, ⟨nm, par, byt, cnt⟩, ch, lm, lat, ctx, p0, rfl, hM, hp0, hs0, hK⟩ := hs
  have hM0 := hM
  obtain ⟨P, B, C, F, X, L, U, ⟨hk, hp, hb, hc, hf, hx, hl, hu, hdj, ho4, hr8, hr15, hnr, hlo⟩, ⟨t1, t2, t3, t4⟩, ⟨w1, w2, w3, w4, w5⟩, hL, hU⟩ := hM
  dsimp only at hk hp hb hc hf hx hl hu hdj hnr t1 t2 t3 t4 w1 w2 w3 w4 w5
  have hdj0 := hdj
  obtain ⟨⟨npb, npc, npf, npx, npl, npt⟩, ⟨nbc, nbf, nbx, nbl, nbt⟩, ⟨ncf, ncx, ncl, nct⟩, ⟨nfx, nfl, nft⟩, ⟨nxl, nxt⟩, nlt⟩ := hdj
  have nap : a ≠ p := fun q => by rw [q, hp] at hk; simp at hk
  have nab : a ≠ b := fun q => by rw [q, hb] at hk; simp at hk
  have nac : a ≠ c := fun q => by rw [q, hc] at hk; simp at hk
  have naf : a ≠ f := fun q => by rw [q, hf] at hk; simp at hk
  have nax : a ≠ x := fun q => by rw [q, hx] at hk; simp at hk
  have nal : a ≠ l := fun q => by rw [q, hl] at hk; simp at hk
  have nat : a ≠ t := fun q => by rw [q, hu] at hk; simp at hk
  refine ⟨⟨_, _, _, rfl, hk⟩, zCt.of (by decide) (Nat.le_of_ble_eq_true rfl) ?_⟩
  dsimp only at hp0 hs0 hK
  have loop : ∀ (r : List Nat) (j : Nat) (C1 : Nat → Int32) (h1 : zH), zlink X r → (∀ c, c ∈ r → c ∈ ch p0) → r.Pairwise (fun c e => byt c < byt e) → r.length < j → j ≤ nm → h1 c = some (zI G rm C1) → (∀ q, q ≠ c → h1 q = h q) → (∀ i, i < nm → C1 i = if i = 0 then 0 else nI (if i ∈ ch p0 ∧ i ∉ r then (cnt i + 1) / 2 else cnt i)) → ¬ zsum cnt (ch p0) ≤ 200 → zZ (zXm G rX3_lessenCounts mX3_lessenCounts [.ref a, .int (nI p0)] h n K) 23 [(0, .ref a), (1, .int (nI p0)), (2, .int (nI j)), (3, .int (zhd r))] [] h1 n 0 0 := by
    intro r
    induction r with
    | nil =>
      intro j C1 h1 hk1 hm1 hpw hj hj2 hc1 ho hC hgt
      refine z_iload_n dX3_lessenCounts_23 rfl ?_
      refine z_iconst (w := -1) dX3_lessenCounts_24 (by decide) ?_
      refine z_icmp_eq (t := 61) dX3_lessenCounts_25 (by decide) (fun q25 => ?_) (fun q25 => ?_)
      · refine z_vreturn dX3_lessenCounts_61 rfl (Nat.le_of_ble_eq_true rfl) (Nat.le_of_ble_eq_true rfl) ?_
        refine hK h1 ⟨P, B, C1, F, X, L, U, ⟨(ho a nac).trans hk, (ho p npc).trans hp, (ho b nbc).trans hb, hc1, (ho f (Ne.symm ncf)).trans hf, (ho x (Ne.symm ncx)).trans hx, (ho l (Ne.symm ncl)).trans hl, (ho t (Ne.symm nct)).trans hu, hdj0, ho4, hr8, hr15, hnr, hlo⟩, ⟨t1, t2, t3, fun d g1 g2 => ⟨(t4 d g1 g2).1, (t4 d g1 g2).2.1, (t4 d g1 g2).2.2.1, ?_⟩⟩, ⟨w1, w2, fun i hi => ?_, w4, w5⟩, hL, hU⟩ (fun q hq => ho q (zaw_no hq).2.2.2.1)
        · have h9 := (t4 d g1 g2).2.2.2
          simp only [zless, if_neg hgt, zhalf]
          split <;> omega
        · rw [hC i hi]
          simp only [zless, if_neg hgt, zhalf, List.not_mem_nil, not_false_eq_true, and_true]
      · exact absurd rfl q25
    | cons d r ih =>
      intro j C1 h1 hk1 hm1 hpw hj hj2 hc1 ho hC hgt
      have hd := t3 p0 d hp0 (hm1 d List.mem_cons_self)
      have hdn := zpw_ne hpw
      have hk2 := (ho a nac).trans hk
      have hx2 := (ho x (Ne.symm ncx)).trans hx
      have hcd : C1 d = nI (cnt d) := by
        rw [hC d hd.2.1, if_neg (by omega)]
        simp
      have hsd := zsum_le (cnt := cnt) (hm1 d List.mem_cons_self)
      simp only [List.length_cons] at hj
      simp only [zhd]
      refine z_iload_n dX3_lessenCounts_23 rfl ?_
      refine z_iconst (w := -1) dX3_lessenCounts_24 (by decide) ?_
      refine z_icmp_eq (t := 61) dX3_lessenCounts_25 (by decide) (fun q25 => ?_) (fun q25 => ?_)
      · exact absurd q25 (zhd_ne (by omega))
      · refine z_iload_n dX3_lessenCounts_28 rfl ?_
        refine z_if_le (t := 61) dX3_lessenCounts_29 (by decide) (fun q29 => ?_) (fun q29 => ?_)
        · exact absurd q29 (nI_nle (by omega) (by omega))
        · refine z_aload_n dX3_lessenCounts_32 rfl ?_
          refine z_getfield dX3_lessenCounts_33 fX3_31_4 rfl (by first | assumption | exact zget_eq | exact zget_ne (by first | assumption | exact Ne.symm (by assumption) | omega) (by first | assumption | exact zget_eq | exact zget_ne (by first | assumption | exact Ne.symm (by assumption) | omega) (by first | assumption | exact zget_eq | exact zget_ne (by first | assumption | exact Ne.symm (by assumption) | omega) (by first | assumption | exact zget_eq)))) rfl ?_
          refine z_iload_n dX3_lessenCounts_36 rfl ?_
          refine z_aload_n dX3_lessenCounts_37 rfl ?_
          refine z_iload_n dX3_lessenCounts_38 rfl ?_
          refine zcall2 (zck_V (na := 1) (ci := 4) (R' := rX3_countOf) (M' := mX3_countOf) (fun _ _ _ _ => tvX3_countOf) (by decide) kX3_countOf lX3_81 (by decide +kernel) rfl) dX3_lessenCounts_39 (Nat.le_of_ble_eq_true rfl) (Nat.le_of_ble_eq_true rfl) (Nat.le_of_ble_eq_true rfl) ?_
          refine ⟨_, _, _, _, _, _, rfl, hk2, rfl, hc1, (by omega), (by omega), ?_⟩
          rw [hcd]
          refine z_iconst (w := 1) dX3_lessenCounts_42 (by decide) ?_
          refine z_iadd dX3_lessenCounts_43 ?_
          refine z_iconst (w := 2) dX3_lessenCounts_44 (by decide) ?_
          refine z_idiv dX3_lessenCounts_45 (by decide) ?_
          rw [show (nI (cnt d) + 1) / 2 = nI ((cnt d + 1) / 2) by rw [nI_1]; exact pk_div (d := 2) (by omega) (by omega) (by decide)]
          refine zcall3 (zck_SN (R' := rX10_put) (M' := mX10_put) (fun _ _ _ _ => tX10_put) kX10_put lX3_49 nX3_49 (by decide +kernel) rfl) dX3_lessenCounts_46 (Nat.le_of_ble_eq_true rfl) (Nat.le_of_ble_eq_true rfl) (Nat.le_of_ble_eq_true rfl) ?_
          refine ⟨_, _, _, _, _, rfl, hc1, (by omega), fun h3 e1 o1 => ?_⟩
          rw [zpt_in (by omega) (by omega)] at e1
          have hk3 := (o1 a nac).trans hk2
          have hx3 := (o1 x (Ne.symm ncx)).trans hx2
          refine z_iinc dX3_lessenCounts_49 rfl (Nat.le_of_ble_eq_true rfl) ?_
          rw [show nI j + Int32.ofInt (-1) = nI (j - 1) from sb_m1 (by omega)]
          refine z_aload_n dX3_lessenCounts_52 rfl ?_
          refine z_iload_n dX3_lessenCounts_53 rfl ?_
          refine zcall2 (zck_V (na := 1) (ci := 4) (R' := rX3_nextSibling) (M' := mX3_nextSibling) (fun _ _ _ _ => tvX3_nextSibling) (by decide) kX3_nextSibling lX3_101 (by decide +kernel) rfl) dX3_lessenCounts_54 (Nat.le_of_ble_eq_true rfl) (Nat.le_of_ble_eq_true rfl) (Nat.le_of_ble_eq_true rfl) ?_
          refine ⟨_, _, _, _, _, _, rfl, hk3, rfl, hx3, (by omega), (by omega), ?_⟩
          rw [hk1.1]
          refine z_istore_n dX3_lessenCounts_57 (Nat.le_of_ble_eq_true rfl) ?_
          refine z_goto (t := 23) dX3_lessenCounts_58 (by decide) ?_
          refine ih (j - 1) _ _ hk1.2 (fun c hc => hm1 c (List.mem_cons_of_mem _ hc)) (List.pairwise_cons.mp hpw).2 (by omega) (by omega) e1 (fun q hq => (o1 q hq).trans (ho q hq)) (fun i hi => ?_) hgt
          by_cases hid : i = d
          · subst hid
            rw [pk_us, if_neg (by omega), if_pos ⟨hm1 i List.mem_cons_self, hdn⟩]
          · rw [pk_un hid, hC i hi]
            simp only [List.mem_cons, hid, false_or]
  refine z_aload_n dX3_lessenCounts_0 rfl ?_
  refine z_iload_n dX3_lessenCounts_1 rfl ?_
  refine zcall2 (zck_V (na := 1) (ci := 4) (R' := rX3_countsTogether) (M' := mX3_countsTogether) (fun _ _ _ _ => tvX3_countsTogether) (by decide) kX3_countsTogether lX3_104 (by decide +kernel) rfl) dX3_lessenCounts_2 (Nat.le_of_ble_eq_true rfl) (Nat.le_of_ble_eq_true rfl) (Nat.le_of_ble_eq_true rfl) ?_
  refine ⟨_, _, _, _, _, _, _, _, _, rfl, hM0, hp0, hs0, ?_⟩
  refine z_sipush (w := 200) dX3_lessenCounts_5 (by decide) ?_
  refine z_icmp_gt (t := 12) dX3_lessenCounts_8 (by decide) (fun q8 => ?_) (fun q8 => ?_)
  · have q8b : ¬ zsum cnt (ch p0) ≤ 200 := fun z => nI_nlt (a := 200) (b := zsum cnt (ch p0)) z (by omega) q8
    refine z_aload_n dX3_lessenCounts_12 rfl ?_
    refine z_getfield dX3_lessenCounts_13 fX3_53_4 rfl (by first | assumption | exact zget_eq | exact zget_ne (by first | assumption | exact Ne.symm (by assumption) | omega) (by first | assumption | exact zget_eq | exact zget_ne (by first | assumption | exact Ne.symm (by assumption) | omega) (by first | assumption | exact zget_eq | exact zget_ne (by first | assumption | exact Ne.symm (by assumption) | omega) (by first | assumption | exact zget_eq)))) rfl ?_
    refine z_istore_n dX3_lessenCounts_16 (Nat.le_of_ble_eq_true rfl) ?_
    refine z_aload_n dX3_lessenCounts_17 rfl ?_
    refine z_iload_n dX3_lessenCounts_18 rfl ?_
    refine zcall2 (zck_V (na := 1) (ci := 4) (R' := rX3_firstChild) (M' := mX3_firstChild) (fun _ _ _ _ => tvX3_firstChild) (by decide) kX3_firstChild lX3_95 (by decide +kernel) rfl) dX3_lessenCounts_19 (Nat.le_of_ble_eq_true rfl) (Nat.le_of_ble_eq_true rfl) (Nat.le_of_ble_eq_true rfl) ?_
    refine ⟨_, _, _, _, _, _, rfl, (by first | assumption | exact hk), rfl, (by assumption), (by omega), (by omega), ?_⟩
    rw [w4 p0 hp0]
    refine z_istore_n dX3_lessenCounts_22 (Nat.le_of_ble_eq_true rfl) ?_
    exact loop (ch p0) nm C h (w5 p0 hp0) (fun c hc => hc) (t2 p0 hp0).2 (t2 p0 hp0).1 (Nat.le_refl _) hc (fun q _ => rfl) (fun i hi => by rw [w3 i hi]; simp) q8b
  · have q8b : zsum cnt (ch p0) ≤ 200 := by
      rcases Nat.lt_or_ge 200 (zsum cnt (ch p0)) with z | z
      · exact absurd (nI_lt (a := 200) z (by omega)) q8
      · exact z
    rw [zless, if_pos q8b] at hK
    refine z_vreturn dX3_lessenCounts_11 rfl (Nat.le_of_ble_eq_true rfl) (Nat.le_of_ble_eq_true rfl) ?_
    exact hK h hM0 (fun q _ => rfl)
abbrev rX3_begin : Room := ⟨1, 0, 0, 40⟩
def SX3_begin (G : zC) : zS := fun as h n K => ∃ (m : zAm) (o rm nm lm : Nat) (P B C F X L U : Nat → Int32), as = [.ref m.1] ∧ zMr G h m o rm nm lm P B C F X L U ∧ ∀ h', (∀ par byt cnt lat, zMod G h' m o rm (1, par, byt, cnt) (fun _ => []) 0 lat (fun _ => 0)) → (∀ q, ¬ zaw m q → h' q = h q) → K none h' n
set_option maxRecDepth 100000 in
theorem tvX3_begin {G : zC} {as : List Value} {h : zH} {n : Nat} {K : zP} (hs : SX3_begin G as h n K) : (∃ b fs r, as = .ref b :: r ∧ h b = some (.inr (4, fs))) ∧ zCt G rX3_begin mX3_begin as h n K := by
  obtain ⟨⟨a, p, b, c, f, x, l, t⟩, o, rm, nm, lm, P, B, C, F, X, L, U, rfl, ⟨hk, hp, hb, hc, hf, hx, hl, hu, hdj, ho4, hr8, hr15, hnr, hlo⟩, hK⟩ := hs
  dsimp only at hk hp hb hc hf hx hl hu hdj hnr
  have hdj0 := hdj
  obtain ⟨⟨npb, npc, npf, npx, npl, npt⟩, ⟨nbc, nbf, nbx, nbl, nbt⟩, ⟨ncf, ncx, ncl, nct⟩, ⟨nfx, nfl, nft⟩, ⟨nxl, nxt⟩, nlt⟩ := hdj
  have nap : a ≠ p := fun q => by rw [q, hp] at hk; simp at hk
  have nab : a ≠ b := fun q => by rw [q, hb] at hk; simp at hk
  have nac : a ≠ c := fun q => by rw [q, hc] at hk; simp at hk
  have naf : a ≠ f := fun q => by rw [q, hf] at hk; simp at hk
  have nax : a ≠ x := fun q => by rw [q, hx] at hk; simp at hk
  have nal : a ≠ l := fun q => by rw [q, hl] at hk; simp at hk
  have nat : a ≠ t := fun q => by rw [q, hu] at hk; simp at hk
  refine ⟨⟨_, _, _, rfl, hk⟩, zCt.of (by decide) (Nat.le_of_ble_eq_true rfl) ?_⟩
  refine z_aload_n dX3_begin_0 rfl ?_
  refine z_getfield dX3_begin_1 fX3_24_4 rfl (by first | assumption | exact zget_eq | exact zget_ne (by first | assumption | exact Ne.symm (by assumption) | omega) (by first | assumption | exact zget_eq | exact zget_ne (by first | assumption | exact Ne.symm (by assumption) | omega) (by first | assumption | exact zget_eq | exact zget_ne (by first | assumption | exact Ne.symm (by assumption) | omega) (by first | assumption | exact zget_eq)))) rfl ?_
  refine z_iconst (w := 0) dX3_begin_4 (by decide) ?_
  refine z_iconst (w := -1) dX3_begin_5 (by decide) ?_
  refine zcall3 (zck_SN (R' := rX10_put) (M' := mX10_put) (fun _ _ _ _ => tX10_put) kX10_put lX3_49 nX3_49 (by decide +kernel) rfl) dX3_begin_6 (Nat.le_of_ble_eq_true rfl) (Nat.le_of_ble_eq_true rfl) (Nat.le_of_ble_eq_true rfl) ?_
  refine ⟨_, _, _, _, _, rfl, hp, (by omega), fun h1 e1 o1 => ?_⟩
  have k1 := (o1 a nap).trans hk
  refine z_aload_n dX3_begin_9 rfl ?_
  refine z_getfield dX3_begin_10 fX3_28_4 rfl (by first | assumption | exact zget_eq | exact zget_ne (by first | assumption | exact Ne.symm (by assumption) | omega) (by first | assumption | exact zget_eq | exact zget_ne (by first | assumption | exact Ne.symm (by assumption) | omega) (by first | assumption | exact zget_eq | exact zget_ne (by first | assumption | exact Ne.symm (by assumption) | omega) (by first | assumption | exact zget_eq)))) rfl ?_
  refine z_iconst (w := 0) dX3_begin_13 (by decide) ?_
  refine z_iconst (w := -1) dX3_begin_14 (by decide) ?_
  refine zcall3 (zck_SN (R' := rX10_put) (M' := mX10_put) (fun _ _ _ _ => tX10_put) kX10_put lX3_49 nX3_49 (by decide +kernel) rfl) dX3_begin_15 (Nat.le_of_ble_eq_true rfl) (Nat.le_of_ble_eq_true rfl) (Nat.le_of_ble_eq_true rfl) ?_
  refine ⟨_, _, _, _, _, rfl, ((o1 b (Ne.symm npb)).trans hb), (by omega), fun h2 e2 o2 => ?_⟩
  have k2 := (o2 a nab).trans k1
  refine z_aload_n dX3_begin_18 rfl ?_
  refine z_getfield dX3_begin_19 fX3_31_4 rfl (by first | assumption | exact zget_eq | exact zget_ne (by first | assumption | exact Ne.symm (by assumption) | omega) (by first | assumption | exact zget_eq | exact zget_ne (by first | assumption | exact Ne.symm (by assumption) | omega) (by first | assumption | exact zget_eq | exact zget_ne (by first | assumption | exact Ne.symm (by assumption) | omega) (by first | assumption | exact zget_eq)))) rfl ?_
  refine z_iconst (w := 0) dX3_begin_22 (by decide) ?_
  refine z_iconst (w := 0) dX3_begin_23 (by decide) ?_
  refine zcall3 (zck_SN (R' := rX10_put) (M' := mX10_put) (fun _ _ _ _ => tX10_put) kX10_put lX3_49 nX3_49 (by decide +kernel) rfl) dX3_begin_24 (Nat.le_of_ble_eq_true rfl) (Nat.le_of_ble_eq_true rfl) (Nat.le_of_ble_eq_true rfl) ?_
  refine ⟨_, _, _, _, _, rfl, ((o2 c (Ne.symm nbc)).trans ((o1 c (Ne.symm npc)).trans hc)), (by omega), fun h3 e3 o3 => ?_⟩
  have k3 := (o3 a nac).trans k2
  refine z_aload_n dX3_begin_27 rfl ?_
  refine z_getfield dX3_begin_28 fX3_34_4 rfl (by first | assumption | exact zget_eq | exact zget_ne (by first | assumption | exact Ne.symm (by assumption) | omega) (by first | assumption | exact zget_eq | exact zget_ne (by first | assumption | exact Ne.symm (by assumption) | omega) (by first | assumption | exact zget_eq | exact zget_ne (by first | assumption | exact Ne.symm (by assumption) | omega) (by first | assumption | exact zget_eq)))) rfl ?_
  refine z_iconst (w := 0) dX3_begin_31 (by decide) ?_
  refine z_iconst (w := -1) dX3_begin_32 (by decide) ?_
  refine zcall3 (zck_SN (R' := rX10_put) (M' := mX10_put) (fun _ _ _ _ => tX10_put) kX10_put lX3_49 nX3_49 (by decide +kernel) rfl) dX3_begin_33 (Nat.le_of_ble_eq_true rfl) (Nat.le_of_ble_eq_true rfl) (Nat.le_of_ble_eq_true rfl) ?_
  refine ⟨_, _, _, _, _, rfl, ((o3 f (Ne.symm ncf)).trans ((o2 f (Ne.symm nbf)).trans ((o1 f (Ne.symm npf)).trans hf))), (by omega), fun h4 e4 o4 => ?_⟩
  have k4 := (o4 a naf).trans k3
  refine z_aload_n dX3_begin_36 rfl ?_
  refine z_getfield dX3_begin_37 fX3_37_4 rfl (by first | assumption | exact zget_eq | exact zget_ne (by first | assumption | exact Ne.symm (by assumption) | omega) (by first | assumption | exact zget_eq | exact zget_ne (by first | assumption | exact Ne.symm (by assumption) | omega) (by first | assumption | exact zget_eq | exact zget_ne (by first | assumption | exact Ne.symm (by assumption) | omega) (by first | assumption | exact zget_eq)))) rfl ?_
  refine z_iconst (w := 0) dX3_begin_40 (by decide) ?_
  refine z_iconst (w := -1) dX3_begin_41 (by decide) ?_
  refine zcall3 (zck_SN (R' := rX10_put) (M' := mX10_put) (fun _ _ _ _ => tX10_put) kX10_put lX3_49 nX3_49 (by decide +kernel) rfl) dX3_begin_42 (Nat.le_of_ble_eq_true rfl) (Nat.le_of_ble_eq_true rfl) (Nat.le_of_ble_eq_true rfl) ?_
  refine ⟨_, _, _, _, _, rfl, ((o4 x (Ne.symm nfx)).trans ((o3 x (Ne.symm ncx)).trans ((o2 x (Ne.symm nbx)).trans ((o1 x (Ne.symm npx)).trans hx)))), (by omega), fun h5 e5 o5 => ?_⟩
  have k5 := (o5 a nax).trans k4
  refine z_aload_n dX3_begin_45 rfl ?_
  refine z_getfield dX3_begin_46 fX3_43_4 rfl (by first | assumption | exact zget_eq | exact zget_ne (by first | assumption | exact Ne.symm (by assumption) | omega) (by first | assumption | exact zget_eq | exact zget_ne (by first | assumption | exact Ne.symm (by assumption) | omega) (by first | assumption | exact zget_eq | exact zget_ne (by first | assumption | exact Ne.symm (by assumption) | omega) (by first | assumption | exact zget_eq)))) rfl ?_
  refine z_iconst (w := 0) dX3_begin_49 (by decide) ?_
  refine z_iconst (w := 0) dX3_begin_50 (by decide) ?_
  refine zcall3 (zck_SN (R' := rX10_put) (M' := mX10_put) (fun _ _ _ _ => tX10_put) kX10_put lX3_49 nX3_49 (by decide +kernel) rfl) dX3_begin_51 (Nat.le_of_ble_eq_true rfl) (Nat.le_of_ble_eq_true rfl) (Nat.le_of_ble_eq_true rfl) ?_
  refine ⟨_, _, _, _, _, rfl, ((o5 t (Ne.symm nxt)).trans ((o4 t (Ne.symm nft)).trans ((o3 t (Ne.symm nct)).trans ((o2 t (Ne.symm nbt)).trans ((o1 t (Ne.symm npt)).trans hu))))), (by omega), fun h6 e6 o6 => ?_⟩
  have k6 := (o6 a nat).trans k5
  refine z_aload_n dX3_begin_54 rfl ?_
  refine z_iconst (w := 1) dX3_begin_55 (by decide) ?_
  refine z_putfield dX3_begin_56 fX3_53_4 rfl (fun q => absurd q (by decide)) (by first | assumption | exact zget_eq | exact zget_ne (by first | assumption | exact Ne.symm (by assumption) | omega) (by first | assumption | exact zget_eq | exact zget_ne (by first | assumption | exact Ne.symm (by assumption) | omega) (by first | assumption | exact zget_eq | exact zget_ne (by first | assumption | exact Ne.symm (by assumption) | omega) (by first | assumption | exact zget_eq)))) (Nat.le_of_ble_eq_true rfl) (Or.inl ⟨rfl, _, rfl⟩) ?_
  refine z_aload_n dX3_begin_59 rfl ?_
  refine z_iconst (w := 0) dX3_begin_60 (by decide) ?_
  refine z_putfield dX3_begin_61 fX3_56_4 rfl (fun q => absurd q (by decide)) (by first | assumption | exact zget_eq | exact zget_ne (by first | assumption | exact Ne.symm (by assumption) | omega) (by first | assumption | exact zget_eq | exact zget_ne (by first | assumption | exact Ne.symm (by assumption) | omega) (by first | assumption | exact zget_eq | exact zget_ne (by first | assumption | exact Ne.symm (by assumption) | omega) (by first | assumption | exact zget_eq)))) (Nat.le_of_ble_eq_true rfl) (Or.inl ⟨rfl, _, rfl⟩) ?_
  refine z_vreturn dX3_begin_64 rfl (Nat.le_of_ble_eq_true rfl) (Nat.le_of_ble_eq_true rfl) ?_
  rw [← nI_0, zpt_in (by omega) (by omega)] at e1
  rw [← nI_0, zpt_in (by omega) (by omega)] at e2
  rw [← nI_0, zpt_in (by omega) (by omega)] at e3
  rw [← nI_0, zpt_in (by omega) (by omega)] at e4
  rw [← nI_0, zpt_in (by omega) (by omega)] at e5
  rw [← nI_0, zpt_in (by omega) (by omega)] at e6
  refine hK _ (fun par byt cnt lat => ⟨upd P 0 (-1), upd B 0 (-1), upd C 0 (nI 0), upd F 0 (-1), upd X 0 (-1), L, upd U 0 (nI 0), ⟨by rw [zget_eq]; rfl, ?_, ?_, ?_, ?_, ?_, ?_, ?_, hdj0, ho4, hr8, hr15, by show 1 ≤ rm; omega, Nat.zero_le _⟩, ⟨Nat.le_refl _, fun q hq => ⟨Nat.zero_lt_one, List.Pairwise.nil⟩, fun q d hq hd => absurd hd List.not_mem_nil, fun d g1 g2 => absurd g2 (by simp only; omega)⟩, ⟨fun i hi => ?_, fun i hi => ?_, fun i hi => ?_, fun i hi => ?_, fun i hi => trivial⟩, fun i hi => absurd hi (Nat.not_lt_zero _), fun k hk9 => ?_⟩) (fun q hq => ?_)
  · rw [zup_ne (Ne.symm nap), zup_ne (Ne.symm nap), o6 p npt, o5 p npx, o4 p npf, o3 p npc, o2 p npb]; exact e1
  · rw [zup_ne (Ne.symm nab), zup_ne (Ne.symm nab), o6 b nbt, o5 b nbx, o4 b nbf, o3 b nbc]; exact e2
  · rw [zup_ne (Ne.symm nac), zup_ne (Ne.symm nac), o6 c nct, o5 c ncx, o4 c ncf]; exact e3
  · rw [zup_ne (Ne.symm naf), zup_ne (Ne.symm naf), o6 f nft, o5 f nfx]; exact e4
  · rw [zup_ne (Ne.symm nax), zup_ne (Ne.symm nax), o6 x nxt]; exact e5
  · rw [zup_ne (Ne.symm nal), zup_ne (Ne.symm nal), o6 l nlt, o5 l (Ne.symm nxl), o4 l (Ne.symm nfl), o3 l (Ne.symm ncl), o2 l (Ne.symm nbl), o1 l (Ne.symm npl)]; exact hl
  · rw [zup_ne (Ne.symm nat), zup_ne (Ne.symm nat)]; exact e6
  · rw [show i = 0 by simp only at hi; omega]; rfl
  · rw [show i = 0 by simp only at hi; omega]; rfl
  · rw [show i = 0 by simp only at hi; omega]; rfl
  · rw [show i = 0 by simp only at hi; omega]; rfl
  · rw [show k = 0 by omega]; rfl
  · obtain ⟨g1, g2, g3, g4, g5, g6, g7, g8⟩ := zaw_no hq
    rw [zup_ne g1, zup_ne g1, o6 q g8, o5 q g6, o4 q g5, o3 q g4, o2 q g3, o1 q g2]

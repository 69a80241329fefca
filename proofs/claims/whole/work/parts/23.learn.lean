/-! Model.learn -/
theorem zLrn_snoc {rm b : Nat} {ctx : Nat → Nat} : ∀ {d k : Nat} {T T1 T2 : zTree} {ch ch1 ch2 : Nat → List Nat}, zLrn rm b ctx d k T ch T1 ch1 → zStep b (ctx (k + d)) T1 ch1 T2 ch2 → T2.1 ≤ rm → zLrn rm b ctx (d + 1) k T ch T2 ch2
  | 0, k, T, T1, T2, ch, ch1, ch2, ⟨e1, e2⟩, h, hr => by
    subst e1; subst e2
    exact ⟨T2, ch2, h, hr, rfl, rfl⟩
  | d + 1, k, T, T1, T2, ch, ch1, ch2, ⟨Ta, cha, g1, g2, g3⟩, h, hr => ⟨Ta, cha, g1, g2, zLrn_snoc g3 (by rw [show k + 1 + d = k + (d + 1) by omega]; exact h) hr⟩
theorem zStep_mem {b node : Nat} {T T' : zTree} {ch ch' : Nat → List Nat} (H : zTok T ch) (hn : node < T.1) (h : zStep b node T ch T' ch') : T.1 ≤ T'.1 ∧ ∀ q c, q < T.1 → c ∈ ch q → c ∈ ch' q ∧ T'.2.2.1 c = T.2.2.1 c := by
  obtain ⟨nm, par, byt, cnt⟩ := T
  rcases h with ⟨c, hc, hcb, rfl, rfl⟩ | ⟨hno, pre, r, he, rfl, rfl⟩
  · exact ⟨Nat.le_refl _, fun q d hq hd => ⟨hd, rfl⟩⟩
  · refine ⟨by simp only [zlsT, zgT]; omega, fun q d hq hd => ⟨?_, ?_⟩⟩
    · simp only [zgC]
      by_cases e : q = node
      · subst e
        rw [va_up_self]
        rw [he] at hd
        rcases List.mem_append.mp hd with z | z
        · exact List.mem_append_left _ z
        · exact List.mem_append_right _ (List.mem_cons_of_mem _ z)
      · rw [va_up_ne _ _ e, va_up_ne _ _ (by simp only at hq; omega)]; exact hd
    · simp only [zlsT, zgT]
      exact va_up_ne _ _ (by have := (H.2.2.1 q d hq hd).2.1; simp only at this; omega)
theorem zStep_has {b node : Nat} {T T' : zTree} {ch ch' : Nat → List Nat} (h : zStep b node T ch T' ch') : ∃ c, c ∈ ch' node ∧ T'.2.2.1 c = b := by
  obtain ⟨nm, par, byt, cnt⟩ := T
  rcases h with ⟨c, hc, hcb, rfl, rfl⟩ | ⟨hno, pre, r, he, rfl, rfl⟩
  · exact ⟨c, hc, hcb⟩
  · exact ⟨nm, by simp [zgC, va_up], by simp [zlsT, zgT, va_up]⟩
theorem zsum_grow {cnt : Nat → Nat} {nm : Nat} {pre r : List Nat} (h : ∀ d, d ∈ pre ++ r → d ≠ nm) : zsum (va_up cnt nm 1) (pre ++ nm :: r) = zsum cnt (pre ++ r) + 1 := by
  rw [zsum_app, zsum_app]
  simp only [zsum, va_up_self]
  rw [zsum_congr (l := pre) (g := cnt) (fun d hd => va_up_ne _ _ (h d (List.mem_append_left _ hd))), zsum_congr (l := r) (g := cnt) (fun d hd => va_up_ne _ _ (h d (List.mem_append_right _ hd)))]
  omega
theorem zself (ch : Nat → List Nat) (nm node : Nat) (l : List Nat) : zgC ch nm node l node = l := by simp [zgC, va_up]
abbrev rX3_learn : Room := ⟨4, 0, 0, 160⟩
def SX3_learn (G : zC) : zS := fun as h n K => ∃ (m : zAm) (o rm : Nat) (T : zTree) (ch : Nat → List Nat) (lm : Nat) (lat ctx : Nat → Nat) (b0 lo0 : Nat), as = [.ref m.1, .int (nI b0), .int (nI lo0)] ∧ zMod G h m o rm T ch lm lat ctx ∧ zSb T ch ∧ b0 < 256 ∧ ctx 0 = 0 ∧ lo0 ≤ lm ∧ (∀ k, k ≤ lm → ctx k < T.1) ∧ (∀ j, j < lo0 → ∃ c, c ∈ ch (ctx j) ∧ T.2.2.1 c = b0) ∧ (∀ h' T' ch', zLrn rm b0 ctx (lm + 1 - lo0) lo0 T ch T' ch' → zSb T' ch' → (∀ k, k ≤ lm → ctx k < T'.1 ∧ ∃ c, c ∈ ch' (ctx k) ∧ T'.2.2.1 c = b0) → zMod G h' m o rm T' ch' (if o = 0 then lm else zlm o lm) (if o = 0 then lat else zlat o lm b0 lat) (if o = 0 then ctx else fun k => if k = 0 then 0 else (zfc T'.2.2.1 b0 (ch' (ctx (k - 1)))).toBitVec.toNat) → (∀ q, ¬ zaw m q → h' q = h q) → K (some (.int 0)) h' n) ∧ ∀ h' d T1 ch1, zLrn rm b0 ctx d lo0 T ch T1 ch1 → lo0 + d ≤ lm → zRst rm b0 (ctx (lo0 + d)) T1 ch1 → (∀ par byt cnt lat, zMod G h' m o rm (1, par, byt, cnt) (fun _ => []) 0 lat (fun _ => 0)) → (∀ q, ¬ zaw m q → h' q = h q) → K (some (.int 1)) h' n
set_option maxRecDepth 100000 in
theorem tvX3_learn {G : zC} {as : List Value} {h : zH} {n : Nat} {K : zP} (hs : SX3_learn G as h n K) : (∃ b fs r, as = .ref b :: r ∧ h b = some (.inr (4, fs))) ∧ zCt G rX3_learn mX3_learn as h n K := by
  obtain ⟨⟨a, p, b, c, f, x, l, t⟩, o, rm, T, ch, lm, lat, ctx, b0, lo0, rfl, hM, hsb, hb0, hc0, hlo0, hctx, hpre, hK0, hK1⟩ := hs
  have hk := hM.obj
  have hN := hM.nums
  dsimp only at hk
  refine ⟨⟨_, _, _, rfl, hk⟩, zCt.of (by decide) (Nat.le_of_ble_eq_true rfl) ?_⟩
  have loop : ∀ (d k : Nat) (T1 : zTree) (ch1 : Nat → List Nat) (h1 : zH), k + d = lm + 1 → lo0 ≤ k → zLrn rm b0 ctx (k - lo0) lo0 T ch T1 ch1 → zMod G h1 (a, p, b, c, f, x, l, t) o rm T1 ch1 lm lat ctx → zSb T1 ch1 → (∀ j, j ≤ lm → ctx j < T1.1) → (∀ j, j < k → ∃ c, c ∈ ch1 (ctx j) ∧ T1.2.2.1 c = b0) → (∀ q, ¬ zaw (a, p, b, c, f, x, l, t) q → h1 q = h q) → zZ (zXm G rX3_learn mX3_learn [.ref a, .int (nI b0), .int (nI lo0)] h n K) 2 [(0, .ref a), (1, .int (nI b0)), (2, .int (nI lo0)), (3, .int (nI k))] [] h1 n 0 0 := by
    intro d
    induction d with
    | zero =>
      intro k T1 ch1 h1 hd hk0 hlr hM1 hs1 hc1 hj1 ho
      have hk1 := hM1.obj
      have hN1 := hM1.nums
      dsimp only at hk1
      have hfind : ∀ j, j ≤ lm → ctx j < T1.1 ∧ zfc T1.2.2.1 b0 (ch1 (ctx j)) = nI ((fun j => (zfc T1.2.2.1 b0 (ch1 (ctx j))).toBitVec.toNat) j) := fun j hj => ⟨hc1 j hj, (zany _).symm⟩
      refine z_iload_n dX3_learn_2 rfl ?_
      refine z_aload_n dX3_learn_3 rfl ?_
      refine z_getfield dX3_learn_4 fX3_56_4 rfl (by first | assumption | exact zget_eq | exact zget_ne (by first | assumption | exact Ne.symm (by assumption) | omega) (by first | assumption | exact zget_eq | exact zget_ne (by first | assumption | exact Ne.symm (by assumption) | omega) (by first | assumption | exact zget_eq | exact zget_ne (by first | assumption | exact Ne.symm (by assumption) | omega) (by first | assumption | exact zget_eq)))) rfl ?_
      refine z_icmp_gt (t := 91) dX3_learn_7 (by decide) (fun q7 => ?_) (fun q7 => ?_)
      · refine z_aload_n dX3_learn_91 rfl ?_
        refine z_iload_n dX3_learn_92 rfl ?_
        refine zcall2 (zck_V (na := 1) (ci := 4) (R' := rX3_remember) (M' := mX3_remember) (fun _ _ _ _ => tvX3_remember) (by decide) kX3_remember lX3_92 (by decide +kernel) rfl) dX3_learn_93 (Nat.le_of_ble_eq_true rfl) (Nat.le_of_ble_eq_true rfl) (Nat.le_of_ble_eq_true rfl) ?_
        refine ⟨_, _, _, _, _, _, _, _, _, (fun j => (zfc T1.2.2.1 b0 (ch1 (ctx j))).toBitVec.toNat), rfl, hM1, hb0, hc0, hfind, fun h2 c2 o2 => ?_⟩
        refine z_iconst (w := 0) dX3_learn_96 (by decide) ?_
        refine z_ireturn dX3_learn_97 (by first | exact Or.inl rfl | exact Or.inr rfl | simp) (Nat.le_of_ble_eq_true rfl) (Nat.le_of_ble_eq_true rfl) ?_
        refine hK0 _ T1 ch1 (by rw [show lm + 1 - lo0 = k - lo0 by omega]; exact hlr) hs1 (fun j hj => ⟨hc1 j hj, hj1 j (by omega)⟩) ?_ (fun q hq => (o2 q hq).trans (ho q hq))
        exact c2
      · exact absurd (nI_lt (by omega) (by omega)) q7
    | succ d ih =>
      intro k T1 ch1 h1 hd hk0 hlr hM1 hs1 hc1 hj1 ho
      have hk1 := hM1.obj
      have hN1 := hM1.nums
      dsimp only at hk1
      obtain ⟨U1, hu1, hU1⟩ := hM1.con
      dsimp only at hu1
      have hcn := hc1 k (by omega)
      have hml : ∀ e, e ∈ ch1 (ctx k) → e < 2147483648 := fun e he => by have := (hN1.1.2.2.1 _ e hcn he).2.1; omega
      refine z_iload_n dX3_learn_2 rfl ?_
      refine z_aload_n dX3_learn_3 rfl ?_
      refine z_getfield dX3_learn_4 fX3_56_4 rfl (by first | assumption | exact zget_eq | exact zget_ne (by first | assumption | exact Ne.symm (by assumption) | omega) (by first | assumption | exact zget_eq | exact zget_ne (by first | assumption | exact Ne.symm (by assumption) | omega) (by first | assumption | exact zget_eq | exact zget_ne (by first | assumption | exact Ne.symm (by assumption) | omega) (by first | assumption | exact zget_eq)))) rfl ?_
      refine z_icmp_gt (t := 91) dX3_learn_7 (by decide) (fun q7 => ?_) (fun q7 => ?_)
      · exact absurd q7 (nI_nlt (by omega) (by omega))
      · refine z_aload_n dX3_learn_10 rfl ?_
        refine z_iload_n dX3_learn_11 rfl ?_
        refine zcall2 (zck_V (na := 1) (ci := 4) (R' := rX3_context) (M' := mX3_context) (fun _ _ _ _ => tvX3_context) (by decide) kX3_context lX3_75 (by decide +kernel) rfl) dX3_learn_12 (Nat.le_of_ble_eq_true rfl) (Nat.le_of_ble_eq_true rfl) (Nat.le_of_ble_eq_true rfl) ?_
        refine ⟨_, _, _, _, _, _, rfl, hk1, rfl, hu1, (by omega), (by omega), ?_⟩
        rw [hU1 k (by omega)]
        refine z_istore dX3_learn_15 (Nat.le_of_ble_eq_true rfl) ?_
        refine z_aload_n dX3_learn_17 rfl ?_
        refine z_iload dX3_learn_18 rfl ?_
        refine z_iload_n dX3_learn_20 rfl ?_
        refine zcall3 (zck_V (na := 2) (ci := 4) (R' := rX3_childOf) (M' := mX3_childOf) (fun _ _ _ _ => tvX3_childOf) (by decide) kX3_childOf lX3_78 (by decide +kernel) rfl) dX3_learn_21 (Nat.le_of_ble_eq_true rfl) (Nat.le_of_ble_eq_true rfl) (Nat.le_of_ble_eq_true rfl) ?_
        refine ⟨_, _, _, _, _, _, _, _, _, _, rfl, hM1, hcn, hb0, ?_⟩
        refine z_istore dX3_learn_24 (Nat.le_of_ble_eq_true rfl) ?_
        by_cases hz : zfc T1.2.2.1 b0 (ch1 (ctx k)) = -1
        · have hno := zfc_none hml hz
          refine z_iload dX3_learn_26 rfl ?_
          refine z_iconst (w := -1) dX3_learn_28 (by decide) ?_
          refine z_icmp_eq (t := 52) dX3_learn_29 (by decide) (fun q29 => ?_) (fun q29 => ?_)
          · refine z_aload_n dX3_learn_52 rfl ?_
            refine z_getfield dX3_learn_53 fX3_53_4 rfl (by first | assumption | exact zget_eq | exact zget_ne (by first | assumption | exact Ne.symm (by assumption) | omega) (by first | assumption | exact zget_eq | exact zget_ne (by first | assumption | exact Ne.symm (by assumption) | omega) (by first | assumption | exact zget_eq | exact zget_ne (by first | assumption | exact Ne.symm (by assumption) | omega) (by first | assumption | exact zget_eq)))) rfl ?_
            refine z_aload_n dX3_learn_56 rfl ?_
            refine z_getfield dX3_learn_57 fX3_21_4 rfl (by first | assumption | exact zget_eq | exact zget_ne (by first | assumption | exact Ne.symm (by assumption) | omega) (by first | assumption | exact zget_eq | exact zget_ne (by first | assumption | exact Ne.symm (by assumption) | omega) (by first | assumption | exact zget_eq | exact zget_ne (by first | assumption | exact Ne.symm (by assumption) | omega) (by first | assumption | exact zget_eq)))) rfl ?_
            refine z_icmp_ge (t := 73) dX3_learn_60 (by decide) (fun q60 => ?_) (fun q60 => ?_)
            · have hrm : T1.1 = rm := by
                rw [nI_leI (by omega) (by omega)] at q60
                omega
              refine z_aload_n dX3_learn_73 rfl ?_
              refine zcall1 (zck_V (na := 0) (ci := 4) (R' := rX3_begin) (M' := mX3_begin) (fun _ _ _ _ => tvX3_begin) (by decide) kX3_begin lX3_46 (by decide +kernel) rfl) dX3_learn_74 (Nat.le_of_ble_eq_true rfl) (Nat.le_of_ble_eq_true rfl) (Nat.le_of_ble_eq_true rfl) ?_
              obtain ⟨P, B, C, F, X, L, U, hR, -⟩ := hM1
              refine ⟨_, _, _, _, _, _, _, _, _, _, _, _, rfl, hR, fun h2 c2 o2 => ?_⟩
              refine z_iconst (w := 1) dX3_learn_77 (by decide) ?_
              refine z_ireturn dX3_learn_78 (by first | exact Or.inl rfl | exact Or.inr rfl | simp) (Nat.le_of_ble_eq_true rfl) (Nat.le_of_ble_eq_true rfl) ?_
              exact hK1 h2 (k - lo0) T1 ch1 hlr (by omega) ⟨hrm, by rw [show lo0 + (k - lo0) = k by omega]; exact hno⟩ c2 (fun q hq => (o2 q hq).trans (ho q hq))
            · have hlt : T1.1 < rm := by
                rw [nI_leI (by omega) (by omega)] at q60
                omega
              refine z_aload_n dX3_learn_63 rfl ?_
              refine z_iload dX3_learn_64 rfl ?_
              refine z_iload_n dX3_learn_66 rfl ?_
              refine zcall3 (zck_V (na := 2) (ci := 4) (R' := rX3_growChild) (M' := mX3_growChild) (fun _ _ _ _ => tvX3_growChild) (by decide) kX3_growChild lX3_84 (by decide +kernel) rfl) dX3_learn_67 (Nat.le_of_ble_eq_true rfl) (Nat.le_of_ble_eq_true rfl) (Nat.le_of_ble_eq_true rfl) ?_
              refine ⟨_, _, _, _, _, _, _, _, _, _, rfl, hM1, hcn, hlt, hb0, hno, fun h2 pre r he hM2 o2 => ?_⟩
              have hsm : zsum (zgT T1 (ctx k) b0).2.2.2 (zgC ch1 T1.1 (ctx k) (pre ++ T1.1 :: r) (ctx k)) < 1000000 := by
                rw [zself]
                simp only [zgT]
                rw [zsum_grow (fun e he2 => by have := (hN1.1.2.2.1 _ e hcn (by rw [he]; exact he2)).2.1; omega), ← he]
                have := hs1 _ hcn
                omega
              refine z_goto (t := 79) dX3_learn_70 (by decide) ?_
              refine z_aload_n dX3_learn_79 rfl ?_
              refine z_iload dX3_learn_80 rfl ?_
              refine zcall2 (zck_V (na := 1) (ci := 4) (R' := rX3_lessenCounts) (M' := mX3_lessenCounts) (fun _ _ _ _ => tvX3_lessenCounts) (by decide) kX3_lessenCounts lX3_88 (by decide +kernel) rfl) dX3_learn_82 (Nat.le_of_ble_eq_true rfl) (Nat.le_of_ble_eq_true rfl) (Nat.le_of_ble_eq_true rfl) ?_
              refine ⟨_, _, _, _, _, _, _, _, _, rfl, hM2, (by simp only [zgT]; omega), hsm, fun h3 c3 o3 => ?_⟩
              refine z_iinc dX3_learn_85 rfl (Nat.le_of_ble_eq_true rfl) ?_
              rw [show nI k + Int32.ofInt 1 = nI (k + 1) from nI_1 k]
              refine z_goto (t := 2) dX3_learn_88 (by decide) ?_
              rw [zself] at c3
              have hst : zStep b0 (ctx k) T1 ch1 (zlsT (zgT T1 (ctx k) b0) (pre ++ T1.1 :: r)) (zgC ch1 T1.1 (ctx k) (pre ++ T1.1 :: r)) := Or.inr ⟨hno, pre, r, he, rfl, rfl⟩
              obtain ⟨hT2, hS2⟩ := zStep_ok hN1.1 hs1 hcn hb0 hst (fun pre2 r2 he2 hz => by
                have h9 := congrArg (fun g => g (ctx k)) hz
                simp only [zself] at h9
                have hM3 := hM2.nums.1
                rw [hz] at hM3
                exact zpre_of hN1.1 hcn hM3 he2)
              have hmm := zStep_mem hN1.1 hcn hst
              have hN3 := c3.nums
              refine zZ.keep [0, 1, 2, 3] ?_
              refine ih (k + 1) _ _ h3 (by omega) (by omega) (by rw [show k + 1 - lo0 = (k - lo0) + 1 by omega]; exact zLrn_snoc hlr (by rw [show lo0 + (k - lo0) = k by omega]; exact hst) hN3.2.2.2.2.1) c3 hS2 (fun j hj => Nat.lt_of_lt_of_le (hc1 j hj) hmm.1) (fun j hj => ?_) (fun q hq => ?_)
              · rcases Nat.lt_or_ge j k with z | z
                · obtain ⟨e, e1, e2⟩ := hj1 j z
                  exact ⟨e, (hmm.2 _ e (hc1 j (by omega)) e1).1, (hmm.2 _ e (hc1 j (by omega)) e1).2.trans e2⟩
                · rw [show j = k by omega]; exact zStep_has hst
              · rw [o3 q hq, o2 q hq]; exact ho q hq
          · exact absurd hz q29
        · obtain ⟨c0, hc0m, hc0b, hc0e⟩ := zfc_some hz
          have hr0 := hN1.1.2.2.1 _ c0 hcn hc0m
          obtain ⟨C2, hc2, hC2, hB2⟩ := hM1.inc
          dsimp only at hc2
          refine z_iload dX3_learn_26 rfl ?_
          refine z_iconst (w := -1) dX3_learn_28 (by decide) ?_
          refine z_icmp_eq (t := 52) dX3_learn_29 (by decide) (fun q29 => ?_) (fun q29 => ?_)
          · exact absurd q29 hz
          · rw [hc0e]
            refine z_aload_n dX3_learn_32 rfl ?_
            refine z_getfield dX3_learn_33 fX3_31_4 rfl (by first | assumption | exact zget_eq | exact zget_ne (by first | assumption | exact Ne.symm (by assumption) | omega) (by first | assumption | exact zget_eq | exact zget_ne (by first | assumption | exact Ne.symm (by assumption) | omega) (by first | assumption | exact zget_eq | exact zget_ne (by first | assumption | exact Ne.symm (by assumption) | omega) (by first | assumption | exact zget_eq)))) rfl ?_
            refine z_iload dX3_learn_36 rfl ?_
            refine z_aload_n dX3_learn_38 rfl ?_
            refine z_iload dX3_learn_39 rfl ?_
            refine zcall2 (zck_V (na := 1) (ci := 4) (R' := rX3_countOf) (M' := mX3_countOf) (fun _ _ _ _ => tvX3_countOf) (by decide) kX3_countOf lX3_81 (by decide +kernel) rfl) dX3_learn_41 (Nat.le_of_ble_eq_true rfl) (Nat.le_of_ble_eq_true rfl) (Nat.le_of_ble_eq_true rfl) ?_
            refine ⟨_, _, _, _, _, _, rfl, hk1, rfl, hc2, (by omega), (by omega), ?_⟩
            rw [hC2 c0 hr0.1 hr0.2.1]
            refine z_iconst (w := 1) dX3_learn_44 (by decide) ?_
            refine z_iadd dX3_learn_45 ?_
            rw [nI_1]
            refine zcall3 (zck_SN (R' := rX10_put) (M' := mX10_put) (fun _ _ _ _ => tX10_put) kX10_put lX3_49 nX3_49 (by decide +kernel) rfl) dX3_learn_46 (Nat.le_of_ble_eq_true rfl) (Nat.le_of_ble_eq_true rfl) (Nat.le_of_ble_eq_true rfl) ?_
            refine ⟨_, _, _, _, _, rfl, hc2, (by omega), fun h2 e2 o2 => ?_⟩
            rw [zpt_in (by omega) (by omega)] at e2
            have hM2 := hB2 h2 c0 hr0.1 hr0.2.1 e2 o2
            have hsm : zsum (zinc T1 c0).2.2.2 (ch1 (ctx k)) < 1000000 := by
              simp only [zinc]
              rw [zsum_inc (hN1.1.2.1 _ hcn).2 hc0m]
              have := hs1 _ hcn
              omega
            refine z_goto (t := 79) dX3_learn_49 (by decide) ?_
            refine z_aload_n dX3_learn_79 rfl ?_
            refine z_iload dX3_learn_80 rfl ?_
            refine zcall2 (zck_V (na := 1) (ci := 4) (R' := rX3_lessenCounts) (M' := mX3_lessenCounts) (fun _ _ _ _ => tvX3_lessenCounts) (by decide) kX3_lessenCounts lX3_88 (by decide +kernel) rfl) dX3_learn_82 (Nat.le_of_ble_eq_true rfl) (Nat.le_of_ble_eq_true rfl) (Nat.le_of_ble_eq_true rfl) ?_
            refine ⟨_, _, _, _, _, _, _, _, _, rfl, hM2, hcn, hsm, fun h3 c3 o3 => ?_⟩
            refine z_iinc dX3_learn_85 rfl (Nat.le_of_ble_eq_true rfl) ?_
            rw [show nI k + Int32.ofInt 1 = nI (k + 1) from nI_1 k]
            refine z_goto (t := 2) dX3_learn_88 (by decide) ?_
            have hst : zStep b0 (ctx k) T1 ch1 (zlsT (zinc T1 c0) (ch1 (ctx k))) ch1 := Or.inl ⟨c0, hc0m, hc0b, rfl, rfl⟩
            obtain ⟨hT2, hS2⟩ := zStep_ok hN1.1 hs1 hcn hb0 hst (fun pre r he hz => by
              exfalso
              have h9 := congrArg (fun g => g (ctx k)) hz
              simp only [zself] at h9
              rw [he] at h9
              have h8 := congrArg List.length h9
              simp at h8)
            have hmm := zStep_mem hN1.1 hcn hst
            have hN3 := c3.nums
            refine zZ.keep [0, 1, 2, 3] ?_
            refine ih (k + 1) _ _ h3 (by omega) (by omega) (by rw [show k + 1 - lo0 = (k - lo0) + 1 by omega]; exact zLrn_snoc hlr (by rw [show lo0 + (k - lo0) = k by omega]; exact hst) hN3.2.2.2.2.1) c3 hS2 (fun j hj => Nat.lt_of_lt_of_le (hc1 j hj) hmm.1) (fun j hj => ?_) (fun q hq => ?_)
            · rcases Nat.lt_or_ge j k with z | z
              · obtain ⟨e, e1, e2⟩ := hj1 j z
                exact ⟨e, (hmm.2 _ e (hc1 j (by omega)) e1).1, (hmm.2 _ e (hc1 j (by omega)) e1).2.trans e2⟩
              · rw [show j = k by omega]; exact zStep_has hst
            · have hq4 : q ≠ c := (zaw_no hq).2.2.2.1
              rw [o3 q hq, o2 q hq4]; exact ho q hq
  refine z_iload_n dX3_learn_0 rfl ?_
  refine z_istore_n dX3_learn_1 (Nat.le_of_ble_eq_true rfl) ?_
  exact loop (lm + 1 - lo0) lo0 T ch h (by omega) (Nat.le_refl _) (by rw [Nat.sub_self]; exact ⟨rfl, rfl⟩) hM hsb hctx hpre (fun q _ => rfl)

/-! Model: the latest byte is remembered; a byte is learned -/
/-- the latest bytes behind a byte -/
def zlat (o lm b : Nat) (lat : Nat → Nat) : Nat → Nat := if lm < o then va_up lat lm b else fun i => if i = lm - 1 then b else lat (i + 1)
def zlm (o lm : Nat) : Nat := if lm < o then lm + 1 else lm
theorem zany (x : Int32) : nI x.toBitVec.toNat = x := by
  apply Int32.toBitVec_inj.mp
  show BitVec.ofNat 32 x.toBitVec.toNat = x.toBitVec
  simp
abbrev rX3_remember : Room := ⟨3, 0, 0, 120⟩
def SX3_remember (G : zC) : zS := fun as h n K => ∃ (m : zAm) (o rm : Nat) (T : zTree) (ch : Nat → List Nat) (lm : Nat) (lat ctx : Nat → Nat) (b0 : Nat) (nx : Nat → Nat), as = [.ref m.1, .int (nI b0)] ∧ zMod G h m o rm T ch lm lat ctx ∧ b0 < 256 ∧ ctx 0 = 0 ∧ (∀ k, k ≤ lm → ctx k < T.1 ∧ zfc T.2.2.1 b0 (ch (ctx k)) = nI (nx k)) ∧ ∀ h', zMod G h' m o rm T ch (if o = 0 then lm else zlm o lm) (if o = 0 then lat else zlat o lm b0 lat) (if o = 0 then ctx else fun k => if k = 0 then 0 else nx (k - 1)) → (∀ q, ¬ zaw m q → h' q = h q) → K none h' n
set_option maxRecDepth 100000 in
theorem tvX3_remember {G : zC} {as : List Value} {h : zH} {n : Nat} {K : zP} (hs : SX3_remember G as h n K) : (∃ b fs r, as = .ref b :: r ∧ h b = some (.inr (4, fs))) ∧ zCt G rX3_remember mX3_remember as h n K := by
  obtain ⟨⟨a, p, b, c, f, x, l, t⟩, o, rm, ⟨nm, par, byt, cnt⟩, ch, lm, lat, ctx, b0, nx, rfl, hM, hb0, hc0, hnx, hK⟩ := hs
  have hM0 := hM
  obtain ⟨P, B, C, F, X, L, U, ⟨hk, hp, hb, hc, hf, hx, hl, hu, hdj, ho4, hr8, hr15, hnr, hlo⟩, ⟨t1, t2, t3, t4⟩, ⟨w1, w2, w3, w4, w5⟩, hL, hU⟩ := hM
  dsimp only at hk hp hb hc hf hx hl hu hdj hnr t1 t2 t3 t4 w1 w2 w3 w4 w5
  have hdj0 := hdj
  obtain ⟨⟨npb, npc, npf, npx, npl, npt⟩, ⟨nbc, nbf, nbx, nbl, nbt⟩, ⟨ncf, ncx, ncl, nct⟩, ⟨nfx, nfl, nft⟩, ⟨nxl, nxt⟩, nlt⟩ := hdj
  have nap : a ≠ p := fun q => by rw [q, hp] at hk; simp at hk
  have nab : a ≠ b := fun q => by rw [q, hb] at hk; simp at hk
  have nac : a ≠ c := fun q => by rw [q, hc] at hk; simp at hk
  have naf : a ≠ f := fun q => by rw [q, hf] at hk; simp at hk
  have nax : a ≠ x := fun q => by rw [q, hx] at hk; simp at hk
  have nal : a ≠ l := fun q => by rw [q, hl] at hk; simp at hk
  have nat : a ≠ t := fun q => by rw [q, hu] at hk; simp at hk
  refine ⟨⟨_, _, _, rfl, hk⟩, zCt.of (by decide) (Nat.le_of_ble_eq_true rfl) ?_⟩
  dsimp only at hnx hK
  -- the contexts, from the greatest down
  have ctxs : ∀ (k lm' : Nat) (L1 U1 : Nat → Int32) (h1 : zH), 0 < o → lm' = zlm o lm → k ≤ lm' → zMr G h1 (a, p, b, c, f, x, l, t) o rm nm lm' P B C F X L1 U1 → (∀ i, i < lm' → L1 i = nI (zlat o lm b0 lat i)) → (∀ i, i ≤ k → i ≤ lm → U1 i = nI (ctx i)) → (∀ i, k < i → i ≤ lm' → U1 i = nI (nx (i - 1))) → (∀ q, q ≠ a → q ≠ l → q ≠ t → h1 q = h q) → zZ (zXm G rX3_remember mX3_remember [.ref a, .int (nI b0)] h n K) 85 [(0, .ref a), (1, .int (nI b0)), (2, .int (nI k))] [] h1 n 0 0 := by
    intro k
    induction k with
    | zero =>
      intro lm' L1 U1 h1 ho0 hlm hk1 hR hL1 hU1 hU2 ho
      refine z_iload_n dX3_remember_85 rfl ?_
      refine z_if_le (t := 115) dX3_remember_86 (by decide) (fun q86 => ?_) (fun q86 => ?_)
      · refine z_vreturn dX3_remember_115 rfl (Nat.le_of_ble_eq_true rfl) (Nat.le_of_ble_eq_true rfl) ?_
        rw [if_neg (by omega), if_neg (by omega), if_neg (by omega)] at hK
        refine hK h1 ⟨P, B, C, F, X, L1, U1, by rw [← hlm]; exact hR, ⟨t1, t2, t3, t4⟩, ⟨w1, w2, w3, w4, w5⟩, by rw [← hlm]; exact hL1, fun i hi => ?_⟩ (fun q hq => ho q (zaw_no hq).1 (zaw_no hq).2.2.2.2.2.2.1 (zaw_no hq).2.2.2.2.2.2.2)
        rw [← hlm] at hi
        show U1 i = nI (if i = 0 then 0 else nx (i - 1))
        by_cases z : i = 0
        · subst z; rw [if_pos rfl, hU1 0 (Nat.le_refl _) (Nat.zero_le _), hc0]
        · rw [if_neg z]; exact hU2 i (by omega) hi
      · exact absurd (by decide) q86
    | succ k ih =>
      intro lm' L1 U1 h1 ho0 hlm hk1 hR hL1 hU1 hU2 ho
      have hklm : k ≤ lm := by
        unfold zlm at hlm
        split at hlm <;> omega
      have hlo' : lm' ≤ o := hR.2.2.2.2.2.2.2.2.2.2.2.2.2
      obtain ⟨hcn, hfn⟩ := hnx k hklm
      have hR0 := hR
      obtain ⟨r1, r2, r3, r4, r5, r6, r7, r8, -⟩ := hR
      dsimp only at r1 r2 r3 r4 r5 r6 r7 r8
      have hMk : zMod G h1 (a, p, b, c, f, x, l, t) o rm (nm, par, byt, cnt) ch lm' (zlat o lm b0 lat) (fun i => (U1 i).toBitVec.toNat) :=
        ⟨P, B, C, F, X, L1, U1, hR0, ⟨t1, t2, t3, t4⟩, ⟨w1, w2, w3, w4, w5⟩, hL1, fun i hi => (zany (U1 i)).symm⟩
      refine z_iload_n dX3_remember_85 rfl ?_
      refine z_if_le (t := 115) dX3_remember_86 (by decide) (fun q86 => ?_) (fun q86 => ?_)
      · exact absurd q86 (nI_nle (by omega) (by omega))
      · refine z_aload_n dX3_remember_89 rfl ?_
        refine z_getfield dX3_remember_90 fX3_43_4 rfl (by first | assumption | exact zget_eq | exact zget_ne (by first | assumption | exact Ne.symm (by assumption) | omega) (by first | assumption | exact zget_eq | exact zget_ne (by first | assumption | exact Ne.symm (by assumption) | omega) (by first | assumption | exact zget_eq | exact zget_ne (by first | assumption | exact Ne.symm (by assumption) | omega) (by first | assumption | exact zget_eq)))) rfl ?_
        refine z_iload_n dX3_remember_93 rfl ?_
        refine z_aload_n dX3_remember_94 rfl ?_
        refine z_aload_n dX3_remember_95 rfl ?_
        refine z_iload_n dX3_remember_96 rfl ?_
        refine z_iconst (w := 1) dX3_remember_97 (by decide) ?_
        refine z_isub dX3_remember_98 ?_
        rw [show nI (k + 1) - 1 = nI k from nI_pred k]
        refine zcall2 (zck_V (na := 1) (ci := 4) (R' := rX3_context) (M' := mX3_context) (fun _ _ _ _ => tvX3_context) (by decide) kX3_context lX3_75 (by decide +kernel) rfl) dX3_remember_99 (Nat.le_of_ble_eq_true rfl) (Nat.le_of_ble_eq_true rfl) (Nat.le_of_ble_eq_true rfl) ?_
        refine ⟨_, _, _, _, _, _, rfl, r1, rfl, r8, (by omega), (by omega), ?_⟩
        rw [hU1 k (by omega) hklm]
        refine z_iload_n dX3_remember_102 rfl ?_
        refine zcall3 (zck_V (na := 2) (ci := 4) (R' := rX3_childOf) (M' := mX3_childOf) (fun _ _ _ _ => tvX3_childOf) (by decide) kX3_childOf lX3_78 (by decide +kernel) rfl) dX3_remember_103 (Nat.le_of_ble_eq_true rfl) (Nat.le_of_ble_eq_true rfl) (Nat.le_of_ble_eq_true rfl) ?_
        refine ⟨_, _, _, _, _, _, _, _, _, _, rfl, hMk, hcn, hb0, ?_⟩
        rw [hfn]
        refine zcall3 (zck_SN (R' := rX10_put) (M' := mX10_put) (fun _ _ _ _ => tX10_put) kX10_put lX3_49 nX3_49 (by decide +kernel) rfl) dX3_remember_106 (Nat.le_of_ble_eq_true rfl) (Nat.le_of_ble_eq_true rfl) (Nat.le_of_ble_eq_true rfl) ?_
        refine ⟨_, _, _, _, _, rfl, r8, (by omega), fun h2 e1 o1 => ?_⟩
        rw [zpt_in (by omega) (by omega)] at e1
        refine z_iinc dX3_remember_109 rfl (Nat.le_of_ble_eq_true rfl) ?_
        rw [show nI (k + 1) + Int32.ofInt (-1) = nI k from pk_m1 k]
        refine z_goto (t := 85) dX3_remember_112 (by decide) ?_
        refine ih lm' L1 _ _ ho0 hlm (by omega) ⟨(o1 a nat).trans r1, (o1 p npt).trans r2, (o1 b nbt).trans r3, (o1 c nct).trans r4, (o1 f nft).trans r5, (o1 x nxt).trans r6, (o1 l nlt).trans r7, e1, hR0.2.2.2.2.2.2.2.2⟩ hL1 (fun i z1 z2 => ?_) (fun i z1 z2 => ?_) (fun q z1 z2 z3 => (o1 q z3).trans (ho q z1 z2 z3))
        · rw [pk_un (by omega)]; exact hU1 i (by omega) z2
        · by_cases z : i = k + 1
          · subst z; rw [pk_us]; rfl
          · rw [pk_un z]; exact hU2 i (by omega) z2
  have last : ∀ (lm' : Nat) (L1 : Nat → Int32) (h1 : zH), 0 < o → lm' = zlm o lm → 0 < lm' → zMr G h1 (a, p, b, c, f, x, l, t) o rm nm lm' P B C F X L1 U → (∀ i, i < lm' → i ≠ lm' - 1 → L1 i = nI (zlat o lm b0 lat i)) → (∀ q, q ≠ a → q ≠ l → q ≠ t → h1 q = h q) → zZ (zXm G rX3_remember mX3_remember [.ref a, .int (nI b0)] h n K) 66 [(0, .ref a), (1, .int (nI b0))] [] h1 n 0 0 := by
    intro lm' L1 h1 ho0 hlm hl0 hR hL1 ho
    have hlo' : lm' ≤ o := hR.2.2.2.2.2.2.2.2.2.2.2.2.2
    have hR0 := hR
    obtain ⟨r1, r2, r3, r4, r5, r6, r7, r8, -⟩ := hR
    dsimp only at r1 r2 r3 r4 r5 r6 r7 r8
    have hlast : zlat o lm b0 lat (lm' - 1) = b0 := by
      unfold zlat
      unfold zlm at hlm
      split at hlm
      · rw [if_pos (by assumption)]; rw [show lm' - 1 = lm by omega, va_up_self]
      · rw [if_neg (by assumption)]; simp [hlm]
    refine z_aload_n dX3_remember_66 rfl ?_
    refine z_getfield dX3_remember_67 fX3_40_4 rfl (by first | assumption | exact zget_eq | exact zget_ne (by first | assumption | exact Ne.symm (by assumption) | omega) (by first | assumption | exact zget_eq | exact zget_ne (by first | assumption | exact Ne.symm (by assumption) | omega) (by first | assumption | exact zget_eq | exact zget_ne (by first | assumption | exact Ne.symm (by assumption) | omega) (by first | assumption | exact zget_eq)))) rfl ?_
    refine z_aload_n dX3_remember_70 rfl ?_
    refine z_getfield dX3_remember_71 fX3_56_4 rfl (by first | assumption | exact zget_eq | exact zget_ne (by first | assumption | exact Ne.symm (by assumption) | omega) (by first | assumption | exact zget_eq | exact zget_ne (by first | assumption | exact Ne.symm (by assumption) | omega) (by first | assumption | exact zget_eq | exact zget_ne (by first | assumption | exact Ne.symm (by assumption) | omega) (by first | assumption | exact zget_eq)))) rfl ?_
    refine z_iconst (w := 1) dX3_remember_74 (by decide) ?_
    refine z_isub dX3_remember_75 ?_
    rw [show nI lm' - 1 = nI (lm' - 1) from pk_sub (b := 1) (by omega)]
    refine z_iload_n dX3_remember_76 rfl ?_
    refine zcall3 (zck_SN (R' := rX10_put) (M' := mX10_put) (fun _ _ _ _ => tX10_put) kX10_put lX3_49 nX3_49 (by decide +kernel) rfl) dX3_remember_77 (Nat.le_of_ble_eq_true rfl) (Nat.le_of_ble_eq_true rfl) (Nat.le_of_ble_eq_true rfl) ?_
    refine ⟨_, _, _, _, _, rfl, r7, (by omega), fun h2 e1 o1 => ?_⟩
    have r1b := (o1 a nal).trans r1
    rw [zpt_in (by omega) (by omega)] at e1
    refine z_aload_n dX3_remember_80 rfl ?_
    refine z_getfield dX3_remember_81 fX3_56_4 rfl (by first | assumption | exact zget_eq | exact zget_ne (by first | assumption | exact Ne.symm (by assumption) | omega) (by first | assumption | exact zget_eq | exact zget_ne (by first | assumption | exact Ne.symm (by assumption) | omega) (by first | assumption | exact zget_eq | exact zget_ne (by first | assumption | exact Ne.symm (by assumption) | omega) (by first | assumption | exact zget_eq)))) rfl ?_
    refine z_istore_n dX3_remember_84 (Nat.le_of_ble_eq_true rfl) ?_
    exact ctxs lm' lm' _ U _ ho0 hlm (Nat.le_refl _) ⟨r1b, (o1 p npl).trans r2, (o1 b nbl).trans r3, (o1 c ncl).trans r4, (o1 f nfl).trans r5, (o1 x nxl).trans r6, e1, (o1 t (Ne.symm nlt)).trans r8, hR0.2.2.2.2.2.2.2.2⟩ (fun i hi => by
      by_cases z : i = lm' - 1
      · rw [z, pk_us, hlast]
      · rw [pk_un z]; exact hL1 i hi z) (fun i _ z2 => hU i z2) (fun i z1 z2 => by omega) (fun q z1 z2 z3 => (o1 q z2).trans (ho q z1 z2 z3))
  have shift : ∀ (d i : Nat) (L1 : Nat → Int32) (h1 : zH), 0 < o → lm = o → 1 ≤ i → i + d = lm → zMr G h1 (a, p, b, c, f, x, l, t) o rm nm lm P B C F X L1 U → (∀ j, j < i - 1 → L1 j = nI (lat (j + 1))) → (∀ j, i - 1 ≤ j → j < lm → L1 j = nI (lat j)) → (∀ q, q ≠ a → q ≠ l → q ≠ t → h1 q = h q) → zZ (zXm G rX3_remember mX3_remember [.ref a, .int (nI b0)] h n K) 34 [(0, .ref a), (1, .int (nI b0)), (2, .int (nI i))] [] h1 n 0 0 := by
    intro d
    induction d with
    | zero =>
      intro i L1 h1 ho0 hlo1 hi1 hid hR hA1 hA2 ho
      have r1 := hR.1
      dsimp only at r1
      refine z_iload_n dX3_remember_34 rfl ?_
      refine z_aload_n dX3_remember_35 rfl ?_
      refine z_getfield dX3_remember_36 fX3_56_4 rfl (by first | assumption | exact zget_eq | exact zget_ne (by first | assumption | exact Ne.symm (by assumption) | omega) (by first | assumption | exact zget_eq | exact zget_ne (by first | assumption | exact Ne.symm (by assumption) | omega) (by first | assumption | exact zget_eq | exact zget_ne (by first | assumption | exact Ne.symm (by assumption) | omega) (by first | assumption | exact zget_eq)))) rfl ?_
      refine z_icmp_ge (t := 66) dX3_remember_39 (by decide) (fun q39 => ?_) (fun q39 => ?_)
      · refine zZ.keep [0, 1] ?_
        exact last lm L1 h1 ho0 (by unfold zlm; rw [if_neg (by omega)]) (by omega) hR (fun j z1 z2 => by unfold zlat; rw [if_neg (by omega)]; simp only [if_neg z2]; exact hA1 j (by omega)) ho
      · exact absurd (nI_le (by omega) (by omega)) q39
    | succ d ih =>
      intro i L1 h1 ho0 hlo1 hi1 hid hR hA1 hA2 ho
      have hR0 := hR
      obtain ⟨r1, r2, r3, r4, r5, r6, r7, r8, -⟩ := hR
      dsimp only at r1 r2 r3 r4 r5 r6 r7 r8
      refine z_iload_n dX3_remember_34 rfl ?_
      refine z_aload_n dX3_remember_35 rfl ?_
      refine z_getfield dX3_remember_36 fX3_56_4 rfl (by first | assumption | exact zget_eq | exact zget_ne (by first | assumption | exact Ne.symm (by assumption) | omega) (by first | assumption | exact zget_eq | exact zget_ne (by first | assumption | exact Ne.symm (by assumption) | omega) (by first | assumption | exact zget_eq | exact zget_ne (by first | assumption | exact Ne.symm (by assumption) | omega) (by first | assumption | exact zget_eq)))) rfl ?_
      refine z_icmp_ge (t := 66) dX3_remember_39 (by decide) (fun q39 => ?_) (fun q39 => ?_)
      · exact absurd q39 (nI_ge (by omega) (by omega))
      · refine z_aload_n dX3_remember_42 rfl ?_
        refine z_getfield dX3_remember_43 fX3_40_4 rfl (by first | assumption | exact zget_eq | exact zget_ne (by first | assumption | exact Ne.symm (by assumption) | omega) (by first | assumption | exact zget_eq | exact zget_ne (by first | assumption | exact Ne.symm (by assumption) | omega) (by first | assumption | exact zget_eq | exact zget_ne (by first | assumption | exact Ne.symm (by assumption) | omega) (by first | assumption | exact zget_eq)))) rfl ?_
        refine z_iload_n dX3_remember_46 rfl ?_
        refine z_iconst (w := 1) dX3_remember_47 (by decide) ?_
        refine z_isub dX3_remember_48 ?_
        rw [show nI i - 1 = nI (i - 1) from pk_sub (b := 1) (by omega)]
        refine z_aload_n dX3_remember_49 rfl ?_
        refine z_getfield dX3_remember_50 fX3_40_4 rfl (by first | assumption | exact zget_eq | exact zget_ne (by first | assumption | exact Ne.symm (by assumption) | omega) (by first | assumption | exact zget_eq | exact zget_ne (by first | assumption | exact Ne.symm (by assumption) | omega) (by first | assumption | exact zget_eq | exact zget_ne (by first | assumption | exact Ne.symm (by assumption) | omega) (by first | assumption | exact zget_eq)))) rfl ?_
        refine z_iload_n dX3_remember_53 rfl ?_
        refine zcall2 (zck_SN (R' := rX10_at) (M' := mX10_at) (fun _ _ _ _ => tX10_at) kX10_at lX3_67 nX3_67 (by decide +kernel) rfl) dX3_remember_54 (Nat.le_of_ble_eq_true rfl) (Nat.le_of_ble_eq_true rfl) (Nat.le_of_ble_eq_true rfl) ?_
        refine ⟨_, _, _, _, rfl, r7, (by omega), ?_⟩
        rw [zat_in (by omega) (by omega), hA2 i (by omega) (by omega)]
        refine zcall3 (zck_SN (R' := rX10_put) (M' := mX10_put) (fun _ _ _ _ => tX10_put) kX10_put lX3_49 nX3_49 (by decide +kernel) rfl) dX3_remember_57 (Nat.le_of_ble_eq_true rfl) (Nat.le_of_ble_eq_true rfl) (Nat.le_of_ble_eq_true rfl) ?_
        refine ⟨_, _, _, _, _, rfl, r7, (by omega), fun h2 e1 o1 => ?_⟩
        rw [zpt_in (by omega) (by omega)] at e1
        refine z_iinc dX3_remember_60 rfl (Nat.le_of_ble_eq_true rfl) ?_
        rw [show nI i + Int32.ofInt 1 = nI (i + 1) from nI_1 i]
        refine z_goto (t := 34) dX3_remember_63 (by decide) ?_
        refine ih (i + 1) _ _ ho0 hlo1 (by omega) (by omega) ⟨(o1 a nal).trans r1, (o1 p npl).trans r2, (o1 b nbl).trans r3, (o1 c ncl).trans r4, (o1 f nfl).trans r5, (o1 x nxl).trans r6, e1, (o1 t (Ne.symm nlt)).trans r8, hR0.2.2.2.2.2.2.2.2⟩ (fun j z1 => ?_) (fun j z1 z2 => ?_) (fun q z1 z2 z3 => (o1 q z2).trans (ho q z1 z2 z3))
        · by_cases z : j = i - 1
          · rw [z, pk_us, show i - 1 + 1 = i by omega]
          · rw [pk_un z]; exact hA1 j (by omega)
        · rw [pk_un (by omega)]; exact hA2 j (by omega) z2
  have hR9 : zMr G h (a, p, b, c, f, x, l, t) o rm nm lm P B C F X L U := ⟨hk, hp, hb, hc, hf, hx, hl, hu, hdj0, ho4, hr8, hr15, hnr, hlo⟩
  refine z_aload_n dX3_remember_0 rfl ?_
  refine z_getfield dX3_remember_1 fX3_15_4 rfl (by first | assumption | exact zget_eq | exact zget_ne (by first | assumption | exact Ne.symm (by assumption) | omega) (by first | assumption | exact zget_eq | exact zget_ne (by first | assumption | exact Ne.symm (by assumption) | omega) (by first | assumption | exact zget_eq | exact zget_ne (by first | assumption | exact Ne.symm (by assumption) | omega) (by first | assumption | exact zget_eq)))) rfl ?_
  refine z_if_ne (t := 8) dX3_remember_4 (by decide) (fun q4 => ?_) (fun q4 => ?_)
  · have q4b : 0 < o := by
      rcases Nat.eq_zero_or_pos o with z | z
      · subst z; exact absurd nI_0 q4
      · exact z
    refine z_aload_n dX3_remember_8 rfl ?_
    refine z_getfield dX3_remember_9 fX3_56_4 rfl (by first | assumption | exact zget_eq | exact zget_ne (by first | assumption | exact Ne.symm (by assumption) | omega) (by first | assumption | exact zget_eq | exact zget_ne (by first | assumption | exact Ne.symm (by assumption) | omega) (by first | assumption | exact zget_eq | exact zget_ne (by first | assumption | exact Ne.symm (by assumption) | omega) (by first | assumption | exact zget_eq)))) rfl ?_
    refine z_aload_n dX3_remember_12 rfl ?_
    refine z_getfield dX3_remember_13 fX3_15_4 rfl (by first | assumption | exact zget_eq | exact zget_ne (by first | assumption | exact Ne.symm (by assumption) | omega) (by first | assumption | exact zget_eq | exact zget_ne (by first | assumption | exact Ne.symm (by assumption) | omega) (by first | assumption | exact zget_eq | exact zget_ne (by first | assumption | exact Ne.symm (by assumption) | omega) (by first | assumption | exact zget_eq)))) rfl ?_
    refine z_icmp_ge (t := 32) dX3_remember_16 (by decide) (fun q16 => ?_) (fun q16 => ?_)
    · rw [nI_leI (by omega) (by omega)] at q16
      refine z_iconst (w := 1) dX3_remember_32 (by decide) ?_
      refine z_istore_n dX3_remember_33 (Nat.le_of_ble_eq_true rfl) ?_
      exact shift (lm - 1) 1 L h q4b (by omega) (Nat.le_refl _) (by omega) hR9 (fun j z => by omega) (fun j _ z => hL j z) (fun q _ _ _ => rfl)
    · rw [nI_leI (by omega) (by omega)] at q16
      refine z_aload_n dX3_remember_19 rfl ?_
      refine z_dup dX3_remember_20 rfl ?_
      refine z_getfield dX3_remember_21 fX3_56_4 rfl (by first | assumption | exact zget_eq | exact zget_ne (by first | assumption | exact Ne.symm (by assumption) | omega) (by first | assumption | exact zget_eq | exact zget_ne (by first | assumption | exact Ne.symm (by assumption) | omega) (by first | assumption | exact zget_eq | exact zget_ne (by first | assumption | exact Ne.symm (by assumption) | omega) (by first | assumption | exact zget_eq)))) rfl ?_
      refine z_iconst (w := 1) dX3_remember_24 (by decide) ?_
      refine z_iadd dX3_remember_25 ?_
      refine z_putfield dX3_remember_26 fX3_56_4 rfl (fun q => absurd q (by decide)) (by first | assumption | exact zget_eq | exact zget_ne (by first | assumption | exact Ne.symm (by assumption) | omega) (by first | assumption | exact zget_eq | exact zget_ne (by first | assumption | exact Ne.symm (by assumption) | omega) (by first | assumption | exact zget_eq | exact zget_ne (by first | assumption | exact Ne.symm (by assumption) | omega) (by first | assumption | exact zget_eq)))) (Nat.le_of_ble_eq_true rfl) (Or.inl ⟨rfl, _, rfl⟩) ?_
      refine z_goto (t := 66) dX3_remember_29 (by decide) ?_
      exact last (lm + 1) L _ q4b (by unfold zlm; rw [if_pos (by omega)]) (by omega) ⟨by rw [zget_eq]; simp [nI_1], by rw [zup_ne (Ne.symm nap)]; exact hp, by rw [zup_ne (Ne.symm nab)]; exact hb, by rw [zup_ne (Ne.symm nac)]; exact hc, by rw [zup_ne (Ne.symm naf)]; exact hf, by rw [zup_ne (Ne.symm nax)]; exact hx, by rw [zup_ne (Ne.symm nal)]; exact hl, by rw [zup_ne (Ne.symm nat)]; exact hu, hdj0, ho4, hr8, hr15, hnr, by omega⟩ (fun i z1 z2 => by unfold zlat; rw [if_pos (by omega), va_up_ne _ _ (by omega)]; exact hL i (by omega)) (fun q z1 _ _ => by rw [zup_ne z1])
  · have q4b : o = 0 := by
      rcases Nat.eq_zero_or_pos o with z | z
      · exact z
      · exact absurd q4 (nI_ne0 z (by omega))
    rw [if_pos q4b, if_pos q4b, if_pos q4b] at hK
    refine z_vreturn dX3_remember_7 rfl (Nat.le_of_ble_eq_true rfl) (Nat.le_of_ble_eq_true rfl) ?_
    exact hK h hM0 (fun q _ => rfl)

/-! the class: node, on the road that throws -/
abbrev rX10_nodeX : Room := ⟨7, 1, 6, 160⟩
def SX10_nodeX (G : zC) (as : List Value) (h : zH) (n : Nat) : Prop := ∃ (x b t rn : Nat) (o rm : Nat) (a tx : Nat → Nat) (gg : Nat → Int32) (rx : Nat → Nat) (M : Nat → zMs) (z : Nat → Int32) (XX : Nat → Nat) (F : Nat → Option Nat) (e i w : Int32), as = [.ref x, .int e, .int i, .int w] ∧ zOkS o rm a tx M ∧ zCS G h n x b t rn o rm a tx gg rx M z XX F ∧ zQno M e i w = none
set_option maxRecDepth 100000 in
theorem tX10_nodeX {G : zC} {ms : Nat} {as : List Value} {h : zH} {n : Nat} (hl : G.1.stackTraces = false) (hs : SX10_nodeX G as h n) : zCx G (zYt ms) rX10_nodeX mX10_node as h n := by
  obtain ⟨x, b, t, rn, o, rm, a, tx, gg, rx, M, z, XX, F, e, i, w, rfl, hB, hC, hq⟩ := hs
  obtain ⟨b1, b2, b3, b4, b5, b6, b7, b8, btx, bM⟩ := hB
  obtain ⟨rO, tO, rM, tM, tr, kt, rt, Nt, c0, cO, cM, cb, cn, ck, pT, pO, pR, pU, pA, pB, pN, pS, pL, pE, pP, pW, pD⟩ := hC
  refine zCx.of (by decide) (Nat.le_of_ble_eq_true rfl) ?_
  refine z_iload_n dX10_node_0 rfl ?_
  refine zcall1 (zck_S (R' := rX10_isEnd) (M' := mX10_isEnd) (fun _ _ _ _ => tX10_isEnd) kX10_isEnd lX10_226 (by decide +kernel) rfl) dX10_node_1 (Nat.le_of_ble_eq_true rfl) (Nat.le_of_ble_eq_true rfl) (Nat.le_of_ble_eq_true rfl) ?_
  refine ⟨_, rfl, ?_⟩
  refine z_if_eq (t := 16) dX10_node_4 (by decide) (fun q4 => ?_) (fun q4 => ?_)
  · rw [show zQno M e i w = some (-1) from if_neg (fun p => zi10.mp q4 p.1)] at hq
    cases hq
  · rcases zin2.mp (zi11.mp q4) with rfl | rfl
    · refine z_iload_n dX10_node_7 rfl ?_
      refine z_if_lt (t := 16) dX10_node_8 (by decide) (fun q8 => ?_) (fun q8 => ?_)
      · rw [show zQno M 0 i w = some (-1) from if_neg (fun p => absurd q8 (Int32.not_lt.mpr p.2.1))] at hq
        cases hq
      · refine z_iload_n dX10_node_11 rfl ?_
        refine z_iconst (w := 3) dX10_node_12 (by decide) ?_
        refine z_icmp_le (t := 18) dX10_node_13 (by decide) (fun q13 => ?_) (fun q13 => ?_)
        · have hin : zIn w 4 := (zin_le (u := 3) (by decide)).mp ⟨Int32.not_lt.mp q8, q13⟩
          rw [show zQno M 0 i w = (if zIn i (M 0).1.1 then some (if w = 0 then zm (M 0).1.2.1 (zt i) else if w = 1 then zm (M 0).1.2.2.1 (zt i) else if w = 2 then (if zt i = 0 then 0 else nI ((M 0).1.2.2.2 (zt i))) else nI (zdp (M 0).1.2.1 (zt i) (zt i))) else none) from if_pos ⟨by decide, hin⟩] at hq
          refine z_aload_n dX10_node_18 rfl ?_
          refine z_iload_n dX10_node_19 rfl ?_
          refine zcall2 (zck_V (na := 1) (ci := 10) (R' := rX10_model) (M' := mX10_model) (fun _ _ _ _ => tvX10_model) (by decide) kX10_model lX10_229 (by decide +kernel) rfl) dX10_node_20 (Nat.le_of_ble_eq_true rfl) (Nat.le_of_ble_eq_true rfl) (Nat.le_of_ble_eq_true rfl) ?_
          refine ⟨_, _, _, _, _, _, _, _, _, _, .null, .null, _, _, _, _, _, _, _, _, _, _, _, _, rfl, c0, ?_⟩
          rw [if_pos (show (0 : Int32) = 0 from rfl)]
          refine z_astore dX10_node_23 (Nat.le_of_ble_eq_true rfl) ?_
          refine z_iload_n dX10_node_25 rfl ?_
          refine z_if_lt (t := 38) dX10_node_26 (by decide) (fun q26 => ?_) (fun q26 => ?_)
          · exact z_throw hl (fun _ _ q => q) (Nat.le_of_ble_eq_true rfl) (Nat.le_of_ble_eq_true rfl) (Nat.le_of_ble_eq_true rfl) (Nat.le_of_ble_eq_true rfl)
          · refine z_iload_n dX10_node_29 rfl ?_
            refine z_aload dX10_node_30 rfl ?_
            refine zcall1 (zck_V (na := 0) (ci := 4) (R' := rX3_nodeMany) (M' := mX3_nodeMany) (fun _ _ _ _ => tvX3_nodeMany) (by decide) kX3_nodeMany lX10_233 (by decide +kernel) rfl) dX10_node_32 (Nat.le_of_ble_eq_true rfl) (Nat.le_of_ble_eq_true rfl) (Nat.le_of_ble_eq_true rfl) ?_
            refine ⟨_, _, _, rfl, pA.obj, rfl, ?_⟩
            refine z_icmp_lt (t := 48) dX10_node_35 (by decide) (fun q35 => ?_) (fun q35 => ?_)
            · rw [if_pos (show zIn i (M 0).1.1 from ⟨Int32.not_lt.mp q26, q35⟩)] at hq
              cases hq
            · exact z_throw hl (fun _ _ q => q) (Nat.le_of_ble_eq_true rfl) (Nat.le_of_ble_eq_true rfl) (Nat.le_of_ble_eq_true rfl) (Nat.le_of_ble_eq_true rfl)
        · rw [show zQno M 0 i w = some (-1) from if_neg (fun p => q13 ((zin_le (u := 3) (by decide)).mpr p.2).2)] at hq
          cases hq
    · refine z_iload_n dX10_node_7 rfl ?_
      refine z_if_lt (t := 16) dX10_node_8 (by decide) (fun q8 => ?_) (fun q8 => ?_)
      · rw [show zQno M 1 i w = some (-1) from if_neg (fun p => absurd q8 (Int32.not_lt.mpr p.2.1))] at hq
        cases hq
      · refine z_iload_n dX10_node_11 rfl ?_
        refine z_iconst (w := 3) dX10_node_12 (by decide) ?_
        refine z_icmp_le (t := 18) dX10_node_13 (by decide) (fun q13 => ?_) (fun q13 => ?_)
        · have hin : zIn w 4 := (zin_le (u := 3) (by decide)).mp ⟨Int32.not_lt.mp q8, q13⟩
          rw [show zQno M 1 i w = (if zIn i (M 1).1.1 then some (if w = 0 then zm (M 1).1.2.1 (zt i) else if w = 1 then zm (M 1).1.2.2.1 (zt i) else if w = 2 then (if zt i = 0 then 0 else nI ((M 1).1.2.2.2 (zt i))) else nI (zdp (M 1).1.2.1 (zt i) (zt i))) else none) from if_pos ⟨by decide, hin⟩] at hq
          refine z_aload_n dX10_node_18 rfl ?_
          refine z_iload_n dX10_node_19 rfl ?_
          refine zcall2 (zck_V (na := 1) (ci := 10) (R' := rX10_model) (M' := mX10_model) (fun _ _ _ _ => tvX10_model) (by decide) kX10_model lX10_229 (by decide +kernel) rfl) dX10_node_20 (Nat.le_of_ble_eq_true rfl) (Nat.le_of_ble_eq_true rfl) (Nat.le_of_ble_eq_true rfl) ?_
          refine ⟨_, _, _, _, _, _, _, _, _, _, .null, .null, _, _, _, _, _, _, _, _, _, _, _, _, rfl, c0, ?_⟩
          rw [if_neg (show ¬ (1 : Int32) = 0 by decide)]
          refine z_astore dX10_node_23 (Nat.le_of_ble_eq_true rfl) ?_
          refine z_iload_n dX10_node_25 rfl ?_
          refine z_if_lt (t := 38) dX10_node_26 (by decide) (fun q26 => ?_) (fun q26 => ?_)
          · exact z_throw hl (fun _ _ q => q) (Nat.le_of_ble_eq_true rfl) (Nat.le_of_ble_eq_true rfl) (Nat.le_of_ble_eq_true rfl) (Nat.le_of_ble_eq_true rfl)
          · refine z_iload_n dX10_node_29 rfl ?_
            refine z_aload dX10_node_30 rfl ?_
            refine zcall1 (zck_V (na := 0) (ci := 4) (R' := rX3_nodeMany) (M' := mX3_nodeMany) (fun _ _ _ _ => tvX3_nodeMany) (by decide) kX3_nodeMany lX10_233 (by decide +kernel) rfl) dX10_node_32 (Nat.le_of_ble_eq_true rfl) (Nat.le_of_ble_eq_true rfl) (Nat.le_of_ble_eq_true rfl) ?_
            refine ⟨_, _, _, rfl, pB.obj, rfl, ?_⟩
            refine z_icmp_lt (t := 48) dX10_node_35 (by decide) (fun q35 => ?_) (fun q35 => ?_)
            · rw [if_pos (show zIn i (M 1).1.1 from ⟨Int32.not_lt.mp q26, q35⟩)] at hq
              cases hq
            · exact z_throw hl (fun _ _ q => q) (Nat.le_of_ble_eq_true rfl) (Nat.le_of_ble_eq_true rfl) (Nat.le_of_ble_eq_true rfl) (Nat.le_of_ble_eq_true rfl)
        · rw [show zQno M 1 i w = some (-1) from if_neg (fun p => q13 ((zin_le (u := 3) (by decide)).mpr p.2).2)] at hq
          cases hq
/-! the law's own row of one long -/
abbrev zJ (G : zC) (n : Nat) (f : Nat → Int64) : va_E := .inl (G.2.2.2.2.2, n, .inr (.inl f))
section zLong
variable {X : zX} {pc : Nat} {lv : List (Nat × Value)} {st : List Value} {h : zH} {n c s : Nat}
theorem z_i2l {x : Int32} (hd : decode (zxM X).2.1 pc = .ok (.i2l, 1)) (k : zZ X (pc + 1) lv (.long x.toInt64 :: st) h n c s) : zZ X pc lv (.int x :: st) h n c s := by
  intro p e s0 m below meth c0 H locs ls hF h1 h2 h3 h4 h5 h6
  exact lv_i2l hF.1 hF.2.1 hd rfl (k p e s0 m below meth c0 H locs ls hF h1 h2 h3 h4 h5 h6)
theorem z_lcmp {x y : Int64} (hd : decode (zxM X).2.1 pc = .ok (.lcmp, 1)) (k : zZ X (pc + 1) lv (.int (lg_cmp x y) :: st) h n c s) : zZ X pc lv (.long y :: .long x :: st) h n c s := by
  intro p e s0 m below meth c0 H locs ls hF h1 h2 h3 h4 h5 h6
  exact W.lcmp hF.1 hF.2.1 hd (k p e s0 m below meth c0 H locs ls hF h1 h2 h3 h4 h5 h6)
theorem z_lald {a m0 : Nat} {f : Nat → Int64} {i : Int32} (hd : decode (zxM X).2.1 pc = .ok (.laload, 1)) (hc : h a = some (zJ (zxG X) m0 f)) (hin : vp_in i m0) (k : zZ X (pc + 1) lv (.long (f i.toNatClampNeg) :: st) h n c s) : zZ X pc lv (.int i :: .ref a :: st) h n c s := by
  intro p e s0 m below meth c0 H locs ls hF h1 h2 h3 h4 h5 h6
  obtain ⟨j, hj⟩ := zL_at (h3.lt hc) hc
  exact va_lald hF.1 hF.2.1 hF.K.1 (zL_P h3 _) j 3 hj rfl hin hd (k p e s0 m below meth c0 H locs ls hF h1 h2 h3 h4 h5 h6)
theorem z_last {a m0 : Nat} {f : Nat → Int64} {i : Int32} {x : Int64} (hd : decode (zxM X).2.1 pc = .ok (.lastore, 1)) (hc : h a = some (zJ (zxG X) m0 f)) (hin : vp_in i m0) (k : zZ X (pc + 1) lv st (va_up h a (some (zJ (zxG X) m0 (vp_updL f i.toNatClampNeg x)))) n c s) : zZ X pc lv (.long x :: .int i :: .ref a :: st) h n c s := by
  intro p e s0 m below meth c0 H locs ls hF h1 h2 h3 h4 h5 h6
  obtain ⟨j, hj⟩ := zL_at (h3.lt hc) hc
  refine W.last hF.1 hF.2.1 (h3 a _ hc) ((hF.K.1.2 3 _ rfl).1 m0 (fun j => .long (f j))) (fun q => by cases q) (by show ¬ (i < 0 ∨ (arrV _ _ _).slots.size ≤ _); rw [arrV_size]; exact hin) rfl rfl hd fun H1 ec z oq => ?_
  refine k p e s0 m below meth c0 H1 _ ls hF h1 (z.trans h2) (zupW h3 oq ?_) (zA_set h4 hc) (h5.put z oq (h4 a (by rw [hc]; simp))) h6
  show H1[a]? = some (vp_cell _ _)
  have hlt : i.toNatClampNeg < m0 := Nat.not_le.mp fun q => hin (Or.inr q)
  rw [ec, vp_cell_l, vp_cell_l, arrV_store]
  congr 2
  funext j
  by_cases hj2 : j = i.toNatClampNeg
  · subst hj2
    simp [updV, vp_updL]
  · simp [updV, vp_updL, hj2]
end zLong
/-! node, as the law calls it -/
def zCw (G : zC) (Y : zHy) (R : Room) (M : zM) (args : List Value) (h : zH) (n : Nat) (post : zP) : Prop :=
  Met G.1 M.1 (Cond.codeWith M.1 M.2.1 M.2.2.1 M.2.2.2 zHh :: zT) R (va_Pc args (fun U => U.heap.size = n ∧ zW G h U.heap ∧ zK G U ∧ Y (zA h n) U)) (zQ G h post) R.cells R.slots (zA h n)
theorem zCw.of {G : zC} {Y : zHy} {R : Room} {M : zM} {args : List Value} {h : zH} {n : Nat} {post : zP} (hy : plainName M.1.cls = true) (hl : (lg_sl args).length ≤ M.2.2.1) (k : zZ (zXh G R M args h n (fun B U => Y B U ∧ zYn M.1 U) (fun s below => MQ below (zQ G h post) args.toArray s R.cells R.slots (zA h n))) 0 (lv_args 0 args) [] h n 0 0) : zCw G Y R M args h n post := by
  refine va_MetW (cc := M.2.1) (maxL := M.2.2.1) (ret := M.2.2.2) (hh := zHh) hy rfl ?_
  intro p e s m args' below meth c s₁ B hml hv
  obtain ⟨rfl, hsz, hW, hK, hst⟩ := hv
  have hts := atoms_spec (ws := Cond.codeWith M.1 M.2.1 M.2.2.1 M.2.2.2 zHh :: zT) B.pre
  have hl' := lv_entry args hl
  rw [lg_entry_eq]
  have k9 := k p e s m below meth c s.heap [] _ ⟨B.exec, B.bytes, B.returns, hml, findClass_of_methodNamed B.named, fun w hw => hts w (List.mem_cons_of_mem _ hw), B.notSynchronized, (name_of_methodNamed B.named B.method).1, hK⟩ hsz hsz hW (fun a ha => Or.inl ha) va_S.rf hl'
  intro T hT X
  obtain ⟨u, a1, b1⟩ := k9 T hT X
  exact ⟨u, a1, b1 ⟨hst, m, _, below, B.frames, B.named⟩⟩
set_option maxRecDepth 100000 in
theorem kL_node : Cond.codeWith yL_node cL_node 6 (some .int) zHh ∈ zT := zall_spec (ws := [Cond.codeWith yL_node cL_node 6 (some .int) zHh]) (by decide +kernel) _ (by simp)
set_option maxRecDepth 100000 in
theorem lL_13 : zall [.classLink RL 13 zAX] = true := by decide +kernel
abbrev rL_node : Room := ⟨8, 1, 6, 200⟩
def SL_node (G : zC) : zS := fun as h n K => ∃ (x b t rn y : Nat) (o rm : Nat) (a tx : Nat → Nat) (gg : Nat → Int32) (rx : Nat → Nat) (M : Nat → zMs) (z : Nat → Int32) (XX : Nat → Nat) (F : Nat → Option Nat) (e i w : Int32) (f : Nat → Int64), as = [.ref x, .int e, .int i, .int w, .ref y] ∧ zOkS o rm a tx M ∧ zCS G h n x b t rn o rm a tx gg rx M z XX F ∧ rn ≤ 100000 ∧ h y = some (zJ G 1 f) ∧ (∀ r, zQno M e i w = some r → K (some (.int 0)) (va_up h y (some (zJ G 1 (vp_updL f 0 r.toInt64)))) n) ∧ (zQno M e i w = none → ∀ n', n ≤ n' → K (some (.int 1)) h n')
set_option maxRecDepth 100000 in
theorem tL_node {G : zC} {ms : Nat} {as : List Value} {h : zH} {n : Nat} {K : zP} (hl : G.1.stackTraces = false) (hs : SL_node G as h n K) : zCw G (zYt ms) rL_node mL_node as h n K := by
  obtain ⟨x, b, t, rn, y, o, rm, a, tx, gg, rx, M, z, XX, F, e, i, w, f, rfl, hB, hC, hrn, hy, k0, k1⟩ := hs
  refine zCw.of (by decide) (Nat.le_of_ble_eq_true rfl) ?_
  have hC0 := hC
  obtain ⟨rO, tO, rM, tM, tr, kt, rt, Nt, c0, cO, cM, cb, cn, ck, pT, pO, pR, pU, pA, pB, pN, pS, pL, pE, pP, pW, pD⟩ := hC
  refine z_aload dL_node_0 rfl ?_
  refine z_iconst (w := 0) dL_node_2 (by decide) ?_
  refine z_aload_n dL_node_3 rfl ?_
  refine z_iload_n dL_node_4 rfl ?_
  refine z_iload_n dL_node_5 rfl ?_
  refine z_iload_n dL_node_6 rfl ?_
  rcases hq : zQno M e i w with _ | r
  · refine z_thrV (r := [.int e, .int i, .int w]) (na := 3) (ci := 10) (M' := mX10_node) (R' := rX10_nodeX) (Y' := zYt ms) (tX10_nodeX hl ⟨x, b, t, rn, o, rm, a, tx, gg, rx, M, z, XX, F, e, i, w, rfl, hB, hC0, hq⟩) (zYt_ride (fun _ _ q => q.1)) zYt_bl (fun _ _ q => ⟨q.2, q.1.1⟩) (by decide) c0 kX10_node lL_7 (by decide +kernel) rfl kL_node lL_13 dL_node_7 (by decide) rfl (Nat.le_of_ble_eq_true rfl) (Nat.le_of_ble_eq_true rfl) (Nat.le_of_ble_eq_true rfl) (fun n' a hn => ?_)
    refine z_astore dL_node_15 (Nat.le_of_ble_eq_true rfl) ?_
    refine z_iconst (w := 1) dL_node_17 (by decide) ?_
    refine zZ.toH ?_
    refine z_ireturn dL_node_18 trivial (Nat.le_of_ble_eq_true rfl) (Nat.le_of_ble_eq_true rfl) ?_
    exact k1 hq n' hn
  · refine zcall4 (zck_V (na := 3) (ci := 10) (R' := rX10_node) (M' := mX10_node) (fun _ _ _ _ => tvX10_node) (by decide) kX10_node lL_7 (by decide +kernel) rfl) dL_node_7 (Nat.le_of_ble_eq_true rfl) (Nat.le_of_ble_eq_true rfl) (Nat.le_of_ble_eq_true rfl) ?_
    refine ⟨x, b, t, rn, o, rm, a, tx, gg, rx, M, z, XX, F, e, i, w, r, rfl, hB, hC0, hrn, hq, fun _ => ?_⟩
    refine z_i2l dL_node_10 ?_
    refine z_last dL_node_11 hy (vp_in_nI (n := 0) (N := 1) (by decide) (by decide)) ?_
    refine z_goto (t := 19) dL_node_12 (by decide) ?_
    refine z_iconst (w := 0) dL_node_19 (by decide) ?_
    refine zZ.toH ?_
    refine z_ireturn dL_node_20 trivial (Nat.le_of_ble_eq_true rfl) (Nat.le_of_ble_eq_true rfl) ?_
    exact k0 r hq

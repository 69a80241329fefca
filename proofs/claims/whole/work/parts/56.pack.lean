/-! the class: pack -/
theorem zTl_wx {T : zTree} {ch : Nat → List Nat} {ctx : Nat → Nat} {x : Nat} : ∀ (c : Nat) (E : Nat → Bool) (ex es : Nat) (e : zEs) (y : zYr zEs), zTl (zSyW x) T.2.2.1 T.2.2.2 ch ctx c E ex es e y → ∀ k, y.2.2.2.2.2 = some k → y.2.2.2.2.1 = x
  | 0, E, ex, es, e, y, h, k, hk => by
    obtain ⟨i, s', -, rfl⟩ := h
    cases hk
  | c + 1, E, ex, es, e, y, h, k, hk => by
    rcases h with ⟨_, h⟩ | ⟨hne, i, s', ⟨hp, -⟩, h⟩
    · exact zTl_wx c E ex es e y h k hk
    · rcases h with ⟨h2, rfl⟩ | ⟨_, h⟩
      · rcases hp.2.1 with h3 | ⟨h3, _⟩
        · exact h3
        · exfalso
          apply h2
          rw [h3, List.length_append]
          simp only [List.length_cons, List.length_nil, Nat.zero_add, Nat.add_sub_cancel]
          exact zsg_last _ _
      · exact zTl_wx c _ _ _ _ y h k hk
/-- what learning finds, from what was told -/
theorem zfound {o rm : Nat} {M : zMs} (H : zMi o rm M) {σ : Type} {y : zYr σ} {b : Nat} (hs : ∀ k, y.2.2.2.2.2 = some k → k < M.2.2.1 + 1 ∧ ∃ q, q ∈ M.2.1 (M.2.2.2.2 k) ∧ M.1.2.2.1 q = b) : zlo y.2.2.2.2.2 ≤ M.2.2.1 ∧ ∀ j, j < zlo y.2.2.2.2.2 → ∃ c, c ∈ M.2.1 (M.2.2.2.2 j) ∧ M.1.2.2.1 c = b := by
  rcases hf : y.2.2.2.2.2 with _ | k
  · exact ⟨Nat.zero_le _, fun j hj => absurd hj (Nat.not_lt_zero _)⟩
  · obtain ⟨h1, h2⟩ := hs k hf
    exact ⟨Nat.le_of_lt_succ h1, fun j hj => H.low (Nat.le_of_lt_succ h1) h2 j (Nat.le_of_lt hj)⟩
theorem zfi_lo {f : Option Nat} (h : ∀ k, f = some k → k < 1000) : (if zfi f = -1 then 0 else zfi f) = nI (zlo f) := by
  rcases f with _ | k
  · rfl
  · rw [if_neg (zpos_ne (by have := h k rfl; omega))]; rfl
theorem zLn.no {o rm b : Nat} {M : zMs} (H : zMi o rm M) (hrm : rm ≤ 1500) (ho : o ≤ 4) (hb : b < 256) {lo : Nat} (hlo : lo ≤ M.2.2.1) (hlow : ∀ j, j < lo → ∃ c, c ∈ M.2.1 (M.2.2.2.2 j) ∧ M.1.2.2.1 c = b) {T' : zTree} {ch' : Nat → List Nat} (hL : zLrn rm b M.2.2.2.2 (M.2.2.1 + 1 - lo) lo M.1 M.2.1 T' ch') (hS : zSb T' ch') (hch : ∀ k, k ≤ M.2.2.1 → M.2.2.2.2 k < T'.1 ∧ ∃ c, c ∈ ch' (M.2.2.2.2 k) ∧ T'.2.2.1 c = b) (hT : zTok T' ch') (hr : T'.1 ≤ rm) : zLn o rm b lo M false (zMn o b M T' ch') :=
  ⟨H.learn hrm ho hb hlo hlow hL hT hS hr (fun k hk => (hch k hk).2), Or.inl ⟨rfl, T', ch', hL, rfl⟩⟩
theorem zLn.yes {o rm b : Nat} {M : zMs} (hrm : 8 ≤ rm) {lo d : Nat} {T1 : zTree} {ch1 : Nat → List Nat} (hL : zLrn rm b M.2.2.2.2 d lo M.1 M.2.1 T1 ch1) (hd : lo + d ≤ M.2.2.1) (hR : zRst rm b (M.2.2.2.2 (lo + d)) T1 ch1) : zLn o rm b lo M true zM0 :=
  ⟨zMi.zero (by omega), Or.inr ⟨rfl, rfl, d, T1, ch1, hd, hL, hR⟩⟩
abbrev rX10_write : Room := ⟨5, 0, 0, 200⟩
def SX10_write (G : zC) : zS := fun as h n K => ∃ (x w o rm R k : Nat) (E : Nat → Bool) (ex0 es0 : Nat) (f0 : Int32) (L : List (Nat × Nat)) (M : zMs) (e : zEs) (v5 v3 r5 : Value) (fe fc : Nat → Int32) (esc : Nat) (w0 w1 w2 w3 w4 w5 w7 w8 w9 w10 w11 w12 w13 w16 w17 w19 : Value), as = [.ref x, .int (nI w)] ∧ h x = some (zO 10 [w0, w1, w2, w3, w4, w5, .ref (x + 19), w7, w8, w9, w10, w11, w12, w13, .ref (x + 10), .ref (x + 43), w16, w17, .ref (x + 16), w19]) ∧ zCd G h 9 (x + 43) (x + 3) (x + 4) [v5] e ∧ zTel G h (x + 10) (x + 11) (x + 14) R E ex0 es0 f0 ∧ zCho G h (x + 11) (x + 12) (x + 13) L ∧ zpM G h (x + 19) o rm M ∧ zMi o rm M ∧ o ≤ 4 ∧ zEok e ∧ e.2.1 + e.2.2.2.2 ≤ 19800 ∧ w ≤ 256 ∧ R < 1000000 ∧ h (x + 16) = some (zO 6 [.ref (x + 17), .ref (x + 18), .int (nI k), v3, .int (nI esc), r5]) ∧ h (x + 17) = some (zI G 301 fe) ∧ h (x + 18) = some (zI G 301 fc) ∧ k < 301 ∧ ∀ h' y, zTM (zSyW w) M e y → zCd G h' 9 (x + 43) (x + 3) (x + 4) [.int (nI w)] y.1 → zTel G h' (x + 10) (x + 11) (x + 14) (R + 1) y.2.1 y.2.2.1 y.2.2.2.1 (zfi y.2.2.2.2.2) → (∃ L, zCho G h' (x + 11) (x + 12) (x + 13) L) → h' (x + 16) = some (zO 6 [.ref (x + 17), .ref (x + 18), .int (nI (k + 1)), v3, .int (nI (esc + y.2.2.2.1)), r5]) → h' (x + 17) = some (zI G 301 (upd fe k (nI y.2.2.1))) → h' (x + 18) = some (zI G 301 (upd fc k (zfi y.2.2.2.2.2))) → (∀ q, ¬ (q = x + 3 ∨ q = x + 4 ∨ (x + 10 ≤ q ∧ q < x + 15) ∨ (x + 16 ≤ q ∧ q < x + 19) ∨ q = x + 43) → h' q = h q) → K none h' n
set_option maxRecDepth 100000 in
theorem tvX10_write {G : zC} {as : List Value} {h : zH} {n : Nat} {K : zP} (hs : SX10_write G as h n K) : (∃ b fs r, as = .ref b :: r ∧ h b = some (.inr (10, fs))) ∧ zCt G rX10_write mX10_write as h n K := by
  obtain ⟨x, w, o, rm, R, k, E, ex0, es0, f0, L, M, e, v5, v3, r5, fe, fc, esc, w0, w1, w2, w3, w4, w5, w7, w8, w9, w10, w11, w12, w13, w16, w17, w19, rfl, c0, hCd, hT, hL, hM, hMi, ho4, hok, hcap, hw, hR, p1, p2, p3, hk, hK⟩ := hs
  refine ⟨⟨_, _, _, rfl, c0⟩, zCt.of (by decide) (Nat.le_of_ble_eq_true rfl) ?_⟩
  have hlm4 : M.2.2.1 ≤ 4 := Nat.le_trans hMi.2.2.2.1 ho4
  refine z_aload_n dX10_write_0 rfl ?_
  refine z_getfield dX10_write_1 fX10_94_10 rfl (by first | exact c0 | exact (hE1 _ (by omega)).trans c0 | exact (hE2 _ (by omega)).trans c0) rfl ?_
  refine z_iload_n dX10_write_4 rfl ?_
  refine zcall2 (zck_V (na := 1) (ci := 9) (R' := rX9_want) (M' := mX9_want) (fun _ _ _ _ => tvX9_want) (by decide) kX9_want lX10_178 (by decide +kernel) rfl) dX10_write_5 (Nat.le_of_ble_eq_true rfl) (Nat.le_of_ble_eq_true rfl) (Nat.le_of_ble_eq_true rfl) ?_
  obtain ⟨d1, d2, d3⟩ := hCd
  refine ⟨_, _, _, _, _, _, _, _, rfl, d1, fun h1 g1 g2 => ?_⟩
  have hE1 : ∀ q, ¬ q = x + 43 → h1 q = h q := fun q hq => g2 q hq
  refine z_aload_n dX10_write_8 rfl ?_
  refine z_getfield dX10_write_9 fX10_37_10 rfl (by first | exact c0 | exact (hE1 _ (by omega)).trans c0 | exact (hE2 _ (by omega)).trans c0) rfl ?_
  refine z_aload_n dX10_write_12 rfl ?_
  refine z_getfield dX10_write_13 fX10_79_10 rfl (by first | exact c0 | exact (hE1 _ (by omega)).trans c0 | exact (hE2 _ (by omega)).trans c0) rfl ?_
  refine z_aload_n dX10_write_16 rfl ?_
  refine z_getfield dX10_write_17 fX10_94_10 rfl (by first | exact c0 | exact (hE1 _ (by omega)).trans c0 | exact (hE2 _ (by omega)).trans c0) rfl ?_
  refine zcall3 (zck_V (na := 2) (ci := 8) (R' := rX8_tell_9) (M' := mX8_tell) (fun _ _ _ _ => tvX8_tell_9) (by decide) kX8_tell lX10_181 (by decide +kernel) rfl) dX10_write_20 (Nat.le_of_ble_eq_true rfl) (Nat.le_of_ble_eq_true rfl) (Nat.le_of_ble_eq_true rfl) ?_
  refine ⟨x + 10, x + 11, x + 12, x + 13, x + 14, R, ex0, es0, f0, E, L, zmk (x + 19), o, rm, _, _, _, _, _, x + 43, x + 3, x + 4, w, e, rfl, hT.to (hE1 _ (by omega)) (hE1 _ (by omega)), hL.to (hE1 _ (by omega)) (hE1 _ (by omega)) (hE1 _ (by omega)), (by omega), (by omega), zpM.cg hM (fun q z1 z2 => hE1 q (by omega)), hMi.2.1, (fun q hq => by have := zmk_aw.mp hq; omega), (fun j hj => (hMi.2.2.2.2.2.2.1 j hj).1), (by omega), ⟨g1, (hE1 _ (by omega)).trans d2, (hE1 _ (by omega)).trans d3⟩, hw, (by omega), (by omega), (by omega), hok, (by omega), fun h2 y t1 t2 t3 t4 t5 => ?_⟩
  have hE2 : ∀ q, ¬ (q = x + 3 ∨ q = x + 4 ∨ (x + 10 ≤ q ∧ q < x + 15) ∨ q = x + 43) → h2 q = h q := fun q hq => (t5 q (by omega) (by omega) (by omega) (by omega) (by omega) (by omega) (by omega) (by omega)).trans (hE1 q (by omega))
  refine z_pop dX10_write_23 rfl ?_
  refine z_aload_n dX10_write_24 rfl ?_
  refine z_getfield dX10_write_25 fX10_51_10 rfl (by first | exact c0 | exact (hE1 _ (by omega)).trans c0 | exact (hE2 _ (by omega)).trans c0) rfl ?_
  refine z_aload_n dX10_write_28 rfl ?_
  refine z_getfield dX10_write_29 fX10_37_10 rfl (by first | exact c0 | exact (hE1 _ (by omega)).trans c0 | exact (hE2 _ (by omega)).trans c0) rfl ?_
  refine zcall2 (zck_V (na := 1) (ci := 6) (R' := rX5_noteSign) (M' := mX5_noteSign) (fun _ _ _ _ => tvX5_noteSign) (by decide) kX5_noteSign lX10_185 (by decide +kernel) rfl) dX10_write_32 (Nat.le_of_ble_eq_true rfl) (Nat.le_of_ble_eq_true rfl) (Nat.le_of_ble_eq_true rfl) ?_
  refine ⟨_, _, _, _, k, fe, fc, _, _, _, _, _, _, _, _, _, rfl, (hE2 _ (by omega)).trans p1, (hE2 _ (by omega)).trans p2, (hE2 _ (by omega)).trans p3, (by omega), t2.1, hk, fun h3 u1 u2 u3 u4 => ?_⟩
  rw [nI_add] at u1
  have hE3 : ∀ q, ¬ (x + 16 ≤ q ∧ q < x + 19) → h3 q = h2 q := fun q hq => u4 q (by omega) (by omega) (by omega)
  refine z_vreturn dX10_write_35 rfl (Nat.le_of_ble_eq_true rfl) (Nat.le_of_ble_eq_true rfl) ?_
  obtain ⟨L2, t4⟩ := t4
  exact hK h3 y t1 ⟨(hE3 _ (by omega)).trans t3.1, (hE3 _ (by omega)).trans t3.2.1, (hE3 _ (by omega)).trans t3.2.2⟩ (t2.to (hE3 _ (by omega)) (hE3 _ (by omega))) ⟨L2, t4.to (hE3 _ (by omega)) (hE3 _ (by omega)) (hE3 _ (by omega))⟩ u1 u2 u3 (fun q hq => (hE3 q (by omega)).trans (hE2 q (by omega)))
abbrev rX10_pack : Room := ⟨6, 0, 0, 240⟩
def SX10_pack (G : zC) : zS := fun as h n K => ∃ (x b t rn : Nat) (o rm : Nat) (a tx : Nat → Nat) (gg : Nat → Int32) (rx : Nat → Nat) (M : Nat → zMs) (z : Nat → Int32) (XX : Nat → Nat) (F : Nat → Option Nat), as = [.ref x] ∧ zOkS o rm a tx M ∧ zCS G h n x b t rn o rm a tx gg rx M z XX F ∧ rn ≤ 100000 ∧ ∀ h' R, zPk o rm tx (a 0) 0 (M 0, (gg, 0, 0, 65535, 0), 0, 0, XX, F) R → zCS G h' n x b t (rn + 302) o rm (zPka a R) tx (zpe R.2.1).1 rx (va_up M 0 R.1) (zPkz z R) R.2.2.2.2.1 R.2.2.2.2.2 → zfrm x b h h' → K (some (.int (nI (((zpe R.2.1).2.1 + 7) / 8)))) h' n
set_option maxRecDepth 100000 in
theorem tvX10_pack {G : zC} {as : List Value} {h : zH} {n : Nat} {K : zP} (hs : SX10_pack G as h n K) : (∃ b fs r, as = .ref b :: r ∧ h b = some (.inr (10, fs))) ∧ zCt G rX10_pack mX10_pack as h n K := by
  obtain ⟨x, b, t, rn, o, rm, a, tx, gg, rx, M, z, XX, F, rfl, hB, hC, hrn, hK⟩ := hs
  have hC0 := hC
  obtain ⟨b1, b2, b3, b4, b5, b6, b7, b8, btx, bM⟩ := hB
  obtain ⟨rO, tO, rM, tM, tr, kt, rt, Nt, c0, cO, cM, cb, cn, ck, pT, pO, pR, pU, pA, pB, pN, pS, pL, pE, pP, pW, pD⟩ := hC
  refine ⟨⟨_, _, _, rfl, c0⟩, zCt.of (by decide) (Nat.le_of_ble_eq_true rfl) ?_⟩
  obtain ⟨fe0, fc0, bi0, es0, rs0, q1, q2, q3, q4, q5⟩ := pP
  obtain ⟨R0, E0, ex0, ee0, f0, L0, l1, l2, l3⟩ := pL
  obtain ⟨u1, u2, u3, u4, u5, pW1⟩ := pW
  have loop : ∀ (d i : Nat) (P : zPr) (h1 : zH) (Rn : Nat) (E : Nat → Bool) (ex es : Nat) (f1 : Int32) (L : List (Nat × Nat)) (v5 v3 : Value) (fe fc : Nat → Int32), d + i = a 0 → zMi o rm P.1 → (∀ q, ¬ (q = x + 3 ∨ q = x + 4 ∨ (x + 10 ≤ q ∧ q < x + 15) ∨ (x + 16 ≤ q ∧ q < x + 27) ∨ q = x + 43) → h1 q = h q) → zpM G h1 (x + 19) o rm P.1 → zCd G h1 9 (x + 43) (x + 3) (x + 4) [v5] P.2.1 → zEok P.2.1 → P.2.1.2.1 + P.2.1.2.2.2.2 ≤ 66 * i → zTel G h1 (x + 10) (x + 11) (x + 14) Rn E ex es f1 → zCho G h1 (x + 11) (x + 12) (x + 13) L → Rn ≤ rn + i → h1 (x + 16) = some (zO 6 [.ref (x + 17), .ref (x + 18), .int (nI i), v3, .int (nI P.2.2.1), .int (nI P.2.2.2.1)]) → h1 (x + 17) = some (zI G 301 fe) → h1 (x + 18) = some (zI G 301 fc) → (∀ j, j < i → fe j = nI (P.2.2.2.2.1 j) ∧ fc j = zfi (P.2.2.2.2.2 j) ∧ ∀ k, P.2.2.2.2.2 j = some k → k ≤ 4) → (∀ h' R, zPk o rm tx d i P R → zCS G h' n x b t (rn + 302) o rm (zPka a R) tx (zpe R.2.1).1 rx (va_up M 0 R.1) (zPkz z R) R.2.2.2.2.1 R.2.2.2.2.2 → zfrm x b h h' → K (some (.int (nI (((zpe R.2.1).2.1 + 7) / 8)))) h' n) → zZ (zXm G rX10_pack mX10_pack [.ref x] h n K) 16 [(0, .ref x), (1, .int (nI i))] [] h1 n 0 0 := by
    intro d
    induction d with
    | zero =>
      intro i P h1 Rn E ex es f1 L v5 v3 fe fc hd hMi hE hM hCd hok hcap hT hL hRn p1 p2 p3 p5 hK
      have hi : i = a 0 := by omega
      have hlm4 : P.1.2.2.1 ≤ 4 := Nat.le_trans hMi.2.2.2.1 b1
      refine z_iload_n dX10_pack_16 rfl ?_
      refine z_aload_n dX10_pack_17 rfl ?_
      refine z_getfield dX10_pack_18 fX10_14_10 rfl (by first | exact (hE _ (by omega)).trans c0 | exact (hE2 _ (by omega)).trans c0 | exact ((hE3 _ (by omega)).trans (hE2 _ (by omega))).trans c0 | exact k0 | exact zget_eq) rfl ?_
      refine zcall1 (zck_V (na := 0) (ci := 5) (R' := rX4_many) (M' := mX4_many) (fun _ _ _ _ => tvX4_many) (by decide) kX4_many lX10_107 (by decide +kernel) rfl) dX10_pack_21 (Nat.le_of_ble_eq_true rfl) (Nat.le_of_ble_eq_true rfl) (Nat.le_of_ble_eq_true rfl) ?_
      refine ⟨_, _, _, rfl, ((pT.cg (hE _ (by omega)) (hE _ (by omega))).1), ?_⟩
      refine z_icmp_ge (t := 72) dX10_pack_24 (by decide) (fun q24 => ?_) (fun q24 => ?_)
      · refine z_aload_n dX10_pack_72 rfl ?_
        refine z_sipush (w := 256) dX10_pack_73 (by decide) ?_
        refine zcall2 (zck_V (na := 1) (ci := 10) (R' := rX10_write) (M' := mX10_write) (fun _ _ _ _ => tvX10_write) (by decide) kX10_write lX10_150 (by decide +kernel) rfl) dX10_pack_76 (Nat.le_of_ble_eq_true rfl) (Nat.le_of_ble_eq_true rfl) (Nat.le_of_ble_eq_true rfl) ?_
        refine ⟨_, 256, o, rm, Rn, i, E, ex, es, f1, L, P.1, P.2.1, v5, v3, _, fe, fc, P.2.2.1, _, _, _, _, _, _, _, _, _, _, _, _, _, _, _, _, rfl, (hE _ (by omega)).trans c0, hCd, hT, hL, hM, hMi, b1, hok, (by omega), (by omega), (by omega), p1, p2, p3, (by omega), fun h2 y t1 t2 t3 t4 t5 t6 t7 t8 => ?_⟩
        have hw := zTl_w hMi.1 hMi.2.1 (N := P.1.2.2.1 + 1) (fun k hk => (hMi.2.2.2.2.2.2.1 k (by omega)).1) _ _ _ _ _ y (Nat.le_refl _) rfl hok t1
        have hsg := zTl_sg (fun _ _ _ _ h => h.1.1) hMi.1 (N := P.1.2.2.1 + 1) (fun k hk => (hMi.2.2.2.2.2.2.1 k (by omega)).1) _ _ _ _ _ y (Nat.le_refl _) t1
        have hE2 : ∀ q, ¬ (q = x + 3 ∨ q = x + 4 ∨ (x + 10 ≤ q ∧ q < x + 15) ∨ (x + 16 ≤ q ∧ q < x + 27) ∨ q = x + 43) → h2 q = h q := fun q hq => (t8 q (by omega)).trans (hE q hq)
        have hrow : ∀ j, j < i + 1 → upd fe i (nI y.2.2.1) j = nI (va_up P.2.2.2.2.1 i y.2.2.1 j) ∧ upd fc i (zfi y.2.2.2.2.2) j = zfi (va_up P.2.2.2.2.2 i y.2.2.2.2.2 j) ∧ ∀ k, va_up P.2.2.2.2.2 i y.2.2.2.2.2 j = some k → k ≤ 4 := fun j hj => by
          by_cases e9 : j = i
          · rw [e9, zu_eq, zu_eq, va_up_self, va_up_self]
            exact ⟨rfl, rfl, fun k hk => by have := (hsg.2.2 k hk).1; omega⟩
          · rw [zu_ne e9, zu_ne e9, va_up_ne _ _ e9, va_up_ne _ _ e9]; exact p5 j (by omega)
        refine z_aload_n dX10_pack_79 rfl ?_
        refine z_getfield dX10_pack_80 fX10_94_10 rfl (by first | exact (hE _ (by omega)).trans c0 | exact (hE2 _ (by omega)).trans c0 | exact ((hE3 _ (by omega)).trans (hE2 _ (by omega))).trans c0 | exact k0 | exact zget_eq) rfl ?_
        refine zcall1 (zck_U (na := 0) (ci := 9) (C := RX9) (owner := "PpmTrees$Coder") (x := ⟨"PpmTrees$Writer", "finish", "()V"⟩) (R' := rX1_finish_9) (M' := mX1_finish) (fun _ _ _ _ => tvX1_finish_9) (by decide) kX1_finish lUX10_163_9 (Or.inl dUX10_163) (by decide +kernel) rfl) dX10_pack_83 (Nat.le_of_ble_eq_true rfl) (Nat.le_of_ble_eq_true rfl) (Nat.le_of_ble_eq_true rfl) ?_
        refine ⟨_, _, _, _, _, rfl, t2, (by have := hw.1.1; have := hw.1.2.1; omega), (by have := hw.2; omega), fun h3 y1 y2 => ?_⟩
        have hE3 : ∀ q, ¬ (q = x + 43 ∨ q = x + 3 ∨ q = x + 4) → h3 q = h2 q := fun q hq => y2 q (by omega) (by omega) (by omega)
        have y1' : zCd G h3 9 (x + 43) (x + 3) (x + 4) [.int (nI 256)] (zpe y.1) := y1
        obtain ⟨z1, z2, z3⟩ := y1'
        clear y1
        refine z_aload_n dX10_pack_86 rfl ?_
        refine z_getfield dX10_pack_87 fX10_51_10 rfl (by first | exact (hE _ (by omega)).trans c0 | exact (hE2 _ (by omega)).trans c0 | exact ((hE3 _ (by omega)).trans (hE2 _ (by omega))).trans c0 | exact k0 | exact zget_eq) rfl ?_
        refine z_aload_n dX10_pack_90 rfl ?_
        refine z_getfield dX10_pack_91 fX10_94_10 rfl (by first | exact (hE _ (by omega)).trans c0 | exact (hE2 _ (by omega)).trans c0 | exact ((hE3 _ (by omega)).trans (hE2 _ (by omega))).trans c0 | exact k0 | exact zget_eq) rfl ?_
        refine zcall1 (zck_U (na := 0) (ci := 9) (C := RX9) (owner := "PpmTrees$Coder") (x := ⟨"PpmTrees$Writer", "bits", "()I"⟩) (R' := rX1_bits_9) (M' := mX1_bits) (fun _ _ _ _ => tvX1_bits_9) (by decide) kX1_bits lUX10_166_9 (Or.inl dUX10_166) (by decide +kernel) rfl) dX10_pack_94 (Nat.le_of_ble_eq_true rfl) (Nat.le_of_ble_eq_true rfl) (Nat.le_of_ble_eq_true rfl) ?_
        refine ⟨_, _, _, rfl, z1, rfl, ?_⟩
        refine zcall2 (zck_V (na := 1) (ci := 6) (R' := rX5_noteBits) (M' := mX5_noteBits) (fun _ _ _ _ => tvX5_noteBits) (by decide) kX5_noteBits lX10_169 (by decide +kernel) rfl) dX10_pack_97 (Nat.le_of_ble_eq_true rfl) (Nat.le_of_ble_eq_true rfl) (Nat.le_of_ble_eq_true rfl) ?_
        refine ⟨_, _, _, _, _, _, _, _, rfl, (hE3 _ (by omega)).trans t5, fun h4 y3 y4 => ?_⟩
        have hE4 : ∀ q, ¬ q = x + 16 → h4 q = h3 q := fun q hq => y4 q hq
        have k0 : h4 x = some (zO 10 (zobj x o rm (a 3) z rO tO rM tM tr)) := by rw [hE4 _ (by omega), hE3 _ (by omega), hE2 _ (by omega)]; exact c0
        refine z_aload_n dX10_pack_100 rfl ?_
        refine z_dup dX10_pack_101 rfl ?_
        refine z_getfield dX10_pack_102 fX10_172_10 rfl (by first | exact (hE _ (by omega)).trans c0 | exact (hE2 _ (by omega)).trans c0 | exact ((hE3 _ (by omega)).trans (hE2 _ (by omega))).trans c0 | exact k0 | exact zget_eq) rfl ?_
        refine z_aload_n dX10_pack_105 rfl ?_
        refine z_getfield dX10_pack_106 fX10_51_10 rfl (by first | exact (hE _ (by omega)).trans c0 | exact (hE2 _ (by omega)).trans c0 | exact ((hE3 _ (by omega)).trans (hE2 _ (by omega))).trans c0 | exact k0 | exact zget_eq) rfl ?_
        refine zcall1 (zck_V (na := 0) (ci := 6) (R' := rX5_restarts) (M' := mX5_restarts) (fun _ _ _ _ => tvX5_restarts) (by decide) kX5_restarts lX10_175 (by decide +kernel) rfl) dX10_pack_109 (Nat.le_of_ble_eq_true rfl) (Nat.le_of_ble_eq_true rfl) (Nat.le_of_ble_eq_true rfl) ?_
        refine ⟨_, _, _, rfl, y3, rfl, ?_⟩
        refine z_iadd dX10_pack_112 ?_
        refine z_putfield dX10_pack_113 fX10_172_10 rfl (fun q => absurd q (by decide)) (by first | exact (hE _ (by omega)).trans c0 | exact (hE2 _ (by omega)).trans c0 | exact ((hE3 _ (by omega)).trans (hE2 _ (by omega))).trans c0 | exact k0 | exact zget_eq) (Nat.le_of_ble_eq_true rfl) (Or.inl ⟨rfl, _, rfl⟩) ?_
        refine z_aload_n dX10_pack_116 rfl ?_
        refine z_getfield dX10_pack_117 fX10_18_10 rfl (by first | exact (hE _ (by omega)).trans c0 | exact (hE2 _ (by omega)).trans c0 | exact ((hE3 _ (by omega)).trans (hE2 _ (by omega))).trans c0 | exact k0 | exact zget_eq) rfl ?_
        refine zcall1 (zck_V (na := 0) (ci := 5) (R' := rX4_many) (M' := mX4_many) (fun _ _ _ _ => tvX4_many) (by decide) kX4_many lX10_107 (by decide +kernel) rfl) dX10_pack_120 (Nat.le_of_ble_eq_true rfl) (Nat.le_of_ble_eq_true rfl) (Nat.le_of_ble_eq_true rfl) ?_
        refine ⟨_, _, _, rfl, ((zup_ne (by omega)).trans ((hE4 _ (by omega)).trans z2)), ?_⟩
        refine z_ireturn dX10_pack_123 trivial (Nat.le_of_ble_eq_true rfl) (Nat.le_of_ble_eq_true rfl) ?_
        have hz : zPk o rm tx 0 i P (P.1, y.1, P.2.2.1 + y.2.2.2.1, P.2.2.2.1, va_up P.2.2.2.2.1 i y.2.2.1, va_up P.2.2.2.2.2 i y.2.2.2.2.2) := ⟨y, t1, rfl⟩
        refine hK _ (P.1, y.1, P.2.2.1 + y.2.2.2.1, P.2.2.2.1, va_up P.2.2.2.2.1 i y.2.2.1, va_up P.2.2.2.2.2 i y.2.2.2.2.2) hz ?_ (fun q g1 g2 => by rw [zup_ne (by omega), hE4 _ (by omega), hE3 _ (by omega)]; exact hE2 q (by omega))
        generalize hZ : zPkz z (P.1, y.1, P.2.2.1 + y.2.2.2.1, P.2.2.2.1, va_up P.2.2.2.2.1 i y.2.2.1, va_up P.2.2.2.2.2 i y.2.2.2.2.2) = Z
        have Z0 : Z 0 = z 0 + nI P.2.2.2.1 := by rw [← hZ, zPkz, va_up_ne _ _ (by decide), va_up_ne _ _ (by decide), va_up_ne _ _ (by decide), va_up_self]
        have Z1 : Z 1 = z 1 := by rw [← hZ, zPkz, va_up_ne _ _ (by decide), va_up_ne _ _ (by decide), va_up_ne _ _ (by decide), va_up_ne _ _ (by decide)]
        have Z2 : Z 2 = z 2 := by rw [← hZ, zPkz, va_up_ne _ _ (by decide), va_up_ne _ _ (by decide), va_up_ne _ _ (by decide), va_up_ne _ _ (by decide)]
        have Z3 : Z 3 = nI (zpe y.1).2.1 := by rw [← hZ, zPkz, va_up_ne _ _ (by decide), va_up_ne _ _ (by decide), va_up_self]
        have Z4 : Z 4 = nI (P.2.2.1 + y.2.2.2.1) := by rw [← hZ, zPkz, va_up_ne _ _ (by decide), va_up_self]
        have Z5 : Z 5 = nI P.2.2.2.1 := by rw [← hZ, zPkz, va_up_self]
        generalize hA : zPka a (P.1, y.1, P.2.2.1 + y.2.2.2.1, P.2.2.2.1, va_up P.2.2.2.2.1 i y.2.2.1, va_up P.2.2.2.2.2 i y.2.2.2.2.2) = A
        have A0 : A 0 = a 0 := by rw [← hA, zPka, va_up_ne _ _ (by decide), va_up_ne _ _ (by decide)]
        have A1 : A 1 = ((zpe y.1).2.1 + 7) / 8 := by rw [← hA, zPka, va_up_ne _ _ (by decide), va_up_self]
        have A2 : A 2 = a 2 := by rw [← hA, zPka, va_up_ne _ _ (by decide), va_up_ne _ _ (by decide)]
        have A3 : A 3 = a 3 := by rw [← hA, zPka, va_up_ne _ _ (by decide), va_up_ne _ _ (by decide)]
        have A4 : A 4 = i + 1 := by rw [← hA, zPka, va_up_self, hi]
        dsimp only
        generalize hH5 : va_up h4 x (some (Sum.inr (10, (zobj x o rm (a 3) z rO tO rM tM tr).set 9 (.int (z 0 + nI P.2.2.2.1))))) = H5
        have hob : H5 x = some (zO 10 (zobj x o rm (A 3) Z rO tO rM tM tr)) := by
          rw [← hH5, zget_eq, zobj, zobj, A3, Z0, Z1, Z2]
          rfl
        have hE5 : ∀ q, q ≠ x → ¬ (q = x + 3 ∨ q = x + 4 ∨ (x + 10 ≤ q ∧ q < x + 15) ∨ (x + 16 ≤ q ∧ q < x + 27) ∨ q = x + 43) → H5 q = h q := fun q hx hq => by
          rw [← hH5, zup_ne hx, hE4 _ (by omega), hE3 _ (by omega)]; exact hE2 q hq
        have hE6 : ∀ q, q ≠ x → q ≠ x + 16 → ¬ (q = x + 43 ∨ q = x + 3 ∨ q = x + 4) → H5 q = h2 q := fun q g1 g2 g3 => by
          rw [← hH5, zup_ne g1, hE4 _ g2, hE3 _ g3]
        have hE7 : ∀ q, q ≠ x → q ≠ x + 16 → H5 q = h3 q := fun q g1 g2 => by
          rw [← hH5, zup_ne g1, hE4 _ g2]
        have hE8 : H5 (x + 16) = h4 (x + 16) := by rw [← hH5, zup_ne (by omega)]
        obtain ⟨L2, t4⟩ := t4
        have pO' : zpO G H5 x (A 1) (zpe y.1).1 := by rw [A1]; exact ⟨(hE7 _ (by omega) (by omega)).trans z2, (hE7 _ (by omega) (by omega)).trans z3⟩
        have pP' : zpP G H5 x (A 4) Z (va_up P.2.2.2.2.1 i y.2.2.1) (va_up P.2.2.2.2.2 i y.2.2.2.2.2) := by
          rw [A4]
          exact ⟨_, _, _, _, _, hE8.trans y3, (hE6 _ (by omega) (by omega) (by omega)).trans t6, (hE6 _ (by omega) (by omega) (by omega)).trans t7, fun _ => ⟨Z3.symm, Z4.symm, Z5.symm⟩, hrow⟩
        have pA' : zpM G H5 (x + 19) o rm P.1 := zpM.cg hM (fun q g1 g2 => by rw [hE6 q (by omega) (by omega) (by omega), t8 q (by omega)])
        have pS' : zpS G H5 n x b t o rm (A 3) (va_up M 0 P.1) := by
          rw [A3]
          exact zpS.mM (pS.cg (hE5 _ (by omega) (by omega)) (fun q g1 => hE5 q (by omega) (by omega)) (Nat.le_refl _)) (fun i _ => va_up_ne _ _ (by omega))
        have pL' : zpL G H5 x (rn + 302) := ⟨Rn + 1, _, _, _, _, L2, t3.to (hE6 _ (by omega) (by omega) (by omega)) (hE6 _ (by omega) (by omega) (by omega)), t4.to (hE6 _ (by omega) (by omega) (by omega)) (hE6 _ (by omega) (by omega) (by omega)) (hE6 _ (by omega) (by omega) (by omega)), by omega⟩
        have pT' : zpR G H5 (x + 1) (A 0) tx := by rw [A0]; exact pT.cg (hE5 _ (by omega) (by omega)) (hE5 _ (by omega) (by omega))
        have pR' : zpR G H5 rO (A 2) rx := by rw [A2]; exact pR.cg (hE5 _ (by omega) (by omega)) (hE5 _ (by omega) (by omega))
        have pW' : zpW H5 x := ⟨_, _, _, _, _, (hE7 _ (by omega) (by omega)).trans z1⟩
        exact ⟨rO, tO, rM, tM, tr, kt, rt, Nt, hob, cO, cM, cb, cn, ck, pT', pO', pR', pU.cg (hE5 _ (by omega) (by omega)) (hE5 _ (by omega) (by omega)), pA', zpM.cg pB (fun q g1 g2 => hE5 q (by omega) (by omega)), zpM.cg pN (fun q g1 g2 => hE5 q (by omega) (by omega)), pS', pL', pE.cg (hE5 _ (by omega) (by omega)), pP', pW', pD.cg (fun q g1 g2 => hE5 q (by omega) (by omega))⟩
      · exact absurd (by rw [hi]; exact Int32.le_refl _) q24
    | succ d ih =>
      intro i P h1 Rn E ex es f1 L v5 v3 fe fc hd hMi hE hM hCd hok hcap hT hL hRn p1 p2 p3 p5 hK
      have hlm4 : P.1.2.2.1 ≤ 4 := Nat.le_trans hMi.2.2.2.1 b1
      have htxi := btx i (by omega)
      have pT1 := pT.cg (h' := h1) (hE _ (by omega)) (hE _ (by omega))
      refine z_iload_n dX10_pack_16 rfl ?_
      refine z_aload_n dX10_pack_17 rfl ?_
      refine z_getfield dX10_pack_18 fX10_14_10 rfl (by first | exact (hE _ (by omega)).trans c0 | exact (hE2 _ (by omega)).trans c0) rfl ?_
      refine zcall1 (zck_V (na := 0) (ci := 5) (R' := rX4_many) (M' := mX4_many) (fun _ _ _ _ => tvX4_many) (by decide) kX4_many lX10_107 (by decide +kernel) rfl) dX10_pack_21 (Nat.le_of_ble_eq_true rfl) (Nat.le_of_ble_eq_true rfl) (Nat.le_of_ble_eq_true rfl) ?_
      refine ⟨_, _, _, rfl, pT1.1, ?_⟩
      refine z_icmp_ge (t := 72) dX10_pack_24 (by decide) (fun q24 => ?_) (fun q24 => ?_)
      · exact absurd ((nI_leI (by omega) (by omega)).mp q24) (by omega)
      · refine z_aload_n dX10_pack_27 rfl ?_
        refine z_getfield dX10_pack_28 fX10_14_10 rfl (by first | exact (hE _ (by omega)).trans c0 | exact (hE2 _ (by omega)).trans c0) rfl ?_
        refine z_iload_n dX10_pack_31 rfl ?_
        refine zcall2 (zck_V (na := 1) (ci := 5) (R' := rX4_byteAt) (M' := mX4_byteAt) (fun _ _ _ _ => tvX4_byteAt) (by decide) kX4_byteAt lX10_132 (by decide +kernel) rfl) dX10_pack_32 (Nat.le_of_ble_eq_true rfl) (Nat.le_of_ble_eq_true rfl) (Nat.le_of_ble_eq_true rfl) ?_
        obtain ⟨f9, rf1, rf2⟩ := pT1.2
        refine ⟨_, _, _, _, f9, _, rfl, pT1.1, rf1, (by decide), ?_⟩
        rw [zat_in (show i < 300 by omega) (by decide), rf2 i (by omega)]
        refine z_istore_n dX10_pack_35 (Nat.le_of_ble_eq_true rfl) ?_
        refine z_aload_n dX10_pack_36 rfl ?_
        refine z_iload_n dX10_pack_37 rfl ?_
        refine zcall2 (zck_V (na := 1) (ci := 10) (R' := rX10_write) (M' := mX10_write) (fun _ _ _ _ => tvX10_write) (by decide) kX10_write lX10_150 (by decide +kernel) rfl) dX10_pack_38 (Nat.le_of_ble_eq_true rfl) (Nat.le_of_ble_eq_true rfl) (Nat.le_of_ble_eq_true rfl) ?_
        refine ⟨_, (tx i), o, rm, Rn, i, E, ex, es, f1, L, P.1, P.2.1, v5, v3, _, fe, fc, P.2.2.1, _, _, _, _, _, _, _, _, _, _, _, _, _, _, _, _, rfl, (hE _ (by omega)).trans c0, hCd, hT, hL, hM, hMi, b1, hok, (by omega), (by omega), (by omega), p1, p2, p3, (by omega), fun h2 y t1 t2 t3 t4 t5 t6 t7 t8 => ?_⟩
        have hw := zTl_w hMi.1 hMi.2.1 (N := P.1.2.2.1 + 1) (fun k hk => (hMi.2.2.2.2.2.2.1 k (by omega)).1) _ _ _ _ _ y (Nat.le_refl _) rfl hok t1
        have hsg := zTl_sg (fun _ _ _ _ h => h.1.1) hMi.1 (N := P.1.2.2.1 + 1) (fun k hk => (hMi.2.2.2.2.2.2.1 k (by omega)).1) _ _ _ _ _ y (Nat.le_refl _) t1
        have hE2 : ∀ q, ¬ (q = x + 3 ∨ q = x + 4 ∨ (x + 10 ≤ q ∧ q < x + 15) ∨ (x + 16 ≤ q ∧ q < x + 27) ∨ q = x + 43) → h2 q = h q := fun q hq => (t8 q (by omega)).trans (hE q hq)
        have hrow : ∀ j, j < i + 1 → upd fe i (nI y.2.2.1) j = nI (va_up P.2.2.2.2.1 i y.2.2.1 j) ∧ upd fc i (zfi y.2.2.2.2.2) j = zfi (va_up P.2.2.2.2.2 i y.2.2.2.2.2 j) ∧ ∀ k, va_up P.2.2.2.2.2 i y.2.2.2.2.2 j = some k → k ≤ 4 := fun j hj => by
          by_cases e9 : j = i
          · rw [e9, zu_eq, zu_eq, va_up_self, va_up_self]
            exact ⟨rfl, rfl, fun k hk => by have := (hsg.2.2 k hk).1; omega⟩
          · rw [zu_ne e9, zu_ne e9, va_up_ne _ _ e9, va_up_ne _ _ e9]; exact p5 j (by omega)
        refine z_aload_n dX10_pack_41 rfl ?_
        refine z_getfield dX10_pack_42 fX10_79_10 rfl (by first | exact (hE _ (by omega)).trans c0 | exact (hE2 _ (by omega)).trans c0) rfl ?_
        refine z_iload_n dX10_pack_45 rfl ?_
        refine z_aload_n dX10_pack_46 rfl ?_
        refine z_getfield dX10_pack_47 fX10_37_10 rfl (by first | exact (hE _ (by omega)).trans c0 | exact (hE2 _ (by omega)).trans c0) rfl ?_
        refine zcall1 (zck_V (na := 0) (ci := 8) (R' := rX8_lowestToLearn) (M' := mX8_lowestToLearn) (fun _ _ _ _ => tvX8_lowestToLearn) (by decide) kX8_lowestToLearn lX10_153 (by decide +kernel) rfl) dX10_pack_50 (Nat.le_of_ble_eq_true rfl) (Nat.le_of_ble_eq_true rfl) (Nat.le_of_ble_eq_true rfl) ?_
        refine ⟨_, _, _, _, _, _, _, rfl, t3.1, ?_⟩
        rw [zfi_lo (fun k hk => by have := (hsg.2.2 k hk).1; omega)]
        refine zcall3 (zck_V (na := 2) (ci := 4) (R' := rX3_learn) (M' := mX3_learn) (fun _ _ _ _ => tvX3_learn) (by decide) kX3_learn lX10_156 (by decide +kernel) rfl) dX10_pack_53 (Nat.le_of_ble_eq_true rfl) (Nat.le_of_ble_eq_true rfl) (Nat.le_of_ble_eq_true rfl) ?_
        have hwx := zTl_wx _ _ _ _ _ y t1
        obtain ⟨f1', f2'⟩ := zfound hMi (y := y) (b := tx i) (fun k hk => ⟨(hsg.2.2 k hk).1, by rw [← hwx k hk]; exact (hsg.2.2 k hk).2.2⟩)
        have hM2 : zpM G h2 (x + 19) o rm P.1 := zpM.cg hM (fun q g1 g2 => t8 q (by omega))
        refine ⟨zmk (x + 19), o, rm, _, _, _, _, _, tx i, zlo y.2.2.2.2.2, rfl, hM2, hMi.2.1, htxi, hMi.2.2.2.2.2.1, f1', (fun k hk => (hMi.2.2.2.2.2.2.1 k hk).1), f2', fun h3 T' ch' r1 r2 r3 r4 r5 => ?_, fun h3 d9 T1 ch1 r1 r2 r3 r4 r5 => ?_⟩
        · have hE3 : ∀ q, ¬ (x + 19 ≤ q ∧ q < x + 27) → h3 q = h2 q := fun q hq => r5 q (fun w => hq (zmk_aw.mp w))
          obtain ⟨L2, t4⟩ := t4
          have hLn := zLn.no hMi b3 b1 htxi f1' f2' r1 r2 r3 r4.nums.1 r4.nums.2.2.2.2.1
          refine z_if_eq (t := 66) dX10_pack_56 (by decide) (fun q56 => ?_) (fun q56 => ?_)
          · refine z_iinc dX10_pack_66 rfl (Nat.le_of_ble_eq_true rfl) ?_
            refine z_goto (t := 16) dX10_pack_69 (by decide) ?_
            rw [show nI i + Int32.ofInt 1 = nI (i + 1) from nI_1 i]
            refine zZ.keep [0, 1] ?_
            refine ih (i + 1) (zMn o (tx i) P.1 T' ch', y.1, P.2.2.1 + y.2.2.2.1, P.2.2.2.1 + false.toNat, va_up P.2.2.2.2.1 i y.2.2.1, va_up P.2.2.2.2.2 i y.2.2.2.2.2) h3 (Rn + 1) _ _ _ _ L2 _ v3 _ _ (by omega) hLn.1 (fun q hq => ?_) r4 ⟨(hE3 _ (by omega)).trans t2.1, (hE3 _ (by omega)).trans t2.2.1, (hE3 _ (by omega)).trans t2.2.2⟩ hw.1 (by have := hw.2; dsimp only; omega) (t3.to (hE3 _ (by omega)) (hE3 _ (by omega))) (t4.to (hE3 _ (by omega)) (hE3 _ (by omega)) (hE3 _ (by omega))) (by omega) ((hE3 _ (by omega)).trans t5) ((hE3 _ (by omega)).trans t6) ((hE3 _ (by omega)).trans t7) hrow (fun h' R hz => hK h' R ⟨y, false, _, t1, hLn, hz⟩)
            rw [hE3 q (by omega)]; exact hE2 q hq
          · exact absurd rfl q56
        · have hE3 : ∀ q, ¬ (x + 19 ≤ q ∧ q < x + 27) → h3 q = h2 q := fun q hq => r5 q (fun w => hq (zmk_aw.mp w))
          obtain ⟨L2, t4⟩ := t4
          have hLn := zLn.yes (o := o) b2 r1 r2 r3
          refine z_if_eq (t := 66) dX10_pack_56 (by decide) (fun q56 => ?_) (fun q56 => ?_)
          · exact absurd q56 (by decide)
          · refine z_aload_n dX10_pack_59 rfl ?_
            refine z_getfield dX10_pack_60 fX10_51_10 rfl ((hE3 _ (by omega)).trans ((hE2 _ (by omega)).trans c0)) rfl ?_
            refine zcall1 (zck_V (na := 0) (ci := 6) (R' := rX5_noteRestart) (M' := mX5_noteRestart) (fun _ _ _ _ => tvX5_noteRestart) (by decide) kX5_noteRestart lX10_160 (by decide +kernel) rfl) dX10_pack_63 (Nat.le_of_ble_eq_true rfl) (Nat.le_of_ble_eq_true rfl) (Nat.le_of_ble_eq_true rfl) ?_
            refine ⟨_, _, _, _, _, _, _, rfl, (hE3 _ (by omega)).trans t5, fun h4 y3 y4 => ?_⟩
            rw [nI_1] at y3
            have hE4 : ∀ q, ¬ ((x + 19 ≤ q ∧ q < x + 27) ∨ q = x + 16) → h4 q = h2 q := fun q hq => (y4 q (by omega)).trans (hE3 q (by omega))
            refine z_iinc dX10_pack_66 rfl (Nat.le_of_ble_eq_true rfl) ?_
            refine z_goto (t := 16) dX10_pack_69 (by decide) ?_
            rw [show nI i + Int32.ofInt 1 = nI (i + 1) from nI_1 i]
            refine zZ.keep [0, 1] ?_
            refine ih (i + 1) (zM0, y.1, P.2.2.1 + y.2.2.2.1, P.2.2.2.1 + true.toNat, va_up P.2.2.2.2.1 i y.2.2.1, va_up P.2.2.2.2.2 i y.2.2.2.2.2) h4 (Rn + 1) _ _ _ _ L2 _ v3 _ _ (by omega) hLn.1 (fun q hq => ?_) (zpM.cg (r4 _ _ _ _) (fun q g1 g2 => y4 q (by omega))) ⟨(hE4 _ (by omega)).trans t2.1, (hE4 _ (by omega)).trans t2.2.1, (hE4 _ (by omega)).trans t2.2.2⟩ hw.1 (by have := hw.2; dsimp only; omega) (t3.to (hE4 _ (by omega)) (hE4 _ (by omega))) (t4.to (hE4 _ (by omega)) (hE4 _ (by omega)) (hE4 _ (by omega))) (by omega) y3 ((hE4 _ (by omega)).trans t6) ((hE4 _ (by omega)).trans t7) hrow (fun h' R hz => hK h' R ⟨y, true, _, t1, hLn, hz⟩)
            rw [hE4 q (by omega)]; exact hE2 q hq
  refine z_aload_n dX10_pack_0 rfl ?_
  refine z_getfield dX10_pack_1 fX10_51_10 rfl (by first | exact c0 | exact (hE1 _ (by omega)).trans c0) rfl ?_
  refine zcall1 (zck_V (na := 0) (ci := 6) (R' := rX5_begin) (M' := mX5_begin) (fun _ _ _ _ => tvX5_begin) (by decide) kX5_begin lX10_146 (by decide +kernel) rfl) dX10_pack_4 (Nat.le_of_ble_eq_true rfl) (Nat.le_of_ble_eq_true rfl) (Nat.le_of_ble_eq_true rfl) ?_
  refine ⟨_, _, _, _, _, _, _, rfl, q1, fun h1 g1 g2 => ?_⟩
  have hE1 : ∀ q, ¬ q = x + 16 → h1 q = h q := fun q hq => g2 q hq
  refine z_aload_n dX10_pack_7 rfl ?_
  refine z_getfield dX10_pack_8 fX10_94_10 rfl (by first | exact c0 | exact (hE1 _ (by omega)).trans c0) rfl ?_
  refine zcall1 (zck_U (na := 0) (ci := 9) (C := RX9) (owner := "PpmTrees$Coder") (x := ⟨"PpmTrees$Writer", "begin", "()V"⟩) (R' := rX1_begin_9) (M' := mX1_begin) (fun _ _ _ _ => tvX1_begin_9) (by decide) kX1_begin lUX10_149_9 (Or.inl dUX10_149) (by decide +kernel) rfl) dX10_pack_11 (Nat.le_of_ble_eq_true rfl) (Nat.le_of_ble_eq_true rfl) (Nat.le_of_ble_eq_true rfl) ?_
  refine ⟨_, _, _, _, _, _, _, _, [u5], gg, rfl, (hE1 _ (by omega)).trans pW1, (hE1 _ (by omega)).trans pO.1, (hE1 _ (by omega)).trans pO.2, fun h2 g3 g4 => ?_⟩
  have hE2 : ∀ q, ¬ (q = x + 43 ∨ q = x + 3 ∨ q = x + 4) → h2 q = h1 q := fun q hq => g4 q (by omega) (by omega) (by omega)
  refine z_iconst (w := 0) dX10_pack_14 (by decide) ?_
  refine z_istore_n dX10_pack_15 (Nat.le_of_ble_eq_true rfl) ?_
  refine loop (a 0) 0 (M 0, (gg, 0, 0, 65535, 0), 0, 0, XX, F) h2 R0 E0 ex0 ee0 f0 L0 u5 (.int 0) fe0 fc0 rfl (bM 0 (zSlot.e (by decide))) (fun q hq => (hE2 q (by omega)).trans (hE1 q (by omega))) (zpM.cg pA (fun q z1 z2 => (hE2 q (by omega)).trans (hE1 q (by omega)))) g3 (zEok0 gg) (Nat.le_refl _) (l1.to ((hE2 _ (by omega)).trans (hE1 _ (by omega))) ((hE2 _ (by omega)).trans (hE1 _ (by omega)))) (l2.to ((hE2 _ (by omega)).trans (hE1 _ (by omega))) ((hE2 _ (by omega)).trans (hE1 _ (by omega))) ((hE2 _ (by omega)).trans (hE1 _ (by omega)))) l3 ((hE2 _ (by omega)).trans g1) ((hE2 _ (by omega)).trans ((hE1 _ (by omega)).trans q2)) ((hE2 _ (by omega)).trans ((hE1 _ (by omega)).trans q3)) (fun j hj => absurd hj (Nat.not_lt_zero _)) hK

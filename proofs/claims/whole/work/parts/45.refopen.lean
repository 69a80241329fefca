/-! the reference: open -/
theorem zRd_pk {o rm kk : Nat} {g : Nat → Int32} : ∀ (d : Nat) (P R : zRr), zMi o rm P.1 → P.2.2.1 ≤ 300 → zRd o rm g kk d P 0 R → zMi o rm R.1 ∧ P.2.2.1 ≤ R.2.2.1 ∧ R.2.2.1 ≤ 300 ∧ (∀ i, i < P.2.2.1 → R.2.2.2.1 i = P.2.2.2.1 i) ∧ (∀ i, P.2.2.1 ≤ i → i < R.2.2.1 → R.2.2.2.1 i < 256) ∧ ∀ es rs X F, ∃ es' rs' X' F', zPk o rm R.2.2.2.1 (R.2.2.1 - P.2.2.1) P.2.2.1 (P.1, P.2.1.1, es, rs, X, F) (R.1, R.2.1.1, es', rs', X', F')
  | 0, P, R, hM, h3, h => h.elim
  | d + 1, P, R, hM, h3, h => by
    rcases h with ⟨_, h⟩ | ⟨hb, y, ht, h⟩
    · exact absurd h (by decide)
    · have hrw := zTl_rw hM.1 hM.2.1 (N := P.1.2.2.1 + 1) (fun k hk => (hM.2.2.2.2.2.2.1 k (by omega)).1) _ _ _ _ _ y (Nat.le_refl _) ht
      rcases h with ⟨e, _, rfl⟩ | ⟨_, _, h⟩ | ⟨e, h4, r, M', hL, h⟩
      · refine ⟨hM, Nat.le_refl _, h3, fun i hi => rfl, fun i h1 h2 => absurd h2 (Nat.not_lt.mpr h1), fun es rs X F => ⟨es + y.2.2.2.1, rs, va_up X P.2.2.1 y.2.2.1, va_up F P.2.2.1 y.2.2.2.2.2, ?_⟩⟩
        show zPk o rm P.2.2.2.1 (P.2.2.1 - P.2.2.1) P.2.2.1 _ _
        rw [Nat.sub_self]
        rw [e] at hrw
        exact ⟨(y.1.1, y.2), hrw.1, rfl⟩
      · exact absurd h (by decide)
      · have h4' : P.2.2.1 + 1 ≤ 300 := h4
        obtain ⟨i1, i2, i3, i4, i5, i6⟩ := zRd_pk d _ R hL.1 h4' h
        dsimp only at i2 i4 i5 i6
        have hs : R.2.2.2.1 P.2.2.1 = y.2.2.2.2.1 := by rw [i4 _ (Nat.lt_succ_self _), va_up_self]
        refine ⟨i1, by omega, i3, fun i hi => by rw [i4 i (by omega), va_up_ne _ _ (by omega)], fun i h1 h2 => ?_, fun es rs X F => ?_⟩
        · by_cases q : i = P.2.2.1
          · rw [q, hs]; have := hrw.2.2; omega
          · exact i5 i (by omega) h2
        · obtain ⟨a1, b1, c1, d1, hp⟩ := i6 (es + y.2.2.2.1) (rs + r.toNat) (va_up X P.2.2.1 y.2.2.1) (va_up F P.2.2.1 y.2.2.2.2.2)
          refine ⟨a1, b1, c1, d1, ?_⟩
          rw [show R.2.2.1 - P.2.2.1 = (R.2.2.1 - (P.2.2.1 + 1)) + 1 by omega]
          exact ⟨(y.1.1, y.2), r, M', by rw [hs]; exact hrw.1, by rw [hs]; exact hL, hp⟩
theorem zsubI {a b : Nat} (ha : a < 1073741824) (hb : b < 1073741824) : (nI a - nI b).toInt = (a : Int) - (b : Int) := by
  rw [Int32.toInt_sub, nI_toInt (by omega), nI_toInt (by omega)]
  exact Int.bmod_eq_of_le (by omega) (by omega)
theorem zsuble {a b c : Nat} (ha : a < 1073741824) (hb : b < 1073741824) (hc : c < 1073741824) : nI a - nI b ≤ nI c ↔ a ≤ b + c := by
  rw [Int32.le_iff_toInt_le, zsubI ha hb, nI_toInt (by omega)]
  omega
def zOpn (o rm : Nat) (a : Nat → Nat) (gg : Nat → Int32) (rx : Nat → Nat) (M : Nat → zMs) (z : Nat → Int32) (a1 rx1 : Nat → Nat) (M1 : Nat → zMs) (z1 : Nat → Int32) (r : Int32) : Prop := ∃ (d f : Nat) (R : zRr) (b0 : Nat → Nat) (f0 : Nat → Int32), zRd o rm gg (a 1) d (M 1, ((f0, 0, 0, 65535, 0), znum0 (zbn gg (a 1)) 16, 16), 0, b0, 0) f R ∧ ((f = 1 ∧ r = -11 ∧ a1 = a ∧ rx1 = rx ∧ M1 = M ∧ z1 = va_up z 2 (-3)) ∨ (f = 2 ∧ r = -12 ∧ a1 = a ∧ rx1 = rx ∧ M1 = M ∧ z1 = va_up z 2 (-3)) ∨ (f = 0 ∧ ∃ i, i ≤ ((zpe R.2.1.1).2.1 + 7) / 8 ∧ i ≤ a 1 ∧ (∀ j, j < i → (zpe R.2.1.1).1 j = gg j) ∧ (i < ((zpe R.2.1.1).2.1 + 7) / 8 → i < a 1 → (zpe R.2.1.1).1 i ≠ gg i) ∧ ((¬ (i = ((zpe R.2.1.1).2.1 + 7) / 8 ∧ i = a 1) ∧ r = -13 ∧ a1 = a ∧ rx1 = rx ∧ M1 = M ∧ z1 = va_up z 2 (nI i)) ∨ ((i = ((zpe R.2.1.1).2.1 + 7) / 8 ∧ i = a 1) ∧ r = nI R.2.2.1 ∧ a1 = va_up a 2 R.2.2.1 ∧ rx1 = R.2.2.2.1 ∧ M1 = va_up M 1 R.1 ∧ z1 = va_up (va_up z 1 (z 1 + nI R.2.2.2.2)) 2 (-3)))))
theorem zRS.mv42 {v v' : Nat → Int32} {g g' : Nat → Nat → Int32} {o rm : Nat} {a tx : Nat → Nat} {gg : Nat → Int32} {rx : Nat → Nat} {M : Nat → zMs} {z : Nat → Int32} {XX : Nat → Nat} {F : Nat → Option Nat} {x : Int32} (H : zRS v g o rm a tx gg rx M z XX F) (hv : zfv (42 :: zVs) v v') (h42 : v' 42 = x) (hg : zfos 2 g g') : zRS v' g' o rm a tx gg rx M (va_up z 2 x) XX F := by
  obtain ⟨e1, e2, e3, e5, e7, e16, e37, e35, e42, r1, r2, r3, c0, c1, r16, r17, hsl⟩ := H
  have w : ∀ j, j ∈ [1, 2, 3, 10, 16, 17, 18] → ∀ i, g' j i = g j i := fun j hj i => congrFun (hg.1 j hj) i
  refine ⟨(hv 1 (by decide)).trans e1, (hv 2 (by decide)).trans e2, (hv 3 (by decide)).trans e3, (hv 5 (by decide)).trans e5, (hv 7 (by decide)).trans e7, (hv 16 (by decide)).trans e16, (hv 37 (by decide)).trans e37, (hv 35 (by decide)).trans e35, h42, fun i hi => (w 1 (by decide) i).trans (r1 i hi), fun i hi => (w 2 (by decide) i).trans (r2 i hi), fun i hi => (w 3 (by decide) i).trans (r3 i hi), (w 10 (by decide) 0).trans c0, (w 10 (by decide) 1).trans c1, fun h i hi => ?_, fun i hi => ⟨(w 17 (by decide) i).trans (r17 i hi).1, (w 18 (by decide) i).trans (r17 i hi).2⟩, fun s hs => hg.2 s _ _ _ ?_ (hsl s hs)⟩
  · rw [w 16 (by decide) i, va_up_ne _ _ (by omega)]; exact r16 h i hi
  · rcases hs with h | h | h <;> omega
abbrev rX11_open : Room := ⟨5, 0, 0, 240⟩
def SX11_open (G : zC) : zS := fun as h n K => ∃ (h0 : zH) (m : Nat) (v : Nat → Int32) (g : Nat → Nat → Int32) (o rm : Nat) (a tx : Nat → Nat) (gg : Nat → Int32) (rx : Nat → Nat) (M : Nat → zMs) (z : Nat → Int32) (XX : Nat → Nat) (F : Nat → Option Nat) (a1 rx1 : Nat → Nat) (M1 : Nat → zMs) (z1 : Nat → Int32) (r : Int32), as = [.ref m] ∧ h = zRh G h0 m v g ∧ zOkS o rm a tx M ∧ zRS v g o rm a tx gg rx M z XX F ∧ zOpn o rm a gg rx M z a1 rx1 M1 z1 r ∧ ∀ v' g', zRS v' g' o rm a1 tx gg rx1 M1 z1 XX F → K (some (.int r)) (zRh G h0 m v' g') n
set_option maxRecDepth 100000 in
theorem tvX11_open {G : zC} {as : List Value} {h : zH} {n : Nat} {K : zP} (hs : SX11_open G as h n K) : (∃ b fs r, as = .ref b :: r ∧ h b = some (.inr (11, fs))) ∧ zCt G rX11_open mX11_open as h n K := by
  obtain ⟨h0, m, v, g, o, rm, a, tx, gg, rx, M, z, XX, F, a1, rx1, M1, z1, r, rfl, rfl, hB, hS, hK⟩ := hs
  refine ⟨⟨_, _, _, rfl, zRh_o⟩, zCt.of (by decide) (Nat.le_of_ble_eq_true rfl) ?_⟩
  have hQ : zRS (upd v 0 0) g o rm a tx gg rx M z XX F := hS.thr 0
  have hQ0 := hQ
  obtain ⟨b1, b2, b3, b4, b5, b6, b7, b8, btx, bM⟩ := hB
  obtain ⟨e1, e2, e3, e5, e7, e16, e37, e35, e42, r1, r2, r3, c0, c1, r16, r17, hsl⟩ := hQ
  obtain ⟨hO, hK⟩ := hK
  obtain ⟨d0, f, R, b0, f0, hRd, hO⟩ := hO
  have hMi1 := bM 1 (zSlot.e (by decide))
  have hG2 : ∀ i, i < a 1 → g 2 i = gg i := r2
  have fin : ∀ (v1 : Nat → Int32) (g1 : Nat → Nat → Int32), f = 0 → zfv (42 :: zVs) (upd v 0 0) v1 → v1 42 = -3 → zfos 2 g g1 → v1 43 = nI R.2.2.1 → (∀ j, j < R.2.2.1 → g1 19 j = nI (R.2.2.2.1 j)) → zZ (zXm G rX11_open mX11_open [.ref m] (zRh G h0 m v g) n K) 177 [(0, .ref m), (1, .int (nI R.2.2.2.2)), (2, .int (nI 256))] [] (zRh G h0 m v1 g1) n 0 0 := by
    intro v1 g1 hf hv h42 hg h43 h19
    subst hf
    obtain ⟨-, -, k3, -, k5, k6⟩ := zRd_pk d0 _ R hMi1 (Nat.zero_le _) hRd
    obtain ⟨es', rs', X', F', hPk⟩ := k6 0 0 XX F
    dsimp only at k5 hPk
    rw [Nat.sub_zero] at hPk
    obtain ⟨-, p2, p3⟩ := zPk_ok b1 _ 0 _ _ hMi1 (zEok0 f0) (Nat.le_refl _) hPk
    have hbits := zpe_bits R.2.1.1
    dsimp only at p2 p3
    have hO2 : ∃ i, i ≤ (((zpe R.2.1.1).2.1 + 7) / 8) ∧ i ≤ a 1 ∧ (∀ j, j < i → (zpe R.2.1.1).1 j = gg j) ∧ (i < (((zpe R.2.1.1).2.1 + 7) / 8) → i < a 1 → (zpe R.2.1.1).1 i ≠ gg i) ∧ ((¬ (i = (((zpe R.2.1.1).2.1 + 7) / 8) ∧ i = a 1) ∧ r = -13 ∧ a1 = a ∧ rx1 = rx ∧ M1 = M ∧ z1 = va_up z 2 (nI i)) ∨ ((i = (((zpe R.2.1.1).2.1 + 7) / 8) ∧ i = a 1) ∧ r = nI R.2.2.1 ∧ a1 = va_up a 2 R.2.2.1 ∧ rx1 = R.2.2.2.1 ∧ M1 = va_up M 1 R.1 ∧ z1 = va_up (va_up z 1 (z 1 + nI R.2.2.2.2)) 2 (-3))) := by
      rcases hO with ⟨h, _⟩ | ⟨h, _⟩ | ⟨_, h⟩
      · exact absurd h (by decide)
      · exact absurd h (by decide)
      · exact h
    clear hO
    obtain ⟨i0, j1, j2, j3, j4, hO⟩ := hO2
    refine z_aload_n dX11_open_177 rfl ?_
    refine z_iconst (w := 1) dX11_open_178 (by decide) ?_
    refine z_iconst (w := 2) dX11_open_179 (by decide) ?_
    refine zcall3 (zck_V (na := 2) (ci := 11) (R' := rX11_copy) (M' := mX11_copy) (fun _ _ _ _ => tvX11_copy) (by decide) kX11_copy lX11_219 (by decide +kernel) rfl) dX11_open_180 (Nat.le_of_ble_eq_true rfl) (Nat.le_of_ble_eq_true rfl) (Nat.le_of_ble_eq_true rfl) ?_
    refine ⟨h0, m, v1, g1, 1, 2, _, _, _, rfl, rfl, hg.2 1 _ _ _ (by decide) (hsl 1 (zSlot.e (by decide))), (by decide), (by decide), (by decide), fun g2 hg2 hM2 => ?_⟩
    refine z_aload_n dX11_open_183 rfl ?_
    refine z_iconst (w := 2) dX11_open_184 (by decide) ?_
    refine z_aload_n dX11_open_185 rfl ?_
    refine zr_get dX11_open_186 fX11_69_11 rfl rfl ?_
    refine z_aload_n dX11_open_189 rfl ?_
    refine zr_get dX11_open_190 fX11_222_11 rfl rfl ?_
    rw [h43]
    refine zcall4 (zck_V (na := 3) (ci := 11) (R' := rX11_writeAll) (M' := mX11_writeAll) (fun _ _ _ _ => tvX11_writeAll) (by decide) kX11_writeAll lX11_190 (by decide +kernel) rfl) dX11_open_193 (Nat.le_of_ble_eq_true rfl) (Nat.le_of_ble_eq_true rfl) (Nat.le_of_ble_eq_true rfl) ?_
    refine ⟨h0, m, v1, g2, 2, 19, R.2.2.1, o, rm, R.2.2.2.1, M 1, f0, XX, F, _, rfl, rfl, (by decide), Or.inr rfl, k3, (fun i hi => ⟨by rw [hg2.1 19 (by decide)]; exact h19 i hi, k5 i (Nat.zero_le _) hi⟩), (hv 1 (by decide)).trans e1, (hv 2 (by decide)).trans e2, b1, b3, hMi1, hM2, hPk, fun v3 g3 hW hR hA => ?_⟩
    obtain ⟨w1, w2, w3, w4, w5⟩ := hW
    have hb29 : v3 29 = nI (zpe R.2.1.1).2.1 := hR.1
    have hmd : ∀ i, i < ((zpe R.2.1.1).2.1 + 7) / 8 → g3 13 i = (zpe R.2.1.1).1 i := hR.2.2.2.2
    have hv3 := hv.trans (w1.mono (S' := 42 :: zVs) (by decide))
    have hg3 := (hg.trans (zfos.ofm hg2)).trans (zfos.ofx w2)
    have h423 : v3 42 = -3 := (w1 42 (by decide)).trans h42
    have h433 : v3 43 = nI R.2.2.1 := (w1 43 (by decide)).trans h43
    have h53 : v3 5 = nI (a 1) := (hv3 5 (by decide)).trans e5
    have h23 : ∀ i, i < a 1 → g3 2 i = gg i := fun i hi => by rw [hg3.1 2 (by decide)]; exact r2 i hi
    have h193 : ∀ j, j < R.2.2.1 → g3 19 j = nI (R.2.2.2.1 j) := fun j hj => by rw [w2.1 19 (by decide), hg2.1 19 (by decide)]; exact h19 j hj
    refine z_aload_n dX11_open_196 rfl ?_
    refine zr_get dX11_open_197 fX11_137_11 rfl rfl ?_
    rw [hb29]
    refine z_bipush (w := 7) dX11_open_200 (by decide) ?_
    refine z_iadd dX11_open_202 ?_
    rw [show nI (zpe R.2.1.1).2.1 + 7 = nI ((zpe R.2.1.1).2.1 + 7) from nI_add _ 7]
    refine z_bipush (w := 8) dX11_open_203 (by decide) ?_
    refine z_idiv dX11_open_205 (by decide) ?_
    rw [zdiv8 (by omega)]
    refine z_istore_n dX11_open_206 (Nat.le_of_ble_eq_true rfl) ?_
    refine z_iconst (w := 0) dX11_open_207 (by decide) ?_
    refine z_istore dX11_open_208 (Nat.le_of_ble_eq_true rfl) ?_
    have cmp : zZ (zXm G rX11_open mX11_open [.ref m] (zRh G h0 m v g) n K) 248 [(0, .ref m), (1, .int (nI R.2.2.2.2)), (2, .int (nI 256)), (3, .int (nI (((zpe R.2.1.1).2.1 + 7) / 8))), (4, .int (nI i0))] [] (zRh G h0 m v3 g3) n 0 0 := by
      rcases hO with ⟨hn9, rfl, rfl, rfl, rfl, rfl⟩ | ⟨⟨y1, y2⟩, rfl, rfl, rfl, rfl, rfl⟩
      · refine z_iload dX11_open_248 rfl ?_
        refine z_iload_n dX11_open_250 rfl ?_
        refine z_icmp_lt (t := 263) dX11_open_251 (by decide) (fun q251 => ?_) (fun q251 => ?_)
        · refine z_aload_n dX11_open_263 rfl ?_
          refine z_iload dX11_open_264 rfl ?_
          refine zr_put dX11_open_266 fX11_65_11 rfl (fun q => absurd q (by decide)) zset_42 (by decide) (Or.inl rfl) ?_
          refine z_bipush (w := -13) dX11_open_269 (by decide) ?_
          refine z_ireturn dX11_open_271 trivial (Nat.le_of_ble_eq_true rfl) (Nat.le_of_ble_eq_true rfl) ?_
          exact hK _ g3 (hQ0.mv42 (hv3.up (by decide) _) zu_eq hg3)
        · have w251 := mt (nI_ltI (by omega) (by omega)).mpr q251
          refine z_iload dX11_open_254 rfl ?_
          refine z_aload_n dX11_open_256 rfl ?_
          refine zr_get dX11_open_257 fX11_93_11 rfl rfl ?_
          rw [h53]
          refine z_icmp_ge (t := 272) dX11_open_260 (by decide) (fun q260 => ?_) (fun q260 => ?_)
          · exact absurd ((nI_leI (by omega) (by omega)).mp q260) (by omega)
          · refine z_aload_n dX11_open_263 rfl ?_
            refine z_iload dX11_open_264 rfl ?_
            refine zr_put dX11_open_266 fX11_65_11 rfl (fun q => absurd q (by decide)) zset_42 (by decide) (Or.inl rfl) ?_
            refine z_bipush (w := -13) dX11_open_269 (by decide) ?_
            refine z_ireturn dX11_open_271 trivial (Nat.le_of_ble_eq_true rfl) (Nat.le_of_ble_eq_true rfl) ?_
            exact hK _ g3 (hQ0.mv42 (hv3.up (by decide) _) zu_eq hg3)
      · refine z_iload dX11_open_248 rfl ?_
        refine z_iload_n dX11_open_250 rfl ?_
        refine z_icmp_lt (t := 263) dX11_open_251 (by decide) (fun q251 => ?_) (fun q251 => ?_)
        · exact absurd ((nI_ltI (by omega) (by omega)).mp q251) (by omega)
        · refine z_iload dX11_open_254 rfl ?_
          refine z_aload_n dX11_open_256 rfl ?_
          refine zr_get dX11_open_257 fX11_93_11 rfl rfl ?_
          rw [h53]
          refine z_icmp_ge (t := 272) dX11_open_260 (by decide) (fun q260 => ?_) (fun q260 => ?_)
          · refine z_aload_n dX11_open_272 rfl ?_
            refine z_iconst (w := 2) dX11_open_273 (by decide) ?_
            refine z_iconst (w := 1) dX11_open_274 (by decide) ?_
            refine zcall3 (zck_V (na := 2) (ci := 11) (R' := rX11_copy) (M' := mX11_copy) (fun _ _ _ _ => tvX11_copy) (by decide) kX11_copy lX11_219 (by decide +kernel) rfl) dX11_open_275 (Nat.le_of_ble_eq_true rfl) (Nat.le_of_ble_eq_true rfl) (Nat.le_of_ble_eq_true rfl) ?_
            refine ⟨h0, m, v3, g3, 2, 1, _, _, _, rfl, rfl, w3, (by decide), (by decide), (by decide), fun g4 hg4 hM4 => ?_⟩
            refine z_aload_n dX11_open_278 rfl ?_
            refine zr_get dX11_open_279 fX11_37_11 rfl rfl ?_
            refine z_iconst (w := 1) dX11_open_282 (by decide) ?_
            refine z_dup2 dX11_open_283 rfl rfl ?_
            refine zr_ald (a := 1) dX11_open_284 rfl (by decide) (show 1 < 2 by decide) ?_
            rw [hg4.1 10 (by decide), hg3.1 10 (by decide), c1]
            refine z_iload_n dX11_open_285 rfl ?_
            refine z_iadd dX11_open_286 ?_
            refine zr_ast (a := 1) dX11_open_287 rfl (by decide) (show 1 < 2 by decide) ?_
            refine z_aload_n dX11_open_288 rfl ?_
            refine z_aload_n dX11_open_289 rfl ?_
            refine zr_get dX11_open_290 fX11_222_11 rfl rfl ?_
            rw [h433]
            refine zr_put dX11_open_293 fX11_96_11 rfl (fun q => absurd q (by decide)) zset_7 (by decide) (Or.inl rfl) ?_
            refine z_iconst (w := 0) dX11_open_296 (by decide) ?_
            refine z_istore dX11_open_297 (Nat.le_of_ble_eq_true rfl) ?_
            generalize hg5 : va_up g4 10 _ = g5
            have k10 : g5 10 1 = z 1 + nI R.2.2.2.2 ∧ g5 10 0 = z 0 := by
              rw [← hg5, zng]
              refine ⟨zu_eq, ?_⟩
              rw [zu_ne (by decide), hg4.1 10 (by decide), hg3.1 10 (by decide)]; exact c0
            have k5' : zfg [10] g4 g5 := by rw [← hg5]; exact zfg.refl.up (by decide) _
            have loop : ∀ (d i : Nat) (g6 : Nat → Nat → Int32), R.2.2.1 - i < d → i ≤ R.2.2.1 → zfg [3] g5 g6 → (∀ j, j < i → g6 3 j = nI (R.2.2.2.1 j)) → zZ (zXm G rX11_open mX11_open [.ref m] (zRh G h0 m v g) n K) 299 [(0, .ref m), (1, .int (nI R.2.2.2.2)), (2, .int (nI 256)), (3, .int (nI (((zpe R.2.1.1).2.1 + 7) / 8))), (4, .int (nI i0)), (5, .int (nI i))] [] (zRh G h0 m (upd v3 7 (nI R.2.2.1)) g6) n 0 0 := by
              intro d
              induction d with
              | zero => intro i g6 hd; omega
              | succ d ih =>
                intro i g6 hd hi hg6 h3
                refine z_iload dX11_open_299 rfl ?_
                refine z_aload_n dX11_open_301 rfl ?_
                refine zr_get dX11_open_302 fX11_222_11 rfl rfl ?_
                rw [zu_ne (by decide), h433]
                refine z_icmp_ge (t := 328) dX11_open_305 (by decide) (fun q305 => ?_) (fun q305 => ?_)
                · have hie : i = R.2.2.1 := by have := (nI_leI (by omega) (by omega)).mp q305; omega
                  subst hie
                  refine z_aload_n dX11_open_328 rfl ?_
                  refine zr_get dX11_open_329 fX11_222_11 rfl rfl ?_
                  rw [zu_ne (by decide), h433]
                  refine z_ireturn dX11_open_332 trivial (Nat.le_of_ble_eq_true rfl) (Nat.le_of_ble_eq_true rfl) ?_
                  have hvA : zfv (7 :: 42 :: zVs) (upd v 0 0) (upd v3 7 (nI R.2.2.1)) := (hv3.mono (by decide)).up (by decide) _
                  have hgA : zfg [3, 10] g4 g6 := (k5'.mono (by decide)).trans (hg6.mono (by decide))
                  have hgr : ∀ j, j ∈ [1, 2, 16, 17, 18] → g6 j = g j := fun j hj => by
                    have hj : j = 1 ∨ j = 2 ∨ j = 16 ∨ j = 17 ∨ j = 18 := by simpa using hj
                    rcases hj with rfl | rfl | rfl | rfl | rfl <;> rw [hgA _ (by decide), hg4.1 _ (by decide), hg3.1 _ (by decide)]
                  refine hK _ g6 ⟨((hvA 1 (by decide)).trans e1), ((hvA 2 (by decide)).trans e2), ((hvA 3 (by decide)).trans e3), ((hvA 5 (by decide)).trans e5), zu_eq, ((hvA 16 (by decide)).trans e16), ((hvA 37 (by decide)).trans e37), ((hvA 35 (by decide)).trans e35), ((zu_ne (by decide)).trans h423), (fun i hi => by rw [hgr 1 (by decide)]; exact r1 i hi), (fun i hi => by rw [hgr 2 (by decide)]; exact r2 i hi), (fun i hi => h3 i hi), ((congrFun (hg6 10 (by decide)) 0).trans k10.2), ((congrFun (hg6 10 (by decide)) 1).trans k10.1), ?_, (fun i hi => by rw [hgr 17 (by decide), hgr 18 (by decide)]; exact r17 i hi), ?_⟩
                  · intro h i hi
                    rw [hgr 16 (by decide), va_up_ne _ _ (by omega), va_up_ne _ _ (by omega)]; exact r16 h i hi
                  · intro t ht
                    by_cases e : t = 1
                    · rw [e, va_up_self]; exact hM4.keep hgA (by decide)
                    · rw [va_up_ne _ _ e]
                      refine ((hg3.2 t _ _ _ ?_ (hsl t ht)).other hg4 e).keep hgA (by decide)
                      rcases ht with h | h | h <;> omega
                · have hil : i < R.2.2.1 := by have := mt (nI_leI (by omega) (by omega)).mpr q305; omega
                  refine z_aload_n dX11_open_308 rfl ?_
                  refine zr_get dX11_open_309 fX11_16_11 rfl rfl ?_
                  refine z_iload dX11_open_312 rfl ?_
                  refine z_aload_n dX11_open_314 rfl ?_
                  refine zr_get dX11_open_315 fX11_69_11 rfl rfl ?_
                  refine z_iload dX11_open_318 rfl ?_
                  refine zr_ald (a := _) dX11_open_320 rfl (by decide) (show i < 300 by omega) ?_
                  rw [show g6 19 i = nI (R.2.2.2.1 i) by rw [hg6 19 (by decide), k5' 19 (by decide), hg4.1 19 (by decide)]; exact h193 i hil]
                  refine zr_ast (a := _) dX11_open_321 rfl (by decide) (show i < 300 by omega) ?_
                  refine z_iinc dX11_open_322 rfl (Nat.le_of_ble_eq_true rfl) ?_
                  refine z_goto (t := 299) dX11_open_325 (by decide) ?_
                  rw [show nI i + Int32.ofInt 1 = nI (i + 1) from nI_1 i]
                  refine ih (i + 1) _ (by omega) (by omega) (hg6.up (by decide) _) (fun j hj => ?_)
                  rw [zng]
                  by_cases e : j = i
                  · rw [e, zu_eq]
                  · rw [zu_ne e]; exact h3 j (by omega)
            exact loop _ 0 g5 (Nat.lt_succ_self _) (Nat.zero_le _) zfg.refl (fun j hj => absurd hj (Nat.not_lt_zero _))
          · exact absurd (nI_le (by omega) (by omega)) q260
    have loop : ∀ (d i : Nat), i + d = i0 → zZ (zXm G rX11_open mX11_open [.ref m] (zRh G h0 m v g) n K) 210 [(0, .ref m), (1, .int (nI R.2.2.2.2)), (2, .int (nI 256)), (3, .int (nI (((zpe R.2.1.1).2.1 + 7) / 8))), (4, .int (nI i))] [] (zRh G h0 m v3 g3) n 0 0 := by
      intro d
      induction d with
      | zero =>
        intro i hi
        have hi : i = i0 := by omega
        subst hi
        refine z_iload dX11_open_210 rfl ?_
        refine z_iload_n dX11_open_212 rfl ?_
        refine z_icmp_ge (t := 248) dX11_open_213 (by decide) (fun q213 => ?_) (fun q213 => ?_)
        · exact cmp
        · have w213 := mt (nI_leI (by omega) (by omega)).mpr q213
          refine z_iload dX11_open_216 rfl ?_
          refine z_aload_n dX11_open_218 rfl ?_
          refine zr_get dX11_open_219 fX11_93_11 rfl rfl ?_
          rw [h53]
          refine z_icmp_ge (t := 248) dX11_open_222 (by decide) (fun q222 => ?_) (fun q222 => ?_)
          · exact cmp
          · have w222 := mt (nI_leI (by omega) (by omega)).mpr q222
            refine z_aload_n dX11_open_225 rfl ?_
            refine zr_get dX11_open_226 fX11_47_11 rfl rfl ?_
            refine z_iload dX11_open_229 rfl ?_
            refine zr_ald (a := _) dX11_open_231 rfl (by decide) (show i < 6000 by omega) ?_
            rw [hmd i (by omega)]
            refine z_aload_n dX11_open_232 rfl ?_
            refine zr_get dX11_open_233 fX11_13_11 rfl rfl ?_
            refine z_iload dX11_open_236 rfl ?_
            refine zr_ald (a := _) dX11_open_238 rfl (by decide) (show i < 6000 by omega) ?_
            rw [h23 i (by omega)]
            refine z_icmp_ne (t := 248) dX11_open_239 (by decide) (fun q239 => ?_) (fun q239 => ?_)
            · exact cmp
            · exact absurd q239 (j4 (by omega) (by omega))
      | succ d ih =>
        intro i hi
        refine z_iload dX11_open_210 rfl ?_
        refine z_iload_n dX11_open_212 rfl ?_
        refine z_icmp_ge (t := 248) dX11_open_213 (by decide) (fun q213 => ?_) (fun q213 => ?_)
        · exact absurd ((nI_leI (by omega) (by omega)).mp q213) (by omega)
        · refine z_iload dX11_open_216 rfl ?_
          refine z_aload_n dX11_open_218 rfl ?_
          refine zr_get dX11_open_219 fX11_93_11 rfl rfl ?_
          rw [h53]
          refine z_icmp_ge (t := 248) dX11_open_222 (by decide) (fun q222 => ?_) (fun q222 => ?_)
          · exact absurd ((nI_leI (by omega) (by omega)).mp q222) (by omega)
          · refine z_aload_n dX11_open_225 rfl ?_
            refine zr_get dX11_open_226 fX11_47_11 rfl rfl ?_
            refine z_iload dX11_open_229 rfl ?_
            refine zr_ald (a := _) dX11_open_231 rfl (by decide) (show i < 6000 by omega) ?_
            rw [hmd i (by omega)]
            refine z_aload_n dX11_open_232 rfl ?_
            refine zr_get dX11_open_233 fX11_13_11 rfl rfl ?_
            refine z_iload dX11_open_236 rfl ?_
            refine zr_ald (a := _) dX11_open_238 rfl (by decide) (show i < 6000 by omega) ?_
            rw [h23 i (by omega)]
            refine z_icmp_ne (t := 248) dX11_open_239 (by decide) (fun q239 => ?_) (fun q239 => ?_)
            · exact absurd (j3 i (by omega)) q239
            · refine z_iinc dX11_open_242 rfl (Nat.le_of_ble_eq_true rfl) ?_
              refine z_goto (t := 210) dX11_open_245 (by decide) ?_
              rw [show nI i + Int32.ofInt 1 = nI (i + 1) from nI_1 i]
              exact ih (i + 1) (by omega)
    exact loop i0 0 (Nat.zero_add _)
  have main : ∀ (d : Nat) (P : zRr) (v1 : Nat → Int32) (g1 : Nat → Nat → Int32) (sv : Nat), sv < 256 → zMi o rm P.1 → zRd o rm gg (a 1) d P f R → zRs P.2.1 → P.2.1.2.2 ≤ 8 * a 1 + 112 → P.2.2.1 ≤ 300 → zfv (42 :: zVs) (upd v 0 0) v1 → v1 42 = -3 → zfos 2 g g1 → zRm g1 2 P.1.1 P.1.2.2.1 P.1.2.2.2.1 → zRq v1 P.2.1 → v1 43 = nI P.2.2.1 → (∀ j, j < P.2.2.1 → g1 19 j = nI (P.2.2.2.1 j)) → zZ (zXm G rX11_open mX11_open [.ref m] (zRh G h0 m v g) n K) 76 [(0, .ref m), (1, .int (nI P.2.2.2.2)), (2, .int (nI sv))] [] (zRh G h0 m v1 g1) n 0 0 := by
    intro d
    induction d with
    | zero => intro P v1 g1 sv _ _ h; exact h.elim
    | succ d ih =>
      intro P v1 g1 sv hsv hMi hRd hS htk h300 hv h42 hg hM hq h43 h19
      have h5 : v1 5 = nI (a 1) := (hv 5 (by decide)).trans e5
      have hlm4 : P.1.2.2.1 ≤ 4 := Nat.le_trans hMi.2.2.2.1 b1
      have hg2 : ∀ i, i < a 1 → g1 2 i = gg i := fun i hi => by rw [hg.1 2 (by decide)]; exact r2 i hi
      refine z_iload_n dX11_open_76 rfl ?_
      refine z_sipush (w := 256) dX11_open_77 (by decide) ?_
      refine z_icmp_ge (t := 177) dX11_open_80 (by decide) (fun q80 => ?_) (fun q80 => ?_)
      · exact absurd ((nI_leI (a := 256) (by decide) (by omega)).mp q80) (by omega)
      · refine z_aload_n dX11_open_83 rfl ?_
        refine zr_get dX11_open_84 fX11_200_11 rfl rfl ?_
        rw [hq.2.2.2]
        refine z_bipush (w := 8) dX11_open_87 (by decide) ?_
        refine z_aload_n dX11_open_89 rfl ?_
        refine zr_get dX11_open_90 fX11_93_11 rfl rfl ?_
        rw [h5]
        refine z_imul dX11_open_93 ?_
        rw [show (8 : Int32) * nI (a 1) = nI (8 * a 1) from zn_mul 8 (a 1)]
        refine z_isub dX11_open_94 ?_
        refine z_bipush (w := 16) dX11_open_95 (by decide) ?_
        refine z_icmp_le (t := 103) dX11_open_97 (by decide) (fun q97 => ?_) (fun q97 => ?_)
        · have w97 : ¬ 8 * a 1 + 16 < P.2.1.2.2 := Nat.not_lt.mpr ((zsuble (c := 16) (by omega) (by omega) (by decide)).mp q97)
          rcases hRd with ⟨h, _⟩ | ⟨_, y, ht, hRd⟩
          · exact absurd h w97
          have hcx : ∀ k, k < P.1.2.2.1 + 1 → P.1.2.2.2.2 k < P.1.1.1 := fun k hk => (hMi.2.2.2.2.2.2.1 k (by omega)).1
          have hy := zTl_r hMi.1 hMi.2.1 (N := P.1.2.2.1 + 1) hcx _ _ _ _ _ y (Nat.le_refl _) rfl hS.1 hS.2.1 hS.2.2 ht
          have hsg := zTl_sg (fun _ _ _ _ h => h.1) hMi.1 (N := P.1.2.2.1 + 1) hcx _ _ _ _ _ y (Nat.le_refl _) ht
          have hlo : zlo y.2.2.2.2.2 ≤ P.1.2.2.1 := by
            unfold zlo
            rcases hyf : y.2.2.2.2.2 with _ | k
            · exact Nat.zero_le _
            · have := (hsg.2.2 k hyf).1
              show k ≤ _
              omega
          refine z_aload_n dX11_open_103 rfl ?_
          refine z_iconst (w := 2) dX11_open_104 (by decide) ?_
          refine zcall2 (zck_V (na := 1) (ci := 11) (R' := rX11_readSign) (M' := mX11_readSign) (fun _ _ _ _ => tvX11_readSign) (by decide) kX11_readSign lX11_225 (by decide +kernel) rfl) dX11_open_105 (Nat.le_of_ble_eq_true rfl) (Nat.le_of_ble_eq_true rfl) (Nat.le_of_ble_eq_true rfl) ?_
          refine ⟨h0, m, v1, g1, 2, o, rm, a 1, gg, P.1, P.2.1, y, rfl, rfl, (by decide), b1, b3, hMi, hM, hq, hS, h5, (by omega), hg2, (by omega), ht, fun v2 g2 hv2 hg2' hq2 h45 => ?_⟩
          have hvB := hv.trans (hv2.mono (S' := 42 :: zVs) (by decide))
          have hgB := hg.trans (zfos.ofg hg2' (by decide) (by decide))
          have hMB := hM.keep hg2' (by decide)
          have h42B : v2 42 = -3 := (hv2 42 (by decide)).trans h42
          have h43B : v2 43 = nI P.2.2.1 := (hv2 43 (by decide)).trans h43
          have h19B : ∀ j, j < P.2.2.1 → g2 19 j = nI (P.2.2.2.1 j) := fun j hj => by rw [hg2' 19 (by decide)]; exact h19 j hj
          refine z_istore_n dX11_open_108 (Nat.le_of_ble_eq_true rfl) ?_
          rcases hRd with ⟨e6, hf0, hRR⟩ | ⟨e6, h3, hf2⟩ | ⟨e6, h3, r9, M9, hL, hRd⟩
          · rw [e6]
            refine z_iload_n dX11_open_109 rfl ?_
            refine z_sipush (w := 256) dX11_open_110 (by decide) ?_
            refine z_icmp_ge (t := 76) dX11_open_113 (by decide) (fun q113 => ?_) (fun q113 => ?_)
            · refine z_iload_n dX11_open_76 rfl ?_
              refine z_sipush (w := 256) dX11_open_77 (by decide) ?_
              refine z_icmp_ge (t := 177) dX11_open_80 (by decide) (fun q80 => ?_) (fun q80 => ?_)
              · have e1' : P.2.2.2.2 = R.2.2.2.2 := by rw [hRR]
                rw [e1']
                exact fin v2 g2 hf0 hvB h42B hgB (by rw [hRR]; exact h43B) (by rw [hRR]; exact h19B)
              · exact absurd (Int32.le_refl _) q80
            · exact absurd (Int32.le_refl _) q113
          · have hsl9 : y.2.2.2.2.1 < 256 := by have := hsg.1; omega
            refine z_iload_n dX11_open_109 rfl ?_
            refine z_sipush (w := 256) dX11_open_110 (by decide) ?_
            refine z_icmp_ge (t := 76) dX11_open_113 (by decide) (fun q113 => ?_) (fun q113 => ?_)
            · exact absurd ((nI_leI (a := 256) (by decide) (by omega)).mp q113) (by omega)
            · refine z_aload_n dX11_open_116 rfl ?_
              refine zr_get dX11_open_117 fX11_222_11 rfl rfl ?_
              rw [h43B, h3]
              refine z_sipush (w := 300) dX11_open_120 (by decide) ?_
              refine z_icmp_ne (t := 129) dX11_open_123 (by decide) (fun q123 => ?_) (fun q123 => ?_)
              · exact absurd rfl q123
              · refine z_bipush (w := -12) dX11_open_126 (by decide) ?_
                refine z_ireturn dX11_open_128 trivial (Nat.le_of_ble_eq_true rfl) (Nat.le_of_ble_eq_true rfl) ?_
                subst hf2
                have hO : r = -12 ∧ a1 = a ∧ rx1 = rx ∧ M1 = M ∧ z1 = va_up z 2 (-3) := by
                  rcases hO with ⟨h, _⟩ | ⟨_, h⟩ | ⟨h, _⟩
                  · exact absurd h (by decide)
                  · exact h
                  · exact absurd h (by decide)
                obtain ⟨rfl, rfl, rfl, rfl, rfl⟩ := hO
                exact hK _ g2 (hQ0.mv42 hvB h42B hgB)
          · have hsl9 : y.2.2.2.2.1 < 256 := by have := hsg.1; omega
            have hMi' := hL.1
            have hrt := hMi.1.rt hMi.2.1 (Nat.le_trans hMi.2.2.1 b3)
            have hcx2 : ∀ k, k ≤ P.1.2.2.1 → zwk P.1.1 P.1.2.2.2.1 k (P.1.2.2.1 - k) 0 (P.1.2.2.2.2 k) ∧ P.1.2.2.2.2 k < P.1.1.1 := fun k hk => ⟨(hMi.2.2.2.2.2.2.1 k hk).2, (hMi.2.2.2.2.2.2.1 k hk).1⟩
            refine z_iload_n dX11_open_109 rfl ?_
            refine z_sipush (w := 256) dX11_open_110 (by decide) ?_
            refine z_icmp_ge (t := 76) dX11_open_113 (by decide) (fun q113 => ?_) (fun q113 => ?_)
            · exact absurd ((nI_leI (a := 256) (by decide) (by omega)).mp q113) (by omega)
            · refine z_aload_n dX11_open_116 rfl ?_
              refine zr_get dX11_open_117 fX11_222_11 rfl rfl ?_
              rw [h43B]
              refine z_sipush (w := 300) dX11_open_120 (by decide) ?_
              refine z_icmp_ne (t := 129) dX11_open_123 (by decide) (fun q123 => ?_) (fun q123 => ?_)
              · refine z_aload_n dX11_open_129 rfl ?_
                refine zr_get dX11_open_130 fX11_69_11 rfl rfl ?_
                refine z_aload_n dX11_open_133 rfl ?_
                refine zr_get dX11_open_134 fX11_222_11 rfl rfl ?_
                rw [h43B]
                refine z_iload_n dX11_open_137 rfl ?_
                refine zr_ast (a := _) dX11_open_138 rfl (by decide) (show P.2.2.1 < 300 from h3) ?_
                refine z_aload_n dX11_open_139 rfl ?_
                refine z_dup dX11_open_140 rfl ?_
                refine zr_get dX11_open_141 fX11_222_11 rfl rfl ?_
                rw [h43B]
                refine z_iconst (w := 1) dX11_open_144 (by decide) ?_
                refine z_iadd dX11_open_145 ?_
                rw [nI_1]
                refine zr_put dX11_open_146 fX11_222_11 rfl (fun q => absurd q (by decide)) zset_43 (by decide) (Or.inl rfl) ?_
                refine z_aload_n dX11_open_149 rfl ?_
                refine z_iconst (w := 2) dX11_open_150 (by decide) ?_
                refine z_iload_n dX11_open_151 rfl ?_
                refine z_aload_n dX11_open_152 rfl ?_
                refine zr_get dX11_open_153 fX11_216_11 rfl rfl ?_
                rw [zu_ne (by decide), h45]
                generalize hgC : va_up g2 19 _ = gC
                have kC : zfg [19] g2 gC := by rw [← hgC]; exact zfg.refl.up (by decide) _
                have k19 : ∀ j, j < P.2.2.1 + 1 → gC 19 j = nI (va_up P.2.2.2.1 P.2.2.1 y.2.2.2.2.1 j) := fun j hj => by
                  rw [← hgC, zng]
                  by_cases e : j = P.2.2.1
                  · rw [e, zu_eq, va_up_self]
                  · rw [zu_ne e, va_up_ne _ _ e]; exact h19B j (by omega)
                have hMC := hMB.keep kC (by decide)
                have w1 : (upd v2 43 (nI (P.2.2.1 + 1))) 1 = nI o := (zu_ne (by decide)).trans ((hvB 1 (by decide)).trans e1)
                have w2 : (upd v2 43 (nI (P.2.2.1 + 1))) 2 = nI rm := (zu_ne (by decide)).trans ((hvB 2 (by decide)).trans e2)
                have hgD := hgB.trans (zfos.ofg kC (by decide) (by decide))
                have hL2 := hL.2
                clear hL
                rcases hL2 with ⟨rfl, T', ch', hL, rfl⟩ | ⟨rfl, rfl, d9, T1, ch1, hd9, hL, hr9⟩
                · refine zcall4 (zck_V (na := 3) (ci := 11) (R' := rX11_learn) (M' := mX11_learn) (fun _ _ _ _ => tvX11_learn) (by decide) kX11_learn lX11_186 (by decide +kernel) rfl) dX11_open_156 (Nat.le_of_ble_eq_true rfl) (Nat.le_of_ble_eq_true rfl) (Nat.le_of_ble_eq_true rfl) ?_
                  refine ⟨h0, m, _, gC, 2, y.2.2.2.2.1, zlo y.2.2.2.2.2, o, rm, P.1.2.2.1, P.1.1, P.1.2.1, P.1.2.2.2.1, P.1.2.2.2.2, some T', rfl, rfl, hMC, (by decide), hsl9, hlo, w1, w2, hMi.2.2.2.1, b1, b3, hMi.1.w, hrt.2, hcx2, Or.inl ⟨T', ch', rfl, hL⟩, fun v3 g3 T2 e9 hv3 e25 hg3 hM3 => ?_, (fun v3 g3 e9 => by cases e9)⟩
                  cases e9
                  refine z_iload_n dX11_open_159 rfl ?_
                  refine z_aload_n dX11_open_160 rfl ?_
                  refine zr_get dX11_open_161 fX11_129_11 rfl rfl ?_
                  rw [e25]
                  refine z_if_eq (t := 171) dX11_open_164 (by decide) (fun q164 => ?_) (fun q164 => ?_)
                  · refine z_iconst (w := 0) dX11_open_171 (by decide) ?_
                    refine z_iadd dX11_open_172 ?_
                    rw [Int32.add_zero]
                    refine z_istore_n dX11_open_173 (Nat.le_of_ble_eq_true rfl) ?_
                    refine z_goto (t := 76) dX11_open_174 (by decide) ?_
                    refine ih (_, y.1, P.2.2.1 + 1, va_up P.2.2.2.1 P.2.2.1 y.2.2.2.2.1, P.2.2.2.2 + false.toNat) v3 g3 y.2.2.2.2.1 hsl9 hMi' hRd ⟨hy.1, hy.2.2.1, hy.2.2.2.1⟩ (by have := hy.2.2.2.2; dsimp only; omega) (by dsimp only; omega) ((hvB.up (by decide) _).trans (hv3.mono (by decide))) (by rw [hv3 42 (by decide), zu_ne (by decide)]; exact h42B) (hgD.trans (zfos.ofm hg3)) hM3 ((hq2.mv ((zfv.refl (S := [43])).up (by decide) _) (by decide) (by decide) (by decide) (by decide)).mv hv3 (by decide) (by decide) (by decide) (by decide)) (by rw [hv3 43 (by decide), zu_eq]) (fun j hj => by rw [hg3.1 19 (by decide)]; exact k19 j hj)
                  · exact absurd rfl q164
                · refine zcall4 (zck_V (na := 3) (ci := 11) (R' := rX11_learn) (M' := mX11_learn) (fun _ _ _ _ => tvX11_learn) (by decide) kX11_learn lX11_186 (by decide +kernel) rfl) dX11_open_156 (Nat.le_of_ble_eq_true rfl) (Nat.le_of_ble_eq_true rfl) (Nat.le_of_ble_eq_true rfl) ?_
                  refine ⟨h0, m, _, gC, 2, y.2.2.2.2.1, zlo y.2.2.2.2.2, o, rm, P.1.2.2.1, P.1.1, P.1.2.1, P.1.2.2.2.1, P.1.2.2.2.2, none, rfl, rfl, hMC, (by decide), hsl9, hlo, w1, w2, hMi.2.2.2.1, b1, b3, hMi.1.w, hrt.2, hcx2, Or.inr ⟨d9, T1, ch1, rfl, hd9, hL, hr9⟩, (fun v3 g3 T2 e9 => by cases e9), fun v3 g3 e9 hv3 e25 hg3 hM3 => ?_⟩
                  refine z_iload_n dX11_open_159 rfl ?_
                  refine z_aload_n dX11_open_160 rfl ?_
                  refine zr_get dX11_open_161 fX11_129_11 rfl rfl ?_
                  rw [e25]
                  refine z_if_eq (t := 171) dX11_open_164 (by decide) (fun q164 => ?_) (fun q164 => ?_)
                  · exact absurd q164 (by decide)
                  · refine z_iconst (w := 1) dX11_open_167 (by decide) ?_
                    refine z_goto (t := 172) dX11_open_168 (by decide) ?_
                    refine z_iadd dX11_open_172 ?_
                    rw [nI_1]
                    refine z_istore_n dX11_open_173 (Nat.le_of_ble_eq_true rfl) ?_
                    refine z_goto (t := 76) dX11_open_174 (by decide) ?_
                    refine ih (_, y.1, P.2.2.1 + 1, va_up P.2.2.2.1 P.2.2.1 y.2.2.2.2.1, P.2.2.2.2 + true.toNat) v3 g3 y.2.2.2.2.1 hsl9 hMi' hRd ⟨hy.1, hy.2.2.1, hy.2.2.2.1⟩ (by have := hy.2.2.2.2; dsimp only; omega) (by dsimp only; omega) ((hvB.up (by decide) _).trans (hv3.mono (by decide))) (by rw [hv3 42 (by decide), zu_ne (by decide)]; exact h42B) (hgD.trans (zfos.ofm hg3)) (hM3 _ _ _ _) ((hq2.mv ((zfv.refl (S := [43])).up (by decide) _) (by decide) (by decide) (by decide) (by decide)).mv hv3 (by decide) (by decide) (by decide) (by decide)) (by rw [hv3 43 (by decide), zu_eq]) (fun j hj => by rw [hg3.1 19 (by decide)]; exact k19 j hj)
              · exact absurd ((nI_eq (b := 300) (by omega) (by decide)).mp q123) (by omega)
        · have w97 : 8 * a 1 + 16 < P.2.1.2.2 := Nat.lt_of_not_le (fun w => q97 ((zsuble (c := 16) (by omega) (by omega) (by decide)).mpr w))
          have hf1 : f = 1 := by
            rcases hRd with ⟨_, h⟩ | ⟨h, _⟩
            · exact h
            · exact absurd w97 h
          subst hf1
          refine z_bipush (w := -11) dX11_open_100 (by decide) ?_
          refine z_ireturn dX11_open_102 trivial (Nat.le_of_ble_eq_true rfl) (Nat.le_of_ble_eq_true rfl) ?_
          have hO : r = -11 ∧ a1 = a ∧ rx1 = rx ∧ M1 = M ∧ z1 = va_up z 2 (-3) := by
            rcases hO with ⟨_, h⟩ | ⟨h, _⟩ | ⟨h, _⟩
            · exact h
            · exact absurd h (by decide)
            · exact absurd h (by decide)
          obtain ⟨rfl, rfl, rfl, rfl, rfl⟩ := hO
          exact hK _ g1 (hQ0.mv42 hv h42 hg)
  refine z_aload_n dX11_open_0 rfl ?_
  refine z_iconst (w := 0) dX11_open_1 (by decide) ?_
  refine zr_put dX11_open_2 fX11_82_11 rfl (fun q => absurd q (by decide)) zset_0 (by decide) (Or.inl rfl) ?_
  refine z_aload_n dX11_open_5 rfl ?_
  refine z_iconst (w := 1) dX11_open_6 (by decide) ?_
  refine z_iconst (w := 2) dX11_open_7 (by decide) ?_
  refine zcall3 (zck_V (na := 2) (ci := 11) (R' := rX11_copy) (M' := mX11_copy) (fun _ _ _ _ => tvX11_copy) (by decide) kX11_copy lX11_219 (by decide +kernel) rfl) dX11_open_8 (Nat.le_of_ble_eq_true rfl) (Nat.le_of_ble_eq_true rfl) (Nat.le_of_ble_eq_true rfl) ?_
  refine ⟨h0, m, _, g, 1, 2, _, _, _, rfl, rfl, hsl 1 (zSlot.e (by decide)), (by decide), (by decide), (by decide), fun gA hgA hMA => ?_⟩
  refine z_aload_n dX11_open_11 rfl ?_
  refine z_bipush (w := -3) dX11_open_12 (by decide) ?_
  refine zr_put dX11_open_14 fX11_65_11 rfl (fun q => absurd q (by decide)) zset_42 (by decide) (Or.inl rfl) ?_
  refine z_aload_n dX11_open_17 rfl ?_
  refine z_iconst (w := 0) dX11_open_18 (by decide) ?_
  refine zr_put dX11_open_19 fX11_149_11 rfl (fun q => absurd q (by decide)) zset_26 (by decide) (Or.inl rfl) ?_
  refine z_aload_n dX11_open_22 rfl ?_
  refine z_ldc dX11_open_23 coX11_160 ?_
  refine zr_put dX11_open_25 fX11_146_11 rfl (fun q => absurd q (by decide)) zset_27 (by decide) (Or.inl rfl) ?_
  refine z_aload_n dX11_open_28 rfl ?_
  refine z_iconst (w := 0) dX11_open_29 (by decide) ?_
  refine zr_put dX11_open_30 fX11_203_11 rfl (fun q => absurd q (by decide)) zset_40 (by decide) (Or.inl rfl) ?_
  refine z_aload_n dX11_open_33 rfl ?_
  refine z_iconst (w := 0) dX11_open_34 (by decide) ?_
  refine zr_put dX11_open_35 fX11_200_11 rfl (fun q => absurd q (by decide)) zset_41 (by decide) (Or.inl rfl) ?_
  refine z_aload_n dX11_open_38 rfl ?_
  refine z_iconst (w := 0) dX11_open_39 (by decide) ?_
  refine zr_put dX11_open_40 fX11_222_11 rfl (fun q => absurd q (by decide)) zset_43 (by decide) (Or.inl rfl) ?_
  refine z_iconst (w := 0) dX11_open_43 (by decide) ?_
  refine z_istore_n dX11_open_44 (Nat.le_of_ble_eq_true rfl) ?_
  refine z_iconst (w := 0) dX11_open_45 (by decide) ?_
  refine z_istore_n dX11_open_46 (Nat.le_of_ble_eq_true rfl) ?_
  generalize hvA : upd (upd (upd (upd (upd (upd (upd v 0 0) 42 _) 26 _) 27 _) 40 _) 41 _) 43 _ = vA
  have kA : zfv (42 :: zVs) (upd v 0 0) vA := by rw [← hvA]; exact (((((zfv.refl.up (by decide) _).up (by decide) _).up (by decide) _).up (by decide) _).up (by decide) _).up (by decide) _
  have kv : vA 42 = -3 ∧ vA 26 = 0 ∧ vA 27 = 65535 ∧ vA 40 = 0 ∧ vA 41 = 0 ∧ vA 43 = 0 := by
    rw [← hvA]
    refine ⟨?_, ?_, ?_, ?_, ?_, zu_eq⟩
    · exact (((((zu_ne (by decide)).trans (zu_ne (by decide))).trans (zu_ne (by decide))).trans (zu_ne (by decide))).trans (zu_ne (by decide))).trans zu_eq
    · exact ((((zu_ne (by decide)).trans (zu_ne (by decide))).trans (zu_ne (by decide))).trans (zu_ne (by decide))).trans zu_eq
    · exact (((zu_ne (by decide)).trans (zu_ne (by decide))).trans (zu_ne (by decide))).trans zu_eq
    · exact ((zu_ne (by decide)).trans (zu_ne (by decide))).trans zu_eq
    · exact (zu_ne (by decide)).trans zu_eq
  have loop : ∀ (d i : Nat) (v1 : Nat → Int32), i + d = 16 → zfv [40, 41] vA v1 → v1 40 = nI (znum0 (zbn gg (a 1)) i) → v1 41 = nI i → zZ (zXm G rX11_open mX11_open [.ref m] (zRh G h0 m v g) n K) 47 [(0, .ref m), (1, .int 0), (2, .int (nI i))] [] (zRh G h0 m v1 gA) n 0 0 := by
    intro d
    induction d with
    | zero =>
      intro i v1 hd hv1 h40 h41
      have hi : i = 16 := by omega
      subst hi
      have hnm := znum0_lt (zbn gg (a 1)) (zbn_le gg (a 1)) 16
      refine z_iload_n dX11_open_47 rfl ?_
      refine z_bipush (w := 16) dX11_open_48 (by decide) ?_
      refine z_icmp_ge (t := 74) dX11_open_50 (by decide) (fun q50 => ?_) (fun q50 => ?_)
      · refine z_iconst (w := 0) dX11_open_74 (by decide) ?_
        refine z_istore_n dX11_open_75 (Nat.le_of_ble_eq_true rfl) ?_
        exact main d0 (M 1, ((f0, 0, 0, 65535, 0), znum0 (zbn gg (a 1)) 16, 16), 0, b0, 0) v1 gA 0 (by decide) hMi1 hRd ⟨zEok0 f0, Nat.zero_le _, Nat.le_of_lt_succ hnm⟩ (by dsimp only; omega) (Nat.zero_le _) (kA.trans (hv1.mono (by decide))) ((hv1 42 (by decide)).trans kv.1) (zfos.ofm hgA) hMA ⟨(hv1 26 (by decide)).trans kv.2.1, (hv1 27 (by decide)).trans kv.2.2.1, h40, h41⟩ ((hv1 43 (by decide)).trans kv.2.2.2.2.2) (fun j hj => absurd hj (Nat.not_lt_zero _))
      · exact absurd (Int32.le_refl _) q50
    | succ d ih =>
      intro i v1 hd hv1 h40 h41
      refine z_iload_n dX11_open_47 rfl ?_
      refine z_bipush (w := 16) dX11_open_48 (by decide) ?_
      refine z_icmp_ge (t := 74) dX11_open_50 (by decide) (fun q50 => ?_) (fun q50 => ?_)
      · exact absurd ((nI_leI (a := 16) (by decide) (by omega)).mp q50) (by omega)
      · refine z_aload_n dX11_open_53 rfl ?_
        refine z_iconst (w := 2) dX11_open_54 (by decide) ?_
        refine z_aload_n dX11_open_55 rfl ?_
        refine zr_get dX11_open_56 fX11_203_11 rfl rfl ?_
        rw [h40]
        refine z_imul dX11_open_59 ?_
        rw [show (2 : Int32) * nI (znum0 (zbn gg (a 1)) i) = nI (2 * znum0 (zbn gg (a 1)) i) from zn_mul 2 _]
        refine z_aload_n dX11_open_60 rfl ?_
        refine zcall1 (zck_V (na := 0) (ci := 11) (R' := rX11_next) (M' := mX11_next) (fun _ _ _ _ => tvX11_next) (by decide) kX11_next lX11_206 (by decide +kernel) rfl) dX11_open_61 (Nat.le_of_ble_eq_true rfl) (Nat.le_of_ble_eq_true rfl) (Nat.le_of_ble_eq_true rfl) ?_
        refine ⟨h0, m, v1, gA, i, a 1, gg, rfl, rfl, h41, (by omega), (hv1 5 (by decide)).trans ((kA 5 (by decide)).trans e5), (by omega), (fun j hj => by rw [hgA.1 2 (by decide)]; exact r2 j hj), fun v2 hv2 h412 => ?_⟩
        refine z_iadd dX11_open_64 ?_
        rw [nI_add]
        refine zr_put dX11_open_65 fX11_203_11 rfl (fun q => absurd q (by decide)) zset_40 (by decide) (Or.inl rfl) ?_
        refine z_iinc dX11_open_68 rfl (Nat.le_of_ble_eq_true rfl) ?_
        refine z_goto (t := 47) dX11_open_71 (by decide) ?_
        rw [show nI i + Int32.ofInt 1 = nI (i + 1) from nI_1 i]
        exact ih (i + 1) _ (by omega) ((hv1.trans (hv2.mono (by decide))).up (by decide) _) zu_eq ((zu_ne (by decide)).trans h412)
  exact loop 16 0 vA rfl zfv.refl kv.2.2.2.1 kv.2.2.2.2.1

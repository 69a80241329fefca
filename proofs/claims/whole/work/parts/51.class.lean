/-! the class: its state as a whole -/
abbrev zobj (x o rm k3 : Nat) (z : Nat → Int32) (rO tO rM tM : Nat) (tr : Int32) : List Value := [.int (nI o), .int (nI rm), .ref (x + 1), .ref (x + 3), .ref rO, .ref tO, .ref (x + 19), .ref rM, .ref tM, .int (z 0), .int (z 1), .int tr, .ref (x + 9), .int (nI k3), .ref (x + 10), .ref (x + 43), .ref (x + 44), .ref (x + 15), .ref (x + 16), .int (z 2)]
def zpR (G : zC) (h : zH) (p k : Nat) (rx : Nat → Nat) : Prop := h p = some (zO 5 [.ref (p + 1), .int (nI k)]) ∧ ∃ f, h (p + 1) = some (zI G 300 f) ∧ ∀ i, i < k → f i = nI (rx i)
def zpO (G : zC) (h : zH) (x k : Nat) (gg : Nat → Int32) : Prop := h (x + 3) = some (zO 5 [.ref (x + 4), .int (nI k)]) ∧ h (x + 4) = some (zI G 2484 gg)
def zpS (G : zC) (h : zH) (n x b t o rm k0 : Nat) (M : Nat → zMs) : Prop := ∃ (mc : Int32) (e k : Nat) (f : Nat → Option Nat) (sm : Nat → Nat) (N : Nat → zMs), h (x + 9) = some (zO 1 [.int mc, .ref e, .int (nI k)]) ∧ k0 ≤ k ∧ k ≤ 4 ∧ ((k = 0 ∧ e = t ∧ f = fun _ => none) ∨ (h e = some (zRf G 10 f) ∧ b ≤ e ∧ e < n)) ∧ (∀ i, i < k → f i = some (sm i) ∧ b ≤ sm i ∧ sm i + 8 ≤ n ∧ zpM G h (sm i) o rm (N i)) ∧ (∀ i, i < k0 → N i = M (3 + i)) ∧ (∀ i j, i < k → j < k → i ≠ j → sm i + 8 ≤ sm j ∨ sm j + 8 ≤ sm i) ∧ ∀ i, i < k → ¬ (sm i ≤ e ∧ e < sm i + 8)
def zpL (G : zC) (h : zH) (x rn : Nat) : Prop := ∃ R E ex es fi L, zTel G h (x + 10) (x + 11) (x + 14) R E ex es fi ∧ zCho G h (x + 11) (x + 12) (x + 13) L ∧ R ≤ rn
def zpE (h : zH) (x : Nat) : Prop := ∃ v0 v1, h (x + 15) = some (zO 3 [v0, v1])
def zpP (G : zC) (h : zH) (x k : Nat) (z : Nat → Int32) (XX : Nat → Nat) (F : Nat → Option Nat) : Prop := ∃ fe fc bi es rs, h (x + 16) = some (zO 6 [.ref (x + 17), .ref (x + 18), .int (nI k), .int bi, .int es, .int rs]) ∧ h (x + 17) = some (zI G 301 fe) ∧ h (x + 18) = some (zI G 301 fc) ∧ (k ≠ 0 → bi = z 3 ∧ es = z 4 ∧ rs = z 5) ∧ ∀ i, i < k → fe i = nI (XX i) ∧ fc i = zfi (F i) ∧ ∀ j, F i = some j → j ≤ 4
def zpW (h : zH) (x : Nat) : Prop := ∃ v1 v2 v3 v4 v5, h (x + 43) = some (zO 9 [.ref (x + 3), v1, v2, v3, v4, v5])
def zpD (G : zC) (h : zH) (x : Nat) : Prop := ∃ v1 v2 v3 v4 v6 v7 v8 f, h (x + 44) = some (zO 7 [.ref (x + 45), v1, v2, v3, v4, .ref (x + 3), v6, v7]) ∧ h (x + 45) = some (zO 5 [.ref (x + 46), v8]) ∧ h (x + 46) = some (zI G 2484 f)
def zCS (G : zC) (h : zH) (n x b t rn : Nat) (o rm : Nat) (a tx : Nat → Nat) (gg : Nat → Int32) (rx : Nat → Nat) (M : Nat → zMs) (z : Nat → Int32) (XX : Nat → Nat) (F : Nat → Option Nat) : Prop := ∃ (rO tO rM tM : Nat) (tr : Int32) (kt : Nat) (rt : Nat → Nat) (Nt : zMs), h x = some (zO 10 (zobj x o rm (a 3) z rO tO rM tM tr)) ∧ ((rO = x + 5 ∧ tO = x + 7) ∨ (rO = x + 7 ∧ tO = x + 5)) ∧ ((rM = x + 27 ∧ tM = x + 35) ∨ (rM = x + 35 ∧ tM = x + 27)) ∧ x + 47 ≤ b ∧ b ≤ n ∧ kt ≤ 300 ∧ zpR G h (x + 1) (a 0) tx ∧ zpO G h x (a 1) gg ∧ zpR G h rO (a 2) rx ∧ zpR G h tO kt rt ∧ zpM G h (x + 19) o rm (M 0) ∧ zpM G h rM o rm (M 1) ∧ zpM G h tM o rm Nt ∧ zpS G h n x b t o rm (a 3) M ∧ zpL G h x rn ∧ zpE h x ∧ zpP G h x (a 4) z XX F ∧ zpW h x ∧ zpD G h x
def zfrm (x b : Nat) (h h' : zH) : Prop := ∀ q, x + 47 ≤ q → q < b → h' q = h q
theorem zpR.cg {G : zC} {h h' : zH} {p k : Nat} {rx : Nat → Nat} (H : zpR G h p k rx) (e1 : h' p = h p) (e2 : h' (p + 1) = h (p + 1)) : zpR G h' p k rx := ⟨e1.trans H.1, H.2.imp fun f hf => ⟨e2.trans hf.1, hf.2⟩⟩
theorem zpO.cg {G : zC} {h h' : zH} {x k : Nat} {gg : Nat → Int32} (H : zpO G h x k gg) (e1 : h' (x + 3) = h (x + 3)) (e2 : h' (x + 4) = h (x + 4)) : zpO G h' x k gg := ⟨e1.trans H.1, e2.trans H.2⟩
theorem zpM.cg {G : zC} {h h' : zH} {k o rm : Nat} {M : zMs} (H : zpM G h k o rm M) (e : ∀ q, k ≤ q → q < k + 8 → h' q = h q) : zpM G h' k o rm M := zMod.to H (fun q hq => e q (zmk_aw.mp hq).1 (zmk_aw.mp hq).2)
theorem zpS.cg {G : zC} {h h' : zH} {n n' x b t o rm k0 : Nat} {M : Nat → zMs} (H : zpS G h n x b t o rm k0 M) (e1 : h' (x + 9) = h (x + 9)) (e2 : ∀ q, b ≤ q → h' q = h q) (hn : n ≤ n') : zpS G h' n' x b t o rm k0 M := by
  obtain ⟨mc, e, k, f, sm, N, s1, s2, s3, s4, s5, s6, s7, s8⟩ := H
  refine ⟨mc, e, k, f, sm, N, e1.trans s1, s2, s3, ?_, fun i hi => ?_, s6, s7, s8⟩
  · rcases s4 with s4 | ⟨s4, s9, s10⟩
    · exact Or.inl s4
    · exact Or.inr ⟨(e2 e s9).trans s4, s9, by omega⟩
  · obtain ⟨y1, y2, y3, y4⟩ := s5 i hi
    exact ⟨y1, y2, by omega, zpM.cg y4 (fun q q1 q2 => e2 q (by omega))⟩
theorem zpL.cg {G : zC} {h h' : zH} {x rn rn' : Nat} (H : zpL G h x rn) (e : ∀ q, x + 10 ≤ q → q < x + 15 → h' q = h q) (hr : rn ≤ rn') : zpL G h' x rn' := by
  obtain ⟨R, E, ex, es, fi, L, l1, l2, l3⟩ := H
  exact ⟨R, E, ex, es, fi, L, l1.to (e _ (by omega) (by omega)) (e _ (by omega) (by omega)), l2.to (e _ (by omega) (by omega)) (e _ (by omega) (by omega)) (e _ (by omega) (by omega)), by omega⟩
theorem zpE.cg {h h' : zH} {x : Nat} (H : zpE h x) (e : h' (x + 15) = h (x + 15)) : zpE h' x := by
  obtain ⟨v0, v1, w⟩ := H
  exact ⟨v0, v1, e.trans w⟩
theorem zpP.cg {G : zC} {h h' : zH} {x k : Nat} {z : Nat → Int32} {XX : Nat → Nat} {F : Nat → Option Nat} (H : zpP G h x k z XX F) (e : ∀ q, x + 16 ≤ q → q < x + 19 → h' q = h q) : zpP G h' x k z XX F := by
  obtain ⟨fe, fc, bi, es, rs, w1, w2, w3, w4, w5⟩ := H
  exact ⟨fe, fc, bi, es, rs, (e _ (by omega) (by omega)).trans w1, (e _ (by omega) (by omega)).trans w2, (e _ (by omega) (by omega)).trans w3, w4, w5⟩
theorem zpW.cg {h h' : zH} {x : Nat} (H : zpW h x) (e : h' (x + 43) = h (x + 43)) : zpW h' x := by
  obtain ⟨v1, v2, v3, v4, v5, w⟩ := H
  exact ⟨v1, v2, v3, v4, v5, e.trans w⟩
theorem zpD.cg {G : zC} {h h' : zH} {x : Nat} (H : zpD G h x) (e : ∀ q, x + 44 ≤ q → q < x + 47 → h' q = h q) : zpD G h' x := by
  obtain ⟨v1, v2, v3, v4, v6, v7, v8, f, w1, w2, w3⟩ := H
  exact ⟨v1, v2, v3, v4, v6, v7, v8, f, (e _ (by omega) (by omega)).trans w1, (e _ (by omega) (by omega)).trans w2, (e _ (by omega) (by omega)).trans w3⟩
theorem zCS.cg {G : zC} {h h' : zH} {n n' x b t rn rn' : Nat} {o rm : Nat} {a tx : Nat → Nat} {gg : Nat → Int32} {rx : Nat → Nat} {M : Nat → zMs} {z : Nat → Int32} {XX : Nat → Nat} {F : Nat → Option Nat} (H : zCS G h n x b t rn o rm a tx gg rx M z XX F) (hE : ∀ q, ((x ≤ q ∧ q < x + 47) ∨ b ≤ q) → h' q = h q) (hn : n ≤ n') (hr : rn ≤ rn') : zCS G h' n' x b t rn' o rm a tx gg rx M z XX F := by
  obtain ⟨rO, tO, rM, tM, tr, kt, rt, Nt, c0, cO, cM, cb, cn, ck, pT, pO, pR, pU, pA, pB, pN, pS, pL, pE, pP, pW, pD⟩ := H
  rcases cO with ⟨rfl, rfl⟩ | ⟨rfl, rfl⟩ <;> rcases cM with ⟨rfl, rfl⟩ | ⟨rfl, rfl⟩
  · exact ⟨_, _, _, _, tr, kt, rt, Nt, ((hE _ (by omega)).trans c0), Or.inl ⟨rfl, rfl⟩, Or.inl ⟨rfl, rfl⟩, cb, (by omega), ck, (pT.cg (hE _ (by omega)) (hE _ (by omega))), (pO.cg (hE _ (by omega)) (hE _ (by omega))), (pR.cg (hE _ (by omega)) (hE _ (by omega))), (pU.cg (hE _ (by omega)) (hE _ (by omega))), (zpM.cg pA (fun q z1 z2 => hE q (by omega))), (zpM.cg pB (fun q z1 z2 => hE q (by omega))), (zpM.cg pN (fun q z1 z2 => hE q (by omega))), (pS.cg (hE _ (by omega)) (fun q z1 => hE q (by omega)) hn), (pL.cg (fun q z1 z2 => hE q (by omega)) (by omega)), (pE.cg (hE _ (by omega))), (pP.cg (fun q z1 z2 => hE q (by omega))), (pW.cg (hE _ (by omega))), (pD.cg (fun q z1 z2 => hE q (by omega)))⟩
  · exact ⟨_, _, _, _, tr, kt, rt, Nt, ((hE _ (by omega)).trans c0), Or.inl ⟨rfl, rfl⟩, Or.inr ⟨rfl, rfl⟩, cb, (by omega), ck, (pT.cg (hE _ (by omega)) (hE _ (by omega))), (pO.cg (hE _ (by omega)) (hE _ (by omega))), (pR.cg (hE _ (by omega)) (hE _ (by omega))), (pU.cg (hE _ (by omega)) (hE _ (by omega))), (zpM.cg pA (fun q z1 z2 => hE q (by omega))), (zpM.cg pB (fun q z1 z2 => hE q (by omega))), (zpM.cg pN (fun q z1 z2 => hE q (by omega))), (pS.cg (hE _ (by omega)) (fun q z1 => hE q (by omega)) hn), (pL.cg (fun q z1 z2 => hE q (by omega)) (by omega)), (pE.cg (hE _ (by omega))), (pP.cg (fun q z1 z2 => hE q (by omega))), (pW.cg (hE _ (by omega))), (pD.cg (fun q z1 z2 => hE q (by omega)))⟩
  · exact ⟨_, _, _, _, tr, kt, rt, Nt, ((hE _ (by omega)).trans c0), Or.inr ⟨rfl, rfl⟩, Or.inl ⟨rfl, rfl⟩, cb, (by omega), ck, (pT.cg (hE _ (by omega)) (hE _ (by omega))), (pO.cg (hE _ (by omega)) (hE _ (by omega))), (pR.cg (hE _ (by omega)) (hE _ (by omega))), (pU.cg (hE _ (by omega)) (hE _ (by omega))), (zpM.cg pA (fun q z1 z2 => hE q (by omega))), (zpM.cg pB (fun q z1 z2 => hE q (by omega))), (zpM.cg pN (fun q z1 z2 => hE q (by omega))), (pS.cg (hE _ (by omega)) (fun q z1 => hE q (by omega)) hn), (pL.cg (fun q z1 z2 => hE q (by omega)) (by omega)), (pE.cg (hE _ (by omega))), (pP.cg (fun q z1 z2 => hE q (by omega))), (pW.cg (hE _ (by omega))), (pD.cg (fun q z1 z2 => hE q (by omega)))⟩
  · exact ⟨_, _, _, _, tr, kt, rt, Nt, ((hE _ (by omega)).trans c0), Or.inr ⟨rfl, rfl⟩, Or.inr ⟨rfl, rfl⟩, cb, (by omega), ck, (pT.cg (hE _ (by omega)) (hE _ (by omega))), (pO.cg (hE _ (by omega)) (hE _ (by omega))), (pR.cg (hE _ (by omega)) (hE _ (by omega))), (pU.cg (hE _ (by omega)) (hE _ (by omega))), (zpM.cg pA (fun q z1 z2 => hE q (by omega))), (zpM.cg pB (fun q z1 z2 => hE q (by omega))), (zpM.cg pN (fun q z1 z2 => hE q (by omega))), (pS.cg (hE _ (by omega)) (fun q z1 => hE q (by omega)) hn), (pL.cg (fun q z1 z2 => hE q (by omega)) (by omega)), (pE.cg (hE _ (by omega))), (pP.cg (fun q z1 z2 => hE q (by omega))), (pW.cg (hE _ (by omega))), (pD.cg (fun q z1 z2 => hE q (by omega)))⟩
theorem zCS.mono {G : zC} {h : zH} {n x b t rn rn' : Nat} {o rm : Nat} {a tx : Nat → Nat} {gg : Nat → Int32} {rx : Nat → Nat} {M : Nat → zMs} {z : Nat → Int32} {XX : Nat → Nat} {F : Nat → Option Nat} (H : zCS G h n x b t rn o rm a tx gg rx M z XX F) (hr : rn ≤ rn') : zCS G h n x b t rn' o rm a tx gg rx M z XX F := H.cg (fun _ _ => rfl) (Nat.le_refl _) hr
theorem zhas_in {k : Nat} {i : Int32} : zhas (nI k) i = if zIn i k then 1 else 0 := by
  unfold zhas
  by_cases h1 : i < 0
  · rw [if_pos h1, if_neg (fun p => absurd h1 (Int32.not_lt.mpr p.1))]
  · rw [if_neg h1]
    by_cases h2 : nI k ≤ i
    · rw [if_pos h2, if_neg (fun p => absurd h2 (Int32.not_le.mpr p.2))]
    · rw [if_neg h2, if_pos ⟨Int32.not_lt.mp h1, Int32.not_le.mp h2⟩]
theorem zin2 {e : Int32} : zIn e 2 ↔ (e = 0 ∨ e = 1) := by
  constructor
  · intro h
    obtain ⟨j, rfl, hj⟩ := h.ex (by decide)
    have : j = 0 ∨ j = 1 := by omega
    rcases this with rfl | rfl
    · exact Or.inl rfl
    · exact Or.inr rfl
  · rintro (rfl | rfl) <;> decide
/-! its small methods -/
abbrev rX10_isEnd : Room := ⟨0, 0, 0, 0⟩
def SX10_isEnd (G : zC) : zS := fun as h n K => ∃ (e : Int32), as = [.int e] ∧ K (some (.int (if zIn e 2 then 1 else 0))) h n
set_option maxRecDepth 100000 in
theorem tX10_isEnd {G : zC} {as : List Value} {h : zH} {n : Nat} {K : zP} (hs : SX10_isEnd G as h n K) : zCt G rX10_isEnd mX10_isEnd as h n K := by
  obtain ⟨e, rfl, hK⟩ := hs
  refine zCt.of (by decide) (Nat.le_of_ble_eq_true rfl) ?_
  refine z_iload_n dX10_isEnd_0 rfl ?_
  refine z_if_eq (t := 9) dX10_isEnd_1 (by decide) (fun q1 => ?_) (fun q1 => ?_)
  · refine z_iconst (w := 1) dX10_isEnd_9 (by decide) ?_
    refine z_goto (t := 14) dX10_isEnd_10 (by decide) ?_
    refine z_ireturn dX10_isEnd_14 (by first | exact Or.inl rfl | exact Or.inr rfl | simp) (Nat.le_of_ble_eq_true rfl) (Nat.le_of_ble_eq_true rfl) ?_
    first | (rw [if_pos (zin2.mpr (Or.inl q1))] at hK; exact hK) | (rw [if_pos (zin2.mpr (Or.inr q6))] at hK; exact hK) | (rw [if_neg (fun p => (zin2.mp p).elim q1 q6)] at hK; exact hK)
  · refine z_iload_n dX10_isEnd_4 rfl ?_
    refine z_iconst (w := 1) dX10_isEnd_5 (by decide) ?_
    refine z_icmp_ne (t := 13) dX10_isEnd_6 (by decide) (fun q6 => ?_) (fun q6 => ?_)
    · refine z_iconst (w := 0) dX10_isEnd_13 (by decide) ?_
      refine z_ireturn dX10_isEnd_14 (by first | exact Or.inl rfl | exact Or.inr rfl | simp) (Nat.le_of_ble_eq_true rfl) (Nat.le_of_ble_eq_true rfl) ?_
      first | (rw [if_pos (zin2.mpr (Or.inl q1))] at hK; exact hK) | (rw [if_pos (zin2.mpr (Or.inr q6))] at hK; exact hK) | (rw [if_neg (fun p => (zin2.mp p).elim q1 q6)] at hK; exact hK)
    · refine z_iconst (w := 1) dX10_isEnd_9 (by decide) ?_
      refine z_goto (t := 14) dX10_isEnd_10 (by decide) ?_
      refine z_ireturn dX10_isEnd_14 (by first | exact Or.inl rfl | exact Or.inr rfl | simp) (Nat.le_of_ble_eq_true rfl) (Nat.le_of_ble_eq_true rfl) ?_
      first | (rw [if_pos (zin2.mpr (Or.inl q1))] at hK; exact hK) | (rw [if_pos (zin2.mpr (Or.inr q6))] at hK; exact hK) | (rw [if_neg (fun p => (zin2.mp p).elim q1 q6)] at hK; exact hK)
abbrev rX10_isRow : Room := ⟨0, 0, 0, 0⟩
def SX10_isRow (G : zC) : zS := fun as h n K => ∃ (e : Int32), as = [.int e] ∧ K (some (.int (if zIn e 3 then 1 else 0))) h n
set_option maxRecDepth 100000 in
theorem tX10_isRow {G : zC} {as : List Value} {h : zH} {n : Nat} {K : zP} (hs : SX10_isRow G as h n K) : zCt G rX10_isRow mX10_isRow as h n K := by
  obtain ⟨e, rfl, hK⟩ := hs
  refine zCt.of (by decide) (Nat.le_of_ble_eq_true rfl) ?_
  refine z_iload_n dX10_isRow_0 rfl ?_
  refine z_if_lt (t := 13) dX10_isRow_1 (by decide) (fun q1 => ?_) (fun q1 => ?_)
  · refine z_iconst (w := 0) dX10_isRow_13 (by decide) ?_
    refine z_ireturn dX10_isRow_14 (by first | exact Or.inl rfl | exact Or.inr rfl | simp) (Nat.le_of_ble_eq_true rfl) (Nat.le_of_ble_eq_true rfl) ?_
    first | (rw [if_neg (fun p => absurd q1 (Int32.not_lt.mpr p.1))] at hK; exact hK) | (rw [if_neg (fun p => absurd q6 (Int32.not_lt.mpr ((zin_le (u := 2) (by decide)).mpr p).2))] at hK; exact hK) | (rw [if_pos ((zin_le (u := 2) (by decide)).mp ⟨Int32.not_lt.mp q1, Int32.not_lt.mp q6⟩)] at hK; exact hK)
  · refine z_iload_n dX10_isRow_4 rfl ?_
    refine z_iconst (w := 2) dX10_isRow_5 (by decide) ?_
    refine z_icmp_gt (t := 13) dX10_isRow_6 (by decide) (fun q6 => ?_) (fun q6 => ?_)
    · refine z_iconst (w := 0) dX10_isRow_13 (by decide) ?_
      refine z_ireturn dX10_isRow_14 (by first | exact Or.inl rfl | exact Or.inr rfl | simp) (Nat.le_of_ble_eq_true rfl) (Nat.le_of_ble_eq_true rfl) ?_
      first | (rw [if_neg (fun p => absurd q1 (Int32.not_lt.mpr p.1))] at hK; exact hK) | (rw [if_neg (fun p => absurd q6 (Int32.not_lt.mpr ((zin_le (u := 2) (by decide)).mpr p).2))] at hK; exact hK) | (rw [if_pos ((zin_le (u := 2) (by decide)).mp ⟨Int32.not_lt.mp q1, Int32.not_lt.mp q6⟩)] at hK; exact hK)
    · refine z_iconst (w := 1) dX10_isRow_9 (by decide) ?_
      refine z_goto (t := 14) dX10_isRow_10 (by decide) ?_
      refine z_ireturn dX10_isRow_14 (by first | exact Or.inl rfl | exact Or.inr rfl | simp) (Nat.le_of_ble_eq_true rfl) (Nat.le_of_ble_eq_true rfl) ?_
      first | (rw [if_neg (fun p => absurd q1 (Int32.not_lt.mpr p.1))] at hK; exact hK) | (rw [if_neg (fun p => absurd q6 (Int32.not_lt.mpr ((zin_le (u := 2) (by decide)).mpr p).2))] at hK; exact hK) | (rw [if_pos ((zin_le (u := 2) (by decide)).mp ⟨Int32.not_lt.mp q1, Int32.not_lt.mp q6⟩)] at hK; exact hK)
abbrev rX10_isByte : Room := ⟨0, 0, 0, 0⟩
def SX10_isByte (G : zC) : zS := fun as h n K => ∃ (e : Int32), as = [.int e] ∧ K (some (.int (if zIn e 256 then 1 else 0))) h n
set_option maxRecDepth 100000 in
theorem tX10_isByte {G : zC} {as : List Value} {h : zH} {n : Nat} {K : zP} (hs : SX10_isByte G as h n K) : zCt G rX10_isByte mX10_isByte as h n K := by
  obtain ⟨e, rfl, hK⟩ := hs
  refine zCt.of (by decide) (Nat.le_of_ble_eq_true rfl) ?_
  refine z_iload_n dX10_isByte_0 rfl ?_
  refine z_if_lt (t := 15) dX10_isByte_1 (by decide) (fun q1 => ?_) (fun q1 => ?_)
  · refine z_iconst (w := 0) dX10_isByte_15 (by decide) ?_
    refine z_ireturn dX10_isByte_16 (by first | exact Or.inl rfl | exact Or.inr rfl | simp) (Nat.le_of_ble_eq_true rfl) (Nat.le_of_ble_eq_true rfl) ?_
    first | (rw [if_neg (fun p => absurd q1 (Int32.not_lt.mpr p.1))] at hK; exact hK) | (rw [if_neg (fun p => absurd q8 (Int32.not_le.mpr p.2))] at hK; exact hK) | (rw [if_pos ⟨Int32.not_lt.mp q1, Int32.not_le.mp q8⟩] at hK; exact hK)
  · refine z_iload_n dX10_isByte_4 rfl ?_
    refine z_sipush (w := 256) dX10_isByte_5 (by decide) ?_
    refine z_icmp_ge (t := 15) dX10_isByte_8 (by decide) (fun q8 => ?_) (fun q8 => ?_)
    · refine z_iconst (w := 0) dX10_isByte_15 (by decide) ?_
      refine z_ireturn dX10_isByte_16 (by first | exact Or.inl rfl | exact Or.inr rfl | simp) (Nat.le_of_ble_eq_true rfl) (Nat.le_of_ble_eq_true rfl) ?_
      first | (rw [if_neg (fun p => absurd q1 (Int32.not_lt.mpr p.1))] at hK; exact hK) | (rw [if_neg (fun p => absurd q8 (Int32.not_le.mpr p.2))] at hK; exact hK) | (rw [if_pos ⟨Int32.not_lt.mp q1, Int32.not_le.mp q8⟩] at hK; exact hK)
    · refine z_iconst (w := 1) dX10_isByte_11 (by decide) ?_
      refine z_goto (t := 16) dX10_isByte_12 (by decide) ?_
      refine z_ireturn dX10_isByte_16 (by first | exact Or.inl rfl | exact Or.inr rfl | simp) (Nat.le_of_ble_eq_true rfl) (Nat.le_of_ble_eq_true rfl) ?_
      first | (rw [if_neg (fun p => absurd q1 (Int32.not_lt.mpr p.1))] at hK; exact hK) | (rw [if_neg (fun p => absurd q8 (Int32.not_le.mpr p.2))] at hK; exact hK) | (rw [if_pos ⟨Int32.not_lt.mp q1, Int32.not_le.mp q8⟩] at hK; exact hK)
abbrev rX10_model : Room := ⟨0, 0, 0, 0⟩
def SX10_model (G : zC) : zS := fun as h n K => ∃ (x wm rM : Nat) (e : Int32) (w0 w1 w2 w3 w4 w5 w6 w7 w8 w9 w10 w11 w12 w13 w14 w15 w16 w17 w18 w19 : Value), as = [.ref x, .int e] ∧ h x = some (zO 10 [w0, w1, w2, w3, w4, w5, .ref wm, .ref rM, w8, w9, w10, w11, w12, w13, w14, w15, w16, w17, w18, w19]) ∧ K (some (.ref (if e = 0 then wm else rM))) h n
set_option maxRecDepth 100000 in
theorem tvX10_model {G : zC} {as : List Value} {h : zH} {n : Nat} {K : zP} (hs : SX10_model G as h n K) : (∃ b fs r, as = .ref b :: r ∧ h b = some (.inr (10, fs))) ∧ zCt G rX10_model mX10_model as h n K := by
  obtain ⟨x, wm, rM, e, w0, w1, w2, w3, w4, w5, w6, w7, w8, w9, w10, w11, w12, w13, w14, w15, w16, w17, w18, w19, rfl, hk, hK⟩ := hs
  refine ⟨⟨_, _, _, rfl, hk⟩, zCt.of (by decide) (Nat.le_of_ble_eq_true rfl) ?_⟩
  refine z_iload_n dX10_model_0 rfl ?_
  refine z_if_ne (t := 11) dX10_model_1 (by decide) (fun q1 => ?_) (fun q1 => ?_)
  · refine z_aload_n dX10_model_11 rfl ?_
    refine z_getfield dX10_model_12 fX10_83_10 rfl (by first | assumption | exact zget_eq | exact zget_ne (by first | assumption | exact Ne.symm (by assumption) | omega) (by first | assumption | exact zget_eq | exact zget_ne (by first | assumption | exact Ne.symm (by assumption) | omega) (by first | assumption | exact zget_eq | exact zget_ne (by first | assumption | exact Ne.symm (by assumption) | omega) (by first | assumption | exact zget_eq)))) rfl ?_
    refine z_areturn dX10_model_15 rfl (Nat.le_of_ble_eq_true rfl) (Nat.le_of_ble_eq_true rfl) ?_
    first | (rw [if_pos q1] at hK; exact hK) | (rw [if_neg q1] at hK; exact hK)
  · refine z_aload_n dX10_model_4 rfl ?_
    refine z_getfield dX10_model_5 fX10_79_10 rfl (by first | assumption | exact zget_eq | exact zget_ne (by first | assumption | exact Ne.symm (by assumption) | omega) (by first | assumption | exact zget_eq | exact zget_ne (by first | assumption | exact Ne.symm (by assumption) | omega) (by first | assumption | exact zget_eq | exact zget_ne (by first | assumption | exact Ne.symm (by assumption) | omega) (by first | assumption | exact zget_eq)))) rfl ?_
    refine z_goto (t := 15) dX10_model_8 (by decide) ?_
    refine z_areturn dX10_model_15 rfl (Nat.le_of_ble_eq_true rfl) (Nat.le_of_ble_eq_true rfl) ?_
    first | (rw [if_pos q1] at hK; exact hK) | (rw [if_neg q1] at hK; exact hK)
abbrev rX10_row : Room := ⟨0, 0, 0, 0⟩
def SX10_row (G : zC) : zS := fun as h n K => ∃ (x r0 r1 r2 : Nat) (e : Int32) (w0 w1 w2 w3 w4 w5 w6 w7 w8 w9 w10 w11 w12 w13 w14 w15 w16 w17 w18 w19 : Value), as = [.ref x, .int e] ∧ h x = some (zO 10 [w0, w1, .ref r0, .ref r1, .ref r2, w5, w6, w7, w8, w9, w10, w11, w12, w13, w14, w15, w16, w17, w18, w19]) ∧ K (some (.ref (if e = 0 then r0 else if e = 1 then r1 else r2))) h n
set_option maxRecDepth 100000 in
theorem tvX10_row {G : zC} {as : List Value} {h : zH} {n : Nat} {K : zP} (hs : SX10_row G as h n K) : (∃ b fs r, as = .ref b :: r ∧ h b = some (.inr (10, fs))) ∧ zCt G rX10_row mX10_row as h n K := by
  obtain ⟨x, r0, r1, r2, e, w0, w1, w2, w3, w4, w5, w6, w7, w8, w9, w10, w11, w12, w13, w14, w15, w16, w17, w18, w19, rfl, hk, hK⟩ := hs
  refine ⟨⟨_, _, _, rfl, hk⟩, zCt.of (by decide) (Nat.le_of_ble_eq_true rfl) ?_⟩
  refine z_iload_n dX10_row_0 rfl ?_
  refine z_if_ne (t := 9) dX10_row_1 (by decide) (fun q1 => ?_) (fun q1 => ?_)
  · refine z_iload_n dX10_row_9 rfl ?_
    refine z_iconst (w := 1) dX10_row_10 (by decide) ?_
    refine z_icmp_ne (t := 21) dX10_row_11 (by decide) (fun q11 => ?_) (fun q11 => ?_)
    · refine z_aload_n dX10_row_21 rfl ?_
      refine z_getfield dX10_row_22 fX10_21_10 rfl (by first | assumption | exact zget_eq | exact zget_ne (by first | assumption | exact Ne.symm (by assumption) | omega) (by first | assumption | exact zget_eq | exact zget_ne (by first | assumption | exact Ne.symm (by assumption) | omega) (by first | assumption | exact zget_eq | exact zget_ne (by first | assumption | exact Ne.symm (by assumption) | omega) (by first | assumption | exact zget_eq)))) rfl ?_
      refine z_areturn dX10_row_25 rfl (Nat.le_of_ble_eq_true rfl) (Nat.le_of_ble_eq_true rfl) ?_
      first | (rw [if_pos q1] at hK; exact hK) | (rw [if_neg q1, if_pos q11] at hK; exact hK) | (rw [if_neg q1, if_neg q11] at hK; exact hK)
    · refine z_aload_n dX10_row_14 rfl ?_
      refine z_getfield dX10_row_15 fX10_18_10 rfl (by first | assumption | exact zget_eq | exact zget_ne (by first | assumption | exact Ne.symm (by assumption) | omega) (by first | assumption | exact zget_eq | exact zget_ne (by first | assumption | exact Ne.symm (by assumption) | omega) (by first | assumption | exact zget_eq | exact zget_ne (by first | assumption | exact Ne.symm (by assumption) | omega) (by first | assumption | exact zget_eq)))) rfl ?_
      refine z_goto (t := 25) dX10_row_18 (by decide) ?_
      refine z_areturn dX10_row_25 rfl (Nat.le_of_ble_eq_true rfl) (Nat.le_of_ble_eq_true rfl) ?_
      first | (rw [if_pos q1] at hK; exact hK) | (rw [if_neg q1, if_pos q11] at hK; exact hK) | (rw [if_neg q1, if_neg q11] at hK; exact hK)
  · refine z_aload_n dX10_row_4 rfl ?_
    refine z_getfield dX10_row_5 fX10_14_10 rfl (by first | assumption | exact zget_eq | exact zget_ne (by first | assumption | exact Ne.symm (by assumption) | omega) (by first | assumption | exact zget_eq | exact zget_ne (by first | assumption | exact Ne.symm (by assumption) | omega) (by first | assumption | exact zget_eq | exact zget_ne (by first | assumption | exact Ne.symm (by assumption) | omega) (by first | assumption | exact zget_eq)))) rfl ?_
    refine z_areturn dX10_row_8 rfl (Nat.le_of_ble_eq_true rfl) (Nat.le_of_ble_eq_true rfl) ?_
    first | (rw [if_pos q1] at hK; exact hK) | (rw [if_neg q1, if_pos q11] at hK; exact hK) | (rw [if_neg q1, if_neg q11] at hK; exact hK)
abbrev rX10_clear : Room := ⟨1, 0, 0, 40⟩
def SX10_clear (G : zC) : zS := fun as h n K => ∃ (x b t rn : Nat) (o rm : Nat) (a tx : Nat → Nat) (gg : Nat → Int32) (rx : Nat → Nat) (M : Nat → zMs) (z : Nat → Int32) (XX : Nat → Nat) (F : Nat → Option Nat), as = [.ref x] ∧ zOkS o rm a tx M ∧ zCS G h n x b t rn o rm a tx gg rx M z XX F ∧ rn ≤ 100000 ∧ ∀ h' n', zCS G h' n' x b t (rn + 302) o rm (va_up a 0 0) tx gg rx M z XX F → zfrm x b h h' → n ≤ n' → K (some (.int (nI (a 0)))) h' n'
set_option maxRecDepth 100000 in
theorem tvX10_clear {G : zC} {as : List Value} {h : zH} {n : Nat} {K : zP} (hs : SX10_clear G as h n K) : (∃ b fs r, as = .ref b :: r ∧ h b = some (.inr (10, fs))) ∧ zCt G rX10_clear mX10_clear as h n K := by
  obtain ⟨x, b, t, rn, o, rm, a, tx, gg, rx, M, z, XX, F, rfl, hB, hC, hrn, hK⟩ := hs
  have hC0 := hC
  obtain ⟨b1, b2, b3, b4, b5, b6, b7, b8, btx, bM⟩ := hB
  obtain ⟨rO, tO, rM, tM, tr, kt, rt, Nt, c0, cO, cM, cb, cn, ck, pT, pO, pR, pU, pA, pB, pN, pS, pL, pE, pP, pW, pD⟩ := hC
  refine ⟨⟨_, _, _, rfl, c0⟩, zCt.of (by decide) (Nat.le_of_ble_eq_true rfl) ?_⟩
  refine z_aload_n dX10_clear_0 rfl ?_
  refine z_getfield dX10_clear_1 fX10_14_10 rfl c0 rfl ?_
  refine zcall1 (zck_V (na := 0) (ci := 5) (R' := rX4_many) (M' := mX4_many) (fun _ _ _ _ => tvX4_many) (by decide) kX4_many lX10_107 (by decide +kernel) rfl) dX10_clear_4 (Nat.le_of_ble_eq_true rfl) (Nat.le_of_ble_eq_true rfl) (Nat.le_of_ble_eq_true rfl) ?_
  refine ⟨_, _, _, rfl, pT.1, ?_⟩
  refine z_istore_n dX10_clear_7 (Nat.le_of_ble_eq_true rfl) ?_
  refine z_aload_n dX10_clear_8 rfl ?_
  refine z_getfield dX10_clear_9 fX10_14_10 rfl c0 rfl ?_
  refine z_iconst (w := 0) dX10_clear_12 (by decide) ?_
  refine zcall2 (zck_V (na := 1) (ci := 5) (R' := rX4_keepFirst) (M' := mX4_keepFirst) (fun _ _ _ _ => tvX4_keepFirst) (by decide) kX4_keepFirst lX10_111 (by decide +kernel) rfl) dX10_clear_13 (Nat.le_of_ble_eq_true rfl) (Nat.le_of_ble_eq_true rfl) (Nat.le_of_ble_eq_true rfl) ?_
  refine ⟨_, _, _, _, rfl, pT.1, fun h1 g1 g2 => ?_⟩
  have hE : ∀ q, ¬ q = x + 1 → h1 q = h q := fun q hq => g2 q hq
  refine z_iload_n dX10_clear_16 rfl ?_
  refine z_ireturn dX10_clear_17 trivial (Nat.le_of_ble_eq_true rfl) (Nat.le_of_ble_eq_true rfl) ?_
  exact hK h1 n ⟨rO, tO, rM, tM, tr, kt, rt, Nt, ((hE _ (by omega)).trans c0), cO, cM, cb, cn, ck, ⟨g1, pT.2.imp fun f hf => ⟨(hE _ (by omega)).trans hf.1, fun i hi => absurd hi (Nat.not_lt_zero _)⟩⟩, (pO.cg (hE _ (by omega)) (hE _ (by omega))), (pR.cg (hE _ (by omega)) (hE _ (by omega))), (pU.cg (hE _ (by omega)) (hE _ (by omega))), (zpM.cg pA (fun q z1 z2 => hE q (by omega))), (zpM.cg pB (fun q z1 z2 => hE q (by omega))), (zpM.cg pN (fun q z1 z2 => hE q (by omega))), (pS.cg (hE _ (by omega)) (fun q z1 => hE q (by omega)) (Nat.le_refl _)), (pL.cg (fun q z1 z2 => hE q (by omega)) (by omega)), (pE.cg (hE _ (by omega))), (pP.cg (fun q z1 z2 => hE q (by omega))), (pW.cg (hE _ (by omega))), (pD.cg (fun q z1 z2 => hE q (by omega)))⟩ (fun q z1 z2 => hE q (by omega)) (Nat.le_refl _)

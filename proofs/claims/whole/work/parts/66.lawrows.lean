/-! the law: its rows, its state -/
abbrev mL_law : zM := (yL_law, cL_law, 7, some .boolean)
def zYl (G : zC) (b0 L : Nat) (xs : Nat → Int32) (t ms : Nat) : zHy := fun B U => zYx b0 L xs B U ∧ zSt G t B U U.heap ∧ zYt ms B U
abbrev zXl (G : zC) (b0 N0 L : Nat) (xs : Nat → Int32) (t ms : Nat) : zX := zXh G room_1 mL_law [.ref b0] (fun _ => none) N0 (zYl G b0 L xs t ms) (fun s below => lw_Z below #[Value.ref b0] s)
theorem z_lret {G : zC} {b0 N0 L : Nat} {xs : Nat → Int32} {t ms pc n c s : Nat} {lv : List (Nat × Value)} {h : zH} (hd : decode code pc = .ok (.ireturn, 1)) (hc : c ≤ 600128) (hs : s ≤ 7301064) : zZ (zXl G b0 N0 L xs t ms) pc lv [.int 1] h n c s := by
  refine zZ.toH ?_
  intro p e s0 m below meth c0 H locs ls hF h1 h2 h3 h4 h5 h6
  refine va_forget (fun q hq => ?_) ?_
  · rcases h5.2.2 q hq with h | h
    · exact absurd rfl h
    · rw [h1]; exact h
  · refine W.widen hc hs ?_
    exact lw_ret hF.1 hF.2.1 hF.2.2.1 hF.2.2.2.2.2.2.1 hd
theorem z_newj {X : zX} {pc : Nat} {lv : List (Nat × Value)} {st : List Value} {h : zH} {n c s : Nat} {x : Int32} (hd : decode (zxM X).2.1 pc = .ok (.newarray .long, 2)) (hw : Cond.arrayClass .long ∈ zT) (hx : ¬ x < 0) (hb : x.toNatClampNeg ≤ 1000000) (hc : c + 1 ≤ (zxR X).cells) (hs : s + x.toNatClampNeg ≤ (zxR X).slots) (k : zZ X (pc + 2) lv (.ref n :: st) (va_up h n (some (zJ (zxG X) x.toNatClampNeg (fun _ => 0)))) (n + 1) (c + 1) (s + x.toNatClampNeg)) : zZ X pc lv (.int x :: st) h n c s := by
  intro p e s0 m below meth c0 H locs ls hF h1 h2 h3 h4 h5 h6
  subst h2
  refine va_newaK (atype := .long) hF.1 hF.2.1 (hF.2.2.2.2.2.1 _ hw) rfl hd rfl hx rfl (by show _ * 8 ≤ _; omega) hc hs rfl fun H1 cA e1 z1 o1 hAr hNm => ?_
  have hcA : cA = (zxG X).2.2.2.2.2 := by
    have q : s0.vm.findClass ("[" ++ FieldType.long.toString) = some (zxG X).2.2.2.2.2 := (hF.K.1.2 3 _ rfl).2
    exact Option.some.inj (hNm.symm.trans q)
  subst hcA
  exact k p e s0 m below meth c0 H1 locs ls hF h1 z1 (zW.push h3 o1 e1) (zA_push h4 h1 h5) (zS_push h5 z1 o1) h6
section zCallsW
variable {G : zC} {R : Room} {M : zM} {args : List Value} {h0 : zH} {n0 : Nat} {Y Y' : zHy} {Q : State → List Frame → State → Prop} {R' : Room} {M' : zM} {S : zS} {idx na : Nat}
set_option maxHeartbeats 1000000 in
theorem zck_Sw (hr : zRide G Y Y') (hbl : zBlind Y') (hS : ∀ as h n K, S as h n K → zCw G Y' R' M' as h n K) (hc : Cond.codeWith M'.1 M'.2.1 M'.2.2.1 M'.2.2.2 zHh ∈ zT) (hw : zall [.methodLink M.1.cls idx M'.1, .static M'.1, .initialized M'.1.cls] = true) (hn : znd M'.1 na = true) (hR : zroom R' R M'.2.2.1 = true) : zCk (zXh G R M args h0 n0 Y Q) (.invokestatic idx) na R'.cells R'.slots S := by
  intro pc lv as rest h n c s K hd hl hcc hss hcat hs kk
  refine zZ.hy fun p e s0 m below meth c0 H locs ls hF h1 h2 h3 h4 h5 h6 hst => ?_
  have hts := hF.2.2.2.2.2.1
  have w := zall_spec hw
  simp only [zroom, Bool.and_eq_true, decide_eq_true_eq] at hR
  have up : ∀ q, zA h n q → zA h0 n0 q := fun q hq => by
    rcases hq with hq | hq
    · exact h4 q hq
    · exact Or.inr (by rw [← h1]; exact Nat.le_trans h5.1 (by rw [h2]; exact hq))
  refine z_run (X := zXh G R M args h0 n0 Y Q) (a := as.toArray) (rest := rest) (post := K) (h := h) (n := n) (mc := R'.cells) (ms := R'.slots) ?_ hF h1 h2 h4 h5 h6 kk
  intro T hT XX
  have hini := hts _ (w (.initialized M'.1.cls) (by simp))
  have hK : Back G.1 R p e below s0 args.toArray M'.1 3 8 (PreOf R R'.cells R'.slots (va_Pc as (fun U => U.heap.size = n ∧ zW G h U.heap ∧ zK G U ∧ Y' (zA h n) U))) (PostOf (zQ G h K) R'.cells R'.slots (zA h n)) :=
    va_backW (hh := zHh) (bytes := M'.2.1) (maxL := M'.2.2.1) (ret := M'.2.2.2) (hS as h n K hs) (zblindH hbl) rfl rfl hR.1 hR.2 (fun w9 hw9 a' U hW => by
      rcases List.mem_cons.mp hw9 with rfl | hw9
      · exact word_at hW (zgood hc) (hts _ hc)
      · exact word_at hW (zgood hw9) (hts _ hw9)) List.mem_cons_self (fun a' U hW => word_at hW (zgood (w (.initialized M'.1.cls) (by simp))) hini)
  obtain ⟨hy1, hy2, hy3⟩ := znd_spec hn
  obtain ⟨mk, methM, cM, hnamed, hmethM, hcM, -, -, -, -, -, hsig⟩ := Cond.codeWith_spec (hts _ hc)
  have hstatic : methM.isStatic = true := Cond.static_spec hnamed hmethM (hts _ (w (.static M'.1) (by simp)))
  obtain ⟨kP, hkP, -⟩ := className_of_methodNamed hnamed
  have hinitP : kP.init = .initialized := Cond.initialized_spec (findClass_of_methodNamed hnamed) hkP hini
  have hlen : as.length = methM.sig.parameters.length := by
    rw [hsig] at hy3
    have := Option.some.inj hy3
    rw [hl]
    exact this.symm
  obtain ⟨vm₁, X₁, hstep₁⟩ := XX.invokestatic hF.1 hF.2.2.2.2.1 (hts _ (w (.methodLink M.1.cls idx M'.1) (by simp))) hnamed hmethM hstatic hkP hinitP ⟨hy1, hy2⟩ (g := F0 m pc ls (as.reverse ++ rest)) rfl (argsL := as) (rest := rest) hlen rfl (by rw [hF.2.1]; exact hd)
  have hheap : (T.setVm vm₁).heap = H := hT
  obtain ⟨v, ⟨U', l2, c2, s2⟩, X', ⟨g', mk', t, L, e1, e2, hq, hh1, hL, hh2, hh3⟩, hsteps⟩ := hK m meth c0 ⟨T.setVm vm₁, locs, c, s⟩ (F0 m pc ls rest) (.invokestatic idx) mk as.toArray X₁ rfl (by rw [hF.2.2.2.1]; exact h6.1) (by rw [hF.2.1]; exact hd) (lv_room hcat) (X₁.named hnamed)
    ⟨hcc, hss, rfl, by rw [show (Pt.U ⟨T.setVm vm₁, locs, c, s⟩).heap = H from hT]; exact h2, by rw [show (Pt.U ⟨T.setVm vm₁, locs, c, s⟩).heap = H from hT]; exact h3, zK.warm X₁.warmed hF.K, hr h0 h n0 n s0 _ locs hst h1 (by rw [show (Pt.U ⟨T.setVm vm₁, locs, c, s⟩).heap = H from hT]; exact h5) X₁.warmed (by rw [show (Pt.U ⟨T.setVm vm₁, locs, c, s⟩).heap = H from hT]; exact h3) (by rw [show (Pt.U ⟨T.setVm vm₁, locs, c, s⟩).heap = H from hT]; exact h2) up⟩
  dsimp only [Pt.U, Pt.locs, Pt.cells, Pt.slots] at X' e1 e2 hh1 hh2 hh3 hsteps
  subst hh1; subst hh2; subst hh3
  exact ⟨v, (T.setVm vm₁).calling g' mk' as.toArray, t, U', L, hT, X', hL, e1, e2, hq, fun target hh => hstep₁ _ fun acts => by rw [doInvoke_state]; exact hsteps.trans hh⟩
end zCallsW
/-! both sides' worlds beside one another -/
theorem zRh_out {G : zC} {h : zH} {m q : Nat} {v : Nat → Int32} {g : Nat → Nat → Int32} (hq : q < m ∨ m + 19 < q) : zRh G h m v g q = h q := by
  unfold zRh
  rw [if_neg (by omega), if_neg (by omega)]
theorem zRh_self {G : zC} {h h' : zH} {m : Nat} {v : Nat → Int32} {g : Nat → Nat → Int32} (e : h = zRh G h m v g) (hE : ∀ q, m ≤ q → q ≤ m + 19 → h' q = h q) : h' = zRh G h' m v g := by
  funext q
  by_cases hq : q < m ∨ m + 19 < q
  · rw [zRh_out hq]
  · rw [hE q (by omega) (by omega), congrFun e q]
    unfold zRh
    by_cases h1 : q = m
    · rw [if_pos h1, if_pos h1]
    · have h2 : m < q ∧ q ≤ m + 19 := by omega
      rw [if_neg h1, if_neg h1, if_pos h2, if_pos h2]
theorem zRh_rf {G : zC} {h : zH} {m : Nat} {v : Nat → Int32} {g : Nat → Nat → Int32} : zRh G h m v g = zRh G (zRh G h m v g) m v g := by
  funext q
  unfold zRh
  by_cases h1 : q = m
  · rw [if_pos h1, if_pos h1]
  · rw [if_neg h1, if_neg h1]
    by_cases h2 : m < q ∧ q ≤ m + 19
    · rw [if_pos h2, if_pos h2]
    · rw [if_neg h2, if_neg h2]
/-- what holds at the loop's head, k calls done -/
def zLi (G : zC) (h : zH) (n x t k : Nat) : Prop := ∃ (rn : Nat) (o rm : Nat) (a tx : Nat → Nat) (gg : Nat → Int32) (rx : Nat → Nat) (M : Nat → zMs) (z : Nat → Int32) (XX : Nat → Nat) (F : Nat → Option Nat) (v : Nat → Int32) (g : Nat → Nat → Int32) (f : Nat → Int64), zOkS o rm a tx M ∧ zCS G h n x (x + 68) t rn o rm a tx gg rx M z XX F ∧ rn ≤ 302 * k ∧ h = zRh G h (x + 47) v g ∧ zRS v g o rm a tx gg rx M z XX F ∧ h (x + 67) = some (zJ G 1 f)
abbrev zlv (b0 x i : Nat) : List (Nat × Value) := [(0, .ref b0), (1, .ref x), (2, .ref (x + 47)), (3, .ref (x + 67)), (4, .int (nI i))]
theorem zlin {i j L : Nat} (h : i + j < L) (hL : L ≤ 258) : vp_in (nI i + nI j) L := by
  rw [nI_add]
  exact vp_in_nI h (by omega)

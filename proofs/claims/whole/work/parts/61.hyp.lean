/-! walks that may lean on a fact of the state at their start -/
abbrev zHy : Type := (Nat → Prop) → State → Prop
abbrev zXh (G : zC) (R : Room) (M : zM) (args : List Value) (h0 : zH) (n0 : Nat) (Y : zHy) (Q : State → List Frame → State → Prop) : zX := (G, R, M, args, h0, n0, fun s below u => Y (zA h0 n0) s → Q s below u)
def zCh (G : zC) (Y : zHy) (R : Room) (M : zM) (args : List Value) (h : zH) (n : Nat) (post : zP) : Prop :=
  Met G.1 M.1 (zws M) R (va_Pc args (fun U => U.heap.size = n ∧ zW G h U.heap ∧ zK G U ∧ Y (zA h n) U)) (zQ G h post) R.cells R.slots (zA h n)
/-- a fact that rides along into a call -/
def zRide (G : zC) (Y Y' : zHy) : Prop := ∀ (h0 h : zH) (n0 n : Nat) (s U : State) (locs : List Loc), Y (zA h0 n0) s → s.heap.size = n0 → va_S (zA h0 n0) s.heap U.heap locs → s.WarmedH U.vm → zW G h U.heap → U.heap.size = n → (∀ q, zA h n q → zA h0 n0 q) → Y' (zA h n) U
/-- and does not look at frames -/
def zBlind (Y : zHy) : Prop := ∀ (B : Nat → Prop) (s U : State), s.vm = U.vm → s.heap = U.heap → Y B s → Y B U
section zHrows
variable {G : zC} {R : Room} {M : zM} {args : List Value} {h0 h : zH} {n0 n c s pc : Nat} {Y : zHy} {Q : State → List Frame → State → Prop} {lv : List (Nat × Value)} {st : List Value}
theorem zCh.of {post : zP} (hy : plainName M.1.cls = true) (hl : (lg_sl args).length ≤ M.2.2.1) (k : zZ (zXh G R M args h n Y (fun s below => MQ below (zQ G h post) args.toArray s R.cells R.slots (zA h n))) 0 (lv_args 0 args) [] h n 0 0) : zCh G Y R M args h n post := by
  refine Met.ofW (cc := M.2.1) (maxL := M.2.2.1) (ret := M.2.2.2) hy rfl ?_
  intro p e s m args' below meth c s₁ B hml hv
  obtain ⟨rfl, hsz, hW, hK, hst⟩ := hv
  have hts := atoms_spec (ws := zws M) B.pre
  have hl' := lv_entry args hl
  rw [lg_entry_eq]
  have k9 := k p e s m below meth c s.heap [] _ ⟨B.exec, B.bytes, B.returns, hml, findClass_of_methodNamed B.named, fun w hw => hts w (List.mem_cons_of_mem _ hw), B.notSynchronized, (name_of_methodNamed B.named B.method).1, hK⟩ hsz hsz hW (fun a ha => Or.inl ha) va_S.rf hl'
  intro T hT X
  obtain ⟨u, a1, b1⟩ := k9 T hT X
  exact ⟨u, a1, b1 hst⟩
theorem zZ.toH (k : zZ (G, R, M, args, h0, n0, Q) pc lv st h n c s) : zZ (zXh G R M args h0 n0 Y Q) pc lv st h n c s := by
  intro p e s0 m below meth c0 H locs ls hF h1 h2 h3 h4 h5 h6 T hT X
  obtain ⟨u, a1, b1⟩ := k p e s0 m below meth c0 H locs ls hF h1 h2 h3 h4 h5 h6 T hT X
  exact ⟨u, a1, fun _ => b1⟩
theorem zZ.hy (k : ∀ (p : Program) (e : Env) (s0 : State) (m : MethodId) (below : List Frame) (meth : Method) (c0 : Code) (H : Heap) (locs : List Loc) (ls : Array Slot), zF G M p s0 m args.toArray meth c0 → s0.heap.size = n0 → H.size = n → zW G h H → (∀ a, h a ≠ none → zA h0 n0 a) → va_S (zA h0 n0) s0.heap H locs → lv_has ls M.2.2.1 lv → Y (zA h0 n0) s0 →
    W p G.1 e R s0 m args.toArray below meth c0 H locs c s (zxQ (zXh G R M args h0 n0 Y Q) s0 below) (F0 m pc ls st)) : zZ (zXh G R M args h0 n0 Y Q) pc lv st h n c s := by
  intro p e s0 m below meth c0 H locs ls hF h1 h2 h3 h4 h5 h6
  by_cases hst : Y (zA h0 n0) s0
  · exact k p e s0 m below meth c0 H locs ls hF h1 h2 h3 h4 h5 h6 hst
  · intro T hT X
    exact ⟨_, Steps.refl _, fun z => absurd z hst⟩
end zHrows
theorem zblindH {G : zC} {Y : zHy} (hY : zBlind Y) {h : zH} {n : Nat} {as : List Value} : FrameBlind (va_Pc as (fun U => U.heap.size = n ∧ zW G h U.heap ∧ zK G U ∧ Y (zA h n) U)) := fun a U g mk q => ⟨q.1, q.2.1, q.2.2.1, zK.same (s := U) (U := U.calling g mk a) rfl q.2.2.2.1, hY _ U (U.calling g mk a) rfl rfl q.2.2.2.2⟩
section zCallsH
variable {G : zC} {R : Room} {M : zM} {args : List Value} {h0 : zH} {n0 : Nat} {Y Y' : zHy} {Q : State → List Frame → State → Prop} {R' : Room} {M' : zM} {S : zS} {idx na : Nat}
theorem zck_Sh (hr : zRide G Y Y') (hbl : zBlind Y') (hS : ∀ as h n K, S as h n K → zCh G Y' R' M' as h n K) (hc : Cond.code M'.1 M'.2.1 M'.2.2.1 M'.2.2.2 ∈ zT) (hw : zall [.methodLink M.1.cls idx M'.1, .static M'.1, .initialized M'.1.cls] = true) (hn : znd M'.1 na = true) (hR : zroom R' R M'.2.2.1 = true) : zCk (zXh G R M args h0 n0 Y Q) (.invokestatic idx) na R'.cells R'.slots S := by
  intro pc lv as rest h n c s K hd hl hcc hss hcat hs kk
  refine zZ.hy fun p e s0 m below meth c0 H locs ls hF h1 h2 h3 h4 h5 h6 hst => ?_
  have hts := hF.2.2.2.2.2.1
  have w := zall_spec hw
  simp only [zroom, Bool.and_eq_true, decide_eq_true_eq] at hR
  have up : ∀ q, zA h n q → zA h0 n0 q := fun q hq => by
    rcases hq with hq | hq
    · exact h4 q hq
    · exact Or.inr (by rw [← h1]; exact Nat.le_trans h5.1 (by rw [h2]; exact hq))
  exact z_run (X := zXh G R M args h0 n0 Y Q) (va_runS (As := as) (rest := rest) ⟨hF.1, hF.2.1, hF.2.2.2.1, hF.2.2.2.2.1, hts⟩ (hS as h n K hs) ⟨callB_of na hts (zgoodIn hc) rfl rfl rfl (hts _ (w _ (by simp))) (hts _ (w _ (by simp))) (znd_spec hn) hR, hts _ (w (.static M'.1) (by simp))⟩ ⟨zblindH hbl, fun U hU hW => ⟨rfl, by rw [hU]; exact h2, by rw [hU]; exact h3, zK.warm hW hF.K, hr h0 h n0 n s0 U locs hst h1 (by rw [hU]; exact h5) hW (by rw [hU]; exact h3) (by rw [hU]; exact h2) up⟩⟩ rfl hl h6.1 rfl (lv_room hcat) hd ⟨hcc, hss⟩) hF h1 h2 h4 h5 h6 kk
theorem zck_Ih (hr : zRide G Y Y') (hbl : zBlind Y') (hS : ∀ as h n K, S as h n K → (∃ b r, as = .ref b :: r) ∧ zCh G Y' R' M' as h n K) (hr0 : M'.2.2.2 = none) (hc : Cond.code M'.1 M'.2.1 M'.2.2.1 M'.2.2.2 ∈ zT) (hw : zall [.methodLink M.1.cls idx M'.1, .instanceMethod M'.1, .initialized M'.1.cls] = true) (hi : M'.1.name = "<init>") (hn : znd M'.1 na = true) (hR : zroom R' R M'.2.2.1 = true) : zCk (zXh G R M args h0 n0 Y Q) (.invokespecial idx) (na + 1) R'.cells R'.slots S := by
  intro pc lv as rest h n c s K hd hl hcc hss hcat hs kk
  refine zZ.hy fun p e s0 m below meth c0 H locs ls hF h1 h2 h3 h4 h5 h6 hst => ?_
  have hts := hF.2.2.2.2.2.1
  have w := zall_spec hw
  simp only [zroom, Bool.and_eq_true, decide_eq_true_eq] at hR
  obtain ⟨⟨b, r, rfl⟩, hM⟩ := hS as h n K hs
  obtain ⟨yy, bb, ml, rt⟩ := M'
  simp only at hr0
  subst hr0
  have up : ∀ q, zA h n q → zA h0 n0 q := fun q hq => by
    rcases hq with hq | hq
    · exact h4 q hq
    · exact Or.inr (by rw [← h1]; exact Nat.le_trans h5.1 (by rw [h2]; exact hq))
  exact z_run (X := zXh G R M args h0 n0 Y Q) (va_runI (b := b) (As := r) (rest := rest) ⟨hF.1, hF.2.1, hF.2.2.2.1, hF.2.2.2.2.1, hts⟩ hM ⟨callB_of na hts (zgoodIn hc) rfl rfl rfl (hts _ (w _ (by simp))) (hts _ (w _ (by simp))) (znd_spec hn) hR, hi, hts _ (w (.instanceMethod yy) (by simp))⟩ ⟨zblindH hbl, fun U hU hW => ⟨rfl, by rw [hU]; exact h2, by rw [hU]; exact h3, zK.warm hW hF.K, hr h0 h n0 n s0 U locs hst h1 (by rw [hU]; exact h5) hW (by rw [hU]; exact h3) (by rw [hU]; exact h2) up⟩⟩ rfl (by simpa using hl) h6.1 (by simp) (lv_room hcat) hd ⟨hcc, hss⟩) hF h1 h2 h4 h5 h6 kk
theorem zck_Vh {ci : Nat} (hr : zRide G Y Y') (hbl : zBlind Y') (hS : ∀ as h n K, S as h n K → (∃ b fs r, as = .ref b :: r ∧ h b = some (.inr (ci, fs))) ∧ zCh G Y' R' M' as h n K) (hci : zcn ci M'.1.cls = true) (hc : Cond.code M'.1 M'.2.1 M'.2.2.1 M'.2.2.2 ∈ zT) (hw : zall [.methodLink M.1.cls idx M'.1, .instanceMethod M'.1, .selects M'.1.cls M'.1 M'.1, .initialized M'.1.cls] = true) (hn : znd M'.1 na = true) (hR : zroom R' R M'.2.2.1 = true) : zCk (zXh G R M args h0 n0 Y Q) (.invokevirtual idx) (na + 1) R'.cells R'.slots S := by
  intro pc lv as rest h n c s K hd hl hcc hss hcat hs kk
  refine zZ.hy fun p e s0 m below meth c0 H locs ls hF h1 h2 h3 h4 h5 h6 hst => ?_
  have hts := hF.2.2.2.2.2.1
  have w := zall_spec hw
  simp only [zroom, Bool.and_eq_true, decide_eq_true_eq] at hR
  obtain ⟨⟨b, fs, r, rfl, hb⟩, hM⟩ := hS as h n K hs
  have up : ∀ q, zA h n q → zA h0 n0 q := fun q hq => by
    rcases hq with hq | hq
    · exact h4 q hq
    · exact Or.inr (by rw [← h1]; exact Nat.le_trans h5.1 (by rw [h2]; exact hq))
  exact z_run (X := zXh G R M args h0 n0 Y Q) (va_runV (C := M'.1.cls) (b := b) (As := r) (rest := rest) ⟨hF.1, hF.2.1, hF.2.2.2.1, hF.2.2.2.2.1, hts⟩ hM ⟨callB_of na hts (zgoodIn hc) rfl rfl rfl (hts _ (w _ (by simp))) (hts _ (w _ (by simp))) (znd_spec hn) hR, hts _ (w (.instanceMethod M'.1) (by simp)), hts _ (w (.selects M'.1.cls M'.1 M'.1) (by simp))⟩ ⟨zblindH hbl, zrecv hF.K h3 hb hci, fun U hU hW => ⟨rfl, by rw [hU]; exact h2, by rw [hU]; exact h3, zK.warm hW hF.K, hr h0 h n0 n s0 U locs hst h1 (by rw [hU]; exact h5) hW (by rw [hU]; exact h3) (by rw [hU]; exact h2) up⟩⟩ rfl (by simpa using hl) h6.1 (by simp) (lv_room hcat) hd ⟨hcc, hss⟩) hF h1 h2 h4 h5 h6 kk
end zCallsH
/-! the script: an old row -/
def zYx (b L : Nat) (xs : Nat → Int32) : zHy := fun B U => va_X b L xs U U.heap ∧ b < U.heap.size ∧ ¬ B b
theorem zYx_bl {b L : Nat} {xs : Nat → Int32} : zBlind (zYx b L xs) := by
  intro B s U hv hh ⟨h1, h2, h3⟩
  obtain ⟨scr, g1, g2, g3, g4, g5⟩ := h1
  exact ⟨⟨scr, by rw [← hh]; exact g1, State.isArrayOf_alike (by rw [hv]; exact Vm.Alike.refl U.vm) g2, g3, g4, g5⟩, by rw [← hh]; exact h2, h3⟩
theorem zYx_ride {G : zC} {Y : zHy} {b L : Nat} {xs : Nat → Int32} (hY : ∀ B U, Y B U → zYx b L xs B U) : zRide G Y (zYx b L xs) := by
  intro h0 h n0 n s U locs hy hn hS hW hw hsz up
  obtain ⟨⟨scr, g1, g2, g3, g4, g5⟩, h2, h3⟩ := hY _ _ hy
  exact ⟨⟨scr, by rw [hS.2.1 b h2 h3]; exact g1, State.isArrayOf_alike hW.alike g2, g3, g4, g5⟩, Nat.lt_of_lt_of_le h2 hS.1, fun z => h3 (up b z)⟩
section zScript
variable {G : zC} {R : Room} {M : zM} {args : List Value} {h0 h : zH} {n0 n c s pc : Nat} {Y : zHy} {Q : State → List Frame → State → Prop} {lv : List (Nat × Value)} {st : List Value} {b L : Nat} {xs : Nat → Int32}
theorem z_sld (hY : ∀ B U, Y B U → zYx b L xs B U) {i : Int32} (hd : decode M.2.1 pc = .ok (.iaload, 1)) (hin : vp_in i L) (k : zZ (zXh G R M args h0 n0 Y Q) (pc + 1) lv (.int (xs i.toNatClampNeg) :: st) h n c s) : zZ (zXh G R M args h0 n0 Y Q) pc lv (.int i :: .ref b :: st) h n c s := by
  refine zZ.hy fun p e s0 m below meth c0 H locs ls hF h1 h2 h3 h4 h5 h6 hst => ?_
  obtain ⟨g1, g2, g3⟩ := hY _ _ hst
  exact va_sld hF.1 hF.2.1 g1 g2 g3 h5 hin hd (k p e s0 m below meth c0 H locs ls hF h1 h2 h3 h4 h5 h6)
theorem z_slen (hY : ∀ B U, Y B U → zYx b L xs B U) (hd : decode M.2.1 pc = .ok (.arraylength, 1)) (k : zZ (zXh G R M args h0 n0 Y Q) (pc + 1) lv (.int (nI L) :: st) h n c s) : zZ (zXh G R M args h0 n0 Y Q) pc lv (.ref b :: st) h n c s := by
  refine zZ.hy fun p e s0 m below meth c0 H locs ls hF h1 h2 h3 h4 h5 h6 hst => ?_
  obtain ⟨g1, g2, g3⟩ := hY _ _ hst
  exact va_slen hF.1 hF.2.1 g1 g2 g3 h5 hd (k p e s0 m below meth c0 H locs ls hF h1 h2 h3 h4 h5 h6)
end zScript
theorem zSt_bl {G : zC} {t : Nat} : zBlind (fun B U => zSt G t B U U.heap) := by
  intro B s U hv hh h
  have := h.sm hv
  rw [hh] at this
  exact this
theorem zSt_ride {G : zC} {Y : zHy} {t : Nat} (hY : ∀ B U, Y B U → zSt G t B U U.heap) : zRide G Y (fun B U => zSt G t B U U.heap) := by
  intro h0 h n0 n s U locs hy hn hS hW hw hsz up
  exact (hY _ _ hy).mv hS hW up
/-! cell -/
abbrev rL_cell : Room := ⟨0, 0, 0, 0⟩
def SL_cell (b L : Nat) (xs : Nat → Int32) : zS := fun as h n K => ∃ (k : Nat), as = [.ref b, .int (nI k)] ∧ k < 1000 ∧ L ≤ 258 ∧ K (some (.int (if k < L then xs k else 0))) h n
theorem tL_cell {G : zC} {b L : Nat} {xs : Nat → Int32} {as : List Value} {h : zH} {n : Nat} {K : zP} (hs : SL_cell b L xs as h n K) : zCh G (zYx b L xs) rL_cell mL_cell as h n K := by
  obtain ⟨k, rfl, hk, hL, hK⟩ := hs
  refine zCh.of (by decide) (Nat.le_of_ble_eq_true rfl) ?_
  refine z_iload_n dL_cell_0 rfl ?_
  refine z_aload_n dL_cell_1 rfl ?_
  refine z_slen (fun _ _ q => q) dL_cell_2 ?_
  refine z_icmp_ge (t := 12) dL_cell_3 (by decide) (fun q3 => ?_) (fun q3 => ?_)
  · refine z_iconst (w := 0) dL_cell_12 (by decide) ?_
    refine zZ.toH ?_
    refine z_ireturn dL_cell_13 trivial (Nat.le_refl _) (Nat.le_refl _) ?_
    rw [if_neg (Nat.not_lt.mpr ((nI_leI (by omega) (by omega)).mp q3))] at hK
    exact hK
  · have w3 : k < L := Nat.lt_of_not_le (fun w => q3 (nI_le w (by omega)))
    refine z_aload_n dL_cell_6 rfl ?_
    refine z_iload_n dL_cell_7 rfl ?_
    refine z_sld (fun _ _ q => q) dL_cell_8 (vp_in_nI w3 (by omega)) ?_
    rw [nI_clamp (by omega)]
    refine z_goto (t := 13) dL_cell_9 (by decide) ?_
    refine zZ.toH ?_
    refine z_ireturn dL_cell_13 trivial (Nat.le_refl _) (Nat.le_refl _) ?_
    rw [if_pos w3] at hK
    exact hK

/-! node: the road that throws. What throwing needs of the start, and how it rides along -/
abbrev zAX : String := "java/lang/ArrayIndexOutOfBoundsException"
def zAn : List String := ["java/lang/IndexOutOfBoundsException", "java/lang/RuntimeException", "java/lang/Exception"]
abbrev mL_node : zM := (yL_node, cL_node, 6, some .int)
abbrev zHh : List (Nat × Nat × Nat × Nat) := [(0, 12, 15, 13)]
/-- a static field of references: its place, and that nobody may write it -/
def zSz (C n d : String) (B : Nat → Prop) (U : State) : Prop := ∃ (c i a : Nat) (k : Class) (f : Field) (cell : Cell) (v : Value), U.vm.findClass C = some c ∧ U.fieldFound? C n d = some (c, k, i, f) ∧ f.isStatic = true ∧ k.statics = some a ∧ U.heap[a]? = some cell ∧ cell.vm.isStatics = true ∧ cell.cls = c ∧ f.slot < cell.slots.size ∧ k.staticTypes[f.slot]? = some f.type ∧ cell.slots[f.slot]? = some v ∧ v.isRef = true ∧ ¬ B a
theorem zSz.mv {C n d : String} {B B' : Nat → Prop} {u U : State} (hvm : u.vm.Alike U.vm) (hq : ∀ a : Nat, a < u.heap.size → ¬ B a → U.heap[a]? = u.heap[a]?) (hB : ∀ q, B' q → B q) (h : zSz C n d B u) : zSz C n d B' U := by
  obtain ⟨c, i, a, k, f, cell, v, g1, g2, g3, g4, g5, g6, g7, g8, g9, g10, g11, g12⟩ := h
  obtain ⟨k', hi', he⟩ := State.fieldFound?_setVm hvm g2
  exact ⟨c, i, a, k', f, cell, v, by rw [hvm.findClass]; exact g1, hi', g3, by rw [he]; exact g4, by rw [hq a (Array.getElem?_eq_some_iff.mp g5).1 g12]; exact g5, g6, g7, g8, by rw [he]; exact g9, g10, g11, fun z => g12 (hB a z)⟩
theorem zSz.lays {C n d : String} {B : Nat → Prop} {U : State} {A : Array Value} (h : zSz C n d B U) : (Cond.laysStatic C n d).before A U = true := by
  obtain ⟨c, i, a, k, f, cell, v, g1, g2, g3, g4, g5, g6, g7, g8, g9, g10, g11, g12⟩ := h
  exact Cond.laysStatic_of g1 g2 g3 g4 g5 g6 g7 g8 g9
theorem zSz.isRef {C n d : String} {B : Nat → Prop} {U : State} {A : Array Value} (h : zSz C n d B U) : (Cond.isRef (.static C n d)).before A U = true := by
  obtain ⟨c, i, a, k, f, cell, v, g1, g2, g3, g4, g5, g6, g7, g8, g9, g10, g11, g12⟩ := h
  have he : (Term.static C n d).eval A U none [] U = some v := by simp [Term.eval, State.fieldNamed?, g2, g3, g4, g5, g6, g10]
  show (Cond.isRef (.static C n d)).holds A U none U [] = true
  simp only [Cond.holds, Cond.value, he]
  cases v <;> simp_all [Value.isRef]
theorem zSz.of {C n d : String} {B : Nat → Prop} {U : State} {A : Array Value} (hl : (Cond.laysStatic C n d).before A U = true) (hr : (Cond.isRef (.static C n d)).before A U = true) (hB : ∀ a : Nat, a < U.heap.size → ¬ B a) : zSz C n d B U := by
  obtain ⟨c, k, i, f, a, cell, hc, hi, hst, ha, hcell, hs, hcls, hlt, hty⟩ := Cond.laysStatic_spec hl
  obtain ⟨v, hv, hvr⟩ := Cond.isRef_spec hr
  obtain ⟨hst', a', cell', ha', hcell', -, hslot⟩ := Term.static_spec hi hv
  cases ha.symm.trans ha'
  cases hcell.symm.trans hcell'
  exact ⟨c, i, a, k, f, cell, v, hc, hi, hst, ha, hcell, hs, hcls, hlt, hty, hslot, hvr, hB a (Array.getElem?_eq_some_iff.mp hcell).1⟩
def zYt (ms : Nat) : zHy := fun B U => va_Nw (.castable zAX zAX) U ∧ zSz Bundle.tN "UNASSIGNED_STACK" Bundle.steD B U ∧ zSz Bundle.tN "SUPPRESSED_SENTINEL" Bundle.listD B U ∧ vk_R RX10 238 "no such node" ms U
theorem zYt_bl {ms : Nat} : zBlind (zYt ms) := by
  intro B s U hv hh ⟨h1, h2, h3, h4⟩
  have al : s.vm.Alike U.vm := by rw [hv]; exact Vm.Alike.refl U.vm
  exact ⟨va_Nw.same rfl hv h1, h2.mv al (fun a _ _ => by rw [hh]) (fun _ q => q), h3.mv al (fun a _ _ => by rw [hh]) (fun _ q => q), vk_R.same hv.symm h4⟩
theorem zYt_ride {G : zC} {Y : zHy} {ms : Nat} (hY : ∀ B U, Y B U → zYt ms B U) : zRide G Y (zYt ms) := by
  intro h0 h n0 n s U locs hy hn hS hW hw hsz up
  obtain ⟨h1, h2, h3, h4⟩ := hY _ _ hy
  exact ⟨va_Nw.warmC hW h1, h2.mv hW.alike hS.2.1 up, h3.mv hW.alike hS.2.1 up, h4.warm hW⟩
/-- by which name the method was called whose body stands at its start -/
def zYn (y : MethodName) (U : State) : Prop := ∃ (m : MethodId) (a : Array Value) (bl : List Frame), U.frames = .invoking m a :: bl ∧ U.methodNamed? y = some m
section zStandX
variable {p : Program} {l : Launch} {e : Env} {R : Room} {s : State} {m : MethodId} {args : Array Value} {below : List Frame} {meth : Method} {c : Code} {T : State} {locs : List Loc} {cells slots : Nat}
theorem zYn.is {y : MethodName} (h : zYn y s) (X : Stand p l e R s m args below meth c T locs cells slots) : s.methodNamed? y = some m := by
  obtain ⟨m', a, bl, h1, h2⟩ := h
  rw [X.frames] at h1
  cases h1
  exact h2
/-- the walk goes on from here as if the method had been called in this state, with the room that is left -/
theorem zBase (X : Stand p l e R s m args below meth c T locs cells slots) (hc : cells ≤ R.cells) (hs : slots ≤ R.slots) : Stand p l e ⟨R.frames, R.cells - cells, R.slots - slots, R.locals⟩ (T.setFrames (.invoking m args :: below)) m args below meth c T [] 0 0 := by
  obtain ⟨g0, hfr⟩ := X.frames_eq
  obtain ⟨th, hth, -⟩ := State.frames_cons hfr
  have hcur : T.cur < T.threads.size := (Array.getElem?_eq_some_iff.mp hth).1
  have hF : (T.setFrames (.invoking m args :: below)).frames = .invoking m args :: below := State.frames_setFrames _ hcur
  have hm' : (T.setFrames (.invoking m args :: below)).vm.method? m = some meth := X.method'
  have hU : (T.setFrames (.invoking m args :: below)).localsInUse = s.localsInUse := by
    rw [State.localsInUse_invoking hF hm' X.code, State.localsInUse_invoking X.frames X.method X.code]
  have hmeth : ∀ mm : MethodId, T.vm.method? mm = s.vm.method? mm := fun mm => X.warmed.alike.method? mm
  have hcode : ∀ mm : MethodId, (T.setFrames (.invoking m args :: below)).code? mm = s.code? mm := fun mm => by
    rw [State.code?_eq, State.code?_eq]
    show (T.vm.method? mm).bind _ = _
    rw [hmeth]
  have hroom : (T.setFrames (.invoking m args :: below)).hasRoom e.platform ⟨R.frames, R.cells - cells, R.slots - slots, R.locals⟩ = true := by
    have h := X.room
    have b1 := X.heapSize
    have b2 := X.used
    have b3 := X.book
    unfold State.hasRoom at h ⊢
    rw [hU, hF, State.stackLimits_setFrames, State.stackBytes_setFrames, X.limits, X.bytes]
    rw [X.frames] at h
    simp only [Bool.and_eq_true, decide_eq_true_eq] at h ⊢
    obtain ⟨⟨⟨⟨g1, g2⟩, g3⟩, g4⟩, g5⟩ := h
    refine ⟨⟨⟨⟨g1, g2⟩, ?_⟩, ?_⟩, b3⟩
    · show T.heap.size + (R.cells - cells) ≤ _
      omega
    · show T.slotsUsed + (R.slots - slots) ≤ _
      omega
  have hhears : (T.setFrames (.invoking m args :: below)).hears m below = true := by
    have h := X.hears
    cases hb : below with
    | nil =>
      rw [hb] at h
      simp only [State.hears] at h ⊢
      show (T.vm.method? m).any _ = true
      rw [hmeth]; exact h
    | cons f r =>
      rw [hb] at h
      rw [hb] at hcode
      cases f <;> simp only [State.hears] at h ⊢ <;> first | (rw [hcode]; exact h) | (show (T.vm.method? m).any _ = true; rw [hmeth]; exact h) | exact h
  have hsame : (T.setFrames (.invoking m args :: below)).sameButNew T [] 0 0 := by
    obtain ⟨th2, hth2, -⟩ := State.frames_cons hF
    have h := (State.sameButNew.refl (T.setFrames (.invoking m args :: below)) hth2).setFrames T.frames (State.cur_lt_of_frames hF)
    rw [State.setFrames_setFrames, State.setFrames_self hth] at h
    exact h
  exact ⟨X.admits, X.cas, X.clock, hF, hroom, hhears, hm', X.code, X.here, X.tail, State.WarmedH.refl _, by rw [State.stackLimits_setFrames], by rw [State.stackBytes_setFrames], hsame⟩
end zStandX
/-- what a throw leaves: the world as it was, an object of that class at x -/
def zXo (G : zC) (h : zH) (R : Room) (st : State) (x : Nat) (t : State) : Prop := ∃ (ce : Cell) (L : List Loc), st.WarmedH t.vm ∧ st.sameButNew ({ t with vm := st.vm } : State) L R.cells R.slots ∧ (∀ q ∈ L, zA h st.heap.size q.base) ∧ zW G h t.heap ∧ va_F (zA h st.heap.size) st t ∧ t.heap[x]? = some ce ∧ ce.vm = .none ∧ st.vm.findClass zAX = some ce.cls
def zCx (G : zC) (Y : zHy) (R : Room) (M : zM) (args : List Value) (h : zH) (n : Nat) : Prop :=
  MetFree G.1 M.1 (headSpec (zws M) R) (va_Pc args (fun U => U.heap.size = n ∧ zW G h U.heap ∧ zK G U ∧ Y (zA h n) U)) (fun _ _ _ _ _ => True) (fun _ st o t => ∃ x, o = .threw x ∧ zXo G h R st x t)
abbrev zQx (G : zC) (h : zH) (R : Room) : State → List Frame → State → Prop := fun s below u => ∃ x, u.status = .running ∧ Ended u below (.threw x) ∧ zXo G h R s x u
theorem zCx.of {G : zC} {Y : zHy} {R : Room} {M : zM} {args : List Value} {h : zH} {n : Nat} (hy : plainName M.1.cls = true) (hl : (lg_sl args).length ≤ M.2.2.1) (k : zZ (zXh G R M args h n (fun B U => Y B U ∧ zYn M.1 U) (zQx G h R)) 0 (lv_args 0 args) [] h n 0 0) : zCx G Y R M args h n := by
  refine MetFree.of_bodyS (code := M.2.1) (maxLocals := M.2.2.1) (ret := M.2.2.2) hy ?_ ?_
  · intro args' s m hh hn
    obtain ⟨meth, c, h1, h2, h3, h4, h5, h6, -, -⟩ := Cond.code_spec hn (atoms_spec (ws := zws M) hh _ List.mem_cons_self)
    exact ⟨meth, c, h1, h2, h3, h4, h5, h6⟩
  · intro p e s m args' below meth c s₁ B hml hP _
    obtain ⟨rfl, hsz, hW, hK, hst⟩ := hP
    have hts := atoms_spec (ws := zws M) B.pre
    have hl' := lv_entry args hl
    have hh0 : s₁.heap = s.heap := by rw [B.state]; rfl
    have K9 : W p G.1 e (headSpec (zws M) R).room s m args.toArray below meth c s.heap [] 0 0 (fun u => (Y (zA h n) s ∧ zYn M.1 s) → zQx G h R s below u) (entryFrame m args.toArray M.2.2.1) := by
      rw [lg_entry_eq]
      exact k p e s m below meth c s.heap [] _ ⟨B.exec, B.bytes, B.returns, hml, findClass_of_methodNamed B.named, fun w hw => hts w (List.mem_cons_of_mem _ hw), B.notSynchronized, (name_of_methodNamed B.named B.method).1, hK⟩ hsz hsz hW (fun a ha => Or.inl ha) va_S.rf hl'
    obtain ⟨u, a1, b1⟩ := K9 s₁ hh0 (Stand.of_body B)
    obtain ⟨x, c1, c2, c3⟩ := b1 ⟨hst, m, _, below, B.frames, B.named⟩
    exact ⟨u, .threw x, a1, c1, c2, x, rfl, c3⟩
set_option maxRecDepth 100000 in
theorem zown_all : (Bundle.ownAtoms RX10 240 zAX zAn).all (fun w => (decide (w ∈ lw_tbl) && goodWord w) || (decide (w ∈ zNest) || (decide (w = .castable zAX zAX) || (decide (w = .isRef (.static Bundle.tN "UNASSIGNED_STACK" Bundle.steD)) || (decide (w = .isRef (.static Bundle.tN "SUPPRESSED_SENTINEL" Bundle.listD)) || (decide (w = .laysStatic Bundle.tN "UNASSIGNED_STACK" Bundle.steD) || (decide (w = .laysStatic Bundle.tN "SUPPRESSED_SENTINEL" Bundle.listD)))))))) = true := by decide +kernel
theorem zown {w : Cond} (h : w ∈ Bundle.ownAtoms RX10 240 zAX zAn) : w ∈ zT ∨ w ∈ zNest ∨ w = .castable zAX zAX ∨ w = .isRef (.static Bundle.tN "UNASSIGNED_STACK" Bundle.steD) ∨ w = .isRef (.static Bundle.tN "SUPPRESSED_SENTINEL" Bundle.listD) ∨ w = .laysStatic Bundle.tN "UNASSIGNED_STACK" Bundle.steD ∨ w = .laysStatic Bundle.tN "SUPPRESSED_SENTINEL" Bundle.listD := by
  have h1 := List.all_eq_true.mp zown_all w h
  simp only [Bool.or_eq_true, Bool.and_eq_true, decide_eq_true_eq] at h1
  rcases h1 with h1 | h1
  · exact Or.inl (List.mem_append_left _ (List.mem_filter.mpr h1))
  · exact Or.inr h1
set_option maxRecDepth 100000 in
theorem zaxw : zall [.classLink RX10 236 zAX, .instantiable zAX 6, .initialized zAX] = true := by decide +kernel
set_option maxHeartbeats 4000000 in
set_option maxRecDepth 100000 in
/-- new, dup, ldc, the constructor, athrow -/
theorem z_throw {G : zC} {R : Room} {args : List Value} {h : zH} {n0 n c s ms : Nat} {Y : zHy} {lv : List (Nat × Value)} (hl : G.1.stackTraces = false) (hY : ∀ B U, Y B U → zYt ms B U ∧ zYn yX10_node U) (hc : c + 1 ≤ R.cells) (hs : s + 6 ≤ R.slots) (hf : 7 ≤ R.frames) (hlo : 120 ≤ R.locals) : zZ (zXh G R mX10_node args h n0 Y (zQx G h R)) 38 lv [] h n c s := by
  refine zZ.hy fun p e s0 m below meth c0 H locs ls hF h1 h2 h3 h4 h5 h6 hst => ?_
  obtain ⟨⟨y1, y2, y3, y4⟩, yn⟩ := hY _ _ hst
  intro T hT XX
  have hts := hF.2.2.2.2.2.1
  have hnm := yn.is XX
  have hexec := hF.1
  have hb : c0.code = cX10_node := hF.2.1
  have hlocks := hF.2.2.2.2.2.2.1
  have X0 := zBase XX (by omega) (by omega)
  have htr : e.platform.stackTraces = false := by rw [XX.admits.platform]; exact hl
  have hvm : (T.setFrames (.invoking m args.toArray :: below)).vm = T.vm := rfl
  have hhp : (T.setFrames (.invoking m args.toArray :: below)).heap = T.heap := rfl
  have hW9 : s0.WarmedH (T.setFrames (.invoking m args.toArray :: below)).vm := XX.warmed
  generalize hs9 : T.setFrames (.invoking m args.toArray :: below) = s9 at X0 hvm hhp hW9
  have hw : ∀ w, w ∈ zT → w.before args.toArray s9 = true := fun w q => word_at hW9 (zgood q) (hts w q)
  have hown : s9.vm.findClass RX10 = some m.cls := by rw [hW9.alike.findClass]; exact hF.2.2.2.2.1
  have kk := zK.warm hW9 hF.K
  have hS9 : va_S (zA h n0) s0.heap s9.heap locs := by rw [hhp, hT]; exact h5
  have z2 := y2.mv hW9.alike hS9.2.1 (fun _ q => q)
  have z3 := y3.mv hW9.alike hS9.2.1 (fun _ q => q)
  have z4 := y4.warm hW9
  have hat : ∀ a ∈ Bundle.ownAtoms RX10 240 zAX zAn, a.before args.toArray s9 = true := by
    intro a ha
    rcases zown ha with q | q | q | q | q | q | q
    · exact hw a q
    · exact va_tabs (by
        have := (List.mem_filter.mp q).2
        cases a <;> first | rfl | (exfalso; revert this; simp [znest])) rfl (kk.2 a q)
    · subst q; exact va_Nw.use rfl (va_Nw.warmC hW9 y1)
    · subst q; exact z2.isRef
    · subst q; exact z3.isRef
    · subst q; exact z2.lays
    · subst q; exact z3.lays
  have wax := zall_spec zaxw
  obtain ⟨vm₁, cX, kX, hfX, hkX, -, -, X₁, st1⟩ := X0.newCold hexec (own := RX10) (C := zAX) (index := 236) (n := 6) hown (hw _ (wax _ (by simp))) (hw _ (wax _ (by simp))) (hw _ (wax _ (by simp))) (g := F0 m 38 ls []) rfl (by rw [hb]; exact dX10_node_38) (by show 0 + 1 ≤ R.cells - c; omega) (by show 0 + 6 ≤ R.slots - s; omega)
  generalize hTe : (T.setVm vm₁).pushCell { cls := cX, slots := kX.instanceTypes.map defaultValue, vm := .none } = T1 at X₁ st1
  have hcell : T1.heap[T.heap.size]? = some (freshCell cX kX) := by rw [← hTe]; exact State.heap_pushCell_size _ _
  have hout : ∀ x ∈ c0.exceptionTable.toList, covers x (44 + 3) = false := by
    obtain ⟨meth', c', hm', hc', -, -, -, -, he', -⟩ := Cond.code_spec hnm (hts _ kX10_node)
    cases XX.method.symm.trans hm'
    cases XX.code.symm.trans hc'
    exact covers_of_empty he' _
  obtain ⟨U, hsteps, hrun, hend, hWU, hsame, ce, hce, K⟩ := X₁.ctorThrowS hexec htr (own := RX10) (cls := zAX) (names := zAn) (ic := 240) hown (by decide +kernel) (by decide +kernel) hat (fun y hy => by cases hy) hfX hkX hcell (by rw [hhp]; exact Nat.le_refl _) (msg := .ref ms) rfl (g := F0 m 44 ls [.ref ms, .ref T.heap.size, .ref T.heap.size]) rfl (by rw [hF.2.2.2.1]; exact h6.1) rfl rfl (rest := []) rfl (by rw [hb]; exact dX10_node_44) (by rw [hb]; exact dX10_node_47) hout (by show 3 + 3 < R.frames; omega) (by show 2 * 0 + 1 + (13 * (3 + 1) + 42) ≤ R.locals; omega) hlocks
  refine ⟨U, ?_, fun _ => ⟨T.heap.size, hrun, hend, ce, locs ++ [], State.WarmedH.trans hW9 hWU, ?_, ?_, ?_, ?_, hce, K.vm, ?_⟩⟩
  · refine st1 _ ?_
    show Steps p.tables e below (T1.setTop (F0 m 41 ls [.ref T.heap.size])) U
    jvm_step X₁.here [X₁.here.top, hexec, hb, dX10_node_41, Value.category]
    exact X₁.ldcString hexec (own := RX10) (text := "no such node") (index := 238) (a := ms) hown z4.1 z4.2 (g := F0 m 42 ls [.ref T.heap.size, .ref T.heap.size]) rfl (by rw [hb]; exact dX10_node_42) _ hsteps
  · have hsT : T.sameButNew ({ U with vm := T.vm } : State) [] (0 + 1) (0 + 6) := by
      subst hs9
      obtain ⟨e1, e2⟩ := hsame
      refine ⟨?_, e2⟩
      rw [State.setFrames_setFrames] at e1
      exact e1
    have := XX.same.trans (hsT.setVm s0.vm)
    exact this.mono (by omega) (by omega)
  · intro q hq
    rw [List.append_nil] at hq
    rw [h1]
    exact h5.2.2 q hq
  · intro a x hx
    have hlt := h3.lt hx
    have := h3 a x hx
    exact this.kept (by
      have h9 : T.heap[a]? = some (H[a]'hlt) := by rw [hT]; exact Array.getElem?_eq_getElem hlt
      have := State.sameButNew.old_cell hsame (a := a) (c := H[a]'hlt) (by rw [hhp]; exact h9)
      rw [show U.heap[a]? = some (H[a]'hlt) from this]
      exact (Array.getElem?_eq_getElem hlt).symm)
  · rw [h1]
    refine ⟨?_, fun q g1 g2 => ?_⟩
    · have := hsame.2.1
      rw [hhp, hT] at this
      rw [h1]
      rw [← h1]
      exact Nat.le_trans h5.1 this
    · have hlt : q < H.size := Nat.lt_of_lt_of_le g1 h5.1
      have h9 : T.heap[q]? = some (H[q]'hlt) := by rw [hT]; exact Array.getElem?_eq_getElem hlt
      have h8 := State.sameButNew.old_cell hsame (a := q) (c := H[q]'hlt) (by rw [hhp]; exact h9)
      rw [show U.heap[q]? = some (H[q]'hlt) from h8, ← h5.2.1 q g1 g2]
      exact (Array.getElem?_eq_getElem hlt).symm
  · have := K.cls
    rw [hW9.alike.findClass] at this
    exact this

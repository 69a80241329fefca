/-! a throw that is caught, its class not yet resolved at the place -/
section zCatch
variable {p : Program} {l : Launch} {e : Env} {R : Room} {s : State} {m : MethodId} {args : Array Value} {below : List Frame} {meth : Method} {c : Code} {T : State} {locs : List Loc} {cells slots : Nat}
theorem zgo_cold {s : State} {f : JFrame} {a : Addr} {Q : Handler → Pre} {E : CtlPost} {d : Bool} {acts : List Action} {x : ExceptionTableEntry} {ci : ClassId} {cell : Cell} (hx : covers x f.pc = true) (h0 : x.catchType ≠ 0) (hl : s.vm.ClassLinks e.platform f.method.cls x.catchType ci) (hcell : s.heap[a]? = some cell) (hobj : ∀ k, cell.vm ≠ .statics k) {k1 k2 : Class} (hk : s.vm.classes[cell.cls]? = some k1) (hc : s.vm.classes[ci]? = some k2) (hfit : s.vm.assignable cell.cls ci = true) :
    wp (findHandler.go f a [x]) Q E e d acts s ↔ Q (.found x.handlerPc) d acts (s.setVm (s.vm.noted f.method.cls x.catchType (.cls ci))) := by
  obtain ⟨ha, ht⟩ := (resolveClass_links e.toSetting hl).op (op := VmOp.resolveClass f.method.cls x.catchType) rfl
  have al : s.vm.Alike (s.vm.noted f.method.cls x.catchType (.cls ci)) := (Vm.Alike.refl s.vm).noted _ _ _
  obtain ⟨k3, hk3, -⟩ := al.2.2 _ _ hk
  obtain ⟨k4, hk4, -⟩ := al.2.2 _ _ hc
  have hf : (s.vm.noted f.method.cls x.catchType (.cls ci)).assignable cell.cls ci = true := by rw [al.assignable]; exact hfit
  simp only [covers] at hx
  simp [findHandler.go, hx, h0, ha, ht, hcell, hobj, hk3, hk4, hf, VmOp.dirties, VmOp.acts]
theorem zcaught (X : Stand p l e R s m args below meth c T locs cells slots) {a : Addr} {g : JFrame} (hg : g.method = m) {x : ExceptionTableEntry} (htab : c.exceptionTable.toList = [x]) (hx : covers x g.pc = true) (h0 : x.catchType ≠ 0) {own name : String} (hown : s.vm.findClass own = some m.cls) (hlink : (Cond.classLink own x.catchType name).before args s = true) {ci : ClassId} {cell : Cell} (hci : s.vm.findClass name = some ci) (hcell : T.heap[a]? = some cell) (hobj : cell.vm.isStatics = false) (hfit : s.vm.assignable cell.cls ci = true) :
    ∃ vm', Stand p l e R s m args below meth c (T.setVm vm') locs cells slots ∧ ∀ target, Steps p.tables e below ((T.setVm vm').setTop { g with pc := x.handlerPc, stack := [.ref a] }) target → Steps p.tables e below ((T.setTop g).pushFrame (.throwing a)) target := by
  have hpl : e.platform.magicAccessors = ({} : Platform).magicAccessors := by rw [X.admits.platform]
  obtain ⟨c', hc', hcl⟩ := Cond.classLink_spec hown hlink e.platform hpl
  cases hci.symm.trans hc'
  obtain ⟨dk, _, _, kt, hd, _, _, _, _, hkt, _, hopen⟩ := hcl.here
  have hcl₀ := X.warmed.classLinks hcl
  have hW' : s.WarmedH (T.vm.noted m.cls x.catchType (.cls ci)) := X.warmed.noted hd hopen (State.rightAt_cls hcl)
  have al := X.warmed.alike
  obtain ⟨kt', hkt', -⟩ := al.2.2 _ _ hkt
  have hfit' : T.vm.assignable cell.cls ci = true := by rw [al.assignable]; exact hfit
  obtain ⟨k1, hk1⟩ := Vm.classAt_of_assignable hfit' ⟨kt', hkt'⟩
  refine ⟨_, X.noted hW', fun target hrest => ?_⟩
  subst hg
  have h : At T g.method c below := X.here
  obtain ⟨hgo, hw⟩ := h.throwing a
  refine Steps.head hgo hw ?_
  rw [stepThread_throwing (frames_entered h.top _)]
  have hfind : ∀ (Q : Handler → Pre) (E : CtlPost) (d : Bool) (acts : List Action), wp (findHandler g a) Q E e d acts ((T.setTop g).pushFrame (.throwing a)) ↔ Q (.found x.handlerPc) d acts (((T.setTop g).pushFrame (.throwing a)).setVm (T.vm.noted g.method.cls x.catchType (.cls ci))) := by
    intro Q E d acts
    rw [W.findHandler_eq (s := (T.setTop g).pushFrame (.throwing a)) (meth := meth) (code := c) X.method' X.code, htab]
    exact zgo_cold (s := (T.setTop g).pushFrame (.throwing a)) hx h0 hcl₀ hcell (VmData.ne_statics_of hobj) hk1 hkt' hfit'
  have hstep : (stepThrowing e ((T.setTop g).pushFrame (.throwing a)) a (.java g :: T.frames.tail)).Is ((((T.setTop g).pushFrame (.throwing a)).setVm (T.vm.noted g.method.cls x.catchType (.cls ci))).setFrames (.java { g with pc := x.handlerPc, stack := [.ref a] } :: T.frames.tail)) [] := by
    simp only [stepThrowing, searchFrame, vmDo]
    generalize hr : Sem.go _ e false [] ((T.setTop g).pushFrame (.throwing a)) = res
    obtain ⟨as, rfl, ha⟩ := Sem.eq_ok_of hr (a := Handler.found x.handlerPc) (s' := ((T.setTop g).pushFrame (.throwing a)).setVm (T.vm.noted g.method.cls x.catchType (.cls ci))) (acts' := []) (by simp [hfind _ _ _ _])
    exact ⟨rfl, ha⟩
  rw [hstep.1]
  obtain ⟨g₀, hg0⟩ := Option.isSome_iff_exists.mp h.top
  obtain ⟨r, hr⟩ := State.topJava?_eq_some.mp hg0
  have hr' : (T.setVm (T.vm.noted g.method.cls x.catchType (.cls ci))).frames = .java g₀ :: r := hr
  have e1 : ∀ F, (((T.setTop g).pushFrame (.throwing a)).setVm (T.vm.noted g.method.cls x.catchType (.cls ci))).setFrames F = (T.setVm (T.vm.noted g.method.cls x.catchType (.cls ci))).setFrames F := by
    intro F
    rw [State.pushFrame, State.setTop_of_frames _ hr]
    show (((T.setVm (T.vm.noted g.method.cls x.catchType (.cls ci))).setFrames _).setFrames _).setFrames F = _
    rw [State.setFrames_setFrames, State.setFrames_setFrames]
  rw [e1, hr, List.tail_cons]
  rw [State.setTop_of_frames _ hr'] at hrest
  exact hrest
end zCatch
set_option maxHeartbeats 4000000 in
set_option maxRecDepth 100000 in
/-- the call of a method that throws, in the body of one that catches it -/
theorem z_thrV {G : zC} {R : Room} {M : zM} {args : List Value} {h0 h : zH} {n0 n c s pc : Nat} {Y Y' : zHy} {Q : State → List Frame → State → Prop} {lv : List (Nat × Value)} {R' : Room} {M' : zM} {idx na x ci : Nat} {fs r rest : List Value}
    (hM : zCx G Y' R' M' (.ref x :: r) h n) (hrd : zRide G Y Y') (hbl : zBlind Y') (hyn : ∀ B U, Y B U → zYn M.1 U ∧ va_Nw (.castable zAX zAX) U) (hci : zcn ci M'.1.cls = true) (hx : h x = some (.inr (ci, fs))) (hc : Cond.code M'.1 M'.2.1 M'.2.2.1 M'.2.2.2 ∈ zT) (hw : zall [.methodLink M.1.cls idx M'.1, .instanceMethod M'.1, .selects M'.1.cls M'.1 M'.1, .initialized M'.1.cls] = true) (hn : znd M'.1 na = true) (hR : zroom R' R M'.2.2.1 = true)
    (hcw : Cond.codeWith M.1 M.2.1 M.2.2.1 M.2.2.2 zHh ∈ zT) (hcl : zall [.classLink M.1.cls 13 zAX] = true) (hd : decode M.2.1 pc = .ok (.invokevirtual idx, 3)) (hpc : pc < 12) (hl : r.length = na) (hcat : (rest.map fun v => v.category).sum ≤ 8) (hcc : c + R'.cells ≤ R.cells) (hss : s + R'.slots ≤ R.slots)
    (kk : ∀ n' a, n ≤ n' → zZ (zXh G R M args h0 n0 Y Q) 15 lv [.ref a] h n' (c + R'.cells) (s + R'.slots)) : zZ (zXh G R M args h0 n0 Y Q) pc lv (r.reverse ++ .ref x :: rest) h n c s := by
  refine zZ.hy fun p e s0 m below meth c0 H locs ls hF h1 h2 h3 h4 h5 h6 hst => ?_
  intro T hT XX
  have hts := hF.2.2.2.2.2.1
  have w := zall_spec hw
  have wcl := zall_spec hcl
  simp only [zroom, Bool.and_eq_true, decide_eq_true_eq] at hR
  have up : ∀ q, zA h n q → zA h0 n0 q := fun q hq => by
    rcases hq with hq | hq
    · exact h4 q hq
    · exact Or.inr (by rw [← h1]; exact Nat.le_trans h5.1 (by rw [h2]; exact hq))
  obtain ⟨cellB, hcB, hoB, hclB⟩ := zrecv hF.K h3 hx hci
  have hinst := hts _ (w (.instanceMethod M'.1) (by simp))
  have hsel := hts _ (w (.selects M'.1.cls M'.1 M'.1) (by simp))
  have hlink := hts _ (w (.methodLink M.1.cls idx M'.1) (by simp))
  have hini := hts _ (w (.initialized M'.1.cls) (by simp))
  have hcode := hts _ hc
  obtain ⟨hy1, hy2, hy3⟩ := znd_spec hn
  obtain ⟨mk, methM, hnamed, hmethM, hstM, habM⟩ := Cond.instanceMethod_spec hinst
  obtain ⟨methM', cM, hmethM', hcM, -, hlM, -, -, -, hsigM⟩ := Cond.code_spec hnamed hcode
  cases hmethM.symm.trans hmethM'
  obtain ⟨c2, r2, m2, q1, q2, q3, q4, kP, hkP, hkPi⟩ := Cond.selects_spec hsel
  cases hclB.symm.trans q1
  cases (State.methodFound?_of_named hnamed ⟨hy1, hy2⟩).symm.trans q2
  cases hnamed.symm.trans q3
  have hselP : selectMethod e.platform s0.vm cellB.cls mk = .method mk := by rw [Launch.admits_selectMethod XX.admits]; exact q4
  have hlen : r.length = methM.sig.parameters.length := by
    rw [hsigM] at hy3
    have := Option.some.inj hy3
    rw [hl]
    exact this.symm
  obtain ⟨vm₁, X₁, hstep₁⟩ := XX.invokevirtual hF.1 hF.2.2.2.2.1 hlink hnamed hmethM hstM hkP hkPi ⟨hy1, hy2⟩ (a := x) (cell := cellB) (by rw [hT]; exact hcB) (fun z h => by rw [h] at hoB; cases hoB) hselP hmethM habM hkP hkPi (g := F0 m pc ls (r.reverse ++ .ref x :: rest)) rfl (argsL := r) (rest := rest) hlen rfl (by rw [hF.2.1]; exact hd)
  have hnamed₁ := X₁.named hnamed
  obtain ⟨kY, hkY, -⟩ := className_of_methodNamed hnamed₁
  have hinitY : kY.init = .initialized := Cond.initialized_spec (findClass_of_methodNamed hnamed₁) hkY (word_at (a' := args.toArray) X₁.warmed (zgood (w (.initialized M'.1.cls) (by simp))) hini)
  have hAt : At (T.setVm vm₁) (F0 m pc ls rest).method c0 below := X₁.here
  have hroom := X₁.room_calling (g := F0 m pc ls rest) (m' := mk) (args' := (Value.ref x :: r).toArray) (R' := R') (by rw [hF.2.2.2.1]; exact h6.1) (by rw [X₁.warmed.alike.method?]; exact hmethM) hcM hR.1 (by
    have := lv_room (m := m) (pc := pc) (ls := ls) (rest := rest) hcat
    rw [hlM]
    have h9 := hR.2
    have h8 : (F0 m pc ls rest).stack = rest := rfl
    rw [h8]
    omega) hcc hss
  have hpre : (headSpec (zws M') R').pre.before (Value.ref x :: r).toArray (T.setVm vm₁) = true := atoms_intro fun w9 hw9 => by
    rcases List.mem_cons.mp hw9 with rfl | hw9
    · exact word_at X₁.warmed (zgood hc) hcode
    · exact word_at X₁.warmed (zgood hw9) (hts _ hw9)
  have happ : (headSpec (zws M') R').appliesLoose M'.1 e.platform ((T.setVm vm₁).calling (F0 m pc ls rest) mk (Value.ref x :: r).toArray) = true :=
    Spec.appliesLoose_calling (g := F0 m pc ls rest) hAt (by rw [hF.2.1]; exact hd) hnamed₁ hkY hinitY hroom hpre
  have hW₁ : s0.WarmedH ((T.setVm vm₁).calling (F0 m pc ls rest) mk (Value.ref x :: r).toArray).vm := X₁.warmed
  have hHp : ((T.setVm vm₁).calling (F0 m pc ls rest) mk (Value.ref x :: r).toArray).heap = H := hT
  obtain ⟨mid, hmid⟩ := hAt.above
  have hfr : ((T.setVm vm₁).setTop (F0 m pc ls rest)).frames = (.java (F0 m pc ls rest) :: mid) ++ below := by rw [State.frames_setTop' _ hAt.top, hmid]; rfl
  have hPre : va_Pc (.ref x :: r) (fun U => U.heap.size = n ∧ zW G h U.heap ∧ zK G U ∧ Y' (zA h n) U) (Value.ref x :: r).toArray ((T.setVm vm₁).calling (F0 m pc ls rest) mk (Value.ref x :: r).toArray) :=
    ⟨rfl, by rw [hHp]; exact h2, by rw [hHp]; exact h3, zK.warm hW₁ hF.K, hrd h0 h n0 n s0 _ locs hst h1 (by rw [hHp]; exact h5) hW₁ (by rw [hHp]; exact h3) (by rw [hHp]; exact h2) up⟩
  obtain ⟨o, s₂, hsteps, -, hend, hq⟩ := Steps.callFree hM p X₁.admits X₁.cas X₁.clock (acts := []) hfr happ hPre trivial
  obtain ⟨x9, rfl, ce, L, hWo, hso, hLo, hwo, hFo, hce, hcv, hcc9⟩ := hq
  have hWo' : ((T.setVm vm₁).calling (F0 m pc ls rest) mk (Value.ref x :: r).toArray).WarmedH s₂.vm := hWo
  have hFo' : va_F (zA h H.size) ((T.setVm vm₁).calling (F0 m pc ls rest) mk (Value.ref x :: r).toArray) s₂ := by
    have := hFo
    rw [show ((((T.setVm vm₁).setTop (F0 m pc ls rest)).pushFrame (.invoking mk (Value.ref x :: r).toArray)).heap) = H from hT] at this
    exact this
  have hend' : Ended s₂ (.java (F0 m pc ls rest) :: below) (.threw x9) := by
    have h8 := hend
    rw [State.frames_setTop' _ hAt.top, X₁.tail] at h8
    exact h8
  obtain ⟨T', X', hWT, hsT, hs₂⟩ := X₁.outOfThrown (g := F0 m pc ls rest) rfl hend' hWo' hso
  have hTh : T'.heap = s₂.heap := by rw [hs₂, Stand.throwing_heap]
  have hnm := (hyn _ _ hst).1.is XX
  obtain ⟨m9, meth9, c9, hn9, hm9, hc9, -, -, htab, -⟩ := Cond.codeWith_spec (hts _ hcw)
  cases hnm.symm.trans hn9
  cases XX.method.symm.trans hm9
  cases XX.code.symm.trans hc9
  obtain ⟨xe, hxe, e1, e2, e3, e4⟩ : ∃ xe : ExceptionTableEntry, c0.exceptionTable.toList = [xe] ∧ xe.startPc = 0 ∧ xe.endPc = 12 ∧ xe.handlerPc = 15 ∧ xe.catchType = 13 := by
    generalize c0.exceptionTable.toList = tb at htab
    match tb, htab with
    | [xe], htab =>
      simp only [zHh, List.map_cons, List.map_nil, List.cons.injEq, Prod.mk.injEq, and_true] at htab
      exact ⟨xe, rfl, htab.1, htab.2.1, htab.2.2.1, htab.2.2.2⟩
    | [], htab => cases htab
    | _ :: _ :: _, htab => simp [zHh] at htab
  obtain ⟨ca, cb, f1, f2, f3⟩ := Cond.castable_spec (va_Nw.use (A := args.toArray) rfl (hyn _ _ hst).2)
  have hcx : s0.vm.findClass zAX = some ce.cls := by
    have h9 := hcc9
    rw [show (((T.setVm vm₁).setTop (F0 m pc ls rest)).pushFrame (.invoking mk (Value.ref x :: r).toArray)).vm.findClass zAX = s0.vm.findClass zAX from hW₁.alike.findClass zAX none] at h9
    exact h9
  cases hcx.symm.trans f1
  obtain ⟨vm₂, X₂, hst₂⟩ := zcaught X' (a := x9) (g := F0 m pc ls rest) rfl hxe (by simp [covers, e1, e2]; omega) (by rw [e4]; decide) (own := M.1.cls) (name := zAX) hF.2.2.2.2.1 (by rw [e4]; exact hts _ (wcl _ (by simp))) f2 (cell := ce) (by rw [hTh]; exact hce) (by rw [hcv]; rfl) f3
  have hsz : H.size ≤ s₂.heap.size := by have := hFo'.1; rw [hHp] at this; exact this
  obtain ⟨t, a1, b1⟩ := kk s₂.heap.size x9 (by rw [← h2]; exact hsz) p e s0 m below meth c0 s₂.heap (locs ++ L) ls hF h1 rfl hwo h4
    ⟨Nat.le_trans h5.1 hsz, fun q g1 g2 => by
      have hk := hFo'.2 q (by rw [hHp]; exact Nat.lt_of_lt_of_le g1 h5.1) (fun z => g2 (up q (by rw [h2] at z; exact z)))
      rw [hk, hHp]
      exact h5.2.1 q g1 g2, fun q hq9 => by
      rcases List.mem_append.mp hq9 with hq9 | hq9
      · exact h5.2.2 q hq9
      · have := hLo q hq9
        rw [show ((((T.setVm vm₁).setTop (F0 m pc ls rest)).pushFrame (.invoking mk (Value.ref x :: r).toArray)).heap) = H from hT, h2] at this
        exact up _ this⟩ h6 (T'.setVm vm₂) hTh X₂
  refine ⟨t, hstep₁ _ fun acts => ?_, b1⟩
  rw [doInvoke_state]
  refine hsteps.trans ?_
  rw [hs₂]
  refine hst₂ _ ?_
  rw [e3]
  exact a1

/-! what holds at the law's start -/
theorem zsel_priv {C : String} {y w : MethodName} {s : State} {args : Array Value} (hy : y.cls ≠ "java/lang/invoke/MethodHandle" ∧ y.cls ≠ "java/lang/invoke/VarHandle") (hcw : y.cls = w.cls) (hw : (Cond.selects C w w).before args s = true) (hpriv : (Cond.privateMethod y).before args s = true) (hinst : (Cond.instanceMethod y).before args s = true) : (Cond.selects C y y).before args s = true := by
  obtain ⟨c, r, m, h1, h2, h3, h4, kP, hkP, hni⟩ := Cond.selects_spec hw
  obtain ⟨mk, methM, hnamed, hmethM, -, -⟩ := Cond.instanceMethod_spec hinst
  have hfound : s.methodFound? y.cls y.name y.desc = some mk := State.methodFound?_of_named hnamed hy
  have hcls : mk.cls = m.cls := by
    have a1 := findClass_of_methodNamed hnamed
    have a2 := findClass_of_methodNamed h3
    rw [hcw] at a1
    exact Option.some.inj (a1.symm.trans a2)
  have hsel : selectMethod {} s.vm c mk = .method mk := selectMethod_private hmethM (Cond.privateMethod_at hpriv mk methM hnamed hmethM)
  simp only [Cond.before, Cond.holds, Cond.value, h1, hfound, hnamed, hsel, hcls, hkP]
  simp; exact hni
set_option maxRecDepth 100000 in
theorem zT_ok {s : State} {args : Array Value} (hts : ∀ w ∈ lw_tbl, w.before args s = true) : ∀ w ∈ zT, w.before args s = true := by
  intro w hw
  rcases List.mem_append.mp hw with h | h
  · exact hts w (List.mem_filter.mp h).1
  · have p1 : (Cond.privateMethod yX1_settledPart).before args s = true := hts _ (by decide +kernel)
    have p2 : (Cond.instanceMethod yX1_settledPart).before args s = true := hts _ (by decide +kernel)
    have p3 : (Cond.privateMethod yX1_putBit).before args s = true := hts _ (by decide +kernel)
    have p4 : (Cond.instanceMethod yX1_putBit).before args s = true := hts _ (by decide +kernel)
    have p5 : (Cond.selects RX6 yX1_width yX1_width).before args s = true := hts _ (by decide +kernel)
    have p6 : (Cond.selects RX9 yX1_width yX1_width).before args s = true := hts _ (by decide +kernel)
    simp only [zx, List.mem_cons, List.not_mem_nil, or_false] at h
    rcases h with rfl | rfl | rfl | rfl
    · exact zsel_priv (w := yX1_width) ⟨by decide, by decide⟩ rfl p5 p1 p2
    · exact zsel_priv (w := yX1_width) ⟨by decide, by decide⟩ rfl p6 p1 p2
    · exact zsel_priv (w := yX1_width) ⟨by decide, by decide⟩ rfl p5 p3 p4
    · exact zsel_priv (w := yX1_width) ⟨by decide, by decide⟩ rfl p6 p3 p4
theorem zarr_of {s : State} {args : Array Value} {ty : FieldType} (h : (Cond.arrayClass ty).before args s = true) : ∃ cA : ClassId, ArrOfT s cA ty ∧ s.vm.findClass ("[" ++ ty.toString) = some cA := by
  obtain ⟨c, k, comp, f1, f2, f3⟩ := Cond.arrayClass_spec h
  exact ⟨c, fun N z => ⟨(fun k h => by cases h), k, f2, comp, f3⟩, f1⟩
set_option maxRecDepth 100000 in
theorem zK_start {s : State} {args : Array Value} (l : Launch) (hts : ∀ w ∈ lw_tbl, w.before args s = true) : ∃ G : zC, G.1 = l ∧ zK G s := by
  have hz := zT_ok hts
  obtain ⟨c0, i0, k0⟩ := u_known (n := 6) hz zwJx00060 (hts (.instantiable RJx00060 6) (by decide +kernel))
  obtain ⟨c1, i1, k1⟩ := u_known (n := 3) hz zwJx4a65c (hts (.instantiable RJx4a65c 3) (by decide +kernel))
  obtain ⟨c2, i2, k2⟩ := u_known (n := 3) hz zwX0 (hts (.instantiable RX0 3) (by decide +kernel))
  obtain ⟨c3, i3, k3⟩ := u_known (n := 2) hz zwX2 (hts (.instantiable RX2 2) (by decide +kernel))
  obtain ⟨c4, i4, k4⟩ := u_known (n := 11) hz zwX3 (hts (.instantiable RX3 11) (by decide +kernel))
  obtain ⟨c5, i5, k5⟩ := u_known (n := 2) hz zwX4 (hts (.instantiable RX4 2) (by decide +kernel))
  obtain ⟨c6, i6, k6⟩ := u_known (n := 6) hz zwX5 (hts (.instantiable RX5 6) (by decide +kernel))
  obtain ⟨c7, i7, k7⟩ := u_known (n := 8) hz zwX6 (hts (.instantiable RX6 8) (by decide +kernel))
  obtain ⟨c8, i8, k8⟩ := u_known (n := 6) hz zwX8 (hts (.instantiable RX8 6) (by decide +kernel))
  obtain ⟨c9, i9, k9⟩ := u_known (n := 6) hz zwX9 (hts (.instantiable RX9 6) (by decide +kernel))
  obtain ⟨c10, i10, k10⟩ := u_known (n := 20) hz zwX10 (hts (.instantiable RX10 20) (by decide +kernel))
  obtain ⟨c11, i11, k11⟩ := u_known (n := 46) hz zwX11 (hts (.instantiable RX11 46) (by decide +kernel))
  obtain ⟨aI, hI1, hI2⟩ := zarr_of (hts (.arrayClass .int) (by decide +kernel))
  obtain ⟨aZ, hZ1, hZ2⟩ := zarr_of (hts (.arrayClass .boolean) (by decide +kernel))
  obtain ⟨aJ, hJ1, hJ2⟩ := zarr_of (hts (.arrayClass .long) (by decide +kernel))
  obtain ⟨comp, aO, kO, g1, -, g3, g4, g5⟩ := Cond.arrayOver_spec (hts (.arrayOver (.object "java/lang/Object")) (by decide +kernel))
  refine ⟨(l, (fun k => match k with | 0 => c0 | 1 => c1 | 2 => c2 | 3 => c3 | 4 => c4 | 5 => c5 | 6 => c6 | 7 => c7 | 8 => c8 | 9 => c9 | 10 => c10 | _ => c11, fun k => match k with | 0 => i0 | 1 => i1 | 2 => i2 | 3 => i3 | 4 => i4 | 5 => i5 | 6 => i6 | 7 => i7 | 8 => i8 | 9 => i9 | 10 => i10 | _ => i11), aI, aZ, aO, aJ), rfl, ⟨fun k q hq => ?_, fun k q hq => ?_⟩, fun w hw => ?_⟩
  · match k, hq with
    | 0, hq => cases hq; exact k0
    | 1, hq => cases hq; exact k1
    | 2, hq => cases hq; exact k2
    | 3, hq => cases hq; exact k3
    | 4, hq => cases hq; exact k4
    | 5, hq => cases hq; exact k5
    | 6, hq => cases hq; exact k6
    | 7, hq => cases hq; exact k7
    | 8, hq => cases hq; exact k8
    | 9, hq => cases hq; exact k9
    | 10, hq => cases hq; exact k10
    | 11, hq => cases hq; exact k11
    | k + 12, hq => simp [vwCl] at hq
  · match k, hq with
    | 0, hq => cases hq; exact ⟨hI1, hI2⟩
    | 1, hq => cases hq; exact ⟨hZ1, hZ2⟩
    | 2, hq => cases hq; exact ⟨fun N z => ⟨(fun k h => by cases h), kO, g3, comp, g4⟩, kO, comp, g3, g4, g1, g5⟩
    | 3, hq => cases hq; exact ⟨hJ1, hJ2⟩
    | k + 4, hq => simp [zty] at hq
  · have h1 := List.mem_filter.mp hw
    refine va_Nw.of ?_ (hts w (List.mem_append_right _ h1.1))
    have h2 := h1.2
    cases w <;> first | rfl | (exfalso; revert h2; simp [znest])
theorem zA_old {s : State} : ∀ a : Nat, a < s.heap.size → ¬ zA (fun _ => none) s.heap.size a := fun a ha h => by
  rcases h with h | h
  · exact h rfl
  · omega
set_option maxRecDepth 100000 in
theorem zSt_start {G : zC} {s : State} {args : Array Value} (hts : ∀ w ∈ lw_tbl, w.before args s = true) (hg : (Jvm.Cond.and given_1 narrow_1).before args s = true) : ∃ t, zSt G t (zA (fun _ => none) s.heap.size) s s.heap := by
  have hs := flat_of_before _ hg
  have h1 : (Cond.arrayOf (.static RJx4a65c zALs zALd) (.object "java/lang/Object")).before args s = true := hs _ (by decide +kernel)
  have h2 : (Cond.eq (.length (.static RJx4a65c zALs zALd)) (.int 0)).before args s = true := hs _ (by decide +kernel)
  obtain ⟨t, ht, hT⟩ := va_Tof (N := 0) (f := fun _ => .null) (by decide) h1 (va_eqt h2) (fun j hj => absurd hj (Nat.not_lt_zero _)) zA_old
  exact ⟨t, va_Zof (hts (.laysStatic RJx4a65c zALs zALd) (by decide +kernel)) (hts (.initialized RJx4a65c) (by decide +kernel)) ht zA_old, hT, hT.out, va_Nw.of rfl (hts (.castable RX3 "java/lang/Object") (by decide +kernel)), va_AO.of (hts (.arrayOver (.object "java/lang/Object")) (by decide +kernel))⟩
set_option maxRecDepth 100000 in
theorem zYt_start {s : State} {args : Array Value} (hts : ∀ w ∈ lw_tbl, w.before args s = true) (hg : (Jvm.Cond.and given_1 narrow_1).before args s = true) : ∃ ms, zYt ms (zA (fun _ => none) s.heap.size) s := by
  have hs := flat_of_before _ hg
  have h1 : (Cond.isRef (.static Bundle.tN "UNASSIGNED_STACK" Bundle.steD)).before args s = true := hs _ (by decide +kernel)
  have h2 : (Cond.isRef (.static Bundle.tN "SUPPRESSED_SENTINEL" Bundle.listD)).before args s = true := hs _ (by decide +kernel)
  have h3 : (Cond.stringRef RX10 238 "no such node").before args s = true := hts _ (by decide +kernel)
  obtain ⟨c10, -, hc10, -⟩ := Cond.instantiable_spec (hts (.instantiable RX10 20) (by decide +kernel))
  obtain ⟨-, -, -, ms, -, -, -, -, -, hev⟩ := Cond.stringRef_spec hc10 h3
  exact ⟨ms, va_Nw.of rfl (hts (.castable zAX zAX) (by decide +kernel)), zSz.of (hts (.laysStatic Bundle.tN "UNASSIGNED_STACK" Bundle.steD) (by decide +kernel)) h1 zA_old, zSz.of (hts (.laysStatic Bundle.tN "SUPPRESSED_SENTINEL" Bundle.listD) (by decide +kernel)) h2 zA_old, vk_R.of h3 hev⟩
set_option maxHeartbeats 4000000 in
set_option maxRecDepth 100000 in
/-- the law, from its entry, in a launch without stack traces -/
theorem whole_start {p : Program} {e : Env} {s : State} {m : MethodId} {below : List Frame} {meth : Method} {c : Code} (l : Launch) (hl : l.stackTraces = false) (hnm : meth.name = "law") {b L : Nat} {xs : Nat → Int32} (hL : L ≤ 258) (C0 : lw_At p s m meth c b L xs) : W p l e room_1 s m #[Value.ref b] below meth c s.heap [] 0 0 (lw_Z below #[Value.ref b] s) (entryFrame m ([Value.ref b] : List Value).toArray 7) := by
  obtain ⟨hx, hb, hr, hml, hown, hts, hX, hbl, hlocks, hgv⟩ := id C0
  obtain ⟨G, rfl, hK⟩ := zK_start l hts
  obtain ⟨t, ht⟩ := zSt_start (G := G) hts hgv
  obtain ⟨ms, hy⟩ := zYt_start hts hgv
  have hl' := lv_entry ([.ref b]) (n := 7) (Nat.le_of_ble_eq_true rfl)
  rw [lg_entry_eq]
  have k9 := zstart (G := G) (b0 := b) (N0 := s.heap.size) (L := L) (xs := xs) (t := t) (ms := ms) hl hL p e s m below meth c s.heap [] _ ⟨hx, hb, hr, hml, hown, zT_ok hts, hlocks, hnm, hK⟩ rfl rfl (fun a c h => by cases h) (fun a h => absurd rfl h) va_S.rf hl'
  intro T hT X
  obtain ⟨u, a1, b1⟩ := k9 T hT X
  exact ⟨u, a1, b1 ⟨⟨hX, hbl, zA_old b hbl⟩, ht, hy⟩⟩

/-! what only the shelf needs: the static empty array, arrays of references, casts -/
abbrev zALs : String := "DEFAULTCAPACITY_EMPTY_ELEMENTDATA"
abbrev zALd : String := "[Ljava/lang/Object;"
abbrev zRf (G : zC) (n : Nat) (f : Nat → Option Nat) : va_E := .inl (G.2.2.2.2.1, n, .inr (.inr (.inr (.inr f))))
def zSt (G : zC) (t : Nat) (B : Nat → Prop) (U : State) (H : Heap) : Prop := va_Z RJx4a65c zALs zALd (.ref t) B U H ∧ va_T (.object "java/lang/Object") t 0 (fun _ => .null) B U H ∧ ¬ B t ∧ va_Nw (.castable RX3 "java/lang/Object") U ∧ va_AO "java/lang/Object" U
theorem zSt.mv {G : zC} {t : Nat} {B B' : Nat → Prop} {s U : State} {H H' : Heap} {locs : List Loc} (h : zSt G t B s H) (hS : va_S B H H' locs) (hW : s.WarmedH U.vm) (hB : ∀ q, B' q → B q) : zSt G t B' U H' :=
  ⟨((h.1.moved hW.alike).kept hS.2.1).narrow hB, ((h.2.1.moved hW.alike).kept hS.2.1).narrow hB, fun z => h.2.2.1 (hB t z), va_Nw.warmC hW h.2.2.2.1, h.2.2.2.2.moved hW.alike⟩
theorem zSt.sm {G : zC} {t : Nat} {B : Nat → Prop} {s U : State} {H : Heap} (h : zSt G t B s H) (hv : s.vm = U.vm) : zSt G t B U H :=
  ⟨h.1.moved (by rw [hv]; exact Vm.Alike.refl U.vm), h.2.1.moved (by rw [hv]; exact Vm.Alike.refl U.vm), h.2.2.1, va_Nw.same rfl hv h.2.2.2.1, h.2.2.2.2.moved (by rw [hv]; exact Vm.Alike.refl U.vm)⟩
abbrev zXs (G : zC) (t : Nat) (R : Room) (M : zM) (args : List Value) (h0 : zH) (n0 : Nat) (post : zP) : zX := (G, R, M, args, h0, n0, fun s below u => zSt G t (zA h0 n0) s s.heap → MQ below (zQ G h0 post) args.toArray s R.cells R.slots (zA h0 n0) u)
def zCs (G : zC) (t : Nat) (R : Room) (M : zM) (args : List Value) (h : zH) (n : Nat) (post : zP) : Prop :=
  Met G.1 M.1 (zws M) R (va_Pc args (fun U => U.heap.size = n ∧ zW G h U.heap ∧ zK G U ∧ zSt G t (zA h n) U U.heap)) (zQ G h post) R.cells R.slots (zA h n)
theorem zCs.of {G : zC} {t : Nat} {R : Room} {M : zM} {args : List Value} {h : zH} {n : Nat} {post : zP} (hy : plainName M.1.cls = true) (hl : (lg_sl args).length ≤ M.2.2.1) (k : zZ (zXs G t R M args h n post) 0 (lv_args 0 args) [] h n 0 0) : zCs G t R M args h n post := by
  refine Met.ofW (cc := M.2.1) (maxL := M.2.2.1) (ret := M.2.2.2) hy rfl ?_
  intro p e s m args' below meth c s₁ B hml hv
  obtain ⟨rfl, hsz, hW, hK, hst⟩ := hv
  have hts := atoms_spec (ws := zws M) B.pre
  have hl' := lv_entry args hl
  rw [lg_entry_eq]
  have k9 := k p e s m below meth c s.heap [] _ ⟨B.exec, B.bytes, B.returns, hml, findClass_of_methodNamed B.named, fun w hw => hts w (List.mem_cons_of_mem _ hw), B.notSynchronized, (name_of_methodNamed B.named B.method).1, hK⟩ hsz hsz hW (fun a ha => Or.inl ha) va_S.rf hl'
  intro T hT X
  obtain ⟨u, a1, b1⟩ := k9 T hT X
  exact ⟨u, a1, b1 hst⟩
section zSrows
variable {G : zC} {t : Nat} {R : Room} {M : zM} {args : List Value} {h0 h : zH} {n0 n c s pc : Nat} {post : zP} {lv : List (Nat × Value)} {st : List Value}
theorem zZ.toS (k : zZ (zXm G R M args h0 n0 post) pc lv st h n c s) : zZ (zXs G t R M args h0 n0 post) pc lv st h n c s := by
  intro p e s0 m below meth c0 H locs ls hF h1 h2 h3 h4 h5 h6 T hT X
  obtain ⟨u, a1, b1⟩ := k p e s0 m below meth c0 H locs ls hF h1 h2 h3 h4 h5 h6 T hT X
  exact ⟨u, a1, fun _ => b1⟩
/-- where the static is another, nothing is owed -/
theorem zZ.cs (k : ∀ (p : Program) (e : Env) (s0 : State) (m : MethodId) (below : List Frame) (meth : Method) (c0 : Code) (H : Heap) (locs : List Loc) (ls : Array Slot), zF G M p s0 m args.toArray meth c0 → s0.heap.size = n0 → H.size = n → zW G h H → (∀ a, h a ≠ none → zA h0 n0 a) → va_S (zA h0 n0) s0.heap H locs → lv_has ls M.2.2.1 lv → zSt G t (zA h0 n0) s0 s0.heap →
    W p G.1 e R s0 m args.toArray below meth c0 H locs c s (zxQ (zXs G t R M args h0 n0 post) s0 below) (F0 m pc ls st)) : zZ (zXs G t R M args h0 n0 post) pc lv st h n c s := by
  intro p e s0 m below meth c0 H locs ls hF h1 h2 h3 h4 h5 h6
  by_cases hst : zSt G t (zA h0 n0) s0 s0.heap
  · exact k p e s0 m below meth c0 H locs ls hF h1 h2 h3 h4 h5 h6 hst
  · intro T hT X
    exact ⟨_, Steps.refl _, fun z => absurd z hst⟩
theorem z_getst {idx : Nat} (hd : decode M.2.1 pc = .ok (.getstatic idx, 3)) (hw : zall [.fieldLink M.1.cls idx RJx4a65c zALs zALd] = true) (k : zZ (zXs G t R M args h0 n0 post) (pc + 3) lv (.ref t :: st) h n c s) : zZ (zXs G t R M args h0 n0 post) pc lv st h n c s := by
  refine zZ.cs fun p e s0 m below meth c0 H locs ls hF h1 h2 h3 h4 h5 h6 hst => ?_
  exact va_gets hF.1 hF.2.1 hst.1 h5 hF.2.2.2.2.1 (hF.2.2.2.2.2.1 _ (zall_spec hw _ (by simp))) (fun _ q => q) hd (k p e s0 m below meth c0 H locs ls hF h1 h2 h3 h4 h5 h6)
theorem z_alenS (hd : decode M.2.1 pc = .ok (.arraylength, 1)) (k : zZ (zXs G t R M args h0 n0 post) (pc + 1) lv (.int (nI 0) :: st) h n c s) : zZ (zXs G t R M args h0 n0 post) pc lv (.ref t :: st) h n c s := by
  refine zZ.cs fun p e s0 m below meth c0 H locs ls hF h1 h2 h3 h4 h5 h6 hst => ?_
  obtain ⟨cell, g1, g2, -, -, g5, -⟩ := hst.2.1.kept h5.2.1
  exact W.alen (n := Int32.ofNat 0) hF.1 hF.2.1 g1 g2 g5 rfl rfl hd (k p e s0 m below meth c0 H locs ls hF h1 h2 h3 h4 h5 h6)
theorem z_newq {idx : Nat} {x : Int32} (hd : decode M.2.1 pc = .ok (.anewarray idx, 3)) (hw : zall [.classLink M.1.cls idx "java/lang/Object"] = true) (hx : ¬ x < 0) (hb : x.toNatClampNeg ≤ 1000000) (hc : c + 1 ≤ R.cells) (hs : s + x.toNatClampNeg ≤ R.slots) (k : zZ (zXs G t R M args h0 n0 post) (pc + 3) lv (.ref n :: st) (va_up h n (some (zRf G x.toNatClampNeg (fun _ => none)))) (n + 1) (c + 1) (s + x.toNatClampNeg)) : zZ (zXs G t R M args h0 n0 post) pc lv (.int x :: st) h n c s := by
  refine zZ.cs fun p e s0 m below meth c0 H locs ls hF h1 h2 h3 h4 h5 h6 hst => ?_
  subst h2
  refine W.anew hF.1 hF.2.1 hF.2.2.2.2.1 (hF.2.2.2.2.2.1 _ (zall_spec hw _ (by simp))) (va_AO.use hst.2.2.2.2) rfl hd rfl hx (by omega) hc hs fun cA kA comp f1 f2 f3 f4 => ?_
  have hcA : cA = G.2.2.2.2.1 := by
    obtain ⟨-, -, -, -, -, -, q⟩ := hF.K.1.2 2 _ rfl
    exact Option.some.inj (f1.symm.trans q)
  subst hcA
  generalize hH1 : H.push ({ cls := G.2.2.2.2.1, slots := Array.replicate x.toNatClampNeg .null, vm := .none } : Cell) = H1
  have z1 : H1.size = H.size + 1 := by rw [← hH1, Array.size_push]
  have e1 : H1[H.size]? = some (arrV G.2.2.2.2.1 x.toNatClampNeg (fun _ => .null)) := by rw [← hH1, Array.getElem?_push_size, ← arrV_new]
  have o1 : ∀ q : Nat, q < H.size → H1[q]? = H[q]? := fun q hq => by rw [← hH1, Array.getElem?_push, if_neg (Nat.ne_of_lt hq)]
  exact k p e s0 m below meth c0 H1 locs ls hF h1 z1 (zW.push h3 o1 e1) (zA_push h4 h1 h5) (zS_push h5 z1 o1) h6
theorem z_aast {a m0 v : Nat} {f : Nat → Option Nat} {fs : List Value} {i : Int32} (hd : decode M.2.1 pc = .ok (.aastore, 1)) (hc : h a = some (zRf G m0 f)) (hv : h v = some (zO 4 fs)) (hin : vp_in i m0) (k : zZ (zXs G t R M args h0 n0 post) (pc + 1) lv st (va_up h a (some (zRf G m0 (va_up f i.toNatClampNeg (some v))))) n c s) : zZ (zXs G t R M args h0 n0 post) pc lv (.ref v :: .int i :: .ref a :: st) h n c s := by
  refine zZ.cs fun p e s0 m below meth c0 H locs ls hF h1 h2 h3 h4 h5 h6 hst => ?_
  have hlt : i.toNatClampNeg < m0 := Nat.not_le.mp fun q => hin (Or.inr q)
  have hi0 : ¬ i < 0 := fun q => hin (Or.inl q)
  obtain ⟨r', hr', cellV, g1, g2, g3, -⟩ := h3 v _ hv
  have hcls := (hF.K.1.1 4 (RX3, TX3, 11) rfl).2
  obtain ⟨kA, comp, k1, k2, k3, -⟩ := (hF.K.1.2 2 _ rfl).2
  obtain ⟨kE, hkE, -⟩ := Vm.findClass_spec k3
  obtain ⟨c1, t1, f1, f2, f3⟩ := Cond.castable_spec (va_Nw.use (A := args.toArray) rfl hst.2.2.2.1)
  cases hcls.1.symm.trans f1
  cases k3.symm.trans f2
  obtain ⟨kC, hkC, -⟩ := hcls.2
  refine W.aast hF.1 hF.2.1 (h3 a _ hc) (fun q h => by cases h) (fun h => by cases h) k1 k2 rfl hkE ⟨hi0, by show _ < (arrV _ _ _).slots.size; rw [arrV_size]; exact hlt⟩ g1 (fun q h => by rw [g3] at h; cases h) (by rw [g2]; exact hkC) (by rw [g2]; exact f3) rfl rfl hd fun H1 ec z oq => ?_
  refine k p e s0 m below meth c0 H1 _ ls hF h1 (z.trans h2) (zupW h3 oq ?_) (zA_set h4 hc) (h5.put z oq (h4 a (by rw [hc]; simp))) h6
  show H1[a]? = some (vp_cell _ _)
  rw [ec, vp_cell_q, vp_cell_q, arrV_store]
  congr 2
  funext q
  by_cases hq : q = i.toNatClampNeg
  · subst hq
    simp [updV, va_up, va_rf]
  · simp [updV, va_up, hq]
end zSrows
section zArows
variable {X : zX} {pc : Nat} {lv : List (Nat × Value)} {st : List Value} {h : zH} {n c s : Nat}
theorem z_aald {a m0 : Nat} {f : Nat → Option Nat} {i : Int32} (hd : decode (zxM X).2.1 pc = .ok (.aaload, 1)) (hc : h a = some (zRf (zxG X) m0 f)) (hin : vp_in i m0) (k : zZ X (pc + 1) lv (va_rf (f i.toNatClampNeg) :: st) h n c s) : zZ X pc lv (.int i :: .ref a :: st) h n c s := by
  intro p e s0 m below meth c0 H locs ls hF h1 h2 h3 h4 h5 h6
  obtain ⟨j, hj⟩ := zL_at (h3.lt hc) hc
  exact va_aldq hF.1 hF.2.1 hF.K.1 (zL_P h3 _) j 2 hj rfl hin hd (k p e s0 m below meth c0 H locs ls hF h1 h2 h3 h4 h5 h6)
theorem z_alenq {a m0 : Nat} {f : Nat → Option Nat} (hd : decode (zxM X).2.1 pc = .ok (.arraylength, 1)) (hc : h a = some (zRf (zxG X) m0 f)) (k : zZ X (pc + 1) lv (.int (nI m0) :: st) h n c s) : zZ X pc lv (.ref a :: st) h n c s := by
  intro p e s0 m below meth c0 H locs ls hF h1 h2 h3 h4 h5 h6
  obtain ⟨j, hj⟩ := zL_at (h3.lt hc) hc
  exact va_alen hF.1 hF.2.1 hF.K.1 (zL_P h3 _) j 2 hj (ty := .object "java/lang/Object") rfl rfl hd (k p e s0 m below meth c0 H locs ls hF h1 h2 h3 h4 h5 h6)
theorem z_cast {idx a : Nat} {fs : List Value} (hd : decode (zxM X).2.1 pc = .ok (.checkcast idx, 3)) (hw : zall [.classLink (zxM X).1.cls idx RX3] = true) (hc : h a = some (zO 4 fs)) (k : zZ X (pc + 3) lv (.ref a :: st) h n c s) : zZ X pc lv (.ref a :: st) h n c s := by
  intro p e s0 m below meth c0 H locs ls hF h1 h2 h3 h4 h5 h6
  exact va_castS hF.1 hF.2.1 hF.2.2.2.2.1 (hF.2.2.2.2.2.1 _ (zall_spec hw _ (by simp))) (hF.K.1.1 4 (RX3, TX3, 11) rfl).2 (zrecv hF.K h3 hc (by decide)) hd (k p e s0 m below meth c0 H locs ls hF h1 h2 h3 h4 h5 h6)
theorem z_anull (hd : decode (zxM X).2.1 pc = .ok (.aconst_null, 1)) (k : zZ X (pc + 1) lv (.null :: st) h n c s) : zZ X pc lv st h n c s := by
  intro p e s0 m below meth c0 H locs ls hF h1 h2 h3 h4 h5 h6
  exact lv_null hF.1 hF.2.1 hd (k p e s0 m below meth c0 H locs ls hF h1 h2 h3 h4 h5 h6)
theorem z_acmp_eq {x y : Nat} {off : Int} {t : Nat} (hd : decode (zxM X).2.1 pc = .ok (.if_acmp .eq off, 3)) (ht : (pc : Int) + off = (t : Int)) (kt : x = y → zZ X t lv st h n c s) (kf : ¬ x = y → zZ X (pc + 3) lv st h n c s) : zZ X pc lv (.ref y :: .ref x :: st) h n c s := by
  intro p e s0 m below meth c0 H locs ls hF h1 h2 h3 h4 h5 h6
  exact lv_acmp_eq (rx := some x) (ry := some y) hF.1 hF.2.1 hd ht (fun q => kt (Option.some.inj q) p e s0 m below meth c0 H locs ls hF h1 h2 h3 h4 h5 h6) (fun q => kf (fun z => q (by rw [z])) p e s0 m below meth c0 H locs ls hF h1 h2 h3 h4 h5 h6)
/-- an inherited field, named by the class below -/
theorem z_getI {idx a : Nat} {v0 v1 v2 : Value} (hd : decode (zxM X).2.1 pc = .ok (.getfield idx, 3)) (hw : zall [.fieldLink (zxM X).1.cls idx RJx4a65c "modCount" "I", .sameField RJx4a65c "java/util/AbstractList" "modCount" "I"] = true) (hc : h a = some (zO 1 [v0, v1, v2])) (k : zZ X (pc + 3) lv (v0 :: st) h n c s) : zZ X pc lv (.ref a :: st) h n c s := by
  intro p e s0 m below meth c0 H locs ls hF h1 h2 h3 h4 h5 h6
  have hts := hF.2.2.2.2.2.1
  have w := zall_spec hw
  obtain ⟨j, hj⟩ := zL_at (h3.lt hc) hc
  exact va_get (C := RJx4a65c) (T := TJx4a65c) (N := 3) hF.1 hF.2.1 hts (zcls (ci := 1) rfl).1 hF.2.2.2.2.1 hF.2.2.2.2.2.2.2.2.1 (zL_P h3 _) j hj rfl 0 (by decide) (hts _ (w (.fieldLink (zxM X).1.cls idx RJx4a65c "modCount" "I") (by simp))) (fun x q => u_same (hts _ (w (.sameField RJx4a65c "java/util/AbstractList" "modCount" "I") (by simp))) x q) rfl hd (k p e s0 m below meth c0 H locs ls hF h1 h2 h3 h4 h5 h6)
theorem z_putI {idx a : Nat} {v0 v1 v2 : Value} {x : Int32} (hd : decode (zxM X).2.1 pc = .ok (.putfield idx, 3)) (hw : zall [.fieldLink (zxM X).1.cls idx RJx4a65c "modCount" "I", .sameField RJx4a65c "java/util/AbstractList" "modCount" "I"] = true) (hc : h a = some (zO 1 [v0, v1, v2])) (k : zZ X (pc + 3) lv st (va_up h a (some (zO 1 [.int x, v1, v2]))) n c s) : zZ X pc lv (.int x :: .ref a :: st) h n c s := by
  intro p e s0 m below meth c0 H locs ls hF h1 h2 h3 h4 h5 h6
  have hts := hF.2.2.2.2.2.1
  have w := zall_spec hw
  have e1 : vwCl[1]? = some (RJx4a65c, TJx4a65c, 3) := rfl
  have e2 : 0 < 3 := by decide
  obtain ⟨g1, g2, g3⟩ := zcls e1
  have hown := hF.2.2.2.2.1
  have hK := hF.2.2.2.2.2.2.2.2.1
  have hap := va_apart (own := (zxM X).1.cls) hts g1 (zft 1) g2 g3 hK e1
  obtain ⟨r, r1, cell, q1, q2, q3, q4⟩ := h3 a _ hc
  have hr : r = (RJx4a65c, TJx4a65c, 3) := Option.some.inj (r1.symm.trans e1)
  subst hr
  obtain ⟨hS, hfc, kC, hkC, hkind⟩ := hK.1 1 _ e1
  obtain ⟨cf, kf, fi, f, hi, hsl⟩ := hS 0 e2
  have hlay := hts _ (g1 _ (u_in_lay e2))
  have hst := (u_facts hfc hkC (u_lays hts g1 e2) hi).1
  have fin : ∀ H' : Heap, H'[a]? = some (cell.setSlot f.slot (.int x)) → H'.size = H.size → (∀ q, q ≠ a → H'[q]? = H[q]?) → W p (zxG X).1 e (zxR X) s0 m (zxA X).toArray below meth c0 H' (locs ++ [⟨a, f.slot⟩]) c s (zxQ X s0 below) (F0 m (pc + 3) ls st) := by
    intro H' w1 w2 w3
    rw [hsl] at w1 ⊢
    refine k p e s0 m below meth c0 H' _ ls hF h1 (w2.trans h2) ?_ (zA_set h4 hc) (h5.put w2 w3 (h4 a (by rw [hc]; simp))) h6
    intro b y hy
    by_cases hb : b = a
    · subst hb
      rw [va_up_self] at hy
      cases hy
      exact ⟨_, e1, t_OB.to (V := updV (vp_V [v0, v1, v2]) 0 (.int x)) ⟨_, w1, q2, q3, t_set q4 hap e2 (.int x)⟩ (fun j _ => vp_updV_set (fs := [v0, v1, v2]) (k := 0) (Nat.zero_lt_succ 2) (.int x) j)⟩
    · rw [zup_ne hb] at hy
      exact (h3 b y hy).kept (w3 b hb)
  unfold u_lay at hlay
  rw [if_neg (by decide)] at hlay
  have h9 := u_store hfc hkC hkind hlay hi (g2 0 e2) (v := .int x) rfl rfl
  exact W.putK hF.1 hF.2.1 (f := f) ⟨hown, hts _ (w _ (by simp)), ⟨_, _, _, u_same (hts _ (w (.sameField RJx4a65c "java/util/AbstractList" "modCount" "I") (by simp))) _ hi⟩, hst⟩ (by rw [q2]; exact h9) q1 q3 (by rw [hsl]; exact k2_hasslot (q4 0 e2)) rfl rfl hd fin
end zArows
theorem z_areturnA {G : zC} {R : Room} {M : zM} {args : List Value} {h0 h : zH} {n0 n c s pc : Nat} {post : zP} {lv : List (Nat × Value)} {a : Nat} {T : FieldType} (hd : decode M.2.1 pc = .ok (.areturn, 1)) (hr : M.2.2.2 = some (.array T)) (hc : c ≤ R.cells) (hs : s ≤ R.slots) (hp : post (some (.ref a)) h n) : zZ (zXm G R M args h0 n0 post) pc lv [.ref a] h n c s := by
  intro p e s0 m below meth c0 H locs ls hF h1 h2 h3 h4 h5 h6
  refine W.widen hc hs ?_
  exact W.aret hF.1 hF.2.1 (hF.2.2.1.trans hr) (Or.inr ⟨_, rfl⟩) (Or.inr ⟨_, rfl⟩) (fun t ht hW => zQ_ret h1 h2 h3 h4 h5 ht hp) h5.2.2 hd hF.2.2.2.2.2.2.1
/-! calls of what needs the static -/
theorem zblindS {G : zC} {t : Nat} {h : zH} {n : Nat} {as : List Value} : FrameBlind (va_Pc as (fun U => U.heap.size = n ∧ zW G h U.heap ∧ zK G U ∧ zSt G t (zA h n) U U.heap)) := fun a U g mk q => ⟨q.1, q.2.1, q.2.2.1, zK.same (s := U) (U := U.calling g mk a) rfl q.2.2.2.1, q.2.2.2.2.sm (U := U.calling g mk a) rfl⟩
section zCallsS
variable {G : zC} {t : Nat} {R : Room} {M : zM} {args : List Value} {h0 : zH} {n0 : Nat} {post : zP} {R' : Room} {M' : zM} {S : zS} {idx na : Nat}
theorem zck_Is (hS : ∀ as h n K, S as h n K → (∃ b r, as = .ref b :: r) ∧ zCs G t R' M' as h n K) (hr : M'.2.2.2 = none) (hc : Cond.code M'.1 M'.2.1 M'.2.2.1 M'.2.2.2 ∈ zT) (hw : zall [.methodLink M.1.cls idx M'.1, .instanceMethod M'.1, .initialized M'.1.cls] = true) (hi : M'.1.name = "<init>") (hn : znd M'.1 na = true) (hR : zroom R' R M'.2.2.1 = true) : zCk (zXs G t R M args h0 n0 post) (.invokespecial idx) (na + 1) R'.cells R'.slots S := by
  intro pc lv as rest h n c s K hd hl hcc hss hcat hs kk
  refine zZ.cs fun p e s0 m below meth c0 H locs ls hF h1 h2 h3 h4 h5 h6 hst => ?_
  have hts := hF.2.2.2.2.2.1
  have w := zall_spec hw
  simp only [zroom, Bool.and_eq_true, decide_eq_true_eq] at hR
  obtain ⟨⟨b, r, rfl⟩, hM⟩ := hS as h n K hs
  obtain ⟨yy, bb, ml, rt⟩ := M'
  simp only at hr
  subst hr
  have up : ∀ q, zA h n q → zA h0 n0 q := fun q hq => by
    rcases hq with hq | hq
    · exact h4 q hq
    · exact Or.inr (by rw [← h1]; exact Nat.le_trans h5.1 (by rw [h2]; exact hq))
  exact z_run (X := zXs G t R M args h0 n0 post) (va_runI (b := b) (As := r) (rest := rest) ⟨hF.1, hF.2.1, hF.2.2.2.1, hF.2.2.2.2.1, hts⟩ hM ⟨callB_of na hts (zgoodIn hc) rfl rfl rfl (hts _ (w _ (by simp))) (hts _ (w _ (by simp))) (znd_spec hn) hR, hi, hts _ (w (.instanceMethod yy) (by simp))⟩ ⟨zblindS, fun U hU hW => ⟨rfl, by rw [hU]; exact h2, by rw [hU]; exact h3, zK.warm hW hF.K, by rw [hU]; exact hst.mv h5 hW up⟩⟩ rfl (by simpa using hl) h6.1 (by simp) (lv_room hcat) hd ⟨hcc, hss⟩) hF h1 h2 h4 h5 h6 kk
theorem zck_Vs {ci : Nat} (hS : ∀ as h n K, S as h n K → (∃ b fs r, as = .ref b :: r ∧ h b = some (.inr (ci, fs))) ∧ zCs G t R' M' as h n K) (hci : zcn ci M'.1.cls = true) (hc : Cond.code M'.1 M'.2.1 M'.2.2.1 M'.2.2.2 ∈ zT) (hw : zall [.methodLink M.1.cls idx M'.1, .instanceMethod M'.1, .selects M'.1.cls M'.1 M'.1, .initialized M'.1.cls] = true) (hn : znd M'.1 na = true) (hR : zroom R' R M'.2.2.1 = true) : zCk (zXs G t R M args h0 n0 post) (.invokevirtual idx) (na + 1) R'.cells R'.slots S := by
  intro pc lv as rest h n c s K hd hl hcc hss hcat hs kk
  refine zZ.cs fun p e s0 m below meth c0 H locs ls hF h1 h2 h3 h4 h5 h6 hst => ?_
  have hts := hF.2.2.2.2.2.1
  have w := zall_spec hw
  simp only [zroom, Bool.and_eq_true, decide_eq_true_eq] at hR
  obtain ⟨⟨b, fs, r, rfl, hb⟩, hM⟩ := hS as h n K hs
  have up : ∀ q, zA h n q → zA h0 n0 q := fun q hq => by
    rcases hq with hq | hq
    · exact h4 q hq
    · exact Or.inr (by rw [← h1]; exact Nat.le_trans h5.1 (by rw [h2]; exact hq))
  exact z_run (X := zXs G t R M args h0 n0 post) (va_runV (C := M'.1.cls) (b := b) (As := r) (rest := rest) ⟨hF.1, hF.2.1, hF.2.2.2.1, hF.2.2.2.2.1, hts⟩ hM ⟨callB_of na hts (zgoodIn hc) rfl rfl rfl (hts _ (w _ (by simp))) (hts _ (w _ (by simp))) (znd_spec hn) hR, hts _ (w (.instanceMethod M'.1) (by simp)), hts _ (w (.selects M'.1.cls M'.1 M'.1) (by simp))⟩ ⟨zblindS, zrecv hF.K h3 hb hci, fun U hU hW => ⟨rfl, by rw [hU]; exact h2, by rw [hU]; exact h3, zK.warm hW hF.K, by rw [hU]; exact hst.mv h5 hW up⟩⟩ rfl (by simpa using hl) h6.1 (by simp) (lv_room hcat) hd ⟨hcc, hss⟩) hF h1 h2 h4 h5 h6 kk
end zCallsS

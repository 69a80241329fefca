/-! arrays -/
theorem zF.K {G : zC} {M : zM} {p : Program} {s : State} {m : MethodId} {args : Array Value} {meth : Method} {c : Code} (h : zF G M p s m args meth c) : zK G s := h.2.2.2.2.2.2.2.2
theorem z_iaload {X : zX} {pc : Nat} {lv : List (Nat × Value)} {st : List Value} {h : zH} {n c s : Nat} {a m0 : Nat} {g : Nat → Int32} {i : Int32} (hd : decode (zxM X).2.1 pc = .ok (.iaload, 1)) (hc : h a = some (.inl ((zxG X).2.2.1, m0, .inl g))) (hin : vp_in i m0) (k : zZ X (pc + 1) lv (.int (g i.toNatClampNeg) :: st) h n c s) : zZ X pc lv (.int i :: .ref a :: st) h n c s := by
  intro p e s0 m below meth c0 H locs ls hF h1 h2 h3 h4 h5 h6
  obtain ⟨j, hj⟩ := zL_at (h3.lt hc) hc
  exact va_iald hF.1 hF.2.1 hF.K.1 (zL_P h3 _) j 0 hj rfl hin hd (k p e s0 m below meth c0 H locs ls hF h1 h2 h3 h4 h5 h6)
theorem z_baload {X : zX} {pc : Nat} {lv : List (Nat × Value)} {st : List Value} {h : zH} {n c s : Nat} {a m0 : Nat} {g : Nat → Int32} {i : Int32} (hd : decode (zxM X).2.1 pc = .ok (.baload, 1)) (hc : h a = some (.inl ((zxG X).2.2.2.1, m0, .inl g))) (hin : vp_in i m0) (k : zZ X (pc + 1) lv (.int (g i.toNatClampNeg) :: st) h n c s) : zZ X pc lv (.int i :: .ref a :: st) h n c s := by
  intro p e s0 m below meth c0 H locs ls hF h1 h2 h3 h4 h5 h6
  obtain ⟨j, hj⟩ := zL_at (h3.lt hc) hc
  exact va_zald hF.1 hF.2.1 hF.K.1 (zL_P h3 _) j 1 hj rfl hin hd (k p e s0 m below meth c0 H locs ls hF h1 h2 h3 h4 h5 h6)
theorem z_alen {X : zX} {pc : Nat} {lv : List (Nat × Value)} {st : List Value} {h : zH} {n c s : Nat} {a m0 : Nat} {g : Nat → Int32} (hd : decode (zxM X).2.1 pc = .ok (.arraylength, 1)) (hc : h a = some (.inl ((zxG X).2.2.1, m0, .inl g))) (k : zZ X (pc + 1) lv (.int (nI m0) :: st) h n c s) : zZ X pc lv (.ref a :: st) h n c s := by
  intro p e s0 m below meth c0 H locs ls hF h1 h2 h3 h4 h5 h6
  obtain ⟨j, hj⟩ := zL_at (h3.lt hc) hc
  exact va_alen hF.1 hF.2.1 hF.K.1 (zL_P h3 _) j 0 hj (ty := .int) rfl rfl hd (k p e s0 m below meth c0 H locs ls hF h1 h2 h3 h4 h5 h6)
theorem zupW {G : zC} {h : zH} {H H1 : Heap} {a : Nat} {x : va_E} (h3 : zW G h H) (oq : ∀ q, q ≠ a → H1[q]? = H[q]?) (hx : va_at G.2.1 vwCl (a, x) H1) : zW G (va_up h a (some x)) H1 := by
  intro b y hy
  by_cases hb : b = a
  · subst hb
    rw [va_up_self] at hy
    cases hy
    exact hx
  · rw [zup_ne hb] at hy
    exact (h3 b y hy).kept (oq b hb)
theorem z_iastore {X : zX} {pc : Nat} {lv : List (Nat × Value)} {st : List Value} {h : zH} {n c s : Nat} {a m0 : Nat} {g : Nat → Int32} {i x : Int32} (hd : decode (zxM X).2.1 pc = .ok (.iastore, 1)) (hc : h a = some (.inl ((zxG X).2.2.1, m0, .inl g))) (hin : vp_in i m0) (k : zZ X (pc + 1) lv st (va_up h a (some (.inl ((zxG X).2.2.1, m0, .inl (upd g i.toNatClampNeg x))))) n c s) : zZ X pc lv (.int x :: .int i :: .ref a :: st) h n c s := by
  intro p e s0 m below meth c0 H locs ls hF h1 h2 h3 h4 h5 h6
  refine W.iast hF.1 hF.2.1 (h3 a _ hc) ((hF.K.1.2 0 _ rfl).1 m0 (fun j => .int (g j))) (fun q => by cases q) (by show ¬ (i < 0 ∨ (arrV _ _ _).slots.size ≤ _); rw [arrV_size]; exact hin) rfl rfl hd fun H1 ec z oq => ?_
  refine k p e s0 m below meth c0 H1 _ ls hF h1 (z.trans h2) (zupW h3 oq ?_) (zA_set h4 hc) (h5.put z oq (h4 a (by rw [hc]; simp))) h6
  show H1[a]? = some (vp_cell _ _)
  rw [ec, vp_cell_i, vp_cell_i, arrV_store]
  congr 2
  funext q
  by_cases hq : q = i.toNatClampNeg
  · subst hq
    simp [updV, upd]
  · simp [updV, upd, hq]
theorem z_bastore {X : zX} {pc : Nat} {lv : List (Nat × Value)} {st : List Value} {h : zH} {n c s : Nat} {a m0 : Nat} {g : Nat → Int32} {i x : Int32} (hd : decode (zxM X).2.1 pc = .ok (.bastore, 1)) (hc : h a = some (.inl ((zxG X).2.2.2.1, m0, .inl g))) (hin : vp_in i m0) (k : zZ X (pc + 1) lv st (va_up h a (some (.inl ((zxG X).2.2.2.1, m0, .inl (upd g i.toNatClampNeg (vp_nar .boolean x)))))) n c s) : zZ X pc lv (.int x :: .int i :: .ref a :: st) h n c s := by
  intro p e s0 m below meth c0 H locs ls hF h1 h2 h3 h4 h5 h6
  refine W.zast hF.1 hF.2.1 (h3 a _ hc) ((hF.K.1.2 1 _ rfl).1 m0 (fun j => .int (g j))) (fun q => by cases q) (by show ¬ (i < 0 ∨ (arrV _ _ _).slots.size ≤ _); rw [arrV_size]; exact hin) rfl rfl hd fun H1 ec z oq => ?_
  refine k p e s0 m below meth c0 H1 _ ls hF h1 (z.trans h2) (zupW h3 oq ?_) (zA_set h4 hc) (h5.put z oq (h4 a (by rw [hc]; simp))) h6
  show H1[a]? = some (vp_cell _ _)
  rw [ec, vp_cell_i, vp_cell_i, arrV_store]
  congr 2
  funext q
  by_cases hq : q = i.toNatClampNeg
  · subst hq
    simp [updV, upd, vp_nar]
    try rfl
  · simp [updV, upd, hq]
/-! new cells -/
theorem zA_push {h0 h : zH} {n0 : Nat} {H0 H : Heap} {locs : List Loc} {x : Option va_E} (h4 : ∀ a, h a ≠ none → zA h0 n0 a) (h1 : H0.size = n0) (h5 : va_S (zA h0 n0) H0 H locs) : ∀ b, va_up h H.size x b ≠ none → zA h0 n0 b := fun b hb => by
  by_cases eb : b = H.size
  · exact Or.inr (by rw [eb, ← h1]; exact h5.1)
  · exact h4 b (by rwa [zup_ne eb] at hb)
theorem zS_push {h0 : zH} {n0 : Nat} {H0 H H1 : Heap} {locs : List Loc} (h5 : va_S (zA h0 n0) H0 H locs) (z : H1.size = H.size + 1) (o1 : ∀ q, q < H.size → H1[q]? = H[q]?) : va_S (zA h0 n0) H0 H1 locs :=
  ⟨Nat.le_trans h5.1 (by omega), fun x g1 g2 => (o1 x (Nat.lt_of_lt_of_le g1 h5.1)).trans (h5.2.1 x g1 g2), h5.2.2⟩
def znOk (y : MethodName) (q : Nat × Nat × List Value) : Bool := match vwCl[q.2.1]? with
  | some (C, _, N) => zall [.classLink y.cls q.1 C, .instantiable C N, .initialized C] && decide (q.2.2.length = N) && (List.range N).all (fun j => decide (defaultValue (zft q.2.1 j) = vp_V q.2.2 j))
  | none => false
theorem z_new {X : zX} {pc : Nat} {lv : List (Nat × Value)} {st : List Value} {h : zH} {n c s : Nat} {idx ci : Nat} {fs : List Value} {y : MethodName} (hd : decode (zxM X).2.1 pc = .ok (.new idx, 3)) (hn : znOk y (idx, ci, fs) = true) (hy : y.cls = (zxM X).1.cls) (hc : c + 1 ≤ (zxR X).cells) (hs : s + fs.length ≤ (zxR X).slots) (k : zZ X (pc + 3) lv (.ref n :: st) (va_up h n (some (.inr (ci, fs)))) (n + 1) (c + 1) (s + fs.length)) : zZ X pc lv st h n c s := by
  intro p e s0 m below meth c0 H locs ls hF h1 h2 h3 h4 h5 h6
  unfold znOk at hn
  dsimp only at hn
  split at hn
  · rename_i C T N hv
    simp only [Bool.and_eq_true, decide_eq_true_eq, List.all_eq_true, List.mem_range] at hn
    obtain ⟨⟨w1, w2⟩, w3⟩ := hn
    rw [hy] at w1
    have hw := zall_spec w1
    have hts := hF.2.2.2.2.2.1
    have hKn := hF.K.1.1 ci _ hv
    subst w2
    subst h2
    refine W.newcK hF.1 hF.2.1 hF.2.2.2.2.1 (hts _ (hw _ (by simp))) (hts _ (hw (.instantiable C fs.length) (by simp))) (hts _ (hw _ (by simp))) rfl hd hc hs hKn.2.1 rfl fun H1 kC hkC e1 z1 o1 => ?_
    refine k p e s0 m below meth c0 H1 locs ls hF h1 z1 (zW.push h3 o1 ⟨_, hv, (u_born (zft ci) hts (zcls hv).1 hKn hkC e1 (zcls hv).2.1).to w3⟩) (zA_push h4 h1 h5) (zS_push h5 z1 o1) h6
  · cases hn
theorem z_newi {X : zX} {pc : Nat} {lv : List (Nat × Value)} {st : List Value} {h : zH} {n c s : Nat} {x : Int32} (hd : decode (zxM X).2.1 pc = .ok (.newarray .int, 2)) (hw : Cond.arrayClass .int ∈ zT) (hx : ¬ x < 0) (hb : x.toNatClampNeg ≤ 1000000) (hc : c + 1 ≤ (zxR X).cells) (hs : s + x.toNatClampNeg ≤ (zxR X).slots) (k : zZ X (pc + 2) lv (.ref n :: st) (va_up h n (some (.inl ((zxG X).2.2.1, x.toNatClampNeg, .inl (fun _ => 0))))) (n + 1) (c + 1) (s + x.toNatClampNeg)) : zZ X pc lv (.int x :: st) h n c s := by
  intro p e s0 m below meth c0 H locs ls hF h1 h2 h3 h4 h5 h6
  subst h2
  refine va_newaK (atype := .int) hF.1 hF.2.1 (hF.2.2.2.2.2.1 _ hw) rfl hd rfl hx rfl (by show _ * 4 ≤ _; omega) hc hs rfl fun H1 cA e1 z1 o1 hAr hNm => ?_
  have hcA : cA = (zxG X).2.2.1 := by
    have q : s0.vm.findClass ("[" ++ FieldType.int.toString) = some (zxG X).2.2.1 := (hF.K.1.2 0 _ rfl).2
    exact Option.some.inj (hNm.symm.trans q)
  subst hcA
  exact k p e s0 m below meth c0 H1 locs ls hF h1 z1 (zW.push h3 o1 e1) (zA_push h4 h1 h5) (zS_push h5 z1 o1) h6
theorem z_newz {X : zX} {pc : Nat} {lv : List (Nat × Value)} {st : List Value} {h : zH} {n c s : Nat} {x : Int32} (hd : decode (zxM X).2.1 pc = .ok (.newarray .boolean, 2)) (hw : Cond.arrayClass .boolean ∈ zT) (hx : ¬ x < 0) (hb : x.toNatClampNeg ≤ 1000000) (hc : c + 1 ≤ (zxR X).cells) (hs : s + x.toNatClampNeg ≤ (zxR X).slots) (k : zZ X (pc + 2) lv (.ref n :: st) (va_up h n (some (.inl ((zxG X).2.2.2.1, x.toNatClampNeg, .inl (fun _ => 0))))) (n + 1) (c + 1) (s + x.toNatClampNeg)) : zZ X pc lv (.int x :: st) h n c s := by
  intro p e s0 m below meth c0 H locs ls hF h1 h2 h3 h4 h5 h6
  subst h2
  refine va_newaK (atype := .boolean) hF.1 hF.2.1 (hF.2.2.2.2.2.1 _ hw) rfl hd rfl hx rfl (by show _ * 1 ≤ _; omega) hc hs rfl fun H1 cA e1 z1 o1 hAr hNm => ?_
  have hcA : cA = (zxG X).2.2.2.1 := by
    have q : s0.vm.findClass ("[" ++ FieldType.boolean.toString) = some (zxG X).2.2.2.1 := (hF.K.1.2 1 _ rfl).2
    exact Option.some.inj (hNm.symm.trans q)
  subst hcA
  exact k p e s0 m below meth c0 H1 locs ls hF h1 z1 (zW.push h3 o1 e1) (zA_push h4 h1 h5) (zS_push h5 z1 o1) h6
/-! a method's start and end -/
abbrev zXm (G : zC) (R : Room) (M : zM) (args : List Value) (h0 : zH) (n0 : Nat) (post : zP) : zX := (G, R, M, args, h0, n0, fun s below => MQ below (zQ G h0 post) args.toArray s R.cells R.slots (zA h0 n0))
theorem zCt.of {G : zC} {R : Room} {M : zM} {args : List Value} {h : zH} {n : Nat} {post : zP} (hy : plainName M.1.cls = true) (hl : (lg_sl args).length ≤ M.2.2.1) (k : zZ (zXm G R M args h n post) 0 (lv_args 0 args) [] h n 0 0) : zCt G R M args h n post := by
  refine Met.ofW (cc := M.2.1) (maxL := M.2.2.1) (ret := M.2.2.2) hy rfl ?_
  intro p e s m args' below meth c s₁ B hml hv
  obtain ⟨rfl, hsz, hW, hK⟩ := hv
  have hts := atoms_spec (ws := zws M) B.pre
  have hl' := lv_entry args hl
  rw [lg_entry_eq]
  refine k p e s m below meth c s.heap [] _ ⟨B.exec, B.bytes, B.returns, hml, findClass_of_methodNamed B.named, fun w hw => hts w (List.mem_cons_of_mem _ hw), B.notSynchronized, (name_of_methodNamed B.named B.method).1, hK⟩ hsz hsz hW (fun a ha => Or.inl ha) va_S.rf hl'
theorem zQ_ret {G : zC} {h0 h : zH} {n0 n : Nat} {post : zP} {s t : State} {H : Heap} {locs : List Loc} {a : Array Value} {v : Option Value} (h1 : s.heap.size = n0) (h2 : H.size = n) (h3 : zW G h H) (h4 : ∀ a, h a ≠ none → zA h0 n0 a) (h5 : va_S (zA h0 n0) s.heap H locs) (ht : t.heap = H) (hp : post v h n) : zQ G h0 post a s (.returned v) t := by
  subst h1
  exact ⟨v, h, rfl, by rw [ht, h2]; exact hp, by rw [ht]; exact h3, h4, h5.F ht⟩
def zretI (ret : Option FieldType) (x : Int32) : Prop := match ret with
  | some .int => True
  | some .boolean => x = 0 ∨ x = 1
  | _ => False
section zR
variable {G : zC} {R : Room} {M : zM} {args : List Value} {h0 h : zH} {n0 n c s pc : Nat} {post : zP} {lv : List (Nat × Value)}
theorem z_ireturn {x : Int32} (hd : decode M.2.1 pc = .ok (.ireturn, 1)) (hr : zretI M.2.2.2 x) (hc : c ≤ R.cells) (hs : s ≤ R.slots) (hp : post (some (.int x)) h n) : zZ (zXm G R M args h0 n0 post) pc lv [.int x] h n c s := by
  intro p e s0 m below meth c0 H locs ls hF h1 h2 h3 h4 h5 h6
  refine W.widen hc hs ?_
  have hrt := hF.2.2.1
  have hlk := hF.2.2.2.2.2.2.1
  unfold zretI at hr
  split at hr
  · rename_i e9
    exact W.iret hF.1 hF.2.1 (hrt.trans e9) (fun t ht hW => zQ_ret h1 h2 h3 h4 h5 ht hp) h5.2.2 hd hlk
  · rename_i e9
    exact W.zret hF.1 hF.2.1 (hrt.trans e9) (by rcases hr with rfl | rfl <;> decide) (fun t ht hW => zQ_ret h1 h2 h3 h4 h5 ht hp) h5.2.2 hd hlk
  · exact hr.elim
theorem z_vreturn (hd : decode M.2.1 pc = .ok (.return_, 1)) (hr : M.2.2.2 = none) (hc : c ≤ R.cells) (hs : s ≤ R.slots) (hp : post none h n) : zZ (zXm G R M args h0 n0 post) pc lv [] h n c s := by
  intro p e s0 m below meth c0 H locs ls hF h1 h2 h3 h4 h5 h6
  refine W.widen hc hs ?_
  exact W.vret hF.1 hF.2.1 (hF.2.2.1.trans hr) (fun t ht hW => zQ_ret h1 h2 h3 h4 h5 ht hp) h5.2.2 hd hF.2.2.2.2.2.2.1
theorem z_areturn {a : Nat} {T : String} (hd : decode M.2.1 pc = .ok (.areturn, 1)) (hr : M.2.2.2 = some (.object T)) (hc : c ≤ R.cells) (hs : s ≤ R.slots) (hp : post (some (.ref a)) h n) : zZ (zXm G R M args h0 n0 post) pc lv [.ref a] h n c s := by
  intro p e s0 m below meth c0 H locs ls hF h1 h2 h3 h4 h5 h6
  refine W.widen hc hs ?_
  exact W.aret hF.1 hF.2.1 (hF.2.2.1.trans hr) (Or.inl ⟨_, rfl⟩) (Or.inr ⟨_, rfl⟩) (fun t ht hW => zQ_ret h1 h2 h3 h4 h5 ht hp) h5.2.2 hd hF.2.2.2.2.2.2.1
end zR
/-! calls -/
theorem z_run {X : zX} {pc : Nat} {lv : List (Nat × Value)} {h : zH} {n c s : Nat} {e : Env} {p : Program} {s0 : State} {m : MethodId} {below : List Frame} {meth : Method} {c0 : Code} {H : Heap} {locs : List Loc} {ls : Array Slot} {mc ms : Nat} {rest st0 : List Value} {a : Array Value} {post : zP}
    (hr : va_Run p (zxG X).1 e (zxR X) s0 m (zxA X).toArray below meth c0 H locs c s mc ms (F0 m pc ls st0) rest (zQ (zxG X) h post a) (zA h n))
    (hF : zF (zxG X) (zxM X) p s0 m (zxA X).toArray meth c0) (h1 : s0.heap.size = zxN X) (h2 : H.size = n) (h4 : ∀ a, h a ≠ none → zA (zxH X) (zxN X) a) (h5 : va_S (zA (zxH X) (zxN X)) s0.heap H locs) (h6 : lv_has ls (zxM X).2.2.1 lv)
    (kk : ∀ v h' n', post v h' n' → zZ X (pc + 3) lv (v.toList ++ rest) h' n' (c + mc) (s + ms)) : W p (zxG X).1 e (zxR X) s0 m (zxA X).toArray below meth c0 H locs c s (zxQ X s0 below) (F0 m pc ls st0) := by
  intro T hT XX
  obtain ⟨v, st₀, t, T', L, e0, X', hL, e1, e2, ⟨v', h', hv, hp, hw, hdom, hz, hkp⟩, stp⟩ := hr T hT XX
  cases hv
  rw [e0] at hdom hz hkp
  have up : ∀ q, zA h H.size q → zA (zxH X) (zxN X) q := fun q hq => by
    rcases hq with hq | hq
    · exact h4 q hq
    · exact Or.inr (by rw [← h1]; exact Nat.le_trans h5.1 hq)
  obtain ⟨t2, a1, b1⟩ := kk v h' _ hp p e s0 m below meth c0 T'.heap (locs ++ L) ls hF h1 (by rw [e1]) (by rw [e1]; exact hw) (fun q hq => up q (hdom q hq))
    ⟨Nat.le_trans h5.1 (by rw [e1]; exact hz), fun q g1 g2 => by
      rw [e1, hkp q (Nat.lt_of_lt_of_le g1 h5.1) (fun z => g2 (up q z))]
      exact h5.2.1 q g1 g2, fun q hq => by
      rcases List.mem_append.mp hq with hq | hq
      · exact h5.2.2 q hq
      · have := hL q hq
        rw [← h2] at this
        exact up _ this⟩ h6 T' rfl X'
  exact ⟨t2, stp t2 a1, b1⟩
/-- a call's row: from what is said of the callee (S) to the state behind it -/
def zCk (X : zX) (i : Instr) (na mc ms : Nat) (S : zS) : Prop := ∀ (pc : Nat) (lv : List (Nat × Value)) (as rest : List Value) (h : zH) (n c s : Nat) (K : zP), decode (zxM X).2.1 pc = .ok (i, 3) → as.length = na → c + mc ≤ (zxR X).cells → s + ms ≤ (zxR X).slots → (rest.map fun v => v.category).sum ≤ 8 → S as h n K →
  (∀ v h' n', K v h' n' → zZ X (pc + 3) lv (v.toList ++ rest) h' n' (c + mc) (s + ms)) → zZ X pc lv (as.reverse ++ rest) h n c s
theorem zblind {G : zC} {h : zH} {n : Nat} {as : List Value} : FrameBlind (va_Pc as (fun U => U.heap.size = n ∧ zW G h U.heap ∧ zK G U)) := fun a U g mk q => ⟨q.1, q.2.1, q.2.2.1, zK.same (s := U) (U := U.calling g mk a) rfl q.2.2.2⟩
def zroom (R' R : Room) (ml : Nat) : Bool := decide (R'.frames + 1 ≤ R.frames) && decide (8 + (ml + 11) + R'.locals ≤ R.locals)
def znd (y : MethodName) (na : Nat) : Bool := decide (y.cls ≠ "java/lang/invoke/MethodHandle") && decide (y.cls ≠ "java/lang/invoke/VarHandle") && decide ((parseMethodDescriptor y.desc).map (fun d => d.parameters.length) = some na)
theorem znd_spec {y : MethodName} {na : Nat} (h : znd y na = true) : y.cls ≠ "java/lang/invoke/MethodHandle" ∧ y.cls ≠ "java/lang/invoke/VarHandle" ∧ (parseMethodDescriptor y.desc).map (fun d => d.parameters.length) = some na := by
  simp only [znd, Bool.and_eq_true, decide_eq_true_eq] at h
  exact ⟨h.1.1, h.1.2, h.2⟩
section zCalls
variable {X : zX} {R' : Room} {M' : zM} {S : zS} {idx na : Nat}
theorem zck_S (hS : ∀ as h n K, S as h n K → zCt (zxG X) R' M' as h n K) (hc : Cond.code M'.1 M'.2.1 M'.2.2.1 M'.2.2.2 ∈ zT) (hw : zall [.methodLink (zxM X).1.cls idx M'.1, .static M'.1, .initialized M'.1.cls] = true) (hn : znd M'.1 na = true) (hR : zroom R' (zxR X) M'.2.2.1 = true) : zCk X (.invokestatic idx) na R'.cells R'.slots S := by
  intro pc lv as rest h n c s K hd hl hcc hss hcat hs kk p e s0 m below meth c0 H locs ls hF h1 h2 h3 h4 h5 h6
  have hts := hF.2.2.2.2.2.1
  have w := zall_spec hw
  simp only [zroom, Bool.and_eq_true, decide_eq_true_eq] at hR
  exact z_run (va_runS (As := as) (rest := rest) ⟨hF.1, hF.2.1, hF.2.2.2.1, hF.2.2.2.2.1, hts⟩ (hS as h n K hs) ⟨callB_of na hts (zgoodIn hc) rfl rfl rfl (hts _ (w _ (by simp))) (hts _ (w _ (by simp))) (znd_spec hn) hR, hts _ (w (.static M'.1) (by simp))⟩ ⟨zblind, fun U hU hW => ⟨rfl, by rw [hU]; exact h2, by rw [hU]; exact h3, zK.warm hW hF.K⟩⟩ rfl hl h6.1 rfl (lv_room hcat) hd ⟨hcc, hss⟩) hF h1 h2 h4 h5 h6 kk
theorem zck_SN {host : String} (hS : ∀ as h n K, S as h n K → zCt (zxG X) R' M' as h n K) (hc : Cond.code M'.1 M'.2.1 M'.2.2.1 M'.2.2.2 ∈ zT) (hw : zall [.static M'.1, .initialized M'.1.cls] = true) (hN : Cond.methodLinkNest (zxM X).1.cls idx M'.1 host ∈ zNest) (hn : znd M'.1 na = true) (hR : zroom R' (zxR X) M'.2.2.1 = true) : zCk X (.invokestatic idx) na R'.cells R'.slots S := by
  intro pc lv as rest h n c s K hd hl hcc hss hcat hs kk p e s0 m below meth c0 H locs ls hF h1 h2 h3 h4 h5 h6
  have hts := hF.2.2.2.2.2.1
  have w := zall_spec hw
  simp only [zroom, Bool.and_eq_true, decide_eq_true_eq] at hR
  exact z_run (va_runSN (As := as) (rest := rest) ⟨hF.1, hF.2.1, hF.2.2.2.1, hF.2.2.2.2.1, hts⟩ (hS as h n K hs) ⟨va_cnB na hts (zgoodIn hc) rfl rfl rfl (hF.K.2 _ hN) (hts _ (w _ (by simp))) (znd_spec hn) hR, hts _ (w (.static M'.1) (by simp)), trivial⟩ ⟨zblind, fun U hU hW => ⟨rfl, by rw [hU]; exact h2, by rw [hU]; exact h3, zK.warm hW hF.K⟩⟩ rfl hl h6.1 rfl (lv_room hcat) hd ⟨hcc, hss⟩) hF h1 h2 h4 h5 h6 kk
/-- a constructor -/
theorem zck_I (hS : ∀ as h n K, S as h n K → (∃ b r, as = .ref b :: r) ∧ zCt (zxG X) R' M' as h n K) (hr : M'.2.2.2 = none) (hc : Cond.code M'.1 M'.2.1 M'.2.2.1 M'.2.2.2 ∈ zT) (hw : zall [.methodLink (zxM X).1.cls idx M'.1, .instanceMethod M'.1, .initialized M'.1.cls] = true) (hi : M'.1.name = "<init>") (hn : znd M'.1 na = true) (hR : zroom R' (zxR X) M'.2.2.1 = true) : zCk X (.invokespecial idx) (na + 1) R'.cells R'.slots S := by
  intro pc lv as rest h n c s K hd hl hcc hss hcat hs kk p e s0 m below meth c0 H locs ls hF h1 h2 h3 h4 h5 h6
  have hts := hF.2.2.2.2.2.1
  have w := zall_spec hw
  simp only [zroom, Bool.and_eq_true, decide_eq_true_eq] at hR
  obtain ⟨⟨b, r, rfl⟩, hM⟩ := hS as h n K hs
  obtain ⟨yy, bb, ml, rt⟩ := M'
  simp only at hr
  subst hr
  exact z_run (va_runI (b := b) (As := r) (rest := rest) ⟨hF.1, hF.2.1, hF.2.2.2.1, hF.2.2.2.2.1, hts⟩ hM ⟨callB_of na hts (zgoodIn hc) rfl rfl rfl (hts _ (w _ (by simp))) (hts _ (w _ (by simp))) (znd_spec hn) hR, hi, hts _ (w (.instanceMethod yy) (by simp))⟩ ⟨zblind, fun U hU hW => ⟨rfl, by rw [hU]; exact h2, by rw [hU]; exact h3, zK.warm hW hF.K⟩⟩ rfl (by simpa using hl) h6.1 (by simp) (lv_room hcat) hd ⟨hcc, hss⟩) hF h1 h2 h4 h5 h6 kk
theorem zck_IN {host : String} (hS : ∀ as h n K, S as h n K → (∃ b r, as = .ref b :: r) ∧ zCt (zxG X) R' M' as h n K) (hr : M'.2.2.2 = none) (hc : Cond.code M'.1 M'.2.1 M'.2.2.1 M'.2.2.2 ∈ zT) (hw : zall [.instanceMethod M'.1, .initialized M'.1.cls] = true) (hN : Cond.methodLinkNest (zxM X).1.cls idx M'.1 host ∈ zNest) (hi : M'.1.name = "<init>") (hn : znd M'.1 na = true) (hR : zroom R' (zxR X) M'.2.2.1 = true) : zCk X (.invokespecial idx) (na + 1) R'.cells R'.slots S := by
  intro pc lv as rest h n c s K hd hl hcc hss hcat hs kk p e s0 m below meth c0 H locs ls hF h1 h2 h3 h4 h5 h6
  have hts := hF.2.2.2.2.2.1
  have w := zall_spec hw
  simp only [zroom, Bool.and_eq_true, decide_eq_true_eq] at hR
  obtain ⟨⟨b, r, rfl⟩, hM⟩ := hS as h n K hs
  obtain ⟨yy, bb, ml, rt⟩ := M'
  simp only at hr
  subst hr
  exact z_run (va_runIN (b := b) (As := r) (rest := rest) ⟨hF.1, hF.2.1, hF.2.2.2.1, hF.2.2.2.2.1, hts⟩ hM ⟨va_cnB na hts (zgoodIn hc) rfl rfl rfl (hF.K.2 _ hN) (hts _ (w _ (by simp))) (znd_spec hn) hR, hi, hts _ (w (.instanceMethod yy) (by simp))⟩ ⟨zblind, fun U hU hW => ⟨rfl, by rw [hU]; exact h2, by rw [hU]; exact h3, zK.warm hW hF.K⟩⟩ rfl (by simpa using hl) h6.1 (by simp) (lv_room hcat) hd ⟨hcc, hss⟩) hF h1 h2 h4 h5 h6 kk
/-- the receiver's class, by its number -/
def zcn (ci : Nat) (C : String) : Bool := match vwCl[ci]? with
  | some (D, _, _) => D == C
  | none => false
theorem zrecv {G : zC} {s : State} {H : Heap} {h : zH} {b ci : Nat} {fs : List Value} {C : String} (hK : zK G s) (h3 : zW G h H) (hb : h b = some (.inr (ci, fs))) (hc : zcn ci C = true) : ∃ cell : Cell, H[b]? = some cell ∧ cell.vm.isStatics = false ∧ s.vm.findClass C = some cell.cls := by
  unfold zcn at hc
  split at hc
  · rename_i D T N hv
    have e : D = C := by simpa using hc
    subst e
    obtain ⟨j, hj⟩ := zL_at (h3.lt hb) hb
    exact va_recv hK.1 (zL_P h3 _) hv hj
  · cases hc
/-- a method of the receiver's own class -/
theorem zck_V {ci : Nat} (hS : ∀ as h n K, S as h n K → (∃ b fs r, as = .ref b :: r ∧ h b = some (.inr (ci, fs))) ∧ zCt (zxG X) R' M' as h n K) (hci : zcn ci M'.1.cls = true) (hc : Cond.code M'.1 M'.2.1 M'.2.2.1 M'.2.2.2 ∈ zT) (hw : zall [.methodLink (zxM X).1.cls idx M'.1, .instanceMethod M'.1, .selects M'.1.cls M'.1 M'.1, .initialized M'.1.cls] = true) (hn : znd M'.1 na = true) (hR : zroom R' (zxR X) M'.2.2.1 = true) : zCk X (.invokevirtual idx) (na + 1) R'.cells R'.slots S := by
  intro pc lv as rest h n c s K hd hl hcc hss hcat hs kk p e s0 m below meth c0 H locs ls hF h1 h2 h3 h4 h5 h6
  have hts := hF.2.2.2.2.2.1
  have w := zall_spec hw
  simp only [zroom, Bool.and_eq_true, decide_eq_true_eq] at hR
  obtain ⟨⟨b, fs, r, rfl, hb⟩, hM⟩ := hS as h n K hs
  exact z_run (va_runV (C := M'.1.cls) (b := b) (As := r) (rest := rest) ⟨hF.1, hF.2.1, hF.2.2.2.1, hF.2.2.2.2.1, hts⟩ hM ⟨callB_of na hts (zgoodIn hc) rfl rfl rfl (hts _ (w _ (by simp))) (hts _ (w _ (by simp))) (znd_spec hn) hR, hts _ (w (.instanceMethod M'.1) (by simp)), hts _ (w (.selects M'.1.cls M'.1 M'.1) (by simp))⟩ ⟨zblind, zrecv hF.K h3 hb hci, fun U hU hW => ⟨rfl, by rw [hU]; exact h2, by rw [hU]; exact h3, zK.warm hW hF.K⟩⟩ rfl (by simpa using hl) h6.1 (by simp) (lv_room hcat) hd ⟨hcc, hss⟩) hF h1 h2 h4 h5 h6 kk
/-- a method that is found by the receiver's class: inherited, or abstract where it is named -/
theorem zck_U {ci : Nat} {C owner : String} {x : MethodName} (hS : ∀ as h n K, S as h n K → (∃ b fs r, as = .ref b :: r ∧ h b = some (.inr (ci, fs))) ∧ zCt (zxG X) R' M' as h n K) (hci : zcn ci C = true) (hc : Cond.code M'.1 M'.2.1 M'.2.2.1 M'.2.2.2 ∈ zT) (hw : zall [.methodLink (zxM X).1.cls idx x, .sameMethod x.cls owner x.name x.desc, .selects C x M'.1, .instanceMethod M'.1, .initialized M'.1.cls] = true) (hD : Cond.declares ⟨owner, x.name, x.desc⟩ ∈ zNest ∨ M'.1 = ⟨owner, x.name, x.desc⟩) (hn : znd ⟨owner, x.name, x.desc⟩ na = true) (hR : zroom R' (zxR X) M'.2.2.1 = true) : zCk X (.invokevirtual idx) (na + 1) R'.cells R'.slots S := by
  intro pc lv as rest h n c s K hd hl hcc hss hcat hs kk p e s0 m below meth c0 H locs ls hF h1 h2 h3 h4 h5 h6
  have hts := hF.2.2.2.2.2.1
  have w := zall_spec hw
  simp only [zroom, Bool.and_eq_true, decide_eq_true_eq] at hR
  obtain ⟨⟨b, fs, r, rfl, hb⟩, hM⟩ := hS as h n K hs
  obtain ⟨n1, n2, n3⟩ := znd_spec hn
  have hdecl : va_Decl s0 ⟨owner, x.name, x.desc⟩ := by
    rcases hD with hD | hD
    · exact va_Decl.abs (hF.K.2 _ hD)
    · rw [← hD]
      exact va_Decl.of (hts _ (w (.instanceMethod M'.1) (by simp))) (hts _ hc)
  have cu : va_CU (zxR X) s0 (zxA X).toArray (zxM X).1.cls C owner idx x M'.1 M'.2.1 M'.2.2.1 M'.2.2.2 (zws M') R' R'.cells R'.slots na :=
    ⟨⟨rfl, rfl, hR.1, hR.2, pay_in hts (zgoodIn hc), List.mem_cons_self⟩, hts _ hc, hts _ (w _ (by simp)), ⟨n1, n2⟩, fun sig hsig => by
      have n3' := n3
      simp only at n3'
      rw [hsig] at n3'
      exact (Option.some.inj n3').symm, hts _ (w _ (by simp)), hts _ (w _ (by simp)), hdecl, hts _ (w (.selects C x M'.1) (by simp)), hts _ (w (.instanceMethod M'.1) (by simp))⟩
  exact z_run (va_runU (b := b) (As := r) (rest := rest) ⟨hF.1, hF.2.1, hF.2.2.2.1, hF.2.2.2.2.1, hts⟩ hM cu ⟨zblind, zrecv hF.K h3 hb hci, fun U hU hW => ⟨rfl, by rw [hU]; exact h2, by rw [hU]; exact h3, zK.warm hW hF.K⟩⟩ rfl (by simpa using hl) h6.1 (by simp) (lv_room hcat) hd ⟨hcc, hss⟩) hF h1 h2 h4 h5 h6 kk
/-- Object's constructor -/
theorem zck_O (hw : zall [.methodLink (zxM X).1.cls idx objectInit, .instanceMethod objectInit] = true) (hc : Cond.code objectInit ⟨#[0xb1]⟩ 1 none ∈ zT) (hR : zroom ⟨0, 0, 0, 0⟩ (zxR X) 1 = true) : zCk X (.invokespecial idx) 1 0 0 (fun as h n K => (∃ a, as = [.ref a]) ∧ K none h n) := by
  intro pc lv as rest h n c s K hd hl hcc hss hcat hs kk p e s0 m below meth c0 H locs ls hF h1 h2 h3 h4 h5 h6
  have hts := hF.2.2.2.2.2.1
  have w := zall_spec hw
  simp only [zroom, Bool.and_eq_true, decide_eq_true_eq] at hR
  obtain ⟨⟨a, rfl⟩, hK⟩ := hs
  refine W.objInit (a := a) (rest := rest) hF.1 hF.2.1 hF.2.2.2.2.1 (hts _ (w _ (by simp))) (hts _ (w _ (by simp))) (hts _ hc) rfl (by rw [hF.2.2.2.1]; exact h6.1) rfl hd hR.1 (by have := lv_room (m := m) (pc := pc) (ls := ls) (rest := rest) hcat; have h9 := hR.2; show 2 * 0 + _ + 12 ≤ _; omega) ?_
  exact kk none h n hK p e s0 m below meth c0 H locs ls hF h1 h2 h3 h4 h5 h6
end zCalls
/-! calls by the number of what they take -/
abbrev zKc (X : zX) (pc : Nat) (lv : List (Nat × Value)) (rest : List Value) (c s : Nat) : zP := fun v h' n' => match v with
  | none => zZ X pc lv rest h' n' c s
  | some w => zZ X pc lv (w :: rest) h' n' c s
theorem zKc_go {X : zX} {pc : Nat} {lv : List (Nat × Value)} {rest : List Value} {c s : Nat} : ∀ v h' n', zKc X pc lv rest c s v h' n' → zZ X pc lv (v.toList ++ rest) h' n' c s
  | none, _, _, q => q
  | some _, _, _, q => q
section zCallN
variable {X : zX} {pc : Nat} {lv : List (Nat × Value)} {rest : List Value} {h : zH} {n c s mc ms : Nat} {i : Instr} {S : zS} {v1 v2 v3 v4 v5 : Value}
theorem zcall0 (ck : zCk X i 0 mc ms S) (hd : decode (zxM X).2.1 pc = .ok (i, 3)) (h1 : c + mc ≤ (zxR X).cells) (h2 : s + ms ≤ (zxR X).slots) (h3 : (rest.map fun v => v.category).sum ≤ 8) (hS : S [] h n (zKc X (pc + 3) lv rest (c + mc) (s + ms))) : zZ X pc lv rest h n c s := ck pc lv [] rest h n c s _ hd rfl h1 h2 h3 hS zKc_go
theorem zcall1 (ck : zCk X i 1 mc ms S) (hd : decode (zxM X).2.1 pc = .ok (i, 3)) (h1 : c + mc ≤ (zxR X).cells) (h2 : s + ms ≤ (zxR X).slots) (h3 : (rest.map fun v => v.category).sum ≤ 8) (hS : S [v1] h n (zKc X (pc + 3) lv rest (c + mc) (s + ms))) : zZ X pc lv (v1 :: rest) h n c s := ck pc lv [v1] rest h n c s _ hd rfl h1 h2 h3 hS zKc_go
theorem zcall2 (ck : zCk X i 2 mc ms S) (hd : decode (zxM X).2.1 pc = .ok (i, 3)) (h1 : c + mc ≤ (zxR X).cells) (h2 : s + ms ≤ (zxR X).slots) (h3 : (rest.map fun v => v.category).sum ≤ 8) (hS : S [v1, v2] h n (zKc X (pc + 3) lv rest (c + mc) (s + ms))) : zZ X pc lv (v2 :: v1 :: rest) h n c s := ck pc lv [v1, v2] rest h n c s _ hd rfl h1 h2 h3 hS zKc_go
theorem zcall3 (ck : zCk X i 3 mc ms S) (hd : decode (zxM X).2.1 pc = .ok (i, 3)) (h1 : c + mc ≤ (zxR X).cells) (h2 : s + ms ≤ (zxR X).slots) (h3 : (rest.map fun v => v.category).sum ≤ 8) (hS : S [v1, v2, v3] h n (zKc X (pc + 3) lv rest (c + mc) (s + ms))) : zZ X pc lv (v3 :: v2 :: v1 :: rest) h n c s := ck pc lv [v1, v2, v3] rest h n c s _ hd rfl h1 h2 h3 hS zKc_go
theorem zcall4 (ck : zCk X i 4 mc ms S) (hd : decode (zxM X).2.1 pc = .ok (i, 3)) (h1 : c + mc ≤ (zxR X).cells) (h2 : s + ms ≤ (zxR X).slots) (h3 : (rest.map fun v => v.category).sum ≤ 8) (hS : S [v1, v2, v3, v4] h n (zKc X (pc + 3) lv rest (c + mc) (s + ms))) : zZ X pc lv (v4 :: v3 :: v2 :: v1 :: rest) h n c s := ck pc lv [v1, v2, v3, v4] rest h n c s _ hd rfl h1 h2 h3 hS zKc_go
theorem zcall5 (ck : zCk X i 5 mc ms S) (hd : decode (zxM X).2.1 pc = .ok (i, 3)) (h1 : c + mc ≤ (zxR X).cells) (h2 : s + ms ≤ (zxR X).slots) (h3 : (rest.map fun v => v.category).sum ≤ 8) (hS : S [v1, v2, v3, v4, v5] h n (zKc X (pc + 3) lv rest (c + mc) (s + ms))) : zZ X pc lv (v5 :: v4 :: v3 :: v2 :: v1 :: rest) h n c s := ck pc lv [v1, v2, v3, v4, v5] rest h n c s _ hd rfl h1 h2 h3 hS zKc_go
end zCallN
/-! the small helpers of the walks -/
theorem zwI : Cond.arrayClass .int ∈ zT := zall_spec (ws := [.arrayClass .int]) (by decide +kernel) _ (by simp)
theorem zwZ : Cond.arrayClass .boolean ∈ zT := zall_spec (ws := [.arrayClass .boolean]) (by decide +kernel) _ (by simp)
theorem zb0 : True := trivial

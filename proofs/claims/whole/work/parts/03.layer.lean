/-! THE LAYER: worlds as partial functions of addresses; contracts over the whole world; a wp over decoded instructions. -/
abbrev zH : Type := Nat → Option va_E
abbrev zC : Type := Launch × va_G × ClassId × ClassId × ClassId × ClassId
abbrev zM : Type := MethodName × ByteArray × Nat × Option FieldType
abbrev zP : Type := Option Value → zH → Nat → Prop
abbrev zKt : Type := Nat → List (Nat × Value) → List Value → zH → Nat → Nat → Nat → Prop
def zty (G : zC) : List (ClassId × FieldType) := [(G.2.2.1, .int), (G.2.2.2.1, .boolean), (G.2.2.2.2.1, .object "java/lang/Object"), (G.2.2.2.2.2, .long)]
/-- words that are told of the start beside the tables': the private methods of the abstract class, as a receiver of the classes below has them -/
def zx : List Cond := [.selects RX6 yX1_settledPart yX1_settledPart, .selects RX9 yX1_settledPart yX1_settledPart, .selects RX6 yX1_putBit yX1_putBit, .selects RX9 yX1_putBit yX1_putBit]
def zT : List Cond := lw_tbl.filter goodWord ++ zx
def zws (M : zM) : List Cond := .code M.1 M.2.1 M.2.2.1 M.2.2.2 :: zT
theorem zx_good : zx.all goodWord = true := by decide +kernel
theorem zgood {w : Cond} (h : w ∈ zT) : (w.onTables && w.keeps) = true ∨ ∃ ty, w = .arrayClass ty := by
  rcases List.mem_append.mp h with h | h
  · exact good_of_word (List.mem_filter.mp h).2
  · exact good_of_word (List.all_eq_true.mp zx_good _ h)
theorem zTm {w : Cond} {i : Nat} (h : lw_tbl[i]? = some w) (g : goodWord w = true) : w ∈ zT := List.mem_append_left _ (List.mem_filter.mpr ⟨List.mem_of_getElem? h, g⟩)
/-- by program: the words of a list stand in the tables -/
def zall (ws : List Cond) : Bool := ws.all (fun w => decide (w ∈ lw_tbl) && goodWord w)
theorem zall_spec {ws : List Cond} (h : zall ws = true) : ∀ w ∈ ws, w ∈ zT := fun w hw => by
  have h1 := List.all_eq_true.mp h w hw
  simp only [Bool.and_eq_true, decide_eq_true_eq] at h1
  exact List.mem_append_left _ (List.mem_filter.mpr h1)
theorem zgoodIn {M : zM} (h : Cond.code M.1 M.2.1 M.2.2.1 M.2.2.2 ∈ zT) : GoodIn zT (zws M) := fun w hw => by
  rcases List.mem_cons.mp hw with rfl | hw
  · exact ⟨h, zgood h⟩
  · exact ⟨hw, zgood hw⟩
/-- the links among nest mates, and what abstract methods are declared: words that stay when the tables grow warm, by laws of their own -/
def znest : Cond → Bool
  | .methodLinkNest _ _ _ _ => true
  | .declares _ => true
  | _ => false
def zNest : List Cond := tables_1.filter znest
theorem znest_warm {w : Cond} (hw : znest w = true) {s U : State} (hW : s.WarmedH U.vm) (h : va_Nw w s) : va_Nw w U := by
  cases w <;> first | exact va_Nw.warmM hW h | exact va_Nw.warmD hW h | (exfalso; revert hw; simp [znest])
theorem znest_same {w : Cond} (hw : znest w = true) {s U : State} (hW : s.vm = U.vm) (h : va_Nw w s) : va_Nw w U := by
  cases w <;> first | exact va_Nw.same rfl hW h | (exfalso; revert hw; simp [znest])
def zK (G : zC) (U : State) : Prop := va_K G.2.1 vwCl (zty G) U ∧ ∀ w ∈ zNest, va_Nw w U
theorem zK.warm {G : zC} {s U : State} (hW : s.WarmedH U.vm) (h : zK G s) : zK G U :=
  ⟨va_K.moved hW.alike h.1, fun w hw => znest_warm (List.mem_filter.mp hw).2 hW (h.2 w hw)⟩
theorem zK.same {G : zC} {s U : State} (hv : s.vm = U.vm) (h : zK G s) : zK G U :=
  ⟨va_K.moved (by rw [hv]; exact Vm.Alike.refl U.vm) h.1, fun w hw => znest_same (List.mem_filter.mp hw).2 hv (h.2 w hw)⟩
theorem zup_ne {α : Type} {f : Nat → α} {k j : Nat} {v : α} (h : ¬ j = k) : va_up f k v j = f j := va_up_ne f v h
def zW (G : zC) (h : zH) (H : Heap) : Prop := ∀ a c, h a = some c → va_at G.2.1 vwCl (a, c) H
def zA (h0 : zH) (n0 : Nat) : Nat → Prop := fun q => h0 q ≠ none ∨ n0 ≤ q
def zQ (G : zC) (h0 : zH) (post : zP) : Array Value → State → Outcome → State → Prop := fun _ st oc t =>
  ∃ (v : Option Value) (h' : zH), oc = .returned v ∧ post v h' t.heap.size ∧ zW G h' t.heap ∧ (∀ a, h' a ≠ none → zA h0 st.heap.size a) ∧ va_F (zA h0 st.heap.size) st t
def zCt (G : zC) (R : Room) (M : zM) (args : List Value) (h : zH) (n : Nat) (post : zP) : Prop :=
  Met G.1 M.1 (zws M) R (va_Pc args (fun U => U.heap.size = n ∧ zW G h U.heap ∧ zK G U)) (zQ G h post) R.cells R.slots (zA h n)
def zF (G : zC) (M : zM) (p : Program) (s : State) (m : MethodId) (args : Array Value) (meth : Method) (c : Code) : Prop :=
  p.tables.exec = Jvm.exec ∧ c.code = M.2.1 ∧ meth.sig.returnType = M.2.2.2 ∧ c.maxLocals = M.2.2.1 ∧ s.vm.findClass M.1.cls = some m.cls ∧ (∀ w ∈ zT, w.before args s = true) ∧ meth.locks = false ∧ meth.name = M.1.name ∧ zK G s
abbrev zX : Type := zC × Room × zM × List Value × zH × Nat × (State → List Frame → State → Prop)
abbrev zxG (X : zX) : zC := X.1
abbrev zxR (X : zX) : Room := X.2.1
abbrev zxM (X : zX) : zM := X.2.2.1
abbrev zxA (X : zX) : List Value := X.2.2.2.1
abbrev zxH (X : zX) : zH := X.2.2.2.2.1
abbrev zxN (X : zX) : Nat := X.2.2.2.2.2.1
abbrev zxQ (X : zX) : State → List Frame → State → Prop := X.2.2.2.2.2.2
/-- the machine, from this frame and this world on, comes to the method's end -/
def zZ (X : zX) : zKt := fun pc lv st h n cells slots =>
  ∀ (p : Program) (e : Env) (s : State) (m : MethodId) (below : List Frame) (meth : Method) (c : Code) (H : Heap) (locs : List Loc) (ls : Array Slot),
    zF (zxG X) (zxM X) p s m (zxA X).toArray meth c → s.heap.size = zxN X → H.size = n → zW (zxG X) h H → (∀ a, h a ≠ none → zA (zxH X) (zxN X) a) → va_S (zA (zxH X) (zxN X)) s.heap H locs → lv_has ls (zxM X).2.2.1 lv →
    W p (zxG X).1 e (zxR X) s m (zxA X).toArray below meth c H locs cells slots (zxQ X s below) (F0 m pc ls st)
/-- the world's cells as a list -/
def zL (h : zH) (n : Nat) : va_W := (List.range n).filterMap (fun a => (h a).map (fun c => (a, c)))
theorem zL_mem {h : zH} {n a : Nat} {c : va_E} : (a, c) ∈ zL h n ↔ a < n ∧ h a = some c := by
  simp only [zL, List.mem_filterMap, List.mem_range, Option.map_eq_some_iff, Prod.mk.injEq]
  constructor
  · rintro ⟨b, hb, x, hx, rfl, rfl⟩
    exact ⟨hb, hx⟩
  · rintro ⟨h1, h2⟩
    exact ⟨a, h1, c, h2, rfl, rfl⟩
theorem zL_keys (h : zH) (n : Nat) : (zL h n).map (fun q => q.1) = (List.range n).filter (fun a => (h a).isSome) := by
  unfold zL
  generalize List.range n = l
  induction l with
  | nil => rfl
  | cons x l ih =>
    rw [List.filterMap_cons]
    cases hx : h x with
    | none => simp [hx, ih]
    | some c => simp [hx, ih]
theorem zL_nd (h : zH) (n : Nat) : ((zL h n).map (fun q => q.1)).Nodup := by
  rw [zL_keys]
  exact List.Pairwise.filter _ List.nodup_range
theorem zL_inj {h : zH} {n i j : Nat} {p q : Nat × va_E} (hi : (zL h n)[i]? = some p) (hj : (zL h n)[j]? = some q) (e : p.1 = q.1) : i = j := by
  have h1 : ((zL h n).map (fun q => q.1))[i]? = some p.1 := by rw [List.getElem?_map, hi]; rfl
  have h2 : ((zL h n).map (fun q => q.1))[j]? = some p.1 := by rw [List.getElem?_map, hj, e]; rfl
  have hl : i < ((zL h n).map (fun q => q.1)).length := (List.getElem?_eq_some_iff.mp h1).1
  exact (List.getElem?_inj hl (zL_nd h n)).mp (h1.trans h2.symm)
theorem zL_at {h : zH} {n a : Nat} {c : va_E} (hl : a < n) (hc : h a = some c) : ∃ k : Nat, (zL h n)[k]? = some (a, c) := List.getElem?_of_mem (zL_mem.mpr ⟨hl, hc⟩)
theorem zW.lt {G : zC} {h : zH} {H : Heap} (hW : zW G h H) {a : Nat} {c : va_E} (hc : h a = some c) : a < H.size := (hW a c hc).lt
theorem zL_P {G : zC} {h : zH} {H : Heap} (hW : zW G h H) (n : Nat) : va_P G.2.1 vwCl (zL h n) H := fun k q hq => by
  obtain ⟨a, c⟩ := q
  exact hW a c (zL_mem.mp (List.mem_of_getElem? hq)).2
theorem zL_D {A : Nat → Prop} {h : zH} (hA : ∀ a, h a ≠ none → A a) (n : Nat) : va_D A (zL h n) := by
  refine ⟨fun i j p q hi hj e => zL_inj hi hj e, fun k q hq => ?_⟩
  obtain ⟨a, c⟩ := q
  have h1 := (zL_mem.mp (List.mem_of_getElem? hq)).2
  exact hA a (by rw [h1]; simp)
/-- a cell is changed -/
theorem zL_set {G : zC} {h : zH} {H H1 : Heap} (hW : zW G h H) {k a : Nat} {c c' : va_E} (hk : (zL h H.size)[k]? = some (a, c)) (hP : va_P G.2.1 vwCl ((zL h H.size).set k (a, c')) H1) : zW G (va_up h a (some c')) H1 := by
  have hl : k < (zL h H.size).length := (List.getElem?_eq_some_iff.mp hk).1
  intro b x hx
  by_cases hb : b = a
  · subst hb
    rw [va_up_self] at hx
    cases hx
    exact hP k _ (by rw [List.getElem?_set_self hl])
  · rw [zup_ne hb] at hx
    obtain ⟨j, hj⟩ := zL_at (hW.lt hx) hx
    have hjk : k ≠ j := fun e => by
      subst e
      have := hk.symm.trans hj
      simp at this
      exact hb this.1.symm
    exact hP j _ (by rw [List.getElem?_set_ne hjk]; exact hj)
theorem zA_set {A : Nat → Prop} {h : zH} {a : Nat} {c c' : va_E} (hA : ∀ b, h b ≠ none → A b) (hc : h a = some c) : ∀ b, va_up h a (some c') b ≠ none → A b := fun b hb => by
  by_cases e : b = a
  · subst e; exact hA b (by rw [hc]; simp)
  · exact hA b (by rwa [zup_ne e] at hb)
/-- a cell comes, at the heap's end -/
theorem zW.push {G : zC} {h : zH} {H H1 : Heap} (hW : zW G h H) (ho : ∀ q, q < H.size → H1[q]? = H[q]?) {c : va_E} (hc : va_at G.2.1 vwCl (H.size, c) H1) : zW G (va_up h H.size (some c)) H1 := by
  intro b x hx
  by_cases hb : b = H.size
  · subst hb
    rw [va_up_self] at hx
    cases hx
    exact hc
  · rw [zup_ne hb] at hx
    exact (hW b x hx).kept (ho b (hW.lt hx))
/-! locals by a sorted list -/
def zlk : List (Nat × Value) → Nat → Option Value
  | [], _ => none
  | (j, v) :: r, i => if j = i then some v else zlk r i
theorem zlk_mem {lv : List (Nat × Value)} {i : Nat} {v : Value} (h : zlk lv i = some v) : (i, v) ∈ lv := by
  induction lv with
  | nil => simp [zlk] at h
  | cons q r ih =>
    obtain ⟨j, w⟩ := q
    simp only [zlk] at h
    by_cases e : j = i
    · rw [if_pos e] at h
      cases h
      subst e
      exact List.mem_cons_self
    · rw [if_neg e] at h
      exact List.mem_cons_of_mem _ (ih h)
theorem zlk_has {ls : Array Slot} {nL : Nat} {lv : List (Nat × Value)} {i : Nat} {v : Value} (h : lv_has ls nL lv) (hk : zlk lv i = some v) : ls[i]? = some (.val v) := h.2.2 _ (zlk_mem hk)
def zrm : List (Nat × Value) → Nat → List (Nat × Value)
  | [], _ => []
  | (j, w) :: r, i => if j = i then zrm r i else if j + 1 = i ∧ w.category = 2 then zrm r i else (j, w) :: zrm r i
def zins : Nat → Value → List (Nat × Value) → List (Nat × Value)
  | i, v, [] => [(i, v)]
  | i, v, (j, w) :: r => if i < j then (i, v) :: (j, w) :: r else (j, w) :: zins i v r
def zst (lv : List (Nat × Value)) (i : Nat) (v : Value) : List (Nat × Value) := zins i v (zrm lv i)
theorem zrm_mem {lv : List (Nat × Value)} {i : Nat} {q : Nat × Value} (h : q ∈ zrm lv i) : q ∈ lv.filter (fun q => !(q.1 == i) && !(q.1 + 1 == i && q.2.category == 2)) := by
  induction lv with
  | nil => simp [zrm] at h
  | cons x r ih =>
    obtain ⟨j, w⟩ := x
    simp only [zrm] at h
    by_cases e : j = i
    · rw [if_pos e] at h
      have := ih h
      simp only [List.mem_filter, List.mem_cons] at this ⊢
      exact ⟨Or.inr this.1, this.2⟩
    · rw [if_neg e] at h
      by_cases e2 : j + 1 = i ∧ w.category = 2
      · rw [if_pos e2] at h
        have := ih h
        simp only [List.mem_filter, List.mem_cons] at this ⊢
        exact ⟨Or.inr this.1, this.2⟩
      · rw [if_neg e2] at h
        rcases List.mem_cons.mp h with rfl | h
        · refine List.mem_filter.mpr ⟨List.mem_cons_self, ?_⟩
          simp only [Bool.and_eq_true, Bool.not_eq_true', beq_eq_false_iff_ne, ne_eq, Bool.and_eq_false_iff]
          refine ⟨e, ?_⟩
          by_cases e3 : j + 1 = i
          · exact Or.inr (fun e4 => e2 ⟨e3, e4⟩)
          · exact Or.inl e3
        · have := ih h
          simp only [List.mem_filter, List.mem_cons] at this ⊢
          exact ⟨Or.inr this.1, this.2⟩
theorem zins_mem {i : Nat} {v : Value} {l : List (Nat × Value)} {q : Nat × Value} (h : q ∈ zins i v l) : q = (i, v) ∨ q ∈ l := by
  induction l with
  | nil => simpa [zins] using h
  | cons x r ih =>
    obtain ⟨j, w⟩ := x
    simp only [zins] at h
    split at h
    · rcases List.mem_cons.mp h with h | h
      · exact Or.inl h
      · exact Or.inr h
    · rcases List.mem_cons.mp h with h | h
      · exact Or.inr (by rw [h]; exact List.mem_cons_self)
      · rcases ih h with h | h
        · exact Or.inl h
        · exact Or.inr (List.mem_cons_of_mem _ h)
theorem zst_has {ls : Array Slot} {nL : Nat} {lv : List (Nat × Value)} {i : Nat} {v : Value} (h : lv_has ls nL ((i, v) :: lv.filter (fun q => !(q.1 == i) && !(q.1 + 1 == i && q.2.category == 2)))) : lv_has ls nL (zst lv i v) :=
  ⟨h.1, h.2.1, fun q hq => h.2.2 q (by
    rcases zins_mem hq with e | e
    · rw [e]; exact List.mem_cons_self
    · exact List.mem_cons_of_mem _ (zrm_mem e))⟩
theorem zZ.sub {X : zX} {pc : Nat} {lv lv' : List (Nat × Value)} {st : List Value} {h : zH} {n c s : Nat} (hs : ∀ q ∈ lv', q ∈ lv) (k : zZ X pc lv' st h n c s) : zZ X pc lv st h n c s :=
  fun p e s0 m below meth c0 H locs ls hF h1 h2 h3 h4 h5 h6 => k p e s0 m below meth c0 H locs ls hF h1 h2 h3 h4 h5 ⟨h6.1, h6.2.1, fun q hq => h6.2.2 q (hs q hq)⟩
theorem zZ.widen {X : zX} {pc : Nat} {lv : List (Nat × Value)} {st : List Value} {h : zH} {n c s c' s' : Nat} (h1 : c ≤ c') (h2 : s ≤ s') (k : zZ X pc lv st h n c' s') : zZ X pc lv st h n c s :=
  fun p e s0 m below meth c0 H locs ls hF g1 g2 g3 g4 g5 g6 => W.widen h1 h2 (k p e s0 m below meth c0 H locs ls hF g1 g2 g3 g4 g5 g6)
/-! what an instruction finds on the stack -/
def zs1 (st : List Value) (f : Int32 → List Value → Prop) : Prop := match st with
  | .int x :: r => f x r
  | _ => False
def zs2 (st : List Value) (f : Int32 → Int32 → List Value → Prop) : Prop := match st with
  | .int y :: .int x :: r => f x y r
  | _ => False
def zr1 (st : List Value) (f : Nat → List Value → Prop) : Prop := match st with
  | .ref a :: r => f a r
  | _ => False
def zir (st : List Value) (f : Int32 → Nat → List Value → Prop) : Prop := match st with
  | .int x :: .ref a :: r => f x a r
  | _ => False
def ziir (st : List Value) (f : Int32 → Int32 → Nat → List Value → Prop) : Prop := match st with
  | .int x :: .int i :: .ref a :: r => f x i a r
  | _ => False
theorem zs1_inv {st : List Value} {f : Int32 → List Value → Prop} (h : zs1 st f) : ∃ x r, st = .int x :: r ∧ f x r := by
  unfold zs1 at h; split at h
  · exact ⟨_, _, rfl, h⟩
  · exact h.elim
theorem zs2_inv {st : List Value} {f : Int32 → Int32 → List Value → Prop} (h : zs2 st f) : ∃ x y r, st = .int y :: .int x :: r ∧ f x y r := by
  unfold zs2 at h; split at h
  · exact ⟨_, _, _, rfl, h⟩
  · exact h.elim
theorem zr1_inv {st : List Value} {f : Nat → List Value → Prop} (h : zr1 st f) : ∃ a r, st = .ref a :: r ∧ f a r := by
  unfold zr1 at h; split at h
  · exact ⟨_, _, rfl, h⟩
  · exact h.elim
theorem zir_inv {st : List Value} {f : Int32 → Nat → List Value → Prop} (h : zir st f) : ∃ x a r, st = .int x :: .ref a :: r ∧ f x a r := by
  unfold zir at h; split at h
  · exact ⟨_, _, _, rfl, h⟩
  · exact h.elim
theorem ziir_inv {st : List Value} {f : Int32 → Int32 → Nat → List Value → Prop} (h : ziir st f) : ∃ x i a r, st = .int x :: .int i :: .ref a :: r ∧ f x i a r := by
  unfold ziir at h; split at h
  · exact ⟨_, _, _, _, rfl, h⟩
  · exact h.elim
/-- a value of one word on top -/
def zv1 (st : List Value) (f : Value → List Value → Prop) : Prop := match st with
  | v :: r => v.category = 1 ∧ f v r
  | _ => False
def zv2 (st : List Value) (f : Value → Value → List Value → Prop) : Prop := match st with
  | v :: w :: r => v.category = 1 ∧ w.category = 1 ∧ f v w r
  | _ => False
def zv3 (st : List Value) (f : Value → Value → Value → List Value → Prop) : Prop := match st with
  | v :: w :: u :: r => v.category = 1 ∧ w.category = 1 ∧ u.category = 1 ∧ f v w u r
  | _ => False
theorem zv1_inv {st : List Value} {f : Value → List Value → Prop} (h : zv1 st f) : ∃ v r, st = v :: r ∧ v.category = 1 ∧ f v r := by
  unfold zv1 at h; split at h
  · exact ⟨_, _, rfl, h⟩
  · exact h.elim
theorem zv2_inv {st : List Value} {f : Value → Value → List Value → Prop} (h : zv2 st f) : ∃ v w r, st = v :: w :: r ∧ v.category = 1 ∧ w.category = 1 ∧ f v w r := by
  unfold zv2 at h; split at h
  · exact ⟨_, _, _, rfl, h⟩
  · exact h.elim
theorem zv3_inv {st : List Value} {f : Value → Value → Value → List Value → Prop} (h : zv3 st f) : ∃ v w u r, st = v :: w :: u :: r ∧ v.category = 1 ∧ w.category = 1 ∧ u.category = 1 ∧ f v w u r := by
  unfold zv3 at h; split at h
  · exact ⟨_, _, _, _, rfl, h⟩
  · exact h.elim
/-- a local of that kind -/
def zli (lv : List (Nat × Value)) (i : Nat) (f : Int32 → Prop) : Prop := match zlk lv i with
  | some (.int x) => f x
  | _ => False
def zla (lv : List (Nat × Value)) (i : Nat) (f : Nat → Prop) : Prop := match zlk lv i with
  | some (.ref a) => f a
  | _ => False
theorem zli_inv {lv : List (Nat × Value)} {i : Nat} {f : Int32 → Prop} (h : zli lv i f) : ∃ x, zlk lv i = some (.int x) ∧ f x := by
  unfold zli at h; split at h
  · exact ⟨_, by assumption, h⟩
  · exact h.elim
theorem zla_inv {lv : List (Nat × Value)} {i : Nat} {f : Nat → Prop} (h : zla lv i f) : ∃ x, zlk lv i = some (.ref x) ∧ f x := by
  unfold zla at h; split at h
  · exact ⟨_, by assumption, h⟩
  · exact h.elim
/-- an object's, an int array's cell -/
def zob (h : zH) (a : Nat) (f : Nat → List Value → Prop) : Prop := match h a with
  | some (.inr (ci, fs)) => f ci fs
  | _ => False
def zar (h : zH) (a : Nat) (f : ClassId → Nat → (Nat → Int32) → Prop) : Prop := match h a with
  | some (.inl (cA, m, .inl g)) => f cA m g
  | _ => False
theorem zob_inv {h : zH} {a : Nat} {f : Nat → List Value → Prop} (w : zob h a f) : ∃ ci fs, h a = some (.inr (ci, fs)) ∧ f ci fs := by
  unfold zob at w; split at w
  · exact ⟨_, _, by assumption, w⟩
  · exact w.elim
theorem zar_inv {h : zH} {a : Nat} {f : ClassId → Nat → (Nat → Int32) → Prop} (w : zar h a f) : ∃ cA m g, h a = some (.inl (cA, m, .inl g)) ∧ f cA m g := by
  unfold zar at w; split at w
  · exact ⟨_, _, _, by assumption, w⟩
  · exact w.elim
def ztgt (pc : Nat) (off : Int) (k : Nat → Prop) : Prop := 0 ≤ (pc : Int) + off ∧ k ((pc : Int) + off).toNat
theorem ztgt_inv {pc : Nat} {off : Int} {k : Nat → Prop} (h : ztgt pc off k) : ∃ t : Nat, (pc : Int) + off = (t : Int) ∧ k t := ⟨_, (Int.toNat_of_nonneg h.1).symm, h.2⟩
def ztab (pc : Nat) (x : Int) (k : Nat → Prop) : List Int → Int → Prop
  | [], _ => True
  | o :: r, v => (x = v → ztgt pc o k) ∧ ztab pc x k r (v + 1)
theorem ztab_inv {pc : Nat} {x : Int} {k : Nat → Prop} : ∀ {l : List Int} {v : Int}, ztab pc x k l v → ∀ (j : Nat) (o : Int), l[j]? = some o → x = v + j → ztgt pc o k
  | [], _, _, j, o, h, _ => by simp at h
  | a :: r, v, ⟨h1, h2⟩, 0, o, h, e => by
    simp at h
    subst h
    exact h1 (by simpa using e)
  | a :: r, v, ⟨h1, h2⟩, j + 1, o, h, e => ztab_inv h2 j o (by simpa using h) (by omega)
theorem ztgt_mono {pc : Nat} {off : Int} {k k' : Nat → Prop} (hk : ∀ t, k t → k' t) (h : ztgt pc off k) : ztgt pc off k' := ⟨h.1, hk _ h.2⟩
theorem ztab_mono {pc : Nat} {x : Int} {k k' : Nat → Prop} (hk : ∀ t, k t → k' t) : ∀ {l : List Int} {v : Int}, ztab pc x k l v → ztab pc x k' l v
  | [], _, _ => trivial
  | _ :: _, _, ⟨h1, h2⟩ => ⟨fun e => ztgt_mono hk (h1 e), ztab_mono hk h2⟩
/-! the instructions -/
abbrev zS : Type := List Value → zH → Nat → zP → Prop
abbrev zE : Type := List (Nat × Nat × Nat × Nat) × List (Nat × Nat × Nat × Nat × Nat × zS) × List (Nat × Int32) × List (Nat × Nat × List Value)
def zfl : List (Nat × Nat × Nat × Nat) → Nat → Nat → (Nat → Nat → Prop) → Prop
  | [], _, _, _ => False
  | (i, ci, k, w) :: r, idx, c, f => if i = idx ∧ ci = c then f k w else zfl r idx c f
def zcl : List (Nat × Nat × Nat × Nat × Nat × zS) → Nat → Nat → (Nat → Nat → Nat → zS → Prop) → Prop
  | [], _, _, _ => False
  | (t, i, na, mc, ms, S) :: r, kind, idx, f => if t = kind ∧ i = idx then f na mc ms S else zcl r kind idx f
def zkl : List (Nat × Int32) → Nat → (Int32 → Prop) → Prop
  | [], _, _ => False
  | (i, v) :: r, idx, f => if i = idx then f v else zkl r idx f
def znl : List (Nat × Nat × List Value) → Nat → (Nat → List Value → Prop) → Prop
  | [], _, _ => False
  | (i, ci, fs) :: r, idx, f => if i = idx then f ci fs else znl r idx f
theorem zfl_inv {l : List (Nat × Nat × Nat × Nat)} {idx c : Nat} {f : Nat → Nat → Prop} (h : zfl l idx c f) : ∃ k w, (idx, c, k, w) ∈ l ∧ f k w := by
  induction l with
  | nil => exact h.elim
  | cons q r ih =>
    obtain ⟨i, ci, k, w⟩ := q
    simp only [zfl] at h
    split at h
    · rename_i e
      obtain ⟨rfl, rfl⟩ := e
      exact ⟨k, w, List.mem_cons_self, h⟩
    · obtain ⟨k, w, h1, h2⟩ := ih h
      exact ⟨k, w, List.mem_cons_of_mem _ h1, h2⟩
theorem zcl_inv {l : List (Nat × Nat × Nat × Nat × Nat × zS)} {kind idx : Nat} {f : Nat → Nat → Nat → zS → Prop} (h : zcl l kind idx f) : ∃ na mc ms S, (kind, idx, na, mc, ms, S) ∈ l ∧ f na mc ms S := by
  induction l with
  | nil => exact h.elim
  | cons q r ih =>
    obtain ⟨t, i, na, mc, ms, S⟩ := q
    simp only [zcl] at h
    split at h
    · rename_i e
      obtain ⟨rfl, rfl⟩ := e
      exact ⟨na, mc, ms, S, List.mem_cons_self, h⟩
    · obtain ⟨na, mc, ms, S, h1, h2⟩ := ih h
      exact ⟨na, mc, ms, S, List.mem_cons_of_mem _ h1, h2⟩
theorem zkl_inv {l : List (Nat × Int32)} {idx : Nat} {f : Int32 → Prop} (h : zkl l idx f) : ∃ v, (idx, v) ∈ l ∧ f v := by
  induction l with
  | nil => exact h.elim
  | cons q r ih =>
    obtain ⟨i, v⟩ := q
    simp only [zkl] at h
    split at h
    · rename_i e
      subst e
      exact ⟨v, List.mem_cons_self, h⟩
    · obtain ⟨v, h1, h2⟩ := ih h
      exact ⟨v, List.mem_cons_of_mem _ h1, h2⟩
theorem znl_inv {l : List (Nat × Nat × List Value)} {idx : Nat} {f : Nat → List Value → Prop} (h : znl l idx f) : ∃ ci fs, (idx, ci, fs) ∈ l ∧ f ci fs := by
  induction l with
  | nil => exact h.elim
  | cons q r ih =>
    obtain ⟨i, ci, fs⟩ := q
    simp only [znl] at h
    split at h
    · rename_i e
      subst e
      exact ⟨ci, fs, List.mem_cons_self, h⟩
    · obtain ⟨ci, fs, h1, h2⟩ := ih h
      exact ⟨ci, fs, List.mem_cons_of_mem _ h1, h2⟩
/-- the classes' field types, and what the tables say of them -/
def zft : Nat → Nat → FieldType
  | 0 => tyJx00060 | 1 => tyJx4a65c | 2 => tyX0 | 3 => tyX2 | 4 => tyX3 | 5 => tyX4 | 6 => tyX5 | 7 => tyX6 | 8 => tyX8 | 9 => tyX9 | 10 => tyX10 | _ => tyX11
set_option maxRecDepth 100000 in
theorem zwJx00060 : ∀ w ∈ u_ws RJx00060 TJx00060 6, w ∈ zT := zall_spec (by decide +kernel)
set_option maxRecDepth 100000 in
theorem zwJx4a65c : ∀ w ∈ u_ws RJx4a65c TJx4a65c 3, w ∈ zT := zall_spec (by decide +kernel)
set_option maxRecDepth 100000 in
theorem zwX0 : ∀ w ∈ u_ws RX0 TX0 3, w ∈ zT := zall_spec (by decide +kernel)
set_option maxRecDepth 100000 in
theorem zwX2 : ∀ w ∈ u_ws RX2 TX2 2, w ∈ zT := zall_spec (by decide +kernel)
set_option maxRecDepth 100000 in
theorem zwX3 : ∀ w ∈ u_ws RX3 TX3 11, w ∈ zT := zall_spec (by decide +kernel)
set_option maxRecDepth 100000 in
theorem zwX4 : ∀ w ∈ u_ws RX4 TX4 2, w ∈ zT := zall_spec (by decide +kernel)
set_option maxRecDepth 100000 in
theorem zwX5 : ∀ w ∈ u_ws RX5 TX5 6, w ∈ zT := zall_spec (by decide +kernel)
set_option maxRecDepth 100000 in
theorem zwX6 : ∀ w ∈ u_ws RX6 TX6 8, w ∈ zT := zall_spec (by decide +kernel)
set_option maxRecDepth 100000 in
theorem zwX8 : ∀ w ∈ u_ws RX8 TX8 6, w ∈ zT := zall_spec (by decide +kernel)
set_option maxRecDepth 100000 in
theorem zwX9 : ∀ w ∈ u_ws RX9 TX9 6, w ∈ zT := zall_spec (by decide +kernel)
set_option maxRecDepth 100000 in
theorem zwX10 : ∀ w ∈ u_ws RX10 TX10 20, w ∈ zT := zall_spec (by decide +kernel)
set_option maxRecDepth 100000 in
theorem zwX11 : ∀ w ∈ u_ws RX11 TX11 46, w ∈ zT := zall_spec (by decide +kernel)
theorem zcls {ci : Nat} {C : String} {T : u_T} {N : Nat} (h : vwCl[ci]? = some (C, T, N)) : (∀ w ∈ u_ws C T N, w ∈ zT) ∧ (∀ k, k < N → parseFieldDescriptor (T k).2.2.1 = some (zft ci k)) ∧ (∀ a, a < N → ∀ b, b < N → a ≠ b → (T a).2.1 ≠ (T b).2.1) := by
  match ci, h with
  | 0, h => cases h; exact ⟨zwJx00060, tyJx00060_ok, nmJx00060⟩
  | 1, h => cases h; exact ⟨zwJx4a65c, tyJx4a65c_ok, nmJx4a65c⟩
  | 2, h => cases h; exact ⟨zwX0, tyX0_ok, nmX0⟩
  | 3, h => cases h; exact ⟨zwX2, tyX2_ok, nmX2⟩
  | 4, h => cases h; exact ⟨zwX3, tyX3_ok, nmX3⟩
  | 5, h => cases h; exact ⟨zwX4, tyX4_ok, nmX4⟩
  | 6, h => cases h; exact ⟨zwX5, tyX5_ok, nmX5⟩
  | 7, h => cases h; exact ⟨zwX6, tyX6_ok, nmX6⟩
  | 8, h => cases h; exact ⟨zwX8, tyX8_ok, nmX8⟩
  | 9, h => cases h; exact ⟨zwX9, tyX9_ok, nmX9⟩
  | 10, h => cases h; exact ⟨zwX10, tyX10_ok, nmX10⟩
  | 11, h => cases h; exact ⟨zwX11, tyX11_ok, nmX11⟩
  | ci + 12, h => simp [vwCl] at h
/-- what a store into a field takes: 1 an int, 2 a reference, 3 a boolean; 0: it is only read -/
def zputOk (ty : FieldType) (w : Nat) : Bool := match w, ty with
  | 0, _ => true
  | 1, .int => true
  | 2, .object _ => true
  | 2, .array _ => true
  | 3, .boolean => true
  | _, _ => false
/-- a row of a method's field table, by program: own class, own method's name -/
def zfOk (y : MethodName) (q : Nat × Nat × Nat × Nat) : Bool := match vwCl[q.2.1]? with
  | some (_, T, N) => decide (q.2.2.1 < N) && lw_tbl.any (fun w => match w with
      | .fieldLink o i a b d => o == y.cls && i == q.1 && a == (T q.2.2.1).1 && b == (T q.2.2.1).2.1 && d == (T q.2.2.1).2.2.1
      | _ => false) && zputOk (zft q.2.1 q.2.2.1) q.2.2.2 && (decide (q.2.2.2 = 0) || !(T q.2.2.1).2.2.2 || (y.name == "<init>" && (T q.2.2.1).1 == y.cls))
  | none => false
theorem zfOk_spec {y : MethodName} {idx ci k w : Nat} (h : zfOk y (idx, ci, k, w) = true) : ∃ C T N, vwCl[ci]? = some (C, T, N) ∧ k < N ∧ Cond.fieldLink y.cls idx (T k).1 (T k).2.1 (T k).2.2.1 ∈ zT ∧ zputOk (zft ci k) w = true ∧ (w = 0 ∨ (T k).2.2.2 = false ∨ ((T k).2.2.2 = true ∧ y.name = "<init>" ∧ (T k).1 = y.cls)) := by
  unfold zfOk at h
  dsimp only at h
  split at h
  · rename_i C T N hc
    simp only [Bool.and_eq_true, Bool.or_eq_true, decide_eq_true_eq, Bool.not_eq_true', beq_iff_eq] at h
    obtain ⟨⟨⟨h1, h2⟩, h3⟩, h4⟩ := h
    refine ⟨C, T, N, hc, h1, ?_, h3, ?_⟩
    · obtain ⟨x, hx, hy⟩ := List.any_eq_true.mp h2
      split at hy
      · simp only [Bool.and_eq_true, beq_iff_eq] at hy
        obtain ⟨⟨⟨⟨e1, e2⟩, e3⟩, e4⟩, e5⟩ := hy
        subst e1; subst e2; subst e3; subst e4; subst e5
        exact List.mem_append_left _ (List.mem_filter.mpr ⟨hx, rfl⟩)
      · cases hy
    · rcases h4 with (h4 | h4) | h4
      · exact Or.inl h4
      · exact Or.inr (Or.inl h4)
      · cases hb : (T k).2.2.2 with
        | false => exact Or.inr (Or.inl rfl)
        | true => exact Or.inr (Or.inr ⟨rfl, h4.1, h4.2⟩)
  · cases h

theorem z_iconst {X : zX} {pc : Nat} {lv : List (Nat × Value)} {st : List Value} {h : zH} {n c s : Nat} {v : Int} {w : Int32} (hd : decode (zxM X).2.1 pc = .ok (.iconst v, 1)) (hv : Int32.ofInt v = w) (k : zZ X (pc + 1) lv (.int w :: st) h n c s) : zZ X pc lv (st) h n c s :=
  fun p e s0 m below meth c0 H locs ls hF h1 h2 h3 h4 h5 h6 => lv_iconst hF.1 hF.2.1 hd hv (k p e s0 m below meth c0 H locs ls hF h1 h2 h3 h4 h5 h6)
theorem z_bipush {X : zX} {pc : Nat} {lv : List (Nat × Value)} {st : List Value} {h : zH} {n c s : Nat} {v : Int} {w : Int32} (hd : decode (zxM X).2.1 pc = .ok (.bipush v, 2)) (hv : (Int8.ofInt v).toInt32 = w) (k : zZ X (pc + 2) lv (.int w :: st) h n c s) : zZ X pc lv (st) h n c s :=
  fun p e s0 m below meth c0 H locs ls hF h1 h2 h3 h4 h5 h6 => lv_bipush hF.1 hF.2.1 hd hv (k p e s0 m below meth c0 H locs ls hF h1 h2 h3 h4 h5 h6)
theorem z_sipush {X : zX} {pc : Nat} {lv : List (Nat × Value)} {st : List Value} {h : zH} {n c s : Nat} {v : Int} {w : Int32} (hd : decode (zxM X).2.1 pc = .ok (.sipush v, 3)) (hv : (Int16.ofInt v).toInt32 = w) (k : zZ X (pc + 3) lv (.int w :: st) h n c s) : zZ X pc lv (st) h n c s :=
  fun p e s0 m below meth c0 H locs ls hF h1 h2 h3 h4 h5 h6 => lv_sipush hF.1 hF.2.1 hd hv (k p e s0 m below meth c0 H locs ls hF h1 h2 h3 h4 h5 h6)
theorem z_iload_n {X : zX} {pc : Nat} {lv : List (Nat × Value)} {st : List Value} {h : zH} {n c s : Nat} {i : Fin 4} {x : Int32} (hd : decode (zxM X).2.1 pc = .ok (.iload_n i, 1)) (hl : zlk lv i = some (.int x)) (k : zZ X (pc + 1) lv (.int x :: st) h n c s) : zZ X pc lv (st) h n c s :=
  fun p e s0 m below meth c0 H locs ls hF h1 h2 h3 h4 h5 h6 => lv_iload_n hF.1 hF.2.1 hd rfl (zlk_has h6 hl) (k p e s0 m below meth c0 H locs ls hF h1 h2 h3 h4 h5 h6)
theorem z_iload {X : zX} {pc : Nat} {lv : List (Nat × Value)} {st : List Value} {h : zH} {n c s : Nat} {i : Nat} {x : Int32} (hd : decode (zxM X).2.1 pc = .ok (.iload i, 2)) (hl : zlk lv i = some (.int x)) (k : zZ X (pc + 2) lv (.int x :: st) h n c s) : zZ X pc lv (st) h n c s :=
  fun p e s0 m below meth c0 H locs ls hF h1 h2 h3 h4 h5 h6 => lv_iload hF.1 hF.2.1 hd (zlk_has h6 hl) (k p e s0 m below meth c0 H locs ls hF h1 h2 h3 h4 h5 h6)
theorem z_aload_n {X : zX} {pc : Nat} {lv : List (Nat × Value)} {st : List Value} {h : zH} {n c s : Nat} {i : Fin 4} {x : Nat} (hd : decode (zxM X).2.1 pc = .ok (.aload_n i, 1)) (hl : zlk lv i = some (.ref x)) (k : zZ X (pc + 1) lv (.ref x :: st) h n c s) : zZ X pc lv (st) h n c s :=
  fun p e s0 m below meth c0 H locs ls hF h1 h2 h3 h4 h5 h6 => lv_aload_n hF.1 hF.2.1 hd rfl (zlk_has h6 hl) (k p e s0 m below meth c0 H locs ls hF h1 h2 h3 h4 h5 h6)
theorem z_aload {X : zX} {pc : Nat} {lv : List (Nat × Value)} {st : List Value} {h : zH} {n c s : Nat} {i : Nat} {x : Nat} (hd : decode (zxM X).2.1 pc = .ok (.aload i, 2)) (hl : zlk lv i = some (.ref x)) (k : zZ X (pc + 2) lv (.ref x :: st) h n c s) : zZ X pc lv (st) h n c s :=
  fun p e s0 m below meth c0 H locs ls hF h1 h2 h3 h4 h5 h6 => lv_aload hF.1 hF.2.1 hd (zlk_has h6 hl) (k p e s0 m below meth c0 H locs ls hF h1 h2 h3 h4 h5 h6)
theorem z_iadd {X : zX} {pc : Nat} {lv : List (Nat × Value)} {st : List Value} {h : zH} {n c s : Nat} {x y : Int32} (hd : decode (zxM X).2.1 pc = .ok (.iadd, 1))  (k : zZ X (pc + 1) lv (.int (x + y) :: st) h n c s) : zZ X pc lv (.int y :: .int x :: st) h n c s :=
  fun p e s0 m below meth c0 H locs ls hF h1 h2 h3 h4 h5 h6 => lv_iadd hF.1 hF.2.1 hd (k p e s0 m below meth c0 H locs ls hF h1 h2 h3 h4 h5 h6)
theorem z_isub {X : zX} {pc : Nat} {lv : List (Nat × Value)} {st : List Value} {h : zH} {n c s : Nat} {x y : Int32} (hd : decode (zxM X).2.1 pc = .ok (.isub, 1))  (k : zZ X (pc + 1) lv (.int (x - y) :: st) h n c s) : zZ X pc lv (.int y :: .int x :: st) h n c s :=
  fun p e s0 m below meth c0 H locs ls hF h1 h2 h3 h4 h5 h6 => lv_isub hF.1 hF.2.1 hd (k p e s0 m below meth c0 H locs ls hF h1 h2 h3 h4 h5 h6)
theorem z_imul {X : zX} {pc : Nat} {lv : List (Nat × Value)} {st : List Value} {h : zH} {n c s : Nat} {x y : Int32} (hd : decode (zxM X).2.1 pc = .ok (.imul, 1))  (k : zZ X (pc + 1) lv (.int (x * y) :: st) h n c s) : zZ X pc lv (.int y :: .int x :: st) h n c s :=
  fun p e s0 m below meth c0 H locs ls hF h1 h2 h3 h4 h5 h6 => lv_imul hF.1 hF.2.1 hd (k p e s0 m below meth c0 H locs ls hF h1 h2 h3 h4 h5 h6)
theorem z_iand {X : zX} {pc : Nat} {lv : List (Nat × Value)} {st : List Value} {h : zH} {n c s : Nat} {x y : Int32} (hd : decode (zxM X).2.1 pc = .ok (.iand, 1))  (k : zZ X (pc + 1) lv (.int (x &&& y) :: st) h n c s) : zZ X pc lv (.int y :: .int x :: st) h n c s :=
  fun p e s0 m below meth c0 H locs ls hF h1 h2 h3 h4 h5 h6 => lv_iand hF.1 hF.2.1 hd (k p e s0 m below meth c0 H locs ls hF h1 h2 h3 h4 h5 h6)
theorem z_ior {X : zX} {pc : Nat} {lv : List (Nat × Value)} {st : List Value} {h : zH} {n c s : Nat} {x y : Int32} (hd : decode (zxM X).2.1 pc = .ok (.ior, 1))  (k : zZ X (pc + 1) lv (.int (x ||| y) :: st) h n c s) : zZ X pc lv (.int y :: .int x :: st) h n c s :=
  fun p e s0 m below meth c0 H locs ls hF h1 h2 h3 h4 h5 h6 => lv_ior hF.1 hF.2.1 hd (k p e s0 m below meth c0 H locs ls hF h1 h2 h3 h4 h5 h6)
theorem z_ishl {X : zX} {pc : Nat} {lv : List (Nat × Value)} {st : List Value} {h : zH} {n c s : Nat} {x y : Int32} (hd : decode (zxM X).2.1 pc = .ok (.ishl, 1))  (k : zZ X (pc + 1) lv (.int (x <<< (y &&& 31)) :: st) h n c s) : zZ X pc lv (.int y :: .int x :: st) h n c s :=
  fun p e s0 m below meth c0 H locs ls hF h1 h2 h3 h4 h5 h6 => lv_ishl hF.1 hF.2.1 hd (k p e s0 m below meth c0 H locs ls hF h1 h2 h3 h4 h5 h6)
theorem z_ishr {X : zX} {pc : Nat} {lv : List (Nat × Value)} {st : List Value} {h : zH} {n c s : Nat} {x y : Int32} (hd : decode (zxM X).2.1 pc = .ok (.ishr, 1))  (k : zZ X (pc + 1) lv (.int (x >>> (y &&& 31)) :: st) h n c s) : zZ X pc lv (.int y :: .int x :: st) h n c s :=
  fun p e s0 m below meth c0 H locs ls hF h1 h2 h3 h4 h5 h6 => lv_ishr hF.1 hF.2.1 hd (k p e s0 m below meth c0 H locs ls hF h1 h2 h3 h4 h5 h6)
theorem z_iushr {X : zX} {pc : Nat} {lv : List (Nat × Value)} {st : List Value} {h : zH} {n c s : Nat} {x y : Int32} (hd : decode (zxM X).2.1 pc = .ok (.iushr, 1))  (k : zZ X (pc + 1) lv (.int (x.toUInt32 >>> (y.toUInt32 &&& Int32.toUInt32 31)).toInt32 :: st) h n c s) : zZ X pc lv (.int y :: .int x :: st) h n c s :=
  fun p e s0 m below meth c0 H locs ls hF h1 h2 h3 h4 h5 h6 => lv_iushr hF.1 hF.2.1 hd rfl (k p e s0 m below meth c0 H locs ls hF h1 h2 h3 h4 h5 h6)
theorem z_idiv {X : zX} {pc : Nat} {lv : List (Nat × Value)} {st : List Value} {h : zH} {n c s : Nat} {x y : Int32} (hd : decode (zxM X).2.1 pc = .ok (.idiv, 1)) (hne : ¬ y = 0) (k : zZ X (pc + 1) lv (.int (x / y) :: st) h n c s) : zZ X pc lv (.int y :: .int x :: st) h n c s :=
  fun p e s0 m below meth c0 H locs ls hF h1 h2 h3 h4 h5 h6 => lv_idiv hF.1 hF.2.1 hd hne (k p e s0 m below meth c0 H locs ls hF h1 h2 h3 h4 h5 h6)
theorem z_irem {X : zX} {pc : Nat} {lv : List (Nat × Value)} {st : List Value} {h : zH} {n c s : Nat} {x y : Int32} (hd : decode (zxM X).2.1 pc = .ok (.irem, 1)) (hne : ¬ y = 0) (k : zZ X (pc + 1) lv (.int (x - x / y * y) :: st) h n c s) : zZ X pc lv (.int y :: .int x :: st) h n c s :=
  fun p e s0 m below meth c0 H locs ls hF h1 h2 h3 h4 h5 h6 => lv_irem hF.1 hF.2.1 hd hne (k p e s0 m below meth c0 H locs ls hF h1 h2 h3 h4 h5 h6)
theorem z_ineg {X : zX} {pc : Nat} {lv : List (Nat × Value)} {st : List Value} {h : zH} {n c s : Nat} {x : Int32} (hd : decode (zxM X).2.1 pc = .ok (.ineg, 1))  (k : zZ X (pc + 1) lv (.int (-x) :: st) h n c s) : zZ X pc lv (.int x :: st) h n c s :=
  fun p e s0 m below meth c0 H locs ls hF h1 h2 h3 h4 h5 h6 => lv_ineg hF.1 hF.2.1 hd (k p e s0 m below meth c0 H locs ls hF h1 h2 h3 h4 h5 h6)
theorem z_dup {X : zX} {pc : Nat} {lv : List (Nat × Value)} {st : List Value} {h : zH} {n c s : Nat} {v : Value} (hd : decode (zxM X).2.1 pc = .ok (.dup, 1)) (hv : v.category = 1) (k : zZ X (pc + 1) lv (v :: v :: st) h n c s) : zZ X pc lv (v :: st) h n c s :=
  fun p e s0 m below meth c0 H locs ls hF h1 h2 h3 h4 h5 h6 => lv_dup hF.1 hF.2.1 hd hv (k p e s0 m below meth c0 H locs ls hF h1 h2 h3 h4 h5 h6)
theorem z_pop {X : zX} {pc : Nat} {lv : List (Nat × Value)} {st : List Value} {h : zH} {n c s : Nat} {v : Value} (hd : decode (zxM X).2.1 pc = .ok (.pop, 1)) (hv : v.category = 1) (k : zZ X (pc + 1) lv (st) h n c s) : zZ X pc lv (v :: st) h n c s :=
  fun p e s0 m below meth c0 H locs ls hF h1 h2 h3 h4 h5 h6 => lv_pop hF.1 hF.2.1 hd hv (k p e s0 m below meth c0 H locs ls hF h1 h2 h3 h4 h5 h6)
theorem z_dup_x1 {X : zX} {pc : Nat} {lv : List (Nat × Value)} {st : List Value} {h : zH} {n c s : Nat} {v w : Value} (hd : decode (zxM X).2.1 pc = .ok (.dup_x1, 1)) (hv : v.category = 1) (hw : w.category = 1) (k : zZ X (pc + 1) lv (v :: w :: v :: st) h n c s) : zZ X pc lv (v :: w :: st) h n c s :=
  fun p e s0 m below meth c0 H locs ls hF h1 h2 h3 h4 h5 h6 => lv_dup_x1 hF.1 hF.2.1 hd hv hw (k p e s0 m below meth c0 H locs ls hF h1 h2 h3 h4 h5 h6)
theorem z_dup_x2 {X : zX} {pc : Nat} {lv : List (Nat × Value)} {st : List Value} {h : zH} {n c s : Nat} {v w u : Value} (hd : decode (zxM X).2.1 pc = .ok (.dup_x2, 1)) (hv : v.category = 1) (hw : w.category = 1) (hu : u.category = 1) (k : zZ X (pc + 1) lv (v :: w :: u :: v :: st) h n c s) : zZ X pc lv (v :: w :: u :: st) h n c s :=
  fun p e s0 m below meth c0 H locs ls hF h1 h2 h3 h4 h5 h6 => lv_dup_x2 hF.1 hF.2.1 hd hv hw hu (k p e s0 m below meth c0 H locs ls hF h1 h2 h3 h4 h5 h6)
theorem z_dup2 {X : zX} {pc : Nat} {lv : List (Nat × Value)} {st : List Value} {h : zH} {n c s : Nat} {v w : Value} (hd : decode (zxM X).2.1 pc = .ok (.dup2, 1)) (hv : v.category = 1) (hw : w.category = 1) (k : zZ X (pc + 1) lv (v :: w :: v :: w :: st) h n c s) : zZ X pc lv (v :: w :: st) h n c s :=
  fun p e s0 m below meth c0 H locs ls hF h1 h2 h3 h4 h5 h6 => lv_dup2_11 hF.1 hF.2.1 hd hv hw (k p e s0 m below meth c0 H locs ls hF h1 h2 h3 h4 h5 h6)
theorem z_istore_n {X : zX} {pc : Nat} {lv : List (Nat × Value)} {st : List Value} {h : zH} {n c s : Nat} {i : Fin 4} {x : Int32} (hd : decode (zxM X).2.1 pc = .ok (.istore_n i, 1)) (hi : (i : Nat) < (zxM X).2.2.1) (k : zZ X (pc + 1) (zst lv i (.int x)) st h n c s) : zZ X pc lv (.int x :: st) h n c s :=
  fun p e s0 m below meth c0 H locs ls hF h1 h2 h3 h4 h5 h6 => lv_istore_n hF.1 hF.2.1 hd rfl h6 hi rfl (fun ls hl => k p e s0 m below meth c0 H locs ls hF h1 h2 h3 h4 h5 (zst_has hl))
theorem z_istore {X : zX} {pc : Nat} {lv : List (Nat × Value)} {st : List Value} {h : zH} {n c s : Nat} {i : Nat} {x : Int32} (hd : decode (zxM X).2.1 pc = .ok (.istore i, 2)) (hi : (i : Nat) < (zxM X).2.2.1) (k : zZ X (pc + 2) (zst lv i (.int x)) st h n c s) : zZ X pc lv (.int x :: st) h n c s :=
  fun p e s0 m below meth c0 H locs ls hF h1 h2 h3 h4 h5 h6 => lv_istore hF.1 hF.2.1 hd h6 hi rfl (fun ls hl => k p e s0 m below meth c0 H locs ls hF h1 h2 h3 h4 h5 (zst_has hl))
theorem z_astore_n {X : zX} {pc : Nat} {lv : List (Nat × Value)} {st : List Value} {h : zH} {n c s : Nat} {i : Fin 4} {x : Nat} (hd : decode (zxM X).2.1 pc = .ok (.astore_n i, 1)) (hi : (i : Nat) < (zxM X).2.2.1) (k : zZ X (pc + 1) (zst lv i (.ref x)) st h n c s) : zZ X pc lv (.ref x :: st) h n c s :=
  fun p e s0 m below meth c0 H locs ls hF h1 h2 h3 h4 h5 h6 => lv_astore_n hF.1 hF.2.1 hd rfl h6 hi rfl (fun ls hl => k p e s0 m below meth c0 H locs ls hF h1 h2 h3 h4 h5 (zst_has hl))
theorem z_astore {X : zX} {pc : Nat} {lv : List (Nat × Value)} {st : List Value} {h : zH} {n c s : Nat} {i : Nat} {x : Nat} (hd : decode (zxM X).2.1 pc = .ok (.astore i, 2)) (hi : (i : Nat) < (zxM X).2.2.1) (k : zZ X (pc + 2) (zst lv i (.ref x)) st h n c s) : zZ X pc lv (.ref x :: st) h n c s :=
  fun p e s0 m below meth c0 H locs ls hF h1 h2 h3 h4 h5 h6 => lv_astore hF.1 hF.2.1 hd h6 hi rfl (fun ls hl => k p e s0 m below meth c0 H locs ls hF h1 h2 h3 h4 h5 (zst_has hl))
theorem z_iinc {X : zX} {pc : Nat} {lv : List (Nat × Value)} {st : List Value} {h : zH} {n c s : Nat} {i : Nat} {v : Int} {x : Int32} (hd : decode (zxM X).2.1 pc = .ok (.iinc i v, 3)) (hl : zlk lv i = some (.int x)) (hi : i < (zxM X).2.2.1) (k : zZ X (pc + 3) (zst lv i (.int (x + Int32.ofInt v))) st h n c s) : zZ X pc lv st h n c s := by
  intro p e s0 m below meth c0 H locs ls hF h1 h2 h3 h4 h5 h6
  obtain ⟨j, hj⟩ := List.getElem?_of_mem (zlk_mem hl)
  exact lv_iinc hF.1 hF.2.1 hd h6 hj rfl hi rfl (fun ls hl => k p e s0 m below meth c0 H locs ls hF h1 h2 h3 h4 h5 (zst_has hl))
theorem z_goto {X : zX} {pc : Nat} {lv : List (Nat × Value)} {st : List Value} {h : zH} {n c s : Nat} {off : Int} {t : Nat} (hd : decode (zxM X).2.1 pc = .ok (.goto off, 3)) (ht : (pc : Int) + off = (t : Int)) (k : zZ X t lv st h n c s) : zZ X pc lv st h n c s :=
  fun p e s0 m below meth c0 H locs ls hF h1 h2 h3 h4 h5 h6 => lv_goto hF.1 hF.2.1 hd ht (k p e s0 m below meth c0 H locs ls hF h1 h2 h3 h4 h5 h6)
theorem z_icmp_eq {X : zX} {pc : Nat} {lv : List (Nat × Value)} {st : List Value} {h : zH} {n c s : Nat} {x y : Int32} {off : Int} {t : Nat} (hd : decode (zxM X).2.1 pc = .ok (.if_icmp .eq off, 3)) (ht : (pc : Int) + off = (t : Int)) (kt : x = y → zZ X t lv st h n c s) (kf : ¬ x = y → zZ X (pc + 3) lv st h n c s) : zZ X pc lv (.int y :: .int x :: st) h n c s :=
  fun p e s0 m below meth c0 H locs ls hF h1 h2 h3 h4 h5 h6 => lv_icmp_eq hF.1 hF.2.1 hd ht (fun q => kt q p e s0 m below meth c0 H locs ls hF h1 h2 h3 h4 h5 h6) (fun q => kf q p e s0 m below meth c0 H locs ls hF h1 h2 h3 h4 h5 h6)
theorem z_if_eq {X : zX} {pc : Nat} {lv : List (Nat × Value)} {st : List Value} {h : zH} {n c s : Nat} {x : Int32} {off : Int} {t : Nat} (hd : decode (zxM X).2.1 pc = .ok (.ifCond .eq off, 3)) (ht : (pc : Int) + off = (t : Int)) (kt : x = 0 → zZ X t lv st h n c s) (kf : ¬ x = 0 → zZ X (pc + 3) lv st h n c s) : zZ X pc lv (.int x :: st) h n c s :=
  fun p e s0 m below meth c0 H locs ls hF h1 h2 h3 h4 h5 h6 => lv_if_eq hF.1 hF.2.1 hd ht (fun q => kt q p e s0 m below meth c0 H locs ls hF h1 h2 h3 h4 h5 h6) (fun q => kf q p e s0 m below meth c0 H locs ls hF h1 h2 h3 h4 h5 h6)
theorem z_icmp_ne {X : zX} {pc : Nat} {lv : List (Nat × Value)} {st : List Value} {h : zH} {n c s : Nat} {x y : Int32} {off : Int} {t : Nat} (hd : decode (zxM X).2.1 pc = .ok (.if_icmp .ne off, 3)) (ht : (pc : Int) + off = (t : Int)) (kt : ¬ x = y → zZ X t lv st h n c s) (kf : x = y → zZ X (pc + 3) lv st h n c s) : zZ X pc lv (.int y :: .int x :: st) h n c s :=
  fun p e s0 m below meth c0 H locs ls hF h1 h2 h3 h4 h5 h6 => lv_icmp_ne hF.1 hF.2.1 hd ht (fun q => kt q p e s0 m below meth c0 H locs ls hF h1 h2 h3 h4 h5 h6) (fun q => kf q p e s0 m below meth c0 H locs ls hF h1 h2 h3 h4 h5 h6)
theorem z_if_ne {X : zX} {pc : Nat} {lv : List (Nat × Value)} {st : List Value} {h : zH} {n c s : Nat} {x : Int32} {off : Int} {t : Nat} (hd : decode (zxM X).2.1 pc = .ok (.ifCond .ne off, 3)) (ht : (pc : Int) + off = (t : Int)) (kt : ¬ x = 0 → zZ X t lv st h n c s) (kf : x = 0 → zZ X (pc + 3) lv st h n c s) : zZ X pc lv (.int x :: st) h n c s :=
  fun p e s0 m below meth c0 H locs ls hF h1 h2 h3 h4 h5 h6 => lv_if_ne hF.1 hF.2.1 hd ht (fun q => kt q p e s0 m below meth c0 H locs ls hF h1 h2 h3 h4 h5 h6) (fun q => kf q p e s0 m below meth c0 H locs ls hF h1 h2 h3 h4 h5 h6)
theorem z_icmp_lt {X : zX} {pc : Nat} {lv : List (Nat × Value)} {st : List Value} {h : zH} {n c s : Nat} {x y : Int32} {off : Int} {t : Nat} (hd : decode (zxM X).2.1 pc = .ok (.if_icmp .lt off, 3)) (ht : (pc : Int) + off = (t : Int)) (kt : x < y → zZ X t lv st h n c s) (kf : ¬ x < y → zZ X (pc + 3) lv st h n c s) : zZ X pc lv (.int y :: .int x :: st) h n c s :=
  fun p e s0 m below meth c0 H locs ls hF h1 h2 h3 h4 h5 h6 => lv_icmp_lt hF.1 hF.2.1 hd ht (fun q => kt q p e s0 m below meth c0 H locs ls hF h1 h2 h3 h4 h5 h6) (fun q => kf q p e s0 m below meth c0 H locs ls hF h1 h2 h3 h4 h5 h6)
theorem z_if_lt {X : zX} {pc : Nat} {lv : List (Nat × Value)} {st : List Value} {h : zH} {n c s : Nat} {x : Int32} {off : Int} {t : Nat} (hd : decode (zxM X).2.1 pc = .ok (.ifCond .lt off, 3)) (ht : (pc : Int) + off = (t : Int)) (kt : x < 0 → zZ X t lv st h n c s) (kf : ¬ x < 0 → zZ X (pc + 3) lv st h n c s) : zZ X pc lv (.int x :: st) h n c s :=
  fun p e s0 m below meth c0 H locs ls hF h1 h2 h3 h4 h5 h6 => lv_if_lt hF.1 hF.2.1 hd ht (fun q => kt q p e s0 m below meth c0 H locs ls hF h1 h2 h3 h4 h5 h6) (fun q => kf q p e s0 m below meth c0 H locs ls hF h1 h2 h3 h4 h5 h6)
theorem z_icmp_ge {X : zX} {pc : Nat} {lv : List (Nat × Value)} {st : List Value} {h : zH} {n c s : Nat} {x y : Int32} {off : Int} {t : Nat} (hd : decode (zxM X).2.1 pc = .ok (.if_icmp .ge off, 3)) (ht : (pc : Int) + off = (t : Int)) (kt : y ≤ x → zZ X t lv st h n c s) (kf : ¬ y ≤ x → zZ X (pc + 3) lv st h n c s) : zZ X pc lv (.int y :: .int x :: st) h n c s :=
  fun p e s0 m below meth c0 H locs ls hF h1 h2 h3 h4 h5 h6 => lv_icmp_ge hF.1 hF.2.1 hd ht (fun q => kt q p e s0 m below meth c0 H locs ls hF h1 h2 h3 h4 h5 h6) (fun q => kf q p e s0 m below meth c0 H locs ls hF h1 h2 h3 h4 h5 h6)
theorem z_if_ge {X : zX} {pc : Nat} {lv : List (Nat × Value)} {st : List Value} {h : zH} {n c s : Nat} {x : Int32} {off : Int} {t : Nat} (hd : decode (zxM X).2.1 pc = .ok (.ifCond .ge off, 3)) (ht : (pc : Int) + off = (t : Int)) (kt : 0 ≤ x → zZ X t lv st h n c s) (kf : ¬ 0 ≤ x → zZ X (pc + 3) lv st h n c s) : zZ X pc lv (.int x :: st) h n c s :=
  fun p e s0 m below meth c0 H locs ls hF h1 h2 h3 h4 h5 h6 => lv_if_ge hF.1 hF.2.1 hd ht (fun q => kt q p e s0 m below meth c0 H locs ls hF h1 h2 h3 h4 h5 h6) (fun q => kf q p e s0 m below meth c0 H locs ls hF h1 h2 h3 h4 h5 h6)
theorem z_icmp_gt {X : zX} {pc : Nat} {lv : List (Nat × Value)} {st : List Value} {h : zH} {n c s : Nat} {x y : Int32} {off : Int} {t : Nat} (hd : decode (zxM X).2.1 pc = .ok (.if_icmp .gt off, 3)) (ht : (pc : Int) + off = (t : Int)) (kt : y < x → zZ X t lv st h n c s) (kf : ¬ y < x → zZ X (pc + 3) lv st h n c s) : zZ X pc lv (.int y :: .int x :: st) h n c s :=
  fun p e s0 m below meth c0 H locs ls hF h1 h2 h3 h4 h5 h6 => lv_icmp_gt hF.1 hF.2.1 hd ht (fun q => kt q p e s0 m below meth c0 H locs ls hF h1 h2 h3 h4 h5 h6) (fun q => kf q p e s0 m below meth c0 H locs ls hF h1 h2 h3 h4 h5 h6)
theorem z_if_gt {X : zX} {pc : Nat} {lv : List (Nat × Value)} {st : List Value} {h : zH} {n c s : Nat} {x : Int32} {off : Int} {t : Nat} (hd : decode (zxM X).2.1 pc = .ok (.ifCond .gt off, 3)) (ht : (pc : Int) + off = (t : Int)) (kt : 0 < x → zZ X t lv st h n c s) (kf : ¬ 0 < x → zZ X (pc + 3) lv st h n c s) : zZ X pc lv (.int x :: st) h n c s :=
  fun p e s0 m below meth c0 H locs ls hF h1 h2 h3 h4 h5 h6 => lv_if_gt hF.1 hF.2.1 hd ht (fun q => kt q p e s0 m below meth c0 H locs ls hF h1 h2 h3 h4 h5 h6) (fun q => kf q p e s0 m below meth c0 H locs ls hF h1 h2 h3 h4 h5 h6)
theorem z_icmp_le {X : zX} {pc : Nat} {lv : List (Nat × Value)} {st : List Value} {h : zH} {n c s : Nat} {x y : Int32} {off : Int} {t : Nat} (hd : decode (zxM X).2.1 pc = .ok (.if_icmp .le off, 3)) (ht : (pc : Int) + off = (t : Int)) (kt : x ≤ y → zZ X t lv st h n c s) (kf : ¬ x ≤ y → zZ X (pc + 3) lv st h n c s) : zZ X pc lv (.int y :: .int x :: st) h n c s :=
  fun p e s0 m below meth c0 H locs ls hF h1 h2 h3 h4 h5 h6 => lv_icmp_le hF.1 hF.2.1 hd ht (fun q => kt q p e s0 m below meth c0 H locs ls hF h1 h2 h3 h4 h5 h6) (fun q => kf q p e s0 m below meth c0 H locs ls hF h1 h2 h3 h4 h5 h6)
theorem z_if_le {X : zX} {pc : Nat} {lv : List (Nat × Value)} {st : List Value} {h : zH} {n c s : Nat} {x : Int32} {off : Int} {t : Nat} (hd : decode (zxM X).2.1 pc = .ok (.ifCond .le off, 3)) (ht : (pc : Int) + off = (t : Int)) (kt : x ≤ 0 → zZ X t lv st h n c s) (kf : ¬ x ≤ 0 → zZ X (pc + 3) lv st h n c s) : zZ X pc lv (.int x :: st) h n c s :=
  fun p e s0 m below meth c0 H locs ls hF h1 h2 h3 h4 h5 h6 => lv_if_le hF.1 hF.2.1 hd ht (fun q => kt q p e s0 m below meth c0 H locs ls hF h1 h2 h3 h4 h5 h6) (fun q => kf q p e s0 m below meth c0 H locs ls hF h1 h2 h3 h4 h5 h6)
theorem z_table {X : zX} {pc : Nat} {lv : List (Nat × Value)} {st : List Value} {h : zH} {n c s : Nat} {dflt lo hi : Int} {offs : Array Int} {len : Nat} {x : Int32} (hd : decode (zxM X).2.1 pc = .ok (.tableswitch dflt lo hi offs, len)) (hsz : (offs.toList.length : Int) = hi - lo + 1) (kd : x.toInt < lo ∨ hi < x.toInt → ztgt pc dflt (fun t => zZ X t lv st h n c s)) (kt : ztab pc x.toInt (fun t => zZ X t lv st h n c s) offs.toList lo) : zZ X pc lv (.int x :: st) h n c s := by
  intro p e s0 m below meth c0 H locs ls hF h1 h2 h3 h4 h5 h6
  by_cases hq : x.toInt < lo ∨ hi < x.toInt
  · obtain ⟨t, e1, e2⟩ := ztgt_inv (kd hq)
    exact lv_tableOut hF.1 hF.2.1 hd hq e1 (e2 p e s0 m below meth c0 H locs ls hF h1 h2 h3 h4 h5 h6)
  · have q1 : ¬ x.toInt < lo := fun z => hq (Or.inl z)
    have q2 : ¬ hi < x.toInt := fun z => hq (Or.inr z)
    have hlt : (x.toInt - lo).toNat < offs.toList.length := by omega
    have ho : offs.toList[(x.toInt - lo).toNat]? = some (offs.toList[(x.toInt - lo).toNat]) := List.getElem?_eq_getElem hlt
    obtain ⟨t, e1, e2⟩ := ztgt_inv (ztab_inv kt _ _ ho (by omega))
    exact lv_tableIn hF.1 hF.2.1 hd q1 q2 (by rw [← Array.getElem?_toList]; exact ho) e1 (e2 p e s0 m below meth c0 H locs ls hF h1 h2 h3 h4 h5 h6)
theorem z_ldc {X : zX} {pc : Nat} {lv : List (Nat × Value)} {st : List Value} {h : zH} {n c s : Nat} {idx : Nat} {v : Int32} (hd : decode (zxM X).2.1 pc = .ok (.ldc idx, 2)) (hc : Cond.constant (zxM X).1.cls idx v ∈ zT) (k : zZ X (pc + 2) lv (.int v :: st) h n c s) : zZ X pc lv st h n c s :=
  fun p e s0 m below meth c0 H locs ls hF h1 h2 h3 h4 h5 h6 => lv_ldc hF.1 hF.2.1 hF.2.2.2.2.1 (hF.2.2.2.2.2.1 _ hc) hd (k p e s0 m below meth c0 H locs ls hF h1 h2 h3 h4 h5 h6)
theorem z_getfield {X : zX} {pc : Nat} {lv : List (Nat × Value)} {st : List Value} {h : zH} {n c s : Nat} {idx ci k0 w a : Nat} {fs : List Value} {v : Value} (hd : decode (zxM X).2.1 pc = .ok (.getfield idx, 3)) {y : MethodName} (hf : zfOk y (idx, ci, k0, w) = true) (hy : y.cls = (zxM X).1.cls) (hc : h a = some (.inr (ci, fs))) (hv : fs[k0]? = some v) (k : zZ X (pc + 3) lv (v :: st) h n c s) : zZ X pc lv (.ref a :: st) h n c s := by
  intro p e s0 m below meth c0 H locs ls hF h1 h2 h3 h4 h5 h6
  obtain ⟨C, T, N, e1, e2, e3, -, -⟩ := zfOk_spec hf
  rw [hy] at e3
  obtain ⟨j, hj⟩ := zL_at (h3.lt hc) hc
  exact va_get hF.1 hF.2.1 hF.2.2.2.2.2.1 (zcls e1).1 hF.2.2.2.2.1 hF.2.2.2.2.2.2.2.2.1 (zL_P h3 _) j hj e1 k0 e2 (hF.2.2.2.2.2.1 _ e3) (fun _ q => q) hv hd (k p e s0 m below meth c0 H locs ls hF h1 h2 h3 h4 h5 h6)
theorem zput_fit {ty : FieldType} {v : Value} {w : Nat} (h : zputOk ty w = true) (hv : (w = 1 ∧ ∃ x, v = .int x) ∨ (w = 2 ∧ ∃ a, v = .ref a) ∨ (w = 3 ∧ ∃ x, v = .int x ∧ (x = 0 ∨ x = 1))) : narrow ty v = v ∧ fits ty v = true := by
  rcases hv with ⟨rfl, x, rfl⟩ | ⟨rfl, a, rfl⟩ | ⟨rfl, x, rfl, hx⟩
  · cases ty <;> simp [zputOk] at h <;> simp [narrow, fits]
  · cases ty <;> simp [zputOk] at h <;> simp [narrow, fits]
  · cases ty <;> simp [zputOk] at h
    rcases hx with rfl | rfl <;> decide
theorem z_putfield {X : zX} {pc : Nat} {lv : List (Nat × Value)} {st : List Value} {h : zH} {n c s : Nat} {idx ci k0 w a : Nat} {fs : List Value} {v : Value} (hd : decode (zxM X).2.1 pc = .ok (.putfield idx, 3)) {y : MethodName} (hf : zfOk y (idx, ci, k0, w) = true) (hy : y.cls = (zxM X).1.cls) (hyn : y.name = "<init>" → (zxM X).1.name = "<init>") (hc : h a = some (.inr (ci, fs))) (hl : k0 < fs.length) (hv : (w = 1 ∧ ∃ x, v = .int x) ∨ (w = 2 ∧ ∃ a, v = .ref a) ∨ (w = 3 ∧ ∃ x, v = .int x ∧ (x = 0 ∨ x = 1))) (k : zZ X (pc + 3) lv st (va_up h a (some (.inr (ci, fs.set k0 v)))) n c s) : zZ X pc lv (v :: .ref a :: st) h n c s := by
  intro p e s0 m below meth c0 H locs ls hF h1 h2 h3 h4 h5 h6
  obtain ⟨C, T, N, e1, e2, e3, e4, e5⟩ := zfOk_spec hf
  rw [hy] at e3 e5
  have hfit := zput_fit e4 hv
  obtain ⟨g1, g2, g3⟩ := zcls e1
  have hts := hF.2.2.2.2.2.1
  have hown := hF.2.2.2.2.1
  have hK := hF.2.2.2.2.2.2.2.2.1
  have hap := va_apart (own := (zxM X).1.cls) hts g1 (zft ci) g2 g3 hK e1
  obtain ⟨r, r1, cell, q1, q2, q3, q4⟩ := h3 a _ hc
  have hr : r = (C, T, N) := Option.some.inj (r1.symm.trans e1)
  subst hr
  obtain ⟨hS, hfc, kC, hkC, hkind⟩ := hK.1 ci _ e1
  obtain ⟨cf, kf, fi, f, hi, hsl⟩ := hS k0 e2
  have hlay := hts _ (g1 _ (u_in_lay e2))
  have hst := (u_facts hfc hkC (u_lays hts g1 e2) hi).1
  have fin : ∀ H' : Heap, H'[a]? = some (cell.setSlot f.slot v) → H'.size = H.size → (∀ q, q ≠ a → H'[q]? = H[q]?) → W p (zxG X).1 e (zxR X) s0 m (zxA X).toArray below meth c0 H' (locs ++ [⟨a, f.slot⟩]) c s (zxQ X s0 below) (F0 m (pc + 3) ls st) := by
    intro H' w1 w2 w3
    rw [hsl] at w1 ⊢
    refine k p e s0 m below meth c0 H' _ ls hF h1 (w2.trans h2) ?_ (zA_set h4 hc) (h5.put w2 w3 (h4 a (by rw [hc]; simp))) h6
    intro b x hx
    by_cases hb : b = a
    · subst hb
      rw [va_up_self] at hx
      cases hx
      exact ⟨_, e1, t_OB.to (V := updV (vp_V fs) k0 v) ⟨_, w1, q2, q3, t_set q4 hap e2 v⟩ (fun j _ => vp_updV_set hl v j)⟩
    · rw [zup_ne hb] at hx
      exact (h3 b x hx).kept (w3 b hb)
  rcases e5 with e5 | e5 | ⟨e5, e6, e7⟩
  · exfalso; rcases hv with ⟨q, -⟩ | ⟨q, -⟩ | ⟨q, -⟩ <;> omega
  · unfold u_lay at hlay
    rw [if_neg (by rw [e5]; decide)] at hlay
    have h9 := u_store hfc hkC hkind hlay hi (g2 k0 e2) hfit.1 hfit.2
    exact W.putK hF.1 hF.2.1 (f := f) ⟨hown, hts _ e3, ⟨_, _, _, hi⟩, hst⟩ (by rw [q2]; exact h9) q1 q3 (by rw [hsl]; exact k2_hasslot (q4 k0 e2)) rfl rfl hd fin
  · unfold u_lay at hlay
    rw [if_pos e5] at hlay
    have hcf : m.cls = cf := by
      obtain ⟨_, _, c', _, _, _, -, -, hf', -, -, -, hown2, -⟩ := Cond.laysFinal_spec hlay
      have x1 : c' = cf := by have := hi.symm.trans hf'; simp at this; exact this.1.symm
      rw [e7] at hown2
      rw [← x1]; exact Option.some.inj (hown.symm.trans hown2)
    have h9 := u_fits hfc hkC hkind (Or.inr hlay) hi (g2 k0 e2) hfit.1 hfit.2
    exact W.putFinK hF.1 hF.2.1 hown (hts _ e3) hi hst hcf (hF.2.2.2.2.2.2.2.1.trans (hyn e6)) (by rw [q2]; exact h9) q1 q3 (by rw [hsl]; exact k2_hasslot (q4 k0 e2)) rfl rfl hd fin

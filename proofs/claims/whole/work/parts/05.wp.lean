/-! the wp of an instruction; of code, by fuel -/
def zlen : Instr → Nat
  | .bipush _ => 2 | .newarray _ => 2 | .ldc _ => 2 | .iload _ => 2 | .aload _ => 2 | .istore _ => 2 | .astore _ => 2
  | .sipush _ => 3 | .goto _ => 3 | .ifCond _ _ => 3 | .if_icmp _ _ => 3 | .iinc _ _ => 3 | .getfield _ => 3 | .putfield _ => 3 | .new _ => 3 | .invokestatic _ => 3 | .invokespecial _ => 3 | .invokevirtual _ => 3
  | _ => 1
def zlenok (i : Instr) (len : Nat) : Prop := match i with
  | .tableswitch _ _ _ _ => True
  | _ => len = zlen i
abbrev zKr : Type := Option Value → zH → Nat → Nat → Nat → Prop
def zput (w : Nat) (st : List Value) (f : Value → Nat → List Value → Prop) : Prop := match w, st with
  | 1, .int x :: .ref a :: r => f (.int x) a r
  | 2, .ref b :: .ref a :: r => f (.ref b) a r
  | 3, .int x :: .ref a :: r => (x = 0 ∨ x = 1) ∧ f (.int x) a r
  | _, _ => False
def zpa (st : List Value) (f : Nat → Prop) : Prop := match st with
  | _ :: .ref a :: _ => f a
  | _ => False
def zcatS (st : List Value) : Nat := (st.map fun v => v.category).sum
def zcall (X : zX) (E : zE) (pc kind idx : Nat) (lv : List (Nat × Value)) (st : List Value) (h : zH) (n c s : Nat) (k : zKt) : Prop :=
  zcl E.2.1 kind idx (fun na mc ms S => na ≤ st.length ∧ c + mc ≤ (zxR X).cells ∧ s + ms ≤ (zxR X).slots ∧ zcatS (st.drop na) ≤ 8 ∧ S (st.take na).reverse h n (fun v h' n' => k (pc + 3) lv (v.toList ++ st.drop na) h' n' (c + mc) (s + ms)))
def wI (X : zX) (E : zE) (kr : zKr) (i : Instr) (pc : Nat) (lv : List (Nat × Value)) (st : List Value) (h : zH) (n c s : Nat) (k : zKt) : Prop := match i with
  | .iconst v => k (pc + 1) lv (.int (Int32.ofInt v) :: st) h n c s
  | .bipush v => k (pc + 2) lv (.int (Int8.ofInt v).toInt32 :: st) h n c s
  | .sipush v => k (pc + 3) lv (.int (Int16.ofInt v).toInt32 :: st) h n c s
  | .iload_n j => zli lv j (fun x => k (pc + 1) lv (.int x :: st) h n c s)
  | .iload j => zli lv j (fun x => k (pc + 2) lv (.int x :: st) h n c s)
  | .aload_n j => zla lv j (fun x => k (pc + 1) lv (.ref x :: st) h n c s)
  | .aload j => zla lv j (fun x => k (pc + 2) lv (.ref x :: st) h n c s)
  | .istore_n j => zs1 st (fun x r => (j : Nat) < (zxM X).2.2.1 ∧ k (pc + 1) (zst lv j (.int x)) r h n c s)
  | .istore j => zs1 st (fun x r => j < (zxM X).2.2.1 ∧ k (pc + 2) (zst lv j (.int x)) r h n c s)
  | .astore_n j => zr1 st (fun x r => (j : Nat) < (zxM X).2.2.1 ∧ k (pc + 1) (zst lv j (.ref x)) r h n c s)
  | .astore j => zr1 st (fun x r => j < (zxM X).2.2.1 ∧ k (pc + 2) (zst lv j (.ref x)) r h n c s)
  | .iinc j v => zli lv j (fun x => j < (zxM X).2.2.1 ∧ k (pc + 3) (zst lv j (.int (x + Int32.ofInt v))) st h n c s)
  | .iadd => zs2 st (fun x y r => k (pc + 1) lv (.int (x + y) :: r) h n c s)
  | .isub => zs2 st (fun x y r => k (pc + 1) lv (.int (x - y) :: r) h n c s)
  | .imul => zs2 st (fun x y r => k (pc + 1) lv (.int (x * y) :: r) h n c s)
  | .iand => zs2 st (fun x y r => k (pc + 1) lv (.int (x &&& y) :: r) h n c s)
  | .ior => zs2 st (fun x y r => k (pc + 1) lv (.int (x ||| y) :: r) h n c s)
  | .ishl => zs2 st (fun x y r => k (pc + 1) lv (.int (x <<< (y &&& 31)) :: r) h n c s)
  | .ishr => zs2 st (fun x y r => k (pc + 1) lv (.int (x >>> (y &&& 31)) :: r) h n c s)
  | .iushr => zs2 st (fun x y r => k (pc + 1) lv (.int (x.toUInt32 >>> (y.toUInt32 &&& Int32.toUInt32 31)).toInt32 :: r) h n c s)
  | .idiv => zs2 st (fun x y r => ¬ y = 0 ∧ k (pc + 1) lv (.int (x / y) :: r) h n c s)
  | .irem => zs2 st (fun x y r => ¬ y = 0 ∧ k (pc + 1) lv (.int (x - x / y * y) :: r) h n c s)
  | .ineg => zs1 st (fun x r => k (pc + 1) lv (.int (-x) :: r) h n c s)
  | .dup => zv1 st (fun v r => k (pc + 1) lv (v :: v :: r) h n c s)
  | .pop => zv1 st (fun _ r => k (pc + 1) lv r h n c s)
  | .dup_x1 => zv2 st (fun v w r => k (pc + 1) lv (v :: w :: v :: r) h n c s)
  | .dup_x2 => zv3 st (fun v w u r => k (pc + 1) lv (v :: w :: u :: v :: r) h n c s)
  | .dup2 => zv2 st (fun v w r => k (pc + 1) lv (v :: w :: v :: w :: r) h n c s)
  | .goto off => ztgt pc off (fun t => k t lv st h n c s)
  | .ifCond .eq off => zs1 st (fun x r => ztgt pc off (fun t => (x = 0 → k t lv r h n c s) ∧ (¬ x = 0 → k (pc + 3) lv r h n c s)))
  | .ifCond .ne off => zs1 st (fun x r => ztgt pc off (fun t => (¬ x = 0 → k t lv r h n c s) ∧ (x = 0 → k (pc + 3) lv r h n c s)))
  | .ifCond .lt off => zs1 st (fun x r => ztgt pc off (fun t => (x < 0 → k t lv r h n c s) ∧ (¬ x < 0 → k (pc + 3) lv r h n c s)))
  | .ifCond .ge off => zs1 st (fun x r => ztgt pc off (fun t => (0 ≤ x → k t lv r h n c s) ∧ (¬ 0 ≤ x → k (pc + 3) lv r h n c s)))
  | .ifCond .gt off => zs1 st (fun x r => ztgt pc off (fun t => (0 < x → k t lv r h n c s) ∧ (¬ 0 < x → k (pc + 3) lv r h n c s)))
  | .ifCond .le off => zs1 st (fun x r => ztgt pc off (fun t => (x ≤ 0 → k t lv r h n c s) ∧ (¬ x ≤ 0 → k (pc + 3) lv r h n c s)))
  | .if_icmp .eq off => zs2 st (fun x y r => ztgt pc off (fun t => (x = y → k t lv r h n c s) ∧ (¬ x = y → k (pc + 3) lv r h n c s)))
  | .if_icmp .ne off => zs2 st (fun x y r => ztgt pc off (fun t => (¬ x = y → k t lv r h n c s) ∧ (x = y → k (pc + 3) lv r h n c s)))
  | .if_icmp .lt off => zs2 st (fun x y r => ztgt pc off (fun t => (x < y → k t lv r h n c s) ∧ (¬ x < y → k (pc + 3) lv r h n c s)))
  | .if_icmp .ge off => zs2 st (fun x y r => ztgt pc off (fun t => (y ≤ x → k t lv r h n c s) ∧ (¬ y ≤ x → k (pc + 3) lv r h n c s)))
  | .if_icmp .gt off => zs2 st (fun x y r => ztgt pc off (fun t => (y < x → k t lv r h n c s) ∧ (¬ y < x → k (pc + 3) lv r h n c s)))
  | .if_icmp .le off => zs2 st (fun x y r => ztgt pc off (fun t => (x ≤ y → k t lv r h n c s) ∧ (¬ x ≤ y → k (pc + 3) lv r h n c s)))
  | .tableswitch dflt lo hi offs => zs1 st (fun x r => (offs.toList.length : Int) = hi - lo + 1 ∧ (x.toInt < lo ∨ hi < x.toInt → ztgt pc dflt (fun t => k t lv r h n c s)) ∧ ztab pc x.toInt (fun t => k t lv r h n c s) offs.toList lo)
  | .ldc idx => zkl E.2.2.1 idx (fun v => k (pc + 2) lv (.int v :: st) h n c s)
  | .getfield idx => zr1 st (fun a r => zob h a (fun ci fs => zfl E.1 idx ci (fun k0 _ => match fs[k0]? with
      | some v => k (pc + 3) lv (v :: r) h n c s
      | none => False)))
  | .putfield idx => zpa st (fun a => zob h a (fun ci fs => zfl E.1 idx ci (fun k0 w => zput w st (fun v _ r => k0 < fs.length ∧ k (pc + 3) lv r (va_up h a (some (.inr (ci, fs.set k0 v)))) n c s))))
  | .iaload => zir st (fun i a r => zar h a (fun cA m g => cA = (zxG X).2.2.1 ∧ vp_in i m ∧ k (pc + 1) lv (.int (g i.toNatClampNeg) :: r) h n c s))
  | .baload => zir st (fun i a r => zar h a (fun cA m g => cA = (zxG X).2.2.2.1 ∧ vp_in i m ∧ k (pc + 1) lv (.int (g i.toNatClampNeg) :: r) h n c s))
  | .iastore => ziir st (fun x i a r => zar h a (fun cA m g => cA = (zxG X).2.2.1 ∧ vp_in i m ∧ k (pc + 1) lv r (va_up h a (some (.inl (cA, m, .inl (upd g i.toNatClampNeg x))))) n c s))
  | .bastore => ziir st (fun x i a r => zar h a (fun cA m g => cA = (zxG X).2.2.2.1 ∧ vp_in i m ∧ k (pc + 1) lv r (va_up h a (some (.inl (cA, m, .inl (upd g i.toNatClampNeg (vp_nar .boolean x)))))) n c s))
  | .arraylength => zr1 st (fun a r => zar h a (fun cA m _ => cA = (zxG X).2.2.1 ∧ k (pc + 1) lv (.int (nI m) :: r) h n c s))
  | .newarray .int => zs1 st (fun x r => ¬ x < 0 ∧ x.toNatClampNeg ≤ 1000000 ∧ c + 1 ≤ (zxR X).cells ∧ s + x.toNatClampNeg ≤ (zxR X).slots ∧ k (pc + 2) lv (.ref n :: r) (va_up h n (some (.inl ((zxG X).2.2.1, x.toNatClampNeg, .inl (fun _ => 0))))) (n + 1) (c + 1) (s + x.toNatClampNeg))
  | .newarray .boolean => zs1 st (fun x r => ¬ x < 0 ∧ x.toNatClampNeg ≤ 1000000 ∧ c + 1 ≤ (zxR X).cells ∧ s + x.toNatClampNeg ≤ (zxR X).slots ∧ k (pc + 2) lv (.ref n :: r) (va_up h n (some (.inl ((zxG X).2.2.2.1, x.toNatClampNeg, .inl (fun _ => 0))))) (n + 1) (c + 1) (s + x.toNatClampNeg))
  | .new idx => znl E.2.2.2 idx (fun ci fs => c + 1 ≤ (zxR X).cells ∧ s + fs.length ≤ (zxR X).slots ∧ k (pc + 3) lv (.ref n :: st) (va_up h n (some (.inr (ci, fs)))) (n + 1) (c + 1) (s + fs.length))
  | .invokestatic idx => zcall X E pc 0 idx lv st h n c s k
  | .invokespecial idx => zcall X E pc 1 idx lv st h n c s k
  | .invokevirtual idx => zcall X E pc 2 idx lv st h n c s k
  | .ireturn => match st with
    | [.int x] => kr (some (.int x)) h n c s
    | _ => False
  | .areturn => match st with
    | [.ref a] => kr (some (.ref a)) h n c s
    | _ => False
  | .return_ => match st with
    | [] => kr none h n c s
    | _ => False
  | _ => False
def zin (kind idx : Nat) : Instr := match kind with
  | 0 => .invokestatic idx
  | 1 => .invokespecial idx
  | _ => .invokevirtual idx
/-- what a method's tables say is so: its field rows, its calls' rows, its constants, its classes -/
def zEok (X : zX) (E : zE) : Prop := (∀ q ∈ E.1, zfOk (zxM X).1 q = true) ∧ (∀ q ∈ E.2.1, zCk X (zin q.1 q.2.1) q.2.2.1 q.2.2.2.1 q.2.2.2.2.1 q.2.2.2.2.2) ∧
  (∀ q ∈ E.2.2.1, Cond.constant (zxM X).1.cls q.1 q.2 ∈ zT) ∧ (∀ q ∈ E.2.2.2, znOk (zxM X).1 q = true)
/-- a return is sound -/
def zRok (X : zX) (kr : zKr) : Prop := ∀ (pc : Nat) (lv : List (Nat × Value)) (v : Option Value) (h : zH) (n c s : Nat), kr v h n c s →
  ((∃ x, v = some (.int x)) ∧ decode (zxM X).2.1 pc = .ok (.ireturn, 1)) ∨ ((∃ a, v = some (.ref a)) ∧ decode (zxM X).2.1 pc = .ok (.areturn, 1)) ∨ (v = none ∧ decode (zxM X).2.1 pc = .ok (.return_, 1)) → zZ X pc lv v.toList h n c s
theorem zwI : Cond.arrayClass .int ∈ zT := zall_spec (ws := [.arrayClass .int]) (by decide +kernel) _ (by simp)
theorem zwZ : Cond.arrayClass .boolean ∈ zT := zall_spec (ws := [.arrayClass .boolean]) (by decide +kernel) _ (by simp)
theorem zput_inv {w : Nat} {st : List Value} {a : Nat} {f : Value → Nat → List Value → Prop} (ha : zpa st (fun b => b = a)) (h : zput w st f) : ∃ v r, st = v :: .ref a :: r ∧ ((w = 1 ∧ ∃ x, v = .int x) ∨ (w = 2 ∧ ∃ a, v = .ref a) ∨ (w = 3 ∧ ∃ x, v = .int x ∧ (x = 0 ∨ x = 1))) ∧ f v a r := by
  unfold zput at h
  split at h
  · simp only [zpa] at ha
    subst ha
    exact ⟨_, _, rfl, Or.inl ⟨rfl, _, rfl⟩, h⟩
  · simp only [zpa] at ha
    subst ha
    exact ⟨_, _, rfl, Or.inr (Or.inl ⟨rfl, _, rfl⟩), h⟩
  · simp only [zpa] at ha
    subst ha
    exact ⟨_, _, rfl, Or.inr (Or.inr ⟨rfl, _, rfl, h.1⟩), h.2⟩
  · exact h.elim
theorem zpa_inv {st : List Value} {f : Nat → Prop} (h : zpa st f) : ∃ a, zpa st (fun b => b = a) ∧ f a := by
  unfold zpa at h
  split at h
  · exact ⟨_, rfl, h⟩
  · exact h.elim
theorem zcall_sound {X : zX} {E : zE} (hE : zEok X E) {pc kind idx : Nat} {lv : List (Nat × Value)} {st : List Value} {h : zH} {n c s : Nat} {k : zKt} (hd : decode (zxM X).2.1 pc = .ok (zin kind idx, 3)) (hk : ∀ pc lv st h n c s, k pc lv st h n c s → zZ X pc lv st h n c s) (w : zcall X E pc kind idx lv st h n c s k) : zZ X pc lv st h n c s := by
  obtain ⟨na, mc, ms, S, hm, w1, w2, w3, w4, w5⟩ := zcl_inv w
  have e : st = (st.take na).reverse.reverse ++ st.drop na := by rw [List.reverse_reverse, List.take_append_drop]
  rw [e]
  exact hE.2.1 _ hm pc lv (st.take na).reverse (st.drop na) h n c s _ hd (by simp; omega) w2 w3 w4 w5 (fun v h' n' q => hk _ _ _ _ _ _ _ q)
set_option maxHeartbeats 4000000 in
theorem wI_sound {X : zX} {E : zE} (hE : zEok X E) {kr : zKr} (hR : zRok X kr) {i : Instr} {len pc : Nat} {lv : List (Nat × Value)} {st : List Value} {h : zH} {n c s : Nat} {k : zKt} (hd : decode (zxM X).2.1 pc = .ok (i, len)) (hl : zlenok i len) (hk : ∀ pc lv st h n c s, k pc lv st h n c s → zZ X pc lv st h n c s) (w : wI X E kr i pc lv st h n c s k) : zZ X pc lv st h n c s := by
  cases i with
  | iconst v =>
    cases hl
    exact z_iconst hd (hk _ _ _ _ _ _ _ w)
  | bipush v =>
    cases hl
    exact z_bipush hd (hk _ _ _ _ _ _ _ w)
  | sipush v =>
    cases hl
    exact z_sipush hd (hk _ _ _ _ _ _ _ w)
  | iload_n j =>
    cases hl
    obtain ⟨x, e1, w⟩ := zli_inv w
    exact z_iload_n hd e1 (hk _ _ _ _ _ _ _ w)
  | iload j =>
    cases hl
    obtain ⟨x, e1, w⟩ := zli_inv w
    exact z_iload hd e1 (hk _ _ _ _ _ _ _ w)
  | aload_n j =>
    cases hl
    obtain ⟨x, e1, w⟩ := zla_inv w
    exact z_aload_n hd e1 (hk _ _ _ _ _ _ _ w)
  | aload j =>
    cases hl
    obtain ⟨x, e1, w⟩ := zla_inv w
    exact z_aload hd e1 (hk _ _ _ _ _ _ _ w)
  | istore_n j =>
    cases hl
    obtain ⟨x, r, rfl, e1, w⟩ := zs1_inv w
    exact z_istore_n hd e1 (hk _ _ _ _ _ _ _ w)
  | istore j =>
    cases hl
    obtain ⟨x, r, rfl, e1, w⟩ := zs1_inv w
    exact z_istore hd e1 (hk _ _ _ _ _ _ _ w)
  | astore_n j =>
    cases hl
    obtain ⟨x, r, rfl, e1, w⟩ := zr1_inv w
    exact z_astore_n hd e1 (hk _ _ _ _ _ _ _ w)
  | astore j =>
    cases hl
    obtain ⟨x, r, rfl, e1, w⟩ := zr1_inv w
    exact z_astore hd e1 (hk _ _ _ _ _ _ _ w)
  | iinc j v =>
    cases hl
    obtain ⟨x, e1, e2, w⟩ := zli_inv w
    exact z_iinc hd e1 e2 (hk _ _ _ _ _ _ _ w)
  | iadd =>
    cases hl
    obtain ⟨x, y, r, rfl, w⟩ := zs2_inv w
    exact z_iadd hd (hk _ _ _ _ _ _ _ w)
  | isub =>
    cases hl
    obtain ⟨x, y, r, rfl, w⟩ := zs2_inv w
    exact z_isub hd (hk _ _ _ _ _ _ _ w)
  | imul =>
    cases hl
    obtain ⟨x, y, r, rfl, w⟩ := zs2_inv w
    exact z_imul hd (hk _ _ _ _ _ _ _ w)
  | iand =>
    cases hl
    obtain ⟨x, y, r, rfl, w⟩ := zs2_inv w
    exact z_iand hd (hk _ _ _ _ _ _ _ w)
  | ior =>
    cases hl
    obtain ⟨x, y, r, rfl, w⟩ := zs2_inv w
    exact z_ior hd (hk _ _ _ _ _ _ _ w)
  | ishl =>
    cases hl
    obtain ⟨x, y, r, rfl, w⟩ := zs2_inv w
    exact z_ishl hd (hk _ _ _ _ _ _ _ w)
  | ishr =>
    cases hl
    obtain ⟨x, y, r, rfl, w⟩ := zs2_inv w
    exact z_ishr hd (hk _ _ _ _ _ _ _ w)
  | iushr =>
    cases hl
    obtain ⟨x, y, r, rfl, w⟩ := zs2_inv w
    exact z_iushr hd (hk _ _ _ _ _ _ _ w)
  | idiv =>
    cases hl
    obtain ⟨x, y, r, rfl, e1, w⟩ := zs2_inv w
    exact z_idiv hd e1 (hk _ _ _ _ _ _ _ w)
  | irem =>
    cases hl
    obtain ⟨x, y, r, rfl, e1, w⟩ := zs2_inv w
    exact z_irem hd e1 (hk _ _ _ _ _ _ _ w)
  | ineg =>
    cases hl
    obtain ⟨x, r, rfl, w⟩ := zs1_inv w
    exact z_ineg hd (hk _ _ _ _ _ _ _ w)
  | dup =>
    cases hl
    obtain ⟨v, r, rfl, e1, w⟩ := zv1_inv w
    exact z_dup hd e1 (hk _ _ _ _ _ _ _ w)
  | pop =>
    cases hl
    obtain ⟨v, r, rfl, e1, w⟩ := zv1_inv w
    exact z_pop hd e1 (hk _ _ _ _ _ _ _ w)
  | dup_x1 =>
    cases hl
    obtain ⟨v, u, r, rfl, e1, e2, w⟩ := zv2_inv w
    exact z_dup_x1 hd e1 e2 (hk _ _ _ _ _ _ _ w)
  | dup2 =>
    cases hl
    obtain ⟨v, u, r, rfl, e1, e2, w⟩ := zv2_inv w
    exact z_dup2 hd e1 e2 (hk _ _ _ _ _ _ _ w)
  | dup_x2 =>
    cases hl
    obtain ⟨v, u, t, r, rfl, e1, e2, e3, w⟩ := zv3_inv w
    exact z_dup_x2 hd e1 e2 e3 (hk _ _ _ _ _ _ _ w)
  | goto off =>
    cases hl
    have w2 : ztgt pc off (fun t => k t lv st h n c s) := w
    obtain ⟨t, e1, w⟩ := ztgt_inv w2
    exact z_goto hd e1 (hk _ _ _ _ _ _ _ w)
  | ifCond cd off =>
    cases hl
    cases cd with
    | eq =>
      obtain ⟨x, r, rfl, w2⟩ := zs1_inv w
      obtain ⟨t, e1, w3, w'⟩ := ztgt_inv w2
      exact z_if_eq hd e1 (fun q => hk _ _ _ _ _ _ _ (w3 q)) (fun q => hk _ _ _ _ _ _ _ (w' q))
    | ne =>
      obtain ⟨x, r, rfl, w2⟩ := zs1_inv w
      obtain ⟨t, e1, w3, w'⟩ := ztgt_inv w2
      exact z_if_ne hd e1 (fun q => hk _ _ _ _ _ _ _ (w3 q)) (fun q => hk _ _ _ _ _ _ _ (w' q))
    | lt =>
      obtain ⟨x, r, rfl, w2⟩ := zs1_inv w
      obtain ⟨t, e1, w3, w'⟩ := ztgt_inv w2
      exact z_if_lt hd e1 (fun q => hk _ _ _ _ _ _ _ (w3 q)) (fun q => hk _ _ _ _ _ _ _ (w' q))
    | ge =>
      obtain ⟨x, r, rfl, w2⟩ := zs1_inv w
      obtain ⟨t, e1, w3, w'⟩ := ztgt_inv w2
      exact z_if_ge hd e1 (fun q => hk _ _ _ _ _ _ _ (w3 q)) (fun q => hk _ _ _ _ _ _ _ (w' q))
    | gt =>
      obtain ⟨x, r, rfl, w2⟩ := zs1_inv w
      obtain ⟨t, e1, w3, w'⟩ := ztgt_inv w2
      exact z_if_gt hd e1 (fun q => hk _ _ _ _ _ _ _ (w3 q)) (fun q => hk _ _ _ _ _ _ _ (w' q))
    | le =>
      obtain ⟨x, r, rfl, w2⟩ := zs1_inv w
      obtain ⟨t, e1, w3, w'⟩ := ztgt_inv w2
      exact z_if_le hd e1 (fun q => hk _ _ _ _ _ _ _ (w3 q)) (fun q => hk _ _ _ _ _ _ _ (w' q))
  | if_icmp cd off =>
    cases hl
    cases cd with
    | eq =>
      obtain ⟨x, y, r, rfl, w2⟩ := zs2_inv w
      obtain ⟨t, e1, w3, w'⟩ := ztgt_inv w2
      exact z_icmp_eq hd e1 (fun q => hk _ _ _ _ _ _ _ (w3 q)) (fun q => hk _ _ _ _ _ _ _ (w' q))
    | ne =>
      obtain ⟨x, y, r, rfl, w2⟩ := zs2_inv w
      obtain ⟨t, e1, w3, w'⟩ := ztgt_inv w2
      exact z_icmp_ne hd e1 (fun q => hk _ _ _ _ _ _ _ (w3 q)) (fun q => hk _ _ _ _ _ _ _ (w' q))
    | lt =>
      obtain ⟨x, y, r, rfl, w2⟩ := zs2_inv w
      obtain ⟨t, e1, w3, w'⟩ := ztgt_inv w2
      exact z_icmp_lt hd e1 (fun q => hk _ _ _ _ _ _ _ (w3 q)) (fun q => hk _ _ _ _ _ _ _ (w' q))
    | ge =>
      obtain ⟨x, y, r, rfl, w2⟩ := zs2_inv w
      obtain ⟨t, e1, w3, w'⟩ := ztgt_inv w2
      exact z_icmp_ge hd e1 (fun q => hk _ _ _ _ _ _ _ (w3 q)) (fun q => hk _ _ _ _ _ _ _ (w' q))
    | gt =>
      obtain ⟨x, y, r, rfl, w2⟩ := zs2_inv w
      obtain ⟨t, e1, w3, w'⟩ := ztgt_inv w2
      exact z_icmp_gt hd e1 (fun q => hk _ _ _ _ _ _ _ (w3 q)) (fun q => hk _ _ _ _ _ _ _ (w' q))
    | le =>
      obtain ⟨x, y, r, rfl, w2⟩ := zs2_inv w
      obtain ⟨t, e1, w3, w'⟩ := ztgt_inv w2
      exact z_icmp_le hd e1 (fun q => hk _ _ _ _ _ _ _ (w3 q)) (fun q => hk _ _ _ _ _ _ _ (w' q))
  | tableswitch dflt lo hi offs =>
    obtain ⟨x, r, rfl, e1, w, w'⟩ := zs1_inv w
    exact z_table hd e1 (fun q => ztgt_mono (fun t u => hk _ _ _ _ _ _ _ u) (w q)) (ztab_mono (fun t u => hk _ _ _ _ _ _ _ u) w')
  | ldc idx =>
    cases hl
    obtain ⟨v, e1, w⟩ := zkl_inv w
    exact z_ldc hd (hE.2.2.1 _ e1) (hk _ _ _ _ _ _ _ w)
  | getfield idx =>
    cases hl
    obtain ⟨a, r, rfl, w⟩ := zr1_inv w
    obtain ⟨ci, fs, e1, w⟩ := zob_inv w
    obtain ⟨k0, w0, e2, w⟩ := zfl_inv w
    split at w
    · rename_i v e3
      exact z_getfield hd (hE.1 _ e2) e1 e3 (hk _ _ _ _ _ _ _ w)
    · exact w.elim
  | putfield idx =>
    cases hl
    obtain ⟨a, e0, w⟩ := zpa_inv w
    obtain ⟨ci, fs, e1, w⟩ := zob_inv w
    obtain ⟨k0, w0, e2, w⟩ := zfl_inv w
    obtain ⟨v, r, rfl, e3, e4, w⟩ := zput_inv e0 w
    exact z_putfield hd (hE.1 _ e2) e1 e4 e3 (hk _ _ _ _ _ _ _ w)
  | iaload =>
    cases hl
    obtain ⟨x, a, r, rfl, w⟩ := zir_inv w
    obtain ⟨cA, m, g, e1, rfl, e2, w⟩ := zar_inv w
    exact z_iaload hd e1 e2 (hk _ _ _ _ _ _ _ w)
  | baload =>
    cases hl
    obtain ⟨x, a, r, rfl, w⟩ := zir_inv w
    obtain ⟨cA, m, g, e1, rfl, e2, w⟩ := zar_inv w
    exact z_baload hd e1 e2 (hk _ _ _ _ _ _ _ w)
  | iastore =>
    cases hl
    obtain ⟨x, j, a, r, rfl, w⟩ := ziir_inv w
    obtain ⟨cA, m, g, e1, rfl, e2, w⟩ := zar_inv w
    exact z_iastore hd e1 e2 (hk _ _ _ _ _ _ _ w)
  | bastore =>
    cases hl
    obtain ⟨x, j, a, r, rfl, w⟩ := ziir_inv w
    obtain ⟨cA, m, g, e1, rfl, e2, w⟩ := zar_inv w
    exact z_bastore hd e1 e2 (hk _ _ _ _ _ _ _ w)
  | arraylength =>
    cases hl
    obtain ⟨a, r, rfl, w⟩ := zr1_inv w
    obtain ⟨cA, m, g, e1, rfl, w⟩ := zar_inv w
    exact z_alen hd e1 (hk _ _ _ _ _ _ _ w)
  | newarray ty =>
    cases hl
    cases ty <;> first | exact w.elim | (obtain ⟨x, r, rfl, e1, e2, e3, e4, w⟩ := zs1_inv w; first | exact z_newi hd zwI e1 e2 e3 e4 (hk _ _ _ _ _ _ _ w) | exact z_newz hd zwZ e1 e2 e3 e4 (hk _ _ _ _ _ _ _ w))
  | new idx =>
    cases hl
    obtain ⟨ci, fs, e1, e2, e3, w⟩ := znl_inv w
    exact z_new hd (hE.2.2.2 _ e1) e2 e3 (hk _ _ _ _ _ _ _ w)
  | invokestatic idx =>
    cases hl
    exact zcall_sound (kind := 0) hE hd hk w
  | invokespecial idx =>
    cases hl
    exact zcall_sound (kind := 1) hE hd hk w
  | invokevirtual idx =>
    cases hl
    exact zcall_sound (kind := 2) hE hd hk w
  | ireturn =>
    cases hl
    simp only [wI] at w
    split at w
    · exact hR pc lv _ h n c s w (Or.inl ⟨⟨_, rfl⟩, hd⟩)
    · exact w.elim
  | areturn =>
    cases hl
    simp only [wI] at w
    split at w
    · exact hR pc lv _ h n c s w (Or.inr (Or.inl ⟨⟨_, rfl⟩, hd⟩))
    · exact w.elim
  | return_ =>
    cases hl
    simp only [wI] at w
    split at w
    · exact hR pc lv _ h n c s w (Or.inr (Or.inr ⟨rfl, hd⟩))
    · exact w.elim
  | _ => exact w.elim
/-- code, by fuel: it stops at a cut (the locals that are named there are kept), where the machine itself is asked -/
def w1 (X : zX) (b : ByteArray) (E : zE) (kr : zKr) (k : zKt) : zKt := fun pc lv st h n c s => match decode b pc with
  | .ok (i, len) => zlenok i len ∧ wI X E kr i pc lv st h n c s k
  | .error _ => False
def zcut : List (Nat × List Nat) → Nat → Option (List Nat)
  | [], _ => none
  | (p, ks) :: r, pc => if p = pc then some ks else zcut r pc
def zkeep (lv : List (Nat × Value)) : List Nat → List (Nat × Value)
  | [] => []
  | i :: r => match zlk lv i with
    | some v => (i, v) :: zkeep lv r
    | none => zkeep lv r
theorem zkeep_sub {lv : List (Nat × Value)} {ks : List Nat} : ∀ q ∈ zkeep lv ks, q ∈ lv := by
  induction ks with
  | nil => intro q h; simp [zkeep] at h
  | cons i r ih =>
    intro q h
    unfold zkeep at h
    split at h
    · rename_i v hv
      rcases List.mem_cons.mp h with rfl | h
      · exact zlk_mem hv
      · exact ih q h
    · exact ih q h
def wp (X : zX) (b : ByteArray) (E : zE) (kr : zKr) (cut : List (Nat × List Nat)) : Nat → zKt
  | 0 => fun _ _ _ _ _ _ _ => False
  | f + 1 => fun pc lv st h n c s => match zcut cut pc with
    | some ks => zZ X pc (zkeep lv ks) st h n c s
    | none => w1 X b E kr (wp X b E kr cut f) pc lv st h n c s
theorem w1_sound {X : zX} {b : ByteArray} {E : zE} {kr : zKr} (hb : (zxM X).2.1 = b) (hE : zEok X E) (hR : zRok X kr) {k : zKt} (hk : ∀ pc lv st h n c s, k pc lv st h n c s → zZ X pc lv st h n c s) {pc : Nat} {lv : List (Nat × Value)} {st : List Value} {h : zH} {n c s : Nat} (w : w1 X b E kr k pc lv st h n c s) : zZ X pc lv st h n c s := by
  unfold w1 at w
  split at w
  · rename_i i len hd
    exact wI_sound hE hR (by rw [hb]; exact hd) w.1 hk w.2
  · exact w.elim
theorem wp_sound {X : zX} {b : ByteArray} {E : zE} {kr : zKr} {cut : List (Nat × List Nat)} (hb : (zxM X).2.1 = b) (hE : zEok X E) (hR : zRok X kr) : ∀ (f pc : Nat) (lv : List (Nat × Value)) (st : List Value) (h : zH) (n c s : Nat), wp X b E kr cut f pc lv st h n c s → zZ X pc lv st h n c s := by
  intro f
  induction f with
  | zero => intro pc lv st h n c s w; exact w.elim
  | succ f ih =>
    intro pc lv st h n c s w
    unfold wp at w
    split at w
    · exact zZ.sub zkeep_sub w
    · exact w1_sound hb hE hR ih w
def zretok (ret : Option FieldType) (v : Option Value) : Prop := match ret, v with
  | some .int, some (.int _) => True
  | some .boolean, some (.int x) => x = 0 ∨ x = 1
  | some (.object _), some (.ref _) => True
  | none, none => True
  | _, _ => False
def zkr (R : Room) (ret : Option FieldType) (post : zP) : zKr := fun v h n c s => c ≤ R.cells ∧ s ≤ R.slots ∧ zretok ret v ∧ post v h n
theorem zretok_i {ret : Option FieldType} {x : Int32} (h : zretok ret (some (.int x))) : zretI ret x := by
  match ret, h with
  | some .int, _ => trivial
  | some .boolean, h => exact h
theorem zretok_a {ret : Option FieldType} {a : Nat} (h : zretok ret (some (.ref a))) : ∃ T, ret = some (.object T) := by
  match ret, h with
  | some (.object T), _ => exact ⟨T, rfl⟩
theorem zretok_v {ret : Option FieldType} (h : zretok ret none) : ret = none := by
  cases ret with
  | none => rfl
  | some t => cases t <;> exact h.elim
theorem zkr_ok {G : zC} {R : Room} {M : zM} {args : List Value} {h0 : zH} {n0 : Nat} {post : zP} : zRok (zXm G R M args h0 n0 post) (zkr R M.2.2.2 post) := by
  intro pc lv v h n c s ⟨k1, k2, k3, k4⟩ hd
  rcases hd with ⟨⟨x, rfl⟩, hd⟩ | ⟨⟨a, rfl⟩, hd⟩ | ⟨rfl, hd⟩
  · exact z_ireturn hd (zretok_i k3) k1 k2 k4
  · obtain ⟨T, e⟩ := zretok_a k3
    exact z_areturn hd e k1 k2 k4
  · exact z_vreturn hd (zretok_v k3) k1 k2 k4
/-- a method's contract out of its code's wp -/
theorem zCt.wp {G : zC} {R : Room} {M : zM} {args : List Value} {h : zH} {n : Nat} {post : zP} (E : zE) (cut : List (Nat × List Nat)) (f : Nat) (hy : plainName M.1.cls = true) (hl : (lg_sl args).length ≤ M.2.2.1) (hE : zEok (zXm G R M args h n post) E) (k : wp (zXm G R M args h n post) M.2.1 E (zkr R M.2.2.2 post) cut f 0 (lv_args 0 args) [] h n 0 0) : zCt G R M args h n post :=
  zCt.of hy hl (wp_sound rfl hE zkr_ok f 0 _ [] h n 0 0 k)


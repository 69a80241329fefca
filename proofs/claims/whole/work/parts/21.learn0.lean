/-! Model: what learning a byte does to the tree, as mathematics -/
def zinc (T : zTree) (c : Nat) : zTree := (T.1, T.2.1, T.2.2.1, va_up T.2.2.2 c (T.2.2.2 c + 1))
def zlsT (T : zTree) (l : List Nat) : zTree := (T.1, T.2.1, T.2.2.1, zless T.2.2.2 l)
/-- no count is too great -/
def zSb (T : zTree) (ch : Nat → List Nat) : Prop := ∀ p, p < T.1 → zsum T.2.2.2 (ch p) ≤ 300
/-- one context learns -/
def zStep (b node : Nat) (T : zTree) (ch : Nat → List Nat) (T' : zTree) (ch' : Nat → List Nat) : Prop :=
  (∃ c, c ∈ ch node ∧ T.2.2.1 c = b ∧ T' = zlsT (zinc T c) (ch node) ∧ ch' = ch) ∨
  ((∀ c, c ∈ ch node → T.2.2.1 c ≠ b) ∧ ∃ pre r, ch node = pre ++ r ∧ ch' = zgC ch T.1 node (pre ++ T.1 :: r) ∧ T' = zlsT (zgT T node b) (pre ++ T.1 :: r))
def zLrn (rm b : Nat) (ctx : Nat → Nat) : Nat → Nat → zTree → (Nat → List Nat) → zTree → (Nat → List Nat) → Prop
  | 0, _, T, ch, T', ch' => T' = T ∧ ch' = ch
  | d + 1, k, T, ch, T', ch' => ∃ T1 ch1, zStep b (ctx k) T ch T1 ch1 ∧ T1.1 ≤ rm ∧ zLrn rm b ctx d (k + 1) T1 ch1 T' ch'
/-- there is no room for the child that context k needs -/
def zRst (rm b node : Nat) (T : zTree) (ch : Nat → List Nat) : Prop := T.1 = rm ∧ ∀ c, c ∈ ch node → T.2.2.1 c ≠ b
theorem zsum_congr {f g : Nat → Nat} {l : List Nat} (h : ∀ c, c ∈ l → f c = g c) : zsum f l = zsum g l := by
  induction l with
  | nil => rfl
  | cons d r ih => simp only [zsum, h d List.mem_cons_self, ih (fun c hc => h c (List.mem_cons_of_mem _ hc))]
theorem zsum_app (f : Nat → Nat) (l r : List Nat) : zsum f (l ++ r) = zsum f l + zsum f r := by
  induction l with
  | nil => simp [zsum]
  | cons d s ih => simp only [List.cons_append, zsum, ih]; omega
theorem zsum_inc {f byt : Nat → Nat} {c : Nat} {l : List Nat} (hp : l.Pairwise (fun c d => byt c < byt d)) (hc : c ∈ l) : zsum (va_up f c (f c + 1)) l = zsum f l + 1 := by
  induction l with
  | nil => simp at hc
  | cons d r ih =>
    have h1 := List.pairwise_cons.mp hp
    simp only [zsum]
    by_cases e : c = d
    · subst e
      rw [va_up_self, zsum_congr (g := f) (fun x hx => va_up_ne _ _ (fun z => by have := h1.1 x hx; rw [z] at this; omega))]
      omega
    · rw [va_up_ne _ _ (Ne.symm e), ih h1.2 (by rcases List.mem_cons.mp hc with z | z; exact absurd z e; exact z)]
      omega
theorem zlen_byt {byt : Nat → Nat} {l : List Nat} (hp : l.Pairwise (fun c d => byt c < byt d)) : ∀ lo, (∀ c, c ∈ l → lo ≤ byt c ∧ byt c < 256) → l.length + lo ≤ 256 ∨ l = [] := by
  induction l with
  | nil => intro lo _; exact Or.inr rfl
  | cons d r ih =>
    intro lo h
    have h1 := List.pairwise_cons.mp hp
    have h2 := h d List.mem_cons_self
    left
    rcases ih h1.2 (byt d + 1) (fun c hc => ⟨h1.1 c hc, (h c (List.mem_cons_of_mem _ hc)).2⟩) with z | z
    · simp only [List.length_cons]; omega
    · subst z; simp; omega
theorem zlen256 {byt : Nat → Nat} {l : List Nat} (hp : l.Pairwise (fun c d => byt c < byt d)) (h : ∀ c, c ∈ l → byt c < 256) : l.length ≤ 256 := by
  rcases zlen_byt hp 0 (fun c hc => ⟨Nat.zero_le _, h c hc⟩) with z | z
  · omega
  · subst z; simp
theorem zsum_half {f : Nat → Nat} {l s : List Nat} (hs : ∀ c, c ∈ s → c ∈ l) : 2 * zsum (zhalf f l) s ≤ zsum f s + s.length := by
  induction s with
  | nil => simp [zsum]
  | cons d r ih =>
    have := ih (fun c hc => hs c (List.mem_cons_of_mem _ hc))
    simp only [zsum, zhalf, if_pos (hs d List.mem_cons_self), List.length_cons] at this ⊢
    omega
theorem zless_le {f : Nat → Nat} {l : List Nat} (h : zsum f l ≤ 301) (hl : l.length ≤ 256) : zsum (zless f l) l ≤ 300 := by
  unfold zless
  split
  · omega
  · have := zsum_half (f := f) (l := l) (s := l) (fun c hc => hc)
    omega
theorem zless_off {f : Nat → Nat} {l : List Nat} {c : Nat} (h : c ∉ l) : zless f l c = f c := by
  unfold zless
  split
  · rfl
  · simp [zhalf, h]
theorem zless_pos {f : Nat → Nat} {l : List Nat} {c : Nat} (h : 1 ≤ f c) : 1 ≤ zless f l c := by
  unfold zless
  split
  · exact h
  · unfold zhalf
    split <;> omega
theorem zTok.cnt {T : zTree} {ch : Nat → List Nat} (H : zTok T ch) (cnt' : Nat → Nat) (hc : ∀ c, 1 ≤ c → c < T.1 → 1 ≤ cnt' c) : zTok (T.1, T.2.1, T.2.2.1, cnt') ch := by
  obtain ⟨t1, t2, t3, t4⟩ := H
  exact ⟨t1, t2, t3, fun c g1 g2 => ⟨(t4 c g1 g2).1, (t4 c g1 g2).2.1, (t4 c g1 g2).2.2.1, hc c g1 g2⟩⟩
theorem zStep_ok {b node : Nat} {T T' : zTree} {ch ch' : Nat → List Nat} (H : zTok T ch) (hs : zSb T ch) (hn : node < T.1) (hb : b < 256) (h : zStep b node T ch T' ch') (hpr : ∀ pre r, ch node = pre ++ r → ch' = zgC ch T.1 node (pre ++ T.1 :: r) → (∀ c, c ∈ pre → T.2.2.1 c < b) ∧ ∀ c, c ∈ r → b < T.2.2.1 c) : zTok T' ch' ∧ zSb T' ch' := by
  obtain ⟨nm, par, byt, cnt⟩ := T
  have H0 := H
  obtain ⟨t1, t2, t3, t4⟩ := H
  dsimp only at hn t1 t2 t3 t4
  rcases h with ⟨c, hc, hcb, rfl, rfl⟩ | ⟨hno, pre, r, he, rfl, rfl⟩
  · have hcn := t3 node c hn hc
    refine ⟨H0.cnt _ (fun d g1 g2 => zless_pos ?_), fun q hq => ?_⟩
    · by_cases e : d = c
      · subst e; simp only [zinc, va_up_self]; omega
      · simp only [zinc, va_up_ne _ _ e]; exact (t4 d g1 g2).2.2.2
    · simp only [zlsT, zinc] at hq ⊢
      by_cases e : q = node
      · subst e
        refine zless_le ?_ (zlen256 (t2 q hn).2 (fun d hd => (t4 d (t3 q d hn hd).1 (t3 q d hn hd).2.1).2.2.1))
        rw [zsum_inc (t2 q hn).2 hc]
        have := hs q hn
        simp only at this
        omega
      · have hd : ∀ d, d ∈ ch' q → d ∉ ch' node := fun d hd h2 => e (by rw [← (t3 q d hq hd).2.2, ← (t3 node d hn h2).2.2])
        rw [zsum_congr (g := cnt) (fun d hd2 => by rw [zless_off (hd d hd2), va_up_ne _ _ (fun z => hd d hd2 (by rw [z]; exact hc))])]
        exact hs q hq
  · obtain ⟨hp1, hp2⟩ := hpr pre r he rfl
    have HG := zgTok H0 hn hb he hp1 hp2
    refine ⟨HG.cnt _ (fun d g1 g2 => zless_pos (HG.2.2.2 d g1 g2).2.2.2), fun q hq => ?_⟩
    obtain ⟨u1, u2, u3, u4⟩ := HG
    simp only [zlsT, zgT] at hq u2 u3 u4 ⊢
    have hself : zgC ch nm node (pre ++ nm :: r) node = pre ++ nm :: r := by simp [zgC, va_up]
    by_cases e : q = node
    · subst e
      have hl := zlen256 (u2 q (by omega)).2 (fun d hd => (u4 d (u3 q d (by omega) hd).1 (u3 q d (by omega) hd).2.1).2.2.1)
      rw [hself] at hl ⊢
      refine zless_le ?_ hl
      have h0 := hs q hn
      simp only [he, zsum_app] at h0
      have hm : ∀ d, d ∈ pre ++ r → va_up cnt nm 1 d = cnt d := fun d hd => va_up_ne _ _ (by have := (t3 q d hn (by rw [he]; exact hd)).2.1; omega)
      simp only [zsum_app, zsum, va_up_self]
      rw [zsum_congr (l := pre) (g := cnt) (fun d hd => hm d (List.mem_append_left _ hd)), zsum_congr (l := r) (g := cnt) (fun d hd => hm d (List.mem_append_right _ hd))]
      omega
    · have hd : ∀ d, d ∈ zgC ch nm node (pre ++ nm :: r) q → d ∉ pre ++ nm :: r := fun d hd h2 => e ((u3 q d hq hd).2.2.symm.trans (u3 node d (by omega) (by rw [hself]; exact h2)).2.2)
      by_cases e2 : q = nm
      · subst e2
        have : zgC ch q node (pre ++ q :: r) q = [] := by simp [zgC, va_up, e]
        rw [this]; simp [zsum]
      · have hcq : zgC ch nm node (pre ++ nm :: r) q = ch q := by simp [zgC, va_up, e, e2]
        rw [hcq] at hd ⊢
        rw [zsum_congr (g := cnt) (fun d hd2 => by rw [zless_off (hd d hd2), va_up_ne _ _ (by have := (t3 q d (by omega) hd2).2.1; omega)])]
        exact hs q (by show q < nm; omega)
theorem zpre_of {b node : Nat} {T : zTree} {ch : Nat → List Nat} {pre r : List Nat} (H1 : zTok T ch) (hn : node < T.1) (H2 : zTok (zgT T node b) (zgC ch T.1 node (pre ++ T.1 :: r))) (he : ch node = pre ++ r) : (∀ c, c ∈ pre → T.2.2.1 c < b) ∧ ∀ c, c ∈ r → b < T.2.2.1 c := by
  have hself : zgC ch T.1 node (pre ++ T.1 :: r) node = pre ++ T.1 :: r := by simp [zgC, va_up]
  have hw := (H2.2.1 node (by simp only [zgT]; omega)).2
  rw [hself, List.pairwise_append] at hw
  have hm : ∀ d, d ∈ pre ++ r → (zgT T node b).2.2.1 d = T.2.2.1 d := fun d hd => by
    simp only [zgT]
    exact va_up_ne _ _ (by have := (H1.2.2.1 node d hn (by rw [he]; exact hd)).2.1; omega)
  have hb : (zgT T node b).2.2.1 T.1 = b := by simp [zgT, va_up]
  refine ⟨fun c hc => ?_, fun c hc => ?_⟩
  · have := hw.2.2 c hc T.1 List.mem_cons_self
    rwa [hm c (List.mem_append_left _ hc), hb] at this
  · have := (List.pairwise_cons.mp hw.2.1).1 c hc
    rwa [hm c (List.mem_append_right _ hc), hb] at this
theorem zfc_some {byt : Nat → Nat} {b : Nat} {l : List Nat} (h : zfc byt b l ≠ -1) : ∃ c, c ∈ l ∧ byt c = b ∧ zfc byt b l = nI c := by
  induction l with
  | nil => exact absurd rfl h
  | cons d r ih =>
    simp only [zfc] at h ⊢
    split at h
    · rename_i e
      exact ⟨d, List.mem_cons_self, e, by rw [if_pos e]⟩
    · rename_i e
      obtain ⟨c, h1, h2, h3⟩ := ih h
      exact ⟨c, List.mem_cons_of_mem _ h1, h2, by rw [if_neg e]; exact h3⟩
theorem zfc_none {byt : Nat → Nat} {b : Nat} {l : List Nat} (hl : ∀ c, c ∈ l → c < 2147483648) (h : zfc byt b l = -1) : ∀ c, c ∈ l → byt c ≠ b := by
  induction l with
  | nil => intro c hc; simp at hc
  | cons d r ih =>
    simp only [zfc] at h
    split at h
    · exact absurd h (zhd_ne (hl d List.mem_cons_self))
    · rename_i e
      intro c hc
      rcases List.mem_cons.mp hc with rfl | hc
      · exact e
      · exact ih (fun c hc => hl c (List.mem_cons_of_mem _ hc)) h c hc
/-! a model's cells, one by one -/
theorem zMod.obj {G : zC} {h : zH} {m : zAm} {o rm lm : Nat} {T : zTree} {ch : Nat → List Nat} {lat ctx : Nat → Nat} (H : zMod G h m o rm T ch lm lat ctx) : h m.1 = some (zO 4 [.int (nI o), .int (nI rm), .ref m.2.1, .ref m.2.2.1, .ref m.2.2.2.1, .ref m.2.2.2.2.1, .ref m.2.2.2.2.2.1, .int (nI T.1), .ref m.2.2.2.2.2.2.1, .int (nI lm), .ref m.2.2.2.2.2.2.2]) := by
  obtain ⟨P, B, C, F, X, L, U, ⟨hk, -⟩, -⟩ := H
  exact hk
theorem zMod.nums {G : zC} {h : zH} {m : zAm} {o rm lm : Nat} {T : zTree} {ch : Nat → List Nat} {lat ctx : Nat → Nat} (H : zMod G h m o rm T ch lm lat ctx) : zTok T ch ∧ o ≤ 4 ∧ 8 ≤ rm ∧ rm ≤ 1500 ∧ T.1 ≤ rm ∧ lm ≤ o := by
  obtain ⟨P, B, C, F, X, L, U, ⟨hk, hp, hb, hc, hf, hx, hl, hu, hdj, ho4, hr8, hr15, hnr, hlo⟩, ht, -⟩ := H
  exact ⟨ht, ho4, hr8, hr15, hnr, hlo⟩
theorem zMod.con {G : zC} {h : zH} {m : zAm} {o rm lm : Nat} {T : zTree} {ch : Nat → List Nat} {lat ctx : Nat → Nat} (H : zMod G h m o rm T ch lm lat ctx) : ∃ U, h m.2.2.2.2.2.2.2 = some (zI G (o + 1) U) ∧ ∀ k, k ≤ lm → U k = nI (ctx k) := by
  obtain ⟨P, B, C, F, X, L, U, ⟨hk, hp, hb, hc, hf, hx, hl, hu, -⟩, -, -, -, hU⟩ := H
  exact ⟨U, hu, hU⟩
theorem zMod.inc {G : zC} {h : zH} {m : zAm} {o rm lm : Nat} {T : zTree} {ch : Nat → List Nat} {lat ctx : Nat → Nat} (H : zMod G h m o rm T ch lm lat ctx) : ∃ C, h m.2.2.2.1 = some (zI G rm C) ∧ (∀ i, 1 ≤ i → i < T.1 → C i = nI (T.2.2.2 i)) ∧ ∀ h' c0, 1 ≤ c0 → c0 < T.1 → h' m.2.2.2.1 = some (zI G rm (upd C c0 (nI (T.2.2.2 c0 + 1)))) → (∀ q, q ≠ m.2.2.2.1 → h' q = h q) → zMod G h' m o rm (zinc T c0) ch lm lat ctx := by
  obtain ⟨P, B, C, F, X, L, U, ⟨hk, hp, hb, hc, hf, hx, hl, hu, hdj, ho4, hr8, hr15, hnr, hlo⟩, ht, ⟨w1, w2, w3, w4, w5⟩, hL, hU⟩ := H
  refine ⟨C, hc, fun i g1 g2 => by rw [w3 i g2, if_neg (by omega)], fun h' c0 g1 g2 e o1 => ?_⟩
  have hdj0 := hdj
  obtain ⟨⟨npb, npc, npf, npx, npl, npt⟩, ⟨nbc, nbf, nbx, nbl, nbt⟩, ⟨ncf, ncx, ncl, nct⟩, -⟩ := hdj
  have nac : m.1 ≠ m.2.2.2.1 := fun q => by rw [q, hc] at hk; simp at hk
  refine ⟨P, B, _, F, X, L, U, ⟨(o1 _ nac).trans hk, (o1 _ npc).trans hp, (o1 _ nbc).trans hb, e, (o1 _ (Ne.symm ncf)).trans hf, (o1 _ (Ne.symm ncx)).trans hx, (o1 _ (Ne.symm ncl)).trans hl, (o1 _ (Ne.symm nct)).trans hu, hdj0, ho4, hr8, hr15, hnr, hlo⟩, ht.cnt _ (fun c q1 q2 => ?_), ⟨w1, w2, fun i hi => ?_, w4, w5⟩, hL, hU⟩
  · by_cases z : c = c0
    · subst z; rw [va_up_self]; omega
    · rw [va_up_ne _ _ z]; exact (ht.2.2.2 c q1 q2).2.2.2
  · simp only [zinc] at hi ⊢
    by_cases z : i = c0
    · subst z; rw [pk_us, va_up_self, if_neg (by omega)]
    · rw [pk_un z, va_up_ne _ _ z]; exact w3 i hi

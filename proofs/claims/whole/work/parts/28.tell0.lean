/-! Teller.tell: what telling a sign is -/
def zTl {σ : Type} (Sy : σ → List (Nat × Nat) → Nat → σ → Prop) (byt cnt : Nat → Nat) (ch : Nat → List Nat) (ctx : Nat → Nat) : Nat → (Nat → Bool) → Nat → Nat → σ → σ × (Nat → Bool) × Nat × Nat × Nat × Option Nat → Prop
  | 0, E, ex, es, s, r => ∃ i s', Sy s (zflat E 257 0) i s' ∧ r = (s', E, ex, es, zsg (zflat E 257 0) i, none)
  | k + 1, E, ex, es, s, r => (zoff byt cnt E (ch (ctx k)) = [] ∧ zTl Sy byt cnt ch ctx k E ex es s r) ∨
    (zoff byt cnt E (ch (ctx k)) ≠ [] ∧ ∃ i s', Sy s (zoff byt cnt E (ch (ctx k)) ++ [(257, (zoff byt cnt E (ch (ctx k))).length)]) i s' ∧
      ((zsg (zoff byt cnt E (ch (ctx k)) ++ [(257, (zoff byt cnt E (ch (ctx k))).length)]) i ≠ 257 ∧ r = (s', E, ex, es, zsg (zoff byt cnt E (ch (ctx k)) ++ [(257, (zoff byt cnt E (ch (ctx k))).length)]) i, some k)) ∨
       (zsg (zoff byt cnt E (ch (ctx k)) ++ [(257, (zoff byt cnt E (ch (ctx k))).length)]) i = 257 ∧ zTl Sy byt cnt ch ctx k (zexc E (zoff byt cnt E (ch (ctx k)) ++ [(257, (zoff byt cnt E (ch (ctx k))).length)]) (zoff byt cnt E (ch (ctx k))).length) (ex + (zoff byt cnt E (ch (ctx k))).length) (es + 1) s' r)))
def zSyM (x : Nat) : Int32 → List (Nat × Nat) → Nat → Int32 → Prop := fun s L i s' => zpick L x i ∧ ∃ j, zcost (zln L i) (zps L L.length) j ∧ s' = s + nI j
def zSyW (x : Nat) : zEs → List (Nat × Nat) → Nat → zEs → Prop := fun e L i e' => zpick L x i ∧ e' = ztake e (zps L i) (zln L i) (zps L L.length)
def zSyR (g : Nat → Int32) (kk : Nat) : zEs × Nat × Nat → List (Nat × Nat) → Nat → zEs × Nat × Nat → Prop := fun s L i s' => i < L.length ∧ zps L i ≤ ((s.2.1 - s.1.2.2.1 + 1) * zps L L.length - 1) / (s.1.2.2.2.1 - s.1.2.2.1 + 1) ∧ ((s.2.1 - s.1.2.2.1 + 1) * zps L L.length - 1) / (s.1.2.2.2.1 - s.1.2.2.1 + 1) < zps L (i + 1) ∧ s' = (ztake s.1 (zps L i) (zln L i) (zps L L.length), zrnum (zbn g kk) 16 (znar s.1 (zps L i) (zln L i) (zps L L.length)).2.2.1 (znar s.1 (zps L i) (zln L i) (zps L L.length)).2.2.2.1 s.2.1 s.2.2)
def zfi : Option Nat → Int32
  | none => -1
  | some k => nI k
/-- what every list of choices keeps -/
def zLok (L : List (Nat × Nat)) : Prop := 0 < L.length ∧ L.length ≤ 257 ∧ (∀ i, i < L.length → zsg L i ≤ 257 ∧ 0 < zln L i) ∧ zps L L.length ≤ 556 ∧ 0 < zps L L.length
theorem zget {L : List (Nat × Nat)} {P : Nat × Nat → Prop} (h : ∀ q, q ∈ L → P q) {i : Nat} (hi : i < L.length) : P (zsg L i, zln L i) := by
  have := h L[i] (List.getElem_mem hi)
  simpa [zsg, zln, List.getD_eq_getElem?_getD, hi] using this
theorem zps_sum (L : List (Nat × Nat)) : zps L L.length = (L.map Prod.snd).sum := by simp [zps]
theorem zoff_mem {byt cnt : Nat → Nat} {E : Nat → Bool} {l : List Nat} {q : Nat × Nat} (h : q ∈ zoff byt cnt E l) : ∃ c, c ∈ l ∧ q = (byt c, cnt c) ∧ E (byt c) = false := by
  induction l with
  | nil => simp [zoff] at h
  | cons d r ih =>
    simp only [zoff] at h
    split at h
    · obtain ⟨c, h1, h2⟩ := ih h
      exact ⟨c, List.mem_cons_of_mem _ h1, h2⟩
    · rename_i hE
      rcases List.mem_cons.mp h with rfl | h
      · exact ⟨d, List.mem_cons_self, rfl, by simpa using hE⟩
      · obtain ⟨c, h1, h2⟩ := ih h
        exact ⟨c, List.mem_cons_of_mem _ h1, h2⟩
theorem zoff_sum (byt cnt : Nat → Nat) (E : Nat → Bool) (l : List Nat) : ((zoff byt cnt E l).map Prod.snd).sum ≤ zsum cnt l := by
  induction l with
  | nil => simp [zoff, zsum]
  | cons d r ih =>
    simp only [zoff, zsum]
    split
    · omega
    · simp only [List.map_cons, List.sum_cons]; omega
theorem zoff_ok {T : zTree} {ch : Nat → List Nat} (H : zTok T ch) (hs : zSb T ch) {p : Nat} (hp : p < T.1) (E : Nat → Bool) (hne : zoff T.2.2.1 T.2.2.2 E (ch p) ≠ []) : zLok (zoff T.2.2.1 T.2.2.2 E (ch p) ++ [(257, (zoff T.2.2.1 T.2.2.2 E (ch p)).length)]) ∧ (∀ i, i < (zoff T.2.2.1 T.2.2.2 E (ch p)).length → zsg (zoff T.2.2.1 T.2.2.2 E (ch p) ++ [(257, (zoff T.2.2.1 T.2.2.2 E (ch p)).length)]) i < 256) ∧ (zoff T.2.2.1 T.2.2.2 E (ch p)).length ≤ 256 := by
  have hlen := zoff_len T.2.2.1 T.2.2.2 E (ch p)
  have hsum := zoff_sum T.2.2.1 T.2.2.2 E (ch p)
  have hl := zlen256 (H.2.1 p hp).2 (fun d hd => (H.2.2.2 d (H.2.2.1 p d hp hd).1 (H.2.2.1 p d hp hd).2.1).2.2.1)
  have hb := hs p hp
  have hm : ∀ q, q ∈ zoff T.2.2.1 T.2.2.2 E (ch p) → q.1 < 256 ∧ 0 < q.2 := fun q hq => by
    obtain ⟨c, h1, rfl, -⟩ := zoff_mem hq
    have := H.2.2.2 c (H.2.2.1 p c hp h1).1 (H.2.2.1 p c hp h1).2.1
    exact ⟨this.2.2.1, this.2.2.2⟩
  generalize zoff T.2.2.1 T.2.2.2 E (ch p) = L at hne hlen hsum hm ⊢
  have hpos : 0 < L.length := List.length_pos_iff.mpr hne
  refine ⟨⟨by simp, by simp; omega, fun i hi => ?_, ?_, ?_⟩, fun i hi => ?_, by omega⟩
  · have := zget (L := L ++ [(257, L.length)]) (P := fun q => q.1 ≤ 257 ∧ 0 < q.2) (fun q hq => by
      rcases List.mem_append.mp hq with z | z
      · have := hm q z; exact ⟨by omega, this.2⟩
      · rw [List.mem_singleton.mp z]; exact ⟨Nat.le_refl _, hpos⟩) hi
    exact this
  · rw [zps_sum]; simp; omega
  · rw [zps_sum]; simp; omega
  · rw [zsg_app hi]
    exact (zget (P := fun q => q.1 < 256) (fun q hq => (hm q hq).1) hi)
theorem zflat_mem {E : Nat → Bool} : ∀ {d s : Nat} {q : Nat × Nat}, q ∈ zflat E d s → s ≤ q.1 ∧ q.1 < s + d ∧ q.2 = 1 ∧ E q.1 = false
  | 0, _, _, h => by simp [zflat] at h
  | d + 1, s, q, h => by
    simp only [zflat] at h
    split at h
    · have := zflat_mem h; exact ⟨by omega, by omega, this.2.2.1, this.2.2.2⟩
    · rename_i hE
      rcases List.mem_cons.mp h with rfl | h
      · exact ⟨Nat.le_refl _, by simp only; omega, rfl, by simpa using hE⟩
      · have := zflat_mem h; exact ⟨by omega, by omega, this.2.2.1, this.2.2.2⟩
theorem zflat_has {E : Nat → Bool} : ∀ {d s x : Nat}, s ≤ x → x < s + d → E x = false → (x, 1) ∈ zflat E d s
  | 0, s, x, h1, h2, _ => by omega
  | d + 1, s, x, h1, h2, h3 => by
    simp only [zflat]
    by_cases e : x = s
    · subst e; rw [if_neg (by rw [h3]; simp)]; exact List.mem_cons_self
    · have := zflat_has (E := E) (d := d) (s := s + 1) (x := x) (by omega) (by omega) h3
      split
      · exact this
      · exact List.mem_cons_of_mem _ this
theorem zflat_sum (E : Nat → Bool) : ∀ d s, ((zflat E d s).map Prod.snd).sum = (zflat E d s).length
  | 0, _ => rfl
  | d + 1, s => by
    have := zflat_sum E d (s + 1)
    simp only [zflat]
    split
    · exact this
    · simp only [List.map_cons, List.sum_cons, List.length_cons]; omega
theorem zflat_ok {E : Nat → Bool} (h : E 256 = false) : zLok (zflat E 257 0) := by
  have hm := zflat_has (E := E) (d := 257) (s := 0) (x := 256) (by omega) (by omega) h
  have hl := zflat_len E 257 0
  have hpos : 0 < (zflat E 257 0).length := List.length_pos_of_mem hm
  refine ⟨hpos, hl, fun i hi => ?_, by rw [zps_sum, zflat_sum]; omega, by rw [zps_sum, zflat_sum]; exact hpos⟩
  exact zget (P := fun q => q.1 ≤ 257 ∧ 0 < q.2) (fun q hq => by have := zflat_mem hq; exact ⟨by omega, by omega⟩) hi
theorem zrnum_ok {bs : Nat → Nat} (hb : ∀ p, bs p ≤ 1) : ∀ (d : Nat) (e : zEs) (num tak : Nat), e.2.2.1 ≤ num → num ≤ e.2.2.2.1 → e.2.2.2.1 < 65536 → (zren d e).2.2.1 ≤ (zrnum bs d e.2.2.1 e.2.2.2.1 num tak).1 ∧ (zrnum bs d e.2.2.1 e.2.2.2.1 num tak).1 ≤ (zren d e).2.2.2.1 ∧ (zrnum bs d e.2.2.1 e.2.2.2.1 num tak).2 ≤ tak + d := by
  intro d
  induction d with
  | zero => intro e num tak h1 h2 h3; exact ⟨h1, h2, Nat.le_refl _⟩
  | succ d ih =>
    intro e num tak h1 h2 h3
    cases hs : zset e.2.2.1 e.2.2.2.1 with
    | none => rw [zren_none hs, zrnum_none hs]; exact ⟨h1, h2, by simp only; omega⟩
    | some g =>
      rw [zren_some hs, zrnum_some hs]
      obtain ⟨b1, b2, b3, b4, b5⟩ := zset_w hs (by omega) h3
      obtain ⟨p1, p2, p3⟩ := zshift_p e g
      have hbt := hb tak
      have := ih (zshift e g) (2 * (num - g) + bs tak) (tak + 1) (by rw [p2]; omega) (by rw [p3]; omega) (by rw [p3]; exact b4)
      rw [p2, p3] at this
      exact ⟨this.1, this.2.1, by omega⟩
theorem zexc_hi {E : Nat → Bool} {L : List (Nat × Nat)} {s : Nat} (hE : E s = false) : ∀ i, (∀ j, j < i → zsg L j ≠ s) → zexc E L i s = false
  | 0, _ => hE
  | i + 1, h => by
    simp only [zexc, zexc_hi hE i (fun j hj => h j (by omega)), Bool.false_or, decide_eq_false_iff_not]
    exact fun z => h i (by omega) z.symm

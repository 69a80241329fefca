/-! sums over numbers, and lists of choices seen by their signs -/
def zsm (f : Nat → Nat) : Nat → Nat
  | 0 => 0
  | i + 1 => zsm f i + f i
theorem zsm_congr {f g : Nat → Nat} : ∀ {n : Nat}, (∀ i, i < n → f i = g i) → zsm f n = zsm g n
  | 0, _ => rfl
  | n + 1, h => by
    simp only [zsm]
    rw [zsm_congr (fun i hi => h i (by omega)), h n (by omega)]
theorem zsm_add (f g : Nat → Nat) : ∀ n, zsm (fun i => f i + g i) n = zsm f n + zsm g n
  | 0 => rfl
  | n + 1 => by simp only [zsm, zsm_add f g n]; omega
theorem zsm_zero : ∀ n, zsm (fun _ => 0) n = 0
  | 0 => rfl
  | n + 1 => by simp only [zsm, zsm_zero n]
theorem zsm_one (x c : Nat) : ∀ n, zsm (fun i => if i = c then x else 0) n = if c < n then x else 0
  | 0 => rfl
  | n + 1 => by
    simp only [zsm, zsm_one x c n]
    by_cases h : n = c
    · subst h; simp
    · rw [if_neg h]
      by_cases h2 : c < n
      · rw [if_pos h2, if_pos (by omega)]; rfl
      · rw [if_neg h2, if_neg (by omega)]
theorem zsm_le {f g : Nat → Nat} : ∀ {n : Nat}, (∀ i, i < n → f i ≤ g i) → zsm f n ≤ zsm g n
  | 0, _ => Nat.le_refl _
  | n + 1, h => by
    simp only [zsm]
    exact Nat.add_le_add (zsm_le (fun i hi => h i (by omega))) (h n (by omega))
theorem zsm_mono (f : Nat → Nat) {a b : Nat} (h : a ≤ b) : zsm f a ≤ zsm f b := by
  induction b with
  | zero => rw [show a = 0 by omega]; exact Nat.le_refl _
  | succ b ih =>
    rcases Nat.eq_or_lt_of_le h with e | e
    · rw [e]; exact Nat.le_refl _
    · have := ih (by omega); simp only [zsm]; omega
theorem zsm_const (x : Nat) : ∀ n, zsm (fun _ => x) n = n * x
  | 0 => by simp [zsm]
  | n + 1 => by simp only [zsm, zsm_const x n, Nat.add_mul, Nat.one_mul]
theorem zsm_list {f : Nat → Nat} {n : Nat} : ∀ {l : List Nat}, l.Nodup → (∀ c, c ∈ l → c < n) → zsum f l = zsm (fun c => if c ∈ l then f c else 0) n
  | [], _, _ => by
    simp only [zsum, List.not_mem_nil, if_false]
    exact (zsm_zero n).symm
  | c :: r, hd, hl => by
    have h1 := List.nodup_cons.mp hd
    simp only [zsum]
    rw [zsm_list h1.2 (fun x hx => hl x (List.mem_cons_of_mem _ hx))]
    have h2 := zsm_one (f c) c n
    rw [if_pos (hl c List.mem_cons_self)] at h2
    rw [← h2, ← zsm_add]
    refine zsm_congr (fun i hi => ?_)
    by_cases e : i = c
    · subst e; simp [h1.1]
    · simp [e]
theorem znd_byt {byt : Nat → Nat} {l : List Nat} (h : l.Pairwise (fun c d => byt c < byt d)) : l.Nodup :=
  h.imp (fun {a b} hab e => by rw [e] at hab; exact Nat.lt_irrefl _ hab)
theorem zch_mem {T : zTree} {ch : Nat → List Nat} (H : zTok T ch) {p c : Nat} (hp : p < T.1) : c ∈ ch p ↔ (1 ≤ c ∧ c < T.1 ∧ T.2.1 c = p) := by
  constructor
  · exact fun h => H.2.2.1 p c hp h
  · rintro ⟨h1, h2, rfl⟩
    exact (H.2.2.2 c h1 h2).2.1
theorem zch_sum {T : zTree} {ch : Nat → List Nat} (H : zTok T ch) {p : Nat} (hp : p < T.1) (f : Nat → Nat) : zsum f (ch p) = zsm (fun c => if 1 ≤ c ∧ T.2.1 c = p then f c else 0) T.1 := by
  rw [zsm_list (n := T.1) (znd_byt (H.2.1 p hp).2) (fun c hc => (H.2.2.1 p c hp hc).2.1)]
  refine zsm_congr (fun c hc => ?_)
  by_cases h : c ∈ ch p
  · have := (zch_mem H hp).mp h
    rw [if_pos h, if_pos ⟨this.1, this.2.2⟩]
  · rw [if_neg h, if_neg (fun z => h ((zch_mem H hp).mpr ⟨z.1, hc, z.2⟩))]
theorem zoff_sumE (byt cnt : Nat → Nat) (E : Nat → Bool) (l : List Nat) : zps (zoff byt cnt E l) (zoff byt cnt E l).length = zsum (fun c => if E (byt c) = true then 0 else cnt c) l := by
  rw [zps_sum]
  induction l with
  | nil => rfl
  | cons d r ih =>
    simp only [zoff, zsum]
    split
    · rw [ih]; omega
    · simp only [List.map_cons, List.sum_cons, ih]
theorem zoff_lenE (byt cnt : Nat → Nat) (E : Nat → Bool) (l : List Nat) : (zoff byt cnt E l).length = zsum (fun c => if E (byt c) = true then 0 else 1) l := by
  induction l with
  | nil => rfl
  | cons d r ih =>
    simp only [zoff, zsum]
    split
    · rw [ih]; omega
    · simp only [List.length_cons, ih]; omega
/-- the length of a sign's span, 0 if it isn't there -/
def zlc : List (Nat × Nat) → Nat → Nat
  | [], _ => 0
  | q :: r, b => if q.1 = b then q.2 else zlc r b
def zSrt (L : List (Nat × Nat)) : Prop := L.Pairwise (fun q r => q.1 < r.1)
theorem zoff_srt {byt cnt : Nat → Nat} {E : Nat → Bool} {l : List Nat} (h : l.Pairwise (fun c d => byt c < byt d)) : zSrt (zoff byt cnt E l) := by
  induction l with
  | nil => exact List.Pairwise.nil
  | cons d r ih =>
    have h1 := List.pairwise_cons.mp h
    simp only [zoff]
    split
    · exact ih h1.2
    · refine List.pairwise_cons.mpr ⟨fun q hq => ?_, ih h1.2⟩
      obtain ⟨c, g1, g2, -⟩ := zoff_mem hq
      rw [g2]; exact h1.1 c g1
theorem zlc_not {L : List (Nat × Nat)} {b : Nat} (h : ∀ q, q ∈ L → q.1 ≠ b) : zlc L b = 0 := by
  induction L with
  | nil => rfl
  | cons q r ih =>
    simp only [zlc]
    rw [if_neg (h q List.mem_cons_self)]
    exact ih (fun x hx => h x (List.mem_cons_of_mem _ hx))
theorem zlc_mem {L : List (Nat × Nat)} (hs : zSrt L) {q : Nat × Nat} (h : q ∈ L) : zlc L q.1 = q.2 := by
  induction L with
  | nil => simp at h
  | cons d r ih =>
    have h1 := List.pairwise_cons.mp hs
    simp only [zlc]
    rcases List.mem_cons.mp h with rfl | h
    · rw [if_pos rfl]
    · rw [if_neg (fun e => by have := h1.1 q h; omega)]
      exact ih h1.2 h
theorem zsg_mem {L : List (Nat × Nat)} {i : Nat} (h : i < L.length) : (zsg L i, zln L i) ∈ L := by
  have := List.getElem_mem h
  have e : (zsg L i, zln L i) = L[i] := by simp [zsg, zln, List.getD_eq_getElem?_getD, h]
  rw [e]; exact this
theorem zmem_ix {L : List (Nat × Nat)} {q : Nat × Nat} (h : q ∈ L) : ∃ i, i < L.length ∧ zsg L i = q.1 ∧ zln L i = q.2 := by
  obtain ⟨i, hi, e⟩ := List.mem_iff_getElem.mp h
  refine ⟨i, hi, ?_, ?_⟩ <;> simp [zsg, zln, List.getD_eq_getElem?_getD, hi, e]
theorem zsg_cons0 (q : Nat × Nat) (r : List (Nat × Nat)) : zsg (q :: r) 0 = q.1 := by simp [zsg]
theorem zsg_cons (q : Nat × Nat) (r : List (Nat × Nat)) (i : Nat) : zsg (q :: r) (i + 1) = zsg r i := by simp [zsg]
theorem zln_cons0 (q : Nat × Nat) (r : List (Nat × Nat)) : zln (q :: r) 0 = q.2 := by simp [zln]
theorem zln_cons (q : Nat × Nat) (r : List (Nat × Nat)) (i : Nat) : zln (q :: r) (i + 1) = zln r i := by simp [zln]
theorem zps_cons (q : Nat × Nat) (r : List (Nat × Nat)) (i : Nat) : zps (q :: r) (i + 1) = q.2 + zps r i := by simp [zps]
theorem zln_app {L : List (Nat × Nat)} {p : Nat × Nat} {i : Nat} (h : i < L.length) : zln (L ++ [p]) i = zln L i := by
  simp [zln, List.getD_eq_getElem?_getD, List.getElem?_append_left h]
theorem zln_last (L : List (Nat × Nat)) (p : Nat × Nat) : zln (L ++ [p]) L.length = p.2 := by
  simp [zln, List.getD_eq_getElem?_getD]
/-- what lies below a sign -/
theorem zsm_ct {L : List (Nat × Nat)} (hs : zSrt L) (b : Nat) : zsm (zlc L) b = ((L.filter (fun q => decide (q.1 < b))).map Prod.snd).sum := by
  induction L with
  | nil => simp only [List.filter_nil, List.map_nil, List.sum_nil]; exact zsm_zero b
  | cons q r ih =>
    have h1 := List.pairwise_cons.mp hs
    have e : zsm (zlc (q :: r)) b = zsm (fun i => if i = q.1 then q.2 else 0) b + zsm (zlc r) b := by
      rw [← zsm_add]
      refine zsm_congr (fun i _ => ?_)
      simp only [zlc]
      by_cases h : q.1 = i
      · subst h
        rw [if_pos rfl, if_pos rfl, zlc_not (fun x hx => by have := h1.1 x hx; omega)]; rfl
      · rw [if_neg h, if_neg (Ne.symm h)]; omega
    rw [e, zsm_one, ih h1.2, List.filter_cons]
    by_cases h : q.1 < b
    · simp [h]
    · simp [h]
theorem zsm_ps {L : List (Nat × Nat)} (hs : zSrt L) : ∀ {i : Nat}, i < L.length → zsm (zlc L) (zsg L i) = zps L i := by
  induction L with
  | nil => intro i hi; simp at hi
  | cons q r ih =>
    intro i hi
    have h1 := List.pairwise_cons.mp hs
    rw [zsm_ct hs]
    rcases i with _ | i
    · rw [zsg_cons0, zps_0, List.filter_eq_nil_iff.mpr (fun x hx => by
        rcases List.mem_cons.mp hx with rfl | hx
        · simp
        · have := h1.1 x hx; simp; omega)]
      rfl
    · have hi' : i < r.length := by simpa using hi
      have hq := h1.1 _ (zsg_mem hi')
      rw [zsg_cons, List.filter_cons, if_pos (by simpa using hq), List.map_cons, List.sum_cons, zps_cons, ← zsm_ct h1.2, ih h1.2 hi']
theorem zsm_all {L : List (Nat × Nat)} (hs : zSrt L) {N : Nat} (hb : ∀ q, q ∈ L → q.1 < N) : zsm (zlc L) N = zps L L.length := by
  rw [zsm_ct hs, List.filter_eq_self.mpr (fun q hq => by simpa using hb q hq), zps_sum]
theorem zsm_cnt {L : List (Nat × Nat)} (hs : zSrt L) {N : Nat} (hb : ∀ q, q ∈ L → q.1 < N ∧ 0 < q.2) : zsm (fun b => if 0 < zlc L b then 1 else 0) N = L.length := by
  induction L with
  | nil => simp only [zlc, Nat.lt_irrefl, if_false]; exact zsm_zero N
  | cons q r ih =>
    have h1 := List.pairwise_cons.mp hs
    have e : zsm (fun b => if 0 < zlc (q :: r) b then 1 else 0) N = zsm (fun i => if i = q.1 then 1 else 0) N + zsm (fun b => if 0 < zlc r b then 1 else 0) N := by
      rw [← zsm_add]
      refine zsm_congr (fun i _ => ?_)
      by_cases h : q.1 = i
      · have e1 : zlc (q :: r) i = q.2 := by simp only [zlc]; rw [if_pos h]
        rw [e1, zlc_not (L := r) (fun x hx => by have := h1.1 x hx; omega), if_pos (hb q List.mem_cons_self).2, if_pos h.symm]; rfl
      · have e1 : zlc (q :: r) i = zlc r i := by simp only [zlc]; rw [if_neg h]
        rw [e1, if_neg (Ne.symm h)]; omega
    rw [e, zsm_one, if_pos (hb q List.mem_cons_self).1, ih h1.2 (fun x hx => hb x (List.mem_cons_of_mem _ hx)), List.length_cons]
    omega
theorem zlc_pos {L : List (Nat × Nat)} (hs : zSrt L) (hb : ∀ q, q ∈ L → 0 < q.2) {b : Nat} : 0 < zlc L b ↔ ∃ i, i < L.length ∧ zsg L i = b := by
  constructor
  · intro h
    by_cases e : ∃ q, q ∈ L ∧ q.1 = b
    · obtain ⟨q, h1, h2⟩ := e
      obtain ⟨i, hi, g1, -⟩ := zmem_ix h1
      exact ⟨i, hi, g1.trans h2⟩
    · rw [zlc_not (fun q hq z => e ⟨q, hq, z⟩)] at h
      omega
  · rintro ⟨i, hi, rfl⟩
    have := zlc_mem hs (zsg_mem hi)
    rw [this]
    exact hb _ (zsg_mem hi)
theorem zlc_ln {L : List (Nat × Nat)} (hs : zSrt L) {i : Nat} (hi : i < L.length) : zlc L (zsg L i) = zln L i := zlc_mem hs (zsg_mem hi)
theorem zexc_iff (E : Nat → Bool) (L : List (Nat × Nat)) : ∀ (k b : Nat), zexc E L k b = true ↔ (E b = true ∨ ∃ i, i < k ∧ zsg L i = b)
  | 0, b => by simp [zexc]
  | k + 1, b => by
    simp only [zexc, Bool.or_eq_true, decide_eq_true_eq]
    rw [zexc_iff E L k b]
    constructor
    · rintro ((h | ⟨i, h1, h2⟩) | h)
      · exact Or.inl h
      · exact Or.inr ⟨i, by omega, h2⟩
      · exact Or.inr ⟨k, by omega, h.symm⟩
    · rintro (h | ⟨i, h1, h2⟩)
      · exact Or.inl (Or.inl h)
      · by_cases e : i = k
        · subst e; exact Or.inr h2.symm
        · exact Or.inl (Or.inr ⟨i, by omega, h2⟩)
theorem zexc_ct {E : Nat → Bool} {L : List (Nat × Nat)} (hs : zSrt L) (hb : ∀ q, q ∈ L → 0 < q.2) (p : Nat × Nat) (b : Nat) : zexc E (L ++ [p]) L.length b = (E b || decide (0 < zlc L b)) := by
  have h : zexc E (L ++ [p]) L.length b = true ↔ (E b || decide (0 < zlc L b)) = true := by
    rw [zexc_iff, Bool.or_eq_true, decide_eq_true_eq, zlc_pos hs hb]
    constructor
    · rintro (h | ⟨i, h1, h2⟩)
      · exact Or.inl h
      · exact Or.inr ⟨i, h1, by rw [← h2, zsg_app h1]⟩
    · rintro (h | ⟨i, h1, h2⟩)
      · exact Or.inl h
      · exact Or.inr ⟨i, h1, by rw [zsg_app h1, h2]⟩
  cases hA : zexc E (L ++ [p]) L.length b <;> cases hB : (E b || decide (0 < zlc L b)) <;> simp [hA, hB] at h ⊢
/-- how many are excluded below a sign -/
def zcard (E : Nat → Bool) (n : Nat) : Nat := zsm (fun b => if E b = true then 1 else 0) n
theorem zflat_srt {E : Nat → Bool} : ∀ {d s : Nat}, zSrt (zflat E d s)
  | 0, _ => List.Pairwise.nil
  | d + 1, s => by
    simp only [zflat]
    split
    · exact zflat_srt
    · refine List.pairwise_cons.mpr ⟨fun q hq => ?_, zflat_srt⟩
      have := (zflat_mem hq).1
      show s < q.1
      omega
theorem zflat_ln {E : Nat → Bool} {d s i : Nat} (h : i < (zflat E d s).length) : zln (zflat E d s) i = 1 := (zflat_mem (zsg_mem h)).2.2.1
theorem zflat_ps {E : Nat → Bool} {d s : Nat} : ∀ {i : Nat}, i ≤ (zflat E d s).length → zps (zflat E d s) i = i
  | 0, _ => zps_0 _
  | i + 1, h => by rw [zps_succ (by omega), zflat_ln (by omega), zflat_ps (by omega)]
theorem zflat_ct {E : Nat → Bool} {b : Nat} (h : b < 257) : zlc (zflat E 257 0) b = if E b = true then 0 else 1 := by
  by_cases e : E b = true
  · rw [if_pos e, zlc_not (fun q hq z => by have := (zflat_mem hq).2.2.2; rw [z, e] at this; cases this)]
  · rw [if_neg e]
    exact zlc_mem zflat_srt (zflat_has (Nat.zero_le b) (by omega) (by simpa using e))
/-- the flat list's sign at i has i signs below it -/
theorem zflat_below {E : Nat → Bool} {i : Nat} (h : i < (zflat E 257 0).length) : zsm (fun b => if E b = true then 0 else 1) (zsg (zflat E 257 0) i) = i := by
  have h1 := zsm_ps (zflat_srt (E := E) (d := 257) (s := 0)) h
  rw [zflat_ps (by omega)] at h1
  have := (zflat_mem (zsg_mem h)).2.1
  dsimp only at this
  exact (zsm_congr (fun b hb => (zflat_ct (E := E) (b := b) (by omega)).symm)).trans h1
theorem zflat_len2 {E : Nat → Bool} : (zflat E 257 0).length + zcard E 257 = 257 := by
  have h1 := zsm_all (zflat_srt (E := E) (d := 257) (s := 0)) (N := 257) (fun q hq => by have := (zflat_mem hq).2.1; omega)
  rw [zflat_ps (Nat.le_refl _)] at h1
  rw [← h1, zsm_congr (g := fun b => if E b = true then 0 else 1) (fun b hb => zflat_ct hb), zcard, ← zsm_add, zsm_congr (g := fun _ => 1) (fun b _ => by split <;> rfl), zsm_const]
/-- more is excluded -/
theorem zcard_exc {E : Nat → Bool} {L : List (Nat × Nat)} (hs : zSrt L) (hb : ∀ q, q ∈ L → q.1 < 256 ∧ 0 < q.2 ∧ E q.1 = false) (p : Nat × Nat) : zcard (zexc E (L ++ [p]) L.length) 257 = zcard E 257 + L.length := by
  have h1 := zsm_cnt hs (N := 257) (fun q hq => ⟨by have := (hb q hq).1; omega, (hb q hq).2.1⟩)
  unfold zcard
  have h2 : ∀ n, n = L.length → zsm (fun b => if zexc E (L ++ [p]) n b = true then 1 else 0) 257 = zsm (fun b => if E b = true then 1 else 0) 257 + zsm (fun b => if 0 < zlc L b then 1 else 0) 257 → zsm (fun b => if zexc E (L ++ [p]) n b = true then 1 else 0) 257 = zsm (fun b => if E b = true then 1 else 0) 257 + L.length := fun n hn q => by rw [q, h1]
  refine h2 _ rfl ?_
  rw [← zsm_add]
  refine zsm_congr (fun b _ => ?_)
  rw [zexc_ct hs (fun q hq => (hb q hq).2.1)]
  by_cases h : 0 < zlc L b
  · obtain ⟨i, hi, e⟩ := (zlc_pos hs (fun q hq => (hb q hq).2.1)).mp h
    have := (hb _ (zsg_mem hi)).2.2
    rw [e] at this
    simp [h, this]
  · simp [h]

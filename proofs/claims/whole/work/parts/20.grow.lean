/-! Model: a child grows -/
def zgT (T : zTree) (p0 b0 : Nat) : zTree := (T.1 + 1, va_up T.2.1 T.1 p0, va_up T.2.2.1 T.1 b0, va_up T.2.2.2 T.1 1)
def zgC (ch : Nat → List Nat) (nm p0 : Nat) (l : List Nat) : Nat → List Nat := va_up (va_up ch nm []) p0 l
theorem zpw_mono {byt byt' : Nat → Nat} {l : List Nat} (h : l.Pairwise (fun c d => byt c < byt d)) (e : ∀ c, c ∈ l → byt' c = byt c) : l.Pairwise (fun c d => byt' c < byt' d) := by
  induction l with
  | nil => exact List.Pairwise.nil
  | cons d r ih =>
    have h1 := List.pairwise_cons.mp h
    refine List.pairwise_cons.mpr ⟨fun c hc => ?_, ih h1.2 (fun c hc => e c (List.mem_cons_of_mem _ hc))⟩
    rw [e d List.mem_cons_self, e c (List.mem_cons_of_mem _ hc)]
    exact h1.1 c hc
theorem zgTok {T : zTree} {ch : Nat → List Nat} {p0 b0 : Nat} {pre r : List Nat} (H : zTok T ch) (hp : p0 < T.1) (hb : b0 < 256) (e : ch p0 = pre ++ r) (h1 : ∀ c, c ∈ pre → T.2.2.1 c < b0) (h2 : ∀ c, c ∈ r → b0 < T.2.2.1 c) : zTok (zgT T p0 b0) (zgC ch T.1 p0 (pre ++ T.1 :: r)) := by
  obtain ⟨nm, par, byt, cnt⟩ := T
  obtain ⟨t1, t2, t3, t4⟩ := H
  dsimp only at hp h1 h2 t1 t2 t3 t4
  have hne : nm ≠ p0 := by omega
  have mem : ∀ c, c ∈ pre ++ r → c < nm := fun c hc => (t3 p0 c hp (by rw [e]; exact hc)).2.1
  simp only [zTok, zgT, zgC]
  refine ⟨by omega, fun q hq => ?_, fun q c hq hc => ?_, fun c g1 g2 => ?_⟩
  · by_cases hqp : q = p0
    · subst hqp
      rw [va_up_self]
      have hl := (t2 q hp).1
      have hw := (t2 q hp).2
      rw [e] at hl hw
      simp only [List.length_append] at hl
      refine ⟨by simp only [List.length_append, List.length_cons]; omega, ?_⟩
      rw [List.pairwise_append] at hw ⊢
      obtain ⟨p1, p2, p3⟩ := hw
      have up : ∀ c, c ∈ pre ++ r → va_up byt nm b0 c = byt c := fun c hc => va_up_ne _ _ (by have := mem c hc; omega)
      refine ⟨zpw_mono p1 (fun c hc => up c (List.mem_append_left _ hc)), List.pairwise_cons.mpr ⟨fun c hc => ?_, zpw_mono p2 (fun c hc => up c (List.mem_append_right _ hc))⟩, fun c hc d hd => ?_⟩
      · rw [va_up_self, up c (List.mem_append_right _ hc)]; exact h2 c hc
      · rw [up c (List.mem_append_left _ hc)]
        rcases List.mem_cons.mp hd with rfl | hd
        · rw [va_up_self]; exact h1 c hc
        · rw [up d (List.mem_append_right _ hd)]; exact p3 c hc d hd
    · rw [va_up_ne _ _ hqp]
      by_cases hqn : q = nm
      · subst hqn
        rw [va_up_self]
        exact ⟨by simp, List.Pairwise.nil⟩
      · rw [va_up_ne _ _ hqn]
        have hq2 : q < nm := by omega
        refine ⟨by have := (t2 q hq2).1; omega, zpw_mono (t2 q hq2).2 (fun c hc => va_up_ne _ _ (by have := (t3 q c hq2 hc).2.1; omega))⟩
  · by_cases hqp : q = p0
    · subst hqp
      rw [va_up_self] at hc
      by_cases hcn : c = nm
      · subst hcn
        exact ⟨t1, by omega, va_up_self _ _ _⟩
      · have hc2 : c ∈ ch q := by
          rw [e]
          rcases List.mem_append.mp hc with z | z
          · exact List.mem_append_left _ z
          · rcases List.mem_cons.mp z with z | z
            · exact absurd z hcn
            · exact List.mem_append_right _ z
        have := t3 q c hp hc2
        exact ⟨this.1, by omega, by rw [va_up_ne _ _ hcn]; exact this.2.2⟩
    · rw [va_up_ne _ _ hqp] at hc
      by_cases hqn : q = nm
      · subst hqn
        rw [va_up_self] at hc
        exact absurd hc List.not_mem_nil
      · rw [va_up_ne _ _ hqn] at hc
        have := t3 q c (by omega) hc
        exact ⟨this.1, by omega, by rw [va_up_ne _ _ (by omega)]; exact this.2.2⟩
  · by_cases hcn : c = nm
    · subst hcn
      rw [va_up_self, va_up_self, va_up_self, va_up_self]
      exact ⟨hp, by simp, hb, Nat.le_refl _⟩
    · rw [va_up_ne _ _ hcn, va_up_ne _ _ hcn, va_up_ne _ _ hcn]
      have h4 := t4 c g1 (by omega)
      refine ⟨h4.1, ?_, h4.2.2.1, h4.2.2.2⟩
      by_cases hpp : par c = p0
      · rw [hpp, va_up_self]
        have := h4.2.1
        rw [hpp, e] at this
        rcases List.mem_append.mp this with z | z
        · exact List.mem_append_left _ z
        · exact List.mem_append_right _ (List.mem_cons_of_mem _ z)
      · rw [va_up_ne _ _ hpp, va_up_ne _ _ (by have := h4.1; omega)]
        exact h4.2.1
theorem zlink_ins {X X' : Nat → Int32} {nm d : Nat} {r : List Nat} (hn : X' nm = zhd r) (hr : ∀ c, c ∈ r → X' c = X c) (hd : X' d = nI nm) : ∀ pre : List Nat, zlink X (pre ++ [d] ++ r) → (∀ c, c ∈ pre → X' c = X c) → zlink X' (pre ++ [d] ++ nm :: r)
  | [], h, _ => ⟨hd, hn, zlink_mono h.2 hr⟩
  | e :: pre, h, hp => by
    refine ⟨?_, zlink_ins hn hr hd pre h.2 (fun c hc => hp c (List.mem_cons_of_mem _ hc))⟩
    rw [hp e List.mem_cons_self, h.1]
    cases pre with
    | nil => rfl
    | cons => rfl
def zls (l : List Nat) : Int32 := match l.getLast? with
  | none => -1
  | some c => nI c
theorem zls_app (l : List Nat) (d : Nat) : zls (l ++ [d]) = nI d := by simp [zls]
theorem zhd_app {pre : List Nat} {d : Nat} (r s : List Nat) : zhd (pre ++ [d] ++ r) = zhd (pre ++ [d] ++ s) := by
  cases pre <;> rfl
abbrev rX3_growChild : Room := ⟨2, 0, 0, 80⟩
def SX3_growChild (G : zC) : zS := fun as h n K => ∃ (m : zAm) (o rm : Nat) (T : zTree) (ch : Nat → List Nat) (lm : Nat) (lat ctx : Nat → Nat) (p0 b0 : Nat), as = [.ref m.1, .int (nI p0), .int (nI b0)] ∧ zMod G h m o rm T ch lm lat ctx ∧ p0 < T.1 ∧ T.1 < rm ∧ b0 < 256 ∧ (∀ c, c ∈ ch p0 → T.2.2.1 c ≠ b0) ∧ ∀ h' pre r, ch p0 = pre ++ r → zMod G h' m o rm (zgT T p0 b0) (zgC ch T.1 p0 (pre ++ T.1 :: r)) lm lat ctx → (∀ q, ¬ zaw m q → h' q = h q) → K none h' n
set_option maxRecDepth 100000 in
theorem tvX3_growChild {G : zC} {as : List Value} {h : zH} {n : Nat} {K : zP} (hs : SX3_growChild G as h n K) : (∃ b fs r, as = .ref b :: r ∧ h b = some (.inr (4, fs))) ∧ zCt G rX3_growChild mX3_growChild as h n K := by
  obtain ⟨⟨a, p, b, c, f, x, l, t⟩, o, rm, ⟨nm, par, byt, cnt⟩, ch, lm, lat, ctx, p0, b0, rfl, hM, hp0, hnm, hb0, hne, hK⟩ := hs
  have hM0 := hM
  obtain ⟨P, B, C, F, X, L, U, ⟨hk, hp, hb, hc, hf, hx, hl, hu, hdj, ho4, hr8, hr15, hnr, hlo⟩, ⟨t1, t2, t3, t4⟩, ⟨w1, w2, w3, w4, w5⟩, hL, hU⟩ := hM
  dsimp only at hk hp hb hc hf hx hl hu hdj hnr t1 t2 t3 t4 w1 w2 w3 w4 w5
  have hdj0 := hdj
  obtain ⟨⟨npb, npc, npf, npx, npl, npt⟩, ⟨nbc, nbf, nbx, nbl, nbt⟩, ⟨ncf, ncx, ncl, nct⟩, ⟨nfx, nfl, nft⟩, ⟨nxl, nxt⟩, nlt⟩ := hdj
  have nap : a ≠ p := fun q => by rw [q, hp] at hk; simp at hk
  have nab : a ≠ b := fun q => by rw [q, hb] at hk; simp at hk
  have nac : a ≠ c := fun q => by rw [q, hc] at hk; simp at hk
  have naf : a ≠ f := fun q => by rw [q, hf] at hk; simp at hk
  have nax : a ≠ x := fun q => by rw [q, hx] at hk; simp at hk
  have nal : a ≠ l := fun q => by rw [q, hl] at hk; simp at hk
  have nat : a ≠ t := fun q => by rw [q, hu] at hk; simp at hk
  refine ⟨⟨_, _, _, rfl, hk⟩, zCt.of (by decide) (Nat.le_of_ble_eq_true rfl) ?_⟩
  dsimp only at hp0 hnm hne hK
  have exit : ∀ (pre r : List Nat) (j : Int32), ch p0 = pre ++ r → (∀ c, c ∈ pre → byt c < b0) → (∀ c, c ∈ r → b0 < byt c) → zZ (zXm G rX3_growChild mX3_growChild [.ref a, .int (nI p0), .int (nI b0)] h n K) 53 [(0, .ref a), (1, .int (nI p0)), (2, .int (nI b0)), (3, .int (zls pre)), (4, .int (zhd r)), (5, .int j)] [] h n 0 0 := by
    intro pre r j he hb1 hb2
    have hzt := zgTok hM0.choose_spec.choose_spec.choose_spec.choose_spec.choose_spec.choose_spec.choose_spec.2.1 hp0 hb0 he hb1 hb2
    have hmem : ∀ c, c ∈ ch p0 → 1 ≤ c ∧ c < nm ∧ par c = p0 := fun c hc => t3 p0 c hp0 hc
    have hlk := w5 p0 hp0
    rw [he] at hlk hmem
    rcases List.eq_nil_or_concat pre with rfl | ⟨pre2, d, rfl⟩
    · refine z_aload_n dX3_growChild_53 rfl ?_
      refine z_getfield dX3_growChild_54 fX3_53_4 rfl (by first | assumption | exact zget_eq | exact zget_ne (by first | assumption | exact Ne.symm (by assumption) | omega) (by first | assumption | exact zget_eq | exact zget_ne (by first | assumption | exact Ne.symm (by assumption) | omega) (by first | assumption | exact zget_eq | exact zget_ne (by first | assumption | exact Ne.symm (by assumption) | omega) (by first | assumption | exact zget_eq)))) rfl ?_
      refine z_istore dX3_growChild_57 (Nat.le_of_ble_eq_true rfl) ?_
      refine z_aload_n dX3_growChild_59 rfl ?_
      refine z_getfield dX3_growChild_60 fX3_24_4 rfl (by first | assumption | exact zget_eq | exact zget_ne (by first | assumption | exact Ne.symm (by assumption) | omega) (by first | assumption | exact zget_eq | exact zget_ne (by first | assumption | exact Ne.symm (by assumption) | omega) (by first | assumption | exact zget_eq | exact zget_ne (by first | assumption | exact Ne.symm (by assumption) | omega) (by first | assumption | exact zget_eq)))) rfl ?_
      refine z_iload dX3_growChild_63 rfl ?_
      refine z_iload_n dX3_growChild_65 rfl ?_
      refine zcall3 (zck_SN (R' := rX10_put) (M' := mX10_put) (fun _ _ _ _ => tX10_put) kX10_put lX3_49 nX3_49 (by decide +kernel) rfl) dX3_growChild_66 (Nat.le_of_ble_eq_true rfl) (Nat.le_of_ble_eq_true rfl) (Nat.le_of_ble_eq_true rfl) ?_
      refine ⟨_, _, _, _, _, rfl, hp, (by omega), fun h1 e1 o1 => ?_⟩
      have k1 := (o1 a nap).trans hk
      rw [zpt_in (by omega) (by omega)] at e1
      refine z_aload_n dX3_growChild_69 rfl ?_
      refine z_getfield dX3_growChild_70 fX3_28_4 rfl (by first | assumption | exact zget_eq | exact zget_ne (by first | assumption | exact Ne.symm (by assumption) | omega) (by first | assumption | exact zget_eq | exact zget_ne (by first | assumption | exact Ne.symm (by assumption) | omega) (by first | assumption | exact zget_eq | exact zget_ne (by first | assumption | exact Ne.symm (by assumption) | omega) (by first | assumption | exact zget_eq)))) rfl ?_
      refine z_iload dX3_growChild_73 rfl ?_
      refine z_iload_n dX3_growChild_75 rfl ?_
      refine zcall3 (zck_SN (R' := rX10_put) (M' := mX10_put) (fun _ _ _ _ => tX10_put) kX10_put lX3_49 nX3_49 (by decide +kernel) rfl) dX3_growChild_76 (Nat.le_of_ble_eq_true rfl) (Nat.le_of_ble_eq_true rfl) (Nat.le_of_ble_eq_true rfl) ?_
      refine ⟨_, _, _, _, _, rfl, ((o1 b (Ne.symm npb)).trans hb), (by omega), fun h2 e2 o2 => ?_⟩
      have k2 := (o2 a nab).trans k1
      rw [zpt_in (by omega) (by omega)] at e2
      refine z_aload_n dX3_growChild_79 rfl ?_
      refine z_getfield dX3_growChild_80 fX3_31_4 rfl (by first | assumption | exact zget_eq | exact zget_ne (by first | assumption | exact Ne.symm (by assumption) | omega) (by first | assumption | exact zget_eq | exact zget_ne (by first | assumption | exact Ne.symm (by assumption) | omega) (by first | assumption | exact zget_eq | exact zget_ne (by first | assumption | exact Ne.symm (by assumption) | omega) (by first | assumption | exact zget_eq)))) rfl ?_
      refine z_iload dX3_growChild_83 rfl ?_
      refine z_iconst (w := 1) dX3_growChild_85 (by decide) ?_
      refine zcall3 (zck_SN (R' := rX10_put) (M' := mX10_put) (fun _ _ _ _ => tX10_put) kX10_put lX3_49 nX3_49 (by decide +kernel) rfl) dX3_growChild_86 (Nat.le_of_ble_eq_true rfl) (Nat.le_of_ble_eq_true rfl) (Nat.le_of_ble_eq_true rfl) ?_
      refine ⟨_, _, _, _, _, rfl, ((o2 c (Ne.symm nbc)).trans ((o1 c (Ne.symm npc)).trans hc)), (by omega), fun h3 e3 o3 => ?_⟩
      have k3 := (o3 a nac).trans k2
      rw [zpt_in (by omega) (by omega)] at e3
      refine z_aload_n dX3_growChild_89 rfl ?_
      refine z_getfield dX3_growChild_90 fX3_34_4 rfl (by first | assumption | exact zget_eq | exact zget_ne (by first | assumption | exact Ne.symm (by assumption) | omega) (by first | assumption | exact zget_eq | exact zget_ne (by first | assumption | exact Ne.symm (by assumption) | omega) (by first | assumption | exact zget_eq | exact zget_ne (by first | assumption | exact Ne.symm (by assumption) | omega) (by first | assumption | exact zget_eq)))) rfl ?_
      refine z_iload dX3_growChild_93 rfl ?_
      refine z_iconst (w := -1) dX3_growChild_95 (by decide) ?_
      refine zcall3 (zck_SN (R' := rX10_put) (M' := mX10_put) (fun _ _ _ _ => tX10_put) kX10_put lX3_49 nX3_49 (by decide +kernel) rfl) dX3_growChild_96 (Nat.le_of_ble_eq_true rfl) (Nat.le_of_ble_eq_true rfl) (Nat.le_of_ble_eq_true rfl) ?_
      refine ⟨_, _, _, _, _, rfl, ((o3 f (Ne.symm ncf)).trans ((o2 f (Ne.symm nbf)).trans ((o1 f (Ne.symm npf)).trans hf))), (by omega), fun h4 e4 o4 => ?_⟩
      have k4 := (o4 a naf).trans k3
      rw [zpt_in (by omega) (by omega)] at e4
      refine z_aload_n dX3_growChild_99 rfl ?_
      refine z_getfield dX3_growChild_100 fX3_37_4 rfl (by first | assumption | exact zget_eq | exact zget_ne (by first | assumption | exact Ne.symm (by assumption) | omega) (by first | assumption | exact zget_eq | exact zget_ne (by first | assumption | exact Ne.symm (by assumption) | omega) (by first | assumption | exact zget_eq | exact zget_ne (by first | assumption | exact Ne.symm (by assumption) | omega) (by first | assumption | exact zget_eq)))) rfl ?_
      refine z_iload dX3_growChild_103 rfl ?_
      refine z_iload dX3_growChild_105 rfl ?_
      refine zcall3 (zck_SN (R' := rX10_put) (M' := mX10_put) (fun _ _ _ _ => tX10_put) kX10_put lX3_49 nX3_49 (by decide +kernel) rfl) dX3_growChild_107 (Nat.le_of_ble_eq_true rfl) (Nat.le_of_ble_eq_true rfl) (Nat.le_of_ble_eq_true rfl) ?_
      refine ⟨_, _, _, _, _, rfl, ((o4 x (Ne.symm nfx)).trans ((o3 x (Ne.symm ncx)).trans ((o2 x (Ne.symm nbx)).trans ((o1 x (Ne.symm npx)).trans hx)))), (by omega), fun h5 e5 o5 => ?_⟩
      have k5 := (o5 a nax).trans k4
      rw [zpt_in (by omega) (by omega)] at e5
      refine z_iload_n dX3_growChild_110 rfl ?_
      refine z_iconst (w := -1) dX3_growChild_111 (by decide) ?_
      refine z_icmp_ne (t := 128) dX3_growChild_112 (by decide) (fun q112 => ?_) (fun q112 => ?_)
      · exact absurd rfl q112
      · refine z_aload_n dX3_growChild_115 rfl ?_
        refine z_getfield dX3_growChild_116 fX3_34_4 rfl (by first | assumption | exact zget_eq | exact zget_ne (by first | assumption | exact Ne.symm (by assumption) | omega) (by first | assumption | exact zget_eq | exact zget_ne (by first | assumption | exact Ne.symm (by assumption) | omega) (by first | assumption | exact zget_eq | exact zget_ne (by first | assumption | exact Ne.symm (by assumption) | omega) (by first | assumption | exact zget_eq)))) rfl ?_
        refine z_iload_n dX3_growChild_119 rfl ?_
        refine z_iload dX3_growChild_120 rfl ?_
        refine zcall3 (zck_SN (R' := rX10_put) (M' := mX10_put) (fun _ _ _ _ => tX10_put) kX10_put lX3_49 nX3_49 (by decide +kernel) rfl) dX3_growChild_122 (Nat.le_of_ble_eq_true rfl) (Nat.le_of_ble_eq_true rfl) (Nat.le_of_ble_eq_true rfl) ?_
        refine ⟨_, _, _, _, _, rfl, ((o5 f nfx).trans e4), (by omega), fun h6 e6 o6 => ?_⟩
        have k6 := (o6 a naf).trans k5
        rw [zpt_in (by omega) (by omega)] at e6
        refine z_goto (t := 138) dX3_growChild_125 (by decide) ?_
        try have k6 := (o6 a nax).trans k5
        try rw [zpt_in (by omega) (by omega)] at e6
        refine z_aload_n dX3_growChild_138 rfl ?_
        refine z_dup dX3_growChild_139 rfl ?_
        refine z_getfield dX3_growChild_140 fX3_53_4 rfl (by first | assumption | exact zget_eq | exact zget_ne (by first | assumption | exact Ne.symm (by assumption) | omega) (by first | assumption | exact zget_eq | exact zget_ne (by first | assumption | exact Ne.symm (by assumption) | omega) (by first | assumption | exact zget_eq | exact zget_ne (by first | assumption | exact Ne.symm (by assumption) | omega) (by first | assumption | exact zget_eq)))) rfl ?_
        refine z_iconst (w := 1) dX3_growChild_143 (by decide) ?_
        refine z_iadd dX3_growChild_144 ?_
        refine z_putfield dX3_growChild_145 fX3_53_4 rfl (fun q => absurd q (by decide)) (by first | assumption | exact zget_eq | exact zget_ne (by first | assumption | exact Ne.symm (by assumption) | omega) (by first | assumption | exact zget_eq | exact zget_ne (by first | assumption | exact Ne.symm (by assumption) | omega) (by first | assumption | exact zget_eq | exact zget_ne (by first | assumption | exact Ne.symm (by assumption) | omega) (by first | assumption | exact zget_eq)))) (Nat.le_of_ble_eq_true rfl) (Or.inl ⟨rfl, _, rfl⟩) ?_
        refine z_vreturn dX3_growChild_148 rfl (Nat.le_of_ble_eq_true rfl) (Nat.le_of_ble_eq_true rfl) ?_
        refine hK _ _ _ he ⟨upd P nm (nI p0), upd B nm (nI b0), upd C nm 1, upd (upd F nm (-1)) p0 (nI nm), upd X nm (zhd r), L, U, ⟨by rw [zget_eq]; simp [zgT, nI_1], ?_, ?_, ?_, ?_, ?_, ?_, ?_, hdj0, ho4, hr8, hr15, by simp only [zgT]; omega, hlo⟩, hzt, ?_, hL, hU⟩ (fun q hq => ?_)
        · rw [zup_ne (Ne.symm nap), o6 p npf, o5 p npx, o4 p npf, o3 p npc, o2 p npb]; exact e1
        · rw [zup_ne (Ne.symm nab), o6 b nbf, o5 b nbx, o4 b nbf, o3 b nbc]; exact e2
        · rw [zup_ne (Ne.symm nac), o6 c ncf, o5 c ncx, o4 c ncf]; exact e3
        · rw [zup_ne (Ne.symm naf)]; exact e6
        · rw [zup_ne (Ne.symm nax), o6 x (Ne.symm nfx)]; exact e5
        · rw [zup_ne (Ne.symm nal), o6 l (Ne.symm nfl), o5 l (Ne.symm nxl), o4 l (Ne.symm nfl), o3 l (Ne.symm ncl), o2 l (Ne.symm nbl), o1 l (Ne.symm npl)]; exact hl
        · rw [zup_ne (Ne.symm nat), o6 t (Ne.symm nft), o5 t (Ne.symm nxt), o4 t (Ne.symm nft), o3 t (Ne.symm nct), o2 t (Ne.symm nbt), o1 t (Ne.symm npt)]; exact hu
        · refine ⟨fun i hi => ?_, fun i hi => ?_, fun i hi => ?_, fun i hi => ?_, fun i hi => ?_⟩
          · simp only [zgT, zm] at hi ⊢
            by_cases q : i = nm
            · subst q; rw [pk_us, va_up_self, if_neg (by omega)]
            · rw [pk_un q, va_up_ne _ _ q]; exact w1 i (by omega)
          · simp only [zgT, zm] at hi ⊢
            by_cases q : i = nm
            · subst q; rw [pk_us, va_up_self, if_neg (by omega)]
            · rw [pk_un q, va_up_ne _ _ q]; exact w2 i (by omega)
          · simp only [zgT] at hi ⊢
            by_cases q : i = nm
            · subst q; rw [pk_us, va_up_self, if_neg (by omega)]; rfl
            · rw [pk_un q, va_up_ne _ _ q]; exact w3 i (by omega)
          · simp only [zgT] at hi
            simp only [zgC]
            by_cases q : i = p0
            · subst q; rw [pk_us, va_up_self]; rfl
            · rw [pk_un q, va_up_ne _ _ q]
              by_cases q2 : i = nm
              · subst q2; rw [pk_us, va_up_self]; rfl
              · rw [pk_un q2, va_up_ne _ _ q2]; exact w4 i (by omega)
          · simp only [zgT] at hi
            simp only [zgC]
            by_cases q : i = p0
            · subst q
              rw [va_up_self]
              exact ⟨pk_us, zlink_mono hlk (fun e he2 => pk_un (by have := (hmem e he2).2.1; omega))⟩
            · rw [va_up_ne _ _ q]
              by_cases q2 : i = nm
              · subst q2; rw [va_up_self]; trivial
              · rw [va_up_ne _ _ q2]
                exact zlink_mono (w5 i (by omega)) (fun e he2 => pk_un (by have := (t3 i e (by omega) he2).2.1; omega))
        · obtain ⟨g1, g2, g3, g4, g5, g6, g7, g8⟩ := zaw_no hq
          rw [zup_ne g1, o6 q g5, o5 q g6, o4 q g5, o3 q g4, o2 q g3, o1 q g2]
    · have hdm := (hmem d (by simp)).2.1
      simp only [List.concat_eq_append] at he hb1 hb2 hzt hlk hmem ⊢
      rw [zls_app]
      refine z_aload_n dX3_growChild_53 rfl ?_
      refine z_getfield dX3_growChild_54 fX3_53_4 rfl (by first | assumption | exact zget_eq | exact zget_ne (by first | assumption | exact Ne.symm (by assumption) | omega) (by first | assumption | exact zget_eq | exact zget_ne (by first | assumption | exact Ne.symm (by assumption) | omega) (by first | assumption | exact zget_eq | exact zget_ne (by first | assumption | exact Ne.symm (by assumption) | omega) (by first | assumption | exact zget_eq)))) rfl ?_
      refine z_istore dX3_growChild_57 (Nat.le_of_ble_eq_true rfl) ?_
      refine z_aload_n dX3_growChild_59 rfl ?_
      refine z_getfield dX3_growChild_60 fX3_24_4 rfl (by first | assumption | exact zget_eq | exact zget_ne (by first | assumption | exact Ne.symm (by assumption) | omega) (by first | assumption | exact zget_eq | exact zget_ne (by first | assumption | exact Ne.symm (by assumption) | omega) (by first | assumption | exact zget_eq | exact zget_ne (by first | assumption | exact Ne.symm (by assumption) | omega) (by first | assumption | exact zget_eq)))) rfl ?_
      refine z_iload dX3_growChild_63 rfl ?_
      refine z_iload_n dX3_growChild_65 rfl ?_
      refine zcall3 (zck_SN (R' := rX10_put) (M' := mX10_put) (fun _ _ _ _ => tX10_put) kX10_put lX3_49 nX3_49 (by decide +kernel) rfl) dX3_growChild_66 (Nat.le_of_ble_eq_true rfl) (Nat.le_of_ble_eq_true rfl) (Nat.le_of_ble_eq_true rfl) ?_
      refine ⟨_, _, _, _, _, rfl, hp, (by omega), fun h1 e1 o1 => ?_⟩
      have k1 := (o1 a nap).trans hk
      rw [zpt_in (by omega) (by omega)] at e1
      refine z_aload_n dX3_growChild_69 rfl ?_
      refine z_getfield dX3_growChild_70 fX3_28_4 rfl (by first | assumption | exact zget_eq | exact zget_ne (by first | assumption | exact Ne.symm (by assumption) | omega) (by first | assumption | exact zget_eq | exact zget_ne (by first | assumption | exact Ne.symm (by assumption) | omega) (by first | assumption | exact zget_eq | exact zget_ne (by first | assumption | exact Ne.symm (by assumption) | omega) (by first | assumption | exact zget_eq)))) rfl ?_
      refine z_iload dX3_growChild_73 rfl ?_
      refine z_iload_n dX3_growChild_75 rfl ?_
      refine zcall3 (zck_SN (R' := rX10_put) (M' := mX10_put) (fun _ _ _ _ => tX10_put) kX10_put lX3_49 nX3_49 (by decide +kernel) rfl) dX3_growChild_76 (Nat.le_of_ble_eq_true rfl) (Nat.le_of_ble_eq_true rfl) (Nat.le_of_ble_eq_true rfl) ?_
      refine ⟨_, _, _, _, _, rfl, ((o1 b (Ne.symm npb)).trans hb), (by omega), fun h2 e2 o2 => ?_⟩
      have k2 := (o2 a nab).trans k1
      rw [zpt_in (by omega) (by omega)] at e2
      refine z_aload_n dX3_growChild_79 rfl ?_
      refine z_getfield dX3_growChild_80 fX3_31_4 rfl (by first | assumption | exact zget_eq | exact zget_ne (by first | assumption | exact Ne.symm (by assumption) | omega) (by first | assumption | exact zget_eq | exact zget_ne (by first | assumption | exact Ne.symm (by assumption) | omega) (by first | assumption | exact zget_eq | exact zget_ne (by first | assumption | exact Ne.symm (by assumption) | omega) (by first | assumption | exact zget_eq)))) rfl ?_
      refine z_iload dX3_growChild_83 rfl ?_
      refine z_iconst (w := 1) dX3_growChild_85 (by decide) ?_
      refine zcall3 (zck_SN (R' := rX10_put) (M' := mX10_put) (fun _ _ _ _ => tX10_put) kX10_put lX3_49 nX3_49 (by decide +kernel) rfl) dX3_growChild_86 (Nat.le_of_ble_eq_true rfl) (Nat.le_of_ble_eq_true rfl) (Nat.le_of_ble_eq_true rfl) ?_
      refine ⟨_, _, _, _, _, rfl, ((o2 c (Ne.symm nbc)).trans ((o1 c (Ne.symm npc)).trans hc)), (by omega), fun h3 e3 o3 => ?_⟩
      have k3 := (o3 a nac).trans k2
      rw [zpt_in (by omega) (by omega)] at e3
      refine z_aload_n dX3_growChild_89 rfl ?_
      refine z_getfield dX3_growChild_90 fX3_34_4 rfl (by first | assumption | exact zget_eq | exact zget_ne (by first | assumption | exact Ne.symm (by assumption) | omega) (by first | assumption | exact zget_eq | exact zget_ne (by first | assumption | exact Ne.symm (by assumption) | omega) (by first | assumption | exact zget_eq | exact zget_ne (by first | assumption | exact Ne.symm (by assumption) | omega) (by first | assumption | exact zget_eq)))) rfl ?_
      refine z_iload dX3_growChild_93 rfl ?_
      refine z_iconst (w := -1) dX3_growChild_95 (by decide) ?_
      refine zcall3 (zck_SN (R' := rX10_put) (M' := mX10_put) (fun _ _ _ _ => tX10_put) kX10_put lX3_49 nX3_49 (by decide +kernel) rfl) dX3_growChild_96 (Nat.le_of_ble_eq_true rfl) (Nat.le_of_ble_eq_true rfl) (Nat.le_of_ble_eq_true rfl) ?_
      refine ⟨_, _, _, _, _, rfl, ((o3 f (Ne.symm ncf)).trans ((o2 f (Ne.symm nbf)).trans ((o1 f (Ne.symm npf)).trans hf))), (by omega), fun h4 e4 o4 => ?_⟩
      have k4 := (o4 a naf).trans k3
      rw [zpt_in (by omega) (by omega)] at e4
      refine z_aload_n dX3_growChild_99 rfl ?_
      refine z_getfield dX3_growChild_100 fX3_37_4 rfl (by first | assumption | exact zget_eq | exact zget_ne (by first | assumption | exact Ne.symm (by assumption) | omega) (by first | assumption | exact zget_eq | exact zget_ne (by first | assumption | exact Ne.symm (by assumption) | omega) (by first | assumption | exact zget_eq | exact zget_ne (by first | assumption | exact Ne.symm (by assumption) | omega) (by first | assumption | exact zget_eq)))) rfl ?_
      refine z_iload dX3_growChild_103 rfl ?_
      refine z_iload dX3_growChild_105 rfl ?_
      refine zcall3 (zck_SN (R' := rX10_put) (M' := mX10_put) (fun _ _ _ _ => tX10_put) kX10_put lX3_49 nX3_49 (by decide +kernel) rfl) dX3_growChild_107 (Nat.le_of_ble_eq_true rfl) (Nat.le_of_ble_eq_true rfl) (Nat.le_of_ble_eq_true rfl) ?_
      refine ⟨_, _, _, _, _, rfl, ((o4 x (Ne.symm nfx)).trans ((o3 x (Ne.symm ncx)).trans ((o2 x (Ne.symm nbx)).trans ((o1 x (Ne.symm npx)).trans hx)))), (by omega), fun h5 e5 o5 => ?_⟩
      have k5 := (o5 a nax).trans k4
      rw [zpt_in (by omega) (by omega)] at e5
      refine z_iload_n dX3_growChild_110 rfl ?_
      refine z_iconst (w := -1) dX3_growChild_111 (by decide) ?_
      refine z_icmp_ne (t := 128) dX3_growChild_112 (by decide) (fun q112 => ?_) (fun q112 => ?_)
      · refine z_aload_n dX3_growChild_128 rfl ?_
        refine z_getfield dX3_growChild_129 fX3_37_4 rfl (by first | assumption | exact zget_eq | exact zget_ne (by first | assumption | exact Ne.symm (by assumption) | omega) (by first | assumption | exact zget_eq | exact zget_ne (by first | assumption | exact Ne.symm (by assumption) | omega) (by first | assumption | exact zget_eq | exact zget_ne (by first | assumption | exact Ne.symm (by assumption) | omega) (by first | assumption | exact zget_eq)))) rfl ?_
        refine z_iload_n dX3_growChild_132 rfl ?_
        refine z_iload dX3_growChild_133 rfl ?_
        refine zcall3 (zck_SN (R' := rX10_put) (M' := mX10_put) (fun _ _ _ _ => tX10_put) kX10_put lX3_49 nX3_49 (by decide +kernel) rfl) dX3_growChild_135 (Nat.le_of_ble_eq_true rfl) (Nat.le_of_ble_eq_true rfl) (Nat.le_of_ble_eq_true rfl) ?_
        refine ⟨_, _, _, _, _, rfl, e5, (by omega), fun h6 e6 o6 => ?_⟩
        try have k6 := (o6 a nax).trans k5
        try rw [zpt_in (by omega) (by omega)] at e6
        refine z_aload_n dX3_growChild_138 rfl ?_
        refine z_dup dX3_growChild_139 rfl ?_
        refine z_getfield dX3_growChild_140 fX3_53_4 rfl (by first | assumption | exact zget_eq | exact zget_ne (by first | assumption | exact Ne.symm (by assumption) | omega) (by first | assumption | exact zget_eq | exact zget_ne (by first | assumption | exact Ne.symm (by assumption) | omega) (by first | assumption | exact zget_eq | exact zget_ne (by first | assumption | exact Ne.symm (by assumption) | omega) (by first | assumption | exact zget_eq)))) rfl ?_
        refine z_iconst (w := 1) dX3_growChild_143 (by decide) ?_
        refine z_iadd dX3_growChild_144 ?_
        refine z_putfield dX3_growChild_145 fX3_53_4 rfl (fun q => absurd q (by decide)) (by first | assumption | exact zget_eq | exact zget_ne (by first | assumption | exact Ne.symm (by assumption) | omega) (by first | assumption | exact zget_eq | exact zget_ne (by first | assumption | exact Ne.symm (by assumption) | omega) (by first | assumption | exact zget_eq | exact zget_ne (by first | assumption | exact Ne.symm (by assumption) | omega) (by first | assumption | exact zget_eq)))) (Nat.le_of_ble_eq_true rfl) (Or.inl ⟨rfl, _, rfl⟩) ?_
        refine z_vreturn dX3_growChild_148 rfl (Nat.le_of_ble_eq_true rfl) (Nat.le_of_ble_eq_true rfl) ?_
        refine hK _ _ _ he ⟨upd P nm (nI p0), upd B nm (nI b0), upd C nm 1, upd F nm (-1), upd (upd X nm (zhd r)) d (nI nm), L, U, ⟨by rw [zget_eq]; simp [zgT, nI_1], ?_, ?_, ?_, ?_, ?_, ?_, ?_, hdj0, ho4, hr8, hr15, by simp only [zgT]; omega, hlo⟩, hzt, ?_, hL, hU⟩ (fun q hq => ?_)
        · rw [zup_ne (Ne.symm nap), o6 p npx, o5 p npx, o4 p npf, o3 p npc, o2 p npb]; exact e1
        · rw [zup_ne (Ne.symm nab), o6 b nbx, o5 b nbx, o4 b nbf, o3 b nbc]; exact e2
        · rw [zup_ne (Ne.symm nac), o6 c ncx, o5 c ncx, o4 c ncf]; exact e3
        · rw [zup_ne (Ne.symm naf), o6 f nfx, o5 f nfx]; exact e4
        · rw [zup_ne (Ne.symm nax)]; exact e6
        · rw [zup_ne (Ne.symm nal), o6 l (Ne.symm nxl), o5 l (Ne.symm nxl), o4 l (Ne.symm nfl), o3 l (Ne.symm ncl), o2 l (Ne.symm nbl), o1 l (Ne.symm npl)]; exact hl
        · rw [zup_ne (Ne.symm nat), o6 t (Ne.symm nxt), o5 t (Ne.symm nxt), o4 t (Ne.symm nft), o3 t (Ne.symm nct), o2 t (Ne.symm nbt), o1 t (Ne.symm npt)]; exact hu
        · refine ⟨fun i hi => ?_, fun i hi => ?_, fun i hi => ?_, fun i hi => ?_, fun i hi => ?_⟩
          · simp only [zgT, zm] at hi ⊢
            by_cases q : i = nm
            · subst q; rw [pk_us, va_up_self, if_neg (by omega)]
            · rw [pk_un q, va_up_ne _ _ q]; exact w1 i (by omega)
          · simp only [zgT, zm] at hi ⊢
            by_cases q : i = nm
            · subst q; rw [pk_us, va_up_self, if_neg (by omega)]
            · rw [pk_un q, va_up_ne _ _ q]; exact w2 i (by omega)
          · simp only [zgT] at hi ⊢
            by_cases q : i = nm
            · subst q; rw [pk_us, va_up_self, if_neg (by omega)]; rfl
            · rw [pk_un q, va_up_ne _ _ q]; exact w3 i (by omega)
          · simp only [zgT] at hi
            simp only [zgC]
            by_cases q : i = p0
            · subst q
              rw [va_up_self, pk_un (by omega), w4 i (by omega), he]
              exact zhd_app _ _
            · rw [va_up_ne _ _ q]
              by_cases q2 : i = nm
              · subst q2; rw [pk_us, va_up_self]; rfl
              · rw [pk_un q2, va_up_ne _ _ q2]; exact w4 i (by omega)
          · simp only [zgT] at hi
            simp only [zgC]
            by_cases q : i = p0
            · subst q
              rw [va_up_self]
              refine zlink_ins ?_ (fun e he2 => ?_) pk_us pre2 hlk (fun e he2 => ?_)
              · rw [pk_un (by have := (hmem d (by simp)).2.1; omega)]; exact pk_us
              · have h8 := (hmem e (by simp [he2])).2.1
                have h9 : byt d < byt e := by
                  have h7 := hb1 d (by simp)
                  have h6 := hb2 e he2
                  omega
                rw [pk_un (fun z => by rw [z] at h9; omega), pk_un (by omega)]
              · have h8 := (hmem e (by simp [he2])).2.1
                have h9 : byt e < byt d := by
                  have hw := (t2 i hp0).2
                  rw [he, List.pairwise_append, List.pairwise_append] at hw
                  exact hw.1.2.2 e he2 d (by simp)
                rw [pk_un (fun z => by rw [z] at h9; omega), pk_un (by omega)]
            · rw [va_up_ne _ _ q]
              by_cases q2 : i = nm
              · subst q2; rw [va_up_self]; trivial
              · rw [va_up_ne _ _ q2]
                refine zlink_mono (w5 i (by omega)) (fun e he2 => ?_)
                have h8 := t3 i e (by omega) he2
                have h9 := (hmem d (by simp)).2.2
                rw [pk_un (fun z => by rw [z, h9] at h8; omega), pk_un (by omega)]
        · obtain ⟨g1, g2, g3, g4, g5, g6, g7, g8⟩ := zaw_no hq
          rw [zup_ne g1, o6 q g6, o5 q g6, o4 q g5, o3 q g4, o2 q g3, o1 q g2]
      · exact absurd q112 (zhd_ne (by omega))
  have loop : ∀ (r pre : List Nat) (j : Nat), ch p0 = pre ++ r → zlink X r → (∀ c, c ∈ pre → byt c < b0) → r.length < j → j ≤ nm → zZ (zXm G rX3_growChild mX3_growChild [.ref a, .int (nI p0), .int (nI b0)] h n K) 15 [(0, .ref a), (1, .int (nI p0)), (2, .int (nI b0)), (3, .int (zls pre)), (4, .int (zhd r)), (5, .int (nI j))] [] h n 0 0 := by
    intro r
    induction r with
    | nil =>
      intro pre j he hk1 hb1 hj hj2
      refine z_iload dX3_growChild_15 rfl ?_
      refine z_iconst (w := -1) dX3_growChild_17 (by decide) ?_
      refine z_icmp_eq (t := 53) dX3_growChild_18 (by decide) (fun q18 => ?_) (fun q18 => ?_)
      · exact exit pre [] _ he hb1 (fun c hc => absurd hc List.not_mem_nil)
      · exact absurd rfl q18
    | cons d r ih =>
      intro pre j he hk1 hb1 hj hj2
      have hdc : d ∈ ch p0 := by rw [he]; simp
      have hd := t3 p0 d hp0 hdc
      have hby := (t4 d hd.1 hd.2.1).2.2.1
      have hnb := hne d hdc
      simp only [List.length_cons] at hj
      simp only [zhd]
      refine z_iload dX3_growChild_15 rfl ?_
      refine z_iconst (w := -1) dX3_growChild_17 (by decide) ?_
      refine z_icmp_eq (t := 53) dX3_growChild_18 (by decide) (fun q18 => ?_) (fun q18 => ?_)
      · exact absurd q18 (zhd_ne (by omega))
      · refine z_aload_n dX3_growChild_21 rfl ?_
        refine z_iload dX3_growChild_22 rfl ?_
        refine zcall2 (zck_V (na := 1) (ci := 4) (R' := rX3_byteOf) (M' := mX3_byteOf) (fun _ _ _ _ => tvX3_byteOf) (by decide) kX3_byteOf lX3_98 (by decide +kernel) rfl) dX3_growChild_24 (Nat.le_of_ble_eq_true rfl) (Nat.le_of_ble_eq_true rfl) (Nat.le_of_ble_eq_true rfl) ?_
        refine ⟨_, _, _, _, _, _, rfl, (by first | assumption | exact hk), rfl, (by assumption), (by omega), (by omega), ?_⟩
        rw [w2 d hd.2.1, zm, if_neg (by omega)]
        refine z_iload_n dX3_growChild_27 rfl ?_
        refine z_icmp_ge (t := 53) dX3_growChild_28 (by decide) (fun q28 => ?_) (fun q28 => ?_)
        · rw [nI_leI (by omega) (by omega)] at q28
          refine exit pre (d :: r) _ he hb1 (fun e he2 => ?_)
          rcases List.mem_cons.mp he2 with rfl | he2
          · omega
          · have hw := (t2 p0 hp0).2
            rw [he, List.pairwise_append] at hw
            have := (List.pairwise_cons.mp hw.2.1).1 e he2
            omega
        · rw [nI_leI (by omega) (by omega)] at q28
          refine z_iload dX3_growChild_31 rfl ?_
          refine z_if_le (t := 53) dX3_growChild_33 (by decide) (fun q33 => ?_) (fun q33 => ?_)
          · exact absurd q33 (nI_nle (by omega) (by omega))
          · refine z_iload dX3_growChild_36 rfl ?_
            refine z_istore_n dX3_growChild_38 (Nat.le_of_ble_eq_true rfl) ?_
            refine z_aload_n dX3_growChild_39 rfl ?_
            refine z_iload dX3_growChild_40 rfl ?_
            refine zcall2 (zck_V (na := 1) (ci := 4) (R' := rX3_nextSibling) (M' := mX3_nextSibling) (fun _ _ _ _ => tvX3_nextSibling) (by decide) kX3_nextSibling lX3_101 (by decide +kernel) rfl) dX3_growChild_42 (Nat.le_of_ble_eq_true rfl) (Nat.le_of_ble_eq_true rfl) (Nat.le_of_ble_eq_true rfl) ?_
            refine ⟨_, _, _, _, _, _, rfl, (by first | assumption | exact hk), rfl, (by assumption), (by omega), (by omega), ?_⟩
            rw [hk1.1]
            refine z_istore dX3_growChild_45 (Nat.le_of_ble_eq_true rfl) ?_
            refine z_iinc dX3_growChild_47 rfl (Nat.le_of_ble_eq_true rfl) ?_
            rw [show nI j + Int32.ofInt (-1) = nI (j - 1) from sb_m1 (by omega)]
            refine z_goto (t := 15) dX3_growChild_50 (by decide) ?_
            rw [← zls_app pre d]
            exact ih (pre ++ [d]) (j - 1) (by rw [he]; simp) hk1.2 (fun e he2 => by rcases List.mem_append.mp he2 with z | z; exact hb1 e z; rw [List.mem_singleton.mp z]; omega) (by omega) (by omega)
  refine z_iconst (w := -1) dX3_growChild_0 (by decide) ?_
  refine z_istore_n dX3_growChild_1 (Nat.le_of_ble_eq_true rfl) ?_
  refine z_aload_n dX3_growChild_2 rfl ?_
  refine z_iload_n dX3_growChild_3 rfl ?_
  refine zcall2 (zck_V (na := 1) (ci := 4) (R' := rX3_firstChild) (M' := mX3_firstChild) (fun _ _ _ _ => tvX3_firstChild) (by decide) kX3_firstChild lX3_95 (by decide +kernel) rfl) dX3_growChild_4 (Nat.le_of_ble_eq_true rfl) (Nat.le_of_ble_eq_true rfl) (Nat.le_of_ble_eq_true rfl) ?_
  refine ⟨_, _, _, _, _, _, rfl, (by first | assumption | exact hk), rfl, (by assumption), (by omega), (by omega), ?_⟩
  rw [w4 p0 hp0]
  refine z_istore dX3_growChild_7 (Nat.le_of_ble_eq_true rfl) ?_
  refine z_aload_n dX3_growChild_9 rfl ?_
  refine z_getfield dX3_growChild_10 fX3_53_4 rfl (by first | assumption | exact zget_eq | exact zget_ne (by first | assumption | exact Ne.symm (by assumption) | omega) (by first | assumption | exact zget_eq | exact zget_ne (by first | assumption | exact Ne.symm (by assumption) | omega) (by first | assumption | exact zget_eq | exact zget_ne (by first | assumption | exact Ne.symm (by assumption) | omega) (by first | assumption | exact zget_eq)))) rfl ?_
  refine z_istore dX3_growChild_13 (Nat.le_of_ble_eq_true rfl) ?_
  exact loop (ch p0) [] nm rfl (w5 p0 hp0) (fun c hc => absurd hc List.not_mem_nil) (t2 p0 hp0).1 (Nat.le_refl _)

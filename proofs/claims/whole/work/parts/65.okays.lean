/-! what must hold of the state is kept by every call -/
section zOks
variable {o rm : Nat} {a tx : Nat → Nat} {M : Nat → zMs}
theorem zOkS.w {a' tx' : Nat → Nat} {M' : Nat → zMs} (H : zOkS o rm a tx M) (h0 : a' 0 ≤ 300) (h1 : a' 1 ≤ 2484) (h2 : a' 2 ≤ 300) (h3 : a' 3 ≤ 4) (h4 : a' 4 ≤ 301) (ht : ∀ i, i < a' 0 → tx' i < 256) (hM : ∀ s, zSlot a' s → zMi o rm (M' s)) : zOkS o rm a' tx' M' :=
  ⟨H.1, H.2.1, H.2.2.1, h0, h1, h2, h3, h4, ht, hM⟩
theorem zup_at {f : Nat → Nat} {k v : Nat} : va_up f k v k = v := va_up_self f k v
theorem zOkS.clear (H : zOkS o rm a tx M) : zOkS o rm (va_up a 0 0) tx M := by
  have H0 := H
  obtain ⟨b1, b2, b3, b4, b5, b6, b7, b8, btx, bM⟩ := H0
  refine H.w (by simp [va_up]) (by simpa [va_up] using b5) (by simpa [va_up] using b6) (by simpa [va_up] using b7) (by simpa [va_up] using b8) (fun i hi => by simp [va_up] at hi) (fun s hs => bM s ?_)
  simpa [zSlot, va_up] using hs
theorem zOkS.forget (H : zOkS o rm a tx M) : zOkS o rm (va_up a 3 0) tx M := by
  have H0 := H
  obtain ⟨b1, b2, b3, b4, b5, b6, b7, b8, btx, bM⟩ := H0
  refine H.w (by simpa [va_up] using b4) (by simpa [va_up] using b5) (by simpa [va_up] using b6) (by simp [va_up]) (by simpa [va_up] using b8) (fun i hi => btx i (by simpa [va_up] using hi)) (fun s hs => bM s ?_)
  simp only [zSlot, va_up, if_true] at hs
  rcases hs with h | h | h
  · exact Or.inl h
  · exact Or.inr (Or.inl h)
  · omega
theorem zOkS.add (H : zOkS o rm a tx M) (b : Int32) : zOkS o rm (zAdd b a tx).1 (zAdd b a tx).2.1 M := by
  have H0 := H
  obtain ⟨b1, b2, b3, b4, b5, b6, b7, b8, btx, bM⟩ := H0
  unfold zAdd
  split
  · exact H
  · rename_i hb
    have hb' : zIn b 256 := Classical.not_not.mp hb
    split
    · exact H
    · refine H.w (by simp [va_up]; omega) (by simpa [va_up] using b5) (by simpa [va_up] using b6) (by simpa [va_up] using b7) (by simpa [va_up] using b8) (fun i hi => ?_) (fun s hs => bM s (by simpa [zSlot, va_up] using hs))
      have hi' : i < a 0 + 1 := by simpa [va_up] using hi
      show va_up tx (a 0) (zt b) i < 256
      by_cases e : i = a 0
      · rw [e, va_up_self]; exact (hb'.nat (by decide)).2
      · rw [va_up_ne _ _ e]; exact btx i (by omega)
theorem zOkS.fill (H : zOkS o rm a tx M) (k seed how : Int32) : zOkS o rm (zFil k seed how a tx).1 (zFil k seed how a tx).2.1 M := by
  have H0 := H
  obtain ⟨b1, b2, b3, b4, b5, b6, b7, b8, btx, bM⟩ := H0
  unfold zFil
  split
  · split
    · exact H
    · refine H.w (by simp [va_up]; omega) (by simpa [va_up] using b5) (by simpa [va_up] using b6) (by simpa [va_up] using b7) (by simpa [va_up] using b8) (fun i hi => ?_) (fun s hs => bM s (by simpa [zSlot, va_up] using hs))
      exact zfll_lt btx i (by simpa [va_up] using hi)
  · exact H
theorem zOkS.cut (H : zOkS o rm a tx M) (x : Int32) : zOkS o rm (zCut x a).1 tx M := by
  have H0 := H
  obtain ⟨b1, b2, b3, b4, b5, b6, b7, b8, btx, bM⟩ := H0
  unfold zCut
  split
  · rename_i hx
    have := (hx.nat (by omega)).2
    refine H.w (by simpa [va_up] using b4) (by simp [va_up]; omega) (by simpa [va_up] using b6) (by simpa [va_up] using b7) (by simpa [va_up] using b8) (fun i hi => btx i (by simpa [va_up] using hi)) (fun s hs => bM s (by simpa [zSlot, va_up] using hs))
  · exact H
theorem zOkS.setM (H : zOkS o rm a tx M) {j : Nat} {N : zMs} (hN : zMi o rm N) : zOkS o rm a tx (va_up M j N) := by
  have H0 := H
  obtain ⟨b1, b2, b3, b4, b5, b6, b7, b8, btx, bM⟩ := H0
  refine H.w b4 b5 b6 b7 b8 btx (fun s hs => ?_)
  by_cases e : s = j
  · rw [e, va_up_self]; exact hN
  · rw [va_up_ne _ _ e]; exact bM s hs
theorem zOkS.reset (H : zOkS o rm a tx M) (e : Int32) : zOkS o rm a tx (zRes M e).1 := by
  unfold zRes
  split
  · exact H.setM (zMi.zero (by have := H.2.1; omega))
  · exact H
theorem zIn.two {e : Int32} (h : zIn e 2) : zt e = 0 ∨ zt e = 1 := by
  have := (h.nat (by decide)).2
  omega
theorem zOkS.save (H : zOkS o rm a tx M) (e : Int32) : zOkS o rm (zSav a M e).1 tx (zSav a M e).2.1 := by
  have H0 := H
  obtain ⟨b1, b2, b3, b4, b5, b6, b7, b8, btx, bM⟩ := H0
  unfold zSav
  split
  · exact H
  · rename_i he
    have he' : zIn e 2 := Classical.not_not.mp he
    split
    · exact H
    · have hN : zMi o rm (M (zt e)) := bM _ (by rcases he'.two with h | h; exact Or.inl h; exact Or.inr (Or.inl h))
      refine H.w (by simpa [va_up] using b4) (by simpa [va_up] using b5) (by simpa [va_up] using b6) (by simp [va_up]; omega) (by simpa [va_up] using b8) (fun i hi => btx i (by simpa [va_up] using hi)) (fun s hs => ?_)
      show zMi o rm (va_up M (3 + a 3) (M (zt e)) s)
      by_cases q : s = 3 + a 3
      · rw [q, va_up_self]; exact hN
      · rw [va_up_ne _ _ q]
        refine bM s ?_
        simp only [zSlot, va_up, if_true] at hs
        rcases hs with h | h | h
        · exact Or.inl h
        · exact Or.inr (Or.inl h)
        · exact Or.inr (Or.inr ⟨h.1, by omega⟩)
theorem zOkS.restore (H : zOkS o rm a tx M) (e k : Int32) : zOkS o rm a tx (zRsr a M e k).1 := by
  have b7 := H.2.2.2.2.2.2.1
  unfold zRsr
  split
  · rename_i h
    exact H.setM (H.2.2.2.2.2.2.2.2.2 _ (Or.inr (Or.inr ⟨by omega, by have := (h.2.nat (by omega)).2; omega⟩)))
  · exact H
theorem zOkS.pack (H : zOkS o rm a tx M) {gg : Nat → Int32} {XX : Nat → Nat} {F : Nat → Option Nat} {R : zPr} (h : zPk o rm tx (a 0) 0 (M 0, (gg, 0, 0, 65535, 0), 0, 0, XX, F) R) : zOkS o rm (zPka a R) tx (va_up M 0 R.1) := by
  have H0 := H
  obtain ⟨b1, b2, b3, b4, b5, b6, b7, b8, btx, bM⟩ := H0
  obtain ⟨h1, h2, h3⟩ := zPk_ok b1 (a 0) 0 _ R (bM 0 (Or.inl rfl)) (zEok0 gg) (Nat.le_refl _) h
  have hb := zpe_bits R.2.1
  refine H.w (by simpa [zPka, va_up] using b4) (by simp [zPka, va_up]; omega) (by simpa [zPka, va_up] using b6) (by simpa [zPka, va_up] using b7) (by simp [zPka, va_up]; omega) (fun i hi => btx i (by simpa [zPka, va_up] using hi)) (fun s hs => ?_)
  by_cases e : s = 0
  · rw [e, va_up_self]; exact h1
  · rw [va_up_ne _ _ e]; exact bM s (by simpa [zSlot, zPka, va_up] using hs)
theorem zOkS.opn (H : zOkS o rm a tx M) {gg : Nat → Int32} {rx rx1 : Nat → Nat} {z z1 : Nat → Int32} {a1 : Nat → Nat} {M1 : Nat → zMs} {r : Int32} (h : zOpn o rm a gg rx M z a1 rx1 M1 z1 r) : zOkS o rm a1 tx M1 := by
  have H0 := H
  obtain ⟨b1, b2, b3, b4, b5, b6, b7, b8, btx, bM⟩ := H0
  obtain ⟨d, f, R, b0, f0, hd, h⟩ := h
  rcases h with ⟨-, -, rfl, -, rfl, -⟩ | ⟨-, -, rfl, -, rfl, -⟩ | ⟨rfl, i, -, -, -, -, h⟩
  · exact H
  · exact H
  · rcases h with ⟨-, -, rfl, -, rfl, -⟩ | ⟨-, -, rfl, -, rfl, -⟩
    · exact H
    · obtain ⟨p1, p2, p3, -, -, -⟩ := zRd_pk d _ R (bM 1 (Or.inr (Or.inl rfl))) (Nat.zero_le 300) hd
      refine H.w (by simpa [va_up] using b4) (by simpa [va_up] using b5) (by simpa [va_up] using p3) (by simpa [va_up] using b7) (by simpa [va_up] using b8) (fun i hi => btx i (by simpa [va_up] using hi)) (fun s hs => ?_)
      by_cases e : s = 1
      · rw [e, va_up_self]; exact p1
      · rw [va_up_ne _ _ e]; exact bM s (by simpa [zSlot, va_up] using hs)
end zOks
theorem zclo_le (x : Int32) : zclo x ≤ 4 := by
  unfold zclo
  split
  · decide
  · split
    · decide
    · rename_i h1 h2
      have := ((show zIn x 5 from ⟨Int32.not_lt.mp h1, by
        have h3 := Int32.not_lt.mp h2
        rw [Int32.le_iff_toInt_le] at h3
        rw [Int32.lt_iff_toInt_lt]
        have e1 : (4 : Int32).toInt = 4 := by decide
        have e2 : (nI 5).toInt = 5 := by decide
        omega⟩).nat (by decide)).2
      omega
theorem zclr_le (x : Int32) : 8 ≤ zclr x ∧ zclr x ≤ 1500 := by
  unfold zclr
  split
  · decide
  · split
    · decide
    · rename_i h1 h2
      have g1 := Int32.not_lt.mp h1
      have g2 := Int32.not_lt.mp h2
      rw [Int32.le_iff_toInt_le] at g1 g2
      have e1 : (8 : Int32).toInt = 8 := by decide
      have e2 : (1500 : Int32).toInt = 1500 := by decide
      unfold zt
      omega
theorem zOkS.first (p q : Int32) (tx : Nat → Nat) : zOkS (zclo p) (zclr q) (fun _ => 0) tx (fun _ => zM0) :=
  ⟨zclo_le p, (zclr_le q).1, (zclr_le q).2, by decide, by decide, by decide, by decide, by decide, fun i hi => absurd hi (Nat.not_lt_zero _), fun s _ => zMi.zero (by have := (zclr_le q).1; omega)⟩

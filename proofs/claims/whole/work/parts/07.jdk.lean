/-! the JDK's small ones: Math.max, Math.min, System.arraycopy -/
section zJ
variable {X : zX} {idx : Nat}
theorem zck_max (hw : zall [.methodLink (zxM X).1.cls idx Lib.Math.max.name, .static Lib.Math.max.name, .initialized "java/lang/Math"] = true) (hc : Cond.code Lib.Math.max.name Lib.Math.max.code 2 (some .int) ∈ zT) (hR : zroom ⟨0, 0, 0, 0⟩ (zxR X) 2 = true) : zCk X (.invokestatic idx) 2 0 0 (fun as h n K => ∃ x y, as = [.int x, .int y] ∧ K (some (.int (if x < y then y else x))) h n) := by
  intro pc lv as rest h n c s K hd hl hcc hss hcat hs kk p e s0 m below meth c0 H locs ls hF h1 h2 h3 h4 h5 h6
  have hts := hF.2.2.2.2.2.1
  have w := zall_spec hw
  simp only [zroom, Bool.and_eq_true, decide_eq_true_eq] at hR
  obtain ⟨x, y, rfl, hK⟩ := hs
  exact va_mmax (rest := rest) hF.1 hF.2.1 (by rw [hF.2.2.2.1, h6.1]) hF.2.2.2.2.1 (hts _ (w _ (by simp))) (hts _ (w _ (by simp))) (hts _ (w (.initialized "java/lang/Math") (by simp))) (hts _ hc) hR.1 (by have := hR.2; omega) hcc hss hd (kk _ h n hK p e s0 m below meth c0 H locs ls hF h1 h2 h3 h4 h5 h6)
theorem zck_min (hw : zall [.methodLink (zxM X).1.cls idx Lib.Math.min.name, .static Lib.Math.min.name, .initialized "java/lang/Math"] = true) (hc : Cond.code Lib.Math.min.name Lib.Math.min.code 2 (some .int) ∈ zT) (hR : zroom ⟨0, 0, 0, 0⟩ (zxR X) 2 = true) : zCk X (.invokestatic idx) 2 0 0 (fun as h n K => ∃ x y, as = [.int x, .int y] ∧ K (some (.int (if y < x then y else x))) h n) := by
  intro pc lv as rest h n c s K hd hl hcc hss hcat hs kk p e s0 m below meth c0 H locs ls hF h1 h2 h3 h4 h5 h6
  have hts := hF.2.2.2.2.2.1
  have w := zall_spec hw
  simp only [zroom, Bool.and_eq_true, decide_eq_true_eq] at hR
  obtain ⟨x, y, rfl, hK⟩ := hs
  exact va_mmin (rest := rest) hF.1 hF.2.1 (by rw [hF.2.2.2.1, h6.1]) hF.2.2.2.2.1 (hts _ (w _ (by simp))) (hts _ (w _ (by simp))) (hts _ (w (.initialized "java/lang/Math") (by simp))) (hts _ hc) hR.1 (by have := hR.2; omega) hcc hss hd (kk _ h n hK p e s0 m below meth c0 H locs ls hF h1 h2 h3 h4 h5 h6)
/-- System.arraycopy of ints, from the first place to the first -/
theorem zck_copy (hw : zall [.methodLink (zxM X).1.cls idx arraycopyName, .native arraycopyName, .static arraycopyName, .initialized "java/lang/System"] = true) (hR : decide (1 ≤ (zxR X).frames) && decide (8 + (nativeFrameWords "java/lang/System" "arraycopy" 5 + 11) ≤ (zxR X).locals) = true) : zCk X (.invokestatic idx) 5 0 0 (fun as h n K => ∃ (a b : Nat) (k : Int32) (m1 m2 : Nat) (f g : Nat → Int32), as = [.ref a, .int 0, .ref b, .int 0, .int k] ∧ h a = some (.inl ((zxG X).2.2.1, m1, .inl f)) ∧ h b = some (.inl ((zxG X).2.2.1, m2, .inl g)) ∧ ¬ k < 0 ∧ k.toNatClampNeg ≤ m1 ∧ k.toNatClampNeg ≤ m2 ∧ K none (va_up h b (some (.inl ((zxG X).2.2.1, m2, .inl (va_cpy f g 0 0 k.toNatClampNeg))))) n) := by
  intro pc lv as rest h n c s K hd hl hcc hss hcat hs kk p e s0 m below meth c0 H locs ls hF h1 h2 h3 h4 h5 h6
  have hts := hF.2.2.2.2.2.1
  have w := zall_spec hw
  simp only [Bool.and_eq_true, decide_eq_true_eq] at hR
  obtain ⟨a, b, k, m1, m2, f, g, rfl, ha, hb, k1, k2, k3, hK⟩ := hs
  have nn : ∀ z : Int32, ¬ z < 0 → z.toInt = (z.toNatClampNeg : Int) := by
    intro z hz
    have hz0 : (0 : Int) ≤ z.toInt := by
      have := Int32.not_lt.mp hz
      simpa using Int32.le_iff_toInt_le.mp this
    show z.toInt = ((z.toInt.toNat : Nat) : Int)
    omega
  have z0 : ¬ (0 : Int32) < 0 := by decide
  have zz : (0 : Int32).toNatClampNeg = 0 := by decide
  intro T hT XX
  have hc0 : H[a]? = some (vp_cell (zxG X).2.2.1 (m1, .inl f)) := h3 a _ ha
  have hc1 : H[b]? = some (vp_cell (zxG X).2.2.1 (m2, .inl g)) := h3 b _ hb
  obtain ⟨-, k0, hk0, cm0, hkk0⟩ := (hF.K.1.2 0 _ rfl).1 m1 (fun j => .int (f j))
  obtain ⟨-, k1', hk1, cm1, hkk1⟩ := (hF.K.1.2 0 _ rfl).1 m2 (fun j => .int (g j))
  obtain ⟨vm', X', step⟩ := XX.arraycopy hF.1 hF.2.2.2.2.1 (hts _ (w (.methodLink (zxM X).1.cls idx arraycopyName) (by simp))) (hts _ (w (.native arraycopyName) (by simp))) (hts _ (w (.static arraycopyName) (by simp))) (hts _ (w (.initialized "java/lang/System") (by simp))) (src := a) (dst := b) (cs := vp_cell (zxG X).2.2.1 (m1, .inl f)) (cd := vp_cell (zxG X).2.2.1 (m2, .inl g)) (srcPos := 0) (destPos := 0) (n := k) (by rw [hT]; exact hc0) (by rw [hT]; exact hc1)
    (fun _ h => by cases h) (fun _ h => by cases h) (fun h => by cases h) (fun h => by cases h) hk0 hk1 hkk0 hkk1 (by simp [refKind]) z0 z0 k1
    (by rw [nn 0 z0, nn k k1, zz]; show ¬ _ > ((arrV (zxG X).2.2.1 m1 (fun j => .int (f j))).slots.size : Int); rw [arrV_size]; omega)
    (by rw [nn 0 z0, nn k k1, zz]; show ¬ _ > ((arrV (zxG X).2.2.1 m2 (fun j => .int (g j))).slots.size : Int); rw [arrV_size]; omega)
    (fun vm₁ _ i hi => by
      have e : (vp_cell (zxG X).2.2.1 (m1, .inl f)).slots.getD ((0 : Int32).toNatClampNeg + i) .null = .int (f ((0 : Int32).toNatClampNeg + i)) := by
        show (arrV (zxG X).2.2.1 m1 (fun j => .int (f j))).slots.getD _ _ = _
        rw [Array.getD_eq_getD_getElem?, arrV_read _ _ (by rw [zz]; omega)]
        rfl
      refine ⟨?_, ?_⟩
      · rw [e]; rfl
      · rw [e]; exact trivial)
    (g := F0 m pc ls (.int k :: .int 0 :: .ref b :: .int 0 :: .ref a :: rest)) rfl (by rw [hF.2.2.2.1]; exact h6.1) (rest := rest) rfl (by rw [hF.2.1]; exact hd) hR.1 (by show 2 * 0 + _ + _ ≤ _; have := hR.2; omega)
  have e1 : copied (vp_cell (zxG X).2.2.1 (m1, .inl f)) (vp_cell (zxG X).2.2.1 (m2, .inl g)) 0 0 k = vp_cell (zxG X).2.2.1 (m2, .inl (va_cpy f g (0 : Int32).toNatClampNeg (0 : Int32).toNatClampNeg k.toNatClampNeg)) := va_copied (fun z => .int z) _ _ f g (by rw [zz]; omega)
  rw [zz] at e1
  rw [e1] at X' step
  have hl2 : b < H.size := (Array.getElem?_eq_some_iff.mp hc1).1
  have hheap : ((T.setVm vm').setCell b (vp_cell (zxG X).2.2.1 (m2, .inl (va_cpy f g 0 0 k.toNatClampNeg)))).heap = H.setIfInBounds b (vp_cell (zxG X).2.2.1 (m2, .inl (va_cpy f g 0 0 k.toNatClampNeg))) := by rw [← hT]; rfl
  have oq : ∀ q : Nat, q ≠ b → (H.setIfInBounds b (vp_cell (zxG X).2.2.1 (m2, .inl (va_cpy f g 0 0 k.toNatClampNeg))))[q]? = H[q]? := fun q hq => by simp [Array.getElem?_setIfInBounds, Ne.symm hq]
  have hbA : zA (zxH X) (zxN X) b := h4 b (by rw [hb]; simp)
  obtain ⟨t, a1, b1⟩ := kk none _ n hK p e s0 m below meth c0 _ _ ls hF h1 (by simp; exact h2) (zupW h3 oq (show (H.setIfInBounds b _)[b]? = some _ by simp [Array.getElem?_setIfInBounds, hl2])) (zA_set h4 hb) ⟨by simp; exact h5.1, fun q g1 g2 => by
      rw [oq q (fun e => g2 (by rw [e]; exact hbA))]
      exact h5.2.1 q g1 g2, fun q hq => by
      rcases List.mem_append.mp hq with h | h
      · exact h5.2.2 q h
      · obtain ⟨z, -, hz⟩ := List.mem_map.mp h
        rw [← hz]
        exact hbA⟩ h6 _ hheap X'
  exact ⟨t, step t a1, b1⟩
end zJ

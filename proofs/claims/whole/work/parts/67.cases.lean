set_option maxRecDepth 100000 in
theorem zk_clear {G : zC} {b0 N0 L : Nat} {xs : Nat → Int32} {t ms x i k n c s : Nat} {h : zH} (hL : L ≤ 258) (hi : i + 3 < L) (hk : k ≤ 64) (hc : c + 20 ≤ 600128) (hs : s + 8000 ≤ 7301064) (H : zLi G h n x t k) (hgo : ∀ h' n' c' s', zLi G h' n' x t (k + 1) → c' ≤ c + 9 → s' ≤ s + 7530 → zZ (zXl G b0 N0 L xs t ms) 789 (zlv b0 x i) [] h' n' c' s') : zZ (zXl G b0 N0 L xs t ms) 160 (zlv b0 x i) [] h n c s := by
  obtain ⟨rn, o, rm, a, tx, gg, rx, M, z, XX, F, v, g, f, hB, hC, hrn, he, hR, hJ⟩ := H
  refine z_aload_n dL_law_160 rfl ?_
  refine zcall1 (zck_V (na := 0) (ci := 10) (R' := rX10_clear) (M' := mX10_clear) (fun _ _ _ _ => tvX10_clear) (by decide) kX10_clear lL_27 (by decide +kernel) rfl) dL_law_161 (by show c + 0 ≤ 600128; omega) (by show s + 0 ≤ 7301064; omega) (Nat.le_of_ble_eq_true rfl) ?_
  refine ⟨x, x + 68, t, rn, o, rm, a, tx, gg, rx, M, z, XX, F, rfl, hB, hC, by omega, fun h1 n1 hC1 hf1 hn1 => ?_⟩
  have e1 := zRh_self he (fun q q1 q2 => hf1 q (by omega) (by omega))
  refine z_aload_n dL_law_164 rfl ?_
  refine zcall1 (zck_V (na := 0) (ci := 11) (R' := rX11_clear) (M' := mX11_clear) (fun _ _ _ _ => tvX11_clear) (by decide) kX11_clear lL_31 (by decide +kernel) rfl) dL_law_165 (by show c + 0 + 0 ≤ 600128; omega) (by show s + 0 + 0 ≤ 7301064; omega) (Nat.le_of_ble_eq_true rfl) ?_
  refine ⟨h1, x + 47, v, g, o, rm, a, tx, gg, rx, M, z, XX, F, rfl, e1, hB, hR, fun v' g' hR' => ?_⟩
  refine z_icmp_eq (t := 789) dL_law_168 (by decide) (fun _ => ?_) (fun q => absurd rfl q)
  exact hgo _ _ _ _ ⟨rn + 302, _, _, _, _, _, _, _, _, _, _, v', g', f, hB.clear, hC1.cg (fun q hq => zRh_out (by omega)) (Nat.le_refl _) (Nat.le_refl _), by omega, zRh_rf, hR', (zRh_out (by omega)).trans ((hf1 _ (by omega) (by omega)).trans hJ)⟩ (by show c + 0 + 0 ≤ c + 9; omega) (by show s + 0 + 0 ≤ s + 7530; omega)
set_option maxRecDepth 100000 in
theorem zk_add {G : zC} {b0 N0 L : Nat} {xs : Nat → Int32} {t ms x i k n c s : Nat} {h : zH} (hL : L ≤ 258) (hi : i + 3 < L) (hk : k ≤ 64) (hc : c + 20 ≤ 600128) (hs : s + 8000 ≤ 7301064) (H : zLi G h n x t k) (hgo : ∀ h' n' c' s', zLi G h' n' x t (k + 1) → c' ≤ c + 9 → s' ≤ s + 7530 → zZ (zXl G b0 N0 L xs t ms) 789 (zlv b0 x i) [] h' n' c' s') : zZ (zXl G b0 N0 L xs t ms) 173 (zlv b0 x i) [] h n c s := by
  obtain ⟨rn, o, rm, a, tx, gg, rx, M, z, XX, F, v, g, f, hB, hC, hrn, he, hR, hJ⟩ := H
  refine z_aload_n dL_law_173 rfl ?_
  refine z_aload_n dL_law_174 rfl ?_
  refine z_iload dL_law_175 rfl ?_
  refine z_iconst (w := 1) dL_law_177 (by decide) ?_
  refine z_iadd dL_law_178 ?_
  refine z_sld (fun _ _ q => q.1) dL_law_179 (zlin (i := i) (j := 1) (by omega) hL) ?_
  refine zcall2 (zck_V (na := 1) (ci := 10) (R' := rX10_add) (M' := mX10_add) (fun _ _ _ _ => tvX10_add) (by decide) kX10_add lL_32 (by decide +kernel) rfl) dL_law_180 (by show c + 0 ≤ 600128; omega) (by show s + 0 ≤ 7301064; omega) (Nat.le_of_ble_eq_true rfl) ?_
  refine ⟨x, x + 68, t, rn, o, rm, a, tx, gg, rx, M, z, XX, F, _, rfl, hB, hC, by omega, fun h1 n1 hC1 hf1 hn1 => ?_⟩
  have e1 := zRh_self he (fun q q1 q2 => hf1 q (by omega) (by omega))
  refine z_aload_n dL_law_183 rfl ?_
  refine z_aload_n dL_law_184 rfl ?_
  refine z_iload dL_law_185 rfl ?_
  refine z_iconst (w := 1) dL_law_187 (by decide) ?_
  refine z_iadd dL_law_188 ?_
  refine z_sld (fun _ _ q => q.1) dL_law_189 (zlin (i := i) (j := 1) (by omega) hL) ?_
  refine zcall2 (zck_V (na := 1) (ci := 11) (R' := rX11_add) (M' := mX11_add) (fun _ _ _ _ => tvX11_add) (by decide) kX11_add lL_36 (by decide +kernel) rfl) dL_law_190 (by show c + 0 + 0 ≤ 600128; omega) (by show s + 0 + 0 ≤ 7301064; omega) (Nat.le_of_ble_eq_true rfl) ?_
  refine ⟨h1, x + 47, v, g, o, rm, a, tx, gg, rx, M, z, XX, F, _, rfl, e1, hB, hR, fun v' g' hR' => ?_⟩
  refine z_icmp_eq (t := 789) dL_law_193 (by decide) (fun _ => ?_) (fun q => absurd rfl q)
  exact hgo _ _ _ _ ⟨rn + 302, _, _, _, _, _, _, _, _, _, _, v', g', f, (hB.add _), hC1.cg (fun q hq => zRh_out (by omega)) (Nat.le_refl _) (Nat.le_refl _), by omega, zRh_rf, hR', (zRh_out (by omega)).trans ((hf1 _ (by omega) (by omega)).trans hJ)⟩ (by show c + 0 + 0 ≤ c + 9; omega) (by show s + 0 + 0 ≤ s + 7530; omega)
set_option maxRecDepth 100000 in
theorem zk_fill {G : zC} {b0 N0 L : Nat} {xs : Nat → Int32} {t ms x i k n c s : Nat} {h : zH} (hL : L ≤ 258) (hi : i + 3 < L) (hk : k ≤ 64) (hc : c + 20 ≤ 600128) (hs : s + 8000 ≤ 7301064) (H : zLi G h n x t k) (hgo : ∀ h' n' c' s', zLi G h' n' x t (k + 1) → c' ≤ c + 9 → s' ≤ s + 7530 → zZ (zXl G b0 N0 L xs t ms) 789 (zlv b0 x i) [] h' n' c' s') : zZ (zXl G b0 N0 L xs t ms) 198 (zlv b0 x i) [] h n c s := by
  obtain ⟨rn, o, rm, a, tx, gg, rx, M, z, XX, F, v, g, f, hB, hC, hrn, he, hR, hJ⟩ := H
  refine z_aload_n dL_law_198 rfl ?_
  refine z_aload_n dL_law_199 rfl ?_
  refine z_iload dL_law_200 rfl ?_
  refine z_iconst (w := 1) dL_law_202 (by decide) ?_
  refine z_iadd dL_law_203 ?_
  refine z_sld (fun _ _ q => q.1) dL_law_204 (zlin (i := i) (j := 1) (by omega) hL) ?_
  refine z_aload_n dL_law_205 rfl ?_
  refine z_iload dL_law_206 rfl ?_
  refine z_iconst (w := 2) dL_law_208 (by decide) ?_
  refine z_iadd dL_law_209 ?_
  refine z_sld (fun _ _ q => q.1) dL_law_210 (zlin (i := i) (j := 2) (by omega) hL) ?_
  refine z_aload_n dL_law_211 rfl ?_
  refine z_iload dL_law_212 rfl ?_
  refine z_iconst (w := 3) dL_law_214 (by decide) ?_
  refine z_iadd dL_law_215 ?_
  refine z_sld (fun _ _ q => q.1) dL_law_216 (zlin (i := i) (j := 3) (by omega) hL) ?_
  refine zcall4 (zck_V (na := 3) (ci := 10) (R' := rX10_fill) (M' := mX10_fill) (fun _ _ _ _ => tvX10_fill) (by decide) kX10_fill lL_37 (by decide +kernel) rfl) dL_law_217 (by show c + 0 ≤ 600128; omega) (by show s + 0 ≤ 7301064; omega) (Nat.le_of_ble_eq_true rfl) ?_
  refine ⟨x, x + 68, t, rn, o, rm, a, tx, gg, rx, M, z, XX, F, _, _, _, rfl, hB, hC, by omega, fun h1 n1 hC1 hf1 hn1 => ?_⟩
  have e1 := zRh_self he (fun q q1 q2 => hf1 q (by omega) (by omega))
  refine z_aload_n dL_law_220 rfl ?_
  refine z_aload_n dL_law_221 rfl ?_
  refine z_iload dL_law_222 rfl ?_
  refine z_iconst (w := 1) dL_law_224 (by decide) ?_
  refine z_iadd dL_law_225 ?_
  refine z_sld (fun _ _ q => q.1) dL_law_226 (zlin (i := i) (j := 1) (by omega) hL) ?_
  refine z_aload_n dL_law_227 rfl ?_
  refine z_iload dL_law_228 rfl ?_
  refine z_iconst (w := 2) dL_law_230 (by decide) ?_
  refine z_iadd dL_law_231 ?_
  refine z_sld (fun _ _ q => q.1) dL_law_232 (zlin (i := i) (j := 2) (by omega) hL) ?_
  refine z_aload_n dL_law_233 rfl ?_
  refine z_iload dL_law_234 rfl ?_
  refine z_iconst (w := 3) dL_law_236 (by decide) ?_
  refine z_iadd dL_law_237 ?_
  refine z_sld (fun _ _ q => q.1) dL_law_238 (zlin (i := i) (j := 3) (by omega) hL) ?_
  refine zcall4 (zck_V (na := 3) (ci := 11) (R' := rX11_fill) (M' := mX11_fill) (fun _ _ _ _ => tvX11_fill) (by decide) kX11_fill lL_40 (by decide +kernel) rfl) dL_law_239 (by show c + 0 + 0 ≤ 600128; omega) (by show s + 0 + 0 ≤ 7301064; omega) (Nat.le_of_ble_eq_true rfl) ?_
  refine ⟨h1, x + 47, v, g, o, rm, a, tx, gg, rx, M, z, XX, F, _, _, _, rfl, e1, hB, hR, fun v' g' hR' => ?_⟩
  refine z_icmp_eq (t := 789) dL_law_242 (by decide) (fun _ => ?_) (fun q => absurd rfl q)
  exact hgo _ _ _ _ ⟨rn + 302, _, _, _, _, _, _, _, _, _, _, v', g', f, (hB.fill _ _ _), hC1.cg (fun q hq => zRh_out (by omega)) (Nat.le_refl _) (Nat.le_refl _), by omega, zRh_rf, hR', (zRh_out (by omega)).trans ((hf1 _ (by omega) (by omega)).trans hJ)⟩ (by show c + 0 + 0 ≤ c + 9; omega) (by show s + 0 + 0 ≤ s + 7530; omega)
set_option maxRecDepth 100000 in
theorem zk_size {G : zC} {b0 N0 L : Nat} {xs : Nat → Int32} {t ms x i k n c s : Nat} {h : zH} (hL : L ≤ 258) (hi : i + 3 < L) (hk : k ≤ 64) (hc : c + 20 ≤ 600128) (hs : s + 8000 ≤ 7301064) (H : zLi G h n x t k) (hgo : ∀ h' n' c' s', zLi G h' n' x t (k + 1) → c' ≤ c + 9 → s' ≤ s + 7530 → zZ (zXl G b0 N0 L xs t ms) 789 (zlv b0 x i) [] h' n' c' s') : zZ (zXl G b0 N0 L xs t ms) 247 (zlv b0 x i) [] h n c s := by
  obtain ⟨rn, o, rm, a, tx, gg, rx, M, z, XX, F, v, g, f, hB, hC, hrn, he, hR, hJ⟩ := H
  refine z_aload_n dL_law_247 rfl ?_
  refine z_aload_n dL_law_248 rfl ?_
  refine z_iload dL_law_249 rfl ?_
  refine z_iconst (w := 1) dL_law_251 (by decide) ?_
  refine z_iadd dL_law_252 ?_
  refine z_sld (fun _ _ q => q.1) dL_law_253 (zlin (i := i) (j := 1) (by omega) hL) ?_
  refine zcall2 (zck_V (na := 1) (ci := 10) (R' := rX10_size) (M' := mX10_size) (fun _ _ _ _ => tvX10_size) (by decide) kX10_size lL_41 (by decide +kernel) rfl) dL_law_254 (by show c + 0 ≤ 600128; omega) (by show s + 0 ≤ 7301064; omega) (Nat.le_of_ble_eq_true rfl) ?_
  refine ⟨x, x + 68, t, rn, o, rm, a, tx, gg, rx, M, z, XX, F, _, rfl, hB, hC, by omega, fun h1 n1 hC1 hf1 hn1 => ?_⟩
  have e1 := zRh_self he (fun q q1 q2 => hf1 q (by omega) (by omega))
  refine z_aload_n dL_law_257 rfl ?_
  refine z_aload_n dL_law_258 rfl ?_
  refine z_iload dL_law_259 rfl ?_
  refine z_iconst (w := 1) dL_law_261 (by decide) ?_
  refine z_iadd dL_law_262 ?_
  refine z_sld (fun _ _ q => q.1) dL_law_263 (zlin (i := i) (j := 1) (by omega) hL) ?_
  refine zcall2 (zck_V (na := 1) (ci := 11) (R' := rX11_size) (M' := mX11_size) (fun _ _ _ _ => tvX11_size) (by decide) kX11_size lL_44 (by decide +kernel) rfl) dL_law_264 (by show c + 0 + 0 ≤ 600128; omega) (by show s + 0 + 0 ≤ 7301064; omega) (Nat.le_of_ble_eq_true rfl) ?_
  refine ⟨h1, x + 47, v, g, o, rm, a, tx, gg, rx, M, z, XX, F, _, rfl, e1, hB, hR, fun v' g' hR' => ?_⟩
  refine z_icmp_eq (t := 789) dL_law_267 (by decide) (fun _ => ?_) (fun q => absurd rfl q)
  exact hgo _ _ _ _ ⟨rn + 302, _, _, _, _, _, _, _, _, _, _, v', g', f, hB, hC1.cg (fun q hq => zRh_out (by omega)) (Nat.le_refl _) (Nat.le_refl _), by omega, zRh_rf, hR', (zRh_out (by omega)).trans ((hf1 _ (by omega) (by omega)).trans hJ)⟩ (by show c + 0 + 0 ≤ c + 9; omega) (by show s + 0 + 0 ≤ s + 7530; omega)
set_option maxRecDepth 100000 in
theorem zk_octet {G : zC} {b0 N0 L : Nat} {xs : Nat → Int32} {t ms x i k n c s : Nat} {h : zH} (hL : L ≤ 258) (hi : i + 3 < L) (hk : k ≤ 64) (hc : c + 20 ≤ 600128) (hs : s + 8000 ≤ 7301064) (H : zLi G h n x t k) (hgo : ∀ h' n' c' s', zLi G h' n' x t (k + 1) → c' ≤ c + 9 → s' ≤ s + 7530 → zZ (zXl G b0 N0 L xs t ms) 789 (zlv b0 x i) [] h' n' c' s') : zZ (zXl G b0 N0 L xs t ms) 272 (zlv b0 x i) [] h n c s := by
  obtain ⟨rn, o, rm, a, tx, gg, rx, M, z, XX, F, v, g, f, hB, hC, hrn, he, hR, hJ⟩ := H
  refine z_aload_n dL_law_272 rfl ?_
  refine z_aload_n dL_law_273 rfl ?_
  refine z_iload dL_law_274 rfl ?_
  refine z_iconst (w := 1) dL_law_276 (by decide) ?_
  refine z_iadd dL_law_277 ?_
  refine z_sld (fun _ _ q => q.1) dL_law_278 (zlin (i := i) (j := 1) (by omega) hL) ?_
  refine z_aload_n dL_law_279 rfl ?_
  refine z_iload dL_law_280 rfl ?_
  refine z_iconst (w := 2) dL_law_282 (by decide) ?_
  refine z_iadd dL_law_283 ?_
  refine z_sld (fun _ _ q => q.1) dL_law_284 (zlin (i := i) (j := 2) (by omega) hL) ?_
  refine zcall3 (zck_V (na := 2) (ci := 10) (R' := rX10_octet) (M' := mX10_octet) (fun _ _ _ _ => tvX10_octet) (by decide) kX10_octet lL_45 (by decide +kernel) rfl) dL_law_285 (by show c + 0 ≤ 600128; omega) (by show s + 0 ≤ 7301064; omega) (Nat.le_of_ble_eq_true rfl) ?_
  refine ⟨x, x + 68, t, rn, o, rm, a, tx, gg, rx, M, z, XX, F, _, _, rfl, hB, hC, by omega, fun h1 n1 hC1 hf1 hn1 => ?_⟩
  have e1 := zRh_self he (fun q q1 q2 => hf1 q (by omega) (by omega))
  refine z_aload_n dL_law_288 rfl ?_
  refine z_aload_n dL_law_289 rfl ?_
  refine z_iload dL_law_290 rfl ?_
  refine z_iconst (w := 1) dL_law_292 (by decide) ?_
  refine z_iadd dL_law_293 ?_
  refine z_sld (fun _ _ q => q.1) dL_law_294 (zlin (i := i) (j := 1) (by omega) hL) ?_
  refine z_aload_n dL_law_295 rfl ?_
  refine z_iload dL_law_296 rfl ?_
  refine z_iconst (w := 2) dL_law_298 (by decide) ?_
  refine z_iadd dL_law_299 ?_
  refine z_sld (fun _ _ q => q.1) dL_law_300 (zlin (i := i) (j := 2) (by omega) hL) ?_
  refine zcall3 (zck_V (na := 2) (ci := 11) (R' := rX11_octet) (M' := mX11_octet) (fun _ _ _ _ => tvX11_octet) (by decide) kX11_octet lL_49 (by decide +kernel) rfl) dL_law_301 (by show c + 0 + 0 ≤ 600128; omega) (by show s + 0 + 0 ≤ 7301064; omega) (Nat.le_of_ble_eq_true rfl) ?_
  refine ⟨h1, x + 47, v, g, o, rm, a, tx, gg, rx, M, z, XX, F, _, _, rfl, e1, hB, hR, fun v' g' hR' => ?_⟩
  refine z_icmp_eq (t := 789) dL_law_304 (by decide) (fun _ => ?_) (fun q => absurd rfl q)
  exact hgo _ _ _ _ ⟨rn + 302, _, _, _, _, _, _, _, _, _, _, v', g', f, hB, hC1.cg (fun q hq => zRh_out (by omega)) (Nat.le_refl _) (Nat.le_refl _), by omega, zRh_rf, hR', (zRh_out (by omega)).trans ((hf1 _ (by omega) (by omega)).trans hJ)⟩ (by show c + 0 + 0 ≤ c + 9; omega) (by show s + 0 + 0 ≤ s + 7530; omega)
set_option maxRecDepth 100000 in
theorem zk_alter {G : zC} {b0 N0 L : Nat} {xs : Nat → Int32} {t ms x i k n c s : Nat} {h : zH} (hL : L ≤ 258) (hi : i + 3 < L) (hk : k ≤ 64) (hc : c + 20 ≤ 600128) (hs : s + 8000 ≤ 7301064) (H : zLi G h n x t k) (hgo : ∀ h' n' c' s', zLi G h' n' x t (k + 1) → c' ≤ c + 9 → s' ≤ s + 7530 → zZ (zXl G b0 N0 L xs t ms) 789 (zlv b0 x i) [] h' n' c' s') : zZ (zXl G b0 N0 L xs t ms) 309 (zlv b0 x i) [] h n c s := by
  obtain ⟨rn, o, rm, a, tx, gg, rx, M, z, XX, F, v, g, f, hB, hC, hrn, he, hR, hJ⟩ := H
  refine z_aload_n dL_law_309 rfl ?_
  refine z_aload_n dL_law_310 rfl ?_
  refine z_iload dL_law_311 rfl ?_
  refine z_iconst (w := 1) dL_law_313 (by decide) ?_
  refine z_iadd dL_law_314 ?_
  refine z_sld (fun _ _ q => q.1) dL_law_315 (zlin (i := i) (j := 1) (by omega) hL) ?_
  refine z_aload_n dL_law_316 rfl ?_
  refine z_iload dL_law_317 rfl ?_
  refine z_iconst (w := 2) dL_law_319 (by decide) ?_
  refine z_iadd dL_law_320 ?_
  refine z_sld (fun _ _ q => q.1) dL_law_321 (zlin (i := i) (j := 2) (by omega) hL) ?_
  refine zcall3 (zck_V (na := 2) (ci := 10) (R' := rX10_alter) (M' := mX10_alter) (fun _ _ _ _ => tvX10_alter) (by decide) kX10_alter lL_50 (by decide +kernel) rfl) dL_law_322 (by show c + 0 ≤ 600128; omega) (by show s + 0 ≤ 7301064; omega) (Nat.le_of_ble_eq_true rfl) ?_
  refine ⟨x, x + 68, t, rn, o, rm, a, tx, gg, rx, M, z, XX, F, _, _, rfl, hB, hC, by omega, fun h1 n1 hC1 hf1 hn1 => ?_⟩
  have e1 := zRh_self he (fun q q1 q2 => hf1 q (by omega) (by omega))
  refine z_aload_n dL_law_325 rfl ?_
  refine z_aload_n dL_law_326 rfl ?_
  refine z_iload dL_law_327 rfl ?_
  refine z_iconst (w := 1) dL_law_329 (by decide) ?_
  refine z_iadd dL_law_330 ?_
  refine z_sld (fun _ _ q => q.1) dL_law_331 (zlin (i := i) (j := 1) (by omega) hL) ?_
  refine z_aload_n dL_law_332 rfl ?_
  refine z_iload dL_law_333 rfl ?_
  refine z_iconst (w := 2) dL_law_335 (by decide) ?_
  refine z_iadd dL_law_336 ?_
  refine z_sld (fun _ _ q => q.1) dL_law_337 (zlin (i := i) (j := 2) (by omega) hL) ?_
  refine zcall3 (zck_V (na := 2) (ci := 11) (R' := rX11_alter) (M' := mX11_alter) (fun _ _ _ _ => tvX11_alter) (by decide) kX11_alter lL_53 (by decide +kernel) rfl) dL_law_338 (by show c + 0 + 0 ≤ 600128; omega) (by show s + 0 + 0 ≤ 7301064; omega) (Nat.le_of_ble_eq_true rfl) ?_
  refine ⟨h1, x + 47, v, g, o, rm, a, tx, gg, rx, M, z, XX, F, _, _, rfl, e1, hB, hR, fun v' g' hR' => ?_⟩
  refine z_icmp_eq (t := 789) dL_law_341 (by decide) (fun _ => ?_) (fun q => absurd rfl q)
  exact hgo _ _ _ _ ⟨rn + 302, _, _, _, _, _, _, _, _, _, _, v', g', f, hB, hC1.cg (fun q hq => zRh_out (by omega)) (Nat.le_refl _) (Nat.le_refl _), by omega, zRh_rf, hR', (zRh_out (by omega)).trans ((hf1 _ (by omega) (by omega)).trans hJ)⟩ (by show c + 0 + 0 ≤ c + 9; omega) (by show s + 0 + 0 ≤ s + 7530; omega)
set_option maxRecDepth 100000 in
theorem zk_cut {G : zC} {b0 N0 L : Nat} {xs : Nat → Int32} {t ms x i k n c s : Nat} {h : zH} (hL : L ≤ 258) (hi : i + 3 < L) (hk : k ≤ 64) (hc : c + 20 ≤ 600128) (hs : s + 8000 ≤ 7301064) (H : zLi G h n x t k) (hgo : ∀ h' n' c' s', zLi G h' n' x t (k + 1) → c' ≤ c + 9 → s' ≤ s + 7530 → zZ (zXl G b0 N0 L xs t ms) 789 (zlv b0 x i) [] h' n' c' s') : zZ (zXl G b0 N0 L xs t ms) 346 (zlv b0 x i) [] h n c s := by
  obtain ⟨rn, o, rm, a, tx, gg, rx, M, z, XX, F, v, g, f, hB, hC, hrn, he, hR, hJ⟩ := H
  refine z_aload_n dL_law_346 rfl ?_
  refine z_aload_n dL_law_347 rfl ?_
  refine z_iload dL_law_348 rfl ?_
  refine z_iconst (w := 1) dL_law_350 (by decide) ?_
  refine z_iadd dL_law_351 ?_
  refine z_sld (fun _ _ q => q.1) dL_law_352 (zlin (i := i) (j := 1) (by omega) hL) ?_
  refine zcall2 (zck_V (na := 1) (ci := 10) (R' := rX10_cut) (M' := mX10_cut) (fun _ _ _ _ => tvX10_cut) (by decide) kX10_cut lL_54 (by decide +kernel) rfl) dL_law_353 (by show c + 0 ≤ 600128; omega) (by show s + 0 ≤ 7301064; omega) (Nat.le_of_ble_eq_true rfl) ?_
  refine ⟨x, x + 68, t, rn, o, rm, a, tx, gg, rx, M, z, XX, F, _, rfl, hB, hC, by omega, fun h1 n1 hC1 hf1 hn1 => ?_⟩
  have e1 := zRh_self he (fun q q1 q2 => hf1 q (by omega) (by omega))
  refine z_aload_n dL_law_356 rfl ?_
  refine z_aload_n dL_law_357 rfl ?_
  refine z_iload dL_law_358 rfl ?_
  refine z_iconst (w := 1) dL_law_360 (by decide) ?_
  refine z_iadd dL_law_361 ?_
  refine z_sld (fun _ _ q => q.1) dL_law_362 (zlin (i := i) (j := 1) (by omega) hL) ?_
  refine zcall2 (zck_V (na := 1) (ci := 11) (R' := rX11_cut) (M' := mX11_cut) (fun _ _ _ _ => tvX11_cut) (by decide) kX11_cut lL_57 (by decide +kernel) rfl) dL_law_363 (by show c + 0 + 0 ≤ 600128; omega) (by show s + 0 + 0 ≤ 7301064; omega) (Nat.le_of_ble_eq_true rfl) ?_
  refine ⟨h1, x + 47, v, g, o, rm, a, tx, gg, rx, M, z, XX, F, _, rfl, e1, hB, hR, fun v' g' hR' => ?_⟩
  refine z_icmp_eq (t := 789) dL_law_366 (by decide) (fun _ => ?_) (fun q => absurd rfl q)
  exact hgo _ _ _ _ ⟨rn + 302, _, _, _, _, _, _, _, _, _, _, v', g', f, (hB.cut _), hC1.cg (fun q hq => zRh_out (by omega)) (Nat.le_refl _) (Nat.le_refl _), by omega, zRh_rf, hR', (zRh_out (by omega)).trans ((hf1 _ (by omega) (by omega)).trans hJ)⟩ (by show c + 0 + 0 ≤ c + 9; omega) (by show s + 0 + 0 ≤ s + 7530; omega)
set_option maxRecDepth 100000 in
theorem zk_pack {G : zC} {b0 N0 L : Nat} {xs : Nat → Int32} {t ms x i k n c s : Nat} {h : zH} (hL : L ≤ 258) (hi : i + 3 < L) (hk : k ≤ 64) (hc : c + 20 ≤ 600128) (hs : s + 8000 ≤ 7301064) (H : zLi G h n x t k) (hgo : ∀ h' n' c' s', zLi G h' n' x t (k + 1) → c' ≤ c + 9 → s' ≤ s + 7530 → zZ (zXl G b0 N0 L xs t ms) 789 (zlv b0 x i) [] h' n' c' s') : zZ (zXl G b0 N0 L xs t ms) 371 (zlv b0 x i) [] h n c s := by
  obtain ⟨rn, o, rm, a, tx, gg, rx, M, z, XX, F, v, g, f, hB, hC, hrn, he, hR, hJ⟩ := H
  refine z_aload_n dL_law_371 rfl ?_
  refine zcall1 (zck_V (na := 0) (ci := 10) (R' := rX10_pack) (M' := mX10_pack) (fun _ _ _ _ => tvX10_pack) (by decide) kX10_pack lL_58 (by decide +kernel) rfl) dL_law_372 (by show c + 0 ≤ 600128; omega) (by show s + 0 ≤ 7301064; omega) (Nat.le_of_ble_eq_true rfl) ?_
  refine ⟨x, x + 68, t, rn, o, rm, a, tx, gg, rx, M, z, XX, F, rfl, hB, hC, by omega, fun h1 R hP hC1 hf1 => ?_⟩
  have e1 := zRh_self he (fun q q1 q2 => hf1 q (by omega) (by omega))
  refine z_aload_n dL_law_375 rfl ?_
  refine zcall1 (zck_V (na := 0) (ci := 11) (R' := rX11_pack) (M' := mX11_pack) (fun _ _ _ _ => tvX11_pack) (by decide) kX11_pack lL_61 (by decide +kernel) rfl) dL_law_376 (by show c + 0 + 0 ≤ 600128; omega) (by show s + 0 + 0 ≤ 7301064; omega) (Nat.le_of_ble_eq_true rfl) ?_
  refine ⟨h1, x + 47, v, g, o, rm, a, tx, gg, rx, M, z, XX, F, R, rfl, e1, hB, hR, hP, fun v' g' hR' => ?_⟩
  refine z_icmp_eq (t := 789) dL_law_379 (by decide) (fun _ => ?_) (fun q => absurd rfl q)
  exact hgo _ _ _ _ ⟨rn + 302, _, _, _, _, _, _, _, _, _, _, v', g', f, (hB.pack hP), hC1.cg (fun q hq => zRh_out (by omega)) (Nat.le_refl _) (Nat.le_refl _), by omega, zRh_rf, hR', (zRh_out (by omega)).trans ((hf1 _ (by omega) (by omega)).trans hJ)⟩ (by show c + 0 + 0 ≤ c + 9; omega) (by show s + 0 + 0 ≤ s + 7530; omega)
set_option maxRecDepth 100000 in
theorem zk_open {G : zC} {b0 N0 L : Nat} {xs : Nat → Int32} {t ms x i k n c s : Nat} {h : zH} (hL : L ≤ 258) (hi : i + 3 < L) (hk : k ≤ 64) (hc : c + 20 ≤ 600128) (hs : s + 8000 ≤ 7301064) (H : zLi G h n x t k) (hgo : ∀ h' n' c' s', zLi G h' n' x t (k + 1) → c' ≤ c + 9 → s' ≤ s + 7530 → zZ (zXl G b0 N0 L xs t ms) 789 (zlv b0 x i) [] h' n' c' s') : zZ (zXl G b0 N0 L xs t ms) 384 (zlv b0 x i) [] h n c s := by
  obtain ⟨rn, o, rm, a, tx, gg, rx, M, z, XX, F, v, g, f, hB, hC, hrn, he, hR, hJ⟩ := H
  refine z_aload_n dL_law_384 rfl ?_
  refine zcall1 (zck_V (na := 0) (ci := 10) (R' := rX10_open) (M' := mX10_open) (fun _ _ _ _ => tvX10_open) (by decide) kX10_open lL_62 (by decide +kernel) rfl) dL_law_385 (by show c + 0 ≤ 600128; omega) (by show s + 0 ≤ 7301064; omega) (Nat.le_of_ble_eq_true rfl) ?_
  refine ⟨x, x + 68, t, rn, o, rm, a, tx, gg, rx, M, z, XX, F, rfl, hB, hC, by omega, fun h1 a1 rx1 M1 z1 r hP hC1 hf1 => ?_⟩
  have e1 := zRh_self he (fun q q1 q2 => hf1 q (by omega) (by omega))
  refine z_aload_n dL_law_388 rfl ?_
  refine zcall1 (zck_V (na := 0) (ci := 11) (R' := rX11_open) (M' := mX11_open) (fun _ _ _ _ => tvX11_open) (by decide) kX11_open lL_65 (by decide +kernel) rfl) dL_law_389 (by show c + 0 + 0 ≤ 600128; omega) (by show s + 0 + 0 ≤ 7301064; omega) (Nat.le_of_ble_eq_true rfl) ?_
  refine ⟨h1, x + 47, v, g, o, rm, a, tx, gg, rx, M, z, XX, F, a1, rx1, M1, z1, r, rfl, e1, hB, hR, hP, fun v' g' hR' => ?_⟩
  refine z_icmp_eq (t := 789) dL_law_392 (by decide) (fun _ => ?_) (fun q => absurd rfl q)
  exact hgo _ _ _ _ ⟨rn + 302, _, _, _, _, _, _, _, _, _, _, v', g', f, (hB.opn hP), hC1.cg (fun q hq => zRh_out (by omega)) (Nat.le_refl _) (Nat.le_refl _), by omega, zRh_rf, hR', (zRh_out (by omega)).trans ((hf1 _ (by omega) (by omega)).trans hJ)⟩ (by show c + 0 + 0 ≤ c + 9; omega) (by show s + 0 + 0 ≤ s + 7530; omega)
set_option maxRecDepth 100000 in
theorem zk_place {G : zC} {b0 N0 L : Nat} {xs : Nat → Int32} {t ms x i k n c s : Nat} {h : zH} (hL : L ≤ 258) (hi : i + 3 < L) (hk : k ≤ 64) (hc : c + 20 ≤ 600128) (hs : s + 8000 ≤ 7301064) (H : zLi G h n x t k) (hgo : ∀ h' n' c' s', zLi G h' n' x t (k + 1) → c' ≤ c + 9 → s' ≤ s + 7530 → zZ (zXl G b0 N0 L xs t ms) 789 (zlv b0 x i) [] h' n' c' s') : zZ (zXl G b0 N0 L xs t ms) 397 (zlv b0 x i) [] h n c s := by
  obtain ⟨rn, o, rm, a, tx, gg, rx, M, z, XX, F, v, g, f, hB, hC, hrn, he, hR, hJ⟩ := H
  refine z_aload_n dL_law_397 rfl ?_
  refine zcall1 (zck_V (na := 0) (ci := 10) (R' := rX10_place) (M' := mX10_place) (fun _ _ _ _ => tvX10_place) (by decide) kX10_place lL_66 (by decide +kernel) rfl) dL_law_398 (by show c + 0 ≤ 600128; omega) (by show s + 0 ≤ 7301064; omega) (Nat.le_of_ble_eq_true rfl) ?_
  refine ⟨x, x + 68, t, rn, o, rm, a, tx, gg, rx, M, z, XX, F, rfl, hB, hC, by omega, fun h1 n1 hC1 hf1 hn1 => ?_⟩
  have e1 := zRh_self he (fun q q1 q2 => hf1 q (by omega) (by omega))
  refine z_aload_n dL_law_401 rfl ?_
  refine zcall1 (zck_V (na := 0) (ci := 11) (R' := rX11_place) (M' := mX11_place) (fun _ _ _ _ => tvX11_place) (by decide) kX11_place lL_69 (by decide +kernel) rfl) dL_law_402 (by show c + 0 + 0 ≤ 600128; omega) (by show s + 0 + 0 ≤ 7301064; omega) (Nat.le_of_ble_eq_true rfl) ?_
  refine ⟨h1, x + 47, v, g, o, rm, a, tx, gg, rx, M, z, XX, F, rfl, e1, hB, hR, fun v' g' hR' => ?_⟩
  refine z_icmp_eq (t := 789) dL_law_405 (by decide) (fun _ => ?_) (fun q => absurd rfl q)
  exact hgo _ _ _ _ ⟨rn + 302, _, _, _, _, _, _, _, _, _, _, v', g', f, hB, hC1.cg (fun q hq => zRh_out (by omega)) (Nat.le_refl _) (Nat.le_refl _), by omega, zRh_rf, hR', (zRh_out (by omega)).trans ((hf1 _ (by omega) (by omega)).trans hJ)⟩ (by show c + 0 + 0 ≤ c + 9; omega) (by show s + 0 + 0 ≤ s + 7530; omega)
set_option maxRecDepth 100000 in
theorem zk_told {G : zC} {b0 N0 L : Nat} {xs : Nat → Int32} {t ms x i k n c s : Nat} {h : zH} (hL : L ≤ 258) (hi : i + 3 < L) (hk : k ≤ 64) (hc : c + 20 ≤ 600128) (hs : s + 8000 ≤ 7301064) (H : zLi G h n x t k) (hgo : ∀ h' n' c' s', zLi G h' n' x t (k + 1) → c' ≤ c + 9 → s' ≤ s + 7530 → zZ (zXl G b0 N0 L xs t ms) 789 (zlv b0 x i) [] h' n' c' s') : zZ (zXl G b0 N0 L xs t ms) 410 (zlv b0 x i) [] h n c s := by
  obtain ⟨rn, o, rm, a, tx, gg, rx, M, z, XX, F, v, g, f, hB, hC, hrn, he, hR, hJ⟩ := H
  refine z_aload_n dL_law_410 rfl ?_
  refine z_aload_n dL_law_411 rfl ?_
  refine z_iload dL_law_412 rfl ?_
  refine z_iconst (w := 1) dL_law_414 (by decide) ?_
  refine z_iadd dL_law_415 ?_
  refine z_sld (fun _ _ q => q.1) dL_law_416 (zlin (i := i) (j := 1) (by omega) hL) ?_
  refine zcall2 (zck_V (na := 1) (ci := 10) (R' := rX10_told) (M' := mX10_told) (fun _ _ _ _ => tvX10_told) (by decide) kX10_told lL_70 (by decide +kernel) rfl) dL_law_417 (by show c + 0 ≤ 600128; omega) (by show s + 0 ≤ 7301064; omega) (Nat.le_of_ble_eq_true rfl) ?_
  refine ⟨x, x + 68, t, rn, o, rm, a, tx, gg, rx, M, z, XX, F, _, rfl, hB, hC, by omega, fun h1 n1 hC1 hf1 hn1 => ?_⟩
  have e1 := zRh_self he (fun q q1 q2 => hf1 q (by omega) (by omega))
  refine z_aload_n dL_law_420 rfl ?_
  refine z_aload_n dL_law_421 rfl ?_
  refine z_iload dL_law_422 rfl ?_
  refine z_iconst (w := 1) dL_law_424 (by decide) ?_
  refine z_iadd dL_law_425 ?_
  refine z_sld (fun _ _ q => q.1) dL_law_426 (zlin (i := i) (j := 1) (by omega) hL) ?_
  refine zcall2 (zck_V (na := 1) (ci := 11) (R' := rX11_told) (M' := mX11_told) (fun _ _ _ _ => tvX11_told) (by decide) kX11_told lL_73 (by decide +kernel) rfl) dL_law_427 (by show c + 0 + 0 ≤ 600128; omega) (by show s + 0 + 0 ≤ 7301064; omega) (Nat.le_of_ble_eq_true rfl) ?_
  refine ⟨h1, x + 47, v, g, o, rm, a, tx, gg, rx, M, z, XX, F, _, rfl, e1, hB, hR, fun v' g' hR' => ?_⟩
  refine z_icmp_eq (t := 789) dL_law_430 (by decide) (fun _ => ?_) (fun q => absurd rfl q)
  exact hgo _ _ _ _ ⟨rn + 302, _, _, _, _, _, _, _, _, _, _, v', g', f, hB, hC1.cg (fun q hq => zRh_out (by omega)) (Nat.le_refl _) (Nat.le_refl _), by omega, zRh_rf, hR', (zRh_out (by omega)).trans ((hf1 _ (by omega) (by omega)).trans hJ)⟩ (by show c + 0 + 0 ≤ c + 9; omega) (by show s + 0 + 0 ≤ s + 7530; omega)
set_option maxRecDepth 100000 in
theorem zk_sign {G : zC} {b0 N0 L : Nat} {xs : Nat → Int32} {t ms x i k n c s : Nat} {h : zH} (hL : L ≤ 258) (hi : i + 3 < L) (hk : k ≤ 64) (hc : c + 20 ≤ 600128) (hs : s + 8000 ≤ 7301064) (H : zLi G h n x t k) (hgo : ∀ h' n' c' s', zLi G h' n' x t (k + 1) → c' ≤ c + 9 → s' ≤ s + 7530 → zZ (zXl G b0 N0 L xs t ms) 789 (zlv b0 x i) [] h' n' c' s') : zZ (zXl G b0 N0 L xs t ms) 435 (zlv b0 x i) [] h n c s := by
  obtain ⟨rn, o, rm, a, tx, gg, rx, M, z, XX, F, v, g, f, hB, hC, hrn, he, hR, hJ⟩ := H
  refine z_aload_n dL_law_435 rfl ?_
  refine z_aload_n dL_law_436 rfl ?_
  refine z_iload dL_law_437 rfl ?_
  refine z_iconst (w := 1) dL_law_439 (by decide) ?_
  refine z_iadd dL_law_440 ?_
  refine z_sld (fun _ _ q => q.1) dL_law_441 (zlin (i := i) (j := 1) (by omega) hL) ?_
  refine z_aload_n dL_law_442 rfl ?_
  refine z_iload dL_law_443 rfl ?_
  refine z_iconst (w := 2) dL_law_445 (by decide) ?_
  refine z_iadd dL_law_446 ?_
  refine z_sld (fun _ _ q => q.1) dL_law_447 (zlin (i := i) (j := 2) (by omega) hL) ?_
  refine zcall3 (zck_V (na := 2) (ci := 10) (R' := rX10_sign) (M' := mX10_sign) (fun _ _ _ _ => tvX10_sign) (by decide) kX10_sign lL_74 (by decide +kernel) rfl) dL_law_448 (by show c + 0 ≤ 600128; omega) (by show s + 0 ≤ 7301064; omega) (Nat.le_of_ble_eq_true rfl) ?_
  refine ⟨x, x + 68, t, rn, o, rm, a, tx, gg, rx, M, z, XX, F, _, _, rfl, hB, hC, by omega, fun h1 n1 hC1 hf1 hn1 => ?_⟩
  have e1 := zRh_self he (fun q q1 q2 => hf1 q (by omega) (by omega))
  refine z_aload_n dL_law_451 rfl ?_
  refine z_aload_n dL_law_452 rfl ?_
  refine z_iload dL_law_453 rfl ?_
  refine z_iconst (w := 1) dL_law_455 (by decide) ?_
  refine z_iadd dL_law_456 ?_
  refine z_sld (fun _ _ q => q.1) dL_law_457 (zlin (i := i) (j := 1) (by omega) hL) ?_
  refine z_aload_n dL_law_458 rfl ?_
  refine z_iload dL_law_459 rfl ?_
  refine z_iconst (w := 2) dL_law_461 (by decide) ?_
  refine z_iadd dL_law_462 ?_
  refine z_sld (fun _ _ q => q.1) dL_law_463 (zlin (i := i) (j := 2) (by omega) hL) ?_
  refine zcall3 (zck_V (na := 2) (ci := 11) (R' := rX11_sign) (M' := mX11_sign) (fun _ _ _ _ => tvX11_sign) (by decide) kX11_sign lL_77 (by decide +kernel) rfl) dL_law_464 (by show c + 0 + 0 ≤ 600128; omega) (by show s + 0 + 0 ≤ 7301064; omega) (Nat.le_of_ble_eq_true rfl) ?_
  refine ⟨h1, x + 47, v, g, o, rm, a, tx, gg, rx, M, z, XX, F, _, _, rfl, e1, hB, hR, fun v' g' hR' => ?_⟩
  refine z_icmp_eq (t := 789) dL_law_467 (by decide) (fun _ => ?_) (fun q => absurd rfl q)
  exact hgo _ _ _ _ ⟨rn + 302, _, _, _, _, _, _, _, _, _, _, v', g', f, hB, hC1.cg (fun q hq => zRh_out (by omega)) (Nat.le_refl _) (Nat.le_refl _), by omega, zRh_rf, hR', (zRh_out (by omega)).trans ((hf1 _ (by omega) (by omega)).trans hJ)⟩ (by show c + 0 + 0 ≤ c + 9; omega) (by show s + 0 + 0 ≤ s + 7530; omega)
set_option maxRecDepth 100000 in
theorem zk_nodes {G : zC} {b0 N0 L : Nat} {xs : Nat → Int32} {t ms x i k n c s : Nat} {h : zH} (hL : L ≤ 258) (hi : i + 3 < L) (hk : k ≤ 64) (hc : c + 20 ≤ 600128) (hs : s + 8000 ≤ 7301064) (H : zLi G h n x t k) (hgo : ∀ h' n' c' s', zLi G h' n' x t (k + 1) → c' ≤ c + 9 → s' ≤ s + 7530 → zZ (zXl G b0 N0 L xs t ms) 789 (zlv b0 x i) [] h' n' c' s') : zZ (zXl G b0 N0 L xs t ms) 472 (zlv b0 x i) [] h n c s := by
  obtain ⟨rn, o, rm, a, tx, gg, rx, M, z, XX, F, v, g, f, hB, hC, hrn, he, hR, hJ⟩ := H
  refine z_aload_n dL_law_472 rfl ?_
  refine z_aload_n dL_law_473 rfl ?_
  refine z_iload dL_law_474 rfl ?_
  refine z_iconst (w := 1) dL_law_476 (by decide) ?_
  refine z_iadd dL_law_477 ?_
  refine z_sld (fun _ _ q => q.1) dL_law_478 (zlin (i := i) (j := 1) (by omega) hL) ?_
  refine zcall2 (zck_V (na := 1) (ci := 10) (R' := rX10_nodes) (M' := mX10_nodes) (fun _ _ _ _ => tvX10_nodes) (by decide) kX10_nodes lL_78 (by decide +kernel) rfl) dL_law_479 (by show c + 0 ≤ 600128; omega) (by show s + 0 ≤ 7301064; omega) (Nat.le_of_ble_eq_true rfl) ?_
  refine ⟨x, x + 68, t, rn, o, rm, a, tx, gg, rx, M, z, XX, F, _, rfl, hB, hC, by omega, fun h1 n1 hC1 hf1 hn1 => ?_⟩
  have e1 := zRh_self he (fun q q1 q2 => hf1 q (by omega) (by omega))
  refine z_aload_n dL_law_482 rfl ?_
  refine z_aload_n dL_law_483 rfl ?_
  refine z_iload dL_law_484 rfl ?_
  refine z_iconst (w := 1) dL_law_486 (by decide) ?_
  refine z_iadd dL_law_487 ?_
  refine z_sld (fun _ _ q => q.1) dL_law_488 (zlin (i := i) (j := 1) (by omega) hL) ?_
  refine zcall2 (zck_V (na := 1) (ci := 11) (R' := rX11_nodes) (M' := mX11_nodes) (fun _ _ _ _ => tvX11_nodes) (by decide) kX11_nodes lL_81 (by decide +kernel) rfl) dL_law_489 (by show c + 0 + 0 ≤ 600128; omega) (by show s + 0 + 0 ≤ 7301064; omega) (Nat.le_of_ble_eq_true rfl) ?_
  refine ⟨h1, x + 47, v, g, o, rm, a, tx, gg, rx, M, z, XX, F, _, rfl, e1, hB, hR, fun v' g' hR' => ?_⟩
  refine z_icmp_eq (t := 789) dL_law_492 (by decide) (fun _ => ?_) (fun q => absurd rfl q)
  exact hgo _ _ _ _ ⟨rn + 302, _, _, _, _, _, _, _, _, _, _, v', g', f, hB, hC1.cg (fun q hq => zRh_out (by omega)) (Nat.le_refl _) (Nat.le_refl _), by omega, zRh_rf, hR', (zRh_out (by omega)).trans ((hf1 _ (by omega) (by omega)).trans hJ)⟩ (by show c + 0 + 0 ≤ c + 9; omega) (by show s + 0 + 0 ≤ s + 7530; omega)
set_option maxRecDepth 100000 in
theorem zk_latest {G : zC} {b0 N0 L : Nat} {xs : Nat → Int32} {t ms x i k n c s : Nat} {h : zH} (hL : L ≤ 258) (hi : i + 3 < L) (hk : k ≤ 64) (hc : c + 20 ≤ 600128) (hs : s + 8000 ≤ 7301064) (H : zLi G h n x t k) (hgo : ∀ h' n' c' s', zLi G h' n' x t (k + 1) → c' ≤ c + 9 → s' ≤ s + 7530 → zZ (zXl G b0 N0 L xs t ms) 789 (zlv b0 x i) [] h' n' c' s') : zZ (zXl G b0 N0 L xs t ms) 577 (zlv b0 x i) [] h n c s := by
  obtain ⟨rn, o, rm, a, tx, gg, rx, M, z, XX, F, v, g, f, hB, hC, hrn, he, hR, hJ⟩ := H
  refine z_aload_n dL_law_577 rfl ?_
  refine z_aload_n dL_law_578 rfl ?_
  refine z_iload dL_law_579 rfl ?_
  refine z_iconst (w := 1) dL_law_581 (by decide) ?_
  refine z_iadd dL_law_582 ?_
  refine z_sld (fun _ _ q => q.1) dL_law_583 (zlin (i := i) (j := 1) (by omega) hL) ?_
  refine z_aload_n dL_law_584 rfl ?_
  refine z_iload dL_law_585 rfl ?_
  refine z_iconst (w := 2) dL_law_587 (by decide) ?_
  refine z_iadd dL_law_588 ?_
  refine z_sld (fun _ _ q => q.1) dL_law_589 (zlin (i := i) (j := 2) (by omega) hL) ?_
  refine zcall3 (zck_V (na := 2) (ci := 10) (R' := rX10_latest) (M' := mX10_latest) (fun _ _ _ _ => tvX10_latest) (by decide) kX10_latest lL_89 (by decide +kernel) rfl) dL_law_590 (by show c + 0 ≤ 600128; omega) (by show s + 0 ≤ 7301064; omega) (Nat.le_of_ble_eq_true rfl) ?_
  refine ⟨x, x + 68, t, rn, o, rm, a, tx, gg, rx, M, z, XX, F, _, _, rfl, hB, hC, by omega, fun h1 n1 hC1 hf1 hn1 => ?_⟩
  have e1 := zRh_self he (fun q q1 q2 => hf1 q (by omega) (by omega))
  refine z_aload_n dL_law_593 rfl ?_
  refine z_aload_n dL_law_594 rfl ?_
  refine z_iload dL_law_595 rfl ?_
  refine z_iconst (w := 1) dL_law_597 (by decide) ?_
  refine z_iadd dL_law_598 ?_
  refine z_sld (fun _ _ q => q.1) dL_law_599 (zlin (i := i) (j := 1) (by omega) hL) ?_
  refine z_aload_n dL_law_600 rfl ?_
  refine z_iload dL_law_601 rfl ?_
  refine z_iconst (w := 2) dL_law_603 (by decide) ?_
  refine z_iadd dL_law_604 ?_
  refine z_sld (fun _ _ q => q.1) dL_law_605 (zlin (i := i) (j := 2) (by omega) hL) ?_
  refine zcall3 (zck_V (na := 2) (ci := 11) (R' := rX11_latest) (M' := mX11_latest) (fun _ _ _ _ => tvX11_latest) (by decide) kX11_latest lL_92 (by decide +kernel) rfl) dL_law_606 (by show c + 0 + 0 ≤ 600128; omega) (by show s + 0 + 0 ≤ 7301064; omega) (Nat.le_of_ble_eq_true rfl) ?_
  refine ⟨h1, x + 47, v, g, o, rm, a, tx, gg, rx, M, z, XX, F, _, _, rfl, e1, hB, hR, fun v' g' hR' => ?_⟩
  refine z_icmp_eq (t := 789) dL_law_609 (by decide) (fun _ => ?_) (fun q => absurd rfl q)
  exact hgo _ _ _ _ ⟨rn + 302, _, _, _, _, _, _, _, _, _, _, v', g', f, hB, hC1.cg (fun q hq => zRh_out (by omega)) (Nat.le_refl _) (Nat.le_refl _), by omega, zRh_rf, hR', (zRh_out (by omega)).trans ((hf1 _ (by omega) (by omega)).trans hJ)⟩ (by show c + 0 + 0 ≤ c + 9; omega) (by show s + 0 + 0 ≤ s + 7530; omega)
set_option maxRecDepth 100000 in
theorem zk_restarted {G : zC} {b0 N0 L : Nat} {xs : Nat → Int32} {t ms x i k n c s : Nat} {h : zH} (hL : L ≤ 258) (hi : i + 3 < L) (hk : k ≤ 64) (hc : c + 20 ≤ 600128) (hs : s + 8000 ≤ 7301064) (H : zLi G h n x t k) (hgo : ∀ h' n' c' s', zLi G h' n' x t (k + 1) → c' ≤ c + 9 → s' ≤ s + 7530 → zZ (zXl G b0 N0 L xs t ms) 789 (zlv b0 x i) [] h' n' c' s') : zZ (zXl G b0 N0 L xs t ms) 614 (zlv b0 x i) [] h n c s := by
  obtain ⟨rn, o, rm, a, tx, gg, rx, M, z, XX, F, v, g, f, hB, hC, hrn, he, hR, hJ⟩ := H
  refine z_aload_n dL_law_614 rfl ?_
  refine z_aload_n dL_law_615 rfl ?_
  refine z_iload dL_law_616 rfl ?_
  refine z_iconst (w := 1) dL_law_618 (by decide) ?_
  refine z_iadd dL_law_619 ?_
  refine z_sld (fun _ _ q => q.1) dL_law_620 (zlin (i := i) (j := 1) (by omega) hL) ?_
  refine zcall2 (zck_V (na := 1) (ci := 10) (R' := rX10_restarted) (M' := mX10_restarted) (fun _ _ _ _ => tvX10_restarted) (by decide) kX10_restarted lL_93 (by decide +kernel) rfl) dL_law_621 (by show c + 0 ≤ 600128; omega) (by show s + 0 ≤ 7301064; omega) (Nat.le_of_ble_eq_true rfl) ?_
  refine ⟨x, x + 68, t, rn, o, rm, a, tx, gg, rx, M, z, XX, F, _, rfl, hB, hC, by omega, fun h1 n1 hC1 hf1 hn1 => ?_⟩
  have e1 := zRh_self he (fun q q1 q2 => hf1 q (by omega) (by omega))
  refine z_aload_n dL_law_624 rfl ?_
  refine z_aload_n dL_law_625 rfl ?_
  refine z_iload dL_law_626 rfl ?_
  refine z_iconst (w := 1) dL_law_628 (by decide) ?_
  refine z_iadd dL_law_629 ?_
  refine z_sld (fun _ _ q => q.1) dL_law_630 (zlin (i := i) (j := 1) (by omega) hL) ?_
  refine zcall2 (zck_V (na := 1) (ci := 11) (R' := rX11_restarted) (M' := mX11_restarted) (fun _ _ _ _ => tvX11_restarted) (by decide) kX11_restarted lL_96 (by decide +kernel) rfl) dL_law_631 (by show c + 0 + 0 ≤ 600128; omega) (by show s + 0 + 0 ≤ 7301064; omega) (Nat.le_of_ble_eq_true rfl) ?_
  refine ⟨h1, x + 47, v, g, o, rm, a, tx, gg, rx, M, z, XX, F, _, rfl, e1, hB, hR, fun v' g' hR' => ?_⟩
  refine z_icmp_eq (t := 789) dL_law_634 (by decide) (fun _ => ?_) (fun q => absurd rfl q)
  exact hgo _ _ _ _ ⟨rn + 302, _, _, _, _, _, _, _, _, _, _, v', g', f, hB, hC1.cg (fun q hq => zRh_out (by omega)) (Nat.le_refl _) (Nat.le_refl _), by omega, zRh_rf, hR', (zRh_out (by omega)).trans ((hf1 _ (by omega) (by omega)).trans hJ)⟩ (by show c + 0 + 0 ≤ c + 9; omega) (by show s + 0 + 0 ≤ s + 7530; omega)
set_option maxRecDepth 100000 in
theorem zk_reset {G : zC} {b0 N0 L : Nat} {xs : Nat → Int32} {t ms x i k n c s : Nat} {h : zH} (hL : L ≤ 258) (hi : i + 3 < L) (hk : k ≤ 64) (hc : c + 20 ≤ 600128) (hs : s + 8000 ≤ 7301064) (H : zLi G h n x t k) (hgo : ∀ h' n' c' s', zLi G h' n' x t (k + 1) → c' ≤ c + 9 → s' ≤ s + 7530 → zZ (zXl G b0 N0 L xs t ms) 789 (zlv b0 x i) [] h' n' c' s') : zZ (zXl G b0 N0 L xs t ms) 639 (zlv b0 x i) [] h n c s := by
  obtain ⟨rn, o, rm, a, tx, gg, rx, M, z, XX, F, v, g, f, hB, hC, hrn, he, hR, hJ⟩ := H
  refine z_aload_n dL_law_639 rfl ?_
  refine z_aload_n dL_law_640 rfl ?_
  refine z_iload dL_law_641 rfl ?_
  refine z_iconst (w := 1) dL_law_643 (by decide) ?_
  refine z_iadd dL_law_644 ?_
  refine z_sld (fun _ _ q => q.1) dL_law_645 (zlin (i := i) (j := 1) (by omega) hL) ?_
  refine zcall2 (zck_V (na := 1) (ci := 10) (R' := rX10_reset) (M' := mX10_reset) (fun _ _ _ _ => tvX10_reset) (by decide) kX10_reset lL_97 (by decide +kernel) rfl) dL_law_646 (by show c + 0 ≤ 600128; omega) (by show s + 0 ≤ 7301064; omega) (Nat.le_of_ble_eq_true rfl) ?_
  refine ⟨x, x + 68, t, rn, o, rm, a, tx, gg, rx, M, z, XX, F, _, rfl, hB, hC, by omega, fun h1 n1 hC1 hf1 hn1 => ?_⟩
  have e1 := zRh_self he (fun q q1 q2 => hf1 q (by omega) (by omega))
  refine z_aload_n dL_law_649 rfl ?_
  refine z_aload_n dL_law_650 rfl ?_
  refine z_iload dL_law_651 rfl ?_
  refine z_iconst (w := 1) dL_law_653 (by decide) ?_
  refine z_iadd dL_law_654 ?_
  refine z_sld (fun _ _ q => q.1) dL_law_655 (zlin (i := i) (j := 1) (by omega) hL) ?_
  refine zcall2 (zck_V (na := 1) (ci := 11) (R' := rX11_reset) (M' := mX11_reset) (fun _ _ _ _ => tvX11_reset) (by decide) kX11_reset lL_100 (by decide +kernel) rfl) dL_law_656 (by show c + 0 + 0 ≤ 600128; omega) (by show s + 0 + 0 ≤ 7301064; omega) (Nat.le_of_ble_eq_true rfl) ?_
  refine ⟨h1, x + 47, v, g, o, rm, a, tx, gg, rx, M, z, XX, F, _, rfl, e1, hB, hR, fun v' g' hR' => ?_⟩
  refine z_icmp_eq (t := 789) dL_law_659 (by decide) (fun _ => ?_) (fun q => absurd rfl q)
  exact hgo _ _ _ _ ⟨rn + 302, _, _, _, _, _, _, _, _, _, _, v', g', f, (hB.reset _), hC1.cg (fun q hq => zRh_out (by omega)) (Nat.le_refl _) (Nat.le_refl _), by omega, zRh_rf, hR', (zRh_out (by omega)).trans ((hf1 _ (by omega) (by omega)).trans hJ)⟩ (by show c + 0 + 0 ≤ c + 9; omega) (by show s + 0 + 0 ≤ s + 7530; omega)
set_option maxRecDepth 100000 in
theorem zk_equal {G : zC} {b0 N0 L : Nat} {xs : Nat → Int32} {t ms x i k n c s : Nat} {h : zH} (hL : L ≤ 258) (hi : i + 3 < L) (hk : k ≤ 64) (hc : c + 20 ≤ 600128) (hs : s + 8000 ≤ 7301064) (H : zLi G h n x t k) (hgo : ∀ h' n' c' s', zLi G h' n' x t (k + 1) → c' ≤ c + 9 → s' ≤ s + 7530 → zZ (zXl G b0 N0 L xs t ms) 789 (zlv b0 x i) [] h' n' c' s') : zZ (zXl G b0 N0 L xs t ms) 664 (zlv b0 x i) [] h n c s := by
  obtain ⟨rn, o, rm, a, tx, gg, rx, M, z, XX, F, v, g, f, hB, hC, hrn, he, hR, hJ⟩ := H
  refine z_aload_n dL_law_664 rfl ?_
  refine zcall1 (zck_V (na := 0) (ci := 10) (R' := rX10_equal) (M' := mX10_equal) (fun _ _ _ _ => tvX10_equal) (by decide) kX10_equal lL_101 (by decide +kernel) rfl) dL_law_665 (by show c + 0 ≤ 600128; omega) (by show s + 0 ≤ 7301064; omega) (Nat.le_of_ble_eq_true rfl) ?_
  refine ⟨x, x + 68, t, rn, o, rm, a, tx, gg, rx, M, z, XX, F, rfl, hB, hC, by omega, fun hq hC1 => ?_, fun hq hC1 => ?_⟩
  · refine z_aload_n dL_law_668 rfl ?_
    refine zcall1 (zck_V (na := 0) (ci := 11) (R' := rX11_equal) (M' := mX11_equal) (fun _ _ _ _ => tvX11_equal) (by decide) kX11_equal lL_104 (by decide +kernel) rfl) dL_law_669 (by show c + 0 + 0 ≤ 600128; omega) (by show s + 0 + 0 ≤ 7301064; omega) (Nat.le_of_ble_eq_true rfl) ?_
    refine ⟨h, x + 47, v, g, o, rm, a, tx, gg, rx, M, z, XX, F, rfl, he, hB, hR, fun _ v' g' hR' => ?_, fun hq' => absurd hq hq'⟩
    refine z_icmp_eq (t := 789) dL_law_672 (by decide) (fun _ => ?_) (fun q => absurd rfl q)
    exact hgo _ _ _ _ ⟨rn + 302, _, _, _, _, _, _, _, _, _, _, v', g', f, hB, hC1.cg (fun q hq => zRh_out (by omega)) (Nat.le_refl _) (Nat.le_refl _), by omega, zRh_rf, hR', (zRh_out (by omega)).trans (hJ)⟩ (by show c + 0 + 0 ≤ c + 9; omega) (by show s + 0 + 0 ≤ s + 7530; omega)
  · refine z_aload_n dL_law_668 rfl ?_
    refine zcall1 (zck_V (na := 0) (ci := 11) (R' := rX11_equal) (M' := mX11_equal) (fun _ _ _ _ => tvX11_equal) (by decide) kX11_equal lL_104 (by decide +kernel) rfl) dL_law_669 (by show c + 0 + 0 ≤ 600128; omega) (by show s + 0 + 0 ≤ 7301064; omega) (Nat.le_of_ble_eq_true rfl) ?_
    refine ⟨h, x + 47, v, g, o, rm, a, tx, gg, rx, M, z, XX, F, rfl, he, hB, hR, fun hq' => absurd hq' hq, fun _ v' g' hR' => ?_⟩
    refine z_icmp_eq (t := 789) dL_law_672 (by decide) (fun _ => ?_) (fun q => absurd rfl q)
    exact hgo _ _ _ _ ⟨rn + 302, _, _, _, _, _, _, _, _, _, _, v', g', f, hB, hC1.cg (fun q hq => zRh_out (by omega)) (Nat.le_refl _) (Nat.le_refl _), by omega, zRh_rf, hR', (zRh_out (by omega)).trans (hJ)⟩ (by show c + 0 + 0 ≤ c + 9; omega) (by show s + 0 + 0 ≤ s + 7530; omega)
set_option maxRecDepth 100000 in
theorem zk_save {G : zC} {b0 N0 L : Nat} {xs : Nat → Int32} {t ms x i k n c s : Nat} {h : zH} (hL : L ≤ 258) (hi : i + 3 < L) (hk : k ≤ 64) (hc : c + 20 ≤ 600128) (hs : s + 8000 ≤ 7301064) (H : zLi G h n x t k) (hgo : ∀ h' n' c' s', zLi G h' n' x t (k + 1) → c' ≤ c + 9 → s' ≤ s + 7530 → zZ (zXl G b0 N0 L xs t ms) 789 (zlv b0 x i) [] h' n' c' s') : zZ (zXl G b0 N0 L xs t ms) 677 (zlv b0 x i) [] h n c s := by
  obtain ⟨rn, o, rm, a, tx, gg, rx, M, z, XX, F, v, g, f, hB, hC, hrn, he, hR, hJ⟩ := H
  refine z_aload_n dL_law_677 rfl ?_
  refine z_aload_n dL_law_678 rfl ?_
  refine z_iload dL_law_679 rfl ?_
  refine z_iconst (w := 1) dL_law_681 (by decide) ?_
  refine z_iadd dL_law_682 ?_
  refine z_sld (fun _ _ q => q.1) dL_law_683 (zlin (i := i) (j := 1) (by omega) hL) ?_
  refine zcall2 (zck_Vh (na := 1) (ci := 10) (Y' := fun B U => zSt G t B U U.heap) (R' := rX10_save) (M' := mX10_save) (zSt_ride (fun _ _ q => q.2.1)) zSt_bl (fun _ _ _ _ => tvX10_save) (by decide) kX10_save lL_105 (by decide +kernel) rfl) dL_law_684 (by show c + 9 ≤ 600128; omega) (by show s + 7530 ≤ 7301064; omega) (Nat.le_of_ble_eq_true rfl) ?_
  refine ⟨x, x + 68, rn, o, rm, a, tx, gg, rx, M, z, XX, F, _, rfl, hB, hC, by omega, fun h1 n1 hC1 hf1 hn1 => ?_⟩
  have e1 := zRh_self he (fun q q1 q2 => hf1 q (by omega) (by omega))
  refine z_aload_n dL_law_687 rfl ?_
  refine z_aload_n dL_law_688 rfl ?_
  refine z_iload dL_law_689 rfl ?_
  refine z_iconst (w := 1) dL_law_691 (by decide) ?_
  refine z_iadd dL_law_692 ?_
  refine z_sld (fun _ _ q => q.1) dL_law_693 (zlin (i := i) (j := 1) (by omega) hL) ?_
  refine zcall2 (zck_V (na := 1) (ci := 11) (R' := rX11_save) (M' := mX11_save) (fun _ _ _ _ => tvX11_save) (by decide) kX11_save lL_108 (by decide +kernel) rfl) dL_law_694 (by show c + 9 + 0 ≤ 600128; omega) (by show s + 7530 + 0 ≤ 7301064; omega) (Nat.le_of_ble_eq_true rfl) ?_
  refine ⟨h1, x + 47, v, g, o, rm, a, tx, gg, rx, M, z, XX, F, _, rfl, e1, hB, hR, fun v' g' hR' => ?_⟩
  refine z_icmp_eq (t := 789) dL_law_697 (by decide) (fun _ => ?_) (fun q => absurd rfl q)
  exact hgo _ _ _ _ ⟨rn + 302, _, _, _, _, _, _, _, _, _, _, v', g', f, (hB.save _), hC1.cg (fun q hq => zRh_out (by omega)) (Nat.le_refl _) (Nat.le_refl _), by omega, zRh_rf, hR', (zRh_out (by omega)).trans ((hf1 _ (by omega) (by omega)).trans hJ)⟩ (by show c + 9 + 0 ≤ c + 9; omega) (by show s + 7530 + 0 ≤ s + 7530; omega)
set_option maxRecDepth 100000 in
theorem zk_restore {G : zC} {b0 N0 L : Nat} {xs : Nat → Int32} {t ms x i k n c s : Nat} {h : zH} (hL : L ≤ 258) (hi : i + 3 < L) (hk : k ≤ 64) (hc : c + 20 ≤ 600128) (hs : s + 8000 ≤ 7301064) (H : zLi G h n x t k) (hgo : ∀ h' n' c' s', zLi G h' n' x t (k + 1) → c' ≤ c + 9 → s' ≤ s + 7530 → zZ (zXl G b0 N0 L xs t ms) 789 (zlv b0 x i) [] h' n' c' s') : zZ (zXl G b0 N0 L xs t ms) 702 (zlv b0 x i) [] h n c s := by
  obtain ⟨rn, o, rm, a, tx, gg, rx, M, z, XX, F, v, g, f, hB, hC, hrn, he, hR, hJ⟩ := H
  refine z_aload_n dL_law_702 rfl ?_
  refine z_aload_n dL_law_703 rfl ?_
  refine z_iload dL_law_704 rfl ?_
  refine z_iconst (w := 1) dL_law_706 (by decide) ?_
  refine z_iadd dL_law_707 ?_
  refine z_sld (fun _ _ q => q.1) dL_law_708 (zlin (i := i) (j := 1) (by omega) hL) ?_
  refine z_aload_n dL_law_709 rfl ?_
  refine z_iload dL_law_710 rfl ?_
  refine z_iconst (w := 2) dL_law_712 (by decide) ?_
  refine z_iadd dL_law_713 ?_
  refine z_sld (fun _ _ q => q.1) dL_law_714 (zlin (i := i) (j := 2) (by omega) hL) ?_
  refine zcall3 (zck_V (na := 2) (ci := 10) (R' := rX10_restore) (M' := mX10_restore) (fun _ _ _ _ => tvX10_restore) (by decide) kX10_restore lL_109 (by decide +kernel) rfl) dL_law_715 (by show c + 0 ≤ 600128; omega) (by show s + 0 ≤ 7301064; omega) (Nat.le_of_ble_eq_true rfl) ?_
  refine ⟨x, x + 68, t, rn, o, rm, a, tx, gg, rx, M, z, XX, F, _, _, rfl, hB, hC, by omega, fun h1 n1 hC1 hf1 hn1 => ?_⟩
  have e1 := zRh_self he (fun q q1 q2 => hf1 q (by omega) (by omega))
  refine z_aload_n dL_law_718 rfl ?_
  refine z_aload_n dL_law_719 rfl ?_
  refine z_iload dL_law_720 rfl ?_
  refine z_iconst (w := 1) dL_law_722 (by decide) ?_
  refine z_iadd dL_law_723 ?_
  refine z_sld (fun _ _ q => q.1) dL_law_724 (zlin (i := i) (j := 1) (by omega) hL) ?_
  refine z_aload_n dL_law_725 rfl ?_
  refine z_iload dL_law_726 rfl ?_
  refine z_iconst (w := 2) dL_law_728 (by decide) ?_
  refine z_iadd dL_law_729 ?_
  refine z_sld (fun _ _ q => q.1) dL_law_730 (zlin (i := i) (j := 2) (by omega) hL) ?_
  refine zcall3 (zck_V (na := 2) (ci := 11) (R' := rX11_restore) (M' := mX11_restore) (fun _ _ _ _ => tvX11_restore) (by decide) kX11_restore lL_112 (by decide +kernel) rfl) dL_law_731 (by show c + 0 + 0 ≤ 600128; omega) (by show s + 0 + 0 ≤ 7301064; omega) (Nat.le_of_ble_eq_true rfl) ?_
  refine ⟨h1, x + 47, v, g, o, rm, a, tx, gg, rx, M, z, XX, F, _, _, rfl, e1, hB, hR, fun v' g' hR' => ?_⟩
  refine z_icmp_eq (t := 789) dL_law_734 (by decide) (fun _ => ?_) (fun q => absurd rfl q)
  exact hgo _ _ _ _ ⟨rn + 302, _, _, _, _, _, _, _, _, _, _, v', g', f, (hB.restore _ _), hC1.cg (fun q hq => zRh_out (by omega)) (Nat.le_refl _) (Nat.le_refl _), by omega, zRh_rf, hR', (zRh_out (by omega)).trans ((hf1 _ (by omega) (by omega)).trans hJ)⟩ (by show c + 0 + 0 ≤ c + 9; omega) (by show s + 0 + 0 ≤ s + 7530; omega)
set_option maxRecDepth 100000 in
theorem zk_forget {G : zC} {b0 N0 L : Nat} {xs : Nat → Int32} {t ms x i k n c s : Nat} {h : zH} (hL : L ≤ 258) (hi : i + 3 < L) (hk : k ≤ 64) (hc : c + 20 ≤ 600128) (hs : s + 8000 ≤ 7301064) (H : zLi G h n x t k) (hgo : ∀ h' n' c' s', zLi G h' n' x t (k + 1) → c' ≤ c + 9 → s' ≤ s + 7530 → zZ (zXl G b0 N0 L xs t ms) 789 (zlv b0 x i) [] h' n' c' s') : zZ (zXl G b0 N0 L xs t ms) 739 (zlv b0 x i) [] h n c s := by
  obtain ⟨rn, o, rm, a, tx, gg, rx, M, z, XX, F, v, g, f, hB, hC, hrn, he, hR, hJ⟩ := H
  refine z_aload_n dL_law_739 rfl ?_
  refine zcall1 (zck_V (na := 0) (ci := 10) (R' := rX10_forget) (M' := mX10_forget) (fun _ _ _ _ => tvX10_forget) (by decide) kX10_forget lL_113 (by decide +kernel) rfl) dL_law_740 (by show c + 0 ≤ 600128; omega) (by show s + 0 ≤ 7301064; omega) (Nat.le_of_ble_eq_true rfl) ?_
  refine ⟨x, x + 68, t, rn, o, rm, a, tx, gg, rx, M, z, XX, F, rfl, hB, hC, by omega, fun h1 n1 hC1 hf1 hn1 => ?_⟩
  have e1 := zRh_self he (fun q q1 q2 => hf1 q (by omega) (by omega))
  refine z_aload_n dL_law_743 rfl ?_
  refine zcall1 (zck_V (na := 0) (ci := 11) (R' := rX11_forget) (M' := mX11_forget) (fun _ _ _ _ => tvX11_forget) (by decide) kX11_forget lL_116 (by decide +kernel) rfl) dL_law_744 (by show c + 0 + 0 ≤ 600128; omega) (by show s + 0 + 0 ≤ 7301064; omega) (Nat.le_of_ble_eq_true rfl) ?_
  refine ⟨h1, x + 47, v, g, o, rm, a, tx, gg, rx, M, z, XX, F, rfl, e1, hB, hR, fun v' g' hR' => ?_⟩
  refine z_icmp_eq (t := 789) dL_law_747 (by decide) (fun _ => ?_) (fun q => absurd rfl q)
  exact hgo _ _ _ _ ⟨rn + 302, _, _, _, _, _, _, _, _, _, _, v', g', f, hB.forget, hC1.cg (fun q hq => zRh_out (by omega)) (Nat.le_refl _) (Nat.le_refl _), by omega, zRh_rf, hR', (zRh_out (by omega)).trans ((hf1 _ (by omega) (by omega)).trans hJ)⟩ (by show c + 0 + 0 ≤ c + 9; omega) (by show s + 0 + 0 ≤ s + 7530; omega)
set_option maxRecDepth 100000 in
theorem zk_cost {G : zC} {b0 N0 L : Nat} {xs : Nat → Int32} {t ms x i k n c s : Nat} {h : zH} (hL : L ≤ 258) (hi : i + 3 < L) (hk : k ≤ 64) (hc : c + 20 ≤ 600128) (hs : s + 8000 ≤ 7301064) (H : zLi G h n x t k) (hgo : ∀ h' n' c' s', zLi G h' n' x t (k + 1) → c' ≤ c + 9 → s' ≤ s + 7530 → zZ (zXl G b0 N0 L xs t ms) 789 (zlv b0 x i) [] h' n' c' s') : zZ (zXl G b0 N0 L xs t ms) 752 (zlv b0 x i) [] h n c s := by
  obtain ⟨rn, o, rm, a, tx, gg, rx, M, z, XX, F, v, g, f, hB, hC, hrn, he, hR, hJ⟩ := H
  refine z_aload_n dL_law_752 rfl ?_
  refine z_aload_n dL_law_753 rfl ?_
  refine z_iload dL_law_754 rfl ?_
  refine z_iconst (w := 1) dL_law_756 (by decide) ?_
  refine z_iadd dL_law_757 ?_
  refine z_sld (fun _ _ q => q.1) dL_law_758 (zlin (i := i) (j := 1) (by omega) hL) ?_
  refine z_aload_n dL_law_759 rfl ?_
  refine z_iload dL_law_760 rfl ?_
  refine z_iconst (w := 2) dL_law_762 (by decide) ?_
  refine z_iadd dL_law_763 ?_
  refine z_sld (fun _ _ q => q.1) dL_law_764 (zlin (i := i) (j := 2) (by omega) hL) ?_
  refine zcall3 (zck_V (na := 2) (ci := 10) (R' := rX10_cost) (M' := mX10_cost) (fun _ _ _ _ => tvX10_cost) (by decide) kX10_cost lL_117 (by decide +kernel) rfl) dL_law_765 (by show c + 0 ≤ 600128; omega) (by show s + 0 ≤ 7301064; omega) (Nat.le_of_ble_eq_true rfl) ?_
  refine ⟨x, x + 68, t, rn, o, rm, a, tx, gg, rx, M, z, XX, F, _, _, rfl, hB, hC, by omega, fun h1 r hP hC1 hf1 => ?_⟩
  have e1 := zRh_self he (fun q q1 q2 => hf1 q (by omega) (by omega))
  refine z_aload_n dL_law_768 rfl ?_
  refine z_aload_n dL_law_769 rfl ?_
  refine z_iload dL_law_770 rfl ?_
  refine z_iconst (w := 1) dL_law_772 (by decide) ?_
  refine z_iadd dL_law_773 ?_
  refine z_sld (fun _ _ q => q.1) dL_law_774 (zlin (i := i) (j := 1) (by omega) hL) ?_
  refine z_aload_n dL_law_775 rfl ?_
  refine z_iload dL_law_776 rfl ?_
  refine z_iconst (w := 2) dL_law_778 (by decide) ?_
  refine z_iadd dL_law_779 ?_
  refine z_sld (fun _ _ q => q.1) dL_law_780 (zlin (i := i) (j := 2) (by omega) hL) ?_
  refine zcall3 (zck_V (na := 2) (ci := 11) (R' := rX11_cost) (M' := mX11_cost) (fun _ _ _ _ => tvX11_cost) (by decide) kX11_cost lL_120 (by decide +kernel) rfl) dL_law_781 (by show c + 0 + 0 ≤ 600128; omega) (by show s + 0 + 0 ≤ 7301064; omega) (Nat.le_of_ble_eq_true rfl) ?_
  refine ⟨h1, x + 47, v, g, o, rm, a, tx, gg, rx, M, z, XX, F, _, _, r, rfl, e1, hB, hR, hP, fun v' g' hR' => ?_⟩
  refine z_icmp_eq (t := 789) dL_law_784 (by decide) (fun _ => ?_) (fun q => absurd rfl q)
  exact hgo _ _ _ _ ⟨rn + 302, _, _, _, _, _, _, _, _, _, _, v', g', f, hB, hC1.cg (fun q hq => zRh_out (by omega)) (Nat.le_refl _) (Nat.le_refl _), by omega, zRh_rf, hR', (zRh_out (by omega)).trans ((hf1 _ (by omega) (by omega)).trans hJ)⟩ (by show c + 0 + 0 ≤ c + 9; omega) (by show s + 0 + 0 ≤ s + 7530; omega)

set_option maxRecDepth 100000 in
set_option maxHeartbeats 4000000 in
theorem zlw_0 {g : zx_G} {σ : zx_M} {sz kc ks scr Ls i b : Nat} {xs : Nat → Int32} {QQ : List Frame → Array Value → State → State → Prop} (hI : zIV g σ b) (hi : i + 4 ≤ Ls) (hLs : Ls ≤ 2048) (hk0 : kc ≤ room_1.cells) (hs0 : ks ≤ room_1.slots) (KK : ∀ σ' sz', zIV g σ' b → zL g scr Ls xs QQ 845 (zLV scr b i) [] σ' sz' kc ks) : zL g scr Ls xs QQ 136 (zLV scr b i) [] σ sz kc ks := by
  obtain ⟨t, e, s, k, p, x, y, lv, len, nx, n0, n, m, c, wr, od, W, R0, R, Q, N, S, K, Sg, L, th, ps, ot, pr, fr, M, pa, dp, fo, hC, hm, ho, hA, hT, hD, hE, hF⟩ := hI
  obtain ⟨hlay, hB, hO, hV, h, hY, hN, hS, hK, hP⟩ := id hC
  obtain ⟨el1, el2, el3, el4, el5, lx, ly, ll, lxy, lxl, lyl⟩ := hlay.f
  have hn := hT.1
  refine zg_aload_n 3 cd_W_law_136 rfl rfl ?_
  refine zg_aload_n 4 cd_W_law_137 rfl rfl ?_
  refine zg_iload 0 cd_W_law_138 rfl ?_
  refine zg_iconst (v := nI 1) cd_W_law_140 (by decide) ?_
  refine zg_iadd cd_W_law_141 ?_
  refine zg_top (nI_add _ _) ?_
  refine zg_sld cd_W_law_142 (by omega) (by omega) ?_
  refine zg_callVv (rm' := zr_F_sign) (b := b) (As := [.int (xs (i + 1))]) (rest := []) (kc_F_sign hB hO hA.1) ⟨rfl, rfl⟩ zy_F_sign_ok zm_294 zm_295 zm_296 (ci := 6) rfl rfl ⟨by decide, by decide⟩ ⟨hk0, hs0⟩ cd_W_law_143 hB.1 rfl rfl (Nat.le_of_ble_eq_true rfl) (fun σ9 sz9 hq9 => ?_)
  obtain ⟨-, hF9, hO9⟩ := hq9
  obtain ⟨hC, hF9⟩ := hC.ut hF9 hO9
  have hm := hm.frn hF9 21 rfl (by omega)
  have ho := ho.fr hF9 (by omega)
  refine zg_aload_n 2 cd_W_law_146 rfl rfl ?_
  refine zg_aload_n 4 cd_W_law_147 rfl rfl ?_
  refine zg_iload 0 cd_W_law_148 rfl ?_
  refine zg_iconst (v := nI 1) cd_W_law_150 (by decide) ?_
  refine zg_iadd cd_W_law_151 ?_
  refine zg_top (nI_add _ _) ?_
  refine zg_sld cd_W_law_152 (by omega) (by omega) ?_
  refine zg_callVv (rm' := zr_M_sign) (b := (b + 56)) (As := [.int (xs (i + 1))]) (rest := []) (kc_M_sign hm hA.1) ⟨rfl, rfl⟩ zy_M_sign_ok zm_817 zm_818 zm_819 (ci := 7) rfl rfl ⟨by decide, by decide⟩ ⟨hk0, hs0⟩ cd_W_law_153 hm.1 rfl rfl (Nat.le_of_ble_eq_true rfl) (fun σ8 sz8 hq8 => ?_)
  obtain ⟨-, hF8, hm⟩ := hq8
  have hC := hC.fr hF8 (Or.inl (Nat.le_refl _))
  have ho := ho.fr hF8 (by omega)
  refine zg_goto (tgt := 845) cd_W_law_156 (by decide) ?_
  have hA9 := zrel_sign (ch := xs (i + 1)) hA
  generalize hM9 : (if len < 3000 then va_up M 0 (upd (M 0) len (zby (xs (i + 1)))) else M) = M9 at hm
  have hr : ∀ k9, k9 ≠ 0 → M9 k9 = M k9 := fun k9 h9 => by
    rw [← hM9]; split
    · exact va_up_ne _ _ h9
    · rfl
  have h0 : M9 0 = if len < 3000 then upd (M 0) len (zby (xs (i + 1))) else M 0 := by
    rw [← hM9]; split
    · exact va_up_self _ _ _
    · rfl
  have hT := hT.mv (M' := M9) (fun r9 j9 _ _ _ => by rw [hr r9 (by omega)]) (fun j9 _ => by rw [hr 10 (by decide)])
  have hD := hD.mv (M' := M9) (fun r9 _ _ => hr r9 (by omega))
  have hE := hE.mv (M' := M9) (fun r9 _ _ => hr r9 (by omega)) (fun r9 j9 _ _ _ => by rw [hr r9 (by omega)]) (fun j9 _ => by rw [hr 10 (by decide)])
  have hF : zFt L pr Sg (M9 20) := by rw [hr 20 (by decide)]; exact hF
  rw [← h0] at hA9
  have hA := hA9
  exact KK _ _ ⟨_, _, _, _, _, _, _, _, _, _, _, _, _, _, _, _, _, _, _, _, _, _, _, _, _, _, _, _, _, _, _, _, _, _, hC, hm, ho, hA, hT, hD, hE, hF⟩
set_option maxRecDepth 100000 in
set_option maxHeartbeats 4000000 in
theorem zlw_2 {g : zx_G} {σ : zx_M} {sz kc ks scr Ls i b : Nat} {xs : Nat → Int32} {QQ : List Frame → Array Value → State → State → Prop} (hI : zIV g σ b) (hi : i + 4 ≤ Ls) (hLs : Ls ≤ 2048) (hk0 : kc ≤ room_1.cells) (hs0 : ks ≤ room_1.slots) (KK : ∀ σ' sz', zIV g σ' b → zL g scr Ls xs QQ 845 (zLV scr b i) [] σ' sz' kc ks) : zL g scr Ls xs QQ 203 (zLV scr b i) [] σ sz kc ks := by
  obtain ⟨t, e, s, k, p, x, y, lv, len, nx, n0, n, m, c, wr, od, W, R0, R, Q, N, S, K, Sg, L, th, ps, ot, pr, fr, M, pa, dp, fo, hC, hm, ho, hA, hT, hD, hE, hF⟩ := hI
  obtain ⟨hlay, hB, hO, hV, h, hY, hN, hS, hK, hP⟩ := id hC
  obtain ⟨el1, el2, el3, el4, el5, lx, ly, ll, lxy, lxl, lyl⟩ := hlay.f
  have hn := hT.1
  refine zg_aload_n 3 cd_W_law_203 rfl rfl ?_
  refine zg_callVp (rm' := zr_F_place) (b := b) (As := []) (rest := []) (kc_F_place hB hO) ⟨rfl, rfl⟩ zy_F_place_ok zm_302 zm_303 zm_304 (ci := 6) rfl rfl ⟨by decide, by decide⟩ ⟨hk0, hs0⟩ cd_W_law_204 hB.1 rfl rfl (Nat.le_of_ble_eq_true rfl) ?_
  refine zg_aload_n 2 cd_W_law_207 rfl rfl ?_
  refine zg_callVi (rm' := zr_M_place_) (b := (b + 56)) (As := []) (rest := [.int _]) (kc_M_place_ hm) ⟨rfl, rfl⟩ zy_M_place__ok zm_883 zm_884 zm_885 (ci := 7) rfl rfl ⟨by decide, by decide⟩ ⟨hk0, hs0⟩ cd_W_law_208 hm.1 rfl rfl (Nat.le_of_ble_eq_true rfl) (fun v8 σ8 sz8 hq8 => ?_)
  obtain ⟨hv8, -, hF8, hm⟩ := hq8
  have hC := hC.fr hF8 (Or.inl (Nat.le_refl _))
  have ho := ho.fr hF8 (by omega)
  refine zg_icmp_eq (tgt := 845) cd_W_law_211 (by decide) (fun _ => ?_) (fun c9 => absurd (hv8.symm) c9)
  exact KK _ _ ⟨_, _, _, _, _, _, _, _, _, _, _, _, _, _, _, _, _, _, _, _, _, _, _, _, _, _, _, _, _, _, _, _, _, _, hC, hm, ho, hA, hT, hD, hE, hF⟩
set_option maxRecDepth 100000 in
set_option maxHeartbeats 4000000 in
theorem zlw_3 {g : zx_G} {σ : zx_M} {sz kc ks scr Ls i b : Nat} {xs : Nat → Int32} {QQ : List Frame → Array Value → State → State → Prop} (hI : zIV g σ b) (hi : i + 4 ≤ Ls) (hLs : Ls ≤ 2048) (hk0 : kc ≤ room_1.cells) (hs0 : ks ≤ room_1.slots) (KK : ∀ σ' sz', zIV g σ' b → zL g scr Ls xs QQ 845 (zLV scr b i) [] σ' sz' kc ks) : zL g scr Ls xs QQ 216 (zLV scr b i) [] σ sz kc ks := by
  obtain ⟨t, e, s, k, p, x, y, lv, len, nx, n0, n, m, c, wr, od, W, R0, R, Q, N, S, K, Sg, L, th, ps, ot, pr, fr, M, pa, dp, fo, hC, hm, ho, hA, hT, hD, hE, hF⟩ := hI
  obtain ⟨hlay, hB, hO, hV, h, hY, hN, hS, hK, hP⟩ := id hC
  obtain ⟨el1, el2, el3, el4, el5, lx, ly, ll, lxy, lxl, lyl⟩ := hlay.f
  have hn := hT.1
  refine zg_aload_n 3 cd_W_law_216 rfl rfl ?_
  refine zg_aload_n 4 cd_W_law_217 rfl rfl ?_
  refine zg_iload 0 cd_W_law_218 rfl ?_
  refine zg_iconst (v := nI 1) cd_W_law_220 (by decide) ?_
  refine zg_iadd cd_W_law_221 ?_
  refine zg_top (nI_add _ _) ?_
  refine zg_sld cd_W_law_222 (by omega) (by omega) ?_
  refine zg_aload_n 4 cd_W_law_223 rfl rfl ?_
  refine zg_iload 0 cd_W_law_224 rfl ?_
  refine zg_iconst (v := nI 2) cd_W_law_226 (by decide) ?_
  refine zg_iadd cd_W_law_227 ?_
  refine zg_top (nI_add _ _) ?_
  refine zg_sld cd_W_law_228 (by omega) (by omega) ?_
  refine zg_callVp (rm' := zr_F_level) (b := b) (As := [.int (xs (i + 1)), .int (xs (i + 2))]) (rest := []) (kc_F_level hB h hn) ⟨rfl, rfl⟩ zy_F_level_ok zm_306 zm_307 zm_308 (ci := 6) rfl rfl ⟨by decide, by decide⟩ ⟨hk0, hs0⟩ cd_W_law_229 hB.1 rfl rfl (Nat.le_of_ble_eq_true rfl) ?_
  refine zg_aload_n 2 cd_W_law_232 rfl rfl ?_
  refine zg_aload_n 4 cd_W_law_233 rfl rfl ?_
  refine zg_iload 0 cd_W_law_234 rfl ?_
  refine zg_iconst (v := nI 1) cd_W_law_236 (by decide) ?_
  refine zg_iadd cd_W_law_237 ?_
  refine zg_top (nI_add _ _) ?_
  refine zg_sld cd_W_law_238 (by omega) (by omega) ?_
  refine zg_aload_n 4 cd_W_law_239 rfl rfl ?_
  refine zg_iload 0 cd_W_law_240 rfl ?_
  refine zg_iconst (v := nI 2) cd_W_law_242 (by decide) ?_
  refine zg_iadd cd_W_law_243 ?_
  refine zg_top (nI_add _ _) ?_
  refine zg_sld cd_W_law_244 (by omega) (by omega) ?_
  refine zg_callVi (rm' := zr_M_level) (b := (b + 56)) (As := [.int (xs (i + 1)), .int (xs (i + 2))]) (rest := [.int _]) (kc_M_level hm hT.2.1 hn) ⟨rfl, rfl⟩ zy_M_level_ok zm_887 zm_888 zm_889 (ci := 7) rfl rfl ⟨by decide, by decide⟩ ⟨hk0, hs0⟩ cd_W_law_245 hm.1 rfl rfl (Nat.le_of_ble_eq_true rfl) (fun v8 σ8 sz8 hq8 => ?_)
  obtain ⟨hv8, -, hF8, hm⟩ := hq8
  have hC := hC.fr hF8 (Or.inl (Nat.le_refl _))
  have ho := ho.fr hF8 (by omega)
  refine zg_icmp_eq (tgt := 845) cd_W_law_248 (by decide) (fun _ => ?_) (fun c9 => absurd (by rw [hv8]; exact zrel_level hT _ _) c9)
  exact KK _ _ ⟨_, _, _, _, _, _, _, _, _, _, _, _, _, _, _, _, _, _, _, _, _, _, _, _, _, _, _, _, _, _, _, _, _, _, hC, hm, ho, hA, hT, hD, hE, hF⟩
set_option maxRecDepth 100000 in
set_option maxHeartbeats 4000000 in
theorem zlw_4 {g : zx_G} {σ : zx_M} {sz kc ks scr Ls i b : Nat} {xs : Nat → Int32} {QQ : List Frame → Array Value → State → State → Prop} (hI : zIV g σ b) (hi : i + 4 ≤ Ls) (hLs : Ls ≤ 2048) (hk0 : kc ≤ room_1.cells) (hs0 : ks ≤ room_1.slots) (KK : ∀ σ' sz', zIV g σ' b → zL g scr Ls xs QQ 845 (zLV scr b i) [] σ' sz' kc ks) : zL g scr Ls xs QQ 253 (zLV scr b i) [] σ sz kc ks := by
  obtain ⟨t, e, s, k, p, x, y, lv, len, nx, n0, n, m, c, wr, od, W, R0, R, Q, N, S, K, Sg, L, th, ps, ot, pr, fr, M, pa, dp, fo, hC, hm, ho, hA, hT, hD, hE, hF⟩ := hI
  obtain ⟨hlay, hB, hO, hV, h, hY, hN, hS, hK, hP⟩ := id hC
  obtain ⟨el1, el2, el3, el4, el5, lx, ly, ll, lxy, lxl, lyl⟩ := hlay.f
  have hn := hT.1
  refine zg_aload_n 3 cd_W_law_253 rfl rfl ?_
  refine zg_aload_n 4 cd_W_law_254 rfl rfl ?_
  refine zg_iload 0 cd_W_law_255 rfl ?_
  refine zg_iconst (v := nI 1) cd_W_law_257 (by decide) ?_
  refine zg_iadd cd_W_law_258 ?_
  refine zg_top (nI_add _ _) ?_
  refine zg_sld cd_W_law_259 (by omega) (by omega) ?_
  refine zg_aload_n 4 cd_W_law_260 rfl rfl ?_
  refine zg_iload 0 cd_W_law_261 rfl ?_
  refine zg_iconst (v := nI 2) cd_W_law_263 (by decide) ?_
  refine zg_iadd cd_W_law_264 ?_
  refine zg_top (nI_add _ _) ?_
  refine zg_sld cd_W_law_265 (by omega) (by omega) ?_
  refine zg_callVp (rm' := zr_F_letter) (b := b) (As := [.int (xs (i + 1)), .int (xs (i + 2))]) (rest := []) (kc_F_letter hB h hn hT.T) ⟨rfl, rfl⟩ zy_F_letter_ok zm_314 zm_315 zm_316 (ci := 6) rfl rfl ⟨by decide, by decide⟩ ⟨hk0, hs0⟩ cd_W_law_266 hB.1 rfl rfl (Nat.le_of_ble_eq_true rfl) ?_
  refine zg_aload_n 2 cd_W_law_269 rfl rfl ?_
  refine zg_aload_n 4 cd_W_law_270 rfl rfl ?_
  refine zg_iload 0 cd_W_law_271 rfl ?_
  refine zg_iconst (v := nI 1) cd_W_law_273 (by decide) ?_
  refine zg_iadd cd_W_law_274 ?_
  refine zg_top (nI_add _ _) ?_
  refine zg_sld cd_W_law_275 (by omega) (by omega) ?_
  refine zg_aload_n 4 cd_W_law_276 rfl rfl ?_
  refine zg_iload 0 cd_W_law_277 rfl ?_
  refine zg_iconst (v := nI 2) cd_W_law_279 (by decide) ?_
  refine zg_iadd cd_W_law_280 ?_
  refine zg_top (nI_add _ _) ?_
  refine zg_sld cd_W_law_281 (by omega) (by omega) ?_
  refine zg_callVi (rm' := zr_M_letter) (b := (b + 56)) (As := [.int (xs (i + 1)), .int (xs (i + 2))]) (rest := [.int _]) (kc_M_letter hm hT.2.1 hn hT.TM) ⟨rfl, rfl⟩ zy_M_letter_ok zm_895 zm_896 zm_897 (ci := 7) rfl rfl ⟨by decide, by decide⟩ ⟨hk0, hs0⟩ cd_W_law_282 hm.1 rfl rfl (Nat.le_of_ble_eq_true rfl) (fun v8 σ8 sz8 hq8 => ?_)
  obtain ⟨hv8, -, hF8, hm⟩ := hq8
  have hC := hC.fr hF8 (Or.inl (Nat.le_refl _))
  have ho := ho.fr hF8 (by omega)
  refine zg_icmp_eq (tgt := 845) cd_W_law_285 (by decide) (fun _ => ?_) (fun c9 => absurd (by rw [hv8]; exact zrel_letter hT _ _) c9)
  exact KK _ _ ⟨_, _, _, _, _, _, _, _, _, _, _, _, _, _, _, _, _, _, _, _, _, _, _, _, _, _, _, _, _, _, _, _, _, _, hC, hm, ho, hA, hT, hD, hE, hF⟩
set_option maxRecDepth 100000 in
set_option maxHeartbeats 4000000 in
theorem zlw_5 {g : zx_G} {σ : zx_M} {sz kc ks scr Ls i b : Nat} {xs : Nat → Int32} {QQ : List Frame → Array Value → State → State → Prop} (hI : zIV g σ b) (hi : i + 4 ≤ Ls) (hLs : Ls ≤ 2048) (hk0 : kc ≤ room_1.cells) (hs0 : ks ≤ room_1.slots) (KK : ∀ σ' sz', zIV g σ' b → zL g scr Ls xs QQ 845 (zLV scr b i) [] σ' sz' kc ks) : zL g scr Ls xs QQ 290 (zLV scr b i) [] σ sz kc ks := by
  obtain ⟨t, e, s, k, p, x, y, lv, len, nx, n0, n, m, c, wr, od, W, R0, R, Q, N, S, K, Sg, L, th, ps, ot, pr, fr, M, pa, dp, fo, hC, hm, ho, hA, hT, hD, hE, hF⟩ := hI
  obtain ⟨hlay, hB, hO, hV, h, hY, hN, hS, hK, hP⟩ := id hC
  obtain ⟨el1, el2, el3, el4, el5, lx, ly, ll, lxy, lxl, lyl⟩ := hlay.f
  have hn := hT.1
  refine zg_aload_n 3 cd_W_law_290 rfl rfl ?_
  refine zg_aload_n 4 cd_W_law_291 rfl rfl ?_
  refine zg_iload 0 cd_W_law_292 rfl ?_
  refine zg_iconst (v := nI 1) cd_W_law_294 (by decide) ?_
  refine zg_iadd cd_W_law_295 ?_
  refine zg_top (nI_add _ _) ?_
  refine zg_sld cd_W_law_296 (by omega) (by omega) ?_
  refine zg_aload_n 4 cd_W_law_297 rfl rfl ?_
  refine zg_iload 0 cd_W_law_298 rfl ?_
  refine zg_iconst (v := nI 2) cd_W_law_300 (by decide) ?_
  refine zg_iadd cd_W_law_301 ?_
  refine zg_top (nI_add _ _) ?_
  refine zg_sld cd_W_law_302 (by omega) (by omega) ?_
  refine zg_callVp (rm' := zr_F_compare) (b := b) (As := [.int (xs (i + 1)), .int (xs (i + 2))]) (rest := []) (kc_F_compare hB h hn) ⟨rfl, rfl⟩ zy_F_compare_ok zm_322 zm_323 zm_324 (ci := 6) rfl rfl ⟨by decide, by decide⟩ ⟨hk0, hs0⟩ cd_W_law_303 hB.1 rfl rfl (Nat.le_of_ble_eq_true rfl) ?_
  refine zg_aload_n 2 cd_W_law_306 rfl rfl ?_
  refine zg_aload_n 4 cd_W_law_307 rfl rfl ?_
  refine zg_iload 0 cd_W_law_308 rfl ?_
  refine zg_iconst (v := nI 1) cd_W_law_310 (by decide) ?_
  refine zg_iadd cd_W_law_311 ?_
  refine zg_top (nI_add _ _) ?_
  refine zg_sld cd_W_law_312 (by omega) (by omega) ?_
  refine zg_aload_n 4 cd_W_law_313 rfl rfl ?_
  refine zg_iload 0 cd_W_law_314 rfl ?_
  refine zg_iconst (v := nI 2) cd_W_law_316 (by decide) ?_
  refine zg_iadd cd_W_law_317 ?_
  refine zg_top (nI_add _ _) ?_
  refine zg_sld cd_W_law_318 (by omega) (by omega) ?_
  refine zg_callVi (rm' := zr_M_compare) (b := (b + 56)) (As := [.int (xs (i + 1)), .int (xs (i + 2))]) (rest := [.int _]) (kc_M_compare hm hn) ⟨rfl, rfl⟩ zy_M_compare_ok zm_899 zm_900 zm_901 (ci := 7) rfl rfl ⟨by decide, by decide⟩ ⟨hk0, hs0⟩ cd_W_law_319 hm.1 rfl rfl (Nat.le_of_ble_eq_true rfl) (fun v8 σ8 sz8 hq8 => ?_)
  obtain ⟨hv8, -, hF8, hm⟩ := hq8
  have hC := hC.fr hF8 (Or.inl (Nat.le_refl _))
  have ho := ho.fr hF8 (by omega)
  refine zg_icmp_eq (tgt := 845) cd_W_law_322 (by decide) (fun _ => ?_) (fun c9 => absurd (by rw [hv8]; exact zrel_compare hT _ _) c9)
  exact KK _ _ ⟨_, _, _, _, _, _, _, _, _, _, _, _, _, _, _, _, _, _, _, _, _, _, _, _, _, _, _, _, _, _, _, _, _, _, hC, hm, ho, hA, hT, hD, hE, hF⟩
set_option maxRecDepth 100000 in
set_option maxHeartbeats 4000000 in
theorem zlw_6 {g : zx_G} {σ : zx_M} {sz kc ks scr Ls i b : Nat} {xs : Nat → Int32} {QQ : List Frame → Array Value → State → State → Prop} (hI : zIV g σ b) (hi : i + 4 ≤ Ls) (hLs : Ls ≤ 2048) (hk0 : kc ≤ room_1.cells) (hs0 : ks ≤ room_1.slots) (KK : ∀ σ' sz', zIV g σ' b → zL g scr Ls xs QQ 845 (zLV scr b i) [] σ' sz' kc ks) : zL g scr Ls xs QQ 327 (zLV scr b i) [] σ sz kc ks := by
  obtain ⟨t, e, s, k, p, x, y, lv, len, nx, n0, n, m, c, wr, od, W, R0, R, Q, N, S, K, Sg, L, th, ps, ot, pr, fr, M, pa, dp, fo, hC, hm, ho, hA, hT, hD, hE, hF⟩ := hI
  obtain ⟨hlay, hB, hO, hV, h, hY, hN, hS, hK, hP⟩ := id hC
  obtain ⟨el1, el2, el3, el4, el5, lx, ly, ll, lxy, lxl, lyl⟩ := hlay.f
  have hn := hT.1
  refine zg_aload_n 3 cd_W_law_327 rfl rfl ?_
  refine zg_aload_n 4 cd_W_law_328 rfl rfl ?_
  refine zg_iload 0 cd_W_law_329 rfl ?_
  refine zg_iconst (v := nI 1) cd_W_law_331 (by decide) ?_
  refine zg_iadd cd_W_law_332 ?_
  refine zg_top (nI_add _ _) ?_
  refine zg_sld cd_W_law_333 (by omega) (by omega) ?_
  refine zg_aload_n 4 cd_W_law_334 rfl rfl ?_
  refine zg_iload 0 cd_W_law_335 rfl ?_
  refine zg_iconst (v := nI 2) cd_W_law_337 (by decide) ?_
  refine zg_iadd cd_W_law_338 ?_
  refine zg_top (nI_add _ _) ?_
  refine zg_sld cd_W_law_339 (by omega) (by omega) ?_
  refine zg_callVi (rm' := zr_F_extent) (b := b) (As := [.int (xs (i + 1)), .int (xs (i + 2))]) (rest := []) (kc_F_extent hB h hn hS (by omega) (by omega)) ⟨rfl, rfl⟩ zy_F_extent_ok zm_333 zm_334 zm_335 (ci := 6) rfl rfl ⟨by decide, by decide⟩ ⟨hk0, hs0⟩ cd_W_law_340 hB.1 rfl rfl (Nat.le_of_ble_eq_true rfl) (fun v9 σ9 sz9 hq9 => ?_)
  obtain ⟨-, hF9, S9, hv9, hS9⟩ := hq9
  obtain ⟨hC, hF9⟩ := hC.us hF9 hS9
  have hm := hm.frn hF9 21 rfl (by omega)
  have ho := ho.fr hF9 (by omega)
  have hv9 : v9 = zm_exn n M pa (xs (i + 1)) (xs (i + 2)) := by rw [← zrel_extent hT S, hv9]
  refine zg_aload_n 2 cd_W_law_343 rfl rfl ?_
  refine zg_aload_n 4 cd_W_law_344 rfl rfl ?_
  refine zg_iload 0 cd_W_law_345 rfl ?_
  refine zg_iconst (v := nI 1) cd_W_law_347 (by decide) ?_
  refine zg_iadd cd_W_law_348 ?_
  refine zg_top (nI_add _ _) ?_
  refine zg_sld cd_W_law_349 (by omega) (by omega) ?_
  refine zg_aload_n 4 cd_W_law_350 rfl rfl ?_
  refine zg_iload 0 cd_W_law_351 rfl ?_
  refine zg_iconst (v := nI 2) cd_W_law_353 (by decide) ?_
  refine zg_iadd cd_W_law_354 ?_
  refine zg_top (nI_add _ _) ?_
  refine zg_sld cd_W_law_355 (by omega) (by omega) ?_
  refine zg_callVi (rm' := zr_M_extent) (b := (b + 56)) (As := [.int (xs (i + 1)), .int (xs (i + 2))]) (rest := [.int _]) (kc_M_extent hm hT.2.1 hn) ⟨rfl, rfl⟩ zy_M_extent_ok zm_903 zm_904 zm_905 (ci := 7) rfl rfl ⟨by decide, by decide⟩ ⟨hk0, hs0⟩ cd_W_law_356 hm.1 rfl rfl (Nat.le_of_ble_eq_true rfl) (fun v8 σ8 sz8 hq8 => ?_)
  obtain ⟨hv8, -, hF8, hm⟩ := hq8
  have hC := hC.fr hF8 (Or.inl (Nat.le_refl _))
  have ho := ho.fr hF8 (by omega)
  refine zg_icmp_eq (tgt := 845) cd_W_law_359 (by decide) (fun _ => ?_) (fun c9 => absurd (by rw [hv8]; exact hv9) c9)
  exact KK _ _ ⟨_, _, _, _, _, _, _, _, _, _, _, _, _, _, _, _, _, _, _, _, _, _, _, _, _, _, _, _, _, _, _, _, _, _, hC, hm, ho, hA, hT, hD, hE, hF⟩
set_option maxRecDepth 100000 in
set_option maxHeartbeats 4000000 in
theorem zlw_7 {g : zx_G} {σ : zx_M} {sz kc ks scr Ls i b : Nat} {xs : Nat → Int32} {QQ : List Frame → Array Value → State → State → Prop} (hI : zIV g σ b) (hi : i + 4 ≤ Ls) (hLs : Ls ≤ 2048) (hk0 : kc ≤ room_1.cells) (hs0 : ks ≤ room_1.slots) (KK : ∀ σ' sz', zIV g σ' b → zL g scr Ls xs QQ 845 (zLV scr b i) [] σ' sz' kc ks) : zL g scr Ls xs QQ 364 (zLV scr b i) [] σ sz kc ks := by
  obtain ⟨t, e, s, k, p, x, y, lv, len, nx, n0, n, m, c, wr, od, W, R0, R, Q, N, S, K, Sg, L, th, ps, ot, pr, fr, M, pa, dp, fo, hC, hm, ho, hA, hT, hD, hE, hF⟩ := hI
  obtain ⟨hlay, hB, hO, hV, h, hY, hN, hS, hK, hP⟩ := id hC
  obtain ⟨el1, el2, el3, el4, el5, lx, ly, ll, lxy, lxl, lyl⟩ := hlay.f
  have hn := hT.1
  refine zg_aload_n 3 cd_W_law_364 rfl rfl ?_
  refine zg_aload_n 4 cd_W_law_365 rfl rfl ?_
  refine zg_iload 0 cd_W_law_366 rfl ?_
  refine zg_iconst (v := nI 1) cd_W_law_368 (by decide) ?_
  refine zg_iadd cd_W_law_369 ?_
  refine zg_top (nI_add _ _) ?_
  refine zg_sld cd_W_law_370 (by omega) (by omega) ?_
  refine zg_callVi (rm' := zr_F_differ) (b := b) (As := [.int (xs (i + 1))]) (rest := []) (kc_F_differ (uo := zuo R) hB h hn hS hT.uo (by omega) (by omega)) ⟨rfl, rfl⟩ zy_F_differ_ok zm_353 zm_354 zm_355 (ci := 6) rfl rfl ⟨by decide, by decide⟩ ⟨hk0, hs0⟩ cd_W_law_371 hB.1 rfl rfl (Nat.le_of_ble_eq_true rfl) (fun v9 σ9 sz9 hq9 => ?_)
  obtain ⟨-, hF9, hv9, hS9⟩ := hq9
  obtain ⟨hC, hF9⟩ := hC.us hF9 hS9
  have hm := hm.frn hF9 21 rfl (by omega)
  have ho := ho.fr hF9 (by omega)
  refine zg_aload_n 2 cd_W_law_374 rfl rfl ?_
  refine zg_aload_n 4 cd_W_law_375 rfl rfl ?_
  refine zg_iload 0 cd_W_law_376 rfl ?_
  refine zg_iconst (v := nI 1) cd_W_law_378 (by decide) ?_
  refine zg_iadd cd_W_law_379 ?_
  refine zg_top (nI_add _ _) ?_
  refine zg_sld cd_W_law_380 (by omega) (by omega) ?_
  refine zg_callVi (rm' := zr_M_differ) (b := (b + 56)) (As := [.int (xs (i + 1))]) (rest := [.int _]) (kc_M_differ hm hT.2.1 hn) ⟨rfl, rfl⟩ zy_M_differ_ok zm_915 zm_916 zm_917 (ci := 7) rfl rfl ⟨by decide, by decide⟩ ⟨hk0, hs0⟩ cd_W_law_381 hm.1 rfl rfl (Nat.le_of_ble_eq_true rfl) (fun v8 σ8 sz8 hq8 => ?_)
  obtain ⟨hv8, -, hF8, hm⟩ := hq8
  have hC := hC.fr hF8 (Or.inl (Nat.le_refl _))
  have ho := ho.fr hF8 (by omega)
  refine zg_icmp_eq (tgt := 845) cd_W_law_384 (by decide) (fun _ => ?_) (fun c9 => absurd (by rw [hv8, hv9]; exact zrel_differ hT S _) c9)
  exact KK _ _ ⟨_, _, _, _, _, _, _, _, _, _, _, _, _, _, _, _, _, _, _, _, _, _, _, _, _, _, _, _, _, _, _, _, _, _, hC, hm, ho, hA, hT, hD, hE, hF⟩
set_option maxRecDepth 100000 in
set_option maxHeartbeats 4000000 in
theorem zlw_8 {g : zx_G} {σ : zx_M} {sz kc ks scr Ls i b : Nat} {xs : Nat → Int32} {QQ : List Frame → Array Value → State → State → Prop} (hI : zIV g σ b) (hi : i + 4 ≤ Ls) (hLs : Ls ≤ 2048) (hk0 : kc ≤ room_1.cells) (hs0 : ks ≤ room_1.slots) (KK : ∀ σ' sz', zIV g σ' b → zL g scr Ls xs QQ 845 (zLV scr b i) [] σ' sz' kc ks) : zL g scr Ls xs QQ 389 (zLV scr b i) [] σ sz kc ks := by
  obtain ⟨t, e, s, k, p, x, y, lv, len, nx, n0, n, m, c, wr, od, W, R0, R, Q, N, S, K, Sg, L, th, ps, ot, pr, fr, M, pa, dp, fo, hC, hm, ho, hA, hT, hD, hE, hF⟩ := hI
  obtain ⟨hlay, hB, hO, hV, h, hY, hN, hS, hK, hP⟩ := id hC
  obtain ⟨el1, el2, el3, el4, el5, lx, ly, ll, lxy, lxl, lyl⟩ := hlay.f
  have hn := hT.1
  refine zg_aload_n 3 cd_W_law_389 rfl rfl ?_
  refine zg_aload_n 4 cd_W_law_390 rfl rfl ?_
  refine zg_iload 0 cd_W_law_391 rfl ?_
  refine zg_iconst (v := nI 1) cd_W_law_393 (by decide) ?_
  refine zg_iadd cd_W_law_394 ?_
  refine zg_top (nI_add _ _) ?_
  refine zg_sld cd_W_law_395 (by omega) (by omega) ?_
  refine zg_callVp (rm' := zr_F_twice) (b := b) (As := [.int (xs (i + 1))]) (rest := []) (kc_F_twice hB h hn) ⟨rfl, rfl⟩ zy_F_twice_ok zm_361 zm_362 zm_363 (ci := 6) rfl rfl ⟨by decide, by decide⟩ ⟨hk0, hs0⟩ cd_W_law_396 hB.1 rfl rfl (Nat.le_of_ble_eq_true rfl) ?_
  refine zg_aload_n 2 cd_W_law_399 rfl rfl ?_
  refine zg_aload_n 4 cd_W_law_400 rfl rfl ?_
  refine zg_iload 0 cd_W_law_401 rfl ?_
  refine zg_iconst (v := nI 1) cd_W_law_403 (by decide) ?_
  refine zg_iadd cd_W_law_404 ?_
  refine zg_top (nI_add _ _) ?_
  refine zg_sld cd_W_law_405 (by omega) (by omega) ?_
  refine zg_callVi (rm' := zr_M_twice) (b := (b + 56)) (As := [.int (xs (i + 1))]) (rest := [.int _]) (kc_M_twice (dp := dp) hm hn) ⟨rfl, rfl⟩ zy_M_twice_ok zm_919 zm_920 zm_921 (ci := 7) rfl rfl ⟨by decide, by decide⟩ ⟨hk0, hs0⟩ cd_W_law_406 hm.1 rfl rfl (Nat.le_of_ble_eq_true rfl) (fun v8 σ8 sz8 hq8 => ?_)
  obtain ⟨hv8, -, hF8, hm⟩ := hq8
  have hC := hC.fr hF8 (Or.inl (Nat.le_refl _))
  have ho := ho.fr hF8 (by omega)
  refine zg_icmp_eq (tgt := 845) cd_W_law_409 (by decide) (fun _ => ?_) (fun c9 => absurd (by rw [hv8]; exact zrel_twice hT _) c9)
  exact KK _ _ ⟨_, _, _, _, _, _, _, _, _, _, _, _, _, _, _, _, _, _, _, _, _, _, _, _, _, _, _, _, _, _, _, _, _, _, hC, hm, ho, hA, hT, hD, hE, hF⟩
set_option maxRecDepth 100000 in
set_option maxHeartbeats 4000000 in
theorem zlw_9 {g : zx_G} {σ : zx_M} {sz kc ks scr Ls i b : Nat} {xs : Nat → Int32} {QQ : List Frame → Array Value → State → State → Prop} (hI : zIV g σ b) (hi : i + 4 ≤ Ls) (hLs : Ls ≤ 2048) (hk0 : kc ≤ room_1.cells) (hs0 : ks ≤ room_1.slots) (KK : ∀ σ' sz', zIV g σ' b → zL g scr Ls xs QQ 845 (zLV scr b i) [] σ' sz' kc ks) : zL g scr Ls xs QQ 414 (zLV scr b i) [] σ sz kc ks := by
  obtain ⟨t, e, s, k, p, x, y, lv, len, nx, n0, n, m, c, wr, od, W, R0, R, Q, N, S, K, Sg, L, th, ps, ot, pr, fr, M, pa, dp, fo, hC, hm, ho, hA, hT, hD, hE, hF⟩ := hI
  obtain ⟨hlay, hB, hO, hV, h, hY, hN, hS, hK, hP⟩ := id hC
  obtain ⟨el1, el2, el3, el4, el5, lx, ly, ll, lxy, lxl, lyl⟩ := hlay.f
  have hn := hT.1
  refine zg_aload_n 3 cd_W_law_414 rfl rfl ?_
  refine zg_aload_n 4 cd_W_law_415 rfl rfl ?_
  refine zg_iload 0 cd_W_law_416 rfl ?_
  refine zg_iconst (v := nI 1) cd_W_law_418 (by decide) ?_
  refine zg_iadd cd_W_law_419 ?_
  refine zg_top (nI_add _ _) ?_
  refine zg_sld cd_W_law_420 (by omega) (by omega) ?_
  refine zg_aload_n 4 cd_W_law_421 rfl rfl ?_
  refine zg_iload 0 cd_W_law_422 rfl ?_
  refine zg_iconst (v := nI 2) cd_W_law_424 (by decide) ?_
  refine zg_iadd cd_W_law_425 ?_
  refine zg_top (nI_add _ _) ?_
  refine zg_sld cd_W_law_426 (by omega) (by omega) ?_
  refine zg_aload_n 4 cd_W_law_427 rfl rfl ?_
  refine zg_iload 0 cd_W_law_428 rfl ?_
  refine zg_iconst (v := nI 3) cd_W_law_430 (by decide) ?_
  refine zg_iadd cd_W_law_431 ?_
  refine zg_top (nI_add _ _) ?_
  refine zg_sld cd_W_law_432 (by omega) (by omega) ?_
  refine zg_callVi (rm' := zr_F_restrict) (b := b) (As := [.int (xs (i + 1)), .int (xs (i + 2)), .int (xs (i + 3))]) (rest := []) (kc_F_restrict hB h hn hN (by omega) (by omega)) ⟨rfl, rfl⟩ zy_F_restrict_ok zm_369 zm_370 zm_371 (ci := 6) rfl rfl ⟨by decide, by decide⟩ ⟨hk0, hs0⟩ cd_W_law_433 hB.1 rfl rfl (Nat.le_of_ble_eq_true rfl) (fun v9 σ9 sz9 hq9 => ?_)
  obtain ⟨-, hF9, N9, hv9, hN9⟩ := hq9
  obtain ⟨hC, hF9⟩ := hC.un hF9 hN9
  have hm := hm.frn hF9 21 rfl (by omega)
  have ho := ho.fr hF9 (by omega)
  refine zg_aload_n 2 cd_W_law_436 rfl rfl ?_
  refine zg_aload_n 4 cd_W_law_437 rfl rfl ?_
  refine zg_iload 0 cd_W_law_438 rfl ?_
  refine zg_iconst (v := nI 1) cd_W_law_440 (by decide) ?_
  refine zg_iadd cd_W_law_441 ?_
  refine zg_top (nI_add _ _) ?_
  refine zg_sld cd_W_law_442 (by omega) (by omega) ?_
  refine zg_aload_n 4 cd_W_law_443 rfl rfl ?_
  refine zg_iload 0 cd_W_law_444 rfl ?_
  refine zg_iconst (v := nI 2) cd_W_law_446 (by decide) ?_
  refine zg_iadd cd_W_law_447 ?_
  refine zg_top (nI_add _ _) ?_
  refine zg_sld cd_W_law_448 (by omega) (by omega) ?_
  refine zg_aload_n 4 cd_W_law_449 rfl rfl ?_
  refine zg_iload 0 cd_W_law_450 rfl ?_
  refine zg_iconst (v := nI 3) cd_W_law_452 (by decide) ?_
  refine zg_iadd cd_W_law_453 ?_
  refine zg_top (nI_add _ _) ?_
  refine zg_sld cd_W_law_454 (by omega) (by omega) ?_
  refine zg_callVi (rm' := zr_M_restrict) (b := (b + 56)) (As := [.int (xs (i + 1)), .int (xs (i + 2)), .int (xs (i + 3))]) (rest := [.int _]) (kc_M_restrict hm hn) ⟨rfl, rfl⟩ zy_M_restrict_ok zm_923 zm_924 zm_925 (ci := 7) rfl rfl ⟨by decide, by decide⟩ ⟨hk0, hs0⟩ cd_W_law_455 hm.1 rfl rfl (Nat.le_of_ble_eq_true rfl) (fun v8 σ8 sz8 hq8 => ?_)
  obtain ⟨-, hF8, M9, hv8, hm⟩ := hq8
  have hC := hC.fr hF8 (Or.inl (Nat.le_refl _))
  have ho := ho.fr hF8 (by omega)
  obtain ⟨hvv, hD, hr⟩ := zrel_restrict hD hv9 hv8
  have hA : zAt len W (M9 0) := by rw [hr 0 (by decide)]; exact hA
  have hT := hT.mv (M' := M9) (fun r9 j9 _ _ _ => by rw [hr r9 (by omega)]) (fun j9 _ => by rw [hr 10 (by decide)])
  have hE := hE.mv (M' := M9) (fun r9 _ _ => hr r9 (by omega)) (fun r9 j9 _ _ _ => by rw [hr r9 (by omega)]) (fun j9 _ => by rw [hr 10 (by decide)])
  have hF : zFt L pr Sg (M9 20) := by rw [hr 20 (by decide)]; exact hF
  refine zg_icmp_eq (tgt := 845) cd_W_law_458 (by decide) (fun _ => ?_) (fun c9 => absurd (hvv) c9)
  exact KK _ _ ⟨_, _, _, _, _, _, _, _, _, _, _, _, _, _, _, _, _, _, _, _, _, _, _, _, _, _, _, _, _, _, _, _, _, _, hC, hm, ho, hA, hT, hD, hE, hF⟩
set_option maxRecDepth 100000 in
set_option maxHeartbeats 4000000 in
theorem zlw_10 {g : zx_G} {σ : zx_M} {sz kc ks scr Ls i b : Nat} {xs : Nat → Int32} {QQ : List Frame → Array Value → State → State → Prop} (hI : zIV g σ b) (hi : i + 4 ≤ Ls) (hLs : Ls ≤ 2048) (hk0 : kc ≤ room_1.cells) (hs0 : ks ≤ room_1.slots) (KK : ∀ σ' sz', zIV g σ' b → zL g scr Ls xs QQ 845 (zLV scr b i) [] σ' sz' kc ks) : zL g scr Ls xs QQ 463 (zLV scr b i) [] σ sz kc ks := by
  obtain ⟨t, e, s, k, p, x, y, lv, len, nx, n0, n, m, c, wr, od, W, R0, R, Q, N, S, K, Sg, L, th, ps, ot, pr, fr, M, pa, dp, fo, hC, hm, ho, hA, hT, hD, hE, hF⟩ := hI
  obtain ⟨hlay, hB, hO, hV, h, hY, hN, hS, hK, hP⟩ := id hC
  obtain ⟨el1, el2, el3, el4, el5, lx, ly, ll, lxy, lxl, lyl⟩ := hlay.f
  have hn := hT.1
  refine zg_aload_n 3 cd_W_law_463 rfl rfl ?_
  refine zg_aload_n 4 cd_W_law_464 rfl rfl ?_
  refine zg_iload 0 cd_W_law_465 rfl ?_
  refine zg_iconst (v := nI 1) cd_W_law_467 (by decide) ?_
  refine zg_iadd cd_W_law_468 ?_
  refine zg_top (nI_add _ _) ?_
  refine zg_sld cd_W_law_469 (by omega) (by omega) ?_
  refine zg_aload_n 4 cd_W_law_470 rfl rfl ?_
  refine zg_iload 0 cd_W_law_471 rfl ?_
  refine zg_iconst (v := nI 2) cd_W_law_473 (by decide) ?_
  refine zg_iadd cd_W_law_474 ?_
  refine zg_top (nI_add _ _) ?_
  refine zg_sld cd_W_law_475 (by omega) (by omega) ?_
  refine zg_callVp (rm' := zr_F_restricted) (b := b) (As := [.int (xs (i + 1)), .int (xs (i + 2))]) (rest := []) (kc_F_restricted hB h hn hN) ⟨rfl, rfl⟩ zy_F_restricted_ok zm_380 zm_381 zm_382 (ci := 6) rfl rfl ⟨by decide, by decide⟩ ⟨hk0, hs0⟩ cd_W_law_476 hB.1 rfl rfl (Nat.le_of_ble_eq_true rfl) ?_
  refine zg_aload_n 2 cd_W_law_479 rfl rfl ?_
  refine zg_aload_n 4 cd_W_law_480 rfl rfl ?_
  refine zg_iload 0 cd_W_law_481 rfl ?_
  refine zg_iconst (v := nI 1) cd_W_law_483 (by decide) ?_
  refine zg_iadd cd_W_law_484 ?_
  refine zg_top (nI_add _ _) ?_
  refine zg_sld cd_W_law_485 (by omega) (by omega) ?_
  refine zg_aload_n 4 cd_W_law_486 rfl rfl ?_
  refine zg_iload 0 cd_W_law_487 rfl ?_
  refine zg_iconst (v := nI 2) cd_W_law_489 (by decide) ?_
  refine zg_iadd cd_W_law_490 ?_
  refine zg_top (nI_add _ _) ?_
  refine zg_sld cd_W_law_491 (by omega) (by omega) ?_
  refine zg_callVi (rm' := zr_M_restricted) (b := (b + 56)) (As := [.int (xs (i + 1)), .int (xs (i + 2))]) (rest := [.int _]) (kc_M_restricted hm hT.2.1 hn) ⟨rfl, rfl⟩ zy_M_restricted_ok zm_927 zm_928 zm_929 (ci := 7) rfl rfl ⟨by decide, by decide⟩ ⟨hk0, hs0⟩ cd_W_law_492 hm.1 rfl rfl (Nat.le_of_ble_eq_true rfl) (fun v8 σ8 sz8 hq8 => ?_)
  obtain ⟨hv8, -, hF8, hm⟩ := hq8
  have hC := hC.fr hF8 (Or.inl (Nat.le_refl _))
  have ho := ho.fr hF8 (by omega)
  refine zg_icmp_eq (tgt := 845) cd_W_law_495 (by decide) (fun _ => ?_) (fun c9 => absurd (by rw [hv8]; exact zrel_restricted hT hD _ _) c9)
  exact KK _ _ ⟨_, _, _, _, _, _, _, _, _, _, _, _, _, _, _, _, _, _, _, _, _, _, _, _, _, _, _, _, _, _, _, _, _, _, hC, hm, ho, hA, hT, hD, hE, hF⟩
set_option maxRecDepth 100000 in
set_option maxHeartbeats 4000000 in
theorem zlw_11 {g : zx_G} {σ : zx_M} {sz kc ks scr Ls i b : Nat} {xs : Nat → Int32} {QQ : List Frame → Array Value → State → State → Prop} (hI : zIV g σ b) (hi : i + 4 ≤ Ls) (hLs : Ls ≤ 2048) (hk0 : kc ≤ room_1.cells) (hs0 : ks ≤ room_1.slots) (KK : ∀ σ' sz', zIV g σ' b → zL g scr Ls xs QQ 845 (zLV scr b i) [] σ' sz' kc ks) : zL g scr Ls xs QQ 500 (zLV scr b i) [] σ sz kc ks := by
  obtain ⟨t, e, s, k, p, x, y, lv, len, nx, n0, n, m, c, wr, od, W, R0, R, Q, N, S, K, Sg, L, th, ps, ot, pr, fr, M, pa, dp, fo, hC, hm, ho, hA, hT, hD, hE, hF⟩ := hI
  obtain ⟨hlay, hB, hO, hV, h, hY, hN, hS, hK, hP⟩ := id hC
  obtain ⟨el1, el2, el3, el4, el5, lx, ly, ll, lxy, lxl, lyl⟩ := hlay.f
  have hn := hT.1
  refine zg_aload_n 3 cd_W_law_500 rfl rfl ?_
  refine zg_aload_n 4 cd_W_law_501 rfl rfl ?_
  refine zg_iload 0 cd_W_law_502 rfl ?_
  refine zg_iconst (v := nI 1) cd_W_law_504 (by decide) ?_
  refine zg_iadd cd_W_law_505 ?_
  refine zg_top (nI_add _ _) ?_
  refine zg_sld cd_W_law_506 (by omega) (by omega) ?_
  refine zg_aload_n 4 cd_W_law_507 rfl rfl ?_
  refine zg_iload 0 cd_W_law_508 rfl ?_
  refine zg_iconst (v := nI 2) cd_W_law_510 (by decide) ?_
  refine zg_iadd cd_W_law_511 ?_
  refine zg_top (nI_add _ _) ?_
  refine zg_sld cd_W_law_512 (by omega) (by omega) ?_
  refine zg_callVi (rm' := zr_F_name) (b := b) (As := [.int (xs (i + 1)), .int (xs (i + 2))]) (rest := []) (kc_F_name hB h hn hN (by omega) (by omega) hD.2) ⟨rfl, rfl⟩ zy_F_name_ok zm_388 zm_389 zm_390 (ci := 6) rfl rfl ⟨by decide, by decide⟩ ⟨hk0, hs0⟩ cd_W_law_513 hB.1 rfl rfl (Nat.le_of_ble_eq_true rfl) (fun v9 σ9 sz9 hq9 => ?_)
  obtain ⟨-, hF9, N9, hv9, hN9⟩ := hq9
  obtain ⟨hC, hF9⟩ := hC.un hF9 hN9
  have hm := hm.frn hF9 21 rfl (by omega)
  have ho := ho.fr hF9 (by omega)
  refine zg_aload_n 2 cd_W_law_516 rfl rfl ?_
  refine zg_aload_n 4 cd_W_law_517 rfl rfl ?_
  refine zg_iload 0 cd_W_law_518 rfl ?_
  refine zg_iconst (v := nI 1) cd_W_law_520 (by decide) ?_
  refine zg_iadd cd_W_law_521 ?_
  refine zg_top (nI_add _ _) ?_
  refine zg_sld cd_W_law_522 (by omega) (by omega) ?_
  refine zg_aload_n 4 cd_W_law_523 rfl rfl ?_
  refine zg_iload 0 cd_W_law_524 rfl ?_
  refine zg_iconst (v := nI 2) cd_W_law_526 (by decide) ?_
  refine zg_iadd cd_W_law_527 ?_
  refine zg_top (nI_add _ _) ?_
  refine zg_sld cd_W_law_528 (by omega) (by omega) ?_
  refine zg_callVi (rm' := zr_M_name) (b := (b + 56)) (As := [.int (xs (i + 1)), .int (xs (i + 2))]) (rest := [.int _]) (kc_M_name hm hn hD.ok) ⟨rfl, rfl⟩ zy_M_name_ok zm_931 zm_932 zm_933 (ci := 7) rfl rfl ⟨by decide, by decide⟩ ⟨hk0, hs0⟩ cd_W_law_529 hm.1 rfl rfl (Nat.le_of_ble_eq_true rfl) (fun v8 σ8 sz8 hq8 => ?_)
  obtain ⟨-, hF8, M9, hv8, hm⟩ := hq8
  have hC := hC.fr hF8 (Or.inl (Nat.le_refl _))
  have ho := ho.fr hF8 (by omega)
  obtain ⟨hvv, hD, hr⟩ := zrel_name hn hD hv9 hv8
  have hA : zAt len W (M9 0) := by rw [hr 0 (by decide) (by decide)]; exact hA
  have hT := hT.mv (M' := M9) (fun r9 j9 _ _ _ => by rw [hr r9 (by omega) (by omega)]) (fun j9 _ => by rw [hr 10 (by decide) (by decide)])
  have hE := hE.mv (M' := M9) (fun r9 _ _ => hr r9 (by omega) (by omega)) (fun r9 j9 _ _ _ => by rw [hr r9 (by omega) (by omega)]) (fun j9 _ => by rw [hr 10 (by decide) (by decide)])
  have hF : zFt L pr Sg (M9 20) := by rw [hr 20 (by decide) (by decide)]; exact hF
  refine zg_icmp_eq (tgt := 845) cd_W_law_532 (by decide) (fun _ => ?_) (fun c9 => absurd (hvv) c9)
  exact KK _ _ ⟨_, _, _, _, _, _, _, _, _, _, _, _, _, _, _, _, _, _, _, _, _, _, _, _, _, _, _, _, _, _, _, _, _, _, hC, hm, ho, hA, hT, hD, hE, hF⟩
set_option maxRecDepth 100000 in
set_option maxHeartbeats 4000000 in
theorem zlw_12 {g : zx_G} {σ : zx_M} {sz kc ks scr Ls i b : Nat} {xs : Nat → Int32} {QQ : List Frame → Array Value → State → State → Prop} (hI : zIV g σ b) (hi : i + 4 ≤ Ls) (hLs : Ls ≤ 2048) (hk0 : kc ≤ room_1.cells) (hs0 : ks ≤ room_1.slots) (KK : ∀ σ' sz', zIV g σ' b → zL g scr Ls xs QQ 845 (zLV scr b i) [] σ' sz' kc ks) : zL g scr Ls xs QQ 537 (zLV scr b i) [] σ sz kc ks := by
  obtain ⟨t, e, s, k, p, x, y, lv, len, nx, n0, n, m, c, wr, od, W, R0, R, Q, N, S, K, Sg, L, th, ps, ot, pr, fr, M, pa, dp, fo, hC, hm, ho, hA, hT, hD, hE, hF⟩ := hI
  obtain ⟨hlay, hB, hO, hV, h, hY, hN, hS, hK, hP⟩ := id hC
  obtain ⟨el1, el2, el3, el4, el5, lx, ly, ll, lxy, lxl, lyl⟩ := hlay.f
  have hn := hT.1
  refine zg_aload_n 3 cd_W_law_537 rfl rfl ?_
  refine zg_aload_n 4 cd_W_law_538 rfl rfl ?_
  refine zg_iload 0 cd_W_law_539 rfl ?_
  refine zg_iconst (v := nI 1) cd_W_law_541 (by decide) ?_
  refine zg_iadd cd_W_law_542 ?_
  refine zg_top (nI_add _ _) ?_
  refine zg_sld cd_W_law_543 (by omega) (by omega) ?_
  refine zg_aload_n 4 cd_W_law_544 rfl rfl ?_
  refine zg_iload 0 cd_W_law_545 rfl ?_
  refine zg_iconst (v := nI 2) cd_W_law_547 (by decide) ?_
  refine zg_iadd cd_W_law_548 ?_
  refine zg_top (nI_add _ _) ?_
  refine zg_sld cd_W_law_549 (by omega) (by omega) ?_
  refine zg_callVp (rm' := zr_F_named) (b := b) (As := [.int (xs (i + 1)), .int (xs (i + 2))]) (rest := []) (kc_F_named hB h hn hN hD.2) ⟨rfl, rfl⟩ zy_F_named_ok zm_400 zm_401 zm_402 (ci := 6) rfl rfl ⟨by decide, by decide⟩ ⟨hk0, hs0⟩ cd_W_law_550 hB.1 rfl rfl (Nat.le_of_ble_eq_true rfl) ?_
  refine zg_aload_n 2 cd_W_law_553 rfl rfl ?_
  refine zg_aload_n 4 cd_W_law_554 rfl rfl ?_
  refine zg_iload 0 cd_W_law_555 rfl ?_
  refine zg_iconst (v := nI 1) cd_W_law_557 (by decide) ?_
  refine zg_iadd cd_W_law_558 ?_
  refine zg_top (nI_add _ _) ?_
  refine zg_sld cd_W_law_559 (by omega) (by omega) ?_
  refine zg_aload_n 4 cd_W_law_560 rfl rfl ?_
  refine zg_iload 0 cd_W_law_561 rfl ?_
  refine zg_iconst (v := nI 2) cd_W_law_563 (by decide) ?_
  refine zg_iadd cd_W_law_564 ?_
  refine zg_top (nI_add _ _) ?_
  refine zg_sld cd_W_law_565 (by omega) (by omega) ?_
  refine zg_callVi (rm' := zr_M_named) (b := (b + 56)) (As := [.int (xs (i + 1)), .int (xs (i + 2))]) (rest := [.int _]) (kc_M_named hm hn hD.ok) ⟨rfl, rfl⟩ zy_M_named_ok zm_939 zm_940 zm_941 (ci := 7) rfl rfl ⟨by decide, by decide⟩ ⟨hk0, hs0⟩ cd_W_law_566 hm.1 rfl rfl (Nat.le_of_ble_eq_true rfl) (fun v8 σ8 sz8 hq8 => ?_)
  obtain ⟨hv8, -, hF8, hm⟩ := hq8
  have hC := hC.fr hF8 (Or.inl (Nat.le_refl _))
  have ho := ho.fr hF8 (by omega)
  refine zg_icmp_eq (tgt := 845) cd_W_law_569 (by decide) (fun _ => ?_) (fun c9 => absurd (by rw [hv8]; exact zrel_named hD _ _) c9)
  exact KK _ _ ⟨_, _, _, _, _, _, _, _, _, _, _, _, _, _, _, _, _, _, _, _, _, _, _, _, _, _, _, _, _, _, _, _, _, _, hC, hm, ho, hA, hT, hD, hE, hF⟩
set_option maxRecDepth 100000 in
set_option maxHeartbeats 4000000 in
theorem zlw_13 {g : zx_G} {σ : zx_M} {sz kc ks scr Ls i b : Nat} {xs : Nat → Int32} {QQ : List Frame → Array Value → State → State → Prop} (hI : zIV g σ b) (hi : i + 4 ≤ Ls) (hLs : Ls ≤ 2048) (hk0 : kc ≤ room_1.cells) (hs0 : ks ≤ room_1.slots) (KK : ∀ σ' sz', zIV g σ' b → zL g scr Ls xs QQ 845 (zLV scr b i) [] σ' sz' kc ks) : zL g scr Ls xs QQ 574 (zLV scr b i) [] σ sz kc ks := by
  obtain ⟨t, e, s, k, p, x, y, lv, len, nx, n0, n, m, c, wr, od, W, R0, R, Q, N, S, K, Sg, L, th, ps, ot, pr, fr, M, pa, dp, fo, hC, hm, ho, hA, hT, hD, hE, hF⟩ := hI
  obtain ⟨hlay, hB, hO, hV, h, hY, hN, hS, hK, hP⟩ := id hC
  obtain ⟨el1, el2, el3, el4, el5, lx, ly, ll, lxy, lxl, lyl⟩ := hlay.f
  have hn := hT.1
  refine zg_aload_n 3 cd_W_law_574 rfl rfl ?_
  refine zg_aload_n 4 cd_W_law_575 rfl rfl ?_
  refine zg_iload 0 cd_W_law_576 rfl ?_
  refine zg_iconst (v := nI 1) cd_W_law_578 (by decide) ?_
  refine zg_iadd cd_W_law_579 ?_
  refine zg_top (nI_add _ _) ?_
  refine zg_sld cd_W_law_580 (by omega) (by omega) ?_
  refine zg_aload_n 4 cd_W_law_581 rfl rfl ?_
  refine zg_iload 0 cd_W_law_582 rfl ?_
  refine zg_iconst (v := nI 2) cd_W_law_584 (by decide) ?_
  refine zg_iadd cd_W_law_585 ?_
  refine zg_top (nI_add _ _) ?_
  refine zg_sld cd_W_law_586 (by omega) (by omega) ?_
  refine zg_callVi (rm' := zr_F_move) (b := b) (As := [.int (xs (i + 1)), .int (xs (i + 2))]) (rest := []) (kc_F_move hB h hn hN (by omega) (by omega) hD.2 (by omega)) ⟨rfl, rfl⟩ zy_F_move_ok zm_404 zm_405 zm_406 (ci := 6) rfl rfl ⟨by decide, by decide⟩ ⟨hk0, hs0⟩ cd_W_law_587 hB.1 rfl rfl (Nat.le_of_ble_eq_true rfl) (fun v9 σ9 sz9 hq9 => ?_)
  obtain ⟨-, hF9, R9, N9, hv9, hR9, hN9⟩ := hq9
  obtain ⟨hC, hF9⟩ := hC.um hF9 hR9 hN9
  have hm := hm.frn hF9 21 rfl (by omega)
  have ho := ho.fr hF9 (by omega)
  refine zg_aload_n 2 cd_W_law_590 rfl rfl ?_
  refine zg_aload_n 4 cd_W_law_591 rfl rfl ?_
  refine zg_iload 0 cd_W_law_592 rfl ?_
  refine zg_iconst (v := nI 1) cd_W_law_594 (by decide) ?_
  refine zg_iadd cd_W_law_595 ?_
  refine zg_top (nI_add _ _) ?_
  refine zg_sld cd_W_law_596 (by omega) (by omega) ?_
  refine zg_aload_n 4 cd_W_law_597 rfl rfl ?_
  refine zg_iload 0 cd_W_law_598 rfl ?_
  refine zg_iconst (v := nI 2) cd_W_law_600 (by decide) ?_
  refine zg_iadd cd_W_law_601 ?_
  refine zg_top (nI_add _ _) ?_
  refine zg_sld cd_W_law_602 (by omega) (by omega) ?_
  refine zg_callVi (rm' := zr_M_move) (b := (b + 56)) (As := [.int (xs (i + 1)), .int (xs (i + 2))]) (rest := [.int _]) (kc_M_move hm hT.2.1 hn hD.ok) ⟨rfl, rfl⟩ zy_M_move_ok zm_943 zm_944 zm_945 (ci := 7) rfl rfl ⟨by decide, by decide⟩ ⟨hk0, hs0⟩ cd_W_law_603 hm.1 rfl rfl (Nat.le_of_ble_eq_true rfl) (fun v8 σ8 sz8 hq8 => ?_)
  obtain ⟨-, hF8, M9, hv8, hm⟩ := hq8
  have hC := hC.fr hF8 (Or.inl (Nat.le_refl _))
  have ho := ho.fr hF8 (by omega)
  obtain ⟨hvv, ⟨pa9, dp9, hT⟩, hD, hr⟩ := zrel_move hT hD hv9 hv8
  have hA : zAt len W (M9 0) := by rw [hr 0 (by decide) (by decide) (by decide)]; exact hA
  have hE := hE.mv (M' := M9) (fun r9 _ _ => hr r9 (by omega) (by omega) (by omega)) (fun r9 j9 _ _ _ => by rw [hr r9 (by omega) (by omega) (by omega)]) (fun j9 _ => by rw [hr 10 (by decide) (by decide) (by decide)])
  have hF : zFt L pr Sg (M9 20) := by rw [hr 20 (by decide) (by decide) (by decide)]; exact hF
  refine zg_icmp_eq (tgt := 845) cd_W_law_606 (by decide) (fun _ => ?_) (fun c9 => absurd (hvv) c9)
  exact KK _ _ ⟨_, _, _, _, _, _, _, _, _, _, _, _, _, _, _, _, _, _, _, _, _, _, _, _, _, _, _, _, _, _, _, _, _, _, hC, hm, ho, hA, hT, hD, hE, hF⟩
set_option maxRecDepth 100000 in
set_option maxHeartbeats 4000000 in
theorem zlw_14 {g : zx_G} {σ : zx_M} {sz kc ks scr Ls i b : Nat} {xs : Nat → Int32} {QQ : List Frame → Array Value → State → State → Prop} (hI : zIV g σ b) (hi : i + 4 ≤ Ls) (hLs : Ls ≤ 2048) (hk0 : kc ≤ room_1.cells) (hs0 : ks ≤ room_1.slots) (KK : ∀ σ' sz', zIV g σ' b → zL g scr Ls xs QQ 845 (zLV scr b i) [] σ' sz' kc ks) : zL g scr Ls xs QQ 611 (zLV scr b i) [] σ sz kc ks := by
  obtain ⟨t, e, s, k, p, x, y, lv, len, nx, n0, n, m, c, wr, od, W, R0, R, Q, N, S, K, Sg, L, th, ps, ot, pr, fr, M, pa, dp, fo, hC, hm, ho, hA, hT, hD, hE, hF⟩ := hI
  obtain ⟨hlay, hB, hO, hV, h, hY, hN, hS, hK, hP⟩ := id hC
  obtain ⟨el1, el2, el3, el4, el5, lx, ly, ll, lxy, lxl, lyl⟩ := hlay.f
  have hn := hT.1
  refine zg_aload_n 3 cd_W_law_611 rfl rfl ?_
  refine zg_aload_n 4 cd_W_law_612 rfl rfl ?_
  refine zg_iload 0 cd_W_law_613 rfl ?_
  refine zg_iconst (v := nI 1) cd_W_law_615 (by decide) ?_
  refine zg_iadd cd_W_law_616 ?_
  refine zg_top (nI_add _ _) ?_
  refine zg_sld cd_W_law_617 (by omega) (by omega) ?_
  refine zg_aload_n 4 cd_W_law_618 rfl rfl ?_
  refine zg_iload 0 cd_W_law_619 rfl ?_
  refine zg_iconst (v := nI 2) cd_W_law_621 (by decide) ?_
  refine zg_iadd cd_W_law_622 ?_
  refine zg_top (nI_add _ _) ?_
  refine zg_sld cd_W_law_623 (by omega) (by omega) ?_
  refine zg_callVp (rm' := zr_F_was) (b := b) (As := [.int (xs (i + 1)), .int (xs (i + 2))]) (rest := []) (kc_F_was hB h hn hN hD.2) ⟨rfl, rfl⟩ zy_F_was_ok zm_436 zm_437 zm_438 (ci := 6) rfl rfl ⟨by decide, by decide⟩ ⟨hk0, hs0⟩ cd_W_law_624 hB.1 rfl rfl (Nat.le_of_ble_eq_true rfl) ?_
  refine zg_aload_n 2 cd_W_law_627 rfl rfl ?_
  refine zg_aload_n 4 cd_W_law_628 rfl rfl ?_
  refine zg_iload 0 cd_W_law_629 rfl ?_
  refine zg_iconst (v := nI 1) cd_W_law_631 (by decide) ?_
  refine zg_iadd cd_W_law_632 ?_
  refine zg_top (nI_add _ _) ?_
  refine zg_sld cd_W_law_633 (by omega) (by omega) ?_
  refine zg_aload_n 4 cd_W_law_634 rfl rfl ?_
  refine zg_iload 0 cd_W_law_635 rfl ?_
  refine zg_iconst (v := nI 2) cd_W_law_637 (by decide) ?_
  refine zg_iadd cd_W_law_638 ?_
  refine zg_top (nI_add _ _) ?_
  refine zg_sld cd_W_law_639 (by omega) (by omega) ?_
  refine zg_callVi (rm' := zr_M_was) (b := (b + 56)) (As := [.int (xs (i + 1)), .int (xs (i + 2))]) (rest := [.int _]) (kc_M_was hm hn hD.ok) ⟨rfl, rfl⟩ zy_M_was_ok zm_951 zm_952 zm_953 (ci := 7) rfl rfl ⟨by decide, by decide⟩ ⟨hk0, hs0⟩ cd_W_law_640 hm.1 rfl rfl (Nat.le_of_ble_eq_true rfl) (fun v8 σ8 sz8 hq8 => ?_)
  obtain ⟨hv8, -, hF8, hm⟩ := hq8
  have hC := hC.fr hF8 (Or.inl (Nat.le_refl _))
  have ho := ho.fr hF8 (by omega)
  refine zg_icmp_eq (tgt := 845) cd_W_law_643 (by decide) (fun _ => ?_) (fun c9 => absurd (by rw [hv8]; exact zrel_was hD _ _) c9)
  exact KK _ _ ⟨_, _, _, _, _, _, _, _, _, _, _, _, _, _, _, _, _, _, _, _, _, _, _, _, _, _, _, _, _, _, _, _, _, _, hC, hm, ho, hA, hT, hD, hE, hF⟩
set_option maxRecDepth 100000 in
set_option maxHeartbeats 4000000 in
theorem zlw_15 {g : zx_G} {σ : zx_M} {sz kc ks scr Ls i b : Nat} {xs : Nat → Int32} {QQ : List Frame → Array Value → State → State → Prop} (hI : zIV g σ b) (hi : i + 4 ≤ Ls) (hLs : Ls ≤ 2048) (hk0 : kc ≤ room_1.cells) (hs0 : ks ≤ room_1.slots) (KK : ∀ σ' sz', zIV g σ' b → zL g scr Ls xs QQ 845 (zLV scr b i) [] σ' sz' kc ks) : zL g scr Ls xs QQ 648 (zLV scr b i) [] σ sz kc ks := by
  obtain ⟨t, e, s, k, p, x, y, lv, len, nx, n0, n, m, c, wr, od, W, R0, R, Q, N, S, K, Sg, L, th, ps, ot, pr, fr, M, pa, dp, fo, hC, hm, ho, hA, hT, hD, hE, hF⟩ := hI
  obtain ⟨hlay, hB, hO, hV, h, hY, hN, hS, hK, hP⟩ := id hC
  obtain ⟨el1, el2, el3, el4, el5, lx, ly, ll, lxy, lxl, lyl⟩ := hlay.f
  have hn := hT.1
  refine zg_aload_n 3 cd_W_law_648 rfl rfl ?_
  refine zg_aload_n 4 cd_W_law_649 rfl rfl ?_
  refine zg_iload 0 cd_W_law_650 rfl ?_
  refine zg_iconst (v := nI 1) cd_W_law_652 (by decide) ?_
  refine zg_iadd cd_W_law_653 ?_
  refine zg_top (nI_add _ _) ?_
  refine zg_sld cd_W_law_654 (by omega) (by omega) ?_
  refine zg_aload_n 4 cd_W_law_655 rfl rfl ?_
  refine zg_iload 0 cd_W_law_656 rfl ?_
  refine zg_iconst (v := nI 2) cd_W_law_658 (by decide) ?_
  refine zg_iadd cd_W_law_659 ?_
  refine zg_top (nI_add _ _) ?_
  refine zg_sld cd_W_law_660 (by omega) (by omega) ?_
  refine zg_if_eq (tgt := 668) cd_W_law_661 (by decide) (fun c1 => ?_) (fun c1 => ?_)
  · skip
    refine zg_iconst (v := nI 0) cd_W_law_668 (by decide) ?_
    refine zg_callVi (rm' := zr_F_published) (b := b) (As := [.int (xs (i + 1)), .int (nI 0)]) (rest := []) (kc_F_published hB h hn hN (by omega) (by omega)) ⟨rfl, rfl⟩ zy_F_published_ok zm_444 zm_445 zm_446 (ci := 6) rfl rfl ⟨by decide, by decide⟩ ⟨hk0, hs0⟩ cd_W_law_669 hB.1 rfl rfl (Nat.le_of_ble_eq_true rfl) (fun v9 σ9 sz9 hq9 => ?_)
    obtain ⟨-, hF9, N9, hv9, hN9⟩ := hq9
    obtain ⟨hC, hF9⟩ := hC.un hF9 hN9
    have hm := hm.frn hF9 21 rfl (by omega)
    have ho := ho.fr hF9 (by omega)
    refine zg_aload_n 2 cd_W_law_672 rfl rfl ?_
    refine zg_aload_n 4 cd_W_law_673 rfl rfl ?_
    refine zg_iload 0 cd_W_law_674 rfl ?_
    refine zg_iconst (v := nI 1) cd_W_law_676 (by decide) ?_
    refine zg_iadd cd_W_law_677 ?_
    refine zg_top (nI_add _ _) ?_
    refine zg_sld cd_W_law_678 (by omega) (by omega) ?_
    refine zg_aload_n 4 cd_W_law_679 rfl rfl ?_
    refine zg_iload 0 cd_W_law_680 rfl ?_
    refine zg_iconst (v := nI 2) cd_W_law_682 (by decide) ?_
    refine zg_iadd cd_W_law_683 ?_
    refine zg_top (nI_add _ _) ?_
    refine zg_sld cd_W_law_684 (by omega) (by omega) ?_
    refine zg_if_eq (tgt := 692) cd_W_law_685 (by decide) (fun _ => ?_) (fun c2 => absurd c1 c2)
    refine zg_iconst (v := nI 0) cd_W_law_692 (by decide) ?_
    refine zg_callVi (rm' := zr_M_published) (b := (b + 56)) (As := [.int (xs (i + 1)), .int (nI 0)]) (rest := [.int _]) (kc_M_published hm hT.2.1 hn) ⟨rfl, rfl⟩ zy_M_published_ok zm_955 zm_956 zm_957 (ci := 7) rfl rfl ⟨by decide, by decide⟩ ⟨hk0, hs0⟩ cd_W_law_693 hm.1 rfl rfl (Nat.le_of_ble_eq_true rfl) (fun v8 σ8 sz8 hq8 => ?_)
    obtain ⟨-, hF8, M9, hv8, hm⟩ := hq8
    have hC := hC.fr hF8 (Or.inl (Nat.le_refl _))
    have ho := ho.fr hF8 (by omega)
    obtain ⟨hvv, hD, hr⟩ := zrel_published hT hD hv9 hv8
    have hA : zAt len W (M9 0) := by rw [hr 0 (by decide)]; exact hA
    have hT := hT.mv (M' := M9) (fun r9 j9 _ _ _ => by rw [hr r9 (by omega)]) (fun j9 _ => by rw [hr 10 (by decide)])
    have hE := hE.mv (M' := M9) (fun r9 _ _ => hr r9 (by omega)) (fun r9 j9 _ _ _ => by rw [hr r9 (by omega)]) (fun j9 _ => by rw [hr 10 (by decide)])
    have hF : zFt L pr Sg (M9 20) := by rw [hr 20 (by decide)]; exact hF
    refine zg_icmp_eq (tgt := 845) cd_W_law_696 (by decide) (fun _ => ?_) (fun c9 => absurd (hvv) c9)
    exact KK _ _ ⟨_, _, _, _, _, _, _, _, _, _, _, _, _, _, _, _, _, _, _, _, _, _, _, _, _, _, _, _, _, _, _, _, _, _, hC, hm, ho, hA, hT, hD, hE, hF⟩
  · skip
    refine zg_iconst (v := nI 1) cd_W_law_664 (by decide) ?_
    refine zg_goto (tgt := 669) cd_W_law_665 (by decide) ?_
    refine zg_callVi (rm' := zr_F_published) (b := b) (As := [.int (xs (i + 1)), .int (nI 1)]) (rest := []) (kc_F_published hB h hn hN (by omega) (by omega)) ⟨rfl, rfl⟩ zy_F_published_ok zm_444 zm_445 zm_446 (ci := 6) rfl rfl ⟨by decide, by decide⟩ ⟨hk0, hs0⟩ cd_W_law_669 hB.1 rfl rfl (Nat.le_of_ble_eq_true rfl) (fun v9 σ9 sz9 hq9 => ?_)
    obtain ⟨-, hF9, N9, hv9, hN9⟩ := hq9
    obtain ⟨hC, hF9⟩ := hC.un hF9 hN9
    have hm := hm.frn hF9 21 rfl (by omega)
    have ho := ho.fr hF9 (by omega)
    refine zg_aload_n 2 cd_W_law_672 rfl rfl ?_
    refine zg_aload_n 4 cd_W_law_673 rfl rfl ?_
    refine zg_iload 0 cd_W_law_674 rfl ?_
    refine zg_iconst (v := nI 1) cd_W_law_676 (by decide) ?_
    refine zg_iadd cd_W_law_677 ?_
    refine zg_top (nI_add _ _) ?_
    refine zg_sld cd_W_law_678 (by omega) (by omega) ?_
    refine zg_aload_n 4 cd_W_law_679 rfl rfl ?_
    refine zg_iload 0 cd_W_law_680 rfl ?_
    refine zg_iconst (v := nI 2) cd_W_law_682 (by decide) ?_
    refine zg_iadd cd_W_law_683 ?_
    refine zg_top (nI_add _ _) ?_
    refine zg_sld cd_W_law_684 (by omega) (by omega) ?_
    refine zg_if_eq (tgt := 692) cd_W_law_685 (by decide) (fun c2 => absurd c2 c1) (fun _ => ?_)
    refine zg_iconst (v := nI 1) cd_W_law_688 (by decide) ?_
    refine zg_goto (tgt := 693) cd_W_law_689 (by decide) ?_
    refine zg_callVi (rm' := zr_M_published) (b := (b + 56)) (As := [.int (xs (i + 1)), .int (nI 1)]) (rest := [.int _]) (kc_M_published hm hT.2.1 hn) ⟨rfl, rfl⟩ zy_M_published_ok zm_955 zm_956 zm_957 (ci := 7) rfl rfl ⟨by decide, by decide⟩ ⟨hk0, hs0⟩ cd_W_law_693 hm.1 rfl rfl (Nat.le_of_ble_eq_true rfl) (fun v8 σ8 sz8 hq8 => ?_)
    obtain ⟨-, hF8, M9, hv8, hm⟩ := hq8
    have hC := hC.fr hF8 (Or.inl (Nat.le_refl _))
    have ho := ho.fr hF8 (by omega)
    obtain ⟨hvv, hD, hr⟩ := zrel_published hT hD hv9 hv8
    have hA : zAt len W (M9 0) := by rw [hr 0 (by decide)]; exact hA
    have hT := hT.mv (M' := M9) (fun r9 j9 _ _ _ => by rw [hr r9 (by omega)]) (fun j9 _ => by rw [hr 10 (by decide)])
    have hE := hE.mv (M' := M9) (fun r9 _ _ => hr r9 (by omega)) (fun r9 j9 _ _ _ => by rw [hr r9 (by omega)]) (fun j9 _ => by rw [hr 10 (by decide)])
    have hF : zFt L pr Sg (M9 20) := by rw [hr 20 (by decide)]; exact hF
    refine zg_icmp_eq (tgt := 845) cd_W_law_696 (by decide) (fun _ => ?_) (fun c9 => absurd (hvv) c9)
    exact KK _ _ ⟨_, _, _, _, _, _, _, _, _, _, _, _, _, _, _, _, _, _, _, _, _, _, _, _, _, _, _, _, _, _, _, _, _, _, hC, hm, ho, hA, hT, hD, hE, hF⟩
set_option maxRecDepth 100000 in
set_option maxHeartbeats 4000000 in
theorem zlw_17 {g : zx_G} {σ : zx_M} {sz kc ks scr Ls i b : Nat} {xs : Nat → Int32} {QQ : List Frame → Array Value → State → State → Prop} (hI : zIV g σ b) (hi : i + 4 ≤ Ls) (hLs : Ls ≤ 2048) (hk0 : kc ≤ room_1.cells) (hs0 : ks ≤ room_1.slots) (KK : ∀ σ' sz', zIV g σ' b → zL g scr Ls xs QQ 845 (zLV scr b i) [] σ' sz' kc ks) : zL g scr Ls xs QQ 745 (zLV scr b i) [] σ sz kc ks := by
  obtain ⟨t, e, s, k, p, x, y, lv, len, nx, n0, n, m, c, wr, od, W, R0, R, Q, N, S, K, Sg, L, th, ps, ot, pr, fr, M, pa, dp, fo, hC, hm, ho, hA, hT, hD, hE, hF⟩ := hI
  obtain ⟨hlay, hB, hO, hV, h, hY, hN, hS, hK, hP⟩ := id hC
  obtain ⟨el1, el2, el3, el4, el5, lx, ly, ll, lxy, lxl, lyl⟩ := hlay.f
  have hn := hT.1
  refine zg_aload_n 3 cd_W_law_745 rfl rfl ?_
  refine zg_aload_n 4 cd_W_law_746 rfl rfl ?_
  refine zg_iload 0 cd_W_law_747 rfl ?_
  refine zg_iconst (v := nI 1) cd_W_law_749 (by decide) ?_
  refine zg_iadd cd_W_law_750 ?_
  refine zg_top (nI_add _ _) ?_
  refine zg_sld cd_W_law_751 (by omega) (by omega) ?_
  refine zg_aload_n 4 cd_W_law_752 rfl rfl ?_
  refine zg_iload 0 cd_W_law_753 rfl ?_
  refine zg_iconst (v := nI 2) cd_W_law_755 (by decide) ?_
  refine zg_iadd cd_W_law_756 ?_
  refine zg_top (nI_add _ _) ?_
  refine zg_sld cd_W_law_757 (by omega) (by omega) ?_
  refine zg_callVp (rm' := zr_F_ask) (b := b) (As := [.int (xs (i + 1)), .int (xs (i + 2))]) (rest := []) (kc_F_ask hB hK hE.1) ⟨rfl, rfl⟩ zy_F_ask_ok zm_452 zm_453 zm_454 (ci := 6) rfl rfl ⟨by decide, by decide⟩ ⟨hk0, hs0⟩ cd_W_law_758 hB.1 rfl rfl (Nat.le_of_ble_eq_true rfl) ?_
  refine zg_aload_n 2 cd_W_law_761 rfl rfl ?_
  refine zg_aload_n 4 cd_W_law_762 rfl rfl ?_
  refine zg_iload 0 cd_W_law_763 rfl ?_
  refine zg_iconst (v := nI 1) cd_W_law_765 (by decide) ?_
  refine zg_iadd cd_W_law_766 ?_
  refine zg_top (nI_add _ _) ?_
  refine zg_sld cd_W_law_767 (by omega) (by omega) ?_
  refine zg_aload_n 4 cd_W_law_768 rfl rfl ?_
  refine zg_iload 0 cd_W_law_769 rfl ?_
  refine zg_iconst (v := nI 2) cd_W_law_771 (by decide) ?_
  refine zg_iadd cd_W_law_772 ?_
  refine zg_top (nI_add _ _) ?_
  refine zg_sld cd_W_law_773 (by omega) (by omega) ?_
  refine zg_callVi (rm' := zr_M_ask) (b := (b + 56)) (As := [.int (xs (i + 1)), .int (xs (i + 2))]) (rest := [.int _]) (kc_M_ask hm hE.1) ⟨rfl, rfl⟩ zy_M_ask_ok zm_975 zm_976 zm_977 (ci := 7) rfl rfl ⟨by decide, by decide⟩ ⟨hk0, hs0⟩ cd_W_law_774 hm.1 rfl rfl (Nat.le_of_ble_eq_true rfl) (fun v8 σ8 sz8 hq8 => ?_)
  obtain ⟨hv8, -, hF8, hm⟩ := hq8
  have hC := hC.fr hF8 (Or.inl (Nat.le_refl _))
  have ho := ho.fr hF8 (by omega)
  refine zg_icmp_eq (tgt := 845) cd_W_law_777 (by decide) (fun _ => ?_) (fun c9 => absurd (by rw [hv8]; exact zrel_ask hE _ _) c9)
  exact KK _ _ ⟨_, _, _, _, _, _, _, _, _, _, _, _, _, _, _, _, _, _, _, _, _, _, _, _, _, _, _, _, _, _, _, _, _, _, hC, hm, ho, hA, hT, hD, hE, hF⟩
set_option maxRecDepth 100000 in
set_option maxHeartbeats 4000000 in
theorem zlw_18 {g : zx_G} {σ : zx_M} {sz kc ks scr Ls i b : Nat} {xs : Nat → Int32} {QQ : List Frame → Array Value → State → State → Prop} (hI : zIV g σ b) (hi : i + 4 ≤ Ls) (hLs : Ls ≤ 2048) (hk0 : kc ≤ room_1.cells) (hs0 : ks ≤ room_1.slots) (KK : ∀ σ' sz', zIV g σ' b → zL g scr Ls xs QQ 845 (zLV scr b i) [] σ' sz' kc ks) : zL g scr Ls xs QQ 782 (zLV scr b i) [] σ sz kc ks := by
  obtain ⟨t, e, s, k, p, x, y, lv, len, nx, n0, n, m, c, wr, od, W, R0, R, Q, N, S, K, Sg, L, th, ps, ot, pr, fr, M, pa, dp, fo, hC, hm, ho, hA, hT, hD, hE, hF⟩ := hI
  obtain ⟨hlay, hB, hO, hV, h, hY, hN, hS, hK, hP⟩ := id hC
  obtain ⟨el1, el2, el3, el4, el5, lx, ly, ll, lxy, lxl, lyl⟩ := hlay.f
  have hn := hT.1
  refine zg_aload_n 3 cd_W_law_782 rfl rfl ?_
  refine zg_aload_n 4 cd_W_law_783 rfl rfl ?_
  refine zg_iload 0 cd_W_law_784 rfl ?_
  refine zg_iconst (v := nI 1) cd_W_law_786 (by decide) ?_
  refine zg_iadd cd_W_law_787 ?_
  refine zg_top (nI_add _ _) ?_
  refine zg_sld cd_W_law_788 (by omega) (by omega) ?_
  refine zg_callVi (rm' := zr_F_take) (b := b) (As := [.int (xs (i + 1))]) (rest := []) (kc_F_take hB h hn hY hK hE.2.1 hE.1 hE.2.2.1 (fun j9 h9 => ⟨(hE.2.2.2.1 j9 h9).2.2.2.1, (hE.2.2.2.1 j9 h9).2.2.2.2.1, (hE.2.2.2.1 j9 h9).2.2.2.2.2, zEt_lt hE h9⟩) (by omega) (by omega) (by omega) (by omega) (by omega)) ⟨rfl, rfl⟩ zy_F_take_ok zm_460 zm_461 zm_462 (ci := 6) rfl rfl ⟨by decide, by decide⟩ ⟨hk0, hs0⟩ cd_W_law_789 hB.1 rfl rfl (Nat.le_of_ble_eq_true rfl) (fun v9 σ9 sz9 hq9 => ?_)
  obtain ⟨-, hF9, R9, K9, hv9, hR9, hK9⟩ := hq9
  obtain ⟨hC, hF9⟩ := hC.uk hF9 hR9 hK9
  have hm := hm.frn hF9 21 rfl (by omega)
  have ho := ho.fr hF9 (by omega)
  refine zg_aload_n 2 cd_W_law_792 rfl rfl ?_
  refine zg_aload_n 4 cd_W_law_793 rfl rfl ?_
  refine zg_iload 0 cd_W_law_794 rfl ?_
  refine zg_iconst (v := nI 1) cd_W_law_796 (by decide) ?_
  refine zg_iadd cd_W_law_797 ?_
  refine zg_top (nI_add _ _) ?_
  refine zg_sld cd_W_law_798 (by omega) (by omega) ?_
  refine zg_callVi (rm' := zr_M_take) (b := (b + 56)) (As := [.int (xs (i + 1))]) (rest := [.int _]) (kc_M_take hm hE.1 (fun _ j9 h9 => ⟨by rw [← (hE.2.2.2.1 j9 h9).1]; exact (hE.2.2.2.1 j9 h9).2.2.2.1, by rw [← (hE.2.2.2.1 j9 h9).1]; exact (hE.2.2.2.1 j9 h9).2.2.2.2.1⟩)) ⟨rfl, rfl⟩ zy_M_take_ok zm_979 zm_980 zm_981 (ci := 7) rfl rfl ⟨by decide, by decide⟩ ⟨hk0, hs0⟩ cd_W_law_799 hm.1 rfl rfl (Nat.le_of_ble_eq_true rfl) (fun v8 σ8 sz8 hq8 => ?_)
  obtain ⟨-, hF8, M9, hv8, hm⟩ := hq8
  have hC := hC.fr hF8 (Or.inl (Nat.le_refl _))
  have ho := ho.fr hF8 (by omega)
  obtain ⟨hvv, hT9, hE9, hr⟩ := zrel_take hT hE hv9 hv8
  have hA : zAt len W (M9 0) := by rw [hr 0 (by decide)]; exact hA
  have hD := hD.mv (M' := M9) (fun r9 _ _ => hr r9 (by omega))
  have hF : zFt L pr Sg (M9 20) := by rw [hr 20 (by decide)]; exact hF
  have hT := hT9
  have hE := hE9
  refine zg_icmp_eq (tgt := 845) cd_W_law_802 (by decide) (fun _ => ?_) (fun c9 => absurd (hvv) c9)
  exact KK _ _ ⟨_, _, _, _, _, _, _, _, _, _, _, _, _, _, _, _, _, _, _, _, _, _, _, _, _, _, _, _, _, _, _, _, _, _, hC, hm, ho, hA, hT, hD, hE, hF⟩
set_option maxRecDepth 100000 in
set_option maxHeartbeats 4000000 in
theorem zlw_19 {g : zx_G} {σ : zx_M} {sz kc ks scr Ls i b : Nat} {xs : Nat → Int32} {QQ : List Frame → Array Value → State → State → Prop} (hI : zIV g σ b) (hi : i + 4 ≤ Ls) (hLs : Ls ≤ 2048) (hk0 : kc ≤ room_1.cells) (hs0 : ks ≤ room_1.slots) (KK : ∀ σ' sz', zIV g σ' b → zL g scr Ls xs QQ 845 (zLV scr b i) [] σ' sz' kc ks) : zL g scr Ls xs QQ 807 (zLV scr b i) [] σ sz kc ks := by
  obtain ⟨t, e, s, k, p, x, y, lv, len, nx, n0, n, m, c, wr, od, W, R0, R, Q, N, S, K, Sg, L, th, ps, ot, pr, fr, M, pa, dp, fo, hC, hm, ho, hA, hT, hD, hE, hF⟩ := hI
  obtain ⟨hlay, hB, hO, hV, h, hY, hN, hS, hK, hP⟩ := id hC
  obtain ⟨el1, el2, el3, el4, el5, lx, ly, ll, lxy, lxl, lyl⟩ := hlay.f
  have hn := hT.1
  refine zg_aload_n 3 cd_W_law_807 rfl rfl ?_
  refine zg_callVi (rm' := zr_F_print) (b := b) (As := []) (rest := []) (kc_F_print hB h hn hN hP (by omega) (by omega) (by omega) hT.T hT.D) ⟨rfl, rfl⟩ zy_F_print_ok zm_473 zm_474 zm_475 (ci := 6) rfl rfl ⟨by decide, by decide⟩ ⟨hk0, hs0⟩ cd_W_law_808 hB.1 rfl rfl (Nat.le_of_ble_eq_true rfl) (fun v9 σ9 sz9 hq9 => ?_)
  obtain ⟨hp1, hp2, hp3⟩ := zrel_print hT hD
  obtain ⟨-, hF9, hv9, S9, hP9, hL9⟩ := hq9
  rw [hp1] at hv9 hP9 hL9
  obtain ⟨hC, hF9⟩ := hC.up hF9 hP9
  have hm := hm.frn hF9 21 rfl (by omega)
  have ho := ho.fr hF9 (by omega)
  refine zg_aload_n 2 cd_W_law_811 rfl rfl ?_
  refine zg_callVi (rm' := zr_M_print) (b := (b + 56)) (As := []) (rest := [.int _]) (kc_M_print hm hT.2.1 hn hT.2.2.1 hT.2.2.2.1 hT.wr hp2) ⟨rfl, rfl⟩ zy_M_print_ok zm_983 zm_984 zm_985 (ci := 7) rfl rfl ⟨by decide, by decide⟩ ⟨hk0, hs0⟩ cd_W_law_812 hm.1 rfl rfl (Nat.le_of_ble_eq_true rfl) (fun v8 σ8 sz8 hq8 => ?_)
  obtain ⟨hv8, -, hF8, S8, hq8, hm⟩ := hq8
  have hC := hC.fr hF8 (Or.inl (Nat.le_refl _))
  have ho := ho.fr hF8 (by omega)
  have hr : ∀ k9, k9 ≠ 20 → va_up M 20 S8 k9 = M k9 := fun k9 h9 => va_up_ne _ _ h9
  have hF : zFt (zp_from n (zmR M dp) (M 16) 9 (nI 0)) (zp_from n (zmR M dp) (M 16) 9 (nI 0)).length S9 (va_up M 20 S8 20) := by rw [va_up_self]; exact ⟨rfl, hq8, hL9, hp3⟩
  generalize va_up M 20 S8 = M9 at hm hr hF
  have hA : zAt len W (M9 0) := by rw [hr 0 (by decide)]; exact hA
  have hT := hT.mv (M' := M9) (fun r9 j9 _ _ _ => by rw [hr r9 (by omega)]) (fun j9 _ => by rw [hr 10 (by decide)])
  have hD := hD.mv (M' := M9) (fun r9 _ _ => hr r9 (by omega))
  have hE := hE.mv (M' := M9) (fun r9 _ _ => hr r9 (by omega)) (fun r9 j9 _ _ _ => by rw [hr r9 (by omega)]) (fun j9 _ => by rw [hr 10 (by decide)])
  refine zg_icmp_eq (tgt := 845) cd_W_law_815 (by decide) (fun _ => ?_) (fun c9 => absurd (by rw [hv8]; exact hv9) c9)
  exact KK _ _ ⟨_, _, _, _, _, _, _, _, _, _, _, _, _, _, _, _, _, _, _, _, _, _, _, _, _, _, _, _, _, _, _, _, _, _, hC, hm, ho, hA, hT, hD, hE, hF⟩
set_option maxRecDepth 100000 in
set_option maxHeartbeats 4000000 in
theorem zlw_20 {g : zx_G} {σ : zx_M} {sz kc ks scr Ls i b : Nat} {xs : Nat → Int32} {QQ : List Frame → Array Value → State → State → Prop} (hI : zIV g σ b) (hi : i + 4 ≤ Ls) (hLs : Ls ≤ 2048) (hk0 : kc ≤ room_1.cells) (hs0 : ks ≤ room_1.slots) (KK : ∀ σ' sz', zIV g σ' b → zL g scr Ls xs QQ 845 (zLV scr b i) [] σ' sz' kc ks) : zL g scr Ls xs QQ 820 (zLV scr b i) [] σ sz kc ks := by
  obtain ⟨t, e, s, k, p, x, y, lv, len, nx, n0, n, m, c, wr, od, W, R0, R, Q, N, S, K, Sg, L, th, ps, ot, pr, fr, M, pa, dp, fo, hC, hm, ho, hA, hT, hD, hE, hF⟩ := hI
  obtain ⟨hlay, hB, hO, hV, h, hY, hN, hS, hK, hP⟩ := id hC
  obtain ⟨el1, el2, el3, el4, el5, lx, ly, ll, lxy, lxl, lyl⟩ := hlay.f
  have hn := hT.1
  refine zg_aload_n 3 cd_W_law_820 rfl rfl ?_
  refine zg_aload_n 4 cd_W_law_821 rfl rfl ?_
  refine zg_iload 0 cd_W_law_822 rfl ?_
  refine zg_iconst (v := nI 1) cd_W_law_824 (by decide) ?_
  refine zg_iadd cd_W_law_825 ?_
  refine zg_top (nI_add _ _) ?_
  refine zg_sld cd_W_law_826 (by omega) (by omega) ?_
  refine zg_callVp (rm' := zr_F_at) (b := b) (As := [.int (xs (i + 1))]) (rest := []) (kc_F_at hB hP hF.2.2.1) ⟨rfl, rfl⟩ zy_F_at_ok zm_518 zm_519 zm_520 (ci := 6) rfl rfl ⟨by decide, by decide⟩ ⟨hk0, hs0⟩ cd_W_law_827 hB.1 rfl rfl (Nat.le_of_ble_eq_true rfl) ?_
  refine zg_aload_n 2 cd_W_law_830 rfl rfl ?_
  refine zg_aload_n 4 cd_W_law_831 rfl rfl ?_
  refine zg_iload 0 cd_W_law_832 rfl ?_
  refine zg_iconst (v := nI 1) cd_W_law_834 (by decide) ?_
  refine zg_iadd cd_W_law_835 ?_
  refine zg_top (nI_add _ _) ?_
  refine zg_sld cd_W_law_836 (by omega) (by omega) ?_
  refine zg_callVi (rm' := zr_M_at) (b := (b + 56)) (As := [.int (xs (i + 1))]) (rest := [.int _]) (kc_M_at hm (by have := hF.1; have := hF.2.2.1.2; omega)) ⟨rfl, rfl⟩ zy_M_at_ok zm_1003 zm_1004 zm_1005 (ci := 7) rfl rfl ⟨by decide, by decide⟩ ⟨hk0, hs0⟩ cd_W_law_837 hm.1 rfl rfl (Nat.le_of_ble_eq_true rfl) (fun v8 σ8 sz8 hq8 => ?_)
  obtain ⟨hv8, -, hF8, hm⟩ := hq8
  have hC := hC.fr hF8 (Or.inl (Nat.le_refl _))
  have ho := ho.fr hF8 (by omega)
  refine zg_icmp_eq (tgt := 845) cd_W_law_840 (by decide) (fun _ => ?_) (fun c9 => absurd (by rw [hv8]; exact zrel_at rfl hF _) c9)
  exact KK _ _ ⟨_, _, _, _, _, _, _, _, _, _, _, _, _, _, _, _, _, _, _, _, _, _, _, _, _, _, _, _, _, _, _, _, _, _, hC, hm, ho, hA, hT, hD, hE, hF⟩
set_option maxRecDepth 100000 in
set_option maxHeartbeats 4000000 in
theorem zlw_1 {g : zx_G} {σ : zx_M} {sz kc ks scr Ls i b : Nat} {xs : Nat → Int32} {QQ : List Frame → Array Value → State → State → Prop} (hfl : g.1.flags = pinnedFlags ++ [noTraceFlag]) (hI : zIV g σ b) (hi : i + 4 ≤ Ls) (hLs : Ls ≤ 2048) (hk0 : kc + 1 ≤ room_1.cells) (hs0 : ks + 6 ≤ room_1.slots) (KK : ∀ σ' sz', zIV g σ' b → zL g scr Ls xs QQ 845 (zLV scr b i) [] σ' sz' (kc + 1) (ks + 6)) : zL g scr Ls xs QQ 159 (zLV scr b i) [] σ sz kc ks := by
  obtain ⟨t, e, s, k, p, x, y, lv, len, nx, n0, n, m, c, wr, od, W, R0, R, Q, N, S, K, Sg, L, th, ps, ot, pr, fr, M, pa, dp, fo, hC, hm, ho, hA, hT, hD, hE, hF⟩ := hI
  obtain ⟨hlay, hB, hO, hV, h, hY, hN, hS, hK, hP⟩ := id hC
  obtain ⟨el1, el2, el3, el4, el5, lx, ly, ll, lxy, lxl, lyl⟩ := hlay.f
  have hn := hT.1
  refine zg_aload_n 3 cd_W_law_159 rfl rfl ?_
  refine zg_aload_n 1 cd_W_law_160 rfl rfl ?_
  rcases zparse_sim hA R0 M pa dp with ⟨p9, n1, R1, m1, ot1, M1, pa1, dp1, e1, e2⟩ | ⟨p9, n9, R1, M1, pa1, dp1, e1, e2, e3, e4⟩
  · skip
    refine zg_callSW (rm' := zr_W_read) (n := 2) (As := [.ref b, .ref (b + 78)]) (rest := []) (kc_W_read_thr hfl hC hA.1 ho (by omega) e1) zw_cw_read zm_53 ⟨by decide, by decide, by decide⟩ zm_522 zm_523 ⟨by decide, by decide⟩ ⟨hk0, hs0⟩ cd_W_law_161 rfl rfl (Nat.le_of_ble_eq_true rfl) (fun s9 c9 h9 => h9.1) (fun r9 σ9 sz9 hq9 => ?_)
    obtain ⟨v9, hr9, hv9, -, hF9, n9, -, hC, ho⟩ := hq9
    subst hr9
    subst hv9
    refine zg_eq (st' := [.int (nI 1)]) rfl rfl rfl rfl rfl ?_
    have hF9 := hF9.lies (lo := b) (ln := 56) (by omega) (by omega)
    have hm := hm.frn hF9 21 rfl (by omega)
    refine zg_istore (lv' := [(5, .int (nI 1)), (4, .int (nI i)), (3, .ref (b + 78)), (2, .ref (b + 56)), (1, .ref b), (0, .ref scr)]) cd_W_law_164 (by decide) rfl ?_
    refine zg_aload_n 3 cd_W_law_166 rfl rfl ?_
    refine zg_callVi (rm' := zr_M_read) (b := (b + 56)) (As := []) (rest := []) (kc_M_read (T := M 0) (pa := pa) (dp := dp) hm rfl hA.1) ⟨rfl, rfl⟩ zy_M_read_ok zm_821 zm_822 zm_823 (ci := 7) rfl rfl ⟨by decide, by decide⟩ ⟨hk0, hs0⟩ cd_W_law_167 hm.1 rfl rfl (Nat.le_of_ble_eq_true rfl) (fun v8 σ8 sz8 hq8 => ?_)
    obtain ⟨-, hF8, ok8, ps8, ot8, M8, pa8, dp8, q1, -, -, -, -, q6, q7⟩ := hq8
    rw [e2] at q1
    simp only [Prod.mk.injEq] at q1
    obtain ⟨w1, w2, w3, w4, w5, w6⟩ := q1
    subst w1 w2 w3 w4 w5 w6
    obtain ⟨hv8, hm⟩ := q7 rfl
    subst hv8
    have hC := hC.fr hF8 (Or.inl (Nat.le_refl _))
    have ho := ho.fr hF8 (by omega)
    obtain ⟨kp1, kp2, kp3⟩ := zm_lines_keep 102 0 pa dp 0 M (by omega) e2
    have kp4 := zm_lines_rows 102 0 pa dp 0 M e2
    refine zg_istore (lv' := [(6, .int (nI 0)), (5, .int (nI 1)), (4, .int (nI i)), (3, .ref (b + 78)), (2, .ref (b + 56)), (1, .ref b), (0, .ref scr)]) cd_W_law_170 (by decide) rfl ?_
    refine zg_aload_n 4 cd_W_law_172 rfl rfl ?_
    refine zg_callVp (rm' := zr_M_thrown) (b := (b + 56)) (As := []) (rest := []) (kc_M_thrown hm) ⟨rfl, rfl⟩ zy_M_thrown_ok zm_813 zm_814 zm_815 (ci := 7) rfl rfl ⟨by decide, by decide⟩ ⟨hk0, hs0⟩ cd_W_law_173 hm.1 rfl rfl (Nat.le_of_ble_eq_true rfl) ?_
    refine zg_iload 1 cd_W_law_176 rfl ?_
    refine zg_icmp_eq (tgt := 183) cd_W_law_178 (by decide) (fun _ => ?_) (fun c9 => absurd rfl c9)
    refine zg_iload 1 cd_W_law_183 rfl ?_
    refine zg_if_ne (tgt := 200) cd_W_law_185 (by decide) (fun _ => ?_) (fun c9 => absurd c9 (by decide))
    refine zg_goto (tgt := 845) cd_W_law_200 (by decide) ?_
    refine zg_sub [2, 3, 4, 5, 6] rfl ?_
    have hA : zAt 0 W (M1 0) := ⟨by omega, fun j9 h9 => absurd h9 (Nat.not_lt_zero _)⟩
    have hT := hT.mv (M' := M1) (fun r9 j9 _ _ _ => kp2 r9 j9 (by omega) (by omega)) (fun j9 _ => kp3 j9 (by omega))
    have hD := hD.mv (M' := M1) (fun r9 _ _ => kp4 r9 (by omega))
    have hE := hE.mv (M' := M1) (fun r9 _ _ => kp4 r9 (by omega)) (fun r9 j9 _ _ _ => kp2 r9 j9 (by omega) (by omega)) (fun j9 _ => kp3 j9 (by omega))
    have hF : zFt L pr Sg (M1 20) := by rw [kp4 20 (by decide)]; exact hF
    exact KK _ _ ⟨_, _, _, _, _, _, _, _, _, _, _, _, _, _, _, _, _, _, _, _, _, _, _, _, _, _, _, _, _, _, _, _, _, _, hC, hm, ho, hA, hT, hD, hE, hF⟩
  · skip
    refine zg_callSW (rm' := zr_W_read) (n := 2) (As := [.ref b, .ref (b + 78)]) (rest := []) (kc_W_read_ok hC hA.1 ho (by omega) e1) zw_cw_read zm_53 ⟨by decide, by decide, by decide⟩ zm_522 zm_523 ⟨by decide, by decide⟩ ⟨hk0, hs0⟩ cd_W_law_161 rfl rfl (Nat.le_of_ble_eq_true rfl) (fun s9 c9 h9 => h9.1) (fun r9 σ9 sz9 hq9 => ?_)
    obtain ⟨v9, hr9, hv9, -, -, hF9, hC, ho⟩ := hq9
    subst hr9
    subst hv9
    refine zg_eq (st' := [.int (nI 0)]) rfl rfl rfl rfl rfl ?_
    have hm := hm.fr2 hF9 21 rfl (by omega)
    refine zg_istore (lv' := [(5, .int (nI 0)), (4, .int (nI i)), (3, .ref (b + 78)), (2, .ref (b + 56)), (1, .ref b), (0, .ref scr)]) cd_W_law_164 (by decide) rfl ?_
    refine zg_aload_n 3 cd_W_law_166 rfl rfl ?_
    refine zg_callVi (rm' := zr_M_read) (b := (b + 56)) (As := []) (rest := []) (kc_M_read (T := M 0) (pa := pa) (dp := dp) hm rfl hA.1) ⟨rfl, rfl⟩ zy_M_read_ok zm_821 zm_822 zm_823 (ci := 7) rfl rfl ⟨by decide, by decide⟩ ⟨hk0, hs0⟩ cd_W_law_167 hm.1 rfl rfl (Nat.le_of_ble_eq_true rfl) (fun v8 σ8 sz8 hq8 => ?_)
    obtain ⟨-, hF8, ok8, ps8, ot8, M8, pa8, dp8, q1, -, -, -, -, q6, q7⟩ := hq8
    rw [e2] at q1
    simp only [Prod.mk.injEq] at q1
    obtain ⟨w1, w2, w3, w4, w5, w6⟩ := q1
    subst w1 w2 w3 w4 w5 w6
    obtain ⟨hv8, hm⟩ := q6 rfl
    subst hv8
    have hC := hC.fr hF8 (Or.inl (Nat.le_refl _))
    have ho := ho.fr hF8 (by omega)
    obtain ⟨kp1, kp2, kp3⟩ := zm_lines_keep 102 0 pa dp 0 M (by omega) e2
    have kp4 := zm_lines_rows 102 0 pa dp 0 M e2
    refine zg_istore (lv' := [(6, .int (nI n9)), (5, .int (nI 0)), (4, .int (nI i)), (3, .ref (b + 78)), (2, .ref (b + 56)), (1, .ref b), (0, .ref scr)]) cd_W_law_170 (by decide) rfl ?_
    refine zg_aload_n 4 cd_W_law_172 rfl rfl ?_
    refine zg_callVp (rm' := zr_M_thrown) (b := (b + 56)) (As := []) (rest := []) (kc_M_thrown hm) ⟨rfl, rfl⟩ zy_M_thrown_ok zm_813 zm_814 zm_815 (ci := 7) rfl rfl ⟨by decide, by decide⟩ ⟨hk0, hs0⟩ cd_W_law_173 hm.1 rfl rfl (Nat.le_of_ble_eq_true rfl) ?_
    refine zg_iload 1 cd_W_law_176 rfl ?_
    refine zg_icmp_eq (tgt := 183) cd_W_law_178 (by decide) (fun _ => ?_) (fun c9 => absurd rfl c9)
    refine zg_iload 1 cd_W_law_183 rfl ?_
    refine zg_if_ne (tgt := 200) cd_W_law_185 (by decide) (fun c9 => absurd nI_0 c9) (fun _ => ?_)
    refine zg_aload_n 3 cd_W_law_188 rfl rfl ?_
    refine zg_iconst (v := nI 0) cd_W_law_189 (by decide) ?_
    obtain ⟨f9, hf9, hf0⟩ := id ho
    refine zg_lald (j := 0) cd_W_law_190 hf9 rfl (by decide) (by decide) ?_
    rw [hf0]
    refine zg_iload 0 cd_W_law_191 rfl ?_
    refine zg_i2l (v := (nI n9).toInt64) cd_W_law_193 rfl ?_
    refine zg_lcmp cd_W_law_194 ?_
    refine zg_if_eq (tgt := 200) cd_W_law_195 (by decide) (fun _ => ?_) (fun c9 => absurd (zcmp0 _) c9)
    refine zg_goto (tgt := 845) cd_W_law_200 (by decide) ?_
    refine zg_sub [2, 3, 4, 5, 6] rfl ?_
    obtain ⟨hT9, hD9⟩ := zrel_read e4 e3 hD kp4
    have hz := zrd_all M1
    generalize zm_rd M1 = Z at hm hT9 hD9 hz
    obtain ⟨z1, z2, z3, z4, z5, z6⟩ := hz
    have hA : zAt 0 W (Z 0) := ⟨by omega, fun j9 h9 => absurd h9 (Nat.not_lt_zero _)⟩
    have hE : zEt n9 c m (nI 1) Q K (nI 0) Z := ⟨hE.1, hE.2.1, hE.2.2.1, fun j9 h9 => by
      rw [z6 17 (by omega), z6 18 (by omega), z6 19 (by omega), kp4 17 (by omega), kp4 18 (by omega), kp4 19 (by omega)]; exact hE.2.2.2.1 j9 h9, Or.inr (Or.inl ⟨rfl, rfl⟩)⟩
    have hF : zFt L pr Sg (Z 20) := by rw [z6 20 (by omega), kp4 20 (by omega)]; exact hF
    have hT := hT9
    have hD := hD9
    exact KK _ _ ⟨_, _, _, _, _, _, _, _, _, _, _, _, _, _, _, _, _, _, _, _, _, _, _, _, _, _, _, _, _, _, _, _, _, _, hC, hm, ho, hA, hT, hD, hE, hF⟩
set_option maxRecDepth 100000 in
set_option maxHeartbeats 4000000 in
theorem zlw_16 {g : zx_G} {σ : zx_M} {sz kc ks scr Ls i b : Nat} {xs : Nat → Int32} {QQ : List Frame → Array Value → State → State → Prop} (hfl : g.1.flags = pinnedFlags ++ [noTraceFlag]) (hI : zIV g σ b) (hi : i + 4 ≤ Ls) (hLs : Ls ≤ 2048) (hk0 : kc + 1 ≤ room_1.cells) (hs0 : ks + 6 ≤ room_1.slots) (KK : ∀ σ' sz', zIV g σ' b → zL g scr Ls xs QQ 845 (zLV scr b i) [] σ' sz' (kc + 1) (ks + 6)) : zL g scr Ls xs QQ 701 (zLV scr b i) [] σ sz kc ks := by
  obtain ⟨t, e, s, k, p, x, y, lv, len, nx, n0, n, m, c, wr, od, W, R0, R, Q, N, S, K, Sg, L, th, ps, ot, pr, fr, M, pa, dp, fo, hC, hm, ho, hA, hT, hD, hE, hF⟩ := hI
  obtain ⟨hlay, hB, hO, hV, h, hY, hN, hS, hK, hP⟩ := id hC
  obtain ⟨el1, el2, el3, el4, el5, lx, ly, ll, lxy, lxl, lyl⟩ := hlay.f
  have hn := hT.1
  refine zg_aload_n 3 cd_W_law_701 rfl rfl ?_
  refine zg_aload_n 1 cd_W_law_702 rfl rfl ?_
  rcases zparse_sim hA R0 M pa dp with ⟨p9, n1, R1, m1, ot1, M1, pa1, dp1, e1, e2⟩ | ⟨p9, n9, R1, M1, pa1, dp1, e1, e2, e3, e4⟩
  · skip
    refine zg_callSW (rm' := zr_W_merge) (n := 2) (As := [.ref b, .ref (b + 78)]) (rest := []) (kc_W_merge_thr hfl hC hA.1 ho (by omega) e1) zw_cw_merge zm_53 ⟨by decide, by decide, by decide⟩ zm_685 zm_686 ⟨by decide, by decide⟩ ⟨hk0, hs0⟩ cd_W_law_703 rfl rfl (Nat.le_of_ble_eq_true rfl) (fun s9 c9 h9 => h9.1) (fun r9 σ9 sz9 hq9 => ?_)
    obtain ⟨v9, hr9, hv9, -, hF9, n9, -, hC, ho⟩ := hq9
    subst hr9
    subst hv9
    refine zg_eq (st' := [.int (nI 1)]) rfl rfl rfl rfl rfl ?_
    have hF9 := hF9.lies (lo := b) (ln := 56) (by omega) (by omega)
    have hm := hm.frn hF9 21 rfl (by omega)
    refine zg_istore (lv' := [(5, .int (nI 1)), (4, .int (nI i)), (3, .ref (b + 78)), (2, .ref (b + 56)), (1, .ref b), (0, .ref scr)]) cd_W_law_706 (by decide) rfl ?_
    refine zg_aload_n 3 cd_W_law_708 rfl rfl ?_
    refine zg_callVi (rm' := zr_M_merge) (b := (b + 56)) (As := []) (rest := []) (kc_M_merge (T := M 0) (pa := pa) (dp := dp) hm rfl hA.1 hT.2.1 hn (fun j9 h9 => hT.TM j9 h9)) ⟨rfl, rfl⟩ zy_M_merge_ok zm_963 zm_964 zm_965 (ci := 7) rfl rfl ⟨by decide, by decide⟩ ⟨hk0, hs0⟩ cd_W_law_709 hm.1 rfl rfl (Nat.le_of_ble_eq_true rfl) (fun v8 σ8 sz8 hq8 => ?_)
    obtain ⟨-, hF8, ok8, ps8, ot8, M8, pa8, dp8, q1, -, -, -, -, q6, q7⟩ := hq8
    rw [e2] at q1
    simp only [Prod.mk.injEq] at q1
    obtain ⟨w1, w2, w3, w4, w5, w6⟩ := q1
    subst w1 w2 w3 w4 w5 w6
    obtain ⟨hv8, hm⟩ := q7 rfl
    subst hv8
    have hC := hC.fr hF8 (Or.inl (Nat.le_refl _))
    have ho := ho.fr hF8 (by omega)
    obtain ⟨kp1, kp2, kp3⟩ := zm_lines_keep 102 0 pa dp 0 M (by omega) e2
    have kp4 := zm_lines_rows 102 0 pa dp 0 M e2
    refine zg_istore (lv' := [(6, .int (nI 0)), (5, .int (nI 1)), (4, .int (nI i)), (3, .ref (b + 78)), (2, .ref (b + 56)), (1, .ref b), (0, .ref scr)]) cd_W_law_712 (by decide) rfl ?_
    refine zg_aload_n 4 cd_W_law_714 rfl rfl ?_
    refine zg_callVp (rm' := zr_M_thrown) (b := (b + 56)) (As := []) (rest := []) (kc_M_thrown hm) ⟨rfl, rfl⟩ zy_M_thrown_ok zm_813 zm_814 zm_815 (ci := 7) rfl rfl ⟨by decide, by decide⟩ ⟨hk0, hs0⟩ cd_W_law_715 hm.1 rfl rfl (Nat.le_of_ble_eq_true rfl) ?_
    refine zg_iload 1 cd_W_law_718 rfl ?_
    refine zg_icmp_eq (tgt := 725) cd_W_law_720 (by decide) (fun _ => ?_) (fun c9 => absurd rfl c9)
    refine zg_iload 1 cd_W_law_725 rfl ?_
    refine zg_if_ne (tgt := 742) cd_W_law_727 (by decide) (fun _ => ?_) (fun c9 => absurd c9 (by decide))
    refine zg_goto (tgt := 845) cd_W_law_742 (by decide) ?_
    refine zg_sub [2, 3, 4, 5, 6] rfl ?_
    have hA : zAt 0 W (M1 0) := ⟨by omega, fun j9 h9 => absurd h9 (Nat.not_lt_zero _)⟩
    have hT := hT.mv (M' := M1) (fun r9 j9 _ _ _ => kp2 r9 j9 (by omega) (by omega)) (fun j9 _ => kp3 j9 (by omega))
    have hD := hD.mv (M' := M1) (fun r9 _ _ => kp4 r9 (by omega))
    have hE := hE.mv (M' := M1) (fun r9 _ _ => kp4 r9 (by omega)) (fun r9 j9 _ _ _ => kp2 r9 j9 (by omega) (by omega)) (fun j9 _ => kp3 j9 (by omega))
    have hF : zFt L pr Sg (M1 20) := by rw [kp4 20 (by decide)]; exact hF
    exact KK _ _ ⟨_, _, _, _, _, _, _, _, _, _, _, _, _, _, _, _, _, _, _, _, _, _, _, _, _, _, _, _, _, _, _, _, _, _, hC, hm, ho, hA, hT, hD, hE, hF⟩
  · skip
    refine zg_callSW (rm' := zr_W_merge) (n := 2) (As := [.ref b, .ref (b + 78)]) (rest := []) (kc_W_merge_ok hC hA.1 ho (by omega) e1 hT.T hn) zw_cw_merge zm_53 ⟨by decide, by decide, by decide⟩ zm_685 zm_686 ⟨by decide, by decide⟩ ⟨hk0, hs0⟩ cd_W_law_703 rfl rfl (Nat.le_of_ble_eq_true rfl) (fun s9 c9 h9 => h9.1) (fun r9 σ9 sz9 hq9 => ?_)
    obtain ⟨v9, hr9, hv9, -, -, hF9, hC, ho⟩ := hq9
    subst hr9
    subst hv9
    refine zg_eq (st' := [.int (nI 0)]) rfl rfl rfl rfl rfl ?_
    have hm := hm.fr2 hF9 21 rfl (by omega)
    refine zg_istore (lv' := [(5, .int (nI 0)), (4, .int (nI i)), (3, .ref (b + 78)), (2, .ref (b + 56)), (1, .ref b), (0, .ref scr)]) cd_W_law_706 (by decide) rfl ?_
    refine zg_aload_n 3 cd_W_law_708 rfl rfl ?_
    refine zg_callVi (rm' := zr_M_merge) (b := (b + 56)) (As := []) (rest := []) (kc_M_merge (T := M 0) (pa := pa) (dp := dp) hm rfl hA.1 hT.2.1 hn (fun j9 h9 => hT.TM j9 h9)) ⟨rfl, rfl⟩ zy_M_merge_ok zm_963 zm_964 zm_965 (ci := 7) rfl rfl ⟨by decide, by decide⟩ ⟨hk0, hs0⟩ cd_W_law_709 hm.1 rfl rfl (Nat.le_of_ble_eq_true rfl) (fun v8 σ8 sz8 hq8 => ?_)
    obtain ⟨-, hF8, ok8, ps8, ot8, M8, pa8, dp8, q1, -, -, -, -, q6, q7⟩ := hq8
    rw [e2] at q1
    simp only [Prod.mk.injEq] at q1
    obtain ⟨w1, w2, w3, w4, w5, w6⟩ := q1
    subst w1 w2 w3 w4 w5 w6
    obtain ⟨hv8, hm⟩ := q6 rfl
    subst hv8
    have hC := hC.fr hF8 (Or.inl (Nat.le_refl _))
    have ho := ho.fr hF8 (by omega)
    obtain ⟨kp1, kp2, kp3⟩ := zm_lines_keep 102 0 pa dp 0 M (by omega) e2
    have kp4 := zm_lines_rows 102 0 pa dp 0 M e2
    have hT9 := (hT.mv (M' := M1) (fun r9 j9 _ _ _ => kp2 r9 j9 (by omega) (by omega)) (fun j9 _ => kp3 j9 (by omega))).gh kp1
    obtain ⟨g1, g2, g3, g4, g5⟩ := zrel_merge (K := K) hT9 e4
    rw [← g1] at hm ⊢
    refine zg_istore (lv' := [(6, .int (nI (zk_gat n R n9 R1 K).1)), (5, .int (nI 0)), (4, .int (nI i)), (3, .ref (b + 78)), (2, .ref (b + 56)), (1, .ref b), (0, .ref scr)]) cd_W_law_712 (by decide) rfl ?_
    refine zg_aload_n 4 cd_W_law_714 rfl rfl ?_
    refine zg_callVp (rm' := zr_M_thrown) (b := (b + 56)) (As := []) (rest := []) (kc_M_thrown hm) ⟨rfl, rfl⟩ zy_M_thrown_ok zm_813 zm_814 zm_815 (ci := 7) rfl rfl ⟨by decide, by decide⟩ ⟨hk0, hs0⟩ cd_W_law_715 hm.1 rfl rfl (Nat.le_of_ble_eq_true rfl) ?_
    refine zg_iload 1 cd_W_law_718 rfl ?_
    refine zg_icmp_eq (tgt := 725) cd_W_law_720 (by decide) (fun _ => ?_) (fun c9 => absurd rfl c9)
    refine zg_iload 1 cd_W_law_725 rfl ?_
    refine zg_if_ne (tgt := 742) cd_W_law_727 (by decide) (fun c9 => absurd nI_0 c9) (fun _ => ?_)
    refine zg_aload_n 3 cd_W_law_730 rfl rfl ?_
    refine zg_iconst (v := nI 0) cd_W_law_731 (by decide) ?_
    obtain ⟨f9, hf9, hf0⟩ := id ho
    refine zg_lald (j := 0) cd_W_law_732 hf9 rfl (by decide) (by decide) ?_
    rw [hf0]
    refine zg_iload 0 cd_W_law_733 rfl ?_
    refine zg_i2l (v := (nI (zk_gat n R n9 R1 K).1).toInt64) cd_W_law_735 rfl ?_
    refine zg_lcmp cd_W_law_736 ?_
    refine zg_if_eq (tgt := 742) cd_W_law_737 (by decide) (fun _ => ?_) (fun c9 => absurd (zcmp0 _) c9)
    refine zg_goto (tgt := 845) cd_W_law_742 (by decide) ?_
    refine zg_sub [2, 3, 4, 5, 6] rfl ?_
    generalize (zm_mg n pa1 M1 n9).2 = Z at hm g2 g3 g4 g5
    have hA : zAt 0 W (Z 0) := ⟨by omega, fun j9 h9 => absurd h9 (Nat.not_lt_zero _)⟩
    have hT := hT9.mv (M' := Z) (fun r9 j9 h1 h2 h3 => by
      by_cases h4 : r9 < 4
      · rw [g3 r9 (by omega)]
      · exact g4 r9 j9 (by omega) (by omega) (by omega)) (fun j9 _ => g5 j9 (by omega))
    have hD := hD.mv (M' := Z) (fun r9 _ _ => (g3 r9 (by omega)).trans (kp4 r9 (by omega)))
    have hE := g2
    have hF : zFt L pr Sg (Z 20) := by rw [g3 20 (by omega), kp4 20 (by omega)]; exact hF
    exact KK _ _ ⟨_, _, _, _, _, _, _, _, _, _, _, _, _, _, _, _, _, _, _, _, _, _, _, _, _, _, _, _, _, _, _, _, _, _, hC, hm, ho, hA, hT, hD, hE, hF⟩

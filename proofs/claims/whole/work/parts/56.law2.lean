set_option maxRecDepth 20000 in
theorem LC_state {κ : mj_K} {Q : State → Prop} {M M1 : mj_M} {m2 : mj_m} {r : Int32} {b n i : Nat} {xs : Nat → Int32} (C : mj_C κ cL_law 4 RL) (hT0 : mj_isT (mj_g κ)) (hM0 : mj_isM (mj_g κ) 4) (hroom : mj_room κ = room_1) (hX : mj_X κ b n xs) (hi : i + 6 ≤ n) (hn : n ≤ 3072) (h1 : f_X10_state (xs (i + 1)) M = (r, M1)) (h2 : f_X11_state (xs (i + 1)) (M1 4) = (r, m2)) (kk : mj_R κ Q 1179 [some (mj_o (some b)), some (mj_r (3, 0)), some (mj_r (4, 0)), some (.inl (nI i))] [] (va_up M1 4 m2)) : mj_R κ Q 180 [some (mj_o (some b)), some (mj_r (3, 0)), some (mj_r (4, 0)), some (.inl (nI i))] [] M := by
  refine mj_aload_n C dL_law_180 rfl ?_
  refine mx_aload_n C dL_law_181 rfl ?_
  refine mj_iload_n C dL_law_182 rfl ?_
  refine mj_iconst (v := 1) C dL_law_183 (by decide) ?_
  refine mj_iadd C dL_law_184 ?_
  refine mj_nm (a := nI (i + 1)) (nI_add i 1) ?_
  refine mx_sld C hX (by omega) hn dL_law_185 ?_
  refine mj_callV1 (av := [.inl (xs (i + 1))]) C lM_L_13 lV_X10_state hT0.2.2.2.2 ⟨_, rfl, rfl⟩ rfl (C_X10_state hT0 h1) (mj_fitL hroom rfl rfl) rfl (Nat.le_of_ble_eq_true rfl) dL_law_186 (fun _ => ?_)
  refine mj_aload_n C dL_law_189 rfl ?_
  refine mx_aload_n C dL_law_190 rfl ?_
  refine mj_iload_n C dL_law_191 rfl ?_
  refine mj_iconst (v := 1) C dL_law_192 (by decide) ?_
  refine mj_iadd C dL_law_193 ?_
  refine mj_nm (a := nI (i + 1)) (nI_add i 1) ?_
  refine mx_sld C hX (by omega) hn dL_law_194 ?_
  refine mj_callV1 (av := [.inl (xs (i + 1))]) C lM_L_17 lV_X11_state (sM0 hM0) ⟨_, rfl, rfl⟩ rfl (mj_S1_self (M := M1) (β := 4) (C_X11_state (M := M1) (m := M1 4) hM0 h2)) (mj_fitL hroom rfl rfl) rfl (Nat.le_of_ble_eq_true rfl) dL_law_195 (fun _ => ?_)
  exact mj_icmp_eq (tgt := 1179) C dL_law_198 (by decide) (fun _ => kk) (fun c => absurd rfl c)
set_option maxRecDepth 20000 in
theorem LC_set {κ : mj_K} {Q : State → Prop} {M M1 : mj_M} {m2 : mj_m} {r : Int32} {b n i : Nat} {xs : Nat → Int32} (C : mj_C κ cL_law 4 RL) (hT0 : mj_isT (mj_g κ)) (hM0 : mj_isM (mj_g κ) 4) (hroom : mj_room κ = room_1) (hX : mj_X κ b n xs) (hi : i + 6 ≤ n) (hn : n ≤ 3072) (h1 : f_X10_set (xs (i + 1)) (xs (i + 2)) M = some (r, M1)) (h2 : f_X11_set (xs (i + 1)) (xs (i + 2)) (M1 4) = some (r, m2)) (kk : mj_R κ Q 1179 [some (mj_o (some b)), some (mj_r (3, 0)), some (mj_r (4, 0)), some (.inl (nI i))] [] (va_up M1 4 m2)) : mj_R κ Q 203 [some (mj_o (some b)), some (mj_r (3, 0)), some (mj_r (4, 0)), some (.inl (nI i))] [] M := by
  refine mj_aload_n C dL_law_203 rfl ?_
  refine mx_aload_n C dL_law_204 rfl ?_
  refine mj_iload_n C dL_law_205 rfl ?_
  refine mj_iconst (v := 1) C dL_law_206 (by decide) ?_
  refine mj_iadd C dL_law_207 ?_
  refine mj_nm (a := nI (i + 1)) (nI_add i 1) ?_
  refine mx_sld C hX (by omega) hn dL_law_208 ?_
  refine mx_aload_n C dL_law_209 rfl ?_
  refine mj_iload_n C dL_law_210 rfl ?_
  refine mj_iconst (v := 2) C dL_law_211 (by decide) ?_
  refine mj_iadd C dL_law_212 ?_
  refine mj_nm (a := nI (i + 2)) (nI_add i 2) ?_
  refine mx_sld C hX (by omega) hn dL_law_213 ?_
  refine mj_callV1 (av := [.inl (xs (i + 1)), .inl (xs (i + 2))]) C lM_L_18 lV_X10_set hT0.2.2.2.2 ⟨_, rfl, rfl⟩ rfl (C_X10_set hT0 h1) (mj_fitL hroom rfl rfl) rfl (Nat.le_of_ble_eq_true rfl) dL_law_214 (fun _ => ?_)
  refine mj_aload_n C dL_law_217 rfl ?_
  refine mx_aload_n C dL_law_218 rfl ?_
  refine mj_iload_n C dL_law_219 rfl ?_
  refine mj_iconst (v := 1) C dL_law_220 (by decide) ?_
  refine mj_iadd C dL_law_221 ?_
  refine mj_nm (a := nI (i + 1)) (nI_add i 1) ?_
  refine mx_sld C hX (by omega) hn dL_law_222 ?_
  refine mx_aload_n C dL_law_223 rfl ?_
  refine mj_iload_n C dL_law_224 rfl ?_
  refine mj_iconst (v := 2) C dL_law_225 (by decide) ?_
  refine mj_iadd C dL_law_226 ?_
  refine mj_nm (a := nI (i + 2)) (nI_add i 2) ?_
  refine mx_sld C hX (by omega) hn dL_law_227 ?_
  refine mj_callV1 (av := [.inl (xs (i + 1)), .inl (xs (i + 2))]) C lM_L_22 lV_X11_set (sM0 hM0) ⟨_, rfl, rfl⟩ rfl (mj_S1_self (M := M1) (β := 4) (C_X11_set (M := M1) (m := M1 4) hM0 h2)) (mj_fitL hroom rfl rfl) rfl (Nat.le_of_ble_eq_true rfl) dL_law_228 (fun _ => ?_)
  exact mj_icmp_eq (tgt := 1179) C dL_law_231 (by decide) (fun _ => kk) (fun c => absurd rfl c)
set_option maxRecDepth 20000 in
theorem LC_send {κ : mj_K} {Q : State → Prop} {M M1 : mj_M} {m2 : mj_m} {r : Int32} {b n i : Nat} {xs : Nat → Int32} (C : mj_C κ cL_law 4 RL) (hT0 : mj_isT (mj_g κ)) (hM0 : mj_isM (mj_g κ) 4) (hroom : mj_room κ = room_1) (hX : mj_X κ b n xs) (hi : i + 6 ≤ n) (hn : n ≤ 3072) (h1 : f_X10_send (xs (i + 1)) M = some (r, M1)) (h2 : f_X11_send (xs (i + 1)) (M1 4) = some (r, m2)) (kk : mj_R κ Q 1179 [some (mj_o (some b)), some (mj_r (3, 0)), some (mj_r (4, 0)), some (.inl (nI i))] [] (va_up M1 4 m2)) : mj_R κ Q 236 [some (mj_o (some b)), some (mj_r (3, 0)), some (mj_r (4, 0)), some (.inl (nI i))] [] M := by
  refine mj_aload_n C dL_law_236 rfl ?_
  refine mx_aload_n C dL_law_237 rfl ?_
  refine mj_iload_n C dL_law_238 rfl ?_
  refine mj_iconst (v := 1) C dL_law_239 (by decide) ?_
  refine mj_iadd C dL_law_240 ?_
  refine mj_nm (a := nI (i + 1)) (nI_add i 1) ?_
  refine mx_sld C hX (by omega) hn dL_law_241 ?_
  refine mj_callV1 (av := [.inl (xs (i + 1))]) C lM_L_23 lV_X10_send hT0.2.2.2.2 ⟨_, rfl, rfl⟩ rfl (C_X10_send hT0 h1) (mj_fitL hroom rfl rfl) rfl (Nat.le_of_ble_eq_true rfl) dL_law_242 (fun _ => ?_)
  refine mj_aload_n C dL_law_245 rfl ?_
  refine mx_aload_n C dL_law_246 rfl ?_
  refine mj_iload_n C dL_law_247 rfl ?_
  refine mj_iconst (v := 1) C dL_law_248 (by decide) ?_
  refine mj_iadd C dL_law_249 ?_
  refine mj_nm (a := nI (i + 1)) (nI_add i 1) ?_
  refine mx_sld C hX (by omega) hn dL_law_250 ?_
  refine mj_callV1 (av := [.inl (xs (i + 1))]) C lM_L_26 lV_X11_send (sM0 hM0) ⟨_, rfl, rfl⟩ rfl (mj_S1_self (M := M1) (β := 4) (C_X11_send (M := M1) (m := M1 4) hM0 h2)) (mj_fitL hroom rfl rfl) rfl (Nat.le_of_ble_eq_true rfl) dL_law_251 (fun _ => ?_)
  exact mj_icmp_eq (tgt := 1179) C dL_law_254 (by decide) (fun _ => kk) (fun c => absurd rfl c)
set_option maxRecDepth 20000 in
theorem LC_past {κ : mj_K} {Q : State → Prop} {M M1 : mj_M} {m2 : mj_m} {r : Int32} {b n i : Nat} {xs : Nat → Int32} (C : mj_C κ cL_law 4 RL) (hT0 : mj_isT (mj_g κ)) (hM0 : mj_isM (mj_g κ) 4) (hroom : mj_room κ = room_1) (hX : mj_X κ b n xs) (hi : i + 6 ≤ n) (hn : n ≤ 3072) (h1 : f_X10_past (xs (i + 1)) M = some (r, M1)) (h2 : f_X11_past (xs (i + 1)) (M1 4) = some (r, m2)) (kk : mj_R κ Q 1179 [some (mj_o (some b)), some (mj_r (3, 0)), some (mj_r (4, 0)), some (.inl (nI i))] [] (va_up M1 4 m2)) : mj_R κ Q 259 [some (mj_o (some b)), some (mj_r (3, 0)), some (mj_r (4, 0)), some (.inl (nI i))] [] M := by
  refine mj_aload_n C dL_law_259 rfl ?_
  refine mx_aload_n C dL_law_260 rfl ?_
  refine mj_iload_n C dL_law_261 rfl ?_
  refine mj_iconst (v := 1) C dL_law_262 (by decide) ?_
  refine mj_iadd C dL_law_263 ?_
  refine mj_nm (a := nI (i + 1)) (nI_add i 1) ?_
  refine mx_sld C hX (by omega) hn dL_law_264 ?_
  refine mj_callV1 (av := [.inl (xs (i + 1))]) C lM_L_27 lV_X10_past hT0.2.2.2.2 ⟨_, rfl, rfl⟩ rfl (C_X10_past hT0 h1) (mj_fitL hroom rfl rfl) rfl (Nat.le_of_ble_eq_true rfl) dL_law_265 (fun _ => ?_)
  refine mj_aload_n C dL_law_268 rfl ?_
  refine mx_aload_n C dL_law_269 rfl ?_
  refine mj_iload_n C dL_law_270 rfl ?_
  refine mj_iconst (v := 1) C dL_law_271 (by decide) ?_
  refine mj_iadd C dL_law_272 ?_
  refine mj_nm (a := nI (i + 1)) (nI_add i 1) ?_
  refine mx_sld C hX (by omega) hn dL_law_273 ?_
  refine mj_callV1 (av := [.inl (xs (i + 1))]) C lM_L_30 lV_X11_past (sM0 hM0) ⟨_, rfl, rfl⟩ rfl (mj_S1_self (M := M1) (β := 4) (C_X11_past (M := M1) (m := M1 4) hM0 h2)) (mj_fitL hroom rfl rfl) rfl (Nat.le_of_ble_eq_true rfl) dL_law_274 (fun _ => ?_)
  exact mj_icmp_eq (tgt := 1179) C dL_law_277 (by decide) (fun _ => kk) (fun c => absurd rfl c)
set_option maxRecDepth 20000 in
theorem LC_start {κ : mj_K} {Q : State → Prop} {M M1 : mj_M} {m2 : mj_m} {r : Int32} {b n i : Nat} {xs : Nat → Int32} (C : mj_C κ cL_law 4 RL) (hT0 : mj_isT (mj_g κ)) (hM0 : mj_isM (mj_g κ) 4) (hroom : mj_room κ = room_1) (hX : mj_X κ b n xs) (hi : i + 6 ≤ n) (hn : n ≤ 3072) (h1 : f_X10_start (xs (i + 1)) (xs (i + 2)) M = some (r, M1)) (h2 : f_X11_start (xs (i + 1)) (xs (i + 2)) (M1 4) = some (r, m2)) (kk : mj_R κ Q 1179 [some (mj_o (some b)), some (mj_r (3, 0)), some (mj_r (4, 0)), some (.inl (nI i))] [] (va_up M1 4 m2)) : mj_R κ Q 282 [some (mj_o (some b)), some (mj_r (3, 0)), some (mj_r (4, 0)), some (.inl (nI i))] [] M := by
  refine mj_aload_n C dL_law_282 rfl ?_
  refine mx_aload_n C dL_law_283 rfl ?_
  refine mj_iload_n C dL_law_284 rfl ?_
  refine mj_iconst (v := 1) C dL_law_285 (by decide) ?_
  refine mj_iadd C dL_law_286 ?_
  refine mj_nm (a := nI (i + 1)) (nI_add i 1) ?_
  refine mx_sld C hX (by omega) hn dL_law_287 ?_
  refine mx_aload_n C dL_law_288 rfl ?_
  refine mj_iload_n C dL_law_289 rfl ?_
  refine mj_iconst (v := 2) C dL_law_290 (by decide) ?_
  refine mj_iadd C dL_law_291 ?_
  refine mj_nm (a := nI (i + 2)) (nI_add i 2) ?_
  refine mx_sld C hX (by omega) hn dL_law_292 ?_
  refine mj_callV1 (av := [.inl (xs (i + 1)), .inl (xs (i + 2))]) C lM_L_31 lV_X10_start hT0.2.2.2.2 ⟨_, rfl, rfl⟩ rfl (C_X10_start hT0 h1) (mj_fitL hroom rfl rfl) rfl (Nat.le_of_ble_eq_true rfl) dL_law_293 (fun _ => ?_)
  refine mj_aload_n C dL_law_296 rfl ?_
  refine mx_aload_n C dL_law_297 rfl ?_
  refine mj_iload_n C dL_law_298 rfl ?_
  refine mj_iconst (v := 1) C dL_law_299 (by decide) ?_
  refine mj_iadd C dL_law_300 ?_
  refine mj_nm (a := nI (i + 1)) (nI_add i 1) ?_
  refine mx_sld C hX (by omega) hn dL_law_301 ?_
  refine mx_aload_n C dL_law_302 rfl ?_
  refine mj_iload_n C dL_law_303 rfl ?_
  refine mj_iconst (v := 2) C dL_law_304 (by decide) ?_
  refine mj_iadd C dL_law_305 ?_
  refine mj_nm (a := nI (i + 2)) (nI_add i 2) ?_
  refine mx_sld C hX (by omega) hn dL_law_306 ?_
  refine mj_callV1 (av := [.inl (xs (i + 1)), .inl (xs (i + 2))]) C lM_L_34 lV_X11_start (sM0 hM0) ⟨_, rfl, rfl⟩ rfl (mj_S1_self (M := M1) (β := 4) (C_X11_start (M := M1) (m := M1 4) hM0 h2)) (mj_fitL hroom rfl rfl) rfl (Nat.le_of_ble_eq_true rfl) dL_law_307 (fun _ => ?_)
  exact mj_icmp_eq (tgt := 1179) C dL_law_310 (by decide) (fun _ => kk) (fun c => absurd rfl c)
set_option maxRecDepth 20000 in
theorem LC_direct {κ : mj_K} {Q : State → Prop} {M M1 : mj_M} {m2 : mj_m} {r : Int32} {b n i : Nat} {xs : Nat → Int32} (C : mj_C κ cL_law 4 RL) (hT0 : mj_isT (mj_g κ)) (hM0 : mj_isM (mj_g κ) 4) (hroom : mj_room κ = room_1) (hX : mj_X κ b n xs) (hi : i + 6 ≤ n) (hn : n ≤ 3072) (h1 : f_X10_direct (xs (i + 1)) M = some (r, M1)) (h2 : f_X11_direct (xs (i + 1)) (M1 4) = some (r, m2)) (kk : mj_R κ Q 1179 [some (mj_o (some b)), some (mj_r (3, 0)), some (mj_r (4, 0)), some (.inl (nI i))] [] (va_up M1 4 m2)) : mj_R κ Q 315 [some (mj_o (some b)), some (mj_r (3, 0)), some (mj_r (4, 0)), some (.inl (nI i))] [] M := by
  refine mj_aload_n C dL_law_315 rfl ?_
  refine mx_aload_n C dL_law_316 rfl ?_
  refine mj_iload_n C dL_law_317 rfl ?_
  refine mj_iconst (v := 1) C dL_law_318 (by decide) ?_
  refine mj_iadd C dL_law_319 ?_
  refine mj_nm (a := nI (i + 1)) (nI_add i 1) ?_
  refine mx_sld C hX (by omega) hn dL_law_320 ?_
  refine mj_callV1 (av := [.inl (xs (i + 1))]) C lM_L_35 lV_X10_direct hT0.2.2.2.2 ⟨_, rfl, rfl⟩ rfl (C_X10_direct hT0 h1) (mj_fitL hroom rfl rfl) rfl (Nat.le_of_ble_eq_true rfl) dL_law_321 (fun _ => ?_)
  refine mj_aload_n C dL_law_324 rfl ?_
  refine mx_aload_n C dL_law_325 rfl ?_
  refine mj_iload_n C dL_law_326 rfl ?_
  refine mj_iconst (v := 1) C dL_law_327 (by decide) ?_
  refine mj_iadd C dL_law_328 ?_
  refine mj_nm (a := nI (i + 1)) (nI_add i 1) ?_
  refine mx_sld C hX (by omega) hn dL_law_329 ?_
  refine mj_callV1 (av := [.inl (xs (i + 1))]) C lM_L_39 lV_X11_direct (sM0 hM0) ⟨_, rfl, rfl⟩ rfl (mj_S1_self (M := M1) (β := 4) (C_X11_direct (M := M1) (m := M1 4) hM0 h2)) (mj_fitL hroom rfl rfl) rfl (Nat.le_of_ble_eq_true rfl) dL_law_330 (fun _ => ?_)
  exact mj_icmp_eq (tgt := 1179) C dL_law_333 (by decide) (fun _ => kk) (fun c => absurd rfl c)
set_option maxRecDepth 20000 in
theorem LC_renumber {κ : mj_K} {Q : State → Prop} {M M1 : mj_M} {m2 : mj_m} {r : Int32} {b n i : Nat} {xs : Nat → Int32} (C : mj_C κ cL_law 4 RL) (hT0 : mj_isT (mj_g κ)) (hM0 : mj_isM (mj_g κ) 4) (hroom : mj_room κ = room_1) (hX : mj_X κ b n xs) (hi : i + 6 ≤ n) (hn : n ≤ 3072) (h1 : f_X10_renumber (xs (i + 1)) M = (r, M1)) (h2 : f_X11_renumber (xs (i + 1)) (M1 4) = (r, m2)) (kk : mj_R κ Q 1179 [some (mj_o (some b)), some (mj_r (3, 0)), some (mj_r (4, 0)), some (.inl (nI i))] [] (va_up M1 4 m2)) : mj_R κ Q 338 [some (mj_o (some b)), some (mj_r (3, 0)), some (mj_r (4, 0)), some (.inl (nI i))] [] M := by
  refine mj_aload_n C dL_law_338 rfl ?_
  refine mx_aload_n C dL_law_339 rfl ?_
  refine mj_iload_n C dL_law_340 rfl ?_
  refine mj_iconst (v := 1) C dL_law_341 (by decide) ?_
  refine mj_iadd C dL_law_342 ?_
  refine mj_nm (a := nI (i + 1)) (nI_add i 1) ?_
  refine mx_sld C hX (by omega) hn dL_law_343 ?_
  refine mj_callV1 (av := [.inl (xs (i + 1))]) C lM_L_40 lV_X10_renumber hT0.2.2.2.2 ⟨_, rfl, rfl⟩ rfl (C_X10_renumber hT0 h1) (mj_fitL hroom rfl rfl) rfl (Nat.le_of_ble_eq_true rfl) dL_law_344 (fun _ => ?_)
  refine mj_aload_n C dL_law_347 rfl ?_
  refine mx_aload_n C dL_law_348 rfl ?_
  refine mj_iload_n C dL_law_349 rfl ?_
  refine mj_iconst (v := 1) C dL_law_350 (by decide) ?_
  refine mj_iadd C dL_law_351 ?_
  refine mj_nm (a := nI (i + 1)) (nI_add i 1) ?_
  refine mx_sld C hX (by omega) hn dL_law_352 ?_
  refine mj_callV1 (av := [.inl (xs (i + 1))]) C lM_L_43 lV_X11_renumber (sM0 hM0) ⟨_, rfl, rfl⟩ rfl (mj_S1_self (M := M1) (β := 4) (C_X11_renumber (M := M1) (m := M1 4) hM0 h2)) (mj_fitL hroom rfl rfl) rfl (Nat.le_of_ble_eq_true rfl) dL_law_353 (fun _ => ?_)
  exact mj_icmp_eq (tgt := 1179) C dL_law_356 (by decide) (fun _ => kk) (fun c => absurd rfl c)
set_option maxRecDepth 20000 in
theorem LC_take {κ : mj_K} {Q : State → Prop} {M M1 : mj_M} {m2 : mj_m} {r : Int32} {b n i : Nat} {xs : Nat → Int32} (C : mj_C κ cL_law 4 RL) (hT0 : mj_isT (mj_g κ)) (hM0 : mj_isM (mj_g κ) 4) (hroom : mj_room κ = room_1) (hX : mj_X κ b n xs) (hi : i + 6 ≤ n) (hn : n ≤ 3072) (h1 : f_X10_take M = some (r, M1)) (h2 : f_X11_take (M1 4) = some (r, m2)) (kk : mj_R κ Q 1179 [some (mj_o (some b)), some (mj_r (3, 0)), some (mj_r (4, 0)), some (.inl (nI i))] [] (va_up M1 4 m2)) : mj_R κ Q 361 [some (mj_o (some b)), some (mj_r (3, 0)), some (mj_r (4, 0)), some (.inl (nI i))] [] M := by
  refine mj_aload_n C dL_law_361 rfl ?_
  refine mj_callV1 (av := []) C lM_L_44 lV_X10_take hT0.2.2.2.2 ⟨_, rfl, rfl⟩ rfl (C_X10_take hT0 h1) (mj_fitL hroom rfl rfl) rfl (Nat.le_of_ble_eq_true rfl) dL_law_362 (fun _ => ?_)
  refine mj_aload_n C dL_law_365 rfl ?_
  refine mj_callV1 (av := []) C lM_L_48 lV_X11_take (sM0 hM0) ⟨_, rfl, rfl⟩ rfl (mj_S1_self (M := M1) (β := 4) (C_X11_take (M := M1) (m := M1 4) hM0 h2)) (mj_fitL hroom rfl rfl) rfl (Nat.le_of_ble_eq_true rfl) dL_law_366 (fun _ => ?_)
  exact mj_icmp_eq (tgt := 1179) C dL_law_369 (by decide) (fun _ => kk) (fun c => absurd rfl c)
set_option maxRecDepth 20000 in
theorem LC_tick {κ : mj_K} {Q : State → Prop} {M M1 : mj_M} {m2 : mj_m} {r : Int32} {b n i : Nat} {xs : Nat → Int32} (C : mj_C κ cL_law 4 RL) (hT0 : mj_isT (mj_g κ)) (hM0 : mj_isM (mj_g κ) 4) (hroom : mj_room κ = room_1) (hX : mj_X κ b n xs) (hi : i + 6 ≤ n) (hn : n ≤ 3072) (h1 : f_X10_tick (xs (i + 1)) M = some (r, M1)) (h2 : f_X11_tick (xs (i + 1)) (M1 4) = some (r, m2)) (kk : mj_R κ Q 1179 [some (mj_o (some b)), some (mj_r (3, 0)), some (mj_r (4, 0)), some (.inl (nI i))] [] (va_up M1 4 m2)) : mj_R κ Q 374 [some (mj_o (some b)), some (mj_r (3, 0)), some (mj_r (4, 0)), some (.inl (nI i))] [] M := by
  refine mj_aload_n C dL_law_374 rfl ?_
  refine mx_aload_n C dL_law_375 rfl ?_
  refine mj_iload_n C dL_law_376 rfl ?_
  refine mj_iconst (v := 1) C dL_law_377 (by decide) ?_
  refine mj_iadd C dL_law_378 ?_
  refine mj_nm (a := nI (i + 1)) (nI_add i 1) ?_
  refine mx_sld C hX (by omega) hn dL_law_379 ?_
  refine mj_callV1 (av := [.inl (xs (i + 1))]) C lM_L_49 lV_X10_tick hT0.2.2.2.2 ⟨_, rfl, rfl⟩ rfl (C_X10_tick hT0 h1) (mj_fitL hroom rfl rfl) rfl (Nat.le_of_ble_eq_true rfl) dL_law_380 (fun _ => ?_)
  refine mj_aload_n C dL_law_383 rfl ?_
  refine mx_aload_n C dL_law_384 rfl ?_
  refine mj_iload_n C dL_law_385 rfl ?_
  refine mj_iconst (v := 1) C dL_law_386 (by decide) ?_
  refine mj_iadd C dL_law_387 ?_
  refine mj_nm (a := nI (i + 1)) (nI_add i 1) ?_
  refine mx_sld C hX (by omega) hn dL_law_388 ?_
  refine mj_callV1 (av := [.inl (xs (i + 1))]) C lM_L_52 lV_X11_tick (sM0 hM0) ⟨_, rfl, rfl⟩ rfl (mj_S1_self (M := M1) (β := 4) (C_X11_tick (M := M1) (m := M1 4) hM0 h2)) (mj_fitL hroom rfl rfl) rfl (Nat.le_of_ble_eq_true rfl) dL_law_389 (fun _ => ?_)
  exact mj_icmp_eq (tgt := 1179) C dL_law_392 (by decide) (fun _ => kk) (fun c => absurd rfl c)
set_option maxRecDepth 20000 in
theorem LC_drop {κ : mj_K} {Q : State → Prop} {M M1 : mj_M} {m2 : mj_m} {r : Int32} {b n i : Nat} {xs : Nat → Int32} (C : mj_C κ cL_law 4 RL) (hT0 : mj_isT (mj_g κ)) (hM0 : mj_isM (mj_g κ) 4) (hroom : mj_room κ = room_1) (hX : mj_X κ b n xs) (hi : i + 6 ≤ n) (hn : n ≤ 3072) (h1 : f_X10_drop (lb (xs (i + 1))) (xs (i + 2)) M = some (r, M1)) (h2 : f_X11_drop (lb (xs (i + 1))) (xs (i + 2)) (M1 4) = some (r, m2)) (kk : mj_R κ Q 1179 [some (mj_o (some b)), some (mj_r (3, 0)), some (mj_r (4, 0)), some (.inl (nI i))] [] (va_up M1 4 m2)) : mj_R κ Q 397 [some (mj_o (some b)), some (mj_r (3, 0)), some (mj_r (4, 0)), some (.inl (nI i))] [] M := by
  refine mj_aload_n C dL_law_397 rfl ?_
  refine mx_aload_n C dL_law_398 rfl ?_
  refine mj_iload_n C dL_law_399 rfl ?_
  refine mj_iconst (v := 1) C dL_law_400 (by decide) ?_
  refine mj_iadd C dL_law_401 ?_
  refine mj_nm (a := nI (i + 1)) (nI_add i 1) ?_
  refine mx_sld C hX (by omega) hn dL_law_402 ?_
  refine (fun (K : mj_R κ Q 411 [some (mj_o (some b)), some (mj_r (3, 0)), some (mj_r (4, 0)), some (.inl (nI i))] [.inl (lb (xs (i + 1))), mj_r (3, 0)] M) => ?_) ?_
  · refine mj_if_eq (tgt := 410) C dL_law_403 (by decide) (fun cb => ?_) (fun cb => ?_)
    · refine mj_iconst (v := 0) C dL_law_410 (by decide) ?_
      exact mj_Rc K (by unfold lb; rw [if_pos cb]) rfl
    · refine mj_iconst (v := 1) C dL_law_406 (by decide) ?_
      refine mj_goto (tgt := 411) C dL_law_407 (by decide) ?_
      exact mj_Rc K (by unfold lb; rw [if_neg cb]) rfl
  refine mx_aload_n C dL_law_411 rfl ?_
  refine mj_iload_n C dL_law_412 rfl ?_
  refine mj_iconst (v := 2) C dL_law_413 (by decide) ?_
  refine mj_iadd C dL_law_414 ?_
  refine mj_nm (a := nI (i + 2)) (nI_add i 2) ?_
  refine mx_sld C hX (by omega) hn dL_law_415 ?_
  refine mj_callV1 (av := [.inl (lb (xs (i + 1))), .inl (xs (i + 2))]) C lM_L_53 lV_X10_drop hT0.2.2.2.2 ⟨_, rfl, rfl⟩ rfl (C_X10_drop hT0 h1) (mj_fitL hroom rfl rfl) rfl (Nat.le_of_ble_eq_true rfl) dL_law_416 (fun _ => ?_)
  refine mj_aload_n C dL_law_419 rfl ?_
  refine mx_aload_n C dL_law_420 rfl ?_
  refine mj_iload_n C dL_law_421 rfl ?_
  refine mj_iconst (v := 1) C dL_law_422 (by decide) ?_
  refine mj_iadd C dL_law_423 ?_
  refine mj_nm (a := nI (i + 1)) (nI_add i 1) ?_
  refine mx_sld C hX (by omega) hn dL_law_424 ?_
  refine (fun (K : mj_R κ Q 433 [some (mj_o (some b)), some (mj_r (3, 0)), some (mj_r (4, 0)), some (.inl (nI i))] [.inl (lb (xs (i + 1))), mj_r (4, 0), .inl r] M1) => ?_) ?_
  · refine mj_if_eq (tgt := 432) C dL_law_425 (by decide) (fun cb => ?_) (fun cb => ?_)
    · refine mj_iconst (v := 0) C dL_law_432 (by decide) ?_
      exact mj_Rc K (by unfold lb; rw [if_pos cb]) rfl
    · refine mj_iconst (v := 1) C dL_law_428 (by decide) ?_
      refine mj_goto (tgt := 433) C dL_law_429 (by decide) ?_
      exact mj_Rc K (by unfold lb; rw [if_neg cb]) rfl
  refine mx_aload_n C dL_law_433 rfl ?_
  refine mj_iload_n C dL_law_434 rfl ?_
  refine mj_iconst (v := 2) C dL_law_435 (by decide) ?_
  refine mj_iadd C dL_law_436 ?_
  refine mj_nm (a := nI (i + 2)) (nI_add i 2) ?_
  refine mx_sld C hX (by omega) hn dL_law_437 ?_
  refine mj_callV1 (av := [.inl (lb (xs (i + 1))), .inl (xs (i + 2))]) C lM_L_57 lV_X11_drop (sM0 hM0) ⟨_, rfl, rfl⟩ rfl (mj_S1_self (M := M1) (β := 4) (C_X11_drop (M := M1) (m := M1 4) hM0 h2)) (mj_fitL hroom rfl rfl) rfl (Nat.le_of_ble_eq_true rfl) dL_law_438 (fun _ => ?_)
  exact mj_icmp_eq (tgt := 1179) C dL_law_441 (by decide) (fun _ => kk) (fun c => absurd rfl c)
set_option maxRecDepth 20000 in
theorem LC_spoil {κ : mj_K} {Q : State → Prop} {M M1 : mj_M} {m2 : mj_m} {r : Int32} {b n i : Nat} {xs : Nat → Int32} (C : mj_C κ cL_law 4 RL) (hT0 : mj_isT (mj_g κ)) (hM0 : mj_isM (mj_g κ) 4) (hroom : mj_room κ = room_1) (hX : mj_X κ b n xs) (hi : i + 6 ≤ n) (hn : n ≤ 3072) (h1 : f_X10_spoil (lb (xs (i + 1))) (xs (i + 2)) (xs (i + 3)) (xs (i + 4)) M = some (r, M1)) (h2 : f_X11_spoil (lb (xs (i + 1))) (xs (i + 2)) (xs (i + 3)) (xs (i + 4)) (M1 4) = some (r, m2)) (kk : mj_R κ Q 1179 [some (mj_o (some b)), some (mj_r (3, 0)), some (mj_r (4, 0)), some (.inl (nI i))] [] (va_up M1 4 m2)) : mj_R κ Q 446 [some (mj_o (some b)), some (mj_r (3, 0)), some (mj_r (4, 0)), some (.inl (nI i))] [] M := by
  refine mj_aload_n C dL_law_446 rfl ?_
  refine mx_aload_n C dL_law_447 rfl ?_
  refine mj_iload_n C dL_law_448 rfl ?_
  refine mj_iconst (v := 1) C dL_law_449 (by decide) ?_
  refine mj_iadd C dL_law_450 ?_
  refine mj_nm (a := nI (i + 1)) (nI_add i 1) ?_
  refine mx_sld C hX (by omega) hn dL_law_451 ?_
  refine (fun (K : mj_R κ Q 460 [some (mj_o (some b)), some (mj_r (3, 0)), some (mj_r (4, 0)), some (.inl (nI i))] [.inl (lb (xs (i + 1))), mj_r (3, 0)] M) => ?_) ?_
  · refine mj_if_eq (tgt := 459) C dL_law_452 (by decide) (fun cb => ?_) (fun cb => ?_)
    · refine mj_iconst (v := 0) C dL_law_459 (by decide) ?_
      exact mj_Rc K (by unfold lb; rw [if_pos cb]) rfl
    · refine mj_iconst (v := 1) C dL_law_455 (by decide) ?_
      refine mj_goto (tgt := 460) C dL_law_456 (by decide) ?_
      exact mj_Rc K (by unfold lb; rw [if_neg cb]) rfl
  refine mx_aload_n C dL_law_460 rfl ?_
  refine mj_iload_n C dL_law_461 rfl ?_
  refine mj_iconst (v := 2) C dL_law_462 (by decide) ?_
  refine mj_iadd C dL_law_463 ?_
  refine mj_nm (a := nI (i + 2)) (nI_add i 2) ?_
  refine mx_sld C hX (by omega) hn dL_law_464 ?_
  refine mx_aload_n C dL_law_465 rfl ?_
  refine mj_iload_n C dL_law_466 rfl ?_
  refine mj_iconst (v := 3) C dL_law_467 (by decide) ?_
  refine mj_iadd C dL_law_468 ?_
  refine mj_nm (a := nI (i + 3)) (nI_add i 3) ?_
  refine mx_sld C hX (by omega) hn dL_law_469 ?_
  refine mx_aload_n C dL_law_470 rfl ?_
  refine mj_iload_n C dL_law_471 rfl ?_
  refine mj_iconst (v := 4) C dL_law_472 (by decide) ?_
  refine mj_iadd C dL_law_473 ?_
  refine mj_nm (a := nI (i + 4)) (nI_add i 4) ?_
  refine mx_sld C hX (by omega) hn dL_law_474 ?_
  refine mj_callV1 (av := [.inl (lb (xs (i + 1))), .inl (xs (i + 2)), .inl (xs (i + 3)), .inl (xs (i + 4))]) C lM_L_58 lV_X10_spoil hT0.2.2.2.2 ⟨_, rfl, rfl⟩ rfl (C_X10_spoil hT0 h1) (mj_fitL hroom rfl rfl) rfl (Nat.le_of_ble_eq_true rfl) dL_law_475 (fun _ => ?_)
  refine mj_aload_n C dL_law_478 rfl ?_
  refine mx_aload_n C dL_law_479 rfl ?_
  refine mj_iload_n C dL_law_480 rfl ?_
  refine mj_iconst (v := 1) C dL_law_481 (by decide) ?_
  refine mj_iadd C dL_law_482 ?_
  refine mj_nm (a := nI (i + 1)) (nI_add i 1) ?_
  refine mx_sld C hX (by omega) hn dL_law_483 ?_
  refine (fun (K : mj_R κ Q 492 [some (mj_o (some b)), some (mj_r (3, 0)), some (mj_r (4, 0)), some (.inl (nI i))] [.inl (lb (xs (i + 1))), mj_r (4, 0), .inl r] M1) => ?_) ?_
  · refine mj_if_eq (tgt := 491) C dL_law_484 (by decide) (fun cb => ?_) (fun cb => ?_)
    · refine mj_iconst (v := 0) C dL_law_491 (by decide) ?_
      exact mj_Rc K (by unfold lb; rw [if_pos cb]) rfl
    · refine mj_iconst (v := 1) C dL_law_487 (by decide) ?_
      refine mj_goto (tgt := 492) C dL_law_488 (by decide) ?_
      exact mj_Rc K (by unfold lb; rw [if_neg cb]) rfl
  refine mx_aload_n C dL_law_492 rfl ?_
  refine mj_iload_n C dL_law_493 rfl ?_
  refine mj_iconst (v := 2) C dL_law_494 (by decide) ?_
  refine mj_iadd C dL_law_495 ?_
  refine mj_nm (a := nI (i + 2)) (nI_add i 2) ?_
  refine mx_sld C hX (by omega) hn dL_law_496 ?_
  refine mx_aload_n C dL_law_497 rfl ?_
  refine mj_iload_n C dL_law_498 rfl ?_
  refine mj_iconst (v := 3) C dL_law_499 (by decide) ?_
  refine mj_iadd C dL_law_500 ?_
  refine mj_nm (a := nI (i + 3)) (nI_add i 3) ?_
  refine mx_sld C hX (by omega) hn dL_law_501 ?_
  refine mx_aload_n C dL_law_502 rfl ?_
  refine mj_iload_n C dL_law_503 rfl ?_
  refine mj_iconst (v := 4) C dL_law_504 (by decide) ?_
  refine mj_iadd C dL_law_505 ?_
  refine mj_nm (a := nI (i + 4)) (nI_add i 4) ?_
  refine mx_sld C hX (by omega) hn dL_law_506 ?_
  refine mj_callV1 (av := [.inl (lb (xs (i + 1))), .inl (xs (i + 2)), .inl (xs (i + 3)), .inl (xs (i + 4))]) C lM_L_62 lV_X11_spoil (sM0 hM0) ⟨_, rfl, rfl⟩ rfl (mj_S1_self (M := M1) (β := 4) (C_X11_spoil (M := M1) (m := M1 4) hM0 h2)) (mj_fitL hroom rfl rfl) rfl (Nat.le_of_ble_eq_true rfl) dL_law_507 (fun _ => ?_)
  exact mj_icmp_eq (tgt := 1179) C dL_law_510 (by decide) (fun _ => kk) (fun c => absurd rfl c)
set_option maxRecDepth 20000 in
theorem LC_feed {κ : mj_K} {Q : State → Prop} {M M1 : mj_M} {m2 : mj_m} {r : Int32} {b n i : Nat} {xs : Nat → Int32} (C : mj_C κ cL_law 4 RL) (hT0 : mj_isT (mj_g κ)) (hM0 : mj_isM (mj_g κ) 4) (hroom : mj_room κ = room_1) (hX : mj_X κ b n xs) (hi : i + 6 ≤ n) (hn : n ≤ 3072) (h1 : f_X10_feed (xs (i + 1)) (xs (i + 2)) (xs (i + 3)) (xs (i + 4)) (xs (i + 5)) M = some (r, M1)) (h2 : f_X11_feed (xs (i + 1)) (xs (i + 2)) (xs (i + 3)) (xs (i + 4)) (xs (i + 5)) (M1 4) = some (r, m2)) (kk : mj_R κ Q 1179 [some (mj_o (some b)), some (mj_r (3, 0)), some (mj_r (4, 0)), some (.inl (nI i))] [] (va_up M1 4 m2)) : mj_R κ Q 515 [some (mj_o (some b)), some (mj_r (3, 0)), some (mj_r (4, 0)), some (.inl (nI i))] [] M := by
  refine mj_aload_n C dL_law_515 rfl ?_
  refine mx_aload_n C dL_law_516 rfl ?_
  refine mj_iload_n C dL_law_517 rfl ?_
  refine mj_iconst (v := 1) C dL_law_518 (by decide) ?_
  refine mj_iadd C dL_law_519 ?_
  refine mj_nm (a := nI (i + 1)) (nI_add i 1) ?_
  refine mx_sld C hX (by omega) hn dL_law_520 ?_
  refine mx_aload_n C dL_law_521 rfl ?_
  refine mj_iload_n C dL_law_522 rfl ?_
  refine mj_iconst (v := 2) C dL_law_523 (by decide) ?_
  refine mj_iadd C dL_law_524 ?_
  refine mj_nm (a := nI (i + 2)) (nI_add i 2) ?_
  refine mx_sld C hX (by omega) hn dL_law_525 ?_
  refine mx_aload_n C dL_law_526 rfl ?_
  refine mj_iload_n C dL_law_527 rfl ?_
  refine mj_iconst (v := 3) C dL_law_528 (by decide) ?_
  refine mj_iadd C dL_law_529 ?_
  refine mj_nm (a := nI (i + 3)) (nI_add i 3) ?_
  refine mx_sld C hX (by omega) hn dL_law_530 ?_
  refine mx_aload_n C dL_law_531 rfl ?_
  refine mj_iload_n C dL_law_532 rfl ?_
  refine mj_iconst (v := 4) C dL_law_533 (by decide) ?_
  refine mj_iadd C dL_law_534 ?_
  refine mj_nm (a := nI (i + 4)) (nI_add i 4) ?_
  refine mx_sld C hX (by omega) hn dL_law_535 ?_
  refine mx_aload_n C dL_law_536 rfl ?_
  refine mj_iload_n C dL_law_537 rfl ?_
  refine mj_iconst (v := 5) C dL_law_538 (by decide) ?_
  refine mj_iadd C dL_law_539 ?_
  refine mj_nm (a := nI (i + 5)) (nI_add i 5) ?_
  refine mx_sld C hX (by omega) hn dL_law_540 ?_
  refine mj_callV1 (av := [.inl (xs (i + 1)), .inl (xs (i + 2)), .inl (xs (i + 3)), .inl (xs (i + 4)), .inl (xs (i + 5))]) C lM_L_63 lV_X10_feed hT0.2.2.2.2 ⟨_, rfl, rfl⟩ rfl (C_X10_feed hT0 h1) (mj_fitL hroom rfl rfl) rfl (Nat.le_of_ble_eq_true rfl) dL_law_541 (fun _ => ?_)
  refine mj_aload_n C dL_law_544 rfl ?_
  refine mx_aload_n C dL_law_545 rfl ?_
  refine mj_iload_n C dL_law_546 rfl ?_
  refine mj_iconst (v := 1) C dL_law_547 (by decide) ?_
  refine mj_iadd C dL_law_548 ?_
  refine mj_nm (a := nI (i + 1)) (nI_add i 1) ?_
  refine mx_sld C hX (by omega) hn dL_law_549 ?_
  refine mx_aload_n C dL_law_550 rfl ?_
  refine mj_iload_n C dL_law_551 rfl ?_
  refine mj_iconst (v := 2) C dL_law_552 (by decide) ?_
  refine mj_iadd C dL_law_553 ?_
  refine mj_nm (a := nI (i + 2)) (nI_add i 2) ?_
  refine mx_sld C hX (by omega) hn dL_law_554 ?_
  refine mx_aload_n C dL_law_555 rfl ?_
  refine mj_iload_n C dL_law_556 rfl ?_
  refine mj_iconst (v := 3) C dL_law_557 (by decide) ?_
  refine mj_iadd C dL_law_558 ?_
  refine mj_nm (a := nI (i + 3)) (nI_add i 3) ?_
  refine mx_sld C hX (by omega) hn dL_law_559 ?_
  refine mx_aload_n C dL_law_560 rfl ?_
  refine mj_iload_n C dL_law_561 rfl ?_
  refine mj_iconst (v := 4) C dL_law_562 (by decide) ?_
  refine mj_iadd C dL_law_563 ?_
  refine mj_nm (a := nI (i + 4)) (nI_add i 4) ?_
  refine mx_sld C hX (by omega) hn dL_law_564 ?_
  refine mx_aload_n C dL_law_565 rfl ?_
  refine mj_iload_n C dL_law_566 rfl ?_
  refine mj_iconst (v := 5) C dL_law_567 (by decide) ?_
  refine mj_iadd C dL_law_568 ?_
  refine mj_nm (a := nI (i + 5)) (nI_add i 5) ?_
  refine mx_sld C hX (by omega) hn dL_law_569 ?_
  refine mj_callV1 (av := [.inl (xs (i + 1)), .inl (xs (i + 2)), .inl (xs (i + 3)), .inl (xs (i + 4)), .inl (xs (i + 5))]) C lM_L_67 lV_X11_feed (sM0 hM0) ⟨_, rfl, rfl⟩ rfl (mj_S1_self (M := M1) (β := 4) (C_X11_feed (M := M1) (m := M1 4) hM0 h2)) (mj_fitL hroom rfl rfl) rfl (Nat.le_of_ble_eq_true rfl) dL_law_570 (fun _ => ?_)
  exact mj_icmp_eq (tgt := 1179) C dL_law_573 (by decide) (fun _ => kk) (fun c => absurd rfl c)
set_option maxRecDepth 20000 in
theorem LC_end {κ : mj_K} {Q : State → Prop} {M M1 : mj_M} {m2 : mj_m} {r : Int32} {b n i : Nat} {xs : Nat → Int32} (C : mj_C κ cL_law 4 RL) (hT0 : mj_isT (mj_g κ)) (hM0 : mj_isM (mj_g κ) 4) (hroom : mj_room κ = room_1) (hX : mj_X κ b n xs) (hi : i + 6 ≤ n) (hn : n ≤ 3072) (h1 : f_X10_end (xs (i + 1)) M = (r, M1)) (h2 : f_X11_end (xs (i + 1)) (M1 4) = (r, m2)) (kk : mj_R κ Q 1179 [some (mj_o (some b)), some (mj_r (3, 0)), some (mj_r (4, 0)), some (.inl (nI i))] [] (va_up M1 4 m2)) : mj_R κ Q 578 [some (mj_o (some b)), some (mj_r (3, 0)), some (mj_r (4, 0)), some (.inl (nI i))] [] M := by
  refine mj_aload_n C dL_law_578 rfl ?_
  refine mx_aload_n C dL_law_579 rfl ?_
  refine mj_iload_n C dL_law_580 rfl ?_
  refine mj_iconst (v := 1) C dL_law_581 (by decide) ?_
  refine mj_iadd C dL_law_582 ?_
  refine mj_nm (a := nI (i + 1)) (nI_add i 1) ?_
  refine mx_sld C hX (by omega) hn dL_law_583 ?_
  refine mj_callV1 (av := [.inl (xs (i + 1))]) C lM_L_68 lV_X10_end hT0.2.2.2.2 ⟨_, rfl, rfl⟩ rfl (C_X10_end hT0 h1) (mj_fitL hroom rfl rfl) rfl (Nat.le_of_ble_eq_true rfl) dL_law_584 (fun _ => ?_)
  refine mj_aload_n C dL_law_587 rfl ?_
  refine mx_aload_n C dL_law_588 rfl ?_
  refine mj_iload_n C dL_law_589 rfl ?_
  refine mj_iconst (v := 1) C dL_law_590 (by decide) ?_
  refine mj_iadd C dL_law_591 ?_
  refine mj_nm (a := nI (i + 1)) (nI_add i 1) ?_
  refine mx_sld C hX (by omega) hn dL_law_592 ?_
  refine mj_callV1 (av := [.inl (xs (i + 1))]) C lM_L_71 lV_X11_end (sM0 hM0) ⟨_, rfl, rfl⟩ rfl (mj_S1_self (M := M1) (β := 4) (C_X11_end (M := M1) (m := M1 4) hM0 h2)) (mj_fitL hroom rfl rfl) rfl (Nat.le_of_ble_eq_true rfl) dL_law_593 (fun _ => ?_)
  exact mj_icmp_eq (tgt := 1179) C dL_law_596 (by decide) (fun _ => kk) (fun c => absurd rfl c)
set_option maxRecDepth 20000 in
theorem LC_plan {κ : mj_K} {Q : State → Prop} {M M1 : mj_M} {m2 : mj_m} {r : Int32} {b n i : Nat} {xs : Nat → Int32} (C : mj_C κ cL_law 4 RL) (hT0 : mj_isT (mj_g κ)) (hM0 : mj_isM (mj_g κ) 4) (hroom : mj_room κ = room_1) (hX : mj_X κ b n xs) (hi : i + 6 ≤ n) (hn : n ≤ 3072) (h1 : f_X10_plan M = some (r, M1)) (h2 : f_X11_plan (M1 4) = some (r, m2)) (kk : mj_R κ Q 1179 [some (mj_o (some b)), some (mj_r (3, 0)), some (mj_r (4, 0)), some (.inl (nI i))] [] (va_up M1 4 m2)) : mj_R κ Q 601 [some (mj_o (some b)), some (mj_r (3, 0)), some (mj_r (4, 0)), some (.inl (nI i))] [] M := by
  refine mj_aload_n C dL_law_601 rfl ?_
  refine mj_callV1 (av := []) C lM_L_72 lV_X10_plan hT0.2.2.2.2 ⟨_, rfl, rfl⟩ rfl (C_X10_plan hT0 h1) (mj_fitL hroom rfl rfl) rfl (Nat.le_of_ble_eq_true rfl) dL_law_602 (fun _ => ?_)
  refine mj_aload_n C dL_law_605 rfl ?_
  refine mj_callV1 (av := []) C lM_L_75 lV_X11_plan (sM0 hM0) ⟨_, rfl, rfl⟩ rfl (mj_S1_self (M := M1) (β := 4) (C_X11_plan (M := M1) (m := M1 4) hM0 h2)) (mj_fitL hroom rfl rfl) rfl (Nat.le_of_ble_eq_true rfl) dL_law_606 (fun _ => ?_)
  exact mj_icmp_eq (tgt := 1179) C dL_law_609 (by decide) (fun _ => kk) (fun c => absurd rfl c)
set_option maxRecDepth 20000 in
theorem LC_fault {κ : mj_K} {Q : State → Prop} {M M1 : mj_M} {m2 : mj_m} {r : Int32} {b n i : Nat} {xs : Nat → Int32} (C : mj_C κ cL_law 4 RL) (hT0 : mj_isT (mj_g κ)) (hM0 : mj_isM (mj_g κ) 4) (hroom : mj_room κ = room_1) (hX : mj_X κ b n xs) (hi : i + 6 ≤ n) (hn : n ≤ 3072) (h1 : f_X10_fault (xs (i + 1)) M = r) (h2 : f_X11_fault (xs (i + 1)) (M 4) = (r, m2)) (kk : mj_R κ Q 1179 [some (mj_o (some b)), some (mj_r (3, 0)), some (mj_r (4, 0)), some (.inl (nI i))] [] (va_up M 4 m2)) : mj_R κ Q 614 [some (mj_o (some b)), some (mj_r (3, 0)), some (mj_r (4, 0)), some (.inl (nI i))] [] M := by
  refine mj_aload_n C dL_law_614 rfl ?_
  refine mx_aload_n C dL_law_615 rfl ?_
  refine mj_iload_n C dL_law_616 rfl ?_
  refine mj_iconst (v := 1) C dL_law_617 (by decide) ?_
  refine mj_iadd C dL_law_618 ?_
  refine mj_nm (a := nI (i + 1)) (nI_add i 1) ?_
  refine mx_sld C hX (by omega) hn dL_law_619 ?_
  refine mj_callV1 (av := [.inl (xs (i + 1))]) C lM_L_76 lV_X10_fault hT0.2.2.2.2 ⟨_, rfl, rfl⟩ rfl (C_X10_fault hT0 h1) (mj_fitL hroom rfl rfl) rfl (Nat.le_of_ble_eq_true rfl) dL_law_620 (fun _ => ?_)
  refine mj_aload_n C dL_law_623 rfl ?_
  refine mx_aload_n C dL_law_624 rfl ?_
  refine mj_iload_n C dL_law_625 rfl ?_
  refine mj_iconst (v := 1) C dL_law_626 (by decide) ?_
  refine mj_iadd C dL_law_627 ?_
  refine mj_nm (a := nI (i + 1)) (nI_add i 1) ?_
  refine mx_sld C hX (by omega) hn dL_law_628 ?_
  refine mj_callV1 (av := [.inl (xs (i + 1))]) C lM_L_79 lV_X11_fault (sM0 hM0) ⟨_, rfl, rfl⟩ rfl (mj_S1_self (M := M) (β := 4) (C_X11_fault (M := M) (m := M 4) hM0 h2)) (mj_fitL hroom rfl rfl) rfl (Nat.le_of_ble_eq_true rfl) dL_law_629 (fun _ => ?_)
  exact mj_icmp_eq (tgt := 1179) C dL_law_632 (by decide) (fun _ => kk) (fun c => absurd rfl c)
set_option maxRecDepth 20000 in
theorem LC_run {κ : mj_K} {Q : State → Prop} {M M1 : mj_M} {m2 : mj_m} {r : Int32} {b n i : Nat} {xs : Nat → Int32} (C : mj_C κ cL_law 4 RL) (hT0 : mj_isT (mj_g κ)) (hM0 : mj_isM (mj_g κ) 4) (hroom : mj_room κ = room_1) (hX : mj_X κ b n xs) (hi : i + 6 ≤ n) (hn : n ≤ 3072) (h1 : f_X10_run (xs (i + 1)) M = some (r, M1)) (h2 : f_X11_run (xs (i + 1)) (M1 4) = some (r, m2)) (kk : mj_R κ Q 1179 [some (mj_o (some b)), some (mj_r (3, 0)), some (mj_r (4, 0)), some (.inl (nI i))] [] (va_up M1 4 m2)) : mj_R κ Q 637 [some (mj_o (some b)), some (mj_r (3, 0)), some (mj_r (4, 0)), some (.inl (nI i))] [] M := by
  refine mj_aload_n C dL_law_637 rfl ?_
  refine mx_aload_n C dL_law_638 rfl ?_
  refine mj_iload_n C dL_law_639 rfl ?_
  refine mj_iconst (v := 1) C dL_law_640 (by decide) ?_
  refine mj_iadd C dL_law_641 ?_
  refine mj_nm (a := nI (i + 1)) (nI_add i 1) ?_
  refine mx_sld C hX (by omega) hn dL_law_642 ?_
  refine mj_callV1 (av := [.inl (xs (i + 1))]) C lM_L_80 lV_X10_run hT0.2.2.2.2 ⟨_, rfl, rfl⟩ rfl (C_X10_run hT0 h1) (mj_fitL hroom rfl rfl) rfl (Nat.le_of_ble_eq_true rfl) dL_law_643 (fun _ => ?_)
  refine mj_aload_n C dL_law_646 rfl ?_
  refine mx_aload_n C dL_law_647 rfl ?_
  refine mj_iload_n C dL_law_648 rfl ?_
  refine mj_iconst (v := 1) C dL_law_649 (by decide) ?_
  refine mj_iadd C dL_law_650 ?_
  refine mj_nm (a := nI (i + 1)) (nI_add i 1) ?_
  refine mx_sld C hX (by omega) hn dL_law_651 ?_
  refine mj_callV1 (av := [.inl (xs (i + 1))]) C lM_L_83 lV_X11_run (sM0 hM0) ⟨_, rfl, rfl⟩ rfl (mj_S1_self (M := M1) (β := 4) (C_X11_run (M := M1) (m := M1 4) hM0 h2)) (mj_fitL hroom rfl rfl) rfl (Nat.le_of_ble_eq_true rfl) dL_law_652 (fun _ => ?_)
  exact mj_icmp_eq (tgt := 1179) C dL_law_655 (by decide) (fun _ => kk) (fun c => absurd rfl c)
set_option maxRecDepth 20000 in
theorem LC_sender {κ : mj_K} {Q : State → Prop} {M M1 : mj_M} {m2 : mj_m} {r : Int32} {b n i : Nat} {xs : Nat → Int32} (C : mj_C κ cL_law 4 RL) (hT0 : mj_isT (mj_g κ)) (hM0 : mj_isM (mj_g κ) 4) (hroom : mj_room κ = room_1) (hX : mj_X κ b n xs) (hi : i + 6 ≤ n) (hn : n ≤ 3072) (h1 : f_X10_sender (xs (i + 1)) M = some r) (h2 : f_X11_sender (xs (i + 1)) (M 4) = some (r, m2)) (kk : mj_R κ Q 1179 [some (mj_o (some b)), some (mj_r (3, 0)), some (mj_r (4, 0)), some (.inl (nI i))] [] (va_up M 4 m2)) : mj_R κ Q 660 [some (mj_o (some b)), some (mj_r (3, 0)), some (mj_r (4, 0)), some (.inl (nI i))] [] M := by
  refine mj_aload_n C dL_law_660 rfl ?_
  refine mx_aload_n C dL_law_661 rfl ?_
  refine mj_iload_n C dL_law_662 rfl ?_
  refine mj_iconst (v := 1) C dL_law_663 (by decide) ?_
  refine mj_iadd C dL_law_664 ?_
  refine mj_nm (a := nI (i + 1)) (nI_add i 1) ?_
  refine mx_sld C hX (by omega) hn dL_law_665 ?_
  refine mj_callV1 (av := [.inl (xs (i + 1))]) C lM_L_84 lV_X10_sender hT0.2.2.2.2 ⟨_, rfl, rfl⟩ rfl (C_X10_sender hT0 h1) (mj_fitL hroom rfl rfl) rfl (Nat.le_of_ble_eq_true rfl) dL_law_666 (fun _ => ?_)
  refine mj_aload_n C dL_law_669 rfl ?_
  refine mx_aload_n C dL_law_670 rfl ?_
  refine mj_iload_n C dL_law_671 rfl ?_
  refine mj_iconst (v := 1) C dL_law_672 (by decide) ?_
  refine mj_iadd C dL_law_673 ?_
  refine mj_nm (a := nI (i + 1)) (nI_add i 1) ?_
  refine mx_sld C hX (by omega) hn dL_law_674 ?_
  refine mj_callV1 (av := [.inl (xs (i + 1))]) C lM_L_87 lV_X11_sender (sM0 hM0) ⟨_, rfl, rfl⟩ rfl (mj_S1_self (M := M) (β := 4) (C_X11_sender (M := M) (m := M 4) hM0 h2)) (mj_fitL hroom rfl rfl) rfl (Nat.le_of_ble_eq_true rfl) dL_law_675 (fun _ => ?_)
  exact mj_icmp_eq (tgt := 1179) C dL_law_678 (by decide) (fun _ => kk) (fun c => absurd rfl c)
set_option maxRecDepth 20000 in
theorem LC_receiver {κ : mj_K} {Q : State → Prop} {M M1 : mj_M} {m2 : mj_m} {r : Int32} {b n i : Nat} {xs : Nat → Int32} (C : mj_C κ cL_law 4 RL) (hT0 : mj_isT (mj_g κ)) (hM0 : mj_isM (mj_g κ) 4) (hroom : mj_room κ = room_1) (hX : mj_X κ b n xs) (hi : i + 6 ≤ n) (hn : n ≤ 3072) (h1 : f_X10_receiver (xs (i + 1)) M = some r) (h2 : f_X11_receiver (xs (i + 1)) (M 4) = some (r, m2)) (kk : mj_R κ Q 1179 [some (mj_o (some b)), some (mj_r (3, 0)), some (mj_r (4, 0)), some (.inl (nI i))] [] (va_up M 4 m2)) : mj_R κ Q 683 [some (mj_o (some b)), some (mj_r (3, 0)), some (mj_r (4, 0)), some (.inl (nI i))] [] M := by
  refine mj_aload_n C dL_law_683 rfl ?_
  refine mx_aload_n C dL_law_684 rfl ?_
  refine mj_iload_n C dL_law_685 rfl ?_
  refine mj_iconst (v := 1) C dL_law_686 (by decide) ?_
  refine mj_iadd C dL_law_687 ?_
  refine mj_nm (a := nI (i + 1)) (nI_add i 1) ?_
  refine mx_sld C hX (by omega) hn dL_law_688 ?_
  refine mj_callV1 (av := [.inl (xs (i + 1))]) C lM_L_88 lV_X10_receiver hT0.2.2.2.2 ⟨_, rfl, rfl⟩ rfl (C_X10_receiver hT0 h1) (mj_fitL hroom rfl rfl) rfl (Nat.le_of_ble_eq_true rfl) dL_law_689 (fun _ => ?_)
  refine mj_aload_n C dL_law_692 rfl ?_
  refine mx_aload_n C dL_law_693 rfl ?_
  refine mj_iload_n C dL_law_694 rfl ?_
  refine mj_iconst (v := 1) C dL_law_695 (by decide) ?_
  refine mj_iadd C dL_law_696 ?_
  refine mj_nm (a := nI (i + 1)) (nI_add i 1) ?_
  refine mx_sld C hX (by omega) hn dL_law_697 ?_
  refine mj_callV1 (av := [.inl (xs (i + 1))]) C lM_L_91 lV_X11_receiver (sM0 hM0) ⟨_, rfl, rfl⟩ rfl (mj_S1_self (M := M) (β := 4) (C_X11_receiver (M := M) (m := M 4) hM0 h2)) (mj_fitL hroom rfl rfl) rfl (Nat.le_of_ble_eq_true rfl) dL_law_698 (fun _ => ?_)
  exact mj_icmp_eq (tgt := 1179) C dL_law_701 (by decide) (fun _ => kk) (fun c => absurd rfl c)
set_option maxRecDepth 20000 in
theorem LC_way {κ : mj_K} {Q : State → Prop} {M M1 : mj_M} {m2 : mj_m} {r : Int32} {b n i : Nat} {xs : Nat → Int32} (C : mj_C κ cL_law 4 RL) (hT0 : mj_isT (mj_g κ)) (hM0 : mj_isM (mj_g κ) 4) (hroom : mj_room κ = room_1) (hX : mj_X κ b n xs) (hi : i + 6 ≤ n) (hn : n ≤ 3072) (h1 : f_X10_way (lb (xs (i + 1))) (xs (i + 2)) (xs (i + 3)) M = some r) (h2 : f_X11_way (lb (xs (i + 1))) (xs (i + 2)) (xs (i + 3)) (M 4) = some (r, m2)) (kk : mj_R κ Q 1179 [some (mj_o (some b)), some (mj_r (3, 0)), some (mj_r (4, 0)), some (.inl (nI i))] [] (va_up M 4 m2)) : mj_R κ Q 706 [some (mj_o (some b)), some (mj_r (3, 0)), some (mj_r (4, 0)), some (.inl (nI i))] [] M := by
  refine mj_aload_n C dL_law_706 rfl ?_
  refine mx_aload_n C dL_law_707 rfl ?_
  refine mj_iload_n C dL_law_708 rfl ?_
  refine mj_iconst (v := 1) C dL_law_709 (by decide) ?_
  refine mj_iadd C dL_law_710 ?_
  refine mj_nm (a := nI (i + 1)) (nI_add i 1) ?_
  refine mx_sld C hX (by omega) hn dL_law_711 ?_
  refine (fun (K : mj_R κ Q 720 [some (mj_o (some b)), some (mj_r (3, 0)), some (mj_r (4, 0)), some (.inl (nI i))] [.inl (lb (xs (i + 1))), mj_r (3, 0)] M) => ?_) ?_
  · refine mj_if_eq (tgt := 719) C dL_law_712 (by decide) (fun cb => ?_) (fun cb => ?_)
    · refine mj_iconst (v := 0) C dL_law_719 (by decide) ?_
      exact mj_Rc K (by unfold lb; rw [if_pos cb]) rfl
    · refine mj_iconst (v := 1) C dL_law_715 (by decide) ?_
      refine mj_goto (tgt := 720) C dL_law_716 (by decide) ?_
      exact mj_Rc K (by unfold lb; rw [if_neg cb]) rfl
  refine mx_aload_n C dL_law_720 rfl ?_
  refine mj_iload_n C dL_law_721 rfl ?_
  refine mj_iconst (v := 2) C dL_law_722 (by decide) ?_
  refine mj_iadd C dL_law_723 ?_
  refine mj_nm (a := nI (i + 2)) (nI_add i 2) ?_
  refine mx_sld C hX (by omega) hn dL_law_724 ?_
  refine mx_aload_n C dL_law_725 rfl ?_
  refine mj_iload_n C dL_law_726 rfl ?_
  refine mj_iconst (v := 3) C dL_law_727 (by decide) ?_
  refine mj_iadd C dL_law_728 ?_
  refine mj_nm (a := nI (i + 3)) (nI_add i 3) ?_
  refine mx_sld C hX (by omega) hn dL_law_729 ?_
  refine mj_callV1 (av := [.inl (lb (xs (i + 1))), .inl (xs (i + 2)), .inl (xs (i + 3))]) C lM_L_92 lV_X10_way hT0.2.2.2.2 ⟨_, rfl, rfl⟩ rfl (C_X10_way hT0 h1) (mj_fitL hroom rfl rfl) rfl (Nat.le_of_ble_eq_true rfl) dL_law_730 (fun _ => ?_)
  refine mj_aload_n C dL_law_733 rfl ?_
  refine mx_aload_n C dL_law_734 rfl ?_
  refine mj_iload_n C dL_law_735 rfl ?_
  refine mj_iconst (v := 1) C dL_law_736 (by decide) ?_
  refine mj_iadd C dL_law_737 ?_
  refine mj_nm (a := nI (i + 1)) (nI_add i 1) ?_
  refine mx_sld C hX (by omega) hn dL_law_738 ?_
  refine (fun (K : mj_R κ Q 747 [some (mj_o (some b)), some (mj_r (3, 0)), some (mj_r (4, 0)), some (.inl (nI i))] [.inl (lb (xs (i + 1))), mj_r (4, 0), .inl r] M) => ?_) ?_
  · refine mj_if_eq (tgt := 746) C dL_law_739 (by decide) (fun cb => ?_) (fun cb => ?_)
    · refine mj_iconst (v := 0) C dL_law_746 (by decide) ?_
      exact mj_Rc K (by unfold lb; rw [if_pos cb]) rfl
    · refine mj_iconst (v := 1) C dL_law_742 (by decide) ?_
      refine mj_goto (tgt := 747) C dL_law_743 (by decide) ?_
      exact mj_Rc K (by unfold lb; rw [if_neg cb]) rfl
  refine mx_aload_n C dL_law_747 rfl ?_
  refine mj_iload_n C dL_law_748 rfl ?_
  refine mj_iconst (v := 2) C dL_law_749 (by decide) ?_
  refine mj_iadd C dL_law_750 ?_
  refine mj_nm (a := nI (i + 2)) (nI_add i 2) ?_
  refine mx_sld C hX (by omega) hn dL_law_751 ?_
  refine mx_aload_n C dL_law_752 rfl ?_
  refine mj_iload_n C dL_law_753 rfl ?_
  refine mj_iconst (v := 3) C dL_law_754 (by decide) ?_
  refine mj_iadd C dL_law_755 ?_
  refine mj_nm (a := nI (i + 3)) (nI_add i 3) ?_
  refine mx_sld C hX (by omega) hn dL_law_756 ?_
  refine mj_callV1 (av := [.inl (lb (xs (i + 1))), .inl (xs (i + 2)), .inl (xs (i + 3))]) C lM_L_96 lV_X11_way (sM0 hM0) ⟨_, rfl, rfl⟩ rfl (mj_S1_self (M := M) (β := 4) (C_X11_way (M := M) (m := M 4) hM0 h2)) (mj_fitL hroom rfl rfl) rfl (Nat.le_of_ble_eq_true rfl) dL_law_757 (fun _ => ?_)
  exact mj_icmp_eq (tgt := 1179) C dL_law_760 (by decide) (fun _ => kk) (fun c => absurd rfl c)
set_option maxRecDepth 20000 in
theorem LC_alarm {κ : mj_K} {Q : State → Prop} {M M1 : mj_M} {m2 : mj_m} {r : Int32} {b n i : Nat} {xs : Nat → Int32} (C : mj_C κ cL_law 4 RL) (hT0 : mj_isT (mj_g κ)) (hM0 : mj_isM (mj_g κ) 4) (hroom : mj_room κ = room_1) (hX : mj_X κ b n xs) (hi : i + 6 ≤ n) (hn : n ≤ 3072) (h1 : f_X10_alarm (xs (i + 1)) M = some r) (h2 : f_X11_alarm (xs (i + 1)) (M 4) = some (r, m2)) (kk : mj_R κ Q 1179 [some (mj_o (some b)), some (mj_r (3, 0)), some (mj_r (4, 0)), some (.inl (nI i))] [] (va_up M 4 m2)) : mj_R κ Q 765 [some (mj_o (some b)), some (mj_r (3, 0)), some (mj_r (4, 0)), some (.inl (nI i))] [] M := by
  refine mj_aload_n C dL_law_765 rfl ?_
  refine mx_aload_n C dL_law_766 rfl ?_
  refine mj_iload_n C dL_law_767 rfl ?_
  refine mj_iconst (v := 1) C dL_law_768 (by decide) ?_
  refine mj_iadd C dL_law_769 ?_
  refine mj_nm (a := nI (i + 1)) (nI_add i 1) ?_
  refine mx_sld C hX (by omega) hn dL_law_770 ?_
  refine mj_callV1 (av := [.inl (xs (i + 1))]) C lM_L_97 lV_X10_alarm hT0.2.2.2.2 ⟨_, rfl, rfl⟩ rfl (C_X10_alarm hT0 h1) (mj_fitL hroom rfl rfl) rfl (Nat.le_of_ble_eq_true rfl) dL_law_771 (fun _ => ?_)
  refine mj_aload_n C dL_law_774 rfl ?_
  refine mx_aload_n C dL_law_775 rfl ?_
  refine mj_iload_n C dL_law_776 rfl ?_
  refine mj_iconst (v := 1) C dL_law_777 (by decide) ?_
  refine mj_iadd C dL_law_778 ?_
  refine mj_nm (a := nI (i + 1)) (nI_add i 1) ?_
  refine mx_sld C hX (by omega) hn dL_law_779 ?_
  refine mj_callV1 (av := [.inl (xs (i + 1))]) C lM_L_100 lV_X11_alarm (sM0 hM0) ⟨_, rfl, rfl⟩ rfl (mj_S1_self (M := M) (β := 4) (C_X11_alarm (M := M) (m := M 4) hM0 h2)) (mj_fitL hroom rfl rfl) rfl (Nat.le_of_ble_eq_true rfl) dL_law_780 (fun _ => ?_)
  exact mj_icmp_eq (tgt := 1179) C dL_law_783 (by decide) (fun _ => kk) (fun c => absurd rfl c)
set_option maxRecDepth 20000 in
theorem LC_told {κ : mj_K} {Q : State → Prop} {M : mj_M} {m2 : mj_m} {b n i aS aV cap ce sl : Nat} {f : Nat → Int32} {ml : Int32} {l : List Nat} {xs : Nat → Int32} (C : mj_C (mj_ky κ (tx (mj_cI κ) aS aV cap f ml l.length) ce sl) cL_law 4 RL) (hT0 : mj_isT (mj_g κ)) (hM0 : mj_isM (mj_g κ) 4) (hroom : mj_room κ = room_1) (hX : mj_X (mj_ky κ (tx (mj_cI κ) aS aV cap f ml l.length) ce sl) b n xs) (hi : i + 6 ≤ n) (hn : n ≤ 3072) (C0 : mj_C κ cL_law 4 RL) (hX1 : ∀ Y ce sl, mj_X (mj_ky κ Y ce sl) b n xs) (hpa : mj_ad κ (3, 9) = aS) (hce : ce + 10 ≤ 600000) (hsl : sl + 800 ≤ 7302250) (ho : tt_ok (M 0)) (hI : txJ l cap f) (hl : l.length < 40) (h2 : f_X11_told (xs (i + 1)) (xs (i + 2)) (M 4) = some (f_told (xs (i + 1)) (xs (i + 2)) (M 0), m2)) (kk : ∀ (aV cap : Nat) (f : Nat → Int32) (ml : Int32) (l : List Nat), txJ l cap f → l.length < 40 → mj_R (mj_ky κ (tx (mj_cI κ) aS aV cap f ml l.length) (ce + 10) (sl + 800)) Q 1179 [some (mj_o (some b)), some (mj_r (3, 0)), some (mj_r (4, 0)), some (.inl (nI i))] [] (va_up M 4 m2)) : mj_R (mj_ky κ (tx (mj_cI κ) aS aV cap f ml l.length) ce sl) Q 788 [some (mj_o (some b)), some (mj_r (3, 0)), some (mj_r (4, 0)), some (.inl (nI i))] [] M := by
  refine mj_aload_n C dL_law_788 rfl ?_
  refine mx_aload_n C dL_law_789 rfl ?_
  refine mj_iload_n C dL_law_790 rfl ?_
  refine mj_iconst (v := 1) C dL_law_791 (by decide) ?_
  refine mj_iadd C dL_law_792 ?_
  refine mj_nm (a := nI (i + 1)) (nI_add i 1) ?_
  refine mx_sld C hX (by omega) hn dL_law_793 ?_
  refine mx_aload_n C dL_law_794 rfl ?_
  refine mj_iload_n C dL_law_795 rfl ?_
  refine mj_iconst (v := 2) C dL_law_796 (by decide) ?_
  refine mj_iadd C dL_law_797 ?_
  refine mj_nm (a := nI (i + 2)) (nI_add i 2) ?_
  refine mx_sld C hX (by omega) hn dL_law_798 ?_
  refine mx_callVM (av := [.inl (xs (i + 1)), .inl (xs (i + 2))]) (Y0 := []) C0 lM_L_101 lV_X10_told hT0.2.2.2.2 ⟨_, rfl, rfl⟩ rfl (T_told hT0 ho hI hl) hpa rfl ⟨mj_fitL hroom rfl rfl, by rw [hroom]; exact hce, by rw [hroom]; exact hsl⟩ rfl (Nat.le_of_ble_eq_true rfl) dL_law_799 (fun r Y' hp => ?_)
  obtain ⟨rfl, ml1, l1, hl1, aV1, cap1, f1, hI1, rfl⟩ := hp
  have C : mj_C (mj_ky κ (tx (mj_cI κ) aS aV1 cap1 f1 ml1 l1.length) (ce + 10) (sl + 800)) cL_law 4 RL := mx_C C0 (by rw [hroom]; exact hce) (by rw [hroom]; exact hsl)
  have hX := hX1 (tx (mj_cI κ) aS aV1 cap1 f1 ml1 l1.length) (ce + 10) (sl + 800)
  show mj_R (mj_ky κ (tx (mj_cI κ) aS aV1 cap1 f1 ml1 l1.length) (ce + 10) (sl + 800)) Q 802 [some (mj_o (some b)), some (mj_r (3, 0)), some (mj_r (4, 0)), some (.inl (nI i))] [.inl (f_told (xs (i + 1)) (xs (i + 2)) (M 0))] M
  refine mj_aload_n C dL_law_802 rfl ?_
  refine mx_aload_n C dL_law_803 rfl ?_
  refine mj_iload_n C dL_law_804 rfl ?_
  refine mj_iconst (v := 1) C dL_law_805 (by decide) ?_
  refine mj_iadd C dL_law_806 ?_
  refine mj_nm (a := nI (i + 1)) (nI_add i 1) ?_
  refine mx_sld C hX (by omega) hn dL_law_807 ?_
  refine mx_aload_n C dL_law_808 rfl ?_
  refine mj_iload_n C dL_law_809 rfl ?_
  refine mj_iconst (v := 2) C dL_law_810 (by decide) ?_
  refine mj_iadd C dL_law_811 ?_
  refine mj_nm (a := nI (i + 2)) (nI_add i 2) ?_
  refine mx_sld C hX (by omega) hn dL_law_812 ?_
  refine mj_callV1 (av := [.inl (xs (i + 1)), .inl (xs (i + 2))]) C lM_L_105 lV_X11_told (sM0 hM0) ⟨_, rfl, rfl⟩ rfl (mj_S1_self (M := M) (β := 4) (C_X11_told (M := M) (m := M 4) hM0 h2)) (mj_fitL hroom rfl rfl) rfl (Nat.le_of_ble_eq_true rfl) dL_law_813 (fun _ => ?_)
  exact mj_icmp_eq (tgt := 1179) C dL_law_816 (by decide) (fun _ => kk aV1 cap1 f1 ml1 l1 hI1 hl1) (fun c => absurd rfl c)
set_option maxRecDepth 20000 in
theorem LC_judge {κ : mj_K} {Q : State → Prop} {M M1 : mj_M} {m2 : mj_m} {r : Int32} {b n i : Nat} {xs : Nat → Int32} (C : mj_C κ cL_law 4 RL) (hT0 : mj_isT (mj_g κ)) (hM0 : mj_isM (mj_g κ) 4) (hroom : mj_room κ = room_1) (hX : mj_X κ b n xs) (hi : i + 6 ≤ n) (hn : n ≤ 3072) (h1 : f_X10_judge (xs (i + 1)) (xs (i + 2)) (xs (i + 3)) (xs (i + 4)) (xs (i + 5)) = r) (h2 : f_X11_judge (xs (i + 1)) (xs (i + 2)) (xs (i + 3)) (xs (i + 4)) (xs (i + 5)) (M 4) = (r, m2)) (kk : mj_R κ Q 1179 [some (mj_o (some b)), some (mj_r (3, 0)), some (mj_r (4, 0)), some (.inl (nI i))] [] (va_up M 4 m2)) : mj_R κ Q 821 [some (mj_o (some b)), some (mj_r (3, 0)), some (mj_r (4, 0)), some (.inl (nI i))] [] M := by
  refine mj_aload_n C dL_law_821 rfl ?_
  refine mx_aload_n C dL_law_822 rfl ?_
  refine mj_iload_n C dL_law_823 rfl ?_
  refine mj_iconst (v := 1) C dL_law_824 (by decide) ?_
  refine mj_iadd C dL_law_825 ?_
  refine mj_nm (a := nI (i + 1)) (nI_add i 1) ?_
  refine mx_sld C hX (by omega) hn dL_law_826 ?_
  refine mx_aload_n C dL_law_827 rfl ?_
  refine mj_iload_n C dL_law_828 rfl ?_
  refine mj_iconst (v := 2) C dL_law_829 (by decide) ?_
  refine mj_iadd C dL_law_830 ?_
  refine mj_nm (a := nI (i + 2)) (nI_add i 2) ?_
  refine mx_sld C hX (by omega) hn dL_law_831 ?_
  refine mx_aload_n C dL_law_832 rfl ?_
  refine mj_iload_n C dL_law_833 rfl ?_
  refine mj_iconst (v := 3) C dL_law_834 (by decide) ?_
  refine mj_iadd C dL_law_835 ?_
  refine mj_nm (a := nI (i + 3)) (nI_add i 3) ?_
  refine mx_sld C hX (by omega) hn dL_law_836 ?_
  refine mx_aload_n C dL_law_837 rfl ?_
  refine mj_iload_n C dL_law_838 rfl ?_
  refine mj_iconst (v := 4) C dL_law_839 (by decide) ?_
  refine mj_iadd C dL_law_840 ?_
  refine mj_nm (a := nI (i + 4)) (nI_add i 4) ?_
  refine mx_sld C hX (by omega) hn dL_law_841 ?_
  refine mx_aload_n C dL_law_842 rfl ?_
  refine mj_iload_n C dL_law_843 rfl ?_
  refine mj_iconst (v := 5) C dL_law_844 (by decide) ?_
  refine mj_iadd C dL_law_845 ?_
  refine mj_nm (a := nI (i + 5)) (nI_add i 5) ?_
  refine mx_sld C hX (by omega) hn dL_law_846 ?_
  refine mj_callV1 (av := [.inl (xs (i + 1)), .inl (xs (i + 2)), .inl (xs (i + 3)), .inl (xs (i + 4)), .inl (xs (i + 5))]) C lM_L_106 lV_X10_judge hT0.2.2.2.2 ⟨_, rfl, rfl⟩ rfl (C_X10_judge hT0 h1) (mj_fitL hroom rfl rfl) rfl (Nat.le_of_ble_eq_true rfl) dL_law_847 (fun _ => ?_)
  refine mj_aload_n C dL_law_850 rfl ?_
  refine mx_aload_n C dL_law_851 rfl ?_
  refine mj_iload_n C dL_law_852 rfl ?_
  refine mj_iconst (v := 1) C dL_law_853 (by decide) ?_
  refine mj_iadd C dL_law_854 ?_
  refine mj_nm (a := nI (i + 1)) (nI_add i 1) ?_
  refine mx_sld C hX (by omega) hn dL_law_855 ?_
  refine mx_aload_n C dL_law_856 rfl ?_
  refine mj_iload_n C dL_law_857 rfl ?_
  refine mj_iconst (v := 2) C dL_law_858 (by decide) ?_
  refine mj_iadd C dL_law_859 ?_
  refine mj_nm (a := nI (i + 2)) (nI_add i 2) ?_
  refine mx_sld C hX (by omega) hn dL_law_860 ?_
  refine mx_aload_n C dL_law_861 rfl ?_
  refine mj_iload_n C dL_law_862 rfl ?_
  refine mj_iconst (v := 3) C dL_law_863 (by decide) ?_
  refine mj_iadd C dL_law_864 ?_
  refine mj_nm (a := nI (i + 3)) (nI_add i 3) ?_
  refine mx_sld C hX (by omega) hn dL_law_865 ?_
  refine mx_aload_n C dL_law_866 rfl ?_
  refine mj_iload_n C dL_law_867 rfl ?_
  refine mj_iconst (v := 4) C dL_law_868 (by decide) ?_
  refine mj_iadd C dL_law_869 ?_
  refine mj_nm (a := nI (i + 4)) (nI_add i 4) ?_
  refine mx_sld C hX (by omega) hn dL_law_870 ?_
  refine mx_aload_n C dL_law_871 rfl ?_
  refine mj_iload_n C dL_law_872 rfl ?_
  refine mj_iconst (v := 5) C dL_law_873 (by decide) ?_
  refine mj_iadd C dL_law_874 ?_
  refine mj_nm (a := nI (i + 5)) (nI_add i 5) ?_
  refine mx_sld C hX (by omega) hn dL_law_875 ?_
  refine mj_callV1 (av := [.inl (xs (i + 1)), .inl (xs (i + 2)), .inl (xs (i + 3)), .inl (xs (i + 4)), .inl (xs (i + 5))]) C lM_L_109 lV_X11_judge (sM0 hM0) ⟨_, rfl, rfl⟩ rfl (mj_S1_self (M := M) (β := 4) (C_X11_judge (M := M) (m := M 4) hM0 h2)) (mj_fitL hroom rfl rfl) rfl (Nat.le_of_ble_eq_true rfl) dL_law_876 (fun _ => ?_)
  exact mj_icmp_eq (tgt := 1179) C dL_law_879 (by decide) (fun _ => kk) (fun c => absurd rfl c)
set_option maxRecDepth 20000 in
theorem LC_verdicts {κ : mj_K} {Q : State → Prop} {M M1 : mj_M} {m2 : mj_m} {r : Int32} {b n i : Nat} {xs : Nat → Int32} (C : mj_C κ cL_law 4 RL) (hT0 : mj_isT (mj_g κ)) (hM0 : mj_isM (mj_g κ) 4) (hroom : mj_room κ = room_1) (hX : mj_X κ b n xs) (hi : i + 6 ≤ n) (hn : n ≤ 3072) (h1 : f_X10_verdicts (xs (i + 1)) M = some r) (h2 : f_X11_verdicts (xs (i + 1)) (M 4) = some (r, m2)) (kk : mj_R κ Q 1179 [some (mj_o (some b)), some (mj_r (3, 0)), some (mj_r (4, 0)), some (.inl (nI i))] [] (va_up M 4 m2)) : mj_R κ Q 884 [some (mj_o (some b)), some (mj_r (3, 0)), some (mj_r (4, 0)), some (.inl (nI i))] [] M := by
  refine mj_aload_n C dL_law_884 rfl ?_
  refine mx_aload_n C dL_law_885 rfl ?_
  refine mj_iload_n C dL_law_886 rfl ?_
  refine mj_iconst (v := 1) C dL_law_887 (by decide) ?_
  refine mj_iadd C dL_law_888 ?_
  refine mj_nm (a := nI (i + 1)) (nI_add i 1) ?_
  refine mx_sld C hX (by omega) hn dL_law_889 ?_
  refine mj_callV1 (av := [.inl (xs (i + 1))]) C lM_L_110 lV_X10_verdicts hT0.2.2.2.2 ⟨_, rfl, rfl⟩ rfl (C_X10_verdicts hT0 h1) (mj_fitL hroom rfl rfl) rfl (Nat.le_of_ble_eq_true rfl) dL_law_890 (fun _ => ?_)
  refine mj_aload_n C dL_law_893 rfl ?_
  refine mx_aload_n C dL_law_894 rfl ?_
  refine mj_iload_n C dL_law_895 rfl ?_
  refine mj_iconst (v := 1) C dL_law_896 (by decide) ?_
  refine mj_iadd C dL_law_897 ?_
  refine mj_nm (a := nI (i + 1)) (nI_add i 1) ?_
  refine mx_sld C hX (by omega) hn dL_law_898 ?_
  refine mj_callV1 (av := [.inl (xs (i + 1))]) C lM_L_113 lV_X11_verdicts (sM0 hM0) ⟨_, rfl, rfl⟩ rfl (mj_S1_self (M := M) (β := 4) (C_X11_verdicts (M := M) (m := M 4) hM0 h2)) (mj_fitL hroom rfl rfl) rfl (Nat.le_of_ble_eq_true rfl) dL_law_899 (fun _ => ?_)
  exact mj_icmp_eq (tgt := 1179) C dL_law_902 (by decide) (fun _ => kk) (fun c => absurd rfl c)
set_option maxRecDepth 20000 in
theorem LC_diary {κ : mj_K} {Q : State → Prop} {M M1 : mj_M} {m2 : mj_m} {r : Int32} {b n i : Nat} {xs : Nat → Int32} (C : mj_C κ cL_law 4 RL) (hT0 : mj_isT (mj_g κ)) (hM0 : mj_isM (mj_g κ) 4) (hroom : mj_room κ = room_1) (hX : mj_X κ b n xs) (hi : i + 6 ≤ n) (hn : n ≤ 3072) (h1 : f_X10_diary (xs (i + 1)) (xs (i + 2)) M = some r) (h2 : f_X11_diary (xs (i + 1)) (xs (i + 2)) (M 4) = some (r, m2)) (kk : mj_R κ Q 1179 [some (mj_o (some b)), some (mj_r (3, 0)), some (mj_r (4, 0)), some (.inl (nI i))] [] (va_up M 4 m2)) : mj_R κ Q 907 [some (mj_o (some b)), some (mj_r (3, 0)), some (mj_r (4, 0)), some (.inl (nI i))] [] M := by
  refine mj_aload_n C dL_law_907 rfl ?_
  refine mx_aload_n C dL_law_908 rfl ?_
  refine mj_iload_n C dL_law_909 rfl ?_
  refine mj_iconst (v := 1) C dL_law_910 (by decide) ?_
  refine mj_iadd C dL_law_911 ?_
  refine mj_nm (a := nI (i + 1)) (nI_add i 1) ?_
  refine mx_sld C hX (by omega) hn dL_law_912 ?_
  refine mx_aload_n C dL_law_913 rfl ?_
  refine mj_iload_n C dL_law_914 rfl ?_
  refine mj_iconst (v := 2) C dL_law_915 (by decide) ?_
  refine mj_iadd C dL_law_916 ?_
  refine mj_nm (a := nI (i + 2)) (nI_add i 2) ?_
  refine mx_sld C hX (by omega) hn dL_law_917 ?_
  refine mj_callV1 (av := [.inl (xs (i + 1)), .inl (xs (i + 2))]) C lM_L_114 lV_X10_diary hT0.2.2.2.2 ⟨_, rfl, rfl⟩ rfl (C_X10_diary hT0 h1) (mj_fitL hroom rfl rfl) rfl (Nat.le_of_ble_eq_true rfl) dL_law_918 (fun _ => ?_)
  refine mj_aload_n C dL_law_921 rfl ?_
  refine mx_aload_n C dL_law_922 rfl ?_
  refine mj_iload_n C dL_law_923 rfl ?_
  refine mj_iconst (v := 1) C dL_law_924 (by decide) ?_
  refine mj_iadd C dL_law_925 ?_
  refine mj_nm (a := nI (i + 1)) (nI_add i 1) ?_
  refine mx_sld C hX (by omega) hn dL_law_926 ?_
  refine mx_aload_n C dL_law_927 rfl ?_
  refine mj_iload_n C dL_law_928 rfl ?_
  refine mj_iconst (v := 2) C dL_law_929 (by decide) ?_
  refine mj_iadd C dL_law_930 ?_
  refine mj_nm (a := nI (i + 2)) (nI_add i 2) ?_
  refine mx_sld C hX (by omega) hn dL_law_931 ?_
  refine mj_callV1 (av := [.inl (xs (i + 1)), .inl (xs (i + 2))]) C lM_L_117 lV_X11_diary (sM0 hM0) ⟨_, rfl, rfl⟩ rfl (mj_S1_self (M := M) (β := 4) (C_X11_diary (M := M) (m := M 4) hM0 h2)) (mj_fitL hroom rfl rfl) rfl (Nat.le_of_ble_eq_true rfl) dL_law_932 (fun _ => ?_)
  exact mj_icmp_eq (tgt := 1179) C dL_law_935 (by decide) (fun _ => kk) (fun c => absurd rfl c)
set_option maxRecDepth 20000 in
theorem LC_ledger {κ : mj_K} {Q : State → Prop} {M M1 : mj_M} {m2 : mj_m} {r : Int32} {b n i : Nat} {xs : Nat → Int32} (C : mj_C κ cL_law 4 RL) (hT0 : mj_isT (mj_g κ)) (hM0 : mj_isM (mj_g κ) 4) (hroom : mj_room κ = room_1) (hX : mj_X κ b n xs) (hi : i + 6 ≤ n) (hn : n ≤ 3072) (h1 : f_X10_ledger (xs (i + 1)) (xs (i + 2)) M = some r) (h2 : f_X11_ledger (xs (i + 1)) (xs (i + 2)) (M 4) = some (r, m2)) (kk : mj_R κ Q 1179 [some (mj_o (some b)), some (mj_r (3, 0)), some (mj_r (4, 0)), some (.inl (nI i))] [] (va_up M 4 m2)) : mj_R κ Q 940 [some (mj_o (some b)), some (mj_r (3, 0)), some (mj_r (4, 0)), some (.inl (nI i))] [] M := by
  refine mj_aload_n C dL_law_940 rfl ?_
  refine mx_aload_n C dL_law_941 rfl ?_
  refine mj_iload_n C dL_law_942 rfl ?_
  refine mj_iconst (v := 1) C dL_law_943 (by decide) ?_
  refine mj_iadd C dL_law_944 ?_
  refine mj_nm (a := nI (i + 1)) (nI_add i 1) ?_
  refine mx_sld C hX (by omega) hn dL_law_945 ?_
  refine mx_aload_n C dL_law_946 rfl ?_
  refine mj_iload_n C dL_law_947 rfl ?_
  refine mj_iconst (v := 2) C dL_law_948 (by decide) ?_
  refine mj_iadd C dL_law_949 ?_
  refine mj_nm (a := nI (i + 2)) (nI_add i 2) ?_
  refine mx_sld C hX (by omega) hn dL_law_950 ?_
  refine mj_callV1 (av := [.inl (xs (i + 1)), .inl (xs (i + 2))]) C lM_L_118 lV_X10_ledger hT0.2.2.2.2 ⟨_, rfl, rfl⟩ rfl (C_X10_ledger hT0 h1) (mj_fitL hroom rfl rfl) rfl (Nat.le_of_ble_eq_true rfl) dL_law_951 (fun _ => ?_)
  refine mj_aload_n C dL_law_954 rfl ?_
  refine mx_aload_n C dL_law_955 rfl ?_
  refine mj_iload_n C dL_law_956 rfl ?_
  refine mj_iconst (v := 1) C dL_law_957 (by decide) ?_
  refine mj_iadd C dL_law_958 ?_
  refine mj_nm (a := nI (i + 1)) (nI_add i 1) ?_
  refine mx_sld C hX (by omega) hn dL_law_959 ?_
  refine mx_aload_n C dL_law_960 rfl ?_
  refine mj_iload_n C dL_law_961 rfl ?_
  refine mj_iconst (v := 2) C dL_law_962 (by decide) ?_
  refine mj_iadd C dL_law_963 ?_
  refine mj_nm (a := nI (i + 2)) (nI_add i 2) ?_
  refine mx_sld C hX (by omega) hn dL_law_964 ?_
  refine mj_callV1 (av := [.inl (xs (i + 1)), .inl (xs (i + 2))]) C lM_L_121 lV_X11_ledger (sM0 hM0) ⟨_, rfl, rfl⟩ rfl (mj_S1_self (M := M) (β := 4) (C_X11_ledger (M := M) (m := M 4) hM0 h2)) (mj_fitL hroom rfl rfl) rfl (Nat.le_of_ble_eq_true rfl) dL_law_965 (fun _ => ?_)
  exact mj_icmp_eq (tgt := 1179) C dL_law_968 (by decide) (fun _ => kk) (fun c => absurd rfl c)
set_option maxRecDepth 20000 in
theorem LC_delays {κ : mj_K} {Q : State → Prop} {M M1 : mj_M} {m2 : mj_m} {r : Int32} {b n i : Nat} {xs : Nat → Int32} (C : mj_C κ cL_law 4 RL) (hT0 : mj_isT (mj_g κ)) (hM0 : mj_isM (mj_g κ) 4) (hroom : mj_room κ = room_1) (hX : mj_X κ b n xs) (hi : i + 6 ≤ n) (hn : n ≤ 3072) (h1 : f_X10_delays (xs (i + 1)) M = some r) (h2 : f_X11_delays (xs (i + 1)) (M 4) = some (r, m2)) (kk : mj_R κ Q 1179 [some (mj_o (some b)), some (mj_r (3, 0)), some (mj_r (4, 0)), some (.inl (nI i))] [] (va_up M 4 m2)) : mj_R κ Q 973 [some (mj_o (some b)), some (mj_r (3, 0)), some (mj_r (4, 0)), some (.inl (nI i))] [] M := by
  refine mj_aload_n C dL_law_973 rfl ?_
  refine mx_aload_n C dL_law_974 rfl ?_
  refine mj_iload_n C dL_law_975 rfl ?_
  refine mj_iconst (v := 1) C dL_law_976 (by decide) ?_
  refine mj_iadd C dL_law_977 ?_
  refine mj_nm (a := nI (i + 1)) (nI_add i 1) ?_
  refine mx_sld C hX (by omega) hn dL_law_978 ?_
  refine mj_callV1 (av := [.inl (xs (i + 1))]) C lM_L_122 lV_X10_delays hT0.2.2.2.2 ⟨_, rfl, rfl⟩ rfl (C_X10_delays hT0 h1) (mj_fitL hroom rfl rfl) rfl (Nat.le_of_ble_eq_true rfl) dL_law_979 (fun _ => ?_)
  refine mj_aload_n C dL_law_982 rfl ?_
  refine mx_aload_n C dL_law_983 rfl ?_
  refine mj_iload_n C dL_law_984 rfl ?_
  refine mj_iconst (v := 1) C dL_law_985 (by decide) ?_
  refine mj_iadd C dL_law_986 ?_
  refine mj_nm (a := nI (i + 1)) (nI_add i 1) ?_
  refine mx_sld C hX (by omega) hn dL_law_987 ?_
  refine mj_callV1 (av := [.inl (xs (i + 1))]) C lM_L_125 lV_X11_delays (sM0 hM0) ⟨_, rfl, rfl⟩ rfl (mj_S1_self (M := M) (β := 4) (C_X11_delays (M := M) (m := M 4) hM0 h2)) (mj_fitL hroom rfl rfl) rfl (Nat.le_of_ble_eq_true rfl) dL_law_988 (fun _ => ?_)
  exact mj_icmp_eq (tgt := 1179) C dL_law_991 (by decide) (fun _ => kk) (fun c => absurd rfl c)
set_option maxRecDepth 20000 in
theorem LC_zone {κ : mj_K} {Q : State → Prop} {M M1 : mj_M} {m2 : mj_m} {r : Int32} {b n i : Nat} {xs : Nat → Int32} (C : mj_C κ cL_law 4 RL) (hT0 : mj_isT (mj_g κ)) (hM0 : mj_isM (mj_g κ) 4) (hroom : mj_room κ = room_1) (hX : mj_X κ b n xs) (hi : i + 6 ≤ n) (hn : n ≤ 3072) (h1 : f_X10_zone (xs (i + 1)) M = r) (h2 : f_X11_zone (xs (i + 1)) (M 4) = some (r, m2)) (kk : mj_R κ Q 1179 [some (mj_o (some b)), some (mj_r (3, 0)), some (mj_r (4, 0)), some (.inl (nI i))] [] (va_up M 4 m2)) : mj_R κ Q 996 [some (mj_o (some b)), some (mj_r (3, 0)), some (mj_r (4, 0)), some (.inl (nI i))] [] M := by
  refine mj_aload_n C dL_law_996 rfl ?_
  refine mx_aload_n C dL_law_997 rfl ?_
  refine mj_iload_n C dL_law_998 rfl ?_
  refine mj_iconst (v := 1) C dL_law_999 (by decide) ?_
  refine mj_iadd C dL_law_1000 ?_
  refine mj_nm (a := nI (i + 1)) (nI_add i 1) ?_
  refine mx_sld C hX (by omega) hn dL_law_1001 ?_
  refine mj_callV1 (av := [.inl (xs (i + 1))]) C lM_L_126 lV_X10_zone hT0.2.2.2.2 ⟨_, rfl, rfl⟩ rfl (C_X10_zone hT0 h1) (mj_fitL hroom rfl rfl) rfl (Nat.le_of_ble_eq_true rfl) dL_law_1002 (fun _ => ?_)
  refine mj_aload_n C dL_law_1005 rfl ?_
  refine mx_aload_n C dL_law_1006 rfl ?_
  refine mj_iload_n C dL_law_1007 rfl ?_
  refine mj_iconst (v := 1) C dL_law_1008 (by decide) ?_
  refine mj_iadd C dL_law_1009 ?_
  refine mj_nm (a := nI (i + 1)) (nI_add i 1) ?_
  refine mx_sld C hX (by omega) hn dL_law_1010 ?_
  refine mj_callV1 (av := [.inl (xs (i + 1))]) C lM_L_129 lV_X11_zone (sM0 hM0) ⟨_, rfl, rfl⟩ rfl (mj_S1_self (M := M) (β := 4) (C_X11_zone (M := M) (m := M 4) hM0 h2)) (mj_fitL hroom rfl rfl) rfl (Nat.le_of_ble_eq_true rfl) dL_law_1011 (fun _ => ?_)
  exact mj_icmp_eq (tgt := 1179) C dL_law_1014 (by decide) (fun _ => kk) (fun c => absurd rfl c)
set_option maxRecDepth 20000 in
theorem LC_fate {κ : mj_K} {Q : State → Prop} {M M1 : mj_M} {m2 : mj_m} {r : Int32} {b n i : Nat} {xs : Nat → Int32} (C : mj_C κ cL_law 4 RL) (hT0 : mj_isT (mj_g κ)) (hM0 : mj_isM (mj_g κ) 4) (hroom : mj_room κ = room_1) (hX : mj_X κ b n xs) (hi : i + 6 ≤ n) (hn : n ≤ 3072) (h1 : f_X10_fate (lb (xs (i + 1))) (xs (i + 2)) M = some (r, M1)) (h2 : f_X11_fate (lb (xs (i + 1))) (xs (i + 2)) (M1 4) = some (r, m2)) (kk : mj_R κ Q 1179 [some (mj_o (some b)), some (mj_r (3, 0)), some (mj_r (4, 0)), some (.inl (nI i))] [] (va_up M1 4 m2)) : mj_R κ Q 1019 [some (mj_o (some b)), some (mj_r (3, 0)), some (mj_r (4, 0)), some (.inl (nI i))] [] M := by
  refine mj_aload_n C dL_law_1019 rfl ?_
  refine mx_aload_n C dL_law_1020 rfl ?_
  refine mj_iload_n C dL_law_1021 rfl ?_
  refine mj_iconst (v := 1) C dL_law_1022 (by decide) ?_
  refine mj_iadd C dL_law_1023 ?_
  refine mj_nm (a := nI (i + 1)) (nI_add i 1) ?_
  refine mx_sld C hX (by omega) hn dL_law_1024 ?_
  refine (fun (K : mj_R κ Q 1033 [some (mj_o (some b)), some (mj_r (3, 0)), some (mj_r (4, 0)), some (.inl (nI i))] [.inl (lb (xs (i + 1))), mj_r (3, 0)] M) => ?_) ?_
  · refine mj_if_eq (tgt := 1032) C dL_law_1025 (by decide) (fun cb => ?_) (fun cb => ?_)
    · refine mj_iconst (v := 0) C dL_law_1032 (by decide) ?_
      exact mj_Rc K (by unfold lb; rw [if_pos cb]) rfl
    · refine mj_iconst (v := 1) C dL_law_1028 (by decide) ?_
      refine mj_goto (tgt := 1033) C dL_law_1029 (by decide) ?_
      exact mj_Rc K (by unfold lb; rw [if_neg cb]) rfl
  refine mx_aload_n C dL_law_1033 rfl ?_
  refine mj_iload_n C dL_law_1034 rfl ?_
  refine mj_iconst (v := 2) C dL_law_1035 (by decide) ?_
  refine mj_iadd C dL_law_1036 ?_
  refine mj_nm (a := nI (i + 2)) (nI_add i 2) ?_
  refine mx_sld C hX (by omega) hn dL_law_1037 ?_
  refine mj_callV1 (av := [.inl (lb (xs (i + 1))), .inl (xs (i + 2))]) C lM_L_130 lV_X10_fate hT0.2.2.2.2 ⟨_, rfl, rfl⟩ rfl (C_X10_fate hT0 h1) (mj_fitL hroom rfl rfl) rfl (Nat.le_of_ble_eq_true rfl) dL_law_1038 (fun _ => ?_)
  refine mj_aload_n C dL_law_1041 rfl ?_
  refine mx_aload_n C dL_law_1042 rfl ?_
  refine mj_iload_n C dL_law_1043 rfl ?_
  refine mj_iconst (v := 1) C dL_law_1044 (by decide) ?_
  refine mj_iadd C dL_law_1045 ?_
  refine mj_nm (a := nI (i + 1)) (nI_add i 1) ?_
  refine mx_sld C hX (by omega) hn dL_law_1046 ?_
  refine (fun (K : mj_R κ Q 1055 [some (mj_o (some b)), some (mj_r (3, 0)), some (mj_r (4, 0)), some (.inl (nI i))] [.inl (lb (xs (i + 1))), mj_r (4, 0), .inl r] M1) => ?_) ?_
  · refine mj_if_eq (tgt := 1054) C dL_law_1047 (by decide) (fun cb => ?_) (fun cb => ?_)
    · refine mj_iconst (v := 0) C dL_law_1054 (by decide) ?_
      exact mj_Rc K (by unfold lb; rw [if_pos cb]) rfl
    · refine mj_iconst (v := 1) C dL_law_1050 (by decide) ?_
      refine mj_goto (tgt := 1055) C dL_law_1051 (by decide) ?_
      exact mj_Rc K (by unfold lb; rw [if_neg cb]) rfl
  refine mx_aload_n C dL_law_1055 rfl ?_
  refine mj_iload_n C dL_law_1056 rfl ?_
  refine mj_iconst (v := 2) C dL_law_1057 (by decide) ?_
  refine mj_iadd C dL_law_1058 ?_
  refine mj_nm (a := nI (i + 2)) (nI_add i 2) ?_
  refine mx_sld C hX (by omega) hn dL_law_1059 ?_
  refine mj_callV1 (av := [.inl (lb (xs (i + 1))), .inl (xs (i + 2))]) C lM_L_134 lV_X11_fate (sM0 hM0) ⟨_, rfl, rfl⟩ rfl (mj_S1_self (M := M1) (β := 4) (C_X11_fate (M := M1) (m := M1 4) hM0 h2)) (mj_fitL hroom rfl rfl) rfl (Nat.le_of_ble_eq_true rfl) dL_law_1060 (fun _ => ?_)
  exact mj_icmp_eq (tgt := 1179) C dL_law_1063 (by decide) (fun _ => kk) (fun c => absurd rfl c)
set_option maxRecDepth 20000 in
theorem LC_truth {κ : mj_K} {Q : State → Prop} {M M1 : mj_M} {m2 : mj_m} {r : Int32} {b n i : Nat} {xs : Nat → Int32} (C : mj_C κ cL_law 4 RL) (hT0 : mj_isT (mj_g κ)) (hM0 : mj_isM (mj_g κ) 4) (hroom : mj_room κ = room_1) (hX : mj_X κ b n xs) (hi : i + 6 ≤ n) (hn : n ≤ 3072) (h1 : f_X10_truth (xs (i + 1)) M = some r) (h2 : f_X11_truth (xs (i + 1)) (M 4) = some (r, m2)) (kk : mj_R κ Q 1179 [some (mj_o (some b)), some (mj_r (3, 0)), some (mj_r (4, 0)), some (.inl (nI i))] [] (va_up M 4 m2)) : mj_R κ Q 1068 [some (mj_o (some b)), some (mj_r (3, 0)), some (mj_r (4, 0)), some (.inl (nI i))] [] M := by
  refine mj_aload_n C dL_law_1068 rfl ?_
  refine mx_aload_n C dL_law_1069 rfl ?_
  refine mj_iload_n C dL_law_1070 rfl ?_
  refine mj_iconst (v := 1) C dL_law_1071 (by decide) ?_
  refine mj_iadd C dL_law_1072 ?_
  refine mj_nm (a := nI (i + 1)) (nI_add i 1) ?_
  refine mx_sld C hX (by omega) hn dL_law_1073 ?_
  refine mj_callV1 (av := [.inl (xs (i + 1))]) C lM_L_135 lV_X10_truth hT0.2.2.2.2 ⟨_, rfl, rfl⟩ rfl (C_X10_truth hT0 h1) (mj_fitL hroom rfl rfl) rfl (Nat.le_of_ble_eq_true rfl) dL_law_1074 (fun _ => ?_)
  refine mj_aload_n C dL_law_1077 rfl ?_
  refine mx_aload_n C dL_law_1078 rfl ?_
  refine mj_iload_n C dL_law_1079 rfl ?_
  refine mj_iconst (v := 1) C dL_law_1080 (by decide) ?_
  refine mj_iadd C dL_law_1081 ?_
  refine mj_nm (a := nI (i + 1)) (nI_add i 1) ?_
  refine mx_sld C hX (by omega) hn dL_law_1082 ?_
  refine mj_callV1 (av := [.inl (xs (i + 1))]) C lM_L_138 lV_X11_truth (sM0 hM0) ⟨_, rfl, rfl⟩ rfl (mj_S1_self (M := M) (β := 4) (C_X11_truth (M := M) (m := M 4) hM0 h2)) (mj_fitL hroom rfl rfl) rfl (Nat.le_of_ble_eq_true rfl) dL_law_1083 (fun _ => ?_)
  exact mj_icmp_eq (tgt := 1179) C dL_law_1086 (by decide) (fun _ => kk) (fun c => absurd rfl c)
set_option maxRecDepth 20000 in
theorem LC_soon {κ : mj_K} {Q : State → Prop} {M M1 : mj_M} {m2 : mj_m} {r : Int32} {b n i : Nat} {xs : Nat → Int32} (C : mj_C κ cL_law 4 RL) (hT0 : mj_isT (mj_g κ)) (hM0 : mj_isM (mj_g κ) 4) (hroom : mj_room κ = room_1) (hX : mj_X κ b n xs) (hi : i + 6 ≤ n) (hn : n ≤ 3072) (h1 : f_X10_soon M = some (r, M1)) (h2 : f_X11_soon (M1 4) = some (r, m2)) (kk : mj_R κ Q 1179 [some (mj_o (some b)), some (mj_r (3, 0)), some (mj_r (4, 0)), some (.inl (nI i))] [] (va_up M1 4 m2)) : mj_R κ Q 1091 [some (mj_o (some b)), some (mj_r (3, 0)), some (mj_r (4, 0)), some (.inl (nI i))] [] M := by
  refine mj_aload_n C dL_law_1091 rfl ?_
  refine mj_callV1 (av := []) C lM_L_139 lV_X10_soon hT0.2.2.2.2 ⟨_, rfl, rfl⟩ rfl (C_X10_soon hT0 h1) (mj_fitL hroom rfl rfl) rfl (Nat.le_of_ble_eq_true rfl) dL_law_1092 (fun _ => ?_)
  refine mj_aload_n C dL_law_1095 rfl ?_
  refine mj_callV1 (av := []) C lM_L_142 lV_X11_soon (sM0 hM0) ⟨_, rfl, rfl⟩ rfl (mj_S1_self (M := M1) (β := 4) (C_X11_soon (M := M1) (m := M1 4) hM0 h2)) (mj_fitL hroom rfl rfl) rfl (Nat.le_of_ble_eq_true rfl) dL_law_1096 (fun _ => ?_)
  exact mj_icmp_eq (tgt := 1179) C dL_law_1099 (by decide) (fun _ => kk) (fun c => absurd rfl c)
set_option maxRecDepth 20000 in
theorem LC_ways {κ : mj_K} {Q : State → Prop} {M M1 : mj_M} {m2 : mj_m} {r : Int32} {b n i : Nat} {xs : Nat → Int32} (C : mj_C κ cL_law 4 RL) (hT0 : mj_isT (mj_g κ)) (hM0 : mj_isM (mj_g κ) 4) (hroom : mj_room κ = room_1) (hX : mj_X κ b n xs) (hi : i + 6 ≤ n) (hn : n ≤ 3072) (h1 : f_X10_ways M = some (r, M1)) (h2 : f_X11_ways (M1 4) = some (r, m2)) (kk : mj_R κ Q 1179 [some (mj_o (some b)), some (mj_r (3, 0)), some (mj_r (4, 0)), some (.inl (nI i))] [] (va_up M1 4 m2)) : mj_R κ Q 1104 [some (mj_o (some b)), some (mj_r (3, 0)), some (mj_r (4, 0)), some (.inl (nI i))] [] M := by
  refine mj_aload_n C dL_law_1104 rfl ?_
  refine mj_callV1 (av := []) C lM_L_143 lV_X10_ways hT0.2.2.2.2 ⟨_, rfl, rfl⟩ rfl (C_X10_ways hT0 h1) (mj_fitL hroom rfl rfl) rfl (Nat.le_of_ble_eq_true rfl) dL_law_1105 (fun _ => ?_)
  refine mj_aload_n C dL_law_1108 rfl ?_
  refine mj_callV1 (av := []) C lM_L_146 lV_X11_ways (sM0 hM0) ⟨_, rfl, rfl⟩ rfl (mj_S1_self (M := M1) (β := 4) (C_X11_ways (M := M1) (m := M1 4) hM0 h2)) (mj_fitL hroom rfl rfl) rfl (Nat.le_of_ble_eq_true rfl) dL_law_1109 (fun _ => ?_)
  exact mj_icmp_eq (tgt := 1179) C dL_law_1112 (by decide) (fun _ => kk) (fun c => absurd rfl c)
set_option maxRecDepth 20000 in
theorem LC_image {κ : mj_K} {Q : State → Prop} {M M1 : mj_M} {m2 : mj_m} {r : Int32} {b n i : Nat} {xs : Nat → Int32} (C : mj_C κ cL_law 4 RL) (hT0 : mj_isT (mj_g κ)) (hM0 : mj_isM (mj_g κ) 4) (hroom : mj_room κ = room_1) (hX : mj_X κ b n xs) (hi : i + 6 ≤ n) (hn : n ≤ 3072) (h1 : f_X10_image (lb (xs (i + 1))) M = some (r, M1)) (h2 : f_X11_image (lb (xs (i + 1))) (M1 4) = some (r, m2)) (kk : mj_R κ Q 1179 [some (mj_o (some b)), some (mj_r (3, 0)), some (mj_r (4, 0)), some (.inl (nI i))] [] (va_up M1 4 m2)) : mj_R κ Q 1117 [some (mj_o (some b)), some (mj_r (3, 0)), some (mj_r (4, 0)), some (.inl (nI i))] [] M := by
  refine mj_aload_n C dL_law_1117 rfl ?_
  refine mx_aload_n C dL_law_1118 rfl ?_
  refine mj_iload_n C dL_law_1119 rfl ?_
  refine mj_iconst (v := 1) C dL_law_1120 (by decide) ?_
  refine mj_iadd C dL_law_1121 ?_
  refine mj_nm (a := nI (i + 1)) (nI_add i 1) ?_
  refine mx_sld C hX (by omega) hn dL_law_1122 ?_
  refine (fun (K : mj_R κ Q 1131 [some (mj_o (some b)), some (mj_r (3, 0)), some (mj_r (4, 0)), some (.inl (nI i))] [.inl (lb (xs (i + 1))), mj_r (3, 0)] M) => ?_) ?_
  · refine mj_if_eq (tgt := 1130) C dL_law_1123 (by decide) (fun cb => ?_) (fun cb => ?_)
    · refine mj_iconst (v := 0) C dL_law_1130 (by decide) ?_
      exact mj_Rc K (by unfold lb; rw [if_pos cb]) rfl
    · refine mj_iconst (v := 1) C dL_law_1126 (by decide) ?_
      refine mj_goto (tgt := 1131) C dL_law_1127 (by decide) ?_
      exact mj_Rc K (by unfold lb; rw [if_neg cb]) rfl
  refine mj_callV1 (av := [.inl (lb (xs (i + 1)))]) C lM_L_147 lV_X10_image hT0.2.2.2.2 ⟨_, rfl, rfl⟩ rfl (C_X10_image hT0 h1) (mj_fitL hroom rfl rfl) rfl (Nat.le_of_ble_eq_true rfl) dL_law_1131 (fun _ => ?_)
  refine mj_aload_n C dL_law_1134 rfl ?_
  refine mx_aload_n C dL_law_1135 rfl ?_
  refine mj_iload_n C dL_law_1136 rfl ?_
  refine mj_iconst (v := 1) C dL_law_1137 (by decide) ?_
  refine mj_iadd C dL_law_1138 ?_
  refine mj_nm (a := nI (i + 1)) (nI_add i 1) ?_
  refine mx_sld C hX (by omega) hn dL_law_1139 ?_
  refine (fun (K : mj_R κ Q 1148 [some (mj_o (some b)), some (mj_r (3, 0)), some (mj_r (4, 0)), some (.inl (nI i))] [.inl (lb (xs (i + 1))), mj_r (4, 0), .inl r] M1) => ?_) ?_
  · refine mj_if_eq (tgt := 1147) C dL_law_1140 (by decide) (fun cb => ?_) (fun cb => ?_)
    · refine mj_iconst (v := 0) C dL_law_1147 (by decide) ?_
      exact mj_Rc K (by unfold lb; rw [if_pos cb]) rfl
    · refine mj_iconst (v := 1) C dL_law_1143 (by decide) ?_
      refine mj_goto (tgt := 1148) C dL_law_1144 (by decide) ?_
      exact mj_Rc K (by unfold lb; rw [if_neg cb]) rfl
  refine mj_callV1 (av := [.inl (lb (xs (i + 1)))]) C lM_L_151 lV_X11_image (sM0 hM0) ⟨_, rfl, rfl⟩ rfl (mj_S1_self (M := M1) (β := 4) (C_X11_image (M := M1) (m := M1 4) hM0 h2)) (mj_fitL hroom rfl rfl) rfl (Nat.le_of_ble_eq_true rfl) dL_law_1148 (fun _ => ?_)
  exact mj_icmp_eq (tgt := 1179) C dL_law_1151 (by decide) (fun _ => kk) (fun c => absurd rfl c)
set_option maxRecDepth 20000 in
theorem LC_look {κ : mj_K} {Q : State → Prop} {M M1 : mj_M} {m2 : mj_m} {r : Int32} {b n i : Nat} {xs : Nat → Int32} (C : mj_C κ cL_law 4 RL) (hT0 : mj_isT (mj_g κ)) (hM0 : mj_isM (mj_g κ) 4) (hroom : mj_room κ = room_1) (hX : mj_X κ b n xs) (hi : i + 6 ≤ n) (hn : n ≤ 3072) (h1 : f_X10_look (xs (i + 1)) M = some r) (h2 : f_X11_look (xs (i + 1)) (M 4) = some (r, m2)) (kk : mj_R κ Q 1179 [some (mj_o (some b)), some (mj_r (3, 0)), some (mj_r (4, 0)), some (.inl (nI i))] [] (va_up M 4 m2)) : mj_R κ Q 1156 [some (mj_o (some b)), some (mj_r (3, 0)), some (mj_r (4, 0)), some (.inl (nI i))] [] M := by
  refine mj_aload_n C dL_law_1156 rfl ?_
  refine mx_aload_n C dL_law_1157 rfl ?_
  refine mj_iload_n C dL_law_1158 rfl ?_
  refine mj_iconst (v := 1) C dL_law_1159 (by decide) ?_
  refine mj_iadd C dL_law_1160 ?_
  refine mj_nm (a := nI (i + 1)) (nI_add i 1) ?_
  refine mx_sld C hX (by omega) hn dL_law_1161 ?_
  refine mj_callV1 (av := [.inl (xs (i + 1))]) C lM_L_152 lV_X10_look hT0.2.2.2.2 ⟨_, rfl, rfl⟩ rfl (C_X10_look hT0 h1) (mj_fitL hroom rfl rfl) rfl (Nat.le_of_ble_eq_true rfl) dL_law_1162 (fun _ => ?_)
  refine mj_aload_n C dL_law_1165 rfl ?_
  refine mx_aload_n C dL_law_1166 rfl ?_
  refine mj_iload_n C dL_law_1167 rfl ?_
  refine mj_iconst (v := 1) C dL_law_1168 (by decide) ?_
  refine mj_iadd C dL_law_1169 ?_
  refine mj_nm (a := nI (i + 1)) (nI_add i 1) ?_
  refine mx_sld C hX (by omega) hn dL_law_1170 ?_
  refine mj_callV1 (av := [.inl (xs (i + 1))]) C lM_L_155 lV_X11_look (sM0 hM0) ⟨_, rfl, rfl⟩ rfl (mj_S1_self (M := M) (β := 4) (C_X11_look (M := M) (m := M 4) hM0 h2)) (mj_fitL hroom rfl rfl) rfl (Nat.le_of_ble_eq_true rfl) dL_law_1171 (fun _ => ?_)
  exact mj_icmp_eq (tgt := 1179) C dL_law_1174 (by decide) (fun _ => kk) (fun c => absurd rfl c)

/-! THE LAW: its calls -/
set_option maxHeartbeats 200000 in
theorem rOK_int {r : Value} (h : rOK (some .int) r = true) : ∃ z, r = .int z := by
  cases r with
  | int z => exact ⟨z, rfl⟩
  | _ => exact absurd h (by simp [rOK])
set_option maxHeartbeats 200000 in
theorem rOK_long {r : Value} (h : rOK (some .long) r = true) : ∃ z, r = .long z := by
  cases r with
  | long z => exact ⟨z, rfl⟩
  | _ => exact absurd h (by simp [rOK])
set_option maxHeartbeats 200000 in
theorem lcmp_self {z : Int64} : lg_cmp z z = 0 := by
  unfold lg_cmp
  rw [if_neg (show ¬ z > z from fun h => absurd h (by rw [gt_iff_lt, Int64.lt_iff_toInt_lt]; omega)), if_pos rfl]
set_option maxHeartbeats 200000 in
theorem and_31 (v : Int32) : ∃ c, c < 32 ∧ v &&& nI 31 = nI c := by
  refine ⟨v.toBitVec.toNat &&& 31, Nat.lt_of_le_of_lt Nat.and_le_right (by decide), ?_⟩
  apply Int32.toBitVec_inj.mp
  show (v &&& Int32.ofNat 31).toBitVec = (Int32.ofNat (v.toBitVec.toNat &&& 31)).toBitVec
  rw [Int32.toBitVec_and]
  apply BitVec.eq_of_toNat_eq
  rw [BitVec.toNat_and]
  show v.toBitVec.toNat &&& (BitVec.ofNat 32 31).toNat = (BitVec.ofNat 32 (v.toBitVec.toNat &&& 31)).toNat
  rw [BitVec.toNat_ofNat, BitVec.toNat_ofNat]
  have : v.toBitVec.toNat &&& 31 ≤ 31 := Nat.and_le_right
  rw [Nat.mod_eq_of_lt (show v.toBitVec.toNat &&& 31 < 2 ^ 32 by omega)]
set_option maxRecDepth 100000 in
set_option maxHeartbeats 200000 in
theorem z_sheet {sc : XS} {R : Option Value → XH → Prop} {σ : SI} {δ : SD} {i : Nat} (hi : i + 5 ≤ sc.1) (hs : sc.1 ≤ 2560) (hT : InvT σ) (kk : ∀ σ' δ', InvT σ' → G sc KZ_law 960 (aL [some (.ref 0), some (.ref 5), some (.ref 84), some (.int (nI i))]) [] (HH σ' δ') (89, 4247) R) : G sc KZ_law 168 (aL [some (.ref 0), some (.ref 5), some (.ref 84), some (.int (nI i))]) [] (HH σ δ) (89, 4247) R := by
  obtain ⟨r, σ1, δ1, σ2, e1, e2, hT2, hrk⟩ := (show Step KP_sheet KR_sheet [.int (sc.2 (i + 1)), .int (sc.2 (i + 2))] σ δ from step_sheet hT)
  obtain ⟨z, rfl⟩ := rOK_int hrk
  refine g_aload_n dL_law_168 rfl ?_
  refine g_aload_n dL_law_169 rfl ?_
  refine g_iload_n dL_law_170 rfl ?_
  refine g_iconst dL_law_171 ic_1 ?_
  refine n_iadd dL_law_172 ?_
  refine g_sald dL_law_173 (ixD_nI (by omega) (by omega)) ?_
  refine g_aload_n dL_law_174 rfl ?_
  refine g_iload_n dL_law_175 rfl ?_
  refine g_iconst dL_law_176 ic_2 ?_
  refine n_iadd dL_law_177 ?_
  refine g_sald dL_law_178 (ixD_nI (by omega) (by omega)) ?_
  refine g_v2 (M' := KP_sheet) dL_law_179 l_Z_13 v_KP_sheet e1 rc_5 HH_len rfl ⟨rfl, rfl⟩ ?_
  refine g_aload_n dL_law_182 rfl ?_
  refine g_aload_n dL_law_183 rfl ?_
  refine g_iload_n dL_law_184 rfl ?_
  refine g_iconst dL_law_185 ic_1 ?_
  refine n_iadd dL_law_186 ?_
  refine g_sald dL_law_187 (ixD_nI (by omega) (by omega)) ?_
  refine g_aload_n dL_law_188 rfl ?_
  refine g_iload_n dL_law_189 rfl ?_
  refine g_iconst dL_law_190 ic_2 ?_
  refine n_iadd dL_law_191 ?_
  refine g_sald dL_law_192 (ixD_nI (by omega) (by omega)) ?_
  refine g_v2 (M' := KR_sheet) dL_law_193 l_Z_17 v_KR_sheet e2 rc_84 HH_len rfl ⟨rfl, rfl⟩ ?_
  refine g_icmp_eq (tgt := 960) dL_law_196 rfl (fun _ => ?_) (fun h => absurd rfl h)
  exact kk σ2 δ1 hT2
set_option maxRecDepth 100000 in
set_option maxHeartbeats 200000 in
theorem z_sets {sc : XS} {R : Option Value → XH → Prop} {σ : SI} {δ : SD} {i : Nat} (hi : i + 5 ≤ sc.1) (hs : sc.1 ≤ 2560) (hT : InvT σ) (kk : ∀ σ' δ', InvT σ' → G sc KZ_law 960 (aL [some (.ref 0), some (.ref 5), some (.ref 84), some (.int (nI i))]) [] (HH σ' δ') (89, 4247) R) : G sc KZ_law 201 (aL [some (.ref 0), some (.ref 5), some (.ref 84), some (.int (nI i))]) [] (HH σ δ) (89, 4247) R := by
  obtain ⟨r, σ1, δ1, σ2, e1, e2, hT2, hrk⟩ := (show Step KP_sets KR_sets [.int (sc.2 (i + 1)), .int (sc.2 (i + 2))] σ δ from step_sets hT)
  obtain ⟨z, rfl⟩ := rOK_int hrk
  refine g_aload_n dL_law_201 rfl ?_
  refine g_aload_n dL_law_202 rfl ?_
  refine g_iload_n dL_law_203 rfl ?_
  refine g_iconst dL_law_204 ic_1 ?_
  refine n_iadd dL_law_205 ?_
  refine g_sald dL_law_206 (ixD_nI (by omega) (by omega)) ?_
  refine g_aload_n dL_law_207 rfl ?_
  refine g_iload_n dL_law_208 rfl ?_
  refine g_iconst dL_law_209 ic_2 ?_
  refine n_iadd dL_law_210 ?_
  refine g_sald dL_law_211 (ixD_nI (by omega) (by omega)) ?_
  refine g_v2 (M' := KP_sets) dL_law_212 l_Z_18 v_KP_sets e1 rc_5 HH_len rfl ⟨rfl, rfl⟩ ?_
  refine g_aload_n dL_law_215 rfl ?_
  refine g_aload_n dL_law_216 rfl ?_
  refine g_iload_n dL_law_217 rfl ?_
  refine g_iconst dL_law_218 ic_1 ?_
  refine n_iadd dL_law_219 ?_
  refine g_sald dL_law_220 (ixD_nI (by omega) (by omega)) ?_
  refine g_aload_n dL_law_221 rfl ?_
  refine g_iload_n dL_law_222 rfl ?_
  refine g_iconst dL_law_223 ic_2 ?_
  refine n_iadd dL_law_224 ?_
  refine g_sald dL_law_225 (ixD_nI (by omega) (by omega)) ?_
  refine g_v2 (M' := KR_sets) dL_law_226 l_Z_21 v_KR_sets e2 rc_84 HH_len rfl ⟨rfl, rfl⟩ ?_
  refine g_icmp_eq (tgt := 960) dL_law_229 rfl (fun _ => ?_) (fun h => absurd rfl h)
  exact kk σ2 δ1 hT2
set_option maxRecDepth 100000 in
set_option maxHeartbeats 200000 in
theorem z_item {sc : XS} {R : Option Value → XH → Prop} {σ : SI} {δ : SD} {i : Nat} (hi : i + 5 ≤ sc.1) (hs : sc.1 ≤ 2560) (hT : InvT σ) (kk : ∀ σ' δ', InvT σ' → G sc KZ_law 960 (aL [some (.ref 0), some (.ref 5), some (.ref 84), some (.int (nI i))]) [] (HH σ' δ') (89, 4247) R) : G sc KZ_law 234 (aL [some (.ref 0), some (.ref 5), some (.ref 84), some (.int (nI i))]) [] (HH σ δ) (89, 4247) R := by
  obtain ⟨r, σ1, δ1, σ2, e1, e2, hT2, hrk⟩ := (show Step KP_item KR_item [.int (sc.2 (i + 1)), .int (sc.2 (i + 2)), .int (sc.2 (i + 3)), .int (sc.2 (i + 4))] σ δ from step_item hT)
  obtain ⟨z, rfl⟩ := rOK_int hrk
  refine g_aload_n dL_law_234 rfl ?_
  refine g_aload_n dL_law_235 rfl ?_
  refine g_iload_n dL_law_236 rfl ?_
  refine g_iconst dL_law_237 ic_1 ?_
  refine n_iadd dL_law_238 ?_
  refine g_sald dL_law_239 (ixD_nI (by omega) (by omega)) ?_
  refine g_aload_n dL_law_240 rfl ?_
  refine g_iload_n dL_law_241 rfl ?_
  refine g_iconst dL_law_242 ic_2 ?_
  refine n_iadd dL_law_243 ?_
  refine g_sald dL_law_244 (ixD_nI (by omega) (by omega)) ?_
  refine g_aload_n dL_law_245 rfl ?_
  refine g_iload_n dL_law_246 rfl ?_
  refine g_iconst dL_law_247 ic_3 ?_
  refine n_iadd dL_law_248 ?_
  refine g_sald dL_law_249 (ixD_nI (by omega) (by omega)) ?_
  refine g_aload_n dL_law_250 rfl ?_
  refine g_iload_n dL_law_251 rfl ?_
  refine g_iconst dL_law_252 ic_4 ?_
  refine n_iadd dL_law_253 ?_
  refine g_sald dL_law_254 (ixD_nI (by omega) (by omega)) ?_
  refine g_v4 (M' := KP_item) dL_law_255 l_Z_22 v_KP_item e1 rc_5 HH_len rfl ⟨rfl, rfl⟩ ?_
  refine g_aload_n dL_law_258 rfl ?_
  refine g_aload_n dL_law_259 rfl ?_
  refine g_iload_n dL_law_260 rfl ?_
  refine g_iconst dL_law_261 ic_1 ?_
  refine n_iadd dL_law_262 ?_
  refine g_sald dL_law_263 (ixD_nI (by omega) (by omega)) ?_
  refine g_aload_n dL_law_264 rfl ?_
  refine g_iload_n dL_law_265 rfl ?_
  refine g_iconst dL_law_266 ic_2 ?_
  refine n_iadd dL_law_267 ?_
  refine g_sald dL_law_268 (ixD_nI (by omega) (by omega)) ?_
  refine g_aload_n dL_law_269 rfl ?_
  refine g_iload_n dL_law_270 rfl ?_
  refine g_iconst dL_law_271 ic_3 ?_
  refine n_iadd dL_law_272 ?_
  refine g_sald dL_law_273 (ixD_nI (by omega) (by omega)) ?_
  refine g_aload_n dL_law_274 rfl ?_
  refine g_iload_n dL_law_275 rfl ?_
  refine g_iconst dL_law_276 ic_4 ?_
  refine n_iadd dL_law_277 ?_
  refine g_sald dL_law_278 (ixD_nI (by omega) (by omega)) ?_
  refine g_v4 (M' := KR_item) dL_law_279 l_Z_26 v_KR_item e2 rc_84 HH_len rfl ⟨rfl, rfl⟩ ?_
  refine g_icmp_eq (tgt := 960) dL_law_282 rfl (fun _ => ?_) (fun h => absurd rfl h)
  exact kk σ2 δ1 hT2
set_option maxRecDepth 100000 in
set_option maxHeartbeats 200000 in
theorem z_drops {sc : XS} {R : Option Value → XH → Prop} {σ : SI} {δ : SD} {i : Nat} (hi : i + 5 ≤ sc.1) (hs : sc.1 ≤ 2560) (hT : InvT σ) (kk : ∀ σ' δ', InvT σ' → G sc KZ_law 960 (aL [some (.ref 0), some (.ref 5), some (.ref 84), some (.int (nI i))]) [] (HH σ' δ') (89, 4247) R) : G sc KZ_law 287 (aL [some (.ref 0), some (.ref 5), some (.ref 84), some (.int (nI i))]) [] (HH σ δ) (89, 4247) R := by
  obtain ⟨r, σ1, δ1, σ2, e1, e2, hT2, hrk⟩ := (show Step KP_drops KR_drops [.int (sc.2 (i + 1))] σ δ from step_drops hT)
  obtain ⟨z, rfl⟩ := rOK_int hrk
  refine g_aload_n dL_law_287 rfl ?_
  refine g_aload_n dL_law_288 rfl ?_
  refine g_iload_n dL_law_289 rfl ?_
  refine g_iconst dL_law_290 ic_1 ?_
  refine n_iadd dL_law_291 ?_
  refine g_sald dL_law_292 (ixD_nI (by omega) (by omega)) ?_
  refine g_v1 (M' := KP_drops) dL_law_293 l_Z_27 v_KP_drops e1 rc_5 HH_len rfl ⟨rfl, rfl⟩ ?_
  refine g_aload_n dL_law_296 rfl ?_
  refine g_aload_n dL_law_297 rfl ?_
  refine g_iload_n dL_law_298 rfl ?_
  refine g_iconst dL_law_299 ic_1 ?_
  refine n_iadd dL_law_300 ?_
  refine g_sald dL_law_301 (ixD_nI (by omega) (by omega)) ?_
  refine g_v1 (M' := KR_drops) dL_law_302 l_Z_31 v_KR_drops e2 rc_84 HH_len rfl ⟨rfl, rfl⟩ ?_
  refine g_icmp_eq (tgt := 960) dL_law_305 rfl (fun _ => ?_) (fun h => absurd rfl h)
  exact kk σ2 δ1 hT2
set_option maxRecDepth 100000 in
set_option maxHeartbeats 200000 in
theorem z_becomes {sc : XS} {R : Option Value → XH → Prop} {σ : SI} {δ : SD} {i : Nat} (hi : i + 5 ≤ sc.1) (hs : sc.1 ≤ 2560) (hT : InvT σ) (kk : ∀ σ' δ', InvT σ' → G sc KZ_law 960 (aL [some (.ref 0), some (.ref 5), some (.ref 84), some (.int (nI i))]) [] (HH σ' δ') (89, 4247) R) : G sc KZ_law 310 (aL [some (.ref 0), some (.ref 5), some (.ref 84), some (.int (nI i))]) [] (HH σ δ) (89, 4247) R := by
  obtain ⟨r, σ1, δ1, σ2, e1, e2, hT2, hrk⟩ := (show Step KP_becomes KR_becomes [.int (sc.2 (i + 1)), .int (sc.2 (i + 2)), .int (sc.2 (i + 3))] σ δ from step_becomes hT)
  obtain ⟨z, rfl⟩ := rOK_int hrk
  refine g_aload_n dL_law_310 rfl ?_
  refine g_aload_n dL_law_311 rfl ?_
  refine g_iload_n dL_law_312 rfl ?_
  refine g_iconst dL_law_313 ic_1 ?_
  refine n_iadd dL_law_314 ?_
  refine g_sald dL_law_315 (ixD_nI (by omega) (by omega)) ?_
  refine g_aload_n dL_law_316 rfl ?_
  refine g_iload_n dL_law_317 rfl ?_
  refine g_iconst dL_law_318 ic_2 ?_
  refine n_iadd dL_law_319 ?_
  refine g_sald dL_law_320 (ixD_nI (by omega) (by omega)) ?_
  refine g_aload_n dL_law_321 rfl ?_
  refine g_iload_n dL_law_322 rfl ?_
  refine g_iconst dL_law_323 ic_3 ?_
  refine n_iadd dL_law_324 ?_
  refine g_sald dL_law_325 (ixD_nI (by omega) (by omega)) ?_
  refine g_v3 (M' := KP_becomes) dL_law_326 l_Z_32 v_KP_becomes e1 rc_5 HH_len rfl ⟨rfl, rfl⟩ ?_
  refine g_aload_n dL_law_329 rfl ?_
  refine g_aload_n dL_law_330 rfl ?_
  refine g_iload_n dL_law_331 rfl ?_
  refine g_iconst dL_law_332 ic_1 ?_
  refine n_iadd dL_law_333 ?_
  refine g_sald dL_law_334 (ixD_nI (by omega) (by omega)) ?_
  refine g_aload_n dL_law_335 rfl ?_
  refine g_iload_n dL_law_336 rfl ?_
  refine g_iconst dL_law_337 ic_2 ?_
  refine n_iadd dL_law_338 ?_
  refine g_sald dL_law_339 (ixD_nI (by omega) (by omega)) ?_
  refine g_aload_n dL_law_340 rfl ?_
  refine g_iload_n dL_law_341 rfl ?_
  refine g_iconst dL_law_342 ic_3 ?_
  refine n_iadd dL_law_343 ?_
  refine g_sald dL_law_344 (ixD_nI (by omega) (by omega)) ?_
  refine g_v3 (M' := KR_becomes) dL_law_345 l_Z_36 v_KR_becomes e2 rc_84 HH_len rfl ⟨rfl, rfl⟩ ?_
  refine g_icmp_eq (tgt := 960) dL_law_348 rfl (fun _ => ?_) (fun h => absurd rfl h)
  exact kk σ2 δ1 hT2
set_option maxRecDepth 100000 in
set_option maxHeartbeats 200000 in
theorem z_of {sc : XS} {R : Option Value → XH → Prop} {σ : SI} {δ : SD} {i : Nat} (hi : i + 5 ≤ sc.1) (hs : sc.1 ≤ 2560) (hT : InvT σ) (kk : ∀ σ' δ', InvT σ' → G sc KZ_law 960 (aL [some (.ref 0), some (.ref 5), some (.ref 84), some (.int (nI i))]) [] (HH σ' δ') (89, 4247) R) : G sc KZ_law 353 (aL [some (.ref 0), some (.ref 5), some (.ref 84), some (.int (nI i))]) [] (HH σ δ) (89, 4247) R := by
  obtain ⟨r, σ1, δ1, σ2, e1, e2, hT2, hrk⟩ := (show Step KP_of KR_of [.int (sc.2 (i + 1)), .int (sc.2 (i + 2))] σ δ from step_of hT)
  obtain ⟨z, rfl⟩ := rOK_int hrk
  refine g_aload_n dL_law_353 rfl ?_
  refine g_aload_n dL_law_354 rfl ?_
  refine g_iload_n dL_law_355 rfl ?_
  refine g_iconst dL_law_356 ic_1 ?_
  refine n_iadd dL_law_357 ?_
  refine g_sald dL_law_358 (ixD_nI (by omega) (by omega)) ?_
  refine g_aload_n dL_law_359 rfl ?_
  refine g_iload_n dL_law_360 rfl ?_
  refine g_iconst dL_law_361 ic_2 ?_
  refine n_iadd dL_law_362 ?_
  refine g_sald dL_law_363 (ixD_nI (by omega) (by omega)) ?_
  refine g_v2 (M' := KP_of) dL_law_364 l_Z_37 v_KP_of e1 rc_5 HH_len rfl ⟨rfl, rfl⟩ ?_
  refine g_aload_n dL_law_367 rfl ?_
  refine g_aload_n dL_law_368 rfl ?_
  refine g_iload_n dL_law_369 rfl ?_
  refine g_iconst dL_law_370 ic_1 ?_
  refine n_iadd dL_law_371 ?_
  refine g_sald dL_law_372 (ixD_nI (by omega) (by omega)) ?_
  refine g_aload_n dL_law_373 rfl ?_
  refine g_iload_n dL_law_374 rfl ?_
  refine g_iconst dL_law_375 ic_2 ?_
  refine n_iadd dL_law_376 ?_
  refine g_sald dL_law_377 (ixD_nI (by omega) (by omega)) ?_
  refine g_v2 (M' := KR_of) dL_law_378 l_Z_40 v_KR_of e2 rc_84 HH_len rfl ⟨rfl, rfl⟩ ?_
  refine g_icmp_eq (tgt := 960) dL_law_381 rfl (fun _ => ?_) (fun h => absurd rfl h)
  exact kk σ2 δ1 hT2
set_option maxRecDepth 100000 in
set_option maxHeartbeats 200000 in
theorem z_side {sc : XS} {R : Option Value → XH → Prop} {σ : SI} {δ : SD} {i : Nat} (hi : i + 5 ≤ sc.1) (hs : sc.1 ≤ 2560) (hT : InvT σ) (kk : ∀ σ' δ', InvT σ' → G sc KZ_law 960 (aL [some (.ref 0), some (.ref 5), some (.ref 84), some (.int (nI i))]) [] (HH σ' δ') (89, 4247) R) : G sc KZ_law 386 (aL [some (.ref 0), some (.ref 5), some (.ref 84), some (.int (nI i))]) [] (HH σ δ) (89, 4247) R := by
  obtain ⟨r, σ1, δ1, σ2, e1, e2, hT2, hrk⟩ := (show Step KP_side KR_side [.int (sc.2 (i + 1))] σ δ from step_side hT)
  obtain ⟨z, rfl⟩ := rOK_int hrk
  refine g_aload_n dL_law_386 rfl ?_
  refine g_aload_n dL_law_387 rfl ?_
  refine g_iload_n dL_law_388 rfl ?_
  refine g_iconst dL_law_389 ic_1 ?_
  refine n_iadd dL_law_390 ?_
  refine g_sald dL_law_391 (ixD_nI (by omega) (by omega)) ?_
  refine g_v1 (M' := KP_side) dL_law_392 l_Z_41 v_KP_side e1 rc_5 HH_len rfl ⟨rfl, rfl⟩ ?_
  refine g_aload_n dL_law_395 rfl ?_
  refine g_aload_n dL_law_396 rfl ?_
  refine g_iload_n dL_law_397 rfl ?_
  refine g_iconst dL_law_398 ic_1 ?_
  refine n_iadd dL_law_399 ?_
  refine g_sald dL_law_400 (ixD_nI (by omega) (by omega)) ?_
  refine g_v1 (M' := KR_side) dL_law_401 l_Z_44 v_KR_side e2 rc_84 HH_len rfl ⟨rfl, rfl⟩ ?_
  refine g_icmp_eq (tgt := 960) dL_law_404 rfl (fun _ => ?_) (fun h => absurd rfl h)
  exact kk σ2 δ1 hT2
set_option maxRecDepth 100000 in
set_option maxHeartbeats 200000 in
theorem z_line {sc : XS} {R : Option Value → XH → Prop} {σ : SI} {δ : SD} {i : Nat} (hi : i + 5 ≤ sc.1) (hs : sc.1 ≤ 2560) (hT : InvT σ) (kk : ∀ σ' δ', InvT σ' → G sc KZ_law 960 (aL [some (.ref 0), some (.ref 5), some (.ref 84), some (.int (nI i))]) [] (HH σ' δ') (89, 4247) R) : G sc KZ_law 409 (aL [some (.ref 0), some (.ref 5), some (.ref 84), some (.int (nI i))]) [] (HH σ δ) (89, 4247) R := by
  obtain ⟨r, σ1, δ1, σ2, e1, e2, hT2, hrk⟩ := (show Step KP_line KR_line [.int (sc.2 (i + 1))] σ δ from step_line hT)
  obtain ⟨z, rfl⟩ := rOK_int hrk
  refine g_aload_n dL_law_409 rfl ?_
  refine g_aload_n dL_law_410 rfl ?_
  refine g_iload_n dL_law_411 rfl ?_
  refine g_iconst dL_law_412 ic_1 ?_
  refine n_iadd dL_law_413 ?_
  refine g_sald dL_law_414 (ixD_nI (by omega) (by omega)) ?_
  refine g_v1 (M' := KP_line) dL_law_415 l_Z_45 v_KP_line e1 rc_5 HH_len rfl ⟨rfl, rfl⟩ ?_
  refine g_aload_n dL_law_418 rfl ?_
  refine g_aload_n dL_law_419 rfl ?_
  refine g_iload_n dL_law_420 rfl ?_
  refine g_iconst dL_law_421 ic_1 ?_
  refine n_iadd dL_law_422 ?_
  refine g_sald dL_law_423 (ixD_nI (by omega) (by omega)) ?_
  refine g_v1 (M' := KR_line) dL_law_424 l_Z_48 v_KR_line e2 rc_84 HH_len rfl ⟨rfl, rfl⟩ ?_
  refine g_icmp_eq (tgt := 960) dL_law_427 rfl (fun _ => ?_) (fun h => absurd rfl h)
  exact kk σ2 δ1 hT2
set_option maxRecDepth 100000 in
set_option maxHeartbeats 200000 in
theorem z_lays {sc : XS} {R : Option Value → XH → Prop} {σ : SI} {δ : SD} {i : Nat} (hi : i + 5 ≤ sc.1) (hs : sc.1 ≤ 2560) (hT : InvT σ) (kk : ∀ σ' δ', InvT σ' → G sc KZ_law 960 (aL [some (.ref 0), some (.ref 5), some (.ref 84), some (.int (nI i))]) [] (HH σ' δ') (89, 4247) R) : G sc KZ_law 432 (aL [some (.ref 0), some (.ref 5), some (.ref 84), some (.int (nI i))]) [] (HH σ δ) (89, 4247) R := by
  obtain ⟨r, σ1, δ1, σ2, e1, e2, hT2, hrk⟩ := (show Step KP_lays KR_lays [.int (sc.2 (i + 1)), .int (sc.2 (i + 2)), .int (sc.2 (i + 3))] σ δ from step_lays hT)
  obtain ⟨z, rfl⟩ := rOK_int hrk
  refine g_aload_n dL_law_432 rfl ?_
  refine g_aload_n dL_law_433 rfl ?_
  refine g_iload_n dL_law_434 rfl ?_
  refine g_iconst dL_law_435 ic_1 ?_
  refine n_iadd dL_law_436 ?_
  refine g_sald dL_law_437 (ixD_nI (by omega) (by omega)) ?_
  refine g_aload_n dL_law_438 rfl ?_
  refine g_iload_n dL_law_439 rfl ?_
  refine g_iconst dL_law_440 ic_2 ?_
  refine n_iadd dL_law_441 ?_
  refine g_sald dL_law_442 (ixD_nI (by omega) (by omega)) ?_
  refine g_aload_n dL_law_443 rfl ?_
  refine g_iload_n dL_law_444 rfl ?_
  refine g_iconst dL_law_445 ic_3 ?_
  refine n_iadd dL_law_446 ?_
  refine g_sald dL_law_447 (ixD_nI (by omega) (by omega)) ?_
  refine g_v3 (M' := KP_lays) dL_law_448 l_Z_49 v_KP_lays e1 rc_5 HH_len rfl ⟨rfl, rfl⟩ ?_
  refine g_aload_n dL_law_451 rfl ?_
  refine g_aload_n dL_law_452 rfl ?_
  refine g_iload_n dL_law_453 rfl ?_
  refine g_iconst dL_law_454 ic_1 ?_
  refine n_iadd dL_law_455 ?_
  refine g_sald dL_law_456 (ixD_nI (by omega) (by omega)) ?_
  refine g_aload_n dL_law_457 rfl ?_
  refine g_iload_n dL_law_458 rfl ?_
  refine g_iconst dL_law_459 ic_2 ?_
  refine n_iadd dL_law_460 ?_
  refine g_sald dL_law_461 (ixD_nI (by omega) (by omega)) ?_
  refine g_aload_n dL_law_462 rfl ?_
  refine g_iload_n dL_law_463 rfl ?_
  refine g_iconst dL_law_464 ic_3 ?_
  refine n_iadd dL_law_465 ?_
  refine g_sald dL_law_466 (ixD_nI (by omega) (by omega)) ?_
  refine g_v3 (M' := KR_lays) dL_law_467 l_Z_52 v_KR_lays e2 rc_84 HH_len rfl ⟨rfl, rfl⟩ ?_
  refine g_icmp_eq (tgt := 960) dL_law_470 rfl (fun _ => ?_) (fun h => absurd rfl h)
  exact kk σ2 δ1 hT2
set_option maxRecDepth 100000 in
set_option maxHeartbeats 200000 in
theorem z_off {sc : XS} {R : Option Value → XH → Prop} {σ : SI} {δ : SD} {i : Nat} (hi : i + 5 ≤ sc.1) (hs : sc.1 ≤ 2560) (hT : InvT σ) (kk : ∀ σ' δ', InvT σ' → G sc KZ_law 960 (aL [some (.ref 0), some (.ref 5), some (.ref 84), some (.int (nI i))]) [] (HH σ' δ') (89, 4247) R) : G sc KZ_law 475 (aL [some (.ref 0), some (.ref 5), some (.ref 84), some (.int (nI i))]) [] (HH σ δ) (89, 4247) R := by
  obtain ⟨r, σ1, δ1, σ2, e1, e2, hT2, hrk⟩ := (show Step KP_off KR_off [.int (sc.2 (i + 1))] σ δ from step_off hT)
  obtain ⟨z, rfl⟩ := rOK_int hrk
  refine g_aload_n dL_law_475 rfl ?_
  refine g_aload_n dL_law_476 rfl ?_
  refine g_iload_n dL_law_477 rfl ?_
  refine g_iconst dL_law_478 ic_1 ?_
  refine n_iadd dL_law_479 ?_
  refine g_sald dL_law_480 (ixD_nI (by omega) (by omega)) ?_
  refine g_v1 (M' := KP_off) dL_law_481 l_Z_53 v_KP_off e1 rc_5 HH_len rfl ⟨rfl, rfl⟩ ?_
  refine g_aload_n dL_law_484 rfl ?_
  refine g_aload_n dL_law_485 rfl ?_
  refine g_iload_n dL_law_486 rfl ?_
  refine g_iconst dL_law_487 ic_1 ?_
  refine n_iadd dL_law_488 ?_
  refine g_sald dL_law_489 (ixD_nI (by omega) (by omega)) ?_
  refine g_v1 (M' := KR_off) dL_law_490 l_Z_56 v_KR_off e2 rc_84 HH_len rfl ⟨rfl, rfl⟩ ?_
  refine g_icmp_eq (tgt := 960) dL_law_493 rfl (fun _ => ?_) (fun h => absurd rfl h)
  exact kk σ2 δ1 hT2
set_option maxRecDepth 100000 in
set_option maxHeartbeats 200000 in
theorem z_swaps {sc : XS} {R : Option Value → XH → Prop} {σ : SI} {δ : SD} {i : Nat} (hi : i + 5 ≤ sc.1) (hs : sc.1 ≤ 2560) (hT : InvT σ) (kk : ∀ σ' δ', InvT σ' → G sc KZ_law 960 (aL [some (.ref 0), some (.ref 5), some (.ref 84), some (.int (nI i))]) [] (HH σ' δ') (89, 4247) R) : G sc KZ_law 498 (aL [some (.ref 0), some (.ref 5), some (.ref 84), some (.int (nI i))]) [] (HH σ δ) (89, 4247) R := by
  obtain ⟨r, σ1, δ1, σ2, e1, e2, hT2, hrk⟩ := (show Step KP_swaps KR_swaps [.int (sc.2 (i + 1)), .int (sc.2 (i + 2))] σ δ from step_swaps hT)
  obtain ⟨z, rfl⟩ := rOK_int hrk
  refine g_aload_n dL_law_498 rfl ?_
  refine g_aload_n dL_law_499 rfl ?_
  refine g_iload_n dL_law_500 rfl ?_
  refine g_iconst dL_law_501 ic_1 ?_
  refine n_iadd dL_law_502 ?_
  refine g_sald dL_law_503 (ixD_nI (by omega) (by omega)) ?_
  refine g_aload_n dL_law_504 rfl ?_
  refine g_iload_n dL_law_505 rfl ?_
  refine g_iconst dL_law_506 ic_2 ?_
  refine n_iadd dL_law_507 ?_
  refine g_sald dL_law_508 (ixD_nI (by omega) (by omega)) ?_
  refine g_v2 (M' := KP_swaps) dL_law_509 l_Z_57 v_KP_swaps e1 rc_5 HH_len rfl ⟨rfl, rfl⟩ ?_
  refine g_aload_n dL_law_512 rfl ?_
  refine g_aload_n dL_law_513 rfl ?_
  refine g_iload_n dL_law_514 rfl ?_
  refine g_iconst dL_law_515 ic_1 ?_
  refine n_iadd dL_law_516 ?_
  refine g_sald dL_law_517 (ixD_nI (by omega) (by omega)) ?_
  refine g_aload_n dL_law_518 rfl ?_
  refine g_iload_n dL_law_519 rfl ?_
  refine g_iconst dL_law_520 ic_2 ?_
  refine n_iadd dL_law_521 ?_
  refine g_sald dL_law_522 (ixD_nI (by omega) (by omega)) ?_
  refine g_v2 (M' := KR_swaps) dL_law_523 l_Z_60 v_KR_swaps e2 rc_84 HH_len rfl ⟨rfl, rfl⟩ ?_
  refine g_icmp_eq (tgt := 960) dL_law_526 rfl (fun _ => ?_) (fun h => absurd rfl h)
  exact kk σ2 δ1 hT2
set_option maxRecDepth 100000 in
set_option maxHeartbeats 200000 in
theorem z_fits {sc : XS} {R : Option Value → XH → Prop} {σ : SI} {δ : SD} {i : Nat} (hi : i + 5 ≤ sc.1) (hs : sc.1 ≤ 2560) (hT : InvT σ) (kk : ∀ σ' δ', InvT σ' → G sc KZ_law 960 (aL [some (.ref 0), some (.ref 5), some (.ref 84), some (.int (nI i))]) [] (HH σ' δ') (89, 4247) R) : G sc KZ_law 531 (aL [some (.ref 0), some (.ref 5), some (.ref 84), some (.int (nI i))]) [] (HH σ δ) (89, 4247) R := by
  obtain ⟨r, σ1, δ1, σ2, e1, e2, hT2, hrk⟩ := (show Step KP_fits KR_fits [.int (sc.2 (i + 1)), .int (sc.2 (i + 2)), .int (sc.2 (i + 3))] σ δ from step_fits hT)
  obtain ⟨z, rfl⟩ := rOK_int hrk
  refine g_aload_n dL_law_531 rfl ?_
  refine g_aload_n dL_law_532 rfl ?_
  refine g_iload_n dL_law_533 rfl ?_
  refine g_iconst dL_law_534 ic_1 ?_
  refine n_iadd dL_law_535 ?_
  refine g_sald dL_law_536 (ixD_nI (by omega) (by omega)) ?_
  refine g_aload_n dL_law_537 rfl ?_
  refine g_iload_n dL_law_538 rfl ?_
  refine g_iconst dL_law_539 ic_2 ?_
  refine n_iadd dL_law_540 ?_
  refine g_sald dL_law_541 (ixD_nI (by omega) (by omega)) ?_
  refine g_aload_n dL_law_542 rfl ?_
  refine g_iload_n dL_law_543 rfl ?_
  refine g_iconst dL_law_544 ic_3 ?_
  refine n_iadd dL_law_545 ?_
  refine g_sald dL_law_546 (ixD_nI (by omega) (by omega)) ?_
  refine g_v3 (M' := KP_fits) dL_law_547 l_Z_61 v_KP_fits e1 rc_5 HH_len rfl ⟨rfl, rfl⟩ ?_
  refine g_aload_n dL_law_550 rfl ?_
  refine g_aload_n dL_law_551 rfl ?_
  refine g_iload_n dL_law_552 rfl ?_
  refine g_iconst dL_law_553 ic_1 ?_
  refine n_iadd dL_law_554 ?_
  refine g_sald dL_law_555 (ixD_nI (by omega) (by omega)) ?_
  refine g_aload_n dL_law_556 rfl ?_
  refine g_iload_n dL_law_557 rfl ?_
  refine g_iconst dL_law_558 ic_2 ?_
  refine n_iadd dL_law_559 ?_
  refine g_sald dL_law_560 (ixD_nI (by omega) (by omega)) ?_
  refine g_aload_n dL_law_561 rfl ?_
  refine g_iload_n dL_law_562 rfl ?_
  refine g_iconst dL_law_563 ic_3 ?_
  refine n_iadd dL_law_564 ?_
  refine g_sald dL_law_565 (ixD_nI (by omega) (by omega)) ?_
  refine g_v3 (M' := KR_fits) dL_law_566 l_Z_64 v_KR_fits e2 rc_84 HH_len rfl ⟨rfl, rfl⟩ ?_
  refine g_icmp_eq (tgt := 960) dL_law_569 rfl (fun _ => ?_) (fun h => absurd rfl h)
  exact kk σ2 δ1 hT2
set_option maxRecDepth 100000 in
set_option maxHeartbeats 200000 in
theorem z_free {sc : XS} {R : Option Value → XH → Prop} {σ : SI} {δ : SD} {i : Nat} (hi : i + 5 ≤ sc.1) (hs : sc.1 ≤ 2560) (hT : InvT σ) (kk : ∀ σ' δ', InvT σ' → G sc KZ_law 960 (aL [some (.ref 0), some (.ref 5), some (.ref 84), some (.int (nI i))]) [] (HH σ' δ') (89, 4247) R) : G sc KZ_law 574 (aL [some (.ref 0), some (.ref 5), some (.ref 84), some (.int (nI i))]) [] (HH σ δ) (89, 4247) R := by
  obtain ⟨r, σ1, δ1, σ2, e1, e2, hT2, hrk⟩ := (show Step KP_free KR_free [.int (sc.2 (i + 1)), .int (sc.2 (i + 2))] σ δ from step_free hT)
  obtain ⟨z, rfl⟩ := rOK_int hrk
  refine g_aload_n dL_law_574 rfl ?_
  refine g_aload_n dL_law_575 rfl ?_
  refine g_iload_n dL_law_576 rfl ?_
  refine g_iconst dL_law_577 ic_1 ?_
  refine n_iadd dL_law_578 ?_
  refine g_sald dL_law_579 (ixD_nI (by omega) (by omega)) ?_
  refine g_aload_n dL_law_580 rfl ?_
  refine g_iload_n dL_law_581 rfl ?_
  refine g_iconst dL_law_582 ic_2 ?_
  refine n_iadd dL_law_583 ?_
  refine g_sald dL_law_584 (ixD_nI (by omega) (by omega)) ?_
  refine g_v2 (M' := KP_free) dL_law_585 l_Z_65 v_KP_free e1 rc_5 HH_len rfl ⟨rfl, rfl⟩ ?_
  refine g_aload_n dL_law_588 rfl ?_
  refine g_aload_n dL_law_589 rfl ?_
  refine g_iload_n dL_law_590 rfl ?_
  refine g_iconst dL_law_591 ic_1 ?_
  refine n_iadd dL_law_592 ?_
  refine g_sald dL_law_593 (ixD_nI (by omega) (by omega)) ?_
  refine g_aload_n dL_law_594 rfl ?_
  refine g_iload_n dL_law_595 rfl ?_
  refine g_iconst dL_law_596 ic_2 ?_
  refine n_iadd dL_law_597 ?_
  refine g_sald dL_law_598 (ixD_nI (by omega) (by omega)) ?_
  refine g_v2 (M' := KR_free) dL_law_599 l_Z_68 v_KR_free e2 rc_84 HH_len rfl ⟨rfl, rfl⟩ ?_
  refine g_icmp_eq (tgt := 960) dL_law_602 rfl (fun _ => ?_) (fun h => absurd rfl h)
  exact kk σ2 δ1 hT2
set_option maxRecDepth 100000 in
set_option maxHeartbeats 200000 in
theorem z_packs {sc : XS} {R : Option Value → XH → Prop} {σ : SI} {δ : SD} {i : Nat} (hi : i + 5 ≤ sc.1) (hs : sc.1 ≤ 2560) (hT : InvT σ) (kk : ∀ σ' δ', InvT σ' → G sc KZ_law 960 (aL [some (.ref 0), some (.ref 5), some (.ref 84), some (.int (nI i))]) [] (HH σ' δ') (89, 4247) R) : G sc KZ_law 607 (aL [some (.ref 0), some (.ref 5), some (.ref 84), some (.int (nI i))]) [] (HH σ δ) (89, 4247) R := by
  obtain ⟨r, σ1, δ1, σ2, e1, e2, hT2, hrk⟩ := (show Step KP_packs KR_packs [] σ δ from step_packs hT)
  obtain ⟨z, rfl⟩ := rOK_int hrk
  refine g_aload_n dL_law_607 rfl ?_
  refine g_v0 (M' := KP_packs) dL_law_608 l_Z_69 v_KP_packs e1 rc_5 HH_len rfl ⟨rfl, rfl⟩ ?_
  refine g_aload_n dL_law_611 rfl ?_
  refine g_v0 (M' := KR_packs) dL_law_612 l_Z_73 v_KR_packs e2 rc_84 HH_len rfl ⟨rfl, rfl⟩ ?_
  refine g_icmp_eq (tgt := 960) dL_law_615 rfl (fun _ => ?_) (fun h => absurd rfl h)
  exact kk σ2 δ1 hT2
set_option maxRecDepth 100000 in
set_option maxHeartbeats 200000 in
theorem z_tidies {sc : XS} {R : Option Value → XH → Prop} {σ : SI} {δ : SD} {i : Nat} (hi : i + 5 ≤ sc.1) (hs : sc.1 ≤ 2560) (hT : InvT σ) (kk : ∀ σ' δ', InvT σ' → G sc KZ_law 960 (aL [some (.ref 0), some (.ref 5), some (.ref 84), some (.int (nI i))]) [] (HH σ' δ') (89, 4247) R) : G sc KZ_law 620 (aL [some (.ref 0), some (.ref 5), some (.ref 84), some (.int (nI i))]) [] (HH σ δ) (89, 4247) R := by
  obtain ⟨r, σ1, δ1, σ2, e1, e2, hT2, hrk⟩ := (show Step KP_tidies KR_tidies [] σ δ from step_tidies hT)
  obtain ⟨z, rfl⟩ := rOK_int hrk
  refine g_aload_n dL_law_620 rfl ?_
  refine g_v0 (M' := KP_tidies) dL_law_621 l_Z_74 v_KP_tidies e1 rc_5 HH_len rfl ⟨rfl, rfl⟩ ?_
  refine g_aload_n dL_law_624 rfl ?_
  refine g_v0 (M' := KR_tidies) dL_law_625 l_Z_77 v_KR_tidies e2 rc_84 HH_len rfl ⟨rfl, rfl⟩ ?_
  refine g_icmp_eq (tgt := 960) dL_law_628 rfl (fun _ => ?_) (fun h => absurd rfl h)
  exact kk σ2 δ1 hT2
set_option maxRecDepth 100000 in
set_option maxHeartbeats 200000 in
theorem z_stays {sc : XS} {R : Option Value → XH → Prop} {σ : SI} {δ : SD} {i : Nat} (hi : i + 5 ≤ sc.1) (hs : sc.1 ≤ 2560) (hT : InvT σ) (kk : ∀ σ' δ', InvT σ' → G sc KZ_law 960 (aL [some (.ref 0), some (.ref 5), some (.ref 84), some (.int (nI i))]) [] (HH σ' δ') (89, 4247) R) : G sc KZ_law 633 (aL [some (.ref 0), some (.ref 5), some (.ref 84), some (.int (nI i))]) [] (HH σ δ) (89, 4247) R := by
  obtain ⟨r, σ1, δ1, σ2, e1, e2, hT2, hrk⟩ := (show Step KP_stays KR_stays [] σ δ from step_stays hT)
  obtain ⟨z, rfl⟩ := rOK_int hrk
  refine g_aload_n dL_law_633 rfl ?_
  refine g_v0 (M' := KP_stays) dL_law_634 l_Z_78 v_KP_stays e1 rc_5 HH_len rfl ⟨rfl, rfl⟩ ?_
  refine g_aload_n dL_law_637 rfl ?_
  refine g_v0 (M' := KR_stays) dL_law_638 l_Z_81 v_KR_stays e2 rc_84 HH_len rfl ⟨rfl, rfl⟩ ?_
  refine g_icmp_eq (tgt := 960) dL_law_641 rfl (fun _ => ?_) (fun h => absurd rfl h)
  exact kk σ2 δ1 hT2
set_option maxRecDepth 100000 in
set_option maxHeartbeats 200000 in
theorem z_at {sc : XS} {R : Option Value → XH → Prop} {σ : SI} {δ : SD} {i : Nat} (hi : i + 5 ≤ sc.1) (hs : sc.1 ≤ 2560) (hT : InvT σ) (kk : ∀ σ' δ', InvT σ' → G sc KZ_law 960 (aL [some (.ref 0), some (.ref 5), some (.ref 84), some (.int (nI i))]) [] (HH σ' δ') (89, 4247) R) : G sc KZ_law 646 (aL [some (.ref 0), some (.ref 5), some (.ref 84), some (.int (nI i))]) [] (HH σ δ) (89, 4247) R := by
  obtain ⟨r, σ1, δ1, σ2, e1, e2, hT2, hrk⟩ := (show Step KP_at KR_at [.int (sc.2 (i + 1)), .int (sc.2 (i + 2))] σ δ from step_at hT)
  obtain ⟨z, rfl⟩ := rOK_int hrk
  refine g_aload_n dL_law_646 rfl ?_
  refine g_aload_n dL_law_647 rfl ?_
  refine g_iload_n dL_law_648 rfl ?_
  refine g_iconst dL_law_649 ic_1 ?_
  refine n_iadd dL_law_650 ?_
  refine g_sald dL_law_651 (ixD_nI (by omega) (by omega)) ?_
  refine g_aload_n dL_law_652 rfl ?_
  refine g_iload_n dL_law_653 rfl ?_
  refine g_iconst dL_law_654 ic_2 ?_
  refine n_iadd dL_law_655 ?_
  refine g_sald dL_law_656 (ixD_nI (by omega) (by omega)) ?_
  refine g_v2 (M' := KP_at) dL_law_657 l_Z_82 v_KP_at e1 rc_5 HH_len rfl ⟨rfl, rfl⟩ ?_
  refine g_aload_n dL_law_660 rfl ?_
  refine g_aload_n dL_law_661 rfl ?_
  refine g_iload_n dL_law_662 rfl ?_
  refine g_iconst dL_law_663 ic_1 ?_
  refine n_iadd dL_law_664 ?_
  refine g_sald dL_law_665 (ixD_nI (by omega) (by omega)) ?_
  refine g_aload_n dL_law_666 rfl ?_
  refine g_iload_n dL_law_667 rfl ?_
  refine g_iconst dL_law_668 ic_2 ?_
  refine n_iadd dL_law_669 ?_
  refine g_sald dL_law_670 (ixD_nI (by omega) (by omega)) ?_
  refine g_v2 (M' := KR_at) dL_law_671 l_Z_85 v_KR_at e2 rc_84 HH_len rfl ⟨rfl, rfl⟩ ?_
  refine g_icmp_eq (tgt := 960) dL_law_674 rfl (fun _ => ?_) (fun h => absurd rfl h)
  exact kk σ2 δ1 hT2
set_option maxRecDepth 100000 in
set_option maxHeartbeats 200000 in
theorem z_white {sc : XS} {R : Option Value → XH → Prop} {σ : SI} {δ : SD} {i : Nat} (hi : i + 5 ≤ sc.1) (hs : sc.1 ≤ 2560) (hT : InvT σ) (kk : ∀ σ' δ', InvT σ' → G sc KZ_law 960 (aL [some (.ref 0), some (.ref 5), some (.ref 84), some (.int (nI i))]) [] (HH σ' δ') (89, 4247) R) : G sc KZ_law 679 (aL [some (.ref 0), some (.ref 5), some (.ref 84), some (.int (nI i))]) [] (HH σ δ) (89, 4247) R := by
  obtain ⟨r, σ1, δ1, σ2, e1, e2, hT2, hrk⟩ := (show Step KP_white KR_white [.int (sc.2 (i + 1))] σ δ from step_white hT)
  obtain ⟨z, rfl⟩ := rOK_int hrk
  refine g_aload_n dL_law_679 rfl ?_
  refine g_aload_n dL_law_680 rfl ?_
  refine g_iload_n dL_law_681 rfl ?_
  refine g_iconst dL_law_682 ic_1 ?_
  refine n_iadd dL_law_683 ?_
  refine g_sald dL_law_684 (ixD_nI (by omega) (by omega)) ?_
  refine g_v1 (M' := KP_white) dL_law_685 l_Z_86 v_KP_white e1 rc_5 HH_len rfl ⟨rfl, rfl⟩ ?_
  refine g_aload_n dL_law_688 rfl ?_
  refine g_aload_n dL_law_689 rfl ?_
  refine g_iload_n dL_law_690 rfl ?_
  refine g_iconst dL_law_691 ic_1 ?_
  refine n_iadd dL_law_692 ?_
  refine g_sald dL_law_693 (ixD_nI (by omega) (by omega)) ?_
  refine g_v1 (M' := KR_white) dL_law_694 l_Z_89 v_KR_white e2 rc_84 HH_len rfl ⟨rfl, rfl⟩ ?_
  refine g_icmp_eq (tgt := 960) dL_law_697 rfl (fun _ => ?_) (fun h => absurd rfl h)
  exact kk σ2 δ1 hT2
set_option maxRecDepth 100000 in
set_option maxHeartbeats 200000 in
theorem z_centre {sc : XS} {R : Option Value → XH → Prop} {σ : SI} {δ : SD} {i : Nat} (hi : i + 5 ≤ sc.1) (hs : sc.1 ≤ 2560) (hT : InvT σ) (kk : ∀ σ' δ', InvT σ' → G sc KZ_law 960 (aL [some (.ref 0), some (.ref 5), some (.ref 84), some (.int (nI i))]) [] (HH σ' δ') (89, 4247) R) : G sc KZ_law 702 (aL [some (.ref 0), some (.ref 5), some (.ref 84), some (.int (nI i))]) [] (HH σ δ) (89, 4247) R := by
  obtain ⟨r, σ1, δ1, σ2, e1, e2, hT2, hrk⟩ := (show Step KP_centre KR_centre [.int (sc.2 (i + 1))] σ δ from step_centre hT)
  obtain ⟨z, rfl⟩ := rOK_long hrk
  refine g_aload_n dL_law_702 rfl ?_
  refine g_aload_n dL_law_703 rfl ?_
  refine g_iload_n dL_law_704 rfl ?_
  refine g_iconst dL_law_705 ic_1 ?_
  refine n_iadd dL_law_706 ?_
  refine g_sald dL_law_707 (ixD_nI (by omega) (by omega)) ?_
  refine g_v1 (M' := KP_centre) dL_law_708 l_Z_90 v_KP_centre e1 rc_5 HH_len rfl ⟨rfl, rfl⟩ ?_
  refine g_aload_n dL_law_711 rfl ?_
  refine g_aload_n dL_law_712 rfl ?_
  refine g_iload_n dL_law_713 rfl ?_
  refine g_iconst dL_law_714 ic_1 ?_
  refine n_iadd dL_law_715 ?_
  refine g_sald dL_law_716 (ixD_nI (by omega) (by omega)) ?_
  refine g_v1 (M' := KR_centre) dL_law_717 l_Z_94 v_KR_centre e2 rc_84 HH_len rfl ⟨rfl, rfl⟩ ?_
  refine g_lcmp dL_law_720 ?_
  refine g_if_eq (tgt := 960) dL_law_721 rfl (fun _ => ?_) (fun h => absurd lcmp_self h)
  exact kk σ2 δ1 hT2
set_option maxRecDepth 100000 in
set_option maxHeartbeats 200000 in
theorem z_all {sc : XS} {R : Option Value → XH → Prop} {σ : SI} {δ : SD} {i : Nat} (hi : i + 5 ≤ sc.1) (hs : sc.1 ≤ 2560) (hT : InvT σ) (kk : ∀ σ' δ', InvT σ' → G sc KZ_law 960 (aL [some (.ref 0), some (.ref 5), some (.ref 84), some (.int (nI i))]) [] (HH σ' δ') (89, 4247) R) : G sc KZ_law 726 (aL [some (.ref 0), some (.ref 5), some (.ref 84), some (.int (nI i))]) [] (HH σ δ) (89, 4247) R := by
  obtain ⟨r, σ1, δ1, σ2, e1, e2, hT2, hrk⟩ := (show Step KP_all KR_all [.int (sc.2 (i + 1))] σ δ from step_all hT)
  obtain ⟨z, rfl⟩ := rOK_int hrk
  refine g_aload_n dL_law_726 rfl ?_
  refine g_aload_n dL_law_727 rfl ?_
  refine g_iload_n dL_law_728 rfl ?_
  refine g_iconst dL_law_729 ic_1 ?_
  refine n_iadd dL_law_730 ?_
  refine g_sald dL_law_731 (ixD_nI (by omega) (by omega)) ?_
  refine g_v1 (M' := KP_all) dL_law_732 l_Z_95 v_KP_all e1 rc_5 HH_len rfl ⟨rfl, rfl⟩ ?_
  refine g_aload_n dL_law_735 rfl ?_
  refine g_aload_n dL_law_736 rfl ?_
  refine g_iload_n dL_law_737 rfl ?_
  refine g_iconst dL_law_738 ic_1 ?_
  refine n_iadd dL_law_739 ?_
  refine g_sald dL_law_740 (ixD_nI (by omega) (by omega)) ?_
  refine g_v1 (M' := KR_all) dL_law_741 l_Z_98 v_KR_all e2 rc_84 HH_len rfl ⟨rfl, rfl⟩ ?_
  refine g_icmp_eq (tgt := 960) dL_law_744 rfl (fun _ => ?_) (fun h => absurd rfl h)
  exact kk σ2 δ1 hT2
set_option maxRecDepth 100000 in
set_option maxHeartbeats 200000 in
theorem z_sorted {sc : XS} {R : Option Value → XH → Prop} {σ : SI} {δ : SD} {i : Nat} (hi : i + 5 ≤ sc.1) (hs : sc.1 ≤ 2560) (hT : InvT σ) (kk : ∀ σ' δ', InvT σ' → G sc KZ_law 960 (aL [some (.ref 0), some (.ref 5), some (.ref 84), some (.int (nI i))]) [] (HH σ' δ') (89, 4247) R) : G sc KZ_law 749 (aL [some (.ref 0), some (.ref 5), some (.ref 84), some (.int (nI i))]) [] (HH σ δ) (89, 4247) R := by
  obtain ⟨r, σ1, δ1, σ2, e1, e2, hT2, hrk⟩ := (show Step KP_sorted KR_sorted [.int (sc.2 (i + 1)), .int (sc.2 (i + 2))] σ δ from step_sorted hT)
  obtain ⟨z, rfl⟩ := rOK_int hrk
  refine g_aload_n dL_law_749 rfl ?_
  refine g_aload_n dL_law_750 rfl ?_
  refine g_iload_n dL_law_751 rfl ?_
  refine g_iconst dL_law_752 ic_1 ?_
  refine n_iadd dL_law_753 ?_
  refine g_sald dL_law_754 (ixD_nI (by omega) (by omega)) ?_
  refine g_aload_n dL_law_755 rfl ?_
  refine g_iload_n dL_law_756 rfl ?_
  refine g_iconst dL_law_757 ic_2 ?_
  refine n_iadd dL_law_758 ?_
  refine g_sald dL_law_759 (ixD_nI (by omega) (by omega)) ?_
  refine g_v2 (M' := KP_sorted) dL_law_760 l_Z_99 v_KP_sorted e1 rc_5 HH_len rfl ⟨rfl, rfl⟩ ?_
  refine g_aload_n dL_law_763 rfl ?_
  refine g_aload_n dL_law_764 rfl ?_
  refine g_iload_n dL_law_765 rfl ?_
  refine g_iconst dL_law_766 ic_1 ?_
  refine n_iadd dL_law_767 ?_
  refine g_sald dL_law_768 (ixD_nI (by omega) (by omega)) ?_
  refine g_aload_n dL_law_769 rfl ?_
  refine g_iload_n dL_law_770 rfl ?_
  refine g_iconst dL_law_771 ic_2 ?_
  refine n_iadd dL_law_772 ?_
  refine g_sald dL_law_773 (ixD_nI (by omega) (by omega)) ?_
  refine g_v2 (M' := KR_sorted) dL_law_774 l_Z_102 v_KR_sorted e2 rc_84 HH_len rfl ⟨rfl, rfl⟩ ?_
  refine g_icmp_eq (tgt := 960) dL_law_777 rfl (fun _ => ?_) (fun h => absurd rfl h)
  exact kk σ2 δ1 hT2
set_option maxRecDepth 100000 in
set_option maxHeartbeats 200000 in
theorem z_keeps {sc : XS} {R : Option Value → XH → Prop} {σ : SI} {δ : SD} {i : Nat} (hi : i + 5 ≤ sc.1) (hs : sc.1 ≤ 2560) (hT : InvT σ) (kk : ∀ σ' δ', InvT σ' → G sc KZ_law 960 (aL [some (.ref 0), some (.ref 5), some (.ref 84), some (.int (nI i))]) [] (HH σ' δ') (89, 4247) R) : G sc KZ_law 782 (aL [some (.ref 0), some (.ref 5), some (.ref 84), some (.int (nI i))]) [] (HH σ δ) (89, 4247) R := by
  obtain ⟨r, σ1, δ1, σ2, e1, e2, hT2, hrk⟩ := (show Step KP_keeps KR_keeps [.int (sc.2 (i + 1))] σ δ from step_keeps hT)
  obtain ⟨z, rfl⟩ := rOK_int hrk
  refine g_aload_n dL_law_782 rfl ?_
  refine g_aload_n dL_law_783 rfl ?_
  refine g_iload_n dL_law_784 rfl ?_
  refine g_iconst dL_law_785 ic_1 ?_
  refine n_iadd dL_law_786 ?_
  refine g_sald dL_law_787 (ixD_nI (by omega) (by omega)) ?_
  refine g_v1 (M' := KP_keeps) dL_law_788 l_Z_103 v_KP_keeps e1 rc_5 HH_len rfl ⟨rfl, rfl⟩ ?_
  refine g_aload_n dL_law_791 rfl ?_
  refine g_aload_n dL_law_792 rfl ?_
  refine g_iload_n dL_law_793 rfl ?_
  refine g_iconst dL_law_794 ic_1 ?_
  refine n_iadd dL_law_795 ?_
  refine g_sald dL_law_796 (ixD_nI (by omega) (by omega)) ?_
  refine g_v1 (M' := KR_keeps) dL_law_797 l_Z_106 v_KR_keeps e2 rc_84 HH_len rfl ⟨rfl, rfl⟩ ?_
  refine g_icmp_eq (tgt := 960) dL_law_800 rfl (fun _ => ?_) (fun h => absurd rfl h)
  exact kk σ2 δ1 hT2
set_option maxRecDepth 100000 in
set_option maxHeartbeats 200000 in
theorem z_takes {sc : XS} {R : Option Value → XH → Prop} {σ : SI} {δ : SD} {i : Nat} (hi : i + 5 ≤ sc.1) (hs : sc.1 ≤ 2560) (hT : InvT σ) (kk : ∀ σ' δ', InvT σ' → G sc KZ_law 960 (aL [some (.ref 0), some (.ref 5), some (.ref 84), some (.int (nI i))]) [] (HH σ' δ') (89, 4247) R) : G sc KZ_law 805 (aL [some (.ref 0), some (.ref 5), some (.ref 84), some (.int (nI i))]) [] (HH σ δ) (89, 4247) R := by
  obtain ⟨r, σ1, δ1, σ2, e1, e2, hT2, hrk⟩ := (show Step KP_takes KR_takes [.int (sc.2 (i + 1))] σ δ from step_takes hT)
  obtain ⟨z, rfl⟩ := rOK_int hrk
  refine g_aload_n dL_law_805 rfl ?_
  refine g_aload_n dL_law_806 rfl ?_
  refine g_iload_n dL_law_807 rfl ?_
  refine g_iconst dL_law_808 ic_1 ?_
  refine n_iadd dL_law_809 ?_
  refine g_sald dL_law_810 (ixD_nI (by omega) (by omega)) ?_
  refine g_v1 (M' := KP_takes) dL_law_811 l_Z_107 v_KP_takes e1 rc_5 HH_len rfl ⟨rfl, rfl⟩ ?_
  refine g_aload_n dL_law_814 rfl ?_
  refine g_aload_n dL_law_815 rfl ?_
  refine g_iload_n dL_law_816 rfl ?_
  refine g_iconst dL_law_817 ic_1 ?_
  refine n_iadd dL_law_818 ?_
  refine g_sald dL_law_819 (ixD_nI (by omega) (by omega)) ?_
  refine g_v1 (M' := KR_takes) dL_law_820 l_Z_110 v_KR_takes e2 rc_84 HH_len rfl ⟨rfl, rfl⟩ ?_
  refine g_icmp_eq (tgt := 960) dL_law_823 rfl (fun _ => ?_) (fun h => absurd rfl h)
  exact kk σ2 δ1 hT2
set_option maxRecDepth 100000 in
set_option maxHeartbeats 200000 in
theorem z_otherwise {sc : XS} {R : Option Value → XH → Prop} {σ : SI} {δ : SD} {i : Nat} (hi : i + 5 ≤ sc.1) (hs : sc.1 ≤ 2560) (hT : InvT σ) (kk : ∀ σ' δ', InvT σ' → G sc KZ_law 960 (aL [some (.ref 0), some (.ref 5), some (.ref 84), some (.int (nI i))]) [] (HH σ' δ') (89, 4247) R) : G sc KZ_law 828 (aL [some (.ref 0), some (.ref 5), some (.ref 84), some (.int (nI i))]) [] (HH σ δ) (89, 4247) R := by
  obtain ⟨r, σ1, δ1, σ2, e1, e2, hT2, hrk⟩ := (show Step KP_otherwise KR_otherwise [.int (sc.2 (i + 1)), .int (sc.2 (i + 2))] σ δ from step_otherwise hT)
  obtain ⟨z, rfl⟩ := rOK_int hrk
  refine g_aload_n dL_law_828 rfl ?_
  refine g_aload_n dL_law_829 rfl ?_
  refine g_iload_n dL_law_830 rfl ?_
  refine g_iconst dL_law_831 ic_1 ?_
  refine n_iadd dL_law_832 ?_
  refine g_sald dL_law_833 (ixD_nI (by omega) (by omega)) ?_
  refine g_aload_n dL_law_834 rfl ?_
  refine g_iload_n dL_law_835 rfl ?_
  refine g_iconst dL_law_836 ic_2 ?_
  refine n_iadd dL_law_837 ?_
  refine g_sald dL_law_838 (ixD_nI (by omega) (by omega)) ?_
  refine g_v2 (M' := KP_otherwise) dL_law_839 l_Z_111 v_KP_otherwise e1 rc_5 HH_len rfl ⟨rfl, rfl⟩ ?_
  refine g_aload_n dL_law_842 rfl ?_
  refine g_aload_n dL_law_843 rfl ?_
  refine g_iload_n dL_law_844 rfl ?_
  refine g_iconst dL_law_845 ic_1 ?_
  refine n_iadd dL_law_846 ?_
  refine g_sald dL_law_847 (ixD_nI (by omega) (by omega)) ?_
  refine g_aload_n dL_law_848 rfl ?_
  refine g_iload_n dL_law_849 rfl ?_
  refine g_iconst dL_law_850 ic_2 ?_
  refine n_iadd dL_law_851 ?_
  refine g_sald dL_law_852 (ixD_nI (by omega) (by omega)) ?_
  refine g_v2 (M' := KR_otherwise) dL_law_853 l_Z_114 v_KR_otherwise e2 rc_84 HH_len rfl ⟨rfl, rfl⟩ ?_
  refine g_icmp_eq (tgt := 960) dL_law_856 rfl (fun _ => ?_) (fun h => absurd rfl h)
  exact kk σ2 δ1 hT2
set_option maxRecDepth 100000 in
set_option maxHeartbeats 200000 in
theorem z_type {sc : XS} {R : Option Value → XH → Prop} {σ : SI} {δ : SD} {i : Nat} (hi : i + 5 ≤ sc.1) (hs : sc.1 ≤ 2560) (hT : InvT σ) (kk : ∀ σ' δ', InvT σ' → G sc KZ_law 960 (aL [some (.ref 0), some (.ref 5), some (.ref 84), some (.int (nI i))]) [] (HH σ' δ') (89, 4247) R) : G sc KZ_law 861 (aL [some (.ref 0), some (.ref 5), some (.ref 84), some (.int (nI i))]) [] (HH σ δ) (89, 4247) R := by
  obtain ⟨r, σ1, δ1, σ2, e1, e2, hT2, hrk⟩ := (show Step KP_type KR_type [.int (sc.2 (i + 1))] σ δ from step_type hT)
  obtain ⟨z, rfl⟩ := rOK_int hrk
  refine g_aload_n dL_law_861 rfl ?_
  refine g_aload_n dL_law_862 rfl ?_
  refine g_iload_n dL_law_863 rfl ?_
  refine g_iconst dL_law_864 ic_1 ?_
  refine n_iadd dL_law_865 ?_
  refine g_sald dL_law_866 (ixD_nI (by omega) (by omega)) ?_
  refine g_v1 (M' := KP_type) dL_law_867 l_Z_115 v_KP_type e1 rc_5 HH_len rfl ⟨rfl, rfl⟩ ?_
  refine g_aload_n dL_law_870 rfl ?_
  refine g_aload_n dL_law_871 rfl ?_
  refine g_iload_n dL_law_872 rfl ?_
  refine g_iconst dL_law_873 ic_1 ?_
  refine n_iadd dL_law_874 ?_
  refine g_sald dL_law_875 (ixD_nI (by omega) (by omega)) ?_
  refine g_v1 (M' := KR_type) dL_law_876 l_Z_118 v_KR_type e2 rc_84 HH_len rfl ⟨rfl, rfl⟩ ?_
  refine g_icmp_eq (tgt := 960) dL_law_879 rfl (fun _ => ?_) (fun h => absurd rfl h)
  exact kk σ2 δ1 hT2
set_option maxRecDepth 100000 in
set_option maxHeartbeats 200000 in
theorem z_clear {sc : XS} {R : Option Value → XH → Prop} {σ : SI} {δ : SD} {i : Nat} (hi : i + 5 ≤ sc.1) (hs : sc.1 ≤ 2560) (hT : InvT σ) (kk : ∀ σ' δ', InvT σ' → G sc KZ_law 960 (aL [some (.ref 0), some (.ref 5), some (.ref 84), some (.int (nI i))]) [] (HH σ' δ') (89, 4247) R) : G sc KZ_law 884 (aL [some (.ref 0), some (.ref 5), some (.ref 84), some (.int (nI i))]) [] (HH σ δ) (89, 4247) R := by
  obtain ⟨r, σ1, δ1, σ2, e1, e2, hT2, hrk⟩ := (show Step KP_clear KR_clear [] σ δ from step_clear hT)
  obtain ⟨z, rfl⟩ := rOK_int hrk
  refine g_aload_n dL_law_884 rfl ?_
  refine g_v0 (M' := KP_clear) dL_law_885 l_Z_119 v_KP_clear e1 rc_5 HH_len rfl ⟨rfl, rfl⟩ ?_
  refine g_aload_n dL_law_888 rfl ?_
  refine g_v0 (M' := KR_clear) dL_law_889 l_Z_122 v_KR_clear e2 rc_84 HH_len rfl ⟨rfl, rfl⟩ ?_
  refine g_icmp_eq (tgt := 960) dL_law_892 rfl (fun _ => ?_) (fun h => absurd rfl h)
  exact kk σ2 δ1 hT2
set_option maxRecDepth 100000 in
set_option maxHeartbeats 200000 in
theorem z_reads {sc : XS} {R : Option Value → XH → Prop} {σ : SI} {δ : SD} {i : Nat} (hi : i + 5 ≤ sc.1) (hs : sc.1 ≤ 2560) (hT : InvT σ) (kk : ∀ σ' δ', InvT σ' → G sc KZ_law 960 (aL [some (.ref 0), some (.ref 5), some (.ref 84), some (.int (nI i))]) [] (HH σ' δ') (89, 4247) R) : G sc KZ_law 897 (aL [some (.ref 0), some (.ref 5), some (.ref 84), some (.int (nI i))]) [] (HH σ δ) (89, 4247) R := by
  obtain ⟨r, σ1, δ1, σ2, e1, e2, hT2, hrk⟩ := (show Step KP_reads KR_reads [] σ δ from step_reads hT)
  obtain ⟨z, rfl⟩ := rOK_int hrk
  refine g_aload_n dL_law_897 rfl ?_
  refine g_v0 (M' := KP_reads) dL_law_898 l_Z_123 v_KP_reads e1 rc_5 HH_len rfl ⟨rfl, rfl⟩ ?_
  refine g_aload_n dL_law_901 rfl ?_
  refine g_v0 (M' := KR_reads) dL_law_902 l_Z_126 v_KR_reads e2 rc_84 HH_len rfl ⟨rfl, rfl⟩ ?_
  refine g_icmp_eq (tgt := 960) dL_law_905 rfl (fun _ => ?_) (fun h => absurd rfl h)
  exact kk σ2 δ1 hT2
set_option maxRecDepth 100000 in
set_option maxHeartbeats 200000 in
theorem z_back {sc : XS} {R : Option Value → XH → Prop} {σ : SI} {δ : SD} {i : Nat} (hi : i + 5 ≤ sc.1) (hs : sc.1 ≤ 2560) (hT : InvT σ) (kk : ∀ σ' δ', InvT σ' → G sc KZ_law 960 (aL [some (.ref 0), some (.ref 5), some (.ref 84), some (.int (nI i))]) [] (HH σ' δ') (89, 4247) R) : G sc KZ_law 910 (aL [some (.ref 0), some (.ref 5), some (.ref 84), some (.int (nI i))]) [] (HH σ δ) (89, 4247) R := by
  obtain ⟨r, σ1, δ1, σ2, e1, e2, hT2, hrk⟩ := (show Step KP_back KR_back [] σ δ from step_back hT)
  obtain ⟨z, rfl⟩ := rOK_int hrk
  refine g_aload_n dL_law_910 rfl ?_
  refine g_v0 (M' := KP_back) dL_law_911 l_Z_127 v_KP_back e1 rc_5 HH_len rfl ⟨rfl, rfl⟩ ?_
  refine g_aload_n dL_law_914 rfl ?_
  refine g_v0 (M' := KR_back) dL_law_915 l_Z_130 v_KR_back e2 rc_84 HH_len rfl ⟨rfl, rfl⟩ ?_
  refine g_icmp_eq (tgt := 960) dL_law_918 rfl (fun _ => ?_) (fun h => absurd rfl h)
  exact kk σ2 δ1 hT2
set_option maxRecDepth 100000 in
set_option maxHeartbeats 200000 in
theorem z_told {sc : XS} {R : Option Value → XH → Prop} {σ : SI} {δ : SD} {i : Nat} (hi : i + 5 ≤ sc.1) (hs : sc.1 ≤ 2560) (hT : InvT σ) (kk : ∀ σ' δ', InvT σ' → G sc KZ_law 960 (aL [some (.ref 0), some (.ref 5), some (.ref 84), some (.int (nI i))]) [] (HH σ' δ') (89, 4247) R) : G sc KZ_law 923 (aL [some (.ref 0), some (.ref 5), some (.ref 84), some (.int (nI i))]) [] (HH σ δ) (89, 4247) R := by
  obtain ⟨r, σ1, δ1, σ2, e1, e2, hT2, hrk⟩ := (show Step KP_told KR_told [.int (sc.2 (i + 1))] σ δ from step_told hT)
  obtain ⟨z, rfl⟩ := rOK_int hrk
  refine g_aload_n dL_law_923 rfl ?_
  refine g_aload_n dL_law_924 rfl ?_
  refine g_iload_n dL_law_925 rfl ?_
  refine g_iconst dL_law_926 ic_1 ?_
  refine n_iadd dL_law_927 ?_
  refine g_sald dL_law_928 (ixD_nI (by omega) (by omega)) ?_
  refine g_v1 (M' := KP_told) dL_law_929 l_Z_131 v_KP_told e1 rc_5 HH_len rfl ⟨rfl, rfl⟩ ?_
  refine g_aload_n dL_law_932 rfl ?_
  refine g_aload_n dL_law_933 rfl ?_
  refine g_iload_n dL_law_934 rfl ?_
  refine g_iconst dL_law_935 ic_1 ?_
  refine n_iadd dL_law_936 ?_
  refine g_sald dL_law_937 (ixD_nI (by omega) (by omega)) ?_
  refine g_v1 (M' := KR_told) dL_law_938 l_Z_134 v_KR_told e2 rc_84 HH_len rfl ⟨rfl, rfl⟩ ?_
  refine g_icmp_eq (tgt := 960) dL_law_941 rfl (fun _ => ?_) (fun h => absurd rfl h)
  exact kk σ2 δ1 hT2
set_option maxRecDepth 100000 in
set_option maxHeartbeats 200000 in
theorem z_digest {sc : XS} {R : Option Value → XH → Prop} {σ : SI} {δ : SD} {i : Nat} (hi : i + 5 ≤ sc.1) (hs : sc.1 ≤ 2560) (hT : InvT σ) (kk : ∀ σ' δ', InvT σ' → G sc KZ_law 960 (aL [some (.ref 0), some (.ref 5), some (.ref 84), some (.int (nI i))]) [] (HH σ' δ') (89, 4247) R) : G sc KZ_law 946 (aL [some (.ref 0), some (.ref 5), some (.ref 84), some (.int (nI i))]) [] (HH σ δ) (89, 4247) R := by
  obtain ⟨r, σ1, δ1, σ2, e1, e2, hT2, hrk⟩ := (show Step KP_digest KR_digest [] σ δ from step_digest hT)
  obtain ⟨z, rfl⟩ := rOK_long hrk
  refine g_aload_n dL_law_946 rfl ?_
  refine g_v0 (M' := KP_digest) dL_law_947 l_Z_135 v_KP_digest e1 rc_5 HH_len rfl ⟨rfl, rfl⟩ ?_
  refine g_aload_n dL_law_950 rfl ?_
  refine g_v0 (M' := KR_digest) dL_law_951 l_Z_139 v_KR_digest e2 rc_84 HH_len rfl ⟨rfl, rfl⟩ ?_
  refine g_lcmp dL_law_954 ?_
  refine g_if_eq (tgt := 960) dL_law_955 rfl (fun _ => ?_) (fun h => absurd lcmp_self h)
  exact kk σ2 δ1 hT2

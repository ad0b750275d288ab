/-! ===== two houses alike ===== -/
theorem iv_route {B T : Nat} {n0 : Int32} {x : XS} (I : IV B T n0 x) (a b : Int32) : IV B T n0 (xRoute x a b).2 := by
  obtain ⟨t, h, E⟩ := I
  refine ⟨_, (s_route h a b).2, ?_⟩
  unfold xRoute R0
  split
  · exact E
  · split
    · exact E
    · split
      · exact E
      · split
        · exact E.find a b
        · exact E.find a b
set_option maxRecDepth 100000 in
set_option maxHeartbeats 4000000 in
theorem al_3 {X : CX} {D : va_G} {dA : Nat → ClassId} {w0 : AW} {ad : Nat → Nat} {K : AO → AW → Prop} {f : Nat → Int32} {B T : Nat} {n0 xv : Int32} (C0 : Ok X (D, dA, w0, ad, K) ML_alike) {q : XS} (I : IV B T n0 q) (hK : K (.inl (some (.int 1))) (W2 q q f)) : ∀ j k, k + j = q.2 6 → Gd X (D, dA, w0, ad, K) ML_alike 341 [some (.ref 0), some (.ref 84), some (.int xv), some (.int (nI 1)), some (.int (nI k))] [] (W2 q q f) (324 + 6 * k) (1944 + 36 * k) := by
  obtain ⟨t, r, E⟩ := I
  have h60 := r.c60
  intro j
  induction j with
  | zero =>
    intro k hk
    have ek : k = q.2 6 := by omega
    refine g_iload C0 dL_alike_341 rfl ?_
    refine g_aload_n C0 dL_alike_343 rfl ?_
    refine g_cv C0 dL_alike_344 CL_126 rfl ⟨by decide, by decide, (by show 324 + 6 * k + 0 ≤ 1000; omega), (by show 1944 + 36 * k + 0 ≤ 6000; omega)⟩ (Nat.le_of_ble_eq_true rfl) (HC.one _ _ _ _) (c_calls _) ?_
    refine g_icmp_ge (tgt := 411) C0 dL_alike_347 (by decide) (fun _ => ?_) (fun z => absurd (by rw [ek]; exact Int32.le_refl _) z)
    refine g_iload_n C0 dL_alike_411 rfl ?_
    exact g_zret C0 rfl rfl dL_alike_412 (by show 324 + 6 * k + 0 ≤ 1000; omega) (by show 1944 + 36 * k + 0 ≤ 6000; omega) hK
  | succ j ih =>
    intro k hk
    refine g_iload C0 dL_alike_341 rfl ?_
    refine g_aload_n C0 dL_alike_343 rfl ?_
    refine g_cv C0 dL_alike_344 CL_126 rfl ⟨by decide, by decide, (by show 324 + 6 * k + 0 ≤ 1000; omega), (by show 1944 + 36 * k + 0 ≤ 6000; omega)⟩ (Nat.le_of_ble_eq_true rfl) (HC.one _ _ _ _) (c_calls _) ?_
    refine g_icmp_ge (tgt := 411) C0 dL_alike_347 (by decide) (fun z => absurd z (nI_ge (by omega) (by omega))) (fun _ => ?_)
    refine g_iload_n C0 dL_alike_350 rfl ?_
    refine g_if_eq (tgt := 411) C0 dL_alike_351 (by decide) (fun z => absurd z (by decide +kernel)) (fun _ => ?_)
    refine g_aload_n C0 dL_alike_354 rfl ?_
    refine g_iload C0 dL_alike_355 rfl ?_
    refine g_ct1 C0 dL_alike_357 CL_197 rfl ⟨by decide, by decide, (by show 324 + 6 * k + 0 + 1 ≤ 1000; omega), (by show 1944 + 36 * k + 0 + 6 ≤ 6000; omega)⟩ (Nat.le_of_ble_eq_true rfl) (HC.one _ _ _ _) (l_state r _) ?_
    refine g_aload_n C0 dL_alike_360 rfl ?_
    refine g_iload C0 dL_alike_361 rfl ?_
    refine g_ct1 C0 dL_alike_363 CL_197 rfl ⟨by decide, by decide, (by show 324 + 6 * k + 0 + 1 + 1 ≤ 1000; omega), (by show 1944 + 36 * k + 0 + 6 + 6 ≤ 6000; omega)⟩ (Nat.le_of_ble_eq_true rfl) (HC.two _ _ _ _) (l_state r _) ?_
    refine g_icmp_ne (tgt := 403) C0 dL_alike_366 (by decide) (fun z => absurd rfl z) (fun _ => ?_)
    refine g_aload_n C0 dL_alike_369 rfl ?_
    refine g_iload C0 dL_alike_370 rfl ?_
    refine g_ct1 C0 dL_alike_372 CL_204 rfl ⟨by decide, by decide, (by show 324 + 6 * k + 0 + 1 + 1 + 1 ≤ 1000; omega), (by show 1944 + 36 * k + 0 + 6 + 6 + 6 ≤ 6000; omega)⟩ (Nat.le_of_ble_eq_true rfl) (HC.one _ _ _ _) (l_seconds r _) ?_
    refine g_aload_n C0 dL_alike_375 rfl ?_
    refine g_iload C0 dL_alike_376 rfl ?_
    refine g_ct1 C0 dL_alike_378 CL_204 rfl ⟨by decide, by decide, (by show 324 + 6 * k + 0 + 1 + 1 + 1 + 1 ≤ 1000; omega), (by show 1944 + 36 * k + 0 + 6 + 6 + 6 + 6 ≤ 6000; omega)⟩ (Nat.le_of_ble_eq_true rfl) (HC.two _ _ _ _) (l_seconds r _) ?_
    refine g_icmp_ne (tgt := 403) C0 dL_alike_381 (by decide) (fun z => absurd rfl z) (fun _ => ?_)
    refine g_aload_n C0 dL_alike_384 rfl ?_
    refine g_iload C0 dL_alike_385 rfl ?_
    refine g_ct1 C0 dL_alike_387 CL_206 rfl ⟨by decide, by decide, (by show 324 + 6 * k + 0 + 1 + 1 + 1 + 1 + 1 ≤ 1000; omega), (by show 1944 + 36 * k + 0 + 6 + 6 + 6 + 6 + 6 ≤ 6000; omega)⟩ (Nat.le_of_ble_eq_true rfl) (HC.one _ _ _ _) (l_charged r _) ?_
    refine g_aload_n C0 dL_alike_390 rfl ?_
    refine g_iload C0 dL_alike_391 rfl ?_
    refine g_ct1 C0 dL_alike_393 CL_206 rfl ⟨by decide, by decide, (by show 324 + 6 * k + 0 + 1 + 1 + 1 + 1 + 1 + 1 ≤ 1000; omega), (by show 1944 + 36 * k + 0 + 6 + 6 + 6 + 6 + 6 + 6 ≤ 6000; omega)⟩ (Nat.le_of_ble_eq_true rfl) (HC.two _ _ _ _) (l_charged r _) ?_
    refine g_icmp_ne (tgt := 403) C0 dL_alike_396 (by decide) (fun z => absurd rfl z) (fun _ => ?_)
    refine g_iconst (v := nI 1) C0 dL_alike_399 (by decide +kernel) ?_
    refine g_goto (tgt := 404) C0 dL_alike_400 (by decide) ?_
    refine g_istore_n C0 dL_alike_404 (by decide) ?_
    refine g_iinc (v := nI (k + 1)) C0 dL_alike_405 rfl (nI_1 _) (by decide) ?_
    refine g_goto (tgt := 341) C0 dL_alike_408 (by decide) ?_
    refine g_widen (cs2 := 324 + 6 * (k + 1)) (ss2 := 1944 + 36 * (k + 1)) (by show 324 + 6 * k + 0 + 1 + 1 + 1 + 1 + 1 + 1 ≤ _; omega) (by show 1944 + 36 * k + 0 + 6 + 6 + 6 + 6 + 6 + 6 ≤ _; omega) ?_
    exact ih (k + 1) (by omega)
set_option maxRecDepth 100000 in
set_option maxHeartbeats 4000000 in
theorem al_2 {X : CX} {D : va_G} {dA : Nat → ClassId} {w0 : AW} {ad : Nat → Nat} {K : AO → AW → Prop} {f : Nat → Int32} {B T : Nat} {n0 xv : Int32} (C0 : Ok X (D, dA, w0, ad, K) ML_alike) {q : XS} (I : IV B T n0 q) (hK : K (.inl (some (.int 1))) (W2 q q f)) : ∀ j k, k + j = 5 → Gd X (D, dA, w0, ad, K) ML_alike 229 [some (.ref 0), some (.ref 84), some (.int xv), some (.int (nI 1)), some (.int (nI k))] [] (W2 q q f) (264 + 12 * k) (1584 + 72 * k) := by
  have I0 := I
  obtain ⟨t, r, E⟩ := I
  intro j
  induction j with
  | zero =>
    intro k hk
    obtain rfl : k = 5 := by omega
    refine g_iload C0 dL_alike_229 rfl ?_
    refine g_iconst (v := nI 5) C0 dL_alike_231 (by decide +kernel) ?_
    refine g_icmp_ge (tgt := 338) C0 dL_alike_232 (by decide) (fun _ => ?_) (fun z => absurd (Int32.le_refl _) z)
    refine g_iconst (v := nI 0) C0 dL_alike_338 (by decide +kernel) ?_
    refine g_istore C0 dL_alike_339 (by decide) ?_
    refine g_widen (cs2 := 324 + 6 * 0) (ss2 := 1944 + 36 * 0) (by decide) (by decide) ?_
    exact al_3 C0 I0 hK (q.2 6) 0 (by omega)
  | succ j ih =>
    intro k hk
    refine g_iload C0 dL_alike_229 rfl ?_
    refine g_iconst (v := nI 5) C0 dL_alike_231 (by decide +kernel) ?_
    refine g_icmp_ge (tgt := 338) C0 dL_alike_232 (by decide) (fun z => absurd z (nI_ge (by omega) (by omega))) (fun _ => ?_)
    refine g_iload_n C0 dL_alike_235 rfl ?_
    refine g_if_eq (tgt := 338) C0 dL_alike_236 (by decide) (fun z => absurd z (by decide +kernel)) (fun _ => ?_)
    refine g_aload_n C0 dL_alike_239 rfl ?_
    refine g_iload C0 dL_alike_240 rfl ?_
    refine g_ct1 C0 dL_alike_242 CL_210 rfl ⟨by decide, by decide, (by show 264 + 12 * k + 1 ≤ 1000; omega), (by show 1584 + 72 * k + 6 ≤ 6000; omega)⟩ (Nat.le_of_ble_eq_true rfl) (HC.one _ _ _ _) (l_coins r _) ?_
    refine g_aload_n C0 dL_alike_245 rfl ?_
    refine g_iload C0 dL_alike_246 rfl ?_
    refine g_ct1 C0 dL_alike_248 CL_210 rfl ⟨by decide, by decide, (by show 264 + 12 * k + 1 + 1 ≤ 1000; omega), (by show 1584 + 72 * k + 6 + 6 ≤ 6000; omega)⟩ (Nat.le_of_ble_eq_true rfl) (HC.two _ _ _ _) (l_coins r _) ?_
    refine g_icmp_ne (tgt := 330) C0 dL_alike_251 (by decide) (fun z => absurd rfl z) (fun _ => ?_)
    refine g_aload_n C0 dL_alike_254 rfl ?_
    refine g_iload C0 dL_alike_255 rfl ?_
    refine g_ct1 C0 dL_alike_257 CL_212 rfl ⟨by decide, by decide, (by show 264 + 12 * k + 1 + 1 + 1 ≤ 1000; omega), (by show 1584 + 72 * k + 6 + 6 + 6 ≤ 6000; omega)⟩ (Nat.le_of_ble_eq_true rfl) (HC.one _ _ _ _) (l_earned r _) ?_
    refine g_aload_n C0 dL_alike_260 rfl ?_
    refine g_iload C0 dL_alike_261 rfl ?_
    refine g_ct1 C0 dL_alike_263 CL_212 rfl ⟨by decide, by decide, (by show 264 + 12 * k + 1 + 1 + 1 + 1 ≤ 1000; omega), (by show 1584 + 72 * k + 6 + 6 + 6 + 6 ≤ 6000; omega)⟩ (Nat.le_of_ble_eq_true rfl) (HC.two _ _ _ _) (l_earned r _) ?_
    refine g_icmp_ne (tgt := 330) C0 dL_alike_266 (by decide) (fun z => absurd rfl z) (fun _ => ?_)
    refine g_aload_n C0 dL_alike_269 rfl ?_
    refine g_iload C0 dL_alike_270 rfl ?_
    refine g_ct1 C0 dL_alike_272 CL_220 rfl ⟨by decide, by decide, (by show 264 + 12 * k + 1 + 1 + 1 + 1 + 1 ≤ 1000; omega), (by show 1584 + 72 * k + 6 + 6 + 6 + 6 + 6 ≤ 6000; omega)⟩ (Nat.le_of_ble_eq_true rfl) (HC.one _ _ _ _) (l_losses r _) ?_
    refine g_aload_n C0 dL_alike_275 rfl ?_
    refine g_iload C0 dL_alike_276 rfl ?_
    refine g_ct1 C0 dL_alike_278 CL_220 rfl ⟨by decide, by decide, (by show 264 + 12 * k + 1 + 1 + 1 + 1 + 1 + 1 ≤ 1000; omega), (by show 1584 + 72 * k + 6 + 6 + 6 + 6 + 6 + 6 ≤ 6000; omega)⟩ (Nat.le_of_ble_eq_true rfl) (HC.two _ _ _ _) (l_losses r _) ?_
    refine g_icmp_ne (tgt := 330) C0 dL_alike_281 (by decide) (fun z => absurd rfl z) (fun _ => ?_)
    refine g_aload_n C0 dL_alike_284 rfl ?_
    refine g_iload C0 dL_alike_285 rfl ?_
    refine g_iload C0 dL_alike_287 rfl ?_
    refine g_iconst (v := nI 1) C0 dL_alike_289 (by decide +kernel) ?_
    refine g_addN C0 dL_alike_290 ?_
    refine g_iconst (v := nI 5) C0 dL_alike_291 (by decide +kernel) ?_
    refine g_remN C0 dL_alike_292 (by decide) (by decide) (by omega) ?_
    refine g_ct2 C0 dL_alike_293 CL_193 rfl ⟨by decide, by decide, (by show 264 + 12 * k + 1 + 1 + 1 + 1 + 1 + 1 + 2 ≤ 1000; omega), (by show 1584 + 72 * k + 6 + 6 + 6 + 6 + 6 + 6 + 12 ≤ 6000; omega)⟩ (Nat.le_of_ble_eq_true rfl) (HC.one _ _ _ _) (l_free r _ _) ?_
    refine g_aload_n C0 dL_alike_296 rfl ?_
    refine g_iload C0 dL_alike_297 rfl ?_
    refine g_iload C0 dL_alike_299 rfl ?_
    refine g_iconst (v := nI 1) C0 dL_alike_301 (by decide +kernel) ?_
    refine g_addN C0 dL_alike_302 ?_
    refine g_iconst (v := nI 5) C0 dL_alike_303 (by decide +kernel) ?_
    refine g_remN C0 dL_alike_304 (by decide) (by decide) (by omega) ?_
    refine g_ct2 C0 dL_alike_305 CL_193 rfl ⟨by decide, by decide, (by show 264 + 12 * k + 1 + 1 + 1 + 1 + 1 + 1 + 2 + 2 ≤ 1000; omega), (by show 1584 + 72 * k + 6 + 6 + 6 + 6 + 6 + 6 + 12 + 12 ≤ 6000; omega)⟩ (Nat.le_of_ble_eq_true rfl) (HC.two _ _ _ _) (l_free r _ _) ?_
    refine g_icmp_ne (tgt := 330) C0 dL_alike_308 (by decide) (fun z => absurd rfl z) (fun _ => ?_)
    refine g_aload_n C0 dL_alike_311 rfl ?_
    refine g_iload C0 dL_alike_312 rfl ?_
    refine g_ct1 C0 dL_alike_314 CL_216 rfl ⟨by decide, by decide, (by show 264 + 12 * k + 1 + 1 + 1 + 1 + 1 + 1 + 2 + 2 + 1 ≤ 1000; omega), (by show 1584 + 72 * k + 6 + 6 + 6 + 6 + 6 + 6 + 12 + 12 + 6 ≤ 6000; omega)⟩ (Nat.le_of_ble_eq_true rfl) (HC.one _ _ _ _) (l_spent r _) ?_
    refine g_aload_n C0 dL_alike_317 rfl ?_
    refine g_iload C0 dL_alike_318 rfl ?_
    refine g_ct1 C0 dL_alike_320 CL_216 rfl ⟨by decide, by decide, (by show 264 + 12 * k + 1 + 1 + 1 + 1 + 1 + 1 + 2 + 2 + 1 + 1 ≤ 1000; omega), (by show 1584 + 72 * k + 6 + 6 + 6 + 6 + 6 + 6 + 12 + 12 + 6 + 6 ≤ 6000; omega)⟩ (Nat.le_of_ble_eq_true rfl) (HC.two _ _ _ _) (l_spent r _) ?_
    refine g_icmp_ne (tgt := 330) C0 dL_alike_323 (by decide) (fun z => absurd rfl z) (fun _ => ?_)
    refine g_iconst (v := nI 1) C0 dL_alike_326 (by decide +kernel) ?_
    refine g_goto (tgt := 331) C0 dL_alike_327 (by decide) ?_
    refine g_istore_n C0 dL_alike_331 (by decide) ?_
    refine g_iinc (v := nI (k + 1)) C0 dL_alike_332 rfl (nI_1 _) (by decide) ?_
    refine g_goto (tgt := 229) C0 dL_alike_335 (by decide) ?_
    refine g_widen (cs2 := 264 + 12 * (k + 1)) (ss2 := 1584 + 72 * (k + 1)) (by show 264 + 12 * k + 1 + 1 + 1 + 1 + 1 + 1 + 2 + 2 + 1 + 1 ≤ _; omega) (by show 1584 + 72 * k + 6 + 6 + 6 + 6 + 6 + 6 + 12 + 12 + 6 + 6 ≤ _; omega) ?_
    exact ih (k + 1) (by omega)
set_option maxRecDepth 100000 in
set_option maxHeartbeats 4000000 in
theorem al_1 {X : CX} {D : va_G} {dA : Nat → ClassId} {w0 : AW} {ad : Nat → Nat} {K : AO → AW → Prop} {f : Nat → Int32} {B T : Nat} {n0 xv : Int32} (C0 : Ok X (D, dA, w0, ad, K) ML_alike) (hK : ∀ q2, IV B T n0 q2 → K (.inl (some (.int 1))) (W2 q2 q2 f)) : ∀ j k q, k + j = 12 → IV B T n0 q → Gd X (D, dA, w0, ad, K) ML_alike 53 [some (.ref 0), some (.ref 84), some (.int xv), some (.int (nI 1)), some (.int (nI k))] [] (W2 q q f) (22 * k) (132 * k) := by
  intro j
  induction j with
  | zero =>
    intro k q hk I
    obtain rfl : k = 12 := by omega
    refine g_iload C0 dL_alike_53 rfl ?_
    refine g_bipush (v := nI 12) C0 dL_alike_55 (by decide +kernel) ?_
    refine g_icmp_ge (tgt := 226) C0 dL_alike_57 (by decide) (fun _ => ?_) (fun z => absurd (Int32.le_refl _) z)
    refine g_iconst (v := nI 0) C0 dL_alike_226 (by decide +kernel) ?_
    refine g_istore C0 dL_alike_227 (by decide) ?_
    refine g_widen (cs2 := 264 + 12 * 0) (ss2 := 1584 + 72 * 0) (by decide) (by decide) ?_
    exact al_2 C0 I (hK q I) 5 0 (by omega)
  | succ j ih =>
    intro k q hk I
    have I0 := I
    obtain ⟨t, r, E⟩ := I
    refine g_iload C0 dL_alike_53 rfl ?_
    refine g_bipush (v := nI 12) C0 dL_alike_55 (by decide +kernel) ?_
    refine g_icmp_ge (tgt := 226) C0 dL_alike_57 (by decide) (fun z => absurd z (nI_ge (by omega) (by omega))) (fun _ => ?_)
    refine g_iload_n C0 dL_alike_60 rfl ?_
    refine g_if_eq (tgt := 226) C0 dL_alike_61 (by decide) (fun z => absurd z (by decide +kernel)) (fun _ => ?_)
    refine g_aload_n C0 dL_alike_64 rfl ?_
    refine g_iload C0 dL_alike_65 rfl ?_
    refine g_ct1 C0 dL_alike_67 CL_146 rfl ⟨by decide, by decide, (by show 22 * k + 1 ≤ 1000; omega), (by show 132 * k + 6 ≤ 6000; omega)⟩ (Nat.le_of_ble_eq_true rfl) (HC.one _ _ _ _) (l_carrier r _) ?_
    refine g_aload_n C0 dL_alike_70 rfl ?_
    refine g_iload C0 dL_alike_71 rfl ?_
    refine g_ct1 C0 dL_alike_73 CL_146 rfl ⟨by decide, by decide, (by show 22 * k + 1 + 1 ≤ 1000; omega), (by show 132 * k + 6 + 6 ≤ 6000; omega)⟩ (Nat.le_of_ble_eq_true rfl) (HC.two _ _ _ _) (l_carrier r _) ?_
    refine g_icmp_ne (tgt := 218) C0 dL_alike_76 (by decide) (fun z => absurd rfl z) (fun _ => ?_)
    refine g_aload_n C0 dL_alike_79 rfl ?_
    refine g_iload C0 dL_alike_80 rfl ?_
    refine g_ct1 C0 dL_alike_82 CL_153 rfl ⟨by decide, by decide, (by show 22 * k + 1 + 1 + 1 ≤ 1000; omega), (by show 132 * k + 6 + 6 + 6 ≤ 6000; omega)⟩ (Nat.le_of_ble_eq_true rfl) (HC.one _ _ _ _) (l_owner r _) ?_
    refine g_aload_n C0 dL_alike_85 rfl ?_
    refine g_iload C0 dL_alike_86 rfl ?_
    refine g_ct1 C0 dL_alike_88 CL_153 rfl ⟨by decide, by decide, (by show 22 * k + 1 + 1 + 1 + 1 ≤ 1000; omega), (by show 132 * k + 6 + 6 + 6 + 6 ≤ 6000; omega)⟩ (Nat.le_of_ble_eq_true rfl) (HC.two _ _ _ _) (l_owner r _) ?_
    refine g_icmp_ne (tgt := 218) C0 dL_alike_91 (by decide) (fun z => absurd rfl z) (fun _ => ?_)
    refine g_aload_n C0 dL_alike_94 rfl ?_
    refine g_iload C0 dL_alike_95 rfl ?_
    refine g_ct1 C0 dL_alike_97 CL_164 rfl ⟨by decide, by decide, (by show 22 * k + 1 + 1 + 1 + 1 + 1 ≤ 1000; omega), (by show 132 * k + 6 + 6 + 6 + 6 + 6 ≤ 6000; omega)⟩ (Nat.le_of_ble_eq_true rfl) (HC.one _ _ _ _) (l_debt r _) ?_
    refine g_aload_n C0 dL_alike_100 rfl ?_
    refine g_iload C0 dL_alike_101 rfl ?_
    refine g_ct1 C0 dL_alike_103 CL_164 rfl ⟨by decide, by decide, (by show 22 * k + 1 + 1 + 1 + 1 + 1 + 1 ≤ 1000; omega), (by show 132 * k + 6 + 6 + 6 + 6 + 6 + 6 ≤ 6000; omega)⟩ (Nat.le_of_ble_eq_true rfl) (HC.two _ _ _ _) (l_debt r _) ?_
    refine g_icmp_ne (tgt := 218) C0 dL_alike_106 (by decide) (fun z => absurd rfl z) (fun _ => ?_)
    refine g_aload_n C0 dL_alike_109 rfl ?_
    refine g_iload C0 dL_alike_110 rfl ?_
    refine g_ct1 C0 dL_alike_112 CL_159 rfl ⟨by decide, by decide, (by show 22 * k + 1 + 1 + 1 + 1 + 1 + 1 + 1 ≤ 1000; omega), (by show 132 * k + 6 + 6 + 6 + 6 + 6 + 6 + 6 ≤ 6000; omega)⟩ (Nat.le_of_ble_eq_true rfl) (HC.one _ _ _ _) (l_bond r _) ?_
    refine g_aload_n C0 dL_alike_115 rfl ?_
    refine g_iload C0 dL_alike_116 rfl ?_
    refine g_ct1 C0 dL_alike_118 CL_159 rfl ⟨by decide, by decide, (by show 22 * k + 1 + 1 + 1 + 1 + 1 + 1 + 1 + 1 ≤ 1000; omega), (by show 132 * k + 6 + 6 + 6 + 6 + 6 + 6 + 6 + 6 ≤ 6000; omega)⟩ (Nat.le_of_ble_eq_true rfl) (HC.two _ _ _ _) (l_bond r _) ?_
    refine g_icmp_ne (tgt := 218) C0 dL_alike_121 (by decide) (fun z => absurd rfl z) (fun _ => ?_)
    refine g_aload_n C0 dL_alike_124 rfl ?_
    refine g_iload C0 dL_alike_125 rfl ?_
    refine g_ct1 C0 dL_alike_127 CL_169 rfl ⟨by decide, by decide, (by show 22 * k + 1 + 1 + 1 + 1 + 1 + 1 + 1 + 1 + 1 ≤ 1000; omega), (by show 132 * k + 6 + 6 + 6 + 6 + 6 + 6 + 6 + 6 + 6 ≤ 6000; omega)⟩ (Nat.le_of_ble_eq_true rfl) (HC.one _ _ _ _) (l_barred r _) ?_
    refine g_aload_n C0 dL_alike_130 rfl ?_
    refine g_iload C0 dL_alike_131 rfl ?_
    refine g_ct1 C0 dL_alike_133 CL_169 rfl ⟨by decide, by decide, (by show 22 * k + 1 + 1 + 1 + 1 + 1 + 1 + 1 + 1 + 1 + 1 ≤ 1000; omega), (by show 132 * k + 6 + 6 + 6 + 6 + 6 + 6 + 6 + 6 + 6 + 6 ≤ 6000; omega)⟩ (Nat.le_of_ble_eq_true rfl) (HC.two _ _ _ _) (l_barred r _) ?_
    refine g_icmp_ne (tgt := 218) C0 dL_alike_136 (by decide) (fun z => absurd rfl z) (fun _ => ?_)
    refine g_aload_n C0 dL_alike_139 rfl ?_
    refine g_iload C0 dL_alike_140 rfl ?_
    refine g_ct1 C0 dL_alike_142 CL_175 rfl ⟨by decide, by decide, (by show 22 * k + 1 + 1 + 1 + 1 + 1 + 1 + 1 + 1 + 1 + 1 + 1 ≤ 1000; omega), (by show 132 * k + 6 + 6 + 6 + 6 + 6 + 6 + 6 + 6 + 6 + 6 + 6 ≤ 6000; omega)⟩ (Nat.le_of_ble_eq_true rfl) (HC.one _ _ _ _) (l_callOf r _) ?_
    refine g_aload_n C0 dL_alike_145 rfl ?_
    refine g_iload C0 dL_alike_146 rfl ?_
    refine g_ct1 C0 dL_alike_148 CL_175 rfl ⟨by decide, by decide, (by show 22 * k + 1 + 1 + 1 + 1 + 1 + 1 + 1 + 1 + 1 + 1 + 1 + 1 ≤ 1000; omega), (by show 132 * k + 6 + 6 + 6 + 6 + 6 + 6 + 6 + 6 + 6 + 6 + 6 + 6 ≤ 6000; omega)⟩ (Nat.le_of_ble_eq_true rfl) (HC.two _ _ _ _) (l_callOf r _) ?_
    refine g_icmp_ne (tgt := 218) C0 dL_alike_151 (by decide) (fun z => absurd rfl z) (fun _ => ?_)
    refine g_aload_n C0 dL_alike_154 rfl ?_
    refine g_iload_n C0 dL_alike_155 rfl ?_
    refine g_iconst (v := nI 5) C0 dL_alike_156 (by decide +kernel) ?_
    refine g_irem C0 dL_alike_157 (by decide) ?_
    refine g_iload C0 dL_alike_158 rfl ?_
    refine g_ct2 C0 dL_alike_160 CL_189 rfl ⟨by decide, by decide, (by show 22 * k + 1 + 1 + 1 + 1 + 1 + 1 + 1 + 1 + 1 + 1 + 1 + 1 + 2 ≤ 1000; omega), (by show 132 * k + 6 + 6 + 6 + 6 + 6 + 6 + 6 + 6 + 6 + 6 + 6 + 6 + 12 ≤ 6000; omega)⟩ (Nat.le_of_ble_eq_true rfl) (HC.one _ _ _ _) (l_believed r _ _) ?_
    refine g_aload_n C0 dL_alike_163 rfl ?_
    refine g_iload_n C0 dL_alike_164 rfl ?_
    refine g_iconst (v := nI 5) C0 dL_alike_165 (by decide +kernel) ?_
    refine g_irem C0 dL_alike_166 (by decide) ?_
    refine g_iload C0 dL_alike_167 rfl ?_
    refine g_ct2 C0 dL_alike_169 CL_189 rfl ⟨by decide, by decide, (by show 22 * k + 1 + 1 + 1 + 1 + 1 + 1 + 1 + 1 + 1 + 1 + 1 + 1 + 2 + 2 ≤ 1000; omega), (by show 132 * k + 6 + 6 + 6 + 6 + 6 + 6 + 6 + 6 + 6 + 6 + 6 + 6 + 12 + 12 ≤ 6000; omega)⟩ (Nat.le_of_ble_eq_true rfl) (HC.two _ _ _ _) (l_believed r _ _) ?_
    refine g_icmp_ne (tgt := 218) C0 dL_alike_172 (by decide) (fun z => absurd rfl z) (fun _ => ?_)
    refine g_aload_n C0 dL_alike_175 rfl ?_
    refine g_iload C0 dL_alike_176 rfl ?_
    refine g_iload C0 dL_alike_178 rfl ?_
    refine g_iconst (v := nI 1) C0 dL_alike_180 (by decide +kernel) ?_
    refine g_addN C0 dL_alike_181 ?_
    refine g_iload_n C0 dL_alike_182 rfl ?_
    refine g_bipush (v := nI 11) C0 dL_alike_183 (by decide +kernel) ?_
    refine g_irem C0 dL_alike_185 (by decide) ?_
    refine g_iadd C0 dL_alike_186 ?_
    refine g_bipush (v := nI 12) C0 dL_alike_187 (by decide +kernel) ?_
    refine g_irem C0 dL_alike_189 (by decide) ?_
    refine g_ct2 C0 dL_alike_190 CL_195 rfl ⟨by decide, by decide, (by show 22 * k + 1 + 1 + 1 + 1 + 1 + 1 + 1 + 1 + 1 + 1 + 1 + 1 + 2 + 2 + 3 ≤ 1000; omega), (by show 132 * k + 6 + 6 + 6 + 6 + 6 + 6 + 6 + 6 + 6 + 6 + 6 + 6 + 12 + 12 + 18 ≤ 6000; omega)⟩ (Nat.le_of_ble_eq_true rfl) (HC.one _ _ _ _) (c_route r _ _) ?_
    refine g_aload_n C0 dL_alike_193 rfl ?_
    refine g_iload C0 dL_alike_194 rfl ?_
    refine g_iload C0 dL_alike_196 rfl ?_
    refine g_iconst (v := nI 1) C0 dL_alike_198 (by decide +kernel) ?_
    refine g_addN C0 dL_alike_199 ?_
    refine g_iload_n C0 dL_alike_200 rfl ?_
    refine g_bipush (v := nI 11) C0 dL_alike_201 (by decide +kernel) ?_
    refine g_irem C0 dL_alike_203 (by decide) ?_
    refine g_iadd C0 dL_alike_204 ?_
    refine g_bipush (v := nI 12) C0 dL_alike_205 (by decide +kernel) ?_
    refine g_irem C0 dL_alike_207 (by decide) ?_
    refine g_ct2 C0 dL_alike_208 CL_195 rfl ⟨by decide, by decide, (by show 22 * k + 1 + 1 + 1 + 1 + 1 + 1 + 1 + 1 + 1 + 1 + 1 + 1 + 2 + 2 + 3 + 3 ≤ 1000; omega), (by show 132 * k + 6 + 6 + 6 + 6 + 6 + 6 + 6 + 6 + 6 + 6 + 6 + 6 + 12 + 12 + 18 + 18 ≤ 6000; omega)⟩ (Nat.le_of_ble_eq_true rfl) (HC.two _ _ _ _) (c_route r _ _) ?_
    refine g_icmp_ne (tgt := 218) C0 dL_alike_211 (by decide) (fun z => absurd rfl z) (fun _ => ?_)
    refine g_iconst (v := nI 1) C0 dL_alike_214 (by decide +kernel) ?_
    refine g_goto (tgt := 219) C0 dL_alike_215 (by decide) ?_
    refine g_istore_n C0 dL_alike_219 (by decide) ?_
    refine g_iinc (v := nI (k + 1)) C0 dL_alike_220 rfl (nI_1 _) (by decide) ?_
    refine g_goto (tgt := 53) C0 dL_alike_223 (by decide) ?_
    refine g_widen (cs2 := 22 * (k + 1)) (ss2 := 132 * (k + 1)) (by show 22 * k + 1 + 1 + 1 + 1 + 1 + 1 + 1 + 1 + 1 + 1 + 1 + 1 + 2 + 2 + 3 + 3 ≤ _; omega) (by show 132 * k + 6 + 6 + 6 + 6 + 6 + 6 + 6 + 6 + 6 + 6 + 6 + 6 + 12 + 12 + 18 + 18 ≤ _; omega) ?_
    exact ih (k + 1) _ (by omega) (iv_route I0 _ _)
set_option maxRecDepth 100000 in
set_option maxHeartbeats 4000000 in
theorem k_alike {q : XS} {f : Nat → Int32} {B T : Nat} {n0 xv : Int32} {K : AO → AW → Prop} (I : IV B T n0 q) (hK : ∀ q2, IV B T n0 q2 → K (.inl (some (.int 1))) (W2 q2 q2 f)) : Snd ML_alike [.ref 0, .ref 84, .int xv] (W2 q q f) K := by
  refine Snd.of (by decide +kernel) (Nat.le_of_ble_eq_true rfl) rfl rfl ?_
  intro X D dA ad C0
  show Gd X _ ML_alike 0 [some (.ref 0), some (.ref 84), some (.int xv), none, none] [] _ 0 0
  obtain ⟨v, hv⟩ := c_isDear q
  refine g_aload_n C0 dL_alike_0 rfl ?_
  refine g_cv C0 dL_alike_1 CL_186 rfl ⟨by decide, by decide, Nat.le_of_ble_eq_true rfl, Nat.le_of_ble_eq_true rfl⟩ (Nat.le_of_ble_eq_true rfl) (HC.one _ _ _ _) (c_second _) ?_
  refine g_aload_n C0 dL_alike_4 rfl ?_
  refine g_cv C0 dL_alike_5 CL_186 rfl ⟨by decide, by decide, Nat.le_of_ble_eq_true rfl, Nat.le_of_ble_eq_true rfl⟩ (Nat.le_of_ble_eq_true rfl) (HC.two _ _ _ _) (c_second _) ?_
  refine g_icmp_ne (tgt := 48) C0 dL_alike_8 (by decide) (fun z => absurd rfl z) (fun _ => ?_)
  refine g_aload_n C0 dL_alike_11 rfl ?_
  refine g_cv C0 dL_alike_12 CL_126 rfl ⟨by decide, by decide, Nat.le_of_ble_eq_true rfl, Nat.le_of_ble_eq_true rfl⟩ (Nat.le_of_ble_eq_true rfl) (HC.one _ _ _ _) (c_calls _) ?_
  refine g_aload_n C0 dL_alike_15 rfl ?_
  refine g_cv C0 dL_alike_16 CL_126 rfl ⟨by decide, by decide, Nat.le_of_ble_eq_true rfl, Nat.le_of_ble_eq_true rfl⟩ (Nat.le_of_ble_eq_true rfl) (HC.two _ _ _ _) (c_calls _) ?_
  refine g_icmp_ne (tgt := 48) C0 dL_alike_19 (by decide) (fun z => absurd rfl z) (fun _ => ?_)
  refine g_aload_n C0 dL_alike_22 rfl ?_
  refine g_cv C0 dL_alike_23 CL_222 rfl ⟨by decide, by decide, Nat.le_of_ble_eq_true rfl, Nat.le_of_ble_eq_true rfl⟩ (Nat.le_of_ble_eq_true rfl) (HC.one _ _ _ _) (c_lost _) ?_
  refine g_aload_n C0 dL_alike_26 rfl ?_
  refine g_cv C0 dL_alike_27 CL_222 rfl ⟨by decide, by decide, Nat.le_of_ble_eq_true rfl, Nat.le_of_ble_eq_true rfl⟩ (Nat.le_of_ble_eq_true rfl) (HC.two _ _ _ _) (c_lost _) ?_
  refine g_icmp_ne (tgt := 48) C0 dL_alike_30 (by decide) (fun z => absurd rfl z) (fun _ => ?_)
  refine g_aload_n C0 dL_alike_33 rfl ?_
  refine g_cv C0 dL_alike_34 CL_225 rfl ⟨by decide, by decide, Nat.le_of_ble_eq_true rfl, Nat.le_of_ble_eq_true rfl⟩ (Nat.le_of_ble_eq_true rfl) (HC.one _ _ _ _) (hv) ?_
  refine g_aload_n C0 dL_alike_37 rfl ?_
  refine g_cv C0 dL_alike_38 CL_225 rfl ⟨by decide, by decide, Nat.le_of_ble_eq_true rfl, Nat.le_of_ble_eq_true rfl⟩ (Nat.le_of_ble_eq_true rfl) (HC.two _ _ _ _) (hv) ?_
  refine g_icmp_ne (tgt := 48) C0 dL_alike_41 (by decide) (fun z => absurd rfl z) (fun _ => ?_)
  refine g_iconst (v := nI 1) C0 dL_alike_44 (by decide +kernel) ?_
  refine g_goto (tgt := 49) C0 dL_alike_45 (by decide) ?_
  refine g_istore_n C0 dL_alike_49 (by decide) ?_
  refine g_iconst (v := nI 0) C0 dL_alike_50 (by decide +kernel) ?_
  refine g_istore C0 dL_alike_51 (by decide) ?_
  refine g_widen (cs2 := 22 * 0) (ss2 := 132 * 0) (by decide) (by decide) ?_
  exact al_1 C0 hK 12 0 q (by omega) I

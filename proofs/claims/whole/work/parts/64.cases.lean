/-! ===== the law's cases ===== -/
theorem W3l {w0 : AW} {q t : XS} {f : Nat → Int64} (h : w0.length = 110) : (W3 q t f).length = w0.length := (W3_len q t f).trans h.symm
theorem osh_i (v : Int32) : osh 84 (.inl (some (.int v))) = .inl (some (.int v)) := rfl
theorem cmp_self (x : Int64) : lg_cmp x x = 0 := by unfold lg_cmp; simp
theorem pass_l (s : Int32) : ¬ noW s 1 2000 → s = nI s.toNatClampNeg ∧ s.toNatClampNeg ≤ 2000 := fun h => by
  obtain ⟨n, h1, h2, rfl⟩ := nW (a := 1) (b := 2000) (by decide) (by decide) h
  rw [nI_clamp (by omega)]
  exact ⟨rfl, h2⟩
theorem hang_l {q t : XS} (rx : RX q t) {c : Int32} : ¬ noK q c → xg q 33 c = nI (lm t c.toNatClampNeg + 1) ∧ lm t c.toNatClampNeg < 100000 := fun h => by
  obtain ⟨k, hk, rfl⟩ := nK rx (fun z => h ((noK_L rx c).mpr z))
  have h6 := rx.c60
  rw [nI_clamp (by omega)]
  refine ⟨len_n rx hk, ?_⟩
  show (t.1 19 k).toNatClampNeg < 100000
  have := (rx.g19 k).2
  omega
set_option maxRecDepth 100000 in
set_option maxHeartbeats 4000000 in
theorem lc_setPrices {X : CX} {D : va_G} {dA : Nat → ClassId} {w0 : AW} {ad0 : Nat → Nat} {K : AO → AW → Prop} {q t : XS} {f : Nat → Int64} {L i cs ss : Nat} {xs : Nat → Int32} {o5 o6 : Option Value} (C0 : Ok X (D, dA, w0, ad0, K) ML_law) (SC : SCR X (D, dA, w0, ad0, K) 110 L xs) (hw0 : w0.length = 110) (rx : RX q t) (hL : L ≤ 2048) (hi : i + 3 < L) (hc : cs + 12 ≤ 601024) (hs : ss + 72 ≤ 7293034) (hn : ∀ (q2 t2 : XS) (f2 : Nat → Int64) (p5 p6 : Option Value), RX q2 t2 → Gd X (D, dA, w0, ad0, K) ML_law 2347 [some (.ref 110), some (.ref 0), some (.ref 84), some (.ref 109), some (.int (nI i)), p5, p6] [] (W3 q2 t2 f2) (cs + 12) (ss + 72)) : Gd X (D, dA, w0, ad0, K) ML_law 204 [some (.ref 110), some (.ref 0), some (.ref 84), some (.ref 109), some (.int (nI i)), o5, o6] [] (W3 q t f) cs ss := by
  obtain ⟨hA, hr⟩ := s_setPrices rx (xs (i + 1)) (xs (i + 2)) (xs (i + 3))
  rcases hA with ⟨v, ox, om, c0⟩ | ⟨e9, b9, he, ox, om, ck, cp, c4⟩
  · refine g_aload_n C0 dL_law_204 rfl ?_
    refine g_scr (kk := 1) C0 SC (W3l hw0) dL_law_205 dL_law_206 dL_law_208 dL_law_209 dL_law_210 rfl rfl (by decide +kernel) (by omega) (by omega) ?_
    refine g_scr (kk := 2) C0 SC (W3l hw0) dL_law_211 dL_law_212 dL_law_214 dL_law_215 dL_law_216 rfl rfl (by decide +kernel) (by omega) (by omega) ?_
    refine g_scr (kk := 3) C0 SC (W3l hw0) dL_law_217 dL_law_218 dL_law_220 dL_law_221 dL_law_222 rfl rfl (by decide +kernel) (by omega) (by omega) ?_
    refine g_aload_n C0 dL_law_223 rfl ?_
    refine g_invSH (As := [.ref 0, .int (xs (i + 1)), .int (xs (i + 2)), .int (xs (i + 3)), .ref 109]) (st := []) C0 dL_law_224 CL_125 rfl rfl rfl ⟨by decide, by decide, (by show cs + 4 ≤ 601024; omega), (by show ss + 24 ≤ 7293034; omega)⟩ (Nat.le_of_ble_eq_true rfl) (w_setPrices (fun K hK => p_setPrices (by have := rx.d60; omega) hK) (Or.inl ⟨v, ox⟩) (fun v9 g9 => ?_) (fun e8 g9 => ?_))
    rotate_left
    · cases (ox.symm.trans g9)
    cases (ox.symm.trans g9)
    refine Aft_v rfl ?_
    refine g_istore C0 dL_law_227 (by decide) ?_
    refine g_aload_n C0 dL_law_229 rfl ?_
    refine g_scr (kk := 1) C0 SC (W3l hw0) dL_law_230 dL_law_231 dL_law_233 dL_law_234 dL_law_235 rfl rfl (by decide +kernel) (by omega) (by omega) ?_
    refine g_scr (kk := 2) C0 SC (W3l hw0) dL_law_236 dL_law_237 dL_law_239 dL_law_240 dL_law_241 rfl rfl (by decide +kernel) (by omega) (by omega) ?_
    refine g_scr (kk := 3) C0 SC (W3l hw0) dL_law_242 dL_law_243 dL_law_245 dL_law_246 dL_law_247 rfl rfl (by decide +kernel) (by omega) (by omega) ?_
    refine g_invV (As := [.int (xs (i + 1)), .int (xs (i + 2)), .int (xs (i + 3))]) (st := []) (ci := 10) C0 dL_law_248 CL_130 rfl rfl rfl rfl ⟨by decide, by decide, (by show cs + 4 + 0 ≤ 601024; omega), (by show ss + 24 + 0 ≤ 7293034; omega)⟩ (Nat.le_of_ble_eq_true rfl) (frMK (av := [.ref 0, .int (xs (i + 1)), .int (xs (i + 2)), .int (xs (i + 3))]) (fun K hK => r_setPrices hK) ?_)
    rw [om, osh_i]
    refine Aft_v rfl ?_
    refine g_istore C0 dL_law_251 (by decide) ?_
    refine g_aload_n C0 dL_law_253 rfl ?_
    refine g_invV (As := []) (st := []) (ci := 10) C0 dL_law_254 CL_131 rfl rfl rfl rfl ⟨by decide, by decide, (by show cs + 4 + 0 + 0 ≤ 601024; omega), (by show ss + 24 + 0 + 0 ≤ 7293034; omega)⟩ (Nat.le_of_ble_eq_true rfl) (frMK (av := [.ref 0]) (fun K hK => m_thrown hK) ?_)
    rw [osh_i, c0, nI_0]
    refine Aft_v rfl ?_
    refine g_iload C0 dL_law_257 rfl ?_
    refine g_icmp_eq (tgt := 264) C0 dL_law_259 (by decide) (fun _ => ?_) (fun z => absurd rfl z)
    refine g_iload C0 dL_law_264 rfl ?_
    refine g_if_ne (tgt := 281) C0 dL_law_266 (by decide) (fun z => absurd rfl z) (fun _ => ?_)
    refine g_aload_n C0 dL_law_269 rfl ?_
    refine g_iconst (v := 0) C0 dL_law_270 (by decide) ?_
    refine g_laload C0 dL_law_271 (W3_out _ _ _) in01 ?_
    rw [show (0 : Int32).toNatClampNeg = 0 by decide +kernel, pk_uLs]
    refine g_iload C0 dL_law_272 rfl ?_
    refine g_i2l C0 dL_law_274 ?_
    refine g_lcmp C0 dL_law_275 ?_
    rw [cmp_self]
    refine g_if_eq (tgt := 281) C0 dL_law_276 (by decide) (fun _ => ?_) (fun z => absurd rfl z)
    refine g_goto (tgt := 2347) C0 dL_law_281 (by decide) ?_
    refine g_widen (cs2 := cs + 12) (ss2 := ss + 72) (by show cs + 4 + 0 + 0 ≤ cs + 12; omega) (by show ss + 24 + 0 + 0 ≤ ss + 72; omega) ?_
    exact hn _ _ _ _ _ hr
  · refine g_aload_n C0 dL_law_204 rfl ?_
    refine g_scr (kk := 1) C0 SC (W3l hw0) dL_law_205 dL_law_206 dL_law_208 dL_law_209 dL_law_210 rfl rfl (by decide +kernel) (by omega) (by omega) ?_
    refine g_scr (kk := 2) C0 SC (W3l hw0) dL_law_211 dL_law_212 dL_law_214 dL_law_215 dL_law_216 rfl rfl (by decide +kernel) (by omega) (by omega) ?_
    refine g_scr (kk := 3) C0 SC (W3l hw0) dL_law_217 dL_law_218 dL_law_220 dL_law_221 dL_law_222 rfl rfl (by decide +kernel) (by omega) (by omega) ?_
    refine g_aload_n C0 dL_law_223 rfl ?_
    refine g_invSH (As := [.ref 0, .int (xs (i + 1)), .int (xs (i + 2)), .int (xs (i + 3)), .ref 109]) (st := []) C0 dL_law_224 CL_125 rfl rfl rfl ⟨by decide, by decide, (by show cs + 4 ≤ 601024; omega), (by show ss + 24 ≤ 7293034; omega)⟩ (Nat.le_of_ble_eq_true rfl) (w_setPrices (fun K hK => p_setPrices (by have := rx.d60; omega) hK) (Or.inr ⟨e9, ox, he, (by rw [← ck]; exact cp)⟩) (fun v9 g9 => ?_) (fun e8 g9 => ?_))
    · cases (ox.symm.trans g9)
    cases (ox.symm.trans g9)
    rw [← ck]
    refine Aft_v rfl ?_
    refine g_istore C0 dL_law_227 (by decide) ?_
    refine g_aload_n C0 dL_law_229 rfl ?_
    refine g_scr (kk := 1) C0 SC (W3l hw0) dL_law_230 dL_law_231 dL_law_233 dL_law_234 dL_law_235 rfl rfl (by decide +kernel) (by omega) (by omega) ?_
    refine g_scr (kk := 2) C0 SC (W3l hw0) dL_law_236 dL_law_237 dL_law_239 dL_law_240 dL_law_241 rfl rfl (by decide +kernel) (by omega) (by omega) ?_
    refine g_scr (kk := 3) C0 SC (W3l hw0) dL_law_242 dL_law_243 dL_law_245 dL_law_246 dL_law_247 rfl rfl (by decide +kernel) (by omega) (by omega) ?_
    refine g_invV (As := [.int (xs (i + 1)), .int (xs (i + 2)), .int (xs (i + 3))]) (st := []) (ci := 10) C0 dL_law_248 CL_130 rfl rfl rfl rfl ⟨by decide, by decide, (by show cs + 4 + 0 ≤ 601024; omega), (by show ss + 24 + 0 ≤ 7293034; omega)⟩ (Nat.le_of_ble_eq_true rfl) (frMK (av := [.ref 0, .int (xs (i + 1)), .int (xs (i + 2)), .int (xs (i + 3))]) (fun K hK => r_setPrices hK) ?_)
    rw [om, osh_i]
    refine Aft_v rfl ?_
    refine g_istore C0 dL_law_251 (by decide) ?_
    refine g_aload_n C0 dL_law_253 rfl ?_
    refine g_invV (As := []) (st := []) (ci := 10) C0 dL_law_254 CL_131 rfl rfl rfl rfl ⟨by decide, by decide, (by show cs + 4 + 0 + 0 ≤ 601024; omega), (by show ss + 24 + 0 + 0 ≤ 7293034; omega)⟩ (Nat.le_of_ble_eq_true rfl) (frMK (av := [.ref 0]) (fun K hK => m_thrown hK) ?_)
    rw [osh_i]
    refine Aft_v rfl ?_
    refine g_iload C0 dL_law_257 rfl ?_
    refine g_icmp_eq (tgt := 264) C0 dL_law_259 (by decide) (fun _ => ?_) (fun z => absurd rfl z)
    refine g_iload C0 dL_law_264 rfl ?_
    refine g_if_ne (tgt := 281) C0 dL_law_266 (by decide) (fun _ => ?_) (fun z => absurd z (nI_ne0 cp (by omega)))
    refine g_goto (tgt := 2347) C0 dL_law_281 (by decide) ?_
    refine g_widen (cs2 := cs + 12) (ss2 := ss + 72) (by show cs + 4 + 0 + 0 ≤ cs + 12; omega) (by show ss + 24 + 0 + 0 ≤ ss + 72; omega) ?_
    exact hn _ _ _ _ _ hr
set_option maxRecDepth 100000 in
set_option maxHeartbeats 4000000 in
theorem lc_setDelay {X : CX} {D : va_G} {dA : Nat → ClassId} {w0 : AW} {ad0 : Nat → Nat} {K : AO → AW → Prop} {q t : XS} {f : Nat → Int64} {L i cs ss : Nat} {xs : Nat → Int32} {o5 o6 : Option Value} (C0 : Ok X (D, dA, w0, ad0, K) ML_law) (SC : SCR X (D, dA, w0, ad0, K) 110 L xs) (hw0 : w0.length = 110) (rx : RX q t) (hL : L ≤ 2048) (hi : i + 3 < L) (hc : cs + 12 ≤ 601024) (hs : ss + 72 ≤ 7293034) (hn : ∀ (q2 t2 : XS) (f2 : Nat → Int64) (p5 p6 : Option Value), RX q2 t2 → Gd X (D, dA, w0, ad0, K) ML_law 2347 [some (.ref 110), some (.ref 0), some (.ref 84), some (.ref 109), some (.int (nI i)), p5, p6] [] (W3 q2 t2 f2) (cs + 12) (ss + 72)) : Gd X (D, dA, w0, ad0, K) ML_law 284 [some (.ref 110), some (.ref 0), some (.ref 84), some (.ref 109), some (.int (nI i)), o5, o6] [] (W3 q t f) cs ss := by
  obtain ⟨hA, hr⟩ := s_setDelay rx (xs (i + 1)) (xs (i + 2))
  rcases hA with ⟨v, ox, om, c0⟩ | ⟨e9, b9, he, ox, om, ck, cp, c4⟩
  · refine g_aload_n C0 dL_law_284 rfl ?_
    refine g_scr (kk := 1) C0 SC (W3l hw0) dL_law_285 dL_law_286 dL_law_288 dL_law_289 dL_law_290 rfl rfl (by decide +kernel) (by omega) (by omega) ?_
    refine g_scr (kk := 2) C0 SC (W3l hw0) dL_law_291 dL_law_292 dL_law_294 dL_law_295 dL_law_296 rfl rfl (by decide +kernel) (by omega) (by omega) ?_
    refine g_aload_n C0 dL_law_297 rfl ?_
    refine g_invSH (As := [.ref 0, .int (xs (i + 1)), .int (xs (i + 2)), .ref 109]) (st := []) C0 dL_law_298 CL_135 rfl rfl rfl ⟨by decide, by decide, (by show cs + 2 ≤ 601024; omega), (by show ss + 12 ≤ 7293034; omega)⟩ (Nat.le_of_ble_eq_true rfl) (w_setDelay (fun K hK => p_setDelay hK) (Or.inl ⟨v, ox⟩) (fun v9 g9 => ?_) (fun e8 g9 => ?_))
    rotate_left
    · cases (ox.symm.trans g9)
    cases (ox.symm.trans g9)
    refine Aft_v rfl ?_
    refine g_istore C0 dL_law_301 (by decide) ?_
    refine g_aload_n C0 dL_law_303 rfl ?_
    refine g_scr (kk := 1) C0 SC (W3l hw0) dL_law_304 dL_law_305 dL_law_307 dL_law_308 dL_law_309 rfl rfl (by decide +kernel) (by omega) (by omega) ?_
    refine g_scr (kk := 2) C0 SC (W3l hw0) dL_law_310 dL_law_311 dL_law_313 dL_law_314 dL_law_315 rfl rfl (by decide +kernel) (by omega) (by omega) ?_
    refine g_invV (As := [.int (xs (i + 1)), .int (xs (i + 2))]) (st := []) (ci := 10) C0 dL_law_316 CL_138 rfl rfl rfl rfl ⟨by decide, by decide, (by show cs + 2 + 0 ≤ 601024; omega), (by show ss + 12 + 0 ≤ 7293034; omega)⟩ (Nat.le_of_ble_eq_true rfl) (frMK (av := [.ref 0, .int (xs (i + 1)), .int (xs (i + 2))]) (fun K hK => r_setDelay hK) ?_)
    rw [om, osh_i]
    refine Aft_v rfl ?_
    refine g_istore C0 dL_law_319 (by decide) ?_
    refine g_aload_n C0 dL_law_321 rfl ?_
    refine g_invV (As := []) (st := []) (ci := 10) C0 dL_law_322 CL_131 rfl rfl rfl rfl ⟨by decide, by decide, (by show cs + 2 + 0 + 0 ≤ 601024; omega), (by show ss + 12 + 0 + 0 ≤ 7293034; omega)⟩ (Nat.le_of_ble_eq_true rfl) (frMK (av := [.ref 0]) (fun K hK => m_thrown hK) ?_)
    rw [osh_i, c0, nI_0]
    refine Aft_v rfl ?_
    refine g_iload C0 dL_law_325 rfl ?_
    refine g_icmp_eq (tgt := 332) C0 dL_law_327 (by decide) (fun _ => ?_) (fun z => absurd rfl z)
    refine g_iload C0 dL_law_332 rfl ?_
    refine g_if_ne (tgt := 349) C0 dL_law_334 (by decide) (fun z => absurd rfl z) (fun _ => ?_)
    refine g_aload_n C0 dL_law_337 rfl ?_
    refine g_iconst (v := 0) C0 dL_law_338 (by decide) ?_
    refine g_laload C0 dL_law_339 (W3_out _ _ _) in01 ?_
    rw [show (0 : Int32).toNatClampNeg = 0 by decide +kernel, pk_uLs]
    refine g_iload C0 dL_law_340 rfl ?_
    refine g_i2l C0 dL_law_342 ?_
    refine g_lcmp C0 dL_law_343 ?_
    rw [cmp_self]
    refine g_if_eq (tgt := 349) C0 dL_law_344 (by decide) (fun _ => ?_) (fun z => absurd rfl z)
    refine g_goto (tgt := 2347) C0 dL_law_349 (by decide) ?_
    refine g_widen (cs2 := cs + 12) (ss2 := ss + 72) (by show cs + 2 + 0 + 0 ≤ cs + 12; omega) (by show ss + 12 + 0 + 0 ≤ ss + 72; omega) ?_
    exact hn _ _ _ _ _ hr
  · refine g_aload_n C0 dL_law_284 rfl ?_
    refine g_scr (kk := 1) C0 SC (W3l hw0) dL_law_285 dL_law_286 dL_law_288 dL_law_289 dL_law_290 rfl rfl (by decide +kernel) (by omega) (by omega) ?_
    refine g_scr (kk := 2) C0 SC (W3l hw0) dL_law_291 dL_law_292 dL_law_294 dL_law_295 dL_law_296 rfl rfl (by decide +kernel) (by omega) (by omega) ?_
    refine g_aload_n C0 dL_law_297 rfl ?_
    refine g_invSH (As := [.ref 0, .int (xs (i + 1)), .int (xs (i + 2)), .ref 109]) (st := []) C0 dL_law_298 CL_135 rfl rfl rfl ⟨by decide, by decide, (by show cs + 2 ≤ 601024; omega), (by show ss + 12 ≤ 7293034; omega)⟩ (Nat.le_of_ble_eq_true rfl) (w_setDelay (fun K hK => p_setDelay hK) (Or.inr ⟨e9, ox, he, (by rw [← ck]; exact cp)⟩) (fun v9 g9 => ?_) (fun e8 g9 => ?_))
    · cases (ox.symm.trans g9)
    cases (ox.symm.trans g9)
    rw [← ck]
    refine Aft_v rfl ?_
    refine g_istore C0 dL_law_301 (by decide) ?_
    refine g_aload_n C0 dL_law_303 rfl ?_
    refine g_scr (kk := 1) C0 SC (W3l hw0) dL_law_304 dL_law_305 dL_law_307 dL_law_308 dL_law_309 rfl rfl (by decide +kernel) (by omega) (by omega) ?_
    refine g_scr (kk := 2) C0 SC (W3l hw0) dL_law_310 dL_law_311 dL_law_313 dL_law_314 dL_law_315 rfl rfl (by decide +kernel) (by omega) (by omega) ?_
    refine g_invV (As := [.int (xs (i + 1)), .int (xs (i + 2))]) (st := []) (ci := 10) C0 dL_law_316 CL_138 rfl rfl rfl rfl ⟨by decide, by decide, (by show cs + 2 + 0 ≤ 601024; omega), (by show ss + 12 + 0 ≤ 7293034; omega)⟩ (Nat.le_of_ble_eq_true rfl) (frMK (av := [.ref 0, .int (xs (i + 1)), .int (xs (i + 2))]) (fun K hK => r_setDelay hK) ?_)
    rw [om, osh_i]
    refine Aft_v rfl ?_
    refine g_istore C0 dL_law_319 (by decide) ?_
    refine g_aload_n C0 dL_law_321 rfl ?_
    refine g_invV (As := []) (st := []) (ci := 10) C0 dL_law_322 CL_131 rfl rfl rfl rfl ⟨by decide, by decide, (by show cs + 2 + 0 + 0 ≤ 601024; omega), (by show ss + 12 + 0 + 0 ≤ 7293034; omega)⟩ (Nat.le_of_ble_eq_true rfl) (frMK (av := [.ref 0]) (fun K hK => m_thrown hK) ?_)
    rw [osh_i]
    refine Aft_v rfl ?_
    refine g_iload C0 dL_law_325 rfl ?_
    refine g_icmp_eq (tgt := 332) C0 dL_law_327 (by decide) (fun _ => ?_) (fun z => absurd rfl z)
    refine g_iload C0 dL_law_332 rfl ?_
    refine g_if_ne (tgt := 349) C0 dL_law_334 (by decide) (fun _ => ?_) (fun z => absurd z (nI_ne0 cp (by omega)))
    refine g_goto (tgt := 2347) C0 dL_law_349 (by decide) ?_
    refine g_widen (cs2 := cs + 12) (ss2 := ss + 72) (by show cs + 2 + 0 + 0 ≤ cs + 12; omega) (by show ss + 12 + 0 + 0 ≤ ss + 72; omega) ?_
    exact hn _ _ _ _ _ hr
set_option maxRecDepth 100000 in
set_option maxHeartbeats 4000000 in
theorem lc_setTrunk {X : CX} {D : va_G} {dA : Nat → ClassId} {w0 : AW} {ad0 : Nat → Nat} {K : AO → AW → Prop} {q t : XS} {f : Nat → Int64} {L i cs ss : Nat} {xs : Nat → Int32} {o5 o6 : Option Value} (C0 : Ok X (D, dA, w0, ad0, K) ML_law) (SC : SCR X (D, dA, w0, ad0, K) 110 L xs) (hw0 : w0.length = 110) (rx : RX q t) (hL : L ≤ 2048) (hi : i + 3 < L) (hc : cs + 12 ≤ 601024) (hs : ss + 72 ≤ 7293034) (hn : ∀ (q2 t2 : XS) (f2 : Nat → Int64) (p5 p6 : Option Value), RX q2 t2 → Gd X (D, dA, w0, ad0, K) ML_law 2347 [some (.ref 110), some (.ref 0), some (.ref 84), some (.ref 109), some (.int (nI i)), p5, p6] [] (W3 q2 t2 f2) (cs + 12) (ss + 72)) : Gd X (D, dA, w0, ad0, K) ML_law 352 [some (.ref 110), some (.ref 0), some (.ref 84), some (.ref 109), some (.int (nI i)), o5, o6] [] (W3 q t f) cs ss := by
  obtain ⟨hA, hr⟩ := s_setTrunk rx (xs (i + 1)) (xs (i + 2)) (xs (i + 3))
  rcases hA with ⟨v, ox, om, c0⟩ | ⟨e9, b9, he, ox, om, ck, cp, c4⟩
  · refine g_aload_n C0 dL_law_352 rfl ?_
    refine g_scr (kk := 1) C0 SC (W3l hw0) dL_law_353 dL_law_354 dL_law_356 dL_law_357 dL_law_358 rfl rfl (by decide +kernel) (by omega) (by omega) ?_
    refine g_scr (kk := 2) C0 SC (W3l hw0) dL_law_359 dL_law_360 dL_law_362 dL_law_363 dL_law_364 rfl rfl (by decide +kernel) (by omega) (by omega) ?_
    refine g_scr (kk := 3) C0 SC (W3l hw0) dL_law_365 dL_law_366 dL_law_368 dL_law_369 dL_law_370 rfl rfl (by decide +kernel) (by omega) (by omega) ?_
    refine g_aload_n C0 dL_law_371 rfl ?_
    refine g_invSH (As := [.ref 0, .int (xs (i + 1)), .int (xs (i + 2)), .int (xs (i + 3)), .ref 109]) (st := []) C0 dL_law_372 CL_139 rfl rfl rfl ⟨by decide, by decide, (by show cs + 4 ≤ 601024; omega), (by show ss + 24 ≤ 7293034; omega)⟩ (Nat.le_of_ble_eq_true rfl) (w_setTrunk (fun K hK => p_setTrunk (by have := rx.c60; omega) (fun c hc => ⟨len_n rx hc, (by show (t.1 19 c).toNatClampNeg < 1000; have := (rx.g19 c).2; omega)⟩) hK) (Or.inl ⟨v, ox⟩) (fun v9 g9 => ?_) (fun e8 g9 => ?_))
    rotate_left
    · cases (ox.symm.trans g9)
    cases (ox.symm.trans g9)
    refine Aft_v rfl ?_
    refine g_istore C0 dL_law_375 (by decide) ?_
    refine g_aload_n C0 dL_law_377 rfl ?_
    refine g_scr (kk := 1) C0 SC (W3l hw0) dL_law_378 dL_law_379 dL_law_381 dL_law_382 dL_law_383 rfl rfl (by decide +kernel) (by omega) (by omega) ?_
    refine g_scr (kk := 2) C0 SC (W3l hw0) dL_law_384 dL_law_385 dL_law_387 dL_law_388 dL_law_389 rfl rfl (by decide +kernel) (by omega) (by omega) ?_
    refine g_scr (kk := 3) C0 SC (W3l hw0) dL_law_390 dL_law_391 dL_law_393 dL_law_394 dL_law_395 rfl rfl (by decide +kernel) (by omega) (by omega) ?_
    refine g_invV (As := [.int (xs (i + 1)), .int (xs (i + 2)), .int (xs (i + 3))]) (st := []) (ci := 10) C0 dL_law_396 CL_141 rfl rfl rfl rfl ⟨by decide, by decide, (by show cs + 4 + 0 ≤ 601024; omega), (by show ss + 24 + 0 ≤ 7293034; omega)⟩ (Nat.le_of_ble_eq_true rfl) (frMK (av := [.ref 0, .int (xs (i + 1)), .int (xs (i + 2)), .int (xs (i + 3))]) (fun K hK => r_setTrunk (by rw [← rx.cC]; exact rx.c60) (fun k _ => rx.g19 k) rx.g20 hK) ?_)
    rw [om, osh_i]
    refine Aft_v rfl ?_
    refine g_istore C0 dL_law_399 (by decide) ?_
    refine g_aload_n C0 dL_law_401 rfl ?_
    refine g_invV (As := []) (st := []) (ci := 10) C0 dL_law_402 CL_131 rfl rfl rfl rfl ⟨by decide, by decide, (by show cs + 4 + 0 + 0 ≤ 601024; omega), (by show ss + 24 + 0 + 0 ≤ 7293034; omega)⟩ (Nat.le_of_ble_eq_true rfl) (frMK (av := [.ref 0]) (fun K hK => m_thrown hK) ?_)
    rw [osh_i, c0, nI_0]
    refine Aft_v rfl ?_
    refine g_iload C0 dL_law_405 rfl ?_
    refine g_icmp_eq (tgt := 412) C0 dL_law_407 (by decide) (fun _ => ?_) (fun z => absurd rfl z)
    refine g_iload C0 dL_law_412 rfl ?_
    refine g_if_ne (tgt := 429) C0 dL_law_414 (by decide) (fun z => absurd rfl z) (fun _ => ?_)
    refine g_aload_n C0 dL_law_417 rfl ?_
    refine g_iconst (v := 0) C0 dL_law_418 (by decide) ?_
    refine g_laload C0 dL_law_419 (W3_out _ _ _) in01 ?_
    rw [show (0 : Int32).toNatClampNeg = 0 by decide +kernel, pk_uLs]
    refine g_iload C0 dL_law_420 rfl ?_
    refine g_i2l C0 dL_law_422 ?_
    refine g_lcmp C0 dL_law_423 ?_
    rw [cmp_self]
    refine g_if_eq (tgt := 429) C0 dL_law_424 (by decide) (fun _ => ?_) (fun z => absurd rfl z)
    refine g_goto (tgt := 2347) C0 dL_law_429 (by decide) ?_
    refine g_widen (cs2 := cs + 12) (ss2 := ss + 72) (by show cs + 4 + 0 + 0 ≤ cs + 12; omega) (by show ss + 24 + 0 + 0 ≤ ss + 72; omega) ?_
    exact hn _ _ _ _ _ hr
  · refine g_aload_n C0 dL_law_352 rfl ?_
    refine g_scr (kk := 1) C0 SC (W3l hw0) dL_law_353 dL_law_354 dL_law_356 dL_law_357 dL_law_358 rfl rfl (by decide +kernel) (by omega) (by omega) ?_
    refine g_scr (kk := 2) C0 SC (W3l hw0) dL_law_359 dL_law_360 dL_law_362 dL_law_363 dL_law_364 rfl rfl (by decide +kernel) (by omega) (by omega) ?_
    refine g_scr (kk := 3) C0 SC (W3l hw0) dL_law_365 dL_law_366 dL_law_368 dL_law_369 dL_law_370 rfl rfl (by decide +kernel) (by omega) (by omega) ?_
    refine g_aload_n C0 dL_law_371 rfl ?_
    refine g_invSH (As := [.ref 0, .int (xs (i + 1)), .int (xs (i + 2)), .int (xs (i + 3)), .ref 109]) (st := []) C0 dL_law_372 CL_139 rfl rfl rfl ⟨by decide, by decide, (by show cs + 4 ≤ 601024; omega), (by show ss + 24 ≤ 7293034; omega)⟩ (Nat.le_of_ble_eq_true rfl) (w_setTrunk (fun K hK => p_setTrunk (by have := rx.c60; omega) (fun c hc => ⟨len_n rx hc, (by show (t.1 19 c).toNatClampNeg < 1000; have := (rx.g19 c).2; omega)⟩) hK) (Or.inr ⟨e9, ox, he, (by rw [← ck]; exact cp)⟩) (fun v9 g9 => ?_) (fun e8 g9 => ?_))
    · cases (ox.symm.trans g9)
    cases (ox.symm.trans g9)
    rw [← ck]
    refine Aft_v rfl ?_
    refine g_istore C0 dL_law_375 (by decide) ?_
    refine g_aload_n C0 dL_law_377 rfl ?_
    refine g_scr (kk := 1) C0 SC (W3l hw0) dL_law_378 dL_law_379 dL_law_381 dL_law_382 dL_law_383 rfl rfl (by decide +kernel) (by omega) (by omega) ?_
    refine g_scr (kk := 2) C0 SC (W3l hw0) dL_law_384 dL_law_385 dL_law_387 dL_law_388 dL_law_389 rfl rfl (by decide +kernel) (by omega) (by omega) ?_
    refine g_scr (kk := 3) C0 SC (W3l hw0) dL_law_390 dL_law_391 dL_law_393 dL_law_394 dL_law_395 rfl rfl (by decide +kernel) (by omega) (by omega) ?_
    refine g_invV (As := [.int (xs (i + 1)), .int (xs (i + 2)), .int (xs (i + 3))]) (st := []) (ci := 10) C0 dL_law_396 CL_141 rfl rfl rfl rfl ⟨by decide, by decide, (by show cs + 4 + 0 ≤ 601024; omega), (by show ss + 24 + 0 ≤ 7293034; omega)⟩ (Nat.le_of_ble_eq_true rfl) (frMK (av := [.ref 0, .int (xs (i + 1)), .int (xs (i + 2)), .int (xs (i + 3))]) (fun K hK => r_setTrunk (by rw [← rx.cC]; exact rx.c60) (fun k _ => rx.g19 k) rx.g20 hK) ?_)
    rw [om, osh_i]
    refine Aft_v rfl ?_
    refine g_istore C0 dL_law_399 (by decide) ?_
    refine g_aload_n C0 dL_law_401 rfl ?_
    refine g_invV (As := []) (st := []) (ci := 10) C0 dL_law_402 CL_131 rfl rfl rfl rfl ⟨by decide, by decide, (by show cs + 4 + 0 + 0 ≤ 601024; omega), (by show ss + 24 + 0 + 0 ≤ 7293034; omega)⟩ (Nat.le_of_ble_eq_true rfl) (frMK (av := [.ref 0]) (fun K hK => m_thrown hK) ?_)
    rw [osh_i]
    refine Aft_v rfl ?_
    refine g_iload C0 dL_law_405 rfl ?_
    refine g_icmp_eq (tgt := 412) C0 dL_law_407 (by decide) (fun _ => ?_) (fun z => absurd rfl z)
    refine g_iload C0 dL_law_412 rfl ?_
    refine g_if_ne (tgt := 429) C0 dL_law_414 (by decide) (fun _ => ?_) (fun z => absurd z (nI_ne0 cp (by omega)))
    refine g_goto (tgt := 2347) C0 dL_law_429 (by decide) ?_
    refine g_widen (cs2 := cs + 12) (ss2 := ss + 72) (by show cs + 4 + 0 + 0 ≤ cs + 12; omega) (by show ss + 24 + 0 + 0 ≤ ss + 72; omega) ?_
    exact hn _ _ _ _ _ hr
set_option maxRecDepth 100000 in
set_option maxHeartbeats 4000000 in
theorem lc_port {X : CX} {D : va_G} {dA : Nat → ClassId} {w0 : AW} {ad0 : Nat → Nat} {K : AO → AW → Prop} {q t : XS} {f : Nat → Int64} {L i cs ss : Nat} {xs : Nat → Int32} {o5 o6 : Option Value} (C0 : Ok X (D, dA, w0, ad0, K) ML_law) (SC : SCR X (D, dA, w0, ad0, K) 110 L xs) (hw0 : w0.length = 110) (rx : RX q t) (hL : L ≤ 2048) (hi : i + 3 < L) (hc : cs + 12 ≤ 601024) (hs : ss + 72 ≤ 7293034) (hn : ∀ (q2 t2 : XS) (f2 : Nat → Int64) (p5 p6 : Option Value), RX q2 t2 → Gd X (D, dA, w0, ad0, K) ML_law 2347 [some (.ref 110), some (.ref 0), some (.ref 84), some (.ref 109), some (.int (nI i)), p5, p6] [] (W3 q2 t2 f2) (cs + 12) (ss + 72)) : Gd X (D, dA, w0, ad0, K) ML_law 432 [some (.ref 110), some (.ref 0), some (.ref 84), some (.ref 109), some (.int (nI i)), o5, o6] [] (W3 q t f) cs ss := by
  obtain ⟨hA, hr⟩ := s_port rx (xs (i + 1)) (xs (i + 2))
  rcases hA with ⟨v, ox, om, c0⟩ | ⟨e9, b9, he, ox, om, ck, cp, c4⟩
  · refine g_aload_n C0 dL_law_432 rfl ?_
    refine g_scr (kk := 1) C0 SC (W3l hw0) dL_law_433 dL_law_434 dL_law_436 dL_law_437 dL_law_438 rfl rfl (by decide +kernel) (by omega) (by omega) ?_
    refine g_scr (kk := 2) C0 SC (W3l hw0) dL_law_439 dL_law_440 dL_law_442 dL_law_443 dL_law_444 rfl rfl (by decide +kernel) (by omega) (by omega) ?_
    refine g_aload_n C0 dL_law_445 rfl ?_
    refine g_invSH (As := [.ref 0, .int (xs (i + 1)), .int (xs (i + 2)), .ref 109]) (st := []) C0 dL_law_446 CL_142 rfl rfl rfl ⟨by decide, by decide, (by show cs + 5 ≤ 601024; omega), (by show ss + 30 ≤ 7293034; omega)⟩ (Nat.le_of_ble_eq_true rfl) (w_port (fun K hK => p_port hK) (Or.inl ⟨v, ox⟩) (fun v9 g9 => ?_) (fun e8 g9 => ?_))
    rotate_left
    · cases (ox.symm.trans g9)
    cases (ox.symm.trans g9)
    refine Aft_v rfl ?_
    refine g_istore C0 dL_law_449 (by decide) ?_
    refine g_aload_n C0 dL_law_451 rfl ?_
    refine g_scr (kk := 1) C0 SC (W3l hw0) dL_law_452 dL_law_453 dL_law_455 dL_law_456 dL_law_457 rfl rfl (by decide +kernel) (by omega) (by omega) ?_
    refine g_scr (kk := 2) C0 SC (W3l hw0) dL_law_458 dL_law_459 dL_law_461 dL_law_462 dL_law_463 rfl rfl (by decide +kernel) (by omega) (by omega) ?_
    refine g_invV (As := [.int (xs (i + 1)), .int (xs (i + 2))]) (st := []) (ci := 10) C0 dL_law_464 CL_144 rfl rfl rfl rfl ⟨by decide, by decide, (by show cs + 5 + 0 ≤ 601024; omega), (by show ss + 30 + 0 ≤ 7293034; omega)⟩ (Nat.le_of_ble_eq_true rfl) (frMK (av := [.ref 0, .int (xs (i + 1)), .int (xs (i + 2))]) (fun K hK => r_port (by rw [← rx.cP]; exact rx.p60) rx.g13 hK) ?_)
    rw [om, osh_i]
    refine Aft_v rfl ?_
    refine g_istore C0 dL_law_467 (by decide) ?_
    refine g_aload_n C0 dL_law_469 rfl ?_
    refine g_invV (As := []) (st := []) (ci := 10) C0 dL_law_470 CL_131 rfl rfl rfl rfl ⟨by decide, by decide, (by show cs + 5 + 0 + 0 ≤ 601024; omega), (by show ss + 30 + 0 + 0 ≤ 7293034; omega)⟩ (Nat.le_of_ble_eq_true rfl) (frMK (av := [.ref 0]) (fun K hK => m_thrown hK) ?_)
    rw [osh_i, c0, nI_0]
    refine Aft_v rfl ?_
    refine g_iload C0 dL_law_473 rfl ?_
    refine g_icmp_eq (tgt := 480) C0 dL_law_475 (by decide) (fun _ => ?_) (fun z => absurd rfl z)
    refine g_iload C0 dL_law_480 rfl ?_
    refine g_if_ne (tgt := 497) C0 dL_law_482 (by decide) (fun z => absurd rfl z) (fun _ => ?_)
    refine g_aload_n C0 dL_law_485 rfl ?_
    refine g_iconst (v := 0) C0 dL_law_486 (by decide) ?_
    refine g_laload C0 dL_law_487 (W3_out _ _ _) in01 ?_
    rw [show (0 : Int32).toNatClampNeg = 0 by decide +kernel, pk_uLs]
    refine g_iload C0 dL_law_488 rfl ?_
    refine g_i2l C0 dL_law_490 ?_
    refine g_lcmp C0 dL_law_491 ?_
    rw [cmp_self]
    refine g_if_eq (tgt := 497) C0 dL_law_492 (by decide) (fun _ => ?_) (fun z => absurd rfl z)
    refine g_goto (tgt := 2347) C0 dL_law_497 (by decide) ?_
    refine g_widen (cs2 := cs + 12) (ss2 := ss + 72) (by show cs + 5 + 0 + 0 ≤ cs + 12; omega) (by show ss + 30 + 0 + 0 ≤ ss + 72; omega) ?_
    exact hn _ _ _ _ _ hr
  · refine g_aload_n C0 dL_law_432 rfl ?_
    refine g_scr (kk := 1) C0 SC (W3l hw0) dL_law_433 dL_law_434 dL_law_436 dL_law_437 dL_law_438 rfl rfl (by decide +kernel) (by omega) (by omega) ?_
    refine g_scr (kk := 2) C0 SC (W3l hw0) dL_law_439 dL_law_440 dL_law_442 dL_law_443 dL_law_444 rfl rfl (by decide +kernel) (by omega) (by omega) ?_
    refine g_aload_n C0 dL_law_445 rfl ?_
    refine g_invSH (As := [.ref 0, .int (xs (i + 1)), .int (xs (i + 2)), .ref 109]) (st := []) C0 dL_law_446 CL_142 rfl rfl rfl ⟨by decide, by decide, (by show cs + 5 ≤ 601024; omega), (by show ss + 30 ≤ 7293034; omega)⟩ (Nat.le_of_ble_eq_true rfl) (w_port (fun K hK => p_port hK) (Or.inr ⟨e9, ox, he, (by rw [← ck]; exact cp)⟩) (fun v9 g9 => ?_) (fun e8 g9 => ?_))
    · cases (ox.symm.trans g9)
    cases (ox.symm.trans g9)
    rw [← ck]
    refine Aft_v rfl ?_
    refine g_istore C0 dL_law_449 (by decide) ?_
    refine g_aload_n C0 dL_law_451 rfl ?_
    refine g_scr (kk := 1) C0 SC (W3l hw0) dL_law_452 dL_law_453 dL_law_455 dL_law_456 dL_law_457 rfl rfl (by decide +kernel) (by omega) (by omega) ?_
    refine g_scr (kk := 2) C0 SC (W3l hw0) dL_law_458 dL_law_459 dL_law_461 dL_law_462 dL_law_463 rfl rfl (by decide +kernel) (by omega) (by omega) ?_
    refine g_invV (As := [.int (xs (i + 1)), .int (xs (i + 2))]) (st := []) (ci := 10) C0 dL_law_464 CL_144 rfl rfl rfl rfl ⟨by decide, by decide, (by show cs + 5 + 0 ≤ 601024; omega), (by show ss + 30 + 0 ≤ 7293034; omega)⟩ (Nat.le_of_ble_eq_true rfl) (frMK (av := [.ref 0, .int (xs (i + 1)), .int (xs (i + 2))]) (fun K hK => r_port (by rw [← rx.cP]; exact rx.p60) rx.g13 hK) ?_)
    rw [om, osh_i]
    refine Aft_v rfl ?_
    refine g_istore C0 dL_law_467 (by decide) ?_
    refine g_aload_n C0 dL_law_469 rfl ?_
    refine g_invV (As := []) (st := []) (ci := 10) C0 dL_law_470 CL_131 rfl rfl rfl rfl ⟨by decide, by decide, (by show cs + 5 + 0 + 0 ≤ 601024; omega), (by show ss + 30 + 0 + 0 ≤ 7293034; omega)⟩ (Nat.le_of_ble_eq_true rfl) (frMK (av := [.ref 0]) (fun K hK => m_thrown hK) ?_)
    rw [osh_i]
    refine Aft_v rfl ?_
    refine g_iload C0 dL_law_473 rfl ?_
    refine g_icmp_eq (tgt := 480) C0 dL_law_475 (by decide) (fun _ => ?_) (fun z => absurd rfl z)
    refine g_iload C0 dL_law_480 rfl ?_
    refine g_if_ne (tgt := 497) C0 dL_law_482 (by decide) (fun _ => ?_) (fun z => absurd z (nI_ne0 cp (by omega)))
    refine g_goto (tgt := 2347) C0 dL_law_497 (by decide) ?_
    refine g_widen (cs2 := cs + 12) (ss2 := ss + 72) (by show cs + 5 + 0 + 0 ≤ cs + 12; omega) (by show ss + 30 + 0 + 0 ≤ ss + 72; omega) ?_
    exact hn _ _ _ _ _ hr
set_option maxRecDepth 100000 in
set_option maxHeartbeats 4000000 in
theorem lc_sell {X : CX} {D : va_G} {dA : Nat → ClassId} {w0 : AW} {ad0 : Nat → Nat} {K : AO → AW → Prop} {q t : XS} {f : Nat → Int64} {L i cs ss : Nat} {xs : Nat → Int32} {o5 o6 : Option Value} (C0 : Ok X (D, dA, w0, ad0, K) ML_law) (SC : SCR X (D, dA, w0, ad0, K) 110 L xs) (hw0 : w0.length = 110) (rx : RX q t) (hL : L ≤ 2048) (hi : i + 3 < L) (hc : cs + 12 ≤ 601024) (hs : ss + 72 ≤ 7293034) (hn : ∀ (q2 t2 : XS) (f2 : Nat → Int64) (p5 p6 : Option Value), RX q2 t2 → Gd X (D, dA, w0, ad0, K) ML_law 2347 [some (.ref 110), some (.ref 0), some (.ref 84), some (.ref 109), some (.int (nI i)), p5, p6] [] (W3 q2 t2 f2) (cs + 12) (ss + 72)) : Gd X (D, dA, w0, ad0, K) ML_law 500 [some (.ref 110), some (.ref 0), some (.ref 84), some (.ref 109), some (.int (nI i)), o5, o6] [] (W3 q t f) cs ss := by
  obtain ⟨hA, hr⟩ := s_sell rx (xs (i + 1)) (xs (i + 2))
  rcases hA with ⟨v, ox, om, c0⟩ | ⟨e9, b9, he, ox, om, ck, cp, c4⟩
  · refine g_aload_n C0 dL_law_500 rfl ?_
    refine g_scr (kk := 1) C0 SC (W3l hw0) dL_law_501 dL_law_502 dL_law_504 dL_law_505 dL_law_506 rfl rfl (by decide +kernel) (by omega) (by omega) ?_
    refine g_scr (kk := 2) C0 SC (W3l hw0) dL_law_507 dL_law_508 dL_law_510 dL_law_511 dL_law_512 rfl rfl (by decide +kernel) (by omega) (by omega) ?_
    refine g_aload_n C0 dL_law_513 rfl ?_
    refine g_invSH (As := [.ref 0, .int (xs (i + 1)), .int (xs (i + 2)), .ref 109]) (st := []) C0 dL_law_514 CL_145 rfl rfl rfl ⟨by decide, by decide, (by show cs + 4 ≤ 601024; omega), (by show ss + 24 ≤ 7293034; omega)⟩ (Nat.le_of_ble_eq_true rfl) (w_sell (fun K hK => p_sell hK) (Or.inl ⟨v, ox⟩) (fun v9 g9 => ?_) (fun e8 g9 => ?_))
    rotate_left
    · cases (ox.symm.trans g9)
    cases (ox.symm.trans g9)
    refine Aft_v rfl ?_
    refine g_istore C0 dL_law_517 (by decide) ?_
    refine g_aload_n C0 dL_law_519 rfl ?_
    refine g_scr (kk := 1) C0 SC (W3l hw0) dL_law_520 dL_law_521 dL_law_523 dL_law_524 dL_law_525 rfl rfl (by decide +kernel) (by omega) (by omega) ?_
    refine g_scr (kk := 2) C0 SC (W3l hw0) dL_law_526 dL_law_527 dL_law_529 dL_law_530 dL_law_531 rfl rfl (by decide +kernel) (by omega) (by omega) ?_
    refine g_invV (As := [.int (xs (i + 1)), .int (xs (i + 2))]) (st := []) (ci := 10) C0 dL_law_532 CL_147 rfl rfl rfl rfl ⟨by decide, by decide, (by show cs + 4 + 0 ≤ 601024; omega), (by show ss + 24 + 0 ≤ 7293034; omega)⟩ (Nat.le_of_ble_eq_true rfl) (frMK (av := [.ref 0, .int (xs (i + 1)), .int (xs (i + 2))]) (fun K hK => r_sell hK) ?_)
    rw [om, osh_i]
    refine Aft_v rfl ?_
    refine g_istore C0 dL_law_535 (by decide) ?_
    refine g_aload_n C0 dL_law_537 rfl ?_
    refine g_invV (As := []) (st := []) (ci := 10) C0 dL_law_538 CL_131 rfl rfl rfl rfl ⟨by decide, by decide, (by show cs + 4 + 0 + 0 ≤ 601024; omega), (by show ss + 24 + 0 + 0 ≤ 7293034; omega)⟩ (Nat.le_of_ble_eq_true rfl) (frMK (av := [.ref 0]) (fun K hK => m_thrown hK) ?_)
    rw [osh_i, c0, nI_0]
    refine Aft_v rfl ?_
    refine g_iload C0 dL_law_541 rfl ?_
    refine g_icmp_eq (tgt := 548) C0 dL_law_543 (by decide) (fun _ => ?_) (fun z => absurd rfl z)
    refine g_iload C0 dL_law_548 rfl ?_
    refine g_if_ne (tgt := 565) C0 dL_law_550 (by decide) (fun z => absurd rfl z) (fun _ => ?_)
    refine g_aload_n C0 dL_law_553 rfl ?_
    refine g_iconst (v := 0) C0 dL_law_554 (by decide) ?_
    refine g_laload C0 dL_law_555 (W3_out _ _ _) in01 ?_
    rw [show (0 : Int32).toNatClampNeg = 0 by decide +kernel, pk_uLs]
    refine g_iload C0 dL_law_556 rfl ?_
    refine g_i2l C0 dL_law_558 ?_
    refine g_lcmp C0 dL_law_559 ?_
    rw [cmp_self]
    refine g_if_eq (tgt := 565) C0 dL_law_560 (by decide) (fun _ => ?_) (fun z => absurd rfl z)
    refine g_goto (tgt := 2347) C0 dL_law_565 (by decide) ?_
    refine g_widen (cs2 := cs + 12) (ss2 := ss + 72) (by show cs + 4 + 0 + 0 ≤ cs + 12; omega) (by show ss + 24 + 0 + 0 ≤ ss + 72; omega) ?_
    exact hn _ _ _ _ _ hr
  · refine g_aload_n C0 dL_law_500 rfl ?_
    refine g_scr (kk := 1) C0 SC (W3l hw0) dL_law_501 dL_law_502 dL_law_504 dL_law_505 dL_law_506 rfl rfl (by decide +kernel) (by omega) (by omega) ?_
    refine g_scr (kk := 2) C0 SC (W3l hw0) dL_law_507 dL_law_508 dL_law_510 dL_law_511 dL_law_512 rfl rfl (by decide +kernel) (by omega) (by omega) ?_
    refine g_aload_n C0 dL_law_513 rfl ?_
    refine g_invSH (As := [.ref 0, .int (xs (i + 1)), .int (xs (i + 2)), .ref 109]) (st := []) C0 dL_law_514 CL_145 rfl rfl rfl ⟨by decide, by decide, (by show cs + 4 ≤ 601024; omega), (by show ss + 24 ≤ 7293034; omega)⟩ (Nat.le_of_ble_eq_true rfl) (w_sell (fun K hK => p_sell hK) (Or.inr ⟨e9, ox, he, (by rw [← ck]; exact cp)⟩) (fun v9 g9 => ?_) (fun e8 g9 => ?_))
    · cases (ox.symm.trans g9)
    cases (ox.symm.trans g9)
    rw [← ck]
    refine Aft_v rfl ?_
    refine g_istore C0 dL_law_517 (by decide) ?_
    refine g_aload_n C0 dL_law_519 rfl ?_
    refine g_scr (kk := 1) C0 SC (W3l hw0) dL_law_520 dL_law_521 dL_law_523 dL_law_524 dL_law_525 rfl rfl (by decide +kernel) (by omega) (by omega) ?_
    refine g_scr (kk := 2) C0 SC (W3l hw0) dL_law_526 dL_law_527 dL_law_529 dL_law_530 dL_law_531 rfl rfl (by decide +kernel) (by omega) (by omega) ?_
    refine g_invV (As := [.int (xs (i + 1)), .int (xs (i + 2))]) (st := []) (ci := 10) C0 dL_law_532 CL_147 rfl rfl rfl rfl ⟨by decide, by decide, (by show cs + 4 + 0 ≤ 601024; omega), (by show ss + 24 + 0 ≤ 7293034; omega)⟩ (Nat.le_of_ble_eq_true rfl) (frMK (av := [.ref 0, .int (xs (i + 1)), .int (xs (i + 2))]) (fun K hK => r_sell hK) ?_)
    rw [om, osh_i]
    refine Aft_v rfl ?_
    refine g_istore C0 dL_law_535 (by decide) ?_
    refine g_aload_n C0 dL_law_537 rfl ?_
    refine g_invV (As := []) (st := []) (ci := 10) C0 dL_law_538 CL_131 rfl rfl rfl rfl ⟨by decide, by decide, (by show cs + 4 + 0 + 0 ≤ 601024; omega), (by show ss + 24 + 0 + 0 ≤ 7293034; omega)⟩ (Nat.le_of_ble_eq_true rfl) (frMK (av := [.ref 0]) (fun K hK => m_thrown hK) ?_)
    rw [osh_i]
    refine Aft_v rfl ?_
    refine g_iload C0 dL_law_541 rfl ?_
    refine g_icmp_eq (tgt := 548) C0 dL_law_543 (by decide) (fun _ => ?_) (fun z => absurd rfl z)
    refine g_iload C0 dL_law_548 rfl ?_
    refine g_if_ne (tgt := 565) C0 dL_law_550 (by decide) (fun _ => ?_) (fun z => absurd z (nI_ne0 cp (by omega)))
    refine g_goto (tgt := 2347) C0 dL_law_565 (by decide) ?_
    refine g_widen (cs2 := cs + 12) (ss2 := ss + 72) (by show cs + 4 + 0 + 0 ≤ cs + 12; omega) (by show ss + 24 + 0 + 0 ≤ ss + 72; omega) ?_
    exact hn _ _ _ _ _ hr
set_option maxRecDepth 100000 in
set_option maxHeartbeats 4000000 in
theorem lc_bond {X : CX} {D : va_G} {dA : Nat → ClassId} {w0 : AW} {ad0 : Nat → Nat} {K : AO → AW → Prop} {q t : XS} {f : Nat → Int64} {L i cs ss : Nat} {xs : Nat → Int32} {o5 o6 : Option Value} (C0 : Ok X (D, dA, w0, ad0, K) ML_law) (SC : SCR X (D, dA, w0, ad0, K) 110 L xs) (hw0 : w0.length = 110) (rx : RX q t) (hL : L ≤ 2048) (hi : i + 3 < L) (hc : cs + 12 ≤ 601024) (hs : ss + 72 ≤ 7293034) (hn : ∀ (q2 t2 : XS) (f2 : Nat → Int64) (p5 p6 : Option Value), RX q2 t2 → Gd X (D, dA, w0, ad0, K) ML_law 2347 [some (.ref 110), some (.ref 0), some (.ref 84), some (.ref 109), some (.int (nI i)), p5, p6] [] (W3 q2 t2 f2) (cs + 12) (ss + 72)) : Gd X (D, dA, w0, ad0, K) ML_law 568 [some (.ref 110), some (.ref 0), some (.ref 84), some (.ref 109), some (.int (nI i)), o5, o6] [] (W3 q t f) cs ss := by
  obtain ⟨hA, hr⟩ := s_bond rx (xs (i + 1)) (xs (i + 2))
  rcases hA with ⟨v, ox, om, c0⟩ | ⟨e9, b9, he, ox, om, ck, cp, c4⟩
  · refine g_aload_n C0 dL_law_568 rfl ?_
    refine g_scr (kk := 1) C0 SC (W3l hw0) dL_law_569 dL_law_570 dL_law_572 dL_law_573 dL_law_574 rfl rfl (by decide +kernel) (by omega) (by omega) ?_
    refine g_scr (kk := 2) C0 SC (W3l hw0) dL_law_575 dL_law_576 dL_law_578 dL_law_579 dL_law_580 rfl rfl (by decide +kernel) (by omega) (by omega) ?_
    refine g_aload_n C0 dL_law_581 rfl ?_
    refine g_invSH (As := [.ref 0, .int (xs (i + 1)), .int (xs (i + 2)), .ref 109]) (st := []) C0 dL_law_582 CL_148 rfl rfl rfl ⟨by decide, by decide, (by show cs + 3 ≤ 601024; omega), (by show ss + 18 ≤ 7293034; omega)⟩ (Nat.le_of_ble_eq_true rfl) (w_bond (fun K hK => p_bond hK) (Or.inl ⟨v, ox⟩) (fun v9 g9 => ?_) (fun e8 g9 => ?_))
    rotate_left
    · cases (ox.symm.trans g9)
    cases (ox.symm.trans g9)
    refine Aft_v rfl ?_
    refine g_istore C0 dL_law_585 (by decide) ?_
    refine g_aload_n C0 dL_law_587 rfl ?_
    refine g_scr (kk := 1) C0 SC (W3l hw0) dL_law_588 dL_law_589 dL_law_591 dL_law_592 dL_law_593 rfl rfl (by decide +kernel) (by omega) (by omega) ?_
    refine g_scr (kk := 2) C0 SC (W3l hw0) dL_law_594 dL_law_595 dL_law_597 dL_law_598 dL_law_599 rfl rfl (by decide +kernel) (by omega) (by omega) ?_
    refine g_invV (As := [.int (xs (i + 1)), .int (xs (i + 2))]) (st := []) (ci := 10) C0 dL_law_600 CL_150 rfl rfl rfl rfl ⟨by decide, by decide, (by show cs + 3 + 0 ≤ 601024; omega), (by show ss + 18 + 0 ≤ 7293034; omega)⟩ (Nat.le_of_ble_eq_true rfl) (frMK (av := [.ref 0, .int (xs (i + 1)), .int (xs (i + 2))]) (fun K hK => r_bond hK) ?_)
    rw [om, osh_i]
    refine Aft_v rfl ?_
    refine g_istore C0 dL_law_603 (by decide) ?_
    refine g_aload_n C0 dL_law_605 rfl ?_
    refine g_invV (As := []) (st := []) (ci := 10) C0 dL_law_606 CL_131 rfl rfl rfl rfl ⟨by decide, by decide, (by show cs + 3 + 0 + 0 ≤ 601024; omega), (by show ss + 18 + 0 + 0 ≤ 7293034; omega)⟩ (Nat.le_of_ble_eq_true rfl) (frMK (av := [.ref 0]) (fun K hK => m_thrown hK) ?_)
    rw [osh_i, c0, nI_0]
    refine Aft_v rfl ?_
    refine g_iload C0 dL_law_609 rfl ?_
    refine g_icmp_eq (tgt := 616) C0 dL_law_611 (by decide) (fun _ => ?_) (fun z => absurd rfl z)
    refine g_iload C0 dL_law_616 rfl ?_
    refine g_if_ne (tgt := 633) C0 dL_law_618 (by decide) (fun z => absurd rfl z) (fun _ => ?_)
    refine g_aload_n C0 dL_law_621 rfl ?_
    refine g_iconst (v := 0) C0 dL_law_622 (by decide) ?_
    refine g_laload C0 dL_law_623 (W3_out _ _ _) in01 ?_
    rw [show (0 : Int32).toNatClampNeg = 0 by decide +kernel, pk_uLs]
    refine g_iload C0 dL_law_624 rfl ?_
    refine g_i2l C0 dL_law_626 ?_
    refine g_lcmp C0 dL_law_627 ?_
    rw [cmp_self]
    refine g_if_eq (tgt := 633) C0 dL_law_628 (by decide) (fun _ => ?_) (fun z => absurd rfl z)
    refine g_goto (tgt := 2347) C0 dL_law_633 (by decide) ?_
    refine g_widen (cs2 := cs + 12) (ss2 := ss + 72) (by show cs + 3 + 0 + 0 ≤ cs + 12; omega) (by show ss + 18 + 0 + 0 ≤ ss + 72; omega) ?_
    exact hn _ _ _ _ _ hr
  · refine g_aload_n C0 dL_law_568 rfl ?_
    refine g_scr (kk := 1) C0 SC (W3l hw0) dL_law_569 dL_law_570 dL_law_572 dL_law_573 dL_law_574 rfl rfl (by decide +kernel) (by omega) (by omega) ?_
    refine g_scr (kk := 2) C0 SC (W3l hw0) dL_law_575 dL_law_576 dL_law_578 dL_law_579 dL_law_580 rfl rfl (by decide +kernel) (by omega) (by omega) ?_
    refine g_aload_n C0 dL_law_581 rfl ?_
    refine g_invSH (As := [.ref 0, .int (xs (i + 1)), .int (xs (i + 2)), .ref 109]) (st := []) C0 dL_law_582 CL_148 rfl rfl rfl ⟨by decide, by decide, (by show cs + 3 ≤ 601024; omega), (by show ss + 18 ≤ 7293034; omega)⟩ (Nat.le_of_ble_eq_true rfl) (w_bond (fun K hK => p_bond hK) (Or.inr ⟨e9, ox, he, (by rw [← ck]; exact cp)⟩) (fun v9 g9 => ?_) (fun e8 g9 => ?_))
    · cases (ox.symm.trans g9)
    cases (ox.symm.trans g9)
    rw [← ck]
    refine Aft_v rfl ?_
    refine g_istore C0 dL_law_585 (by decide) ?_
    refine g_aload_n C0 dL_law_587 rfl ?_
    refine g_scr (kk := 1) C0 SC (W3l hw0) dL_law_588 dL_law_589 dL_law_591 dL_law_592 dL_law_593 rfl rfl (by decide +kernel) (by omega) (by omega) ?_
    refine g_scr (kk := 2) C0 SC (W3l hw0) dL_law_594 dL_law_595 dL_law_597 dL_law_598 dL_law_599 rfl rfl (by decide +kernel) (by omega) (by omega) ?_
    refine g_invV (As := [.int (xs (i + 1)), .int (xs (i + 2))]) (st := []) (ci := 10) C0 dL_law_600 CL_150 rfl rfl rfl rfl ⟨by decide, by decide, (by show cs + 3 + 0 ≤ 601024; omega), (by show ss + 18 + 0 ≤ 7293034; omega)⟩ (Nat.le_of_ble_eq_true rfl) (frMK (av := [.ref 0, .int (xs (i + 1)), .int (xs (i + 2))]) (fun K hK => r_bond hK) ?_)
    rw [om, osh_i]
    refine Aft_v rfl ?_
    refine g_istore C0 dL_law_603 (by decide) ?_
    refine g_aload_n C0 dL_law_605 rfl ?_
    refine g_invV (As := []) (st := []) (ci := 10) C0 dL_law_606 CL_131 rfl rfl rfl rfl ⟨by decide, by decide, (by show cs + 3 + 0 + 0 ≤ 601024; omega), (by show ss + 18 + 0 + 0 ≤ 7293034; omega)⟩ (Nat.le_of_ble_eq_true rfl) (frMK (av := [.ref 0]) (fun K hK => m_thrown hK) ?_)
    rw [osh_i]
    refine Aft_v rfl ?_
    refine g_iload C0 dL_law_609 rfl ?_
    refine g_icmp_eq (tgt := 616) C0 dL_law_611 (by decide) (fun _ => ?_) (fun z => absurd rfl z)
    refine g_iload C0 dL_law_616 rfl ?_
    refine g_if_ne (tgt := 633) C0 dL_law_618 (by decide) (fun _ => ?_) (fun z => absurd z (nI_ne0 cp (by omega)))
    refine g_goto (tgt := 2347) C0 dL_law_633 (by decide) ?_
    refine g_widen (cs2 := cs + 12) (ss2 := ss + 72) (by show cs + 3 + 0 + 0 ≤ cs + 12; omega) (by show ss + 18 + 0 + 0 ≤ ss + 72; omega) ?_
    exact hn _ _ _ _ _ hr
set_option maxRecDepth 100000 in
set_option maxHeartbeats 4000000 in
theorem lc_pay {X : CX} {D : va_G} {dA : Nat → ClassId} {w0 : AW} {ad0 : Nat → Nat} {K : AO → AW → Prop} {q t : XS} {f : Nat → Int64} {L i cs ss : Nat} {xs : Nat → Int32} {o5 o6 : Option Value} (C0 : Ok X (D, dA, w0, ad0, K) ML_law) (SC : SCR X (D, dA, w0, ad0, K) 110 L xs) (hw0 : w0.length = 110) (rx : RX q t) (hL : L ≤ 2048) (hi : i + 3 < L) (hc : cs + 12 ≤ 601024) (hs : ss + 72 ≤ 7293034) (hn : ∀ (q2 t2 : XS) (f2 : Nat → Int64) (p5 p6 : Option Value), RX q2 t2 → Gd X (D, dA, w0, ad0, K) ML_law 2347 [some (.ref 110), some (.ref 0), some (.ref 84), some (.ref 109), some (.int (nI i)), p5, p6] [] (W3 q2 t2 f2) (cs + 12) (ss + 72)) : Gd X (D, dA, w0, ad0, K) ML_law 636 [some (.ref 110), some (.ref 0), some (.ref 84), some (.ref 109), some (.int (nI i)), o5, o6] [] (W3 q t f) cs ss := by
  obtain ⟨hA, hr⟩ := s_pay rx (xs (i + 1)) (xs (i + 2))
  rcases hA with ⟨v, ox, om, c0⟩ | ⟨e9, b9, he, ox, om, ck, cp, c4⟩
  · refine g_aload_n C0 dL_law_636 rfl ?_
    refine g_scr (kk := 1) C0 SC (W3l hw0) dL_law_637 dL_law_638 dL_law_640 dL_law_641 dL_law_642 rfl rfl (by decide +kernel) (by omega) (by omega) ?_
    refine g_scr (kk := 2) C0 SC (W3l hw0) dL_law_643 dL_law_644 dL_law_646 dL_law_647 dL_law_648 rfl rfl (by decide +kernel) (by omega) (by omega) ?_
    refine g_aload_n C0 dL_law_649 rfl ?_
    refine g_invSH (As := [.ref 0, .int (xs (i + 1)), .int (xs (i + 2)), .ref 109]) (st := []) C0 dL_law_650 CL_151 rfl rfl rfl ⟨by decide, by decide, (by show cs + 2 ≤ 601024; omega), (by show ss + 12 ≤ 7293034; omega)⟩ (Nat.le_of_ble_eq_true rfl) (w_pay (fun K hK => p_pay hK) (Or.inl ⟨v, ox⟩) (fun v9 g9 => ?_) (fun e8 g9 => ?_))
    rotate_left
    · cases (ox.symm.trans g9)
    cases (ox.symm.trans g9)
    refine Aft_v rfl ?_
    refine g_istore C0 dL_law_653 (by decide) ?_
    refine g_aload_n C0 dL_law_655 rfl ?_
    refine g_scr (kk := 1) C0 SC (W3l hw0) dL_law_656 dL_law_657 dL_law_659 dL_law_660 dL_law_661 rfl rfl (by decide +kernel) (by omega) (by omega) ?_
    refine g_scr (kk := 2) C0 SC (W3l hw0) dL_law_662 dL_law_663 dL_law_665 dL_law_666 dL_law_667 rfl rfl (by decide +kernel) (by omega) (by omega) ?_
    refine g_invV (As := [.int (xs (i + 1)), .int (xs (i + 2))]) (st := []) (ci := 10) C0 dL_law_668 CL_153 rfl rfl rfl rfl ⟨by decide, by decide, (by show cs + 2 + 0 ≤ 601024; omega), (by show ss + 12 + 0 ≤ 7293034; omega)⟩ (Nat.le_of_ble_eq_true rfl) (frMK (av := [.ref 0, .int (xs (i + 1)), .int (xs (i + 2))]) (fun K hK => r_pay (by rw [← rx.cP]; exact rx.p60) rx.g13 hK) ?_)
    rw [om, osh_i]
    refine Aft_v rfl ?_
    refine g_istore C0 dL_law_671 (by decide) ?_
    refine g_aload_n C0 dL_law_673 rfl ?_
    refine g_invV (As := []) (st := []) (ci := 10) C0 dL_law_674 CL_131 rfl rfl rfl rfl ⟨by decide, by decide, (by show cs + 2 + 0 + 0 ≤ 601024; omega), (by show ss + 12 + 0 + 0 ≤ 7293034; omega)⟩ (Nat.le_of_ble_eq_true rfl) (frMK (av := [.ref 0]) (fun K hK => m_thrown hK) ?_)
    rw [osh_i, c0, nI_0]
    refine Aft_v rfl ?_
    refine g_iload C0 dL_law_677 rfl ?_
    refine g_icmp_eq (tgt := 684) C0 dL_law_679 (by decide) (fun _ => ?_) (fun z => absurd rfl z)
    refine g_iload C0 dL_law_684 rfl ?_
    refine g_if_ne (tgt := 701) C0 dL_law_686 (by decide) (fun z => absurd rfl z) (fun _ => ?_)
    refine g_aload_n C0 dL_law_689 rfl ?_
    refine g_iconst (v := 0) C0 dL_law_690 (by decide) ?_
    refine g_laload C0 dL_law_691 (W3_out _ _ _) in01 ?_
    rw [show (0 : Int32).toNatClampNeg = 0 by decide +kernel, pk_uLs]
    refine g_iload C0 dL_law_692 rfl ?_
    refine g_i2l C0 dL_law_694 ?_
    refine g_lcmp C0 dL_law_695 ?_
    rw [cmp_self]
    refine g_if_eq (tgt := 701) C0 dL_law_696 (by decide) (fun _ => ?_) (fun z => absurd rfl z)
    refine g_goto (tgt := 2347) C0 dL_law_701 (by decide) ?_
    refine g_widen (cs2 := cs + 12) (ss2 := ss + 72) (by show cs + 2 + 0 + 0 ≤ cs + 12; omega) (by show ss + 12 + 0 + 0 ≤ ss + 72; omega) ?_
    exact hn _ _ _ _ _ hr
  · refine g_aload_n C0 dL_law_636 rfl ?_
    refine g_scr (kk := 1) C0 SC (W3l hw0) dL_law_637 dL_law_638 dL_law_640 dL_law_641 dL_law_642 rfl rfl (by decide +kernel) (by omega) (by omega) ?_
    refine g_scr (kk := 2) C0 SC (W3l hw0) dL_law_643 dL_law_644 dL_law_646 dL_law_647 dL_law_648 rfl rfl (by decide +kernel) (by omega) (by omega) ?_
    refine g_aload_n C0 dL_law_649 rfl ?_
    refine g_invSH (As := [.ref 0, .int (xs (i + 1)), .int (xs (i + 2)), .ref 109]) (st := []) C0 dL_law_650 CL_151 rfl rfl rfl ⟨by decide, by decide, (by show cs + 2 ≤ 601024; omega), (by show ss + 12 ≤ 7293034; omega)⟩ (Nat.le_of_ble_eq_true rfl) (w_pay (fun K hK => p_pay hK) (Or.inr ⟨e9, ox, he, (by rw [← ck]; exact cp)⟩) (fun v9 g9 => ?_) (fun e8 g9 => ?_))
    · cases (ox.symm.trans g9)
    cases (ox.symm.trans g9)
    rw [← ck]
    refine Aft_v rfl ?_
    refine g_istore C0 dL_law_653 (by decide) ?_
    refine g_aload_n C0 dL_law_655 rfl ?_
    refine g_scr (kk := 1) C0 SC (W3l hw0) dL_law_656 dL_law_657 dL_law_659 dL_law_660 dL_law_661 rfl rfl (by decide +kernel) (by omega) (by omega) ?_
    refine g_scr (kk := 2) C0 SC (W3l hw0) dL_law_662 dL_law_663 dL_law_665 dL_law_666 dL_law_667 rfl rfl (by decide +kernel) (by omega) (by omega) ?_
    refine g_invV (As := [.int (xs (i + 1)), .int (xs (i + 2))]) (st := []) (ci := 10) C0 dL_law_668 CL_153 rfl rfl rfl rfl ⟨by decide, by decide, (by show cs + 2 + 0 ≤ 601024; omega), (by show ss + 12 + 0 ≤ 7293034; omega)⟩ (Nat.le_of_ble_eq_true rfl) (frMK (av := [.ref 0, .int (xs (i + 1)), .int (xs (i + 2))]) (fun K hK => r_pay (by rw [← rx.cP]; exact rx.p60) rx.g13 hK) ?_)
    rw [om, osh_i]
    refine Aft_v rfl ?_
    refine g_istore C0 dL_law_671 (by decide) ?_
    refine g_aload_n C0 dL_law_673 rfl ?_
    refine g_invV (As := []) (st := []) (ci := 10) C0 dL_law_674 CL_131 rfl rfl rfl rfl ⟨by decide, by decide, (by show cs + 2 + 0 + 0 ≤ 601024; omega), (by show ss + 12 + 0 + 0 ≤ 7293034; omega)⟩ (Nat.le_of_ble_eq_true rfl) (frMK (av := [.ref 0]) (fun K hK => m_thrown hK) ?_)
    rw [osh_i]
    refine Aft_v rfl ?_
    refine g_iload C0 dL_law_677 rfl ?_
    refine g_icmp_eq (tgt := 684) C0 dL_law_679 (by decide) (fun _ => ?_) (fun z => absurd rfl z)
    refine g_iload C0 dL_law_684 rfl ?_
    refine g_if_ne (tgt := 701) C0 dL_law_686 (by decide) (fun _ => ?_) (fun z => absurd z (nI_ne0 cp (by omega)))
    refine g_goto (tgt := 2347) C0 dL_law_701 (by decide) ?_
    refine g_widen (cs2 := cs + 12) (ss2 := ss + 72) (by show cs + 2 + 0 + 0 ≤ cs + 12; omega) (by show ss + 12 + 0 + 0 ≤ ss + 72; omega) ?_
    exact hn _ _ _ _ _ hr
set_option maxRecDepth 100000 in
set_option maxHeartbeats 4000000 in
theorem lc_judge {X : CX} {D : va_G} {dA : Nat → ClassId} {w0 : AW} {ad0 : Nat → Nat} {K : AO → AW → Prop} {q t : XS} {f : Nat → Int64} {L i cs ss : Nat} {xs : Nat → Int32} {o5 o6 : Option Value} (C0 : Ok X (D, dA, w0, ad0, K) ML_law) (SC : SCR X (D, dA, w0, ad0, K) 110 L xs) (hw0 : w0.length = 110) (rx : RX q t) (hL : L ≤ 2048) (hi : i + 3 < L) (hc : cs + 12 ≤ 601024) (hs : ss + 72 ≤ 7293034) (hn : ∀ (q2 t2 : XS) (f2 : Nat → Int64) (p5 p6 : Option Value), RX q2 t2 → Gd X (D, dA, w0, ad0, K) ML_law 2347 [some (.ref 110), some (.ref 0), some (.ref 84), some (.ref 109), some (.int (nI i)), p5, p6] [] (W3 q2 t2 f2) (cs + 12) (ss + 72)) : Gd X (D, dA, w0, ad0, K) ML_law 704 [some (.ref 110), some (.ref 0), some (.ref 84), some (.ref 109), some (.int (nI i)), o5, o6] [] (W3 q t f) cs ss := by
  obtain ⟨hA, hr⟩ := s_judge rx (xs (i + 1))
  rcases hA with ⟨v, ox, om, c0⟩ | ⟨e9, b9, he, ox, om, ck, cp, c4⟩
  · refine g_aload_n C0 dL_law_704 rfl ?_
    refine g_scr (kk := 1) C0 SC (W3l hw0) dL_law_705 dL_law_706 dL_law_708 dL_law_709 dL_law_710 rfl rfl (by decide +kernel) (by omega) (by omega) ?_
    refine g_aload_n C0 dL_law_711 rfl ?_
    refine g_invSH (As := [.ref 0, .int (xs (i + 1)), .ref 109]) (st := []) C0 dL_law_712 CL_154 rfl rfl rfl ⟨by decide, by decide, (by show cs + 2 ≤ 601024; omega), (by show ss + 12 ≤ 7293034; omega)⟩ (Nat.le_of_ble_eq_true rfl) (w_judge (fun K hK => p_judge hK) (Or.inl ⟨v, ox⟩) (fun v9 g9 => ?_) (fun e8 g9 => ?_))
    rotate_left
    · cases (ox.symm.trans g9)
    cases (ox.symm.trans g9)
    refine Aft_v rfl ?_
    refine g_istore C0 dL_law_715 (by decide) ?_
    refine g_aload_n C0 dL_law_717 rfl ?_
    refine g_scr (kk := 1) C0 SC (W3l hw0) dL_law_718 dL_law_719 dL_law_721 dL_law_722 dL_law_723 rfl rfl (by decide +kernel) (by omega) (by omega) ?_
    refine g_invV (As := [.int (xs (i + 1))]) (st := []) (ci := 10) C0 dL_law_724 CL_157 rfl rfl rfl rfl ⟨by decide, by decide, (by show cs + 2 + 0 ≤ 601024; omega), (by show ss + 12 + 0 ≤ 7293034; omega)⟩ (Nat.le_of_ble_eq_true rfl) (frMK (av := [.ref 0, .int (xs (i + 1))]) (fun K hK => r_judge (by rw [← rx.cP]; exact rx.p60) rx.g13 hK) ?_)
    rw [om, osh_i]
    refine Aft_v rfl ?_
    refine g_istore C0 dL_law_727 (by decide) ?_
    refine g_aload_n C0 dL_law_729 rfl ?_
    refine g_invV (As := []) (st := []) (ci := 10) C0 dL_law_730 CL_131 rfl rfl rfl rfl ⟨by decide, by decide, (by show cs + 2 + 0 + 0 ≤ 601024; omega), (by show ss + 12 + 0 + 0 ≤ 7293034; omega)⟩ (Nat.le_of_ble_eq_true rfl) (frMK (av := [.ref 0]) (fun K hK => m_thrown hK) ?_)
    rw [osh_i, c0, nI_0]
    refine Aft_v rfl ?_
    refine g_iload C0 dL_law_733 rfl ?_
    refine g_icmp_eq (tgt := 740) C0 dL_law_735 (by decide) (fun _ => ?_) (fun z => absurd rfl z)
    refine g_iload C0 dL_law_740 rfl ?_
    refine g_if_ne (tgt := 757) C0 dL_law_742 (by decide) (fun z => absurd rfl z) (fun _ => ?_)
    refine g_aload_n C0 dL_law_745 rfl ?_
    refine g_iconst (v := 0) C0 dL_law_746 (by decide) ?_
    refine g_laload C0 dL_law_747 (W3_out _ _ _) in01 ?_
    rw [show (0 : Int32).toNatClampNeg = 0 by decide +kernel, pk_uLs]
    refine g_iload C0 dL_law_748 rfl ?_
    refine g_i2l C0 dL_law_750 ?_
    refine g_lcmp C0 dL_law_751 ?_
    rw [cmp_self]
    refine g_if_eq (tgt := 757) C0 dL_law_752 (by decide) (fun _ => ?_) (fun z => absurd rfl z)
    refine g_goto (tgt := 2347) C0 dL_law_757 (by decide) ?_
    refine g_widen (cs2 := cs + 12) (ss2 := ss + 72) (by show cs + 2 + 0 + 0 ≤ cs + 12; omega) (by show ss + 12 + 0 + 0 ≤ ss + 72; omega) ?_
    exact hn _ _ _ _ _ hr
  · refine g_aload_n C0 dL_law_704 rfl ?_
    refine g_scr (kk := 1) C0 SC (W3l hw0) dL_law_705 dL_law_706 dL_law_708 dL_law_709 dL_law_710 rfl rfl (by decide +kernel) (by omega) (by omega) ?_
    refine g_aload_n C0 dL_law_711 rfl ?_
    refine g_invSH (As := [.ref 0, .int (xs (i + 1)), .ref 109]) (st := []) C0 dL_law_712 CL_154 rfl rfl rfl ⟨by decide, by decide, (by show cs + 2 ≤ 601024; omega), (by show ss + 12 ≤ 7293034; omega)⟩ (Nat.le_of_ble_eq_true rfl) (w_judge (fun K hK => p_judge hK) (Or.inr ⟨e9, ox, he, (by rw [← ck]; exact cp)⟩) (fun v9 g9 => ?_) (fun e8 g9 => ?_))
    · cases (ox.symm.trans g9)
    cases (ox.symm.trans g9)
    rw [← ck]
    refine Aft_v rfl ?_
    refine g_istore C0 dL_law_715 (by decide) ?_
    refine g_aload_n C0 dL_law_717 rfl ?_
    refine g_scr (kk := 1) C0 SC (W3l hw0) dL_law_718 dL_law_719 dL_law_721 dL_law_722 dL_law_723 rfl rfl (by decide +kernel) (by omega) (by omega) ?_
    refine g_invV (As := [.int (xs (i + 1))]) (st := []) (ci := 10) C0 dL_law_724 CL_157 rfl rfl rfl rfl ⟨by decide, by decide, (by show cs + 2 + 0 ≤ 601024; omega), (by show ss + 12 + 0 ≤ 7293034; omega)⟩ (Nat.le_of_ble_eq_true rfl) (frMK (av := [.ref 0, .int (xs (i + 1))]) (fun K hK => r_judge (by rw [← rx.cP]; exact rx.p60) rx.g13 hK) ?_)
    rw [om, osh_i]
    refine Aft_v rfl ?_
    refine g_istore C0 dL_law_727 (by decide) ?_
    refine g_aload_n C0 dL_law_729 rfl ?_
    refine g_invV (As := []) (st := []) (ci := 10) C0 dL_law_730 CL_131 rfl rfl rfl rfl ⟨by decide, by decide, (by show cs + 2 + 0 + 0 ≤ 601024; omega), (by show ss + 12 + 0 + 0 ≤ 7293034; omega)⟩ (Nat.le_of_ble_eq_true rfl) (frMK (av := [.ref 0]) (fun K hK => m_thrown hK) ?_)
    rw [osh_i]
    refine Aft_v rfl ?_
    refine g_iload C0 dL_law_733 rfl ?_
    refine g_icmp_eq (tgt := 740) C0 dL_law_735 (by decide) (fun _ => ?_) (fun z => absurd rfl z)
    refine g_iload C0 dL_law_740 rfl ?_
    refine g_if_ne (tgt := 757) C0 dL_law_742 (by decide) (fun _ => ?_) (fun z => absurd z (nI_ne0 cp (by omega)))
    refine g_goto (tgt := 2347) C0 dL_law_757 (by decide) ?_
    refine g_widen (cs2 := cs + 12) (ss2 := ss + 72) (by show cs + 2 + 0 + 0 ≤ cs + 12; omega) (by show ss + 12 + 0 + 0 ≤ ss + 72; omega) ?_
    exact hn _ _ _ _ _ hr
set_option maxRecDepth 100000 in
set_option maxHeartbeats 4000000 in
theorem lc_hangUp {X : CX} {D : va_G} {dA : Nat → ClassId} {w0 : AW} {ad0 : Nat → Nat} {K : AO → AW → Prop} {q t : XS} {f : Nat → Int64} {L i cs ss : Nat} {xs : Nat → Int32} {o5 o6 : Option Value} (C0 : Ok X (D, dA, w0, ad0, K) ML_law) (SC : SCR X (D, dA, w0, ad0, K) 110 L xs) (hw0 : w0.length = 110) (rx : RX q t) (hL : L ≤ 2048) (hi : i + 3 < L) (hc : cs + 12 ≤ 601024) (hs : ss + 72 ≤ 7293034) (hn : ∀ (q2 t2 : XS) (f2 : Nat → Int64) (p5 p6 : Option Value), RX q2 t2 → Gd X (D, dA, w0, ad0, K) ML_law 2347 [some (.ref 110), some (.ref 0), some (.ref 84), some (.ref 109), some (.int (nI i)), p5, p6] [] (W3 q2 t2 f2) (cs + 12) (ss + 72)) : Gd X (D, dA, w0, ad0, K) ML_law 828 [some (.ref 110), some (.ref 0), some (.ref 84), some (.ref 109), some (.int (nI i)), o5, o6] [] (W3 q t f) cs ss := by
  obtain ⟨hA, hr⟩ := s_hangUp rx rfl
  rcases hA with ⟨v, ox, om, c0⟩ | ⟨e9, b9, he, ox, om, ck, cp, c4⟩
  · refine g_aload_n C0 dL_law_828 rfl ?_
    refine g_scr (kk := 1) C0 SC (W3l hw0) dL_law_829 dL_law_830 dL_law_832 dL_law_833 dL_law_834 rfl rfl (by decide +kernel) (by omega) (by omega) ?_
    refine g_aload_n C0 dL_law_835 rfl ?_
    refine g_invSH (As := [.ref 0, .int (xs (i + 1)), .ref 109]) (st := []) C0 dL_law_836 CL_161 rfl rfl rfl ⟨by decide, by decide, (by show cs + 2 ≤ 601024; omega), (by show ss + 12 ≤ 7293034; omega)⟩ (Nat.le_of_ble_eq_true rfl) (w_hangUp (fun K hK => p_hangUp (hang_l rx) hK) (Or.inl ⟨v, ox⟩) (fun v9 g9 => ?_) (fun e8 g9 => ?_))
    rotate_left
    · cases (ox.symm.trans g9)
    cases (ox.symm.trans g9)
    refine Aft_v rfl ?_
    refine g_istore C0 dL_law_839 (by decide) ?_
    refine g_aload_n C0 dL_law_841 rfl ?_
    refine g_scr (kk := 1) C0 SC (W3l hw0) dL_law_842 dL_law_843 dL_law_845 dL_law_846 dL_law_847 rfl rfl (by decide +kernel) (by omega) (by omega) ?_
    refine g_invV (As := [.int (xs (i + 1))]) (st := []) (ci := 10) C0 dL_law_848 CL_163 rfl rfl rfl rfl ⟨by decide, by decide, (by show cs + 2 + 0 ≤ 601024; omega), (by show ss + 12 + 0 ≤ 7293034; omega)⟩ (Nat.le_of_ble_eq_true rfl) (frMK (av := [.ref 0, .int (xs (i + 1))]) (fun K hK => r_hangUp (by rw [← rx.cC]; exact rx.c60) hK) ?_)
    rw [om, osh_i]
    refine Aft_v rfl ?_
    refine g_istore C0 dL_law_851 (by decide) ?_
    refine g_aload_n C0 dL_law_853 rfl ?_
    refine g_invV (As := []) (st := []) (ci := 10) C0 dL_law_854 CL_131 rfl rfl rfl rfl ⟨by decide, by decide, (by show cs + 2 + 0 + 0 ≤ 601024; omega), (by show ss + 12 + 0 + 0 ≤ 7293034; omega)⟩ (Nat.le_of_ble_eq_true rfl) (frMK (av := [.ref 0]) (fun K hK => m_thrown hK) ?_)
    rw [osh_i, c0, nI_0]
    refine Aft_v rfl ?_
    refine g_iload C0 dL_law_857 rfl ?_
    refine g_icmp_eq (tgt := 864) C0 dL_law_859 (by decide) (fun _ => ?_) (fun z => absurd rfl z)
    refine g_iload C0 dL_law_864 rfl ?_
    refine g_if_ne (tgt := 881) C0 dL_law_866 (by decide) (fun z => absurd rfl z) (fun _ => ?_)
    refine g_aload_n C0 dL_law_869 rfl ?_
    refine g_iconst (v := 0) C0 dL_law_870 (by decide) ?_
    refine g_laload C0 dL_law_871 (W3_out _ _ _) in01 ?_
    rw [show (0 : Int32).toNatClampNeg = 0 by decide +kernel, pk_uLs]
    refine g_iload C0 dL_law_872 rfl ?_
    refine g_i2l C0 dL_law_874 ?_
    refine g_lcmp C0 dL_law_875 ?_
    rw [cmp_self]
    refine g_if_eq (tgt := 881) C0 dL_law_876 (by decide) (fun _ => ?_) (fun z => absurd rfl z)
    refine g_goto (tgt := 2347) C0 dL_law_881 (by decide) ?_
    refine g_widen (cs2 := cs + 12) (ss2 := ss + 72) (by show cs + 2 + 0 + 0 ≤ cs + 12; omega) (by show ss + 12 + 0 + 0 ≤ ss + 72; omega) ?_
    exact hn _ _ _ _ _ hr
  · refine g_aload_n C0 dL_law_828 rfl ?_
    refine g_scr (kk := 1) C0 SC (W3l hw0) dL_law_829 dL_law_830 dL_law_832 dL_law_833 dL_law_834 rfl rfl (by decide +kernel) (by omega) (by omega) ?_
    refine g_aload_n C0 dL_law_835 rfl ?_
    refine g_invSH (As := [.ref 0, .int (xs (i + 1)), .ref 109]) (st := []) C0 dL_law_836 CL_161 rfl rfl rfl ⟨by decide, by decide, (by show cs + 2 ≤ 601024; omega), (by show ss + 12 ≤ 7293034; omega)⟩ (Nat.le_of_ble_eq_true rfl) (w_hangUp (fun K hK => p_hangUp (hang_l rx) hK) (Or.inr ⟨e9, ox, he, (by rw [← ck]; exact cp)⟩) (fun v9 g9 => ?_) (fun e8 g9 => ?_))
    · cases (ox.symm.trans g9)
    cases (ox.symm.trans g9)
    rw [← ck]
    refine Aft_v rfl ?_
    refine g_istore C0 dL_law_839 (by decide) ?_
    refine g_aload_n C0 dL_law_841 rfl ?_
    refine g_scr (kk := 1) C0 SC (W3l hw0) dL_law_842 dL_law_843 dL_law_845 dL_law_846 dL_law_847 rfl rfl (by decide +kernel) (by omega) (by omega) ?_
    refine g_invV (As := [.int (xs (i + 1))]) (st := []) (ci := 10) C0 dL_law_848 CL_163 rfl rfl rfl rfl ⟨by decide, by decide, (by show cs + 2 + 0 ≤ 601024; omega), (by show ss + 12 + 0 ≤ 7293034; omega)⟩ (Nat.le_of_ble_eq_true rfl) (frMK (av := [.ref 0, .int (xs (i + 1))]) (fun K hK => r_hangUp (by rw [← rx.cC]; exact rx.c60) hK) ?_)
    rw [om, osh_i]
    refine Aft_v rfl ?_
    refine g_istore C0 dL_law_851 (by decide) ?_
    refine g_aload_n C0 dL_law_853 rfl ?_
    refine g_invV (As := []) (st := []) (ci := 10) C0 dL_law_854 CL_131 rfl rfl rfl rfl ⟨by decide, by decide, (by show cs + 2 + 0 + 0 ≤ 601024; omega), (by show ss + 12 + 0 + 0 ≤ 7293034; omega)⟩ (Nat.le_of_ble_eq_true rfl) (frMK (av := [.ref 0]) (fun K hK => m_thrown hK) ?_)
    rw [osh_i]
    refine Aft_v rfl ?_
    refine g_iload C0 dL_law_857 rfl ?_
    refine g_icmp_eq (tgt := 864) C0 dL_law_859 (by decide) (fun _ => ?_) (fun z => absurd rfl z)
    refine g_iload C0 dL_law_864 rfl ?_
    refine g_if_ne (tgt := 881) C0 dL_law_866 (by decide) (fun _ => ?_) (fun z => absurd z (nI_ne0 cp (by omega)))
    refine g_goto (tgt := 2347) C0 dL_law_881 (by decide) ?_
    refine g_widen (cs2 := cs + 12) (ss2 := ss + 72) (by show cs + 2 + 0 + 0 ≤ cs + 12; omega) (by show ss + 12 + 0 + 0 ≤ ss + 72; omega) ?_
    exact hn _ _ _ _ _ hr
set_option maxRecDepth 100000 in
set_option maxHeartbeats 4000000 in
theorem lc_pass {X : CX} {D : va_G} {dA : Nat → ClassId} {w0 : AW} {ad0 : Nat → Nat} {K : AO → AW → Prop} {q t : XS} {f : Nat → Int64} {L i cs ss : Nat} {xs : Nat → Int32} {o5 o6 : Option Value} (C0 : Ok X (D, dA, w0, ad0, K) ML_law) (SC : SCR X (D, dA, w0, ad0, K) 110 L xs) (hw0 : w0.length = 110) (rx : RX q t) (hL : L ≤ 2048) (hi : i + 3 < L) (hc : cs + 12 ≤ 601024) (hs : ss + 72 ≤ 7293034) (hn : ∀ (q2 t2 : XS) (f2 : Nat → Int64) (p5 p6 : Option Value), RX q2 t2 → Gd X (D, dA, w0, ad0, K) ML_law 2347 [some (.ref 110), some (.ref 0), some (.ref 84), some (.ref 109), some (.int (nI i)), p5, p6] [] (W3 q2 t2 f2) (cs + 12) (ss + 72)) : Gd X (D, dA, w0, ad0, K) ML_law 884 [some (.ref 110), some (.ref 0), some (.ref 84), some (.ref 109), some (.int (nI i)), o5, o6] [] (W3 q t f) cs ss := by
  obtain ⟨hA, hr⟩ := s_pass rx (pass_l _)
  rcases hA with ⟨v, ox, om, c0⟩ | ⟨e9, b9, he, ox, om, ck, cp, c4⟩
  · refine g_aload_n C0 dL_law_884 rfl ?_
    refine g_scr (kk := 1) C0 SC (W3l hw0) dL_law_885 dL_law_886 dL_law_888 dL_law_889 dL_law_890 rfl rfl (by decide +kernel) (by omega) (by omega) ?_
    refine g_aload_n C0 dL_law_891 rfl ?_
    refine g_invSH (As := [.ref 0, .int (xs (i + 1)), .ref 109]) (st := []) C0 dL_law_892 CL_164 rfl rfl rfl ⟨by decide, by decide, (by show cs + 2 ≤ 601024; omega), (by show ss + 12 ≤ 7293034; omega)⟩ (Nat.le_of_ble_eq_true rfl) (w_pass (fun K hK => p_pass (by have := rx.d60; omega) (by rw [rx.ha.c]; have := rx.d60; omega) (by have := rx.c60; omega) hK) (Or.inl ⟨v, ox⟩) (fun v9 g9 => ?_) (fun e8 g9 => ?_))
    rotate_left
    · cases (ox.symm.trans g9)
    cases (ox.symm.trans g9)
    refine Aft_v rfl ?_
    refine g_istore C0 dL_law_895 (by decide) ?_
    refine g_aload_n C0 dL_law_897 rfl ?_
    refine g_scr (kk := 1) C0 SC (W3l hw0) dL_law_898 dL_law_899 dL_law_901 dL_law_902 dL_law_903 rfl rfl (by decide +kernel) (by omega) (by omega) ?_
    refine g_invV (As := [.int (xs (i + 1))]) (st := []) (ci := 10) C0 dL_law_904 CL_166 rfl rfl rfl rfl ⟨by decide, by decide, (by show cs + 2 + 0 ≤ 601024; omega), (by show ss + 12 + 0 ≤ 7293034; omega)⟩ (Nat.le_of_ble_eq_true rfl) (frMK (av := [.ref 0, .int (xs (i + 1))]) (fun K hK => r_pass (pass_l _) (by rw [← rx.cP]; exact rx.p60) (by rw [← rx.cC]; exact rx.c60) rx.g13 rx.g16 rx.g8 hK) ?_)
    rw [om, osh_i]
    refine Aft_v rfl ?_
    refine g_istore C0 dL_law_907 (by decide) ?_
    refine g_aload_n C0 dL_law_909 rfl ?_
    refine g_invV (As := []) (st := []) (ci := 10) C0 dL_law_910 CL_131 rfl rfl rfl rfl ⟨by decide, by decide, (by show cs + 2 + 0 + 0 ≤ 601024; omega), (by show ss + 12 + 0 + 0 ≤ 7293034; omega)⟩ (Nat.le_of_ble_eq_true rfl) (frMK (av := [.ref 0]) (fun K hK => m_thrown hK) ?_)
    rw [osh_i, c0, nI_0]
    refine Aft_v rfl ?_
    refine g_iload C0 dL_law_913 rfl ?_
    refine g_icmp_eq (tgt := 920) C0 dL_law_915 (by decide) (fun _ => ?_) (fun z => absurd rfl z)
    refine g_iload C0 dL_law_920 rfl ?_
    refine g_if_ne (tgt := 937) C0 dL_law_922 (by decide) (fun z => absurd rfl z) (fun _ => ?_)
    refine g_aload_n C0 dL_law_925 rfl ?_
    refine g_iconst (v := 0) C0 dL_law_926 (by decide) ?_
    refine g_laload C0 dL_law_927 (W3_out _ _ _) in01 ?_
    rw [show (0 : Int32).toNatClampNeg = 0 by decide +kernel, pk_uLs]
    refine g_iload C0 dL_law_928 rfl ?_
    refine g_i2l C0 dL_law_930 ?_
    refine g_lcmp C0 dL_law_931 ?_
    rw [cmp_self]
    refine g_if_eq (tgt := 937) C0 dL_law_932 (by decide) (fun _ => ?_) (fun z => absurd rfl z)
    refine g_goto (tgt := 2347) C0 dL_law_937 (by decide) ?_
    refine g_widen (cs2 := cs + 12) (ss2 := ss + 72) (by show cs + 2 + 0 + 0 ≤ cs + 12; omega) (by show ss + 12 + 0 + 0 ≤ ss + 72; omega) ?_
    exact hn _ _ _ _ _ hr
  · refine g_aload_n C0 dL_law_884 rfl ?_
    refine g_scr (kk := 1) C0 SC (W3l hw0) dL_law_885 dL_law_886 dL_law_888 dL_law_889 dL_law_890 rfl rfl (by decide +kernel) (by omega) (by omega) ?_
    refine g_aload_n C0 dL_law_891 rfl ?_
    refine g_invSH (As := [.ref 0, .int (xs (i + 1)), .ref 109]) (st := []) C0 dL_law_892 CL_164 rfl rfl rfl ⟨by decide, by decide, (by show cs + 2 ≤ 601024; omega), (by show ss + 12 ≤ 7293034; omega)⟩ (Nat.le_of_ble_eq_true rfl) (w_pass (fun K hK => p_pass (by have := rx.d60; omega) (by rw [rx.ha.c]; have := rx.d60; omega) (by have := rx.c60; omega) hK) (Or.inr ⟨e9, ox, he, (by rw [← ck]; exact cp)⟩) (fun v9 g9 => ?_) (fun e8 g9 => ?_))
    · cases (ox.symm.trans g9)
    cases (ox.symm.trans g9)
    rw [← ck]
    refine Aft_v rfl ?_
    refine g_istore C0 dL_law_895 (by decide) ?_
    refine g_aload_n C0 dL_law_897 rfl ?_
    refine g_scr (kk := 1) C0 SC (W3l hw0) dL_law_898 dL_law_899 dL_law_901 dL_law_902 dL_law_903 rfl rfl (by decide +kernel) (by omega) (by omega) ?_
    refine g_invV (As := [.int (xs (i + 1))]) (st := []) (ci := 10) C0 dL_law_904 CL_166 rfl rfl rfl rfl ⟨by decide, by decide, (by show cs + 2 + 0 ≤ 601024; omega), (by show ss + 12 + 0 ≤ 7293034; omega)⟩ (Nat.le_of_ble_eq_true rfl) (frMK (av := [.ref 0, .int (xs (i + 1))]) (fun K hK => r_pass (pass_l _) (by rw [← rx.cP]; exact rx.p60) (by rw [← rx.cC]; exact rx.c60) rx.g13 rx.g16 rx.g8 hK) ?_)
    rw [om, osh_i]
    refine Aft_v rfl ?_
    refine g_istore C0 dL_law_907 (by decide) ?_
    refine g_aload_n C0 dL_law_909 rfl ?_
    refine g_invV (As := []) (st := []) (ci := 10) C0 dL_law_910 CL_131 rfl rfl rfl rfl ⟨by decide, by decide, (by show cs + 2 + 0 + 0 ≤ 601024; omega), (by show ss + 12 + 0 + 0 ≤ 7293034; omega)⟩ (Nat.le_of_ble_eq_true rfl) (frMK (av := [.ref 0]) (fun K hK => m_thrown hK) ?_)
    rw [osh_i]
    refine Aft_v rfl ?_
    refine g_iload C0 dL_law_913 rfl ?_
    refine g_icmp_eq (tgt := 920) C0 dL_law_915 (by decide) (fun _ => ?_) (fun z => absurd rfl z)
    refine g_iload C0 dL_law_920 rfl ?_
    refine g_if_ne (tgt := 937) C0 dL_law_922 (by decide) (fun _ => ?_) (fun z => absurd z (nI_ne0 cp (by omega)))
    refine g_goto (tgt := 2347) C0 dL_law_937 (by decide) ?_
    refine g_widen (cs2 := cs + 12) (ss2 := ss + 72) (by show cs + 2 + 0 + 0 ≤ cs + 12; omega) (by show ss + 12 + 0 + 0 ≤ ss + 72; omega) ?_
    exact hn _ _ _ _ _ hr
set_option maxRecDepth 100000 in
set_option maxHeartbeats 4000000 in
theorem lc_second {X : CX} {D : va_G} {dA : Nat → ClassId} {w0 : AW} {ad0 : Nat → Nat} {K : AO → AW → Prop} {q t : XS} {f : Nat → Int64} {L i cs ss : Nat} {xs : Nat → Int32} {o5 o6 : Option Value} (C0 : Ok X (D, dA, w0, ad0, K) ML_law) (SC : SCR X (D, dA, w0, ad0, K) 110 L xs) (hw0 : w0.length = 110) (rx : RX q t) (hL : L ≤ 2048) (hi : i + 3 < L) (hc : cs + 12 ≤ 601024) (hs : ss + 72 ≤ 7293034) (hn : ∀ (q2 t2 : XS) (f2 : Nat → Int64) (p5 p6 : Option Value), RX q2 t2 → Gd X (D, dA, w0, ad0, K) ML_law 2347 [some (.ref 110), some (.ref 0), some (.ref 84), some (.ref 109), some (.int (nI i)), p5, p6] [] (W3 q2 t2 f2) (cs + 12) (ss + 72)) : Gd X (D, dA, w0, ad0, K) ML_law 940 [some (.ref 110), some (.ref 0), some (.ref 84), some (.ref 109), some (.int (nI i)), o5, o6] [] (W3 q t f) cs ss := by
  obtain ⟨hA, hr⟩ := s_second rx
  rcases hA with ⟨v, ox, om, c0⟩ | ⟨e9, b9, he, ox, om, ck, cp, c4⟩
  · refine g_aload_n C0 dL_law_940 rfl ?_
    refine g_invV (As := []) (st := []) (ci := 9) C0 dL_law_941 CL_167 rfl rfl rfl rfl ⟨by decide, by decide, (by show cs + 0 ≤ 601024; omega), (by show ss + 0 ≤ 7293034; omega)⟩ (Nat.le_of_ble_eq_true rfl) (frXK (fun K hK => p_second hK) ?_)
    rw [ox]
    refine Aft_v rfl ?_
    refine g_aload_n C0 dL_law_944 rfl ?_
    refine g_invV (As := []) (st := [.int v]) (ci := 10) C0 dL_law_945 CL_170 rfl rfl rfl rfl ⟨by decide, by decide, (by show cs + 0 + 0 ≤ 601024; omega), (by show ss + 0 + 0 ≤ 7293034; omega)⟩ (Nat.le_of_ble_eq_true rfl) (frMK (av := [.ref 0]) (fun K hK => r_second hK) ?_)
    rw [om, osh_i]
    refine Aft_v rfl ?_
    refine g_icmp_eq (tgt := 2347) C0 dL_law_948 (by decide) (fun _ => ?_) (fun z => absurd rfl z)
    refine g_widen (cs2 := cs + 12) (ss2 := ss + 72) (by show cs + 0 + 0 ≤ cs + 12; omega) (by show ss + 0 + 0 ≤ ss + 72; omega) ?_
    exact hn _ _ _ _ _ hr
  · exact absurd (ck.symm ▸ cp) (by unfold ka; split <;> decide)
set_option maxRecDepth 100000 in
set_option maxHeartbeats 4000000 in
theorem lc_isDear {X : CX} {D : va_G} {dA : Nat → ClassId} {w0 : AW} {ad0 : Nat → Nat} {K : AO → AW → Prop} {q t : XS} {f : Nat → Int64} {L i cs ss : Nat} {xs : Nat → Int32} {o5 o6 : Option Value} (C0 : Ok X (D, dA, w0, ad0, K) ML_law) (SC : SCR X (D, dA, w0, ad0, K) 110 L xs) (hw0 : w0.length = 110) (rx : RX q t) (hL : L ≤ 2048) (hi : i + 3 < L) (hc : cs + 12 ≤ 601024) (hs : ss + 72 ≤ 7293034) (hn : ∀ (q2 t2 : XS) (f2 : Nat → Int64) (p5 p6 : Option Value), RX q2 t2 → Gd X (D, dA, w0, ad0, K) ML_law 2347 [some (.ref 110), some (.ref 0), some (.ref 84), some (.ref 109), some (.int (nI i)), p5, p6] [] (W3 q2 t2 f2) (cs + 12) (ss + 72)) : Gd X (D, dA, w0, ad0, K) ML_law 953 [some (.ref 110), some (.ref 0), some (.ref 84), some (.ref 109), some (.int (nI i)), o5, o6] [] (W3 q t f) cs ss := by
  obtain ⟨hA, hr⟩ := s_isDear rx
  rcases hA with ⟨v, ox, om, c0⟩ | ⟨e9, b9, he, ox, om, ck, cp, c4⟩
  · refine g_aload_n C0 dL_law_953 rfl ?_
    refine g_invV (As := []) (st := []) (ci := 9) C0 dL_law_954 CL_171 rfl rfl rfl rfl ⟨by decide, by decide, (by show cs + 0 ≤ 601024; omega), (by show ss + 0 ≤ 7293034; omega)⟩ (Nat.le_of_ble_eq_true rfl) (frXK (fun K hK => p_isDear hK) ?_)
    rw [ox]
    refine Aft_v rfl ?_
    refine g_aload_n C0 dL_law_957 rfl ?_
    refine g_invV (As := []) (st := [.int v]) (ci := 10) C0 dL_law_958 CL_175 rfl rfl rfl rfl ⟨by decide, by decide, (by show cs + 0 + 0 ≤ 601024; omega), (by show ss + 0 + 0 ≤ 7293034; omega)⟩ (Nat.le_of_ble_eq_true rfl) (frMK (av := [.ref 0]) (fun K hK => r_isDear hK) ?_)
    rw [om, osh_i]
    refine Aft_v rfl ?_
    refine g_icmp_eq (tgt := 2347) C0 dL_law_961 (by decide) (fun _ => ?_) (fun z => absurd rfl z)
    refine g_widen (cs2 := cs + 12) (ss2 := ss + 72) (by show cs + 0 + 0 ≤ cs + 12; omega) (by show ss + 0 + 0 ≤ ss + 72; omega) ?_
    exact hn _ _ _ _ _ hr
  · exact absurd (ck.symm ▸ cp) (by unfold ka; split <;> decide)
set_option maxRecDepth 100000 in
set_option maxHeartbeats 4000000 in
theorem lc_carrierOf {X : CX} {D : va_G} {dA : Nat → ClassId} {w0 : AW} {ad0 : Nat → Nat} {K : AO → AW → Prop} {q t : XS} {f : Nat → Int64} {L i cs ss : Nat} {xs : Nat → Int32} {o5 o6 : Option Value} (C0 : Ok X (D, dA, w0, ad0, K) ML_law) (SC : SCR X (D, dA, w0, ad0, K) 110 L xs) (hw0 : w0.length = 110) (rx : RX q t) (hL : L ≤ 2048) (hi : i + 3 < L) (hc : cs + 12 ≤ 601024) (hs : ss + 72 ≤ 7293034) (hn : ∀ (q2 t2 : XS) (f2 : Nat → Int64) (p5 p6 : Option Value), RX q2 t2 → Gd X (D, dA, w0, ad0, K) ML_law 2347 [some (.ref 110), some (.ref 0), some (.ref 84), some (.ref 109), some (.int (nI i)), p5, p6] [] (W3 q2 t2 f2) (cs + 12) (ss + 72)) : Gd X (D, dA, w0, ad0, K) ML_law 966 [some (.ref 110), some (.ref 0), some (.ref 84), some (.ref 109), some (.int (nI i)), o5, o6] [] (W3 q t f) cs ss := by
  obtain ⟨hA, hr⟩ := s_carrierOf rx (xs (i + 1))
  rcases hA with ⟨v, ox, om, c0⟩ | ⟨e9, b9, he, ox, om, ck, cp, c4⟩
  · refine g_aload_n C0 dL_law_966 rfl ?_
    refine g_scr (kk := 1) C0 SC (W3l hw0) dL_law_967 dL_law_968 dL_law_970 dL_law_971 dL_law_972 rfl rfl (by decide +kernel) (by omega) (by omega) ?_
    refine g_aload_n C0 dL_law_973 rfl ?_
    refine g_invSH (As := [.ref 0, .int (xs (i + 1)), .ref 109]) (st := []) C0 dL_law_974 CL_176 rfl rfl rfl ⟨by decide, by decide, (by show cs + 1 ≤ 601024; omega), (by show ss + 6 ≤ 7293034; omega)⟩ (Nat.le_of_ble_eq_true rfl) (w_carrierOf (fun K hK => p_carrierOf hK) (Or.inl ⟨v, ox⟩) (fun v9 g9 => ?_) (fun e8 g9 => ?_))
    rotate_left
    · cases (ox.symm.trans g9)
    cases (ox.symm.trans g9)
    refine Aft_v rfl ?_
    refine g_istore C0 dL_law_977 (by decide) ?_
    refine g_aload_n C0 dL_law_979 rfl ?_
    refine g_scr (kk := 1) C0 SC (W3l hw0) dL_law_980 dL_law_981 dL_law_983 dL_law_984 dL_law_985 rfl rfl (by decide +kernel) (by omega) (by omega) ?_
    refine g_invV (As := [.int (xs (i + 1))]) (st := []) (ci := 10) C0 dL_law_986 CL_178 rfl rfl rfl rfl ⟨by decide, by decide, (by show cs + 1 + 0 ≤ 601024; omega), (by show ss + 6 + 0 ≤ 7293034; omega)⟩ (Nat.le_of_ble_eq_true rfl) (frMK (av := [.ref 0, .int (xs (i + 1))]) (fun K hK => r_carrierOf (by rw [← rx.cP]; exact rx.p60) hK) ?_)
    rw [om, osh_i]
    refine Aft_v rfl ?_
    refine g_istore C0 dL_law_989 (by decide) ?_
    refine g_aload_n C0 dL_law_991 rfl ?_
    refine g_invV (As := []) (st := []) (ci := 10) C0 dL_law_992 CL_131 rfl rfl rfl rfl ⟨by decide, by decide, (by show cs + 1 + 0 + 0 ≤ 601024; omega), (by show ss + 6 + 0 + 0 ≤ 7293034; omega)⟩ (Nat.le_of_ble_eq_true rfl) (frMK (av := [.ref 0]) (fun K hK => m_thrown hK) ?_)
    rw [osh_i, c0, nI_0]
    refine Aft_v rfl ?_
    refine g_iload C0 dL_law_995 rfl ?_
    refine g_icmp_eq (tgt := 1002) C0 dL_law_997 (by decide) (fun _ => ?_) (fun z => absurd rfl z)
    refine g_iload C0 dL_law_1002 rfl ?_
    refine g_if_ne (tgt := 1019) C0 dL_law_1004 (by decide) (fun z => absurd rfl z) (fun _ => ?_)
    refine g_aload_n C0 dL_law_1007 rfl ?_
    refine g_iconst (v := 0) C0 dL_law_1008 (by decide) ?_
    refine g_laload C0 dL_law_1009 (W3_out _ _ _) in01 ?_
    rw [show (0 : Int32).toNatClampNeg = 0 by decide +kernel, pk_uLs]
    refine g_iload C0 dL_law_1010 rfl ?_
    refine g_i2l C0 dL_law_1012 ?_
    refine g_lcmp C0 dL_law_1013 ?_
    rw [cmp_self]
    refine g_if_eq (tgt := 1019) C0 dL_law_1014 (by decide) (fun _ => ?_) (fun z => absurd rfl z)
    refine g_goto (tgt := 2347) C0 dL_law_1019 (by decide) ?_
    refine g_widen (cs2 := cs + 12) (ss2 := ss + 72) (by show cs + 1 + 0 + 0 ≤ cs + 12; omega) (by show ss + 6 + 0 + 0 ≤ ss + 72; omega) ?_
    exact hn _ _ _ _ _ hr
  · refine g_aload_n C0 dL_law_966 rfl ?_
    refine g_scr (kk := 1) C0 SC (W3l hw0) dL_law_967 dL_law_968 dL_law_970 dL_law_971 dL_law_972 rfl rfl (by decide +kernel) (by omega) (by omega) ?_
    refine g_aload_n C0 dL_law_973 rfl ?_
    refine g_invSH (As := [.ref 0, .int (xs (i + 1)), .ref 109]) (st := []) C0 dL_law_974 CL_176 rfl rfl rfl ⟨by decide, by decide, (by show cs + 1 ≤ 601024; omega), (by show ss + 6 ≤ 7293034; omega)⟩ (Nat.le_of_ble_eq_true rfl) (w_carrierOf (fun K hK => p_carrierOf hK) (Or.inr ⟨e9, ox, he, (by rw [← ck]; exact cp)⟩) (fun v9 g9 => ?_) (fun e8 g9 => ?_))
    · cases (ox.symm.trans g9)
    cases (ox.symm.trans g9)
    rw [← ck]
    refine Aft_v rfl ?_
    refine g_istore C0 dL_law_977 (by decide) ?_
    refine g_aload_n C0 dL_law_979 rfl ?_
    refine g_scr (kk := 1) C0 SC (W3l hw0) dL_law_980 dL_law_981 dL_law_983 dL_law_984 dL_law_985 rfl rfl (by decide +kernel) (by omega) (by omega) ?_
    refine g_invV (As := [.int (xs (i + 1))]) (st := []) (ci := 10) C0 dL_law_986 CL_178 rfl rfl rfl rfl ⟨by decide, by decide, (by show cs + 1 + 0 ≤ 601024; omega), (by show ss + 6 + 0 ≤ 7293034; omega)⟩ (Nat.le_of_ble_eq_true rfl) (frMK (av := [.ref 0, .int (xs (i + 1))]) (fun K hK => r_carrierOf (by rw [← rx.cP]; exact rx.p60) hK) ?_)
    rw [om, osh_i]
    refine Aft_v rfl ?_
    refine g_istore C0 dL_law_989 (by decide) ?_
    refine g_aload_n C0 dL_law_991 rfl ?_
    refine g_invV (As := []) (st := []) (ci := 10) C0 dL_law_992 CL_131 rfl rfl rfl rfl ⟨by decide, by decide, (by show cs + 1 + 0 + 0 ≤ 601024; omega), (by show ss + 6 + 0 + 0 ≤ 7293034; omega)⟩ (Nat.le_of_ble_eq_true rfl) (frMK (av := [.ref 0]) (fun K hK => m_thrown hK) ?_)
    rw [osh_i]
    refine Aft_v rfl ?_
    refine g_iload C0 dL_law_995 rfl ?_
    refine g_icmp_eq (tgt := 1002) C0 dL_law_997 (by decide) (fun _ => ?_) (fun z => absurd rfl z)
    refine g_iload C0 dL_law_1002 rfl ?_
    refine g_if_ne (tgt := 1019) C0 dL_law_1004 (by decide) (fun _ => ?_) (fun z => absurd z (nI_ne0 cp (by omega)))
    refine g_goto (tgt := 2347) C0 dL_law_1019 (by decide) ?_
    refine g_widen (cs2 := cs + 12) (ss2 := ss + 72) (by show cs + 1 + 0 + 0 ≤ cs + 12; omega) (by show ss + 6 + 0 + 0 ≤ ss + 72; omega) ?_
    exact hn _ _ _ _ _ hr
set_option maxRecDepth 100000 in
set_option maxHeartbeats 4000000 in
theorem lc_carrierThen {X : CX} {D : va_G} {dA : Nat → ClassId} {w0 : AW} {ad0 : Nat → Nat} {K : AO → AW → Prop} {q t : XS} {f : Nat → Int64} {L i cs ss : Nat} {xs : Nat → Int32} {o5 o6 : Option Value} (C0 : Ok X (D, dA, w0, ad0, K) ML_law) (SC : SCR X (D, dA, w0, ad0, K) 110 L xs) (hw0 : w0.length = 110) (rx : RX q t) (hL : L ≤ 2048) (hi : i + 3 < L) (hc : cs + 12 ≤ 601024) (hs : ss + 72 ≤ 7293034) (hn : ∀ (q2 t2 : XS) (f2 : Nat → Int64) (p5 p6 : Option Value), RX q2 t2 → Gd X (D, dA, w0, ad0, K) ML_law 2347 [some (.ref 110), some (.ref 0), some (.ref 84), some (.ref 109), some (.int (nI i)), p5, p6] [] (W3 q2 t2 f2) (cs + 12) (ss + 72)) : Gd X (D, dA, w0, ad0, K) ML_law 1022 [some (.ref 110), some (.ref 0), some (.ref 84), some (.ref 109), some (.int (nI i)), o5, o6] [] (W3 q t f) cs ss := by
  obtain ⟨hA, hr⟩ := s_carrierThen rx (xs (i + 1)) (xs (i + 2))
  rcases hA with ⟨v, ox, om, c0⟩ | ⟨e9, b9, he, ox, om, ck, cp, c4⟩
  · refine g_aload_n C0 dL_law_1022 rfl ?_
    refine g_scr (kk := 1) C0 SC (W3l hw0) dL_law_1023 dL_law_1024 dL_law_1026 dL_law_1027 dL_law_1028 rfl rfl (by decide +kernel) (by omega) (by omega) ?_
    refine g_scr (kk := 2) C0 SC (W3l hw0) dL_law_1029 dL_law_1030 dL_law_1032 dL_law_1033 dL_law_1034 rfl rfl (by decide +kernel) (by omega) (by omega) ?_
    refine g_aload_n C0 dL_law_1035 rfl ?_
    refine g_invSH (As := [.ref 0, .int (xs (i + 1)), .int (xs (i + 2)), .ref 109]) (st := []) C0 dL_law_1036 CL_179 rfl rfl rfl ⟨by decide, by decide, (by show cs + 2 ≤ 601024; omega), (by show ss + 12 ≤ 7293034; omega)⟩ (Nat.le_of_ble_eq_true rfl) (w_carrierThen (fun K hK => p_carrierThen (by have := rx.p60; omega) hK) (Or.inl ⟨v, ox⟩) (fun v9 g9 => ?_) (fun e8 g9 => ?_))
    rotate_left
    · cases (ox.symm.trans g9)
    cases (ox.symm.trans g9)
    refine Aft_v rfl ?_
    refine g_istore C0 dL_law_1039 (by decide) ?_
    refine g_aload_n C0 dL_law_1041 rfl ?_
    refine g_scr (kk := 1) C0 SC (W3l hw0) dL_law_1042 dL_law_1043 dL_law_1045 dL_law_1046 dL_law_1047 rfl rfl (by decide +kernel) (by omega) (by omega) ?_
    refine g_scr (kk := 2) C0 SC (W3l hw0) dL_law_1048 dL_law_1049 dL_law_1051 dL_law_1052 dL_law_1053 rfl rfl (by decide +kernel) (by omega) (by omega) ?_
    refine g_invV (As := [.int (xs (i + 1)), .int (xs (i + 2))]) (st := []) (ci := 10) C0 dL_law_1054 CL_181 rfl rfl rfl rfl ⟨by decide, by decide, (by show cs + 2 + 0 ≤ 601024; omega), (by show ss + 12 + 0 ≤ 7293034; omega)⟩ (Nat.le_of_ble_eq_true rfl) (frMK (av := [.ref 0, .int (xs (i + 1)), .int (xs (i + 2))]) (fun K hK => r_carrierThen (by rw [← rx.cP]; exact rx.p60) hK) ?_)
    rw [om, osh_i]
    refine Aft_v rfl ?_
    refine g_istore C0 dL_law_1057 (by decide) ?_
    refine g_aload_n C0 dL_law_1059 rfl ?_
    refine g_invV (As := []) (st := []) (ci := 10) C0 dL_law_1060 CL_131 rfl rfl rfl rfl ⟨by decide, by decide, (by show cs + 2 + 0 + 0 ≤ 601024; omega), (by show ss + 12 + 0 + 0 ≤ 7293034; omega)⟩ (Nat.le_of_ble_eq_true rfl) (frMK (av := [.ref 0]) (fun K hK => m_thrown hK) ?_)
    rw [osh_i, c0, nI_0]
    refine Aft_v rfl ?_
    refine g_iload C0 dL_law_1063 rfl ?_
    refine g_icmp_eq (tgt := 1070) C0 dL_law_1065 (by decide) (fun _ => ?_) (fun z => absurd rfl z)
    refine g_iload C0 dL_law_1070 rfl ?_
    refine g_if_ne (tgt := 1087) C0 dL_law_1072 (by decide) (fun z => absurd rfl z) (fun _ => ?_)
    refine g_aload_n C0 dL_law_1075 rfl ?_
    refine g_iconst (v := 0) C0 dL_law_1076 (by decide) ?_
    refine g_laload C0 dL_law_1077 (W3_out _ _ _) in01 ?_
    rw [show (0 : Int32).toNatClampNeg = 0 by decide +kernel, pk_uLs]
    refine g_iload C0 dL_law_1078 rfl ?_
    refine g_i2l C0 dL_law_1080 ?_
    refine g_lcmp C0 dL_law_1081 ?_
    rw [cmp_self]
    refine g_if_eq (tgt := 1087) C0 dL_law_1082 (by decide) (fun _ => ?_) (fun z => absurd rfl z)
    refine g_goto (tgt := 2347) C0 dL_law_1087 (by decide) ?_
    refine g_widen (cs2 := cs + 12) (ss2 := ss + 72) (by show cs + 2 + 0 + 0 ≤ cs + 12; omega) (by show ss + 12 + 0 + 0 ≤ ss + 72; omega) ?_
    exact hn _ _ _ _ _ hr
  · refine g_aload_n C0 dL_law_1022 rfl ?_
    refine g_scr (kk := 1) C0 SC (W3l hw0) dL_law_1023 dL_law_1024 dL_law_1026 dL_law_1027 dL_law_1028 rfl rfl (by decide +kernel) (by omega) (by omega) ?_
    refine g_scr (kk := 2) C0 SC (W3l hw0) dL_law_1029 dL_law_1030 dL_law_1032 dL_law_1033 dL_law_1034 rfl rfl (by decide +kernel) (by omega) (by omega) ?_
    refine g_aload_n C0 dL_law_1035 rfl ?_
    refine g_invSH (As := [.ref 0, .int (xs (i + 1)), .int (xs (i + 2)), .ref 109]) (st := []) C0 dL_law_1036 CL_179 rfl rfl rfl ⟨by decide, by decide, (by show cs + 2 ≤ 601024; omega), (by show ss + 12 ≤ 7293034; omega)⟩ (Nat.le_of_ble_eq_true rfl) (w_carrierThen (fun K hK => p_carrierThen (by have := rx.p60; omega) hK) (Or.inr ⟨e9, ox, he, (by rw [← ck]; exact cp)⟩) (fun v9 g9 => ?_) (fun e8 g9 => ?_))
    · cases (ox.symm.trans g9)
    cases (ox.symm.trans g9)
    rw [← ck]
    refine Aft_v rfl ?_
    refine g_istore C0 dL_law_1039 (by decide) ?_
    refine g_aload_n C0 dL_law_1041 rfl ?_
    refine g_scr (kk := 1) C0 SC (W3l hw0) dL_law_1042 dL_law_1043 dL_law_1045 dL_law_1046 dL_law_1047 rfl rfl (by decide +kernel) (by omega) (by omega) ?_
    refine g_scr (kk := 2) C0 SC (W3l hw0) dL_law_1048 dL_law_1049 dL_law_1051 dL_law_1052 dL_law_1053 rfl rfl (by decide +kernel) (by omega) (by omega) ?_
    refine g_invV (As := [.int (xs (i + 1)), .int (xs (i + 2))]) (st := []) (ci := 10) C0 dL_law_1054 CL_181 rfl rfl rfl rfl ⟨by decide, by decide, (by show cs + 2 + 0 ≤ 601024; omega), (by show ss + 12 + 0 ≤ 7293034; omega)⟩ (Nat.le_of_ble_eq_true rfl) (frMK (av := [.ref 0, .int (xs (i + 1)), .int (xs (i + 2))]) (fun K hK => r_carrierThen (by rw [← rx.cP]; exact rx.p60) hK) ?_)
    rw [om, osh_i]
    refine Aft_v rfl ?_
    refine g_istore C0 dL_law_1057 (by decide) ?_
    refine g_aload_n C0 dL_law_1059 rfl ?_
    refine g_invV (As := []) (st := []) (ci := 10) C0 dL_law_1060 CL_131 rfl rfl rfl rfl ⟨by decide, by decide, (by show cs + 2 + 0 + 0 ≤ 601024; omega), (by show ss + 12 + 0 + 0 ≤ 7293034; omega)⟩ (Nat.le_of_ble_eq_true rfl) (frMK (av := [.ref 0]) (fun K hK => m_thrown hK) ?_)
    rw [osh_i]
    refine Aft_v rfl ?_
    refine g_iload C0 dL_law_1063 rfl ?_
    refine g_icmp_eq (tgt := 1070) C0 dL_law_1065 (by decide) (fun _ => ?_) (fun z => absurd rfl z)
    refine g_iload C0 dL_law_1070 rfl ?_
    refine g_if_ne (tgt := 1087) C0 dL_law_1072 (by decide) (fun _ => ?_) (fun z => absurd z (nI_ne0 cp (by omega)))
    refine g_goto (tgt := 2347) C0 dL_law_1087 (by decide) ?_
    refine g_widen (cs2 := cs + 12) (ss2 := ss + 72) (by show cs + 2 + 0 + 0 ≤ cs + 12; omega) (by show ss + 12 + 0 + 0 ≤ ss + 72; omega) ?_
    exact hn _ _ _ _ _ hr
set_option maxRecDepth 100000 in
set_option maxHeartbeats 4000000 in
theorem lc_ownerOf {X : CX} {D : va_G} {dA : Nat → ClassId} {w0 : AW} {ad0 : Nat → Nat} {K : AO → AW → Prop} {q t : XS} {f : Nat → Int64} {L i cs ss : Nat} {xs : Nat → Int32} {o5 o6 : Option Value} (C0 : Ok X (D, dA, w0, ad0, K) ML_law) (SC : SCR X (D, dA, w0, ad0, K) 110 L xs) (hw0 : w0.length = 110) (rx : RX q t) (hL : L ≤ 2048) (hi : i + 3 < L) (hc : cs + 12 ≤ 601024) (hs : ss + 72 ≤ 7293034) (hn : ∀ (q2 t2 : XS) (f2 : Nat → Int64) (p5 p6 : Option Value), RX q2 t2 → Gd X (D, dA, w0, ad0, K) ML_law 2347 [some (.ref 110), some (.ref 0), some (.ref 84), some (.ref 109), some (.int (nI i)), p5, p6] [] (W3 q2 t2 f2) (cs + 12) (ss + 72)) : Gd X (D, dA, w0, ad0, K) ML_law 1090 [some (.ref 110), some (.ref 0), some (.ref 84), some (.ref 109), some (.int (nI i)), o5, o6] [] (W3 q t f) cs ss := by
  obtain ⟨hA, hr⟩ := s_ownerOf rx (xs (i + 1))
  rcases hA with ⟨v, ox, om, c0⟩ | ⟨e9, b9, he, ox, om, ck, cp, c4⟩
  · refine g_aload_n C0 dL_law_1090 rfl ?_
    refine g_scr (kk := 1) C0 SC (W3l hw0) dL_law_1091 dL_law_1092 dL_law_1094 dL_law_1095 dL_law_1096 rfl rfl (by decide +kernel) (by omega) (by omega) ?_
    refine g_aload_n C0 dL_law_1097 rfl ?_
    refine g_invSH (As := [.ref 0, .int (xs (i + 1)), .ref 109]) (st := []) C0 dL_law_1098 CL_182 rfl rfl rfl ⟨by decide, by decide, (by show cs + 1 ≤ 601024; omega), (by show ss + 6 ≤ 7293034; omega)⟩ (Nat.le_of_ble_eq_true rfl) (w_ownerOf (fun K hK => p_ownerOf hK) (Or.inl ⟨v, ox⟩) (fun v9 g9 => ?_) (fun e8 g9 => ?_))
    rotate_left
    · cases (ox.symm.trans g9)
    cases (ox.symm.trans g9)
    refine Aft_v rfl ?_
    refine g_istore C0 dL_law_1101 (by decide) ?_
    refine g_aload_n C0 dL_law_1103 rfl ?_
    refine g_scr (kk := 1) C0 SC (W3l hw0) dL_law_1104 dL_law_1105 dL_law_1107 dL_law_1108 dL_law_1109 rfl rfl (by decide +kernel) (by omega) (by omega) ?_
    refine g_invV (As := [.int (xs (i + 1))]) (st := []) (ci := 10) C0 dL_law_1110 CL_184 rfl rfl rfl rfl ⟨by decide, by decide, (by show cs + 1 + 0 ≤ 601024; omega), (by show ss + 6 + 0 ≤ 7293034; omega)⟩ (Nat.le_of_ble_eq_true rfl) (frMK (av := [.ref 0, .int (xs (i + 1))]) (fun K hK => r_ownerOf hK) ?_)
    rw [om, osh_i]
    refine Aft_v rfl ?_
    refine g_istore C0 dL_law_1113 (by decide) ?_
    refine g_aload_n C0 dL_law_1115 rfl ?_
    refine g_invV (As := []) (st := []) (ci := 10) C0 dL_law_1116 CL_131 rfl rfl rfl rfl ⟨by decide, by decide, (by show cs + 1 + 0 + 0 ≤ 601024; omega), (by show ss + 6 + 0 + 0 ≤ 7293034; omega)⟩ (Nat.le_of_ble_eq_true rfl) (frMK (av := [.ref 0]) (fun K hK => m_thrown hK) ?_)
    rw [osh_i, c0, nI_0]
    refine Aft_v rfl ?_
    refine g_iload C0 dL_law_1119 rfl ?_
    refine g_icmp_eq (tgt := 1126) C0 dL_law_1121 (by decide) (fun _ => ?_) (fun z => absurd rfl z)
    refine g_iload C0 dL_law_1126 rfl ?_
    refine g_if_ne (tgt := 1143) C0 dL_law_1128 (by decide) (fun z => absurd rfl z) (fun _ => ?_)
    refine g_aload_n C0 dL_law_1131 rfl ?_
    refine g_iconst (v := 0) C0 dL_law_1132 (by decide) ?_
    refine g_laload C0 dL_law_1133 (W3_out _ _ _) in01 ?_
    rw [show (0 : Int32).toNatClampNeg = 0 by decide +kernel, pk_uLs]
    refine g_iload C0 dL_law_1134 rfl ?_
    refine g_i2l C0 dL_law_1136 ?_
    refine g_lcmp C0 dL_law_1137 ?_
    rw [cmp_self]
    refine g_if_eq (tgt := 1143) C0 dL_law_1138 (by decide) (fun _ => ?_) (fun z => absurd rfl z)
    refine g_goto (tgt := 2347) C0 dL_law_1143 (by decide) ?_
    refine g_widen (cs2 := cs + 12) (ss2 := ss + 72) (by show cs + 1 + 0 + 0 ≤ cs + 12; omega) (by show ss + 6 + 0 + 0 ≤ ss + 72; omega) ?_
    exact hn _ _ _ _ _ hr
  · refine g_aload_n C0 dL_law_1090 rfl ?_
    refine g_scr (kk := 1) C0 SC (W3l hw0) dL_law_1091 dL_law_1092 dL_law_1094 dL_law_1095 dL_law_1096 rfl rfl (by decide +kernel) (by omega) (by omega) ?_
    refine g_aload_n C0 dL_law_1097 rfl ?_
    refine g_invSH (As := [.ref 0, .int (xs (i + 1)), .ref 109]) (st := []) C0 dL_law_1098 CL_182 rfl rfl rfl ⟨by decide, by decide, (by show cs + 1 ≤ 601024; omega), (by show ss + 6 ≤ 7293034; omega)⟩ (Nat.le_of_ble_eq_true rfl) (w_ownerOf (fun K hK => p_ownerOf hK) (Or.inr ⟨e9, ox, he, (by rw [← ck]; exact cp)⟩) (fun v9 g9 => ?_) (fun e8 g9 => ?_))
    · cases (ox.symm.trans g9)
    cases (ox.symm.trans g9)
    rw [← ck]
    refine Aft_v rfl ?_
    refine g_istore C0 dL_law_1101 (by decide) ?_
    refine g_aload_n C0 dL_law_1103 rfl ?_
    refine g_scr (kk := 1) C0 SC (W3l hw0) dL_law_1104 dL_law_1105 dL_law_1107 dL_law_1108 dL_law_1109 rfl rfl (by decide +kernel) (by omega) (by omega) ?_
    refine g_invV (As := [.int (xs (i + 1))]) (st := []) (ci := 10) C0 dL_law_1110 CL_184 rfl rfl rfl rfl ⟨by decide, by decide, (by show cs + 1 + 0 ≤ 601024; omega), (by show ss + 6 + 0 ≤ 7293034; omega)⟩ (Nat.le_of_ble_eq_true rfl) (frMK (av := [.ref 0, .int (xs (i + 1))]) (fun K hK => r_ownerOf hK) ?_)
    rw [om, osh_i]
    refine Aft_v rfl ?_
    refine g_istore C0 dL_law_1113 (by decide) ?_
    refine g_aload_n C0 dL_law_1115 rfl ?_
    refine g_invV (As := []) (st := []) (ci := 10) C0 dL_law_1116 CL_131 rfl rfl rfl rfl ⟨by decide, by decide, (by show cs + 1 + 0 + 0 ≤ 601024; omega), (by show ss + 6 + 0 + 0 ≤ 7293034; omega)⟩ (Nat.le_of_ble_eq_true rfl) (frMK (av := [.ref 0]) (fun K hK => m_thrown hK) ?_)
    rw [osh_i]
    refine Aft_v rfl ?_
    refine g_iload C0 dL_law_1119 rfl ?_
    refine g_icmp_eq (tgt := 1126) C0 dL_law_1121 (by decide) (fun _ => ?_) (fun z => absurd rfl z)
    refine g_iload C0 dL_law_1126 rfl ?_
    refine g_if_ne (tgt := 1143) C0 dL_law_1128 (by decide) (fun _ => ?_) (fun z => absurd z (nI_ne0 cp (by omega)))
    refine g_goto (tgt := 2347) C0 dL_law_1143 (by decide) ?_
    refine g_widen (cs2 := cs + 12) (ss2 := ss + 72) (by show cs + 1 + 0 + 0 ≤ cs + 12; omega) (by show ss + 6 + 0 + 0 ≤ ss + 72; omega) ?_
    exact hn _ _ _ _ _ hr
set_option maxRecDepth 100000 in
set_option maxHeartbeats 4000000 in
theorem lc_believed {X : CX} {D : va_G} {dA : Nat → ClassId} {w0 : AW} {ad0 : Nat → Nat} {K : AO → AW → Prop} {q t : XS} {f : Nat → Int64} {L i cs ss : Nat} {xs : Nat → Int32} {o5 o6 : Option Value} (C0 : Ok X (D, dA, w0, ad0, K) ML_law) (SC : SCR X (D, dA, w0, ad0, K) 110 L xs) (hw0 : w0.length = 110) (rx : RX q t) (hL : L ≤ 2048) (hi : i + 3 < L) (hc : cs + 12 ≤ 601024) (hs : ss + 72 ≤ 7293034) (hn : ∀ (q2 t2 : XS) (f2 : Nat → Int64) (p5 p6 : Option Value), RX q2 t2 → Gd X (D, dA, w0, ad0, K) ML_law 2347 [some (.ref 110), some (.ref 0), some (.ref 84), some (.ref 109), some (.int (nI i)), p5, p6] [] (W3 q2 t2 f2) (cs + 12) (ss + 72)) : Gd X (D, dA, w0, ad0, K) ML_law 1146 [some (.ref 110), some (.ref 0), some (.ref 84), some (.ref 109), some (.int (nI i)), o5, o6] [] (W3 q t f) cs ss := by
  obtain ⟨hA, hr⟩ := s_believed rx (xs (i + 1)) (xs (i + 2))
  rcases hA with ⟨v, ox, om, c0⟩ | ⟨e9, b9, he, ox, om, ck, cp, c4⟩
  · refine g_aload_n C0 dL_law_1146 rfl ?_
    refine g_scr (kk := 1) C0 SC (W3l hw0) dL_law_1147 dL_law_1148 dL_law_1150 dL_law_1151 dL_law_1152 rfl rfl (by decide +kernel) (by omega) (by omega) ?_
    refine g_scr (kk := 2) C0 SC (W3l hw0) dL_law_1153 dL_law_1154 dL_law_1156 dL_law_1157 dL_law_1158 rfl rfl (by decide +kernel) (by omega) (by omega) ?_
    refine g_aload_n C0 dL_law_1159 rfl ?_
    refine g_invSH (As := [.ref 0, .int (xs (i + 1)), .int (xs (i + 2)), .ref 109]) (st := []) C0 dL_law_1160 CL_185 rfl rfl rfl ⟨by decide, by decide, (by show cs + 2 ≤ 601024; omega), (by show ss + 12 ≤ 7293034; omega)⟩ (Nat.le_of_ble_eq_true rfl) (w_believed (fun K hK => p_believed (by have := rx.p60; omega) hK) (Or.inl ⟨v, ox⟩) (fun v9 g9 => ?_) (fun e8 g9 => ?_))
    rotate_left
    · cases (ox.symm.trans g9)
    cases (ox.symm.trans g9)
    refine Aft_v rfl ?_
    refine g_istore C0 dL_law_1163 (by decide) ?_
    refine g_aload_n C0 dL_law_1165 rfl ?_
    refine g_scr (kk := 1) C0 SC (W3l hw0) dL_law_1166 dL_law_1167 dL_law_1169 dL_law_1170 dL_law_1171 rfl rfl (by decide +kernel) (by omega) (by omega) ?_
    refine g_scr (kk := 2) C0 SC (W3l hw0) dL_law_1172 dL_law_1173 dL_law_1175 dL_law_1176 dL_law_1177 rfl rfl (by decide +kernel) (by omega) (by omega) ?_
    refine g_invV (As := [.int (xs (i + 1)), .int (xs (i + 2))]) (st := []) (ci := 10) C0 dL_law_1178 CL_187 rfl rfl rfl rfl ⟨by decide, by decide, (by show cs + 2 + 0 ≤ 601024; omega), (by show ss + 12 + 0 ≤ 7293034; omega)⟩ (Nat.le_of_ble_eq_true rfl) (frMK (av := [.ref 0, .int (xs (i + 1)), .int (xs (i + 2))]) (fun K hK => r_believed (by rw [← rx.cP]; exact rx.p60) hK) ?_)
    rw [om, osh_i]
    refine Aft_v rfl ?_
    refine g_istore C0 dL_law_1181 (by decide) ?_
    refine g_aload_n C0 dL_law_1183 rfl ?_
    refine g_invV (As := []) (st := []) (ci := 10) C0 dL_law_1184 CL_131 rfl rfl rfl rfl ⟨by decide, by decide, (by show cs + 2 + 0 + 0 ≤ 601024; omega), (by show ss + 12 + 0 + 0 ≤ 7293034; omega)⟩ (Nat.le_of_ble_eq_true rfl) (frMK (av := [.ref 0]) (fun K hK => m_thrown hK) ?_)
    rw [osh_i, c0, nI_0]
    refine Aft_v rfl ?_
    refine g_iload C0 dL_law_1187 rfl ?_
    refine g_icmp_eq (tgt := 1194) C0 dL_law_1189 (by decide) (fun _ => ?_) (fun z => absurd rfl z)
    refine g_iload C0 dL_law_1194 rfl ?_
    refine g_if_ne (tgt := 1211) C0 dL_law_1196 (by decide) (fun z => absurd rfl z) (fun _ => ?_)
    refine g_aload_n C0 dL_law_1199 rfl ?_
    refine g_iconst (v := 0) C0 dL_law_1200 (by decide) ?_
    refine g_laload C0 dL_law_1201 (W3_out _ _ _) in01 ?_
    rw [show (0 : Int32).toNatClampNeg = 0 by decide +kernel, pk_uLs]
    refine g_iload C0 dL_law_1202 rfl ?_
    refine g_i2l C0 dL_law_1204 ?_
    refine g_lcmp C0 dL_law_1205 ?_
    rw [cmp_self]
    refine g_if_eq (tgt := 1211) C0 dL_law_1206 (by decide) (fun _ => ?_) (fun z => absurd rfl z)
    refine g_goto (tgt := 2347) C0 dL_law_1211 (by decide) ?_
    refine g_widen (cs2 := cs + 12) (ss2 := ss + 72) (by show cs + 2 + 0 + 0 ≤ cs + 12; omega) (by show ss + 12 + 0 + 0 ≤ ss + 72; omega) ?_
    exact hn _ _ _ _ _ hr
  · refine g_aload_n C0 dL_law_1146 rfl ?_
    refine g_scr (kk := 1) C0 SC (W3l hw0) dL_law_1147 dL_law_1148 dL_law_1150 dL_law_1151 dL_law_1152 rfl rfl (by decide +kernel) (by omega) (by omega) ?_
    refine g_scr (kk := 2) C0 SC (W3l hw0) dL_law_1153 dL_law_1154 dL_law_1156 dL_law_1157 dL_law_1158 rfl rfl (by decide +kernel) (by omega) (by omega) ?_
    refine g_aload_n C0 dL_law_1159 rfl ?_
    refine g_invSH (As := [.ref 0, .int (xs (i + 1)), .int (xs (i + 2)), .ref 109]) (st := []) C0 dL_law_1160 CL_185 rfl rfl rfl ⟨by decide, by decide, (by show cs + 2 ≤ 601024; omega), (by show ss + 12 ≤ 7293034; omega)⟩ (Nat.le_of_ble_eq_true rfl) (w_believed (fun K hK => p_believed (by have := rx.p60; omega) hK) (Or.inr ⟨e9, ox, he, (by rw [← ck]; exact cp)⟩) (fun v9 g9 => ?_) (fun e8 g9 => ?_))
    · cases (ox.symm.trans g9)
    cases (ox.symm.trans g9)
    rw [← ck]
    refine Aft_v rfl ?_
    refine g_istore C0 dL_law_1163 (by decide) ?_
    refine g_aload_n C0 dL_law_1165 rfl ?_
    refine g_scr (kk := 1) C0 SC (W3l hw0) dL_law_1166 dL_law_1167 dL_law_1169 dL_law_1170 dL_law_1171 rfl rfl (by decide +kernel) (by omega) (by omega) ?_
    refine g_scr (kk := 2) C0 SC (W3l hw0) dL_law_1172 dL_law_1173 dL_law_1175 dL_law_1176 dL_law_1177 rfl rfl (by decide +kernel) (by omega) (by omega) ?_
    refine g_invV (As := [.int (xs (i + 1)), .int (xs (i + 2))]) (st := []) (ci := 10) C0 dL_law_1178 CL_187 rfl rfl rfl rfl ⟨by decide, by decide, (by show cs + 2 + 0 ≤ 601024; omega), (by show ss + 12 + 0 ≤ 7293034; omega)⟩ (Nat.le_of_ble_eq_true rfl) (frMK (av := [.ref 0, .int (xs (i + 1)), .int (xs (i + 2))]) (fun K hK => r_believed (by rw [← rx.cP]; exact rx.p60) hK) ?_)
    rw [om, osh_i]
    refine Aft_v rfl ?_
    refine g_istore C0 dL_law_1181 (by decide) ?_
    refine g_aload_n C0 dL_law_1183 rfl ?_
    refine g_invV (As := []) (st := []) (ci := 10) C0 dL_law_1184 CL_131 rfl rfl rfl rfl ⟨by decide, by decide, (by show cs + 2 + 0 + 0 ≤ 601024; omega), (by show ss + 12 + 0 + 0 ≤ 7293034; omega)⟩ (Nat.le_of_ble_eq_true rfl) (frMK (av := [.ref 0]) (fun K hK => m_thrown hK) ?_)
    rw [osh_i]
    refine Aft_v rfl ?_
    refine g_iload C0 dL_law_1187 rfl ?_
    refine g_icmp_eq (tgt := 1194) C0 dL_law_1189 (by decide) (fun _ => ?_) (fun z => absurd rfl z)
    refine g_iload C0 dL_law_1194 rfl ?_
    refine g_if_ne (tgt := 1211) C0 dL_law_1196 (by decide) (fun _ => ?_) (fun z => absurd z (nI_ne0 cp (by omega)))
    refine g_goto (tgt := 2347) C0 dL_law_1211 (by decide) ?_
    refine g_widen (cs2 := cs + 12) (ss2 := ss + 72) (by show cs + 2 + 0 + 0 ≤ cs + 12; omega) (by show ss + 12 + 0 + 0 ≤ ss + 72; omega) ?_
    exact hn _ _ _ _ _ hr
set_option maxRecDepth 100000 in
set_option maxHeartbeats 4000000 in
theorem lc_debt {X : CX} {D : va_G} {dA : Nat → ClassId} {w0 : AW} {ad0 : Nat → Nat} {K : AO → AW → Prop} {q t : XS} {f : Nat → Int64} {L i cs ss : Nat} {xs : Nat → Int32} {o5 o6 : Option Value} (C0 : Ok X (D, dA, w0, ad0, K) ML_law) (SC : SCR X (D, dA, w0, ad0, K) 110 L xs) (hw0 : w0.length = 110) (rx : RX q t) (hL : L ≤ 2048) (hi : i + 3 < L) (hc : cs + 12 ≤ 601024) (hs : ss + 72 ≤ 7293034) (hn : ∀ (q2 t2 : XS) (f2 : Nat → Int64) (p5 p6 : Option Value), RX q2 t2 → Gd X (D, dA, w0, ad0, K) ML_law 2347 [some (.ref 110), some (.ref 0), some (.ref 84), some (.ref 109), some (.int (nI i)), p5, p6] [] (W3 q2 t2 f2) (cs + 12) (ss + 72)) : Gd X (D, dA, w0, ad0, K) ML_law 1214 [some (.ref 110), some (.ref 0), some (.ref 84), some (.ref 109), some (.int (nI i)), o5, o6] [] (W3 q t f) cs ss := by
  obtain ⟨hA, hr⟩ := s_debt rx (xs (i + 1))
  rcases hA with ⟨v, ox, om, c0⟩ | ⟨e9, b9, he, ox, om, ck, cp, c4⟩
  · refine g_aload_n C0 dL_law_1214 rfl ?_
    refine g_scr (kk := 1) C0 SC (W3l hw0) dL_law_1215 dL_law_1216 dL_law_1218 dL_law_1219 dL_law_1220 rfl rfl (by decide +kernel) (by omega) (by omega) ?_
    refine g_aload_n C0 dL_law_1221 rfl ?_
    refine g_invSH (As := [.ref 0, .int (xs (i + 1)), .ref 109]) (st := []) C0 dL_law_1222 CL_188 rfl rfl rfl ⟨by decide, by decide, (by show cs + 1 ≤ 601024; omega), (by show ss + 6 ≤ 7293034; omega)⟩ (Nat.le_of_ble_eq_true rfl) (w_debt (fun K hK => p_debt hK) (Or.inl ⟨v, ox⟩) (fun v9 g9 => ?_) (fun e8 g9 => ?_))
    rotate_left
    · cases (ox.symm.trans g9)
    cases (ox.symm.trans g9)
    refine Aft_v rfl ?_
    refine g_istore C0 dL_law_1225 (by decide) ?_
    refine g_aload_n C0 dL_law_1227 rfl ?_
    refine g_scr (kk := 1) C0 SC (W3l hw0) dL_law_1228 dL_law_1229 dL_law_1231 dL_law_1232 dL_law_1233 rfl rfl (by decide +kernel) (by omega) (by omega) ?_
    refine g_invV (As := [.int (xs (i + 1))]) (st := []) (ci := 10) C0 dL_law_1234 CL_190 rfl rfl rfl rfl ⟨by decide, by decide, (by show cs + 1 + 0 ≤ 601024; omega), (by show ss + 6 + 0 ≤ 7293034; omega)⟩ (Nat.le_of_ble_eq_true rfl) (frMK (av := [.ref 0, .int (xs (i + 1))]) (fun K hK => r_debt hK) ?_)
    rw [om, osh_i]
    refine Aft_v rfl ?_
    refine g_istore C0 dL_law_1237 (by decide) ?_
    refine g_aload_n C0 dL_law_1239 rfl ?_
    refine g_invV (As := []) (st := []) (ci := 10) C0 dL_law_1240 CL_131 rfl rfl rfl rfl ⟨by decide, by decide, (by show cs + 1 + 0 + 0 ≤ 601024; omega), (by show ss + 6 + 0 + 0 ≤ 7293034; omega)⟩ (Nat.le_of_ble_eq_true rfl) (frMK (av := [.ref 0]) (fun K hK => m_thrown hK) ?_)
    rw [osh_i, c0, nI_0]
    refine Aft_v rfl ?_
    refine g_iload C0 dL_law_1243 rfl ?_
    refine g_icmp_eq (tgt := 1250) C0 dL_law_1245 (by decide) (fun _ => ?_) (fun z => absurd rfl z)
    refine g_iload C0 dL_law_1250 rfl ?_
    refine g_if_ne (tgt := 1267) C0 dL_law_1252 (by decide) (fun z => absurd rfl z) (fun _ => ?_)
    refine g_aload_n C0 dL_law_1255 rfl ?_
    refine g_iconst (v := 0) C0 dL_law_1256 (by decide) ?_
    refine g_laload C0 dL_law_1257 (W3_out _ _ _) in01 ?_
    rw [show (0 : Int32).toNatClampNeg = 0 by decide +kernel, pk_uLs]
    refine g_iload C0 dL_law_1258 rfl ?_
    refine g_i2l C0 dL_law_1260 ?_
    refine g_lcmp C0 dL_law_1261 ?_
    rw [cmp_self]
    refine g_if_eq (tgt := 1267) C0 dL_law_1262 (by decide) (fun _ => ?_) (fun z => absurd rfl z)
    refine g_goto (tgt := 2347) C0 dL_law_1267 (by decide) ?_
    refine g_widen (cs2 := cs + 12) (ss2 := ss + 72) (by show cs + 1 + 0 + 0 ≤ cs + 12; omega) (by show ss + 6 + 0 + 0 ≤ ss + 72; omega) ?_
    exact hn _ _ _ _ _ hr
  · refine g_aload_n C0 dL_law_1214 rfl ?_
    refine g_scr (kk := 1) C0 SC (W3l hw0) dL_law_1215 dL_law_1216 dL_law_1218 dL_law_1219 dL_law_1220 rfl rfl (by decide +kernel) (by omega) (by omega) ?_
    refine g_aload_n C0 dL_law_1221 rfl ?_
    refine g_invSH (As := [.ref 0, .int (xs (i + 1)), .ref 109]) (st := []) C0 dL_law_1222 CL_188 rfl rfl rfl ⟨by decide, by decide, (by show cs + 1 ≤ 601024; omega), (by show ss + 6 ≤ 7293034; omega)⟩ (Nat.le_of_ble_eq_true rfl) (w_debt (fun K hK => p_debt hK) (Or.inr ⟨e9, ox, he, (by rw [← ck]; exact cp)⟩) (fun v9 g9 => ?_) (fun e8 g9 => ?_))
    · cases (ox.symm.trans g9)
    cases (ox.symm.trans g9)
    rw [← ck]
    refine Aft_v rfl ?_
    refine g_istore C0 dL_law_1225 (by decide) ?_
    refine g_aload_n C0 dL_law_1227 rfl ?_
    refine g_scr (kk := 1) C0 SC (W3l hw0) dL_law_1228 dL_law_1229 dL_law_1231 dL_law_1232 dL_law_1233 rfl rfl (by decide +kernel) (by omega) (by omega) ?_
    refine g_invV (As := [.int (xs (i + 1))]) (st := []) (ci := 10) C0 dL_law_1234 CL_190 rfl rfl rfl rfl ⟨by decide, by decide, (by show cs + 1 + 0 ≤ 601024; omega), (by show ss + 6 + 0 ≤ 7293034; omega)⟩ (Nat.le_of_ble_eq_true rfl) (frMK (av := [.ref 0, .int (xs (i + 1))]) (fun K hK => r_debt hK) ?_)
    rw [om, osh_i]
    refine Aft_v rfl ?_
    refine g_istore C0 dL_law_1237 (by decide) ?_
    refine g_aload_n C0 dL_law_1239 rfl ?_
    refine g_invV (As := []) (st := []) (ci := 10) C0 dL_law_1240 CL_131 rfl rfl rfl rfl ⟨by decide, by decide, (by show cs + 1 + 0 + 0 ≤ 601024; omega), (by show ss + 6 + 0 + 0 ≤ 7293034; omega)⟩ (Nat.le_of_ble_eq_true rfl) (frMK (av := [.ref 0]) (fun K hK => m_thrown hK) ?_)
    rw [osh_i]
    refine Aft_v rfl ?_
    refine g_iload C0 dL_law_1243 rfl ?_
    refine g_icmp_eq (tgt := 1250) C0 dL_law_1245 (by decide) (fun _ => ?_) (fun z => absurd rfl z)
    refine g_iload C0 dL_law_1250 rfl ?_
    refine g_if_ne (tgt := 1267) C0 dL_law_1252 (by decide) (fun _ => ?_) (fun z => absurd z (nI_ne0 cp (by omega)))
    refine g_goto (tgt := 2347) C0 dL_law_1267 (by decide) ?_
    refine g_widen (cs2 := cs + 12) (ss2 := ss + 72) (by show cs + 1 + 0 + 0 ≤ cs + 12; omega) (by show ss + 6 + 0 + 0 ≤ ss + 72; omega) ?_
    exact hn _ _ _ _ _ hr
set_option maxRecDepth 100000 in
set_option maxHeartbeats 4000000 in
theorem lc_debtAnew {X : CX} {D : va_G} {dA : Nat → ClassId} {w0 : AW} {ad0 : Nat → Nat} {K : AO → AW → Prop} {q t : XS} {f : Nat → Int64} {L i cs ss : Nat} {xs : Nat → Int32} {o5 o6 : Option Value} (C0 : Ok X (D, dA, w0, ad0, K) ML_law) (SC : SCR X (D, dA, w0, ad0, K) 110 L xs) (hw0 : w0.length = 110) (rx : RX q t) (hL : L ≤ 2048) (hi : i + 3 < L) (hc : cs + 12 ≤ 601024) (hs : ss + 72 ≤ 7293034) (hn : ∀ (q2 t2 : XS) (f2 : Nat → Int64) (p5 p6 : Option Value), RX q2 t2 → Gd X (D, dA, w0, ad0, K) ML_law 2347 [some (.ref 110), some (.ref 0), some (.ref 84), some (.ref 109), some (.int (nI i)), p5, p6] [] (W3 q2 t2 f2) (cs + 12) (ss + 72)) : Gd X (D, dA, w0, ad0, K) ML_law 1270 [some (.ref 110), some (.ref 0), some (.ref 84), some (.ref 109), some (.int (nI i)), o5, o6] [] (W3 q t f) cs ss := by
  obtain ⟨hA, hr⟩ := s_debtAnew rx (xs (i + 1))
  rcases hA with ⟨v, ox, om, c0⟩ | ⟨e9, b9, he, ox, om, ck, cp, c4⟩
  · refine g_aload_n C0 dL_law_1270 rfl ?_
    refine g_scr (kk := 1) C0 SC (W3l hw0) dL_law_1271 dL_law_1272 dL_law_1274 dL_law_1275 dL_law_1276 rfl rfl (by decide +kernel) (by omega) (by omega) ?_
    refine g_aload_n C0 dL_law_1277 rfl ?_
    refine g_invSH (As := [.ref 0, .int (xs (i + 1)), .ref 109]) (st := []) C0 dL_law_1278 CL_191 rfl rfl rfl ⟨by decide, by decide, (by show cs + 1 ≤ 601024; omega), (by show ss + 6 ≤ 7293034; omega)⟩ (Nat.le_of_ble_eq_true rfl) (w_debtAnew (fun K hK => p_debtAnew (by have := rx.p60; omega) (by have := rx.s60; omega) (by have := rx.d60; omega) (by rw [rx.ha.c]; have := rx.d60; omega) (by have := rx.c60; omega) hK) (Or.inl ⟨v, ox⟩) (fun v9 g9 => ?_) (fun e8 g9 => ?_))
    rotate_left
    · cases (ox.symm.trans g9)
    cases (ox.symm.trans g9)
    refine Aft_v rfl ?_
    refine g_istore C0 dL_law_1281 (by decide) ?_
    refine g_aload_n C0 dL_law_1283 rfl ?_
    refine g_scr (kk := 1) C0 SC (W3l hw0) dL_law_1284 dL_law_1285 dL_law_1287 dL_law_1288 dL_law_1289 rfl rfl (by decide +kernel) (by omega) (by omega) ?_
    refine g_invV (As := [.int (xs (i + 1))]) (st := []) (ci := 10) C0 dL_law_1290 CL_193 rfl rfl rfl rfl ⟨by decide, by decide, (by show cs + 1 + 0 ≤ 601024; omega), (by show ss + 6 + 0 ≤ 7293034; omega)⟩ (Nat.le_of_ble_eq_true rfl) (frMK (av := [.ref 0, .int (xs (i + 1))]) (fun K hK => r_debtAnew hK) ?_)
    rw [om, osh_i]
    refine Aft_v rfl ?_
    refine g_istore C0 dL_law_1293 (by decide) ?_
    refine g_aload_n C0 dL_law_1295 rfl ?_
    refine g_invV (As := []) (st := []) (ci := 10) C0 dL_law_1296 CL_131 rfl rfl rfl rfl ⟨by decide, by decide, (by show cs + 1 + 0 + 0 ≤ 601024; omega), (by show ss + 6 + 0 + 0 ≤ 7293034; omega)⟩ (Nat.le_of_ble_eq_true rfl) (frMK (av := [.ref 0]) (fun K hK => m_thrown hK) ?_)
    rw [osh_i, c0, nI_0]
    refine Aft_v rfl ?_
    refine g_iload C0 dL_law_1299 rfl ?_
    refine g_icmp_eq (tgt := 1306) C0 dL_law_1301 (by decide) (fun _ => ?_) (fun z => absurd rfl z)
    refine g_iload C0 dL_law_1306 rfl ?_
    refine g_if_ne (tgt := 1323) C0 dL_law_1308 (by decide) (fun z => absurd rfl z) (fun _ => ?_)
    refine g_aload_n C0 dL_law_1311 rfl ?_
    refine g_iconst (v := 0) C0 dL_law_1312 (by decide) ?_
    refine g_laload C0 dL_law_1313 (W3_out _ _ _) in01 ?_
    rw [show (0 : Int32).toNatClampNeg = 0 by decide +kernel, pk_uLs]
    refine g_iload C0 dL_law_1314 rfl ?_
    refine g_i2l C0 dL_law_1316 ?_
    refine g_lcmp C0 dL_law_1317 ?_
    rw [cmp_self]
    refine g_if_eq (tgt := 1323) C0 dL_law_1318 (by decide) (fun _ => ?_) (fun z => absurd rfl z)
    refine g_goto (tgt := 2347) C0 dL_law_1323 (by decide) ?_
    refine g_widen (cs2 := cs + 12) (ss2 := ss + 72) (by show cs + 1 + 0 + 0 ≤ cs + 12; omega) (by show ss + 6 + 0 + 0 ≤ ss + 72; omega) ?_
    exact hn _ _ _ _ _ hr
  · refine g_aload_n C0 dL_law_1270 rfl ?_
    refine g_scr (kk := 1) C0 SC (W3l hw0) dL_law_1271 dL_law_1272 dL_law_1274 dL_law_1275 dL_law_1276 rfl rfl (by decide +kernel) (by omega) (by omega) ?_
    refine g_aload_n C0 dL_law_1277 rfl ?_
    refine g_invSH (As := [.ref 0, .int (xs (i + 1)), .ref 109]) (st := []) C0 dL_law_1278 CL_191 rfl rfl rfl ⟨by decide, by decide, (by show cs + 1 ≤ 601024; omega), (by show ss + 6 ≤ 7293034; omega)⟩ (Nat.le_of_ble_eq_true rfl) (w_debtAnew (fun K hK => p_debtAnew (by have := rx.p60; omega) (by have := rx.s60; omega) (by have := rx.d60; omega) (by rw [rx.ha.c]; have := rx.d60; omega) (by have := rx.c60; omega) hK) (Or.inr ⟨e9, ox, he, (by rw [← ck]; exact cp)⟩) (fun v9 g9 => ?_) (fun e8 g9 => ?_))
    · cases (ox.symm.trans g9)
    cases (ox.symm.trans g9)
    rw [← ck]
    refine Aft_v rfl ?_
    refine g_istore C0 dL_law_1281 (by decide) ?_
    refine g_aload_n C0 dL_law_1283 rfl ?_
    refine g_scr (kk := 1) C0 SC (W3l hw0) dL_law_1284 dL_law_1285 dL_law_1287 dL_law_1288 dL_law_1289 rfl rfl (by decide +kernel) (by omega) (by omega) ?_
    refine g_invV (As := [.int (xs (i + 1))]) (st := []) (ci := 10) C0 dL_law_1290 CL_193 rfl rfl rfl rfl ⟨by decide, by decide, (by show cs + 1 + 0 ≤ 601024; omega), (by show ss + 6 + 0 ≤ 7293034; omega)⟩ (Nat.le_of_ble_eq_true rfl) (frMK (av := [.ref 0, .int (xs (i + 1))]) (fun K hK => r_debtAnew hK) ?_)
    rw [om, osh_i]
    refine Aft_v rfl ?_
    refine g_istore C0 dL_law_1293 (by decide) ?_
    refine g_aload_n C0 dL_law_1295 rfl ?_
    refine g_invV (As := []) (st := []) (ci := 10) C0 dL_law_1296 CL_131 rfl rfl rfl rfl ⟨by decide, by decide, (by show cs + 1 + 0 + 0 ≤ 601024; omega), (by show ss + 6 + 0 + 0 ≤ 7293034; omega)⟩ (Nat.le_of_ble_eq_true rfl) (frMK (av := [.ref 0]) (fun K hK => m_thrown hK) ?_)
    rw [osh_i]
    refine Aft_v rfl ?_
    refine g_iload C0 dL_law_1299 rfl ?_
    refine g_icmp_eq (tgt := 1306) C0 dL_law_1301 (by decide) (fun _ => ?_) (fun z => absurd rfl z)
    refine g_iload C0 dL_law_1306 rfl ?_
    refine g_if_ne (tgt := 1323) C0 dL_law_1308 (by decide) (fun _ => ?_) (fun z => absurd z (nI_ne0 cp (by omega)))
    refine g_goto (tgt := 2347) C0 dL_law_1323 (by decide) ?_
    refine g_widen (cs2 := cs + 12) (ss2 := ss + 72) (by show cs + 1 + 0 + 0 ≤ cs + 12; omega) (by show ss + 6 + 0 + 0 ≤ ss + 72; omega) ?_
    exact hn _ _ _ _ _ hr
set_option maxRecDepth 100000 in
set_option maxHeartbeats 4000000 in
theorem lc_bondOf {X : CX} {D : va_G} {dA : Nat → ClassId} {w0 : AW} {ad0 : Nat → Nat} {K : AO → AW → Prop} {q t : XS} {f : Nat → Int64} {L i cs ss : Nat} {xs : Nat → Int32} {o5 o6 : Option Value} (C0 : Ok X (D, dA, w0, ad0, K) ML_law) (SC : SCR X (D, dA, w0, ad0, K) 110 L xs) (hw0 : w0.length = 110) (rx : RX q t) (hL : L ≤ 2048) (hi : i + 3 < L) (hc : cs + 12 ≤ 601024) (hs : ss + 72 ≤ 7293034) (hn : ∀ (q2 t2 : XS) (f2 : Nat → Int64) (p5 p6 : Option Value), RX q2 t2 → Gd X (D, dA, w0, ad0, K) ML_law 2347 [some (.ref 110), some (.ref 0), some (.ref 84), some (.ref 109), some (.int (nI i)), p5, p6] [] (W3 q2 t2 f2) (cs + 12) (ss + 72)) : Gd X (D, dA, w0, ad0, K) ML_law 1326 [some (.ref 110), some (.ref 0), some (.ref 84), some (.ref 109), some (.int (nI i)), o5, o6] [] (W3 q t f) cs ss := by
  obtain ⟨hA, hr⟩ := s_bondOf rx (xs (i + 1))
  rcases hA with ⟨v, ox, om, c0⟩ | ⟨e9, b9, he, ox, om, ck, cp, c4⟩
  · refine g_aload_n C0 dL_law_1326 rfl ?_
    refine g_scr (kk := 1) C0 SC (W3l hw0) dL_law_1327 dL_law_1328 dL_law_1330 dL_law_1331 dL_law_1332 rfl rfl (by decide +kernel) (by omega) (by omega) ?_
    refine g_aload_n C0 dL_law_1333 rfl ?_
    refine g_invSH (As := [.ref 0, .int (xs (i + 1)), .ref 109]) (st := []) C0 dL_law_1334 CL_194 rfl rfl rfl ⟨by decide, by decide, (by show cs + 1 ≤ 601024; omega), (by show ss + 6 ≤ 7293034; omega)⟩ (Nat.le_of_ble_eq_true rfl) (w_bondOf (fun K hK => p_bondOf hK) (Or.inl ⟨v, ox⟩) (fun v9 g9 => ?_) (fun e8 g9 => ?_))
    rotate_left
    · cases (ox.symm.trans g9)
    cases (ox.symm.trans g9)
    refine Aft_v rfl ?_
    refine g_istore C0 dL_law_1337 (by decide) ?_
    refine g_aload_n C0 dL_law_1339 rfl ?_
    refine g_scr (kk := 1) C0 SC (W3l hw0) dL_law_1340 dL_law_1341 dL_law_1343 dL_law_1344 dL_law_1345 rfl rfl (by decide +kernel) (by omega) (by omega) ?_
    refine g_invV (As := [.int (xs (i + 1))]) (st := []) (ci := 10) C0 dL_law_1346 CL_196 rfl rfl rfl rfl ⟨by decide, by decide, (by show cs + 1 + 0 ≤ 601024; omega), (by show ss + 6 + 0 ≤ 7293034; omega)⟩ (Nat.le_of_ble_eq_true rfl) (frMK (av := [.ref 0, .int (xs (i + 1))]) (fun K hK => r_bondOf hK) ?_)
    rw [om, osh_i]
    refine Aft_v rfl ?_
    refine g_istore C0 dL_law_1349 (by decide) ?_
    refine g_aload_n C0 dL_law_1351 rfl ?_
    refine g_invV (As := []) (st := []) (ci := 10) C0 dL_law_1352 CL_131 rfl rfl rfl rfl ⟨by decide, by decide, (by show cs + 1 + 0 + 0 ≤ 601024; omega), (by show ss + 6 + 0 + 0 ≤ 7293034; omega)⟩ (Nat.le_of_ble_eq_true rfl) (frMK (av := [.ref 0]) (fun K hK => m_thrown hK) ?_)
    rw [osh_i, c0, nI_0]
    refine Aft_v rfl ?_
    refine g_iload C0 dL_law_1355 rfl ?_
    refine g_icmp_eq (tgt := 1362) C0 dL_law_1357 (by decide) (fun _ => ?_) (fun z => absurd rfl z)
    refine g_iload C0 dL_law_1362 rfl ?_
    refine g_if_ne (tgt := 1379) C0 dL_law_1364 (by decide) (fun z => absurd rfl z) (fun _ => ?_)
    refine g_aload_n C0 dL_law_1367 rfl ?_
    refine g_iconst (v := 0) C0 dL_law_1368 (by decide) ?_
    refine g_laload C0 dL_law_1369 (W3_out _ _ _) in01 ?_
    rw [show (0 : Int32).toNatClampNeg = 0 by decide +kernel, pk_uLs]
    refine g_iload C0 dL_law_1370 rfl ?_
    refine g_i2l C0 dL_law_1372 ?_
    refine g_lcmp C0 dL_law_1373 ?_
    rw [cmp_self]
    refine g_if_eq (tgt := 1379) C0 dL_law_1374 (by decide) (fun _ => ?_) (fun z => absurd rfl z)
    refine g_goto (tgt := 2347) C0 dL_law_1379 (by decide) ?_
    refine g_widen (cs2 := cs + 12) (ss2 := ss + 72) (by show cs + 1 + 0 + 0 ≤ cs + 12; omega) (by show ss + 6 + 0 + 0 ≤ ss + 72; omega) ?_
    exact hn _ _ _ _ _ hr
  · refine g_aload_n C0 dL_law_1326 rfl ?_
    refine g_scr (kk := 1) C0 SC (W3l hw0) dL_law_1327 dL_law_1328 dL_law_1330 dL_law_1331 dL_law_1332 rfl rfl (by decide +kernel) (by omega) (by omega) ?_
    refine g_aload_n C0 dL_law_1333 rfl ?_
    refine g_invSH (As := [.ref 0, .int (xs (i + 1)), .ref 109]) (st := []) C0 dL_law_1334 CL_194 rfl rfl rfl ⟨by decide, by decide, (by show cs + 1 ≤ 601024; omega), (by show ss + 6 ≤ 7293034; omega)⟩ (Nat.le_of_ble_eq_true rfl) (w_bondOf (fun K hK => p_bondOf hK) (Or.inr ⟨e9, ox, he, (by rw [← ck]; exact cp)⟩) (fun v9 g9 => ?_) (fun e8 g9 => ?_))
    · cases (ox.symm.trans g9)
    cases (ox.symm.trans g9)
    rw [← ck]
    refine Aft_v rfl ?_
    refine g_istore C0 dL_law_1337 (by decide) ?_
    refine g_aload_n C0 dL_law_1339 rfl ?_
    refine g_scr (kk := 1) C0 SC (W3l hw0) dL_law_1340 dL_law_1341 dL_law_1343 dL_law_1344 dL_law_1345 rfl rfl (by decide +kernel) (by omega) (by omega) ?_
    refine g_invV (As := [.int (xs (i + 1))]) (st := []) (ci := 10) C0 dL_law_1346 CL_196 rfl rfl rfl rfl ⟨by decide, by decide, (by show cs + 1 + 0 ≤ 601024; omega), (by show ss + 6 + 0 ≤ 7293034; omega)⟩ (Nat.le_of_ble_eq_true rfl) (frMK (av := [.ref 0, .int (xs (i + 1))]) (fun K hK => r_bondOf hK) ?_)
    rw [om, osh_i]
    refine Aft_v rfl ?_
    refine g_istore C0 dL_law_1349 (by decide) ?_
    refine g_aload_n C0 dL_law_1351 rfl ?_
    refine g_invV (As := []) (st := []) (ci := 10) C0 dL_law_1352 CL_131 rfl rfl rfl rfl ⟨by decide, by decide, (by show cs + 1 + 0 + 0 ≤ 601024; omega), (by show ss + 6 + 0 + 0 ≤ 7293034; omega)⟩ (Nat.le_of_ble_eq_true rfl) (frMK (av := [.ref 0]) (fun K hK => m_thrown hK) ?_)
    rw [osh_i]
    refine Aft_v rfl ?_
    refine g_iload C0 dL_law_1355 rfl ?_
    refine g_icmp_eq (tgt := 1362) C0 dL_law_1357 (by decide) (fun _ => ?_) (fun z => absurd rfl z)
    refine g_iload C0 dL_law_1362 rfl ?_
    refine g_if_ne (tgt := 1379) C0 dL_law_1364 (by decide) (fun _ => ?_) (fun z => absurd z (nI_ne0 cp (by omega)))
    refine g_goto (tgt := 2347) C0 dL_law_1379 (by decide) ?_
    refine g_widen (cs2 := cs + 12) (ss2 := ss + 72) (by show cs + 1 + 0 + 0 ≤ cs + 12; omega) (by show ss + 6 + 0 + 0 ≤ ss + 72; omega) ?_
    exact hn _ _ _ _ _ hr
set_option maxRecDepth 100000 in
set_option maxHeartbeats 4000000 in
theorem lc_isBarred {X : CX} {D : va_G} {dA : Nat → ClassId} {w0 : AW} {ad0 : Nat → Nat} {K : AO → AW → Prop} {q t : XS} {f : Nat → Int64} {L i cs ss : Nat} {xs : Nat → Int32} {o5 o6 : Option Value} (C0 : Ok X (D, dA, w0, ad0, K) ML_law) (SC : SCR X (D, dA, w0, ad0, K) 110 L xs) (hw0 : w0.length = 110) (rx : RX q t) (hL : L ≤ 2048) (hi : i + 3 < L) (hc : cs + 12 ≤ 601024) (hs : ss + 72 ≤ 7293034) (hn : ∀ (q2 t2 : XS) (f2 : Nat → Int64) (p5 p6 : Option Value), RX q2 t2 → Gd X (D, dA, w0, ad0, K) ML_law 2347 [some (.ref 110), some (.ref 0), some (.ref 84), some (.ref 109), some (.int (nI i)), p5, p6] [] (W3 q2 t2 f2) (cs + 12) (ss + 72)) : Gd X (D, dA, w0, ad0, K) ML_law 1382 [some (.ref 110), some (.ref 0), some (.ref 84), some (.ref 109), some (.int (nI i)), o5, o6] [] (W3 q t f) cs ss := by
  obtain ⟨hA, hr⟩ := s_isBarred rx (xs (i + 1))
  rcases hA with ⟨v, ox, om, c0⟩ | ⟨e9, b9, he, ox, om, ck, cp, c4⟩
  · refine g_aload_n C0 dL_law_1382 rfl ?_
    refine g_scr (kk := 1) C0 SC (W3l hw0) dL_law_1383 dL_law_1384 dL_law_1386 dL_law_1387 dL_law_1388 rfl rfl (by decide +kernel) (by omega) (by omega) ?_
    refine g_aload_n C0 dL_law_1389 rfl ?_
    refine g_invSH (As := [.ref 0, .int (xs (i + 1)), .ref 109]) (st := []) C0 dL_law_1390 CL_197 rfl rfl rfl ⟨by decide, by decide, (by show cs + 1 ≤ 601024; omega), (by show ss + 6 ≤ 7293034; omega)⟩ (Nat.le_of_ble_eq_true rfl) (w_isBarred (fun K hK => p_isBarred hK) (Or.inl ⟨v, ox⟩) (fun v9 g9 => ?_) (fun e8 g9 => ?_))
    rotate_left
    · cases (ox.symm.trans g9)
    cases (ox.symm.trans g9)
    refine Aft_v rfl ?_
    refine g_istore C0 dL_law_1393 (by decide) ?_
    refine g_aload_n C0 dL_law_1395 rfl ?_
    refine g_scr (kk := 1) C0 SC (W3l hw0) dL_law_1396 dL_law_1397 dL_law_1399 dL_law_1400 dL_law_1401 rfl rfl (by decide +kernel) (by omega) (by omega) ?_
    refine g_invV (As := [.int (xs (i + 1))]) (st := []) (ci := 10) C0 dL_law_1402 CL_199 rfl rfl rfl rfl ⟨by decide, by decide, (by show cs + 1 + 0 ≤ 601024; omega), (by show ss + 6 + 0 ≤ 7293034; omega)⟩ (Nat.le_of_ble_eq_true rfl) (frMK (av := [.ref 0, .int (xs (i + 1))]) (fun K hK => r_isBarred hK) ?_)
    rw [om, osh_i]
    refine Aft_v rfl ?_
    refine g_istore C0 dL_law_1405 (by decide) ?_
    refine g_aload_n C0 dL_law_1407 rfl ?_
    refine g_invV (As := []) (st := []) (ci := 10) C0 dL_law_1408 CL_131 rfl rfl rfl rfl ⟨by decide, by decide, (by show cs + 1 + 0 + 0 ≤ 601024; omega), (by show ss + 6 + 0 + 0 ≤ 7293034; omega)⟩ (Nat.le_of_ble_eq_true rfl) (frMK (av := [.ref 0]) (fun K hK => m_thrown hK) ?_)
    rw [osh_i, c0, nI_0]
    refine Aft_v rfl ?_
    refine g_iload C0 dL_law_1411 rfl ?_
    refine g_icmp_eq (tgt := 1418) C0 dL_law_1413 (by decide) (fun _ => ?_) (fun z => absurd rfl z)
    refine g_iload C0 dL_law_1418 rfl ?_
    refine g_if_ne (tgt := 1442) C0 dL_law_1420 (by decide) (fun z => absurd rfl z) (fun _ => ?_)
    refine g_aload_n C0 dL_law_1423 rfl ?_
    refine g_iconst (v := 0) C0 dL_law_1424 (by decide) ?_
    refine g_laload C0 dL_law_1425 (W3_out _ _ _) in01 ?_
    rw [show (0 : Int32).toNatClampNeg = 0 by decide +kernel, pk_uLs]
    refine g_iload C0 dL_law_1426 rfl ?_
    by_cases h0 : v = 0
    · rw [if_pos h0]
      refine g_if_eq (tgt := 1435) C0 dL_law_1428 (by decide) (fun _ => ?_) (fun z => absurd h0 z)
      refine g_lconst (v := 0) C0 dL_law_1435 rfl ?_
      refine g_lcmp C0 dL_law_1436 ?_
      rw [cmp_self]
      refine g_if_eq (tgt := 1442) C0 dL_law_1437 (by decide) (fun _ => ?_) (fun z => absurd rfl z)
      refine g_goto (tgt := 2347) C0 dL_law_1442 (by decide) ?_
      refine g_widen (cs2 := cs + 12) (ss2 := ss + 72) (by show cs + 1 + 0 + 0 ≤ cs + 12; omega) (by show ss + 6 + 0 + 0 ≤ ss + 72; omega) ?_
      exact hn _ _ _ _ _ hr
    rw [if_neg h0]
    refine g_if_eq (tgt := 1435) C0 dL_law_1428 (by decide) (fun z => absurd z h0) (fun _ => ?_)
    refine g_lconst (v := 1) C0 dL_law_1431 rfl ?_
    refine g_goto (tgt := 1436) C0 dL_law_1432 (by decide) ?_
    refine g_lcmp C0 dL_law_1436 ?_
    rw [cmp_self]
    refine g_if_eq (tgt := 1442) C0 dL_law_1437 (by decide) (fun _ => ?_) (fun z => absurd rfl z)
    refine g_goto (tgt := 2347) C0 dL_law_1442 (by decide) ?_
    refine g_widen (cs2 := cs + 12) (ss2 := ss + 72) (by show cs + 1 + 0 + 0 ≤ cs + 12; omega) (by show ss + 6 + 0 + 0 ≤ ss + 72; omega) ?_
    exact hn _ _ _ _ _ hr
  · refine g_aload_n C0 dL_law_1382 rfl ?_
    refine g_scr (kk := 1) C0 SC (W3l hw0) dL_law_1383 dL_law_1384 dL_law_1386 dL_law_1387 dL_law_1388 rfl rfl (by decide +kernel) (by omega) (by omega) ?_
    refine g_aload_n C0 dL_law_1389 rfl ?_
    refine g_invSH (As := [.ref 0, .int (xs (i + 1)), .ref 109]) (st := []) C0 dL_law_1390 CL_197 rfl rfl rfl ⟨by decide, by decide, (by show cs + 1 ≤ 601024; omega), (by show ss + 6 ≤ 7293034; omega)⟩ (Nat.le_of_ble_eq_true rfl) (w_isBarred (fun K hK => p_isBarred hK) (Or.inr ⟨e9, ox, he, (by rw [← ck]; exact cp)⟩) (fun v9 g9 => ?_) (fun e8 g9 => ?_))
    · cases (ox.symm.trans g9)
    cases (ox.symm.trans g9)
    rw [← ck]
    refine Aft_v rfl ?_
    refine g_istore C0 dL_law_1393 (by decide) ?_
    refine g_aload_n C0 dL_law_1395 rfl ?_
    refine g_scr (kk := 1) C0 SC (W3l hw0) dL_law_1396 dL_law_1397 dL_law_1399 dL_law_1400 dL_law_1401 rfl rfl (by decide +kernel) (by omega) (by omega) ?_
    refine g_invV (As := [.int (xs (i + 1))]) (st := []) (ci := 10) C0 dL_law_1402 CL_199 rfl rfl rfl rfl ⟨by decide, by decide, (by show cs + 1 + 0 ≤ 601024; omega), (by show ss + 6 + 0 ≤ 7293034; omega)⟩ (Nat.le_of_ble_eq_true rfl) (frMK (av := [.ref 0, .int (xs (i + 1))]) (fun K hK => r_isBarred hK) ?_)
    rw [om, osh_i]
    refine Aft_v rfl ?_
    refine g_istore C0 dL_law_1405 (by decide) ?_
    refine g_aload_n C0 dL_law_1407 rfl ?_
    refine g_invV (As := []) (st := []) (ci := 10) C0 dL_law_1408 CL_131 rfl rfl rfl rfl ⟨by decide, by decide, (by show cs + 1 + 0 + 0 ≤ 601024; omega), (by show ss + 6 + 0 + 0 ≤ 7293034; omega)⟩ (Nat.le_of_ble_eq_true rfl) (frMK (av := [.ref 0]) (fun K hK => m_thrown hK) ?_)
    rw [osh_i]
    refine Aft_v rfl ?_
    refine g_iload C0 dL_law_1411 rfl ?_
    refine g_icmp_eq (tgt := 1418) C0 dL_law_1413 (by decide) (fun _ => ?_) (fun z => absurd rfl z)
    refine g_iload C0 dL_law_1418 rfl ?_
    refine g_if_ne (tgt := 1442) C0 dL_law_1420 (by decide) (fun _ => ?_) (fun z => absurd z (nI_ne0 cp (by omega)))
    refine g_goto (tgt := 2347) C0 dL_law_1442 (by decide) ?_
    refine g_widen (cs2 := cs + 12) (ss2 := ss + 72) (by show cs + 1 + 0 + 0 ≤ cs + 12; omega) (by show ss + 6 + 0 + 0 ≤ ss + 72; omega) ?_
    exact hn _ _ _ _ _ hr
set_option maxRecDepth 100000 in
set_option maxHeartbeats 4000000 in
theorem lc_callOf {X : CX} {D : va_G} {dA : Nat → ClassId} {w0 : AW} {ad0 : Nat → Nat} {K : AO → AW → Prop} {q t : XS} {f : Nat → Int64} {L i cs ss : Nat} {xs : Nat → Int32} {o5 o6 : Option Value} (C0 : Ok X (D, dA, w0, ad0, K) ML_law) (SC : SCR X (D, dA, w0, ad0, K) 110 L xs) (hw0 : w0.length = 110) (rx : RX q t) (hL : L ≤ 2048) (hi : i + 3 < L) (hc : cs + 12 ≤ 601024) (hs : ss + 72 ≤ 7293034) (hn : ∀ (q2 t2 : XS) (f2 : Nat → Int64) (p5 p6 : Option Value), RX q2 t2 → Gd X (D, dA, w0, ad0, K) ML_law 2347 [some (.ref 110), some (.ref 0), some (.ref 84), some (.ref 109), some (.int (nI i)), p5, p6] [] (W3 q2 t2 f2) (cs + 12) (ss + 72)) : Gd X (D, dA, w0, ad0, K) ML_law 1445 [some (.ref 110), some (.ref 0), some (.ref 84), some (.ref 109), some (.int (nI i)), o5, o6] [] (W3 q t f) cs ss := by
  obtain ⟨hA, hr⟩ := s_callOf rx (xs (i + 1))
  rcases hA with ⟨v, ox, om, c0⟩ | ⟨e9, b9, he, ox, om, ck, cp, c4⟩
  · refine g_aload_n C0 dL_law_1445 rfl ?_
    refine g_scr (kk := 1) C0 SC (W3l hw0) dL_law_1446 dL_law_1447 dL_law_1449 dL_law_1450 dL_law_1451 rfl rfl (by decide +kernel) (by omega) (by omega) ?_
    refine g_aload_n C0 dL_law_1452 rfl ?_
    refine g_invSH (As := [.ref 0, .int (xs (i + 1)), .ref 109]) (st := []) C0 dL_law_1453 CL_200 rfl rfl rfl ⟨by decide, by decide, (by show cs + 1 ≤ 601024; omega), (by show ss + 6 ≤ 7293034; omega)⟩ (Nat.le_of_ble_eq_true rfl) (w_callOf (fun K hK => p_callOf hK) (Or.inl ⟨v, ox⟩) (fun v9 g9 => ?_) (fun e8 g9 => ?_))
    rotate_left
    · cases (ox.symm.trans g9)
    cases (ox.symm.trans g9)
    refine Aft_v rfl ?_
    refine g_istore C0 dL_law_1456 (by decide) ?_
    refine g_aload_n C0 dL_law_1458 rfl ?_
    refine g_scr (kk := 1) C0 SC (W3l hw0) dL_law_1459 dL_law_1460 dL_law_1462 dL_law_1463 dL_law_1464 rfl rfl (by decide +kernel) (by omega) (by omega) ?_
    refine g_invV (As := [.int (xs (i + 1))]) (st := []) (ci := 10) C0 dL_law_1465 CL_202 rfl rfl rfl rfl ⟨by decide, by decide, (by show cs + 1 + 0 ≤ 601024; omega), (by show ss + 6 + 0 ≤ 7293034; omega)⟩ (Nat.le_of_ble_eq_true rfl) (frMK (av := [.ref 0, .int (xs (i + 1))]) (fun K hK => r_callOf (by rw [← rx.cC]; exact rx.c60) hK) ?_)
    rw [om, osh_i]
    refine Aft_v rfl ?_
    refine g_istore C0 dL_law_1468 (by decide) ?_
    refine g_aload_n C0 dL_law_1470 rfl ?_
    refine g_invV (As := []) (st := []) (ci := 10) C0 dL_law_1471 CL_131 rfl rfl rfl rfl ⟨by decide, by decide, (by show cs + 1 + 0 + 0 ≤ 601024; omega), (by show ss + 6 + 0 + 0 ≤ 7293034; omega)⟩ (Nat.le_of_ble_eq_true rfl) (frMK (av := [.ref 0]) (fun K hK => m_thrown hK) ?_)
    rw [osh_i, c0, nI_0]
    refine Aft_v rfl ?_
    refine g_iload C0 dL_law_1474 rfl ?_
    refine g_icmp_eq (tgt := 1481) C0 dL_law_1476 (by decide) (fun _ => ?_) (fun z => absurd rfl z)
    refine g_iload C0 dL_law_1481 rfl ?_
    refine g_if_ne (tgt := 1498) C0 dL_law_1483 (by decide) (fun z => absurd rfl z) (fun _ => ?_)
    refine g_aload_n C0 dL_law_1486 rfl ?_
    refine g_iconst (v := 0) C0 dL_law_1487 (by decide) ?_
    refine g_laload C0 dL_law_1488 (W3_out _ _ _) in01 ?_
    rw [show (0 : Int32).toNatClampNeg = 0 by decide +kernel, pk_uLs]
    refine g_iload C0 dL_law_1489 rfl ?_
    refine g_i2l C0 dL_law_1491 ?_
    refine g_lcmp C0 dL_law_1492 ?_
    rw [cmp_self]
    refine g_if_eq (tgt := 1498) C0 dL_law_1493 (by decide) (fun _ => ?_) (fun z => absurd rfl z)
    refine g_goto (tgt := 2347) C0 dL_law_1498 (by decide) ?_
    refine g_widen (cs2 := cs + 12) (ss2 := ss + 72) (by show cs + 1 + 0 + 0 ≤ cs + 12; omega) (by show ss + 6 + 0 + 0 ≤ ss + 72; omega) ?_
    exact hn _ _ _ _ _ hr
  · refine g_aload_n C0 dL_law_1445 rfl ?_
    refine g_scr (kk := 1) C0 SC (W3l hw0) dL_law_1446 dL_law_1447 dL_law_1449 dL_law_1450 dL_law_1451 rfl rfl (by decide +kernel) (by omega) (by omega) ?_
    refine g_aload_n C0 dL_law_1452 rfl ?_
    refine g_invSH (As := [.ref 0, .int (xs (i + 1)), .ref 109]) (st := []) C0 dL_law_1453 CL_200 rfl rfl rfl ⟨by decide, by decide, (by show cs + 1 ≤ 601024; omega), (by show ss + 6 ≤ 7293034; omega)⟩ (Nat.le_of_ble_eq_true rfl) (w_callOf (fun K hK => p_callOf hK) (Or.inr ⟨e9, ox, he, (by rw [← ck]; exact cp)⟩) (fun v9 g9 => ?_) (fun e8 g9 => ?_))
    · cases (ox.symm.trans g9)
    cases (ox.symm.trans g9)
    rw [← ck]
    refine Aft_v rfl ?_
    refine g_istore C0 dL_law_1456 (by decide) ?_
    refine g_aload_n C0 dL_law_1458 rfl ?_
    refine g_scr (kk := 1) C0 SC (W3l hw0) dL_law_1459 dL_law_1460 dL_law_1462 dL_law_1463 dL_law_1464 rfl rfl (by decide +kernel) (by omega) (by omega) ?_
    refine g_invV (As := [.int (xs (i + 1))]) (st := []) (ci := 10) C0 dL_law_1465 CL_202 rfl rfl rfl rfl ⟨by decide, by decide, (by show cs + 1 + 0 ≤ 601024; omega), (by show ss + 6 + 0 ≤ 7293034; omega)⟩ (Nat.le_of_ble_eq_true rfl) (frMK (av := [.ref 0, .int (xs (i + 1))]) (fun K hK => r_callOf (by rw [← rx.cC]; exact rx.c60) hK) ?_)
    rw [om, osh_i]
    refine Aft_v rfl ?_
    refine g_istore C0 dL_law_1468 (by decide) ?_
    refine g_aload_n C0 dL_law_1470 rfl ?_
    refine g_invV (As := []) (st := []) (ci := 10) C0 dL_law_1471 CL_131 rfl rfl rfl rfl ⟨by decide, by decide, (by show cs + 1 + 0 + 0 ≤ 601024; omega), (by show ss + 6 + 0 + 0 ≤ 7293034; omega)⟩ (Nat.le_of_ble_eq_true rfl) (frMK (av := [.ref 0]) (fun K hK => m_thrown hK) ?_)
    rw [osh_i]
    refine Aft_v rfl ?_
    refine g_iload C0 dL_law_1474 rfl ?_
    refine g_icmp_eq (tgt := 1481) C0 dL_law_1476 (by decide) (fun _ => ?_) (fun z => absurd rfl z)
    refine g_iload C0 dL_law_1481 rfl ?_
    refine g_if_ne (tgt := 1498) C0 dL_law_1483 (by decide) (fun _ => ?_) (fun z => absurd z (nI_ne0 cp (by omega)))
    refine g_goto (tgt := 2347) C0 dL_law_1498 (by decide) ?_
    refine g_widen (cs2 := cs + 12) (ss2 := ss + 72) (by show cs + 1 + 0 + 0 ≤ cs + 12; omega) (by show ss + 6 + 0 + 0 ≤ ss + 72; omega) ?_
    exact hn _ _ _ _ _ hr
set_option maxRecDepth 100000 in
set_option maxHeartbeats 4000000 in
theorem lc_free {X : CX} {D : va_G} {dA : Nat → ClassId} {w0 : AW} {ad0 : Nat → Nat} {K : AO → AW → Prop} {q t : XS} {f : Nat → Int64} {L i cs ss : Nat} {xs : Nat → Int32} {o5 o6 : Option Value} (C0 : Ok X (D, dA, w0, ad0, K) ML_law) (SC : SCR X (D, dA, w0, ad0, K) 110 L xs) (hw0 : w0.length = 110) (rx : RX q t) (hL : L ≤ 2048) (hi : i + 3 < L) (hc : cs + 12 ≤ 601024) (hs : ss + 72 ≤ 7293034) (hn : ∀ (q2 t2 : XS) (f2 : Nat → Int64) (p5 p6 : Option Value), RX q2 t2 → Gd X (D, dA, w0, ad0, K) ML_law 2347 [some (.ref 110), some (.ref 0), some (.ref 84), some (.ref 109), some (.int (nI i)), p5, p6] [] (W3 q2 t2 f2) (cs + 12) (ss + 72)) : Gd X (D, dA, w0, ad0, K) ML_law 1501 [some (.ref 110), some (.ref 0), some (.ref 84), some (.ref 109), some (.int (nI i)), o5, o6] [] (W3 q t f) cs ss := by
  obtain ⟨hA, hr⟩ := s_free rx (xs (i + 1)) (xs (i + 2))
  rcases hA with ⟨v, ox, om, c0⟩ | ⟨e9, b9, he, ox, om, ck, cp, c4⟩
  · refine g_aload_n C0 dL_law_1501 rfl ?_
    refine g_scr (kk := 1) C0 SC (W3l hw0) dL_law_1502 dL_law_1503 dL_law_1505 dL_law_1506 dL_law_1507 rfl rfl (by decide +kernel) (by omega) (by omega) ?_
    refine g_scr (kk := 2) C0 SC (W3l hw0) dL_law_1508 dL_law_1509 dL_law_1511 dL_law_1512 dL_law_1513 rfl rfl (by decide +kernel) (by omega) (by omega) ?_
    refine g_aload_n C0 dL_law_1514 rfl ?_
    refine g_invSH (As := [.ref 0, .int (xs (i + 1)), .int (xs (i + 2)), .ref 109]) (st := []) C0 dL_law_1515 CL_203 rfl rfl rfl ⟨by decide, by decide, (by show cs + 2 ≤ 601024; omega), (by show ss + 12 ≤ 7293034; omega)⟩ (Nat.le_of_ble_eq_true rfl) (w_free (fun K hK => p_free hK) (Or.inl ⟨v, ox⟩) (fun v9 g9 => ?_) (fun e8 g9 => ?_))
    rotate_left
    · cases (ox.symm.trans g9)
    cases (ox.symm.trans g9)
    refine Aft_v rfl ?_
    refine g_istore C0 dL_law_1518 (by decide) ?_
    refine g_aload_n C0 dL_law_1520 rfl ?_
    refine g_scr (kk := 1) C0 SC (W3l hw0) dL_law_1521 dL_law_1522 dL_law_1524 dL_law_1525 dL_law_1526 rfl rfl (by decide +kernel) (by omega) (by omega) ?_
    refine g_scr (kk := 2) C0 SC (W3l hw0) dL_law_1527 dL_law_1528 dL_law_1530 dL_law_1531 dL_law_1532 rfl rfl (by decide +kernel) (by omega) (by omega) ?_
    refine g_invV (As := [.int (xs (i + 1)), .int (xs (i + 2))]) (st := []) (ci := 10) C0 dL_law_1533 CL_205 rfl rfl rfl rfl ⟨by decide, by decide, (by show cs + 2 + 0 ≤ 601024; omega), (by show ss + 12 + 0 ≤ 7293034; omega)⟩ (Nat.le_of_ble_eq_true rfl) (frMK (av := [.ref 0, .int (xs (i + 1)), .int (xs (i + 2))]) (fun K hK => r_free (by rw [← rx.cC]; exact rx.c60) (fun k _ => rx.g19 k) hK) ?_)
    rw [om, osh_i]
    refine Aft_v rfl ?_
    refine g_istore C0 dL_law_1536 (by decide) ?_
    refine g_aload_n C0 dL_law_1538 rfl ?_
    refine g_invV (As := []) (st := []) (ci := 10) C0 dL_law_1539 CL_131 rfl rfl rfl rfl ⟨by decide, by decide, (by show cs + 2 + 0 + 0 ≤ 601024; omega), (by show ss + 12 + 0 + 0 ≤ 7293034; omega)⟩ (Nat.le_of_ble_eq_true rfl) (frMK (av := [.ref 0]) (fun K hK => m_thrown hK) ?_)
    rw [osh_i, c0, nI_0]
    refine Aft_v rfl ?_
    refine g_iload C0 dL_law_1542 rfl ?_
    refine g_icmp_eq (tgt := 1549) C0 dL_law_1544 (by decide) (fun _ => ?_) (fun z => absurd rfl z)
    refine g_iload C0 dL_law_1549 rfl ?_
    refine g_if_ne (tgt := 1566) C0 dL_law_1551 (by decide) (fun z => absurd rfl z) (fun _ => ?_)
    refine g_aload_n C0 dL_law_1554 rfl ?_
    refine g_iconst (v := 0) C0 dL_law_1555 (by decide) ?_
    refine g_laload C0 dL_law_1556 (W3_out _ _ _) in01 ?_
    rw [show (0 : Int32).toNatClampNeg = 0 by decide +kernel, pk_uLs]
    refine g_iload C0 dL_law_1557 rfl ?_
    refine g_i2l C0 dL_law_1559 ?_
    refine g_lcmp C0 dL_law_1560 ?_
    rw [cmp_self]
    refine g_if_eq (tgt := 1566) C0 dL_law_1561 (by decide) (fun _ => ?_) (fun z => absurd rfl z)
    refine g_goto (tgt := 2347) C0 dL_law_1566 (by decide) ?_
    refine g_widen (cs2 := cs + 12) (ss2 := ss + 72) (by show cs + 2 + 0 + 0 ≤ cs + 12; omega) (by show ss + 12 + 0 + 0 ≤ ss + 72; omega) ?_
    exact hn _ _ _ _ _ hr
  · refine g_aload_n C0 dL_law_1501 rfl ?_
    refine g_scr (kk := 1) C0 SC (W3l hw0) dL_law_1502 dL_law_1503 dL_law_1505 dL_law_1506 dL_law_1507 rfl rfl (by decide +kernel) (by omega) (by omega) ?_
    refine g_scr (kk := 2) C0 SC (W3l hw0) dL_law_1508 dL_law_1509 dL_law_1511 dL_law_1512 dL_law_1513 rfl rfl (by decide +kernel) (by omega) (by omega) ?_
    refine g_aload_n C0 dL_law_1514 rfl ?_
    refine g_invSH (As := [.ref 0, .int (xs (i + 1)), .int (xs (i + 2)), .ref 109]) (st := []) C0 dL_law_1515 CL_203 rfl rfl rfl ⟨by decide, by decide, (by show cs + 2 ≤ 601024; omega), (by show ss + 12 ≤ 7293034; omega)⟩ (Nat.le_of_ble_eq_true rfl) (w_free (fun K hK => p_free hK) (Or.inr ⟨e9, ox, he, (by rw [← ck]; exact cp)⟩) (fun v9 g9 => ?_) (fun e8 g9 => ?_))
    · cases (ox.symm.trans g9)
    cases (ox.symm.trans g9)
    rw [← ck]
    refine Aft_v rfl ?_
    refine g_istore C0 dL_law_1518 (by decide) ?_
    refine g_aload_n C0 dL_law_1520 rfl ?_
    refine g_scr (kk := 1) C0 SC (W3l hw0) dL_law_1521 dL_law_1522 dL_law_1524 dL_law_1525 dL_law_1526 rfl rfl (by decide +kernel) (by omega) (by omega) ?_
    refine g_scr (kk := 2) C0 SC (W3l hw0) dL_law_1527 dL_law_1528 dL_law_1530 dL_law_1531 dL_law_1532 rfl rfl (by decide +kernel) (by omega) (by omega) ?_
    refine g_invV (As := [.int (xs (i + 1)), .int (xs (i + 2))]) (st := []) (ci := 10) C0 dL_law_1533 CL_205 rfl rfl rfl rfl ⟨by decide, by decide, (by show cs + 2 + 0 ≤ 601024; omega), (by show ss + 12 + 0 ≤ 7293034; omega)⟩ (Nat.le_of_ble_eq_true rfl) (frMK (av := [.ref 0, .int (xs (i + 1)), .int (xs (i + 2))]) (fun K hK => r_free (by rw [← rx.cC]; exact rx.c60) (fun k _ => rx.g19 k) hK) ?_)
    rw [om, osh_i]
    refine Aft_v rfl ?_
    refine g_istore C0 dL_law_1536 (by decide) ?_
    refine g_aload_n C0 dL_law_1538 rfl ?_
    refine g_invV (As := []) (st := []) (ci := 10) C0 dL_law_1539 CL_131 rfl rfl rfl rfl ⟨by decide, by decide, (by show cs + 2 + 0 + 0 ≤ 601024; omega), (by show ss + 12 + 0 + 0 ≤ 7293034; omega)⟩ (Nat.le_of_ble_eq_true rfl) (frMK (av := [.ref 0]) (fun K hK => m_thrown hK) ?_)
    rw [osh_i]
    refine Aft_v rfl ?_
    refine g_iload C0 dL_law_1542 rfl ?_
    refine g_icmp_eq (tgt := 1549) C0 dL_law_1544 (by decide) (fun _ => ?_) (fun z => absurd rfl z)
    refine g_iload C0 dL_law_1549 rfl ?_
    refine g_if_ne (tgt := 1566) C0 dL_law_1551 (by decide) (fun _ => ?_) (fun z => absurd z (nI_ne0 cp (by omega)))
    refine g_goto (tgt := 2347) C0 dL_law_1566 (by decide) ?_
    refine g_widen (cs2 := cs + 12) (ss2 := ss + 72) (by show cs + 2 + 0 + 0 ≤ cs + 12; omega) (by show ss + 12 + 0 + 0 ≤ ss + 72; omega) ?_
    exact hn _ _ _ _ _ hr
set_option maxRecDepth 100000 in
set_option maxHeartbeats 4000000 in
theorem lc_route {X : CX} {D : va_G} {dA : Nat → ClassId} {w0 : AW} {ad0 : Nat → Nat} {K : AO → AW → Prop} {q t : XS} {f : Nat → Int64} {L i cs ss : Nat} {xs : Nat → Int32} {o5 o6 : Option Value} (C0 : Ok X (D, dA, w0, ad0, K) ML_law) (SC : SCR X (D, dA, w0, ad0, K) 110 L xs) (hw0 : w0.length = 110) (rx : RX q t) (hL : L ≤ 2048) (hi : i + 3 < L) (hc : cs + 12 ≤ 601024) (hs : ss + 72 ≤ 7293034) (hn : ∀ (q2 t2 : XS) (f2 : Nat → Int64) (p5 p6 : Option Value), RX q2 t2 → Gd X (D, dA, w0, ad0, K) ML_law 2347 [some (.ref 110), some (.ref 0), some (.ref 84), some (.ref 109), some (.int (nI i)), p5, p6] [] (W3 q2 t2 f2) (cs + 12) (ss + 72)) : Gd X (D, dA, w0, ad0, K) ML_law 1569 [some (.ref 110), some (.ref 0), some (.ref 84), some (.ref 109), some (.int (nI i)), o5, o6] [] (W3 q t f) cs ss := by
  obtain ⟨hA, hr⟩ := s_route rx (xs (i + 1)) (xs (i + 2))
  rcases hA with ⟨v, ox, om, c0⟩ | ⟨e9, b9, he, ox, om, ck, cp, c4⟩
  · refine g_aload_n C0 dL_law_1569 rfl ?_
    refine g_scr (kk := 1) C0 SC (W3l hw0) dL_law_1570 dL_law_1571 dL_law_1573 dL_law_1574 dL_law_1575 rfl rfl (by decide +kernel) (by omega) (by omega) ?_
    refine g_scr (kk := 2) C0 SC (W3l hw0) dL_law_1576 dL_law_1577 dL_law_1579 dL_law_1580 dL_law_1581 rfl rfl (by decide +kernel) (by omega) (by omega) ?_
    refine g_aload_n C0 dL_law_1582 rfl ?_
    refine g_invSH (As := [.ref 0, .int (xs (i + 1)), .int (xs (i + 2)), .ref 109]) (st := []) C0 dL_law_1583 CL_206 rfl rfl rfl ⟨by decide, by decide, (by show cs + 3 ≤ 601024; omega), (by show ss + 18 ≤ 7293034; omega)⟩ (Nat.le_of_ble_eq_true rfl) (w_route (fun K hK => p_route (by have := rx.p60; omega) hK) (Or.inl ⟨v, ox⟩) (fun v9 g9 => ?_) (fun e8 g9 => ?_))
    rotate_left
    · cases (ox.symm.trans g9)
    cases (ox.symm.trans g9)
    refine Aft_v rfl ?_
    refine g_istore C0 dL_law_1586 (by decide) ?_
    refine g_aload_n C0 dL_law_1588 rfl ?_
    refine g_scr (kk := 1) C0 SC (W3l hw0) dL_law_1589 dL_law_1590 dL_law_1592 dL_law_1593 dL_law_1594 rfl rfl (by decide +kernel) (by omega) (by omega) ?_
    refine g_scr (kk := 2) C0 SC (W3l hw0) dL_law_1595 dL_law_1596 dL_law_1598 dL_law_1599 dL_law_1600 rfl rfl (by decide +kernel) (by omega) (by omega) ?_
    refine g_invV (As := [.int (xs (i + 1)), .int (xs (i + 2))]) (st := []) (ci := 10) C0 dL_law_1601 CL_208 rfl rfl rfl rfl ⟨by decide, by decide, (by show cs + 3 + 0 ≤ 601024; omega), (by show ss + 18 + 0 ≤ 7293034; omega)⟩ (Nat.le_of_ble_eq_true rfl) (frMK (av := [.ref 0, .int (xs (i + 1)), .int (xs (i + 2))]) (fun K hK => r_route (by rw [← rx.cP]; exact rx.p60) (by rw [← rx.cC]; exact rx.c60) (fun k _ => rx.g19 k) rx.g13 hK) ?_)
    rw [om, osh_i]
    refine Aft_v rfl ?_
    refine g_istore C0 dL_law_1604 (by decide) ?_
    refine g_aload_n C0 dL_law_1606 rfl ?_
    refine g_invV (As := []) (st := []) (ci := 10) C0 dL_law_1607 CL_131 rfl rfl rfl rfl ⟨by decide, by decide, (by show cs + 3 + 0 + 0 ≤ 601024; omega), (by show ss + 18 + 0 + 0 ≤ 7293034; omega)⟩ (Nat.le_of_ble_eq_true rfl) (frMK (av := [.ref 0]) (fun K hK => m_thrown hK) ?_)
    rw [osh_i, c0, nI_0]
    refine Aft_v rfl ?_
    refine g_iload C0 dL_law_1610 rfl ?_
    refine g_icmp_eq (tgt := 1617) C0 dL_law_1612 (by decide) (fun _ => ?_) (fun z => absurd rfl z)
    refine g_iload C0 dL_law_1617 rfl ?_
    refine g_if_ne (tgt := 1634) C0 dL_law_1619 (by decide) (fun z => absurd rfl z) (fun _ => ?_)
    refine g_aload_n C0 dL_law_1622 rfl ?_
    refine g_iconst (v := 0) C0 dL_law_1623 (by decide) ?_
    refine g_laload C0 dL_law_1624 (W3_out _ _ _) in01 ?_
    rw [show (0 : Int32).toNatClampNeg = 0 by decide +kernel, pk_uLs]
    refine g_iload C0 dL_law_1625 rfl ?_
    refine g_i2l C0 dL_law_1627 ?_
    refine g_lcmp C0 dL_law_1628 ?_
    rw [cmp_self]
    refine g_if_eq (tgt := 1634) C0 dL_law_1629 (by decide) (fun _ => ?_) (fun z => absurd rfl z)
    refine g_goto (tgt := 2347) C0 dL_law_1634 (by decide) ?_
    refine g_widen (cs2 := cs + 12) (ss2 := ss + 72) (by show cs + 3 + 0 + 0 ≤ cs + 12; omega) (by show ss + 18 + 0 + 0 ≤ ss + 72; omega) ?_
    exact hn _ _ _ _ _ hr
  · refine g_aload_n C0 dL_law_1569 rfl ?_
    refine g_scr (kk := 1) C0 SC (W3l hw0) dL_law_1570 dL_law_1571 dL_law_1573 dL_law_1574 dL_law_1575 rfl rfl (by decide +kernel) (by omega) (by omega) ?_
    refine g_scr (kk := 2) C0 SC (W3l hw0) dL_law_1576 dL_law_1577 dL_law_1579 dL_law_1580 dL_law_1581 rfl rfl (by decide +kernel) (by omega) (by omega) ?_
    refine g_aload_n C0 dL_law_1582 rfl ?_
    refine g_invSH (As := [.ref 0, .int (xs (i + 1)), .int (xs (i + 2)), .ref 109]) (st := []) C0 dL_law_1583 CL_206 rfl rfl rfl ⟨by decide, by decide, (by show cs + 3 ≤ 601024; omega), (by show ss + 18 ≤ 7293034; omega)⟩ (Nat.le_of_ble_eq_true rfl) (w_route (fun K hK => p_route (by have := rx.p60; omega) hK) (Or.inr ⟨e9, ox, he, (by rw [← ck]; exact cp)⟩) (fun v9 g9 => ?_) (fun e8 g9 => ?_))
    · cases (ox.symm.trans g9)
    cases (ox.symm.trans g9)
    rw [← ck]
    refine Aft_v rfl ?_
    refine g_istore C0 dL_law_1586 (by decide) ?_
    refine g_aload_n C0 dL_law_1588 rfl ?_
    refine g_scr (kk := 1) C0 SC (W3l hw0) dL_law_1589 dL_law_1590 dL_law_1592 dL_law_1593 dL_law_1594 rfl rfl (by decide +kernel) (by omega) (by omega) ?_
    refine g_scr (kk := 2) C0 SC (W3l hw0) dL_law_1595 dL_law_1596 dL_law_1598 dL_law_1599 dL_law_1600 rfl rfl (by decide +kernel) (by omega) (by omega) ?_
    refine g_invV (As := [.int (xs (i + 1)), .int (xs (i + 2))]) (st := []) (ci := 10) C0 dL_law_1601 CL_208 rfl rfl rfl rfl ⟨by decide, by decide, (by show cs + 3 + 0 ≤ 601024; omega), (by show ss + 18 + 0 ≤ 7293034; omega)⟩ (Nat.le_of_ble_eq_true rfl) (frMK (av := [.ref 0, .int (xs (i + 1)), .int (xs (i + 2))]) (fun K hK => r_route (by rw [← rx.cP]; exact rx.p60) (by rw [← rx.cC]; exact rx.c60) (fun k _ => rx.g19 k) rx.g13 hK) ?_)
    rw [om, osh_i]
    refine Aft_v rfl ?_
    refine g_istore C0 dL_law_1604 (by decide) ?_
    refine g_aload_n C0 dL_law_1606 rfl ?_
    refine g_invV (As := []) (st := []) (ci := 10) C0 dL_law_1607 CL_131 rfl rfl rfl rfl ⟨by decide, by decide, (by show cs + 3 + 0 + 0 ≤ 601024; omega), (by show ss + 18 + 0 + 0 ≤ 7293034; omega)⟩ (Nat.le_of_ble_eq_true rfl) (frMK (av := [.ref 0]) (fun K hK => m_thrown hK) ?_)
    rw [osh_i]
    refine Aft_v rfl ?_
    refine g_iload C0 dL_law_1610 rfl ?_
    refine g_icmp_eq (tgt := 1617) C0 dL_law_1612 (by decide) (fun _ => ?_) (fun z => absurd rfl z)
    refine g_iload C0 dL_law_1617 rfl ?_
    refine g_if_ne (tgt := 1634) C0 dL_law_1619 (by decide) (fun _ => ?_) (fun z => absurd z (nI_ne0 cp (by omega)))
    refine g_goto (tgt := 2347) C0 dL_law_1634 (by decide) ?_
    refine g_widen (cs2 := cs + 12) (ss2 := ss + 72) (by show cs + 3 + 0 + 0 ≤ cs + 12; omega) (by show ss + 18 + 0 + 0 ≤ ss + 72; omega) ?_
    exact hn _ _ _ _ _ hr
set_option maxRecDepth 100000 in
set_option maxHeartbeats 4000000 in
theorem lc_calls {X : CX} {D : va_G} {dA : Nat → ClassId} {w0 : AW} {ad0 : Nat → Nat} {K : AO → AW → Prop} {q t : XS} {f : Nat → Int64} {L i cs ss : Nat} {xs : Nat → Int32} {o5 o6 : Option Value} (C0 : Ok X (D, dA, w0, ad0, K) ML_law) (SC : SCR X (D, dA, w0, ad0, K) 110 L xs) (hw0 : w0.length = 110) (rx : RX q t) (hL : L ≤ 2048) (hi : i + 3 < L) (hc : cs + 12 ≤ 601024) (hs : ss + 72 ≤ 7293034) (hn : ∀ (q2 t2 : XS) (f2 : Nat → Int64) (p5 p6 : Option Value), RX q2 t2 → Gd X (D, dA, w0, ad0, K) ML_law 2347 [some (.ref 110), some (.ref 0), some (.ref 84), some (.ref 109), some (.int (nI i)), p5, p6] [] (W3 q2 t2 f2) (cs + 12) (ss + 72)) : Gd X (D, dA, w0, ad0, K) ML_law 1637 [some (.ref 110), some (.ref 0), some (.ref 84), some (.ref 109), some (.int (nI i)), o5, o6] [] (W3 q t f) cs ss := by
  obtain ⟨hA, hr⟩ := s_calls rx
  rcases hA with ⟨v, ox, om, c0⟩ | ⟨e9, b9, he, ox, om, ck, cp, c4⟩
  · refine g_aload_n C0 dL_law_1637 rfl ?_
    refine g_invV (As := []) (st := []) (ci := 9) C0 dL_law_1638 CL_209 rfl rfl rfl rfl ⟨by decide, by decide, (by show cs + 0 ≤ 601024; omega), (by show ss + 0 ≤ 7293034; omega)⟩ (Nat.le_of_ble_eq_true rfl) (frXK (fun K hK => p_calls hK) ?_)
    rw [ox]
    refine Aft_v rfl ?_
    refine g_aload_n C0 dL_law_1641 rfl ?_
    refine g_invV (As := []) (st := [.int v]) (ci := 10) C0 dL_law_1642 CL_212 rfl rfl rfl rfl ⟨by decide, by decide, (by show cs + 0 + 0 ≤ 601024; omega), (by show ss + 0 + 0 ≤ 7293034; omega)⟩ (Nat.le_of_ble_eq_true rfl) (frMK (av := [.ref 0]) (fun K hK => r_calls hK) ?_)
    rw [om, osh_i]
    refine Aft_v rfl ?_
    refine g_icmp_eq (tgt := 2347) C0 dL_law_1645 (by decide) (fun _ => ?_) (fun z => absurd rfl z)
    refine g_widen (cs2 := cs + 12) (ss2 := ss + 72) (by show cs + 0 + 0 ≤ cs + 12; omega) (by show ss + 0 + 0 ≤ ss + 72; omega) ?_
    exact hn _ _ _ _ _ hr
  · exact absurd (ck.symm ▸ cp) (by unfold ka; split <;> decide)
set_option maxRecDepth 100000 in
set_option maxHeartbeats 4000000 in
theorem lc_lost {X : CX} {D : va_G} {dA : Nat → ClassId} {w0 : AW} {ad0 : Nat → Nat} {K : AO → AW → Prop} {q t : XS} {f : Nat → Int64} {L i cs ss : Nat} {xs : Nat → Int32} {o5 o6 : Option Value} (C0 : Ok X (D, dA, w0, ad0, K) ML_law) (SC : SCR X (D, dA, w0, ad0, K) 110 L xs) (hw0 : w0.length = 110) (rx : RX q t) (hL : L ≤ 2048) (hi : i + 3 < L) (hc : cs + 12 ≤ 601024) (hs : ss + 72 ≤ 7293034) (hn : ∀ (q2 t2 : XS) (f2 : Nat → Int64) (p5 p6 : Option Value), RX q2 t2 → Gd X (D, dA, w0, ad0, K) ML_law 2347 [some (.ref 110), some (.ref 0), some (.ref 84), some (.ref 109), some (.int (nI i)), p5, p6] [] (W3 q2 t2 f2) (cs + 12) (ss + 72)) : Gd X (D, dA, w0, ad0, K) ML_law 1650 [some (.ref 110), some (.ref 0), some (.ref 84), some (.ref 109), some (.int (nI i)), o5, o6] [] (W3 q t f) cs ss := by
  obtain ⟨hA, hr⟩ := s_lost rx
  rcases hA with ⟨v, ox, om, c0⟩ | ⟨e9, b9, he, ox, om, ck, cp, c4⟩
  · refine g_aload_n C0 dL_law_1650 rfl ?_
    refine g_invV (As := []) (st := []) (ci := 9) C0 dL_law_1651 CL_213 rfl rfl rfl rfl ⟨by decide, by decide, (by show cs + 0 ≤ 601024; omega), (by show ss + 0 ≤ 7293034; omega)⟩ (Nat.le_of_ble_eq_true rfl) (frXK (fun K hK => p_lost hK) ?_)
    rw [ox]
    refine Aft_v rfl ?_
    refine g_aload_n C0 dL_law_1654 rfl ?_
    refine g_invV (As := []) (st := [.int v]) (ci := 10) C0 dL_law_1655 CL_216 rfl rfl rfl rfl ⟨by decide, by decide, (by show cs + 0 + 0 ≤ 601024; omega), (by show ss + 0 + 0 ≤ 7293034; omega)⟩ (Nat.le_of_ble_eq_true rfl) (frMK (av := [.ref 0]) (fun K hK => r_lost hK) ?_)
    rw [om, osh_i]
    refine Aft_v rfl ?_
    refine g_icmp_eq (tgt := 2347) C0 dL_law_1658 (by decide) (fun _ => ?_) (fun z => absurd rfl z)
    refine g_widen (cs2 := cs + 12) (ss2 := ss + 72) (by show cs + 0 + 0 ≤ cs + 12; omega) (by show ss + 0 + 0 ≤ ss + 72; omega) ?_
    exact hn _ _ _ _ _ hr
  · exact absurd (ck.symm ▸ cp) (by unfold ka; split <;> decide)
set_option maxRecDepth 100000 in
set_option maxHeartbeats 4000000 in
theorem lc_state {X : CX} {D : va_G} {dA : Nat → ClassId} {w0 : AW} {ad0 : Nat → Nat} {K : AO → AW → Prop} {q t : XS} {f : Nat → Int64} {L i cs ss : Nat} {xs : Nat → Int32} {o5 o6 : Option Value} (C0 : Ok X (D, dA, w0, ad0, K) ML_law) (SC : SCR X (D, dA, w0, ad0, K) 110 L xs) (hw0 : w0.length = 110) (rx : RX q t) (hL : L ≤ 2048) (hi : i + 3 < L) (hc : cs + 12 ≤ 601024) (hs : ss + 72 ≤ 7293034) (hn : ∀ (q2 t2 : XS) (f2 : Nat → Int64) (p5 p6 : Option Value), RX q2 t2 → Gd X (D, dA, w0, ad0, K) ML_law 2347 [some (.ref 110), some (.ref 0), some (.ref 84), some (.ref 109), some (.int (nI i)), p5, p6] [] (W3 q2 t2 f2) (cs + 12) (ss + 72)) : Gd X (D, dA, w0, ad0, K) ML_law 1663 [some (.ref 110), some (.ref 0), some (.ref 84), some (.ref 109), some (.int (nI i)), o5, o6] [] (W3 q t f) cs ss := by
  obtain ⟨hA, hr⟩ := s_state rx (xs (i + 1))
  rcases hA with ⟨v, ox, om, c0⟩ | ⟨e9, b9, he, ox, om, ck, cp, c4⟩
  · refine g_aload_n C0 dL_law_1663 rfl ?_
    refine g_scr (kk := 1) C0 SC (W3l hw0) dL_law_1664 dL_law_1665 dL_law_1667 dL_law_1668 dL_law_1669 rfl rfl (by decide +kernel) (by omega) (by omega) ?_
    refine g_aload_n C0 dL_law_1670 rfl ?_
    refine g_invSH (As := [.ref 0, .int (xs (i + 1)), .ref 109]) (st := []) C0 dL_law_1671 CL_217 rfl rfl rfl ⟨by decide, by decide, (by show cs + 1 ≤ 601024; omega), (by show ss + 6 ≤ 7293034; omega)⟩ (Nat.le_of_ble_eq_true rfl) (w_state (fun K hK => p_state hK) (Or.inl ⟨v, ox⟩) (fun v9 g9 => ?_) (fun e8 g9 => ?_))
    rotate_left
    · cases (ox.symm.trans g9)
    cases (ox.symm.trans g9)
    refine Aft_v rfl ?_
    refine g_istore C0 dL_law_1674 (by decide) ?_
    refine g_aload_n C0 dL_law_1676 rfl ?_
    refine g_scr (kk := 1) C0 SC (W3l hw0) dL_law_1677 dL_law_1678 dL_law_1680 dL_law_1681 dL_law_1682 rfl rfl (by decide +kernel) (by omega) (by omega) ?_
    refine g_invV (As := [.int (xs (i + 1))]) (st := []) (ci := 10) C0 dL_law_1683 CL_219 rfl rfl rfl rfl ⟨by decide, by decide, (by show cs + 1 + 0 ≤ 601024; omega), (by show ss + 6 + 0 ≤ 7293034; omega)⟩ (Nat.le_of_ble_eq_true rfl) (frMK (av := [.ref 0, .int (xs (i + 1))]) (fun K hK => r_state (by rw [← rx.cC]; exact rx.c60) hK) ?_)
    rw [om, osh_i]
    refine Aft_v rfl ?_
    refine g_istore C0 dL_law_1686 (by decide) ?_
    refine g_aload_n C0 dL_law_1688 rfl ?_
    refine g_invV (As := []) (st := []) (ci := 10) C0 dL_law_1689 CL_131 rfl rfl rfl rfl ⟨by decide, by decide, (by show cs + 1 + 0 + 0 ≤ 601024; omega), (by show ss + 6 + 0 + 0 ≤ 7293034; omega)⟩ (Nat.le_of_ble_eq_true rfl) (frMK (av := [.ref 0]) (fun K hK => m_thrown hK) ?_)
    rw [osh_i, c0, nI_0]
    refine Aft_v rfl ?_
    refine g_iload C0 dL_law_1692 rfl ?_
    refine g_icmp_eq (tgt := 1699) C0 dL_law_1694 (by decide) (fun _ => ?_) (fun z => absurd rfl z)
    refine g_iload C0 dL_law_1699 rfl ?_
    refine g_if_ne (tgt := 1716) C0 dL_law_1701 (by decide) (fun z => absurd rfl z) (fun _ => ?_)
    refine g_aload_n C0 dL_law_1704 rfl ?_
    refine g_iconst (v := 0) C0 dL_law_1705 (by decide) ?_
    refine g_laload C0 dL_law_1706 (W3_out _ _ _) in01 ?_
    rw [show (0 : Int32).toNatClampNeg = 0 by decide +kernel, pk_uLs]
    refine g_iload C0 dL_law_1707 rfl ?_
    refine g_i2l C0 dL_law_1709 ?_
    refine g_lcmp C0 dL_law_1710 ?_
    rw [cmp_self]
    refine g_if_eq (tgt := 1716) C0 dL_law_1711 (by decide) (fun _ => ?_) (fun z => absurd rfl z)
    refine g_goto (tgt := 2347) C0 dL_law_1716 (by decide) ?_
    refine g_widen (cs2 := cs + 12) (ss2 := ss + 72) (by show cs + 1 + 0 + 0 ≤ cs + 12; omega) (by show ss + 6 + 0 + 0 ≤ ss + 72; omega) ?_
    exact hn _ _ _ _ _ hr
  · refine g_aload_n C0 dL_law_1663 rfl ?_
    refine g_scr (kk := 1) C0 SC (W3l hw0) dL_law_1664 dL_law_1665 dL_law_1667 dL_law_1668 dL_law_1669 rfl rfl (by decide +kernel) (by omega) (by omega) ?_
    refine g_aload_n C0 dL_law_1670 rfl ?_
    refine g_invSH (As := [.ref 0, .int (xs (i + 1)), .ref 109]) (st := []) C0 dL_law_1671 CL_217 rfl rfl rfl ⟨by decide, by decide, (by show cs + 1 ≤ 601024; omega), (by show ss + 6 ≤ 7293034; omega)⟩ (Nat.le_of_ble_eq_true rfl) (w_state (fun K hK => p_state hK) (Or.inr ⟨e9, ox, he, (by rw [← ck]; exact cp)⟩) (fun v9 g9 => ?_) (fun e8 g9 => ?_))
    · cases (ox.symm.trans g9)
    cases (ox.symm.trans g9)
    rw [← ck]
    refine Aft_v rfl ?_
    refine g_istore C0 dL_law_1674 (by decide) ?_
    refine g_aload_n C0 dL_law_1676 rfl ?_
    refine g_scr (kk := 1) C0 SC (W3l hw0) dL_law_1677 dL_law_1678 dL_law_1680 dL_law_1681 dL_law_1682 rfl rfl (by decide +kernel) (by omega) (by omega) ?_
    refine g_invV (As := [.int (xs (i + 1))]) (st := []) (ci := 10) C0 dL_law_1683 CL_219 rfl rfl rfl rfl ⟨by decide, by decide, (by show cs + 1 + 0 ≤ 601024; omega), (by show ss + 6 + 0 ≤ 7293034; omega)⟩ (Nat.le_of_ble_eq_true rfl) (frMK (av := [.ref 0, .int (xs (i + 1))]) (fun K hK => r_state (by rw [← rx.cC]; exact rx.c60) hK) ?_)
    rw [om, osh_i]
    refine Aft_v rfl ?_
    refine g_istore C0 dL_law_1686 (by decide) ?_
    refine g_aload_n C0 dL_law_1688 rfl ?_
    refine g_invV (As := []) (st := []) (ci := 10) C0 dL_law_1689 CL_131 rfl rfl rfl rfl ⟨by decide, by decide, (by show cs + 1 + 0 + 0 ≤ 601024; omega), (by show ss + 6 + 0 + 0 ≤ 7293034; omega)⟩ (Nat.le_of_ble_eq_true rfl) (frMK (av := [.ref 0]) (fun K hK => m_thrown hK) ?_)
    rw [osh_i]
    refine Aft_v rfl ?_
    refine g_iload C0 dL_law_1692 rfl ?_
    refine g_icmp_eq (tgt := 1699) C0 dL_law_1694 (by decide) (fun _ => ?_) (fun z => absurd rfl z)
    refine g_iload C0 dL_law_1699 rfl ?_
    refine g_if_ne (tgt := 1716) C0 dL_law_1701 (by decide) (fun _ => ?_) (fun z => absurd z (nI_ne0 cp (by omega)))
    refine g_goto (tgt := 2347) C0 dL_law_1716 (by decide) ?_
    refine g_widen (cs2 := cs + 12) (ss2 := ss + 72) (by show cs + 1 + 0 + 0 ≤ cs + 12; omega) (by show ss + 6 + 0 + 0 ≤ ss + 72; omega) ?_
    exact hn _ _ _ _ _ hr
set_option maxRecDepth 100000 in
set_option maxHeartbeats 4000000 in
theorem lc_trunks {X : CX} {D : va_G} {dA : Nat → ClassId} {w0 : AW} {ad0 : Nat → Nat} {K : AO → AW → Prop} {q t : XS} {f : Nat → Int64} {L i cs ss : Nat} {xs : Nat → Int32} {o5 o6 : Option Value} (C0 : Ok X (D, dA, w0, ad0, K) ML_law) (SC : SCR X (D, dA, w0, ad0, K) 110 L xs) (hw0 : w0.length = 110) (rx : RX q t) (hL : L ≤ 2048) (hi : i + 3 < L) (hc : cs + 12 ≤ 601024) (hs : ss + 72 ≤ 7293034) (hn : ∀ (q2 t2 : XS) (f2 : Nat → Int64) (p5 p6 : Option Value), RX q2 t2 → Gd X (D, dA, w0, ad0, K) ML_law 2347 [some (.ref 110), some (.ref 0), some (.ref 84), some (.ref 109), some (.int (nI i)), p5, p6] [] (W3 q2 t2 f2) (cs + 12) (ss + 72)) : Gd X (D, dA, w0, ad0, K) ML_law 1719 [some (.ref 110), some (.ref 0), some (.ref 84), some (.ref 109), some (.int (nI i)), o5, o6] [] (W3 q t f) cs ss := by
  obtain ⟨hA, hr⟩ := s_trunks rx (xs (i + 1))
  rcases hA with ⟨v, ox, om, c0⟩ | ⟨e9, b9, he, ox, om, ck, cp, c4⟩
  · refine g_aload_n C0 dL_law_1719 rfl ?_
    refine g_scr (kk := 1) C0 SC (W3l hw0) dL_law_1720 dL_law_1721 dL_law_1723 dL_law_1724 dL_law_1725 rfl rfl (by decide +kernel) (by omega) (by omega) ?_
    refine g_aload_n C0 dL_law_1726 rfl ?_
    refine g_invSH (As := [.ref 0, .int (xs (i + 1)), .ref 109]) (st := []) C0 dL_law_1727 CL_220 rfl rfl rfl ⟨by decide, by decide, (by show cs + 1 ≤ 601024; omega), (by show ss + 6 ≤ 7293034; omega)⟩ (Nat.le_of_ble_eq_true rfl) (w_trunks (fun K hK => p_trunks hK) (Or.inl ⟨v, ox⟩) (fun v9 g9 => ?_) (fun e8 g9 => ?_))
    rotate_left
    · cases (ox.symm.trans g9)
    cases (ox.symm.trans g9)
    refine Aft_v rfl ?_
    refine g_istore C0 dL_law_1730 (by decide) ?_
    refine g_aload_n C0 dL_law_1732 rfl ?_
    refine g_scr (kk := 1) C0 SC (W3l hw0) dL_law_1733 dL_law_1734 dL_law_1736 dL_law_1737 dL_law_1738 rfl rfl (by decide +kernel) (by omega) (by omega) ?_
    refine g_invV (As := [.int (xs (i + 1))]) (st := []) (ci := 10) C0 dL_law_1739 CL_222 rfl rfl rfl rfl ⟨by decide, by decide, (by show cs + 1 + 0 ≤ 601024; omega), (by show ss + 6 + 0 ≤ 7293034; omega)⟩ (Nat.le_of_ble_eq_true rfl) (frMK (av := [.ref 0, .int (xs (i + 1))]) (fun K hK => r_trunks (by rw [← rx.cC]; exact rx.c60) hK) ?_)
    rw [om, osh_i]
    refine Aft_v rfl ?_
    refine g_istore C0 dL_law_1742 (by decide) ?_
    refine g_aload_n C0 dL_law_1744 rfl ?_
    refine g_invV (As := []) (st := []) (ci := 10) C0 dL_law_1745 CL_131 rfl rfl rfl rfl ⟨by decide, by decide, (by show cs + 1 + 0 + 0 ≤ 601024; omega), (by show ss + 6 + 0 + 0 ≤ 7293034; omega)⟩ (Nat.le_of_ble_eq_true rfl) (frMK (av := [.ref 0]) (fun K hK => m_thrown hK) ?_)
    rw [osh_i, c0, nI_0]
    refine Aft_v rfl ?_
    refine g_iload C0 dL_law_1748 rfl ?_
    refine g_icmp_eq (tgt := 1755) C0 dL_law_1750 (by decide) (fun _ => ?_) (fun z => absurd rfl z)
    refine g_iload C0 dL_law_1755 rfl ?_
    refine g_if_ne (tgt := 1772) C0 dL_law_1757 (by decide) (fun z => absurd rfl z) (fun _ => ?_)
    refine g_aload_n C0 dL_law_1760 rfl ?_
    refine g_iconst (v := 0) C0 dL_law_1761 (by decide) ?_
    refine g_laload C0 dL_law_1762 (W3_out _ _ _) in01 ?_
    rw [show (0 : Int32).toNatClampNeg = 0 by decide +kernel, pk_uLs]
    refine g_iload C0 dL_law_1763 rfl ?_
    refine g_i2l C0 dL_law_1765 ?_
    refine g_lcmp C0 dL_law_1766 ?_
    rw [cmp_self]
    refine g_if_eq (tgt := 1772) C0 dL_law_1767 (by decide) (fun _ => ?_) (fun z => absurd rfl z)
    refine g_goto (tgt := 2347) C0 dL_law_1772 (by decide) ?_
    refine g_widen (cs2 := cs + 12) (ss2 := ss + 72) (by show cs + 1 + 0 + 0 ≤ cs + 12; omega) (by show ss + 6 + 0 + 0 ≤ ss + 72; omega) ?_
    exact hn _ _ _ _ _ hr
  · refine g_aload_n C0 dL_law_1719 rfl ?_
    refine g_scr (kk := 1) C0 SC (W3l hw0) dL_law_1720 dL_law_1721 dL_law_1723 dL_law_1724 dL_law_1725 rfl rfl (by decide +kernel) (by omega) (by omega) ?_
    refine g_aload_n C0 dL_law_1726 rfl ?_
    refine g_invSH (As := [.ref 0, .int (xs (i + 1)), .ref 109]) (st := []) C0 dL_law_1727 CL_220 rfl rfl rfl ⟨by decide, by decide, (by show cs + 1 ≤ 601024; omega), (by show ss + 6 ≤ 7293034; omega)⟩ (Nat.le_of_ble_eq_true rfl) (w_trunks (fun K hK => p_trunks hK) (Or.inr ⟨e9, ox, he, (by rw [← ck]; exact cp)⟩) (fun v9 g9 => ?_) (fun e8 g9 => ?_))
    · cases (ox.symm.trans g9)
    cases (ox.symm.trans g9)
    rw [← ck]
    refine Aft_v rfl ?_
    refine g_istore C0 dL_law_1730 (by decide) ?_
    refine g_aload_n C0 dL_law_1732 rfl ?_
    refine g_scr (kk := 1) C0 SC (W3l hw0) dL_law_1733 dL_law_1734 dL_law_1736 dL_law_1737 dL_law_1738 rfl rfl (by decide +kernel) (by omega) (by omega) ?_
    refine g_invV (As := [.int (xs (i + 1))]) (st := []) (ci := 10) C0 dL_law_1739 CL_222 rfl rfl rfl rfl ⟨by decide, by decide, (by show cs + 1 + 0 ≤ 601024; omega), (by show ss + 6 + 0 ≤ 7293034; omega)⟩ (Nat.le_of_ble_eq_true rfl) (frMK (av := [.ref 0, .int (xs (i + 1))]) (fun K hK => r_trunks (by rw [← rx.cC]; exact rx.c60) hK) ?_)
    rw [om, osh_i]
    refine Aft_v rfl ?_
    refine g_istore C0 dL_law_1742 (by decide) ?_
    refine g_aload_n C0 dL_law_1744 rfl ?_
    refine g_invV (As := []) (st := []) (ci := 10) C0 dL_law_1745 CL_131 rfl rfl rfl rfl ⟨by decide, by decide, (by show cs + 1 + 0 + 0 ≤ 601024; omega), (by show ss + 6 + 0 + 0 ≤ 7293034; omega)⟩ (Nat.le_of_ble_eq_true rfl) (frMK (av := [.ref 0]) (fun K hK => m_thrown hK) ?_)
    rw [osh_i]
    refine Aft_v rfl ?_
    refine g_iload C0 dL_law_1748 rfl ?_
    refine g_icmp_eq (tgt := 1755) C0 dL_law_1750 (by decide) (fun _ => ?_) (fun z => absurd rfl z)
    refine g_iload C0 dL_law_1755 rfl ?_
    refine g_if_ne (tgt := 1772) C0 dL_law_1757 (by decide) (fun _ => ?_) (fun z => absurd z (nI_ne0 cp (by omega)))
    refine g_goto (tgt := 2347) C0 dL_law_1772 (by decide) ?_
    refine g_widen (cs2 := cs + 12) (ss2 := ss + 72) (by show cs + 1 + 0 + 0 ≤ cs + 12; omega) (by show ss + 6 + 0 + 0 ≤ ss + 72; omega) ?_
    exact hn _ _ _ _ _ hr
set_option maxRecDepth 100000 in
set_option maxHeartbeats 4000000 in
theorem lc_carrierAt {X : CX} {D : va_G} {dA : Nat → ClassId} {w0 : AW} {ad0 : Nat → Nat} {K : AO → AW → Prop} {q t : XS} {f : Nat → Int64} {L i cs ss : Nat} {xs : Nat → Int32} {o5 o6 : Option Value} (C0 : Ok X (D, dA, w0, ad0, K) ML_law) (SC : SCR X (D, dA, w0, ad0, K) 110 L xs) (hw0 : w0.length = 110) (rx : RX q t) (hL : L ≤ 2048) (hi : i + 3 < L) (hc : cs + 12 ≤ 601024) (hs : ss + 72 ≤ 7293034) (hn : ∀ (q2 t2 : XS) (f2 : Nat → Int64) (p5 p6 : Option Value), RX q2 t2 → Gd X (D, dA, w0, ad0, K) ML_law 2347 [some (.ref 110), some (.ref 0), some (.ref 84), some (.ref 109), some (.int (nI i)), p5, p6] [] (W3 q2 t2 f2) (cs + 12) (ss + 72)) : Gd X (D, dA, w0, ad0, K) ML_law 1775 [some (.ref 110), some (.ref 0), some (.ref 84), some (.ref 109), some (.int (nI i)), o5, o6] [] (W3 q t f) cs ss := by
  obtain ⟨hA, hr⟩ := s_carrierAt rx (xs (i + 1)) (xs (i + 2))
  rcases hA with ⟨v, ox, om, c0⟩ | ⟨e9, b9, he, ox, om, ck, cp, c4⟩
  · refine g_aload_n C0 dL_law_1775 rfl ?_
    refine g_scr (kk := 1) C0 SC (W3l hw0) dL_law_1776 dL_law_1777 dL_law_1779 dL_law_1780 dL_law_1781 rfl rfl (by decide +kernel) (by omega) (by omega) ?_
    refine g_scr (kk := 2) C0 SC (W3l hw0) dL_law_1782 dL_law_1783 dL_law_1785 dL_law_1786 dL_law_1787 rfl rfl (by decide +kernel) (by omega) (by omega) ?_
    refine g_aload_n C0 dL_law_1788 rfl ?_
    refine g_invSH (As := [.ref 0, .int (xs (i + 1)), .int (xs (i + 2)), .ref 109]) (st := []) C0 dL_law_1789 CL_223 rfl rfl rfl ⟨by decide, by decide, (by show cs + 2 ≤ 601024; omega), (by show ss + 12 ≤ 7293034; omega)⟩ (Nat.le_of_ble_eq_true rfl) (w_carrierAt (fun K hK => p_carrierAt hK) (Or.inl ⟨v, ox⟩) (fun v9 g9 => ?_) (fun e8 g9 => ?_))
    rotate_left
    · cases (ox.symm.trans g9)
    cases (ox.symm.trans g9)
    refine Aft_v rfl ?_
    refine g_istore C0 dL_law_1792 (by decide) ?_
    refine g_aload_n C0 dL_law_1794 rfl ?_
    refine g_scr (kk := 1) C0 SC (W3l hw0) dL_law_1795 dL_law_1796 dL_law_1798 dL_law_1799 dL_law_1800 rfl rfl (by decide +kernel) (by omega) (by omega) ?_
    refine g_scr (kk := 2) C0 SC (W3l hw0) dL_law_1801 dL_law_1802 dL_law_1804 dL_law_1805 dL_law_1806 rfl rfl (by decide +kernel) (by omega) (by omega) ?_
    refine g_invV (As := [.int (xs (i + 1)), .int (xs (i + 2))]) (st := []) (ci := 10) C0 dL_law_1807 CL_225 rfl rfl rfl rfl ⟨by decide, by decide, (by show cs + 2 + 0 ≤ 601024; omega), (by show ss + 12 + 0 ≤ 7293034; omega)⟩ (Nat.le_of_ble_eq_true rfl) (frMK (av := [.ref 0, .int (xs (i + 1)), .int (xs (i + 2))]) (fun K hK => r_carrierAt (by rw [← rx.cC]; exact rx.c60) (fun k _ => rx.g19 k) hK) ?_)
    rw [om, osh_i]
    refine Aft_v rfl ?_
    refine g_istore C0 dL_law_1810 (by decide) ?_
    refine g_aload_n C0 dL_law_1812 rfl ?_
    refine g_invV (As := []) (st := []) (ci := 10) C0 dL_law_1813 CL_131 rfl rfl rfl rfl ⟨by decide, by decide, (by show cs + 2 + 0 + 0 ≤ 601024; omega), (by show ss + 12 + 0 + 0 ≤ 7293034; omega)⟩ (Nat.le_of_ble_eq_true rfl) (frMK (av := [.ref 0]) (fun K hK => m_thrown hK) ?_)
    rw [osh_i, c0, nI_0]
    refine Aft_v rfl ?_
    refine g_iload C0 dL_law_1816 rfl ?_
    refine g_icmp_eq (tgt := 1823) C0 dL_law_1818 (by decide) (fun _ => ?_) (fun z => absurd rfl z)
    refine g_iload C0 dL_law_1823 rfl ?_
    refine g_if_ne (tgt := 1840) C0 dL_law_1825 (by decide) (fun z => absurd rfl z) (fun _ => ?_)
    refine g_aload_n C0 dL_law_1828 rfl ?_
    refine g_iconst (v := 0) C0 dL_law_1829 (by decide) ?_
    refine g_laload C0 dL_law_1830 (W3_out _ _ _) in01 ?_
    rw [show (0 : Int32).toNatClampNeg = 0 by decide +kernel, pk_uLs]
    refine g_iload C0 dL_law_1831 rfl ?_
    refine g_i2l C0 dL_law_1833 ?_
    refine g_lcmp C0 dL_law_1834 ?_
    rw [cmp_self]
    refine g_if_eq (tgt := 1840) C0 dL_law_1835 (by decide) (fun _ => ?_) (fun z => absurd rfl z)
    refine g_goto (tgt := 2347) C0 dL_law_1840 (by decide) ?_
    refine g_widen (cs2 := cs + 12) (ss2 := ss + 72) (by show cs + 2 + 0 + 0 ≤ cs + 12; omega) (by show ss + 12 + 0 + 0 ≤ ss + 72; omega) ?_
    exact hn _ _ _ _ _ hr
  · refine g_aload_n C0 dL_law_1775 rfl ?_
    refine g_scr (kk := 1) C0 SC (W3l hw0) dL_law_1776 dL_law_1777 dL_law_1779 dL_law_1780 dL_law_1781 rfl rfl (by decide +kernel) (by omega) (by omega) ?_
    refine g_scr (kk := 2) C0 SC (W3l hw0) dL_law_1782 dL_law_1783 dL_law_1785 dL_law_1786 dL_law_1787 rfl rfl (by decide +kernel) (by omega) (by omega) ?_
    refine g_aload_n C0 dL_law_1788 rfl ?_
    refine g_invSH (As := [.ref 0, .int (xs (i + 1)), .int (xs (i + 2)), .ref 109]) (st := []) C0 dL_law_1789 CL_223 rfl rfl rfl ⟨by decide, by decide, (by show cs + 2 ≤ 601024; omega), (by show ss + 12 ≤ 7293034; omega)⟩ (Nat.le_of_ble_eq_true rfl) (w_carrierAt (fun K hK => p_carrierAt hK) (Or.inr ⟨e9, ox, he, (by rw [← ck]; exact cp)⟩) (fun v9 g9 => ?_) (fun e8 g9 => ?_))
    · cases (ox.symm.trans g9)
    cases (ox.symm.trans g9)
    rw [← ck]
    refine Aft_v rfl ?_
    refine g_istore C0 dL_law_1792 (by decide) ?_
    refine g_aload_n C0 dL_law_1794 rfl ?_
    refine g_scr (kk := 1) C0 SC (W3l hw0) dL_law_1795 dL_law_1796 dL_law_1798 dL_law_1799 dL_law_1800 rfl rfl (by decide +kernel) (by omega) (by omega) ?_
    refine g_scr (kk := 2) C0 SC (W3l hw0) dL_law_1801 dL_law_1802 dL_law_1804 dL_law_1805 dL_law_1806 rfl rfl (by decide +kernel) (by omega) (by omega) ?_
    refine g_invV (As := [.int (xs (i + 1)), .int (xs (i + 2))]) (st := []) (ci := 10) C0 dL_law_1807 CL_225 rfl rfl rfl rfl ⟨by decide, by decide, (by show cs + 2 + 0 ≤ 601024; omega), (by show ss + 12 + 0 ≤ 7293034; omega)⟩ (Nat.le_of_ble_eq_true rfl) (frMK (av := [.ref 0, .int (xs (i + 1)), .int (xs (i + 2))]) (fun K hK => r_carrierAt (by rw [← rx.cC]; exact rx.c60) (fun k _ => rx.g19 k) hK) ?_)
    rw [om, osh_i]
    refine Aft_v rfl ?_
    refine g_istore C0 dL_law_1810 (by decide) ?_
    refine g_aload_n C0 dL_law_1812 rfl ?_
    refine g_invV (As := []) (st := []) (ci := 10) C0 dL_law_1813 CL_131 rfl rfl rfl rfl ⟨by decide, by decide, (by show cs + 2 + 0 + 0 ≤ 601024; omega), (by show ss + 12 + 0 + 0 ≤ 7293034; omega)⟩ (Nat.le_of_ble_eq_true rfl) (frMK (av := [.ref 0]) (fun K hK => m_thrown hK) ?_)
    rw [osh_i]
    refine Aft_v rfl ?_
    refine g_iload C0 dL_law_1816 rfl ?_
    refine g_icmp_eq (tgt := 1823) C0 dL_law_1818 (by decide) (fun _ => ?_) (fun z => absurd rfl z)
    refine g_iload C0 dL_law_1823 rfl ?_
    refine g_if_ne (tgt := 1840) C0 dL_law_1825 (by decide) (fun _ => ?_) (fun z => absurd z (nI_ne0 cp (by omega)))
    refine g_goto (tgt := 2347) C0 dL_law_1840 (by decide) ?_
    refine g_widen (cs2 := cs + 12) (ss2 := ss + 72) (by show cs + 2 + 0 + 0 ≤ cs + 12; omega) (by show ss + 12 + 0 + 0 ≤ ss + 72; omega) ?_
    exact hn _ _ _ _ _ hr
set_option maxRecDepth 100000 in
set_option maxHeartbeats 4000000 in
theorem lc_seconds {X : CX} {D : va_G} {dA : Nat → ClassId} {w0 : AW} {ad0 : Nat → Nat} {K : AO → AW → Prop} {q t : XS} {f : Nat → Int64} {L i cs ss : Nat} {xs : Nat → Int32} {o5 o6 : Option Value} (C0 : Ok X (D, dA, w0, ad0, K) ML_law) (SC : SCR X (D, dA, w0, ad0, K) 110 L xs) (hw0 : w0.length = 110) (rx : RX q t) (hL : L ≤ 2048) (hi : i + 3 < L) (hc : cs + 12 ≤ 601024) (hs : ss + 72 ≤ 7293034) (hn : ∀ (q2 t2 : XS) (f2 : Nat → Int64) (p5 p6 : Option Value), RX q2 t2 → Gd X (D, dA, w0, ad0, K) ML_law 2347 [some (.ref 110), some (.ref 0), some (.ref 84), some (.ref 109), some (.int (nI i)), p5, p6] [] (W3 q2 t2 f2) (cs + 12) (ss + 72)) : Gd X (D, dA, w0, ad0, K) ML_law 1843 [some (.ref 110), some (.ref 0), some (.ref 84), some (.ref 109), some (.int (nI i)), o5, o6] [] (W3 q t f) cs ss := by
  obtain ⟨hA, hr⟩ := s_seconds rx (xs (i + 1))
  rcases hA with ⟨v, ox, om, c0⟩ | ⟨e9, b9, he, ox, om, ck, cp, c4⟩
  · refine g_aload_n C0 dL_law_1843 rfl ?_
    refine g_scr (kk := 1) C0 SC (W3l hw0) dL_law_1844 dL_law_1845 dL_law_1847 dL_law_1848 dL_law_1849 rfl rfl (by decide +kernel) (by omega) (by omega) ?_
    refine g_aload_n C0 dL_law_1850 rfl ?_
    refine g_invSH (As := [.ref 0, .int (xs (i + 1)), .ref 109]) (st := []) C0 dL_law_1851 CL_226 rfl rfl rfl ⟨by decide, by decide, (by show cs + 1 ≤ 601024; omega), (by show ss + 6 ≤ 7293034; omega)⟩ (Nat.le_of_ble_eq_true rfl) (w_seconds (fun K hK => p_seconds hK) (Or.inl ⟨v, ox⟩) (fun v9 g9 => ?_) (fun e8 g9 => ?_))
    rotate_left
    · cases (ox.symm.trans g9)
    cases (ox.symm.trans g9)
    refine Aft_v rfl ?_
    refine g_istore C0 dL_law_1854 (by decide) ?_
    refine g_aload_n C0 dL_law_1856 rfl ?_
    refine g_scr (kk := 1) C0 SC (W3l hw0) dL_law_1857 dL_law_1858 dL_law_1860 dL_law_1861 dL_law_1862 rfl rfl (by decide +kernel) (by omega) (by omega) ?_
    refine g_invV (As := [.int (xs (i + 1))]) (st := []) (ci := 10) C0 dL_law_1863 CL_228 rfl rfl rfl rfl ⟨by decide, by decide, (by show cs + 1 + 0 ≤ 601024; omega), (by show ss + 6 + 0 ≤ 7293034; omega)⟩ (Nat.le_of_ble_eq_true rfl) (frMK (av := [.ref 0, .int (xs (i + 1))]) (fun K hK => r_seconds (by rw [← rx.cC]; exact rx.c60) hK) ?_)
    rw [om, osh_i]
    refine Aft_v rfl ?_
    refine g_istore C0 dL_law_1866 (by decide) ?_
    refine g_aload_n C0 dL_law_1868 rfl ?_
    refine g_invV (As := []) (st := []) (ci := 10) C0 dL_law_1869 CL_131 rfl rfl rfl rfl ⟨by decide, by decide, (by show cs + 1 + 0 + 0 ≤ 601024; omega), (by show ss + 6 + 0 + 0 ≤ 7293034; omega)⟩ (Nat.le_of_ble_eq_true rfl) (frMK (av := [.ref 0]) (fun K hK => m_thrown hK) ?_)
    rw [osh_i, c0, nI_0]
    refine Aft_v rfl ?_
    refine g_iload C0 dL_law_1872 rfl ?_
    refine g_icmp_eq (tgt := 1879) C0 dL_law_1874 (by decide) (fun _ => ?_) (fun z => absurd rfl z)
    refine g_iload C0 dL_law_1879 rfl ?_
    refine g_if_ne (tgt := 1896) C0 dL_law_1881 (by decide) (fun z => absurd rfl z) (fun _ => ?_)
    refine g_aload_n C0 dL_law_1884 rfl ?_
    refine g_iconst (v := 0) C0 dL_law_1885 (by decide) ?_
    refine g_laload C0 dL_law_1886 (W3_out _ _ _) in01 ?_
    rw [show (0 : Int32).toNatClampNeg = 0 by decide +kernel, pk_uLs]
    refine g_iload C0 dL_law_1887 rfl ?_
    refine g_i2l C0 dL_law_1889 ?_
    refine g_lcmp C0 dL_law_1890 ?_
    rw [cmp_self]
    refine g_if_eq (tgt := 1896) C0 dL_law_1891 (by decide) (fun _ => ?_) (fun z => absurd rfl z)
    refine g_goto (tgt := 2347) C0 dL_law_1896 (by decide) ?_
    refine g_widen (cs2 := cs + 12) (ss2 := ss + 72) (by show cs + 1 + 0 + 0 ≤ cs + 12; omega) (by show ss + 6 + 0 + 0 ≤ ss + 72; omega) ?_
    exact hn _ _ _ _ _ hr
  · refine g_aload_n C0 dL_law_1843 rfl ?_
    refine g_scr (kk := 1) C0 SC (W3l hw0) dL_law_1844 dL_law_1845 dL_law_1847 dL_law_1848 dL_law_1849 rfl rfl (by decide +kernel) (by omega) (by omega) ?_
    refine g_aload_n C0 dL_law_1850 rfl ?_
    refine g_invSH (As := [.ref 0, .int (xs (i + 1)), .ref 109]) (st := []) C0 dL_law_1851 CL_226 rfl rfl rfl ⟨by decide, by decide, (by show cs + 1 ≤ 601024; omega), (by show ss + 6 ≤ 7293034; omega)⟩ (Nat.le_of_ble_eq_true rfl) (w_seconds (fun K hK => p_seconds hK) (Or.inr ⟨e9, ox, he, (by rw [← ck]; exact cp)⟩) (fun v9 g9 => ?_) (fun e8 g9 => ?_))
    · cases (ox.symm.trans g9)
    cases (ox.symm.trans g9)
    rw [← ck]
    refine Aft_v rfl ?_
    refine g_istore C0 dL_law_1854 (by decide) ?_
    refine g_aload_n C0 dL_law_1856 rfl ?_
    refine g_scr (kk := 1) C0 SC (W3l hw0) dL_law_1857 dL_law_1858 dL_law_1860 dL_law_1861 dL_law_1862 rfl rfl (by decide +kernel) (by omega) (by omega) ?_
    refine g_invV (As := [.int (xs (i + 1))]) (st := []) (ci := 10) C0 dL_law_1863 CL_228 rfl rfl rfl rfl ⟨by decide, by decide, (by show cs + 1 + 0 ≤ 601024; omega), (by show ss + 6 + 0 ≤ 7293034; omega)⟩ (Nat.le_of_ble_eq_true rfl) (frMK (av := [.ref 0, .int (xs (i + 1))]) (fun K hK => r_seconds (by rw [← rx.cC]; exact rx.c60) hK) ?_)
    rw [om, osh_i]
    refine Aft_v rfl ?_
    refine g_istore C0 dL_law_1866 (by decide) ?_
    refine g_aload_n C0 dL_law_1868 rfl ?_
    refine g_invV (As := []) (st := []) (ci := 10) C0 dL_law_1869 CL_131 rfl rfl rfl rfl ⟨by decide, by decide, (by show cs + 1 + 0 + 0 ≤ 601024; omega), (by show ss + 6 + 0 + 0 ≤ 7293034; omega)⟩ (Nat.le_of_ble_eq_true rfl) (frMK (av := [.ref 0]) (fun K hK => m_thrown hK) ?_)
    rw [osh_i]
    refine Aft_v rfl ?_
    refine g_iload C0 dL_law_1872 rfl ?_
    refine g_icmp_eq (tgt := 1879) C0 dL_law_1874 (by decide) (fun _ => ?_) (fun z => absurd rfl z)
    refine g_iload C0 dL_law_1879 rfl ?_
    refine g_if_ne (tgt := 1896) C0 dL_law_1881 (by decide) (fun _ => ?_) (fun z => absurd z (nI_ne0 cp (by omega)))
    refine g_goto (tgt := 2347) C0 dL_law_1896 (by decide) ?_
    refine g_widen (cs2 := cs + 12) (ss2 := ss + 72) (by show cs + 1 + 0 + 0 ≤ cs + 12; omega) (by show ss + 6 + 0 + 0 ≤ ss + 72; omega) ?_
    exact hn _ _ _ _ _ hr
set_option maxRecDepth 100000 in
set_option maxHeartbeats 4000000 in
theorem lc_charged {X : CX} {D : va_G} {dA : Nat → ClassId} {w0 : AW} {ad0 : Nat → Nat} {K : AO → AW → Prop} {q t : XS} {f : Nat → Int64} {L i cs ss : Nat} {xs : Nat → Int32} {o5 o6 : Option Value} (C0 : Ok X (D, dA, w0, ad0, K) ML_law) (SC : SCR X (D, dA, w0, ad0, K) 110 L xs) (hw0 : w0.length = 110) (rx : RX q t) (hL : L ≤ 2048) (hi : i + 3 < L) (hc : cs + 12 ≤ 601024) (hs : ss + 72 ≤ 7293034) (hn : ∀ (q2 t2 : XS) (f2 : Nat → Int64) (p5 p6 : Option Value), RX q2 t2 → Gd X (D, dA, w0, ad0, K) ML_law 2347 [some (.ref 110), some (.ref 0), some (.ref 84), some (.ref 109), some (.int (nI i)), p5, p6] [] (W3 q2 t2 f2) (cs + 12) (ss + 72)) : Gd X (D, dA, w0, ad0, K) ML_law 1899 [some (.ref 110), some (.ref 0), some (.ref 84), some (.ref 109), some (.int (nI i)), o5, o6] [] (W3 q t f) cs ss := by
  obtain ⟨hA, hr⟩ := s_charged rx (xs (i + 1))
  rcases hA with ⟨v, ox, om, c0⟩ | ⟨e9, b9, he, ox, om, ck, cp, c4⟩
  · refine g_aload_n C0 dL_law_1899 rfl ?_
    refine g_scr (kk := 1) C0 SC (W3l hw0) dL_law_1900 dL_law_1901 dL_law_1903 dL_law_1904 dL_law_1905 rfl rfl (by decide +kernel) (by omega) (by omega) ?_
    refine g_aload_n C0 dL_law_1906 rfl ?_
    refine g_invSH (As := [.ref 0, .int (xs (i + 1)), .ref 109]) (st := []) C0 dL_law_1907 CL_229 rfl rfl rfl ⟨by decide, by decide, (by show cs + 1 ≤ 601024; omega), (by show ss + 6 ≤ 7293034; omega)⟩ (Nat.le_of_ble_eq_true rfl) (w_charged (fun K hK => p_charged hK) (Or.inl ⟨v, ox⟩) (fun v9 g9 => ?_) (fun e8 g9 => ?_))
    rotate_left
    · cases (ox.symm.trans g9)
    cases (ox.symm.trans g9)
    refine Aft_v rfl ?_
    refine g_istore C0 dL_law_1910 (by decide) ?_
    refine g_aload_n C0 dL_law_1912 rfl ?_
    refine g_scr (kk := 1) C0 SC (W3l hw0) dL_law_1913 dL_law_1914 dL_law_1916 dL_law_1917 dL_law_1918 rfl rfl (by decide +kernel) (by omega) (by omega) ?_
    refine g_invV (As := [.int (xs (i + 1))]) (st := []) (ci := 10) C0 dL_law_1919 CL_231 rfl rfl rfl rfl ⟨by decide, by decide, (by show cs + 1 + 0 ≤ 601024; omega), (by show ss + 6 + 0 ≤ 7293034; omega)⟩ (Nat.le_of_ble_eq_true rfl) (frMK (av := [.ref 0, .int (xs (i + 1))]) (fun K hK => r_charged (by rw [← rx.cC]; exact rx.c60) hK) ?_)
    rw [om, osh_i]
    refine Aft_v rfl ?_
    refine g_istore C0 dL_law_1922 (by decide) ?_
    refine g_aload_n C0 dL_law_1924 rfl ?_
    refine g_invV (As := []) (st := []) (ci := 10) C0 dL_law_1925 CL_131 rfl rfl rfl rfl ⟨by decide, by decide, (by show cs + 1 + 0 + 0 ≤ 601024; omega), (by show ss + 6 + 0 + 0 ≤ 7293034; omega)⟩ (Nat.le_of_ble_eq_true rfl) (frMK (av := [.ref 0]) (fun K hK => m_thrown hK) ?_)
    rw [osh_i, c0, nI_0]
    refine Aft_v rfl ?_
    refine g_iload C0 dL_law_1928 rfl ?_
    refine g_icmp_eq (tgt := 1935) C0 dL_law_1930 (by decide) (fun _ => ?_) (fun z => absurd rfl z)
    refine g_iload C0 dL_law_1935 rfl ?_
    refine g_if_ne (tgt := 1952) C0 dL_law_1937 (by decide) (fun z => absurd rfl z) (fun _ => ?_)
    refine g_aload_n C0 dL_law_1940 rfl ?_
    refine g_iconst (v := 0) C0 dL_law_1941 (by decide) ?_
    refine g_laload C0 dL_law_1942 (W3_out _ _ _) in01 ?_
    rw [show (0 : Int32).toNatClampNeg = 0 by decide +kernel, pk_uLs]
    refine g_iload C0 dL_law_1943 rfl ?_
    refine g_i2l C0 dL_law_1945 ?_
    refine g_lcmp C0 dL_law_1946 ?_
    rw [cmp_self]
    refine g_if_eq (tgt := 1952) C0 dL_law_1947 (by decide) (fun _ => ?_) (fun z => absurd rfl z)
    refine g_goto (tgt := 2347) C0 dL_law_1952 (by decide) ?_
    refine g_widen (cs2 := cs + 12) (ss2 := ss + 72) (by show cs + 1 + 0 + 0 ≤ cs + 12; omega) (by show ss + 6 + 0 + 0 ≤ ss + 72; omega) ?_
    exact hn _ _ _ _ _ hr
  · refine g_aload_n C0 dL_law_1899 rfl ?_
    refine g_scr (kk := 1) C0 SC (W3l hw0) dL_law_1900 dL_law_1901 dL_law_1903 dL_law_1904 dL_law_1905 rfl rfl (by decide +kernel) (by omega) (by omega) ?_
    refine g_aload_n C0 dL_law_1906 rfl ?_
    refine g_invSH (As := [.ref 0, .int (xs (i + 1)), .ref 109]) (st := []) C0 dL_law_1907 CL_229 rfl rfl rfl ⟨by decide, by decide, (by show cs + 1 ≤ 601024; omega), (by show ss + 6 ≤ 7293034; omega)⟩ (Nat.le_of_ble_eq_true rfl) (w_charged (fun K hK => p_charged hK) (Or.inr ⟨e9, ox, he, (by rw [← ck]; exact cp)⟩) (fun v9 g9 => ?_) (fun e8 g9 => ?_))
    · cases (ox.symm.trans g9)
    cases (ox.symm.trans g9)
    rw [← ck]
    refine Aft_v rfl ?_
    refine g_istore C0 dL_law_1910 (by decide) ?_
    refine g_aload_n C0 dL_law_1912 rfl ?_
    refine g_scr (kk := 1) C0 SC (W3l hw0) dL_law_1913 dL_law_1914 dL_law_1916 dL_law_1917 dL_law_1918 rfl rfl (by decide +kernel) (by omega) (by omega) ?_
    refine g_invV (As := [.int (xs (i + 1))]) (st := []) (ci := 10) C0 dL_law_1919 CL_231 rfl rfl rfl rfl ⟨by decide, by decide, (by show cs + 1 + 0 ≤ 601024; omega), (by show ss + 6 + 0 ≤ 7293034; omega)⟩ (Nat.le_of_ble_eq_true rfl) (frMK (av := [.ref 0, .int (xs (i + 1))]) (fun K hK => r_charged (by rw [← rx.cC]; exact rx.c60) hK) ?_)
    rw [om, osh_i]
    refine Aft_v rfl ?_
    refine g_istore C0 dL_law_1922 (by decide) ?_
    refine g_aload_n C0 dL_law_1924 rfl ?_
    refine g_invV (As := []) (st := []) (ci := 10) C0 dL_law_1925 CL_131 rfl rfl rfl rfl ⟨by decide, by decide, (by show cs + 1 + 0 + 0 ≤ 601024; omega), (by show ss + 6 + 0 + 0 ≤ 7293034; omega)⟩ (Nat.le_of_ble_eq_true rfl) (frMK (av := [.ref 0]) (fun K hK => m_thrown hK) ?_)
    rw [osh_i]
    refine Aft_v rfl ?_
    refine g_iload C0 dL_law_1928 rfl ?_
    refine g_icmp_eq (tgt := 1935) C0 dL_law_1930 (by decide) (fun _ => ?_) (fun z => absurd rfl z)
    refine g_iload C0 dL_law_1935 rfl ?_
    refine g_if_ne (tgt := 1952) C0 dL_law_1937 (by decide) (fun _ => ?_) (fun z => absurd z (nI_ne0 cp (by omega)))
    refine g_goto (tgt := 2347) C0 dL_law_1952 (by decide) ?_
    refine g_widen (cs2 := cs + 12) (ss2 := ss + 72) (by show cs + 1 + 0 + 0 ≤ cs + 12; omega) (by show ss + 6 + 0 + 0 ≤ ss + 72; omega) ?_
    exact hn _ _ _ _ _ hr
set_option maxRecDepth 100000 in
set_option maxHeartbeats 4000000 in
theorem lc_chargedAnew {X : CX} {D : va_G} {dA : Nat → ClassId} {w0 : AW} {ad0 : Nat → Nat} {K : AO → AW → Prop} {q t : XS} {f : Nat → Int64} {L i cs ss : Nat} {xs : Nat → Int32} {o5 o6 : Option Value} (C0 : Ok X (D, dA, w0, ad0, K) ML_law) (SC : SCR X (D, dA, w0, ad0, K) 110 L xs) (hw0 : w0.length = 110) (rx : RX q t) (hL : L ≤ 2048) (hi : i + 3 < L) (hc : cs + 12 ≤ 601024) (hs : ss + 72 ≤ 7293034) (hn : ∀ (q2 t2 : XS) (f2 : Nat → Int64) (p5 p6 : Option Value), RX q2 t2 → Gd X (D, dA, w0, ad0, K) ML_law 2347 [some (.ref 110), some (.ref 0), some (.ref 84), some (.ref 109), some (.int (nI i)), p5, p6] [] (W3 q2 t2 f2) (cs + 12) (ss + 72)) : Gd X (D, dA, w0, ad0, K) ML_law 1955 [some (.ref 110), some (.ref 0), some (.ref 84), some (.ref 109), some (.int (nI i)), o5, o6] [] (W3 q t f) cs ss := by
  obtain ⟨hA, hr⟩ := s_chargedAnew rx (xs (i + 1))
  rcases hA with ⟨v, ox, om, c0⟩ | ⟨e9, b9, he, ox, om, ck, cp, c4⟩
  · refine g_aload_n C0 dL_law_1955 rfl ?_
    refine g_scr (kk := 1) C0 SC (W3l hw0) dL_law_1956 dL_law_1957 dL_law_1959 dL_law_1960 dL_law_1961 rfl rfl (by decide +kernel) (by omega) (by omega) ?_
    refine g_aload_n C0 dL_law_1962 rfl ?_
    refine g_invSH (As := [.ref 0, .int (xs (i + 1)), .ref 109]) (st := []) C0 dL_law_1963 CL_232 rfl rfl rfl ⟨by decide, by decide, (by show cs + 1 ≤ 601024; omega), (by show ss + 6 ≤ 7293034; omega)⟩ (Nat.le_of_ble_eq_true rfl) (w_chargedAnew (fun K hK => p_chargedAnew (by have := rx.p60; omega) (by have := rx.s60; omega) (by have := rx.d60; omega) (by rw [rx.ha.c]; have := rx.d60; omega) hK) (Or.inl ⟨v, ox⟩) (fun v9 g9 => ?_) (fun e8 g9 => ?_))
    rotate_left
    · cases (ox.symm.trans g9)
    cases (ox.symm.trans g9)
    refine Aft_v rfl ?_
    refine g_istore C0 dL_law_1966 (by decide) ?_
    refine g_aload_n C0 dL_law_1968 rfl ?_
    refine g_scr (kk := 1) C0 SC (W3l hw0) dL_law_1969 dL_law_1970 dL_law_1972 dL_law_1973 dL_law_1974 rfl rfl (by decide +kernel) (by omega) (by omega) ?_
    refine g_invV (As := [.int (xs (i + 1))]) (st := []) (ci := 10) C0 dL_law_1975 CL_234 rfl rfl rfl rfl ⟨by decide, by decide, (by show cs + 1 + 0 ≤ 601024; omega), (by show ss + 6 + 0 ≤ 7293034; omega)⟩ (Nat.le_of_ble_eq_true rfl) (frMK (av := [.ref 0, .int (xs (i + 1))]) (fun K hK => r_chargedAnew (by rw [← rx.cC]; exact rx.c60) hK) ?_)
    rw [om, osh_i]
    refine Aft_v rfl ?_
    refine g_istore C0 dL_law_1978 (by decide) ?_
    refine g_aload_n C0 dL_law_1980 rfl ?_
    refine g_invV (As := []) (st := []) (ci := 10) C0 dL_law_1981 CL_131 rfl rfl rfl rfl ⟨by decide, by decide, (by show cs + 1 + 0 + 0 ≤ 601024; omega), (by show ss + 6 + 0 + 0 ≤ 7293034; omega)⟩ (Nat.le_of_ble_eq_true rfl) (frMK (av := [.ref 0]) (fun K hK => m_thrown hK) ?_)
    rw [osh_i, c0, nI_0]
    refine Aft_v rfl ?_
    refine g_iload C0 dL_law_1984 rfl ?_
    refine g_icmp_eq (tgt := 1991) C0 dL_law_1986 (by decide) (fun _ => ?_) (fun z => absurd rfl z)
    refine g_iload C0 dL_law_1991 rfl ?_
    refine g_if_ne (tgt := 2008) C0 dL_law_1993 (by decide) (fun z => absurd rfl z) (fun _ => ?_)
    refine g_aload_n C0 dL_law_1996 rfl ?_
    refine g_iconst (v := 0) C0 dL_law_1997 (by decide) ?_
    refine g_laload C0 dL_law_1998 (W3_out _ _ _) in01 ?_
    rw [show (0 : Int32).toNatClampNeg = 0 by decide +kernel, pk_uLs]
    refine g_iload C0 dL_law_1999 rfl ?_
    refine g_i2l C0 dL_law_2001 ?_
    refine g_lcmp C0 dL_law_2002 ?_
    rw [cmp_self]
    refine g_if_eq (tgt := 2008) C0 dL_law_2003 (by decide) (fun _ => ?_) (fun z => absurd rfl z)
    refine g_goto (tgt := 2347) C0 dL_law_2008 (by decide) ?_
    refine g_widen (cs2 := cs + 12) (ss2 := ss + 72) (by show cs + 1 + 0 + 0 ≤ cs + 12; omega) (by show ss + 6 + 0 + 0 ≤ ss + 72; omega) ?_
    exact hn _ _ _ _ _ hr
  · refine g_aload_n C0 dL_law_1955 rfl ?_
    refine g_scr (kk := 1) C0 SC (W3l hw0) dL_law_1956 dL_law_1957 dL_law_1959 dL_law_1960 dL_law_1961 rfl rfl (by decide +kernel) (by omega) (by omega) ?_
    refine g_aload_n C0 dL_law_1962 rfl ?_
    refine g_invSH (As := [.ref 0, .int (xs (i + 1)), .ref 109]) (st := []) C0 dL_law_1963 CL_232 rfl rfl rfl ⟨by decide, by decide, (by show cs + 1 ≤ 601024; omega), (by show ss + 6 ≤ 7293034; omega)⟩ (Nat.le_of_ble_eq_true rfl) (w_chargedAnew (fun K hK => p_chargedAnew (by have := rx.p60; omega) (by have := rx.s60; omega) (by have := rx.d60; omega) (by rw [rx.ha.c]; have := rx.d60; omega) hK) (Or.inr ⟨e9, ox, he, (by rw [← ck]; exact cp)⟩) (fun v9 g9 => ?_) (fun e8 g9 => ?_))
    · cases (ox.symm.trans g9)
    cases (ox.symm.trans g9)
    rw [← ck]
    refine Aft_v rfl ?_
    refine g_istore C0 dL_law_1966 (by decide) ?_
    refine g_aload_n C0 dL_law_1968 rfl ?_
    refine g_scr (kk := 1) C0 SC (W3l hw0) dL_law_1969 dL_law_1970 dL_law_1972 dL_law_1973 dL_law_1974 rfl rfl (by decide +kernel) (by omega) (by omega) ?_
    refine g_invV (As := [.int (xs (i + 1))]) (st := []) (ci := 10) C0 dL_law_1975 CL_234 rfl rfl rfl rfl ⟨by decide, by decide, (by show cs + 1 + 0 ≤ 601024; omega), (by show ss + 6 + 0 ≤ 7293034; omega)⟩ (Nat.le_of_ble_eq_true rfl) (frMK (av := [.ref 0, .int (xs (i + 1))]) (fun K hK => r_chargedAnew (by rw [← rx.cC]; exact rx.c60) hK) ?_)
    rw [om, osh_i]
    refine Aft_v rfl ?_
    refine g_istore C0 dL_law_1978 (by decide) ?_
    refine g_aload_n C0 dL_law_1980 rfl ?_
    refine g_invV (As := []) (st := []) (ci := 10) C0 dL_law_1981 CL_131 rfl rfl rfl rfl ⟨by decide, by decide, (by show cs + 1 + 0 + 0 ≤ 601024; omega), (by show ss + 6 + 0 + 0 ≤ 7293034; omega)⟩ (Nat.le_of_ble_eq_true rfl) (frMK (av := [.ref 0]) (fun K hK => m_thrown hK) ?_)
    rw [osh_i]
    refine Aft_v rfl ?_
    refine g_iload C0 dL_law_1984 rfl ?_
    refine g_icmp_eq (tgt := 1991) C0 dL_law_1986 (by decide) (fun _ => ?_) (fun z => absurd rfl z)
    refine g_iload C0 dL_law_1991 rfl ?_
    refine g_if_ne (tgt := 2008) C0 dL_law_1993 (by decide) (fun _ => ?_) (fun z => absurd z (nI_ne0 cp (by omega)))
    refine g_goto (tgt := 2347) C0 dL_law_2008 (by decide) ?_
    refine g_widen (cs2 := cs + 12) (ss2 := ss + 72) (by show cs + 1 + 0 + 0 ≤ cs + 12; omega) (by show ss + 6 + 0 + 0 ≤ ss + 72; omega) ?_
    exact hn _ _ _ _ _ hr
set_option maxRecDepth 100000 in
set_option maxHeartbeats 4000000 in
theorem lc_coins {X : CX} {D : va_G} {dA : Nat → ClassId} {w0 : AW} {ad0 : Nat → Nat} {K : AO → AW → Prop} {q t : XS} {f : Nat → Int64} {L i cs ss : Nat} {xs : Nat → Int32} {o5 o6 : Option Value} (C0 : Ok X (D, dA, w0, ad0, K) ML_law) (SC : SCR X (D, dA, w0, ad0, K) 110 L xs) (hw0 : w0.length = 110) (rx : RX q t) (hL : L ≤ 2048) (hi : i + 3 < L) (hc : cs + 12 ≤ 601024) (hs : ss + 72 ≤ 7293034) (hn : ∀ (q2 t2 : XS) (f2 : Nat → Int64) (p5 p6 : Option Value), RX q2 t2 → Gd X (D, dA, w0, ad0, K) ML_law 2347 [some (.ref 110), some (.ref 0), some (.ref 84), some (.ref 109), some (.int (nI i)), p5, p6] [] (W3 q2 t2 f2) (cs + 12) (ss + 72)) : Gd X (D, dA, w0, ad0, K) ML_law 2011 [some (.ref 110), some (.ref 0), some (.ref 84), some (.ref 109), some (.int (nI i)), o5, o6] [] (W3 q t f) cs ss := by
  obtain ⟨hA, hr⟩ := s_coins rx (xs (i + 1))
  rcases hA with ⟨v, ox, om, c0⟩ | ⟨e9, b9, he, ox, om, ck, cp, c4⟩
  · refine g_aload_n C0 dL_law_2011 rfl ?_
    refine g_scr (kk := 1) C0 SC (W3l hw0) dL_law_2012 dL_law_2013 dL_law_2015 dL_law_2016 dL_law_2017 rfl rfl (by decide +kernel) (by omega) (by omega) ?_
    refine g_aload_n C0 dL_law_2018 rfl ?_
    refine g_invSH (As := [.ref 0, .int (xs (i + 1)), .ref 109]) (st := []) C0 dL_law_2019 CL_235 rfl rfl rfl ⟨by decide, by decide, (by show cs + 1 ≤ 601024; omega), (by show ss + 6 ≤ 7293034; omega)⟩ (Nat.le_of_ble_eq_true rfl) (w_coins (fun K hK => p_coins hK) (Or.inl ⟨v, ox⟩) (fun v9 g9 => ?_) (fun e8 g9 => ?_))
    rotate_left
    · cases (ox.symm.trans g9)
    cases (ox.symm.trans g9)
    refine Aft_v rfl ?_
    refine g_istore C0 dL_law_2022 (by decide) ?_
    refine g_aload_n C0 dL_law_2024 rfl ?_
    refine g_scr (kk := 1) C0 SC (W3l hw0) dL_law_2025 dL_law_2026 dL_law_2028 dL_law_2029 dL_law_2030 rfl rfl (by decide +kernel) (by omega) (by omega) ?_
    refine g_invV (As := [.int (xs (i + 1))]) (st := []) (ci := 10) C0 dL_law_2031 CL_237 rfl rfl rfl rfl ⟨by decide, by decide, (by show cs + 1 + 0 ≤ 601024; omega), (by show ss + 6 + 0 ≤ 7293034; omega)⟩ (Nat.le_of_ble_eq_true rfl) (frMK (av := [.ref 0, .int (xs (i + 1))]) (fun K hK => r_coins hK) ?_)
    rw [om, osh_i]
    refine Aft_v rfl ?_
    refine g_istore C0 dL_law_2034 (by decide) ?_
    refine g_aload_n C0 dL_law_2036 rfl ?_
    refine g_invV (As := []) (st := []) (ci := 10) C0 dL_law_2037 CL_131 rfl rfl rfl rfl ⟨by decide, by decide, (by show cs + 1 + 0 + 0 ≤ 601024; omega), (by show ss + 6 + 0 + 0 ≤ 7293034; omega)⟩ (Nat.le_of_ble_eq_true rfl) (frMK (av := [.ref 0]) (fun K hK => m_thrown hK) ?_)
    rw [osh_i, c0, nI_0]
    refine Aft_v rfl ?_
    refine g_iload C0 dL_law_2040 rfl ?_
    refine g_icmp_eq (tgt := 2047) C0 dL_law_2042 (by decide) (fun _ => ?_) (fun z => absurd rfl z)
    refine g_iload C0 dL_law_2047 rfl ?_
    refine g_if_ne (tgt := 2064) C0 dL_law_2049 (by decide) (fun z => absurd rfl z) (fun _ => ?_)
    refine g_aload_n C0 dL_law_2052 rfl ?_
    refine g_iconst (v := 0) C0 dL_law_2053 (by decide) ?_
    refine g_laload C0 dL_law_2054 (W3_out _ _ _) in01 ?_
    rw [show (0 : Int32).toNatClampNeg = 0 by decide +kernel, pk_uLs]
    refine g_iload C0 dL_law_2055 rfl ?_
    refine g_i2l C0 dL_law_2057 ?_
    refine g_lcmp C0 dL_law_2058 ?_
    rw [cmp_self]
    refine g_if_eq (tgt := 2064) C0 dL_law_2059 (by decide) (fun _ => ?_) (fun z => absurd rfl z)
    refine g_goto (tgt := 2347) C0 dL_law_2064 (by decide) ?_
    refine g_widen (cs2 := cs + 12) (ss2 := ss + 72) (by show cs + 1 + 0 + 0 ≤ cs + 12; omega) (by show ss + 6 + 0 + 0 ≤ ss + 72; omega) ?_
    exact hn _ _ _ _ _ hr
  · refine g_aload_n C0 dL_law_2011 rfl ?_
    refine g_scr (kk := 1) C0 SC (W3l hw0) dL_law_2012 dL_law_2013 dL_law_2015 dL_law_2016 dL_law_2017 rfl rfl (by decide +kernel) (by omega) (by omega) ?_
    refine g_aload_n C0 dL_law_2018 rfl ?_
    refine g_invSH (As := [.ref 0, .int (xs (i + 1)), .ref 109]) (st := []) C0 dL_law_2019 CL_235 rfl rfl rfl ⟨by decide, by decide, (by show cs + 1 ≤ 601024; omega), (by show ss + 6 ≤ 7293034; omega)⟩ (Nat.le_of_ble_eq_true rfl) (w_coins (fun K hK => p_coins hK) (Or.inr ⟨e9, ox, he, (by rw [← ck]; exact cp)⟩) (fun v9 g9 => ?_) (fun e8 g9 => ?_))
    · cases (ox.symm.trans g9)
    cases (ox.symm.trans g9)
    rw [← ck]
    refine Aft_v rfl ?_
    refine g_istore C0 dL_law_2022 (by decide) ?_
    refine g_aload_n C0 dL_law_2024 rfl ?_
    refine g_scr (kk := 1) C0 SC (W3l hw0) dL_law_2025 dL_law_2026 dL_law_2028 dL_law_2029 dL_law_2030 rfl rfl (by decide +kernel) (by omega) (by omega) ?_
    refine g_invV (As := [.int (xs (i + 1))]) (st := []) (ci := 10) C0 dL_law_2031 CL_237 rfl rfl rfl rfl ⟨by decide, by decide, (by show cs + 1 + 0 ≤ 601024; omega), (by show ss + 6 + 0 ≤ 7293034; omega)⟩ (Nat.le_of_ble_eq_true rfl) (frMK (av := [.ref 0, .int (xs (i + 1))]) (fun K hK => r_coins hK) ?_)
    rw [om, osh_i]
    refine Aft_v rfl ?_
    refine g_istore C0 dL_law_2034 (by decide) ?_
    refine g_aload_n C0 dL_law_2036 rfl ?_
    refine g_invV (As := []) (st := []) (ci := 10) C0 dL_law_2037 CL_131 rfl rfl rfl rfl ⟨by decide, by decide, (by show cs + 1 + 0 + 0 ≤ 601024; omega), (by show ss + 6 + 0 + 0 ≤ 7293034; omega)⟩ (Nat.le_of_ble_eq_true rfl) (frMK (av := [.ref 0]) (fun K hK => m_thrown hK) ?_)
    rw [osh_i]
    refine Aft_v rfl ?_
    refine g_iload C0 dL_law_2040 rfl ?_
    refine g_icmp_eq (tgt := 2047) C0 dL_law_2042 (by decide) (fun _ => ?_) (fun z => absurd rfl z)
    refine g_iload C0 dL_law_2047 rfl ?_
    refine g_if_ne (tgt := 2064) C0 dL_law_2049 (by decide) (fun _ => ?_) (fun z => absurd z (nI_ne0 cp (by omega)))
    refine g_goto (tgt := 2347) C0 dL_law_2064 (by decide) ?_
    refine g_widen (cs2 := cs + 12) (ss2 := ss + 72) (by show cs + 1 + 0 + 0 ≤ cs + 12; omega) (by show ss + 6 + 0 + 0 ≤ ss + 72; omega) ?_
    exact hn _ _ _ _ _ hr
set_option maxRecDepth 100000 in
set_option maxHeartbeats 4000000 in
theorem lc_earned {X : CX} {D : va_G} {dA : Nat → ClassId} {w0 : AW} {ad0 : Nat → Nat} {K : AO → AW → Prop} {q t : XS} {f : Nat → Int64} {L i cs ss : Nat} {xs : Nat → Int32} {o5 o6 : Option Value} (C0 : Ok X (D, dA, w0, ad0, K) ML_law) (SC : SCR X (D, dA, w0, ad0, K) 110 L xs) (hw0 : w0.length = 110) (rx : RX q t) (hL : L ≤ 2048) (hi : i + 3 < L) (hc : cs + 12 ≤ 601024) (hs : ss + 72 ≤ 7293034) (hn : ∀ (q2 t2 : XS) (f2 : Nat → Int64) (p5 p6 : Option Value), RX q2 t2 → Gd X (D, dA, w0, ad0, K) ML_law 2347 [some (.ref 110), some (.ref 0), some (.ref 84), some (.ref 109), some (.int (nI i)), p5, p6] [] (W3 q2 t2 f2) (cs + 12) (ss + 72)) : Gd X (D, dA, w0, ad0, K) ML_law 2067 [some (.ref 110), some (.ref 0), some (.ref 84), some (.ref 109), some (.int (nI i)), o5, o6] [] (W3 q t f) cs ss := by
  obtain ⟨hA, hr⟩ := s_earned rx (xs (i + 1))
  rcases hA with ⟨v, ox, om, c0⟩ | ⟨e9, b9, he, ox, om, ck, cp, c4⟩
  · refine g_aload_n C0 dL_law_2067 rfl ?_
    refine g_scr (kk := 1) C0 SC (W3l hw0) dL_law_2068 dL_law_2069 dL_law_2071 dL_law_2072 dL_law_2073 rfl rfl (by decide +kernel) (by omega) (by omega) ?_
    refine g_aload_n C0 dL_law_2074 rfl ?_
    refine g_invSH (As := [.ref 0, .int (xs (i + 1)), .ref 109]) (st := []) C0 dL_law_2075 CL_238 rfl rfl rfl ⟨by decide, by decide, (by show cs + 1 ≤ 601024; omega), (by show ss + 6 ≤ 7293034; omega)⟩ (Nat.le_of_ble_eq_true rfl) (w_earned (fun K hK => p_earned hK) (Or.inl ⟨v, ox⟩) (fun v9 g9 => ?_) (fun e8 g9 => ?_))
    rotate_left
    · cases (ox.symm.trans g9)
    cases (ox.symm.trans g9)
    refine Aft_v rfl ?_
    refine g_istore C0 dL_law_2078 (by decide) ?_
    refine g_aload_n C0 dL_law_2080 rfl ?_
    refine g_scr (kk := 1) C0 SC (W3l hw0) dL_law_2081 dL_law_2082 dL_law_2084 dL_law_2085 dL_law_2086 rfl rfl (by decide +kernel) (by omega) (by omega) ?_
    refine g_invV (As := [.int (xs (i + 1))]) (st := []) (ci := 10) C0 dL_law_2087 CL_240 rfl rfl rfl rfl ⟨by decide, by decide, (by show cs + 1 + 0 ≤ 601024; omega), (by show ss + 6 + 0 ≤ 7293034; omega)⟩ (Nat.le_of_ble_eq_true rfl) (frMK (av := [.ref 0, .int (xs (i + 1))]) (fun K hK => r_earned hK) ?_)
    rw [om, osh_i]
    refine Aft_v rfl ?_
    refine g_istore C0 dL_law_2090 (by decide) ?_
    refine g_aload_n C0 dL_law_2092 rfl ?_
    refine g_invV (As := []) (st := []) (ci := 10) C0 dL_law_2093 CL_131 rfl rfl rfl rfl ⟨by decide, by decide, (by show cs + 1 + 0 + 0 ≤ 601024; omega), (by show ss + 6 + 0 + 0 ≤ 7293034; omega)⟩ (Nat.le_of_ble_eq_true rfl) (frMK (av := [.ref 0]) (fun K hK => m_thrown hK) ?_)
    rw [osh_i, c0, nI_0]
    refine Aft_v rfl ?_
    refine g_iload C0 dL_law_2096 rfl ?_
    refine g_icmp_eq (tgt := 2103) C0 dL_law_2098 (by decide) (fun _ => ?_) (fun z => absurd rfl z)
    refine g_iload C0 dL_law_2103 rfl ?_
    refine g_if_ne (tgt := 2120) C0 dL_law_2105 (by decide) (fun z => absurd rfl z) (fun _ => ?_)
    refine g_aload_n C0 dL_law_2108 rfl ?_
    refine g_iconst (v := 0) C0 dL_law_2109 (by decide) ?_
    refine g_laload C0 dL_law_2110 (W3_out _ _ _) in01 ?_
    rw [show (0 : Int32).toNatClampNeg = 0 by decide +kernel, pk_uLs]
    refine g_iload C0 dL_law_2111 rfl ?_
    refine g_i2l C0 dL_law_2113 ?_
    refine g_lcmp C0 dL_law_2114 ?_
    rw [cmp_self]
    refine g_if_eq (tgt := 2120) C0 dL_law_2115 (by decide) (fun _ => ?_) (fun z => absurd rfl z)
    refine g_goto (tgt := 2347) C0 dL_law_2120 (by decide) ?_
    refine g_widen (cs2 := cs + 12) (ss2 := ss + 72) (by show cs + 1 + 0 + 0 ≤ cs + 12; omega) (by show ss + 6 + 0 + 0 ≤ ss + 72; omega) ?_
    exact hn _ _ _ _ _ hr
  · refine g_aload_n C0 dL_law_2067 rfl ?_
    refine g_scr (kk := 1) C0 SC (W3l hw0) dL_law_2068 dL_law_2069 dL_law_2071 dL_law_2072 dL_law_2073 rfl rfl (by decide +kernel) (by omega) (by omega) ?_
    refine g_aload_n C0 dL_law_2074 rfl ?_
    refine g_invSH (As := [.ref 0, .int (xs (i + 1)), .ref 109]) (st := []) C0 dL_law_2075 CL_238 rfl rfl rfl ⟨by decide, by decide, (by show cs + 1 ≤ 601024; omega), (by show ss + 6 ≤ 7293034; omega)⟩ (Nat.le_of_ble_eq_true rfl) (w_earned (fun K hK => p_earned hK) (Or.inr ⟨e9, ox, he, (by rw [← ck]; exact cp)⟩) (fun v9 g9 => ?_) (fun e8 g9 => ?_))
    · cases (ox.symm.trans g9)
    cases (ox.symm.trans g9)
    rw [← ck]
    refine Aft_v rfl ?_
    refine g_istore C0 dL_law_2078 (by decide) ?_
    refine g_aload_n C0 dL_law_2080 rfl ?_
    refine g_scr (kk := 1) C0 SC (W3l hw0) dL_law_2081 dL_law_2082 dL_law_2084 dL_law_2085 dL_law_2086 rfl rfl (by decide +kernel) (by omega) (by omega) ?_
    refine g_invV (As := [.int (xs (i + 1))]) (st := []) (ci := 10) C0 dL_law_2087 CL_240 rfl rfl rfl rfl ⟨by decide, by decide, (by show cs + 1 + 0 ≤ 601024; omega), (by show ss + 6 + 0 ≤ 7293034; omega)⟩ (Nat.le_of_ble_eq_true rfl) (frMK (av := [.ref 0, .int (xs (i + 1))]) (fun K hK => r_earned hK) ?_)
    rw [om, osh_i]
    refine Aft_v rfl ?_
    refine g_istore C0 dL_law_2090 (by decide) ?_
    refine g_aload_n C0 dL_law_2092 rfl ?_
    refine g_invV (As := []) (st := []) (ci := 10) C0 dL_law_2093 CL_131 rfl rfl rfl rfl ⟨by decide, by decide, (by show cs + 1 + 0 + 0 ≤ 601024; omega), (by show ss + 6 + 0 + 0 ≤ 7293034; omega)⟩ (Nat.le_of_ble_eq_true rfl) (frMK (av := [.ref 0]) (fun K hK => m_thrown hK) ?_)
    rw [osh_i]
    refine Aft_v rfl ?_
    refine g_iload C0 dL_law_2096 rfl ?_
    refine g_icmp_eq (tgt := 2103) C0 dL_law_2098 (by decide) (fun _ => ?_) (fun z => absurd rfl z)
    refine g_iload C0 dL_law_2103 rfl ?_
    refine g_if_ne (tgt := 2120) C0 dL_law_2105 (by decide) (fun _ => ?_) (fun z => absurd z (nI_ne0 cp (by omega)))
    refine g_goto (tgt := 2347) C0 dL_law_2120 (by decide) ?_
    refine g_widen (cs2 := cs + 12) (ss2 := ss + 72) (by show cs + 1 + 0 + 0 ≤ cs + 12; omega) (by show ss + 6 + 0 + 0 ≤ ss + 72; omega) ?_
    exact hn _ _ _ _ _ hr
set_option maxRecDepth 100000 in
set_option maxHeartbeats 4000000 in
theorem lc_earnedAnew {X : CX} {D : va_G} {dA : Nat → ClassId} {w0 : AW} {ad0 : Nat → Nat} {K : AO → AW → Prop} {q t : XS} {f : Nat → Int64} {L i cs ss : Nat} {xs : Nat → Int32} {o5 o6 : Option Value} (C0 : Ok X (D, dA, w0, ad0, K) ML_law) (SC : SCR X (D, dA, w0, ad0, K) 110 L xs) (hw0 : w0.length = 110) (rx : RX q t) (hL : L ≤ 2048) (hi : i + 3 < L) (hc : cs + 12 ≤ 601024) (hs : ss + 72 ≤ 7293034) (hn : ∀ (q2 t2 : XS) (f2 : Nat → Int64) (p5 p6 : Option Value), RX q2 t2 → Gd X (D, dA, w0, ad0, K) ML_law 2347 [some (.ref 110), some (.ref 0), some (.ref 84), some (.ref 109), some (.int (nI i)), p5, p6] [] (W3 q2 t2 f2) (cs + 12) (ss + 72)) : Gd X (D, dA, w0, ad0, K) ML_law 2123 [some (.ref 110), some (.ref 0), some (.ref 84), some (.ref 109), some (.int (nI i)), o5, o6] [] (W3 q t f) cs ss := by
  obtain ⟨hA, hr⟩ := s_earnedAnew rx (xs (i + 1))
  rcases hA with ⟨v, ox, om, c0⟩ | ⟨e9, b9, he, ox, om, ck, cp, c4⟩
  · refine g_aload_n C0 dL_law_2123 rfl ?_
    refine g_scr (kk := 1) C0 SC (W3l hw0) dL_law_2124 dL_law_2125 dL_law_2127 dL_law_2128 dL_law_2129 rfl rfl (by decide +kernel) (by omega) (by omega) ?_
    refine g_aload_n C0 dL_law_2130 rfl ?_
    refine g_invSH (As := [.ref 0, .int (xs (i + 1)), .ref 109]) (st := []) C0 dL_law_2131 CL_241 rfl rfl rfl ⟨by decide, by decide, (by show cs + 1 ≤ 601024; omega), (by show ss + 6 ≤ 7293034; omega)⟩ (Nat.le_of_ble_eq_true rfl) (w_earnedAnew (fun K hK => p_earnedAnew (by have := rx.p60; omega) (by have := rx.s60; omega) (by have := rx.d60; omega) (by rw [rx.ha.c]; have := rx.d60; omega) (by have := rx.c60; omega) hK) (Or.inl ⟨v, ox⟩) (fun v9 g9 => ?_) (fun e8 g9 => ?_))
    rotate_left
    · cases (ox.symm.trans g9)
    cases (ox.symm.trans g9)
    refine Aft_v rfl ?_
    refine g_istore C0 dL_law_2134 (by decide) ?_
    refine g_aload_n C0 dL_law_2136 rfl ?_
    refine g_scr (kk := 1) C0 SC (W3l hw0) dL_law_2137 dL_law_2138 dL_law_2140 dL_law_2141 dL_law_2142 rfl rfl (by decide +kernel) (by omega) (by omega) ?_
    refine g_invV (As := [.int (xs (i + 1))]) (st := []) (ci := 10) C0 dL_law_2143 CL_243 rfl rfl rfl rfl ⟨by decide, by decide, (by show cs + 1 + 0 ≤ 601024; omega), (by show ss + 6 + 0 ≤ 7293034; omega)⟩ (Nat.le_of_ble_eq_true rfl) (frMK (av := [.ref 0, .int (xs (i + 1))]) (fun K hK => r_earnedAnew hK) ?_)
    rw [om, osh_i]
    refine Aft_v rfl ?_
    refine g_istore C0 dL_law_2146 (by decide) ?_
    refine g_aload_n C0 dL_law_2148 rfl ?_
    refine g_invV (As := []) (st := []) (ci := 10) C0 dL_law_2149 CL_131 rfl rfl rfl rfl ⟨by decide, by decide, (by show cs + 1 + 0 + 0 ≤ 601024; omega), (by show ss + 6 + 0 + 0 ≤ 7293034; omega)⟩ (Nat.le_of_ble_eq_true rfl) (frMK (av := [.ref 0]) (fun K hK => m_thrown hK) ?_)
    rw [osh_i, c0, nI_0]
    refine Aft_v rfl ?_
    refine g_iload C0 dL_law_2152 rfl ?_
    refine g_icmp_eq (tgt := 2159) C0 dL_law_2154 (by decide) (fun _ => ?_) (fun z => absurd rfl z)
    refine g_iload C0 dL_law_2159 rfl ?_
    refine g_if_ne (tgt := 2176) C0 dL_law_2161 (by decide) (fun z => absurd rfl z) (fun _ => ?_)
    refine g_aload_n C0 dL_law_2164 rfl ?_
    refine g_iconst (v := 0) C0 dL_law_2165 (by decide) ?_
    refine g_laload C0 dL_law_2166 (W3_out _ _ _) in01 ?_
    rw [show (0 : Int32).toNatClampNeg = 0 by decide +kernel, pk_uLs]
    refine g_iload C0 dL_law_2167 rfl ?_
    refine g_i2l C0 dL_law_2169 ?_
    refine g_lcmp C0 dL_law_2170 ?_
    rw [cmp_self]
    refine g_if_eq (tgt := 2176) C0 dL_law_2171 (by decide) (fun _ => ?_) (fun z => absurd rfl z)
    refine g_goto (tgt := 2347) C0 dL_law_2176 (by decide) ?_
    refine g_widen (cs2 := cs + 12) (ss2 := ss + 72) (by show cs + 1 + 0 + 0 ≤ cs + 12; omega) (by show ss + 6 + 0 + 0 ≤ ss + 72; omega) ?_
    exact hn _ _ _ _ _ hr
  · refine g_aload_n C0 dL_law_2123 rfl ?_
    refine g_scr (kk := 1) C0 SC (W3l hw0) dL_law_2124 dL_law_2125 dL_law_2127 dL_law_2128 dL_law_2129 rfl rfl (by decide +kernel) (by omega) (by omega) ?_
    refine g_aload_n C0 dL_law_2130 rfl ?_
    refine g_invSH (As := [.ref 0, .int (xs (i + 1)), .ref 109]) (st := []) C0 dL_law_2131 CL_241 rfl rfl rfl ⟨by decide, by decide, (by show cs + 1 ≤ 601024; omega), (by show ss + 6 ≤ 7293034; omega)⟩ (Nat.le_of_ble_eq_true rfl) (w_earnedAnew (fun K hK => p_earnedAnew (by have := rx.p60; omega) (by have := rx.s60; omega) (by have := rx.d60; omega) (by rw [rx.ha.c]; have := rx.d60; omega) (by have := rx.c60; omega) hK) (Or.inr ⟨e9, ox, he, (by rw [← ck]; exact cp)⟩) (fun v9 g9 => ?_) (fun e8 g9 => ?_))
    · cases (ox.symm.trans g9)
    cases (ox.symm.trans g9)
    rw [← ck]
    refine Aft_v rfl ?_
    refine g_istore C0 dL_law_2134 (by decide) ?_
    refine g_aload_n C0 dL_law_2136 rfl ?_
    refine g_scr (kk := 1) C0 SC (W3l hw0) dL_law_2137 dL_law_2138 dL_law_2140 dL_law_2141 dL_law_2142 rfl rfl (by decide +kernel) (by omega) (by omega) ?_
    refine g_invV (As := [.int (xs (i + 1))]) (st := []) (ci := 10) C0 dL_law_2143 CL_243 rfl rfl rfl rfl ⟨by decide, by decide, (by show cs + 1 + 0 ≤ 601024; omega), (by show ss + 6 + 0 ≤ 7293034; omega)⟩ (Nat.le_of_ble_eq_true rfl) (frMK (av := [.ref 0, .int (xs (i + 1))]) (fun K hK => r_earnedAnew hK) ?_)
    rw [om, osh_i]
    refine Aft_v rfl ?_
    refine g_istore C0 dL_law_2146 (by decide) ?_
    refine g_aload_n C0 dL_law_2148 rfl ?_
    refine g_invV (As := []) (st := []) (ci := 10) C0 dL_law_2149 CL_131 rfl rfl rfl rfl ⟨by decide, by decide, (by show cs + 1 + 0 + 0 ≤ 601024; omega), (by show ss + 6 + 0 + 0 ≤ 7293034; omega)⟩ (Nat.le_of_ble_eq_true rfl) (frMK (av := [.ref 0]) (fun K hK => m_thrown hK) ?_)
    rw [osh_i]
    refine Aft_v rfl ?_
    refine g_iload C0 dL_law_2152 rfl ?_
    refine g_icmp_eq (tgt := 2159) C0 dL_law_2154 (by decide) (fun _ => ?_) (fun z => absurd rfl z)
    refine g_iload C0 dL_law_2159 rfl ?_
    refine g_if_ne (tgt := 2176) C0 dL_law_2161 (by decide) (fun _ => ?_) (fun z => absurd z (nI_ne0 cp (by omega)))
    refine g_goto (tgt := 2347) C0 dL_law_2176 (by decide) ?_
    refine g_widen (cs2 := cs + 12) (ss2 := ss + 72) (by show cs + 1 + 0 + 0 ≤ cs + 12; omega) (by show ss + 6 + 0 + 0 ≤ ss + 72; omega) ?_
    exact hn _ _ _ _ _ hr
set_option maxRecDepth 100000 in
set_option maxHeartbeats 4000000 in
theorem lc_spent {X : CX} {D : va_G} {dA : Nat → ClassId} {w0 : AW} {ad0 : Nat → Nat} {K : AO → AW → Prop} {q t : XS} {f : Nat → Int64} {L i cs ss : Nat} {xs : Nat → Int32} {o5 o6 : Option Value} (C0 : Ok X (D, dA, w0, ad0, K) ML_law) (SC : SCR X (D, dA, w0, ad0, K) 110 L xs) (hw0 : w0.length = 110) (rx : RX q t) (hL : L ≤ 2048) (hi : i + 3 < L) (hc : cs + 12 ≤ 601024) (hs : ss + 72 ≤ 7293034) (hn : ∀ (q2 t2 : XS) (f2 : Nat → Int64) (p5 p6 : Option Value), RX q2 t2 → Gd X (D, dA, w0, ad0, K) ML_law 2347 [some (.ref 110), some (.ref 0), some (.ref 84), some (.ref 109), some (.int (nI i)), p5, p6] [] (W3 q2 t2 f2) (cs + 12) (ss + 72)) : Gd X (D, dA, w0, ad0, K) ML_law 2179 [some (.ref 110), some (.ref 0), some (.ref 84), some (.ref 109), some (.int (nI i)), o5, o6] [] (W3 q t f) cs ss := by
  obtain ⟨hA, hr⟩ := s_spent rx (xs (i + 1))
  rcases hA with ⟨v, ox, om, c0⟩ | ⟨e9, b9, he, ox, om, ck, cp, c4⟩
  · refine g_aload_n C0 dL_law_2179 rfl ?_
    refine g_scr (kk := 1) C0 SC (W3l hw0) dL_law_2180 dL_law_2181 dL_law_2183 dL_law_2184 dL_law_2185 rfl rfl (by decide +kernel) (by omega) (by omega) ?_
    refine g_aload_n C0 dL_law_2186 rfl ?_
    refine g_invSH (As := [.ref 0, .int (xs (i + 1)), .ref 109]) (st := []) C0 dL_law_2187 CL_244 rfl rfl rfl ⟨by decide, by decide, (by show cs + 1 ≤ 601024; omega), (by show ss + 6 ≤ 7293034; omega)⟩ (Nat.le_of_ble_eq_true rfl) (w_spent (fun K hK => p_spent hK) (Or.inl ⟨v, ox⟩) (fun v9 g9 => ?_) (fun e8 g9 => ?_))
    rotate_left
    · cases (ox.symm.trans g9)
    cases (ox.symm.trans g9)
    refine Aft_v rfl ?_
    refine g_istore C0 dL_law_2190 (by decide) ?_
    refine g_aload_n C0 dL_law_2192 rfl ?_
    refine g_scr (kk := 1) C0 SC (W3l hw0) dL_law_2193 dL_law_2194 dL_law_2196 dL_law_2197 dL_law_2198 rfl rfl (by decide +kernel) (by omega) (by omega) ?_
    refine g_invV (As := [.int (xs (i + 1))]) (st := []) (ci := 10) C0 dL_law_2199 CL_246 rfl rfl rfl rfl ⟨by decide, by decide, (by show cs + 1 + 0 ≤ 601024; omega), (by show ss + 6 + 0 ≤ 7293034; omega)⟩ (Nat.le_of_ble_eq_true rfl) (frMK (av := [.ref 0, .int (xs (i + 1))]) (fun K hK => r_spent hK) ?_)
    rw [om, osh_i]
    refine Aft_v rfl ?_
    refine g_istore C0 dL_law_2202 (by decide) ?_
    refine g_aload_n C0 dL_law_2204 rfl ?_
    refine g_invV (As := []) (st := []) (ci := 10) C0 dL_law_2205 CL_131 rfl rfl rfl rfl ⟨by decide, by decide, (by show cs + 1 + 0 + 0 ≤ 601024; omega), (by show ss + 6 + 0 + 0 ≤ 7293034; omega)⟩ (Nat.le_of_ble_eq_true rfl) (frMK (av := [.ref 0]) (fun K hK => m_thrown hK) ?_)
    rw [osh_i, c0, nI_0]
    refine Aft_v rfl ?_
    refine g_iload C0 dL_law_2208 rfl ?_
    refine g_icmp_eq (tgt := 2215) C0 dL_law_2210 (by decide) (fun _ => ?_) (fun z => absurd rfl z)
    refine g_iload C0 dL_law_2215 rfl ?_
    refine g_if_ne (tgt := 2232) C0 dL_law_2217 (by decide) (fun z => absurd rfl z) (fun _ => ?_)
    refine g_aload_n C0 dL_law_2220 rfl ?_
    refine g_iconst (v := 0) C0 dL_law_2221 (by decide) ?_
    refine g_laload C0 dL_law_2222 (W3_out _ _ _) in01 ?_
    rw [show (0 : Int32).toNatClampNeg = 0 by decide +kernel, pk_uLs]
    refine g_iload C0 dL_law_2223 rfl ?_
    refine g_i2l C0 dL_law_2225 ?_
    refine g_lcmp C0 dL_law_2226 ?_
    rw [cmp_self]
    refine g_if_eq (tgt := 2232) C0 dL_law_2227 (by decide) (fun _ => ?_) (fun z => absurd rfl z)
    refine g_goto (tgt := 2347) C0 dL_law_2232 (by decide) ?_
    refine g_widen (cs2 := cs + 12) (ss2 := ss + 72) (by show cs + 1 + 0 + 0 ≤ cs + 12; omega) (by show ss + 6 + 0 + 0 ≤ ss + 72; omega) ?_
    exact hn _ _ _ _ _ hr
  · refine g_aload_n C0 dL_law_2179 rfl ?_
    refine g_scr (kk := 1) C0 SC (W3l hw0) dL_law_2180 dL_law_2181 dL_law_2183 dL_law_2184 dL_law_2185 rfl rfl (by decide +kernel) (by omega) (by omega) ?_
    refine g_aload_n C0 dL_law_2186 rfl ?_
    refine g_invSH (As := [.ref 0, .int (xs (i + 1)), .ref 109]) (st := []) C0 dL_law_2187 CL_244 rfl rfl rfl ⟨by decide, by decide, (by show cs + 1 ≤ 601024; omega), (by show ss + 6 ≤ 7293034; omega)⟩ (Nat.le_of_ble_eq_true rfl) (w_spent (fun K hK => p_spent hK) (Or.inr ⟨e9, ox, he, (by rw [← ck]; exact cp)⟩) (fun v9 g9 => ?_) (fun e8 g9 => ?_))
    · cases (ox.symm.trans g9)
    cases (ox.symm.trans g9)
    rw [← ck]
    refine Aft_v rfl ?_
    refine g_istore C0 dL_law_2190 (by decide) ?_
    refine g_aload_n C0 dL_law_2192 rfl ?_
    refine g_scr (kk := 1) C0 SC (W3l hw0) dL_law_2193 dL_law_2194 dL_law_2196 dL_law_2197 dL_law_2198 rfl rfl (by decide +kernel) (by omega) (by omega) ?_
    refine g_invV (As := [.int (xs (i + 1))]) (st := []) (ci := 10) C0 dL_law_2199 CL_246 rfl rfl rfl rfl ⟨by decide, by decide, (by show cs + 1 + 0 ≤ 601024; omega), (by show ss + 6 + 0 ≤ 7293034; omega)⟩ (Nat.le_of_ble_eq_true rfl) (frMK (av := [.ref 0, .int (xs (i + 1))]) (fun K hK => r_spent hK) ?_)
    rw [om, osh_i]
    refine Aft_v rfl ?_
    refine g_istore C0 dL_law_2202 (by decide) ?_
    refine g_aload_n C0 dL_law_2204 rfl ?_
    refine g_invV (As := []) (st := []) (ci := 10) C0 dL_law_2205 CL_131 rfl rfl rfl rfl ⟨by decide, by decide, (by show cs + 1 + 0 + 0 ≤ 601024; omega), (by show ss + 6 + 0 + 0 ≤ 7293034; omega)⟩ (Nat.le_of_ble_eq_true rfl) (frMK (av := [.ref 0]) (fun K hK => m_thrown hK) ?_)
    rw [osh_i]
    refine Aft_v rfl ?_
    refine g_iload C0 dL_law_2208 rfl ?_
    refine g_icmp_eq (tgt := 2215) C0 dL_law_2210 (by decide) (fun _ => ?_) (fun z => absurd rfl z)
    refine g_iload C0 dL_law_2215 rfl ?_
    refine g_if_ne (tgt := 2232) C0 dL_law_2217 (by decide) (fun _ => ?_) (fun z => absurd z (nI_ne0 cp (by omega)))
    refine g_goto (tgt := 2347) C0 dL_law_2232 (by decide) ?_
    refine g_widen (cs2 := cs + 12) (ss2 := ss + 72) (by show cs + 1 + 0 + 0 ≤ cs + 12; omega) (by show ss + 6 + 0 + 0 ≤ ss + 72; omega) ?_
    exact hn _ _ _ _ _ hr
set_option maxRecDepth 100000 in
set_option maxHeartbeats 4000000 in
theorem lc_spentAnew {X : CX} {D : va_G} {dA : Nat → ClassId} {w0 : AW} {ad0 : Nat → Nat} {K : AO → AW → Prop} {q t : XS} {f : Nat → Int64} {L i cs ss : Nat} {xs : Nat → Int32} {o5 o6 : Option Value} (C0 : Ok X (D, dA, w0, ad0, K) ML_law) (SC : SCR X (D, dA, w0, ad0, K) 110 L xs) (hw0 : w0.length = 110) (rx : RX q t) (hL : L ≤ 2048) (hi : i + 3 < L) (hc : cs + 12 ≤ 601024) (hs : ss + 72 ≤ 7293034) (hn : ∀ (q2 t2 : XS) (f2 : Nat → Int64) (p5 p6 : Option Value), RX q2 t2 → Gd X (D, dA, w0, ad0, K) ML_law 2347 [some (.ref 110), some (.ref 0), some (.ref 84), some (.ref 109), some (.int (nI i)), p5, p6] [] (W3 q2 t2 f2) (cs + 12) (ss + 72)) : Gd X (D, dA, w0, ad0, K) ML_law 2235 [some (.ref 110), some (.ref 0), some (.ref 84), some (.ref 109), some (.int (nI i)), o5, o6] [] (W3 q t f) cs ss := by
  obtain ⟨hA, hr⟩ := s_spentAnew rx (xs (i + 1))
  rcases hA with ⟨v, ox, om, c0⟩ | ⟨e9, b9, he, ox, om, ck, cp, c4⟩
  · refine g_aload_n C0 dL_law_2235 rfl ?_
    refine g_scr (kk := 1) C0 SC (W3l hw0) dL_law_2236 dL_law_2237 dL_law_2239 dL_law_2240 dL_law_2241 rfl rfl (by decide +kernel) (by omega) (by omega) ?_
    refine g_aload_n C0 dL_law_2242 rfl ?_
    refine g_invSH (As := [.ref 0, .int (xs (i + 1)), .ref 109]) (st := []) C0 dL_law_2243 CL_247 rfl rfl rfl ⟨by decide, by decide, (by show cs + 1 ≤ 601024; omega), (by show ss + 6 ≤ 7293034; omega)⟩ (Nat.le_of_ble_eq_true rfl) (w_spentAnew (fun K hK => p_spentAnew (by have := rx.p60; omega) (by have := rx.s60; omega) (by have := rx.d60; omega) (by rw [rx.ha.c]; have := rx.d60; omega) (by have := rx.c60; omega) hK) (Or.inl ⟨v, ox⟩) (fun v9 g9 => ?_) (fun e8 g9 => ?_))
    rotate_left
    · cases (ox.symm.trans g9)
    cases (ox.symm.trans g9)
    refine Aft_v rfl ?_
    refine g_istore C0 dL_law_2246 (by decide) ?_
    refine g_aload_n C0 dL_law_2248 rfl ?_
    refine g_scr (kk := 1) C0 SC (W3l hw0) dL_law_2249 dL_law_2250 dL_law_2252 dL_law_2253 dL_law_2254 rfl rfl (by decide +kernel) (by omega) (by omega) ?_
    refine g_invV (As := [.int (xs (i + 1))]) (st := []) (ci := 10) C0 dL_law_2255 CL_249 rfl rfl rfl rfl ⟨by decide, by decide, (by show cs + 1 + 0 ≤ 601024; omega), (by show ss + 6 + 0 ≤ 7293034; omega)⟩ (Nat.le_of_ble_eq_true rfl) (frMK (av := [.ref 0, .int (xs (i + 1))]) (fun K hK => r_spentAnew hK) ?_)
    rw [om, osh_i]
    refine Aft_v rfl ?_
    refine g_istore C0 dL_law_2258 (by decide) ?_
    refine g_aload_n C0 dL_law_2260 rfl ?_
    refine g_invV (As := []) (st := []) (ci := 10) C0 dL_law_2261 CL_131 rfl rfl rfl rfl ⟨by decide, by decide, (by show cs + 1 + 0 + 0 ≤ 601024; omega), (by show ss + 6 + 0 + 0 ≤ 7293034; omega)⟩ (Nat.le_of_ble_eq_true rfl) (frMK (av := [.ref 0]) (fun K hK => m_thrown hK) ?_)
    rw [osh_i, c0, nI_0]
    refine Aft_v rfl ?_
    refine g_iload C0 dL_law_2264 rfl ?_
    refine g_icmp_eq (tgt := 2271) C0 dL_law_2266 (by decide) (fun _ => ?_) (fun z => absurd rfl z)
    refine g_iload C0 dL_law_2271 rfl ?_
    refine g_if_ne (tgt := 2288) C0 dL_law_2273 (by decide) (fun z => absurd rfl z) (fun _ => ?_)
    refine g_aload_n C0 dL_law_2276 rfl ?_
    refine g_iconst (v := 0) C0 dL_law_2277 (by decide) ?_
    refine g_laload C0 dL_law_2278 (W3_out _ _ _) in01 ?_
    rw [show (0 : Int32).toNatClampNeg = 0 by decide +kernel, pk_uLs]
    refine g_iload C0 dL_law_2279 rfl ?_
    refine g_i2l C0 dL_law_2281 ?_
    refine g_lcmp C0 dL_law_2282 ?_
    rw [cmp_self]
    refine g_if_eq (tgt := 2288) C0 dL_law_2283 (by decide) (fun _ => ?_) (fun z => absurd rfl z)
    refine g_goto (tgt := 2347) C0 dL_law_2288 (by decide) ?_
    refine g_widen (cs2 := cs + 12) (ss2 := ss + 72) (by show cs + 1 + 0 + 0 ≤ cs + 12; omega) (by show ss + 6 + 0 + 0 ≤ ss + 72; omega) ?_
    exact hn _ _ _ _ _ hr
  · refine g_aload_n C0 dL_law_2235 rfl ?_
    refine g_scr (kk := 1) C0 SC (W3l hw0) dL_law_2236 dL_law_2237 dL_law_2239 dL_law_2240 dL_law_2241 rfl rfl (by decide +kernel) (by omega) (by omega) ?_
    refine g_aload_n C0 dL_law_2242 rfl ?_
    refine g_invSH (As := [.ref 0, .int (xs (i + 1)), .ref 109]) (st := []) C0 dL_law_2243 CL_247 rfl rfl rfl ⟨by decide, by decide, (by show cs + 1 ≤ 601024; omega), (by show ss + 6 ≤ 7293034; omega)⟩ (Nat.le_of_ble_eq_true rfl) (w_spentAnew (fun K hK => p_spentAnew (by have := rx.p60; omega) (by have := rx.s60; omega) (by have := rx.d60; omega) (by rw [rx.ha.c]; have := rx.d60; omega) (by have := rx.c60; omega) hK) (Or.inr ⟨e9, ox, he, (by rw [← ck]; exact cp)⟩) (fun v9 g9 => ?_) (fun e8 g9 => ?_))
    · cases (ox.symm.trans g9)
    cases (ox.symm.trans g9)
    rw [← ck]
    refine Aft_v rfl ?_
    refine g_istore C0 dL_law_2246 (by decide) ?_
    refine g_aload_n C0 dL_law_2248 rfl ?_
    refine g_scr (kk := 1) C0 SC (W3l hw0) dL_law_2249 dL_law_2250 dL_law_2252 dL_law_2253 dL_law_2254 rfl rfl (by decide +kernel) (by omega) (by omega) ?_
    refine g_invV (As := [.int (xs (i + 1))]) (st := []) (ci := 10) C0 dL_law_2255 CL_249 rfl rfl rfl rfl ⟨by decide, by decide, (by show cs + 1 + 0 ≤ 601024; omega), (by show ss + 6 + 0 ≤ 7293034; omega)⟩ (Nat.le_of_ble_eq_true rfl) (frMK (av := [.ref 0, .int (xs (i + 1))]) (fun K hK => r_spentAnew hK) ?_)
    rw [om, osh_i]
    refine Aft_v rfl ?_
    refine g_istore C0 dL_law_2258 (by decide) ?_
    refine g_aload_n C0 dL_law_2260 rfl ?_
    refine g_invV (As := []) (st := []) (ci := 10) C0 dL_law_2261 CL_131 rfl rfl rfl rfl ⟨by decide, by decide, (by show cs + 1 + 0 + 0 ≤ 601024; omega), (by show ss + 6 + 0 + 0 ≤ 7293034; omega)⟩ (Nat.le_of_ble_eq_true rfl) (frMK (av := [.ref 0]) (fun K hK => m_thrown hK) ?_)
    rw [osh_i]
    refine Aft_v rfl ?_
    refine g_iload C0 dL_law_2264 rfl ?_
    refine g_icmp_eq (tgt := 2271) C0 dL_law_2266 (by decide) (fun _ => ?_) (fun z => absurd rfl z)
    refine g_iload C0 dL_law_2271 rfl ?_
    refine g_if_ne (tgt := 2288) C0 dL_law_2273 (by decide) (fun _ => ?_) (fun z => absurd z (nI_ne0 cp (by omega)))
    refine g_goto (tgt := 2347) C0 dL_law_2288 (by decide) ?_
    refine g_widen (cs2 := cs + 12) (ss2 := ss + 72) (by show cs + 1 + 0 + 0 ≤ cs + 12; omega) (by show ss + 6 + 0 + 0 ≤ ss + 72; omega) ?_
    exact hn _ _ _ _ _ hr
set_option maxRecDepth 100000 in
set_option maxHeartbeats 4000000 in
theorem lc_losses {X : CX} {D : va_G} {dA : Nat → ClassId} {w0 : AW} {ad0 : Nat → Nat} {K : AO → AW → Prop} {q t : XS} {f : Nat → Int64} {L i cs ss : Nat} {xs : Nat → Int32} {o5 o6 : Option Value} (C0 : Ok X (D, dA, w0, ad0, K) ML_law) (SC : SCR X (D, dA, w0, ad0, K) 110 L xs) (hw0 : w0.length = 110) (rx : RX q t) (hL : L ≤ 2048) (hi : i + 3 < L) (hc : cs + 12 ≤ 601024) (hs : ss + 72 ≤ 7293034) (hn : ∀ (q2 t2 : XS) (f2 : Nat → Int64) (p5 p6 : Option Value), RX q2 t2 → Gd X (D, dA, w0, ad0, K) ML_law 2347 [some (.ref 110), some (.ref 0), some (.ref 84), some (.ref 109), some (.int (nI i)), p5, p6] [] (W3 q2 t2 f2) (cs + 12) (ss + 72)) : Gd X (D, dA, w0, ad0, K) ML_law 2291 [some (.ref 110), some (.ref 0), some (.ref 84), some (.ref 109), some (.int (nI i)), o5, o6] [] (W3 q t f) cs ss := by
  obtain ⟨hA, hr⟩ := s_losses rx (xs (i + 1))
  rcases hA with ⟨v, ox, om, c0⟩ | ⟨e9, b9, he, ox, om, ck, cp, c4⟩
  · refine g_aload_n C0 dL_law_2291 rfl ?_
    refine g_scr (kk := 1) C0 SC (W3l hw0) dL_law_2292 dL_law_2293 dL_law_2295 dL_law_2296 dL_law_2297 rfl rfl (by decide +kernel) (by omega) (by omega) ?_
    refine g_aload_n C0 dL_law_2298 rfl ?_
    refine g_invSH (As := [.ref 0, .int (xs (i + 1)), .ref 109]) (st := []) C0 dL_law_2299 CL_250 rfl rfl rfl ⟨by decide, by decide, (by show cs + 1 ≤ 601024; omega), (by show ss + 6 ≤ 7293034; omega)⟩ (Nat.le_of_ble_eq_true rfl) (w_losses (fun K hK => p_losses hK) (Or.inl ⟨v, ox⟩) (fun v9 g9 => ?_) (fun e8 g9 => ?_))
    rotate_left
    · cases (ox.symm.trans g9)
    cases (ox.symm.trans g9)
    refine Aft_v rfl ?_
    refine g_istore C0 dL_law_2302 (by decide) ?_
    refine g_aload_n C0 dL_law_2304 rfl ?_
    refine g_scr (kk := 1) C0 SC (W3l hw0) dL_law_2305 dL_law_2306 dL_law_2308 dL_law_2309 dL_law_2310 rfl rfl (by decide +kernel) (by omega) (by omega) ?_
    refine g_invV (As := [.int (xs (i + 1))]) (st := []) (ci := 10) C0 dL_law_2311 CL_252 rfl rfl rfl rfl ⟨by decide, by decide, (by show cs + 1 + 0 ≤ 601024; omega), (by show ss + 6 + 0 ≤ 7293034; omega)⟩ (Nat.le_of_ble_eq_true rfl) (frMK (av := [.ref 0, .int (xs (i + 1))]) (fun K hK => r_losses hK) ?_)
    rw [om, osh_i]
    refine Aft_v rfl ?_
    refine g_istore C0 dL_law_2314 (by decide) ?_
    refine g_aload_n C0 dL_law_2316 rfl ?_
    refine g_invV (As := []) (st := []) (ci := 10) C0 dL_law_2317 CL_131 rfl rfl rfl rfl ⟨by decide, by decide, (by show cs + 1 + 0 + 0 ≤ 601024; omega), (by show ss + 6 + 0 + 0 ≤ 7293034; omega)⟩ (Nat.le_of_ble_eq_true rfl) (frMK (av := [.ref 0]) (fun K hK => m_thrown hK) ?_)
    rw [osh_i, c0, nI_0]
    refine Aft_v rfl ?_
    refine g_iload C0 dL_law_2320 rfl ?_
    refine g_icmp_eq (tgt := 2327) C0 dL_law_2322 (by decide) (fun _ => ?_) (fun z => absurd rfl z)
    refine g_iload C0 dL_law_2327 rfl ?_
    refine g_if_ne (tgt := 2344) C0 dL_law_2329 (by decide) (fun z => absurd rfl z) (fun _ => ?_)
    refine g_aload_n C0 dL_law_2332 rfl ?_
    refine g_iconst (v := 0) C0 dL_law_2333 (by decide) ?_
    refine g_laload C0 dL_law_2334 (W3_out _ _ _) in01 ?_
    rw [show (0 : Int32).toNatClampNeg = 0 by decide +kernel, pk_uLs]
    refine g_iload C0 dL_law_2335 rfl ?_
    refine g_i2l C0 dL_law_2337 ?_
    refine g_lcmp C0 dL_law_2338 ?_
    rw [cmp_self]
    refine g_if_eq (tgt := 2344) C0 dL_law_2339 (by decide) (fun _ => ?_) (fun z => absurd rfl z)
    refine g_goto (tgt := 2347) C0 dL_law_2344 (by decide) ?_
    refine g_widen (cs2 := cs + 12) (ss2 := ss + 72) (by show cs + 1 + 0 + 0 ≤ cs + 12; omega) (by show ss + 6 + 0 + 0 ≤ ss + 72; omega) ?_
    exact hn _ _ _ _ _ hr
  · refine g_aload_n C0 dL_law_2291 rfl ?_
    refine g_scr (kk := 1) C0 SC (W3l hw0) dL_law_2292 dL_law_2293 dL_law_2295 dL_law_2296 dL_law_2297 rfl rfl (by decide +kernel) (by omega) (by omega) ?_
    refine g_aload_n C0 dL_law_2298 rfl ?_
    refine g_invSH (As := [.ref 0, .int (xs (i + 1)), .ref 109]) (st := []) C0 dL_law_2299 CL_250 rfl rfl rfl ⟨by decide, by decide, (by show cs + 1 ≤ 601024; omega), (by show ss + 6 ≤ 7293034; omega)⟩ (Nat.le_of_ble_eq_true rfl) (w_losses (fun K hK => p_losses hK) (Or.inr ⟨e9, ox, he, (by rw [← ck]; exact cp)⟩) (fun v9 g9 => ?_) (fun e8 g9 => ?_))
    · cases (ox.symm.trans g9)
    cases (ox.symm.trans g9)
    rw [← ck]
    refine Aft_v rfl ?_
    refine g_istore C0 dL_law_2302 (by decide) ?_
    refine g_aload_n C0 dL_law_2304 rfl ?_
    refine g_scr (kk := 1) C0 SC (W3l hw0) dL_law_2305 dL_law_2306 dL_law_2308 dL_law_2309 dL_law_2310 rfl rfl (by decide +kernel) (by omega) (by omega) ?_
    refine g_invV (As := [.int (xs (i + 1))]) (st := []) (ci := 10) C0 dL_law_2311 CL_252 rfl rfl rfl rfl ⟨by decide, by decide, (by show cs + 1 + 0 ≤ 601024; omega), (by show ss + 6 + 0 ≤ 7293034; omega)⟩ (Nat.le_of_ble_eq_true rfl) (frMK (av := [.ref 0, .int (xs (i + 1))]) (fun K hK => r_losses hK) ?_)
    rw [om, osh_i]
    refine Aft_v rfl ?_
    refine g_istore C0 dL_law_2314 (by decide) ?_
    refine g_aload_n C0 dL_law_2316 rfl ?_
    refine g_invV (As := []) (st := []) (ci := 10) C0 dL_law_2317 CL_131 rfl rfl rfl rfl ⟨by decide, by decide, (by show cs + 1 + 0 + 0 ≤ 601024; omega), (by show ss + 6 + 0 + 0 ≤ 7293034; omega)⟩ (Nat.le_of_ble_eq_true rfl) (frMK (av := [.ref 0]) (fun K hK => m_thrown hK) ?_)
    rw [osh_i]
    refine Aft_v rfl ?_
    refine g_iload C0 dL_law_2320 rfl ?_
    refine g_icmp_eq (tgt := 2327) C0 dL_law_2322 (by decide) (fun _ => ?_) (fun z => absurd rfl z)
    refine g_iload C0 dL_law_2327 rfl ?_
    refine g_if_ne (tgt := 2344) C0 dL_law_2329 (by decide) (fun _ => ?_) (fun z => absurd z (nI_ne0 cp (by omega)))
    refine g_goto (tgt := 2347) C0 dL_law_2344 (by decide) ?_
    refine g_widen (cs2 := cs + 12) (ss2 := ss + 72) (by show cs + 1 + 0 + 0 ≤ cs + 12; omega) (by show ss + 6 + 0 + 0 ≤ ss + 72; omega) ?_
    exact hn _ _ _ _ _ hr

/-! ===== what holds of a house ===== -/
theorem sI_s (f : Nat → Int32) (k : Nat) : sI f 0 k + f k = sI f 0 (k + 1) := by rw [sI, Nat.zero_add]
theorem and31 {c : Nat} (h : c < 5) : nI c &&& 31 = nI c := by
  have h2 : ∀ c : Fin 5, nI c &&& 31 = nI c := by decide +kernel
  exact h2 ⟨c, h⟩
set_option maxRecDepth 100000 in
set_option maxHeartbeats 4000000 in
theorem ho_end {X : CX} {S : SX} {q t : XS} {w : AW} {f : Nat → Int32} {b m B T : Nat} {n0 : Int32} (C0 : Ok X S ML_holds) (r : RX q t) (E : EI NB B T n0 q) (hB : B ≤ 10000) (hw : HC b w q w q) (ha : w[168]? = some (.inl (0, 1, .inl f))) (hf : f 0 = n0) (hm : m < 2 ^ 31) (hK : SK S (.inl (some (.int 1))) w) {k : Nat} {o10 o11 o12 : Option Value} : Gd X S ML_holds 542 [some (.ref b), some (.ref 168), some (.int (nI m)), some (.int (sI (q.1 8) 0 5)), some (.int (sI (q.1 2) 0 12)), some (.int (sI (q.1 9) 0 5)), some (.int (sI (q.1 11) 0 6)), some (.int (sI (q.1 32) 0 (q.2 6))), some (.int (nI 1)), some (.int (nI k)), o10, o11, o12] [] w (2082) (12492) := by
  refine g_iload C0 dL_holds_542 rfl ?_
  refine g_if_eq (tgt := 583) C0 dL_holds_544 (by decide) (fun z => absurd z (by decide +kernel)) (fun _ => ?_)
  refine g_iload_n C0 dL_holds_547 rfl ?_
  refine g_aload_n C0 dL_holds_548 rfl ?_
  refine g_iconst (v := nI 0) C0 dL_holds_549 (by decide +kernel) ?_
  refine g_iaload C0 dL_holds_550 ha (vp_in_nI (by decide) (by decide)) ?_
  rw [show (nI 0).toNatClampNeg = 0 from nI_clamp (by decide), hf]
  refine g_icmp_ne (tgt := 583) C0 dL_holds_551 (by decide) (fun z => absurd E.pu z) (fun _ => ?_)
  refine g_iload C0 dL_holds_554 rfl ?_
  refine g_iload C0 dL_holds_556 rfl ?_
  refine g_icmp_ne (tgt := 583) C0 dL_holds_558 (by decide) (fun z => absurd ((sum_ea r E).trans (sum_sp r E).symm) z) (fun _ => ?_)
  refine g_iload C0 dL_holds_561 rfl ?_
  refine g_iload C0 dL_holds_563 rfl ?_
  refine g_icmp_ne (tgt := 583) C0 dL_holds_565 (by decide) (fun z => absurd (sum_ea r E) z) (fun _ => ?_)
  refine g_iload C0 dL_holds_568 rfl ?_
  refine g_iload C0 dL_holds_570 rfl ?_
  refine g_aload_n C0 dL_holds_572 rfl ?_
  refine g_iconst (v := nI 0) C0 dL_holds_573 (by decide +kernel) ?_
  refine g_iaload C0 dL_holds_574 ha (vp_in_nI (by decide) (by decide)) ?_
  rw [show (nI 0).toNatClampNeg = 0 from nI_clamp (by decide), hf]
  refine g_isub C0 dL_holds_575 ?_
  refine g_icmp_ne (tgt := 583) C0 dL_holds_576 (by decide) (fun z => absurd (sum_db r E) z) (fun _ => ?_)
  refine g_iconst (v := nI 1) C0 dL_holds_579 (by decide +kernel) ?_
  refine g_goto (tgt := 584) C0 dL_holds_580 (by decide) ?_
  exact g_zret C0 rfl rfl dL_holds_584 (by show 2082 ≤ 3000; decide) (by show 12492 ≤ 18000; decide) hK
set_option maxRecDepth 100000 in
set_option maxHeartbeats 4000000 in
theorem ho_in {X : CX} {S : SX} {q t : XS} {w : AW} {f : Nat → Int32} {b m B T : Nat} {n0 : Int32} (C0 : Ok X S ML_holds) (r : RX q t) (E : EI NB B T n0 q) (hB : B ≤ 10000) (hw : HC b w q w q) (ha : w[168]? = some (.inl (0, 1, .inl f))) (hf : f 0 = n0) (hm : m < 2 ^ 31) (hK : SK S (.inl (some (.int 1))) w) {k : Nat} {ch : Int32} (hkc : k < q.2 6) (kk : ∀ o11 o12 : Option Value, Gd X S ML_holds 536 [some (.ref b), some (.ref 168), some (.int (nI m)), some (.int (sI (q.1 8) 0 5)), some (.int (sI (q.1 2) 0 12)), some (.int (sI (q.1 9) 0 5)), some (.int (sI (q.1 11) 0 6)), some (.int (ch)), some (.int (nI 1)), some (.int (nI k)), some (.int (nI (lm t k))), o11, o12] [] w (292 + 30 * k + 20) (1752 + 180 * k + 120)) : ∀ n j s, j + n = lm t k + 1 → s < 32 → (∀ c, c < 5 → (∀ i, i < j → ¬ t.1 20 (5 * k + i) = nI c) → ((nI s >>> nI c) &&& 1) = 0) → Gd X S ML_holds 480 [some (.ref b), some (.ref 168), some (.int (nI m)), some (.int (sI (q.1 8) 0 5)), some (.int (sI (q.1 2) 0 12)), some (.int (sI (q.1 9) 0 5)), some (.int (sI (q.1 11) 0 6)), some (.int (ch)), some (.int (nI 1)), some (.int (nI k)), some (.int (nI (lm t k))), some (.int (nI s)), some (.int (nI j))] [] w (292 + 30 * k + 4 * j) (1752 + 180 * k + 24 * j) := by
  have h60 := r.c60
  have h4 : lm t k ≤ 4 := (r.g19 k).2
  intro n
  induction n with
  | zero =>
    intro j s hj _ _
    refine g_iload C0 dL_holds_480 rfl ?_
    refine g_iload C0 dL_holds_482 rfl ?_
    refine g_icmp_gt (tgt := 536) C0 dL_holds_484 (by decide) (fun _ => ?_) (fun z => absurd (nI_lt (by omega) (by omega)) z)
    refine g_widen (cs2 := 292 + 30 * k + 20) (ss2 := 1752 + 180 * k + 120) (by omega) (by omega) ?_
    exact kk _ _
  | succ n ih =>
    intro j s hj hs hb
    obtain ⟨c, hc, ec⟩ := vp_in_of (r.g20 (5 * k + j)) (by decide)
    obtain ⟨s2, hs2, es⟩ := (bit_32 s hs c hc 0 (by decide)).2
    refine g_iload C0 dL_holds_480 rfl ?_
    refine g_iload C0 dL_holds_482 rfl ?_
    refine g_icmp_gt (tgt := 536) C0 dL_holds_484 (by decide) (fun z => absurd z (nI_nlt (by omega) (by omega))) (fun _ => ?_)
    refine g_iload C0 dL_holds_487 rfl ?_
    refine g_if_eq (tgt := 536) C0 dL_holds_489 (by decide) (fun z => absurd z (by decide +kernel)) (fun _ => ?_)
    refine g_iload C0 dL_holds_492 rfl ?_
    refine g_aload_n C0 dL_holds_494 rfl ?_
    refine g_iload C0 dL_holds_495 rfl ?_
    refine g_iload C0 dL_holds_497 rfl ?_
    refine g_ct2 C0 dL_holds_499 CL_201 rfl ⟨by decide, by decide, (by show 292 + 30 * k + 4 * j + 2 ≤ 3000; omega), (by show 1752 + 180 * k + 24 * j + 12 ≤ 18000; omega)⟩ (Nat.le_of_ble_eq_true rfl) hw ((show CT ML_at [.int (nI k), .int (nI j)] q q (nI c) from by rw [← ec]; exact a_at r hkc (by omega))) ?_
    refine g_ishr C0 dL_holds_502 ?_
    rw [and31 hc]
    refine g_iconst (v := nI 1) C0 dL_holds_503 (by decide +kernel) ?_
    refine g_iand C0 dL_holds_504 ?_
    refine g_if_ne (tgt := 512) C0 dL_holds_505 (by decide) (fun z => absurd (hb c hc (fun i hi z => r.w20 k hkc i j hi (by show j ≤ lm t k; omega) (z.trans ec.symm))) z) (fun _ => ?_)
    refine g_iconst (v := nI 1) C0 dL_holds_508 (by decide +kernel) ?_
    refine g_goto (tgt := 513) C0 dL_holds_509 (by decide) ?_
    refine g_istore C0 dL_holds_513 (by decide) ?_
    refine g_iload C0 dL_holds_515 rfl ?_
    refine g_iconst (v := nI 1) C0 dL_holds_517 (by decide +kernel) ?_
    refine g_aload_n C0 dL_holds_518 rfl ?_
    refine g_iload C0 dL_holds_519 rfl ?_
    refine g_iload C0 dL_holds_521 rfl ?_
    refine g_ct2 C0 dL_holds_523 CL_201 rfl ⟨by decide, by decide, (by show 292 + 30 * k + 4 * j + 2 + 2 ≤ 3000; omega), (by show 1752 + 180 * k + 24 * j + 12 + 12 ≤ 18000; omega)⟩ (Nat.le_of_ble_eq_true rfl) hw ((show CT ML_at [.int (nI k), .int (nI j)] q q (nI c) from by rw [← ec]; exact a_at r hkc (by omega))) ?_
    refine g_ishl C0 dL_holds_526 ?_
    rw [and31 hc]
    refine g_ior C0 dL_holds_527 ?_
    rw [show nI s ||| nI 1 <<< nI c = nI s2 from es]
    refine g_istore C0 dL_holds_528 (by decide) ?_
    refine g_iinc (v := nI (j + 1)) C0 dL_holds_530 rfl (nI_1 _) (by decide) ?_
    refine g_goto (tgt := 480) C0 dL_holds_533 (by decide) ?_
    refine g_widen (cs2 := 292 + 30 * k + 4 * (j + 1)) (ss2 := 1752 + 180 * k + 24 * (j + 1)) (by show 292 + 30 * k + 4 * j + 2 + 2 ≤ _; omega) (by show 1752 + 180 * k + 24 * j + 12 + 12 ≤ _; omega) ?_
    refine ih (j + 1) s2 (by omega) hs2 (fun d hd hz => ?_)
    rw [← es, (bit_32 s hs c hc d hd).1, if_neg (fun z => hz j (by omega) (by rw [ec, z]))]
    exact hb d hd (fun i hi => hz i (by omega))
set_option maxRecDepth 100000 in
set_option maxHeartbeats 4000000 in
theorem ho_D {X : CX} {S : SX} {q t : XS} {w : AW} {f : Nat → Int32} {b m B T : Nat} {n0 : Int32} (C0 : Ok X S ML_holds) (r : RX q t) (E : EI NB B T n0 q) (hB : B ≤ 10000) (hw : HC b w q w q) (ha : w[168]? = some (.inl (0, 1, .inl f))) (hf : f 0 = n0) (hm : m < 2 ^ 31) (hK : SK S (.inl (some (.int 1))) w) : ∀ n k, k + n = q.2 6 → ∀ o10 o11 o12 : Option Value, Gd X S ML_holds 364 [some (.ref b), some (.ref 168), some (.int (nI m)), some (.int (sI (q.1 8) 0 5)), some (.int (sI (q.1 2) 0 12)), some (.int (sI (q.1 9) 0 5)), some (.int (sI (q.1 11) 0 6)), some (.int (sI (q.1 32) 0 k)), some (.int (nI 1)), some (.int (nI k)), o10, o11, o12] [] w (282 + 30 * k) (1692 + 180 * k) := by
  have h60 := r.c60
  intro n
  induction n with
  | zero =>
    intro k hk o10 o11 o12
    have ek : k = q.2 6 := by omega
    refine g_iload C0 dL_holds_364 rfl ?_
    refine g_aload_n C0 dL_holds_366 rfl ?_
    refine g_cv C0 dL_holds_367 CL_126 rfl ⟨by decide, by decide, (by show 282 + 30 * k + 0 ≤ 3000; omega), (by show 1692 + 180 * k + 0 ≤ 18000; omega)⟩ (Nat.le_of_ble_eq_true rfl) hw (c_calls q) ?_
    refine g_icmp_ge (tgt := 542) C0 dL_holds_370 (by decide) (fun _ => ?_) (fun z => absurd (by rw [ek]; exact Int32.le_refl _) z)
    refine g_widen (cs2 := 2082) (ss2 := 12492) (by show 282 + 30 * k + 0 ≤ _; omega) (by show 1692 + 180 * k + 0 ≤ _; omega) ?_
    subst ek
    exact ho_end C0 r E hB hw ha hf hm hK
  | succ n ih =>
    intro k hk o10 o11 o12
    have hkc : k < q.2 6 := by omega
    have h4 : lm t k ≤ 4 := (r.g19 k).2
    obtain ⟨cb, hcb, ec⟩ := E.cb k hkc
    have tm := (r.tm.2 k hkc).2.2
    have h20 := r.n20
    obtain ⟨u, hu, eu⟩ := vp_in_of (r.g20 (5 * k + lm t k)) (by decide)
    refine g_iload C0 dL_holds_364 rfl ?_
    refine g_aload_n C0 dL_holds_366 rfl ?_
    refine g_cv C0 dL_holds_367 CL_126 rfl ⟨by decide, by decide, (by show 282 + 30 * k + 0 ≤ 3000; omega), (by show 1692 + 180 * k + 0 ≤ 18000; omega)⟩ (Nat.le_of_ble_eq_true rfl) hw (c_calls q) ?_
    refine g_icmp_ge (tgt := 542) C0 dL_holds_370 (by decide) (fun z => absurd z (nI_ge (by omega) (by omega))) (fun _ => ?_)
    refine g_iload C0 dL_holds_373 rfl ?_
    refine g_if_eq (tgt := 542) C0 dL_holds_375 (by decide) (fun z => absurd z (by decide +kernel)) (fun _ => ?_)
    refine g_aload_n C0 dL_holds_378 rfl ?_
    refine g_iload C0 dL_holds_379 rfl ?_
    refine g_ct1 C0 dL_holds_381 CL_199 rfl ⟨by decide, by decide, (by show 282 + 30 * k + 0 + 1 ≤ 3000; omega), (by show 1692 + 180 * k + 0 + 6 ≤ 18000; omega)⟩ (Nat.le_of_ble_eq_true rfl) hw (a_trunks r hkc) ?_
    refine g_istore C0 dL_holds_384 (by decide) ?_
    refine g_iload C0 dL_holds_386 rfl ?_
    refine g_aload_n C0 dL_holds_388 rfl ?_
    refine g_iload C0 dL_holds_389 rfl ?_
    refine g_ct1 C0 dL_holds_391 CL_206 rfl ⟨by decide, by decide, (by show 282 + 30 * k + 0 + 1 + 1 ≤ 3000; omega), (by show 1692 + 180 * k + 0 + 6 + 6 ≤ 18000; omega)⟩ (Nat.le_of_ble_eq_true rfl) hw (a_charged r hkc) ?_
    refine g_iadd C0 dL_holds_394 ?_
    refine g_istore C0 dL_holds_395 (by decide) ?_
    refine g_aload_n C0 dL_holds_397 rfl ?_
    refine g_iload C0 dL_holds_398 rfl ?_
    refine g_ct1 C0 dL_holds_400 CL_206 rfl ⟨by decide, by decide, (by show 282 + 30 * k + 0 + 1 + 1 + 1 ≤ 3000; omega), (by show 1692 + 180 * k + 0 + 6 + 6 + 6 ≤ 18000; omega)⟩ (Nat.le_of_ble_eq_true rfl) hw (a_charged r hkc) ?_
    refine g_aload_n C0 dL_holds_403 rfl ?_
    refine g_iload C0 dL_holds_404 rfl ?_
    refine g_ct1 C0 dL_holds_406 CL_208 rfl ⟨by decide, by decide, (by show 282 + 30 * k + 0 + 1 + 1 + 1 + 1 ≤ 3000; omega), (by show 1692 + 180 * k + 0 + 6 + 6 + 6 + 6 ≤ 18000; omega)⟩ (Nat.le_of_ble_eq_true rfl) hw (a_chargedAnew r hkc) ?_
    refine g_icmp_ne (tgt := 471) C0 dL_holds_409 (by decide) (fun z => absurd rfl z) (fun _ => ?_)
    refine g_iload C0 dL_holds_412 rfl ?_
    refine g_if_lt (tgt := 471) C0 dL_holds_414 (by decide) (fun z => absurd z (nI_pos (by omega))) (fun _ => ?_)
    refine g_iload C0 dL_holds_417 rfl ?_
    refine g_iconst (v := nI 5) C0 dL_holds_419 (by decide +kernel) ?_
    refine g_icmp_ge (tgt := 471) C0 dL_holds_420 (by decide) (fun z => absurd z (nI_ge (by omega) (by omega))) (fun _ => ?_)
    refine g_aload_n C0 dL_holds_423 rfl ?_
    refine g_iload C0 dL_holds_424 rfl ?_
    refine g_ct1 C0 dL_holds_426 CL_206 rfl ⟨by decide, by decide, (by show 282 + 30 * k + 0 + 1 + 1 + 1 + 1 + 1 ≤ 3000; omega), (by show 1692 + 180 * k + 0 + 6 + 6 + 6 + 6 + 6 ≤ 18000; omega)⟩ (Nat.le_of_ble_eq_true rfl) hw (a_charged r hkc) ?_
    refine g_bipush (v := nI 9) C0 dL_holds_429 (by decide +kernel) ?_
    refine g_aload_n C0 dL_holds_431 rfl ?_
    refine g_iload C0 dL_holds_432 rfl ?_
    refine g_ct1 C0 dL_holds_434 CL_204 rfl ⟨by decide, by decide, (by show 282 + 30 * k + 0 + 1 + 1 + 1 + 1 + 1 + 1 ≤ 3000; omega), (by show 1692 + 180 * k + 0 + 6 + 6 + 6 + 6 + 6 + 6 ≤ 18000; omega)⟩ (Nat.le_of_ble_eq_true rfl) hw (a_seconds r hkc) ?_
    refine g_imul C0 dL_holds_437 ?_
    refine g_icmp_gt (tgt := 471) C0 dL_holds_438 (by decide) (fun z => absurd z (by rw [pk_mul, ec]; exact nI_nlt hcb (by omega))) (fun _ => ?_)
    refine g_aload_n C0 dL_holds_441 rfl ?_
    refine g_iload C0 dL_holds_442 rfl ?_
    refine g_iload C0 dL_holds_444 rfl ?_
    refine g_ct2 C0 dL_holds_446 CL_201 rfl ⟨by decide, by decide, (by show 282 + 30 * k + 0 + 1 + 1 + 1 + 1 + 1 + 1 + 2 ≤ 3000; omega), (by show 1692 + 180 * k + 0 + 6 + 6 + 6 + 6 + 6 + 6 + 12 ≤ 18000; omega)⟩ (Nat.le_of_ble_eq_true rfl) hw (a_at r hkc (Nat.le_refl _)) ?_
    refine g_if_lt (tgt := 471) C0 dL_holds_449 (by decide) (fun z => absurd z (by rw [eu]; exact nI_pos (by omega))) (fun _ => ?_)
    refine g_aload_n C0 dL_holds_452 rfl ?_
    refine g_iload C0 dL_holds_453 rfl ?_
    refine g_iload C0 dL_holds_455 rfl ?_
    refine g_iconst (v := nI 1) C0 dL_holds_457 (by decide +kernel) ?_
    refine g_addN C0 dL_holds_458 ?_
    refine g_ct2 C0 dL_holds_459 CL_201 rfl ⟨by decide, by decide, (by show 282 + 30 * k + 0 + 1 + 1 + 1 + 1 + 1 + 1 + 2 + 2 ≤ 3000; omega), (by show 1692 + 180 * k + 0 + 6 + 6 + 6 + 6 + 6 + 6 + 12 + 12 ≤ 18000; omega)⟩ (Nat.le_of_ble_eq_true rfl) hw (n_at2 r (okK hkc h60) (nI_pos (by omega)) (by rw [len_n r hkc]; exact nI_nlt (Nat.le_refl _) (by omega))) ?_
    refine g_ldc C0 KK0 dL_holds_462 ?_
    refine g_icmp_ne (tgt := 471) C0 dL_holds_464 (by decide) (fun z => absurd rfl z) (fun _ => ?_)
    refine g_iconst (v := nI 1) C0 dL_holds_467 (by decide +kernel) ?_
    refine g_goto (tgt := 472) C0 dL_holds_468 (by decide) ?_
    refine g_istore C0 dL_holds_472 (by decide) ?_
    refine g_iconst (v := nI 0) C0 dL_holds_474 (by decide +kernel) ?_
    refine g_istore C0 dL_holds_475 (by decide) ?_
    refine g_iconst (v := nI 0) C0 dL_holds_477 (by decide +kernel) ?_
    refine g_istore C0 dL_holds_478 (by decide) ?_
    refine g_widen (cs2 := 292 + 30 * k + 4 * 0) (ss2 := 1752 + 180 * k + 24 * 0) (by show 282 + 30 * k + 0 + 1 + 1 + 1 + 1 + 1 + 1 + 2 + 2 ≤ _; omega) (by show 1692 + 180 * k + 0 + 6 + 6 + 6 + 6 + 6 + 6 + 12 + 12 ≤ _; omega) ?_
    rw [sI_s (q.1 32) k]
    refine ho_in C0 r E hB hw ha hf hm hK hkc (fun p11 p12 => ?_) (lm t k + 1) 0 0 (by omega) (by decide) (fun c hc _ => ?_)
    · refine g_iinc (v := nI (k + 1)) C0 dL_holds_536 rfl (nI_1 _) (by decide) ?_
      refine g_goto (tgt := 364) C0 dL_holds_539 (by decide) ?_
      refine g_widen (cs2 := 282 + 30 * (k + 1)) (ss2 := 1692 + 180 * (k + 1)) (by omega) (by omega) ?_
      exact ih (k + 1) (by omega) _ _ _
    · have h2 : ∀ c : Fin 5, ((nI 0 >>> nI c) &&& 1) = 0 := by decide +kernel
      exact h2 ⟨c, hc⟩
set_option maxRecDepth 100000 in
set_option maxHeartbeats 4000000 in
theorem ho_C {X : CX} {S : SX} {q t : XS} {w : AW} {f : Nat → Int32} {b m B T : Nat} {n0 : Int32} (C0 : Ok X S ML_holds) (r : RX q t) (E : EI NB B T n0 q) (hB : B ≤ 10000) (hw : HC b w q w q) (ha : w[168]? = some (.inl (0, 1, .inl f))) (hf : f 0 = n0) (hm : m < 2 ^ 31) (hK : SK S (.inl (some (.int 1))) w) : ∀ n k, k + n = 12 → ∀ o10 o11 o12 : Option Value, Gd X S ML_holds 210 [some (.ref b), some (.ref 168), some (.int (nI m)), some (.int (sI (q.1 8) 0 5)), some (.int (sI (q.1 2) 0 k)), some (.int (sI (q.1 9) 0 5)), some (.int (sI (q.1 11) 0 6)), some (.int (nI 0)), some (.int (nI 1)), some (.int (nI k)), o10, o11, o12] [] w (78 + 17 * k) (468 + 102 * k) := by
  intro n
  induction n with
  | zero =>
    intro k hk o10 o11 o12
    obtain rfl : k = 12 := by omega
    refine g_iload C0 dL_holds_210 rfl ?_
    refine g_bipush (v := nI 12) C0 dL_holds_212 (by decide +kernel) ?_
    refine g_icmp_ge (tgt := 361) C0 dL_holds_214 (by decide) (fun _ => ?_) (fun z => absurd (Int32.le_refl _) z)
    refine g_iconst (v := nI 0) C0 dL_holds_361 (by decide +kernel) ?_
    refine g_istore C0 dL_holds_362 (by decide) ?_
    refine g_widen (cs2 := 282 + 30 * 0) (ss2 := 1692 + 180 * 0) (by decide) (by decide) ?_
    exact ho_D C0 r E hB hw ha hf hm hK (q.2 6) 0 (by omega) _ _ _
  | succ n ih =>
    intro k hk o10 o11 o12
    have hk12 : k < 12 := by omega
    have h20 := r.n20
    obtain ⟨d, ed, hd⟩ := r.gD k hk12
    obtain ⟨c, hc, e0⟩ := x0_in r hk12
    obtain ⟨p, hp, ep⟩ := place_in r E hk12 (nI 0)
    -- from 348 on
    have J3 : Gd X S ML_holds 348 [some (.ref b), some (.ref 168), some (.int (nI m)), some (.int (sI (q.1 8) 0 5)), some (.int (sI (q.1 2) 0 (k + 1))), some (.int (sI (q.1 9) 0 5)), some (.int (sI (q.1 11) 0 6)), some (.int (nI 0)), some (.int (nI 1)), some (.int (nI k)), some (.int (q.1 6 k)), o11, o12] [] w (78 + 17 * (k + 1)) (468 + 102 * (k + 1)) := by
      refine g_iconst (v := nI 1) C0 dL_holds_348 (by decide +kernel) ?_
      refine g_goto (tgt := 353) C0 dL_holds_349 (by decide) ?_
      refine g_istore C0 dL_holds_353 (by decide) ?_
      refine g_iinc (v := nI (k + 1)) C0 dL_holds_355 rfl (nI_1 _) (by decide) ?_
      refine g_goto (tgt := 210) C0 dL_holds_358 (by decide) ?_
      exact ih (k + 1) (by omega) _ _ _
    -- from 283 on
    have J2 : Gd X S ML_holds 283 [some (.ref b), some (.ref 168), some (.int (nI m)), some (.int (sI (q.1 8) 0 5)), some (.int (sI (q.1 2) 0 (k + 1))), some (.int (sI (q.1 9) 0 5)), some (.int (sI (q.1 11) 0 6)), some (.int (nI 0)), some (.int (nI 1)), some (.int (nI k)), some (.int (q.1 6 k)), o11, o12] [] w (78 + 17 * k + 7) (468 + 102 * k + 42) := by
      refine g_aload_n C0 dL_holds_283 rfl ?_
      refine g_aload_n C0 dL_holds_284 rfl ?_
      refine g_iload C0 dL_holds_285 rfl ?_
      refine g_ct1 C0 dL_holds_287 CL_146 rfl ⟨by decide, by decide, (by show 78 + 17 * k + 7 + 1 ≤ 3000; omega), (by show 468 + 102 * k + 42 + 6 ≤ 18000; omega)⟩ (Nat.le_of_ble_eq_true rfl) hw ((show CT ML_carrier [.int (nI k)] q q (nI c) from by rw [← e0]; exact a_carrier r hk12)) ?_
      refine g_iload C0 dL_holds_290 rfl ?_
      refine g_ct2 C0 dL_holds_292 CL_189 rfl ⟨by decide, by decide, (by show 78 + 17 * k + 7 + 1 + 2 ≤ 3000; omega), (by show 468 + 102 * k + 42 + 6 + 12 ≤ 18000; omega)⟩ (Nat.le_of_ble_eq_true rfl) hw ((show CT ML_believed [.int (nI c), .int (nI k)] q q (nI c) from by have h := a_believed r hc hk12; rw [known_own r E hk12 hc e0] at h; exact h)) ?_
      refine g_aload_n C0 dL_holds_295 rfl ?_
      refine g_iload C0 dL_holds_296 rfl ?_
      refine g_ct1 C0 dL_holds_298 CL_146 rfl ⟨by decide, by decide, (by show 78 + 17 * k + 7 + 1 + 2 + 1 ≤ 3000; omega), (by show 468 + 102 * k + 42 + 6 + 12 + 6 ≤ 18000; omega)⟩ (Nat.le_of_ble_eq_true rfl) hw ((show CT ML_carrier [.int (nI k)] q q (nI c) from by rw [← e0]; exact a_carrier r hk12)) ?_
      refine g_icmp_ne (tgt := 352) C0 dL_holds_301 (by decide) (fun z => absurd rfl z) (fun _ => ?_)
      refine g_aload_n C0 dL_holds_304 rfl ?_
      refine g_iload C0 dL_holds_305 rfl ?_
      refine g_aload_n C0 dL_holds_307 rfl ?_
      refine g_cv C0 dL_holds_308 CL_186 rfl ⟨by decide, by decide, (by show 78 + 17 * k + 7 + 1 + 2 + 1 + 0 ≤ 3000; omega), (by show 468 + 102 * k + 42 + 6 + 12 + 6 + 0 ≤ 18000; omega)⟩ (Nat.le_of_ble_eq_true rfl) hw (c_second q) ?_
      refine g_ct2 C0 dL_holds_311 CL_183 rfl ⟨by decide, by decide, (by show 78 + 17 * k + 7 + 1 + 2 + 1 + 0 + 2 ≤ 3000; omega), (by show 468 + 102 * k + 42 + 6 + 12 + 6 + 0 + 12 ≤ 18000; omega)⟩ (Nat.le_of_ble_eq_true rfl) hw ((show CT ML_then [.int (nI k), .int (nI (q.2 0))] q q (nI c) from by have h := a_then r hk12 (Nat.le_refl (q.2 0)); rw [placeAt_C r hk12, e0] at h; exact h)) ?_
      refine g_aload_n C0 dL_holds_314 rfl ?_
      refine g_iload C0 dL_holds_315 rfl ?_
      refine g_ct1 C0 dL_holds_317 CL_146 rfl ⟨by decide, by decide, (by show 78 + 17 * k + 7 + 1 + 2 + 1 + 0 + 2 + 1 ≤ 3000; omega), (by show 468 + 102 * k + 42 + 6 + 12 + 6 + 0 + 12 + 6 ≤ 18000; omega)⟩ (Nat.le_of_ble_eq_true rfl) hw ((show CT ML_carrier [.int (nI k)] q q (nI c) from by rw [← e0]; exact a_carrier r hk12)) ?_
      refine g_icmp_ne (tgt := 352) C0 dL_holds_320 (by decide) (fun z => absurd rfl z) (fun _ => ?_)
      refine g_aload_n C0 dL_holds_323 rfl ?_
      refine g_iload C0 dL_holds_324 rfl ?_
      refine g_iconst (v := nI 0) C0 dL_holds_326 (by decide +kernel) ?_
      refine g_ct2 C0 dL_holds_327 CL_183 rfl ⟨by decide, by decide, (by show 78 + 17 * k + 7 + 1 + 2 + 1 + 0 + 2 + 1 + 2 ≤ 3000; omega), (by show 468 + 102 * k + 42 + 6 + 12 + 6 + 0 + 12 + 6 + 12 ≤ 18000; omega)⟩ (Nat.le_of_ble_eq_true rfl) hw ((show CT ML_then [.int (nI k), .int (nI 0)] q q (nI p) from by have h := a_then r hk12 (Nat.zero_le (q.2 0)); rw [ep] at h; exact h)) ?_
      refine g_if_lt (tgt := 352) C0 dL_holds_330 (by decide) (fun z => absurd z (nI_pos (by omega))) (fun _ => ?_)
      refine g_iload C0 dL_holds_333 rfl ?_
      refine g_iconst (v := -1) C0 dL_holds_335 (by decide) ?_
      refine g_icmp_eq (tgt := 348) C0 dL_holds_336 (by decide) (fun _ => ?_) (fun h9 => ?_)
      · refine g_widen (cs2 := 78 + 17 * (k + 1)) (ss2 := 468 + 102 * (k + 1)) (by show 78 + 17 * k + 7 + 1 + 2 + 1 + 0 + 2 + 1 + 2 + 0 ≤ _; omega) (by show 468 + 102 * k + 42 + 6 + 12 + 6 + 0 + 12 + 6 + 12 + 0 ≤ _; omega) ?_
        exact J3
      · rcases talk_on r hk12 with z | ⟨c6, hk6, ek6, e31⟩
        · exact absurd z h9
        refine g_aload_n C0 dL_holds_339 rfl ?_
        refine g_iload C0 dL_holds_340 rfl ?_
        refine g_ct1 C0 dL_holds_342 CL_197 rfl ⟨by decide, by decide, (by show 78 + 17 * k + 7 + 1 + 2 + 1 + 0 + 2 + 1 + 2 + 1 ≤ 3000; omega), (by show 468 + 102 * k + 42 + 6 + 12 + 6 + 0 + 12 + 6 + 12 + 6 ≤ 18000; omega)⟩ (Nat.le_of_ble_eq_true rfl) hw ((show CT ML_state [.int (q.1 6 k)] q q 0 from by rw [ek6, ← e31]; exact a_state r hk6)) ?_
        refine g_if_ne (tgt := 352) C0 dL_holds_345 (by decide) (fun z => absurd rfl z) (fun _ => ?_)
        refine g_widen (cs2 := 78 + 17 * (k + 1)) (ss2 := 468 + 102 * (k + 1)) (by show 78 + 17 * k + 7 + 1 + 2 + 1 + 0 + 2 + 1 + 2 + 1 + 0 ≤ _; omega) (by show 468 + 102 * k + 42 + 6 + 12 + 6 + 0 + 12 + 6 + 12 + 6 + 0 ≤ _; omega) ?_
        exact J3
    refine g_iload C0 dL_holds_210 rfl ?_
    refine g_bipush (v := nI 12) C0 dL_holds_212 (by decide +kernel) ?_
    refine g_icmp_ge (tgt := 361) C0 dL_holds_214 (by decide) (fun z => absurd z (nI_ge (by omega) (by omega))) (fun _ => ?_)
    refine g_iload C0 dL_holds_217 rfl ?_
    refine g_if_eq (tgt := 361) C0 dL_holds_219 (by decide) (fun z => absurd z (by decide +kernel)) (fun _ => ?_)
    refine g_aload_n C0 dL_holds_222 rfl ?_
    refine g_iload C0 dL_holds_223 rfl ?_
    refine g_ct1 C0 dL_holds_225 CL_175 rfl ⟨by decide, by decide, (by show 78 + 17 * k + 1 ≤ 3000; omega), (by show 468 + 102 * k + 6 ≤ 18000; omega)⟩ (Nat.le_of_ble_eq_true rfl) hw (a_callOf r hk12) ?_
    refine g_istore C0 dL_holds_228 (by decide) ?_
    refine g_iload C0 dL_holds_230 rfl ?_
    refine g_aload_n C0 dL_holds_232 rfl ?_
    refine g_iload C0 dL_holds_233 rfl ?_
    refine g_ct1 C0 dL_holds_235 CL_164 rfl ⟨by decide, by decide, (by show 78 + 17 * k + 1 + 1 ≤ 3000; omega), (by show 468 + 102 * k + 6 + 6 ≤ 18000; omega)⟩ (Nat.le_of_ble_eq_true rfl) hw (a_debt r hk12) ?_
    refine g_iadd C0 dL_holds_238 ?_
    refine g_istore C0 dL_holds_239 (by decide) ?_
    refine g_aload_n C0 dL_holds_241 rfl ?_
    refine g_iload C0 dL_holds_242 rfl ?_
    refine g_ct1 C0 dL_holds_244 CL_164 rfl ⟨by decide, by decide, (by show 78 + 17 * k + 1 + 1 + 1 ≤ 3000; omega), (by show 468 + 102 * k + 6 + 6 + 6 ≤ 18000; omega)⟩ (Nat.le_of_ble_eq_true rfl) hw (a_debt r hk12) ?_
    refine g_aload_n C0 dL_holds_247 rfl ?_
    refine g_iload C0 dL_holds_248 rfl ?_
    refine g_ct1 C0 dL_holds_250 CL_191 rfl ⟨by decide, by decide, (by show 78 + 17 * k + 1 + 1 + 1 + 1 ≤ 3000; omega), (by show 468 + 102 * k + 6 + 6 + 6 + 6 ≤ 18000; omega)⟩ (Nat.le_of_ble_eq_true rfl) hw (a_debtAnew r hk12) ?_
    refine g_icmp_ne (tgt := 352) C0 dL_holds_253 (by decide) (fun z => absurd rfl z) (fun _ => ?_)
    refine g_aload_n C0 dL_holds_256 rfl ?_
    refine g_iload C0 dL_holds_257 rfl ?_
    refine g_ct1 C0 dL_holds_259 CL_164 rfl ⟨by decide, by decide, (by show 78 + 17 * k + 1 + 1 + 1 + 1 + 1 ≤ 3000; omega), (by show 468 + 102 * k + 6 + 6 + 6 + 6 + 6 ≤ 18000; omega)⟩ (Nat.le_of_ble_eq_true rfl) hw (a_debt r hk12) ?_
    refine g_if_lt (tgt := 352) C0 dL_holds_262 (by decide) (fun z => absurd z (by rw [ed]; exact nI_pos (by omega))) (fun _ => ?_)
    refine g_aload_n C0 dL_holds_265 rfl ?_
    refine g_iload C0 dL_holds_266 rfl ?_
    refine g_ct1 C0 dL_holds_268 CL_169 rfl ⟨by decide, by decide, (by show 78 + 17 * k + 1 + 1 + 1 + 1 + 1 + 1 ≤ 3000; omega), (by show 468 + 102 * k + 6 + 6 + 6 + 6 + 6 + 6 ≤ 18000; omega)⟩ (Nat.le_of_ble_eq_true rfl) hw (a_barred r hk12) ?_
    rw [sI_s (q.1 2) k]
    by_cases h5 : q.1 5 k = 0
    · refine g_if_eq (tgt := 283) C0 dL_holds_271 (by decide) (fun _ => ?_) (fun z => absurd (if_pos h5) z)
      refine g_widen (cs2 := 78 + 17 * k + 7) (ss2 := 468 + 102 * k + 42) (by show 78 + 17 * k + 1 + 1 + 1 + 1 + 1 + 1 + 0 ≤ _; omega) (by show 468 + 102 * k + 6 + 6 + 6 + 6 + 6 + 6 + 0 ≤ _; omega) ?_
      exact J2
    · have hd0 : d ≠ 0 := fun z => E.br k hk12 h5 (by rw [ed, z]; exact nI_0)
      refine g_if_eq (tgt := 283) C0 dL_holds_271 (by decide) (fun z => absurd (if_neg h5 ▸ z) (by decide +kernel)) (fun _ => ?_)
      refine g_aload_n C0 dL_holds_274 rfl ?_
      refine g_iload C0 dL_holds_275 rfl ?_
      refine g_ct1 C0 dL_holds_277 CL_164 rfl ⟨by decide, by decide, (by show 78 + 17 * k + 1 + 1 + 1 + 1 + 1 + 1 + 1 ≤ 3000; omega), (by show 468 + 102 * k + 6 + 6 + 6 + 6 + 6 + 6 + 6 ≤ 18000; omega)⟩ (Nat.le_of_ble_eq_true rfl) hw (a_debt r hk12) ?_
      refine g_if_le (tgt := 352) C0 dL_holds_280 (by decide) (fun z => absurd z (by rw [ed]; exact nI_nle (by omega) (by omega))) (fun _ => ?_)
      refine g_widen (cs2 := 78 + 17 * k + 7) (ss2 := 468 + 102 * k + 42) (by show 78 + 17 * k + 1 + 1 + 1 + 1 + 1 + 1 + 1 + 0 ≤ _; omega) (by show 468 + 102 * k + 6 + 6 + 6 + 6 + 6 + 6 + 6 + 0 ≤ _; omega) ?_
      exact J2
set_option maxRecDepth 100000 in
set_option maxHeartbeats 4000000 in
theorem ho_B {X : CX} {S : SX} {q t : XS} {w : AW} {f : Nat → Int32} {b m B T : Nat} {n0 : Int32} (C0 : Ok X S ML_holds) (r : RX q t) (E : EI NB B T n0 q) (hB : B ≤ 10000) (hw : HC b w q w q) (ha : w[168]? = some (.inl (0, 1, .inl f))) (hf : f 0 = n0) (hm : m < 2 ^ 31) (hK : SK S (.inl (some (.int 1))) w) : ∀ n k, k + n = 6 → ∀ o10 o11 o12 : Option Value, Gd X S ML_holds 156 [some (.ref b), some (.ref 168), some (.int (nI m)), some (.int (sI (q.1 8) 0 5)), some (.int (nI 0)), some (.int (sI (q.1 9) 0 5)), some (.int (sI (q.1 11) 0 k)), some (.int (nI 0)), some (.int (nI 1)), some (.int (nI k)), o10, o11, o12] [] w (60 + 3 * k) (360 + 18 * k) := by
  intro n
  induction n with
  | zero =>
    intro k hk o10 o11 o12
    obtain rfl : k = 6 := by omega
    refine g_iload C0 dL_holds_156 rfl ?_
    refine g_bipush (v := nI 6) C0 dL_holds_158 (by decide +kernel) ?_
    refine g_icmp_ge (tgt := 207) C0 dL_holds_160 (by decide) (fun _ => ?_) (fun z => absurd (Int32.le_refl _) z)
    refine g_iconst (v := nI 0) C0 dL_holds_207 (by decide +kernel) ?_
    refine g_istore C0 dL_holds_208 (by decide) ?_
    refine g_widen (cs2 := 78 + 17 * 0) (ss2 := 468 + 102 * 0) (by decide) (by decide) ?_
    exact ho_C C0 r E hB hw ha hf hm hK 12 0 (by omega) _ _ _
  | succ n ih =>
    intro k hk o10 o11 o12
    have hk6 : k < 6 := by omega
    refine g_iload C0 dL_holds_156 rfl ?_
    refine g_bipush (v := nI 6) C0 dL_holds_158 (by decide +kernel) ?_
    refine g_icmp_ge (tgt := 207) C0 dL_holds_160 (by decide) (fun z => absurd z (nI_ge (by omega) (by omega))) (fun _ => ?_)
    refine g_iload C0 dL_holds_163 rfl ?_
    refine g_if_eq (tgt := 207) C0 dL_holds_165 (by decide) (fun z => absurd z (by decide +kernel)) (fun _ => ?_)
    refine g_iload C0 dL_holds_168 rfl ?_
    refine g_aload_n C0 dL_holds_170 rfl ?_
    refine g_iload C0 dL_holds_171 rfl ?_
    refine g_ct1 C0 dL_holds_173 CL_216 rfl ⟨by decide, by decide, (by show 60 + 3 * k + 1 ≤ 3000; omega), (by show 360 + 18 * k + 6 ≤ 18000; omega)⟩ (Nat.le_of_ble_eq_true rfl) hw (a_spent r hk6) ?_
    refine g_iadd C0 dL_holds_176 ?_
    refine g_istore C0 dL_holds_177 (by decide) ?_
    refine g_aload_n C0 dL_holds_179 rfl ?_
    refine g_iload C0 dL_holds_180 rfl ?_
    refine g_ct1 C0 dL_holds_182 CL_216 rfl ⟨by decide, by decide, (by show 60 + 3 * k + 1 + 1 ≤ 3000; omega), (by show 360 + 18 * k + 6 + 6 ≤ 18000; omega)⟩ (Nat.le_of_ble_eq_true rfl) hw (a_spent r hk6) ?_
    refine g_aload_n C0 dL_holds_185 rfl ?_
    refine g_iload C0 dL_holds_186 rfl ?_
    refine g_ct1 C0 dL_holds_188 CL_218 rfl ⟨by decide, by decide, (by show 60 + 3 * k + 1 + 1 + 1 ≤ 3000; omega), (by show 360 + 18 * k + 6 + 6 + 6 ≤ 18000; omega)⟩ (Nat.le_of_ble_eq_true rfl) hw (a_spentAnew r hk6) ?_
    refine g_icmp_ne (tgt := 198) C0 dL_holds_191 (by decide) (fun z => absurd rfl z) (fun _ => ?_)
    refine g_iconst (v := nI 1) C0 dL_holds_194 (by decide +kernel) ?_
    refine g_goto (tgt := 199) C0 dL_holds_195 (by decide) ?_
    refine g_istore C0 dL_holds_199 (by decide) ?_
    refine g_iinc (v := nI (k + 1)) C0 dL_holds_201 rfl (nI_1 _) (by decide) ?_
    refine g_goto (tgt := 156) C0 dL_holds_204 (by decide) ?_
    refine g_widen (cs2 := 60 + 3 * (k + 1)) (ss2 := 360 + 18 * (k + 1)) (by show 60 + 3 * k + 1 + 1 + 1 ≤ _; omega) (by show 360 + 18 * k + 6 + 6 + 6 ≤ _; omega) ?_
    rw [sI_s (q.1 11) k]
    exact ih (k + 1) (by omega) _ _ _
set_option maxRecDepth 100000 in
set_option maxHeartbeats 4000000 in
theorem ho_A {X : CX} {S : SX} {q t : XS} {w : AW} {f : Nat → Int32} {b m B T : Nat} {n0 : Int32} (C0 : Ok X S ML_holds) (r : RX q t) (E : EI NB B T n0 q) (hB : B ≤ 10000) (hw : HC b w q w q) (ha : w[168]? = some (.inl (0, 1, .inl f))) (hf : f 0 = n0) (hm : m < 2 ^ 31) (hK : SK S (.inl (some (.int 1))) w) : ∀ n k, k + n = 5 → ∀ o10 o11 o12 : Option Value, Gd X S ML_holds 20 [some (.ref b), some (.ref 168), some (.int (nI m)), some (.int (sI (q.1 8) 0 k)), some (.int (nI 0)), some (.int (sI (q.1 9) 0 k)), some (.int (nI 0)), some (.int (nI 0)), some (.int (nI 1)), some (.int (nI k)), o10, o11, o12] [] w (12 * k) (72 * k) := by
  intro n
  induction n with
  | zero =>
    intro k hk o10 o11 o12
    obtain rfl : k = 5 := by omega
    refine g_iload C0 dL_holds_20 rfl ?_
    refine g_iconst (v := nI 5) C0 dL_holds_22 (by decide +kernel) ?_
    refine g_icmp_ge (tgt := 153) C0 dL_holds_23 (by decide) (fun _ => ?_) (fun z => absurd (Int32.le_refl _) z)
    refine g_iconst (v := nI 0) C0 dL_holds_153 (by decide +kernel) ?_
    refine g_istore C0 dL_holds_154 (by decide) ?_
    refine g_widen (cs2 := 60 + 3 * 0) (ss2 := 360 + 18 * 0) (by decide) (by decide) ?_
    exact ho_B C0 r E hB hw ha hf hm hK 6 0 (by omega) _ _ _
  | succ n ih =>
    intro k hk o10 o11 o12
    have hk5 : k < 5 := by omega
    obtain ⟨ml, hml, el⟩ := E.ls k hk5
    refine g_iload C0 dL_holds_20 rfl ?_
    refine g_iconst (v := nI 5) C0 dL_holds_22 (by decide +kernel) ?_
    refine g_icmp_ge (tgt := 153) C0 dL_holds_23 (by decide) (fun z => absurd z (nI_ge (by omega) (by omega))) (fun _ => ?_)
    refine g_iload C0 dL_holds_26 rfl ?_
    refine g_if_eq (tgt := 153) C0 dL_holds_28 (by decide) (fun z => absurd z (by decide +kernel)) (fun _ => ?_)
    refine g_iload_n C0 dL_holds_31 rfl ?_
    refine g_aload_n C0 dL_holds_32 rfl ?_
    refine g_iload C0 dL_holds_33 rfl ?_
    refine g_ct1 C0 dL_holds_35 CL_210 rfl ⟨by decide, by decide, (by show 12 * k + 1 ≤ 3000; omega), (by show 72 * k + 6 ≤ 18000; omega)⟩ (Nat.le_of_ble_eq_true rfl) hw (a_coins r hk5) ?_
    refine g_iadd C0 dL_holds_38 ?_
    refine g_istore_n C0 dL_holds_39 (by decide) ?_
    refine g_iload C0 dL_holds_40 rfl ?_
    refine g_aload_n C0 dL_holds_42 rfl ?_
    refine g_iload C0 dL_holds_43 rfl ?_
    refine g_ct1 C0 dL_holds_45 CL_212 rfl ⟨by decide, by decide, (by show 12 * k + 1 + 1 ≤ 3000; omega), (by show 72 * k + 6 + 6 ≤ 18000; omega)⟩ (Nat.le_of_ble_eq_true rfl) hw (a_earned r hk5) ?_
    refine g_iadd C0 dL_holds_48 ?_
    refine g_istore C0 dL_holds_49 (by decide) ?_
    refine g_aload_n C0 dL_holds_51 rfl ?_
    refine g_iload C0 dL_holds_52 rfl ?_
    refine g_ct1 C0 dL_holds_54 CL_212 rfl ⟨by decide, by decide, (by show 12 * k + 1 + 1 + 1 ≤ 3000; omega), (by show 72 * k + 6 + 6 + 6 ≤ 18000; omega)⟩ (Nat.le_of_ble_eq_true rfl) hw (a_earned r hk5) ?_
    refine g_aload_n C0 dL_holds_57 rfl ?_
    refine g_iload C0 dL_holds_58 rfl ?_
    refine g_ct1 C0 dL_holds_60 CL_214 rfl ⟨by decide, by decide, (by show 12 * k + 1 + 1 + 1 + 1 ≤ 3000; omega), (by show 72 * k + 6 + 6 + 6 + 6 ≤ 18000; omega)⟩ (Nat.le_of_ble_eq_true rfl) hw (a_earnedAnew r hk5) ?_
    refine g_icmp_ne (tgt := 144) C0 dL_holds_63 (by decide) (fun z => absurd rfl z) (fun _ => ?_)
    refine g_aload_n C0 dL_holds_66 rfl ?_
    refine g_iload C0 dL_holds_67 rfl ?_
    refine g_ct1 C0 dL_holds_69 CL_220 rfl ⟨by decide, by decide, (by show 12 * k + 1 + 1 + 1 + 1 + 1 ≤ 3000; omega), (by show 72 * k + 6 + 6 + 6 + 6 + 6 ≤ 18000; omega)⟩ (Nat.le_of_ble_eq_true rfl) hw ((show CT ML_losses [.int (nI k)] q q (nI (5 * ml)) from by rw [← el]; exact a_losses r hk5)) ?_
    refine g_if_lt (tgt := 144) C0 dL_holds_72 (by decide) (fun z => absurd z (nI_pos (by omega))) (fun _ => ?_)
    refine g_aload_n C0 dL_holds_75 rfl ?_
    refine g_iload C0 dL_holds_76 rfl ?_
    refine g_ct1 C0 dL_holds_78 CL_220 rfl ⟨by decide, by decide, (by show 12 * k + 1 + 1 + 1 + 1 + 1 + 1 ≤ 3000; omega), (by show 72 * k + 6 + 6 + 6 + 6 + 6 + 6 ≤ 18000; omega)⟩ (Nat.le_of_ble_eq_true rfl) hw ((show CT ML_losses [.int (nI k)] q q (nI (5 * ml)) from by rw [← el]; exact a_losses r hk5)) ?_
    refine g_iconst (v := nI 5) C0 dL_holds_81 (by decide +kernel) ?_
    refine g_remN C0 dL_holds_82 (by decide) (by decide) (by omega) ?_
    refine g_if_ne (tgt := 144) C0 dL_holds_83 (by decide) (fun z => absurd (by rw [show 5 * ml % 5 = 0 by omega]; exact nI_0) z) (fun _ => ?_)
    refine g_aload_n C0 dL_holds_86 rfl ?_
    refine g_iload C0 dL_holds_87 rfl ?_
    refine g_iload C0 dL_holds_89 rfl ?_
    refine g_iconst (v := nI 1) C0 dL_holds_91 (by decide +kernel) ?_
    refine g_addN C0 dL_holds_92 ?_
    refine g_iload_n C0 dL_holds_93 rfl ?_
    refine g_iconst (v := nI 4) C0 dL_holds_94 (by decide +kernel) ?_
    refine g_remN C0 dL_holds_95 (by decide) (by decide) (by omega) ?_
    refine g_addN C0 dL_holds_96 ?_
    refine g_iconst (v := nI 5) C0 dL_holds_97 (by decide +kernel) ?_
    refine g_remN C0 dL_holds_98 (by decide) (by decide) (by omega) ?_
    refine g_ct2 C0 dL_holds_99 CL_193 rfl ⟨by decide, by decide, (by show 12 * k + 1 + 1 + 1 + 1 + 1 + 1 + 2 ≤ 3000; omega), (by show 72 * k + 6 + 6 + 6 + 6 + 6 + 6 + 12 ≤ 18000; omega)⟩ (Nat.le_of_ble_eq_true rfl) hw (a_free r hk5 (show (k + 1 + m % 4) % 5 < 5 by omega) (by omega)) ?_
    refine g_if_lt (tgt := 144) C0 dL_holds_102 (by decide) (fun z => absurd z (xleft_0 E (show k < 5 from hk5) (show (k + 1 + m % 4) % 5 < 5 by omega) (by omega))) (fun _ => ?_)
    refine g_aload_n C0 dL_holds_105 rfl ?_
    refine g_iload C0 dL_holds_106 rfl ?_
    refine g_iload C0 dL_holds_108 rfl ?_
    refine g_iconst (v := nI 1) C0 dL_holds_110 (by decide +kernel) ?_
    refine g_addN C0 dL_holds_111 ?_
    refine g_iload_n C0 dL_holds_112 rfl ?_
    refine g_iconst (v := nI 4) C0 dL_holds_113 (by decide +kernel) ?_
    refine g_remN C0 dL_holds_114 (by decide) (by decide) (by omega) ?_
    refine g_addN C0 dL_holds_115 ?_
    refine g_iconst (v := nI 5) C0 dL_holds_116 (by decide +kernel) ?_
    refine g_remN C0 dL_holds_117 (by decide) (by decide) (by omega) ?_
    refine g_ct2 C0 dL_holds_118 CL_193 rfl ⟨by decide, by decide, (by show 12 * k + 1 + 1 + 1 + 1 + 1 + 1 + 2 + 2 ≤ 3000; omega), (by show 72 * k + 6 + 6 + 6 + 6 + 6 + 6 + 12 + 12 ≤ 18000; omega)⟩ (Nat.le_of_ble_eq_true rfl) hw (a_free r hk5 (show (k + 1 + m % 4) % 5 < 5 by omega) (by omega)) ?_
    refine g_aload_n C0 dL_holds_121 rfl ?_
    refine g_iload C0 dL_holds_122 rfl ?_
    refine g_iconst (v := nI 1) C0 dL_holds_124 (by decide +kernel) ?_
    refine g_addN C0 dL_holds_125 ?_
    refine g_iload_n C0 dL_holds_126 rfl ?_
    refine g_iconst (v := nI 4) C0 dL_holds_127 (by decide +kernel) ?_
    refine g_remN C0 dL_holds_128 (by decide) (by decide) (by omega) ?_
    refine g_addN C0 dL_holds_129 ?_
    refine g_iconst (v := nI 5) C0 dL_holds_130 (by decide +kernel) ?_
    refine g_remN C0 dL_holds_131 (by decide) (by decide) (by omega) ?_
    refine g_iload C0 dL_holds_132 rfl ?_
    refine g_ct2 C0 dL_holds_134 CL_193 rfl ⟨by decide, by decide, (by show 12 * k + 1 + 1 + 1 + 1 + 1 + 1 + 2 + 2 + 2 ≤ 3000; omega), (by show 72 * k + 6 + 6 + 6 + 6 + 6 + 6 + 12 + 12 + 12 ≤ 18000; omega)⟩ (Nat.le_of_ble_eq_true rfl) hw (a_free r (show (k + 1 + m % 4) % 5 < 5 by omega) hk5 (by omega)) ?_
    refine g_icmp_ne (tgt := 144) C0 dL_holds_137 (by decide) (fun z => absurd (xleft_s q (show k < 5 from hk5) (show (k + 1 + m % 4) % 5 < 5 by omega) (by omega)) z) (fun _ => ?_)
    refine g_iconst (v := nI 1) C0 dL_holds_140 (by decide +kernel) ?_
    refine g_goto (tgt := 145) C0 dL_holds_141 (by decide) ?_
    refine g_istore C0 dL_holds_145 (by decide) ?_
    refine g_iinc (v := nI (k + 1)) C0 dL_holds_147 rfl (nI_1 _) (by decide) ?_
    refine g_goto (tgt := 20) C0 dL_holds_150 (by decide) ?_
    refine g_widen (cs2 := 12 * (k + 1)) (ss2 := 72 * (k + 1)) (by show 12 * k + 1 + 1 + 1 + 1 + 1 + 1 + 2 + 2 + 2 ≤ _; omega) (by show 72 * k + 6 + 6 + 6 + 6 + 6 + 6 + 12 + 12 + 12 ≤ _; omega) ?_
    rw [sI_s (q.1 8) k, sI_s (q.1 9) k]
    exact ih (k + 1) (by omega) _ _ _
set_option maxRecDepth 100000 in
set_option maxHeartbeats 4000000 in
theorem k_holds {q : XS} {w : AW} {f : Nat → Int32} {b m B T : Nat} {n0 : Int32} {K : AO → AW → Prop} (I : IV B T n0 q) (hB : B ≤ 10000) (hw : HC b w q w q) (ha : w[168]? = some (.inl (0, 1, .inl f))) (hf : f 0 = n0) (hm : m < 2 ^ 31) (hK : K (.inl (some (.int 1))) w) : Snd ML_holds [.ref b, .ref 168, .int (nI m)] w K := by
  obtain ⟨t, r, E⟩ := I
  refine Snd.of (by decide +kernel) (Nat.le_of_ble_eq_true rfl) rfl rfl ?_
  intro X D dA ad C0
  show Gd X _ ML_holds 0 [some (.ref b), some (.ref 168), some (.int (nI m)), none, none, none, none, none, none, none, none, none, none] [] _ 0 0
  refine g_iconst (v := nI 0) C0 dL_holds_0 (by decide +kernel) ?_
  refine g_istore_n C0 dL_holds_1 (by decide) ?_
  refine g_iconst (v := nI 0) C0 dL_holds_2 (by decide +kernel) ?_
  refine g_istore C0 dL_holds_3 (by decide) ?_
  refine g_iconst (v := nI 0) C0 dL_holds_5 (by decide +kernel) ?_
  refine g_istore C0 dL_holds_6 (by decide) ?_
  refine g_iconst (v := nI 0) C0 dL_holds_8 (by decide +kernel) ?_
  refine g_istore C0 dL_holds_9 (by decide) ?_
  refine g_iconst (v := nI 0) C0 dL_holds_11 (by decide +kernel) ?_
  refine g_istore C0 dL_holds_12 (by decide) ?_
  refine g_iconst (v := nI 1) C0 dL_holds_14 (by decide +kernel) ?_
  refine g_istore C0 dL_holds_15 (by decide) ?_
  refine g_iconst (v := nI 0) C0 dL_holds_17 (by decide +kernel) ?_
  refine g_istore C0 dL_holds_18 (by decide) ?_
  refine g_widen (cs2 := 12 * 0) (ss2 := 72 * 0) (by decide) (by decide) ?_
  exact ho_A C0 r E hB hw ha hf hm hK 5 0 (by omega) _ _ _

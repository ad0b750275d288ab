/-! ===== the law's loop ===== -/
theorem t63 (x : Int32) : ∃ v : Nat, v < 64 ∧ (x &&& 63).toInt = (v : Int) := by
  have h : (x &&& 63).toBitVec.toNat < 64 := by
    show (x.toBitVec &&& 63#32).toNat < 64
    rw [BitVec.toNat_and]
    exact Nat.lt_of_le_of_lt Nat.and_le_right (by decide)
  refine ⟨(x &&& 63).toBitVec.toNat, h, ?_⟩
  show (x &&& 63).toBitVec.toInt = _
  rw [BitVec.toInt_eq_toNat_cond, if_pos (by omega)]
theorem sub_ltL {L i : Nat} (hL : L < 100000) (hi : i < 100000) : nI L - nI 4 < nI i ↔ L < i + 4 := by
  rw [Int32.lt_iff_toInt_lt, pk_sub_toInt (by omega) (by omega), nI_toInt (by omega)]
  omega
set_option maxRecDepth 100000 in
set_option maxHeartbeats 4000000 in
theorem lp_law {X : CX} {D : va_G} {dA : Nat → ClassId} {w0 : AW} {ad0 : Nat → Nat} {K : AO → AW → Prop} {L : Nat} {xs : Nat → Int32} (C0 : Ok X (D, dA, w0, ad0, K) ML_law) (SC : SCR X (D, dA, w0, ad0, K) 110 L xs) (hw0 : w0.length = 110) (hL : L ≤ 2048) (hK : ∀ w, K (.inl (some (.int 1))) w) : ∀ (n j : Nat) (q t : XS) (f : Nat → Int64) (o5 o6 : Option Value), RX q t → L ≤ 4 * j + 4 * n → j ≤ 513 → Gd X (D, dA, w0, ad0, K) ML_law 23 [some (.ref 110), some (.ref 0), some (.ref 84), some (.ref 109), some (.int (nI (4 * j))), o5, o6] [] (W3 q t f) (200 + 12 * j) (20000 + 72 * j) := by
  intro n
  induction n with
  | zero =>
    intro j q t f o5 o6 rx hj hj2
    refine g_iload C0 dL_law_23 rfl ?_
    refine g_aload_n C0 dL_law_25 rfl ?_
    refine g_slen C0 SC (W3l hw0) dL_law_26 ?_
    refine g_iconst (v := nI 4) C0 dL_law_27 (by decide +kernel) ?_
    refine g_isub C0 dL_law_28 ?_
    refine g_icmp_gt (tgt := 2353) C0 dL_law_29 (by decide) (fun _ => ?_) (fun z => absurd ((sub_ltL (L := L) (i := 4 * j) (by omega) (by omega)).mpr (by omega)) z)
    refine g_iconst (v := 1) C0 dL_law_2353 (by decide) ?_
    refine g_zret C0 rfl rfl dL_law_2354 (by show 200 + 12 * j ≤ 601024; omega) (by show 20000 + 72 * j ≤ 7293034; omega) ?_
    exact hK _
  | succ n ih =>
    intro j q t f o5 o6 rx hj hj2
    refine g_iload C0 dL_law_23 rfl ?_
    refine g_aload_n C0 dL_law_25 rfl ?_
    refine g_slen C0 SC (W3l hw0) dL_law_26 ?_
    refine g_iconst (v := nI 4) C0 dL_law_27 (by decide +kernel) ?_
    refine g_isub C0 dL_law_28 ?_
    by_cases hend : L < 4 * j + 4
    · refine g_icmp_gt (tgt := 2353) C0 dL_law_29 (by decide) (fun _ => ?_) (fun z => absurd ((sub_ltL (L := L) (i := 4 * j) (by omega) (by omega)).mpr hend) z)
      refine g_iconst (v := 1) C0 dL_law_2353 (by decide) ?_
      refine g_zret C0 rfl rfl dL_law_2354 (by show 200 + 12 * j ≤ 601024; omega) (by show 20000 + 72 * j ≤ 7293034; omega) ?_
      exact hK _
    · refine g_icmp_gt (tgt := 2353) C0 dL_law_29 (by decide) (fun z => absurd ((sub_ltL (L := L) (i := 4 * j) (by omega) (by omega)).mp z) hend) (fun _ => ?_)
      have hn : ∀ (q2 t2 : XS) (f2 : Nat → Int64) (p5 p6 : Option Value), RX q2 t2 → Gd X (D, dA, w0, ad0, K) ML_law 2347 [some (.ref 110), some (.ref 0), some (.ref 84), some (.ref 109), some (.int (nI (4 * j))), p5, p6] [] (W3 q2 t2 f2) (200 + 12 * j + 12) (20000 + 72 * j + 72) := fun q2 t2 f2 p5 p6 rx2 => by
        refine g_iinc (v := nI (4 * (j + 1))) C0 dL_law_2347 rfl (by show nI (4 * j) + nI 4 = _; rw [nI_add, show 4 * j + 4 = 4 * (j + 1) by omega]) (by decide) ?_
        refine g_goto (tgt := 23) C0 dL_law_2350 (by decide) ?_
        refine g_widen (cs2 := 200 + 12 * (j + 1)) (ss2 := 20000 + 72 * (j + 1)) (by omega) (by omega) ?_
        exact ih (j + 1) q2 t2 f2 p5 p6 rx2 (by omega) (by omega)
      refine g_scr0 C0 SC (W3l hw0) dL_law_32 dL_law_33 dL_law_35 rfl rfl (by omega) (by omega) ?_
      refine g_bipush (v := 63) C0 dL_law_36 (by decide) ?_
      refine g_iand C0 dL_law_38 ?_
      obtain ⟨v, hv64, hv⟩ := t63 (xs (4 * j))
      generalize hx : xs (4 * j) &&& 63 = x at hv ⊢
      match v, hv64 with
      | 0, _ =>
        refine g_tblI (off := 165) (tgt := 204) C0 dL_law_39 (by rw [hv]; decide) (by rw [hv]; decide) (by rw [hv]; rfl) (by decide) ?_
        exact lc_setPrices C0 SC hw0 rx hL (by omega) (by omega) (by omega) hn
      | 1, _ =>
        refine g_tblI (off := 245) (tgt := 284) C0 dL_law_39 (by rw [hv]; decide) (by rw [hv]; decide) (by rw [hv]; rfl) (by decide) ?_
        exact lc_setDelay C0 SC hw0 rx hL (by omega) (by omega) (by omega) hn
      | 2, _ =>
        refine g_tblI (off := 313) (tgt := 352) C0 dL_law_39 (by rw [hv]; decide) (by rw [hv]; decide) (by rw [hv]; rfl) (by decide) ?_
        exact lc_setTrunk C0 SC hw0 rx hL (by omega) (by omega) (by omega) hn
      | 3, _ =>
        refine g_tblI (off := 393) (tgt := 432) C0 dL_law_39 (by rw [hv]; decide) (by rw [hv]; decide) (by rw [hv]; rfl) (by decide) ?_
        exact lc_port C0 SC hw0 rx hL (by omega) (by omega) (by omega) hn
      | 4, _ =>
        refine g_tblI (off := 461) (tgt := 500) C0 dL_law_39 (by rw [hv]; decide) (by rw [hv]; decide) (by rw [hv]; rfl) (by decide) ?_
        exact lc_sell C0 SC hw0 rx hL (by omega) (by omega) (by omega) hn
      | 5, _ =>
        refine g_tblI (off := 529) (tgt := 568) C0 dL_law_39 (by rw [hv]; decide) (by rw [hv]; decide) (by rw [hv]; rfl) (by decide) ?_
        exact lc_bond C0 SC hw0 rx hL (by omega) (by omega) (by omega) hn
      | 6, _ =>
        refine g_tblI (off := 597) (tgt := 636) C0 dL_law_39 (by rw [hv]; decide) (by rw [hv]; decide) (by rw [hv]; rfl) (by decide) ?_
        exact lc_pay C0 SC hw0 rx hL (by omega) (by omega) (by omega) hn
      | 7, _ =>
        refine g_tblI (off := 665) (tgt := 704) C0 dL_law_39 (by rw [hv]; decide) (by rw [hv]; decide) (by rw [hv]; rfl) (by decide) ?_
        exact lc_judge C0 SC hw0 rx hL (by omega) (by omega) (by omega) hn
      | 8, _ =>
        refine g_tblI (off := 721) (tgt := 760) C0 dL_law_39 (by rw [hv]; decide) (by rw [hv]; decide) (by rw [hv]; rfl) (by decide) ?_
        exact lc_call C0 SC hw0 rx hL (by omega) (by omega) (by omega) hn
      | 9, _ =>
        refine g_tblI (off := 789) (tgt := 828) C0 dL_law_39 (by rw [hv]; decide) (by rw [hv]; decide) (by rw [hv]; rfl) (by decide) ?_
        exact lc_hangUp C0 SC hw0 rx hL (by omega) (by omega) (by omega) hn
      | 10, _ =>
        refine g_tblI (off := 845) (tgt := 884) C0 dL_law_39 (by rw [hv]; decide) (by rw [hv]; decide) (by rw [hv]; rfl) (by decide) ?_
        exact lc_pass C0 SC hw0 rx hL (by omega) (by omega) (by omega) hn
      | 11, _ =>
        refine g_tblI (off := 901) (tgt := 940) C0 dL_law_39 (by rw [hv]; decide) (by rw [hv]; decide) (by rw [hv]; rfl) (by decide) ?_
        exact lc_second C0 SC hw0 rx hL (by omega) (by omega) (by omega) hn
      | 12, _ =>
        refine g_tblI (off := 914) (tgt := 953) C0 dL_law_39 (by rw [hv]; decide) (by rw [hv]; decide) (by rw [hv]; rfl) (by decide) ?_
        exact lc_isDear C0 SC hw0 rx hL (by omega) (by omega) (by omega) hn
      | 13, _ =>
        refine g_tblI (off := 927) (tgt := 966) C0 dL_law_39 (by rw [hv]; decide) (by rw [hv]; decide) (by rw [hv]; rfl) (by decide) ?_
        exact lc_carrierOf C0 SC hw0 rx hL (by omega) (by omega) (by omega) hn
      | 14, _ =>
        refine g_tblI (off := 983) (tgt := 1022) C0 dL_law_39 (by rw [hv]; decide) (by rw [hv]; decide) (by rw [hv]; rfl) (by decide) ?_
        exact lc_carrierThen C0 SC hw0 rx hL (by omega) (by omega) (by omega) hn
      | 15, _ =>
        refine g_tblI (off := 1051) (tgt := 1090) C0 dL_law_39 (by rw [hv]; decide) (by rw [hv]; decide) (by rw [hv]; rfl) (by decide) ?_
        exact lc_ownerOf C0 SC hw0 rx hL (by omega) (by omega) (by omega) hn
      | 16, _ =>
        refine g_tblI (off := 1107) (tgt := 1146) C0 dL_law_39 (by rw [hv]; decide) (by rw [hv]; decide) (by rw [hv]; rfl) (by decide) ?_
        exact lc_believed C0 SC hw0 rx hL (by omega) (by omega) (by omega) hn
      | 17, _ =>
        refine g_tblI (off := 1175) (tgt := 1214) C0 dL_law_39 (by rw [hv]; decide) (by rw [hv]; decide) (by rw [hv]; rfl) (by decide) ?_
        exact lc_debt C0 SC hw0 rx hL (by omega) (by omega) (by omega) hn
      | 18, _ =>
        refine g_tblI (off := 1231) (tgt := 1270) C0 dL_law_39 (by rw [hv]; decide) (by rw [hv]; decide) (by rw [hv]; rfl) (by decide) ?_
        exact lc_debtAnew C0 SC hw0 rx hL (by omega) (by omega) (by omega) hn
      | 19, _ =>
        refine g_tblI (off := 1287) (tgt := 1326) C0 dL_law_39 (by rw [hv]; decide) (by rw [hv]; decide) (by rw [hv]; rfl) (by decide) ?_
        exact lc_bondOf C0 SC hw0 rx hL (by omega) (by omega) (by omega) hn
      | 20, _ =>
        refine g_tblI (off := 1343) (tgt := 1382) C0 dL_law_39 (by rw [hv]; decide) (by rw [hv]; decide) (by rw [hv]; rfl) (by decide) ?_
        exact lc_isBarred C0 SC hw0 rx hL (by omega) (by omega) (by omega) hn
      | 21, _ =>
        refine g_tblI (off := 1406) (tgt := 1445) C0 dL_law_39 (by rw [hv]; decide) (by rw [hv]; decide) (by rw [hv]; rfl) (by decide) ?_
        exact lc_callOf C0 SC hw0 rx hL (by omega) (by omega) (by omega) hn
      | 22, _ =>
        refine g_tblI (off := 1462) (tgt := 1501) C0 dL_law_39 (by rw [hv]; decide) (by rw [hv]; decide) (by rw [hv]; rfl) (by decide) ?_
        exact lc_free C0 SC hw0 rx hL (by omega) (by omega) (by omega) hn
      | 23, _ =>
        refine g_tblI (off := 1530) (tgt := 1569) C0 dL_law_39 (by rw [hv]; decide) (by rw [hv]; decide) (by rw [hv]; rfl) (by decide) ?_
        exact lc_route C0 SC hw0 rx hL (by omega) (by omega) (by omega) hn
      | 24, _ =>
        refine g_tblI (off := 1598) (tgt := 1637) C0 dL_law_39 (by rw [hv]; decide) (by rw [hv]; decide) (by rw [hv]; rfl) (by decide) ?_
        exact lc_calls C0 SC hw0 rx hL (by omega) (by omega) (by omega) hn
      | 25, _ =>
        refine g_tblI (off := 1611) (tgt := 1650) C0 dL_law_39 (by rw [hv]; decide) (by rw [hv]; decide) (by rw [hv]; rfl) (by decide) ?_
        exact lc_lost C0 SC hw0 rx hL (by omega) (by omega) (by omega) hn
      | 26, _ =>
        refine g_tblI (off := 1624) (tgt := 1663) C0 dL_law_39 (by rw [hv]; decide) (by rw [hv]; decide) (by rw [hv]; rfl) (by decide) ?_
        exact lc_state C0 SC hw0 rx hL (by omega) (by omega) (by omega) hn
      | 27, _ =>
        refine g_tblI (off := 1680) (tgt := 1719) C0 dL_law_39 (by rw [hv]; decide) (by rw [hv]; decide) (by rw [hv]; rfl) (by decide) ?_
        exact lc_trunks C0 SC hw0 rx hL (by omega) (by omega) (by omega) hn
      | 28, _ =>
        refine g_tblI (off := 1736) (tgt := 1775) C0 dL_law_39 (by rw [hv]; decide) (by rw [hv]; decide) (by rw [hv]; rfl) (by decide) ?_
        exact lc_carrierAt C0 SC hw0 rx hL (by omega) (by omega) (by omega) hn
      | 29, _ =>
        refine g_tblI (off := 1804) (tgt := 1843) C0 dL_law_39 (by rw [hv]; decide) (by rw [hv]; decide) (by rw [hv]; rfl) (by decide) ?_
        exact lc_seconds C0 SC hw0 rx hL (by omega) (by omega) (by omega) hn
      | 30, _ =>
        refine g_tblI (off := 1860) (tgt := 1899) C0 dL_law_39 (by rw [hv]; decide) (by rw [hv]; decide) (by rw [hv]; rfl) (by decide) ?_
        exact lc_charged C0 SC hw0 rx hL (by omega) (by omega) (by omega) hn
      | 31, _ =>
        refine g_tblI (off := 1916) (tgt := 1955) C0 dL_law_39 (by rw [hv]; decide) (by rw [hv]; decide) (by rw [hv]; rfl) (by decide) ?_
        exact lc_chargedAnew C0 SC hw0 rx hL (by omega) (by omega) (by omega) hn
      | 32, _ =>
        refine g_tblI (off := 1972) (tgt := 2011) C0 dL_law_39 (by rw [hv]; decide) (by rw [hv]; decide) (by rw [hv]; rfl) (by decide) ?_
        exact lc_coins C0 SC hw0 rx hL (by omega) (by omega) (by omega) hn
      | 33, _ =>
        refine g_tblI (off := 2028) (tgt := 2067) C0 dL_law_39 (by rw [hv]; decide) (by rw [hv]; decide) (by rw [hv]; rfl) (by decide) ?_
        exact lc_earned C0 SC hw0 rx hL (by omega) (by omega) (by omega) hn
      | 34, _ =>
        refine g_tblI (off := 2084) (tgt := 2123) C0 dL_law_39 (by rw [hv]; decide) (by rw [hv]; decide) (by rw [hv]; rfl) (by decide) ?_
        exact lc_earnedAnew C0 SC hw0 rx hL (by omega) (by omega) (by omega) hn
      | 35, _ =>
        refine g_tblI (off := 2140) (tgt := 2179) C0 dL_law_39 (by rw [hv]; decide) (by rw [hv]; decide) (by rw [hv]; rfl) (by decide) ?_
        exact lc_spent C0 SC hw0 rx hL (by omega) (by omega) (by omega) hn
      | 36, _ =>
        refine g_tblI (off := 2196) (tgt := 2235) C0 dL_law_39 (by rw [hv]; decide) (by rw [hv]; decide) (by rw [hv]; rfl) (by decide) ?_
        exact lc_spentAnew C0 SC hw0 rx hL (by omega) (by omega) (by omega) hn
      | 37, _ =>
        refine g_tblI (off := 2252) (tgt := 2291) C0 dL_law_39 (by rw [hv]; decide) (by rw [hv]; decide) (by rw [hv]; rfl) (by decide) ?_
        exact lc_losses C0 SC hw0 rx hL (by omega) (by omega) (by omega) hn
      | v + 38, _ =>
        refine g_tblO (tgt := 2347) C0 dL_law_39 (Or.inr (by rw [hv]; omega)) (by decide) ?_
        refine g_widen (cs2 := 200 + 12 * j + 12) (ss2 := 20000 + 72 * j + 72) (by omega) (by omega) ?_
        exact hn _ _ _ _ _ rx

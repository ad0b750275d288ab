set_option maxRecDepth 100000 in
set_option maxHeartbeats 4000000 in
theorem lp_whas {q : XS} {K : AO → AW → Prop} {c : Int32} (hq : q.2 7 < 100000) (hK : K (.inl (some (.int (whas q c)))) (WX q)) {X : CX} {D : va_G} {dA : Nat → ClassId} {w0 : AW} {ad : Nat → Nat} (C0 : Ok X (D, dA, w0, ad, K) MX8_has) : ∀ n : Nat, n ≤ q.2 7 → whF q c (q.2 7) n = whas q c → Gd X (D, dA, w0, ad, K) MX8_has 2 [some (.ref 81), some (.int c), some (.int (nI (q.2 7 - n)))] [] (WX q) 0 0 := by
  intro n
  induction n with
  | zero =>
    intro hn hs
    refine g_iload_n C0 dX8_has_2 rfl ?_
    refine g_aload_n C0 dX8_has_3 rfl ?_
    refine g_getfield C0 dX8_has_4 FX8_20 rfl rfl ?_
    refine g_icmp_ge (tgt := 30) C0 dX8_has_7 (by decide) (fun _ => ?_) (fun z => absurd (Int32.le_refl _) z)
    refine g_iconst (v := 0) C0 dX8_has_30 (by decide) ?_
    refine g_zret C0 rfl rfl dX8_has_31 (by decide) (by decide) ?_
    rw [← hs] at hK
    exact hK
  | succ n ih =>
    intro hn hs
    have hi : q.2 7 - (n + 1) + 1 = q.2 7 - n := by omega
    refine g_iload_n C0 dX8_has_2 rfl ?_
    refine g_aload_n C0 dX8_has_3 rfl ?_
    refine g_getfield C0 dX8_has_4 FX8_20 rfl rfl ?_
    refine g_icmp_ge (tgt := 30) C0 dX8_has_7 (by decide) (fun h7 => absurd h7 (nI_ge (by omega) (by omega))) (fun h7 => ?_)
    refine g_aload_n C0 dX8_has_10 rfl ?_
    refine g_getfield C0 dX8_has_11 FX8_14 rfl rfl ?_
    refine g_iload_n C0 dX8_has_14 rfl ?_
    refine g_invV1 C0 dX8_has_15 CX8_27 rfl rfl ⟨by decide, by decide, by decide, by decide⟩ (Nat.le_of_ble_eq_true rfl) ?_
    refine x_get 35 (by decide) ?_
    refine Aft_v (WX_len2 _ _) ?_
    refine g_iload_n C0 dX8_has_18 rfl ?_
    refine g_icmp_ne (tgt := 24) C0 dX8_has_19 (by decide) (fun h19 => ?_) (fun h19 => ?_)
    · refine g_iinc (v := nI (q.2 7 - n)) C0 dX8_has_24 rfl (by rw [← hi]; exact (nI_1 _)) (by decide) ?_
      refine g_goto (tgt := 2) C0 dX8_has_27 (by decide) ?_
      exact ih (by omega) (by rw [← hs, whF, if_neg h19])
    refine g_iconst (v := 1) C0 dX8_has_22 (by decide) ?_
    refine g_zret C0 rfl rfl dX8_has_23 (by decide) (by decide) ?_
    rw [← hs, whF, if_pos h19] at hK; exact hK
set_option maxRecDepth 100000 in
set_option maxHeartbeats 4000000 in
theorem x_whas {q : XS} {K : AO → AW → Prop} {c : Int32} (hq : q.2 7 < 100000) (hK : K (.inl (some (.int (whas q c)))) (WX q)) : Snd MX8_has [.ref 81, .int c] (WX q) K := by
  refine Snd.of (by decide +kernel) (Nat.le_of_ble_eq_true rfl) rfl rfl ?_
  intro X D dA ad C0
  show Gd X _ MX8_has 0 [some (.ref 81), some (.int c), none] [] _ 0 0
  refine g_iconst (v := 0) C0 dX8_has_0 (by decide) ?_
  refine g_istore_n C0 dX8_has_1 (by decide) ?_
  exact g_ls (by rw [Nat.sub_self]; rfl) (lp_whas hq hK C0 _ (Nat.le_refl _) rfl)
set_option maxRecDepth 100000 in
set_option maxHeartbeats 4000000 in
theorem lp_cplace {q : XS} {K : AO → AW → Prop} {c a : Int32} {m : Nat} (hm : m < 100000) (hK : K (.inl (some (.int (cpF q c a m m)))) (WX q)) {X : CX} {D : va_G} {dA : Nat → ClassId} {w0 : AW} {ad : Nat → Nat} (C0 : Ok X (D, dA, w0, ad, K) MX0_placeOf) : ∀ n : Nat, n ≤ m → cpF q c a m n = cpF q c a m m → Gd X (D, dA, w0, ad, K) MX0_placeOf 12 [some (.ref 64), some (.int c), some (.int a), some (.int (nI m)), some (.int (nI (m - n)))] [] (WX q) 0 0 := by
  intro n
  induction n with
  | zero =>
    intro hn hs
    refine g_iload C0 dX0_placeOf_12 rfl ?_
    refine g_iload_n C0 dX0_placeOf_14 rfl ?_
    refine g_icmp_ge (tgt := 38) C0 dX0_placeOf_15 (by decide) (fun _ => ?_) (fun z => absurd (Int32.le_refl _) z)
    refine g_iconst (v := -1) C0 dX0_placeOf_38 (by decide) ?_
    refine g_iret C0 rfl dX0_placeOf_39 (by decide) (by decide) ?_
    rw [← hs] at hK
    exact hK
  | succ n ih =>
    intro hn hs
    have hi : m - (n + 1) + 1 = m - n := by omega
    refine g_iload C0 dX0_placeOf_12 rfl ?_
    refine g_iload_n C0 dX0_placeOf_14 rfl ?_
    refine g_icmp_ge (tgt := 38) C0 dX0_placeOf_15 (by decide) (fun h15 => absurd h15 (nI_ge (by omega) (by omega))) (fun h15 => ?_)
    refine g_aload_n C0 dX0_placeOf_18 rfl ?_
    refine g_iload_n C0 dX0_placeOf_19 rfl ?_
    refine g_iload C0 dX0_placeOf_20 rfl ?_
    refine g_invV2 C0 dX0_placeOf_22 CX0_66 rfl rfl ⟨by decide, by decide, by decide, by decide⟩ (Nat.le_of_ble_eq_true rfl) ?_
    refine x_stop ?_
    refine Aft_v (WX_len2 _ _) ?_
    refine g_iload_n C0 dX0_placeOf_25 rfl ?_
    refine g_icmp_ne (tgt := 32) C0 dX0_placeOf_26 (by decide) (fun h26 => ?_) (fun h26 => ?_)
    · refine g_iinc (v := nI (m - n)) C0 dX0_placeOf_32 rfl (by rw [← hi]; exact (nI_1 _)) (by decide) ?_
      refine g_goto (tgt := 12) C0 dX0_placeOf_35 (by decide) ?_
      exact ih (by omega) (by rw [← hs, cpF, if_neg h26])
    refine g_iload C0 dX0_placeOf_29 rfl ?_
    refine g_iret C0 rfl dX0_placeOf_31 (by decide) (by decide) ?_
    rw [← hs, cpF, if_pos h26] at hK; exact hK
set_option maxRecDepth 100000 in
set_option maxHeartbeats 4000000 in
theorem x_cplace {q : XS} {K : AO → AW → Prop} {c a : Int32} {m : Nat} (hl : xg q 33 c = nI m) (hm : m < 100000) (hK : K (.inl (some (.int (cpF q c a m m)))) (WX q)) : Snd MX0_placeOf [.ref 64, .int c, .int a] (WX q) K := by
  refine Snd.of (by decide +kernel) (Nat.le_of_ble_eq_true rfl) rfl rfl ?_
  intro X D dA ad C0
  show Gd X _ MX0_placeOf 0 [some (.ref 64), some (.int c), some (.int a), none, none] [] _ 0 0
  refine g_aload_n C0 dX0_placeOf_0 rfl ?_
  refine g_getfield C0 dX0_placeOf_1 FX0_35 rfl rfl ?_
  refine g_iload_n C0 dX0_placeOf_4 rfl ?_
  refine g_invV1 C0 dX0_placeOf_5 CX0_54 rfl rfl ⟨by decide, by decide, by decide, by decide⟩ (Nat.le_of_ble_eq_true rfl) ?_
  refine x_get 33 (by decide) ?_
  refine Aft_v (WX_len2 _ _) ?_
  rw [hl]
  refine g_istore_n C0 dX0_placeOf_8 (by decide) ?_
  refine g_iconst (v := 0) C0 dX0_placeOf_9 (by decide) ?_
  refine g_istore C0 dX0_placeOf_10 (by decide) ?_
  exact g_ls (by rw [Nat.sub_self]; rfl) (lp_cplace hm hK C0 _ (Nat.le_refl _) rfl)
set_option maxRecDepth 100000 in
set_option maxHeartbeats 4000000 in
theorem lp_known {q : XS} {K : AO → AW → Prop} {c b s : Int32} (hq : q.2 2 < 100000) (hK : K (.inl (some (.int (known q c b s)))) (WX q)) {X : CX} {D : va_G} {dA : Nat → ClassId} {w0 : AW} {ad : Nat → Nat} (C0 : Ok X (D, dA, w0, ad, K) MX4_placeKnownTo) : ∀ (n : Nat) (o5 : Option Value), n ≤ q.2 2 → pkF q c b s n = known q c b s → Gd X (D, dA, w0, ad, K) MX4_placeKnownTo 11 [some (.ref 32), some (.int c), some (.int b), some (.int s), some (.int (nI n - 1)), o5] [] (WX q) 0 0 := by
  intro n
  induction n with
  | zero =>
    intro o5 hn hs
    refine g_iload C0 dX4_placeKnownTo_11 rfl ?_
    refine g_if_lt (tgt := 80) C0 dX4_placeKnownTo_13 (by decide) (fun _ => ?_) (fun z => absurd (by decide +kernel) z)
    refine g_iload_n C0 dX4_placeKnownTo_80 rfl ?_
    refine g_iconst (v := 5) C0 dX4_placeKnownTo_81 (by decide) ?_
    refine g_irem C0 dX4_placeKnownTo_82 (by decide) ?_
    refine g_iret C0 rfl dX4_placeKnownTo_83 (by decide) (by decide) ?_
    rw [← hs] at hK
    exact hK
  | succ n ih =>
    intro o5 hn hs
    rw [nI_pred]
    refine g_iload C0 dX4_placeKnownTo_11 rfl ?_
    refine g_if_lt (tgt := 80) C0 dX4_placeKnownTo_13 (by decide) (fun h13 => absurd h13 (nI_pos (by omega))) (fun h13 => ?_)
    refine g_aload_n C0 dX4_placeKnownTo_16 rfl ?_
    refine g_getfield C0 dX4_placeKnownTo_17 FX4_23 rfl rfl ?_
    refine g_iload C0 dX4_placeKnownTo_20 rfl ?_
    refine g_iconst (v := 5) C0 dX4_placeKnownTo_22 (by decide) ?_
    refine g_imul C0 dX4_placeKnownTo_23 ?_
    refine g_iload_n C0 dX4_placeKnownTo_24 rfl ?_
    refine g_iadd C0 dX4_placeKnownTo_25 ?_
    refine g_invV1 C0 dX4_placeKnownTo_26 CX4_35 rfl rfl ⟨by decide, by decide, by decide, by decide⟩ (Nat.le_of_ble_eq_true rfl) ?_
    refine x_get 17 (by decide) ?_
    refine Aft_v (WX_len2 _ _) ?_
    refine g_iload_n C0 dX4_placeKnownTo_29 rfl ?_
    refine g_icmp_gt (tgt := 37) C0 dX4_placeKnownTo_30 (by decide) (fun h30 => ?_) (fun h30 => ?_)
    · refine g_iconst (v := 0) C0 dX4_placeKnownTo_37 (by decide) ?_
      refine g_istore C0 dX4_placeKnownTo_38 (by decide) ?_
      refine g_iload C0 dX4_placeKnownTo_40 rfl ?_
      refine g_if_eq (tgt := 74) C0 dX4_placeKnownTo_42 (by decide) (fun _ => ?_) (fun z => (by revert z; decide +kernel : False).elim)
      refine g_iinc (v := nI n - 1) C0 dX4_placeKnownTo_74 rfl (ii_m1 _) (by decide) ?_
      refine g_goto (tgt := 11) C0 dX4_placeKnownTo_77 (by decide) ?_
      exact ih _ (by omega) (by rw [← hs, pkF, if_neg (fun z => absurd z.1 (Int32.not_le.mpr h30))])
    refine g_iconst (v := 1) C0 dX4_placeKnownTo_33 (by decide) ?_
    refine g_goto (tgt := 38) C0 dX4_placeKnownTo_34 (by decide) ?_
    refine g_istore C0 dX4_placeKnownTo_38 (by decide) ?_
    refine g_iload C0 dX4_placeKnownTo_40 rfl ?_
    refine g_if_eq (tgt := 74) C0 dX4_placeKnownTo_42 (by decide) (fun z => (by revert z; decide +kernel : False).elim) (fun _ => ?_)
    refine g_aload_n C0 dX4_placeKnownTo_45 rfl ?_
    refine g_getfield C0 dX4_placeKnownTo_46 FX4_12 rfl rfl ?_
    refine g_getfield C0 dX4_placeKnownTo_49 FX4_50 rfl rfl ?_
    refine g_iload C0 dX4_placeKnownTo_52 rfl ?_
    refine g_invV1 C0 dX4_placeKnownTo_54 CX4_35 rfl rfl ⟨by decide, by decide, by decide, by decide⟩ (Nat.le_of_ble_eq_true rfl) ?_
    refine x_get 14 (by decide) ?_
    refine Aft_v (WX_len2 _ _) ?_
    refine g_iload_n C0 dX4_placeKnownTo_57 rfl ?_
    refine g_icmp_ne (tgt := 74) C0 dX4_placeKnownTo_58 (by decide) (fun h58 => ?_) (fun h58 => ?_)
    · refine g_iinc (v := nI n - 1) C0 dX4_placeKnownTo_74 rfl (ii_m1 _) (by decide) ?_
      refine g_goto (tgt := 11) C0 dX4_placeKnownTo_77 (by decide) ?_
      exact ih _ (by omega) (by rw [← hs, pkF, if_neg (fun z => absurd z.2 h58)])
    refine g_aload_n C0 dX4_placeKnownTo_61 rfl ?_
    refine g_getfield C0 dX4_placeKnownTo_62 FX4_12 rfl rfl ?_
    refine g_getfield C0 dX4_placeKnownTo_65 FX4_53 rfl rfl ?_
    refine g_iload C0 dX4_placeKnownTo_68 rfl ?_
    refine g_invV1 C0 dX4_placeKnownTo_70 CX4_35 rfl rfl ⟨by decide, by decide, by decide, by decide⟩ (Nat.le_of_ble_eq_true rfl) ?_
    refine x_get 16 (by decide) ?_
    refine Aft_v (WX_len2 _ _) ?_
    refine g_iret C0 rfl dX4_placeKnownTo_73 (by decide) (by decide) ?_
    rw [← hs, pkF, if_pos ⟨Int32.not_lt.mp h30, h58⟩] at hK; exact hK
set_option maxRecDepth 100000 in
set_option maxHeartbeats 4000000 in
theorem x_known {q : XS} {K : AO → AW → Prop} {c b s : Int32} (hq : q.2 2 < 100000) (hK : K (.inl (some (.int (known q c b s)))) (WX q)) : Snd MX4_placeKnownTo [.ref 32, .int c, .int b, .int s] (WX q) K := by
  refine Snd.of (by decide +kernel) (Nat.le_of_ble_eq_true rfl) rfl rfl ?_
  intro X D dA ad C0
  show Gd X _ MX4_placeKnownTo 0 [some (.ref 32), some (.int c), some (.int b), some (.int s), none, none] [] _ 0 0
  refine g_aload_n C0 dX4_placeKnownTo_0 rfl ?_
  refine g_getfield C0 dX4_placeKnownTo_1 FX4_12 rfl rfl ?_
  refine g_getfield C0 dX4_placeKnownTo_4 FX4_31 rfl rfl ?_
  refine g_iconst (v := 1) C0 dX4_placeKnownTo_7 (by decide) ?_
  refine g_isub C0 dX4_placeKnownTo_8 ?_
  refine g_istore C0 dX4_placeKnownTo_9 (by decide) ?_
  exact lp_known hq hK C0 _ _ (Nat.le_refl _) rfl
set_option maxRecDepth 100000 in
set_option maxHeartbeats 4000000 in
theorem lp_carry {q : XS} {K : AO → AW → Prop} {b s f t : Int32} (hK : K (.inl none) (WX (xcarry q b f t s))) {X : CX} {D : va_G} {dA : Nat → ClassId} {w0 : AW} {ad : Nat → Nat} (C0 : Ok X (D, dA, w0, ad, K) MX4_carry) : ∀ (n k : Nat) (o8 : Option Value), k + n = 5 → Gd X (D, dA, w0, ad, K) MX4_carry 14 [some (.ref 32), some (.int b), some (.int f), some (.int t), some (.int s), some (.ref 17), some (.int (nI (q.2 2) * 5)), some (.int (nI k)), o8] [] (WX (cyF q (nI (q.2 2) * 5) f t s k)) 0 0 := by
  intro n
  induction n with
  | zero =>
    intro k o8 hk
    have hk5 : k = 5 := by omega
    subst hk5
    refine g_iload C0 dX4_carry_14 rfl ?_
    refine g_iconst (v := nI 5) C0 dX4_carry_16 (by decide +kernel) ?_
    refine g_icmp_ge (tgt := 77) C0 dX4_carry_17 (by decide) (fun _ => ?_) (fun z => absurd (Int32.le_refl _) z)
    refine g_aload_n C0 dX4_carry_77 rfl ?_
    refine g_getfield C0 dX4_carry_78 FX4_12 rfl rfl ?_
    refine g_iload_n C0 dX4_carry_81 rfl ?_
    refine g_iload C0 dX4_carry_82 rfl ?_
    refine g_iload_n C0 dX4_carry_84 rfl ?_
    refine g_invV3 C0 dX4_carry_85 CX4_42 rfl rfl ⟨by decide, by decide, by decide, by decide⟩ (Nat.le_of_ble_eq_true rfl) ?_
    refine x_hadd 0 (by decide) ?_
    refine Aft_n (WX_len2 _ _) ?_
    refine g_vret C0 rfl dX4_carry_88 (by decide) (by decide) ?_
    exact hK
  | succ n ih =>
    intro k o8 hk
    refine g_iload C0 dX4_carry_14 rfl ?_
    refine g_iconst (v := 5) C0 dX4_carry_16 (by decide) ?_
    refine g_icmp_ge (tgt := 77) C0 dX4_carry_17 (by decide) (fun h17 => absurd h17 (nI_ge (b := 5) (by omega) (by omega))) (fun h17 => ?_)
    refine g_iload C0 dX4_carry_20 rfl ?_
    refine g_iload_n C0 dX4_carry_22 rfl ?_
    refine g_icmp_eq (tgt := 32) C0 dX4_carry_23 (by decide) (fun h23 => ?_) (fun h23 => ?_)
    · refine g_iconst (v := 1) C0 dX4_carry_32 (by decide) ?_
      refine g_goto (tgt := 37) C0 dX4_carry_33 (by decide) ?_
      refine g_istore C0 dX4_carry_37 (by decide) ?_
      refine g_aload_n C0 dX4_carry_39 rfl ?_
      refine g_getfield C0 dX4_carry_40 FX4_23 rfl rfl ?_
      refine g_iload C0 dX4_carry_43 rfl ?_
      refine g_iload C0 dX4_carry_45 rfl ?_
      refine g_iadd C0 dX4_carry_47 ?_
      refine g_iload C0 dX4_carry_48 rfl ?_
      refine g_if_eq (tgt := 58) C0 dX4_carry_50 (by decide) (fun z => (by revert z; decide +kernel : False).elim) (fun _ => ?_)
      refine g_iload C0 dX4_carry_53 rfl ?_
      refine g_goto (tgt := 68) C0 dX4_carry_55 (by decide) ?_
      refine g_invV2 C0 dX4_carry_68 CX4_39 rfl rfl ⟨by decide, by decide, by decide, by decide⟩ (Nat.le_of_ble_eq_true rfl) ?_
      refine x_set 17 (by decide) ?_
      refine Aft_n (WX_len2 _ _) ?_
      refine g_iinc (v := nI (k + 1)) C0 dX4_carry_71 rfl (nI_1 _) (by decide) ?_
      refine g_goto (tgt := 14) C0 dX4_carry_74 (by decide) ?_
      exact g_w (by rw [cyF, if_pos (Or.inl h23)]) (ih (k + 1) _ (by omega))
    refine g_iload C0 dX4_carry_26 rfl ?_
    refine g_iload_n C0 dX4_carry_28 rfl ?_
    refine g_icmp_ne (tgt := 36) C0 dX4_carry_29 (by decide) (fun h29 => ?_) (fun h29 => ?_)
    · refine g_iconst (v := 0) C0 dX4_carry_36 (by decide) ?_
      refine g_istore C0 dX4_carry_37 (by decide) ?_
      refine g_aload_n C0 dX4_carry_39 rfl ?_
      refine g_getfield C0 dX4_carry_40 FX4_23 rfl rfl ?_
      refine g_iload C0 dX4_carry_43 rfl ?_
      refine g_iload C0 dX4_carry_45 rfl ?_
      refine g_iadd C0 dX4_carry_47 ?_
      refine g_iload C0 dX4_carry_48 rfl ?_
      refine g_if_eq (tgt := 58) C0 dX4_carry_50 (by decide) (fun _ => ?_) (fun z => (by revert z; decide +kernel : False).elim)
      refine g_iload C0 dX4_carry_58 rfl ?_
      refine g_aload C0 dX4_carry_60 rfl ?_
      refine g_iload C0 dX4_carry_62 rfl ?_
      refine g_invV1 C0 dX4_carry_64 CX4_35 rfl rfl ⟨by decide, by decide, by decide, by decide⟩ (Nat.le_of_ble_eq_true rfl) ?_
      refine x_get 7 (by decide) ?_
      refine Aft_v (WX_len2 _ _) ?_
      refine g_iadd C0 dX4_carry_67 ?_
      refine g_invV2 C0 dX4_carry_68 CX4_39 rfl rfl ⟨by decide, by decide, by decide, by decide⟩ (Nat.le_of_ble_eq_true rfl) ?_
      refine x_set 17 (by decide) ?_
      refine Aft_n (WX_len2 _ _) ?_
      refine g_iinc (v := nI (k + 1)) C0 dX4_carry_71 rfl (nI_1 _) (by decide) ?_
      refine g_goto (tgt := 14) C0 dX4_carry_74 (by decide) ?_
      exact g_w (by rw [cyF, if_neg (fun z => z.elim h23 h29)]) (ih (k + 1) _ (by omega))
    refine g_iconst (v := 1) C0 dX4_carry_32 (by decide) ?_
    refine g_goto (tgt := 37) C0 dX4_carry_33 (by decide) ?_
    refine g_istore C0 dX4_carry_37 (by decide) ?_
    refine g_aload_n C0 dX4_carry_39 rfl ?_
    refine g_getfield C0 dX4_carry_40 FX4_23 rfl rfl ?_
    refine g_iload C0 dX4_carry_43 rfl ?_
    refine g_iload C0 dX4_carry_45 rfl ?_
    refine g_iadd C0 dX4_carry_47 ?_
    refine g_iload C0 dX4_carry_48 rfl ?_
    refine g_if_eq (tgt := 58) C0 dX4_carry_50 (by decide) (fun z => (by revert z; decide +kernel : False).elim) (fun _ => ?_)
    refine g_iload C0 dX4_carry_53 rfl ?_
    refine g_goto (tgt := 68) C0 dX4_carry_55 (by decide) ?_
    refine g_invV2 C0 dX4_carry_68 CX4_39 rfl rfl ⟨by decide, by decide, by decide, by decide⟩ (Nat.le_of_ble_eq_true rfl) ?_
    refine x_set 17 (by decide) ?_
    refine Aft_n (WX_len2 _ _) ?_
    refine g_iinc (v := nI (k + 1)) C0 dX4_carry_71 rfl (nI_1 _) (by decide) ?_
    refine g_goto (tgt := 14) C0 dX4_carry_74 (by decide) ?_
    exact g_w (by rw [cyF, if_pos (Or.inr h29)]) (ih (k + 1) _ (by omega))
set_option maxRecDepth 100000 in
set_option maxHeartbeats 4000000 in
theorem x_carry {q : XS} {K : AO → AW → Prop} {b s f t : Int32} (hK : K (.inl none) (WX (xcarry q b f t s))) : Snd MX4_carry [.ref 32, .int b, .int f, .int t, .int s, .ref 17] (WX q) K := by
  refine Snd.of (by decide +kernel) (Nat.le_of_ble_eq_true rfl) rfl rfl ?_
  intro X D dA ad C0
  show Gd X _ MX4_carry 0 [some (.ref 32), some (.int b), some (.int f), some (.int t), some (.int s), some (.ref 17), none, none, none] [] _ 0 0
  refine g_aload_n C0 dX4_carry_0 rfl ?_
  refine g_getfield C0 dX4_carry_1 FX4_12 rfl rfl ?_
  refine g_getfield C0 dX4_carry_4 FX4_31 rfl rfl ?_
  refine g_iconst (v := 5) C0 dX4_carry_7 (by decide) ?_
  refine g_imul C0 dX4_carry_8 ?_
  refine g_istore C0 dX4_carry_9 (by decide) ?_
  refine g_iconst (v := 0) C0 dX4_carry_11 (by decide) ?_
  refine g_istore C0 dX4_carry_12 (by decide) ?_
  exact lp_carry hK C0 5 0 _ rfl
set_option maxRecDepth 100000 in
set_option maxHeartbeats 4000000 in
theorem lp_cbegin {q : XS} {K : AO → AW → Prop} {a b s : Int32} (hq : q.2 7 < 100000) (hK : K (.inl (some (.int (nI (q.2 6))))) (WX (cbegin q a b s))) {X : CX} {D : va_G} {dA : Nat → ClassId} {w0 : AW} {ad : Nat → Nat} (C0 : Ok X (D, dA, w0, ad, K) MX0_begin) : ∀ (n k : Nat), k + n = q.2 7 → (cbF (cset q a b s) (nI (q.2 6)) k).2 = q.2 → Gd X (D, dA, w0, ad, K) MX0_begin 53 [some (.ref 64), some (.int a), some (.int b), some (.int s), some (.ref 81), some (.int (nI (q.2 6))), some (.int (nI k))] [] (WX (cbF (cset q a b s) (nI (q.2 6)) k)) 0 0 := by
  intro n
  induction n with
  | zero =>
    intro k hk hc
    refine g_iload C0 dX0_begin_53 rfl ?_
    refine g_aload C0 dX0_begin_55 rfl ?_
    refine g_getfield C0 dX0_begin_57 FX0_48 rfl rfl ?_
    rw [show (cbF (cset q a b s) (nI (q.2 6)) k).2 7 = k by rw [hc]; omega]
    refine g_icmp_ge (tgt := 93) C0 dX0_begin_60 (by decide) (fun _ => ?_) (fun z => absurd (Int32.le_refl _) z)
    have hk7 : k = q.2 7 := by omega
    subst hk7
    have hc6 : (cbF (cset q a b s) (nI (q.2 6)) (q.2 7)).2 6 = q.2 6 := by rw [hc]
    unfold cbegin at hK
    rw [← hc6] at hK
    refine g_aload_n C0 dX0_begin_93 rfl ?_
    refine g_dup C0 dX0_begin_94 rfl ?_
    refine g_getfield C0 dX0_begin_95 FX0_41 rfl rfl ?_
    refine g_iconst (v := 1) C0 dX0_begin_98 (by decide) ?_
    refine g_iadd C0 dX0_begin_99 ?_
    refine g_putfield C0 dX0_begin_100 FX0_41 rfl (Nat.le_of_ble_eq_true rfl) (fun _ => ⟨rfl, rfl⟩) ?_
    refine g_w (WX_put6i _) ?_
    refine g_iload C0 dX0_begin_103 rfl ?_
    refine g_iret C0 rfl dX0_begin_105 (by decide) (by decide) ?_
    rw [hc6] at hK ⊢
    exact hK
  | succ n ih =>
    intro k hk hc
    refine g_iload C0 dX0_begin_53 rfl ?_
    refine g_aload C0 dX0_begin_55 rfl ?_
    refine g_getfield C0 dX0_begin_57 FX0_48 rfl rfl ?_
    rw [show (cbF (cset q a b s) (nI (q.2 6)) k).2 7 = q.2 7 by rw [hc]]
    refine g_icmp_ge (tgt := 93) C0 dX0_begin_60 (by decide) (fun h60 => absurd h60 (nI_ge (by omega) (by omega))) (fun h60 => ?_)
    refine g_aload_n C0 dX0_begin_63 rfl ?_
    refine g_getfield C0 dX0_begin_64 FX0_38 rfl rfl ?_
    refine g_iload C0 dX0_begin_67 rfl ?_
    refine g_iconst (v := 5) C0 dX0_begin_69 (by decide) ?_
    refine g_imul C0 dX0_begin_70 ?_
    refine g_iload C0 dX0_begin_71 rfl ?_
    refine g_iadd C0 dX0_begin_73 ?_
    refine g_aload C0 dX0_begin_74 rfl ?_
    refine g_getfield C0 dX0_begin_76 FX0_53 rfl rfl ?_
    refine g_iload C0 dX0_begin_79 rfl ?_
    refine g_invV1 C0 dX0_begin_81 CX0_54 rfl rfl ⟨by decide, by decide, by decide, by decide⟩ (Nat.le_of_ble_eq_true rfl) ?_
    refine x_get 35 (by decide) ?_
    refine Aft_v (WX_len2 _ _) ?_
    refine g_invV2 C0 dX0_begin_84 CX0_45 rfl rfl ⟨by decide, by decide, by decide, by decide⟩ (Nat.le_of_ble_eq_true rfl) ?_
    refine x_set 34 (by decide) ?_
    refine Aft_n (WX_len2 _ _) ?_
    refine g_iinc (v := nI (k + 1)) C0 dX0_begin_87 rfl (nI_1 _) (by decide) ?_
    refine g_goto (tgt := 53) C0 dX0_begin_90 (by decide) ?_
    exact ih (k + 1) (by omega) hc
set_option maxRecDepth 100000 in
set_option maxHeartbeats 4000000 in
theorem x_cbegin {q : XS} {K : AO → AW → Prop} {a b s : Int32} (hq : q.2 7 < 100000) (hK : K (.inl (some (.int (nI (q.2 6))))) (WX (cbegin q a b s))) : Snd MX0_begin [.ref 64, .int a, .int b, .int s, .ref 81] (WX q) K := by
  refine Snd.of (by decide +kernel) (Nat.le_of_ble_eq_true rfl) rfl rfl ?_
  intro X D dA ad C0
  show Gd X _ MX0_begin 0 [some (.ref 64), some (.int a), some (.int b), some (.int s), some (.ref 81), none, none] [] _ 0 0
  refine g_aload_n C0 dX0_begin_0 rfl ?_
  refine g_getfield C0 dX0_begin_1 FX0_41 rfl rfl ?_
  refine g_istore C0 dX0_begin_4 (by decide) ?_
  refine g_aload_n C0 dX0_begin_6 rfl ?_
  refine g_getfield C0 dX0_begin_7 FX0_14 rfl rfl ?_
  refine g_iload C0 dX0_begin_10 rfl ?_
  refine g_iload_n C0 dX0_begin_12 rfl ?_
  refine g_invV2 C0 dX0_begin_13 CX0_45 rfl rfl ⟨by decide, by decide, by decide, by decide⟩ (Nat.le_of_ble_eq_true rfl) ?_
  refine x_set 27 (by decide) ?_
  refine Aft_n (WX_len2 _ _) ?_
  refine g_aload_n C0 dX0_begin_16 rfl ?_
  refine g_getfield C0 dX0_begin_17 FX0_20 rfl rfl ?_
  refine g_iload C0 dX0_begin_20 rfl ?_
  refine g_iload_n C0 dX0_begin_22 rfl ?_
  refine g_invV2 C0 dX0_begin_23 CX0_45 rfl rfl ⟨by decide, by decide, by decide, by decide⟩ (Nat.le_of_ble_eq_true rfl) ?_
  refine x_set 28 (by decide) ?_
  refine Aft_n (WX_len2 _ _) ?_
  refine g_aload_n C0 dX0_begin_26 rfl ?_
  refine g_getfield C0 dX0_begin_27 FX0_23 rfl rfl ?_
  refine g_iload C0 dX0_begin_30 rfl ?_
  refine g_iload_n C0 dX0_begin_32 rfl ?_
  refine g_invV2 C0 dX0_begin_33 CX0_45 rfl rfl ⟨by decide, by decide, by decide, by decide⟩ (Nat.le_of_ble_eq_true rfl) ?_
  refine x_set 29 (by decide) ?_
  refine Aft_n (WX_len2 _ _) ?_
  refine g_aload_n C0 dX0_begin_36 rfl ?_
  refine g_getfield C0 dX0_begin_37 FX0_35 rfl rfl ?_
  refine g_iload C0 dX0_begin_40 rfl ?_
  refine g_aload C0 dX0_begin_42 rfl ?_
  refine g_getfield C0 dX0_begin_44 FX0_48 rfl rfl ?_
  refine g_invV2 C0 dX0_begin_47 CX0_45 rfl rfl ⟨by decide, by decide, by decide, by decide⟩ (Nat.le_of_ble_eq_true rfl) ?_
  refine x_set 33 (by decide) ?_
  refine Aft_n (WX_len2 _ _) ?_
  refine g_iconst (v := 0) C0 dX0_begin_50 (by decide) ?_
  refine g_istore C0 dX0_begin_51 (by decide) ?_
  exact lp_cbegin hq hK C0 (q.2 7) 0 (by omega) rfl

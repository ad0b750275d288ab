set_option maxRecDepth 100000 in
set_option maxHeartbeats 4000000 in
theorem ml_takes {q : XS} {K : AO → AW → Prop} {c m : Nat} {a b : Int32} (hc : c < 60) (hm : m ≤ 4) (ht : q.1 19 c = nI m) (hs : q.1 18 c = 0) (hK : K (.inl (some (.int (mtF q c a b m)))) (WM q)) {X : CX} {D : va_G} {dA : Nat → ClassId} {w0 : AW} {ad : Nat → Nat} (C0 : Ok X (D, dA, w0, ad, K) MX10_takes) : ∀ (n9 k : Nat) (o6 o7 : Option Value), k + n9 = m → Gd X (D, dA, w0, ad, K) MX10_takes 6 [some (.ref 0), some (.int (nI c)), some (.int a), some (.int b), some (.int (mtF q c a b k)), some (.int (nI k)), o6, o7] [] (WM q) 0 0 := by
  intro n9
  induction n9 with
  | zero =>
    intro k o6 o7 hk
    have hkm : k = m := by omega
    subst hkm
    have i1 : vp_in (nI c) 60 := vp_in_nI hc (by decide)
    have c1 : (nI c).toNatClampNeg = c := nI_clamp (by omega)
    refine g_iload C0 dX10_takes_6 rfl ?_
    refine g_aload_n C0 dX10_takes_8 rfl ?_
    refine g_getfield C0 dX10_takes_9 FX10_68 rfl rfl ?_
    refine g_iload_n C0 dX10_takes_12 rfl ?_
    refine g_iaload C0 dX10_takes_13 rfl i1 ?_
    rw [c1, ht]
    refine g_icmp_ge (tgt := 93) C0 dX10_takes_14 (by decide) (fun _ => ?_) (fun z => absurd (Int32.le_refl _) z)
    refine g_iload C0 dX10_takes_93 rfl ?_
    refine g_iret C0 rfl dX10_takes_95 (by decide) (by decide) ?_
    exact hK
  | succ n9 ih =>
    intro k o6 o7 hk
    have i1 : vp_in (nI c) 60 := vp_in_nI hc (by decide)
    have c1 : (nI c).toNatClampNeg = c := nI_clamp (by omega)
    have i2 : vp_in (5 * nI c + nI k) 300 := by rw [i5n]; exact vp_in_nI (by omega) (by decide)
    have i3 : vp_in (5 * nI c + nI k + 1) 300 := by rw [i5n, nI_1]; exact vp_in_nI (by omega) (by decide)
    have c2 : (5 * nI c + nI k).toNatClampNeg = 5 * c + k := by rw [i5n]; exact nI_clamp (by omega)
    have c3 : (5 * nI c + nI k + 1).toNatClampNeg = 5 * c + k + 1 := by rw [i5n, nI_1]; exact nI_clamp (by omega)
    refine g_iload C0 dX10_takes_6 rfl ?_
    refine g_aload_n C0 dX10_takes_8 rfl ?_
    refine g_getfield C0 dX10_takes_9 FX10_68 rfl rfl ?_
    refine g_iload_n C0 dX10_takes_12 rfl ?_
    refine g_iaload C0 dX10_takes_13 rfl (by assumption) ?_
    rw [c1, ht]
    refine g_icmp_ge (tgt := 93) C0 dX10_takes_14 (by decide) (fun h14 => absurd h14 (nI_ge (by omega) (by omega))) (fun h14 => ?_)
    refine g_aload_n C0 dX10_takes_17 rfl ?_
    refine g_getfield C0 dX10_takes_18 FX10_65 rfl rfl ?_
    refine g_iload_n C0 dX10_takes_21 rfl ?_
    refine g_iaload C0 dX10_takes_22 rfl (by assumption) ?_
    rw [c1, hs]
    refine g_if_ne (tgt := 93) C0 dX10_takes_23 (by decide) (fun z => (by revert z; decide +kernel : False).elim) (fun _ => ?_)
    refine g_aload_n C0 dX10_takes_26 rfl ?_
    refine g_getfield C0 dX10_takes_27 FX10_71 rfl rfl ?_
    refine g_iconst (v := 5) C0 dX10_takes_30 (by decide) ?_
    refine g_iload_n C0 dX10_takes_31 rfl ?_
    refine g_imul C0 dX10_takes_32 ?_
    refine g_iload C0 dX10_takes_33 rfl ?_
    refine g_iadd C0 dX10_takes_35 ?_
    refine g_iaload C0 dX10_takes_36 rfl (by assumption) ?_
    rw [c2]
    refine g_istore C0 dX10_takes_37 (by decide) ?_
    refine g_aload_n C0 dX10_takes_39 rfl ?_
    refine g_getfield C0 dX10_takes_40 FX10_71 rfl rfl ?_
    refine g_iconst (v := 5) C0 dX10_takes_43 (by decide) ?_
    refine g_iload_n C0 dX10_takes_44 rfl ?_
    refine g_imul C0 dX10_takes_45 ?_
    refine g_iload C0 dX10_takes_46 rfl ?_
    refine g_iadd C0 dX10_takes_48 ?_
    refine g_iconst (v := 1) C0 dX10_takes_49 (by decide) ?_
    refine g_iadd C0 dX10_takes_50 ?_
    refine g_iaload C0 dX10_takes_51 rfl (by assumption) ?_
    rw [c3]
    refine g_istore C0 dX10_takes_52 (by decide) ?_
    refine g_iload C0 dX10_takes_54 rfl ?_
    refine g_iload_n C0 dX10_takes_56 rfl ?_
    refine g_icmp_ne (tgt := 66) C0 dX10_takes_57 (by decide) (fun h57 => ?_) (fun h57 => ?_)
    · refine g_iload C0 dX10_takes_66 rfl ?_
      refine g_iload_n C0 dX10_takes_68 rfl ?_
      refine g_icmp_ne (tgt := 83) C0 dX10_takes_69 (by decide) (fun h69 => ?_) (fun h69 => ?_)
      · refine g_iload C0 dX10_takes_83 rfl ?_
        refine g_istore C0 dX10_takes_85 (by decide) ?_
        refine g_iinc (v := nI (k + 1)) C0 dX10_takes_87 rfl (nI_1 _) (by decide) ?_
        refine g_goto (tgt := 6) C0 dX10_takes_90 (by decide) ?_
        exact g_ls (by rw [mtF, if_neg (fun z => z.elim (fun y => h57 y.1) (fun y => h69 y.1))]; rfl) (ih (k + 1) _ _ (by omega))
      refine g_iload C0 dX10_takes_72 rfl ?_
      refine g_iload_n C0 dX10_takes_74 rfl ?_
      refine g_icmp_ne (tgt := 83) C0 dX10_takes_75 (by decide) (fun h75 => ?_) (fun h75 => ?_)
      · refine g_iload C0 dX10_takes_83 rfl ?_
        refine g_istore C0 dX10_takes_85 (by decide) ?_
        refine g_iinc (v := nI (k + 1)) C0 dX10_takes_87 rfl (nI_1 _) (by decide) ?_
        refine g_goto (tgt := 6) C0 dX10_takes_90 (by decide) ?_
        exact g_ls (by rw [mtF, if_neg (fun z => z.elim (fun y => h57 y.1) (fun y => h75 y.2))]; rfl) (ih (k + 1) _ _ (by omega))
      refine g_iload C0 dX10_takes_78 rfl ?_
      refine g_goto (tgt := 85) C0 dX10_takes_80 (by decide) ?_
      refine g_istore C0 dX10_takes_85 (by decide) ?_
      refine g_iinc (v := nI (k + 1)) C0 dX10_takes_87 rfl (nI_1 _) (by decide) ?_
      refine g_goto (tgt := 6) C0 dX10_takes_90 (by decide) ?_
      exact g_ls (by rw [mtF, if_pos (Or.inr ⟨h69, h75⟩)]; rfl) (ih (k + 1) _ _ (by omega))
    refine g_iload C0 dX10_takes_60 rfl ?_
    refine g_iload_n C0 dX10_takes_62 rfl ?_
    refine g_icmp_eq (tgt := 78) C0 dX10_takes_63 (by decide) (fun h63 => ?_) (fun h63 => ?_)
    · refine g_iload C0 dX10_takes_78 rfl ?_
      refine g_goto (tgt := 85) C0 dX10_takes_80 (by decide) ?_
      refine g_istore C0 dX10_takes_85 (by decide) ?_
      refine g_iinc (v := nI (k + 1)) C0 dX10_takes_87 rfl (nI_1 _) (by decide) ?_
      refine g_goto (tgt := 6) C0 dX10_takes_90 (by decide) ?_
      exact g_ls (by rw [mtF, if_pos (Or.inl ⟨h57, h63⟩)]; rfl) (ih (k + 1) _ _ (by omega))
    refine g_iload C0 dX10_takes_66 rfl ?_
    refine g_iload_n C0 dX10_takes_68 rfl ?_
    refine g_icmp_ne (tgt := 83) C0 dX10_takes_69 (by decide) (fun h69 => ?_) (fun h69 => ?_)
    · refine g_iload C0 dX10_takes_83 rfl ?_
      refine g_istore C0 dX10_takes_85 (by decide) ?_
      refine g_iinc (v := nI (k + 1)) C0 dX10_takes_87 rfl (nI_1 _) (by decide) ?_
      refine g_goto (tgt := 6) C0 dX10_takes_90 (by decide) ?_
      exact g_ls (by rw [mtF, if_neg (fun z => z.elim (fun y => h63 y.2) (fun y => h69 y.1))]; rfl) (ih (k + 1) _ _ (by omega))
    refine g_iload C0 dX10_takes_72 rfl ?_
    refine g_iload_n C0 dX10_takes_74 rfl ?_
    refine g_icmp_ne (tgt := 83) C0 dX10_takes_75 (by decide) (fun h75 => ?_) (fun h75 => ?_)
    · refine g_iload C0 dX10_takes_83 rfl ?_
      refine g_istore C0 dX10_takes_85 (by decide) ?_
      refine g_iinc (v := nI (k + 1)) C0 dX10_takes_87 rfl (nI_1 _) (by decide) ?_
      refine g_goto (tgt := 6) C0 dX10_takes_90 (by decide) ?_
      exact g_ls (by rw [mtF, if_neg (fun z => z.elim (fun y => h63 y.2) (fun y => h75 y.2))]; rfl) (ih (k + 1) _ _ (by omega))
    refine g_iload C0 dX10_takes_78 rfl ?_
    refine g_goto (tgt := 85) C0 dX10_takes_80 (by decide) ?_
    refine g_istore C0 dX10_takes_85 (by decide) ?_
    refine g_iinc (v := nI (k + 1)) C0 dX10_takes_87 rfl (nI_1 _) (by decide) ?_
    refine g_goto (tgt := 6) C0 dX10_takes_90 (by decide) ?_
    exact g_ls (by rw [mtF, if_pos (Or.inr ⟨h69, h75⟩)]; rfl) (ih (k + 1) _ _ (by omega))
set_option maxRecDepth 100000 in
set_option maxHeartbeats 4000000 in
theorem m_takes {q : XS} {K : AO → AW → Prop} {c m : Nat} {a b : Int32} (hc : c < 60) (hm : m ≤ 4) (ht : q.1 19 c = nI m) (hK : K (.inl (some (.int (mtakes q c a b m)))) (WM q)) : Snd MX10_takes [.ref 0, .int (nI c), .int a, .int b] (WM q) K := by
  refine Snd.of (by decide +kernel) (Nat.le_of_ble_eq_true rfl) rfl rfl ?_
  intro X D dA ad C0
  show Gd X _ MX10_takes 0 [some (.ref 0), some (.int (nI c)), some (.int a), some (.int b), none, none, none, none] [] _ 0 0
  refine g_iconst (v := (-1)) C0 dX10_takes_0 (by decide) ?_
  refine g_istore C0 dX10_takes_1 (by decide) ?_
  refine g_iconst (v := 0) C0 dX10_takes_3 (by decide) ?_
  refine g_istore C0 dX10_takes_4 (by decide) ?_
  by_cases hs : q.1 18 c = 0
  · rw [mtakes, if_pos hs] at hK
    exact ml_takes hc hm ht hs hK C0 m 0 _ _ (by omega)
  rw [mtakes, if_neg hs] at hK
  have i1 : vp_in (nI c) 60 := vp_in_nI hc (by decide)
  have c1 : (nI c).toNatClampNeg = c := nI_clamp (by omega)
  refine g_iload C0 dX10_takes_6 rfl ?_
  refine g_aload_n C0 dX10_takes_8 rfl ?_
  refine g_getfield C0 dX10_takes_9 FX10_68 rfl rfl ?_
  refine g_iload_n C0 dX10_takes_12 rfl ?_
  refine g_iaload C0 dX10_takes_13 rfl (by assumption) ?_
  rw [c1, ht]
  refine g_icmp_ge (tgt := 93) C0 dX10_takes_14 (by decide) (fun h14 => ?_) (fun h14 => ?_)
  · refine g_iload C0 dX10_takes_93 rfl ?_
    refine g_iret C0 rfl dX10_takes_95 (by decide) (by decide) ?_
    exact hK
  refine g_aload_n C0 dX10_takes_17 rfl ?_
  refine g_getfield C0 dX10_takes_18 FX10_65 rfl rfl ?_
  refine g_iload_n C0 dX10_takes_21 rfl ?_
  refine g_iaload C0 dX10_takes_22 rfl (by assumption) ?_
  rw [c1]
  refine g_if_ne (tgt := 93) C0 dX10_takes_23 (by decide) (fun h23 => ?_) (fun h23 => absurd h23 hs)
  refine g_iload C0 dX10_takes_93 rfl ?_
  refine g_iret C0 rfl dX10_takes_95 (by decide) (by decide) ?_
  exact hK
set_option maxRecDepth 100000 in
set_option maxHeartbeats 4000000 in
theorem ml_used {q : XS} {K : AO → AW → Prop} {a b : Int32} {lam : Nat → Nat} (h5 : q.2 5 ≤ 60) (hl : ∀ k, k < q.2 5 → q.1 19 k = nI (lam k) ∧ lam k ≤ 4) (hK : K (.inl (some (.int (mused q a b lam)))) (WM q)) {X : CX} {D : va_G} {dA : Nat → ClassId} {w0 : AW} {ad : Nat → Nat} (C0 : Ok X (D, dA, w0, ad, K) MX10_used) : ∀ (n9 k : Nat), k + n9 = q.2 5 → Gd X (D, dA, w0, ad, K) MX10_used 5 [some (.ref 0), some (.int a), some (.int b), some (.int (muF q a b lam k)), some (.int (nI k))] [] (WM q) 0 0 := by
  intro n9
  induction n9 with
  | zero =>
    intro k hk
    have hk5 : k = q.2 5 := by omega
    subst hk5
    refine g_iload C0 dX10_used_5 rfl ?_
    refine g_aload_n C0 dX10_used_7 rfl ?_
    refine g_getfield C0 dX10_used_8 FX10_91 rfl rfl ?_
    refine g_icmp_ge (tgt := 40) C0 dX10_used_11 (by decide) (fun _ => ?_) (fun z => absurd (Int32.le_refl _) z)
    refine g_iload_n C0 dX10_used_40 rfl ?_
    refine g_iret C0 rfl dX10_used_41 (by decide) (by decide) ?_
    exact hK
  | succ n9 ih =>
    intro k hk
    refine g_iload C0 dX10_used_5 rfl ?_
    refine g_aload_n C0 dX10_used_7 rfl ?_
    refine g_getfield C0 dX10_used_8 FX10_91 rfl rfl ?_
    refine g_icmp_ge (tgt := 40) C0 dX10_used_11 (by decide) (fun h11 => absurd h11 (nI_ge (by omega) (by omega))) (fun h11 => ?_)
    refine g_iload_n C0 dX10_used_14 rfl ?_
    refine g_aload_n C0 dX10_used_15 rfl ?_
    refine g_iload C0 dX10_used_16 rfl ?_
    refine g_iload_n C0 dX10_used_18 rfl ?_
    refine g_iload_n C0 dX10_used_19 rfl ?_
    refine g_invV3 C0 dX10_used_20 CX10_104 rfl rfl ⟨by decide, by decide, by decide, by decide⟩ (Nat.le_of_ble_eq_true rfl) ?_
    refine m_takes (by omega) (hl k (by omega)).2 (hl k (by omega)).1 ?_
    refine Aft_v (WM_len2 _ _) ?_
    refine g_iconst (v := (-1)) C0 dX10_used_23 (by decide) ?_
    refine g_icmp_ne (tgt := 31) C0 dX10_used_24 (by decide) (fun h24 => ?_) (fun h24 => ?_)
    · refine g_iconst (v := 1) C0 dX10_used_31 (by decide) ?_
      refine g_iadd C0 dX10_used_32 ?_
      refine g_istore_n C0 dX10_used_33 (by decide) ?_
      refine g_iinc (v := nI (k + 1)) C0 dX10_used_34 rfl (nI_1 _) (by decide) ?_
      refine g_goto (tgt := 5) C0 dX10_used_37 (by decide) ?_
      exact g_ls (by rw [muF, if_neg h24]; rfl) (ih (k + 1) (by omega))
    refine g_iconst (v := 0) C0 dX10_used_27 (by decide) ?_
    refine g_goto (tgt := 32) C0 dX10_used_28 (by decide) ?_
    refine g_iadd C0 dX10_used_32 ?_
    refine g_istore_n C0 dX10_used_33 (by decide) ?_
    refine g_iinc (v := nI (k + 1)) C0 dX10_used_34 rfl (nI_1 _) (by decide) ?_
    refine g_goto (tgt := 5) C0 dX10_used_37 (by decide) ?_
    exact g_ls (by rw [muF, if_pos h24]; rfl) (ih (k + 1) (by omega))
set_option maxRecDepth 100000 in
set_option maxHeartbeats 4000000 in
theorem m_used {q : XS} {K : AO → AW → Prop} {a b : Int32} {lam : Nat → Nat} (h5 : q.2 5 ≤ 60) (hl : ∀ k, k < q.2 5 → q.1 19 k = nI (lam k) ∧ lam k ≤ 4) (hK : K (.inl (some (.int (mused q a b lam)))) (WM q)) : Snd MX10_used [.ref 0, .int a, .int b] (WM q) K := by
  refine Snd.of (by decide +kernel) (Nat.le_of_ble_eq_true rfl) rfl rfl ?_
  intro X D dA ad C0
  show Gd X _ MX10_used 0 [some (.ref 0), some (.int a), some (.int b), none, none] [] _ 0 0
  refine g_iconst (v := 0) C0 dX10_used_0 (by decide) ?_
  refine g_istore_n C0 dX10_used_1 (by decide) ?_
  refine g_iconst (v := 0) C0 dX10_used_2 (by decide) ?_
  refine g_istore C0 dX10_used_3 (by decide) ?_
  exact ml_used h5 hl hK C0 (q.2 5) 0 (by omega)
set_option maxRecDepth 100000 in
set_option maxHeartbeats 4000000 in
theorem m_pay {q : XS} {K : AO → AW → Prop} {a b : Int32} (ha : vp_in a 5) (hb : vp_in b 5) (hK : K (.inl none) (WM (mpay q a b))) : Snd MX10_payFor [.ref 0, .int a, .int b] (WM q) K := by
  refine Snd.of (by decide +kernel) (Nat.le_of_ble_eq_true rfl) rfl rfl ?_
  intro X D dA ad C0
  show Gd X _ MX10_payFor 0 [some (.ref 0), some (.int a), some (.int b)] [] _ 0 0
  refine g_aload_n C0 dX10_payFor_0 rfl ?_
  refine g_getfield C0 dX10_payFor_1 FX10_22 rfl rfl ?_
  refine g_iload_n C0 dX10_payFor_4 rfl ?_
  refine g_dup2 C0 dX10_payFor_5 rfl rfl ?_
  refine g_iaload C0 dX10_payFor_6 rfl (by assumption) ?_
  refine g_iconst (v := 5) C0 dX10_payFor_7 (by decide) ?_
  refine g_isub C0 dX10_payFor_8 ?_
  refine g_iastore C0 dX10_payFor_9 rfl (by assumption) ?_
  refine g_w (WM_set _ 4 (by decide) _) ?_
  refine g_aload_n C0 dX10_payFor_10 rfl ?_
  refine g_getfield C0 dX10_payFor_11 FX10_22 rfl rfl ?_
  refine g_iload_n C0 dX10_payFor_14 rfl ?_
  refine g_dup2 C0 dX10_payFor_15 rfl rfl ?_
  refine g_iaload C0 dX10_payFor_16 rfl (by assumption) ?_
  refine g_iconst (v := 5) C0 dX10_payFor_17 (by decide) ?_
  refine g_iadd C0 dX10_payFor_18 ?_
  refine g_iastore C0 dX10_payFor_19 rfl (by assumption) ?_
  refine g_w (WM_set _ 4 (by decide) _) ?_
  refine g_aload_n C0 dX10_payFor_20 rfl ?_
  refine g_getfield C0 dX10_payFor_21 FX10_28 rfl rfl ?_
  refine g_iload_n C0 dX10_payFor_24 rfl ?_
  refine g_dup2 C0 dX10_payFor_25 rfl rfl ?_
  refine g_iaload C0 dX10_payFor_26 rfl (by assumption) ?_
  refine g_iconst (v := 5) C0 dX10_payFor_27 (by decide) ?_
  refine g_iadd C0 dX10_payFor_28 ?_
  refine g_iastore C0 dX10_payFor_29 rfl (by assumption) ?_
  refine g_w (WM_set _ 6 (by decide) _) ?_
  refine g_vret C0 rfl dX10_payFor_30 (by decide) (by decide) ?_
  exact hK
set_option maxRecDepth 100000 in
set_option maxHeartbeats 4000000 in
theorem m_settle {q : XS} {K : AO → AW → Prop} {n p : Int32} (h4 : q.2 4 ≤ 60) (hn : vp_in n 12) (hp : vp_in (mplace (mset1 q n p) n 20000) 5) (hK : K (.inl none) (WM (msettle q n p))) : Snd MX10_settle [.ref 0, .int n, .int p] (WM q) K := by
  refine Snd.of (by decide +kernel) (Nat.le_of_ble_eq_true rfl) rfl rfl ?_
  intro X D dA ad C0
  show Gd X _ MX10_settle 0 [some (.ref 0), some (.int n), some (.int p)] [] _ 0 0
  refine g_aload_n C0 dX10_settle_0 rfl ?_
  refine g_getfield C0 dX10_settle_1 FX10_37 rfl rfl ?_
  refine g_iload_n C0 dX10_settle_4 rfl ?_
  refine g_dup2 C0 dX10_settle_5 rfl rfl ?_
  refine g_iaload C0 dX10_settle_6 rfl (by assumption) ?_
  refine g_iload_n C0 dX10_settle_7 rfl ?_
  refine g_isub C0 dX10_settle_8 ?_
  refine g_iastore C0 dX10_settle_9 rfl (by assumption) ?_
  refine g_w (WM_set _ 9 (by decide) _) ?_
  refine g_aload_n C0 dX10_settle_10 rfl ?_
  refine g_getfield C0 dX10_settle_11 FX10_22 rfl rfl ?_
  refine g_aload_n C0 dX10_settle_14 rfl ?_
  refine g_iload_n C0 dX10_settle_15 rfl ?_
  refine g_invV1 C0 dX10_settle_16 CX10_131 rfl rfl ⟨by decide, by decide, by decide, by decide⟩ (Nat.le_of_ble_eq_true rfl) ?_
  refine m_placeOf (show q.2 4 ≤ 60 from h4) ?_
  refine Aft_v (WM_len2 _ _) ?_
  refine g_dup2 C0 dX10_settle_19 rfl rfl ?_
  refine g_iaload C0 dX10_settle_20 rfl (by assumption) ?_
  refine g_iload_n C0 dX10_settle_21 rfl ?_
  refine g_iadd C0 dX10_settle_22 ?_
  refine g_iastore C0 dX10_settle_23 rfl (by assumption) ?_
  refine g_w (WM_set _ 4 (by decide) _) ?_
  refine g_aload_n C0 dX10_settle_24 rfl ?_
  refine g_getfield C0 dX10_settle_25 FX10_43 rfl rfl ?_
  refine g_iload_n C0 dX10_settle_28 rfl ?_
  refine g_aload_n C0 dX10_settle_29 rfl ?_
  refine g_getfield C0 dX10_settle_30 FX10_43 rfl rfl ?_
  refine g_iload_n C0 dX10_settle_33 rfl ?_
  refine g_zaload C0 dX10_settle_34 rfl (by assumption) ?_
  refine g_if_eq (tgt := 51) C0 dX10_settle_35 (by decide) (fun h35 => ?_) (fun h35 => ?_)
  · refine g_iconst (v := 0) C0 dX10_settle_51 (by decide) ?_
    refine g_zastore C0 dX10_settle_52 rfl (by assumption) ?_
    rw [nar0]
    refine g_w (WM_setz _ _) ?_
    refine g_vret C0 rfl dX10_settle_53 (by decide) (by decide) ?_
    rw [msettle, if_pos] at hK
    · exact hK
    · exact h35
  refine g_aload_n C0 dX10_settle_38 rfl ?_
  refine g_getfield C0 dX10_settle_39 FX10_37 rfl rfl ?_
  refine g_iload_n C0 dX10_settle_42 rfl ?_
  refine g_iaload C0 dX10_settle_43 rfl (by assumption) ?_
  refine g_if_le (tgt := 51) C0 dX10_settle_44 (by decide) (fun h44 => ?_) (fun h44 => ?_)
  · refine g_iconst (v := 0) C0 dX10_settle_51 (by decide) ?_
    refine g_zastore C0 dX10_settle_52 rfl (by assumption) ?_
    rw [nar0]
    refine g_w (WM_setz _ _) ?_
    refine g_vret C0 rfl dX10_settle_53 (by decide) (by decide) ?_
    rw [msettle, if_neg, if_pos] at hK
    · exact hK
    · exact h44
    · exact h35
  refine g_iconst (v := 1) C0 dX10_settle_47 (by decide) ?_
  refine g_goto (tgt := 52) C0 dX10_settle_48 (by decide) ?_
  refine g_zastore C0 dX10_settle_52 rfl (by assumption) ?_
  rw [nar1]
  refine g_w (WM_setz _ _) ?_
  refine g_vret C0 rfl dX10_settle_53 (by decide) (by decide) ?_
  rw [msettle, if_neg, if_neg] at hK
  · exact hK
  · exact h44
  · exact h35
set_option maxRecDepth 100000 in
set_option maxHeartbeats 4000000 in
theorem ml_with {q : XS} {K : AO → AW → Prop} {n : Int32} (h5 : q.2 5 ≤ 60) (hK : K (.inl (some (.int (mwith q n)))) (WM q)) {X : CX} {D : va_G} {dA : Nat → ClassId} {w0 : AW} {ad : Nat → Nat} (C0 : Ok X (D, dA, w0, ad, K) MX10_callWith) : ∀ (n9 k : Nat), k + n9 = q.2 5 → Gd X (D, dA, w0, ad, K) MX10_callWith 4 [some (.ref 0), some (.int n), some (.int (mcF q n k)), some (.int (nI k))] [] (WM q) 0 0 := by
  intro n9
  induction n9 with
  | zero =>
    intro k hk
    have hk5 : k = q.2 5 := by omega
    subst hk5
    refine g_iload_n C0 dX10_callWith_4 rfl ?_
    refine g_aload_n C0 dX10_callWith_5 rfl ?_
    refine g_getfield C0 dX10_callWith_6 FX10_91 rfl rfl ?_
    refine g_icmp_ge (tgt := 53) C0 dX10_callWith_9 (by decide) (fun _ => ?_) (fun z => absurd (Int32.le_refl _) z)
    refine g_iload_n C0 dX10_callWith_53 rfl ?_
    refine g_iret C0 rfl dX10_callWith_54 (by decide) (by decide) ?_
    exact hK
  | succ n9 ih =>
    intro k hk
    have ik : vp_in (nI k) 60 := vp_in_nI (by omega) (by omega)
    have ck : (nI k).toNatClampNeg = k := nI_clamp (by omega)
    refine g_iload_n C0 dX10_callWith_4 rfl ?_
    refine g_aload_n C0 dX10_callWith_5 rfl ?_
    refine g_getfield C0 dX10_callWith_6 FX10_91 rfl rfl ?_
    refine g_icmp_ge (tgt := 53) C0 dX10_callWith_9 (by decide) (fun h9 => absurd h9 (nI_ge (by omega) (by omega))) (fun h9 => ?_)
    refine g_aload_n C0 dX10_callWith_12 rfl ?_
    refine g_getfield C0 dX10_callWith_13 FX10_65 rfl rfl ?_
    refine g_iload_n C0 dX10_callWith_16 rfl ?_
    refine g_iaload C0 dX10_callWith_17 rfl (by assumption) ?_
    rw [ck]
    refine g_if_ne (tgt := 45) C0 dX10_callWith_18 (by decide) (fun h18 => ?_) (fun h18 => ?_)
    · refine g_iload_n C0 dX10_callWith_45 rfl ?_
      refine g_istore_n C0 dX10_callWith_46 (by decide) ?_
      refine g_iinc (v := nI (k + 1)) C0 dX10_callWith_47 rfl (nI_1 _) (by decide) ?_
      refine g_goto (tgt := 4) C0 dX10_callWith_50 (by decide) ?_
      exact g_ls (by rw [mcF, if_neg (fun z => h18 z.1)]; rfl) (ih (k + 1) (by omega))
    refine g_aload_n C0 dX10_callWith_21 rfl ?_
    refine g_getfield C0 dX10_callWith_22 FX10_59 rfl rfl ?_
    refine g_iload_n C0 dX10_callWith_25 rfl ?_
    refine g_iaload C0 dX10_callWith_26 rfl (by assumption) ?_
    rw [ck]
    refine g_iload_n C0 dX10_callWith_27 rfl ?_
    refine g_icmp_eq (tgt := 41) C0 dX10_callWith_28 (by decide) (fun h28 => ?_) (fun h28 => ?_)
    · refine g_iload_n C0 dX10_callWith_41 rfl ?_
      refine g_goto (tgt := 46) C0 dX10_callWith_42 (by decide) ?_
      refine g_istore_n C0 dX10_callWith_46 (by decide) ?_
      refine g_iinc (v := nI (k + 1)) C0 dX10_callWith_47 rfl (nI_1 _) (by decide) ?_
      refine g_goto (tgt := 4) C0 dX10_callWith_50 (by decide) ?_
      exact g_ls (by rw [mcF, if_pos ⟨h18, Or.inl h28⟩]; rfl) (ih (k + 1) (by omega))
    refine g_aload_n C0 dX10_callWith_31 rfl ?_
    refine g_getfield C0 dX10_callWith_32 FX10_62 rfl rfl ?_
    refine g_iload_n C0 dX10_callWith_35 rfl ?_
    refine g_iaload C0 dX10_callWith_36 rfl (by assumption) ?_
    rw [ck]
    refine g_iload_n C0 dX10_callWith_37 rfl ?_
    refine g_icmp_ne (tgt := 45) C0 dX10_callWith_38 (by decide) (fun h38 => ?_) (fun h38 => ?_)
    · refine g_iload_n C0 dX10_callWith_45 rfl ?_
      refine g_istore_n C0 dX10_callWith_46 (by decide) ?_
      refine g_iinc (v := nI (k + 1)) C0 dX10_callWith_47 rfl (nI_1 _) (by decide) ?_
      refine g_goto (tgt := 4) C0 dX10_callWith_50 (by decide) ?_
      exact g_ls (by rw [mcF, if_neg (fun z => z.2.elim h28 h38)]; rfl) (ih (k + 1) (by omega))
    refine g_iload_n C0 dX10_callWith_41 rfl ?_
    refine g_goto (tgt := 46) C0 dX10_callWith_42 (by decide) ?_
    refine g_istore_n C0 dX10_callWith_46 (by decide) ?_
    refine g_iinc (v := nI (k + 1)) C0 dX10_callWith_47 rfl (nI_1 _) (by decide) ?_
    refine g_goto (tgt := 4) C0 dX10_callWith_50 (by decide) ?_
    exact g_ls (by rw [mcF, if_pos ⟨h18, Or.inr h38⟩]; rfl) (ih (k + 1) (by omega))
set_option maxRecDepth 100000 in
set_option maxHeartbeats 4000000 in
theorem m_with {q : XS} {K : AO → AW → Prop} {n : Int32} (h5 : q.2 5 ≤ 60) (hK : K (.inl (some (.int (mwith q n)))) (WM q)) : Snd MX10_callWith [.ref 0, .int n] (WM q) K := by
  refine Snd.of (by decide +kernel) (Nat.le_of_ble_eq_true rfl) rfl rfl ?_
  intro X D dA ad C0
  show Gd X _ MX10_callWith 0 [some (.ref 0), some (.int n), none, none] [] _ 0 0
  refine g_iconst (v := (-1)) C0 dX10_callWith_0 (by decide) ?_
  refine g_istore_n C0 dX10_callWith_1 (by decide) ?_
  refine g_iconst (v := 0) C0 dX10_callWith_2 (by decide) ?_
  refine g_istore_n C0 dX10_callWith_3 (by decide) ?_
  exact ml_with h5 hK C0 (q.2 5) 0 (by omega)
set_option maxRecDepth 100000 in
set_option maxHeartbeats 4000000 in
theorem ml_onway {q : XS} {K : AO → AW → Prop} {c : Int32} {m : Nat} (hm : m ≤ 5) (hK : K (.inl (some (.int (if moF q c m = true then 1 else 0)))) (WM q)) {X : CX} {D : va_G} {dA : Nat → ClassId} {w0 : AW} {ad : Nat → Nat} (C0 : Ok X (D, dA, w0, ad, K) MX10_isOnWay) : ∀ (n9 k : Nat), k + n9 = m → Gd X (D, dA, w0, ad, K) MX10_isOnWay 5 [some (.ref 0), some (.int c), some (.int (nI m)), some (.int (if moF q c k = true then 1 else 0)), some (.int (nI k))] [] (WM q) 0 0 := by
  intro n9
  induction n9 with
  | zero =>
    intro k hk
    have hkm : k = m := by omega
    subst hkm
    refine g_iload C0 dX10_isOnWay_5 rfl ?_
    refine g_iload_n C0 dX10_isOnWay_7 rfl ?_
    refine g_icmp_ge (tgt := 38) C0 dX10_isOnWay_8 (by decide) (fun _ => ?_) (fun z => absurd (Int32.le_refl _) z)
    refine g_iload_n C0 dX10_isOnWay_38 rfl ?_
    refine g_zret C0 rfl (by split <;> rfl) dX10_isOnWay_39 (by decide) (by decide) ?_
    exact hK
  | succ n9 ih =>
    intro k hk
    have ik : vp_in (nI k) 5 := vp_in_nI (by omega) (by omega)
    have ck : (nI k).toNatClampNeg = k := nI_clamp (by omega)
    refine g_iload C0 dX10_isOnWay_5 rfl ?_
    refine g_iload_n C0 dX10_isOnWay_7 rfl ?_
    refine g_icmp_ge (tgt := 38) C0 dX10_isOnWay_8 (by decide) (fun h8 => absurd h8 (nI_ge (by omega) (by omega))) (fun h8 => ?_)
    refine g_iload_n C0 dX10_isOnWay_11 rfl ?_
    by_cases hf : moF q c k = true
    · rw [if_pos hf]
      refine g_if_ne (tgt := 26) C0 dX10_isOnWay_12 (by decide) (fun _ => ?_) (fun z => (by revert z; decide +kernel : False).elim)
      refine g_iconst (v := 1) C0 dX10_isOnWay_26 (by decide) ?_
      refine g_goto (tgt := 31) C0 dX10_isOnWay_27 (by decide) ?_
      refine g_istore_n C0 dX10_isOnWay_31 (by decide) ?_
      refine g_iinc (v := nI (k + 1)) C0 dX10_isOnWay_32 rfl (nI_1 _) (by decide) ?_
      refine g_goto (tgt := 5) C0 dX10_isOnWay_35 (by decide) ?_
      exact g_ls (by rw [moF, hf]; rfl) (ih (k + 1) (by omega))
    rw [if_neg hf]
    refine g_if_ne (tgt := 26) C0 dX10_isOnWay_12 (by decide) (fun z => (by revert z; decide +kernel : False).elim) (fun _ => ?_)
    refine g_aload_n C0 dX10_isOnWay_15 rfl ?_
    refine g_getfield C0 dX10_isOnWay_16 FX10_80 rfl rfl ?_
    refine g_iload C0 dX10_isOnWay_19 rfl ?_
    refine g_iaload C0 dX10_isOnWay_21 rfl (by assumption) ?_
    rw [ck]
    refine g_iload_n C0 dX10_isOnWay_22 rfl ?_
    refine g_icmp_ne (tgt := 30) C0 dX10_isOnWay_23 (by decide) (fun h23 => ?_) (fun h23 => ?_)
    · refine g_iconst (v := 0) C0 dX10_isOnWay_30 (by decide) ?_
      refine g_istore_n C0 dX10_isOnWay_31 (by decide) ?_
      refine g_iinc (v := nI (k + 1)) C0 dX10_isOnWay_32 rfl (nI_1 _) (by decide) ?_
      refine g_goto (tgt := 5) C0 dX10_isOnWay_35 (by decide) ?_
      exact g_ls (by rw [moF, Bool.eq_false_iff.mpr hf, decide_eq_false h23]; rfl) (ih (k + 1) (by omega))
    refine g_iconst (v := 1) C0 dX10_isOnWay_26 (by decide) ?_
    refine g_goto (tgt := 31) C0 dX10_isOnWay_27 (by decide) ?_
    refine g_istore_n C0 dX10_isOnWay_31 (by decide) ?_
    refine g_iinc (v := nI (k + 1)) C0 dX10_isOnWay_32 rfl (nI_1 _) (by decide) ?_
    refine g_goto (tgt := 5) C0 dX10_isOnWay_35 (by decide) ?_
    exact g_ls (by rw [moF, h23, decide_eq_true rfl, Bool.or_true]; rfl) (ih (k + 1) (by omega))
set_option maxRecDepth 100000 in
set_option maxHeartbeats 4000000 in
theorem m_onway {q : XS} {K : AO → AW → Prop} {c : Int32} {m : Nat} (hm : m ≤ 5) (hK : K (.inl (some (.int (if moF q c m = true then 1 else 0)))) (WM q)) : Snd MX10_isOnWay [.ref 0, .int c, .int (nI m)] (WM q) K := by
  refine Snd.of (by decide +kernel) (Nat.le_of_ble_eq_true rfl) rfl rfl ?_
  intro X D dA ad C0
  show Gd X _ MX10_isOnWay 0 [some (.ref 0), some (.int c), some (.int (nI m)), none, none] [] _ 0 0
  refine g_iconst (v := 0) C0 dX10_isOnWay_0 (by decide) ?_
  refine g_istore_n C0 dX10_isOnWay_1 (by decide) ?_
  refine g_iconst (v := 0) C0 dX10_isOnWay_2 (by decide) ?_
  refine g_istore C0 dX10_isOnWay_3 (by decide) ?_
  exact ml_onway hm hK C0 m 0 (by omega)
set_option maxRecDepth 100000 in
set_option maxHeartbeats 4000000 in
theorem m_dear {w : AW} {K : AO → AW → Prop} {s : Int32} (hK : K (.inl (some (.int (if noW (s / 60 - s / 60 / 24 * 24) 8 19 then 0 else 1)))) w) : Snd MX10_isDearIn [.int s] (w) K := by
  refine Snd.of (by decide +kernel) (Nat.le_of_ble_eq_true rfl) rfl rfl ?_
  intro X D dA ad C0
  show Gd X _ MX10_isDearIn 0 [some (.int s)] [] _ 0 0
  refine g_iload_n C0 dX10_isDearIn_0 rfl ?_
  refine g_bipush (v := 60) C0 dX10_isDearIn_1 (by decide) ?_
  refine g_idiv C0 dX10_isDearIn_3 (by decide) ?_
  refine g_bipush (v := 24) C0 dX10_isDearIn_4 (by decide) ?_
  refine g_irem C0 dX10_isDearIn_6 (by decide) ?_
  refine g_bipush (v := 8) C0 dX10_isDearIn_7 (by decide) ?_
  refine g_bipush (v := 19) C0 dX10_isDearIn_9 (by decide) ?_
  refine g_invS3 C0 dX10_isDearIn_11 CX10_87 rfl ⟨by decide, by decide, by decide, by decide⟩ (Nat.le_of_ble_eq_true rfl) ?_
  refine m_in ?_
  refine Aft_v rfl ?_
  refine g_zret C0 rfl (by split <;> rfl) dX10_isDearIn_14 (by decide) (by decide) ?_
  exact hK

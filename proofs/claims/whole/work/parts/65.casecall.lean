/-! ===== the law's case of call ===== -/
theorem call_l {q t : XS} (rx : RX q t) {a b : Int32} : ¬ noN a → ¬ noN b → nI (q.2 6) < 60 → ¬ (xfind q a b).2 = 0 → xg (cbegin (xfind q a b).1 a b (nI ((xfind q a b).1.2 0))) 33 (nI ((xfind q a b).1.2 6)) = nI ((mcomes (z0 t) a b (lm t)).1.2 7 + 1) ∧ (mcomes (z0 t) a b (lm t)).1.2 7 < 100000 ∧ (xfind q a b).1.2 7 < 100000 := fun h1 h2 h3 h4 => by
  obtain ⟨i, hi, rfl⟩ := nN h1
  obtain ⟨j, hj, rfl⟩ := nN h2
  have w : WR (xfind q (nI i) (nI j)).1 (mcomes (z0 t) (nI i) (nI j) (lm t)).1 ((mcomes (z0 t) (nI i) (nI j) (lm t)).1.2 7) := (xfind_n (rx.z0 0) hi hj).1
  have f5 := w.f5
  have hc2 : (mcomes (z0 t) (nI i) (nI j) (lm t)).1.2 5 = t.2 5 := mcomes_c 5 (by decide)
  have h6 := rx.c60
  have hx6 : (xfind q (nI i) (nI j)).1.2 6 = q.2 6 := w.r.cC.trans (hc2.trans rx.cC.symm)
  have hq : q.2 6 < 60 := (nI_ltI (b := 60) (by omega) (by decide)).mp h3
  have hc : (xfind q (nI i) (nI j)).1.2 6 < 60 := by rw [hx6]; exact hq
  refine ⟨?_, by omega, by rw [w.lx]; omega⟩
  rw [cbegin_n w hc, xg_n (k := 33) (show (xfind q (nI i) (nI j)).1.2 6 < 60 from hc)]
  exact pk_us
set_option maxRecDepth 100000 in
set_option maxHeartbeats 4000000 in
theorem lc_call {X : CX} {D : va_G} {dA : Nat → ClassId} {w0 : AW} {ad0 : Nat → Nat} {K : AO → AW → Prop} {q t : XS} {f : Nat → Int64} {L i cs ss : Nat} {xs : Nat → Int32} {o5 o6 : Option Value} (C0 : Ok X (D, dA, w0, ad0, K) ML_law) (SC : SCR X (D, dA, w0, ad0, K) 110 L xs) (hw0 : w0.length = 110) (rx : RX q t) (hL : L ≤ 2048) (hi : i + 3 < L) (hc : cs + 12 ≤ 601024) (hs : ss + 72 ≤ 7293034) (hn : ∀ (q2 t2 : XS) (f2 : Nat → Int64) (p5 p6 : Option Value), RX q2 t2 → Gd X (D, dA, w0, ad0, K) ML_law 2347 [some (.ref 110), some (.ref 0), some (.ref 84), some (.ref 109), some (.int (nI i)), p5, p6] [] (W3 q2 t2 f2) (cs + 12) (ss + 72)) : Gd X (D, dA, w0, ad0, K) ML_law 760 [some (.ref 110), some (.ref 0), some (.ref 84), some (.ref 109), some (.int (nI i)), o5, o6] [] (W3 q t f) cs ss := by
  obtain ⟨hA, hr⟩ := s_call rx (xs (i + 1)) (xs (i + 2))
  rcases hA with ⟨v, ox, om, c0⟩ | ⟨e9, b9, he, ox, om, ck, cp, c4⟩
  · refine g_aload_n C0 dL_law_760 rfl ?_
    refine g_scr (kk := 1) C0 SC (W3l hw0) dL_law_761 dL_law_762 dL_law_764 dL_law_765 dL_law_766 rfl rfl (by decide +kernel) (by omega) (by omega) ?_
    refine g_scr (kk := 2) C0 SC (W3l hw0) dL_law_767 dL_law_768 dL_law_770 dL_law_771 dL_law_772 rfl rfl (by decide +kernel) (by omega) (by omega) ?_
    refine g_aload_n C0 dL_law_773 rfl ?_
    refine g_invSH (As := [.ref 0, .int (xs (i + 1)), .int (xs (i + 2)), .ref 109]) (st := []) C0 dL_law_774 CL_158 rfl rfl rfl ⟨by decide, by decide, (by show cs + 6 ≤ 601024; omega), (by show ss + 36 ≤ 7293034; omega)⟩ (Nat.le_of_ble_eq_true rfl) (w_call (fun K hK => p_call (by have := rx.p60; omega) (call_l rx) hK) (Or.inl ⟨v, ox⟩) (fun v9 g9 => ?_) (fun e8 g9 => ?_))
    rotate_left
    · cases (ox.symm.trans g9)
    cases (ox.symm.trans g9)
    refine Aft_v rfl ?_
    refine g_istore C0 dL_law_777 (by decide) ?_
    refine g_aload_n C0 dL_law_779 rfl ?_
    refine g_scr (kk := 1) C0 SC (W3l hw0) dL_law_780 dL_law_781 dL_law_783 dL_law_784 dL_law_785 rfl rfl (by decide +kernel) (by omega) (by omega) ?_
    refine g_scr (kk := 2) C0 SC (W3l hw0) dL_law_786 dL_law_787 dL_law_789 dL_law_790 dL_law_791 rfl rfl (by decide +kernel) (by omega) (by omega) ?_
    refine g_invV (As := [.int (xs (i + 1)), .int (xs (i + 2))]) (st := []) (ci := 10) C0 dL_law_792 CL_160 rfl rfl rfl rfl ⟨by decide, by decide, (by show cs + 6 + 0 ≤ 601024; omega), (by show ss + 36 + 0 ≤ 7293034; omega)⟩ (Nat.le_of_ble_eq_true rfl) (frMK (av := [.ref 0, .int (xs (i + 1)), .int (xs (i + 2))]) (fun K hK => r_call (by rw [← rx.cP]; exact rx.p60) (by rw [← rx.cC]; exact rx.c60) (fun k _ => rx.g19 k) rx.g13 hK) ?_)
    rw [om, osh_i]
    refine Aft_v rfl ?_
    refine g_istore C0 dL_law_795 (by decide) ?_
    refine g_aload_n C0 dL_law_797 rfl ?_
    refine g_invV (As := []) (st := []) (ci := 10) C0 dL_law_798 CL_131 rfl rfl rfl rfl ⟨by decide, by decide, (by show cs + 6 + 0 + 0 ≤ 601024; omega), (by show ss + 36 + 0 + 0 ≤ 7293034; omega)⟩ (Nat.le_of_ble_eq_true rfl) (frMK (av := [.ref 0]) (fun K hK => m_thrown hK) ?_)
    rw [osh_i, c0, nI_0]
    refine Aft_v rfl ?_
    refine g_iload C0 dL_law_801 rfl ?_
    refine g_icmp_eq (tgt := 808) C0 dL_law_803 (by decide) (fun _ => ?_) (fun z => absurd rfl z)
    refine g_iload C0 dL_law_808 rfl ?_
    refine g_if_ne (tgt := 825) C0 dL_law_810 (by decide) (fun z => absurd rfl z) (fun _ => ?_)
    refine g_aload_n C0 dL_law_813 rfl ?_
    refine g_iconst (v := 0) C0 dL_law_814 (by decide) ?_
    refine g_laload C0 dL_law_815 (W3_out _ _ _) in01 ?_
    rw [show (0 : Int32).toNatClampNeg = 0 by decide +kernel, pk_uLs]
    refine g_iload C0 dL_law_816 rfl ?_
    refine g_i2l C0 dL_law_818 ?_
    refine g_lcmp C0 dL_law_819 ?_
    rw [cmp_self]
    refine g_if_eq (tgt := 825) C0 dL_law_820 (by decide) (fun _ => ?_) (fun z => absurd rfl z)
    refine g_goto (tgt := 2347) C0 dL_law_825 (by decide) ?_
    refine g_widen (cs2 := cs + 12) (ss2 := ss + 72) (by show cs + 6 + 0 + 0 ≤ cs + 12; omega) (by show ss + 36 + 0 + 0 ≤ ss + 72; omega) ?_
    exact hn _ _ _ _ _ hr
  · refine g_aload_n C0 dL_law_760 rfl ?_
    refine g_scr (kk := 1) C0 SC (W3l hw0) dL_law_761 dL_law_762 dL_law_764 dL_law_765 dL_law_766 rfl rfl (by decide +kernel) (by omega) (by omega) ?_
    refine g_scr (kk := 2) C0 SC (W3l hw0) dL_law_767 dL_law_768 dL_law_770 dL_law_771 dL_law_772 rfl rfl (by decide +kernel) (by omega) (by omega) ?_
    refine g_aload_n C0 dL_law_773 rfl ?_
    refine g_invSH (As := [.ref 0, .int (xs (i + 1)), .int (xs (i + 2)), .ref 109]) (st := []) C0 dL_law_774 CL_158 rfl rfl rfl ⟨by decide, by decide, (by show cs + 6 ≤ 601024; omega), (by show ss + 36 ≤ 7293034; omega)⟩ (Nat.le_of_ble_eq_true rfl) (w_call (fun K hK => p_call (by have := rx.p60; omega) (call_l rx) hK) (Or.inr ⟨e9, ox, he, (by rw [← ck]; exact cp)⟩) (fun v9 g9 => ?_) (fun e8 g9 => ?_))
    · cases (ox.symm.trans g9)
    cases (ox.symm.trans g9)
    rw [← ck]
    refine Aft_v rfl ?_
    refine g_istore C0 dL_law_777 (by decide) ?_
    refine g_aload_n C0 dL_law_779 rfl ?_
    refine g_scr (kk := 1) C0 SC (W3l hw0) dL_law_780 dL_law_781 dL_law_783 dL_law_784 dL_law_785 rfl rfl (by decide +kernel) (by omega) (by omega) ?_
    refine g_scr (kk := 2) C0 SC (W3l hw0) dL_law_786 dL_law_787 dL_law_789 dL_law_790 dL_law_791 rfl rfl (by decide +kernel) (by omega) (by omega) ?_
    refine g_invV (As := [.int (xs (i + 1)), .int (xs (i + 2))]) (st := []) (ci := 10) C0 dL_law_792 CL_160 rfl rfl rfl rfl ⟨by decide, by decide, (by show cs + 6 + 0 ≤ 601024; omega), (by show ss + 36 + 0 ≤ 7293034; omega)⟩ (Nat.le_of_ble_eq_true rfl) (frMK (av := [.ref 0, .int (xs (i + 1)), .int (xs (i + 2))]) (fun K hK => r_call (by rw [← rx.cP]; exact rx.p60) (by rw [← rx.cC]; exact rx.c60) (fun k _ => rx.g19 k) rx.g13 hK) ?_)
    rw [om, osh_i]
    refine Aft_v rfl ?_
    refine g_istore C0 dL_law_795 (by decide) ?_
    refine g_aload_n C0 dL_law_797 rfl ?_
    refine g_invV (As := []) (st := []) (ci := 10) C0 dL_law_798 CL_131 rfl rfl rfl rfl ⟨by decide, by decide, (by show cs + 6 + 0 + 0 ≤ 601024; omega), (by show ss + 36 + 0 + 0 ≤ 7293034; omega)⟩ (Nat.le_of_ble_eq_true rfl) (frMK (av := [.ref 0]) (fun K hK => m_thrown hK) ?_)
    rw [osh_i]
    refine Aft_v rfl ?_
    refine g_iload C0 dL_law_801 rfl ?_
    refine g_icmp_eq (tgt := 808) C0 dL_law_803 (by decide) (fun _ => ?_) (fun z => absurd rfl z)
    refine g_iload C0 dL_law_808 rfl ?_
    refine g_if_ne (tgt := 825) C0 dL_law_810 (by decide) (fun _ => ?_) (fun z => absurd z (nI_ne0 cp (by omega)))
    refine g_goto (tgt := 2347) C0 dL_law_825 (by decide) ?_
    refine g_widen (cs2 := cs + 12) (ss2 := ss + 72) (by show cs + 6 + 0 + 0 ≤ cs + 12; omega) (by show ss + 36 + 0 + 0 ≤ ss + 72; omega) ?_
    exact hn _ _ _ _ _ hr

abbrev mpn (q : XS) (k : Nat) : Int32 := mg q 16 (nI k)
abbrev mpp (q : XS) (k : Nat) : Int32 := mplace q (mpn q k) 20000
def mprice (q : XS) (k : Nat) : Int32 := if noW (nI (q.2 1) / 60 - nI (q.2 1) / 60 / 24 * 24) 8 19 then mg q 1 (mpp q k) else mg q 0 (mpp q k)
def mx1 (q : XS) (n p : Int32) : XS := mw q 9 n (mg q 9 n + p)
def mx2 (q : XS) (n p : Int32) : XS := mw (mx1 q n p) 7 (mg (mx1 q n p) 8 n) (mg (mx1 q n p) 7 (mg (mx1 q n p) 8 n) + p)
def mx3 (q : XS) (n pl p : Int32) : XS := mw (mx2 q n p) 5 pl (mg (mx2 q n p) 5 pl + p)
def mx4 (q : XS) (k : Nat) (n pl p : Int32) : XS := mw (mx3 q n pl p) 22 (nI k) (mg (mx3 q n pl p) 22 (nI k) + p)
def mx5 (q : XS) (k : Nat) (n pl p : Int32) : XS := mw (mx4 q k n pl p) 21 (nI k) (mg (mx4 q k n pl p) 21 (nI k) + 1)
def inF (q : XS) (s : Int32) : Nat → XS × Int32
  | 0 => (q, s)
  | k + 1 => if mg (inF q s k).1 18 (nI k) = 0 then (mx5 (inF q s k).1 k (mpn (inF q s k).1 k) (mpp (inF q s k).1 k) (mprice (inF q s k).1 k), (inF q s k).2 + mprice (inF q s k).1 k) else inF q s k
def outF (q : XS) : Nat → XS × Int32
  | 0 => (q, 0)
  | n + 1 => (setC (inF (outF q n).1 (outF q n).2 ((outF q n).1.2 5)).1 1 ((inF (outF q n).1 (outF q n).2 ((outF q n).1.2 5)).1.2 1 + 1), (inF (outF q n).1 (outF q n).2 ((outF q n).1.2 5)).2)
def mPass (q : XS) (s : Int32) (m : Nat) : AO × XS := if noW s 1 2000 then R1 q 1 else if nI (q.2 1) + s ≤ 20000 then R0 (outF (z0 q) m).1 (outF (z0 q) m).2 else R1 q 2
theorem inF_p {q : XS} {s : Int32} {k : Nat} (h : mg (inF q s k).1 18 (nI k) = 0) : inF q s (k + 1) = (mx5 (inF q s k).1 k (mpn (inF q s k).1 k) (mpp (inF q s k).1 k) (mprice (inF q s k).1 k), (inF q s k).2 + mprice (inF q s k).1 k) := if_pos h
theorem inF_n {q : XS} {s : Int32} {k : Nat} (h : ¬ mg (inF q s k).1 18 (nI k) = 0) : inF q s (k + 1) = inF q s k := if_neg h
theorem inF_c (q : XS) (s : Int32) : ∀ k, (inF q s k).1.2 = q.2
  | 0 => rfl
  | k + 1 => by
    rw [inF]
    split
    · exact inF_c q s k
    · exact inF_c q s k
theorem inF_r (q : XS) (s : Int32) (j : Nat) (hj : ¬ (j = 9 ∨ j = 7 ∨ j = 5 ∨ j = 22 ∨ j = 21)) : ∀ k, (inF q s k).1.1 j = q.1 j
  | 0 => rfl
  | k + 1 => by
    rw [inF]
    split
    · refine Eq.trans ?_ (inF_r q s j hj k)
      refine (if_neg (fun z => hj (by omega))).trans ?_
      refine (if_neg (fun z => hj (by omega))).trans ?_
      refine (if_neg (fun z => hj (by omega))).trans ?_
      refine (if_neg (fun z => hj (by omega))).trans ?_
      exact if_neg (fun z => hj (by omega))
    · exact inF_r q s j hj k
theorem outF_c (q : XS) (j : Nat) (hj : ¬ j = 1) : ∀ n, (outF q n).1.2 j = q.2 j
  | 0 => rfl
  | n + 1 => by
    rw [outF]
    refine (if_neg hj).trans ?_
    rw [inF_c]; exact outF_c q j hj n
theorem outF_r (q : XS) (j : Nat) (hj : ¬ (j = 9 ∨ j = 7 ∨ j = 5 ∨ j = 22 ∨ j = 21)) : ∀ n, (outF q n).1.1 j = q.1 j
  | 0 => rfl
  | n + 1 => by
    rw [outF]
    refine Eq.trans ?_ (outF_r q j hj n)
    exact inF_r (outF q n).1 _ j hj _
set_option maxRecDepth 100000 in
set_option maxHeartbeats 4000000 in
theorem ml_pin {q : XS} {K : AO → AW → Prop} {a s0 : Int32} {i9 : Int32} (h4 : q.2 4 ≤ 60) (h5 : q.2 5 ≤ 60) (hc : ∀ k, vp_in (q.1 13 k) 5) (hn : ∀ k, vp_in (q.1 16 k) 12) (ho : ∀ k, vp_in (q.1 8 k) 6) {X : CX} {D : va_G} {dA : Nat → ClassId} {w0 : AW} {ad : Nat → Nat} (C0 : Ok X (D, dA, w0, ad, K) MX10_pass) : ∀ (n9 k : Nat) (o5 o6 o7 : Option Value), k + n9 = q.2 5 → (∀ o5 o6 o7 : Option Value, Gd X (D, dA, w0, ad, K) MX10_pass 193 [some (.ref 0), some (.int a), some (.int (inF q s0 (q.2 5)).2), some (.int i9), some (.int (nI (q.2 5))), o5, o6, o7] [] (WM (inF q s0 (q.2 5)).1) 0 0) → Gd X (D, dA, w0, ad, K) MX10_pass 53 [some (.ref 0), some (.int a), some (.int (inF q s0 k).2), some (.int i9), some (.int (nI k)), o5, o6, o7] [] (WM (inF q s0 k).1) 0 0 := by
  intro n9
  induction n9 with
  | zero =>
    intro k o5 o6 o7 hk kt
    have hk2 : k = q.2 5 := by omega
    subst hk2
    have hIc := inF_c q s0 (q.2 5)
    refine g_iload C0 dX10_pass_53 rfl ?_
    refine g_aload_n C0 dX10_pass_55 rfl ?_
    refine g_getfield C0 dX10_pass_56 FX10_91 rfl rfl ?_
    refine g_st (congrArg (fun (z : Nat → Nat) => [Value.int (nI (z 5)), Value.int (nI (q.2 5))]) hIc) ?_
    refine g_icmp_ge (tgt := 193) C0 dX10_pass_59 (by decide) (fun _ => ?_) (fun z => absurd (Int32.le_refl _) z)
    exact kt _ _ _
  | succ n9 ih =>
    intro k o5 o6 o7 hk kt
    have hIc := inF_c q s0 k
    have hI13 := inF_r q s0 13 (by decide) k
    have hI16 := inF_r q s0 16 (by decide) k
    have hI8 := inF_r q s0 8 (by decide) k
    have ik : vp_in (nI k) 60 := vp_in_nI (by omega) (by omega)
    have inn : vp_in (mpn (inF q s0 k).1 k) 12 := by show vp_in ((inF q s0 k).1.1 16 _) 12; rw [hI16]; exact hn _
    have ipl : vp_in (mpp (inF q s0 k).1 k) 5 := mplace_in (by rw [hI13]; exact hc) inn
    have iow : vp_in (mg (inF q s0 k).1 8 (mpn (inF q s0 k).1 k)) 6 := by show vp_in ((inF q s0 k).1.1 8 _) 6; rw [hI8]; exact ho _
    refine g_iload C0 dX10_pass_53 rfl ?_
    refine g_aload_n C0 dX10_pass_55 rfl ?_
    refine g_getfield C0 dX10_pass_56 FX10_91 rfl rfl ?_
    refine g_st (congrArg (fun (z : Nat → Nat) => [Value.int (nI (z 5)), Value.int (nI k)]) hIc) ?_
    refine g_icmp_ge (tgt := 193) C0 dX10_pass_59 (by decide) (fun h59 => absurd h59 (nI_ge (by omega) (by omega))) (fun h59 => ?_)
    refine g_aload_n C0 dX10_pass_62 rfl ?_
    refine g_getfield C0 dX10_pass_63 FX10_65 rfl rfl ?_
    refine g_iload C0 dX10_pass_66 rfl ?_
    refine g_iaload C0 dX10_pass_68 rfl (by assumption) ?_
    refine g_if_ne (tgt := 187) C0 dX10_pass_69 (by decide) (fun h69 => ?_) (fun h69 => ?_)
    · refine g_iinc (v := nI (k + 1)) C0 dX10_pass_187 rfl (nI_1 _) (by decide) ?_
      refine g_goto (tgt := 53) C0 dX10_pass_190 (by decide) ?_
      have H := fun x y z => ih (k + 1) x y z (by omega) kt
      rw [inF_n h69] at H
      exact H _ _ _
    refine g_aload_n C0 dX10_pass_72 rfl ?_
    refine g_getfield C0 dX10_pass_73 FX10_59 rfl rfl ?_
    refine g_iload C0 dX10_pass_76 rfl ?_
    refine g_iaload C0 dX10_pass_78 rfl (by assumption) ?_
    refine g_istore C0 dX10_pass_79 (by decide) ?_
    refine g_aload_n C0 dX10_pass_81 rfl ?_
    refine g_iload C0 dX10_pass_82 rfl ?_
    refine g_invV1 C0 dX10_pass_84 CX10_131 rfl rfl ⟨by decide, by decide, by decide, by decide⟩ (Nat.le_of_ble_eq_true rfl) ?_
    refine m_placeOf (by rw [hIc]; exact h4) ?_
    refine Aft_v (WM_len2 _ _) ?_
    refine g_istore C0 dX10_pass_87 (by decide) ?_
    refine g_aload_n C0 dX10_pass_89 rfl ?_
    refine g_getfield C0 dX10_pass_90 FX10_125 rfl rfl ?_
    refine g_invS1 C0 dX10_pass_93 CX10_163 rfl ⟨by decide, by decide, by decide, by decide⟩ (Nat.le_of_ble_eq_true rfl) ?_
    refine m_dear ?_
    refine Aft_v (WM_len2 _ _) ?_
    by_cases b93 : noW (nI ((inF q s0 k).1.2 1) / 60 - nI ((inF q s0 k).1.2 1) / 60 / 24 * 24) 8 19
    · rw [if_pos b93]
      refine g_if_eq (tgt := 109) C0 dX10_pass_96 (by decide) (fun _ => ?_) (fun z => (by revert z; decide +kernel : False).elim)
      refine g_aload_n C0 dX10_pass_109 rfl ?_
      refine g_getfield C0 dX10_pass_110 FX10_13 rfl rfl ?_
      refine g_iload C0 dX10_pass_113 rfl ?_
      refine g_iaload C0 dX10_pass_115 rfl (by assumption) ?_
      refine g_istore C0 dX10_pass_116 (by decide) ?_
      refine g_aload_n C0 dX10_pass_118 rfl ?_
      refine g_getfield C0 dX10_pass_119 FX10_37 rfl rfl ?_
      refine g_iload C0 dX10_pass_122 rfl ?_
      refine g_dup2 C0 dX10_pass_124 rfl rfl ?_
      refine g_iaload C0 dX10_pass_125 rfl inn ?_
      refine g_iload C0 dX10_pass_126 rfl ?_
      refine g_iadd C0 dX10_pass_128 ?_
      refine g_iastore C0 dX10_pass_129 rfl inn ?_
      refine g_w (WM_set _ 9 (by decide) _) ?_
      refine g_aload_n C0 dX10_pass_130 rfl ?_
      refine g_getfield C0 dX10_pass_131 FX10_31 rfl rfl ?_
      refine g_aload_n C0 dX10_pass_134 rfl ?_
      refine g_getfield C0 dX10_pass_135 FX10_34 rfl rfl ?_
      refine g_iload C0 dX10_pass_138 rfl ?_
      refine g_iaload C0 dX10_pass_140 rfl inn ?_
      refine g_dup2 C0 dX10_pass_141 rfl rfl ?_
      refine g_iaload C0 dX10_pass_142 rfl iow ?_
      refine g_iload C0 dX10_pass_143 rfl ?_
      refine g_iadd C0 dX10_pass_145 ?_
      refine g_iastore C0 dX10_pass_146 rfl iow ?_
      refine g_w (WM_set _ 7 (by decide) _) ?_
      refine g_aload_n C0 dX10_pass_147 rfl ?_
      refine g_getfield C0 dX10_pass_148 FX10_25 rfl rfl ?_
      refine g_iload C0 dX10_pass_151 rfl ?_
      refine g_dup2 C0 dX10_pass_153 rfl rfl ?_
      refine g_iaload C0 dX10_pass_154 rfl (by assumption) ?_
      refine g_iload C0 dX10_pass_155 rfl ?_
      refine g_iadd C0 dX10_pass_157 ?_
      refine g_iastore C0 dX10_pass_158 rfl (by assumption) ?_
      refine g_w (WM_set _ 5 (by decide) _) ?_
      refine g_aload_n C0 dX10_pass_159 rfl ?_
      refine g_getfield C0 dX10_pass_160 FX10_77 rfl rfl ?_
      refine g_iload C0 dX10_pass_163 rfl ?_
      refine g_dup2 C0 dX10_pass_165 rfl rfl ?_
      refine g_iaload C0 dX10_pass_166 rfl (by assumption) ?_
      refine g_iload C0 dX10_pass_167 rfl ?_
      refine g_iadd C0 dX10_pass_169 ?_
      refine g_iastore C0 dX10_pass_170 rfl (by assumption) ?_
      refine g_w (WM_set _ 22 (by decide) _) ?_
      refine g_aload_n C0 dX10_pass_171 rfl ?_
      refine g_getfield C0 dX10_pass_172 FX10_74 rfl rfl ?_
      refine g_iload C0 dX10_pass_175 rfl ?_
      refine g_dup2 C0 dX10_pass_177 rfl rfl ?_
      refine g_iaload C0 dX10_pass_178 rfl (by assumption) ?_
      refine g_iconst (v := 1) C0 dX10_pass_179 (by decide) ?_
      refine g_iadd C0 dX10_pass_180 ?_
      refine g_iastore C0 dX10_pass_181 rfl (by assumption) ?_
      refine g_w (WM_set _ 21 (by decide) _) ?_
      refine g_iload_n C0 dX10_pass_182 rfl ?_
      refine g_iload C0 dX10_pass_183 rfl ?_
      refine g_iadd C0 dX10_pass_185 ?_
      refine g_istore_n C0 dX10_pass_186 (by decide) ?_
      refine g_iinc (v := nI (k + 1)) C0 dX10_pass_187 rfl (nI_1 _) (by decide) ?_
      refine g_goto (tgt := 53) C0 dX10_pass_190 (by decide) ?_
      have hpr : mprice (inF q s0 k).1 k = mg (inF q s0 k).1 1 (mpp (inF q s0 k).1 k) := if_pos b93
      have H := fun x y z => ih (k + 1) x y z (by omega) kt
      rw [inF_p h69, hpr] at H
      exact H _ _ _
    rw [if_neg b93]
    refine g_if_eq (tgt := 109) C0 dX10_pass_96 (by decide) (fun z => (by revert z; decide +kernel : False).elim) (fun _ => ?_)
    refine g_aload_n C0 dX10_pass_99 rfl ?_
    refine g_getfield C0 dX10_pass_100 FX10_7 rfl rfl ?_
    refine g_iload C0 dX10_pass_103 rfl ?_
    refine g_iaload C0 dX10_pass_105 rfl (by assumption) ?_
    refine g_goto (tgt := 116) C0 dX10_pass_106 (by decide) ?_
    refine g_istore C0 dX10_pass_116 (by decide) ?_
    refine g_aload_n C0 dX10_pass_118 rfl ?_
    refine g_getfield C0 dX10_pass_119 FX10_37 rfl rfl ?_
    refine g_iload C0 dX10_pass_122 rfl ?_
    refine g_dup2 C0 dX10_pass_124 rfl rfl ?_
    refine g_iaload C0 dX10_pass_125 rfl inn ?_
    refine g_iload C0 dX10_pass_126 rfl ?_
    refine g_iadd C0 dX10_pass_128 ?_
    refine g_iastore C0 dX10_pass_129 rfl inn ?_
    refine g_w (WM_set _ 9 (by decide) _) ?_
    refine g_aload_n C0 dX10_pass_130 rfl ?_
    refine g_getfield C0 dX10_pass_131 FX10_31 rfl rfl ?_
    refine g_aload_n C0 dX10_pass_134 rfl ?_
    refine g_getfield C0 dX10_pass_135 FX10_34 rfl rfl ?_
    refine g_iload C0 dX10_pass_138 rfl ?_
    refine g_iaload C0 dX10_pass_140 rfl inn ?_
    refine g_dup2 C0 dX10_pass_141 rfl rfl ?_
    refine g_iaload C0 dX10_pass_142 rfl iow ?_
    refine g_iload C0 dX10_pass_143 rfl ?_
    refine g_iadd C0 dX10_pass_145 ?_
    refine g_iastore C0 dX10_pass_146 rfl iow ?_
    refine g_w (WM_set _ 7 (by decide) _) ?_
    refine g_aload_n C0 dX10_pass_147 rfl ?_
    refine g_getfield C0 dX10_pass_148 FX10_25 rfl rfl ?_
    refine g_iload C0 dX10_pass_151 rfl ?_
    refine g_dup2 C0 dX10_pass_153 rfl rfl ?_
    refine g_iaload C0 dX10_pass_154 rfl (by assumption) ?_
    refine g_iload C0 dX10_pass_155 rfl ?_
    refine g_iadd C0 dX10_pass_157 ?_
    refine g_iastore C0 dX10_pass_158 rfl (by assumption) ?_
    refine g_w (WM_set _ 5 (by decide) _) ?_
    refine g_aload_n C0 dX10_pass_159 rfl ?_
    refine g_getfield C0 dX10_pass_160 FX10_77 rfl rfl ?_
    refine g_iload C0 dX10_pass_163 rfl ?_
    refine g_dup2 C0 dX10_pass_165 rfl rfl ?_
    refine g_iaload C0 dX10_pass_166 rfl (by assumption) ?_
    refine g_iload C0 dX10_pass_167 rfl ?_
    refine g_iadd C0 dX10_pass_169 ?_
    refine g_iastore C0 dX10_pass_170 rfl (by assumption) ?_
    refine g_w (WM_set _ 22 (by decide) _) ?_
    refine g_aload_n C0 dX10_pass_171 rfl ?_
    refine g_getfield C0 dX10_pass_172 FX10_74 rfl rfl ?_
    refine g_iload C0 dX10_pass_175 rfl ?_
    refine g_dup2 C0 dX10_pass_177 rfl rfl ?_
    refine g_iaload C0 dX10_pass_178 rfl (by assumption) ?_
    refine g_iconst (v := 1) C0 dX10_pass_179 (by decide) ?_
    refine g_iadd C0 dX10_pass_180 ?_
    refine g_iastore C0 dX10_pass_181 rfl (by assumption) ?_
    refine g_w (WM_set _ 21 (by decide) _) ?_
    refine g_iload_n C0 dX10_pass_182 rfl ?_
    refine g_iload C0 dX10_pass_183 rfl ?_
    refine g_iadd C0 dX10_pass_185 ?_
    refine g_istore_n C0 dX10_pass_186 (by decide) ?_
    refine g_iinc (v := nI (k + 1)) C0 dX10_pass_187 rfl (nI_1 _) (by decide) ?_
    refine g_goto (tgt := 53) C0 dX10_pass_190 (by decide) ?_
    have hpr : mprice (inF q s0 k).1 k = mg (inF q s0 k).1 0 (mpp (inF q s0 k).1 k) := if_neg b93
    have H := fun x y z => ih (k + 1) x y z (by omega) kt
    rw [inF_p h69, hpr] at H
    exact H _ _ _
set_option maxRecDepth 100000 in
set_option maxHeartbeats 4000000 in
theorem ml_pout {q : XS} {K : AO → AW → Prop} {m : Nat} (hm : m ≤ 2000) (h4 : q.2 4 ≤ 60) (h5 : q.2 5 ≤ 60) (hc : ∀ k, vp_in (q.1 13 k) 5) (hn : ∀ k, vp_in (q.1 16 k) 12) (ho : ∀ k, vp_in (q.1 8 k) 6) (hK : K (.inl (some (.int (outF q m).2))) (WM (outF q m).1)) {X : CX} {D : va_G} {dA : Nat → ClassId} {w0 : AW} {ad : Nat → Nat} (C0 : Ok X (D, dA, w0, ad, K) MX10_pass) : ∀ (n9 k : Nat) (o4 o5 o6 o7 : Option Value), k + n9 = m → Gd X (D, dA, w0, ad, K) MX10_pass 45 [some (.ref 0), some (.int (nI m)), some (.int (outF q k).2), some (.int (nI k)), o4, o5, o6, o7] [] (WM (outF q k).1) 0 0 := by
  intro n9
  induction n9 with
  | zero =>
    intro k o4 o5 o6 o7 hk
    have hk2 : k = m := by omega
    subst hk2
    refine g_iload_n C0 dX10_pass_45 rfl ?_
    refine g_iload_n C0 dX10_pass_46 rfl ?_
    refine g_icmp_ge (tgt := 209) C0 dX10_pass_47 (by decide) (fun _ => ?_) (fun z => absurd (Int32.le_refl _) z)
    refine g_iload_n C0 dX10_pass_209 rfl ?_
    refine g_iret C0 rfl dX10_pass_210 (by decide) (by decide) ?_
    exact hK
  | succ n9 ih =>
    intro k o4 o5 o6 o7 hk
    refine g_iload_n C0 dX10_pass_45 rfl ?_
    refine g_iload_n C0 dX10_pass_46 rfl ?_
    refine g_icmp_ge (tgt := 209) C0 dX10_pass_47 (by decide) (fun h47 => absurd h47 (nI_ge (by omega) (by omega))) (fun h47 => ?_)
    refine g_iconst (v := 0) C0 dX10_pass_50 (by decide) ?_
    refine g_istore C0 dX10_pass_51 (by decide) ?_
    have e4 : (outF q k).1.2 4 ≤ 60 := by rw [outF_c q 4 (by decide)]; exact h4
    have e5 : (outF q k).1.2 5 ≤ 60 := by rw [outF_c q 5 (by decide)]; exact h5
    refine ml_pin e4 e5 (by rw [outF_r q 13 (by decide)]; exact hc) (by rw [outF_r q 16 (by decide)]; exact hn) (by rw [outF_r q 8 (by decide)]; exact ho) C0 ((outF q k).1.2 5) 0 _ _ _ (by omega) ?_
    intro o5 o6 o7
    refine g_aload_n C0 dX10_pass_193 rfl ?_
    refine g_dup C0 dX10_pass_194 rfl ?_
    refine g_getfield C0 dX10_pass_195 FX10_125 rfl rfl ?_
    refine g_iconst (v := 1) C0 dX10_pass_198 (by decide) ?_
    refine g_iadd C0 dX10_pass_199 ?_
    refine g_putfield C0 dX10_pass_200 FX10_125 rfl (Nat.le_of_ble_eq_true rfl) (fun _ => ⟨rfl, rfl⟩) ?_
    refine g_w (WM_inc1 _) ?_
    refine g_iinc (v := nI (k + 1)) C0 dX10_pass_203 rfl (nI_1 _) (by decide) ?_
    refine g_goto (tgt := 45) C0 dX10_pass_206 (by decide) ?_
    exact ih (k + 1) _ _ _ _ (by omega)
set_option maxRecDepth 100000 in
set_option maxHeartbeats 4000000 in
theorem r_pass {q : XS} {K : AO → AW → Prop} {s : Int32} {m : Nat} (hs : ¬ noW s 1 2000 → s = nI m ∧ m ≤ 2000) (h4 : q.2 4 ≤ 60) (h5 : q.2 5 ≤ 60) (hc : ∀ k, vp_in (q.1 13 k) 5) (hn : ∀ k, vp_in (q.1 16 k) 12) (ho : ∀ k, vp_in (q.1 8 k) 6) (hK : K (mPass q s m).1 (WM (mPass q s m).2)) : Snd MX10_pass [.ref 0, .int s] (WM q) K := by
  refine Snd.of (by decide +kernel) (Nat.le_of_ble_eq_true rfl) rfl rfl ?_
  intro X D dA ad C0
  show Gd X _ MX10_pass 0 [some (.ref 0), some (.int s), none, none, none, none, none, none] [] _ 0 0
  refine g_aload_n C0 dX10_pass_0 rfl ?_
  refine g_iload_n C0 dX10_pass_1 rfl ?_
  refine g_iconst (v := 1) C0 dX10_pass_2 (by decide) ?_
  refine g_sipush (v := 2000) C0 dX10_pass_3 (by decide) ?_
  refine g_invS3 C0 dX10_pass_6 CX10_87 rfl ⟨by decide, by decide, by decide, by decide⟩ (Nat.le_of_ble_eq_true rfl) ?_
  refine m_in ?_
  refine Aft_v (WM_len2 _ _) ?_
  by_cases b6 : noW s 1 2000
  · rw [if_pos b6]
    refine g_if_ne (tgt := 16) C0 dX10_pass_9 (by decide) (fun z => (by revert z; decide +kernel : False).elim) (fun _ => ?_)
    refine g_iconst (v := 1) C0 dX10_pass_12 (by decide) ?_
    refine g_goto (tgt := 33) C0 dX10_pass_13 (by decide) ?_
    refine g_invV1 C0 dX10_pass_33 CX10_101 rfl rfl ⟨by decide, by decide, by decide, by decide⟩ (Nat.le_of_ble_eq_true rfl) ?_
    refine m_refused (n := 1) (by decide) ?_
    refine Aft_v (WM_len2 _ _) ?_
    rw [if_neg (by decide)]
    refine g_if_eq (tgt := 41) C0 dX10_pass_36 (by decide) (fun z => (by revert z; decide +kernel : False).elim) (fun _ => ?_)
    refine g_iconst (v := 0) C0 dX10_pass_39 (by decide) ?_
    refine g_iret C0 rfl dX10_pass_40 (by decide) (by decide) ?_
    rw [mPass, if_pos b6] at hK
    exact hK
  rw [if_neg b6]
  refine g_if_ne (tgt := 16) C0 dX10_pass_9 (by decide) (fun _ => ?_) (fun z => (by revert z; decide +kernel : False).elim)
  refine g_aload_n C0 dX10_pass_16 rfl ?_
  refine g_getfield C0 dX10_pass_17 FX10_125 rfl rfl ?_
  refine g_iload_n C0 dX10_pass_20 rfl ?_
  refine g_iadd C0 dX10_pass_21 ?_
  refine g_sipush (v := 20000) C0 dX10_pass_22 (by decide) ?_
  refine g_icmp_le (tgt := 32) C0 dX10_pass_25 (by decide) (fun h25 => ?_) (fun h25 => ?_)
  · refine g_iconst (v := 0) C0 dX10_pass_32 (by decide) ?_
    refine g_invV1 C0 dX10_pass_33 CX10_101 rfl rfl ⟨by decide, by decide, by decide, by decide⟩ (Nat.le_of_ble_eq_true rfl) ?_
    refine m_refused (n := 0) (by decide) ?_
    refine Aft_v (WM_len2 _ _) ?_
    rw [if_pos rfl]
    refine g_if_eq (tgt := 41) C0 dX10_pass_36 (by decide) (fun _ => ?_) (fun z => (by revert z; decide +kernel : False).elim)
    refine g_iconst (v := 0) C0 dX10_pass_41 (by decide) ?_
    refine g_istore_n C0 dX10_pass_42 (by decide) ?_
    refine g_iconst (v := 0) C0 dX10_pass_43 (by decide) ?_
    refine g_istore_n C0 dX10_pass_44 (by decide) ?_
    rw [mPass, if_neg b6, if_pos h25] at hK
    obtain ⟨rfl, hm⟩ := hs b6
    exact ml_pout (q := z0 q) hm h4 h5 hc hn ho hK C0 m 0 _ _ _ _ (by omega)
  refine g_iconst (v := 2) C0 dX10_pass_28 (by decide) ?_
  refine g_goto (tgt := 33) C0 dX10_pass_29 (by decide) ?_
  refine g_invV1 C0 dX10_pass_33 CX10_101 rfl rfl ⟨by decide, by decide, by decide, by decide⟩ (Nat.le_of_ble_eq_true rfl) ?_
  refine m_refused (n := 2) (by decide) ?_
  refine Aft_v (WM_len2 _ _) ?_
  rw [if_neg (by decide)]
  refine g_if_eq (tgt := 41) C0 dX10_pass_36 (by decide) (fun z => (by revert z; decide +kernel : False).elim) (fun _ => ?_)
  refine g_iconst (v := 0) C0 dX10_pass_39 (by decide) ?_
  refine g_iret C0 rfl dX10_pass_40 (by decide) (by decide) ?_
  rw [mPass, if_neg b6, if_neg h25] at hK
  exact hK

theorem in300 {k j : Nat} (hk : k < 60) (hj : j < 5) : vp_in (5 * nI k + nI j) 300 := by rw [i5n]; exact vp_in_nI (by omega) (by decide)
theorem in300s {k j : Nat} (hk : k < 60) (hj : j < 4) : vp_in (5 * nI k + nI j + 1) 300 := by rw [i5n, nI_1]; exact vp_in_nI (by omega) (by decide)
set_option maxRecDepth 100000 in
set_option maxHeartbeats 4000000 in
theorem ml_lose {K : AO → AW → Prop} {a b nl nn : Int32} {lam : Nat → Nat} {X : CX} {D : va_G} {dA : Nat → ClassId} {w0 : AW} {ad : Nat → Nat} (C0 : Ok X (D, dA, w0, ad, K) MX10_setTrunk) : ∀ (n9 : Nat) (q : XS) (g : Nat) (o9 : Option Value), n9 ≤ 60 → (∀ k, k < 60 → q.1 19 k = nI (lam k) ∧ lam k ≤ 4) → (∀ i, vp_in (q.1 20 i) 5) → K (.inl (some (.int (nI (mlF a b nn lam n9 q g).2)))) (WM (mlF a b nn lam n9 q g).1) → Gd X (D, dA, w0, ad, K) MX10_setTrunk 113 [some (.ref 0), some (.int a), some (.int b), some (.int nl), some (.int 1), some (.int 1), some (.int nn), some (.int (nI g)), some (.int (nI n9 - 1)), o9] [] (WM q) 0 0 := by
  intro n9
  induction n9 with
  | zero =>
    intro q g o9 h9 hl hw hK
    refine g_iload C0 dX10_setTrunk_113 rfl ?_
    refine g_if_lt (tgt := 198) C0 dX10_setTrunk_115 (by decide) (fun _ => ?_) (fun z => absurd (by decide +kernel) z)
    refine g_iload C0 dX10_setTrunk_198 rfl ?_
    refine g_iret C0 rfl dX10_setTrunk_200 (by decide) (by decide) ?_
    exact hK
  | succ n9 ih =>
    intro q g o9 h9 hl hw hK
    rw [nI_pred]
    have ik : vp_in (nI n9) 60 := vp_in_nI (by omega) (by omega)
    have ck : (nI n9).toNatClampNeg = n9 := nI_clamp (by omega)
    refine g_iload C0 dX10_setTrunk_113 rfl ?_
    refine g_if_lt (tgt := 198) C0 dX10_setTrunk_115 (by decide) (fun h115 => absurd h115 (nI_pos (by omega))) (fun h115 => ?_)
    refine g_iload C0 dX10_setTrunk_118 rfl ?_
    refine g_iload C0 dX10_setTrunk_120 rfl ?_
    refine g_icmp_ge (tgt := 198) C0 dX10_setTrunk_122 (by decide) (fun h122 => ?_) (fun h122 => ?_)
    · refine g_iload C0 dX10_setTrunk_198 rfl ?_
      refine g_iret C0 rfl dX10_setTrunk_200 (by decide) (by decide) ?_
      rw [mlF, if_pos h122] at hK
      exact hK
    refine g_aload_n C0 dX10_setTrunk_125 rfl ?_
    refine g_iload C0 dX10_setTrunk_126 rfl ?_
    refine g_iload_n C0 dX10_setTrunk_128 rfl ?_
    refine g_iload_n C0 dX10_setTrunk_129 rfl ?_
    refine g_invV3 C0 dX10_setTrunk_130 CX10_104 rfl rfl ⟨by decide, by decide, by decide, by decide⟩ (Nat.le_of_ble_eq_true rfl) ?_
    refine m_takes (by omega) (hl n9 (by omega)).2 (hl n9 (by omega)).1 ?_
    refine Aft_v (WM_len2 _ _) ?_
    refine g_istore C0 dX10_setTrunk_133 (by decide) ?_
    refine g_iload C0 dX10_setTrunk_135 rfl ?_
    refine g_iconst (v := (-1)) C0 dX10_setTrunk_137 (by decide) ?_
    refine g_icmp_eq (tgt := 192) C0 dX10_setTrunk_138 (by decide) (fun h138 => ?_) (fun h138 => ?_)
    · refine g_iinc (v := nI n9 - 1) C0 dX10_setTrunk_192 rfl (ii_m1 _) (by decide) ?_
      refine g_goto (tgt := 113) C0 dX10_setTrunk_195 (by decide) ?_
      rw [mlF, if_neg h122, if_pos h138] at hK
      exact ih _ _ _ (by omega) hl hw hK
    obtain ⟨j, hj, ej⟩ := (mtakes_val (q := q) (c := n9) (m := lam n9) (a := a) (b := b)).resolve_left h138
    have hj4 : j < 4 := by have := (hl n9 (by omega)).2; omega
    have x1 : vp_in (5 * nI n9 + mtakes q n9 a b (lam n9) + 1) 300 := by rw [ej]; exact in300s (by omega) hj4
    have x2 : vp_in (5 * nI n9 + mtakes q n9 a b (lam n9)) 300 := by rw [ej]; exact in300 (by omega) (by omega)
    refine g_aload_n C0 dX10_setTrunk_141 rfl ?_
    refine g_aload_n C0 dX10_setTrunk_142 rfl ?_
    refine g_getfield C0 dX10_setTrunk_143 FX10_71 rfl rfl ?_
    refine g_iconst (v := 5) C0 dX10_setTrunk_146 (by decide) ?_
    refine g_iload C0 dX10_setTrunk_147 rfl ?_
    refine g_imul C0 dX10_setTrunk_149 ?_
    refine g_iload C0 dX10_setTrunk_150 rfl ?_
    refine g_iadd C0 dX10_setTrunk_152 ?_
    refine g_iconst (v := 1) C0 dX10_setTrunk_153 (by decide) ?_
    refine g_iadd C0 dX10_setTrunk_154 ?_
    refine g_iaload C0 dX10_setTrunk_155 rfl (by assumption) ?_
    refine g_aload_n C0 dX10_setTrunk_156 rfl ?_
    refine g_getfield C0 dX10_setTrunk_157 FX10_71 rfl rfl ?_
    refine g_iconst (v := 5) C0 dX10_setTrunk_160 (by decide) ?_
    refine g_iload C0 dX10_setTrunk_161 rfl ?_
    refine g_imul C0 dX10_setTrunk_163 ?_
    refine g_iload C0 dX10_setTrunk_164 rfl ?_
    refine g_iadd C0 dX10_setTrunk_166 ?_
    refine g_iaload C0 dX10_setTrunk_167 rfl (by assumption) ?_
    refine g_invV2 C0 dX10_setTrunk_168 CX10_112 rfl rfl ⟨by decide, by decide, by decide, by decide⟩ (Nat.le_of_ble_eq_true rfl) ?_
    refine m_pay (hw _) (hw _) ?_
    refine Aft_n (WM_len2 _ _) ?_
    refine g_aload_n C0 dX10_setTrunk_171 rfl ?_
    refine g_getfield C0 dX10_setTrunk_172 FX10_65 rfl rfl ?_
    refine g_iload C0 dX10_setTrunk_175 rfl ?_
    refine g_iconst (v := 2) C0 dX10_setTrunk_177 (by decide) ?_
    refine g_iastore C0 dX10_setTrunk_178 rfl (by assumption) ?_
    refine g_w (WM_set _ 18 (by decide) _) ?_
    refine g_aload_n C0 dX10_setTrunk_179 rfl ?_
    refine g_dup C0 dX10_setTrunk_180 rfl ?_
    refine g_getfield C0 dX10_setTrunk_181 FX10_116 rfl rfl ?_
    refine g_iconst (v := 1) C0 dX10_setTrunk_184 (by decide) ?_
    refine g_iadd C0 dX10_setTrunk_185 ?_
    refine g_putfield C0 dX10_setTrunk_186 FX10_116 rfl (Nat.le_of_ble_eq_true rfl) (fun _ => ⟨rfl, rfl⟩) ?_
    refine g_w (WM_inc6 _) ?_
    refine g_iinc (v := nI (g + 1)) C0 dX10_setTrunk_189 rfl (nI_1 _) (by decide) ?_
    refine g_iinc (v := nI n9 - 1) C0 dX10_setTrunk_192 rfl (ii_m1 _) (by decide) ?_
    refine g_goto (tgt := 113) C0 dX10_setTrunk_195 (by decide) ?_
    rw [mlF, if_neg h122, if_neg h138] at hK
    exact ih (mlQ q n9 (mtakes q n9 a b (lam n9))) (g + 1) _ (by omega) hl hw hK
set_option maxRecDepth 100000 in
set_option maxHeartbeats 4000000 in
theorem r_setTrunk {q : XS} {K : AO → AW → Prop} {a b n : Int32} (h5 : q.2 5 ≤ 60) {lam : Nat → Nat} (hl : ∀ k, k < 60 → q.1 19 k = nI (lam k) ∧ lam k ≤ 4) (hw : ∀ i, vp_in (q.1 20 i) 5) (hK : K (mSetTrunk q a b n lam).1 (WM (mSetTrunk q a b n lam).2)) : Snd MX10_setTrunk [.ref 0, .int a, .int b, .int n] (WM q) K := by
  refine Snd.of (by decide +kernel) (Nat.le_of_ble_eq_true rfl) rfl rfl ?_
  intro X D dA ad C0
  show Gd X _ MX10_setTrunk 0 [some (.ref 0), some (.int a), some (.int b), some (.int n), none, none, none, none, none, none] [] _ 0 0
  refine g_iload_n C0 dX10_setTrunk_0 rfl ?_
  refine g_invS1 C0 dX10_setTrunk_1 CX10_94 rfl ⟨by decide, by decide, by decide, by decide⟩ (Nat.le_of_ble_eq_true rfl) ?_
  refine m_isC ?_
  refine Aft_v (WM_len2 _ _) ?_
  by_cases b1 : noC a
  · rw [if_pos b1]
    refine g_if_eq (tgt := 18) C0 dX10_setTrunk_4 (by decide) (fun _ => ?_) (fun z => (by revert z; decide +kernel : False).elim)
    refine g_iconst (v := 0) C0 dX10_setTrunk_18 (by decide) ?_
    refine g_istore C0 dX10_setTrunk_19 (by decide) ?_
    refine g_iload_n C0 dX10_setTrunk_21 rfl ?_
    refine g_iload_n C0 dX10_setTrunk_22 rfl ?_
    refine g_icmp_eq (tgt := 39) C0 dX10_setTrunk_23 (by decide) (fun h23 => ?_) (fun h23 => ?_)
    · refine g_iconst (v := 0) C0 dX10_setTrunk_39 (by decide) ?_
      refine g_istore C0 dX10_setTrunk_40 (by decide) ?_
      refine g_aload_n C0 dX10_setTrunk_42 rfl ?_
      refine g_iload C0 dX10_setTrunk_43 rfl ?_
      refine g_if_ne (tgt := 52) C0 dX10_setTrunk_45 (by decide) (fun z => (by revert z; decide +kernel : False).elim) (fun _ => ?_)
      refine g_iconst (v := 1) C0 dX10_setTrunk_48 (by decide) ?_
      refine g_goto (tgt := 62) C0 dX10_setTrunk_49 (by decide) ?_
      refine g_invV1 C0 dX10_setTrunk_62 CX10_101 rfl rfl ⟨by decide, by decide, by decide, by decide⟩ (Nat.le_of_ble_eq_true rfl) ?_
      refine m_refused (n := 1) (by decide) ?_
      refine Aft_v (WM_len2 _ _) ?_
      rw [if_neg (by decide)]
      refine g_if_eq (tgt := 70) C0 dX10_setTrunk_65 (by decide) (fun z => (by revert z; decide +kernel : False).elim) (fun _ => ?_)
      refine g_iconst (v := 0) C0 dX10_setTrunk_68 (by decide) ?_
      refine g_iret C0 rfl dX10_setTrunk_69 (by decide) (by decide) ?_
      rw [mSetTrunk, if_pos b1] at hK
      exact hK
    refine g_iload_n C0 dX10_setTrunk_26 rfl ?_
    refine g_iconst (v := 0) C0 dX10_setTrunk_27 (by decide) ?_
    refine g_iconst (v := 5) C0 dX10_setTrunk_28 (by decide) ?_
    refine g_invS3 C0 dX10_setTrunk_29 CX10_87 rfl ⟨by decide, by decide, by decide, by decide⟩ (Nat.le_of_ble_eq_true rfl) ?_
    refine m_in ?_
    refine Aft_v (WM_len2 _ _) ?_
    by_cases b29 : noW n 0 5
    · rw [if_pos b29]
      refine g_if_eq (tgt := 39) C0 dX10_setTrunk_32 (by decide) (fun _ => ?_) (fun z => (by revert z; decide +kernel : False).elim)
      refine g_iconst (v := 0) C0 dX10_setTrunk_39 (by decide) ?_
      refine g_istore C0 dX10_setTrunk_40 (by decide) ?_
      refine g_aload_n C0 dX10_setTrunk_42 rfl ?_
      refine g_iload C0 dX10_setTrunk_43 rfl ?_
      refine g_if_ne (tgt := 52) C0 dX10_setTrunk_45 (by decide) (fun z => (by revert z; decide +kernel : False).elim) (fun _ => ?_)
      refine g_iconst (v := 1) C0 dX10_setTrunk_48 (by decide) ?_
      refine g_goto (tgt := 62) C0 dX10_setTrunk_49 (by decide) ?_
      refine g_invV1 C0 dX10_setTrunk_62 CX10_101 rfl rfl ⟨by decide, by decide, by decide, by decide⟩ (Nat.le_of_ble_eq_true rfl) ?_
      refine m_refused (n := 1) (by decide) ?_
      refine Aft_v (WM_len2 _ _) ?_
      rw [if_neg (by decide)]
      refine g_if_eq (tgt := 70) C0 dX10_setTrunk_65 (by decide) (fun z => (by revert z; decide +kernel : False).elim) (fun _ => ?_)
      refine g_iconst (v := 0) C0 dX10_setTrunk_68 (by decide) ?_
      refine g_iret C0 rfl dX10_setTrunk_69 (by decide) (by decide) ?_
      rw [mSetTrunk, if_pos b1] at hK
      exact hK
    rw [if_neg b29]
    refine g_if_eq (tgt := 39) C0 dX10_setTrunk_32 (by decide) (fun z => (by revert z; decide +kernel : False).elim) (fun _ => ?_)
    refine g_iconst (v := 1) C0 dX10_setTrunk_35 (by decide) ?_
    refine g_goto (tgt := 40) C0 dX10_setTrunk_36 (by decide) ?_
    refine g_istore C0 dX10_setTrunk_40 (by decide) ?_
    refine g_aload_n C0 dX10_setTrunk_42 rfl ?_
    refine g_iload C0 dX10_setTrunk_43 rfl ?_
    refine g_if_ne (tgt := 52) C0 dX10_setTrunk_45 (by decide) (fun z => (by revert z; decide +kernel : False).elim) (fun _ => ?_)
    refine g_iconst (v := 1) C0 dX10_setTrunk_48 (by decide) ?_
    refine g_goto (tgt := 62) C0 dX10_setTrunk_49 (by decide) ?_
    refine g_invV1 C0 dX10_setTrunk_62 CX10_101 rfl rfl ⟨by decide, by decide, by decide, by decide⟩ (Nat.le_of_ble_eq_true rfl) ?_
    refine m_refused (n := 1) (by decide) ?_
    refine Aft_v (WM_len2 _ _) ?_
    rw [if_neg (by decide)]
    refine g_if_eq (tgt := 70) C0 dX10_setTrunk_65 (by decide) (fun z => (by revert z; decide +kernel : False).elim) (fun _ => ?_)
    refine g_iconst (v := 0) C0 dX10_setTrunk_68 (by decide) ?_
    refine g_iret C0 rfl dX10_setTrunk_69 (by decide) (by decide) ?_
    rw [mSetTrunk, if_pos b1] at hK
    exact hK
  rw [if_neg b1]
  refine g_if_eq (tgt := 18) C0 dX10_setTrunk_4 (by decide) (fun z => (by revert z; decide +kernel : False).elim) (fun _ => ?_)
  refine g_iload_n C0 dX10_setTrunk_7 rfl ?_
  refine g_invS1 C0 dX10_setTrunk_8 CX10_94 rfl ⟨by decide, by decide, by decide, by decide⟩ (Nat.le_of_ble_eq_true rfl) ?_
  refine m_isC ?_
  refine Aft_v (WM_len2 _ _) ?_
  by_cases b8 : noC b
  · rw [if_pos b8]
    refine g_if_eq (tgt := 18) C0 dX10_setTrunk_11 (by decide) (fun _ => ?_) (fun z => (by revert z; decide +kernel : False).elim)
    refine g_iconst (v := 0) C0 dX10_setTrunk_18 (by decide) ?_
    refine g_istore C0 dX10_setTrunk_19 (by decide) ?_
    refine g_iload_n C0 dX10_setTrunk_21 rfl ?_
    refine g_iload_n C0 dX10_setTrunk_22 rfl ?_
    refine g_icmp_eq (tgt := 39) C0 dX10_setTrunk_23 (by decide) (fun h23 => ?_) (fun h23 => ?_)
    · refine g_iconst (v := 0) C0 dX10_setTrunk_39 (by decide) ?_
      refine g_istore C0 dX10_setTrunk_40 (by decide) ?_
      refine g_aload_n C0 dX10_setTrunk_42 rfl ?_
      refine g_iload C0 dX10_setTrunk_43 rfl ?_
      refine g_if_ne (tgt := 52) C0 dX10_setTrunk_45 (by decide) (fun z => (by revert z; decide +kernel : False).elim) (fun _ => ?_)
      refine g_iconst (v := 1) C0 dX10_setTrunk_48 (by decide) ?_
      refine g_goto (tgt := 62) C0 dX10_setTrunk_49 (by decide) ?_
      refine g_invV1 C0 dX10_setTrunk_62 CX10_101 rfl rfl ⟨by decide, by decide, by decide, by decide⟩ (Nat.le_of_ble_eq_true rfl) ?_
      refine m_refused (n := 1) (by decide) ?_
      refine Aft_v (WM_len2 _ _) ?_
      rw [if_neg (by decide)]
      refine g_if_eq (tgt := 70) C0 dX10_setTrunk_65 (by decide) (fun z => (by revert z; decide +kernel : False).elim) (fun _ => ?_)
      refine g_iconst (v := 0) C0 dX10_setTrunk_68 (by decide) ?_
      refine g_iret C0 rfl dX10_setTrunk_69 (by decide) (by decide) ?_
      rw [mSetTrunk, if_neg b1, if_pos b8] at hK
      exact hK
    refine g_iload_n C0 dX10_setTrunk_26 rfl ?_
    refine g_iconst (v := 0) C0 dX10_setTrunk_27 (by decide) ?_
    refine g_iconst (v := 5) C0 dX10_setTrunk_28 (by decide) ?_
    refine g_invS3 C0 dX10_setTrunk_29 CX10_87 rfl ⟨by decide, by decide, by decide, by decide⟩ (Nat.le_of_ble_eq_true rfl) ?_
    refine m_in ?_
    refine Aft_v (WM_len2 _ _) ?_
    by_cases b29 : noW n 0 5
    · rw [if_pos b29]
      refine g_if_eq (tgt := 39) C0 dX10_setTrunk_32 (by decide) (fun _ => ?_) (fun z => (by revert z; decide +kernel : False).elim)
      refine g_iconst (v := 0) C0 dX10_setTrunk_39 (by decide) ?_
      refine g_istore C0 dX10_setTrunk_40 (by decide) ?_
      refine g_aload_n C0 dX10_setTrunk_42 rfl ?_
      refine g_iload C0 dX10_setTrunk_43 rfl ?_
      refine g_if_ne (tgt := 52) C0 dX10_setTrunk_45 (by decide) (fun z => (by revert z; decide +kernel : False).elim) (fun _ => ?_)
      refine g_iconst (v := 1) C0 dX10_setTrunk_48 (by decide) ?_
      refine g_goto (tgt := 62) C0 dX10_setTrunk_49 (by decide) ?_
      refine g_invV1 C0 dX10_setTrunk_62 CX10_101 rfl rfl ⟨by decide, by decide, by decide, by decide⟩ (Nat.le_of_ble_eq_true rfl) ?_
      refine m_refused (n := 1) (by decide) ?_
      refine Aft_v (WM_len2 _ _) ?_
      rw [if_neg (by decide)]
      refine g_if_eq (tgt := 70) C0 dX10_setTrunk_65 (by decide) (fun z => (by revert z; decide +kernel : False).elim) (fun _ => ?_)
      refine g_iconst (v := 0) C0 dX10_setTrunk_68 (by decide) ?_
      refine g_iret C0 rfl dX10_setTrunk_69 (by decide) (by decide) ?_
      rw [mSetTrunk, if_neg b1, if_pos b8] at hK
      exact hK
    rw [if_neg b29]
    refine g_if_eq (tgt := 39) C0 dX10_setTrunk_32 (by decide) (fun z => (by revert z; decide +kernel : False).elim) (fun _ => ?_)
    refine g_iconst (v := 1) C0 dX10_setTrunk_35 (by decide) ?_
    refine g_goto (tgt := 40) C0 dX10_setTrunk_36 (by decide) ?_
    refine g_istore C0 dX10_setTrunk_40 (by decide) ?_
    refine g_aload_n C0 dX10_setTrunk_42 rfl ?_
    refine g_iload C0 dX10_setTrunk_43 rfl ?_
    refine g_if_ne (tgt := 52) C0 dX10_setTrunk_45 (by decide) (fun z => (by revert z; decide +kernel : False).elim) (fun _ => ?_)
    refine g_iconst (v := 1) C0 dX10_setTrunk_48 (by decide) ?_
    refine g_goto (tgt := 62) C0 dX10_setTrunk_49 (by decide) ?_
    refine g_invV1 C0 dX10_setTrunk_62 CX10_101 rfl rfl ⟨by decide, by decide, by decide, by decide⟩ (Nat.le_of_ble_eq_true rfl) ?_
    refine m_refused (n := 1) (by decide) ?_
    refine Aft_v (WM_len2 _ _) ?_
    rw [if_neg (by decide)]
    refine g_if_eq (tgt := 70) C0 dX10_setTrunk_65 (by decide) (fun z => (by revert z; decide +kernel : False).elim) (fun _ => ?_)
    refine g_iconst (v := 0) C0 dX10_setTrunk_68 (by decide) ?_
    refine g_iret C0 rfl dX10_setTrunk_69 (by decide) (by decide) ?_
    rw [mSetTrunk, if_neg b1, if_pos b8] at hK
    exact hK
  rw [if_neg b8]
  refine g_if_eq (tgt := 18) C0 dX10_setTrunk_11 (by decide) (fun z => (by revert z; decide +kernel : False).elim) (fun _ => ?_)
  refine g_iconst (v := 1) C0 dX10_setTrunk_14 (by decide) ?_
  refine g_goto (tgt := 19) C0 dX10_setTrunk_15 (by decide) ?_
  refine g_istore C0 dX10_setTrunk_19 (by decide) ?_
  refine g_iload_n C0 dX10_setTrunk_21 rfl ?_
  refine g_iload_n C0 dX10_setTrunk_22 rfl ?_
  refine g_icmp_eq (tgt := 39) C0 dX10_setTrunk_23 (by decide) (fun h23 => ?_) (fun h23 => ?_)
  · refine g_iconst (v := 0) C0 dX10_setTrunk_39 (by decide) ?_
    refine g_istore C0 dX10_setTrunk_40 (by decide) ?_
    refine g_aload_n C0 dX10_setTrunk_42 rfl ?_
    refine g_iload C0 dX10_setTrunk_43 rfl ?_
    refine g_if_ne (tgt := 52) C0 dX10_setTrunk_45 (by decide) (fun _ => ?_) (fun z => (by revert z; decide +kernel : False).elim)
    refine g_iload C0 dX10_setTrunk_52 rfl ?_
    refine g_if_ne (tgt := 61) C0 dX10_setTrunk_54 (by decide) (fun z => (by revert z; decide +kernel : False).elim) (fun _ => ?_)
    refine g_iconst (v := 2) C0 dX10_setTrunk_57 (by decide) ?_
    refine g_goto (tgt := 62) C0 dX10_setTrunk_58 (by decide) ?_
    refine g_invV1 C0 dX10_setTrunk_62 CX10_101 rfl rfl ⟨by decide, by decide, by decide, by decide⟩ (Nat.le_of_ble_eq_true rfl) ?_
    refine m_refused (n := 2) (by decide) ?_
    refine Aft_v (WM_len2 _ _) ?_
    rw [if_neg (by decide)]
    refine g_if_eq (tgt := 70) C0 dX10_setTrunk_65 (by decide) (fun z => (by revert z; decide +kernel : False).elim) (fun _ => ?_)
    refine g_iconst (v := 0) C0 dX10_setTrunk_68 (by decide) ?_
    refine g_iret C0 rfl dX10_setTrunk_69 (by decide) (by decide) ?_
    rw [mSetTrunk, if_neg b1, if_neg b8, if_pos h23] at hK
    exact hK
  refine g_iload_n C0 dX10_setTrunk_26 rfl ?_
  refine g_iconst (v := 0) C0 dX10_setTrunk_27 (by decide) ?_
  refine g_iconst (v := 5) C0 dX10_setTrunk_28 (by decide) ?_
  refine g_invS3 C0 dX10_setTrunk_29 CX10_87 rfl ⟨by decide, by decide, by decide, by decide⟩ (Nat.le_of_ble_eq_true rfl) ?_
  refine m_in ?_
  refine Aft_v (WM_len2 _ _) ?_
  by_cases b29 : noW n 0 5
  · rw [if_pos b29]
    refine g_if_eq (tgt := 39) C0 dX10_setTrunk_32 (by decide) (fun _ => ?_) (fun z => (by revert z; decide +kernel : False).elim)
    refine g_iconst (v := 0) C0 dX10_setTrunk_39 (by decide) ?_
    refine g_istore C0 dX10_setTrunk_40 (by decide) ?_
    refine g_aload_n C0 dX10_setTrunk_42 rfl ?_
    refine g_iload C0 dX10_setTrunk_43 rfl ?_
    refine g_if_ne (tgt := 52) C0 dX10_setTrunk_45 (by decide) (fun _ => ?_) (fun z => (by revert z; decide +kernel : False).elim)
    refine g_iload C0 dX10_setTrunk_52 rfl ?_
    refine g_if_ne (tgt := 61) C0 dX10_setTrunk_54 (by decide) (fun z => (by revert z; decide +kernel : False).elim) (fun _ => ?_)
    refine g_iconst (v := 2) C0 dX10_setTrunk_57 (by decide) ?_
    refine g_goto (tgt := 62) C0 dX10_setTrunk_58 (by decide) ?_
    refine g_invV1 C0 dX10_setTrunk_62 CX10_101 rfl rfl ⟨by decide, by decide, by decide, by decide⟩ (Nat.le_of_ble_eq_true rfl) ?_
    refine m_refused (n := 2) (by decide) ?_
    refine Aft_v (WM_len2 _ _) ?_
    rw [if_neg (by decide)]
    refine g_if_eq (tgt := 70) C0 dX10_setTrunk_65 (by decide) (fun z => (by revert z; decide +kernel : False).elim) (fun _ => ?_)
    refine g_iconst (v := 0) C0 dX10_setTrunk_68 (by decide) ?_
    refine g_iret C0 rfl dX10_setTrunk_69 (by decide) (by decide) ?_
    rw [mSetTrunk, if_neg b1, if_neg b8, if_neg h23, if_pos b29] at hK
    exact hK
  rw [if_neg b29]
  refine g_if_eq (tgt := 39) C0 dX10_setTrunk_32 (by decide) (fun z => (by revert z; decide +kernel : False).elim) (fun _ => ?_)
  refine g_iconst (v := 1) C0 dX10_setTrunk_35 (by decide) ?_
  refine g_goto (tgt := 40) C0 dX10_setTrunk_36 (by decide) ?_
  refine g_istore C0 dX10_setTrunk_40 (by decide) ?_
  refine g_aload_n C0 dX10_setTrunk_42 rfl ?_
  refine g_iload C0 dX10_setTrunk_43 rfl ?_
  refine g_if_ne (tgt := 52) C0 dX10_setTrunk_45 (by decide) (fun _ => ?_) (fun z => (by revert z; decide +kernel : False).elim)
  refine g_iload C0 dX10_setTrunk_52 rfl ?_
  refine g_if_ne (tgt := 61) C0 dX10_setTrunk_54 (by decide) (fun _ => ?_) (fun z => (by revert z; decide +kernel : False).elim)
  refine g_iconst (v := 0) C0 dX10_setTrunk_61 (by decide) ?_
  refine g_invV1 C0 dX10_setTrunk_62 CX10_101 rfl rfl ⟨by decide, by decide, by decide, by decide⟩ (Nat.le_of_ble_eq_true rfl) ?_
  refine m_refused (n := 0) (by decide) ?_
  refine Aft_v (WM_len2 _ _) ?_
  rw [if_pos rfl]
  refine g_if_eq (tgt := 70) C0 dX10_setTrunk_65 (by decide) (fun _ => ?_) (fun z => (by revert z; decide +kernel : False).elim)
  refine g_aload_n C0 dX10_setTrunk_70 rfl ?_
  refine g_getfield C0 dX10_setTrunk_71 FX10_19 rfl rfl ?_
  refine g_iconst (v := 5) C0 dX10_setTrunk_74 (by decide) ?_
  refine g_iload_n C0 dX10_setTrunk_75 rfl ?_
  refine g_imul C0 dX10_setTrunk_76 ?_
  refine g_iload_n C0 dX10_setTrunk_77 rfl ?_
  refine g_iadd C0 dX10_setTrunk_78 ?_
  refine g_iload_n C0 dX10_setTrunk_79 rfl ?_
  refine g_iastore C0 dX10_setTrunk_80 rfl (in25 (inC b1) (inC b8)) ?_
  refine g_w (WM_set _ 3 (by decide) _) ?_
  refine g_aload_n C0 dX10_setTrunk_81 rfl ?_
  refine g_getfield C0 dX10_setTrunk_82 FX10_19 rfl rfl ?_
  refine g_iconst (v := 5) C0 dX10_setTrunk_85 (by decide) ?_
  refine g_iload_n C0 dX10_setTrunk_86 rfl ?_
  refine g_imul C0 dX10_setTrunk_87 ?_
  refine g_iload_n C0 dX10_setTrunk_88 rfl ?_
  refine g_iadd C0 dX10_setTrunk_89 ?_
  refine g_iload_n C0 dX10_setTrunk_90 rfl ?_
  refine g_iastore C0 dX10_setTrunk_91 rfl (in25 (inC b8) (inC b1)) ?_
  refine g_w (WM_set _ 3 (by decide) _) ?_
  refine g_aload_n C0 dX10_setTrunk_92 rfl ?_
  refine g_iload_n C0 dX10_setTrunk_93 rfl ?_
  refine g_iload_n C0 dX10_setTrunk_94 rfl ?_
  refine g_invV2 C0 dX10_setTrunk_95 CX10_108 rfl rfl ⟨by decide, by decide, by decide, by decide⟩ (Nat.le_of_ble_eq_true rfl) ?_
  refine m_used (lam := lam) (show q.2 5 ≤ 60 from h5) (fun k hk => hl k (by have : k < q.2 5 := hk; omega)) ?_
  refine Aft_v (WM_len2 _ _) ?_
  refine g_iload_n C0 dX10_setTrunk_98 rfl ?_
  refine g_isub C0 dX10_setTrunk_99 ?_
  refine g_istore C0 dX10_setTrunk_100 (by decide) ?_
  refine g_iconst (v := 0) C0 dX10_setTrunk_102 (by decide) ?_
  refine g_istore C0 dX10_setTrunk_103 (by decide) ?_
  refine g_aload_n C0 dX10_setTrunk_105 rfl ?_
  refine g_getfield C0 dX10_setTrunk_106 FX10_91 rfl rfl ?_
  refine g_iconst (v := 1) C0 dX10_setTrunk_109 (by decide) ?_
  refine g_isub C0 dX10_setTrunk_110 ?_
  refine g_istore C0 dX10_setTrunk_111 (by decide) ?_
  rw [mSetTrunk, if_neg b1, if_neg b8, if_neg h23, if_neg b29] at hK
  exact ml_lose C0 (q.2 5) (mtQ q a b n) 0 _ h5 hl hw hK
theorem kfF_c (q : XS) (old c : Int32) : ∀ k, (kfF q old c k).2 = q.2
  | 0 => rfl
  | k + 1 => kfF_c q old c k
def mpF1 (q : XS) (n c old : Int32) : XS := mw (setC (kfF q old c 5) 4 (q.2 4 + 1)) 4 c (mg (setC (kfF q old c 5) 4 (q.2 4 + 1)) 4 c - mg (setC (kfF q old c 5) 4 (q.2 4 + 1)) 9 n)
def mpF (q : XS) (n c old : Int32) : XS := mw (mpF1 q n c old) 4 old (mg (mpF1 q n c old) 4 old + mg (mpF1 q n c old) 9 n)
set_option maxRecDepth 100000 in
set_option maxHeartbeats 4000000 in
theorem ml_port {q : XS} {K : AO → AW → Prop} {n c old : Int32} (hn : vp_in n 12) (hc5 : vp_in c 5) (ho : vp_in old 5) (h4 : q.2 4 < 60) (hK : K (.inl (some (.int (mg (mpF q n c old) 9 n)))) (WM (mpF q n c old))) {X : CX} {D : va_G} {dA : Nat → ClassId} {w0 : AW} {ad : Nat → Nat} (C0 : Ok X (D, dA, w0, ad, K) MX10_port) : ∀ (n9 k : Nat), k + n9 = 5 → Gd X (D, dA, w0, ad, K) MX10_port 134 [some (.ref 0), some (.int n), some (.int c), some (.int 1), some (.int 1), some (.int old), some (.int (nI k))] [] (WM (kfF q old c k)) 0 0 := by
  intro n9
  induction n9 with
  | zero =>
    intro k hk
    have hk5 : k = 5 := by omega
    subst hk5
    have hkc := kfF_c q old c 5
    refine g_iload C0 dX10_port_134 rfl ?_
    refine g_iconst (v := nI 5) C0 dX10_port_136 (by decide +kernel) ?_
    refine g_icmp_ge (tgt := 192) C0 dX10_port_137 (by decide) (fun _ => ?_) (fun z => absurd (Int32.le_refl _) z)
    refine g_aload_n C0 dX10_port_192 rfl ?_
    refine g_dup C0 dX10_port_193 rfl ?_
    refine g_getfield C0 dX10_port_194 FX10_119 rfl rfl ?_
    refine g_iconst (v := 1) C0 dX10_port_197 (by decide) ?_
    refine g_iadd C0 dX10_port_198 ?_
    refine g_putfield C0 dX10_port_199 FX10_119 rfl (Nat.le_of_ble_eq_true rfl) (fun _ => ⟨rfl, rfl⟩) ?_
    refine g_w (WM_inc4 _) ?_
    rw [hkc]
    refine g_aload_n C0 dX10_port_202 rfl ?_
    refine g_getfield C0 dX10_port_203 FX10_22 rfl rfl ?_
    refine g_iload_n C0 dX10_port_206 rfl ?_
    refine g_dup2 C0 dX10_port_207 rfl rfl ?_
    refine g_iaload C0 dX10_port_208 rfl (by assumption) ?_
    refine g_aload_n C0 dX10_port_209 rfl ?_
    refine g_getfield C0 dX10_port_210 FX10_37 rfl rfl ?_
    refine g_iload_n C0 dX10_port_213 rfl ?_
    refine g_iaload C0 dX10_port_214 rfl (by assumption) ?_
    refine g_isub C0 dX10_port_215 ?_
    refine g_iastore C0 dX10_port_216 rfl (by assumption) ?_
    refine g_w (WM_set _ 4 (by decide) _) ?_
    refine g_aload_n C0 dX10_port_217 rfl ?_
    refine g_getfield C0 dX10_port_218 FX10_22 rfl rfl ?_
    refine g_iload C0 dX10_port_221 rfl ?_
    refine g_dup2 C0 dX10_port_223 rfl rfl ?_
    refine g_iaload C0 dX10_port_224 rfl (by assumption) ?_
    refine g_aload_n C0 dX10_port_225 rfl ?_
    refine g_getfield C0 dX10_port_226 FX10_37 rfl rfl ?_
    refine g_iload_n C0 dX10_port_229 rfl ?_
    refine g_iaload C0 dX10_port_230 rfl (by assumption) ?_
    refine g_iadd C0 dX10_port_231 ?_
    refine g_iastore C0 dX10_port_232 rfl (by assumption) ?_
    refine g_w (WM_set _ 4 (by decide) _) ?_
    refine g_aload_n C0 dX10_port_233 rfl ?_
    refine g_getfield C0 dX10_port_234 FX10_37 rfl rfl ?_
    refine g_iload_n C0 dX10_port_237 rfl ?_
    refine g_iaload C0 dX10_port_238 rfl (by assumption) ?_
    refine g_iret C0 rfl dX10_port_239 (by decide) (by decide) ?_
    exact hK
  | succ n9 ih =>
    intro k hk
    have ik : vp_in (nI k) 5 := vp_in_nI (by omega) (by omega)
    have i5 : vp_in (5 * nI (q.2 4) + nI k) 300 := in300 h4 (by omega)
    have hkc := kfF_c q old c k
    refine g_iload C0 dX10_port_134 rfl ?_
    refine g_iconst (v := 5) C0 dX10_port_136 (by decide) ?_
    refine g_icmp_ge (tgt := 192) C0 dX10_port_137 (by decide) (fun h137 => absurd h137 (nI_ge (b := 5) (by omega) (by omega))) (fun h137 => ?_)
    refine g_aload_n C0 dX10_port_140 rfl ?_
    refine g_getfield C0 dX10_port_141 FX10_56 rfl rfl ?_
    refine g_iconst (v := 5) C0 dX10_port_144 (by decide) ?_
    refine g_aload_n C0 dX10_port_145 rfl ?_
    refine g_getfield C0 dX10_port_146 FX10_119 rfl rfl ?_
    rw [hkc]
    refine g_imul C0 dX10_port_149 ?_
    refine g_iload C0 dX10_port_150 rfl ?_
    refine g_iadd C0 dX10_port_152 ?_
    refine g_iload C0 dX10_port_153 rfl ?_
    refine g_iload C0 dX10_port_155 rfl ?_
    refine g_icmp_eq (tgt := 166) C0 dX10_port_157 (by decide) (fun h157 => ?_) (fun h157 => ?_)
    · refine g_aload_n C0 dX10_port_166 rfl ?_
      refine g_getfield C0 dX10_port_167 FX10_125 rfl rfl ?_
      rw [hkc]
      refine g_goto (tgt := 185) C0 dX10_port_170 (by decide) ?_
      refine g_iastore C0 dX10_port_185 rfl (by assumption) ?_
      refine g_w (WM_set _ 15 (by decide) _) ?_
      refine g_iinc (v := nI (k + 1)) C0 dX10_port_186 rfl (nI_1 _) (by decide) ?_
      refine g_goto (tgt := 134) C0 dX10_port_189 (by decide) ?_
      exact g_w (by rw [kfF, if_pos (Or.inl h157)]) (ih (k + 1) (by omega))
    refine g_iload C0 dX10_port_160 rfl ?_
    refine g_iload_n C0 dX10_port_162 rfl ?_
    refine g_icmp_ne (tgt := 173) C0 dX10_port_163 (by decide) (fun h163 => ?_) (fun h163 => ?_)
    · refine g_aload_n C0 dX10_port_173 rfl ?_
      refine g_getfield C0 dX10_port_174 FX10_125 rfl rfl ?_
      rw [hkc]
      refine g_aload_n C0 dX10_port_177 rfl ?_
      refine g_getfield C0 dX10_port_178 FX10_16 rfl rfl ?_
      refine g_iload C0 dX10_port_181 rfl ?_
      refine g_iaload C0 dX10_port_183 rfl (by assumption) ?_
      refine g_iadd C0 dX10_port_184 ?_
      refine g_iastore C0 dX10_port_185 rfl (by assumption) ?_
      refine g_w (WM_set _ 15 (by decide) _) ?_
      refine g_iinc (v := nI (k + 1)) C0 dX10_port_186 rfl (nI_1 _) (by decide) ?_
      refine g_goto (tgt := 134) C0 dX10_port_189 (by decide) ?_
      exact g_w (by rw [kfF, if_neg (fun z => z.elim h157 h163)]) (ih (k + 1) (by omega))
    refine g_aload_n C0 dX10_port_166 rfl ?_
    refine g_getfield C0 dX10_port_167 FX10_125 rfl rfl ?_
    rw [hkc]
    refine g_goto (tgt := 185) C0 dX10_port_170 (by decide) ?_
    refine g_iastore C0 dX10_port_185 rfl (by assumption) ?_
    refine g_w (WM_set _ 15 (by decide) _) ?_
    refine g_iinc (v := nI (k + 1)) C0 dX10_port_186 rfl (nI_1 _) (by decide) ?_
    refine g_goto (tgt := 134) C0 dX10_port_189 (by decide) ?_
    exact g_w (by rw [kfF, if_pos (Or.inr h163)]) (ih (k + 1) (by omega))
theorem mpF1_ok (q : XS) (n c : Int32) : mpF1 (mpQ q n c) n c (mplace (z0 q) n 20000) = mpS q n c := rfl
theorem setR_n9 (q : XS) (f : Nat → Int32) : (setR q 4 f).1 9 = q.1 9 := rfl
theorem mpF_9 (q : XS) (n c old : Int32) : mg (mpF q n c old) 9 n = mg (mpF1 q n c old) 9 n := congrFun (setR_n9 (mpF1 q n c old) _) _
theorem mpF_ok (q : XS) (n c : Int32) : R0 (mpF (mpQ q n c) n c (mplace (z0 q) n 20000)) (mg (mpF (mpQ q n c) n c (mplace (z0 q) n 20000)) 9 n) = R0 (mw (mpS q n c) 4 (mplace (z0 q) n 20000) (mg (mpS q n c) 4 (mplace (z0 q) n 20000) + mg (mpS q n c) 9 n)) (mg (mpS q n c) 9 n) := by
  rw [mpF_9]; unfold mpF; rw [mpF1_ok]
set_option maxRecDepth 100000 in
set_option maxHeartbeats 4000000 in
theorem r_port {q : XS} {K : AO → AW → Prop} {n c : Int32} (h4 : q.2 4 ≤ 60) (hc : ∀ k, vp_in (q.1 13 k) 5) (hK : K (mPort q n c).1 (WM (mPort q n c).2)) : Snd MX10_port [.ref 0, .int n, .int c] (WM q) K := by
  refine Snd.of (by decide +kernel) (Nat.le_of_ble_eq_true rfl) rfl rfl ?_
  intro X D dA ad C0
  show Gd X _ MX10_port 0 [some (.ref 0), some (.int n), some (.int c), none, none, none, none] [] _ 0 0
  refine g_iload_n C0 dX10_port_0 rfl ?_
  refine g_invS1 C0 dX10_port_1 CX10_128 rfl ⟨by decide, by decide, by decide, by decide⟩ (Nat.le_of_ble_eq_true rfl) ?_
  refine m_isN ?_
  refine Aft_v (WM_len2 _ _) ?_
  by_cases b1 : noN n
  · rw [if_pos b1]
    refine g_if_eq (tgt := 18) C0 dX10_port_4 (by decide) (fun _ => ?_) (fun z => (by revert z; decide +kernel : False).elim)
    refine g_iconst (v := 0) C0 dX10_port_18 (by decide) ?_
    refine g_istore_n C0 dX10_port_19 (by decide) ?_
    refine g_iload_n C0 dX10_port_20 rfl ?_
    refine g_if_eq (tgt := 61) C0 dX10_port_21 (by decide) (fun _ => ?_) (fun z => (by revert z; decide +kernel : False).elim)
    refine g_iconst (v := 0) C0 dX10_port_61 (by decide) ?_
    refine g_istore C0 dX10_port_62 (by decide) ?_
    refine g_aload_n C0 dX10_port_64 rfl ?_
    refine g_iload_n C0 dX10_port_65 rfl ?_
    refine g_if_ne (tgt := 73) C0 dX10_port_66 (by decide) (fun z => (by revert z; decide +kernel : False).elim) (fun _ => ?_)
    refine g_iconst (v := 1) C0 dX10_port_69 (by decide) ?_
    refine g_goto (tgt := 83) C0 dX10_port_70 (by decide) ?_
    refine g_invV1 C0 dX10_port_83 CX10_101 rfl rfl ⟨by decide, by decide, by decide, by decide⟩ (Nat.le_of_ble_eq_true rfl) ?_
    refine m_refused (n := 1) (by decide) ?_
    refine Aft_v (WM_len2 _ _) ?_
    rw [if_neg (by decide)]
    refine g_if_eq (tgt := 91) C0 dX10_port_86 (by decide) (fun z => (by revert z; decide +kernel : False).elim) (fun _ => ?_)
    refine g_iconst (v := 0) C0 dX10_port_89 (by decide) ?_
    refine g_iret C0 rfl dX10_port_90 (by decide) (by decide) ?_
    rw [mPort, if_pos b1] at hK
    exact hK
  rw [if_neg b1]
  refine g_if_eq (tgt := 18) C0 dX10_port_4 (by decide) (fun z => (by revert z; decide +kernel : False).elim) (fun _ => ?_)
  refine g_iload_n C0 dX10_port_7 rfl ?_
  refine g_invS1 C0 dX10_port_8 CX10_94 rfl ⟨by decide, by decide, by decide, by decide⟩ (Nat.le_of_ble_eq_true rfl) ?_
  refine m_isC ?_
  refine Aft_v (WM_len2 _ _) ?_
  by_cases b8 : noC c
  · rw [if_pos b8]
    refine g_if_eq (tgt := 18) C0 dX10_port_11 (by decide) (fun _ => ?_) (fun z => (by revert z; decide +kernel : False).elim)
    refine g_iconst (v := 0) C0 dX10_port_18 (by decide) ?_
    refine g_istore_n C0 dX10_port_19 (by decide) ?_
    refine g_iload_n C0 dX10_port_20 rfl ?_
    refine g_if_eq (tgt := 61) C0 dX10_port_21 (by decide) (fun _ => ?_) (fun z => (by revert z; decide +kernel : False).elim)
    refine g_iconst (v := 0) C0 dX10_port_61 (by decide) ?_
    refine g_istore C0 dX10_port_62 (by decide) ?_
    refine g_aload_n C0 dX10_port_64 rfl ?_
    refine g_iload_n C0 dX10_port_65 rfl ?_
    refine g_if_ne (tgt := 73) C0 dX10_port_66 (by decide) (fun z => (by revert z; decide +kernel : False).elim) (fun _ => ?_)
    refine g_iconst (v := 1) C0 dX10_port_69 (by decide) ?_
    refine g_goto (tgt := 83) C0 dX10_port_70 (by decide) ?_
    refine g_invV1 C0 dX10_port_83 CX10_101 rfl rfl ⟨by decide, by decide, by decide, by decide⟩ (Nat.le_of_ble_eq_true rfl) ?_
    refine m_refused (n := 1) (by decide) ?_
    refine Aft_v (WM_len2 _ _) ?_
    rw [if_neg (by decide)]
    refine g_if_eq (tgt := 91) C0 dX10_port_86 (by decide) (fun z => (by revert z; decide +kernel : False).elim) (fun _ => ?_)
    refine g_iconst (v := 0) C0 dX10_port_89 (by decide) ?_
    refine g_iret C0 rfl dX10_port_90 (by decide) (by decide) ?_
    rw [mPort, if_neg b1, if_pos b8] at hK
    exact hK
  rw [if_neg b8]
  refine g_if_eq (tgt := 18) C0 dX10_port_11 (by decide) (fun z => (by revert z; decide +kernel : False).elim) (fun _ => ?_)
  refine g_iconst (v := 1) C0 dX10_port_14 (by decide) ?_
  refine g_goto (tgt := 19) C0 dX10_port_15 (by decide) ?_
  refine g_istore_n C0 dX10_port_19 (by decide) ?_
  refine g_iload_n C0 dX10_port_20 rfl ?_
  refine g_if_eq (tgt := 61) C0 dX10_port_21 (by decide) (fun z => (by revert z; decide +kernel : False).elim) (fun _ => ?_)
  refine g_aload_n C0 dX10_port_24 rfl ?_
  refine g_iload_n C0 dX10_port_25 rfl ?_
  refine g_invV1 C0 dX10_port_26 CX10_131 rfl rfl ⟨by decide, by decide, by decide, by decide⟩ (Nat.le_of_ble_eq_true rfl) ?_
  refine m_placeOf (show q.2 4 ≤ 60 from h4) ?_
  refine Aft_v (WM_len2 _ _) ?_
  refine g_iload_n C0 dX10_port_29 rfl ?_
  refine g_icmp_eq (tgt := 61) C0 dX10_port_30 (by decide) (fun h30 => ?_) (fun h30 => ?_)
  · refine g_iconst (v := 0) C0 dX10_port_61 (by decide) ?_
    refine g_istore C0 dX10_port_62 (by decide) ?_
    refine g_aload_n C0 dX10_port_64 rfl ?_
    refine g_iload_n C0 dX10_port_65 rfl ?_
    refine g_if_ne (tgt := 73) C0 dX10_port_66 (by decide) (fun _ => ?_) (fun z => (by revert z; decide +kernel : False).elim)
    refine g_iload C0 dX10_port_73 rfl ?_
    refine g_if_eq (tgt := 82) C0 dX10_port_75 (by decide) (fun _ => ?_) (fun z => (by revert z; decide +kernel : False).elim)
    refine g_iconst (v := 2) C0 dX10_port_82 (by decide) ?_
    refine g_invV1 C0 dX10_port_83 CX10_101 rfl rfl ⟨by decide, by decide, by decide, by decide⟩ (Nat.le_of_ble_eq_true rfl) ?_
    refine m_refused (n := 2) (by decide) ?_
    refine Aft_v (WM_len2 _ _) ?_
    rw [if_neg (by decide)]
    refine g_if_eq (tgt := 91) C0 dX10_port_86 (by decide) (fun z => (by revert z; decide +kernel : False).elim) (fun _ => ?_)
    refine g_iconst (v := 0) C0 dX10_port_89 (by decide) ?_
    refine g_iret C0 rfl dX10_port_90 (by decide) (by decide) ?_
    rw [mPort, if_neg b1, if_neg b8, if_pos h30] at hK
    exact hK
  refine g_aload_n C0 dX10_port_33 rfl ?_
  refine g_getfield C0 dX10_port_34 FX10_40 rfl rfl ?_
  refine g_iload_n C0 dX10_port_37 rfl ?_
  refine g_iaload C0 dX10_port_38 rfl (inN b1) ?_
  refine g_aload_n C0 dX10_port_39 rfl ?_
  refine g_getfield C0 dX10_port_40 FX10_37 rfl rfl ?_
  refine g_iload_n C0 dX10_port_43 rfl ?_
  refine g_iaload C0 dX10_port_44 rfl (inN b1) ?_
  refine g_icmp_lt (tgt := 61) C0 dX10_port_45 (by decide) (fun h45 => ?_) (fun h45 => ?_)
  · refine g_iconst (v := 0) C0 dX10_port_61 (by decide) ?_
    refine g_istore C0 dX10_port_62 (by decide) ?_
    refine g_aload_n C0 dX10_port_64 rfl ?_
    refine g_iload_n C0 dX10_port_65 rfl ?_
    refine g_if_ne (tgt := 73) C0 dX10_port_66 (by decide) (fun _ => ?_) (fun z => (by revert z; decide +kernel : False).elim)
    refine g_iload C0 dX10_port_73 rfl ?_
    refine g_if_eq (tgt := 82) C0 dX10_port_75 (by decide) (fun _ => ?_) (fun z => (by revert z; decide +kernel : False).elim)
    refine g_iconst (v := 2) C0 dX10_port_82 (by decide) ?_
    refine g_invV1 C0 dX10_port_83 CX10_101 rfl rfl ⟨by decide, by decide, by decide, by decide⟩ (Nat.le_of_ble_eq_true rfl) ?_
    refine m_refused (n := 2) (by decide) ?_
    refine Aft_v (WM_len2 _ _) ?_
    rw [if_neg (by decide)]
    refine g_if_eq (tgt := 91) C0 dX10_port_86 (by decide) (fun z => (by revert z; decide +kernel : False).elim) (fun _ => ?_)
    refine g_iconst (v := 0) C0 dX10_port_89 (by decide) ?_
    refine g_iret C0 rfl dX10_port_90 (by decide) (by decide) ?_
    rw [mPort, if_neg b1, if_neg b8, if_neg h30, if_pos h45] at hK
    exact hK
  refine g_aload_n C0 dX10_port_48 rfl ?_
  refine g_getfield C0 dX10_port_49 FX10_119 rfl rfl ?_
  refine g_bipush (v := 60) C0 dX10_port_52 (by decide) ?_
  refine g_icmp_ge (tgt := 61) C0 dX10_port_54 (by decide) (fun h54 => ?_) (fun h54 => ?_)
  · refine g_iconst (v := 0) C0 dX10_port_61 (by decide) ?_
    refine g_istore C0 dX10_port_62 (by decide) ?_
    refine g_aload_n C0 dX10_port_64 rfl ?_
    refine g_iload_n C0 dX10_port_65 rfl ?_
    refine g_if_ne (tgt := 73) C0 dX10_port_66 (by decide) (fun _ => ?_) (fun z => (by revert z; decide +kernel : False).elim)
    refine g_iload C0 dX10_port_73 rfl ?_
    refine g_if_eq (tgt := 82) C0 dX10_port_75 (by decide) (fun _ => ?_) (fun z => (by revert z; decide +kernel : False).elim)
    refine g_iconst (v := 2) C0 dX10_port_82 (by decide) ?_
    refine g_invV1 C0 dX10_port_83 CX10_101 rfl rfl ⟨by decide, by decide, by decide, by decide⟩ (Nat.le_of_ble_eq_true rfl) ?_
    refine m_refused (n := 2) (by decide) ?_
    refine Aft_v (WM_len2 _ _) ?_
    rw [if_neg (by decide)]
    refine g_if_eq (tgt := 91) C0 dX10_port_86 (by decide) (fun z => (by revert z; decide +kernel : False).elim) (fun _ => ?_)
    refine g_iconst (v := 0) C0 dX10_port_89 (by decide) ?_
    refine g_iret C0 rfl dX10_port_90 (by decide) (by decide) ?_
    rw [mPort, if_neg b1, if_neg b8, if_neg h30, if_neg h45, if_pos h54] at hK
    exact hK
  refine g_iconst (v := 1) C0 dX10_port_57 (by decide) ?_
  refine g_goto (tgt := 62) C0 dX10_port_58 (by decide) ?_
  refine g_istore C0 dX10_port_62 (by decide) ?_
  refine g_aload_n C0 dX10_port_64 rfl ?_
  refine g_iload_n C0 dX10_port_65 rfl ?_
  refine g_if_ne (tgt := 73) C0 dX10_port_66 (by decide) (fun _ => ?_) (fun z => (by revert z; decide +kernel : False).elim)
  refine g_iload C0 dX10_port_73 rfl ?_
  refine g_if_eq (tgt := 82) C0 dX10_port_75 (by decide) (fun z => (by revert z; decide +kernel : False).elim) (fun _ => ?_)
  refine g_iconst (v := 0) C0 dX10_port_78 (by decide) ?_
  refine g_goto (tgt := 83) C0 dX10_port_79 (by decide) ?_
  refine g_invV1 C0 dX10_port_83 CX10_101 rfl rfl ⟨by decide, by decide, by decide, by decide⟩ (Nat.le_of_ble_eq_true rfl) ?_
  refine m_refused (n := 0) (by decide) ?_
  refine Aft_v (WM_len2 _ _) ?_
  rw [if_pos rfl]
  refine g_if_eq (tgt := 91) C0 dX10_port_86 (by decide) (fun _ => ?_) (fun z => (by revert z; decide +kernel : False).elim)
  have h49 : q.2 4 < 60 := by
    rcases Nat.lt_or_ge (q.2 4) 60 with h | h
    · exact h
    · exact absurd (nI_le (a := 60) h (by omega)) h54
  have ip : vp_in (nI (q.2 4)) 60 := vp_in_nI h49 (by decide)
  refine g_aload_n C0 dX10_port_91 rfl ?_
  refine g_iload_n C0 dX10_port_92 rfl ?_
  refine g_invV1 C0 dX10_port_93 CX10_131 rfl rfl ⟨by decide, by decide, by decide, by decide⟩ (Nat.le_of_ble_eq_true rfl) ?_
  refine m_placeOf (show q.2 4 ≤ 60 from h4) ?_
  refine Aft_v (WM_len2 _ _) ?_
  refine g_istore C0 dX10_port_96 (by decide) ?_
  refine g_aload_n C0 dX10_port_98 rfl ?_
  refine g_getfield C0 dX10_port_99 FX10_47 rfl rfl ?_
  refine g_aload_n C0 dX10_port_102 rfl ?_
  refine g_getfield C0 dX10_port_103 FX10_119 rfl rfl ?_
  refine g_iload_n C0 dX10_port_106 rfl ?_
  refine g_iastore C0 dX10_port_107 rfl ip ?_
  refine g_w (WM_set _ 12 (by decide) _) ?_
  refine g_aload_n C0 dX10_port_108 rfl ?_
  refine g_getfield C0 dX10_port_109 FX10_50 rfl rfl ?_
  refine g_aload_n C0 dX10_port_112 rfl ?_
  refine g_getfield C0 dX10_port_113 FX10_119 rfl rfl ?_
  refine g_iload_n C0 dX10_port_116 rfl ?_
  refine g_iastore C0 dX10_port_117 rfl ip ?_
  refine g_w (WM_set _ 13 (by decide) _) ?_
  refine g_aload_n C0 dX10_port_118 rfl ?_
  refine g_getfield C0 dX10_port_119 FX10_53 rfl rfl ?_
  refine g_aload_n C0 dX10_port_122 rfl ?_
  refine g_getfield C0 dX10_port_123 FX10_119 rfl rfl ?_
  refine g_aload_n C0 dX10_port_126 rfl ?_
  refine g_getfield C0 dX10_port_127 FX10_125 rfl rfl ?_
  refine g_iastore C0 dX10_port_130 rfl ip ?_
  refine g_w (WM_set _ 14 (by decide) _) ?_
  refine g_iconst (v := 0) C0 dX10_port_131 (by decide) ?_
  refine g_istore C0 dX10_port_132 (by decide) ?_
  rw [mPort, if_neg b1, if_neg b8, if_neg h30, if_neg h45, if_neg h54] at hK
  rw [← mpF_ok] at hK
  exact ml_port (q := mpQ q n c) (inN b1) (inC b8) (mplace_in (q := z0 q) hc (inN b1)) h49 hK C0 5 0 rfl
theorem coF_r (aim b : Int32) (lam : Nat → Nat) (j : Nat) (hj : ¬ j = 23) : ∀ (n : Nat) (q : XS), (coF aim b lam n q).1.1 j = q.1 j
  | 0, q => rfl
  | n + 1, q => by
    rw [coF]
    split
    · rfl
    · split
      · rfl
      · split
        · rw [coF_r aim b lam j hj n]; exact if_neg hj
        · rfl
theorem coF_c (aim b : Int32) (lam : Nat → Nat) (j : Nat) (hj : ¬ j = 7) : ∀ (n : Nat) (q : XS), (coF aim b lam n q).1.2 j = q.2 j
  | 0, q => rfl
  | n + 1, q => by
    rw [coF]
    split
    · rfl
    · split
      · rfl
      · split
        · rw [coF_c aim b lam j hj n]; exact if_neg hj
        · rfl
theorem coF_DW (aim b : Int32) (lam : Nat → Nat) (hb : vp_in b 12) : ∀ (n : Nat) (q : XS), q.2 7 + n = 5 → DW q (q.2 7) → (∀ k, vp_in (q.1 13 k) 5) → DW (coF aim b lam n q).1 ((coF aim b lam n q).1.2 7) ∧ (coF aim b lam n q).1.2 7 < 5
  | 0, q, h, hd, hc => (DW_no (by rw [show q.2 7 = 5 by omega] at hd; exact hd)).elim
  | n + 1, q, h, hd, hc => by
    rw [coF]
    split
    · exact ⟨hd, by show q.2 7 < 5; omega⟩
    · split
      · exact ⟨hd, by show q.2 7 < 5; omega⟩
      · next h2 =>
        split
        · exact coF_DW aim b lam hb n (coS q (coN q b)) (by show q.2 7 + 1 + n = 5; omega) (DW_step hd (by omega) (mbel_in hc hb) h2) hc
        · exact ⟨hd, by show q.2 7 < 5; omega⟩
theorem mcomes_DW {q : XS} {a b : Int32} {lam : Nat → Nat} (ha : vp_in a 12) (hb : vp_in b 12) (hc : ∀ k, vp_in (q.1 13 k) 5) : DW (mcomes q a b lam).1 ((mcomes q a b lam).1.2 7) ∧ (mcomes q a b lam).1.2 7 < 5 :=
  coF_DW _ b lam hb 5 (mcome0 q a) rfl ⟨fun i hi => by
    have h0 : i = 0 := Nat.le_zero.mp hi
    subst h0
    exact mplace_in hc ha, fun i j hij hj => by
    have h0 : j = 0 := Nat.le_zero.mp hj
    omega⟩ hc
theorem mcomes_r {q : XS} {a b : Int32} {lam : Nat → Nat} (j : Nat) (hj : ¬ j = 23) : (mcomes q a b lam).1.1 j = q.1 j := (coF_r _ b lam j hj 5 _).trans (if_neg hj)
theorem mcomes_c {q : XS} {a b : Int32} {lam : Nat → Nat} (j : Nat) (hj : ¬ j = 7) : (mcomes q a b lam).1.2 j = q.2 j := (coF_c _ b lam j hj 5 _).trans (if_neg hj)
theorem wyF_c (q : XS) : ∀ k, (wyF q k).2 = q.2
  | 0 => rfl
  | k + 1 => wyF_c q k
set_option maxRecDepth 100000 in
set_option maxHeartbeats 4000000 in
theorem ml_call {q : XS} {K : AO → AW → Prop} {a b : Int32} {o3 o4 : Option Value} (h5 : q.2 5 < 60) (h7 : q.2 7 < 5) (hK : K (.inl (some (.int (nI (q.2 5))))) (WM (setC (wyF q (q.2 7 + 1)) 5 (q.2 5 + 1)))) {X : CX} {D : va_G} {dA : Nat → ClassId} {w0 : AW} {ad : Nat → Nat} (C0 : Ok X (D, dA, w0, ad, K) MX10_call) : ∀ (n9 k : Nat), k + n9 = q.2 7 + 1 → Gd X (D, dA, w0, ad, K) MX10_call 201 [some (.ref 0), some (.int a), some (.int b), o3, o4, some (.int (nI k))] [] (WM (wyF q k)) 0 0 := by
  intro n9
  induction n9 with
  | zero =>
    intro k hk
    have hk7 : k = q.2 7 + 1 := by omega
    subst hk7
    have hwc := wyF_c q (q.2 7 + 1)
    refine g_iload C0 dX10_call_201 rfl ?_
    refine g_aload_n C0 dX10_call_203 rfl ?_
    refine g_getfield C0 dX10_call_204 FX10_144 rfl rfl ?_
    rw [hwc]
    refine g_icmp_gt (tgt := 237) C0 dX10_call_207 (by decide) (fun _ => ?_) (fun z => absurd (nI_lt (by omega) (by omega)) z)
    refine g_aload_n C0 dX10_call_237 rfl ?_
    refine g_dup C0 dX10_call_238 rfl ?_
    refine g_getfield C0 dX10_call_239 FX10_91 rfl rfl ?_
    refine g_iconst (v := 1) C0 dX10_call_242 (by decide) ?_
    refine g_iadd C0 dX10_call_243 ?_
    refine g_putfield C0 dX10_call_244 FX10_91 rfl (Nat.le_of_ble_eq_true rfl) (fun _ => ⟨rfl, rfl⟩) ?_
    refine g_w (WM_inc5 _) ?_
    rw [hwc]
    refine g_aload_n C0 dX10_call_247 rfl ?_
    refine g_getfield C0 dX10_call_248 FX10_91 rfl rfl ?_
    refine g_iconst (v := 1) C0 dX10_call_251 (by decide) ?_
    refine g_isub C0 dX10_call_252 ?_
    refine g_st (congrArg (fun z => [Value.int z]) (nI_pred (q.2 5))) ?_
    refine g_iret C0 rfl dX10_call_253 (by decide) (by decide) ?_
    exact hK
  | succ n9 ih =>
    intro k hk
    have ik : vp_in (nI k) 5 := vp_in_nI (by omega) (by omega)
    have i5 : vp_in (5 * nI (q.2 5) + nI k) 300 := in300 h5 (by omega)
    have hwc := wyF_c q k
    refine g_iload C0 dX10_call_201 rfl ?_
    refine g_aload_n C0 dX10_call_203 rfl ?_
    refine g_getfield C0 dX10_call_204 FX10_144 rfl rfl ?_
    rw [hwc]
    refine g_icmp_gt (tgt := 237) C0 dX10_call_207 (by decide) (fun h207 => absurd h207 (nI_nlt (by omega) (by omega))) (fun h207 => ?_)
    refine g_aload_n C0 dX10_call_210 rfl ?_
    refine g_getfield C0 dX10_call_211 FX10_71 rfl rfl ?_
    refine g_iconst (v := 5) C0 dX10_call_214 (by decide) ?_
    refine g_aload_n C0 dX10_call_215 rfl ?_
    refine g_getfield C0 dX10_call_216 FX10_91 rfl rfl ?_
    rw [hwc]
    refine g_imul C0 dX10_call_219 ?_
    refine g_iload C0 dX10_call_220 rfl ?_
    refine g_iadd C0 dX10_call_222 ?_
    refine g_aload_n C0 dX10_call_223 rfl ?_
    refine g_getfield C0 dX10_call_224 FX10_80 rfl rfl ?_
    refine g_iload C0 dX10_call_227 rfl ?_
    refine g_iaload C0 dX10_call_229 rfl (by assumption) ?_
    refine g_iastore C0 dX10_call_230 rfl (by assumption) ?_
    refine g_w (WM_set _ 20 (by decide) _) ?_
    refine g_iinc (v := nI (k + 1)) C0 dX10_call_231 rfl (nI_1 _) (by decide) ?_
    refine g_goto (tgt := 201) C0 dX10_call_234 (by decide) ?_
    exact ih (k + 1) (by omega)
set_option maxRecDepth 100000 in
set_option maxHeartbeats 4000000 in
theorem r_call {q : XS} {K : AO → AW → Prop} {a b : Int32} (h4 : q.2 4 ≤ 60) (h5 : q.2 5 ≤ 60) {lam : Nat → Nat} (hl : ∀ k, k < 60 → q.1 19 k = nI (lam k) ∧ lam k ≤ 4) (hc : ∀ k, vp_in (q.1 13 k) 5) (hK : K (mCall q a b lam).1 (WM (mCall q a b lam).2)) : Snd MX10_call [.ref 0, .int a, .int b] (WM q) K := by
  refine Snd.of (by decide +kernel) (Nat.le_of_ble_eq_true rfl) rfl rfl ?_
  intro X D dA ad C0
  show Gd X _ MX10_call 0 [some (.ref 0), some (.int a), some (.int b), none, none, none] [] _ 0 0
  refine g_iload_n C0 dX10_call_0 rfl ?_
  refine g_invS1 C0 dX10_call_1 CX10_128 rfl ⟨by decide, by decide, by decide, by decide⟩ (Nat.le_of_ble_eq_true rfl) ?_
  refine m_isN ?_
  refine Aft_v (WM_len2 _ _) ?_
  by_cases b1 : noN a
  · rw [if_pos b1]
    refine g_if_eq (tgt := 18) C0 dX10_call_4 (by decide) (fun _ => ?_) (fun z => (by revert z; decide +kernel : False).elim)
    refine g_iconst (v := 0) C0 dX10_call_18 (by decide) ?_
    refine g_istore_n C0 dX10_call_19 (by decide) ?_
    refine g_iload_n C0 dX10_call_20 rfl ?_
    refine g_if_eq (tgt := 69) C0 dX10_call_21 (by decide) (fun _ => ?_) (fun z => (by revert z; decide +kernel : False).elim)
    refine g_iconst (v := 0) C0 dX10_call_69 (by decide) ?_
    refine g_istore C0 dX10_call_70 (by decide) ?_
    refine g_aload_n C0 dX10_call_72 rfl ?_
    refine g_iload_n C0 dX10_call_73 rfl ?_
    refine g_if_ne (tgt := 81) C0 dX10_call_74 (by decide) (fun z => (by revert z; decide +kernel : False).elim) (fun _ => ?_)
    refine g_iconst (v := 1) C0 dX10_call_77 (by decide) ?_
    refine g_goto (tgt := 100) C0 dX10_call_78 (by decide) ?_
    refine g_invV1 C0 dX10_call_100 CX10_101 rfl rfl ⟨by decide, by decide, by decide, by decide⟩ (Nat.le_of_ble_eq_true rfl) ?_
    refine m_refused (n := 1) (by decide) ?_
    refine Aft_v (WM_len2 _ _) ?_
    rw [if_neg (by decide)]
    refine g_if_eq (tgt := 108) C0 dX10_call_103 (by decide) (fun z => (by revert z; decide +kernel : False).elim) (fun _ => ?_)
    refine g_iconst (v := 0) C0 dX10_call_106 (by decide) ?_
    refine g_iret C0 rfl dX10_call_107 (by decide) (by decide) ?_
    rw [mCall, if_pos b1] at hK
    exact hK
  rw [if_neg b1]
  refine g_if_eq (tgt := 18) C0 dX10_call_4 (by decide) (fun z => (by revert z; decide +kernel : False).elim) (fun _ => ?_)
  refine g_iload_n C0 dX10_call_7 rfl ?_
  refine g_invS1 C0 dX10_call_8 CX10_128 rfl ⟨by decide, by decide, by decide, by decide⟩ (Nat.le_of_ble_eq_true rfl) ?_
  refine m_isN ?_
  refine Aft_v (WM_len2 _ _) ?_
  by_cases b8 : noN b
  · rw [if_pos b8]
    refine g_if_eq (tgt := 18) C0 dX10_call_11 (by decide) (fun _ => ?_) (fun z => (by revert z; decide +kernel : False).elim)
    refine g_iconst (v := 0) C0 dX10_call_18 (by decide) ?_
    refine g_istore_n C0 dX10_call_19 (by decide) ?_
    refine g_iload_n C0 dX10_call_20 rfl ?_
    refine g_if_eq (tgt := 69) C0 dX10_call_21 (by decide) (fun _ => ?_) (fun z => (by revert z; decide +kernel : False).elim)
    refine g_iconst (v := 0) C0 dX10_call_69 (by decide) ?_
    refine g_istore C0 dX10_call_70 (by decide) ?_
    refine g_aload_n C0 dX10_call_72 rfl ?_
    refine g_iload_n C0 dX10_call_73 rfl ?_
    refine g_if_ne (tgt := 81) C0 dX10_call_74 (by decide) (fun z => (by revert z; decide +kernel : False).elim) (fun _ => ?_)
    refine g_iconst (v := 1) C0 dX10_call_77 (by decide) ?_
    refine g_goto (tgt := 100) C0 dX10_call_78 (by decide) ?_
    refine g_invV1 C0 dX10_call_100 CX10_101 rfl rfl ⟨by decide, by decide, by decide, by decide⟩ (Nat.le_of_ble_eq_true rfl) ?_
    refine m_refused (n := 1) (by decide) ?_
    refine Aft_v (WM_len2 _ _) ?_
    rw [if_neg (by decide)]
    refine g_if_eq (tgt := 108) C0 dX10_call_103 (by decide) (fun z => (by revert z; decide +kernel : False).elim) (fun _ => ?_)
    refine g_iconst (v := 0) C0 dX10_call_106 (by decide) ?_
    refine g_iret C0 rfl dX10_call_107 (by decide) (by decide) ?_
    rw [mCall, if_neg b1, if_pos b8] at hK
    exact hK
  rw [if_neg b8]
  refine g_if_eq (tgt := 18) C0 dX10_call_11 (by decide) (fun z => (by revert z; decide +kernel : False).elim) (fun _ => ?_)
  refine g_iconst (v := 1) C0 dX10_call_14 (by decide) ?_
  refine g_goto (tgt := 19) C0 dX10_call_15 (by decide) ?_
  refine g_istore_n C0 dX10_call_19 (by decide) ?_
  refine g_iload_n C0 dX10_call_20 rfl ?_
  refine g_if_eq (tgt := 69) C0 dX10_call_21 (by decide) (fun z => (by revert z; decide +kernel : False).elim) (fun _ => ?_)
  refine g_iload_n C0 dX10_call_24 rfl ?_
  refine g_iload_n C0 dX10_call_25 rfl ?_
  refine g_icmp_eq (tgt := 69) C0 dX10_call_26 (by decide) (fun h26 => ?_) (fun h26 => ?_)
  · refine g_iconst (v := 0) C0 dX10_call_69 (by decide) ?_
    refine g_istore C0 dX10_call_70 (by decide) ?_
    refine g_aload_n C0 dX10_call_72 rfl ?_
    refine g_iload_n C0 dX10_call_73 rfl ?_
    refine g_if_ne (tgt := 81) C0 dX10_call_74 (by decide) (fun _ => ?_) (fun z => (by revert z; decide +kernel : False).elim)
    refine g_iload_n C0 dX10_call_81 rfl ?_
    refine g_iload_n C0 dX10_call_82 rfl ?_
    refine g_icmp_ne (tgt := 90) C0 dX10_call_83 (by decide) (fun h83 => absurd h26 h83) (fun h83 => ?_)
    refine g_iconst (v := 2) C0 dX10_call_86 (by decide) ?_
    refine g_goto (tgt := 100) C0 dX10_call_87 (by decide) ?_
    refine g_invV1 C0 dX10_call_100 CX10_101 rfl rfl ⟨by decide, by decide, by decide, by decide⟩ (Nat.le_of_ble_eq_true rfl) ?_
    refine m_refused (n := 2) (by decide) ?_
    refine Aft_v (WM_len2 _ _) ?_
    rw [if_neg (by decide)]
    refine g_if_eq (tgt := 108) C0 dX10_call_103 (by decide) (fun z => (by revert z; decide +kernel : False).elim) (fun _ => ?_)
    refine g_iconst (v := 0) C0 dX10_call_106 (by decide) ?_
    refine g_iret C0 rfl dX10_call_107 (by decide) (by decide) ?_
    rw [mCall, if_neg b1, if_neg b8, if_pos h26] at hK
    exact hK
  refine g_aload_n C0 dX10_call_29 rfl ?_
  refine g_iload_n C0 dX10_call_30 rfl ?_
  refine g_invV1 C0 dX10_call_31 CX10_154 rfl rfl ⟨by decide, by decide, by decide, by decide⟩ (Nat.le_of_ble_eq_true rfl) ?_
  refine m_with (show q.2 5 ≤ 60 from h5) ?_
  refine Aft_v (WM_len2 _ _) ?_
  refine g_iconst (v := (-1)) C0 dX10_call_34 (by decide) ?_
  refine g_icmp_ne (tgt := 69) C0 dX10_call_35 (by decide) (fun h35 => ?_) (fun h35 => ?_)
  · refine g_iconst (v := 0) C0 dX10_call_69 (by decide) ?_
    refine g_istore C0 dX10_call_70 (by decide) ?_
    refine g_aload_n C0 dX10_call_72 rfl ?_
    refine g_iload_n C0 dX10_call_73 rfl ?_
    refine g_if_ne (tgt := 81) C0 dX10_call_74 (by decide) (fun _ => ?_) (fun z => (by revert z; decide +kernel : False).elim)
    refine g_iload_n C0 dX10_call_81 rfl ?_
    refine g_iload_n C0 dX10_call_82 rfl ?_
    refine g_icmp_ne (tgt := 90) C0 dX10_call_83 (by decide) (fun h83 => ?_) (fun h83 => absurd h83 h26)
    refine g_iload C0 dX10_call_90 rfl ?_
    refine g_if_eq (tgt := 99) C0 dX10_call_92 (by decide) (fun _ => ?_) (fun z => (by revert z; decide +kernel : False).elim)
    refine g_iconst (v := 3) C0 dX10_call_99 (by decide) ?_
    refine g_invV1 C0 dX10_call_100 CX10_101 rfl rfl ⟨by decide, by decide, by decide, by decide⟩ (Nat.le_of_ble_eq_true rfl) ?_
    refine m_refused (n := 3) (by decide) ?_
    refine Aft_v (WM_len2 _ _) ?_
    rw [if_neg (by decide)]
    refine g_if_eq (tgt := 108) C0 dX10_call_103 (by decide) (fun z => (by revert z; decide +kernel : False).elim) (fun _ => ?_)
    refine g_iconst (v := 0) C0 dX10_call_106 (by decide) ?_
    refine g_iret C0 rfl dX10_call_107 (by decide) (by decide) ?_
    rw [mCall, if_neg b1, if_neg b8, if_neg h26, if_neg h35] at hK
    exact hK
  refine g_aload_n C0 dX10_call_38 rfl ?_
  refine g_iload_n C0 dX10_call_39 rfl ?_
  refine g_invV1 C0 dX10_call_40 CX10_154 rfl rfl ⟨by decide, by decide, by decide, by decide⟩ (Nat.le_of_ble_eq_true rfl) ?_
  refine m_with (show q.2 5 ≤ 60 from h5) ?_
  refine Aft_v (WM_len2 _ _) ?_
  refine g_iconst (v := (-1)) C0 dX10_call_43 (by decide) ?_
  refine g_icmp_ne (tgt := 69) C0 dX10_call_44 (by decide) (fun h44 => ?_) (fun h44 => ?_)
  · refine g_iconst (v := 0) C0 dX10_call_69 (by decide) ?_
    refine g_istore C0 dX10_call_70 (by decide) ?_
    refine g_aload_n C0 dX10_call_72 rfl ?_
    refine g_iload_n C0 dX10_call_73 rfl ?_
    refine g_if_ne (tgt := 81) C0 dX10_call_74 (by decide) (fun _ => ?_) (fun z => (by revert z; decide +kernel : False).elim)
    refine g_iload_n C0 dX10_call_81 rfl ?_
    refine g_iload_n C0 dX10_call_82 rfl ?_
    refine g_icmp_ne (tgt := 90) C0 dX10_call_83 (by decide) (fun h83 => ?_) (fun h83 => absurd h83 h26)
    refine g_iload C0 dX10_call_90 rfl ?_
    refine g_if_eq (tgt := 99) C0 dX10_call_92 (by decide) (fun _ => ?_) (fun z => (by revert z; decide +kernel : False).elim)
    refine g_iconst (v := 3) C0 dX10_call_99 (by decide) ?_
    refine g_invV1 C0 dX10_call_100 CX10_101 rfl rfl ⟨by decide, by decide, by decide, by decide⟩ (Nat.le_of_ble_eq_true rfl) ?_
    refine m_refused (n := 3) (by decide) ?_
    refine Aft_v (WM_len2 _ _) ?_
    rw [if_neg (by decide)]
    refine g_if_eq (tgt := 108) C0 dX10_call_103 (by decide) (fun z => (by revert z; decide +kernel : False).elim) (fun _ => ?_)
    refine g_iconst (v := 0) C0 dX10_call_106 (by decide) ?_
    refine g_iret C0 rfl dX10_call_107 (by decide) (by decide) ?_
    rw [mCall, if_neg b1, if_neg b8, if_neg h26, if_pos h35, if_neg h44] at hK
    exact hK
  refine g_aload_n C0 dX10_call_47 rfl ?_
  refine g_getfield C0 dX10_call_48 FX10_43 rfl rfl ?_
  refine g_iload_n C0 dX10_call_51 rfl ?_
  refine g_zaload C0 dX10_call_52 rfl (inN b1) ?_
  refine g_if_ne (tgt := 69) C0 dX10_call_53 (by decide) (fun h53 => ?_) (fun h53 => ?_)
  · refine g_iconst (v := 0) C0 dX10_call_69 (by decide) ?_
    refine g_istore C0 dX10_call_70 (by decide) ?_
    refine g_aload_n C0 dX10_call_72 rfl ?_
    refine g_iload_n C0 dX10_call_73 rfl ?_
    refine g_if_ne (tgt := 81) C0 dX10_call_74 (by decide) (fun _ => ?_) (fun z => (by revert z; decide +kernel : False).elim)
    refine g_iload_n C0 dX10_call_81 rfl ?_
    refine g_iload_n C0 dX10_call_82 rfl ?_
    refine g_icmp_ne (tgt := 90) C0 dX10_call_83 (by decide) (fun h83 => ?_) (fun h83 => absurd h83 h26)
    refine g_iload C0 dX10_call_90 rfl ?_
    refine g_if_eq (tgt := 99) C0 dX10_call_92 (by decide) (fun _ => ?_) (fun z => (by revert z; decide +kernel : False).elim)
    refine g_iconst (v := 3) C0 dX10_call_99 (by decide) ?_
    refine g_invV1 C0 dX10_call_100 CX10_101 rfl rfl ⟨by decide, by decide, by decide, by decide⟩ (Nat.le_of_ble_eq_true rfl) ?_
    refine m_refused (n := 3) (by decide) ?_
    refine Aft_v (WM_len2 _ _) ?_
    rw [if_neg (by decide)]
    refine g_if_eq (tgt := 108) C0 dX10_call_103 (by decide) (fun z => (by revert z; decide +kernel : False).elim) (fun _ => ?_)
    refine g_iconst (v := 0) C0 dX10_call_106 (by decide) ?_
    refine g_iret C0 rfl dX10_call_107 (by decide) (by decide) ?_
    rw [mCall, if_neg b1, if_neg b8, if_neg h26, if_pos h35, if_pos h44, if_neg h53] at hK
    exact hK
  refine g_aload_n C0 dX10_call_56 rfl ?_
  refine g_getfield C0 dX10_call_57 FX10_91 rfl rfl ?_
  refine g_bipush (v := 60) C0 dX10_call_60 (by decide) ?_
  refine g_icmp_ge (tgt := 69) C0 dX10_call_62 (by decide) (fun h62 => ?_) (fun h62 => ?_)
  · refine g_iconst (v := 0) C0 dX10_call_69 (by decide) ?_
    refine g_istore C0 dX10_call_70 (by decide) ?_
    refine g_aload_n C0 dX10_call_72 rfl ?_
    refine g_iload_n C0 dX10_call_73 rfl ?_
    refine g_if_ne (tgt := 81) C0 dX10_call_74 (by decide) (fun _ => ?_) (fun z => (by revert z; decide +kernel : False).elim)
    refine g_iload_n C0 dX10_call_81 rfl ?_
    refine g_iload_n C0 dX10_call_82 rfl ?_
    refine g_icmp_ne (tgt := 90) C0 dX10_call_83 (by decide) (fun h83 => ?_) (fun h83 => absurd h83 h26)
    refine g_iload C0 dX10_call_90 rfl ?_
    refine g_if_eq (tgt := 99) C0 dX10_call_92 (by decide) (fun _ => ?_) (fun z => (by revert z; decide +kernel : False).elim)
    refine g_iconst (v := 3) C0 dX10_call_99 (by decide) ?_
    refine g_invV1 C0 dX10_call_100 CX10_101 rfl rfl ⟨by decide, by decide, by decide, by decide⟩ (Nat.le_of_ble_eq_true rfl) ?_
    refine m_refused (n := 3) (by decide) ?_
    refine Aft_v (WM_len2 _ _) ?_
    rw [if_neg (by decide)]
    refine g_if_eq (tgt := 108) C0 dX10_call_103 (by decide) (fun z => (by revert z; decide +kernel : False).elim) (fun _ => ?_)
    refine g_iconst (v := 0) C0 dX10_call_106 (by decide) ?_
    refine g_iret C0 rfl dX10_call_107 (by decide) (by decide) ?_
    rw [mCall, if_neg b1, if_neg b8, if_neg h26, if_pos h35, if_pos h44, if_pos h53, if_pos h62] at hK
    exact hK
  refine g_iconst (v := 1) C0 dX10_call_65 (by decide) ?_
  refine g_goto (tgt := 70) C0 dX10_call_66 (by decide) ?_
  refine g_istore C0 dX10_call_70 (by decide) ?_
  refine g_aload_n C0 dX10_call_72 rfl ?_
  refine g_iload_n C0 dX10_call_73 rfl ?_
  refine g_if_ne (tgt := 81) C0 dX10_call_74 (by decide) (fun _ => ?_) (fun z => (by revert z; decide +kernel : False).elim)
  refine g_iload_n C0 dX10_call_81 rfl ?_
  refine g_iload_n C0 dX10_call_82 rfl ?_
  refine g_icmp_ne (tgt := 90) C0 dX10_call_83 (by decide) (fun h83 => ?_) (fun h83 => absurd h83 h26)
  refine g_iload C0 dX10_call_90 rfl ?_
  refine g_if_eq (tgt := 99) C0 dX10_call_92 (by decide) (fun z => (by revert z; decide +kernel : False).elim) (fun _ => ?_)
  refine g_iconst (v := 0) C0 dX10_call_95 (by decide) ?_
  refine g_goto (tgt := 100) C0 dX10_call_96 (by decide) ?_
  refine g_invV1 C0 dX10_call_100 CX10_101 rfl rfl ⟨by decide, by decide, by decide, by decide⟩ (Nat.le_of_ble_eq_true rfl) ?_
  refine m_refused (n := 0) (by decide) ?_
  refine Aft_v (WM_len2 _ _) ?_
  rw [if_pos rfl]
  refine g_if_eq (tgt := 108) C0 dX10_call_103 (by decide) (fun _ => ?_) (fun z => (by revert z; decide +kernel : False).elim)
  have h59 : q.2 5 < 60 := by
    rcases Nat.lt_or_ge (q.2 5) 60 with h | h
    · exact h
    · exact absurd (nI_le (a := 60) h (by omega)) h62
  have hDW := mcomes_DW (q := z0 q) (lam := lam) (inN b1) (inN b8) hc
  have hC5 : (mcomes (z0 q) a b lam).1.2 5 = q.2 5 := mcomes_c 5 (by decide)
  have ip : vp_in (nI ((mcomes (z0 q) a b lam).1.2 5)) 60 := by rw [hC5]; exact vp_in_nI h59 (by decide)
  have iw : vp_in (nI ((mcomes (z0 q) a b lam).1.2 7)) 5 := vp_in_nI hDW.2 (by decide)
  refine g_aload_n C0 dX10_call_108 rfl ?_
  refine g_iload_n C0 dX10_call_109 rfl ?_
  refine g_iload_n C0 dX10_call_110 rfl ?_
  refine g_invV2 C0 dX10_call_111 CX10_157 rfl rfl ⟨by decide, by decide, by decide, by decide⟩ (Nat.le_of_ble_eq_true rfl) ?_
  refine m_comes (q := z0 q) (lam := lam) (inN b1) (inN b8) h4 h5 hl hc ?_
  refine Aft_v (WM_len2 _ _) ?_
  refine g_if_ne (tgt := 155) C0 dX10_call_114 (by decide) (fun h114 => ?_) (fun h114 => ?_)
  · refine g_aload_n C0 dX10_call_155 rfl ?_
    refine g_getfield C0 dX10_call_156 FX10_59 rfl rfl ?_
    refine g_aload_n C0 dX10_call_159 rfl ?_
    refine g_getfield C0 dX10_call_160 FX10_91 rfl rfl ?_
    refine g_iload_n C0 dX10_call_163 rfl ?_
    refine g_iastore C0 dX10_call_164 rfl ip ?_
    refine g_w (WM_set _ 16 (by decide) _) ?_
    refine g_aload_n C0 dX10_call_165 rfl ?_
    refine g_getfield C0 dX10_call_166 FX10_62 rfl rfl ?_
    refine g_aload_n C0 dX10_call_169 rfl ?_
    refine g_getfield C0 dX10_call_170 FX10_91 rfl rfl ?_
    refine g_iload_n C0 dX10_call_173 rfl ?_
    refine g_iastore C0 dX10_call_174 rfl ip ?_
    refine g_w (WM_set _ 17 (by decide) _) ?_
    refine g_aload_n C0 dX10_call_175 rfl ?_
    refine g_getfield C0 dX10_call_176 FX10_65 rfl rfl ?_
    refine g_aload_n C0 dX10_call_179 rfl ?_
    refine g_getfield C0 dX10_call_180 FX10_91 rfl rfl ?_
    refine g_iconst (v := 0) C0 dX10_call_183 (by decide) ?_
    refine g_iastore C0 dX10_call_184 rfl ip ?_
    refine g_w (WM_set _ 18 (by decide) _) ?_
    refine g_aload_n C0 dX10_call_185 rfl ?_
    refine g_getfield C0 dX10_call_186 FX10_68 rfl rfl ?_
    refine g_aload_n C0 dX10_call_189 rfl ?_
    refine g_getfield C0 dX10_call_190 FX10_91 rfl rfl ?_
    refine g_aload_n C0 dX10_call_193 rfl ?_
    refine g_getfield C0 dX10_call_194 FX10_144 rfl rfl ?_
    refine g_iastore C0 dX10_call_197 rfl ip ?_
    refine g_w (WM_set _ 19 (by decide) _) ?_
    refine g_iconst (v := 0) C0 dX10_call_198 (by decide) ?_
    refine g_istore C0 dX10_call_199 (by decide) ?_
    rw [mCall, if_neg b1, if_neg b8, if_neg h26, if_pos h35, if_pos h44, if_pos h53, if_neg h62, if_neg h114] at hK
    exact ml_call (q := mbQ (mcomes (z0 q) a b lam).1 a b) (show (mcomes (z0 q) a b lam).1.2 5 < 60 by rw [hC5]; exact h59) hDW.2 hK C0 ((mcomes (z0 q) a b lam).1.2 7 + 1) 0 (by show 0 + ((mcomes (z0 q) a b lam).1.2 7 + 1) = (mcomes (z0 q) a b lam).1.2 7 + 1; omega)
  refine g_aload_n C0 dX10_call_117 rfl ?_
  refine g_dup C0 dX10_call_118 rfl ?_
  refine g_getfield C0 dX10_call_119 FX10_116 rfl rfl ?_
  refine g_iconst (v := 1) C0 dX10_call_122 (by decide) ?_
  refine g_iadd C0 dX10_call_123 ?_
  refine g_putfield C0 dX10_call_124 FX10_116 rfl (Nat.le_of_ble_eq_true rfl) (fun _ => ⟨rfl, rfl⟩) ?_
  refine g_w (WM_inc6 _) ?_
  refine g_aload_n C0 dX10_call_127 rfl ?_
  refine g_getfield C0 dX10_call_128 FX10_144 rfl rfl ?_
  refine g_if_le (tgt := 153) C0 dX10_call_131 (by decide) (fun h131 => ?_) (fun h131 => ?_)
  · refine g_iconst (v := (-1)) C0 dX10_call_153 (by decide) ?_
    refine g_iret C0 rfl dX10_call_154 (by decide) (by decide) ?_
    have h131c :  nI ((mcomes (z0 q) a b lam).1.2 7) ≤ 0 := h131
    rw [mCall, if_neg b1, if_neg b8, if_neg h26, if_pos h35, if_pos h44, if_pos h53, if_neg h62, if_pos h114, if_pos h131c] at hK
    exact hK
  refine g_aload_n C0 dX10_call_134 rfl ?_
  refine g_aload_n C0 dX10_call_135 rfl ?_
  refine g_getfield C0 dX10_call_136 FX10_80 rfl rfl ?_
  refine g_aload_n C0 dX10_call_139 rfl ?_
  refine g_getfield C0 dX10_call_140 FX10_144 rfl rfl ?_
  refine g_iaload C0 dX10_call_143 rfl iw ?_
  refine g_aload_n C0 dX10_call_144 rfl ?_
  refine g_getfield C0 dX10_call_145 FX10_80 rfl rfl ?_
  refine g_iconst (v := 0) C0 dX10_call_148 (by decide) ?_
  refine g_iaload C0 dX10_call_149 rfl (vp_in_nI (n := 0) (by decide) (by decide)) ?_
  have iy : vp_in (mg (mcomes (z0 q) a b lam).1 23 (nI ((mcomes (z0 q) a b lam).1.2 7))) 5 := by show vp_in ((mcomes (z0 q) a b lam).1.1 23 (nI ((mcomes (z0 q) a b lam).1.2 7)).toNatClampNeg) 5; rw [nI_clamp (by have := hDW.2; omega)]; exact hDW.1.1 _ (Nat.le_refl _)
  have iz : vp_in (mg (mcomes (z0 q) a b lam).1 23 0) 5 := hDW.1.1 0 (Nat.zero_le _)
  refine g_invV2 C0 dX10_call_150 CX10_112 rfl rfl ⟨by decide, by decide, by decide, by decide⟩ (Nat.le_of_ble_eq_true rfl) ?_
  refine m_pay iy iz ?_
  refine Aft_n (WM_len2 _ _) ?_
  refine g_iconst (v := (-1)) C0 dX10_call_153 (by decide) ?_
  refine g_iret C0 rfl dX10_call_154 (by decide) (by decide) ?_
  have h131c : ¬ nI ((mcomes (z0 q) a b lam).1.2 7) ≤ 0 := h131
  rw [mCall, if_neg b1, if_neg b8, if_neg h26, if_pos h35, if_pos h44, if_pos h53, if_neg h62, if_pos h114, if_neg h131c] at hK
  exact hK

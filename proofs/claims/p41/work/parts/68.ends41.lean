/-! ===== all calls are ended, all debts paid ===== -/
theorem hang_k {q t : XS} {B T : Nat} {n0 : Int32} (r : RX q t) (E : EI NB B T n0 q) {k : Nat} (hk : k < q.2 6) (h0 : q.1 31 k = 0) : ∃ q1 v, CT ML_hangs [.int (nI k)] q q1 v ∧ CT ML_seconds [.int (nI k)] q1 q1 v ∧ IV B T n0 q1 ∧ q1.2 6 = q.2 6 ∧ ¬ q1.1 31 k = 0 ∧ ∀ j, j ≠ k → q1.1 31 j = q.1 31 j := by
  have h60 := r.c60
  have hK := okK hk h60
  have ec : lm t (nI k).toNatClampNeg = lm t k := by rw [nI_clamp (by omega)]
  have he : xHangUp q (nI k) (lm t k) = R0 (xend q (nI k) 1 (lm t k)) (clasted (xend q (nI k) 1 (lm t k)) (nI k) (nI ((xend q (nI k) 1 (lm t k)).2 0))) := by
    unfold xHangUp
    rw [if_neg hK, if_pos (by rw [xg_n (k := 31) (show k < 60 by omega)]; exact h0)]
  have hI : IV B T n0 (xHangUp q (nI k) (lm t (nI k).toNatClampNeg)).2 := iv_hangUp r E
  have hc := c_hangs r (nI k)
  rw [ec, he] at hI hc
  obtain ⟨c2, h2, e2⟩ := r.cd hk
  obtain ⟨f, e3, -⟩ := xend_n r hk (v := 1) h2 e2
  have hI2 : IV B T n0 (xend q (nI k) 1 (lm t k)) := hI
  have e6 : (xend q (nI k) 1 (lm t k)).2 6 = q.2 6 := by rw [e3]; rfl
  have e31 : (xend q (nI k) 1 (lm t k)).1 31 = upd (q.1 31) k 1 := by rw [e3]; rfl
  obtain ⟨t1, r1, E1⟩ := hI2
  refine ⟨xend q (nI k) 1 (lm t k), _, hc, CT.v (c_seconds r1 _) (if_neg (okK (by rw [e6]; exact hk) r1.c60)), ⟨t1, r1, E1⟩, e6, ?_, fun j hj => ?_⟩
  · rw [e31, pk_us]; decide
  · rw [e31, pk_un hj]
theorem pay_all {x t : XS} {B T : Nat} {n0 : Int32} (h : RX x t) (E : EI NB B T n0 x) {m d : Nat} (hm : m < 12) (ed : x.1 2 m = nI d) (hd0 : 0 < d) (hd : d < 2 ^ 30) : ∃ q1, CT ML_pays [.int (nI m), .int (nI d)] x q1 0 ∧ IV B T (n0 + nI d) q1 ∧ q1.1 2 m = 0 ∧ (∀ j, j ≠ m → q1.1 2 j = x.1 2 j) ∧ q1.1 31 = x.1 31 ∧ q1.2 = x.2 := by
  have hs := (s_pay h (nI m) (nI d)).2
  have hc := c_pays h (nI m) (nI d)
  obtain ⟨cc, hcc, e0⟩ := x0_in h hm
  obtain ⟨v1, a1⟩ := xsettle_n (q := x) (p := d) hm hcc e0 ed (Nat.le_refl _) (by omega)
  have hw : ¬ noW (nI d) 1 (nI d) := fun z => by
    rcases z with z | z
    · exact nI_nlt (b := 1) hd0 (by omega) z
    · exact nI_nlt (Nat.le_refl d) (by omega) z
  have he : xPay x (nI m) (nI d) = R0 (setR (setR (setR (setR x 2 (upd (x.1 2) m (nI (d - d)))) 3 (upd (x.1 3) m (x.1 3 m + nI d))) 8 (upd (x.1 8) cc (x.1 8 cc + nI d))) 5 (if d - d = 0 then upd (x.1 5) m 0 else x.1 5)) (nI (d - d)) := by
    unfold xPay
    rw [if_neg (okN hm), xg_n (k := 2) (show m < 12 from hm), ed, if_neg hw, v1, a1]
  rw [he] at hs hc
  have ez : nI (d - d) = 0 := by rw [Nat.sub_self]; exact nI_0
  refine ⟨_, (ez ▸ hc : CT ML_pays [.int (nI m), .int (nI d)] x _ _), ⟨_, hs, ?_⟩, ?_, fun j hj => ?_, rfl, rfl⟩
  · have H := E.settled (fb := x.1 4) (p := d) (f := if d - d = 0 then upd (x.1 5) m 0 else x.1 5) hm hcc ed (by omega) (fun n hn hnm => ?_) ?_
    · rw [setR_self x 4] at H
      exact H
    · split
      · rw [pk_un hnm]; exact id
      · exact id
    · split
      · rw [pk_us]; exact fun z => absurd rfl z
      · intro _; omega
  · exact pk_us.trans ez
  · exact pk_un hj
theorem all_paid {x t : XS} {B T : Nat} {n0 : Int32} (h : RX x t) (E : EI NB B T n0 x) (hz : ∀ j, j < 12 → x.1 2 j = 0) : n0 = sI (x.1 9) 0 5 := by
  have h1 := sum_ea h E
  have h2 := sum_db h E
  rw [sI_zero (fun i hi => by rw [Nat.zero_add]; exact hz i hi)] at h2
  rw [h1]
  grind
set_option maxRecDepth 100000 in
set_option maxHeartbeats 4000000 in
theorem en_end {X : CX} {S : SX} {y : XS} {B T : Nat} (C0 : Ok X S ML_ends) {q t : XS} {f : Nat → Int32} {o4 o5 : Option Value} (r : RX q t) (E : EI NB B T (f 0) q) (hT : T + 1000 ≤ 20000) (hK : ∀ q2 f2, IV B (T + 1000) (f2 0) q2 → SK S (.inl (some (.int 1))) (W2 q2 y f2)) (hov : (∀ j, j < q.2 6 → ¬ q.1 31 j = 0)) (hz : ∀ j, j < 12 → q.1 2 j = 0) : Gd X S ML_ends 161 [some (.ref 0), some (.ref 168), some (.int (nI 1)), some (.int (sI (q.1 9) 0 5)), o4, o5] [] (W2 q y f) (317) (1902) := by
  have hn := E.nn
  refine g_iload_n C0 dL_ends_161 rfl ?_
  refine g_if_eq (tgt := 186) C0 dL_ends_162 (by decide) (fun z => absurd z (by decide +kernel)) (fun _ => ?_)
  refine g_aload_n C0 dL_ends_165 rfl ?_
  refine g_sipush (v := nI 1000) C0 dL_ends_166 (by decide +kernel) ?_
  refine g_ct1 C0 dL_ends_169 CL_180 rfl ⟨by decide, by decide, (by show 317 + 2 ≤ 1000; omega), (by show 1902 + 12 ≤ 6000; omega)⟩ (Nat.le_of_ble_eq_true rfl) (HC.one _ _ _ _) ((show CT ML_passes [.int (nI 1000)] q (lateX q 1000) 0 from by have h := CT.v (c_passes r _) (xPass_n r (m := 1000) (by decide) (by decide) (by omega)); rw [SM_none 1000 hov] at h; exact h)) ?_
  refine g_if_ne (tgt := 186) C0 dL_ends_172 (by decide) (fun z => absurd rfl z) (fun _ => ?_)
  refine g_aload_n C0 dL_ends_175 rfl ?_
  refine g_iconst (v := nI 0) C0 dL_ends_176 (by decide +kernel) ?_
  refine g_iaload C0 dL_ends_177 (W2_arr _ _ _) (vp_in_nI (by decide) (by decide)) ?_
  rw [show (nI 0).toNatClampNeg = 0 from nI_clamp (by decide)]
  refine g_iload_n C0 dL_ends_178 rfl ?_
  refine g_icmp_ne (tgt := 186) C0 dL_ends_179 (by decide) (fun z => absurd (all_paid r E hz) z) (fun _ => ?_)
  refine g_iconst (v := nI 1) C0 dL_ends_182 (by decide +kernel) ?_
  refine g_goto (tgt := 187) C0 dL_ends_183 (by decide) ?_
  exact g_zret C0 rfl rfl dL_ends_187 (by show 317 + 2 ≤ 1000; decide) (by show 1902 + 12 ≤ 6000; decide) (hK _ _ (iv_late r E (m := 1000) (by omega)))
set_option maxRecDepth 100000 in
set_option maxHeartbeats 4000000 in
theorem en_3 {X : CX} {S : SX} {y : XS} {B T : Nat} (C0 : Ok X S ML_ends) {q t : XS} {f : Nat → Int32} {o5 : Option Value} (r : RX q t) (E : EI NB B T (f 0) q) (hT : T + 1000 ≤ 20000) (hK : ∀ q2 f2, IV B (T + 1000) (f2 0) q2 → SK S (.inl (some (.int 1))) (W2 q2 y f2)) (hov : (∀ j, j < q.2 6 → ¬ q.1 31 j = 0)) (hz : ∀ j, j < 12 → q.1 2 j = 0) : ∀ n k, k + n = 5 → Gd X S ML_ends 140 [some (.ref 0), some (.ref 168), some (.int (nI 1)), some (.int (sI (q.1 9) 0 k)), some (.int (nI k)), o5] [] (W2 q y f) (312 + k) (1872 + 6 * k) := by
  intro n
  induction n with
  | zero =>
    intro k hk
    obtain rfl : k = 5 := by omega
    refine g_iload C0 dL_ends_140 rfl ?_
    refine g_iconst (v := nI 5) C0 dL_ends_142 (by decide +kernel) ?_
    refine g_icmp_ge (tgt := 161) C0 dL_ends_143 (by decide) (fun _ => ?_) (fun z => absurd (Int32.le_refl _) z)
    refine g_widen (cs2 := 317) (ss2 := 1902) (by decide) (by decide) ?_
    exact en_end C0 r E hT hK hov hz
  | succ n ih =>
    intro k hk
    have hk5 : k < 5 := by omega
    refine g_iload C0 dL_ends_140 rfl ?_
    refine g_iconst (v := nI 5) C0 dL_ends_142 (by decide +kernel) ?_
    refine g_icmp_ge (tgt := 161) C0 dL_ends_143 (by decide) (fun z => absurd z (nI_ge (by omega) (by omega))) (fun _ => ?_)
    refine g_iload_n C0 dL_ends_146 rfl ?_
    refine g_aload_n C0 dL_ends_147 rfl ?_
    refine g_iload C0 dL_ends_148 rfl ?_
    refine g_ct1 C0 dL_ends_150 CL_212 rfl ⟨by decide, by decide, (by show 312 + k + 1 ≤ 1000; omega), (by show 1872 + 6 * k + 6 ≤ 6000; omega)⟩ (Nat.le_of_ble_eq_true rfl) (HC.one _ _ _ _) (a_earned r hk5) ?_
    refine g_iadd C0 dL_ends_153 ?_
    refine g_istore_n C0 dL_ends_154 (by decide) ?_
    refine g_iinc (v := nI (k + 1)) C0 dL_ends_155 rfl (nI_1 _) (by decide) ?_
    refine g_goto (tgt := 140) C0 dL_ends_158 (by decide) ?_
    refine g_widen (cs2 := 312 + (k + 1)) (ss2 := 1872 + 6 * (k + 1)) (by show 312 + k + 1 ≤ _; omega) (by show 1872 + 6 * k + 6 ≤ _; omega) ?_
    rw [sI_s (q.1 9) k]
    exact ih (k + 1) (by omega)
set_option maxRecDepth 100000 in
set_option maxHeartbeats 4000000 in
theorem en_2 {X : CX} {S : SX} {y : XS} {B T : Nat} (C0 : Ok X S ML_ends) (hT : T + 1000 ≤ 20000) (hK : ∀ q2 f2, IV B (T + 1000) (f2 0) q2 → SK S (.inl (some (.int 1))) (W2 q2 y f2)) : ∀ n k (q : XS) (f : Nat → Int32) (o5 : Option Value), k + n = 12 → IV B T (f 0) q → (∀ j, j < q.2 6 → ¬ q.1 31 j = 0) → (∀ j, j < k → q.1 2 j = 0) → Gd X S ML_ends 54 [some (.ref 0), some (.ref 168), some (.int (nI 1)), some (.int (nI 0)), some (.int (nI k)), o5] [] (W2 q y f) (240 + 6 * k) (1440 + 36 * k) := by
  intro n
  induction n with
  | zero =>
    intro k q f o5 hk I hov hz
    obtain ⟨t, r, E⟩ := I
    obtain rfl : k = 12 := by omega
    refine g_iload C0 dL_ends_54 rfl ?_
    refine g_bipush (v := nI 12) C0 dL_ends_56 (by decide +kernel) ?_
    refine g_icmp_ge (tgt := 137) C0 dL_ends_58 (by decide) (fun _ => ?_) (fun z => absurd (Int32.le_refl _) z)
    refine g_iconst (v := nI 0) C0 dL_ends_137 (by decide +kernel) ?_
    refine g_istore C0 dL_ends_138 (by decide) ?_
    refine g_widen (cs2 := 312 + 0) (ss2 := 1872 + 6 * 0) (by decide) (by decide) ?_
    exact en_3 C0 r E hT hK hov hz 5 0 (by omega)
  | succ n ih =>
    intro k q f o5 hk I hov hz
    obtain ⟨t, r, E⟩ := I
    have hk12 : k < 12 := by omega
    have h20 := r.n20
    obtain ⟨d, ed, hd⟩ := r.gD k hk12
    have J : ∀ p : XS, IV B T (f 0 + q.1 2 k) p → p.1 2 k = 0 → (∀ j, j < p.2 6 → ¬ p.1 31 j = 0) → (∀ j, j < k → p.1 2 j = 0) → Gd X S ML_ends 99 [some (.ref 0), some (.ref 168), some (.int (nI 1)), some (.int (nI 0)), some (.int (nI k)), some (.int (q.1 2 k))] [] (W2 p y f) (240 + 6 * k + 4) (1440 + 36 * k + 24) := fun p Ip ez hov2 hz2 => by
      have Ip0 := Ip
      obtain ⟨tp, rp, Ep⟩ := Ip
      refine g_aload_n C0 dL_ends_99 rfl ?_
      refine g_iload C0 dL_ends_100 rfl ?_
      refine g_ct1 C0 dL_ends_102 CL_164 rfl ⟨by decide, by decide, (by show 240 + 6 * k + 4 + 1 ≤ 1000; omega), (by show 1440 + 36 * k + 24 + 6 ≤ 6000; omega)⟩ (Nat.le_of_ble_eq_true rfl) (HC.one _ _ _ _) ((show CT ML_debt [.int (nI k)] p p 0 from by have h := a_debt rp hk12; rw [ez] at h; exact h)) ?_
      refine g_if_ne (tgt := 121) C0 dL_ends_105 (by decide) (fun z => absurd rfl z) (fun _ => ?_)
      refine g_aload_n C0 dL_ends_108 rfl ?_
      refine g_iload C0 dL_ends_109 rfl ?_
      refine g_ct1 C0 dL_ends_111 CL_169 rfl ⟨by decide, by decide, (by show 240 + 6 * k + 4 + 1 + 1 ≤ 1000; omega), (by show 1440 + 36 * k + 24 + 6 + 6 ≤ 6000; omega)⟩ (Nat.le_of_ble_eq_true rfl) (HC.one _ _ _ _) ((show CT ML_barred [.int (nI k)] p p 0 from by have h := a_barred rp hk12; rw [if_pos (Classical.byContradiction fun z => Ep.br k hk12 z ez)] at h; exact h)) ?_
      refine g_if_ne (tgt := 121) C0 dL_ends_114 (by decide) (fun z => absurd rfl z) (fun _ => ?_)
      refine g_iconst (v := nI 1) C0 dL_ends_117 (by decide +kernel) ?_
      refine g_goto (tgt := 122) C0 dL_ends_118 (by decide) ?_
      refine g_istore_n C0 dL_ends_122 (by decide) ?_
      refine g_aload_n C0 dL_ends_123 rfl ?_
      refine g_iconst (v := nI 0) C0 dL_ends_124 (by decide +kernel) ?_
      refine g_dup2 C0 dL_ends_125 rfl rfl ?_
      refine g_iaload C0 dL_ends_126 (W2_arr _ _ _) (vp_in_nI (by decide) (by decide)) ?_
      refine g_iload C0 dL_ends_127 rfl ?_
      refine g_iadd C0 dL_ends_129 ?_
      refine g_iastore C0 dL_ends_130 (W2_arr _ _ _) (vp_in_nI (by decide) (by decide)) ?_
      refine g_w (W2_set _ _ _ _) ?_
      rw [show (nI 0).toNatClampNeg = 0 from nI_clamp (by decide)]
      refine g_iinc (v := nI (k + 1)) C0 dL_ends_131 rfl (nI_1 _) (by decide) ?_
      refine g_goto (tgt := 54) C0 dL_ends_134 (by decide) ?_
      refine g_widen (cs2 := 240 + 6 * (k + 1)) (ss2 := 1440 + 36 * (k + 1)) (by show 240 + 6 * k + 4 + 1 + 1 ≤ _; omega) (by show 1440 + 36 * k + 24 + 6 + 6 ≤ _; omega) ?_
      refine ih (k + 1) p (upd f 0 (f 0 + q.1 2 k)) _ (by omega) (by rw [pk_us]; exact Ip0) hov2 (fun j hj => ?_)
      by_cases hjk : j = k
      · rw [hjk]; exact ez
      · exact hz2 j (by omega)
    refine g_iload C0 dL_ends_54 rfl ?_
    refine g_bipush (v := nI 12) C0 dL_ends_56 (by decide +kernel) ?_
    refine g_icmp_ge (tgt := 137) C0 dL_ends_58 (by decide) (fun z => absurd z (nI_ge (by omega) (by omega))) (fun _ => ?_)
    refine g_iload_n C0 dL_ends_61 rfl ?_
    refine g_if_eq (tgt := 137) C0 dL_ends_62 (by decide) (fun z => absurd z (by decide +kernel)) (fun _ => ?_)
    refine g_aload_n C0 dL_ends_65 rfl ?_
    refine g_iload C0 dL_ends_66 rfl ?_
    refine g_ct1 C0 dL_ends_68 CL_164 rfl ⟨by decide, by decide, (by show 240 + 6 * k + 1 ≤ 1000; omega), (by show 1440 + 36 * k + 6 ≤ 6000; omega)⟩ (Nat.le_of_ble_eq_true rfl) (HC.one _ _ _ _) (a_debt r hk12) ?_
    refine g_istore C0 dL_ends_71 (by decide) ?_
    refine g_aload_n C0 dL_ends_73 rfl ?_
    refine g_iload C0 dL_ends_74 rfl ?_
    refine g_ct1 C0 dL_ends_76 CL_175 rfl ⟨by decide, by decide, (by show 240 + 6 * k + 1 + 1 ≤ 1000; omega), (by show 1440 + 36 * k + 6 + 6 ≤ 6000; omega)⟩ (Nat.le_of_ble_eq_true rfl) (HC.one _ _ _ _) ((show CT ML_callOf [.int (nI k)] q q (-1) from by have h := a_callOf r hk12; rw [talk_no r hov hk12] at h; exact h)) ?_
    refine g_iconst (v := -1) C0 dL_ends_79 (by decide) ?_
    refine g_icmp_ne (tgt := 121) C0 dL_ends_80 (by decide) (fun z => absurd rfl z) (fun _ => ?_)
    refine g_iload C0 dL_ends_83 rfl ?_
    by_cases hd0 : d = 0
    · have ez : q.1 2 k = 0 := by rw [ed, hd0]; exact nI_0
      refine g_if_eq (tgt := 99) C0 dL_ends_85 (by decide) (fun _ => ?_) (fun z => absurd ez z)
      refine g_widen (cs2 := 240 + 6 * k + 4) (ss2 := 1440 + 36 * k + 24) (by show 240 + 6 * k + 1 + 1 + 0 ≤ _; omega) (by show 1440 + 36 * k + 6 + 6 + 0 ≤ _; omega) ?_
      exact J q (by rw [ez, Int32.add_zero]; exact ⟨t, r, E⟩) ez hov hz
    · refine g_if_eq (tgt := 99) C0 dL_ends_85 (by decide) (fun z => absurd z (by rw [ed]; exact nI_ne0 (by omega) (by omega))) (fun _ => ?_)
      obtain ⟨p, hp, Ip, p2, p2o, p31, pc⟩ := pay_all r E hk12 ed (by omega) (by omega)
      rw [← ed] at hp Ip
      refine g_aload_n C0 dL_ends_88 rfl ?_
      refine g_iload C0 dL_ends_89 rfl ?_
      refine g_iload C0 dL_ends_91 rfl ?_
      refine g_ct2 C0 dL_ends_93 CL_161 rfl ⟨by decide, by decide, (by show 240 + 6 * k + 1 + 1 + 2 ≤ 1000; omega), (by show 1440 + 36 * k + 6 + 6 + 12 ≤ 6000; omega)⟩ (Nat.le_of_ble_eq_true rfl) (HC.one _ p _ _) (hp) ?_
      refine g_if_ne (tgt := 121) C0 dL_ends_96 (by decide) (fun z => absurd rfl z) (fun _ => ?_)
      refine g_widen (cs2 := 240 + 6 * k + 4) (ss2 := 1440 + 36 * k + 24) (by show 240 + 6 * k + 1 + 1 + 2 + 0 ≤ _; omega) (by show 1440 + 36 * k + 6 + 6 + 12 + 0 ≤ _; omega) ?_
      exact J p Ip p2 (by rw [p31, pc]; exact hov) (fun j hj => by rw [p2o j (by omega)]; exact hz j hj)
set_option maxRecDepth 100000 in
set_option maxHeartbeats 4000000 in
theorem en_1 {X : CX} {S : SX} {y : XS} {B T : Nat} (C0 : Ok X S ML_ends) {f : Nat → Int32} {o4 o5 : Option Value} {c : Nat} (hT : T + 1000 ≤ 20000) (hc60 : c ≤ 60) (hK : ∀ q2 f2, IV B (T + 1000) (f2 0) q2 → SK S (.inl (some (.int 1))) (W2 q2 y f2)) : ∀ n k (q : XS), k + n = c → q.2 6 = c → IV B T (f 0) q → (∀ j, j < k → ¬ q.1 31 j = 0) → Gd X S ML_ends 4 [some (.ref 0), some (.ref 168), some (.int (nI 1)), some (.int (nI k)), o4, o5] [] (W2 q y f) (4 * k) (24 * k) := by
  intro n
  induction n with
  | zero =>
    intro k q hk hc I hov
    have ek : k = q.2 6 := by omega
    have h60 : q.2 6 ≤ 60 := by omega
    refine g_iload_n C0 dL_ends_4 rfl ?_
    refine g_aload_n C0 dL_ends_5 rfl ?_
    refine g_cv C0 dL_ends_6 CL_126 rfl ⟨by decide, by decide, (by show 4 * k + 0 ≤ 1000; omega), (by show 24 * k + 0 ≤ 6000; omega)⟩ (Nat.le_of_ble_eq_true rfl) (HC.one _ _ _ _) (c_calls q) ?_
    refine g_icmp_ge (tgt := 49) C0 dL_ends_9 (by decide) (fun _ => ?_) (fun z => absurd (by rw [ek]; exact Int32.le_refl _) z)
    refine g_iconst (v := nI 0) C0 dL_ends_49 (by decide +kernel) ?_
    refine g_istore_n C0 dL_ends_50 (by decide) ?_
    refine g_iconst (v := nI 0) C0 dL_ends_51 (by decide +kernel) ?_
    refine g_istore C0 dL_ends_52 (by decide) ?_
    refine g_widen (cs2 := 240 + 6 * 0) (ss2 := 1440 + 36 * 0) (by show 4 * k + 0 ≤ _; omega) (by show 24 * k + 0 ≤ _; omega) ?_
    exact en_2 C0 hT hK 12 0 q f _ (by omega) I (by rw [← ek]; exact hov) (fun j hj => absurd hj (Nat.not_lt_zero j))
  | succ n ih =>
    intro k q hk hc I hov
    have h60 : q.2 6 ≤ 60 := by omega
    have hkc : k < q.2 6 := by omega
    have I0 := I
    obtain ⟨t, r, E⟩ := I
    have J : ∀ p : XS, IV B T (f 0) p → p.2 6 = c → (∀ j, j < k + 1 → ¬ p.1 31 j = 0) → Gd X S ML_ends 37 [some (.ref 0), some (.ref 168), some (.int (nI 1)), some (.int (nI k)), o4, o5] [] (W2 p y f) (4 * k + 4) (24 * k + 24) := fun p Ip pc hov2 => by
      refine g_iconst (v := nI 1) C0 dL_ends_37 (by decide +kernel) ?_
      refine g_goto (tgt := 42) C0 dL_ends_38 (by decide) ?_
      refine g_istore_n C0 dL_ends_42 (by decide) ?_
      refine g_iinc (v := nI (k + 1)) C0 dL_ends_43 rfl (nI_1 _) (by decide) ?_
      refine g_goto (tgt := 4) C0 dL_ends_46 (by decide) ?_
      refine g_widen (cs2 := 4 * (k + 1)) (ss2 := 24 * (k + 1)) (by omega) (by omega) ?_
      exact ih (k + 1) p (by omega) pc Ip hov2
    refine g_iload_n C0 dL_ends_4 rfl ?_
    refine g_aload_n C0 dL_ends_5 rfl ?_
    refine g_cv C0 dL_ends_6 CL_126 rfl ⟨by decide, by decide, (by show 4 * k + 0 ≤ 1000; omega), (by show 24 * k + 0 ≤ 6000; omega)⟩ (Nat.le_of_ble_eq_true rfl) (HC.one _ _ _ _) (c_calls q) ?_
    refine g_icmp_ge (tgt := 49) C0 dL_ends_9 (by decide) (fun z => absurd z (nI_ge (by omega) (by omega))) (fun _ => ?_)
    refine g_iload_n C0 dL_ends_12 rfl ?_
    refine g_if_eq (tgt := 49) C0 dL_ends_13 (by decide) (fun z => absurd z (by decide +kernel)) (fun _ => ?_)
    refine g_aload_n C0 dL_ends_16 rfl ?_
    refine g_iload_n C0 dL_ends_17 rfl ?_
    refine g_ct1 C0 dL_ends_18 CL_197 rfl ⟨by decide, by decide, (by show 4 * k + 0 + 1 ≤ 1000; omega), (by show 24 * k + 0 + 6 ≤ 6000; omega)⟩ (Nat.le_of_ble_eq_true rfl) (HC.one _ _ _ _) (a_state r hkc) ?_
    by_cases h0 : q.1 31 k = 0
    · refine g_if_ne (tgt := 37) C0 dL_ends_21 (by decide) (fun z => absurd h0 z) (fun _ => ?_)
      obtain ⟨p, v, hh, hs, Ip, p6, p31, p31o⟩ := hang_k r E hkc h0
      refine g_aload_n C0 dL_ends_24 rfl ?_
      refine g_iload_n C0 dL_ends_25 rfl ?_
      refine g_ct1 C0 dL_ends_26 CL_177 rfl ⟨by decide, by decide, (by show 4 * k + 0 + 1 + 2 ≤ 1000; omega), (by show 24 * k + 0 + 6 + 12 ≤ 6000; omega)⟩ (Nat.le_of_ble_eq_true rfl) (HC.one _ p _ _) (hh) ?_
      refine g_aload_n C0 dL_ends_29 rfl ?_
      refine g_iload_n C0 dL_ends_30 rfl ?_
      refine g_ct1 C0 dL_ends_31 CL_204 rfl ⟨by decide, by decide, (by show 4 * k + 0 + 1 + 2 + 1 ≤ 1000; omega), (by show 24 * k + 0 + 6 + 12 + 6 ≤ 6000; omega)⟩ (Nat.le_of_ble_eq_true rfl) (HC.one _ _ _ _) (hs) ?_
      refine g_icmp_ne (tgt := 41) C0 dL_ends_34 (by decide) (fun z => absurd rfl z) (fun _ => ?_)
      refine g_widen (cs2 := 4 * k + 4) (ss2 := 24 * k + 24) (by show 4 * k + 0 + 1 + 2 + 1 + 0 ≤ _; omega) (by show 24 * k + 0 + 6 + 12 + 6 + 0 ≤ _; omega) ?_
      refine J p Ip (by omega) (fun j hj => ?_)
      by_cases hjk : j = k
      · rw [hjk]; exact p31
      · rw [p31o j hjk]; exact hov j (by omega)
    · refine g_if_ne (tgt := 37) C0 dL_ends_21 (by decide) (fun _ => ?_) (fun z => absurd z h0)
      refine g_widen (cs2 := 4 * k + 4) (ss2 := 24 * k + 24) (by show 4 * k + 0 + 1 + 0 ≤ _; omega) (by show 24 * k + 0 + 6 + 0 ≤ _; omega) ?_
      refine J q I0 hc (fun j hj => ?_)
      by_cases hjk : j = k
      · rw [hjk]; exact h0
      · exact hov j (by omega)
set_option maxRecDepth 100000 in
set_option maxHeartbeats 4000000 in
theorem k_ends {q y : XS} {f : Nat → Int32} {B T : Nat} {K : AO → AW → Prop} (I : IV B T (f 0) q) (hT : T + 1000 ≤ 20000) (hK : ∀ q2 f2, IV B (T + 1000) (f2 0) q2 → K (.inl (some (.int 1))) (W2 q2 y f2)) : Snd ML_ends [.ref 0, .ref 168] (W2 q y f) K := by
  have h60 : q.2 6 ≤ 60 := by obtain ⟨t, r, E⟩ := I; exact r.c60
  refine Snd.of (by decide +kernel) (Nat.le_of_ble_eq_true rfl) rfl rfl ?_
  intro X D dA ad C0
  show Gd X _ ML_ends 0 [some (.ref 0), some (.ref 168), none, none, none, none] [] _ 0 0
  refine g_iconst (v := nI 1) C0 dL_ends_0 (by decide +kernel) ?_
  refine g_istore_n C0 dL_ends_1 (by decide) ?_
  refine g_iconst (v := nI 0) C0 dL_ends_2 (by decide +kernel) ?_
  refine g_istore_n C0 dL_ends_3 (by decide) ?_
  refine g_widen (cs2 := 4 * 0) (ss2 := 24 * 0) (by decide) (by decide) ?_
  exact en_1 C0 hT h60 hK (q.2 6) 0 q (by omega) rfl I (fun j hj => absurd hj (Nat.not_lt_zero j))

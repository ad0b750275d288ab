theorem php : ∀ (n : Nat) (f : Nat → Nat), (∀ i, i ≤ n → f i < n) → ∃ i j, i < j ∧ j ≤ n ∧ f i = f j
  | 0, f, h => absurd (h 0 (Nat.le_refl _)) (by omega)
  | n + 1, f, h => by
    by_cases hx : ∃ i, i ≤ n ∧ f i = f (n + 1)
    · obtain ⟨i, h1, h2⟩ := hx
      exact ⟨i, n + 1, by omega, by omega, h2⟩
    · have hne : ∀ i, i ≤ n → f i ≠ f (n + 1) := fun i hi q => hx ⟨i, hi, q⟩
      obtain ⟨i, j, h1, h2, h3⟩ := php n (fun i => if f i = n then f (n + 1) else f i) (fun i hi => by
        have a := h i (by omega)
        have b := h (n + 1) (by omega)
        have c := hne i hi
        show (if f i = n then f (n + 1) else f i) < n
        split <;> omega)
      refine ⟨i, j, h1, by omega, ?_⟩
      have h3 : (if f i = n then f (n + 1) else f i) = if f j = n then f (n + 1) else f j := h3
      have a := hne i (by omega)
      have b := hne j h2
      by_cases c : f i = n <;> by_cases d : f j = n
      · omega
      · rw [if_pos c, if_neg d] at h3; exact absurd h3.symm b
      · rw [if_neg c, if_pos d] at h3; exact absurd h3 a
      · rw [if_neg c, if_neg d] at h3; exact h3
/-- the way's first f+1 carriers are carriers, and apart -/
def DW (q : XS) (f : Nat) : Prop := (∀ i, i ≤ f → vp_in (q.1 23 i) 5) ∧ ∀ i j, i < j → j ≤ f → ¬ q.1 23 i = q.1 23 j
theorem DW_no {q : XS} (h : DW q 5) : False := by
  obtain ⟨i, j, h1, h2, h3⟩ := php 5 (fun i => (q.1 23 i).toNatClampNeg) (fun i hi => by
    obtain ⟨k, hk, e⟩ := vp_in_of (h.1 i hi) (by decide)
    show (q.1 23 i).toNatClampNeg < 5
    rw [e, nI_clamp (by omega)]; exact hk)
  refine h.2 i j h1 h2 ?_
  obtain ⟨a, ha, ea⟩ := vp_in_of (h.1 i (by omega)) (by decide)
  obtain ⟨b, hb, eb⟩ := vp_in_of (h.1 j h2) (by decide)
  have h3 : (q.1 23 i).toNatClampNeg = (q.1 23 j).toNatClampNeg := h3
  rw [ea, eb, nI_clamp (by omega), nI_clamp (by omega)] at h3
  rw [ea, eb, h3]
theorem moF_f {q : XS} {c : Int32} : ∀ {m : Nat}, ¬ moF q c m = true → ∀ i, i < m → ¬ q.1 23 i = c
  | 0, _, i, hi => absurd hi (by omega)
  | m + 1, h, i, hi => by
    rw [moF, Bool.or_eq_true] at h
    by_cases hm : i = m
    · subst hm
      exact fun q => h (Or.inr (decide_eq_true q))
    · exact moF_f (fun z => h (Or.inl z)) i (by omega)
theorem in25 {a b : Int32} (ha : vp_in a 5) (hb : vp_in b 5) : vp_in (5 * a + b) 25 := by
  obtain ⟨i, hi, rfl⟩ := vp_in_of ha (by decide)
  obtain ⟨j, hj, rfl⟩ := vp_in_of hb (by decide)
  rw [i5n]
  exact vp_in_nI (by omega) (by decide)
theorem rem5 {n : Int32} (h : vp_in n 12) : vp_in (n - n / 5 * 5) 5 := by
  obtain ⟨i, hi, rfl⟩ := vp_in_of h (by decide)
  rw [show (5 : Int32) = nI 5 from rfl, pk_rem (by omega) (by decide) (by decide)]
  exact vp_in_nI (Nat.mod_lt _ (by decide)) (by decide)
theorem piF_in {q : XS} {n s : Int32} (hc : ∀ k, vp_in (q.1 13 k) 5) (hn : vp_in n 12) : ∀ k, vp_in (piF q n s k) 5
  | 0 => rem5 hn
  | k + 1 => by
    rw [piF]; split
    · exact hc k
    · exact piF_in hc hn k
theorem mplace_in {q : XS} {n s : Int32} (hc : ∀ k, vp_in (q.1 13 k) 5) (hn : vp_in n 12) : vp_in (mplace q n s) 5 := piF_in hc hn _
theorem bvF_in {q : XS} {c n : Int32} (hc : ∀ k, vp_in (q.1 13 k) 5) (hn : vp_in n 12) : ∀ k, vp_in (bvF q c n k) 5
  | 0 => rem5 hn
  | k + 1 => by
    rw [bvF]; split
    · exact hc k
    · exact bvF_in hc hn k
theorem mbel_in {q : XS} {c n : Int32} (hc : ∀ k, vp_in (q.1 13 k) 5) (hn : vp_in n 12) : vp_in (mbel q c n) 5 := bvF_in hc hn _
theorem mtF_val {q : XS} {c : Nat} {a b : Int32} : ∀ m, mtF q c a b m = -1 ∨ ∃ j, j < m ∧ mtF q c a b m = nI j
  | 0 => Or.inl rfl
  | m + 1 => by
    rw [mtF]; split
    · exact Or.inr ⟨m, by omega, rfl⟩
    · rcases mtF_val m with h | ⟨j, h1, h2⟩
      · exact Or.inl h
      · exact Or.inr ⟨j, by omega, h2⟩
theorem mtakes_val {q : XS} {c m : Nat} {a b : Int32} : mtakes q c a b m = -1 ∨ ∃ j, j < m ∧ mtakes q c a b m = nI j := by
  rw [mtakes]; split
  · exact mtF_val m
  · exact Or.inl rfl
/-! the way -/
abbrev coA (q : XS) : Int32 := mg q 23 (nI (q.2 7))
abbrev coN (q : XS) (b : Int32) : Int32 := mbel q (coA q) b
def coS (q : XS) (x : Int32) : XS := mw (setC q 7 (q.2 7 + 1)) 23 (nI (q.2 7 + 1)) x
def coF (aim b : Int32) (lam : Nat → Nat) : Nat → XS → XS × Int32
  | 0, q => (q, 0)
  | n + 1, q => if coA q = aim then (q, 1) else if moF q (coN q b) (q.2 7 + 1) = true then (q, 0) else if mused q (coA q) (coN q b) lam < mg q 3 (5 * coA q + coN q b) then coF aim b lam n (coS q (coN q b)) else (q, 0)
def mcome0 (q : XS) (a : Int32) : XS := setC (mw q 23 0 (mplace q a 20000)) 7 0
def mcomes (q : XS) (a b : Int32) (lam : Nat → Nat) : XS × Int32 := coF (mplace q b 20000) b lam 5 (mcome0 q a)
theorem DW_step {q : XS} {x : Int32} (h : DW q (q.2 7)) (hf : q.2 7 < 5) (hx : vp_in x 5) (hm : ¬ moF q x (q.2 7 + 1) = true) : DW (coS q x) (q.2 7 + 1) := by
  have hc : (nI (q.2 7 + 1)).toNatClampNeg = q.2 7 + 1 := nI_clamp (by omega)
  have e1 : ∀ i, i ≤ q.2 7 → (coS q x).1 23 i = q.1 23 i := fun i hi => by
    show (if i = (nI (q.2 7 + 1)).toNatClampNeg then x else q.1 23 i) = _
    rw [hc, if_neg (by omega)]
  have e2 : (coS q x).1 23 (q.2 7 + 1) = x := by
    show (if q.2 7 + 1 = (nI (q.2 7 + 1)).toNatClampNeg then x else _) = _
    rw [hc, if_pos rfl]
  refine ⟨fun i hi => ?_, fun i j hij hj => ?_⟩
  · by_cases h1 : i ≤ q.2 7
    · rw [e1 i h1]; exact h.1 i h1
    · rw [show i = q.2 7 + 1 by omega, e2]; exact hx
  · by_cases h1 : j ≤ q.2 7
    · rw [e1 i (by omega), e1 j h1]; exact h.2 i j hij h1
    · rw [show j = q.2 7 + 1 by omega, e2, e1 i (by omega)]
      exact moF_f hm i (by omega)
set_option maxRecDepth 100000 in
set_option maxHeartbeats 4000000 in
theorem ml_comes {K : AO → AW → Prop} {aim a b : Int32} {lam : Nat → Nat} (hb : vp_in b 12) {X : CX} {D : va_G} {dA : Nat → ClassId} {w0 : AW} {ad : Nat → Nat} (C0 : Ok X (D, dA, w0, ad, K) MX10_comes) : ∀ (n9 : Nat) (q : XS) (o4 : Option Value), q.2 7 + n9 = 5 → DW q (q.2 7) → q.2 4 ≤ 60 → q.2 5 ≤ 60 → (∀ k, k < 60 → q.1 19 k = nI (lam k) ∧ lam k ≤ 4) → (∀ k, vp_in (q.1 13 k) 5) → K (.inl (some (.int (coF aim b lam n9 q).2))) (WM (coF aim b lam n9 q).1) → Gd X (D, dA, w0, ad, K) MX10_comes 22 [some (.ref 0), some (.int a), some (.int b), some (.int aim), o4] [] (WM q) 0 0 := by
  intro n9
  induction n9 with
  | zero =>
    intro q o4 hf hd h4 h5 hl hc hK
    exact (DW_no (by rw [show q.2 7 = 5 by omega] at hd; exact hd)).elim
  | succ n9 ih =>
    intro q o4 hf hd h4 h5 hl hc hK
    have f5 : q.2 7 < 5 := by omega
    have iw : vp_in (nI (q.2 7)) 5 := vp_in_nI (by omega) (by decide)
    have cw9 : (nI (q.2 7)).toNatClampNeg = q.2 7 := nI_clamp (by omega)
    have ia : vp_in (coA q) 5 := by show vp_in (q.1 23 (nI (q.2 7)).toNatClampNeg) 5; rw [cw9]; exact hd.1 _ (Nat.le_refl _)
    have ib : vp_in (coN q b) 5 := mbel_in hc hb
    have i25 := in25 ia ib
    refine g_aload_n C0 dX10_comes_22 rfl ?_
    refine g_getfield C0 dX10_comes_23 FX10_80 rfl rfl ?_
    refine g_aload_n C0 dX10_comes_26 rfl ?_
    refine g_getfield C0 dX10_comes_27 FX10_144 rfl rfl ?_
    refine g_iaload C0 dX10_comes_30 rfl (by assumption) ?_
    refine g_iload_n C0 dX10_comes_31 rfl ?_
    refine g_icmp_eq (tgt := 129) C0 dX10_comes_32 (by decide) (fun h32 => ?_) (fun h32 => ?_)
    · refine g_iconst (v := 1) C0 dX10_comes_129 (by decide) ?_
      refine g_zret C0 rfl rfl dX10_comes_130 (by decide) (by decide) ?_
      rw [coF, if_pos h32] at hK
      exact hK
    refine g_aload_n C0 dX10_comes_35 rfl ?_
    refine g_aload_n C0 dX10_comes_36 rfl ?_
    refine g_getfield C0 dX10_comes_37 FX10_80 rfl rfl ?_
    refine g_aload_n C0 dX10_comes_40 rfl ?_
    refine g_getfield C0 dX10_comes_41 FX10_144 rfl rfl ?_
    refine g_iaload C0 dX10_comes_44 rfl (by assumption) ?_
    refine g_iload_n C0 dX10_comes_45 rfl ?_
    refine g_invV2 C0 dX10_comes_46 CX10_147 rfl rfl ⟨by decide, by decide, by decide, by decide⟩ (Nat.le_of_ble_eq_true rfl) ?_
    refine m_bel (by assumption) (by assumption) ?_
    refine Aft_v (WM_len2 _ _) ?_
    refine g_istore C0 dX10_comes_49 (by decide) ?_
    refine g_aload_n C0 dX10_comes_51 rfl ?_
    refine g_iload C0 dX10_comes_52 rfl ?_
    refine g_aload_n C0 dX10_comes_54 rfl ?_
    refine g_getfield C0 dX10_comes_55 FX10_144 rfl rfl ?_
    refine g_iconst (v := 1) C0 dX10_comes_58 (by decide) ?_
    refine g_iadd C0 dX10_comes_59 ?_
    rw [nI_1]
    refine g_invV2 C0 dX10_comes_60 CX10_150 rfl rfl ⟨by decide, by decide, by decide, by decide⟩ (Nat.le_of_ble_eq_true rfl) ?_
    refine m_onway (by omega) ?_
    refine Aft_v (WM_len2 _ _) ?_
    by_cases b60 : moF q (coN q b) (q.2 7 + 1) = true
    · rw [if_pos b60]
      refine g_if_ne (tgt := 103) C0 dX10_comes_63 (by decide) (fun _ => ?_) (fun z => (by revert z; decide +kernel : False).elim)
      refine g_iconst (v := 0) C0 dX10_comes_103 (by decide) ?_
      refine g_zret C0 rfl rfl dX10_comes_104 (by decide) (by decide) ?_
      rw [coF, if_neg h32, if_pos b60] at hK
      exact hK
    rw [if_neg b60]
    refine g_if_ne (tgt := 103) C0 dX10_comes_63 (by decide) (fun z => (by revert z; decide +kernel : False).elim) (fun _ => ?_)
    refine g_aload_n C0 dX10_comes_66 rfl ?_
    refine g_aload_n C0 dX10_comes_67 rfl ?_
    refine g_getfield C0 dX10_comes_68 FX10_80 rfl rfl ?_
    refine g_aload_n C0 dX10_comes_71 rfl ?_
    refine g_getfield C0 dX10_comes_72 FX10_144 rfl rfl ?_
    refine g_iaload C0 dX10_comes_75 rfl (by assumption) ?_
    refine g_iload C0 dX10_comes_76 rfl ?_
    refine g_invV2 C0 dX10_comes_78 CX10_108 rfl rfl ⟨by decide, by decide, by decide, by decide⟩ (Nat.le_of_ble_eq_true rfl) ?_
    refine m_used (by assumption) (fun k hk => hl k (by omega)) ?_
    refine Aft_v (WM_len2 _ _) ?_
    refine g_aload_n C0 dX10_comes_81 rfl ?_
    refine g_getfield C0 dX10_comes_82 FX10_19 rfl rfl ?_
    refine g_iconst (v := 5) C0 dX10_comes_85 (by decide) ?_
    refine g_aload_n C0 dX10_comes_86 rfl ?_
    refine g_getfield C0 dX10_comes_87 FX10_80 rfl rfl ?_
    refine g_aload_n C0 dX10_comes_90 rfl ?_
    refine g_getfield C0 dX10_comes_91 FX10_144 rfl rfl ?_
    refine g_iaload C0 dX10_comes_94 rfl (by assumption) ?_
    refine g_imul C0 dX10_comes_95 ?_
    refine g_iload C0 dX10_comes_96 rfl ?_
    refine g_iadd C0 dX10_comes_98 ?_
    refine g_iaload C0 dX10_comes_99 rfl (by assumption) ?_
    refine g_icmp_lt (tgt := 105) C0 dX10_comes_100 (by decide) (fun h100 => ?_) (fun h100 => ?_)
    · have f4 : q.2 7 + 1 < 5 := by
        rcases Nat.lt_or_ge (q.2 7 + 1) 5 with h | h
        · exact h
        · have h9 := DW_step hd f5 ib b60
          rw [show q.2 7 + 1 = 5 by omega] at h9
          exact (DW_no h9).elim
      have i9 : vp_in (nI (q.2 7 + 1)) 5 := vp_in_nI f4 (by decide)
      refine g_aload_n C0 dX10_comes_105 rfl ?_
      refine g_dup C0 dX10_comes_106 rfl ?_
      refine g_getfield C0 dX10_comes_107 FX10_144 rfl rfl ?_
      refine g_iconst (v := 1) C0 dX10_comes_110 (by decide) ?_
      refine g_iadd C0 dX10_comes_111 ?_
      refine g_putfield C0 dX10_comes_112 FX10_144 rfl (Nat.le_of_ble_eq_true rfl) (fun _ => ⟨rfl, rfl⟩) ?_
      refine g_w (WM_inc7 _) ?_
      refine g_aload_n C0 dX10_comes_115 rfl ?_
      refine g_getfield C0 dX10_comes_116 FX10_80 rfl rfl ?_
      refine g_aload_n C0 dX10_comes_119 rfl ?_
      refine g_getfield C0 dX10_comes_120 FX10_144 rfl rfl ?_
      refine g_iload C0 dX10_comes_123 rfl ?_
      refine g_iastore C0 dX10_comes_125 rfl (by assumption) ?_
      refine g_w (WM_set _ 23 (by decide) _) ?_
      refine g_goto (tgt := 22) C0 dX10_comes_126 (by decide) ?_
      rw [coF, if_neg h32, if_neg b60, if_pos h100] at hK
      exact ih (coS q (coN q b)) _ (by show q.2 7 + 1 + n9 = 5; omega) (DW_step hd f5 ib b60) h4 h5 hl hc hK
    refine g_iconst (v := 0) C0 dX10_comes_103 (by decide) ?_
    refine g_zret C0 rfl rfl dX10_comes_104 (by decide) (by decide) ?_
    rw [coF, if_neg h32, if_neg b60, if_neg h100] at hK
    exact hK
set_option maxRecDepth 100000 in
set_option maxHeartbeats 4000000 in
theorem m_comes {q : XS} {K : AO → AW → Prop} {a b : Int32} (ha : vp_in a 12) (hb : vp_in b 12) (h4 : q.2 4 ≤ 60) (h5 : q.2 5 ≤ 60) {lam : Nat → Nat} (hl : ∀ k, k < 60 → q.1 19 k = nI (lam k) ∧ lam k ≤ 4) (hc : ∀ k, vp_in (q.1 13 k) 5) (hK : K (.inl (some (.int (mcomes q a b lam).2))) (WM (mcomes q a b lam).1)) : Snd MX10_comes [.ref 0, .int a, .int b] (WM q) K := by
  refine Snd.of (by decide +kernel) (Nat.le_of_ble_eq_true rfl) rfl rfl ?_
  intro X D dA ad C0
  show Gd X _ MX10_comes 0 [some (.ref 0), some (.int a), some (.int b), none, none] [] _ 0 0
  refine g_aload_n C0 dX10_comes_0 rfl ?_
  refine g_iload_n C0 dX10_comes_1 rfl ?_
  refine g_invV1 C0 dX10_comes_2 CX10_131 rfl rfl ⟨by decide, by decide, by decide, by decide⟩ (Nat.le_of_ble_eq_true rfl) ?_
  refine m_placeOf (by assumption) ?_
  refine Aft_v (WM_len2 _ _) ?_
  refine g_istore_n C0 dX10_comes_5 (by decide) ?_
  refine g_aload_n C0 dX10_comes_6 rfl ?_
  refine g_getfield C0 dX10_comes_7 FX10_80 rfl rfl ?_
  refine g_iconst (v := 0) C0 dX10_comes_10 (by decide) ?_
  refine g_aload_n C0 dX10_comes_11 rfl ?_
  refine g_iload_n C0 dX10_comes_12 rfl ?_
  refine g_invV1 C0 dX10_comes_13 CX10_131 rfl rfl ⟨by decide, by decide, by decide, by decide⟩ (Nat.le_of_ble_eq_true rfl) ?_
  refine m_placeOf (by assumption) ?_
  refine Aft_v (WM_len2 _ _) ?_
  refine g_iastore C0 dX10_comes_16 rfl (vp_in_nI (n := 0) (by decide) (by decide)) ?_
  refine g_w (WM_set _ 23 (by decide) _) ?_
  refine g_aload_n C0 dX10_comes_17 rfl ?_
  refine g_iconst (v := 0) C0 dX10_comes_18 (by decide) ?_
  refine g_putfield C0 dX10_comes_19 FX10_144 rfl (Nat.le_of_ble_eq_true rfl) (fun _ => ⟨rfl, rfl⟩) ?_
  refine g_w (WM_put7 _ 0) ?_
  exact ml_comes hb C0 5 (mcome0 q a) _ rfl ⟨fun i hi => by
    have h0 : i = 0 := Nat.le_zero.mp hi
    subst h0
    exact mplace_in hc ha, fun i j hij hj => by
    have h0 : j = 0 := Nat.le_zero.mp hj
    omega⟩ h4 h5 hl hc hK
set_option maxRecDepth 100000 in
set_option maxHeartbeats 4000000 in
theorem m_noN {q : XS} {K : AO → AW → Prop} {n : Int32} (hK : K (.inl (some (.int (if noN n then 1 else 0)))) (WM (setC q 0 (if noN n then 1 else 0)))) : Snd MX10_noNumber [.ref 0, .int n] (WM q) K := by
  refine Snd.of (by decide +kernel) (Nat.le_of_ble_eq_true rfl) rfl rfl ?_
  intro X D dA ad C0
  show Gd X _ MX10_noNumber 0 [some (.ref 0), some (.int n)] [] _ 0 0
  refine g_aload_n C0 dX10_noNumber_0 rfl ?_
  refine g_iload_n C0 dX10_noNumber_1 rfl ?_
  refine g_invS1 C0 dX10_noNumber_2 CX10_128 rfl ⟨by decide, by decide, by decide, by decide⟩ (Nat.le_of_ble_eq_true rfl) ?_
  refine m_isN ?_
  refine Aft_v (WM_len2 _ _) ?_
  by_cases b2 : noN n
  · rw [if_pos b2]
    refine g_if_eq (tgt := 12) C0 dX10_noNumber_5 (by decide) (fun _ => ?_) (fun z => (by revert z; decide +kernel : False).elim)
    refine g_iconst (v := 1) C0 dX10_noNumber_12 (by decide) ?_
    refine g_invV1 C0 dX10_noNumber_13 CX10_101 rfl rfl ⟨by decide, by decide, by decide, by decide⟩ (Nat.le_of_ble_eq_true rfl) ?_
    refine m_refused (n := 1) (by decide) ?_
    refine Aft_v (WM_len2 _ _) ?_
    rw [if_neg (by decide)]
    refine g_zret C0 rfl rfl dX10_noNumber_16 (by decide) (by decide) ?_
    simp only [if_pos b2] at hK
    exact hK
  rw [if_neg b2]
  refine g_if_eq (tgt := 12) C0 dX10_noNumber_5 (by decide) (fun z => (by revert z; decide +kernel : False).elim) (fun _ => ?_)
  refine g_iconst (v := 0) C0 dX10_noNumber_8 (by decide) ?_
  refine g_goto (tgt := 13) C0 dX10_noNumber_9 (by decide) ?_
  refine g_invV1 C0 dX10_noNumber_13 CX10_101 rfl rfl ⟨by decide, by decide, by decide, by decide⟩ (Nat.le_of_ble_eq_true rfl) ?_
  refine m_refused (n := 0) (by decide) ?_
  refine Aft_v (WM_len2 _ _) ?_
  rw [if_pos rfl]
  refine g_zret C0 rfl rfl dX10_noNumber_16 (by decide) (by decide) ?_
  simp only [if_neg b2] at hK
  exact hK
set_option maxRecDepth 100000 in
set_option maxHeartbeats 4000000 in
theorem m_noC {q : XS} {K : AO → AW → Prop} {n : Int32} (hK : K (.inl (some (.int (if noC n then 1 else 0)))) (WM (setC q 0 (if noC n then 1 else 0)))) : Snd MX10_noCarrier [.ref 0, .int n] (WM q) K := by
  refine Snd.of (by decide +kernel) (Nat.le_of_ble_eq_true rfl) rfl rfl ?_
  intro X D dA ad C0
  show Gd X _ MX10_noCarrier 0 [some (.ref 0), some (.int n)] [] _ 0 0
  refine g_aload_n C0 dX10_noCarrier_0 rfl ?_
  refine g_iload_n C0 dX10_noCarrier_1 rfl ?_
  refine g_invS1 C0 dX10_noCarrier_2 CX10_94 rfl ⟨by decide, by decide, by decide, by decide⟩ (Nat.le_of_ble_eq_true rfl) ?_
  refine m_isC ?_
  refine Aft_v (WM_len2 _ _) ?_
  by_cases b2 : noC n
  · rw [if_pos b2]
    refine g_if_eq (tgt := 12) C0 dX10_noCarrier_5 (by decide) (fun _ => ?_) (fun z => (by revert z; decide +kernel : False).elim)
    refine g_iconst (v := 1) C0 dX10_noCarrier_12 (by decide) ?_
    refine g_invV1 C0 dX10_noCarrier_13 CX10_101 rfl rfl ⟨by decide, by decide, by decide, by decide⟩ (Nat.le_of_ble_eq_true rfl) ?_
    refine m_refused (n := 1) (by decide) ?_
    refine Aft_v (WM_len2 _ _) ?_
    rw [if_neg (by decide)]
    refine g_zret C0 rfl rfl dX10_noCarrier_16 (by decide) (by decide) ?_
    simp only [if_pos b2] at hK
    exact hK
  rw [if_neg b2]
  refine g_if_eq (tgt := 12) C0 dX10_noCarrier_5 (by decide) (fun z => (by revert z; decide +kernel : False).elim) (fun _ => ?_)
  refine g_iconst (v := 0) C0 dX10_noCarrier_8 (by decide) ?_
  refine g_goto (tgt := 13) C0 dX10_noCarrier_9 (by decide) ?_
  refine g_invV1 C0 dX10_noCarrier_13 CX10_101 rfl rfl ⟨by decide, by decide, by decide, by decide⟩ (Nat.le_of_ble_eq_true rfl) ?_
  refine m_refused (n := 0) (by decide) ?_
  refine Aft_v (WM_len2 _ _) ?_
  rw [if_pos rfl]
  refine g_zret C0 rfl rfl dX10_noCarrier_16 (by decide) (by decide) ?_
  simp only [if_neg b2] at hK
  exact hK
set_option maxRecDepth 100000 in
set_option maxHeartbeats 4000000 in
theorem m_noL {q : XS} {K : AO → AW → Prop} {n : Int32} (h5 : q.2 5 < 100000) (hK : K (.inl (some (.int (if noL (q.2 5) n then 1 else 0)))) (WM (setC q 0 (if noL (q.2 5) n then 1 else 0)))) : Snd MX10_noCall [.ref 0, .int n] (WM q) K := by
  refine Snd.of (by decide +kernel) (Nat.le_of_ble_eq_true rfl) rfl rfl ?_
  intro X D dA ad C0
  show Gd X _ MX10_noCall 0 [some (.ref 0), some (.int n)] [] _ 0 0
  refine g_aload_n C0 dX10_noCall_0 rfl ?_
  refine g_aload_n C0 dX10_noCall_1 rfl ?_
  refine g_iload_n C0 dX10_noCall_2 rfl ?_
  refine g_invV1 C0 dX10_noCall_3 CX10_160 rfl rfl ⟨by decide, by decide, by decide, by decide⟩ (Nat.le_of_ble_eq_true rfl) ?_
  refine m_isL h5 ?_
  refine Aft_v (WM_len2 _ _) ?_
  by_cases b3 : noL (q.2 5) n
  · rw [if_pos b3]
    refine g_if_eq (tgt := 13) C0 dX10_noCall_6 (by decide) (fun _ => ?_) (fun z => (by revert z; decide +kernel : False).elim)
    refine g_iconst (v := 1) C0 dX10_noCall_13 (by decide) ?_
    refine g_invV1 C0 dX10_noCall_14 CX10_101 rfl rfl ⟨by decide, by decide, by decide, by decide⟩ (Nat.le_of_ble_eq_true rfl) ?_
    refine m_refused (n := 1) (by decide) ?_
    refine Aft_v (WM_len2 _ _) ?_
    rw [if_neg (by decide)]
    refine g_zret C0 rfl rfl dX10_noCall_17 (by decide) (by decide) ?_
    simp only [if_pos b3] at hK
    exact hK
  rw [if_neg b3]
  refine g_if_eq (tgt := 13) C0 dX10_noCall_6 (by decide) (fun z => (by revert z; decide +kernel : False).elim) (fun _ => ?_)
  refine g_iconst (v := 0) C0 dX10_noCall_9 (by decide) ?_
  refine g_goto (tgt := 14) C0 dX10_noCall_10 (by decide) ?_
  refine g_invV1 C0 dX10_noCall_14 CX10_101 rfl rfl ⟨by decide, by decide, by decide, by decide⟩ (Nat.le_of_ble_eq_true rfl) ?_
  refine m_refused (n := 0) (by decide) ?_
  refine Aft_v (WM_len2 _ _) ?_
  rw [if_pos rfl]
  refine g_zret C0 rfl rfl dX10_noCall_17 (by decide) (by decide) ?_
  simp only [if_neg b3] at hK
  exact hK

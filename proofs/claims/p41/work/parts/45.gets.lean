/-! ===== what there is: the class answers as the reference ===== -/
theorem rl_12 : rl 12 = 25 := rfl
theorem RX.c60 {x t : XS} (h : RX x t) : x.2 6 ≤ 60 := h.tm.1
theorem RX.n20 {x t : XS} (h : RX x t) : x.2 0 ≤ 20000 := h.ha.h0.top
theorem RX.p60 {x t : XS} (h : RX x t) : x.2 2 ≤ 60 := h.ha.h0.cnt
theorem RX.s60 {x t : XS} (h : RX x t) : x.2 3 ≤ 60 := h.ha.h1.cnt
theorem RX.d60 {x t : XS} (h : RX x t) : x.2 4 ≤ 60 := h.ha.h2.cnt
theorem s_ofN {x t : XS} (h : RX x t) {k j : Nat} (hk : rl k = 12) (e : ∀ n, n < 12 → x.1 k n = t.1 j n) (n : Int32) : Same (ka 1 0 0) (xOfN x k n) (mOfN t j n) := by
  unfold xOfN mOfN
  by_cases hn : noN n
  · rw [if_pos hn, if_pos hn]; exact Same.no h (by decide) rfl (by decide) (by decide)
  · rw [if_neg hn, if_neg hn]
    obtain ⟨m, hm, rfl⟩ := nN hn
    exact Same.yes (h.z0 0) rfl (by rw [xg_n (by omega), mg_n (by omega)]; exact e m hm)
theorem s_ofC {x t : XS} (h : RX x t) {k j : Nat} (hk : rl k = 5) (e : ∀ n, n < 5 → x.1 k n = t.1 j n) (n : Int32) : Same (ka 1 0 0) (xOfC x k n) (mOfC t j n) := by
  unfold xOfC mOfC
  by_cases hn : noC n
  · rw [if_pos hn, if_pos hn]; exact Same.no h (by decide) rfl (by decide) (by decide)
  · rw [if_neg hn, if_neg hn]
    obtain ⟨m, hm, rfl⟩ := nC hn
    exact Same.yes (h.z0 0) rfl (by rw [xg_n (by omega), mg_n (by omega)]; exact e m hm)
theorem noK_L {x t : XS} (h : RX x t) (c : Int32) : noK x c ↔ noL (t.2 5) c := by rw [← h.cC]
theorem nK {x t : XS} (h : RX x t) {c : Int32} (hc : ¬ noL (t.2 5) c) : ∃ k, k < x.2 6 ∧ c = nI k := by
  have := h.c60
  rw [← h.cC] at hc
  exact vp_in_of (in_of (by omega) hc) (by omega)
theorem s_ofK {x t : XS} (h : RX x t) {k j : Nat} (hk : rl k = 60) (e : ∀ n, n < x.2 6 → x.1 k n = t.1 j n) (n : Int32) : Same (ka 1 0 0) (xOfK x k n) (mOfL t j n) := by
  unfold xOfK mOfL
  by_cases hn : noL (t.2 5) n
  · rw [if_pos ((noK_L h n).mpr hn), if_pos hn]; exact Same.no h (by decide) rfl (by decide) (by decide)
  · rw [if_neg (fun z => hn ((noK_L h n).mp z)), if_neg hn]
    obtain ⟨m, hm, rfl⟩ := nK h hn
    have := h.c60
    exact Same.yes (h.z0 0) rfl (by rw [xg_n (by omega), mg_n (by omega)]; exact e m hm)
theorem s_ownerOf {x t : XS} (h : RX x t) (n : Int32) : Same (ka 1 0 0) (xOfN x 1 n) (mOfN t 8 n) := s_ofN h rfl h.rO n
theorem s_debt {x t : XS} (h : RX x t) (n : Int32) : Same (ka 1 0 0) (xOfN x 2 n) (mOfN t 9 n) := s_ofN h rfl h.rD n
theorem s_bondOf {x t : XS} (h : RX x t) (n : Int32) : Same (ka 1 0 0) (xOfN x 4 n) (mOfN t 10 n) := s_ofN h rfl h.rB n
theorem s_coins {x t : XS} (h : RX x t) (n : Int32) : Same (ka 1 0 0) (xOfC x 8 n) (mOfC t 4 n) := s_ofC h rfl h.rP n
theorem s_earned {x t : XS} (h : RX x t) (n : Int32) : Same (ka 1 0 0) (xOfC x 9 n) (mOfC t 5 n) := s_ofC h rfl h.rA n
theorem s_losses {x t : XS} (h : RX x t) (n : Int32) : Same (ka 1 0 0) (xOfC x 10 n) (mOfC t 6 n) := s_ofC h rfl h.rL n
theorem s_state {x t : XS} (h : RX x t) (n : Int32) : Same (ka 1 0 0) (xOfK x 31 n) (mOfL t 18 n) := s_ofK h rfl (fun k hk => h.r31 k (by have := h.c60; omega)) n
theorem s_charged {x t : XS} (h : RX x t) (n : Int32) : Same (ka 1 0 0) (xOfK x 32 n) (mOfL t 22 n) := s_ofK h rfl (fun k hk => h.r32 k (by have := h.c60; omega)) n
theorem s_spent {x t : XS} (h : RX x t) (n : Int32) : Same (ka 1 0 0) (xSpent x n) (mSpent t n) := by
  unfold xSpent mSpent
  by_cases hn : noP n
  · rw [if_pos hn, if_pos hn]; exact Same.no h (by decide) rfl (by decide) (by decide)
  · rw [if_neg hn, if_neg hn]
    obtain ⟨m, hm, rfl⟩ := nP hn
    exact Same.yes (h.z0 0) rfl (by rw [xg_n (show m < 6 from hm), mg_n (by omega)]; exact h.rS m hm)
theorem s_debtAnew {x t : XS} (h : RX x t) (n : Int32) : Same (ka 1 0 0) (xDebtAnew x n) (mOfN t 9 n) := by
  unfold xDebtAnew mOfN
  by_cases hn : noN n
  · rw [if_pos hn, if_pos hn]; exact Same.no h (by decide) rfl (by decide) (by decide)
  · rw [if_neg hn, if_neg hn]
    obtain ⟨m, hm, rfl⟩ := nN hn
    refine Same.yes (h.z0 0) rfl ?_
    rw [xg_n (show m < 12 from hm), mg_n (by omega), daF_n h.ha h.tm _ _ (Nat.le_refl _)]
    exact (h.bk.db m hm).symm.trans (h.rD m hm)
theorem s_earnedAnew {x t : XS} (h : RX x t) (n : Int32) : Same (ka 1 0 0) (xEarnedAnew x n) (mOfC t 5 n) := by
  unfold xEarnedAnew mOfC
  by_cases hn : noC n
  · rw [if_pos hn, if_pos hn]; exact Same.no h (by decide) rfl (by decide) (by decide)
  · rw [if_neg hn, if_neg hn]
    obtain ⟨m, hm, rfl⟩ := nC hn
    refine Same.yes (h.z0 0) rfl ?_
    rw [mg_n (by omega), eaF_n h.ha h.tm _ _ (Nat.le_refl _)]
    exact (h.bk.ea m hm).symm.trans (h.rA m hm)
theorem s_spentAnew {x t : XS} (h : RX x t) (n : Int32) : Same (ka 1 0 0) (xSpentAnew x n) (mSpent t n) := by
  unfold xSpentAnew mSpent
  by_cases hn : noP n
  · rw [if_pos hn, if_pos hn]; exact Same.no h (by decide) rfl (by decide) (by decide)
  · rw [if_neg hn, if_neg hn]
    obtain ⟨m, hm, rfl⟩ := nP hn
    refine Same.yes (h.z0 0) rfl ?_
    rw [mg_n (by omega), saF_n h.ha h.tm _ _ (Nat.le_refl _)]
    exact (h.bk.sp m hm).symm.trans (h.rS m hm)
theorem s_chargedAnew {x t : XS} (h : RX x t) (n : Int32) : Same (ka 1 0 0) (xChargedAnew x n) (mOfL t 22 n) := by
  unfold xChargedAnew mOfL
  by_cases hn : noL (t.2 5) n
  · rw [if_pos ((noK_L h n).mpr hn), if_pos hn]; exact Same.no h (by decide) rfl (by decide) (by decide)
  · rw [if_neg (fun z => hn ((noK_L h n).mp z)), if_neg hn]
    obtain ⟨m, hm, rfl⟩ := nK h hn
    have := h.c60
    refine Same.yes (h.z0 0) rfl ?_
    rw [mg_n (by omega), xanew_AN h.ha h.tm hm]
    exact (h.bk.ch m hm).symm.trans (h.r32 m (by omega))
theorem lasted_n {x t : XS} (h : RX x t) {k : Nat} (hk : k < x.2 6) : clasted x (nI k) (nI (x.2 0)) = t.1 21 k := by
  have := h.c60
  obtain ⟨t1, -, t3, -⟩ := h.tm.2 k hk
  unfold clasted
  rw [cend_n h.tm hk, xg_n (show k < 60 by omega), t1, pk_sub t3, h.rT k hk]
theorem s_seconds {x t : XS} (h : RX x t) (n : Int32) : Same (ka 1 0 0) (xSeconds x n) (mOfL t 21 n) := by
  unfold xSeconds mOfL
  by_cases hn : noL (t.2 5) n
  · rw [if_pos ((noK_L h n).mpr hn), if_pos hn]; exact Same.no h (by decide) rfl (by decide) (by decide)
  · rw [if_neg (fun z => hn ((noK_L h n).mp z)), if_neg hn]
    obtain ⟨m, hm, rfl⟩ := nK h hn
    have := h.c60
    exact Same.yes (h.z0 0) rfl (by rw [mg_n (by omega)]; exact lasted_n h hm)
theorem s_trunks {x t : XS} (h : RX x t) (n : Int32) : Same (ka 1 0 0) (xTrunks x n) (mOfL t 19 n) := by
  unfold xTrunks mOfL
  by_cases hn : noL (t.2 5) n
  · rw [if_pos ((noK_L h n).mpr hn), if_pos hn]; exact Same.no h (by decide) rfl (by decide) (by decide)
  · rw [if_neg (fun z => hn ((noK_L h n).mp z)), if_neg hn]
    obtain ⟨m, hm, rfl⟩ := nK h hn
    have := h.c60
    refine Same.yes (h.z0 0) rfl ?_
    rw [mg_n (by omega), xg_n (show m < 60 by omega), h.r33 m hm]
    grind
theorem len_n {x t : XS} (h : RX x t) {k : Nat} (hk : k < x.2 6) : xg x 33 (nI k) = nI (lm t k + 1) := by
  have := h.c60
  rw [xg_n (show k < 60 by omega), h.r33 k hk, (h.g19 k).1, nI_1]
theorem stop_n {x t : XS} (h : RX x t) {k i : Nat} (hk : k < 60) (hi : i < 5) : cstop x (nI k) (nI i) = t.1 20 (5 * k + i) := by
  unfold cstop
  rw [show (5 : Int32) = nI 5 from rfl, pk_mul, nI_add, xg_n (show k * 5 + i < 300 by omega), show k * 5 + i = 5 * k + i by omega]
  exact h.r34 _ (by omega)
theorem s_carrierAt {x t : XS} (h : RX x t) (n p : Int32) : Same (ka 1 0 0) (xCarrierAt x n p) (mCarrierAt t n p) := by
  unfold xCarrierAt mCarrierAt
  by_cases hn : noL (t.2 5) n
  · rw [if_pos ((noK_L h n).mpr hn), if_pos hn]; exact Same.no h (by decide) rfl (by decide) (by decide)
  · rw [if_neg (fun z => hn ((noK_L h n).mp z)), if_neg hn]
    obtain ⟨m, hm, rfl⟩ := nK h hn
    have h6 := h.c60
    have g := h.g19 m
    have hlm : lm t m ≤ 4 := g.2
    rw [len_n h hm, mg_n (by omega), g.1]
    by_cases hp : noW p 0 (nI (lm t m))
    · have hp' : noW p 0 (nI ((t.1 19 m).toNatClampNeg)) := hp
      rw [if_pos hp']
      rcases hp with h1 | h1
      · rw [if_pos h1]; exact Same.no h (by decide) rfl (by decide) (by decide)
      · by_cases h2 : p < 0
        · rw [if_pos h2]; exact Same.no h (by decide) rfl (by decide) (by decide)
        · rw [if_neg h2]
          obtain ⟨j, hj, rfl⟩ := nI_of h2
          rw [nI_ltI (by omega) hj] at h1
          rw [if_neg (nI_nlt (by omega) hj)]
          exact Same.no h (by decide) rfl (by decide) (by decide)
    · have hp' : ¬ noW p 0 (nI ((t.1 19 m).toNatClampNeg)) := hp
      rw [if_neg hp']
      obtain ⟨j, -, hj, rfl⟩ := nW (a := 0) (b := lm t m) (by omega) (by decide) hp
      rw [if_neg (nI_pos (by omega)), if_pos (nI_lt (by omega) (by omega))]
      refine Same.yes (h.z0 0) rfl ?_
      rw [stop_n h (by omega) (by omega), i5n, mg_n (by omega)]
theorem s_second {x t : XS} (h : RX x t) : Same (ka 0 0 0) (xSecond x) (mSecond t) := Same.yes (h.z0 0) rfl (congrArg nI h.cN)
theorem s_calls {x t : XS} (h : RX x t) : Same (ka 0 0 0) (xCalls x) (mCalls t) := Same.yes (h.z0 0) rfl (congrArg nI h.cC)
theorem s_lost {x t : XS} (h : RX x t) : Same (ka 0 0 0) (xLost x) (mLost t) := Same.yes (h.z0 0) rfl (congrArg nI h.cL)
theorem dear_m {s : Nat} (hs : s < 2 ^ 30) : noW (nI s / 60 - nI s / 60 / 24 * 24) 8 19 ↔ ¬ dearN s := by
  have e2 : nI s / 60 = nI (s / 60) := pk_div (d := 60) (by omega) (by decide) (by decide)
  have e1 : nI (s / 60) - nI (s / 60) / 24 * 24 = nI (s / 60 % 24) := pk_rem (d := 24) (by omega) (by decide) (by decide)
  rw [e2, e1]
  have a1 : nI (s / 60 % 24) < 8 ↔ s / 60 % 24 < 8 := nI_ltI (b := 8) (by omega) (by decide)
  have a2 : 19 < nI (s / 60 % 24) ↔ 19 < s / 60 % 24 := nI_ltI (a := 19) (by decide) (by omega)
  unfold noW dearN
  rw [a1, a2]
  omega
theorem s_isDear {x t : XS} (h : RX x t) : Same (ka 0 0 0) (xIsDear x) (mIsDear t) := by
  have h20 := h.n20
  have e1 : nI (x.2 0) - nI (x.2 0) / 1440 * 1440 = nI (x.2 0 % 1440) := pk_rem (d := 1440) (by omega) (by decide) (by decide)
  have a1 : nI (x.2 0 % 1440) < 480 ↔ x.2 0 % 1440 < 480 := nI_ltI (b := 480) (by omega) (by decide)
  have a2 : 1200 ≤ nI (x.2 0 % 1440) ↔ 1200 ≤ x.2 0 % 1440 := nI_leI (a := 1200) (by decide) (by omega)
  have e2 := dear_m (s := x.2 0) (by omega)
  unfold xIsDear mIsDear
  rw [e1, ← h.cN]
  by_cases hd : dearN (x.2 0)
  · have hd2 := hd
    unfold dearN at hd2
    rw [if_neg (fun z => absurd (a1.mp z) (by omega)), if_neg (fun z => absurd (a2.mp z) (by omega)), if_neg (fun z => e2.mp z hd)]
    exact Same.yes (h.z0 0) rfl rfl
  · have hd2 := hd
    unfold dearN at hd2
    rw [if_pos (e2.mpr hd)]
    by_cases h1 : x.2 0 % 1440 < 480
    · rw [if_pos (a1.mpr h1)]; exact Same.yes (h.z0 0) rfl rfl
    · rw [if_neg (fun z => h1 (a1.mp z)), if_pos (a2.mpr (by omega))]; exact Same.yes (h.z0 0) rfl rfl
theorem s_isBarred {x t : XS} (h : RX x t) (n : Int32) : Same (ka 1 0 0) (xIsBarred x n) (mIsBarred t n) := by
  unfold xIsBarred mIsBarred
  by_cases hn : noN n
  · rw [if_pos hn, if_pos hn]; exact Same.no h (by decide) rfl (by decide) (by decide)
  · rw [if_neg hn, if_neg hn]
    obtain ⟨m, hm, rfl⟩ := nN hn
    rw [xg_n (show m < 12 from hm), mg_n (by omega), h.rY m hm]
    by_cases h0 : t.1 11 m = 0
    · rw [if_pos h0, if_pos h0]; exact Same.yes (h.z0 0) rfl rfl
    · rw [if_neg h0, if_neg h0]; exact Same.yes (h.z0 0) rfl rfl
theorem placeAt_t {x t : XS} (h : RX x t) (n s : Int32) : placeAt x n s = mplace t n s := by
  have hp := h.p60
  unfold placeAt mplace
  rw [hval_last (by decide) hp, piF_last, ← h.cP]
  exact lastV_congr _ (fun i hi => by
    have hi2 : i < x.2 2 := hi
    exact ⟨h.r14 i (by omega), h.r15 i (by omega), h.r16 i (by omega)⟩)
theorem placeAt_C {x t : XS} (h : RX x t) {n : Nat} (hn : n < 12) : placeAt x (nI n) (nI (x.2 0)) = x.1 0 n := by
  unfold placeAt
  rw [hval_last (by decide) h.p60]
  exact (h.rC n hn).symm
theorem place_late {x t : XS} (h : RX x t) {n s : Nat} (hn : n < 12) (h1 : x.2 0 ≤ s) (h2 : s ≤ 20000) : placeAt x (nI n) (nI s) = x.1 0 n := by
  rw [← placeAt_C h hn]
  exact hval_same h.ha.h0 h1 h2 (fun i hi _ => Or.inl (h.ha.h0.lo i hi).2)
theorem mplace_n {x t : XS} (h : RX x t) {n : Nat} (hn : n < 12) : mplace t (nI n) 20000 = x.1 0 n := by
  rw [← placeAt_t h]
  exact place_late h hn h.n20 (s := 20000) (by decide)
theorem x0_in {x t : XS} (h : RX x t) {n : Nat} (hn : n < 12) : ∃ c, c < 5 ∧ x.1 0 n = nI c := by
  rw [← mplace_n h hn]
  exact vp_in_of (mplace_in h.g13 (vp_in_nI hn (by decide))) (by decide)
theorem s_carrierOf {x t : XS} (h : RX x t) (n : Int32) : Same (ka 1 0 0) (xOfN x 0 n) (mCarrierOf t n) := by
  unfold xOfN mCarrierOf
  by_cases hn : noN n
  · rw [if_pos hn, if_pos hn]; exact Same.no h (by decide) rfl (by decide) (by decide)
  · rw [if_neg hn, if_neg hn]
    obtain ⟨m, hm, rfl⟩ := nN hn
    exact Same.yes (h.z0 0) rfl (by rw [xg_n (show m < 12 from hm), mplace_n (h.z0 0) hm])
theorem s_carrierThen {x t : XS} (h : RX x t) (n s : Int32) : Same (ka 1 2 0) (xCarrierThen x n s) (mCarrierThen t n s) := by
  unfold xCarrierThen mCarrierThen
  rw [← h.cN]
  by_cases hn : noN n
  · rw [if_pos hn, if_pos hn]; exact Same.no h (by decide) rfl (by decide) (by decide)
  · rw [if_neg hn, if_neg hn]
    by_cases hs : noW s 0 (nI (x.2 0))
    · rw [if_pos hs, if_pos hs]; exact Same.no h (by decide) rfl (by decide) (by decide)
    · rw [if_neg hs, if_neg hs]
      exact Same.yes (h.z0 0) rfl (placeAt_t (h.z0 0) n s)
theorem s_callOf {x t : XS} (h : RX x t) (n : Int32) : Same (ka 1 0 0) (xOfN x 6 n) (mCallOf t n) := by
  unfold xOfN mCallOf
  by_cases hn : noN n
  · rw [if_pos hn, if_pos hn]; exact Same.no h (by decide) rfl (by decide) (by decide)
  · rw [if_neg hn, if_neg hn]
    obtain ⟨m, hm, rfl⟩ := nN hn
    refine Same.yes (h.z0 0) rfl ?_
    rw [xg_n (show m < 12 from hm)]
    exact (h.rW m hm).trans (mcF_r (t := Jvm.Pilot.@@N@@.z0 t) _).symm
theorem pkF_n {x t : XS} (h : RX x t) {c : Nat} (hc : c < 5) (n : Int32) : ∀ k, k ≤ 60 → pkF x (nI c) n (nI (x.2 0)) k = bvF t (nI c) n k
  | 0, _ => rfl
  | k + 1, hk => by
    have e1 : xg x 17 (nI k * 5 + nI c) = mg t 15 (5 * nI k + nI c) := by
      rw [show nI k * 5 = nI (k * 5) from pk_mul k 5, nI_add, i5n, xg_n (show k * 5 + c < 300 by omega), mg_n (by omega), show k * 5 + c = 5 * k + c by omega]
      exact h.r17 _ (by omega)
    rw [pkF, bvF, pkF_n h hc n k (by omega), e1, xg_n (show k < 60 by omega), xg_n (show k < 60 by omega), h.r14 k (by omega), h.r16 k (by omega), ← h.cN]
    by_cases h1 : t.1 12 k = n <;> by_cases h2 : mg t 15 (5 * nI k + nI c) ≤ nI (x.2 0)
    · rw [if_pos ⟨h2, h1⟩, if_pos ⟨h1, h2⟩]
    · rw [if_neg (fun z => h2 z.1), if_neg (fun z => h2 z.2)]
    · rw [if_neg (fun z => h1 z.2), if_neg (fun z => h1 z.1)]
    · rw [if_neg (fun z => h1 z.2), if_neg (fun z => h1 z.1)]
theorem known_n {x t : XS} (h : RX x t) {c : Nat} (hc : c < 5) (n : Int32) : known x (nI c) n (nI (x.2 0)) = mbel t (nI c) n := by
  unfold known mbel
  rw [pkF_n h hc n _ h.p60, h.cP]
theorem s_believed {x t : XS} (h : RX x t) (c n : Int32) : Same (ka 1 0 0) (xBelieved x c n) (mBelieved t c n) := by
  unfold xBelieved mBelieved
  by_cases hc : noC c
  · rw [if_pos hc, if_pos hc]; exact Same.no h (by decide) rfl (by decide) (by decide)
  · rw [if_neg hc, if_neg hc]
    by_cases hn : noN n
    · rw [if_pos hn, if_pos hn]; exact Same.no h (by decide) rfl (by decide) (by decide)
    · rw [if_neg hn, if_neg hn]
      obtain ⟨k, hk, rfl⟩ := nC hc
      exact Same.yes (h.z0 0) rfl (known_n (h.z0 0) hk n)
/-! lines -/
theorem pc_0 {w : Nat → Int32} {c : Nat} {a b : Int32} : ∀ {m : Nat}, pcR w c a b m = 0 → ∀ i, i < m → ¬ tkR w c a b i
  | 0, _, i, hi => absurd hi (by omega)
  | m + 1, h, i, hi => by
    rw [pcR] at h
    by_cases hm : i = m
    · subst hm
      intro z
      rw [if_pos z] at h
      omega
    · exact pc_0 (m := m) (by omega) i (by omega)
theorem pc_z {w : Nat → Int32} {c : Nat} {a b : Int32} : ∀ {m : Nat}, (∀ i, i < m → ¬ tkR w c a b i) → pcR w c a b m = 0
  | 0, _ => rfl
  | m + 1, h => by rw [pcR, if_neg (h m (by omega)), pc_z (fun i hi => h i (by omega))]
theorem pc_1 {w : Nat → Int32} {c : Nat} {a b : Int32} : ∀ {m : Nat}, (∀ i j, i < j → j ≤ m → ¬ w (5 * c + i) = w (5 * c + j)) → pcR w c a b m ≤ 1
  | 0, _ => Nat.zero_le _
  | m + 1, h => by
    rw [pcR]
    by_cases hm : tkR w c a b m
    · rw [if_pos hm, pc_z (fun i hi hz => ?_)]
      · exact Nat.le_refl _
      · have d1 := h i m hi (by omega)
        have d2 := h i (m + 1) (by omega) (by omega)
        have d3 := h (i + 1) (m + 1) (by omega) (by omega)
        rw [← Nat.add_assoc] at d2 d3
        rw [← Nat.add_assoc] at d3
        rcases hm with ⟨p1, p2⟩ | ⟨p1, p2⟩ <;> rcases hz with ⟨q1, q2⟩ | ⟨q1, q2⟩
        · exact d1 (q1.trans p1.symm)
        · exact d2 (q1.trans p2.symm)
        · exact d2 (q1.trans p2.symm)
        · exact d1 (q1.trans p1.symm)
    · rw [if_neg hm]
      exact pc_1 (fun i j h1 h2 => h i j h1 (by omega))
theorem pc_s (w : Nat → Int32) (c : Nat) (a b : Int32) : ∀ m, pcR w c a b m = pcR w c b a m
  | 0 => rfl
  | m + 1 => by
    rw [pcR, pcR, pc_s w c a b m]
    by_cases h : tkR w c a b m
    · rw [if_pos h, if_pos (Or.symm h)]
    · rw [if_neg h, if_neg (fun z => h (Or.symm z))]
theorem uc_s (w st : Nat → Int32) (lam : Nat → Nat) (a b : Int32) : ∀ k, ucR w st lam a b k = ucR w st lam b a k
  | 0 => rfl
  | k + 1 => by rw [ucR, ucR, uc_s w st lam a b k, pc_s]
theorem mtF_pc {t : XS} {c : Nat} {a b : Int32} : ∀ m, m < 1000 → (mtF t c a b m = -1 ↔ pcR (t.1 20) c a b m = 0)
  | 0, _ => ⟨fun _ => rfl, fun _ => rfl⟩
  | m + 1, h => by
    rw [mtF, pcR]
    by_cases hm : tkC t c a b m
    · have hm' : tkR (t.1 20) c a b m := hm
      rw [if_pos hm, if_pos hm']
      refine ⟨fun z => ?_, fun z => by omega⟩
      have := congrArg Int32.toInt z
      rw [nI_toInt (by omega)] at this
      have h2 : ((-1 : Int32)).toInt = -1 := rfl
      omega
    · have hm' : ¬ tkR (t.1 20) c a b m := hm
      rw [if_neg hm, if_neg hm']
      exact mtF_pc m (by omega)
theorem muF_uc {t : XS} {a b : Int32} (hl : ∀ k, lm t k ≤ 4) {n : Nat} (hd : ∀ k, k < n → ∀ i j, i < j → j ≤ lm t k → ¬ t.1 20 (5 * k + i) = t.1 20 (5 * k + j)) : ∀ k, k ≤ n → muF t a b (lm t) k = nI (ucR (t.1 20) (t.1 18) (lm t) a b k)
  | 0, _ => rfl
  | k + 1, hk => by
    have hlk := hl k
    rw [muF, ucR, muF_uc hl hd k (by omega), ← nI_add]
    refine congrArg (nI _ + ·) ?_
    unfold mtakes
    by_cases hs : t.1 18 k = 0
    · rw [if_pos hs, if_pos hs]
      have h1 := pc_1 (w := t.1 20) (c := k) (a := a) (b := b) (m := lm t k) (hd k (by omega))
      by_cases h0 : mtF t k a b (lm t k) = -1
      · rw [if_pos h0, (mtF_pc _ (by omega)).mp h0]; rfl
      · have h2 : ¬ pcR (t.1 20) k a b (lm t k) = 0 := fun z => h0 ((mtF_pc _ (by omega)).mpr z)
        rw [if_neg h0, show pcR (t.1 20) k a b (lm t k) = 1 by omega]; rfl
    · rw [if_neg hs, if_neg hs]; rfl
theorem uc_le {w st : Nat → Int32} {lam : Nat → Nat} {a b : Int32} {n : Nat} (h : ∀ k, k < n → pcR w k a b (lam k) ≤ 1) : ∀ k, k ≤ n → ucR w st lam a b k ≤ k
  | 0, _ => Nat.le_refl _
  | k + 1, hk => by
    have h1 := uc_le (st := st) h k (by omega)
    have h2 := h k (by omega)
    rw [ucR]
    split <;> omega
theorem RX.pc1 {x t : XS} (h : RX x t) {k : Nat} (hk : k < x.2 6) (a b : Int32) : pcR (t.1 20) k a b (lm t k) ≤ 1 := pc_1 (h.w20 k hk)
theorem used_u {x t : XS} (h : RX x t) (a b : Int32) : mused t a b (lm t) = nI (ucR (t.1 20) (t.1 18) (lm t) a b (t.2 5)) := by
  unfold mused
  exact muF_uc (fun k => (h.g19 k).2) (n := t.2 5) (fun k hk => h.w20 k (by rw [h.cC]; exact hk)) _ (Nat.le_refl _)
theorem btw_lt {a b : Nat} (hab : a < b) (hb : b < 5) : btw (nI a) (nI b) = nI (5 * a + b) ∧ btw (nI b) (nI a) = nI (5 * a + b) := by
  unfold btw mn mx
  rw [if_neg (nI_nlt (by omega) (by omega)), if_pos (nI_lt hab (by omega)), if_pos (nI_lt hab (by omega)), if_neg (nI_nlt (by omega) (by omega))]
  have e : nI a * 5 + nI b = nI (5 * a + b) := by
    rw [show nI a * 5 = nI (a * 5) from pk_mul a 5, nI_add, show a * 5 + b = 5 * a + b by omega]
  exact ⟨e, e⟩
theorem left_n {x t : XS} (h : RX x t) {a b : Nat} (ha : a < 5) (hb : b < 5) (hab : ¬ a = b) : xleft x (nI a) (nI b) = t.1 3 (5 * a + b) - mused t (nI a) (nI b) (lm t) := by
  unfold xleft
  rw [used_u h]
  rcases Nat.lt_or_ge a b with h1 | h1
  · obtain ⟨e1, -⟩ := btw_lt h1 hb
    rw [e1, xg_n (show 5 * a + b < 25 by omega), xg_n (show 5 * a + b < 25 by omega), (h.rN a b h1 hb).1, h.rK a b h1 hb]
  · have h2 : b < a := by omega
    obtain ⟨-, e1⟩ := btw_lt h2 ha
    rw [e1, xg_n (show 5 * b + a < 25 by omega), xg_n (show 5 * b + a < 25 by omega), (h.rN b a h2 ha).1, h.rK b a h2 ha, uc_s, (h.rN b a h2 ha).2.1]
theorem s_free {x t : XS} (h : RX x t) (a b : Int32) : Same (ka 1 0 0) (xFree x a b) (mFree t a b (lm t)) := by
  unfold xFree mFree
  by_cases hc : noC a
  · rw [if_pos hc, if_pos hc]; exact Same.no h (by decide) rfl (by decide) (by decide)
  · rw [if_neg hc, if_neg hc]
    by_cases hn : noC b
    · rw [if_pos hn, if_pos hn]; exact Same.no h (by decide) rfl (by decide) (by decide)
    · rw [if_neg hn, if_neg hn]
      by_cases hab : a = b
      · rw [if_pos hab, if_pos hab]; exact Same.yes (h.z0 0) rfl rfl
      · rw [if_neg hab, if_neg hab]
        obtain ⟨i, hi, rfl⟩ := nC hc
        obtain ⟨j, hj, rfl⟩ := nC hn
        refine Same.yes (h.z0 0) rfl ?_
        rw [i5n, mg_n (by omega)]
        exact left_n (h.z0 0) hi hj (fun z => hab (by rw [z]))

/-! ===== the writing calls: numbers ===== -/
theorem setR_self (q : XS) (k : Nat) : setR q k (q.1 k) = q := by
  refine Prod.ext (funext fun j => ?_) rfl
  show (if j = k then q.1 k else q.1 j) = q.1 j
  by_cases h : j = k
  · rw [if_pos h, h]
  · rw [if_neg h]
theorem lastV_add {ks ss vs : Nat → Int32} {key st v k2 s first : Int32} {n : Nat} : lastV (upd ks n key) (upd ss n st) (upd vs n v) k2 s first (n + 1) = if key = k2 ∧ st ≤ s then v else lastV ks ss vs k2 s first n := by
  rw [lastV, pk_us, pk_us, pk_us]
  by_cases h1 : key = k2 ∧ st ≤ s
  · rw [if_pos h1, if_pos h1]
  · rw [if_neg h1, if_neg h1]
    exact lastV_congr _ (fun i hi => ⟨pk_un (by omega), pk_un (by omega), pk_un (by omega)⟩)
theorem nI_eqI {a b : Nat} (ha : a < 2 ^ 31) (hb : b < 2 ^ 31) (h : nI a = nI b) : a = b := (nI_eq ha hb).mp h
theorem BK.he {x t p : XS} (h : RX x t) (he : HE x p) (hr : p.1 27 = x.1 27 ∧ p.1 29 = x.1 29 ∧ p.1 30 = x.1 30 ∧ p.1 31 = x.1 31 ∧ p.1 32 = x.1 32 ∧ p.1 9 = x.1 9 ∧ p.1 11 = x.1 11) (hc : p.2 0 = x.2 0 ∧ p.2 6 = x.2 6) (e2 : ∀ n, n < 12 → p.1 2 n + p.1 3 n = x.1 2 n + x.1 3 n) : BK p := by
  obtain ⟨a27, a29, a30, a31, a32, a9, a11⟩ := hr
  refine BK.keep h.bk ⟨he.se h.ha, fun k hk => ⟨by rw [a27], ?_, ?_⟩⟩ h.tm hc.2 a32 a9 a11 e2
  · unfold bN; rw [a29]
  · unfold eN; rw [a30, a31, hc.1]
theorem s_setDelay {x t : XS} (h : RX x t) (c s : Int32) : Same (ka 1 2 0) (xSetDelay x c s) (mSetDelay t c s) := by
  unfold xSetDelay mSetDelay
  by_cases hc : noC c
  · rw [if_pos hc, if_pos hc]; exact Same.no h (by decide) rfl (by decide) (by decide)
  · rw [if_neg hc, if_neg hc]
    by_cases hs : noW s 0 5000
    · rw [if_pos hs, if_pos hs]; exact Same.no h (by decide) rfl (by decide) (by decide)
    · rw [if_neg hs, if_neg hs]
      obtain ⟨m, hm, rfl⟩ := nC hc
      rw [xs_n (k := 7) (show m < 5 from hm), mw_n (by omega), xg_n (k := 7) (show m < 5 from hm), mg_n (by omega)]
      have he : HE x (setR x 7 (upd (x.1 7) m s)) := HE.of (fun k h1 h2 => by simp only [setR_1, setC_1]; repeat rw [if_neg (by omega)]) (fun k h1 h2 => by simp only [setR_2, setC_2]; repeat rw [if_neg (by omega)])
      refine Same.yes ?_ rfl (h.rE m hm)
      exact ⟨h.cN, h.cL, h.cP, h.cS, h.cD, h.cC, h.rO, h.rD, h.rB, h.rY, (equ h.rE rfl), h.rP, h.rA, h.rL, h.rS, h.r14, h.r15, h.r16, h.r17, h.r27, h.r28, h.r31, h.r32, h.r34, h.r33, h.rT, h.rW, h.rC, h.rQ, h.rN, h.rK, h.pD, h.pC, h.pR, h.g13, h.g16, h.g17, h.g8, h.g20, h.g19, h.gY, h.gD, h.gB, h.w20, h.z, h.tl, (he.ha h.ha), h.tm, (BK.he h he ⟨rfl, rfl, rfl, rfl, rfl, rfl, rfl⟩ ⟨rfl, rfl⟩ (fun _ _ => rfl))⟩
theorem s_bond {x t : XS} (h : RX x t) (n c : Int32) : Same (ka 1 2 3) (xBond x n c) (mBond t n c) := by
  unfold xBond mBond
  by_cases hn : noN n
  · rw [if_pos hn, if_pos hn]; exact Same.no h (by decide) rfl (by decide) (by decide)
  · rw [if_neg hn, if_neg hn]
    by_cases hs : noW c 1 5000
    · rw [if_pos hs, if_pos hs]; exact Same.no h (by decide) rfl (by decide) (by decide)
    · rw [if_neg hs, if_neg hs]
      obtain ⟨m, hm, rfl⟩ := nN hn
      rw [xg_n (k := 4) (show m < 12 from hm), xs_n (k := 4) (show m < 12 from hm), mg_n (q := t) (by omega), mw_n (by omega), mg_n (by omega), h.rB m hm]
      by_cases h5 : t.1 10 m + c ≤ 5000
      · rw [if_pos h5, if_neg (fun z => Int32.not_lt.mpr h5 z)]
        have hgb : ∃ b, b ≤ 5000 ∧ t.1 10 m + c = nI b := by
          obtain ⟨b, hb, eb⟩ := h.gB m hm
          obtain ⟨k, hk1, hk, rfl⟩ := nW (a := 1) (b := 5000) (by decide) (by decide) hs
          rw [← h.rB m hm, eb, nI_add] at h5 ⊢
          exact ⟨b + k, (nI_leI (b := 5000) (by omega) (by decide)).mp h5, rfl⟩
        have he : HE x (setR x 4 (upd (x.1 4) m (t.1 10 m + c))) := HE.of (fun k h1 h2 => by simp only [setR_1, setC_1]; repeat rw [if_neg (by omega)]) (fun k h1 h2 => by simp only [setR_2, setC_2]; repeat rw [if_neg (by omega)])
        refine Same.yes ?_ rfl pk_us.symm
        exact ⟨h.cN, h.cL, h.cP, h.cS, h.cD, h.cC, h.rO, h.rD, (equ h.rB rfl), h.rY, h.rE, h.rP, h.rA, h.rL, h.rS, h.r14, h.r15, h.r16, h.r17, h.r27, h.r28, h.r31, h.r32, h.r34, h.r33, h.rT, h.rW, h.rC, h.rQ, h.rN, h.rK, h.pD, h.pC, h.pR, h.g13, h.g16, h.g17, h.g8, h.g20, h.g19, h.gY, h.gD, (uall (p := fun v => ∃ b, b ≤ 5000 ∧ v = nI b) h.gB hgb), h.w20, h.z, h.tl, (he.ha h.ha), h.tm, (BK.he h he ⟨rfl, rfl, rfl, rfl, rfl, rfl, rfl⟩ ⟨rfl, rfl⟩ (fun _ _ => rfl))⟩
      · rw [if_neg h5, if_pos (Int32.not_le.mp h5)]; exact Same.no h (by decide) rfl (by decide) (by decide)
theorem HA.cs {q : XS} {now : Nat} (H : HA q now) : ∀ g, g < 4 → q.2 (2 + g) ≤ 60 := fun g hg => by
  have c0 := H.h0.cnt
  have c1 := H.h1.cnt
  have c2 := H.h2.cnt
  have c3 := H.h3.cnt
  match g, hg with
  | 0, _ => exact c0
  | 1, _ => exact c1
  | 2, _ => exact c2
  | 3, _ => exact c3
theorem HA.add0 {q : XS} {now : Nat} (H : HA q now) (hc : q.2 2 < 60) (key v : Int32) : HA (hadd q 0 key (nI now) v) now :=
  ⟨hadd_hi H.h0 hc key v, hadd_ho (by decide) H.h1 (by decide) hc _ _ _, hadd_ho (by decide) H.h2 (by decide) hc _ _ _, (hadd_c (by decide) hc key (nI now) v (k := 5) (by decide)).trans (H.c.trans (hadd_c (by decide) hc key (nI now) v (k := 4) (by decide)).symm),
   fun i hi => by
    rw [hadd_r (h := 0) (k := 24) (by decide) hc key (nI now) v (by decide) (by decide) (by decide), hadd_r (h := 0) (k := 21) (by decide) hc key (nI now) v (by decide) (by decide) (by decide), hadd_r (h := 0) (k := 25) (by decide) hc key (nI now) v (by decide) (by decide) (by decide), hadd_r (h := 0) (k := 22) (by decide) hc key (nI now) v (by decide) (by decide) (by decide)]
    exact H.r i hi⟩
theorem HA.add1 {q : XS} {now : Nat} (H : HA q now) (hc : q.2 3 < 60) (key v : Int32) : HA (hadd q 1 key (nI now) v) now :=
  ⟨hadd_ho (by decide) H.h0 (by decide) hc _ _ _, hadd_hi H.h1 hc key v, hadd_ho (by decide) H.h2 (by decide) hc _ _ _, (hadd_c (by decide) hc key (nI now) v (k := 5) (by decide)).trans (H.c.trans (hadd_c (by decide) hc key (nI now) v (k := 4) (by decide)).symm),
   fun i hi => by
    rw [hadd_r (h := 1) (k := 24) (by decide) hc key (nI now) v (by decide) (by decide) (by decide), hadd_r (h := 1) (k := 21) (by decide) hc key (nI now) v (by decide) (by decide) (by decide), hadd_r (h := 1) (k := 25) (by decide) hc key (nI now) v (by decide) (by decide) (by decide), hadd_r (h := 1) (k := 22) (by decide) hc key (nI now) v (by decide) (by decide) (by decide)]
    exact H.r i hi⟩
theorem hadd_1 {q : XS} (hc : q.2 3 < 60) (key start v : Int32) : hadd q 1 key start v = setC (setR (setR (setR q 18 (upd (q.1 18) (q.2 3) key)) 19 (upd (q.1 19) (q.2 3) start)) 20 (upd (q.1 20) (q.2 3) v)) 3 (q.2 3 + 1) := hadd_n (h := 1) (by decide) hc key start v
theorem hadd_0 {q : XS} (hc : q.2 2 < 60) (key start v : Int32) : hadd q 0 key start v = setC (setR (setR (setR q 14 (upd (q.1 14) (q.2 2) key)) 15 (upd (q.1 15) (q.2 2) start)) 16 (upd (q.1 16) (q.2 2) v)) 2 (q.2 2 + 1) := hadd_n (h := 0) (by decide) hc key start v
theorem hadd_2 {q : XS} (hc : q.2 4 < 60) (key start v : Int32) : hadd q 2 key start v = setC (setR (setR (setR q 21 (upd (q.1 21) (q.2 4) key)) 22 (upd (q.1 22) (q.2 4) start)) 23 (upd (q.1 23) (q.2 4) v)) 4 (q.2 4 + 1) := hadd_n (h := 2) (by decide) hc key start v
theorem hadd_3 {q : XS} (hc : q.2 5 < 60) (key start v : Int32) : hadd q 3 key start v = setC (setR (setR (setR q 24 (upd (q.1 24) (q.2 5) key)) 25 (upd (q.1 25) (q.2 5) start)) 26 (upd (q.1 26) (q.2 5) v)) 5 (q.2 5 + 1) := hadd_n (h := 3) (by decide) hc key start v
theorem s_sell {x t : XS} (h : RX x t) (n p : Int32) : Same (ka 1 0 2) (xSell x n p) (mSell t n p) := by
  unfold xSell mSell
  by_cases hn : noN n
  · rw [if_pos hn, if_pos hn]; exact Same.no h (by decide) rfl (by decide) (by decide)
  · rw [if_neg hn, if_neg hn]
    by_cases hp : noP p
    · rw [if_pos hp, if_pos hp]; exact Same.no h (by decide) rfl (by decide) (by decide)
    · rw [if_neg hp, if_neg hp]
      obtain ⟨m, hm, rfl⟩ := nN hn
      rw [xg_n (k := 1) (show m < 12 from hm), mg_n (by omega), h.rO m hm]
      by_cases h1 : t.1 8 m = p
      · rw [if_pos h1, if_pos h1]; exact Same.no h (by decide) rfl (by decide) (by decide)
      · rw [if_neg h1, if_neg h1]
        have h60 := h.s60
        by_cases h2 : x.2 3 < 60
        · have h3 : nI (x.2 3) < 60 := nI_lt (b := 60) h2 (by decide)
          have h4 : ¬ nI (t.2 3) = 60 := fun z => by
            have := nI_eqI (b := 60) (by rw [← h.cS]; omega) (by decide) z
            rw [← h.cS] at this; omega
          rw [if_pos h3, if_neg h4, mw_n (by omega), xs_n (k := 1) (show m < 12 from hm)]
          have eQ : ∀ k, k < 12 → upd (x.1 1) m p k = lastV (upd (x.1 18) (x.2 3) (nI m)) (upd (x.1 19) (x.2 3) (nI (x.2 0))) (upd (x.1 20) (x.2 3) p) (nI k) (nI (x.2 0)) (nI k - nI k / 6 * 6) (x.2 3 + 1) := fun k hk => by
            rw [lastV_add, upd_a]
            by_cases hkm : k = m
            · subst hkm; rw [if_pos rfl, if_pos ⟨rfl, Int32.le_refl _⟩]
            · rw [if_neg hkm, if_neg (fun z => hkm (nI_eqI (by omega) (by omega) z.1).symm)]; exact h.rQ k hk
          have ha1 := h.ha.add1 h2 (nI m) p
          have se1 : SE x (hadd x 1 (nI m) (nI (x.2 0)) p) (x.2 0) := hadd_se (by decide) h2 h.ha.cs h.n20 (nI m) p
          have he : HE (hadd x 1 (nI m) (nI (x.2 0)) p) (setR (hadd x 1 (nI m) (nI (x.2 0)) p) 1 (upd ((hadd x 1 (nI m) (nI (x.2 0)) p).1 1) m p)) := HE.of (fun k h1 h2 => by simp only [setR_1, setC_1]; repeat rw [if_neg (by omega)]) (fun k h1 h2 => by simp only [setR_2, setC_2]; repeat rw [if_neg (by omega)])
          have ha2 := he.ha ha1
          have se2 := se1.trans (he.se ha1)
          rw [hadd_1 h2] at ha2 se2 ⊢
          refine Same.yes ?_ rfl rfl
          exact ⟨h.cN, h.cL, h.cP, (congrArg (· + 1) h.cS), h.cD, h.cC, (equ h.rO rfl), h.rD, h.rB, h.rY, h.rE, h.rP, h.rA, h.rL, h.rS, h.r14, h.r15, h.r16, h.r17, h.r27, h.r28, h.r31, h.r32, h.r34, h.r33, h.rT, h.rW, h.rC, (eQ), h.rN, h.rK, h.pD, h.pC, h.pR, h.g13, h.g16, h.g17, (uall' (p := fun v => vp_in v 6) h.g8 (inP hp)), h.g20, h.g19, h.gY, h.gD, h.gB, h.w20, h.z, h.tl, (ha2), h.tm, (BK.keep h.bk ⟨se2, fun k hk => ⟨rfl, rfl, rfl⟩⟩ h.tm rfl rfl rfl rfl (fun _ _ => rfl))⟩
        · have h3 : ¬ nI (x.2 3) < 60 := nI_nlt (b := 60) (by omega) (by omega)
          have h4 : nI (t.2 3) = 60 := by rw [← h.cS, show x.2 3 = 60 by omega]; rfl
          rw [if_neg h3, if_pos h4]; exact Same.no h (by decide) rfl (by decide) (by decide)
theorem HA.add23 {q : XS} {now : Nat} (H : HA q now) (hc : q.2 4 < 60) (key a b : Int32) : HA (hadd (hadd q 2 key (nI now) a) 3 key (nI now) b) now ∧ SE q (hadd (hadd q 2 key (nI now) a) 3 key (nI now) b) now := by
  have hT := H.h0.top
  have hc5 : q.2 5 < 60 := by rw [H.c]; exact hc
  have c5 : (hadd q 2 key (nI now) a).2 5 = q.2 5 := hadd_c (by decide) hc key (nI now) a (k := 5) (by decide)
  have hc3 : (hadd q 2 key (nI now) a).2 5 < 60 := by rw [c5]; exact hc5
  have i0 := hadd_ho (h := 2) (by decide) H.h0 (by decide) hc key (nI now) a
  have i1 := hadd_ho (h := 2) (by decide) H.h1 (by decide) hc key (nI now) a
  have i2 := hadd_hi H.h2 hc key a
  have i3 := hadd_ho (h := 2) (by decide) H.h3 (by decide) hc key (nI now) a
  have j0 := hadd_ho (h := 3) (by decide) i0 (by decide) hc3 key (nI now) b
  have j1 := hadd_ho (h := 3) (by decide) i1 (by decide) hc3 key (nI now) b
  have j2 := hadd_ho (h := 3) (by decide) i2 (by decide) hc3 key (nI now) b
  have cs2 : ∀ g, g < 4 → (hadd q 2 key (nI now) a).2 (2 + g) ≤ 60 := fun g hg => by
    match g, hg with
    | 0, _ => exact i0.cnt
    | 1, _ => exact i1.cnt
    | 2, _ => exact i2.cnt
    | 3, _ => exact i3.cnt
  refine ⟨⟨j0, j1, j2, ?_, fun i hi => ?_⟩, (hadd_se (by decide) hc H.cs hT key a).trans (hadd_se (by decide) hc3 cs2 hT key b)⟩
  · rw [hadd_3 hc3, hadd_2 hc]
    show q.2 5 + 1 = q.2 4 + 1
    rw [H.c]
  · rw [hadd_3 hc3, hadd_2 hc]
    show upd (q.1 24) (q.2 5) key i = upd (q.1 21) (q.2 4) key i ∧ upd (q.1 25) (q.2 5) (nI now) i = upd (q.1 22) (q.2 4) (nI now) i
    rw [H.c, upd_a, upd_a, upd_a, upd_a, (H.r i hi).1, (H.r i hi).2]
    exact ⟨rfl, rfl⟩
theorem s_setPrices {x t : XS} (h : RX x t) (c a b : Int32) : Same (ka 1 2 3) (xSetPrices x c a b) (mSetPrices t c a b) := by
  unfold xSetPrices mSetPrices
  by_cases hc : noC c
  · rw [if_pos hc, if_pos hc]; exact Same.no h (by decide) rfl (by decide) (by decide)
  · rw [if_neg hc, if_neg hc]
    by_cases hA : noW a 0 9
    · rw [if_pos hA, if_pos hA]; exact Same.no h (by decide) rfl (by decide) (by decide)
    · rw [if_neg hA, if_neg hA]
      by_cases hB : noW b 0 9
      · rw [if_pos hB, if_pos hB]; exact Same.no h (by decide) rfl (by decide) (by decide)
      · rw [if_neg hB, if_neg hB]
        obtain ⟨m, hm, rfl⟩ := nC hc
        have h60 := h.d60
        by_cases h2 : x.2 4 < 60
        · have h3 : nI (x.2 4) < 60 := nI_lt (b := 60) h2 (by decide)
          have h4 : ¬ nI (t.2 2) = 60 := fun z => by
            have := nI_eqI (b := 60) (by rw [← h.cD]; omega) (by decide) z
            rw [← h.cD] at this; omega
          rw [if_pos h3, if_neg h4, mw_n (by omega), mw_n (by omega), mg_n (by omega)]
          obtain ⟨ha2, se2⟩ := h.ha.add23 h2 (nI m) a b
          have hc3 : (hadd x 2 (nI m) (nI (x.2 0)) a).2 5 < 60 := by rw [hadd_2 h2]; show x.2 5 < 60; rw [h.ha.c]; exact h2
          have ev : hval x 2 (nI m) (nI (x.2 0)) 2 = t.1 0 m := (hval_last (by decide) h.d60).trans (h.pD m hm)
          unfold xprice
          rw [hadd_3 hc3, hadd_2 h2] at ha2 se2 ⊢
          have hpd : ∀ k, k < 5 → lastV (upd (x.1 21) (x.2 4) (nI m)) (upd (x.1 22) (x.2 4) (nI (x.2 0))) (upd (x.1 23) (x.2 4) a) (nI k) (nI (x.2 0)) 2 (x.2 4 + 1) = upd (t.1 0) m a k := fun k hk => by
            rw [lastV_add, upd_a]
            by_cases hkm : k = m
            · subst hkm; rw [if_pos ⟨rfl, Int32.le_refl _⟩, if_pos rfl]
            · rw [if_neg (fun z => hkm (nI_eqI (by omega) (by omega) z.1).symm), if_neg hkm]; exact h.pD k hk
          have hpc : ∀ k, k < 5 → lastV (upd (x.1 24) (x.2 5) (nI m)) (upd (x.1 25) (x.2 5) (nI (x.2 0))) (upd (x.1 26) (x.2 5) b) (nI k) (nI (x.2 0)) 1 (x.2 5 + 1) = upd (t.1 1) m b k := fun k hk => by
            rw [lastV_add, upd_a]
            by_cases hkm : k = m
            · subst hkm; rw [if_pos ⟨rfl, Int32.le_refl _⟩, if_pos rfl]
            · rw [if_neg (fun z => hkm (nI_eqI (by omega) (by omega) z.1).symm), if_neg hkm]; exact h.pC k hk
          obtain ⟨a1, -, a2, rfl⟩ := nW (a := 0) (b := 9) (by decide) (by decide) hA
          obtain ⟨b1, -, b2, rfl⟩ := nW (a := 0) (b := 9) (by decide) (by decide) hB
          have hpr : ∀ k, k < 5 → (∃ d, d ≤ 9 ∧ upd (t.1 0) m (nI a1) k = nI d) ∧ ∃ d, d ≤ 9 ∧ upd (t.1 1) m (nI b1) k = nI d := fun k hk =>
            ⟨uall (p := fun v => ∃ d, d ≤ 9 ∧ v = nI d) (fun k hk => (h.pR k hk).1) ⟨a1, a2, rfl⟩ k hk, uall (p := fun v => ∃ d, d ≤ 9 ∧ v = nI d) (fun k hk => (h.pR k hk).2) ⟨b1, b2, rfl⟩ k hk⟩
          refine Same.yes ?_ rfl ev
          exact ⟨h.cN, h.cL, h.cP, h.cS, (congrArg (· + 1) h.cD), h.cC, h.rO, h.rD, h.rB, h.rY, h.rE, h.rP, h.rA, h.rL, h.rS, h.r14, h.r15, h.r16, h.r17, h.r27, h.r28, h.r31, h.r32, h.r34, h.r33, h.rT, h.rW, h.rC, h.rQ, h.rN, h.rK, (hpd), (hpc), (hpr), h.g13, h.g16, h.g17, h.g8, h.g20, h.g19, h.gY, h.gD, h.gB, h.w20, h.z, h.tl, (ha2), h.tm, (BK.keep h.bk ⟨se2, fun k hk => ⟨rfl, rfl, rfl⟩⟩ h.tm rfl rfl rfl rfl (fun _ _ => rfl))⟩
        · have h3 : ¬ nI (x.2 4) < 60 := nI_nlt (b := 60) (by omega) (by omega)
          have h4 : nI (t.2 2) = 60 := by rw [← h.cD, show x.2 4 = 60 by omega]; rfl
          rw [if_neg h3, if_pos h4]; exact Same.no h (by decide) rfl (by decide) (by decide)

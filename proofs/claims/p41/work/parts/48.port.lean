/-! ===== porting ===== -/
def nwR (f d : Nat → Int32) (base : Nat) (a b s : Int32) (k : Nat) : Nat → Int32 := fun j => if base ≤ j ∧ j < base + k then (if nI (j - base) = a ∨ nI (j - base) = b then s else s + d (j - base)) else f j
theorem nwR_0 (f d : Nat → Int32) (base : Nat) (a b s : Int32) : nwR f d base a b s 0 = f := funext fun j => if_neg (by omega)
theorem nwR_s (f d : Nat → Int32) (base : Nat) (a b s : Int32) (k : Nat) : upd (nwR f d base a b s k) (base + k) (if nI k = a ∨ nI k = b then s else s + d k) = nwR f d base a b s (k + 1) := by
  funext j
  rw [upd_a]
  unfold nwR
  by_cases h : j = base + k
  · subst h
    rw [if_pos rfl, if_pos (show base ≤ base + k ∧ base + k < base + (k + 1) by omega), show base + k - base = k by omega]
  · rw [if_neg h]
    by_cases h2 : base ≤ j ∧ j < base + k
    · rw [if_pos h2, if_pos (show base ≤ j ∧ j < base + (k + 1) by omega)]
    · rw [if_neg h2, if_neg (show ¬ (base ≤ j ∧ j < base + (k + 1)) by omega)]
theorem nwR_e {f f2 d d2 : Nat → Int32} {base : Nat} {a b s : Int32} (hb : base + 5 ≤ 300) (hf : ∀ j, j < 300 → f j = f2 j) (hd : ∀ j, j < 5 → d j = d2 j) : ∀ j, j < 300 → nwR f d base a b s 5 j = nwR f2 d2 base a b s 5 j := fun j hj => by
  unfold nwR
  by_cases h2 : base ≤ j ∧ j < base + 5
  · rw [if_pos h2, if_pos h2, hd _ (by omega)]
  · rw [if_neg h2, if_neg h2, hf j hj]
theorem cyF_n {x : XS} {cnt : Nat} (hc : cnt < 60) (a b s : Int32) : ∀ k, k ≤ 5 → cyF x (nI cnt * 5) a b s k = setR x 17 (nwR (x.1 17) (x.1 7) (5 * cnt) a b s k)
  | 0, _ => by rw [nwR_0, setR_self]; rfl
  | k + 1, hk => by
    have ei : nI cnt * 5 + nI k = nI (5 * cnt + k) := by
      rw [show nI cnt * 5 = nI (cnt * 5) from pk_mul cnt 5, nI_add, show cnt * 5 + k = 5 * cnt + k by omega]
    rw [cyF, cyF_n hc a b s k (by omega), ei, xs_n (k := 17) (show 5 * cnt + k < 300 by omega), xg_n (k := 7) (show k < 5 by omega), setR_setR]
    exact congrArg (setR x 17) (nwR_s (x.1 17) (x.1 7) (5 * cnt) a b s k)
theorem kfF_n {t : XS} (hc : t.2 4 < 60) (a b : Int32) : ∀ k, k ≤ 5 → kfF t a b k = setR t 15 (nwR (t.1 15) (t.1 2) (5 * t.2 4) a b (nI (t.2 1)) k)
  | 0, _ => by rw [nwR_0, setR_self]; rfl
  | k + 1, hk => by
    rw [kfF, kfF_n hc a b k (by omega), i5n, mw_n (by omega), mg_n (by omega), setR_setR]
    exact congrArg (setR t 15) (nwR_s (t.1 15) (t.1 2) (5 * t.2 4) a b (nI (t.2 1)) k)
theorem xgive_n {q : XS} {a b : Nat} (ha : a < 5) (hb : b < 5) (v : Int32) : xgive q (nI a) (nI b) v = setR q 8 (upd (upd (q.1 8) a (q.1 8 a + -v)) b (upd (q.1 8) a (q.1 8 a + -v) b + v)) := by
  unfold xgive
  rw [xad_n (k := 8) (show a < 5 from ha), xad_n (k := 8) (show b < 5 from hb), setR_setR]
  rfl
theorem equ2 {N a b : Nat} {f g : Nat → Int32} (h : ∀ n, n < N → f n = g n) (ha : a < N) (hb : b < N) {v w : Int32} (e : v = w) (u : Int32) : ∀ n, n < N → upd (upd f a v) b (upd f a v b + u) n = upd (upd g a w) b (upd g a w b + u) n := equ (equ h e) (by rw [equ h e b hb])
theorem s_port {x t : XS} (h : RX x t) (n c : Int32) : Same (ka 1 0 2) (xPort x n c) (mPort t n c) := by
  unfold xPort mPort
  by_cases hn : noN n
  · rw [if_pos hn, if_pos hn]; exact Same.no h (by decide) rfl (by decide) (by decide)
  · rw [if_neg hn, if_neg hn]
    by_cases hc : noC c
    · rw [if_pos hc, if_pos hc]; exact Same.no h (by decide) rfl (by decide) (by decide)
    · rw [if_neg hc, if_neg hc]
      obtain ⟨m, hm, rfl⟩ := nN hn
      obtain ⟨c2, hc2, rfl⟩ := nC hc
      obtain ⟨old, hold, eo⟩ := x0_in h hm
      have h20 := h.n20
      have ex0 : xg x 0 (nI m) = nI old := (xg_n (k := 0) (show m < 12 from hm)).trans eo
      have em0 : mplace t (nI m) 20000 = nI old := (mplace_n h hm).trans eo
      have ez0 : mplace (z0 t) (nI m) 20000 = nI old := (mplace_n (h.z0 0) hm).trans eo
      have ex2 : xg x 2 (nI m) = t.1 9 m := (xg_n (k := 2) (show m < 12 from hm)).trans (h.rD m hm)
      have ex4 : xg x 4 (nI m) = t.1 10 m := (xg_n (k := 4) (show m < 12 from hm)).trans (h.rB m hm)
      have em9 : mg t 9 (nI m) = t.1 9 m := mg_n (by omega)
      have em10 : mg t 10 (nI m) = t.1 10 m := mg_n (by omega)
      rw [ex0, em0, ex2, ex4, em9, em10]
      by_cases h1 : nI old = nI c2
      · rw [if_pos h1, if_pos h1]; exact Same.no h (by decide) rfl (by decide) (by decide)
      · rw [if_neg h1, if_neg h1]
        by_cases h2 : t.1 9 m ≤ t.1 10 m
        · rw [if_pos h2, if_neg (fun z => Int32.not_lt.mpr h2 z)]
          have h60 := h.p60
          by_cases h3 : x.2 2 < 60
          · have h4 : t.2 4 < 60 := by rw [← h.cP]; exact h3
            rw [if_pos (show nI (x.2 2) < 60 from nI_lt (b := 60) h3 (by decide)), if_neg (show ¬ 60 ≤ nI (t.2 4) from nI_ge (b := 60) h4 (by decide))]
            -- the reference's state
            have tq : mpQ t (nI m) (nI c2) = setR (setR (setR (z0 t) 12 (upd (t.1 12) (t.2 4) (nI m))) 13 (upd (t.1 13) (t.2 4) (nI c2))) 14 (upd (t.1 14) (t.2 4) (nI (t.2 1))) := by
              unfold mpQ
              rw [mw_n (by omega), mw_n (by omega), mw_n (by omega)]
              rfl
            have tr : mpR t (nI m) (nI c2) = setC (setR (setR (setR (setR (z0 t) 12 (upd (t.1 12) (t.2 4) (nI m))) 13 (upd (t.1 13) (t.2 4) (nI c2))) 14 (upd (t.1 14) (t.2 4) (nI (t.2 1)))) 15 (nwR (t.1 15) (t.1 2) (5 * t.2 4) (nI old) (nI c2) (nI (t.2 1)) 5)) 4 (t.2 4 + 1) := by
              unfold mpR
              rw [ez0, tq, kfF_n (by exact h4) _ _ 5 (by decide)]
              rfl
            have ts : mpS t (nI m) (nI c2) = setR (setC (setR (setR (setR (setR (z0 t) 12 (upd (t.1 12) (t.2 4) (nI m))) 13 (upd (t.1 13) (t.2 4) (nI c2))) 14 (upd (t.1 14) (t.2 4) (nI (t.2 1)))) 15 (nwR (t.1 15) (t.1 2) (5 * t.2 4) (nI old) (nI c2) (nI (t.2 1)) 5)) 4 (t.2 4 + 1)) 4 (upd (t.1 4) c2 (t.1 4 c2 - t.1 9 m)) := by
              unfold mpS
              rw [tr, mw_n (by omega), mg_n (by omega), mg_n (by omega)]
              rfl
            rw [ez0, ts, mw_n (by omega), mg_n (by omega), mg_n (by omega), setR_setR]
            -- the class's state
            have xc : xcarry x (nI m) (nI old) (nI c2) (nI (x.2 0)) = hadd (setR x 17 (nwR (x.1 17) (x.1 7) (5 * x.2 2) (nI old) (nI c2) (nI (x.2 0)) 5)) 0 (nI m) (nI (x.2 0)) (nI c2) := by
              unfold xcarry
              rw [cyF_n h3 _ _ _ 5 (by decide)]
            have he1 : HE x (setR x 17 (nwR (x.1 17) (x.1 7) (5 * x.2 2) (nI old) (nI c2) (nI (x.2 0)) 5)) := by
              intro g hg
              have := hr_v hg
              exact ⟨rfl, fun j hj => (if_neg (by omega)).symm⟩
            have ha1 := he1.ha h.ha
            have hc1 : (setR x 17 (nwR (x.1 17) (x.1 7) (5 * x.2 2) (nI old) (nI c2) (nI (x.2 0)) 5)).2 2 < 60 := h3
            have ha2 := ha1.add0 hc1 (nI m) (nI c2)
            have se2 := (he1.se h.ha).trans (hadd_se (h := 0) (by decide) hc1 ha1.cs h20 (nI m) (nI c2))
            rw [xc, xgive_n hc2 hold, xs_n (k := 0) (show m < 12 from hm)]
            rw [hadd_0 hc1] at ha2 se2 ⊢
            have he3 : HE (setC (setR (setR (setR (setR x 17 (nwR (x.1 17) (x.1 7) (5 * x.2 2) (nI old) (nI c2) (nI (x.2 0)) 5)) 14 (upd (x.1 14) (x.2 2) (nI m))) 15 (upd (x.1 15) (x.2 2) (nI (x.2 0)))) 16 (upd (x.1 16) (x.2 2) (nI c2))) 2 (x.2 2 + 1)) (setR (setR (setC (setR (setR (setR (setR x 17 (nwR (x.1 17) (x.1 7) (5 * x.2 2) (nI old) (nI c2) (nI (x.2 0)) 5)) 14 (upd (x.1 14) (x.2 2) (nI m))) 15 (upd (x.1 15) (x.2 2) (nI (x.2 0)))) 16 (upd (x.1 16) (x.2 2) (nI c2))) 2 (x.2 2 + 1)) 0 (upd (x.1 0) m (nI c2))) 8 (upd (upd (x.1 8) c2 (x.1 8 c2 + -t.1 9 m)) old (upd (x.1 8) c2 (x.1 8 c2 + -t.1 9 m) old + t.1 9 m))) := by
              intro g hg
              have := hr_v hg
              refine ⟨rfl, fun j hj => ?_⟩
              exact ((if_neg (by omega)).trans (if_neg (by omega))).symm
            have ha3 := he3.ha ha2
            have se3 := se2.trans (he3.se ha2)
            have e17 : ∀ j, j < 300 → nwR (x.1 17) (x.1 7) (5 * x.2 2) (nI old) (nI c2) (nI (x.2 0)) 5 j = nwR (t.1 15) (t.1 2) (5 * t.2 4) (nI old) (nI c2) (nI (t.2 1)) 5 j := by
              rw [← h.cP, ← h.cN]
              exact nwR_e (by omega) h.r17 h.rE
            have eC : ∀ k, k < 12 → upd (x.1 0) m (nI c2) k = lastV (upd (x.1 14) (x.2 2) (nI m)) (upd (x.1 15) (x.2 2) (nI (x.2 0))) (upd (x.1 16) (x.2 2) (nI c2)) (nI k) (nI (x.2 0)) (nI k - nI k / 5 * 5) (x.2 2 + 1) := fun k hk => by
              rw [lastV_add, upd_a]
              by_cases hkm : k = m
              · subst hkm; rw [if_pos rfl, if_pos ⟨rfl, Int32.le_refl _⟩]
              · rw [if_neg hkm, if_neg (fun z => hkm (nI_eqI (by omega) (by omega) z.1).symm)]; exact h.rC k hk
            have e14 : ∀ k, k < 60 → upd (x.1 14) (x.2 2) (nI m) k = upd (t.1 12) (t.2 4) (nI m) k := by rw [← h.cP]; exact equ h.r14 rfl
            have e15 : ∀ k, k < 60 → upd (x.1 15) (x.2 2) (nI (x.2 0)) k = upd (t.1 14) (t.2 4) (nI (t.2 1)) k := by rw [← h.cP, ← h.cN]; exact equ h.r15 rfl
            have e16 : ∀ k, k < 60 → upd (x.1 16) (x.2 2) (nI c2) k = upd (t.1 13) (t.2 4) (nI c2) k := by rw [← h.cP]; exact equ h.r16 rfl
            have eP := equ2 h.rP hc2 hold (v := x.1 8 c2 + -t.1 9 m) (w := t.1 4 c2 - t.1 9 m) (by rw [h.rP c2 hc2, Int32.sub_eq_add_neg]) (t.1 9 m)
            refine Same.yes ?_ rfl rfl
            exact ⟨h.cN, h.cL, (congrArg (· + 1) h.cP), h.cS, h.cD, h.cC, h.rO, h.rD, h.rB, h.rY, h.rE, (eP), h.rA, h.rL, h.rS, (e14), (e15), (e16), (e17), h.r27, h.r28, h.r31, h.r32, h.r34, h.r33, h.rT, h.rW, (eC), h.rQ, h.rN, h.rK, h.pD, h.pC, h.pR, (uall' (p := fun v => vp_in v 5) h.g13 (vp_in_nI hc2 (by decide))), h.g16, h.g17, h.g8, h.g20, h.g19, h.gY, h.gD, h.gB, h.w20, h.z, h.tl, (ha3), h.tm, (BK.keep h.bk ⟨se3, fun k hk => ⟨rfl, rfl, rfl⟩⟩ h.tm rfl rfl rfl rfl (fun _ _ => rfl))⟩
          · rw [if_neg (show ¬ nI (x.2 2) < 60 from nI_nlt (b := 60) (by omega) (by omega)), if_pos (show 60 ≤ nI (t.2 4) from nI_le (a := 60) (by rw [← h.cP]; omega) (by rw [← h.cP]; omega))]
            exact Same.no h (by decide) rfl (by decide) (by decide)
        · rw [if_neg h2, if_pos (Int32.not_le.mp h2)]; exact Same.no h (by decide) rfl (by decide) (by decide)

/-! ===== a call begins ===== -/
def wyR (f w : Nat → Int32) (base n : Nat) : Nat → Int32 := fun j => if base ≤ j ∧ j < base + n then w (j - base) else f j
theorem wyR_0 (f w : Nat → Int32) (base : Nat) : wyR f w base 0 = f := funext fun j => if_neg (by omega)
theorem wyR_s (f w : Nat → Int32) (base n : Nat) : upd (wyR f w base n) (base + n) (w n) = wyR f w base (n + 1) := by
  funext j
  rw [upd_a]
  unfold wyR
  by_cases h : j = base + n
  · subst h
    rw [if_pos rfl, if_pos (show base ≤ base + n ∧ base + n < base + (n + 1) by omega), show base + n - base = n by omega]
  · rw [if_neg h]
    by_cases h2 : base ≤ j ∧ j < base + n
    · rw [if_pos h2, if_pos (show base ≤ j ∧ j < base + (n + 1) by omega)]
    · rw [if_neg h2, if_neg (show ¬ (base ≤ j ∧ j < base + (n + 1)) by omega)]
theorem cbF_n {q : XS} {c : Nat} (hc : c < 60) : ∀ n, n ≤ 5 → cbF q (nI c) n = setR q 34 (wyR (q.1 34) (q.1 35) (5 * c) n)
  | 0, _ => by rw [wyR_0, setR_self]; rfl
  | n + 1, hn => by
    have ei : nI c * 5 + nI n = nI (5 * c + n) := by
      rw [show nI c * 5 = nI (c * 5) from pk_mul c 5, nI_add, show c * 5 + n = 5 * c + n by omega]
    rw [cbF, cbF_n hc n (by omega), ei, xs_n (k := 34) (show 5 * c + n < 300 by omega), xg_n (k := 35) (show n < 5 by omega), setR_setR, setR_o (k := 34) (j := 35) _ (by decide)]
    exact congrArg (setR q 34) (wyR_s (q.1 34) (q.1 35) (5 * c) n)
theorem wyF_n {q : XS} (hc : q.2 5 < 60) : ∀ n, n ≤ 5 → wyF q n = setR q 20 (wyR (q.1 20) (q.1 23) (5 * q.2 5) n)
  | 0, _ => by rw [wyR_0, setR_self]; rfl
  | n + 1, hn => by
    rw [wyF, wyF_n hc n (by omega), i5n, mw_n (by omega), mg_n (by omega), setR_setR, setR_o (k := 20) (j := 23) _ (by decide)]
    exact congrArg (setR q 20) (wyR_s (q.1 20) (q.1 23) (5 * q.2 5) n)
theorem pcR_e {w w2 : Nat → Int32} {c : Nat} {a b : Int32} : ∀ m, (∀ i, i ≤ m → w (5 * c + i) = w2 (5 * c + i)) → pcR w c a b m = pcR w2 c a b m
  | 0, _ => rfl
  | m + 1, h => by
    have h1 := h m (by omega)
    have h2 := h (m + 1) (by omega)
    rw [← Nat.add_assoc] at h2
    rw [pcR, pcR, pcR_e m (fun i hi => h i (by omega))]
    unfold tkR
    rw [h1, h2]
theorem wiR_inv {st a b : Nat → Int32} {n : Int32} : ∀ m, m < 1000 → wiR st a b n m = -1 → ∀ j, j < m → st j = 0 → ¬ (a j = n ∨ b j = n)
  | 0, _, _, j, hj => absurd hj (by omega)
  | m + 1, hm, h, j, hj => by
    rw [wiR] at h
    by_cases hc : st m = 0 ∧ (a m = n ∨ b m = n)
    · rw [if_pos hc] at h; exact absurd h (nIm1 (by omega))
    · rw [if_neg hc] at h
      by_cases hjm : j = m
      · subst hjm; exact fun h0 z => hc ⟨h0, z⟩
      · exact wiR_inv m (by omega) h j (by omega)
def begX (q : XS) (a b f : Nat) (r13 : Nat → Int32) : XS := setR (setR (setR (setC (setR (setR (setR (setR (setR q 27 (upd (q.1 27) (q.2 6) (nI a))) 28 (upd (q.1 28) (q.2 6) (nI b))) 29 (upd (q.1 29) (q.2 6) (nI (q.2 0)))) 33 (upd (q.1 33) (q.2 6) (nI (f + 1)))) 34 (wyR (q.1 34) (q.1 35) (5 * q.2 6) (f + 1))) 6 (q.2 6 + 1)) 13 r13) 6 (upd (q.1 6) a (nI (q.2 6)))) 6 (upd (upd (q.1 6) a (nI (q.2 6))) b (nI (q.2 6)))
def begM (t : XS) (a b f : Nat) : XS := setC (setR (setR (setR (setR (setR t 16 (upd (t.1 16) (t.2 5) (nI a))) 17 (upd (t.1 17) (t.2 5) (nI b))) 18 (upd (t.1 18) (t.2 5) 0)) 19 (upd (t.1 19) (t.2 5) (nI f))) 20 (wyR (t.1 20) (t.1 23) (5 * t.2 5) (f + 1))) 5 (t.2 5 + 1)
theorem cbegin_n {q t : XS} {f : Nat} (w : WR q t f) (hc : q.2 6 < 60) (a b : Nat) : cbegin q (nI a) (nI b) (nI (q.2 0)) = setC (setR (setR (setR (setR (setR q 27 (upd (q.1 27) (q.2 6) (nI a))) 28 (upd (q.1 28) (q.2 6) (nI b))) 29 (upd (q.1 29) (q.2 6) (nI (q.2 0)))) 33 (upd (q.1 33) (q.2 6) (nI (f + 1)))) 34 (wyR (q.1 34) (q.1 35) (5 * q.2 6) (f + 1))) 6 (q.2 6 + 1) := by
  have f5 := w.f5
  have e0 : cset q (nI a) (nI b) (nI (q.2 0)) = setR (setR (setR (setR q 27 (upd (q.1 27) (q.2 6) (nI a))) 28 (upd (q.1 28) (q.2 6) (nI b))) 29 (upd (q.1 29) (q.2 6) (nI (q.2 0)))) 33 (upd (q.1 33) (q.2 6) (nI (f + 1))) := by
    unfold cset
    rw [w.lx, xs_n (k := 27) (show q.2 6 < 60 from hc), xs_n (k := 28) (show q.2 6 < 60 from hc), xs_n (k := 29) (show q.2 6 < 60 from hc), xs_n (k := 33) (show q.2 6 < 60 from hc), setR_o (k := 27) (j := 28) _ (by decide), setR_o (k := 28) (j := 29) _ (by decide), setR_o (k := 27) (j := 29) _ (by decide), setR_o (k := 29) (j := 33) _ (by decide), setR_o (k := 28) (j := 33) _ (by decide), setR_o (k := 27) (j := 33) _ (by decide)]
  unfold cbegin
  rw [e0, w.lx, cbF_n hc _ (by omega)]
  rfl
theorem xbegin_n {q t : XS} {f : Nat} (w : WR q t f) (hc : q.2 6 < 60) {a b : Nat} (ha : a < 12) (hb : b < 12) : ∃ r13, xbegin q (nI a) (nI b) f = begX q a b f r13 ∧ ∀ c d, c < d → d < 5 → r13 (5 * c + d) = q.1 13 (5 * c + d) + nI (pcR (wyR (t.1 20) (t.1 23) (5 * t.2 5) (f + 1)) (t.2 5) (nI c) (nI d) f) := by
  have f5 := w.f5
  have h := w.r
  have hC : q.2 6 = t.2 5 := h.cC
  refine ⟨(tkF (cbegin q (nI a) (nI b) (nI (q.2 0))) (nI (q.2 6)) 1 f).1 13, ?_, fun c d hcd hd => ?_⟩
  · unfold xbegin begX
    rw [tkF_eq]
    generalize (tkF (cbegin q (nI a) (nI b) (nI (q.2 0))) (nI (q.2 6)) 1 f).1 13 = r13
    rw [cbegin_n w hc, xs_n (k := 6) (show a < 12 from ha), xs_n (k := 6) (show b < 12 from hb), setR_o (k := 13) (j := 6) _ (by decide)]
    rfl
  · have h34 : ∀ i, i < 300 → (cbegin q (nI a) (nI b) (nI (q.2 0))).1 34 i = wyR (t.1 20) (t.1 23) (5 * t.2 5) (f + 1) i := fun i hi => by
      rw [cbegin_n w hc]
      show wyR (q.1 34) (q.1 35) (5 * q.2 6) (f + 1) i = _
      rw [hC]
      unfold wyR
      by_cases hr : 5 * t.2 5 ≤ i ∧ i < 5 * t.2 5 + (f + 1)
      · rw [if_pos hr, if_pos hr]; exact w.e _ (by omega)
      · rw [if_neg hr, if_neg hr]; exact h.r34 i hi
    have hg : ∀ i, vp_in (wyR (t.1 20) (t.1 23) (5 * t.2 5) (f + 1) i) 5 := fun i => by
      unfold wyR
      by_cases hr : 5 * t.2 5 ≤ i ∧ i < 5 * t.2 5 + (f + 1)
      · rw [if_pos hr]; exact w.d.1 _ (by omega)
      · rw [if_neg hr]; exact h.g20 i
    have hd2 : ∀ i, i < f → ¬ wyR (t.1 20) (t.1 23) (5 * t.2 5) (f + 1) (5 * t.2 5 + i) = wyR (t.1 20) (t.1 23) (5 * t.2 5) (f + 1) (5 * t.2 5 + i + 1) := fun i hi => by
      unfold wyR
      rw [if_pos (by omega), if_pos (by omega), show 5 * t.2 5 + i - 5 * t.2 5 = i by omega, show 5 * t.2 5 + i + 1 - 5 * t.2 5 = i + 1 by omega]
      exact w.d.2 i (i + 1) (by omega) (by omega)
    have e13 := tkF_13 (q := cbegin q (nI a) (nI b) (nI (q.2 0))) (w := wyR (t.1 20) (t.1 23) (5 * t.2 5) (f + 1)) (k := t.2 5) (by omega) h34 hg 1 hcd hd f (by omega) hd2
    rw [hC, e13, cbegin_n w hc, Int32.mul_one]
    rfl
theorem mbR_n {q t : XS} {f : Nat} (w : WR q t f) (hc : t.2 5 < 60) (a b : Nat) : mbR t (nI a) (nI b) = begM t a b f := by
  have f5 := w.f5
  have e0 : mbQ t (nI a) (nI b) = setR (setR (setR (setR t 16 (upd (t.1 16) (t.2 5) (nI a))) 17 (upd (t.1 17) (t.2 5) (nI b))) 18 (upd (t.1 18) (t.2 5) 0)) 19 (upd (t.1 19) (t.2 5) (nI f)) := by
    unfold mbQ
    rw [w.lt, mw_n (by omega), mw_n (by omega), mw_n (by omega), mw_n (by omega), setR_o (k := 16) (j := 17) _ (by decide), setR_o (k := 17) (j := 18) _ (by decide), setR_o (k := 16) (j := 18) _ (by decide), setR_o (k := 18) (j := 19) _ (by decide), setR_o (k := 17) (j := 19) _ (by decide), setR_o (k := 16) (j := 19) _ (by decide)]
  unfold mbR begM
  rw [e0, w.lt, wyF_n (q := setR (setR (setR (setR t 16 (upd (t.1 16) (t.2 5) (nI a))) 17 (upd (t.1 17) (t.2 5) (nI b))) 18 (upd (t.1 18) (t.2 5) 0)) 19 (upd (t.1 19) (t.2 5) (nI f))) hc _ (by omega)]
  rfl

theorem rx_begun {x t : XS} {f a b : Nat} (w : WR x t f) (hc : x.2 6 < 60) (ha : a < 12) (hb : b < 12) (fa : x.1 6 a = -1) (fb : x.1 6 b = -1) {r13 : Nat → Int32} (h13 : ∀ c d, c < d → d < 5 → r13 (5 * c + d) = x.1 13 (5 * c + d) + nI (pcR (wyR (t.1 20) (t.1 23) (5 * t.2 5) (f + 1)) (t.2 5) (nI c) (nI d) f)) : RX (begX x a b f r13) (begM t a b f) := by
  have h := w.r
  have f5 := w.f5
  have h20 := h.n20
  have hC : t.2 5 = x.2 6 := h.cC.symm
  have he : HE x (begX x a b f r13) := HE.of (fun j h1 h2 => by unfold begX; rw [setR_o _ (by omega), setR_o _ (by omega), setR_o _ (by omega), setC_1, setR_o _ (by omega), setR_o _ (by omega), setR_o _ (by omega), setR_o _ (by omega), setR_o _ (by omega)]) (fun j h1 h2 => (if_neg (by omega)).symm)
  obtain ⟨z1, z2, z3⟩ := h.z (x.2 6) (Nat.le_refl _) hc
  have hna := wiR_inv _ (by have := h.c60; rw [hC]; omega) ((h.rW a ha).symm.trans fa)
  have hnb := wiR_inv _ (by have := h.c60; rw [hC]; omega) ((h.rW b hb).symm.trans fb)
  rw [hC] at hna hnb
  have e27 : ∀ k, k < 60 → upd (x.1 27) (x.2 6) (nI a) k = upd (t.1 16) (t.2 5) (nI a) k := by rw [hC]; exact equ h.r27 rfl
  have e28 : ∀ k, k < 60 → upd (x.1 28) (x.2 6) (nI b) k = upd (t.1 17) (t.2 5) (nI b) k := by rw [hC]; exact equ h.r28 rfl
  have e31 : ∀ k, k < 60 → x.1 31 k = upd (t.1 18) (t.2 5) 0 k := fun k hk => by
    rw [hC, upd_a]
    by_cases hkc : k = x.2 6
    · rw [if_pos hkc, hkc]; exact z1
    · rw [if_neg hkc]; exact h.r31 k hk
  have e34 : ∀ k, k < 300 → wyR (x.1 34) (x.1 35) (5 * x.2 6) (f + 1) k = wyR (t.1 20) (t.1 23) (5 * t.2 5) (f + 1) k := fun k hk => by
    rw [hC]
    unfold wyR
    by_cases hr : 5 * x.2 6 ≤ k ∧ k < 5 * x.2 6 + (f + 1)
    · rw [if_pos hr, if_pos hr]; exact w.e _ (by omega)
    · rw [if_neg hr, if_neg hr]; exact h.r34 k hk
  have e33 : ∀ k, k < x.2 6 + 1 → upd (x.1 33) (x.2 6) (nI (f + 1)) k = upd (t.1 19) (t.2 5) (nI f) k + 1 := fun k hk => by
    rw [hC, upd_a, upd_a]
    by_cases hkc : k = x.2 6
    · rw [if_pos hkc, if_pos hkc, nI_1]
    · rw [if_neg hkc, if_neg hkc]; exact h.r33 k (by omega)
  have eb : ∀ k, bN (begX x a b f r13) k = if k = x.2 6 then x.2 0 else bN x k := fun k => by
    show (upd (x.1 29) (x.2 6) (nI (x.2 0)) k).toNatClampNeg = _
    rw [upd_a]
    by_cases hkc : k = x.2 6
    · rw [if_pos hkc, if_pos hkc, nI_clamp (by omega)]
    · rw [if_neg hkc, if_neg hkc]; rfl
  have ee : ∀ k, eN (begX x a b f r13) k = eN x k := fun k => rfl
  have een : eN x (x.2 6) = x.2 0 := by unfold eN; rw [if_pos z1]
  have eT : ∀ k, k < x.2 6 + 1 → t.1 21 k = nI (eN (begX x a b f r13) k - bN (begX x a b f r13) k) := fun k hk => by
    rw [ee, eb]
    by_cases hkc : k = x.2 6
    · rw [if_pos hkc, hkc, een, Nat.sub_self, nI_0]; exact z3
    · rw [if_neg hkc]; exact h.rT k (by omega)
  have eW : ∀ n, n < 12 → upd (upd (x.1 6) a (nI (x.2 6))) b (nI (x.2 6)) n = wiR (upd (t.1 18) (t.2 5) 0) (upd (t.1 16) (t.2 5) (nI a)) (upd (t.1 17) (t.2 5) (nI b)) (nI n) (t.2 5 + 1) := fun n hn => by
    rw [wiR, pk_us, pk_us, pk_us, upd_a, upd_a, hC]
    by_cases h1 : n = b
    · rw [if_pos h1, if_pos ⟨rfl, Or.inr (by rw [h1])⟩]
    · rw [if_neg h1]
      by_cases h2 : n = a
      · rw [if_pos h2, if_pos ⟨rfl, Or.inl (by rw [h2])⟩]
      · rw [if_neg h2, if_neg (fun z => z.2.elim (fun y => h2 (nI_eqI (by omega) (by omega) y).symm) (fun y => h1 (nI_eqI (by omega) (by omega) y).symm)), h.rW n hn, hC]
        exact wiR_e _ (fun j hj => by rw [pk_un (by omega), pk_un (by omega), pk_un (by omega)])
  have eU : ∀ c d, ucR (wyR (t.1 20) (t.1 23) (5 * t.2 5) (f + 1)) (upd (t.1 18) (t.2 5) 0) (fun k => (upd (t.1 19) (t.2 5) (nI f) k).toNatClampNeg) c d (t.2 5 + 1) = ucR (t.1 20) (t.1 18) (fun k => (t.1 19 k).toNatClampNeg) c d (t.2 5) + pcR (wyR (t.1 20) (t.1 23) (5 * t.2 5) (f + 1)) (t.2 5) c d f := fun c d => by
    rw [ucR, pk_us, if_pos rfl, pk_us, nI_clamp (by omega)]
    refine congrArg (· + pcR (wyR (t.1 20) (t.1 23) (5 * t.2 5) (f + 1)) (t.2 5) c d f) (ucR_e _ (fun j hj => ?_))
    have hl4 := (h.g19 j).2
    rw [pk_un (by omega), pk_un (by omega)]
    refine ⟨rfl, rfl, pcR_e _ (fun i hi => ?_)⟩
    unfold wyR
    rw [if_neg (by omega)]
  have eK : ∀ c d, c < d → d < 5 → r13 (5 * c + d) = nI (ucR (wyR (t.1 20) (t.1 23) (5 * t.2 5) (f + 1)) (upd (t.1 18) (t.2 5) 0) (fun k => (upd (t.1 19) (t.2 5) (nI f) k).toNatClampNeg) (nI c) (nI d) (t.2 5 + 1)) := fun c d hcd hd => by
    rw [h13 c d hcd hd, eU, h.rK c d hcd hd, nI_add]
  have eg20 : ∀ i, vp_in (wyR (t.1 20) (t.1 23) (5 * t.2 5) (f + 1) i) 5 := fun i => by
    unfold wyR
    by_cases hr : 5 * t.2 5 ≤ i ∧ i < 5 * t.2 5 + (f + 1)
    · rw [if_pos hr]; exact w.d.1 _ (by omega)
    · rw [if_neg hr]; exact h.g20 i
  have eg19 : ∀ k, upd (t.1 19) (t.2 5) (nI f) k = nI ((upd (t.1 19) (t.2 5) (nI f) k).toNatClampNeg) ∧ (upd (t.1 19) (t.2 5) (nI f) k).toNatClampNeg ≤ 4 :=
    uall' (p := fun v => v = nI (v.toNatClampNeg) ∧ v.toNatClampNeg ≤ 4) h.g19 (by rw [nI_clamp (by omega)]; exact ⟨rfl, by omega⟩)
  have ew20 : ∀ k, k < x.2 6 + 1 → ∀ i j, i < j → j ≤ (upd (t.1 19) (t.2 5) (nI f) k).toNatClampNeg → ¬ wyR (t.1 20) (t.1 23) (5 * t.2 5) (f + 1) (5 * k + i) = wyR (t.1 20) (t.1 23) (5 * t.2 5) (f + 1) (5 * k + j) := fun k hk i j hij hj => by
    rw [hC] at hj ⊢
    rw [upd_a] at hj
    unfold wyR
    by_cases hkc : k = x.2 6
    · rw [if_pos hkc, nI_clamp (by omega)] at hj
      subst hkc
      rw [if_pos (by omega), if_pos (by omega), show 5 * x.2 6 + i - 5 * x.2 6 = i by omega, show 5 * x.2 6 + j - 5 * x.2 6 = j by omega]
      exact w.d.2 i j hij hj
    · rw [if_neg hkc] at hj
      have := (h.g19 k).2
      rw [if_neg (by omega), if_neg (by omega)]
      exact h.w20 k (by omega) i j hij hj
  have eZ : ∀ k, x.2 6 + 1 ≤ k → k < 60 → x.1 31 k = 0 ∧ x.1 32 k = 0 ∧ t.1 21 k = 0 := fun k h1 h2 => h.z k (by omega) h2
  have eTl : ∀ i j, i < x.2 6 + 1 → j < x.2 6 + 1 → ¬ j = i → upd (t.1 18) (t.2 5) 0 i = 0 → upd (t.1 18) (t.2 5) 0 j = 0 → ¬ upd (t.1 16) (t.2 5) (nI a) i = upd (t.1 16) (t.2 5) (nI a) j ∧ ¬ upd (t.1 16) (t.2 5) (nI a) i = upd (t.1 17) (t.2 5) (nI b) j ∧ ¬ upd (t.1 17) (t.2 5) (nI b) i = upd (t.1 16) (t.2 5) (nI a) j ∧ ¬ upd (t.1 17) (t.2 5) (nI b) i = upd (t.1 17) (t.2 5) (nI b) j := fun i j hi hj hij s1 s2 => by
    rw [hC] at s1 s2 ⊢
    rw [upd_a] at s1 s2
    rw [upd_a, upd_a, upd_a, upd_a]
    by_cases hi2 : i = x.2 6
    · have hj2 : ¬ j = x.2 6 := fun z => hij (z.trans hi2.symm)
      rw [if_neg hj2] at s2
      rw [if_pos hi2, if_neg hj2, if_pos hi2, if_neg hj2]
      have n1 := hna j (by omega) s2
      have n2 := hnb j (by omega) s2
      exact ⟨fun z => n1 (Or.inl z.symm), fun z => n1 (Or.inr z.symm), fun z => n2 (Or.inl z.symm), fun z => n2 (Or.inr z.symm)⟩
    · rw [if_neg hi2] at s1
      by_cases hj2 : j = x.2 6
      · rw [if_neg hi2, if_pos hj2, if_neg hi2, if_pos hj2]
        have n1 := hna i (by omega) s1
        have n2 := hnb i (by omega) s1
        exact ⟨fun z => n1 (Or.inl z), fun z => n2 (Or.inl z), fun z => n1 (Or.inr z), fun z => n2 (Or.inr z)⟩
      · rw [if_neg hj2] at s2
        rw [if_neg hi2, if_neg hj2, if_neg hi2, if_neg hj2]
        exact h.tl i j (by omega) (by omega) hij s1 s2
  have eTM : TM (begX x a b f r13) := ⟨by show x.2 6 + 1 ≤ 60; omega, fun k hk => by
    have hk2 : k < x.2 6 + 1 := hk
    show upd (x.1 29) (x.2 6) (nI (x.2 0)) k = nI (bN (begX x a b f r13) k) ∧ (¬ x.1 31 k = 0 → x.1 30 k = nI (eN x k)) ∧ bN (begX x a b f r13) k ≤ eN x k ∧ eN x k ≤ x.2 0
    rw [eb, upd_a]
    by_cases hkc : k = x.2 6
    · rw [if_pos hkc, if_pos hkc, hkc, een]
      exact ⟨rfl, fun z => absurd z1 z, Nat.le_refl _, Nat.le_refl _⟩
    · rw [if_neg hkc, if_neg hkc]
      exact h.tm.2 k (by omega)⟩
  have eBK : BK (begX x a b f r13) := BK.more h.bk ⟨he.se h.ha, fun k hk => ⟨pk_un (by omega), by rw [eb, if_neg (by omega)], rfl⟩⟩ h.tm rfl (fun k hk => rfl) z2 (by rw [ee, eb, if_pos rfl, een]) rfl rfl rfl rfl
  exact ⟨h.cN, h.cL, h.cP, h.cS, h.cD, (congrArg (· + 1) h.cC), h.rO, h.rD, h.rB, h.rY, h.rE, h.rP, h.rA, h.rL, h.rS, h.r14, h.r15, h.r16, h.r17, (e27), (e28), (e31), h.r32, (e34), (e33), (eT), (eW), h.rC, h.rQ, h.rN, (eK), h.pD, h.pC, h.pR, h.g13, (uall' (p := fun v => vp_in v 12) h.g16 (vp_in_nI ha (by decide))), (uall' (p := fun v => vp_in v 12) h.g17 (vp_in_nI hb (by decide))), h.g8, (eg20), (eg19), h.gY, h.gD, h.gB, (ew20), (eZ), (eTl), (he.ha h.ha), (eTM), (eBK)⟩
theorem s_call {x t : XS} (h : RX x t) (a b : Int32) : Same (ka 1 2 3) (xCall x a b ((mcomes (z0 t) a b (lm t)).1.2 7)) (mCall t a b (lm t)) := by
  unfold xCall mCall
  by_cases h1 : noN a
  · rw [if_pos h1, if_pos h1]; exact Same.no h (by decide) rfl (by decide) (by decide)
  · rw [if_neg h1, if_neg h1]
    by_cases h2 : noN b
    · rw [if_pos h2, if_pos h2]; exact Same.no h (by decide) rfl (by decide) (by decide)
    · rw [if_neg h2, if_neg h2]
      by_cases h3 : a = b
      · rw [if_pos h3, if_pos h3]; exact Same.no h (by decide) rfl (by decide) (by decide)
      · rw [if_neg h3, if_neg h3]
        obtain ⟨i, hi, rfl⟩ := nN h1
        obtain ⟨j, hj, rfl⟩ := nN h2
        have h6 := h.c60
        have wi : ∀ n, n < 12 → mwith t (nI n) = x.1 6 n := fun n hn => (mcF_r _).trans (h.rW n hn).symm
        rw [xg_n (k := 6) (show i < 12 from hi), xg_n (k := 6) (show j < 12 from hj), wi i hi, wi j hj, xg_n (k := 5) (show i < 12 from hi), mg_n (i := i) (by omega), ← h.rY i hi]
        by_cases c1 : x.1 6 i = -1
        · rw [if_pos c1, if_pos c1]
          by_cases c2 : x.1 6 j = -1
          · rw [if_pos c2, if_pos c2]
            by_cases c3 : x.1 5 i = 0
            · rw [if_pos c3, if_pos c3]
              by_cases c4 : x.2 6 < 60
              · have g4 : nI (x.2 6) < 60 := nI_lt (b := 60) c4 (by decide)
                have g5 : ¬ 60 ≤ nI (t.2 5) := by rw [← h.cC]; exact nI_ge (b := 60) c4 (by decide)
                rw [if_pos g4, if_neg g5]
                obtain ⟨w0, e0⟩ := xfind_n (h.z0 0) hi hj
                have w : WR (xfind x (nI i) (nI j)).1 (mcomes (z0 t) (nI i) (nI j) (lm t)).1 ((mcomes (z0 t) (nI i) (nI j) (lm t)).1.2 7) := w0
                have e' : (xfind x (nI i) (nI j)).2 = (mcomes (z0 t) (nI i) (nI j) (lm t)).2 := e0
                have hz : (mcomes (z0 t) (nI i) (nI j) (lm t)).1.2 0 = 0 := mcomes_c 0 (by decide)
                have f5 := w.f5
                rw [e']
                by_cases h0 : (mcomes (z0 t) (nI i) (nI j) (lm t)).2 = 0
                · rw [if_pos h0, if_pos h0, w.lx]
                  have hl := w.r.lost 1
                  have hl' : RX (xLq x (nI i) (nI j)) (mlost (mcomes (z0 t) (nI i) (nI j) (lm t)).1) := hl
                  by_cases hf : (mcomes (z0 t) (nI i) (nI j) (lm t)).1.2 7 = 0
                  · have q1 : nI ((mcomes (z0 t) (nI i) (nI j) (lm t)).1.2 7 + 1) ≤ 1 := by rw [hf]; decide +kernel
                    have q2 : nI ((mcomes (z0 t) (nI i) (nI j) (lm t)).1.2 7) ≤ 0 := by rw [hf]; decide +kernel
                    rw [if_pos q1, if_pos q2]
                    exact Same.yes hl' hz rfl
                  · have q1 : ¬ nI ((mcomes (z0 t) (nI i) (nI j) (lm t)).1.2 7 + 1) ≤ 1 := nI_ge (a := 1) (by omega) (by omega)
                    have q2 : ¬ nI ((mcomes (z0 t) (nI i) (nI j) (lm t)).1.2 7) ≤ 0 := nI_nle (by omega) (by omega)
                    rw [if_neg q1, if_neg q2]
                    obtain ⟨u, hu, eu⟩ := vp_in_of (w.d.1 _ (Nat.le_refl _)) (by decide)
                    obtain ⟨v, hv, ev⟩ := vp_in_of (w.d.1 0 (Nat.zero_le _)) (by decide)
                    have k1 : wlast (xLq x (nI i) (nI j)) = nI u := (wlast_n w).trans eu
                    have k2 : xg (xLq x (nI i) (nI j)) 35 0 = nI v := by
                      rw [show (0 : Int32) = nI 0 from nI_0.symm, xg_n (k := 35) (show 0 < 5 by decide)]
                      exact (w.e 0 (Nat.zero_le _)).trans ev
                    have k3 : coA (mcomes (z0 t) (nI i) (nI j) (lm t)).1 = nI u := (mg_n (by omega)).trans eu
                    have k4 : mg (mcomes (z0 t) (nI i) (nI j) (lm t)).1 23 0 = nI v := by
                      rw [show (0 : Int32) = nI 0 from nI_0.symm, mg_n (by decide)]; exact ev
                    rw [k1, k2, k3, k4]
                    exact Same.yes (hl'.loss hu hv) (by rw [mpay_n hu hv]; exact hz) rfl
                · rw [if_neg h0, if_neg h0]
                  have hc2 : (mcomes (z0 t) (nI i) (nI j) (lm t)).1.2 5 = t.2 5 := mcomes_c 5 (by decide)
                  have hx6 : (xfind x (nI i) (nI j)).1.2 6 = x.2 6 := w.r.cC.trans (hc2.trans h.cC.symm)
                  obtain ⟨r13, e1, e2⟩ := xbegin_n w (by rw [hx6]; exact c4) hi hj
                  rw [e1, mbR_n w (by rw [hc2, ← h.cC]; exact c4)]
                  have k6 : ∀ n, n < 12 → (xfind x (nI i) (nI j)).1.1 6 n = x.1 6 n := fun n hn => by
                    rw [w.r.rW n hn, h.rW n hn, mcomes_r 18 (by decide), mcomes_r 16 (by decide), mcomes_r 17 (by decide), hc2]
                    rfl
                  exact Same.yes (rx_begun w (by rw [hx6]; exact c4) hi hj ((k6 i hi).trans c1) ((k6 j hj).trans c2) e2) hz (congrArg nI w.r.cC)
              · have g4 : ¬ nI (x.2 6) < 60 := nI_nlt (b := 60) (by omega) (by omega)
                have g5 : 60 ≤ nI (t.2 5) := by rw [← h.cC]; exact nI_le (a := 60) (by omega) (by omega)
                rw [if_neg g4, if_pos g5]; exact Same.no h (by decide) rfl (by decide) (by decide)
            · rw [if_neg c3, if_neg c3]; exact Same.no h (by decide) rfl (by decide) (by decide)
          · rw [if_neg c2, if_neg c2]; exact Same.no h (by decide) rfl (by decide) (by decide)
        · rw [if_neg c1, if_neg c1]; exact Same.no h (by decide) rfl (by decide) (by decide)

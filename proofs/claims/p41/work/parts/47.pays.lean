/-! ===== paying and porting ===== -/
theorem setR_setR (q : XS) (k : Nat) (f g : Nat → Int32) : setR (setR q k f) k g = setR q k g := by
  refine Prod.ext (funext fun j => ?_) rfl
  show (if j = k then g else if j = k then f else q.1 j) = if j = k then g else q.1 j
  by_cases h : j = k
  · rw [if_pos h, if_pos h]
  · rw [if_neg h, if_neg h, if_neg h]
theorem mplace_l (q : XS) (n s : Int32) : mplace q n s = lastV (q.1 12) (q.1 14) (q.1 13) n s (n - n / 5 * 5) (q.2 4) := piF_last _
theorem mplace_e {q p : XS} (e12 : p.1 12 = q.1 12) (e13 : p.1 13 = q.1 13) (e14 : p.1 14 = q.1 14) (e4 : p.2 4 = q.2 4) (n s : Int32) : mplace p n s = mplace q n s := by
  rw [mplace_l, mplace_l, e12, e13, e14, e4]
theorem xset1_n {q : XS} {m cc : Nat} (hm : m < 12) (hc : cc < 5) (h0 : q.1 0 m = nI cc) (v : Int32) : xset1 q (nI m) v = setR (setR (setR q 2 (upd (q.1 2) m (q.1 2 m + -v))) 3 (upd (q.1 3) m (q.1 3 m + v))) 8 (upd (q.1 8) cc (q.1 8 cc + v)) := by
  unfold xset1
  rw [xad_n (k := 2) (show m < 12 from hm), xad_n (k := 3) (show m < 12 from hm), xg_n (k := 0) (show m < 12 from hm)]
  have e0 : (setR (setR q 2 (upd (q.1 2) m (q.1 2 m + -v))) 3 (upd ((setR q 2 (upd (q.1 2) m (q.1 2 m + -v))).1 3) m ((setR q 2 (upd (q.1 2) m (q.1 2 m + -v))).1 3 m + v))).1 0 m = nI cc := h0
  rw [e0, xad_n (k := 8) (show cc < 5 from hc)]
  rfl
theorem xsettle_n {q : XS} {m cc d p : Nat} (hm : m < 12) (hc : cc < 5) (h0 : q.1 0 m = nI cc) (hd : q.1 2 m = nI d) (hp : p ≤ d) (hb : d < 2 ^ 31) :
    xg (xset1 q (nI m) (nI p)) 2 (nI m) = nI (d - p) ∧ xsettle q (nI m) (nI p) = setR (setR (setR (setR q 2 (upd (q.1 2) m (nI (d - p)))) 3 (upd (q.1 3) m (q.1 3 m + nI p))) 8 (upd (q.1 8) cc (q.1 8 cc + nI p))) 5 (if d - p = 0 then upd (q.1 5) m 0 else q.1 5) := by
  have ed : nI d + -nI p = nI (d - p) := by rw [← Int32.sub_eq_add_neg, pk_sub hp]
  have e1 := xset1_n hm hc h0 (nI p)
  rw [hd, ed] at e1
  have e2 : xg (xset1 q (nI m) (nI p)) 2 (nI m) = nI (d - p) := by
    rw [e1, xg_n (k := 2) (show m < 12 from hm)]; exact pk_us
  refine ⟨e2, ?_⟩
  unfold xsettle
  rw [e2]
  by_cases hz : d - p = 0
  · rw [if_pos hz, hz, nI_0, if_pos rfl, e1, hz, nI_0, xs_n (k := 5) (show m < 12 from hm)]; rfl
  · rw [if_neg hz, if_neg (nI_ne0 (by omega) (by omega)), e1]
    exact (setR_self _ 5).symm
theorem msettle_n {q : XS} {m cc d p : Nat} (hm : m < 12) (hc : cc < 5) (h0 : mplace q (nI m) 20000 = nI cc) (hd : q.1 9 m = nI d) (hp : p ≤ d) (hb : d < 2 ^ 31) :
    mg (msettle q (nI m) (nI p)) 9 (nI m) = nI (d - p) ∧ msettle q (nI m) (nI p) = setR (setR (setR q 9 (upd (q.1 9) m (nI (d - p)))) 4 (upd (q.1 4) cc (q.1 4 cc + nI p))) 11 (upd (q.1 11) m (if q.1 11 m = 0 then 0 else if d - p = 0 then 0 else 1)) := by
  have e1 : mset1 q (nI m) (nI p) = setR q 9 (upd (q.1 9) m (nI (d - p))) := by
    unfold mset1
    rw [mg_n (by omega), mw_n (by omega), hd, pk_sub hp]
  have e0 : mplace (setR q 9 (upd (q.1 9) m (nI (d - p)))) (nI m) 20000 = nI cc := (mplace_e (q := q) (p := setR q 9 (upd (q.1 9) m (nI (d - p)))) rfl rfl rfl rfl _ _).trans h0
  have e2 : mset2 q (nI m) (nI p) = setR (setR q 9 (upd (q.1 9) m (nI (d - p)))) 4 (upd (q.1 4) cc (q.1 4 cc + nI p)) := by
    unfold mset2
    rw [e1, e0, mg_n (by omega), mw_n (by omega)]
    rfl
  have e3 : msettle q (nI m) (nI p) = setR (setR (setR q 9 (upd (q.1 9) m (nI (d - p)))) 4 (upd (q.1 4) cc (q.1 4 cc + nI p))) 11 (upd (q.1 11) m (if q.1 11 m = 0 then 0 else if d - p = 0 then 0 else 1)) := by
    unfold msettle
    rw [e2, mg_n (by omega), mg_n (by omega), mw_n (by omega), mw_n (by omega)]
    have a1 : (setR (setR q 9 (upd (q.1 9) m (nI (d - p)))) 4 (upd (q.1 4) cc (q.1 4 cc + nI p))).1 11 = q.1 11 := rfl
    have a2 : (setR (setR q 9 (upd (q.1 9) m (nI (d - p)))) 4 (upd (q.1 4) cc (q.1 4 cc + nI p))).1 9 m = nI (d - p) := pk_us
    rw [a1, a2]
    by_cases hz : q.1 11 m = 0
    · rw [if_pos hz, if_pos hz]
    · rw [if_neg hz, if_neg hz]
      by_cases h2 : d - p = 0
      · rw [if_pos h2, h2, nI_0, if_pos (Int32.le_refl _)]
      · rw [if_neg h2, if_neg (nI_nle (by omega) (by omega))]
  refine ⟨?_, e3⟩
  rw [e3, mg_n (by omega)]
  exact pk_us
theorem RX.settled {x t : XS} (h : RX x t) {m d p cc : Nat} {fb gb f g0 g : Nat → Int32} (hm : m < 12) (hd : x.1 2 m = nI d) (hp : p ≤ d) (hd31 : d < 2 ^ 31) (hb : ∀ n, n < 12 → fb n = gb n) (hb2 : ∀ n, n < 12 → ∃ b, b ≤ 5000 ∧ fb n = nI b) (hf : ∀ n, n < 12 → f n = g n) (hg : ∀ n, n < 12 → g n = 0 ∨ g n = 1) (hcc : cc < 5) :
    RX (setR (setR (setR (setR (setR x 4 fb) 2 (upd (x.1 2) m (nI (d - p)))) 3 (upd (x.1 3) m (x.1 3 m + nI p))) 8 (upd (x.1 8) cc (x.1 8 cc + nI p))) 5 f) (setR (setR (setR (setR (setR t 10 gb) 11 g0) 9 (upd (t.1 9) m (nI (d - p)))) 4 (upd (t.1 4) cc (t.1 4 cc + nI p))) 11 g) := by
  have he : HE x (setR (setR (setR (setR (setR x 4 fb) 2 (upd (x.1 2) m (nI (d - p)))) 3 (upd (x.1 3) m (x.1 3 m + nI p))) 8 (upd (x.1 8) cc (x.1 8 cc + nI p))) 5 f) := HE.of (fun k h1 h2 => by simp only [setR_1, setC_1]; repeat rw [if_neg (by omega)]) (fun k h1 h2 => by simp only [setR_2, setC_2]; repeat rw [if_neg (by omega)])
  have he2 : ∀ n, n < 12 → upd (x.1 2) m (nI (d - p)) n + upd (x.1 3) m (x.1 3 m + nI p) n = x.1 2 n + x.1 3 n := fun n hn => by
    rw [upd_a, upd_a]
    by_cases hnm : n = m
    · subst hnm
      rw [if_pos rfl, if_pos rfl, hd, ← pk_sub hp]
      grind
    · rw [if_neg hnm, if_neg hnm]
  have hgd : ∃ k, nI (d - p) = nI k ∧ k ≤ 540 * x.2 0 := by
    obtain ⟨k, e1, e2⟩ := h.gD m hm
    have := h.n20
    rw [hd] at e1
    have := nI_eqI hd31 (by omega) e1
    exact ⟨d - p, rfl, by omega⟩
  exact ⟨h.cN, h.cL, h.cP, h.cS, h.cD, h.cC, h.rO, (equ h.rD rfl), (hb), (hf), h.rE, (equ h.rP (by rw [h.rP cc hcc])), h.rA, h.rL, h.rS, h.r14, h.r15, h.r16, h.r17, h.r27, h.r28, h.r31, h.r32, h.r34, h.r33, h.rT, h.rW, h.rC, h.rQ, h.rN, h.rK, h.pD, h.pC, h.pR, h.g13, h.g16, h.g17, h.g8, h.g20, h.g19, (hg), (uall (p := fun v => ∃ k, v = nI k ∧ k ≤ 540 * x.2 0) h.gD hgd), (hb2), h.w20, h.z, h.tl, (he.ha h.ha), h.tm, (BK.he h he ⟨rfl, rfl, rfl, rfl, rfl, rfl, rfl⟩ ⟨rfl, rfl⟩ he2)⟩
theorem barf {t : XS} {x5 : Nat → Int32} {m z : Nat} (h : ∀ n, n < 12 → x5 n = t.1 11 n) (hg : ∀ n, n < 12 → t.1 11 n = 0 ∨ t.1 11 n = 1) (hm : m < 12) : ∀ n, n < 12 → (if z = 0 then upd x5 m 0 else x5) n = upd (t.1 11) m (if t.1 11 m = 0 then 0 else if z = 0 then 0 else 1) n := fun n hn => by
  rw [upd_a]
  by_cases hz : z = 0
  · rw [if_pos hz, if_pos hz, ite_self, upd_a, h n hn]
  · rw [if_neg hz, if_neg hz, h n hn]
    by_cases hnm : n = m
    · subst hnm
      rw [if_pos rfl]
      rcases hg n hn with h0 | h0
      · rw [if_pos h0, h0]
      · rw [if_neg (by rw [h0]; decide), h0]
    · rw [if_neg hnm]
theorem s_pay {x t : XS} (h : RX x t) (n c : Int32) : Same (ka 1 2 0) (xPay x n c) (mPay t n c) := by
  unfold xPay mPay
  by_cases hn : noN n
  · rw [if_pos hn, if_pos hn]; exact Same.no h (by decide) rfl (by decide) (by decide)
  · rw [if_neg hn, if_neg hn]
    obtain ⟨m, hm, rfl⟩ := nN hn
    obtain ⟨d, ed, hd⟩ := h.gD m hm
    have h20 := h.n20
    rw [xg_n (k := 2) (show m < 12 from hm), mg_n (q := t) (by omega), ← h.rD m hm, ed]
    by_cases hs : noW c 1 (nI d)
    · rw [if_pos hs, if_pos hs]; exact Same.no h (by decide) rfl (by decide) (by decide)
    · rw [if_neg hs, if_neg hs]
      obtain ⟨p, hp1, hp, rfl⟩ := nW (a := 1) (b := d) (by omega) (by decide) hs
      obtain ⟨cc, hcc, e0⟩ := x0_in h hm
      obtain ⟨v1, a1⟩ := xsettle_n (q := x) hm hcc e0 ed hp (by omega)
      obtain ⟨v2, a2⟩ := msettle_n (q := z0 t) hm hcc ((mplace_n (h.z0 0) hm).trans e0) ((h.rD m hm).symm.trans ed) hp (by omega)
      rw [v1, v2, a1, a2]
      refine Same.yes ?_ rfl rfl
      have hY : ∀ k, k < 12 → upd (t.1 11) m (if t.1 11 m = 0 then 0 else if d - p = 0 then 0 else 1) k = 0 ∨ upd (t.1 11) m (if t.1 11 m = 0 then 0 else if d - p = 0 then 0 else 1) k = 1 :=
        uall (p := fun v => v = 0 ∨ v = 1) h.gY (by split; exact Or.inl rfl; split; exact Or.inl rfl; exact Or.inr rfl)
      have H := (h.z0 0).settled (fb := x.1 4) (gb := t.1 10) (g0 := t.1 11) hm ed hp (by omega) h.rB h.gB (barf (z := d - p) h.rY h.gY hm) hY hcc
      rw [setR_self x 4, show t.1 10 = (setC t 0 0).1 10 from rfl, setR_self (setC t 0 0) 10, show t.1 11 = (setC t 0 0).1 11 from rfl, setR_self (setC t 0 0) 11] at H
      exact H
theorem s_judge {x t : XS} (h : RX x t) (n : Int32) : Same (ka 1 0 2) (xJudge x n) (mJudge t n) := by
  unfold xJudge mJudge
  by_cases hn : noN n
  · rw [if_pos hn, if_pos hn]; exact Same.no h (by decide) rfl (by decide) (by decide)
  · rw [if_neg hn, if_neg hn]
    obtain ⟨m, hm, rfl⟩ := nN hn
    obtain ⟨d, ed, hd⟩ := h.gD m hm
    obtain ⟨b, hb, eb⟩ := h.gB m hm
    have h20 := h.n20
    have ex2 : xg x 2 (nI m) = nI d := (xg_n (k := 2) (show m < 12 from hm)).trans ed
    have ex4 : xg x 4 (nI m) = nI b := (xg_n (k := 4) (show m < 12 from hm)).trans eb
    have em9 : mg t 9 (nI m) = nI d := (mg_n (by omega)).trans ((h.rD m hm).symm.trans ed)
    have em10 : mg t 10 (nI m) = nI b := (mg_n (by omega)).trans ((h.rB m hm).symm.trans eb)
    rw [ex2, em9]
    by_cases h0 : d = 0
    · subst h0
      rw [if_neg (by decide), if_pos (by decide)]; exact Same.no h (by decide) rfl (by decide) (by decide)
    · have h1 : (0 : Int32) < nI d := nI_lt (a := 0) (by omega) (by omega)
      rw [if_pos h1, if_neg (nI_nle (by omega) (by omega))]
      have emn : mn (xg x 4 (nI m)) (nI d) = nI (min b d) := by rw [ex4, mn_n (by omega) (by omega)]
      have ejs : mjS t (nI m) = nI (min b d) := by
        unfold mjS
        rw [em9, em10]
        by_cases hdb : d ≤ b
        · rw [if_pos (nI_le hdb (by omega)), Nat.min_eq_right hdb]
        · rw [if_neg (nI_ge (by omega) (by omega)), Nat.min_eq_left (by omega)]
      rw [emn, ejs]
      have exj : xJq x (nI m) = setR x 4 (upd (x.1 4) m (nI (b - min b d))) := by
        unfold xJq
        rw [ex2, emn, xad_n (k := 4) (show m < 12 from hm), eb, ← Int32.sub_eq_add_neg, pk_sub (by omega)]
      have emj : mjQ t (nI m) = setR (setR (z0 t) 10 (upd (t.1 10) m (nI (b - min b d)))) 11 (upd (t.1 11) m 1) := by
        unfold mjQ
        rw [ejs, em10, pk_sub (by omega), mw_n (by omega), mw_n (by omega)]
        rfl
      rw [exj, emj]
      obtain ⟨cc, hcc, e0⟩ := x0_in h hm
      obtain ⟨v1, a1⟩ := xsettle_n (q := setR x 4 (upd (x.1 4) m (nI (b - min b d)))) (p := min b d) hm hcc e0 ed (by omega) (by omega)
      obtain ⟨v2, a2⟩ := msettle_n (q := setR (setR (z0 t) 10 (upd (t.1 10) m (nI (b - min b d)))) 11 (upd (t.1 11) m 1)) (p := min b d) hm hcc (((mplace_e (q := t) (p := setR (setR (z0 t) 10 (upd (t.1 10) m (nI (b - min b d)))) 11 (upd (t.1 11) m 1)) rfl rfl rfl rfl _ _).trans (mplace_n h hm)).trans e0) ((h.rD m hm).symm.trans ed) (by omega) (by omega)
      rw [v1, v2, a1, a2]
      have hbb : ∀ k, k < 12 → upd (x.1 4) m (nI (b - min b d)) k = upd (t.1 10) m (nI (b - min b d)) k := equ h.rB rfl
      have hbc : ∀ k, k < 12 → ∃ b2, b2 ≤ 5000 ∧ upd (x.1 4) m (nI (b - min b d)) k = nI b2 := uall (p := fun v => ∃ b, b ≤ 5000 ∧ v = nI b) h.gB ⟨b - min b d, by omega, rfl⟩
      have e11 : ∀ v, upd (upd (t.1 11) m 1) m v = upd (t.1 11) m v := fun v => by
        funext k
        rw [upd_a, upd_a, upd_a]
        by_cases hk : k = m
        · rw [if_pos hk, if_pos hk]
        · rw [if_neg hk, if_neg hk, if_neg hk]
      have e1m : upd (t.1 11) m 1 m = 1 := pk_us
      have a11 : (setR (setR (z0 t) 10 (upd (t.1 10) m (nI (b - min b d)))) 11 (upd (t.1 11) m 1)).1 11 = upd (t.1 11) m 1 := rfl
      rw [a11, e1m, if_neg (show ¬ ((1 : Int32) = 0) by decide), e11]
      by_cases hz : d - min b d = 0
      · rw [if_pos hz, if_pos hz, if_pos (by rw [hz, nI_0]; exact Int32.le_refl _)]
        refine Same.yes ?_ rfl rfl
        exact (h.z0 0).settled (g0 := upd (t.1 11) m 1) hm ed (by omega) (by omega) hbb hbc (equ h.rY rfl) (uall (p := fun v => v = 0 ∨ v = 1) h.gY (Or.inl rfl)) hcc
      · rw [if_neg hz, if_neg hz, if_neg (nI_nle (by omega) (by omega)), xs_n (k := 5) (show m < 12 from hm), setR_setR]
        refine Same.yes ?_ rfl rfl
        exact (h.z0 0).settled (g0 := upd (t.1 11) m 1) hm ed (by omega) (by omega) hbb hbc (equ h.rY rfl) (uall (p := fun v => v = 0 ∨ v = 1) h.gY (Or.inr rfl)) hcc

/-! ===== the way of a call ===== -/
theorem whF_0 {q : XS} {c : Int32} {m : Nat} (hm : m ≤ 5) : ∀ n, n ≤ m → ((whF q c m n = 0 ∧ ∀ i, m ≤ i + n → i < m → ¬ q.1 35 i = c) ∨ (whF q c m n = 1 ∧ ∃ i, i < m ∧ q.1 35 i = c))
  | 0, _ => Or.inl ⟨rfl, fun i h1 h2 => absurd h1 (by omega)⟩
  | n + 1, hn => by
    rw [whF, xg_n (k := 35) (show m - (n + 1) < 5 by omega)]
    by_cases hc : q.1 35 (m - (n + 1)) = c
    · rw [if_pos hc]; exact Or.inr ⟨rfl, _, by omega, hc⟩
    · rw [if_neg hc]
      rcases whF_0 (q := q) (c := c) hm n (by omega) with ⟨h1, h2⟩ | h1
      · refine Or.inl ⟨h1, fun i g1 g2 => ?_⟩
        by_cases hi : i = m - (n + 1)
        · rw [hi]; exact hc
        · exact h2 i (by omega) g2
      · exact Or.inr h1
theorem moF_t {q : XS} {c : Int32} : ∀ {m i : Nat}, i < m → q.1 23 i = c → moF q c m = true
  | 0, i, hi, _ => absurd hi (by omega)
  | m + 1, i, hi, h => by
    rw [moF, Bool.or_eq_true]
    by_cases hm : i = m
    · subst hm; exact Or.inr (decide_eq_true h)
    · exact Or.inl (moF_t (i := i) (by omega) h)
theorem RX.way {x t : XS} (h : RX x t) (f g : Nat → Int32) (m n : Nat) : RX (setC (setR x 35 f) 7 m) (setC (setR t 23 g) 7 n) := by
  have he : HE x (setC (setR x 35 f) 7 m) := HE.of (fun k h1 h2 => by simp only [setR_1, setC_1]; repeat rw [if_neg (by omega)]) (fun k h1 h2 => by simp only [setR_2, setC_2]; repeat rw [if_neg (by omega)])
  exact ⟨h.cN, h.cL, h.cP, h.cS, h.cD, h.cC, h.rO, h.rD, h.rB, h.rY, h.rE, h.rP, h.rA, h.rL, h.rS, h.r14, h.r15, h.r16, h.r17, h.r27, h.r28, h.r31, h.r32, h.r34, h.r33, h.rT, h.rW, h.rC, h.rQ, h.rN, h.rK, h.pD, h.pC, h.pR, h.g13, h.g16, h.g17, h.g8, h.g20, h.g19, h.gY, h.gD, h.gB, h.w20, h.z, h.tl, (he.ha h.ha), h.tm, (BK.he h he ⟨rfl, rfl, rfl, rfl, rfl, rfl, rfl⟩ ⟨rfl, rfl⟩ (fun _ _ => rfl))⟩
/-- the class's way and the reference's, of f trunks -/
abbrev WR (q t : XS) (f : Nat) : Prop := (RX q t) ∧ (q.2 7 = f + 1) ∧ (t.2 7 = f) ∧ (f < 5) ∧ (∀ i, i ≤ f → q.1 35 i = t.1 23 i) ∧ (DW t f)
theorem WR.r {q t : XS} {f : Nat} (s9 : WR q t f) : RX q t := s9.1
theorem WR.lx {q t : XS} {f : Nat} (s9 : WR q t f) : q.2 7 = f + 1 := s9.2.1
theorem WR.lt {q t : XS} {f : Nat} (s9 : WR q t f) : t.2 7 = f := s9.2.2.1
theorem WR.f5 {q t : XS} {f : Nat} (s9 : WR q t f) : f < 5 := s9.2.2.2.1
theorem WR.e {q t : XS} {f : Nat} (s9 : WR q t f) : ∀ i, i ≤ f → q.1 35 i = t.1 23 i := s9.2.2.2.2.1
theorem WR.d {q t : XS} {f : Nat} (s9 : WR q t f) : DW t f := s9.2.2.2.2.2
theorem wlast_n {q t : XS} {f : Nat} (w : WR q t f) : wlast q = t.1 23 f := by
  unfold wlast
  have := w.f5
  rw [w.lx, nI_pred, xg_n (k := 35) (show f < 5 from w.f5)]
  exact w.e f (Nat.le_refl _)
theorem lines_n {x t : XS} (h : RX x t) {a b : Nat} (ha : a < 5) (hb : b < 5) (hab : ¬ a = b) : ∃ l, l ≤ 5 ∧ t.1 3 (5 * a + b) = nI l := by
  rcases Nat.lt_or_ge a b with h1 | h1
  · exact (h.rN a b h1 hb).2.2
  · obtain ⟨-, e, l, hl, el⟩ := h.rN b a (by omega) ha
    exact ⟨l, hl, e.trans el⟩
theorem uc60 {x t : XS} (h : RX x t) (a b : Int32) : ucR (t.1 20) (t.1 18) (lm t) a b (t.2 5) ≤ 60 := by
  have := uc_le (w := t.1 20) (st := t.1 18) (lam := lm t) (a := a) (b := b) (n := t.2 5) (fun k hk => h.pc1 (k := k) (by rw [h.cC]; exact hk) _ _) _ (Nat.le_refl _)
  have h6 := h.c60
  rw [h.cC] at h6
  omega
theorem find_n {goal : Int32} {b : Nat} (hb : b < 12) (lam : Nat → Nat) : ∀ n (q t : XS) (f : Nat), f + n = 5 → WR q t f → lam = lm t →
    ∃ f2, WR (fwF goal (nI b) n q).1 (coF goal (nI b) lam n t).1 f2 ∧ (fwF goal (nI b) n q).2 = (coF goal (nI b) lam n t).2
  | 0, q, t, f, hf, w, _ => absurd w.f5 (by omega)
  | n + 1, q, t, f, hf, w, hlam => by
    subst hlam
    have f5 := w.f5
    have h := w.r
    have hwl := wlast_n w
    have hA : coA t = t.1 23 f := by
      show mg t 23 (nI (t.2 7)) = _
      rw [w.lt, mg_n (by omega)]
    obtain ⟨u, hu, eu⟩ := vp_in_of (w.d.1 f (Nat.le_refl _)) (by decide)
    rw [eu] at hwl hA
    have hN : known q (wlast q) (nI b) (nI (q.2 0)) = coN t (nI b) := by
      show _ = mbel t (coA t) (nI b)
      rw [hwl, hA]; exact known_n h hu _
    obtain ⟨v, hv, ev⟩ := vp_in_of (mbel_in (q := t) (c := coA t) h.g13 (vp_in_nI hb (by decide))) (by decide)
    have hN2 : coN t (nI b) = nI v := ev
    rw [fwF, coF, hN, hN2, hwl, hA, w.lt]
    by_cases hg : nI u = goal
    · rw [if_pos hg, if_pos hg]; exact ⟨f, w, rfl⟩
    · rw [if_neg hg, if_neg hg]
      have hwh : (whas q (nI v) = 0 ∧ ¬ moF t (nI v) (f + 1) = true) ∨ (whas q (nI v) = 1 ∧ moF t (nI v) (f + 1) = true) := by
        unfold whas
        rw [w.lx]
        rcases whF_0 (q := q) (c := nI v) (m := f + 1) (by omega) _ (Nat.le_refl _) with ⟨h1, h2⟩ | ⟨h1, i, h2, h3⟩
        · left
          refine ⟨h1, fun z => ?_⟩
          have : ∃ i, i < f + 1 ∧ t.1 23 i = nI v := Classical.byContradiction fun hn => by
            have hz : ∀ m, m ≤ f + 1 → moF t (nI v) m = false := fun m => by
              induction m with
              | zero => intro _; rfl
              | succ m ih =>
                intro hm
                rw [moF, ih (by omega), Bool.false_or]
                exact decide_eq_false (fun e => hn ⟨m, by omega, e⟩)
            rw [hz _ (Nat.le_refl _)] at z
            exact Bool.noConfusion z
          obtain ⟨i, hi, ei⟩ := this
          exact h2 i (by omega) hi ((w.e i (by omega)).trans ei)
        · right
          exact ⟨h1, moF_t h2 ((w.e i (by omega)).symm.trans h3)⟩
      rcases hwh with ⟨w1, w2⟩ | ⟨w1, w2⟩
      · rw [w1, if_neg w2]
        have huv : ¬ u = v := fun z => w2 (moF_t (i := f) (by omega) (by rw [eu, z]))
        obtain ⟨l, hl, el⟩ := lines_n h hu hv huv
        have h60 := uc60 h (nI u) (nI v)
        rw [left_n h hu hv huv, used_u h, el, i5n, mg_n (by omega), el]
        have e0 : (0 : Int32) < nI l - nI (ucR (t.1 20) (t.1 18) (lm t) (nI u) (nI v) (t.2 5)) ↔ ucR (t.1 20) (t.1 18) (lm t) (nI u) (nI v) (t.2 5) < l := by
          rw [Int32.lt_iff_toInt_lt, pk_sub_toInt (by omega) (by omega), Int32.toInt_zero]
          omega
        have e1 : nI (ucR (t.1 20) (t.1 18) (lm t) (nI u) (nI v) (t.2 5)) < nI l ↔ ucR (t.1 20) (t.1 18) (lm t) (nI u) (nI v) (t.2 5) < l := nI_ltI (by omega) (by omega)
        by_cases hlt : ucR (t.1 20) (t.1 18) (lm t) (nI u) (nI v) (t.2 5) < l
        · have c1 : (0 : Int32) = 0 ∧ (0 : Int32) < nI l - nI (ucR (t.1 20) (t.1 18) (lm t) (nI u) (nI v) (t.2 5)) := ⟨rfl, e0.mpr hlt⟩
          rw [if_pos c1, if_pos (e1.mpr hlt)]
          have hd : DW (coS t (nI v)) (f + 1) := by
            have := DW_step (q := t) (x := nI v) (by rw [w.lt]; exact w.d) (by rw [w.lt]; exact f5) (vp_in_nI hv (by decide)) (by rw [w.lt]; exact w2)
            rw [w.lt] at this; exact this
          have f4 : f + 1 < 5 := by
            rcases Nat.lt_or_ge (f + 1) 5 with g | g
            · exact g
            · exact (DW_no (by rw [show f + 1 = 5 by omega] at hd; exact hd)).elim
          have ex : wgo q (nI v) = setC (setR q 35 (upd (q.1 35) (f + 1) (nI v))) 7 (f + 1 + 1) := by
            unfold wgo
            rw [w.lx, xs_n (k := 35) (show f + 1 < 5 from f4)]
          have et : coS t (nI v) = setC (setR t 23 (upd (t.1 23) (f + 1) (nI v))) 7 (f + 1) := by
            unfold coS
            rw [w.lt, mw_n (by omega)]
            rfl
          rw [et] at hd
          have w2 : WR (wgo q (nI v)) (coS t (nI v)) (f + 1) := by
            rw [ex, et]
            refine ⟨h.way _ _ _ _, rfl, rfl, f4, fun i hi => ?_, hd⟩
            show upd (q.1 35) (f + 1) (nI v) i = upd (t.1 23) (f + 1) (nI v) i
            rw [upd_a, upd_a]
            by_cases hif : i = f + 1
            · rw [if_pos hif, if_pos hif]
            · rw [if_neg hif, if_neg hif]; exact w.e i (by omega)
          exact find_n hb (lm t) n _ _ (f + 1) (by omega) w2 (by rw [et]; rfl)
        · have c1 : ¬ ((0 : Int32) = 0 ∧ (0 : Int32) < nI l - nI (ucR (t.1 20) (t.1 18) (lm t) (nI u) (nI v) (t.2 5))) := fun z => hlt (e0.mp z.2)
          rw [if_neg c1, if_neg (fun z => hlt (e1.mp z))]
          exact ⟨f, w, rfl⟩
      · rw [w1, if_pos w2]
        have c1 : ∀ z : Prop, ¬ ((1 : Int32) = 0 ∧ z) := fun z y => absurd y.1 (by decide)
        rw [if_neg (c1 _)]
        exact ⟨f, w, rfl⟩
theorem xfind_n {x t : XS} (h : RX x t) {a b : Nat} (ha : a < 12) (hb : b < 12) : WR (xfind x (nI a) (nI b)).1 (mcomes t (nI a) (nI b) (lm t)).1 ((mcomes t (nI a) (nI b) (lm t)).1.2 7) ∧ (xfind x (nI a) (nI b)).2 = (mcomes t (nI a) (nI b) (lm t)).2 := by
  obtain ⟨u, hu, eu⟩ := x0_in h ha
  have w0 : WR (wbegin x (xg x 0 (nI a))) (mcome0 t (nI a)) 0 := by
    have ex : wbegin x (xg x 0 (nI a)) = setC (setR x 35 (upd (x.1 35) 0 (x.1 0 a))) 7 1 := by
      unfold wbegin
      rw [xg_n (k := 0) (show a < 12 from ha), show (0 : Int32) = nI 0 from nI_0.symm, xs_n (k := 35) (show 0 < 5 by decide)]
    have et : mcome0 t (nI a) = setC (setR t 23 (upd (t.1 23) 0 (x.1 0 a))) 7 0 := by
      unfold mcome0
      rw [mplace_n h ha, show (0 : Int32) = nI 0 from nI_0.symm, mw_n (by decide)]
    rw [ex, et]
    refine ⟨h.way _ _ _ _, rfl, rfl, by decide, fun i hi => ?_, fun i hi => ?_, fun i j hij hj => absurd hj (by omega)⟩
    · have h0 : i = 0 := by omega
      subst h0
      show upd (x.1 35) 0 (x.1 0 a) 0 = upd (t.1 23) 0 (x.1 0 a) 0
      rw [pk_us, pk_us]
    · have h0 : i = 0 := by omega
      subst h0
      show vp_in (upd (t.1 23) 0 (x.1 0 a) 0) 5
      rw [pk_us, eu]; exact vp_in_nI hu (by decide)
  have e1 : xg x 0 (nI b) = mplace t (nI b) 20000 := by rw [xg_n (k := 0) (show b < 12 from hb), mplace_n h hb]
  have hl : lm t = lm (mcome0 t (nI a)) := rfl
  obtain ⟨f, w, e2⟩ := find_n (goal := mplace t (nI b) 20000) hb (lm t) 5 _ _ 0 (by decide) w0 hl
  have hx : xfind x (nI a) (nI b) = fwF (mplace t (nI b) 20000) (nI b) 5 (wbegin x (xg x 0 (nI a))) := by unfold xfind; rw [e1]
  rw [hx]
  have hf : (mcomes t (nI a) (nI b) (lm t)).1.2 7 = f := w.lt
  rw [hf]
  exact ⟨w, e2⟩
theorem s_route {x t : XS} (h : RX x t) (a b : Int32) : Same (ka 1 2 0) (xRoute x a b) (mRoute t a b (lm t)) := by
  unfold xRoute mRoute
  by_cases h1 : noN a
  · rw [if_pos h1, if_pos h1]; exact Same.no h (by decide) rfl (by decide) (by decide)
  · rw [if_neg h1, if_neg h1]
    by_cases h2 : noN b
    · rw [if_pos h2, if_pos h2]; exact Same.no h (by decide) rfl (by decide) (by decide)
    · rw [if_neg h2, if_neg h2]
      by_cases h3 : a = b
      · rw [if_pos h3, if_pos h3]; exact Same.no h (by decide) rfl (by decide) (by decide)
      · rw [if_neg h3, if_neg h3]
        obtain ⟨i, hi, rfl⟩ := nN h1
        obtain ⟨j, hj, rfl⟩ := nN h2
        obtain ⟨w, e⟩ := xfind_n (h.z0 0) hi hj
        have e' : (xfind x (nI i) (nI j)).2 = (mcomes (z0 t) (nI i) (nI j) (lm t)).2 := e
        have w' : WR (xfind x (nI i) (nI j)).1 (mcomes (z0 t) (nI i) (nI j) (lm t)).1 ((mcomes (z0 t) (nI i) (nI j) (lm t)).1.2 7) := w
        have hz : (mcomes (z0 t) (nI i) (nI j) (lm t)).1.2 0 = 0 := mcomes_c 0 (by decide)
        rw [e']
        by_cases h0 : (mcomes (z0 t) (nI i) (nI j) (lm t)).2 = 0
        · rw [if_pos h0, if_pos h0]; exact Same.yes w'.r hz rfl
        · rw [if_neg h0, if_neg h0]
          exact Same.yes w'.r hz (by rw [w'.lx, nI_pred])

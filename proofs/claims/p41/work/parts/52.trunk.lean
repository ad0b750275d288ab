/-! ===== trunks set ===== -/
theorem setC_setC (q : XS) (j m n : Nat) : setC (setC q j m) j n = setC q j n := by
  refine Prod.ext rfl (funext fun i => ?_)
  show (if i = j then n else if i = j then m else q.2 i) = if i = j then n else q.2 i
  by_cases h : i = j
  · rw [if_pos h, if_pos h]
  · rw [if_neg h, if_neg h, if_neg h]
theorem setC_self (q : XS) (j : Nat) : setC q j (q.2 j) = q := by
  refine Prod.ext rfl (funext fun i => ?_)
  show (if i = j then q.2 j else q.2 i) = q.2 i
  by_cases h : i = j
  · rw [if_pos h, h]
  · rw [if_neg h]
theorem cpF_spec {x t : XS} (h : RX x t) {k : Nat} (hk : k < x.2 6) (A : Int32) {m : Nat} (hm : m ≤ 5) : ∀ n, n ≤ m → (∃ i, i < m ∧ t.1 20 (5 * k + i) = A ∧ cpF x (nI k) A m n = nI i) ∨ (cpF x (nI k) A m n = -1 ∧ ∀ i, m ≤ i + n → i < m → ¬ t.1 20 (5 * k + i) = A)
  | 0, _ => Or.inr ⟨rfl, fun i h1 h2 => absurd h1 (by omega)⟩
  | n + 1, hn => by
    have h6 := h.c60
    rw [cpF, stop_n h (by omega) (show m - (n + 1) < 5 by omega)]
    by_cases hc : t.1 20 (5 * k + (m - (n + 1))) = A
    · rw [if_pos hc]
      exact Or.inl ⟨_, by omega, hc, rfl⟩
    · rw [if_neg hc]
      rcases cpF_spec h hk A hm n (by omega) with h1 | ⟨h1, h2⟩
      · exact Or.inl h1
      · refine Or.inr ⟨h1, fun i g1 g2 => ?_⟩
        by_cases hi : i = m - (n + 1)
        · rw [hi]; exact hc
        · exact h2 i (by omega) g2
theorem cpl_spec {x t : XS} (h : RX x t) {k : Nat} (hk : k < x.2 6) (A : Int32) : (∃ i, i ≤ lm t k ∧ t.1 20 (5 * k + i) = A ∧ cpl x (nI k) A (lm t k) = nI i) ∨ (cpl x (nI k) A (lm t k) = -1 ∧ ∀ i, i ≤ lm t k → ¬ t.1 20 (5 * k + i) = A) := by
  have h4 : lm t k ≤ 4 := (h.g19 k).2
  rcases cpF_spec h hk A (m := lm t k + 1) (by omega) _ (Nat.le_refl _) with ⟨i, h1, h2, h3⟩ | ⟨h1, h2⟩
  · exact Or.inl ⟨i, by omega, h2, h3⟩
  · exact Or.inr ⟨h1, fun i hi => h2 i (by omega) (by omega)⟩
theorem cpl_at {x t : XS} (h : RX x t) {k i : Nat} (hk : k < x.2 6) (hi : i ≤ lm t k) {A : Int32} (hA : t.1 20 (5 * k + i) = A) : cpl x (nI k) A (lm t k) = nI i := by
  rcases cpl_spec h hk A with ⟨j, h1, h2, h3⟩ | ⟨h1, h2⟩
  · have : j = i := by
      rcases Nat.lt_trichotomy i j with g | g | g
      · exact absurd (hA.trans h2.symm) (h.w20 k hk i j g h1)
      · exact g.symm
      · exact absurd (h2.trans hA.symm) (h.w20 k hk j i g hi)
    rw [h3, this]
  · exact absurd hA (h2 i hi)
theorem mtF_at {t : XS} {c : Nat} {a b : Int32} : ∀ m, (mtF t c a b m = -1 ∧ ∀ i, i < m → ¬ tkR (t.1 20) c a b i) ∨ ∃ i, i < m ∧ mtF t c a b m = nI i ∧ tkR (t.1 20) c a b i
  | 0 => Or.inl ⟨rfl, fun i hi => absurd hi (by omega)⟩
  | m + 1 => by
    rw [mtF]
    by_cases hm : tkC t c a b m
    · rw [if_pos hm]; exact Or.inr ⟨m, by omega, rfl, hm⟩
    · rw [if_neg hm]
      rcases mtF_at (t := t) (c := c) (a := a) (b := b) m with ⟨h1, h2⟩ | ⟨i, h1, h2, h3⟩
      · refine Or.inl ⟨h1, fun i hi => ?_⟩
        by_cases him : i = m
        · rw [him]; exact hm
        · exact h2 i (by omega)
      · exact Or.inr ⟨i, by omega, h2, h3⟩
theorem sub1 {i j : Nat} (hi : i < 1000) (hj : j < 1000) : nI i - nI j = 1 ↔ i = j + 1 := by
  constructor
  · intro z
    have := congrArg Int32.toInt z
    rw [pk_sub_toInt (by omega) (by omega)] at this
    have h1 : (1 : Int32).toInt = 1 := rfl
    omega
  · rintro rfl
    rw [pk_sub (by omega), show j + 1 - j = 1 by omega]; rfl
/-- whether the class finds that a call uses the trunk -/
theorem ltC_n {x t : XS} (h : RX x t) {k : Nat} (hk : k < x.2 6) (a b : Int32) : ltC x k a b (lm t k) ↔ t.1 18 k = 0 ∧ ∃ i, i < lm t k ∧ tkR (t.1 20) k a b i := by
  have h6 := h.c60
  have h4 : lm t k ≤ 4 := (h.g19 k).2
  unfold ltC
  rw [xg_n (k := 31) (show k < 60 by omega), h.r31 k (by omega)]
  refine and_congr Iff.rfl ⟨?_, ?_⟩
  · rintro ⟨n1, n2, h3⟩
    rcases cpl_spec h hk a with ⟨i, i1, i2, i3⟩ | ⟨i1, -⟩
    · rcases cpl_spec h hk b with ⟨j, j1, j2, j3⟩ | ⟨j1, -⟩
      · rw [i3, j3, sub1 (by omega) (by omega), sub1 (by omega) (by omega)] at h3
        rcases h3 with rfl | rfl
        · exact ⟨j, by omega, Or.inr ⟨j2, by rw [Nat.add_assoc]; exact i2⟩⟩
        · exact ⟨i, by omega, Or.inl ⟨i2, by rw [Nat.add_assoc]; exact j2⟩⟩
      · exact absurd j1 n2
    · exact absurd i1 n1
  · rintro ⟨i, hi, ⟨e1, e2⟩ | ⟨e1, e2⟩⟩
    · rw [cpl_at h hk (i := i) (by omega) e1, cpl_at h hk (i := i + 1) (by omega) (by rw [← Nat.add_assoc]; exact e2), sub1 (by omega) (by omega), sub1 (by omega) (by omega)]
      exact ⟨nIm1 (by omega), nIm1 (by omega), Or.inr rfl⟩
    · rw [cpl_at h hk (i := i) (by omega) e1, cpl_at h hk (i := i + 1) (by omega) (by rw [← Nat.add_assoc]; exact e2), sub1 (by omega) (by omega), sub1 (by omega) (by omega)]
      exact ⟨nIm1 (by omega), nIm1 (by omega), Or.inl rfl⟩
/-- one call lost -/
theorem lose_1 {q t : XS} {g k i a b : Nat} (h : RX q (setC t 6 (q.2 1))) (hg : t.2 6 = q.2 1 + g) (hk : k < q.2 6) (s0 : t.1 18 k = 0) (hi : i < lm t k) (ha : a < 5) (hb : b < 5) (ht : tkR (t.1 20) k (nI a) (nI b) i) :
    RX (ltQ q k (nI a) (nI b) (lm t k)) (setC (mlQ t k (nI i)) 6 ((ltQ q k (nI a) (nI b) (lm t k)).2 1)) ∧ (mlQ t k (nI i)).2 6 = (ltQ q k (nI a) (nI b) (lm t k)).2 1 + (g + 1) ∧ (ltQ q k (nI a) (nI b) (lm t k)).2 6 = q.2 6 ∧ (mlQ t k (nI i)).2 5 = t.2 5 ∧ (mlQ t k (nI i)).1 19 = t.1 19 ∧ (mlQ t k (nI i)).1 20 = t.1 20 ∧ (mlQ t k (nI i)).1 3 = t.1 3 ∧ (mlQ t k (nI i)).1 18 = upd (t.1 18) k 2 := by
  have h6 := h.c60
  have h4 : lm t k ≤ 4 := (h.g19 k).2
  obtain ⟨c2, h2, e2⟩ := h.cd hk
  obtain ⟨f, e3, hf⟩ := xend_n h hk (v := 2) h2 e2
  have s0x : q.1 31 k = 0 := (h.r31 k (by omega)).trans s0
  have hr := rx_ended h hk s0x (v := 2) (by decide) h2 e2 hf
  have e3' : xend q (nI k) 2 (lm t k) = endX q k 2 f (cn q k) c2 := e3
  -- who pays
  have hpay : ∀ u v : Nat, u < 5 → v < 5 → t.1 20 (5 * k + i + 1) = nI u → t.1 20 (5 * k + i) = nI v → mlQ t k (nI i) = setC (setR (setR (setR t 18 (upd (t.1 18) k 2)) 4 (upd (upd (t.1 4) u (t.1 4 u - 5)) v (upd (t.1 4) u (t.1 4 u - 5) v + 5))) 6 (upd (t.1 6) u (t.1 6 u + 5))) 6 (t.2 6 + 1) := fun u v hu hv eu ev => by
    unfold mlQ
    rw [i5n, nI_1, mg_n (i := 5 * k + i + 1) (by omega), mg_n (i := 5 * k + i) (by omega), eu, ev, mpay_n hu hv, mw_n (by omega), setR_o (k := 6) (j := 18) _ (by decide), setR_o (k := 4) (j := 18) _ (by decide), setR_comm _ (j := 6) (k := 18) (by decide), setR_comm _ (j := 4) (k := 18) (by decide)]
  have hfin : ∀ u v : Nat, u < 5 → v < 5 → t.1 20 (5 * k + i + 1) = nI u → t.1 20 (5 * k + i) = nI v → ltQ q k (nI a) (nI b) (lm t k) = xpayLoss (endX q k 2 f (cn q k) c2) (nI u) (nI v) →
      RX (ltQ q k (nI a) (nI b) (lm t k)) (setC (mlQ t k (nI i)) 6 ((ltQ q k (nI a) (nI b) (lm t k)).2 1)) ∧ (mlQ t k (nI i)).2 6 = (ltQ q k (nI a) (nI b) (lm t k)).2 1 + (g + 1) ∧ (ltQ q k (nI a) (nI b) (lm t k)).2 6 = q.2 6 ∧ (mlQ t k (nI i)).2 5 = t.2 5 ∧ (mlQ t k (nI i)).1 19 = t.1 19 ∧ (mlQ t k (nI i)).1 20 = t.1 20 ∧ (mlQ t k (nI i)).1 3 = t.1 3 ∧ (mlQ t k (nI i)).1 18 = upd (t.1 18) k 2 := fun u v hu hv eu ev eq => by
    have hl := hr.loss hu hv
    rw [eq, hpay u v hu hv eu ev, setC_setC]
    rw [mpay_n hu hv] at hl
    rw [xpayLoss_n hu hv] at hl ⊢
    refine ⟨hl, ?_, rfl, rfl, rfl, rfl, rfl, rfl⟩
    show t.2 6 + 1 = q.2 1 + (g + 1)
    omega
  have ha1 : ∀ j A, j ≤ lm t k → t.1 20 (5 * k + j) = A → cpl q (nI k) A (lm t k) = nI j := fun j A hj hA => cpl_at h hk (i := j) hj hA
  rcases ht with ⟨e1, e2'⟩ | ⟨e1, e2'⟩
  · refine hfin b a hb ha e2' e1 ?_
    unfold ltQ
    rw [ha1 i _ (by omega) e1, ha1 (i + 1) _ (by omega) (by rw [← Nat.add_assoc]; exact e2'), if_pos (nI_le (by omega) (by omega)), e3']
  · refine hfin a b ha hb e2' e1 ?_
    unfold ltQ
    rw [ha1 i _ (by omega) e1, ha1 (i + 1) _ (by omega) (by rw [← Nat.add_assoc]; exact e2'), if_neg (nI_ge (by omega) (by omega)), e3']
theorem sub_le {u l : Nat} (hu : u < 1000) (hl : l < 1000) : 0 ≤ nI l - nI u ↔ u ≤ l := by
  rw [Int32.le_iff_toInt_le, pk_sub_toInt (by omega) (by omega), Int32.toInt_zero]
  omega
theorem sub_le2 {u l g : Nat} (hu : u < 1000) (hl : l < 1000) (hg : g < 1000) : nI u - nI l ≤ nI g ↔ u ≤ l + g := by
  rw [Int32.le_iff_toInt_le, pk_sub_toInt (by omega) (by omega), nI_toInt (by omega)]
  omega
theorem lose_n {a b l u0 : Nat} (ha : a < 5) (hb : b < 5) (hab : ¬ a = b) (hl : l ≤ 5) (hu0 : u0 ≤ 60) (lam : Nat → Nat) : ∀ n, ∀ (q t : XS) (g : Nat), RX q (setC t 6 (q.2 1)) → t.2 6 = q.2 1 + g → n ≤ q.2 6 → t.1 3 (5 * a + b) = nI l → ucR (t.1 20) (t.1 18) lam (nI a) (nI b) (t.2 5) + g = u0 → lam = lm t →
    RX (ltF (nI a) (nI b) lam n q g).1 (setC (mlF (nI a) (nI b) (nI u0 - nI l) lam n t g).1 6 ((ltF (nI a) (nI b) lam n q g).1.2 1)) ∧ (mlF (nI a) (nI b) (nI u0 - nI l) lam n t g).1.2 6 = (ltF (nI a) (nI b) lam n q g).1.2 1 + (ltF (nI a) (nI b) lam n q g).2 ∧ (ltF (nI a) (nI b) lam n q g).2 = (mlF (nI a) (nI b) (nI u0 - nI l) lam n t g).2 := by
  intro n
  induction n with
  | zero => intro q t g h hg _ _ _ _; exact ⟨h, hg, rfl⟩
  | succ n ih =>
    intro q t g h hg hn h3 hu hlam
    have h6 := h.c60
    have hC : q.2 6 = t.2 5 := h.cC
    subst hlam
    have hle := uc_le (w := t.1 20) (st := t.1 18) (lam := lm t) (a := nI a) (b := nI b) (n := t.2 5) (fun k hk => h.pc1 (k := k) (by rw [hC]; exact hk) _ _) _ (Nat.le_refl _)
    have hx : xleft q (nI a) (nI b) = nI l - nI (ucR (t.1 20) (t.1 18) (lm t) (nI a) (nI b) (t.2 5)) := by
      rw [left_n h ha hb hab, used_u h]
      exact congrArg (· - _) h3
    rw [ltF, mlF, hx]
    by_cases hc : ucR (t.1 20) (t.1 18) (lm t) (nI a) (nI b) (t.2 5) ≤ l
    · rw [if_pos ((sub_le (by omega) (by omega)).mpr hc), if_pos ((sub_le2 (by omega) (by omega) (by omega)).mpr (by omega))]
      exact ⟨h, hg, rfl⟩
    · have c1 : ¬ 0 ≤ nI l - nI (ucR (t.1 20) (t.1 18) (lm t) (nI a) (nI b) (t.2 5)) := fun z => hc ((sub_le (by omega) (by omega)).mp z)
      have c2 : ¬ nI u0 - nI l ≤ nI g := fun z => hc (by have := (sub_le2 (by omega) (by omega) (by omega)).mp z; omega)
      rw [if_neg c1, if_neg c2]
      have hL : ltC q n (nI a) (nI b) (lm t n) ↔ t.1 18 n = 0 ∧ ∃ i, i < lm t n ∧ tkR (t.1 20) n (nI a) (nI b) i := ltC_n h (by omega) _ _
      by_cases s0 : t.1 18 n = 0
      · have em : mtakes t n (nI a) (nI b) (lm t n) = mtF t n (nI a) (nI b) (lm t n) := if_pos s0
        rw [em]
        rcases mtF_at (t := t) (c := n) (a := nI a) (b := nI b) (lm t n) with ⟨e1, e2⟩ | ⟨i, i1, i2, i3⟩
        · have c3 : ¬ ltC q n (nI a) (nI b) (lm t n) := fun z => by obtain ⟨-, i, hi, hz⟩ := hL.mp z; exact e2 i hi hz
          rw [if_pos e1, if_neg c3]
          exact ih q t g h hg (by omega) h3 hu rfl
        · have h4 : lm t n ≤ 4 := (h.g19 n).2
          rw [if_pos (hL.mpr ⟨s0, i, i1, i3⟩), i2, if_neg (nIm1 (by omega))]
          obtain ⟨r1, r2, r3, r4, r5, r6, r7, r8⟩ := lose_1 h hg (k := n) (by omega) s0 i1 ha hb i3
          refine ih _ _ (g + 1) r1 r2 (by rw [r3]; omega) (by rw [r7]; exact h3) ?_ ?_
          · rw [r4, r6, r8]
            have hp := h.pc1 (k := n) (by omega) (nI a) (nI b)
            have hp0 : ¬ pcR (t.1 20) n (nI a) (nI b) (lm t n) = 0 := fun z => pc_0 z i i1 i3
            have he := ucR_end (w := t.1 20) (lam := lm t) (a := nI a) (b := nI b) s0 (v := 2) (by decide) (t.2 5) (by omega)
            have hp' : pcR (t.1 20) n (nI a) (nI b) (lm t n) ≤ 1 := hp
            omega
          · funext j; show _ = ((mlQ t n (nI i)).1 19 j).toNatClampNeg; rw [r5]
      · have em : mtakes t n (nI a) (nI b) (lm t n) = -1 := if_neg s0
        have c3 : ¬ ltC q n (nI a) (nI b) (lm t n) := fun z => s0 (hL.mp z).1
        rw [if_pos em, if_neg c3]
        exact ih q t g h hg (by omega) h3 hu rfl
theorem mlF_0 (a b nn : Int32) (lam : Nat → Nat) : ∀ (n : Nat) (t : XS) (g : Nat), (mlF a b nn lam n t g).1.2 0 = t.2 0
  | 0, t, g => rfl
  | n + 1, t, g => by
    rw [mlF]
    split
    · rfl
    · split
      · exact mlF_0 a b nn lam n t g
      · exact mlF_0 a b nn lam n _ _
theorem line_n {x t : XS} (h : RX x t) {a b n : Nat} (ha : a < 5) (hb : b < 5) (hab : ¬ a = b) (hn : n ≤ 5) : RX (xchange x (nI a) (nI b) (nI n)) (mtQ t (nI a) (nI b) (nI n)) ∧ (mtQ t (nI a) (nI b) (nI n)).1 3 (5 * a + b) = nI n ∧ (xchange x (nI a) (nI b) (nI n)).2 = x.2 ∧ (mtQ t (nI a) (nI b) (nI n)).1 18 = t.1 18 ∧ (mtQ t (nI a) (nI b) (nI n)).2 6 = t.2 6 ∧ (mtQ t (nI a) (nI b) (nI n)).2 5 = t.2 5 ∧ (mtQ t (nI a) (nI b) (nI n)).2 0 = 0 ∧ (mtQ t (nI a) (nI b) (nI n)).1 19 = t.1 19 ∧ (mtQ t (nI a) (nI b) (nI n)).1 20 = t.1 20 := by
  obtain ⟨j, hj, ej, ebt⟩ : ∃ j, j < 25 ∧ (j = if a < b then 5 * a + b else 5 * b + a) ∧ btw (nI a) (nI b) = nI j := by
    by_cases hlt : a < b
    · exact ⟨5 * a + b, by omega, (if_pos hlt).symm, (btw_lt hlt hb).1⟩
    · exact ⟨5 * b + a, by omega, (if_neg hlt).symm, (btw_lt (show b < a by omega) ha).2⟩
  have ex : xchange x (nI a) (nI b) (nI n) = setR x 12 (upd (x.1 12) j (nI n)) := by
    unfold xchange
    rw [ebt, xs_n (k := 12) (show j < 25 from hj)]
  have et : mtQ t (nI a) (nI b) (nI n) = setR (z0 t) 3 (upd (upd (t.1 3) (5 * a + b) (nI n)) (5 * b + a) (nI n)) := by
    unfold mtQ
    rw [i5n, i5n, mw_n (by omega), mw_n (by omega), setR_setR]
    rfl
  rw [ex, et]
  have he : HE x (setR x 12 (upd (x.1 12) j (nI n))) := HE.of (fun k h1 h2 => by simp only [setR_1, setC_1]; repeat rw [if_neg (by omega)]) (fun k h1 h2 => by simp only [setR_2, setC_2]; repeat rw [if_neg (by omega)])
  have eN : ∀ c d, c < d → d < 5 → upd (x.1 12) j (nI n) (5 * c + d) = upd (upd (t.1 3) (5 * a + b) (nI n)) (5 * b + a) (nI n) (5 * c + d) ∧ upd (upd (t.1 3) (5 * a + b) (nI n)) (5 * b + a) (nI n) (5 * d + c) = upd (upd (t.1 3) (5 * a + b) (nI n)) (5 * b + a) (nI n) (5 * c + d) ∧ ∃ k, k ≤ 5 ∧ upd (upd (t.1 3) (5 * a + b) (nI n)) (5 * b + a) (nI n) (5 * c + d) = nI k := fun c d hcd hd => by
    obtain ⟨p1, p2, p3⟩ := h.rN c d hcd hd
    rw [upd_a, upd_a, upd_a, upd_a, upd_a]
    by_cases hA : c = a ∧ d = b
    · obtain ⟨rfl, rfl⟩ := hA
      rw [if_pos hcd] at ej
      subst ej
      rw [if_pos rfl, if_neg (show ¬ 5 * c + d = 5 * d + c by omega), if_pos rfl, if_pos rfl]
      exact ⟨rfl, rfl, n, hn, rfl⟩
    · by_cases hB : c = b ∧ d = a
      · obtain ⟨rfl, rfl⟩ := hB
        rw [if_neg (show ¬ d < c by omega)] at ej
        subst ej
        rw [if_pos rfl, if_pos rfl, if_neg (show ¬ 5 * d + c = 5 * c + d by omega), if_pos rfl]
        exact ⟨rfl, rfl, n, hn, rfl⟩
      · have n1 : ¬ 5 * c + d = j := by split at ej <;> omega
        rw [if_neg n1, if_neg (show ¬ 5 * c + d = 5 * b + a by omega), if_neg (show ¬ 5 * c + d = 5 * a + b by omega), if_neg (show ¬ 5 * d + c = 5 * b + a by omega), if_neg (show ¬ 5 * d + c = 5 * a + b by omega)]
        exact ⟨p1, p2, p3⟩
  refine ⟨?_, ?_, rfl, rfl, rfl, rfl, rfl, rfl, rfl⟩
  · exact ⟨h.cN, h.cL, h.cP, h.cS, h.cD, h.cC, h.rO, h.rD, h.rB, h.rY, h.rE, h.rP, h.rA, h.rL, h.rS, h.r14, h.r15, h.r16, h.r17, h.r27, h.r28, h.r31, h.r32, h.r34, h.r33, h.rT, h.rW, h.rC, h.rQ, (eN), h.rK, h.pD, h.pC, h.pR, h.g13, h.g16, h.g17, h.g8, h.g20, h.g19, h.gY, h.gD, h.gB, h.w20, h.z, h.tl, (he.ha h.ha), h.tm, (BK.he h he ⟨rfl, rfl, rfl, rfl, rfl, rfl, rfl⟩ ⟨rfl, rfl⟩ (fun _ _ => rfl))⟩
  · show upd (upd (t.1 3) (5 * a + b) (nI n)) (5 * b + a) (nI n) (5 * a + b) = nI n
    rw [pk_un (by omega), pk_us]
theorem s_setTrunk {x t : XS} (h : RX x t) (a b n : Int32) : Same (ka 1 2 0) (xSetTrunk x a b n (lm t)) (mSetTrunk t a b n (lm t)) := by
  unfold xSetTrunk mSetTrunk
  by_cases h1 : noC a
  · rw [if_pos h1, if_pos h1]; exact Same.no h (by decide) rfl (by decide) (by decide)
  · rw [if_neg h1, if_neg h1]
    by_cases h2 : noC b
    · rw [if_pos h2, if_pos h2]; exact Same.no h (by decide) rfl (by decide) (by decide)
    · rw [if_neg h2, if_neg h2]
      by_cases h3 : a = b
      · rw [if_pos h3, if_pos h3]; exact Same.no h (by decide) rfl (by decide) (by decide)
      · rw [if_neg h3, if_neg h3]
        by_cases h4 : noW n 0 5
        · rw [if_pos h4, if_pos h4]; exact Same.no h (by decide) rfl (by decide) (by decide)
        · rw [if_neg h4, if_neg h4]
          obtain ⟨i, hi, rfl⟩ := nC h1
          obtain ⟨j, hj, rfl⟩ := nC h2
          obtain ⟨k, -, hk, rfl⟩ := nW (a := 0) (b := 5) (by decide) (by decide) h4
          have hij : ¬ i = j := fun z => h3 (by rw [z])
          obtain ⟨r1, r2, r3, r4, r5, r6, r7, r8, r9⟩ := line_n h hi hj hij hk
          have hlm : lm t = lm (mtQ t (nI i) (nI j) (nI k)) := funext fun c => by show (t.1 19 c).toNatClampNeg = ((mtQ t (nI i) (nI j) (nI k)).1 19 c).toNatClampNeg; rw [r8]
          have h6 := h.c60
          rw [hlm, used_u r1, r6, ← h.cC]
          have hu := uc_le (w := (mtQ t (nI i) (nI j) (nI k)).1 20) (st := (mtQ t (nI i) (nI j) (nI k)).1 18) (lam := lm (mtQ t (nI i) (nI j) (nI k))) (a := nI i) (b := nI j) (n := x.2 6) (fun c hc => r1.pc1 (by rw [r3]; exact hc) _ _) _ (Nat.le_refl _)
          have hR : RX (xchange x (nI i) (nI j) (nI k)) (setC (mtQ t (nI i) (nI j) (nI k)) 6 ((xchange x (nI i) (nI j) (nI k)).2 1)) := by
            rw [r1.cL, setC_self]; exact r1
          obtain ⟨s1, s2, s3⟩ := lose_n (u0 := ucR ((mtQ t (nI i) (nI j) (nI k)).1 20) ((mtQ t (nI i) (nI j) (nI k)).1 18) (lm (mtQ t (nI i) (nI j) (nI k))) (nI i) (nI j) (x.2 6)) hi hj hij hk (by omega) _ (x.2 6) _ _ 0 hR (by rw [← r1.cL]; rfl) (by rw [r3]; exact Nat.le_refl _) r2 (by rw [r6, ← h.cC]; rfl) rfl
          unfold xlose
          rw [r3]
          have s4 := s1.lost (ltF (nI i) (nI j) (lm (mtQ t (nI i) (nI j) (nI k))) (x.2 6) (xchange x (nI i) (nI j) (nI k)) 0).2
          rw [setC_setC] at s4
          have s5 : setC (mlF (nI i) (nI j) (nI (ucR ((mtQ t (nI i) (nI j) (nI k)).1 20) ((mtQ t (nI i) (nI j) (nI k)).1 18) (lm (mtQ t (nI i) (nI j) (nI k))) (nI i) (nI j) (x.2 6)) - nI k) (lm (mtQ t (nI i) (nI j) (nI k))) (x.2 6) (mtQ t (nI i) (nI j) (nI k)) 0).1 6 ((ltF (nI i) (nI j) (lm (mtQ t (nI i) (nI j) (nI k))) (x.2 6) (xchange x (nI i) (nI j) (nI k)) 0).1.2 1 + (ltF (nI i) (nI j) (lm (mtQ t (nI i) (nI j) (nI k))) (x.2 6) (xchange x (nI i) (nI j) (nI k)) 0).2) = (mlF (nI i) (nI j) (nI (ucR ((mtQ t (nI i) (nI j) (nI k)).1 20) ((mtQ t (nI i) (nI j) (nI k)).1 18) (lm (mtQ t (nI i) (nI j) (nI k))) (nI i) (nI j) (x.2 6)) - nI k) (lm (mtQ t (nI i) (nI j) (nI k))) (x.2 6) (mtQ t (nI i) (nI j) (nI k)) 0).1 := by
            rw [← s2]; exact setC_self _ _
          refine Same.yes (s5 ▸ s4) ?_ (congrArg nI s3)
          exact (mlF_0 _ _ _ _ _ _ _).trans r7

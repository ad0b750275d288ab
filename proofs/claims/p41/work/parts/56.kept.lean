/-! ===== what is kept beside RX ===== -/
theorem sI_upd (f : Nat → Int32) (a : Nat) (v : Int32) : ∀ n, sI (upd f a v) 0 n = if a < n then sI f 0 n + (v - f a) else sI f 0 n
  | 0 => (if_neg (Nat.not_lt_zero a)).symm
  | n + 1 => by
    rw [sI, sI, sI_upd f a v n, Nat.zero_add, upd_a]
    by_cases h : n = a
    · subst h
      rw [if_neg (Nat.lt_irrefl _), if_pos rfl, if_pos (Nat.lt_succ_self _)]; grind
    · rw [if_neg h]
      by_cases h2 : a < n
      · rw [if_pos h2, if_pos (by omega)]; grind
      · rw [if_neg h2, if_neg (by omega)]
theorem sI_one {f : Nat → Int32} {v : Int32} {c : Nat} : ∀ {n : Nat}, (∀ i, i < n → f i = if i = c then v else 0) → c < n → sI f 0 n = v
  | 0, _, h => absurd h (Nat.not_lt_zero _)
  | n + 1, h, hc => by
    rw [sI, Nat.zero_add, h n (by omega)]
    by_cases hn : n = c
    · rw [if_pos hn, sI_zero (fun i hi => by rw [Nat.zero_add, h i (by omega), if_neg (by omega)]), Int32.zero_add]
    · rw [if_neg hn, sI_one (fun i hi => h i (by omega)) (by omega), Int32.add_zero]
/-- where a trunk's lines may be too few for a while -/
abbrev LN (w : Nat → Prop) (x : XS) : Prop := ∀ a b, a < b → b < 5 → ¬ w (5 * a + b) → ∃ l u, l ≤ 5 ∧ u ≤ l ∧ x.1 12 (5 * a + b) = nI l ∧ x.1 13 (5 * a + b) = nI u
/-- at most B losses of any carrier, the second at most T, n0 paid for numbers -/
abbrev EI (w : Nat → Prop) (B T : Nat) (n0 : Int32) (x : XS) : Prop :=
  (∀ c, c < 5 → ∃ m, m ≤ B ∧ x.1 10 c = nI (5 * m)) ∧ LN w x ∧ (∀ j, j < x.2 6 → ∃ m, m ≤ 9 * (eN x j - bN x j) ∧ x.1 32 j = nI m) ∧ (∀ i, i < x.2 2 → ∃ c, c < 5 ∧ x.1 16 i = nI c ∧ x.1 17 (5 * i + c) = x.1 15 i) ∧ (∀ i, i < x.2 3 → ∃ p, p < 6 ∧ x.1 20 i = nI p) ∧ (x.2 0 ≤ T) ∧ (∀ n, n < 12 → ¬ x.1 5 n = 0 → ¬ x.1 2 n = 0) ∧ (sI (x.1 8) 0 5 = n0) ∧ (sI (x.1 3) 0 12 = n0)
theorem EI.ls {w : Nat → Prop} {B T : Nat} {n0 : Int32} {x : XS} (E : EI w B T n0 x) : ∀ c, c < 5 → ∃ m, m ≤ B ∧ x.1 10 c = nI (5 * m) := E.1
theorem EI.ln {w : Nat → Prop} {B T : Nat} {n0 : Int32} {x : XS} (E : EI w B T n0 x) : LN w x := E.2.1
theorem EI.cb {w : Nat → Prop} {B T : Nat} {n0 : Int32} {x : XS} (E : EI w B T n0 x) : ∀ j, j < x.2 6 → ∃ m, m ≤ 9 * (eN x j - bN x j) ∧ x.1 32 j = nI m := E.2.2.1
theorem EI.nw {w : Nat → Prop} {B T : Nat} {n0 : Int32} {x : XS} (E : EI w B T n0 x) : ∀ i, i < x.2 2 → ∃ c, c < 5 ∧ x.1 16 i = nI c ∧ x.1 17 (5 * i + c) = x.1 15 i := E.2.2.2.1
theorem EI.sv {w : Nat → Prop} {B T : Nat} {n0 : Int32} {x : XS} (E : EI w B T n0 x) : ∀ i, i < x.2 3 → ∃ p, p < 6 ∧ x.1 20 i = nI p := E.2.2.2.2.1
theorem EI.nn {w : Nat → Prop} {B T : Nat} {n0 : Int32} {x : XS} (E : EI w B T n0 x) : x.2 0 ≤ T := E.2.2.2.2.2.1
theorem EI.br {w : Nat → Prop} {B T : Nat} {n0 : Int32} {x : XS} (E : EI w B T n0 x) : ∀ n, n < 12 → ¬ x.1 5 n = 0 → ¬ x.1 2 n = 0 := E.2.2.2.2.2.2.1
theorem EI.pu {w : Nat → Prop} {B T : Nat} {n0 : Int32} {x : XS} (E : EI w B T n0 x) : sI (x.1 8) 0 5 = n0 := E.2.2.2.2.2.2.2.1
theorem EI.py {w : Nat → Prop} {B T : Nat} {n0 : Int32} {x : XS} (E : EI w B T n0 x) : sI (x.1 3) 0 12 = n0 := E.2.2.2.2.2.2.2.2
theorem EI.mono {w : Nat → Prop} {B T B2 T2 : Nat} {n0 : Int32} {x : XS} (E : EI w B T n0 x) (h1 : B ≤ B2) (h2 : T ≤ T2) : EI w B2 T2 n0 x := ⟨fun c hc => by
  obtain ⟨m, h3, h4⟩ := E.ls c hc
  exact ⟨m, by omega, h4⟩, E.ln, E.cb, E.nw, E.sv, Nat.le_trans E.nn h2, E.br, E.pu, E.py⟩
/-- nothing that EI speaks of changes -/
theorem EI.keep {w : Nat → Prop} {B T : Nat} {n0 : Int32} {x p : XS} (E : EI w B T n0 x) (r : ∀ j, (j < 14 ∧ j ≠ 0 ∧ j ≠ 1 ∧ j ≠ 4 ∧ j ≠ 6 ∧ j ≠ 7 ∧ j ≠ 9 ∧ j ≠ 11) ∨ j = 15 ∨ j = 16 ∨ j = 17 ∨ j = 20 ∨ j = 29 ∨ j = 30 ∨ j = 31 ∨ j = 32 → p.1 j = x.1 j) (c : ∀ j, j = 0 ∨ j = 2 ∨ j = 3 ∨ j = 6 → p.2 j = x.2 j) : EI w B T n0 p := by
  have ee : ∀ j, eN p j = eN x j := fun j => by unfold eN; rw [r 31 (by decide), r 30 (by decide), c 0 (by decide)]
  have eb : ∀ j, bN p j = bN x j := fun j => by unfold bN; rw [r 29 (by decide)]
  refine ⟨fun c hc => ?_, fun a b hab hb hw => ?_, fun j hj => ?_, fun i hi => ?_, fun i hi => ?_, ?_, fun n hn => ?_, ?_, ?_⟩
  · rw [r 10 (by decide)]; exact E.ls c hc
  · rw [r 12 (by decide), r 13 (by decide)]; exact E.ln a b hab hb hw
  · rw [c 6 (by decide)] at hj; rw [ee, eb, r 32 (by decide)]; exact E.cb j hj
  · rw [c 2 (by decide)] at hi; rw [r 16 (by decide), r 17 (by decide), r 15 (by decide)]; exact E.nw i hi
  · rw [c 3 (by decide)] at hi; rw [r 20 (by decide)]; exact E.sv i hi
  · rw [c 0 (by decide)]; exact E.nn
  · rw [r 5 (by decide), r 2 (by decide)]; exact E.br n hn
  · rw [r 8 (by decide)]; exact E.pu
  · rw [r 3 (by decide)]; exact E.py
abbrev NB : Nat → Prop := fun _ => False
/-- the invariant of an exchange: it is some reference's, and EI -/
abbrev IV (B T : Nat) (n0 : Int32) (x : XS) : Prop := ∃ t, RX x t ∧ EI NB B T n0 x
theorem IV.mono {B T B2 T2 : Nat} {n0 : Int32} {x : XS} (I : IV B T n0 x) (h1 : B ≤ B2) (h2 : T ≤ T2) : IV B2 T2 n0 x := by
  obtain ⟨t, h, E⟩ := I
  exact ⟨t, h, E.mono h1 h2⟩
theorem hadd_o (q : XS) (h : Nat) (key s v : Int32) {j : Nat} (h0 : j ≠ hr h + 0) (h1 : j ≠ hr h + 1) (h2 : j ≠ hr h + 2) : (hadd q h key s v).1 j = q.1 j := by
  unfold hadd
  split
  · rw [setC_1]; unfold xs; rw [setR_o _ h2, setR_o _ h1, setR_o _ h0]
  · rfl
theorem hadd_oc (q : XS) (h : Nat) (key s v : Int32) {j : Nat} (h0 : j ≠ 2 + h) : (hadd q h key s v).2 j = q.2 j := by
  unfold hadd
  split
  · rw [setC_2, if_neg h0]; rfl
  · rfl
theorem xprice_o (x : XS) (c s a b : Int32) {j : Nat} (h : j < 21 ∨ 26 < j) : (xprice x c s a b).1 j = x.1 j := by
  unfold xprice
  rw [hadd_o _ 3 _ _ _ (show j ≠ 24 + 0 by omega) (show j ≠ 24 + 1 by omega) (show j ≠ 24 + 2 by omega), hadd_o _ 2 _ _ _ (show j ≠ 21 + 0 by omega) (show j ≠ 21 + 1 by omega) (show j ≠ 21 + 2 by omega)]
theorem xprice_oc (x : XS) (c s a b : Int32) {j : Nat} (h : j ≠ 4) (h2 : j ≠ 5) : (xprice x c s a b).2 j = x.2 j := by
  unfold xprice
  rw [hadd_oc _ 3 _ _ _ (show j ≠ 2 + 3 by omega), hadd_oc _ 2 _ _ _ (show j ≠ 2 + 2 by omega)]
theorem iv_setPrices {B T : Nat} {n0 : Int32} {x : XS} (I : IV B T n0 x) (c a b : Int32) : IV B T n0 (xSetPrices x c a b).2 := by
  obtain ⟨t, h, E⟩ := I
  refine ⟨_, (s_setPrices h c a b).2, ?_⟩
  unfold xSetPrices R0
  split
  · exact E
  · split
    · exact E
    · split
      · exact E
      · split
        · exact E.keep (fun j hj => xprice_o _ _ _ _ _ (by omega)) (fun j hj => xprice_oc _ _ _ _ _ (by omega) (by omega))
        · exact E
theorem xs_o (q : XS) (k : Nat) (i v : Int32) {j : Nat} (h : j ≠ k) : (xs q k i v).1 j = q.1 j := setR_o _ h
theorem iv_setDelay {B T : Nat} {n0 : Int32} {x : XS} (I : IV B T n0 x) (c s : Int32) : IV B T n0 (xSetDelay x c s).2 := by
  obtain ⟨t, h, E⟩ := I
  refine ⟨_, (s_setDelay h c s).2, ?_⟩
  unfold xSetDelay R0
  split
  · exact E
  · split
    · exact E
    · exact E.keep (fun j hj => xs_o _ _ _ _ (by omega)) (fun j hj => rfl)
theorem iv_bond {B T : Nat} {n0 : Int32} {x : XS} (I : IV B T n0 x) (n c : Int32) : IV B T n0 (xBond x n c).2 := by
  obtain ⟨t, h, E⟩ := I
  refine ⟨_, (s_bond h n c).2, ?_⟩
  unfold xBond R0
  split
  · exact E
  · split
    · exact E
    · split
      · exact E.keep (fun j hj => xs_o _ _ _ _ (by omega)) (fun j hj => rfl)
      · exact E
theorem iv_sell {B T : Nat} {n0 : Int32} {x : XS} (I : IV B T n0 x) (n p : Int32) : IV B T n0 (xSell x n p).2 := by
  obtain ⟨t, h, E⟩ := I
  refine ⟨_, (s_sell h n p).2, ?_⟩
  unfold xSell R0
  split
  · exact E
  · split
    · exact E
    · next hp =>
      split
      · exact E
      · split
        · next hc =>
          have hc2 : x.2 3 < 60 := by have := h.s60; exact Nat.lt_of_not_le (fun z => nI_nlt (b := 60) z (by omega) hc)
          obtain ⟨i, hi, rfl⟩ := nP hp
          rw [hadd_1 hc2]
          refine ⟨E.ls, E.ln, E.cb, E.nw, fun j hj => ?_, E.nn, E.br, E.pu, E.py⟩
          show ∃ p, p < 6 ∧ upd (x.1 20) (x.2 3) (nI i) j = nI p
          rw [upd_a]
          split
          · exact ⟨i, hi, rfl⟩
          · next hj2 => exact E.sv j (by have h9 : j < x.2 3 + 1 := hj; omega)
        · exact E
/-- purses after a giving -/
theorem sI_give {f : Nat → Int32} {a b : Nat} (ha : a < 5) (hb : b < 5) (v : Int32) : sI (upd (upd f a (f a + -v)) b (upd f a (f a + -v) b + v)) 0 5 = sI f 0 5 := by
  rw [sI_upd, if_pos hb, sI_upd, if_pos ha]; grind
theorem iv_port {B T : Nat} {n0 : Int32} {x : XS} (I : IV B T n0 x) (n c : Int32) : IV B T n0 (xPort x n c).2 := by
  obtain ⟨t, h, E⟩ := I
  refine ⟨_, (s_port h n c).2, ?_⟩
  unfold xPort R0
  split
  · exact E
  · next hn =>
    split
    · exact E
    · next hc =>
      split
      · exact E
      · split
        · split
          · next hf =>
            have hf2 : x.2 2 < 60 := by have := h.p60; exact Nat.lt_of_not_le (fun z => nI_nlt (b := 60) z (by omega) hf)
            obtain ⟨i, hi, rfl⟩ := nN hn
            obtain ⟨j, hj, rfl⟩ := nC hc
            obtain ⟨u, hu, eu⟩ := x0_in h hi
            have e0 : xg x 0 (nI i) = nI u := (xg_n (k := 0) (show i < 12 from hi)).trans eu
            rw [e0]
            have e1 : xcarry x (nI i) (nI u) (nI j) (nI (x.2 0)) = setC (setR (setR (setR (setR x 17 (nwR (x.1 17) (x.1 7) (5 * x.2 2) (nI u) (nI j) (nI (x.2 0)) 5)) 14 (upd (x.1 14) (x.2 2) (nI i))) 15 (upd (x.1 15) (x.2 2) (nI (x.2 0)))) 16 (upd (x.1 16) (x.2 2) (nI j))) 2 (x.2 2 + 1) := by
              unfold xcarry
              rw [cyF_n hf2 _ _ _ 5 (Nat.le_refl _), hadd_0 (q := setR x 17 (nwR (x.1 17) (x.1 7) (5 * x.2 2) (nI u) (nI j) (nI (x.2 0)) 5)) hf2]
              rfl
            rw [e1, xs_n (k := 0) (show i < 12 from hi), xgive_n hj hu]
            refine ⟨E.ls, E.ln, E.cb, fun k hk => ?_, E.sv, E.nn, E.br, ?_, E.py⟩
            · show ∃ c, c < 5 ∧ upd (x.1 16) (x.2 2) (nI j) k = nI c ∧ nwR (x.1 17) (x.1 7) (5 * x.2 2) (nI u) (nI j) (nI (x.2 0)) 5 (5 * k + c) = upd (x.1 15) (x.2 2) (nI (x.2 0)) k
              by_cases hk2 : k = x.2 2
              · subst hk2
                refine ⟨j, hj, pk_us, ?_⟩
                rw [pk_us]
                unfold nwR
                rw [if_pos (by omega), show 5 * x.2 2 + j - 5 * x.2 2 = j by omega, if_pos (Or.inr rfl)]
              · have h9 : k < x.2 2 + 1 := hk
                obtain ⟨c, hc2, q1, q2⟩ := E.nw k (by omega)
                refine ⟨c, hc2, by rw [pk_un hk2]; exact q1, ?_⟩
                rw [pk_un hk2, ← q2]
                unfold nwR
                rw [if_neg (by omega)]
            · exact (sI_give hj hu _).trans E.pu
          · exact E
        · exact E
theorem sI_pay {f : Nat → Int32} {a N : Nat} (ha : a < N) (v : Int32) : sI (upd f a (f a + v)) 0 N = sI f 0 N + v := by
  rw [sI_upd, if_pos ha]; grind
/-- what settling makes of EI: p coins of the d that m owes -/
theorem EI.settled {w : Nat → Prop} {B T : Nat} {n0 : Int32} {x : XS} (E : EI w B T n0 x) {m d p cc : Nat} {fb f : Nat → Int32} (hm : m < 12) (hc : cc < 5) (hd : x.1 2 m = nI d) (hd2 : d < 2 ^ 31) (hf : ∀ n, n < 12 → n ≠ m → ¬ f n = 0 → ¬ x.1 5 n = 0) (hfm : ¬ f m = 0 → 0 < d - p) : EI w B T (n0 + nI p) (setR (setR (setR (setR (setR x 4 fb) 2 (upd (x.1 2) m (nI (d - p)))) 3 (upd (x.1 3) m (x.1 3 m + nI p))) 8 (upd (x.1 8) cc (x.1 8 cc + nI p))) 5 f) := by
  refine ⟨E.ls, E.ln, E.cb, E.nw, E.sv, E.nn, fun n hn => ?_, ?_, ?_⟩
  · show ¬ f n = 0 → ¬ upd (x.1 2) m (nI (d - p)) n = 0
    intro hz
    rw [upd_a]
    by_cases hnm : n = m
    · subst hnm
      rw [if_pos rfl]; exact nI_ne0 (hfm hz) (by omega)
    · rw [if_neg hnm]; exact E.br n hn (hf n hn hnm hz)
  · show sI (upd (x.1 8) cc (x.1 8 cc + nI p)) 0 5 = n0 + nI p
    rw [sI_pay hc, E.pu]
  · show sI (upd (x.1 3) m (x.1 3 m + nI p)) 0 12 = n0 + nI p
    rw [sI_pay hm, E.py]
/-- pay: what is answered, what was paid -/
theorem iv_pay {B T : Nat} {n0 : Int32} {x : XS} (I : IV B T n0 x) {m : Nat} (hm : m < 12) (c : Int32) : (∃ e, e < 3 ∧ (xPay x (nI m) c) = (.inr e, x)) ∨ ∃ d p, p ≤ d ∧ d < 2 ^ 30 ∧ x.1 2 m = nI d ∧ (xPay x (nI m) c).1 = .inl (some (.int (nI (d - p)))) ∧ IV B T (n0 + nI p) (xPay x (nI m) c).2 := by
  obtain ⟨t, h, E⟩ := I
  have hs := (s_pay h (nI m) c).2
  have h20 := h.n20
  obtain ⟨d, ed, hd⟩ := h.gD m hm
  obtain ⟨cc, hcc, e0⟩ := x0_in h hm
  have hn : ¬ noN (nI m) := fun z => by
    rcases z with z | z
    · exact nI_pos (by omega) z
    · exact nI_ge (b := 12) (a := m) hm (by decide) z
  revert hs
  unfold xPay
  rw [if_neg hn, xg_n (k := 2) (show m < 12 from hm), ed]
  by_cases hs : noW c 1 (nI d)
  · rw [if_pos hs]
    exact fun _ => Or.inl ⟨1, by decide, rfl⟩
  · rw [if_neg hs]
    obtain ⟨p, hp1, hp, rfl⟩ := nW (a := 1) (b := d) (by omega) (by decide) hs
    obtain ⟨v1, a1⟩ := xsettle_n (q := x) hm hcc e0 ed hp (by omega)
    rw [v1, a1]
    intro hs
    refine Or.inr ⟨d, p, hp, by omega, rfl, rfl, _, hs, ?_⟩
    have H := E.settled (fb := x.1 4) (p := p) (f := if d - p = 0 then upd (x.1 5) m 0 else x.1 5) hm hcc ed (by omega) (fun n hn hnm => ?_) ?_
    · rw [setR_self x 4] at H
      exact H
    · split
      · rw [pk_un hnm]; exact id
      · exact id
    · split
      · rw [pk_us]; exact fun z => absurd rfl z
      · intro _; omega
/-- judge: what is answered, what was taken of the bond -/
theorem iv_judge {B T : Nat} {n0 : Int32} {x : XS} (I : IV B T n0 x) {m : Nat} (hm : m < 12) : (∃ e, e < 3 ∧ (xJudge x (nI m)) = (.inr e, x)) ∨ ∃ b p l, p ≤ b ∧ b ≤ 5000 ∧ l < 2 ^ 30 ∧ x.1 4 m = nI b ∧ (xJudge x (nI m)).1 = .inl (some (.int (nI l))) ∧ (xJudge x (nI m)).2.1 4 m = nI (b - p) ∧ IV B T (n0 + nI p) (xJudge x (nI m)).2 := by
  obtain ⟨t, h, E⟩ := I
  have hs := (s_judge h (nI m)).2
  have h20 := h.n20
  obtain ⟨d, ed, hd⟩ := h.gD m hm
  obtain ⟨b, hb, eb⟩ := h.gB m hm
  obtain ⟨cc, hcc, e0⟩ := x0_in h hm
  have hn : ¬ noN (nI m) := fun z => by
    rcases z with z | z
    · exact nI_pos (by omega) z
    · exact nI_ge (b := 12) (a := m) hm (by decide) z
  have ex2 : xg x 2 (nI m) = nI d := (xg_n (k := 2) (show m < 12 from hm)).trans ed
  have ex4 : xg x 4 (nI m) = nI b := (xg_n (k := 4) (show m < 12 from hm)).trans eb
  revert hs
  unfold xJudge
  rw [if_neg hn, ex2]
  by_cases h0 : d = 0
  · subst h0
    rw [if_neg (by decide)]
    exact fun _ => Or.inl ⟨2, by decide, rfl⟩
  · have h1 : (0 : Int32) < nI d := nI_lt (a := 0) (by omega) (by omega)
    rw [if_pos h1]
    have emn : mn (xg x 4 (nI m)) (nI d) = nI (min b d) := by rw [ex4, mn_n (by omega) (by omega)]
    rw [emn]
    have exj : xJq x (nI m) = setR x 4 (upd (x.1 4) m (nI (b - min b d))) := by
      unfold xJq
      rw [ex2, emn, xad_n (k := 4) (show m < 12 from hm), eb, ← Int32.sub_eq_add_neg, pk_sub (by omega)]
    rw [exj]
    obtain ⟨v1, a1⟩ := xsettle_n (q := setR x 4 (upd (x.1 4) m (nI (b - min b d)))) (p := min b d) hm hcc e0 ed (by omega) (by omega)
    rw [v1, a1]
    by_cases hz : d - min b d = 0
    · rw [if_pos (by rw [hz, nI_0]; exact Int32.le_refl _), if_pos hz]
      intro hs
      refine Or.inr ⟨b, min b d, d - min b d, by omega, hb, by omega, eb, rfl, pk_us, _, hs, ?_⟩
      exact E.settled (fb := upd (x.1 4) m (nI (b - min b d))) (p := min b d) (f := upd (x.1 5) m 0) hm hcc ed (by omega) (fun n hn hnm => by rw [pk_un hnm]; exact id) (fun z => absurd pk_us z)
    · rw [if_neg (nI_nle (by omega) (by omega)), if_neg hz, xs_n (k := 5) (show m < 12 from hm), setR_setR]
      intro hs
      refine Or.inr ⟨b, min b d, d - min b d, by omega, hb, by omega, eb, rfl, pk_us, _, hs, ?_⟩
      exact E.settled (fb := upd (x.1 4) m (nI (b - min b d))) (p := min b d) (f := upd (x.1 5) m 1) hm hcc ed (by omega) (fun n hn hnm => by rw [pk_un hnm]; exact id) (fun _ => by omega)

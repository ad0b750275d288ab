/-! ===== sums of Int32, rows by natural places ===== -/
def sI (f : Nat → Int32) (a : Nat) : Nat → Int32
  | 0 => 0
  | n + 1 => sI f a n + f (a + n)
theorem sI_congr {f g : Nat → Int32} {a : Nat} : ∀ {n : Nat}, (∀ i, i < n → f (a + i) = g (a + i)) → sI f a n = sI g a n
  | 0, _ => rfl
  | n + 1, h => by rw [sI, sI, sI_congr (fun i hi => h i (by omega)), h n (by omega)]
theorem sI_add (f : Nat → Int32) (a m : Nat) : ∀ n, sI f a (m + n) = sI f a m + sI f (a + m) n
  | 0 => (Int32.add_zero _).symm
  | n + 1 => by
    show sI f a (m + n) + f (a + (m + n)) = sI f a m + (sI f (a + m) n + f (a + m + n))
    rw [sI_add f a m n, Int32.add_assoc, Nat.add_assoc]
theorem sI_zero {f : Nat → Int32} {a : Nat} : ∀ {n : Nat}, (∀ i, i < n → f (a + i) = 0) → sI f a n = 0
  | 0, _ => rfl
  | n + 1, h => by rw [sI, sI_zero (fun i hi => h i (by omega)), h n (by omega)]; rfl
theorem sI_plus (f g : Nat → Int32) (a : Nat) : ∀ n, sI (fun i => f i + g i) a n = sI f a n + sI g a n
  | 0 => rfl
  | n + 1 => by rw [sI, sI, sI, sI_plus f g a n]; grind
theorem sI_comm (f : Nat → Nat → Int32) (a b m : Nat) : ∀ n, sI (fun i => sI (fun j => f i j) b m) a n = sI (fun j => sI (fun i => f i j) a n) b m
  | 0 => (sI_zero (fun _ _ => rfl)).symm
  | n + 1 => by rw [sI, sI_comm f a b m n, ← sI_plus]; rfl
theorem sI_if {p : Prop} [Decidable p] (f : Nat → Int32) (a : Nat) (n : Nat) : sI (fun i => if p then f i else 0) a n = if p then sI f a n else 0 := by
  by_cases h : p
  · rw [if_pos h]; exact sI_congr (fun i _ => if_pos h)
  · rw [if_neg h]; exact sI_zero (fun i _ => if_neg h)
theorem rl_lt (k : Nat) : rl k < 1000 := by unfold rl; split <;> decide
theorem rg_n {n i : Nat} (hn : n < 1000) (h : i < n) (f : Nat → Int32) : rg n f (nI i) = f i := by
  unfold rg
  rw [if_pos ⟨nI_pos' (by omega), nI_lt h (by omega)⟩, nI_clamp (by omega)]
theorem rs_n {n i : Nat} (hn : n < 1000) (h : i < n) (f : Nat → Int32) (v : Int32) : rs n f (nI i) v = upd f i v := by
  unfold rs
  rw [if_pos ⟨nI_pos' (by omega), nI_lt h (by omega)⟩, nI_clamp (by omega)]
theorem rad_n {n i : Nat} (hn : n < 1000) (h : i < n) (f : Nat → Int32) (v : Int32) : rad n f (nI i) v = upd f i (f i + v) := by
  unfold rad
  rw [if_pos ⟨nI_pos' (by omega), nI_lt h (by omega)⟩, nI_clamp (by omega)]
theorem xg_n {q : XS} {k i : Nat} (h : i < rl k) : xg q k (nI i) = q.1 k i := rg_n (rl_lt k) h _
theorem xs_n {q : XS} {k i : Nat} (h : i < rl k) (v : Int32) : xs q k (nI i) v = setR q k (upd (q.1 k) i v) := by
  unfold xs; rw [rs_n (rl_lt k) h]
theorem xad_n {q : XS} {k i : Nat} (h : i < rl k) (v : Int32) : xad q k (nI i) v = setR q k (upd (q.1 k) i (q.1 k i + v)) := by
  unfold xad; rw [rad_n (rl_lt k) h]
theorem mg_n {q : XS} {k i : Nat} (h : i < 1000) : mg q k (nI i) = q.1 k i := by
  show q.1 k (nI i).toNatClampNeg = _; rw [nI_clamp (by omega)]
theorem mw_n {q : XS} {k i : Nat} (h : i < 1000) (v : Int32) : mw q k (nI i) v = setR q k (upd (q.1 k) i v) := by
  show setR q k (upd (q.1 k) (nI i).toNatClampNeg v) = _; rw [nI_clamp (by omega)]
theorem setR_1 (q : XS) (k : Nat) (f : Nat → Int32) (j : Nat) : (setR q k f).1 j = if j = k then f else q.1 j := rfl
theorem setR_2 (q : XS) (k : Nat) (f : Nat → Int32) : (setR q k f).2 = q.2 := rfl
theorem setC_1 (q : XS) (k n : Nat) : (setC q k n).1 = q.1 := rfl
theorem setC_2 (q : XS) (k n j : Nat) : (setC q k n).2 j = if j = k then n else q.2 j := rfl
theorem upd_a (f : Nat → Int32) (i : Nat) (v : Int32) (j : Nat) : upd f i v j = if j = i then v else f j := rfl
theorem hr_rl {h j : Nat} (hh : h < 4) (hj : j < 3) : rl (hr h + j) = 60 := by
  match h, hh, j, hj with
  | 0, _, 0, _ => rfl
  | 0, _, 1, _ => rfl
  | 0, _, 2, _ => rfl
  | 1, _, 0, _ => rfl
  | 1, _, 1, _ => rfl
  | 1, _, 2, _ => rfl
  | 2, _, 0, _ => rfl
  | 2, _, 1, _ => rfl
  | 2, _, 2, _ => rfl
  | 3, _, 0, _ => rfl
  | 3, _, 1, _ => rfl
  | 3, _, 2, _ => rfl
theorem xg_h {q : XS} {h j i : Nat} (hh : h < 4) (hj : j < 3) (hi : i < 60) : xg q (hr h + j) (nI i) = q.1 (hr h + j) i := xg_n (by rw [hr_rl hh hj]; exact hi)
/-! ===== histories ===== -/
def hst (q : XS) (h i : Nat) : Nat := (q.1 (hr h + 1) i).toNatClampNeg
abbrev HI (q : XS) (h now : Nat) : Prop := (h < 4) ∧ (q.2 (2 + h) ≤ 60) ∧ (now ≤ 20000) ∧ (∀ i, i < q.2 (2 + h) → q.1 (hr h + 1) i = nI (hst q h i) ∧ hst q h i ≤ now) ∧ (∀ i j, i ≤ j → j < q.2 (2 + h) → hst q h i ≤ hst q h j)
theorem HI.hh {q : XS} {h now : Nat} (s9 : HI q h now) : h < 4 := s9.1
theorem HI.cnt {q : XS} {h now : Nat} (s9 : HI q h now) : q.2 (2 + h) ≤ 60 := s9.2.1
theorem HI.top {q : XS} {h now : Nat} (s9 : HI q h now) : now ≤ 20000 := s9.2.2.1
theorem HI.lo {q : XS} {h now : Nat} (s9 : HI q h now) : ∀ i, i < q.2 (2 + h) → q.1 (hr h + 1) i = nI (hst q h i) ∧ hst q h i ≤ now := s9.2.2.2.1
theorem HI.mono {q : XS} {h now : Nat} (s9 : HI q h now) : ∀ i j, i ≤ j → j < q.2 (2 + h) → hst q h i ≤ hst q h j := s9.2.2.2.2
theorem hvF_congr {q : XS} {h : Nat} {key s1 s2 first : Int32} : ∀ n, (∀ i, i < n → xg q (hr h + 0) (nI i) = key → (xg q (hr h + 1) (nI i) ≤ s1 ↔ xg q (hr h + 1) (nI i) ≤ s2)) → hvF q h key s1 first n = hvF q h key s2 first n
  | 0, _ => rfl
  | n + 1, H => by
    have h0 := H n (by omega)
    rw [hvF, hvF, hvF_congr n (fun i hi => H i (by omega))]
    by_cases hk : xg q (hr h + 0) (nI n) = key
    · by_cases h1 : xg q (hr h + 1) (nI n) ≤ s1
      · rw [if_pos ⟨hk, h1⟩, if_pos ⟨hk, (h0 hk).mp h1⟩]
      · rw [if_neg (fun z => h1 z.2), if_neg (fun z => h1 ((h0 hk).mpr z.2))]
    · rw [if_neg (fun z => hk z.1), if_neg (fun z => hk z.1)]
/-- a value is the same in two seconds if no entry of the key lies between them -/
theorem hval_same {q : XS} {h now : Nat} (H : HI q h now) {key first : Int32} {f t : Nat} (hft : f ≤ t) (ht : t ≤ 20000) (hn : ∀ i, i < q.2 (2 + h) → q.1 (hr h + 0) i = key → hst q h i ≤ f ∨ t < hst q h i) : hval q h key (nI t) first = hval q h key (nI f) first := by
  refine hvF_congr _ (fun i hi hk => ?_)
  have hc := H.cnt
  have hT := H.top
  have hh := H.hh
  rw [xg_h hh (by decide) (by omega)] at hk ⊢
  obtain ⟨e1, e2⟩ := H.lo i hi
  rw [e1, nI_leI (by omega) (by omega), nI_leI (by omega) (by omega)]
  rcases hn i hi hk with h1 | h1 <;> omega
theorem mn_n {a b : Nat} (ha : a < 2 ^ 31) (hb : b < 2 ^ 31) : mn (nI a) (nI b) = nI (min a b) := by
  unfold mn
  by_cases h : b < a
  · rw [if_pos (nI_lt h ha), Nat.min_eq_right (by omega)]
  · rw [if_neg (nI_nlt (by omega) hb), Nat.min_eq_left (by omega)]
theorem hnF_spec {q : XS} {h now : Nat} (H : HI q h now) {key : Int32} {f e : Nat} (hf : f ≤ 20000) (he : e ≤ 20000) : ∀ n, n ≤ q.2 (2 + h) → ∃ r, hnF q h key (nI f) (nI e) (q.2 (2 + h)) n = nI r ∧ r ≤ e ∧ (f < e → f < r) ∧ (∀ i, q.2 (2 + h) ≤ i + n → i < q.2 (2 + h) → q.1 (hr h + 0) i = key → hst q h i ≤ f ∨ r ≤ hst q h i) ∧ (r = e ∨ ∃ i, i < q.2 (2 + h) ∧ r = hst q h i ∧ f < r)
  | 0, _ => ⟨e, rfl, Nat.le_refl _, id, fun i h1 h2 => absurd h1 (by omega), Or.inl rfl⟩
  | n + 1, hn => by
    have hc := H.cnt
    have hT := H.top
    have hh := H.hh
    have hi : q.2 (2 + h) - (n + 1) < q.2 (2 + h) := by omega
    obtain ⟨e1, e2⟩ := H.lo _ hi
    rw [hnF, xg_h hh (by decide) (by omega), xg_h hh (by decide) (by omega), e1]
    have eL : nI f < nI (hst q h (q.2 (2 + h) - (n + 1))) ↔ f < hst q h (q.2 (2 + h) - (n + 1)) := nI_ltI (by omega) (by omega)
    by_cases hc1 : q.1 (hr h + 0) (q.2 (2 + h) - (n + 1)) = key ∧ nI f < nI (hst q h (q.2 (2 + h) - (n + 1)))
    · have hc2 := eL.mp hc1.2
      rw [if_pos hc1, mn_n (by omega) (by omega)]
      refine ⟨_, rfl, Nat.min_le_right _ _, fun h1 => by omega, fun i h1 h2 _ => ?_, ?_⟩
      · have := H.mono (q.2 (2 + h) - (n + 1)) i (by omega) h2
        right; omega
      · by_cases h3 : e ≤ hst q h (q.2 (2 + h) - (n + 1))
        · left; omega
        · right; exact ⟨_, hi, by omega, by omega⟩
    · rw [if_neg hc1]
      obtain ⟨r, h1, h2, h3, h4, h5⟩ := hnF_spec H (key := key) hf he n (by omega)
      refine ⟨r, h1, h2, h3, fun i g1 g2 g3 => ?_, h5⟩
      by_cases hi2 : i = q.2 (2 + h) - (n + 1)
      · subst hi2
        left
        exact Nat.le_of_not_lt (fun z => hc1 ⟨g3, eL.mpr z⟩)
      · exact h4 i (by clear h5 h3; omega) g2 g3
theorem hnext_spec {q : XS} {h now : Nat} (H : HI q h now) {key : Int32} {f e : Nat} (hf : f ≤ 20000) (he : e ≤ 20000) : ∃ r, hnext q h key (nI f) (nI e) = nI r ∧ r ≤ e ∧ (f < e → f < r) ∧ (∀ i, i < q.2 (2 + h) → q.1 (hr h + 0) i = key → hst q h i ≤ f ∨ r ≤ hst q h i) ∧ (r = e ∨ ∃ i, i < q.2 (2 + h) ∧ r = hst q h i ∧ f < r) := by
  obtain ⟨r, h1, h2, h3, h4, h5⟩ := hnF_spec H (key := key) hf he _ (Nat.le_refl _)
  exact ⟨r, h1, h2, h3, fun i g1 g2 => h4 i (by omega) g1 g2, h5⟩
/-! how many entries lie behind a second -/
def cg (st : Nat → Nat) (f : Nat) : Nat → Nat
  | 0 => 0
  | n + 1 => cg st f n + if f < st n then 1 else 0
theorem cg_le (st : Nat → Nat) (f : Nat) : ∀ n, cg st f n ≤ n
  | 0 => Nat.le_refl _
  | n + 1 => by have := cg_le st f n; rw [cg]; split <;> omega
theorem cg_anti (st : Nat → Nat) {f g : Nat} (h : f ≤ g) : ∀ n, cg st g n ≤ cg st f n
  | 0 => Nat.le_refl _
  | n + 1 => by
    have := cg_anti st h n
    rw [cg, cg]
    by_cases h1 : g < st n
    · rw [if_pos h1, if_pos (by omega)]; omega
    · rw [if_neg h1]; omega
theorem cg_less (st : Nat → Nat) {f g i : Nat} (h : f < g) (hi : st i = g) : ∀ n, i < n → cg st g n + 1 ≤ cg st f n
  | 0, h0 => absurd h0 (by omega)
  | n + 1, h0 => by
    rw [cg, cg]
    by_cases hn : i = n
    · subst hn
      have := cg_anti st (Nat.le_of_lt h) i
      rw [if_neg (by omega), if_pos (by omega)]; omega
    · have := cg_less st h hi n (by omega)
      by_cases h1 : g < st n
      · rw [if_pos h1, if_pos (by omega)]; omega
      · rw [if_neg h1]; omega

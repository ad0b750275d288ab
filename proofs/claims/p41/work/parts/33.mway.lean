theorem php : ∀ (n : Nat) (f : Nat → Nat), (∀ i, i ≤ n → f i < n) → ∃ i j, i < j ∧ j ≤ n ∧ f i = f j
  | 0, f, h => absurd (h 0 (Nat.le_refl _)) (by omega)
  | n + 1, f, h => by
    by_cases hx : ∃ i, i ≤ n ∧ f i = f (n + 1)
    · obtain ⟨i, h1, h2⟩ := hx
      exact ⟨i, n + 1, by omega, by omega, h2⟩
    · have hne : ∀ i, i ≤ n → f i ≠ f (n + 1) := fun i hi q => hx ⟨i, hi, q⟩
      obtain ⟨i, j, h1, h2, h3⟩ := php n (fun i => if f i = n then f (n + 1) else f i) (fun i hi => by
        have a := h i (by omega)
        have b := h (n + 1) (by omega)
        have c := hne i hi
        show (if f i = n then f (n + 1) else f i) < n
        split <;> omega)
      refine ⟨i, j, h1, by omega, ?_⟩
      have h3 : (if f i = n then f (n + 1) else f i) = if f j = n then f (n + 1) else f j := h3
      have a := hne i (by omega)
      have b := hne j h2
      by_cases c : f i = n <;> by_cases d : f j = n
      · omega
      · rw [if_pos c, if_neg d] at h3; exact absurd h3.symm b
      · rw [if_neg c, if_pos d] at h3; exact absurd h3 a
      · rw [if_neg c, if_neg d] at h3; exact h3
/-- the way's first f+1 carriers are carriers, and apart -/
def DW (q : XS) (f : Nat) : Prop := (∀ i, i ≤ f → vp_in (q.1 23 i) 5) ∧ ∀ i j, i < j → j ≤ f → ¬ q.1 23 i = q.1 23 j
theorem DW_no {q : XS} (h : DW q 5) : False := by
  obtain ⟨i, j, h1, h2, h3⟩ := php 5 (fun i => (q.1 23 i).toNatClampNeg) (fun i hi => by
    obtain ⟨k, hk, e⟩ := vp_in_of (h.1 i hi) (by decide)
    show (q.1 23 i).toNatClampNeg < 5
    rw [e, nI_clamp (by omega)]; exact hk)
  refine h.2 i j h1 h2 ?_
  obtain ⟨a, ha, ea⟩ := vp_in_of (h.1 i (by omega)) (by decide)
  obtain ⟨b, hb, eb⟩ := vp_in_of (h.1 j h2) (by decide)
  have h3 : (q.1 23 i).toNatClampNeg = (q.1 23 j).toNatClampNeg := h3
  rw [ea, eb, nI_clamp (by omega), nI_clamp (by omega)] at h3
  rw [ea, eb, h3]
theorem moF_f {q : XS} {c : Int32} : ∀ {m : Nat}, ¬ moF q c m = true → ∀ i, i < m → ¬ q.1 23 i = c
  | 0, _, i, hi => absurd hi (by omega)
  | m + 1, h, i, hi => by
    rw [moF, Bool.or_eq_true] at h
    by_cases hm : i = m
    · subst hm
      exact fun q => h (Or.inr (decide_eq_true q))
    · exact moF_f (fun z => h (Or.inl z)) i (by omega)
theorem in25 {a b : Int32} (ha : vp_in a 5) (hb : vp_in b 5) : vp_in (5 * a + b) 25 := by
  obtain ⟨i, hi, rfl⟩ := vp_in_of ha (by decide)
  obtain ⟨j, hj, rfl⟩ := vp_in_of hb (by decide)
  rw [i5n]
  exact vp_in_nI (by omega) (by decide)
theorem rem5 {n : Int32} (h : vp_in n 12) : vp_in (n - n / 5 * 5) 5 := by
  obtain ⟨i, hi, rfl⟩ := vp_in_of h (by decide)
  rw [show (5 : Int32) = nI 5 from rfl, pk_rem (by omega) (by decide) (by decide)]
  exact vp_in_nI (Nat.mod_lt _ (by decide)) (by decide)
theorem piF_in {q : XS} {n s : Int32} (hc : ∀ k, vp_in (q.1 13 k) 5) (hn : vp_in n 12) : ∀ k, vp_in (piF q n s k) 5
  | 0 => rem5 hn
  | k + 1 => by
    rw [piF]; split
    · exact hc k
    · exact piF_in hc hn k
theorem mplace_in {q : XS} {n s : Int32} (hc : ∀ k, vp_in (q.1 13 k) 5) (hn : vp_in n 12) : vp_in (mplace q n s) 5 := piF_in hc hn _
theorem bvF_in {q : XS} {c n : Int32} (hc : ∀ k, vp_in (q.1 13 k) 5) (hn : vp_in n 12) : ∀ k, vp_in (bvF q c n k) 5
  | 0 => rem5 hn
  | k + 1 => by
    rw [bvF]; split
    · exact hc k
    · exact bvF_in hc hn k
theorem mbel_in {q : XS} {c n : Int32} (hc : ∀ k, vp_in (q.1 13 k) 5) (hn : vp_in n 12) : vp_in (mbel q c n) 5 := bvF_in hc hn _
theorem mtF_val {q : XS} {c : Nat} {a b : Int32} : ∀ m, mtF q c a b m = -1 ∨ ∃ j, j < m ∧ mtF q c a b m = nI j
  | 0 => Or.inl rfl
  | m + 1 => by
    rw [mtF]; split
    · exact Or.inr ⟨m, by omega, rfl⟩
    · rcases mtF_val m with h | ⟨j, h1, h2⟩
      · exact Or.inl h
      · exact Or.inr ⟨j, by omega, h2⟩
theorem mtakes_val {q : XS} {c m : Nat} {a b : Int32} : mtakes q c a b m = -1 ∨ ∃ j, j < m ∧ mtakes q c a b m = nI j := by
  rw [mtakes]; split
  · exact mtF_val m
  · exact Or.inl rfl
/-! the way -/
abbrev coA (q : XS) : Int32 := mg q 23 (nI (q.2 7))
abbrev coN (q : XS) (b : Int32) : Int32 := mbel q (coA q) b
def coS (q : XS) (x : Int32) : XS := mw (setC q 7 (q.2 7 + 1)) 23 (nI (q.2 7 + 1)) x
def coF (aim b : Int32) (lam : Nat → Nat) : Nat → XS → XS × Int32
  | 0, q => (q, 0)
  | n + 1, q => if coA q = aim then (q, 1) else if moF q (coN q b) (q.2 7 + 1) = true then (q, 0) else if mused q (coA q) (coN q b) lam < mg q 3 (5 * coA q + coN q b) then coF aim b lam n (coS q (coN q b)) else (q, 0)
def mcome0 (q : XS) (a : Int32) : XS := setC (mw q 23 0 (mplace q a 20000)) 7 0
def mcomes (q : XS) (a b : Int32) (lam : Nat → Nat) : XS × Int32 := coF (mplace q b 20000) b lam 5 (mcome0 q a)
theorem DW_step {q : XS} {x : Int32} (h : DW q (q.2 7)) (hf : q.2 7 < 5) (hx : vp_in x 5) (hm : ¬ moF q x (q.2 7 + 1) = true) : DW (coS q x) (q.2 7 + 1) := by
  have hc : (nI (q.2 7 + 1)).toNatClampNeg = q.2 7 + 1 := nI_clamp (by omega)
  have e1 : ∀ i, i ≤ q.2 7 → (coS q x).1 23 i = q.1 23 i := fun i hi => by
    show (if i = (nI (q.2 7 + 1)).toNatClampNeg then x else q.1 23 i) = _
    rw [hc, if_neg (by omega)]
  have e2 : (coS q x).1 23 (q.2 7 + 1) = x := by
    show (if q.2 7 + 1 = (nI (q.2 7 + 1)).toNatClampNeg then x else _) = _
    rw [hc, if_pos rfl]
  refine ⟨fun i hi => ?_, fun i j hij hj => ?_⟩
  · by_cases h1 : i ≤ q.2 7
    · rw [e1 i h1]; exact h.1 i h1
    · rw [show i = q.2 7 + 1 by omega, e2]; exact hx
  · by_cases h1 : j ≤ q.2 7
    · rw [e1 i (by omega), e1 j h1]; exact h.2 i j hij h1
    · rw [show j = q.2 7 + 1 by omega, e2, e1 i (by omega)]
      exact moF_f hm i (by omega)

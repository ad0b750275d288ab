theorem in300 {k j : Nat} (hk : k < 60) (hj : j < 5) : vp_in (5 * nI k + nI j) 300 := by rw [i5n]; exact vp_in_nI (by omega) (by decide)
theorem in300s {k j : Nat} (hk : k < 60) (hj : j < 4) : vp_in (5 * nI k + nI j + 1) 300 := by rw [i5n, nI_1]; exact vp_in_nI (by omega) (by decide)
theorem kfF_c (q : XS) (old c : Int32) : ∀ k, (kfF q old c k).2 = q.2
  | 0 => rfl
  | k + 1 => kfF_c q old c k
def mpF1 (q : XS) (n c old : Int32) : XS := mw (setC (kfF q old c 5) 4 (q.2 4 + 1)) 4 c (mg (setC (kfF q old c 5) 4 (q.2 4 + 1)) 4 c - mg (setC (kfF q old c 5) 4 (q.2 4 + 1)) 9 n)
def mpF (q : XS) (n c old : Int32) : XS := mw (mpF1 q n c old) 4 old (mg (mpF1 q n c old) 4 old + mg (mpF1 q n c old) 9 n)
theorem mpF1_ok (q : XS) (n c : Int32) : mpF1 (mpQ q n c) n c (mplace (z0 q) n 20000) = mpS q n c := rfl
theorem setR_n9 (q : XS) (f : Nat → Int32) : (setR q 4 f).1 9 = q.1 9 := rfl
theorem mpF_9 (q : XS) (n c old : Int32) : mg (mpF q n c old) 9 n = mg (mpF1 q n c old) 9 n := congrFun (setR_n9 (mpF1 q n c old) _) _
theorem mpF_ok (q : XS) (n c : Int32) : R0 (mpF (mpQ q n c) n c (mplace (z0 q) n 20000)) (mg (mpF (mpQ q n c) n c (mplace (z0 q) n 20000)) 9 n) = R0 (mw (mpS q n c) 4 (mplace (z0 q) n 20000) (mg (mpS q n c) 4 (mplace (z0 q) n 20000) + mg (mpS q n c) 9 n)) (mg (mpS q n c) 9 n) := by
  rw [mpF_9]; unfold mpF; rw [mpF1_ok]
theorem coF_r (aim b : Int32) (lam : Nat → Nat) (j : Nat) (hj : ¬ j = 23) : ∀ (n : Nat) (q : XS), (coF aim b lam n q).1.1 j = q.1 j
  | 0, q => rfl
  | n + 1, q => by
    rw [coF]
    split
    · rfl
    · split
      · rfl
      · split
        · rw [coF_r aim b lam j hj n]; exact if_neg hj
        · rfl
theorem coF_c (aim b : Int32) (lam : Nat → Nat) (j : Nat) (hj : ¬ j = 7) : ∀ (n : Nat) (q : XS), (coF aim b lam n q).1.2 j = q.2 j
  | 0, q => rfl
  | n + 1, q => by
    rw [coF]
    split
    · rfl
    · split
      · rfl
      · split
        · rw [coF_c aim b lam j hj n]; exact if_neg hj
        · rfl
theorem coF_DW (aim b : Int32) (lam : Nat → Nat) (hb : vp_in b 12) : ∀ (n : Nat) (q : XS), q.2 7 + n = 5 → DW q (q.2 7) → (∀ k, vp_in (q.1 13 k) 5) → DW (coF aim b lam n q).1 ((coF aim b lam n q).1.2 7) ∧ (coF aim b lam n q).1.2 7 < 5
  | 0, q, h, hd, hc => (DW_no (by rw [show q.2 7 = 5 by omega] at hd; exact hd)).elim
  | n + 1, q, h, hd, hc => by
    rw [coF]
    split
    · exact ⟨hd, by show q.2 7 < 5; omega⟩
    · split
      · exact ⟨hd, by show q.2 7 < 5; omega⟩
      · next h2 =>
        split
        · exact coF_DW aim b lam hb n (coS q (coN q b)) (by show q.2 7 + 1 + n = 5; omega) (DW_step hd (by omega) (mbel_in hc hb) h2) hc
        · exact ⟨hd, by show q.2 7 < 5; omega⟩
theorem mcomes_DW {q : XS} {a b : Int32} {lam : Nat → Nat} (ha : vp_in a 12) (hb : vp_in b 12) (hc : ∀ k, vp_in (q.1 13 k) 5) : DW (mcomes q a b lam).1 ((mcomes q a b lam).1.2 7) ∧ (mcomes q a b lam).1.2 7 < 5 :=
  coF_DW _ b lam hb 5 (mcome0 q a) rfl ⟨fun i hi => by
    have h0 : i = 0 := Nat.le_zero.mp hi
    subst h0
    exact mplace_in hc ha, fun i j hij hj => by
    have h0 : j = 0 := Nat.le_zero.mp hj
    omega⟩ hc
theorem mcomes_r {q : XS} {a b : Int32} {lam : Nat → Nat} (j : Nat) (hj : ¬ j = 23) : (mcomes q a b lam).1.1 j = q.1 j := (coF_r _ b lam j hj 5 _).trans (if_neg hj)
theorem mcomes_c {q : XS} {a b : Int32} {lam : Nat → Nat} (j : Nat) (hj : ¬ j = 7) : (mcomes q a b lam).1.2 j = q.2 j := (coF_c _ b lam j hj 5 _).trans (if_neg hj)
theorem wyF_c (q : XS) : ∀ k, (wyF q k).2 = q.2
  | 0 => rfl
  | k + 1 => wyF_c q k

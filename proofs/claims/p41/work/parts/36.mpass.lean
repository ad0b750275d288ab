abbrev mpn (q : XS) (k : Nat) : Int32 := mg q 16 (nI k)
abbrev mpp (q : XS) (k : Nat) : Int32 := mplace q (mpn q k) 20000
def mprice (q : XS) (k : Nat) : Int32 := if noW (nI (q.2 1) / 60 - nI (q.2 1) / 60 / 24 * 24) 8 19 then mg q 1 (mpp q k) else mg q 0 (mpp q k)
def mx1 (q : XS) (n p : Int32) : XS := mw q 9 n (mg q 9 n + p)
def mx2 (q : XS) (n p : Int32) : XS := mw (mx1 q n p) 7 (mg (mx1 q n p) 8 n) (mg (mx1 q n p) 7 (mg (mx1 q n p) 8 n) + p)
def mx3 (q : XS) (n pl p : Int32) : XS := mw (mx2 q n p) 5 pl (mg (mx2 q n p) 5 pl + p)
def mx4 (q : XS) (k : Nat) (n pl p : Int32) : XS := mw (mx3 q n pl p) 22 (nI k) (mg (mx3 q n pl p) 22 (nI k) + p)
def mx5 (q : XS) (k : Nat) (n pl p : Int32) : XS := mw (mx4 q k n pl p) 21 (nI k) (mg (mx4 q k n pl p) 21 (nI k) + 1)
def inF (q : XS) (s : Int32) : Nat → XS × Int32
  | 0 => (q, s)
  | k + 1 => if mg (inF q s k).1 18 (nI k) = 0 then (mx5 (inF q s k).1 k (mpn (inF q s k).1 k) (mpp (inF q s k).1 k) (mprice (inF q s k).1 k), (inF q s k).2 + mprice (inF q s k).1 k) else inF q s k
def outF (q : XS) : Nat → XS × Int32
  | 0 => (q, 0)
  | n + 1 => (setC (inF (outF q n).1 (outF q n).2 ((outF q n).1.2 5)).1 1 ((inF (outF q n).1 (outF q n).2 ((outF q n).1.2 5)).1.2 1 + 1), (inF (outF q n).1 (outF q n).2 ((outF q n).1.2 5)).2)
def mPass (q : XS) (s : Int32) (m : Nat) : AO × XS := if noW s 1 2000 then R1 q 1 else if nI (q.2 1) + s ≤ 20000 then R0 (outF (z0 q) m).1 (outF (z0 q) m).2 else R1 q 2
theorem inF_p {q : XS} {s : Int32} {k : Nat} (h : mg (inF q s k).1 18 (nI k) = 0) : inF q s (k + 1) = (mx5 (inF q s k).1 k (mpn (inF q s k).1 k) (mpp (inF q s k).1 k) (mprice (inF q s k).1 k), (inF q s k).2 + mprice (inF q s k).1 k) := if_pos h
theorem inF_n {q : XS} {s : Int32} {k : Nat} (h : ¬ mg (inF q s k).1 18 (nI k) = 0) : inF q s (k + 1) = inF q s k := if_neg h
theorem inF_c (q : XS) (s : Int32) : ∀ k, (inF q s k).1.2 = q.2
  | 0 => rfl
  | k + 1 => by
    rw [inF]
    split
    · exact inF_c q s k
    · exact inF_c q s k
theorem inF_r (q : XS) (s : Int32) (j : Nat) (hj : ¬ (j = 9 ∨ j = 7 ∨ j = 5 ∨ j = 22 ∨ j = 21)) : ∀ k, (inF q s k).1.1 j = q.1 j
  | 0 => rfl
  | k + 1 => by
    rw [inF]
    split
    · refine Eq.trans ?_ (inF_r q s j hj k)
      refine (if_neg (fun z => hj (by omega))).trans ?_
      refine (if_neg (fun z => hj (by omega))).trans ?_
      refine (if_neg (fun z => hj (by omega))).trans ?_
      refine (if_neg (fun z => hj (by omega))).trans ?_
      exact if_neg (fun z => hj (by omega))
    · exact inF_r q s j hj k
theorem outF_c (q : XS) (j : Nat) (hj : ¬ j = 1) : ∀ n, (outF q n).1.2 j = q.2 j
  | 0 => rfl
  | n + 1 => by
    rw [outF]
    refine (if_neg hj).trans ?_
    rw [inF_c]; exact outF_c q j hj n
theorem outF_r (q : XS) (j : Nat) (hj : ¬ (j = 9 ∨ j = 7 ∨ j = 5 ∨ j = 22 ∨ j = 21)) : ∀ n, (outF q n).1.1 j = q.1 j
  | 0 => rfl
  | n + 1 => by
    rw [outF]
    refine Eq.trans ?_ (outF_r q j hj n)
    exact inF_r (outF q n).1 _ j hj _

def R1 (q : XS) (n : Nat) : AO × XS := (.inl (some (.int 0)), setC q 0 n)
abbrev z0 (q : XS) : XS := setC q 0 0
def mSetPrices (q : XS) (c a b : Int32) : AO × XS := if noC c then R1 q 1 else if noW a 0 9 then R1 q 2 else if noW b 0 9 then R1 q 2 else if nI (q.2 2) = 60 then R1 q 3 else R0 (setC (mw (mw (z0 q) 0 c a) 1 c b) 2 (q.2 2 + 1)) (mg q 0 c)
def mSetDelay (q : XS) (c s : Int32) : AO × XS := if noC c then R1 q 1 else if noW s 0 5000 then R1 q 2 else R0 (mw (z0 q) 2 c s) (mg q 2 c)
def mlQ (q : XS) (k : Nat) (at9 : Int32) : XS := setC (mw (mpay q (mg q 20 (5 * nI k + at9 + 1)) (mg q 20 (5 * nI k + at9))) 18 (nI k) 2) 6 (q.2 6 + 1)
def mlF (a b nn : Int32) (lam : Nat → Nat) : Nat → XS → Nat → XS × Nat
  | 0, q, g => (q, g)
  | k + 1, q, g => if nn ≤ nI g then (q, g) else if mtakes q k a b (lam k) = -1 then mlF a b nn lam k q g else mlF a b nn lam k (mlQ q k (mtakes q k a b (lam k))) (g + 1)
def mtQ (q : XS) (a b n : Int32) : XS := mw (mw (z0 q) 3 (5 * a + b) n) 3 (5 * b + a) n
def mSetTrunk (q : XS) (a b n : Int32) (lam : Nat → Nat) : AO × XS := if noC a then R1 q 1 else if noC b then R1 q 1 else if a = b then R1 q 2 else if noW n 0 5 then R1 q 2 else R0 (mlF a b (mused (mtQ q a b n) a b lam - n) lam (q.2 5) (mtQ q a b n) 0).1 (nI (mlF a b (mused (mtQ q a b n) a b lam - n) lam (q.2 5) (mtQ q a b n) 0).2)
def kfF (q : XS) (old c : Int32) : Nat → XS
  | 0 => q
  | k + 1 => mw (kfF q old c k) 15 (5 * nI (q.2 4) + nI k) (if nI k = old ∨ nI k = c then nI (q.2 1) else nI (q.2 1) + mg (kfF q old c k) 2 (nI k))
def mpQ (q : XS) (n c : Int32) : XS := mw (mw (mw (z0 q) 12 (nI (q.2 4)) n) 13 (nI (q.2 4)) c) 14 (nI (q.2 4)) (nI (q.2 1))
def mpR (q : XS) (n c : Int32) : XS := setC (kfF (mpQ q n c) (mplace (z0 q) n 20000) c 5) 4 (q.2 4 + 1)
def mpS (q : XS) (n c : Int32) : XS := mw (mpR q n c) 4 c (mg (mpR q n c) 4 c - mg (mpR q n c) 9 n)
def mPort (q : XS) (n c : Int32) : AO × XS := if noN n then R1 q 1 else if noC c then R1 q 1 else if mplace q n 20000 = c then R1 q 2 else if mg q 10 n < mg q 9 n then R1 q 2 else if 60 ≤ nI (q.2 4) then R1 q 2 else R0 (mw (mpS q n c) 4 (mplace (z0 q) n 20000) (mg (mpS q n c) 4 (mplace (z0 q) n 20000) + mg (mpS q n c) 9 n)) (mg (mpS q n c) 9 n)
def mSell (q : XS) (n p : Int32) : AO × XS := if noN n then R1 q 1 else if noP p then R1 q 1 else if mg q 8 n = p then R1 q 2 else if nI (q.2 3) = 60 then R1 q 2 else R0 (setC (mw (z0 q) 8 n p) 3 (q.2 3 + 1)) (mg q 8 n)
def mBond (q : XS) (n c : Int32) : AO × XS := if noN n then R1 q 1 else if noW c 1 5000 then R1 q 2 else if 5000 < mg q 10 n + c then R1 q 3 else R0 (mw (z0 q) 10 n (mg q 10 n + c)) (mg (mw (z0 q) 10 n (mg q 10 n + c)) 10 n)
def mPay (q : XS) (n c : Int32) : AO × XS := if noN n then R1 q 1 else if noW c 1 (mg q 9 n) then R1 q 2 else R0 (msettle (z0 q) n c) (mg (msettle (z0 q) n c) 9 n)
def mjS (q : XS) (n : Int32) : Int32 := if mg q 9 n ≤ mg q 10 n then mg q 9 n else mg q 10 n
def mjQ (q : XS) (n : Int32) : XS := mw (mw (z0 q) 10 n (mg q 10 n - mjS q n)) 11 n 1
def mJudge (q : XS) (n : Int32) : AO × XS := if noN n then R1 q 1 else if mg q 9 n ≤ 0 then R1 q 2 else R0 (msettle (mjQ q n) n (mjS q n)) (mg (msettle (mjQ q n) n (mjS q n)) 9 n)
def wyF (q : XS) : Nat → XS
  | 0 => q
  | k + 1 => mw (wyF q k) 20 (5 * nI (q.2 5) + nI k) (mg (wyF q k) 23 (nI k))
def mbQ (q : XS) (a b : Int32) : XS := mw (mw (mw (mw q 16 (nI (q.2 5)) a) 17 (nI (q.2 5)) b) 18 (nI (q.2 5)) 0) 19 (nI (q.2 5)) (nI (q.2 7))
def mbR (q : XS) (a b : Int32) : XS := setC (wyF (mbQ q a b) (q.2 7 + 1)) 5 (q.2 5 + 1)
def mlost (q : XS) : XS := setC q 6 (q.2 6 + 1)
def mCall (q : XS) (a b : Int32) (lam : Nat → Nat) : AO × XS := if noN a then R1 q 1 else if noN b then R1 q 1 else if a = b then R1 q 2 else if mwith q a = -1 then (if mwith q b = -1 then (if mg q 11 a = 0 then (if 60 ≤ nI (q.2 5) then R1 q 3 else if (mcomes (z0 q) a b lam).2 = 0 then (if nI ((mcomes (z0 q) a b lam).1.2 7) ≤ 0 then R0 (mlost (mcomes (z0 q) a b lam).1) (-1) else R0 (mpay (mlost (mcomes (z0 q) a b lam).1) (coA (mcomes (z0 q) a b lam).1) (mg (mcomes (z0 q) a b lam).1 23 0)) (-1)) else R0 (mbR (mcomes (z0 q) a b lam).1 a b) (nI ((mcomes (z0 q) a b lam).1.2 5))) else R1 q 3) else R1 q 3) else R1 q 3
def mHangUp (q : XS) (c : Int32) : AO × XS := if noL (q.2 5) c then R1 q 1 else if mg q 18 c = 0 then R0 (mw (z0 q) 18 c 1) (mg q 21 c) else R1 q 2
def mOfN (q : XS) (k : Nat) (n : Int32) : AO × XS := if noN n then R1 q 1 else R0 (z0 q) (mg q k n)
def mOfC (q : XS) (k : Nat) (n : Int32) : AO × XS := if noC n then R1 q 1 else R0 (z0 q) (mg q k n)
def mOfL (q : XS) (k : Nat) (n : Int32) : AO × XS := if noL (q.2 5) n then R1 q 1 else R0 (z0 q) (mg q k n)
def mSecond (q : XS) : AO × XS := R0 (z0 q) (nI (q.2 1))
def mIsDear (q : XS) : AO × XS := R0 (z0 q) (if noW (nI (q.2 1) / 60 - nI (q.2 1) / 60 / 24 * 24) 8 19 then 0 else 1)
def mCarrierOf (q : XS) (n : Int32) : AO × XS := if noN n then R1 q 1 else R0 (z0 q) (mplace (z0 q) n 20000)
def mCarrierThen (q : XS) (n s : Int32) : AO × XS := if noN n then R1 q 1 else if noW s 0 (nI (q.2 1)) then R1 q 2 else R0 (z0 q) (mplace (z0 q) n s)
def mBelieved (q : XS) (c n : Int32) : AO × XS := if noC c then R1 q 1 else if noN n then R1 q 1 else R0 (z0 q) (mbel (z0 q) c n)
def mIsBarred (q : XS) (n : Int32) : AO × XS := if noN n then R1 q 1 else if mg q 11 n = 0 then R0 (z0 q) 0 else R0 (z0 q) 1
def mCallOf (q : XS) (n : Int32) : AO × XS := if noN n then R1 q 1 else R0 (z0 q) (mwith (z0 q) n)
def mFree (q : XS) (a b : Int32) (lam : Nat → Nat) : AO × XS := if noC a then R1 q 1 else if noC b then R1 q 1 else if a = b then R0 (z0 q) 0 else R0 (z0 q) (mg q 3 (5 * a + b) - mused (z0 q) a b lam)
def mRoute (q : XS) (a b : Int32) (lam : Nat → Nat) : AO × XS := if noN a then R1 q 1 else if noN b then R1 q 1 else if a = b then R1 q 2 else if (mcomes (z0 q) a b lam).2 = 0 then R0 (mcomes (z0 q) a b lam).1 (-1) else R0 (mcomes (z0 q) a b lam).1 (nI ((mcomes (z0 q) a b lam).1.2 7))
def mCalls (q : XS) : AO × XS := R0 (z0 q) (nI (q.2 5))
def mLost (q : XS) : AO × XS := R0 (z0 q) (nI (q.2 6))
def mCarrierAt (q : XS) (c p : Int32) : AO × XS := if noL (q.2 5) c then R1 q 1 else if noW p 0 (mg q 19 c) then R1 q 1 else R0 (z0 q) (mg q 20 (5 * c + p))
def mSpent (q : XS) (p : Int32) : AO × XS := if noP p then R1 q 1 else R0 (z0 q) (mg q 7 p)
theorem ixAt {q : XS} {lam : Nat → Nat} {c p : Int32} (h5 : q.2 5 ≤ 60) (hl : ∀ k, k < 60 → q.1 19 k = nI (lam k) ∧ lam k ≤ 4) (h1 : ¬ noL (q.2 5) c) (h2 : ¬ noW p 0 (mg q 19 c)) : vp_in (5 * c + p) 300 := by
  obtain ⟨i, hi, rfl⟩ := vp_in_of (inL h5 h1) (by decide)
  have h3 : mg q 19 (nI i) = nI (lam i) := by show q.1 19 (nI i).toNatClampNeg = _; rw [nI_clamp (by omega)]; exact (hl i hi).1
  have h4 := (hl i hi).2
  rw [h3] at h2
  have h5 : vp_in p 5 := by
    rw [vp_in_iff]
    have a : ¬ p < 0 := fun z => h2 (Or.inl z)
    have b : ¬ nI (lam i) < p := fun z => h2 (Or.inr z)
    rw [Int32.lt_iff_toInt_lt, Int32.toInt_zero] at a
    rw [Int32.lt_iff_toInt_lt, nI_toInt (by omega)] at b
    omega
  exact in5 hi h5

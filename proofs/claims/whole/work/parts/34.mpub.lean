def R1 (q : XS) (n : Nat) : AO × XS := (.inl (some (.int 0)), setC q 0 n)
abbrev z0 (q : XS) : XS := setC q 0 0
def mSetPrices (q : XS) (c a b : Int32) : AO × XS := if noC c then R1 q 1 else if noW a 0 9 then R1 q 2 else if noW b 0 9 then R1 q 2 else if nI (q.2 2) = 60 then R1 q 3 else R0 (setC (mw (mw (z0 q) 0 c a) 1 c b) 2 (q.2 2 + 1)) (mg q 0 c)
def mSetDelay (q : XS) (c s : Int32) : AO × XS := if noC c then R1 q 1 else if noW s 0 5000 then R1 q 2 else R0 (mw (z0 q) 2 c s) (mg q 2 c)
def mlQ (q : XS) (k : Nat) (at9 : Int32) : XS := setC (mw (mpay q (mg q 20 (5 * nI k + at9 + 1)) (mg q 20 (5 * nI k + at9))) 18 (nI k) 2) 6 (q.2 6 + 1)
def mlF (a b nn : Int32) (lam : Nat → Nat) : Nat → XS → Nat → XS × Nat
  | 0, q, g => (q, g)
  | k + 1, q, g => if nn ≤ nI g then (q, g) else if mtakes q k a b (lam k) = -1 then mlF a b nn lam k q g else mlF a b nn lam k (mlQ q k (mtakes q k a b (lam k))) (g + 1)
def mtQ (q : XS) (a b n : Int32) : XS := mw (mw (z0 q) 3 (5 * a + b) n) 3 (5 * b + a) n
def mSetTrunk (q : XS) (a b n : Int32) (lam : Nat → Nat) : AO × XS := if noC a then R1 q 1 else if noC b then R1 q 1 else if a = b then R1 q 2 else if noW n 0 5 then R1 q 2 else R0 (mlF a b (mused (mtQ q a b n) a b lam - n) lam (q.2 5) (mtQ q a b n) 0).1 (nI (mlF a b (mused (mtQ q a b n) a b lam - n) lam (q.2 5) (mtQ q a b n) 0).2)
def kfF (q : XS) (old c : Int32) : Nat → XS
  | 0 => q
  | k + 1 => mw (kfF q old c k) 15 (5 * nI (q.2 4) + nI k) (if nI k = old ∨ nI k = c then nI (q.2 1) else nI (q.2 1) + mg (kfF q old c k) 2 (nI k))
def mpQ (q : XS) (n c : Int32) : XS := mw (mw (mw (z0 q) 12 (nI (q.2 4)) n) 13 (nI (q.2 4)) c) 14 (nI (q.2 4)) (nI (q.2 1))
def mpR (q : XS) (n c : Int32) : XS := setC (kfF (mpQ q n c) (mplace (z0 q) n 20000) c 5) 4 (q.2 4 + 1)
def mpS (q : XS) (n c : Int32) : XS := mw (mpR q n c) 4 c (mg (mpR q n c) 4 c - mg (mpR q n c) 9 n)
def mPort (q : XS) (n c : Int32) : AO × XS := if noN n then R1 q 1 else if noC c then R1 q 1 else if mplace q n 20000 = c then R1 q 2 else if mg q 10 n < mg q 9 n then R1 q 2 else if 60 ≤ nI (q.2 4) then R1 q 2 else R0 (mw (mpS q n c) 4 (mplace (z0 q) n 20000) (mg (mpS q n c) 4 (mplace (z0 q) n 20000) + mg (mpS q n c) 9 n)) (mg (mpS q n c) 9 n)
def mSell (q : XS) (n p : Int32) : AO × XS := if noN n then R1 q 1 else if noP p then R1 q 1 else if mg q 8 n = p then R1 q 2 else if nI (q.2 3) = 60 then R1 q 2 else R0 (setC (mw (z0 q) 8 n p) 3 (q.2 3 + 1)) (mg q 8 n)
def mBond (q : XS) (n c : Int32) : AO × XS := if noN n then R1 q 1 else if noW c 1 5000 then R1 q 2 else if 5000 < mg q 10 n + c then R1 q 3 else R0 (mw (z0 q) 10 n (mg q 10 n + c)) (mg (mw (z0 q) 10 n (mg q 10 n + c)) 10 n)
def mPay (q : XS) (n c : Int32) : AO × XS := if noN n then R1 q 1 else if noW c 1 (mg q 9 n) then R1 q 2 else R0 (msettle (z0 q) n c) (mg (msettle (z0 q) n c) 9 n)
def mjS (q : XS) (n : Int32) : Int32 := if mg q 9 n ≤ mg q 10 n then mg q 9 n else mg q 10 n
def mjQ (q : XS) (n : Int32) : XS := mw (mw (z0 q) 10 n (mg q 10 n - mjS q n)) 11 n 1
def mJudge (q : XS) (n : Int32) : AO × XS := if noN n then R1 q 1 else if mg q 9 n ≤ 0 then R1 q 2 else R0 (msettle (mjQ q n) n (mjS q n)) (mg (msettle (mjQ q n) n (mjS q n)) 9 n)
def wyF (q : XS) : Nat → XS
  | 0 => q
  | k + 1 => mw (wyF q k) 20 (5 * nI (q.2 5) + nI k) (mg (wyF q k) 23 (nI k))
def mbQ (q : XS) (a b : Int32) : XS := mw (mw (mw (mw q 16 (nI (q.2 5)) a) 17 (nI (q.2 5)) b) 18 (nI (q.2 5)) 0) 19 (nI (q.2 5)) (nI (q.2 7))
def mbR (q : XS) (a b : Int32) : XS := setC (wyF (mbQ q a b) (q.2 7 + 1)) 5 (q.2 5 + 1)
def mlost (q : XS) : XS := setC q 6 (q.2 6 + 1)
def mCall (q : XS) (a b : Int32) (lam : Nat → Nat) : AO × XS := if noN a then R1 q 1 else if noN b then R1 q 1 else if a = b then R1 q 2 else if mwith q a = -1 then (if mwith q b = -1 then (if mg q 11 a = 0 then (if 60 ≤ nI (q.2 5) then R1 q 3 else if (mcomes (z0 q) a b lam).2 = 0 then (if nI ((mcomes (z0 q) a b lam).1.2 7) ≤ 0 then R0 (mlost (mcomes (z0 q) a b lam).1) (-1) else R0 (mpay (mlost (mcomes (z0 q) a b lam).1) (coA (mcomes (z0 q) a b lam).1) (mg (mcomes (z0 q) a b lam).1 23 0)) (-1)) else R0 (mbR (mcomes (z0 q) a b lam).1 a b) (nI ((mcomes (z0 q) a b lam).1.2 5))) else R1 q 3) else R1 q 3) else R1 q 3
def mHangUp (q : XS) (c : Int32) : AO × XS := if noL (q.2 5) c then R1 q 1 else if mg q 18 c = 0 then R0 (mw (z0 q) 18 c 1) (mg q 21 c) else R1 q 2
def mOfN (q : XS) (k : Nat) (n : Int32) : AO × XS := if noN n then R1 q 1 else R0 (z0 q) (mg q k n)
def mOfC (q : XS) (k : Nat) (n : Int32) : AO × XS := if noC n then R1 q 1 else R0 (z0 q) (mg q k n)
def mOfL (q : XS) (k : Nat) (n : Int32) : AO × XS := if noL (q.2 5) n then R1 q 1 else R0 (z0 q) (mg q k n)
def mSecond (q : XS) : AO × XS := R0 (z0 q) (nI (q.2 1))
def mIsDear (q : XS) : AO × XS := R0 (z0 q) (if noW (nI (q.2 1) / 60 - nI (q.2 1) / 60 / 24 * 24) 8 19 then 0 else 1)
def mCarrierOf (q : XS) (n : Int32) : AO × XS := if noN n then R1 q 1 else R0 (z0 q) (mplace (z0 q) n 20000)
def mCarrierThen (q : XS) (n s : Int32) : AO × XS := if noN n then R1 q 1 else if noW s 0 (nI (q.2 1)) then R1 q 2 else R0 (z0 q) (mplace (z0 q) n s)
def mBelieved (q : XS) (c n : Int32) : AO × XS := if noC c then R1 q 1 else if noN n then R1 q 1 else R0 (z0 q) (mbel (z0 q) c n)
def mIsBarred (q : XS) (n : Int32) : AO × XS := if noN n then R1 q 1 else if mg q 11 n = 0 then R0 (z0 q) 0 else R0 (z0 q) 1
def mCallOf (q : XS) (n : Int32) : AO × XS := if noN n then R1 q 1 else R0 (z0 q) (mwith (z0 q) n)
def mFree (q : XS) (a b : Int32) (lam : Nat → Nat) : AO × XS := if noC a then R1 q 1 else if noC b then R1 q 1 else if a = b then R0 (z0 q) 0 else R0 (z0 q) (mg q 3 (5 * a + b) - mused (z0 q) a b lam)
def mRoute (q : XS) (a b : Int32) (lam : Nat → Nat) : AO × XS := if noN a then R1 q 1 else if noN b then R1 q 1 else if a = b then R1 q 2 else if (mcomes (z0 q) a b lam).2 = 0 then R0 (mcomes (z0 q) a b lam).1 (-1) else R0 (mcomes (z0 q) a b lam).1 (nI ((mcomes (z0 q) a b lam).1.2 7))
def mCalls (q : XS) : AO × XS := R0 (z0 q) (nI (q.2 5))
def mLost (q : XS) : AO × XS := R0 (z0 q) (nI (q.2 6))
def mCarrierAt (q : XS) (c p : Int32) : AO × XS := if noL (q.2 5) c then R1 q 1 else if noW p 0 (mg q 19 c) then R1 q 1 else R0 (z0 q) (mg q 20 (5 * c + p))
def mSpent (q : XS) (p : Int32) : AO × XS := if noP p then R1 q 1 else R0 (z0 q) (mg q 7 p)
set_option maxRecDepth 100000 in
set_option maxHeartbeats 4000000 in
theorem r_setPrices {q : XS} {K : AO → AW → Prop} {c a b : Int32} (hK : K (mSetPrices q c a b).1 (WM (mSetPrices q c a b).2)) : Snd MX10_setPrices [.ref 0, .int c, .int a, .int b] (WM q) K := by
  refine Snd.of (by decide +kernel) (Nat.le_of_ble_eq_true rfl) rfl rfl ?_
  intro X D dA ad C0
  show Gd X _ MX10_setPrices 0 [some (.ref 0), some (.int c), some (.int a), some (.int b), none, none] [] _ 0 0
  refine g_iload_n C0 dX10_setPrices_0 rfl ?_
  refine g_iconst (v := 0) C0 dX10_setPrices_1 (by decide) ?_
  refine g_bipush (v := 9) C0 dX10_setPrices_2 (by decide) ?_
  refine g_invS3 C0 dX10_setPrices_4 CX10_87 rfl ⟨by decide, by decide, by decide, by decide⟩ (Nat.le_of_ble_eq_true rfl) ?_
  refine m_in ?_
  refine Aft_v (WM_len2 _ _) ?_
  by_cases b4 : noW a 0 9
  · rw [if_pos b4]
    refine g_if_eq (tgt := 24) C0 dX10_setPrices_7 (by decide) (fun _ => ?_) (fun z => (by revert z; decide +kernel : False).elim)
    refine g_iconst (v := 0) C0 dX10_setPrices_24 (by decide) ?_
    refine g_istore C0 dX10_setPrices_25 (by decide) ?_
    refine g_aload_n C0 dX10_setPrices_27 rfl ?_
    refine g_iload_n C0 dX10_setPrices_28 rfl ?_
    refine g_invS1 C0 dX10_setPrices_29 CX10_94 rfl ⟨by decide, by decide, by decide, by decide⟩ (Nat.le_of_ble_eq_true rfl) ?_
    refine m_isC ?_
    refine Aft_v (WM_len2 _ _) ?_
    by_cases b29 : noC c
    · rw [if_pos b29]
      refine g_if_ne (tgt := 39) C0 dX10_setPrices_32 (by decide) (fun z => (by revert z; decide +kernel : False).elim) (fun _ => ?_)
      refine g_iconst (v := 1) C0 dX10_setPrices_35 (by decide) ?_
      refine g_goto (tgt := 62) C0 dX10_setPrices_36 (by decide) ?_
      refine g_invV1 C0 dX10_setPrices_62 CX10_101 rfl rfl ⟨by decide, by decide, by decide, by decide⟩ (Nat.le_of_ble_eq_true rfl) ?_
      refine m_refused (n := 1) (by decide) ?_
      refine Aft_v (WM_len2 _ _) ?_
      rw [if_neg (by decide)]
      refine g_if_eq (tgt := 70) C0 dX10_setPrices_65 (by decide) (fun z => (by revert z; decide +kernel : False).elim) (fun _ => ?_)
      refine g_iconst (v := 0) C0 dX10_setPrices_68 (by decide) ?_
      refine g_iret C0 rfl dX10_setPrices_69 (by decide) (by decide) ?_
      simp only [mSetPrices, b4, b29, if_true, if_false, eq_self] at hK
      exact hK
    rw [if_neg b29]
    refine g_if_ne (tgt := 39) C0 dX10_setPrices_32 (by decide) (fun _ => ?_) (fun z => (by revert z; decide +kernel : False).elim)
    refine g_iload C0 dX10_setPrices_39 rfl ?_
    refine g_if_ne (tgt := 48) C0 dX10_setPrices_41 (by decide) (fun z => (by revert z; decide +kernel : False).elim) (fun _ => ?_)
    refine g_iconst (v := 2) C0 dX10_setPrices_44 (by decide) ?_
    refine g_goto (tgt := 62) C0 dX10_setPrices_45 (by decide) ?_
    refine g_invV1 C0 dX10_setPrices_62 CX10_101 rfl rfl ⟨by decide, by decide, by decide, by decide⟩ (Nat.le_of_ble_eq_true rfl) ?_
    refine m_refused (n := 2) (by decide) ?_
    refine Aft_v (WM_len2 _ _) ?_
    rw [if_neg (by decide)]
    refine g_if_eq (tgt := 70) C0 dX10_setPrices_65 (by decide) (fun z => (by revert z; decide +kernel : False).elim) (fun _ => ?_)
    refine g_iconst (v := 0) C0 dX10_setPrices_68 (by decide) ?_
    refine g_iret C0 rfl dX10_setPrices_69 (by decide) (by decide) ?_
    simp only [mSetPrices, b4, b29, if_true, if_false, eq_self] at hK
    exact hK
  rw [if_neg b4]
  refine g_if_eq (tgt := 24) C0 dX10_setPrices_7 (by decide) (fun z => (by revert z; decide +kernel : False).elim) (fun _ => ?_)
  refine g_iload_n C0 dX10_setPrices_10 rfl ?_
  refine g_iconst (v := 0) C0 dX10_setPrices_11 (by decide) ?_
  refine g_bipush (v := 9) C0 dX10_setPrices_12 (by decide) ?_
  refine g_invS3 C0 dX10_setPrices_14 CX10_87 rfl ⟨by decide, by decide, by decide, by decide⟩ (Nat.le_of_ble_eq_true rfl) ?_
  refine m_in ?_
  refine Aft_v (WM_len2 _ _) ?_
  by_cases b14 : noW b 0 9
  · rw [if_pos b14]
    refine g_if_eq (tgt := 24) C0 dX10_setPrices_17 (by decide) (fun _ => ?_) (fun z => (by revert z; decide +kernel : False).elim)
    refine g_iconst (v := 0) C0 dX10_setPrices_24 (by decide) ?_
    refine g_istore C0 dX10_setPrices_25 (by decide) ?_
    refine g_aload_n C0 dX10_setPrices_27 rfl ?_
    refine g_iload_n C0 dX10_setPrices_28 rfl ?_
    refine g_invS1 C0 dX10_setPrices_29 CX10_94 rfl ⟨by decide, by decide, by decide, by decide⟩ (Nat.le_of_ble_eq_true rfl) ?_
    refine m_isC ?_
    refine Aft_v (WM_len2 _ _) ?_
    by_cases b29 : noC c
    · rw [if_pos b29]
      refine g_if_ne (tgt := 39) C0 dX10_setPrices_32 (by decide) (fun z => (by revert z; decide +kernel : False).elim) (fun _ => ?_)
      refine g_iconst (v := 1) C0 dX10_setPrices_35 (by decide) ?_
      refine g_goto (tgt := 62) C0 dX10_setPrices_36 (by decide) ?_
      refine g_invV1 C0 dX10_setPrices_62 CX10_101 rfl rfl ⟨by decide, by decide, by decide, by decide⟩ (Nat.le_of_ble_eq_true rfl) ?_
      refine m_refused (n := 1) (by decide) ?_
      refine Aft_v (WM_len2 _ _) ?_
      rw [if_neg (by decide)]
      refine g_if_eq (tgt := 70) C0 dX10_setPrices_65 (by decide) (fun z => (by revert z; decide +kernel : False).elim) (fun _ => ?_)
      refine g_iconst (v := 0) C0 dX10_setPrices_68 (by decide) ?_
      refine g_iret C0 rfl dX10_setPrices_69 (by decide) (by decide) ?_
      simp only [mSetPrices, b4, b14, b29, if_true, if_false, eq_self] at hK
      exact hK
    rw [if_neg b29]
    refine g_if_ne (tgt := 39) C0 dX10_setPrices_32 (by decide) (fun _ => ?_) (fun z => (by revert z; decide +kernel : False).elim)
    refine g_iload C0 dX10_setPrices_39 rfl ?_
    refine g_if_ne (tgt := 48) C0 dX10_setPrices_41 (by decide) (fun z => (by revert z; decide +kernel : False).elim) (fun _ => ?_)
    refine g_iconst (v := 2) C0 dX10_setPrices_44 (by decide) ?_
    refine g_goto (tgt := 62) C0 dX10_setPrices_45 (by decide) ?_
    refine g_invV1 C0 dX10_setPrices_62 CX10_101 rfl rfl ⟨by decide, by decide, by decide, by decide⟩ (Nat.le_of_ble_eq_true rfl) ?_
    refine m_refused (n := 2) (by decide) ?_
    refine Aft_v (WM_len2 _ _) ?_
    rw [if_neg (by decide)]
    refine g_if_eq (tgt := 70) C0 dX10_setPrices_65 (by decide) (fun z => (by revert z; decide +kernel : False).elim) (fun _ => ?_)
    refine g_iconst (v := 0) C0 dX10_setPrices_68 (by decide) ?_
    refine g_iret C0 rfl dX10_setPrices_69 (by decide) (by decide) ?_
    simp only [mSetPrices, b4, b14, b29, if_true, if_false, eq_self] at hK
    exact hK
  rw [if_neg b14]
  refine g_if_eq (tgt := 24) C0 dX10_setPrices_17 (by decide) (fun z => (by revert z; decide +kernel : False).elim) (fun _ => ?_)
  refine g_iconst (v := 1) C0 dX10_setPrices_20 (by decide) ?_
  refine g_goto (tgt := 25) C0 dX10_setPrices_21 (by decide) ?_
  refine g_istore C0 dX10_setPrices_25 (by decide) ?_
  refine g_aload_n C0 dX10_setPrices_27 rfl ?_
  refine g_iload_n C0 dX10_setPrices_28 rfl ?_
  refine g_invS1 C0 dX10_setPrices_29 CX10_94 rfl ⟨by decide, by decide, by decide, by decide⟩ (Nat.le_of_ble_eq_true rfl) ?_
  refine m_isC ?_
  refine Aft_v (WM_len2 _ _) ?_
  by_cases b29 : noC c
  · rw [if_pos b29]
    refine g_if_ne (tgt := 39) C0 dX10_setPrices_32 (by decide) (fun z => (by revert z; decide +kernel : False).elim) (fun _ => ?_)
    refine g_iconst (v := 1) C0 dX10_setPrices_35 (by decide) ?_
    refine g_goto (tgt := 62) C0 dX10_setPrices_36 (by decide) ?_
    refine g_invV1 C0 dX10_setPrices_62 CX10_101 rfl rfl ⟨by decide, by decide, by decide, by decide⟩ (Nat.le_of_ble_eq_true rfl) ?_
    refine m_refused (n := 1) (by decide) ?_
    refine Aft_v (WM_len2 _ _) ?_
    rw [if_neg (by decide)]
    refine g_if_eq (tgt := 70) C0 dX10_setPrices_65 (by decide) (fun z => (by revert z; decide +kernel : False).elim) (fun _ => ?_)
    refine g_iconst (v := 0) C0 dX10_setPrices_68 (by decide) ?_
    refine g_iret C0 rfl dX10_setPrices_69 (by decide) (by decide) ?_
    simp only [mSetPrices, b4, b14, b29, if_true, if_false, eq_self] at hK
    exact hK
  rw [if_neg b29]
  refine g_if_ne (tgt := 39) C0 dX10_setPrices_32 (by decide) (fun _ => ?_) (fun z => (by revert z; decide +kernel : False).elim)
  refine g_iload C0 dX10_setPrices_39 rfl ?_
  refine g_if_ne (tgt := 48) C0 dX10_setPrices_41 (by decide) (fun _ => ?_) (fun z => (by revert z; decide +kernel : False).elim)
  refine g_aload_n C0 dX10_setPrices_48 rfl ?_
  refine g_getfield C0 dX10_setPrices_49 FX10_98 rfl rfl ?_
  refine g_bipush (v := 60) C0 dX10_setPrices_52 (by decide) ?_
  refine g_icmp_ne (tgt := 61) C0 dX10_setPrices_54 (by decide) (fun h54 => ?_) (fun h54 => ?_)
  · refine g_iconst (v := 0) C0 dX10_setPrices_61 (by decide) ?_
    refine g_invV1 C0 dX10_setPrices_62 CX10_101 rfl rfl ⟨by decide, by decide, by decide, by decide⟩ (Nat.le_of_ble_eq_true rfl) ?_
    refine m_refused (n := 0) (by decide) ?_
    refine Aft_v (WM_len2 _ _) ?_
    rw [if_pos rfl]
    refine g_if_eq (tgt := 70) C0 dX10_setPrices_65 (by decide) (fun _ => ?_) (fun z => (by revert z; decide +kernel : False).elim)
    refine g_aload_n C0 dX10_setPrices_70 rfl ?_
    refine g_getfield C0 dX10_setPrices_71 FX10_7 rfl rfl ?_
    refine g_iload_n C0 dX10_setPrices_74 rfl ?_
    refine g_iaload C0 dX10_setPrices_75 rfl (inC b29) ?_
    refine g_istore C0 dX10_setPrices_76 (by decide) ?_
    refine g_aload_n C0 dX10_setPrices_78 rfl ?_
    refine g_getfield C0 dX10_setPrices_79 FX10_7 rfl rfl ?_
    refine g_iload_n C0 dX10_setPrices_82 rfl ?_
    refine g_iload_n C0 dX10_setPrices_83 rfl ?_
    refine g_iastore C0 dX10_setPrices_84 rfl (inC b29) ?_
    refine g_w (WM_set _ 0 (by decide) _) ?_
    refine g_aload_n C0 dX10_setPrices_85 rfl ?_
    refine g_getfield C0 dX10_setPrices_86 FX10_13 rfl rfl ?_
    refine g_iload_n C0 dX10_setPrices_89 rfl ?_
    refine g_iload_n C0 dX10_setPrices_90 rfl ?_
    refine g_iastore C0 dX10_setPrices_91 rfl (inC b29) ?_
    refine g_w (WM_set _ 1 (by decide) _) ?_
    refine g_aload_n C0 dX10_setPrices_92 rfl ?_
    refine g_dup C0 dX10_setPrices_93 rfl ?_
    refine g_getfield C0 dX10_setPrices_94 FX10_98 rfl rfl ?_
    refine g_iconst (v := 1) C0 dX10_setPrices_97 (by decide) ?_
    refine g_iadd C0 dX10_setPrices_98 ?_
    refine g_putfield C0 dX10_setPrices_99 FX10_98 rfl (Nat.le_of_ble_eq_true rfl) (fun _ => ⟨rfl, rfl⟩) ?_
    refine g_w (WM_inc2 _) ?_
    refine g_iload C0 dX10_setPrices_102 rfl ?_
    refine g_iret C0 rfl dX10_setPrices_104 (by decide) (by decide) ?_
    simp only [mSetPrices, b4, b14, b29, h54, if_true, if_false, eq_self] at hK
    exact hK
  refine g_iconst (v := 3) C0 dX10_setPrices_57 (by decide) ?_
  refine g_goto (tgt := 62) C0 dX10_setPrices_58 (by decide) ?_
  refine g_invV1 C0 dX10_setPrices_62 CX10_101 rfl rfl ⟨by decide, by decide, by decide, by decide⟩ (Nat.le_of_ble_eq_true rfl) ?_
  refine m_refused (n := 3) (by decide) ?_
  refine Aft_v (WM_len2 _ _) ?_
  rw [if_neg (by decide)]
  refine g_if_eq (tgt := 70) C0 dX10_setPrices_65 (by decide) (fun z => (by revert z; decide +kernel : False).elim) (fun _ => ?_)
  refine g_iconst (v := 0) C0 dX10_setPrices_68 (by decide) ?_
  refine g_iret C0 rfl dX10_setPrices_69 (by decide) (by decide) ?_
  simp only [mSetPrices, b4, b14, b29, h54, if_true, if_false, eq_self] at hK
  exact hK
set_option maxRecDepth 100000 in
set_option maxHeartbeats 4000000 in
theorem r_setDelay {q : XS} {K : AO → AW → Prop} {c s : Int32} (hK : K (mSetDelay q c s).1 (WM (mSetDelay q c s).2)) : Snd MX10_setDelay [.ref 0, .int c, .int s] (WM q) K := by
  refine Snd.of (by decide +kernel) (Nat.le_of_ble_eq_true rfl) rfl rfl ?_
  intro X D dA ad C0
  show Gd X _ MX10_setDelay 0 [some (.ref 0), some (.int c), some (.int s), none] [] _ 0 0
  refine g_aload_n C0 dX10_setDelay_0 rfl ?_
  refine g_iload_n C0 dX10_setDelay_1 rfl ?_
  refine g_invS1 C0 dX10_setDelay_2 CX10_94 rfl ⟨by decide, by decide, by decide, by decide⟩ (Nat.le_of_ble_eq_true rfl) ?_
  refine m_isC ?_
  refine Aft_v (WM_len2 _ _) ?_
  by_cases b2 : noC c
  · rw [if_pos b2]
    refine g_if_ne (tgt := 12) C0 dX10_setDelay_5 (by decide) (fun z => (by revert z; decide +kernel : False).elim) (fun _ => ?_)
    refine g_iconst (v := 1) C0 dX10_setDelay_8 (by decide) ?_
    refine g_goto (tgt := 28) C0 dX10_setDelay_9 (by decide) ?_
    refine g_invV1 C0 dX10_setDelay_28 CX10_101 rfl rfl ⟨by decide, by decide, by decide, by decide⟩ (Nat.le_of_ble_eq_true rfl) ?_
    refine m_refused (n := 1) (by decide) ?_
    refine Aft_v (WM_len2 _ _) ?_
    rw [if_neg (by decide)]
    refine g_if_eq (tgt := 36) C0 dX10_setDelay_31 (by decide) (fun z => (by revert z; decide +kernel : False).elim) (fun _ => ?_)
    refine g_iconst (v := 0) C0 dX10_setDelay_34 (by decide) ?_
    refine g_iret C0 rfl dX10_setDelay_35 (by decide) (by decide) ?_
    simp only [mSetDelay, b2, if_true, if_false, eq_self] at hK
    exact hK
  rw [if_neg b2]
  refine g_if_ne (tgt := 12) C0 dX10_setDelay_5 (by decide) (fun _ => ?_) (fun z => (by revert z; decide +kernel : False).elim)
  refine g_iload_n C0 dX10_setDelay_12 rfl ?_
  refine g_iconst (v := 0) C0 dX10_setDelay_13 (by decide) ?_
  refine g_sipush (v := 5000) C0 dX10_setDelay_14 (by decide) ?_
  refine g_invS3 C0 dX10_setDelay_17 CX10_87 rfl ⟨by decide, by decide, by decide, by decide⟩ (Nat.le_of_ble_eq_true rfl) ?_
  refine m_in ?_
  refine Aft_v (WM_len2 _ _) ?_
  by_cases b17 : noW s 0 5000
  · rw [if_pos b17]
    refine g_if_eq (tgt := 27) C0 dX10_setDelay_20 (by decide) (fun _ => ?_) (fun z => (by revert z; decide +kernel : False).elim)
    refine g_iconst (v := 2) C0 dX10_setDelay_27 (by decide) ?_
    refine g_invV1 C0 dX10_setDelay_28 CX10_101 rfl rfl ⟨by decide, by decide, by decide, by decide⟩ (Nat.le_of_ble_eq_true rfl) ?_
    refine m_refused (n := 2) (by decide) ?_
    refine Aft_v (WM_len2 _ _) ?_
    rw [if_neg (by decide)]
    refine g_if_eq (tgt := 36) C0 dX10_setDelay_31 (by decide) (fun z => (by revert z; decide +kernel : False).elim) (fun _ => ?_)
    refine g_iconst (v := 0) C0 dX10_setDelay_34 (by decide) ?_
    refine g_iret C0 rfl dX10_setDelay_35 (by decide) (by decide) ?_
    simp only [mSetDelay, b2, b17, if_true, if_false, eq_self] at hK
    exact hK
  rw [if_neg b17]
  refine g_if_eq (tgt := 27) C0 dX10_setDelay_20 (by decide) (fun z => (by revert z; decide +kernel : False).elim) (fun _ => ?_)
  refine g_iconst (v := 0) C0 dX10_setDelay_23 (by decide) ?_
  refine g_goto (tgt := 28) C0 dX10_setDelay_24 (by decide) ?_
  refine g_invV1 C0 dX10_setDelay_28 CX10_101 rfl rfl ⟨by decide, by decide, by decide, by decide⟩ (Nat.le_of_ble_eq_true rfl) ?_
  refine m_refused (n := 0) (by decide) ?_
  refine Aft_v (WM_len2 _ _) ?_
  rw [if_pos rfl]
  refine g_if_eq (tgt := 36) C0 dX10_setDelay_31 (by decide) (fun _ => ?_) (fun z => (by revert z; decide +kernel : False).elim)
  refine g_aload_n C0 dX10_setDelay_36 rfl ?_
  refine g_getfield C0 dX10_setDelay_37 FX10_16 rfl rfl ?_
  refine g_iload_n C0 dX10_setDelay_40 rfl ?_
  refine g_iaload C0 dX10_setDelay_41 rfl (inC b2) ?_
  refine g_istore_n C0 dX10_setDelay_42 (by decide) ?_
  refine g_aload_n C0 dX10_setDelay_43 rfl ?_
  refine g_getfield C0 dX10_setDelay_44 FX10_16 rfl rfl ?_
  refine g_iload_n C0 dX10_setDelay_47 rfl ?_
  refine g_iload_n C0 dX10_setDelay_48 rfl ?_
  refine g_iastore C0 dX10_setDelay_49 rfl (inC b2) ?_
  refine g_w (WM_set _ 2 (by decide) _) ?_
  refine g_iload_n C0 dX10_setDelay_50 rfl ?_
  refine g_iret C0 rfl dX10_setDelay_51 (by decide) (by decide) ?_
  simp only [mSetDelay, b2, b17, if_true, if_false, eq_self] at hK
  exact hK
set_option maxRecDepth 100000 in
set_option maxHeartbeats 4000000 in
theorem r_sell {q : XS} {K : AO → AW → Prop} {n p : Int32} (hK : K (mSell q n p).1 (WM (mSell q n p).2)) : Snd MX10_sell [.ref 0, .int n, .int p] (WM q) K := by
  refine Snd.of (by decide +kernel) (Nat.le_of_ble_eq_true rfl) rfl rfl ?_
  intro X D dA ad C0
  show Gd X _ MX10_sell 0 [some (.ref 0), some (.int n), some (.int p), none, none] [] _ 0 0
  refine g_iload_n C0 dX10_sell_0 rfl ?_
  refine g_invS1 C0 dX10_sell_1 CX10_128 rfl ⟨by decide, by decide, by decide, by decide⟩ (Nat.le_of_ble_eq_true rfl) ?_
  refine m_isN ?_
  refine Aft_v (WM_len2 _ _) ?_
  by_cases b1 : noN n
  · rw [if_pos b1]
    refine g_if_eq (tgt := 18) C0 dX10_sell_4 (by decide) (fun _ => ?_) (fun z => (by revert z; decide +kernel : False).elim)
    refine g_iconst (v := 0) C0 dX10_sell_18 (by decide) ?_
    refine g_istore_n C0 dX10_sell_19 (by decide) ?_
    refine g_aload_n C0 dX10_sell_20 rfl ?_
    refine g_iload_n C0 dX10_sell_21 rfl ?_
    refine g_if_ne (tgt := 29) C0 dX10_sell_22 (by decide) (fun z => (by revert z; decide +kernel : False).elim) (fun _ => ?_)
    refine g_iconst (v := 1) C0 dX10_sell_25 (by decide) ?_
    refine g_goto (tgt := 53) C0 dX10_sell_26 (by decide) ?_
    refine g_invV1 C0 dX10_sell_53 CX10_101 rfl rfl ⟨by decide, by decide, by decide, by decide⟩ (Nat.le_of_ble_eq_true rfl) ?_
    refine m_refused (n := 1) (by decide) ?_
    refine Aft_v (WM_len2 _ _) ?_
    rw [if_neg (by decide)]
    refine g_if_eq (tgt := 61) C0 dX10_sell_56 (by decide) (fun z => (by revert z; decide +kernel : False).elim) (fun _ => ?_)
    refine g_iconst (v := 0) C0 dX10_sell_59 (by decide) ?_
    refine g_iret C0 rfl dX10_sell_60 (by decide) (by decide) ?_
    simp only [mSell, b1, if_true, if_false, eq_self] at hK
    exact hK
  rw [if_neg b1]
  refine g_if_eq (tgt := 18) C0 dX10_sell_4 (by decide) (fun z => (by revert z; decide +kernel : False).elim) (fun _ => ?_)
  refine g_iload_n C0 dX10_sell_7 rfl ?_
  refine g_invS1 C0 dX10_sell_8 CX10_135 rfl ⟨by decide, by decide, by decide, by decide⟩ (Nat.le_of_ble_eq_true rfl) ?_
  refine m_isP ?_
  refine Aft_v (WM_len2 _ _) ?_
  by_cases b8 : noP p
  · rw [if_pos b8]
    refine g_if_eq (tgt := 18) C0 dX10_sell_11 (by decide) (fun _ => ?_) (fun z => (by revert z; decide +kernel : False).elim)
    refine g_iconst (v := 0) C0 dX10_sell_18 (by decide) ?_
    refine g_istore_n C0 dX10_sell_19 (by decide) ?_
    refine g_aload_n C0 dX10_sell_20 rfl ?_
    refine g_iload_n C0 dX10_sell_21 rfl ?_
    refine g_if_ne (tgt := 29) C0 dX10_sell_22 (by decide) (fun z => (by revert z; decide +kernel : False).elim) (fun _ => ?_)
    refine g_iconst (v := 1) C0 dX10_sell_25 (by decide) ?_
    refine g_goto (tgt := 53) C0 dX10_sell_26 (by decide) ?_
    refine g_invV1 C0 dX10_sell_53 CX10_101 rfl rfl ⟨by decide, by decide, by decide, by decide⟩ (Nat.le_of_ble_eq_true rfl) ?_
    refine m_refused (n := 1) (by decide) ?_
    refine Aft_v (WM_len2 _ _) ?_
    rw [if_neg (by decide)]
    refine g_if_eq (tgt := 61) C0 dX10_sell_56 (by decide) (fun z => (by revert z; decide +kernel : False).elim) (fun _ => ?_)
    refine g_iconst (v := 0) C0 dX10_sell_59 (by decide) ?_
    refine g_iret C0 rfl dX10_sell_60 (by decide) (by decide) ?_
    simp only [mSell, b1, b8, if_true, if_false, eq_self] at hK
    exact hK
  rw [if_neg b8]
  refine g_if_eq (tgt := 18) C0 dX10_sell_11 (by decide) (fun z => (by revert z; decide +kernel : False).elim) (fun _ => ?_)
  refine g_iconst (v := 1) C0 dX10_sell_14 (by decide) ?_
  refine g_goto (tgt := 19) C0 dX10_sell_15 (by decide) ?_
  refine g_istore_n C0 dX10_sell_19 (by decide) ?_
  refine g_aload_n C0 dX10_sell_20 rfl ?_
  refine g_iload_n C0 dX10_sell_21 rfl ?_
  refine g_if_ne (tgt := 29) C0 dX10_sell_22 (by decide) (fun _ => ?_) (fun z => (by revert z; decide +kernel : False).elim)
  refine g_aload_n C0 dX10_sell_29 rfl ?_
  refine g_getfield C0 dX10_sell_30 FX10_34 rfl rfl ?_
  refine g_iload_n C0 dX10_sell_33 rfl ?_
  refine g_iaload C0 dX10_sell_34 rfl (inN b1) ?_
  refine g_iload_n C0 dX10_sell_35 rfl ?_
  refine g_icmp_eq (tgt := 48) C0 dX10_sell_36 (by decide) (fun h36 => ?_) (fun h36 => ?_)
  · refine g_iconst (v := 2) C0 dX10_sell_48 (by decide) ?_
    refine g_goto (tgt := 53) C0 dX10_sell_49 (by decide) ?_
    refine g_invV1 C0 dX10_sell_53 CX10_101 rfl rfl ⟨by decide, by decide, by decide, by decide⟩ (Nat.le_of_ble_eq_true rfl) ?_
    refine m_refused (n := 2) (by decide) ?_
    refine Aft_v (WM_len2 _ _) ?_
    rw [if_neg (by decide)]
    refine g_if_eq (tgt := 61) C0 dX10_sell_56 (by decide) (fun z => (by revert z; decide +kernel : False).elim) (fun _ => ?_)
    refine g_iconst (v := 0) C0 dX10_sell_59 (by decide) ?_
    refine g_iret C0 rfl dX10_sell_60 (by decide) (by decide) ?_
    simp only [mSell, b1, b8, h36, if_true, if_false, eq_self] at hK
    exact hK
  refine g_aload_n C0 dX10_sell_39 rfl ?_
  refine g_getfield C0 dX10_sell_40 FX10_138 rfl rfl ?_
  refine g_bipush (v := 60) C0 dX10_sell_43 (by decide) ?_
  refine g_icmp_ne (tgt := 52) C0 dX10_sell_45 (by decide) (fun h45 => ?_) (fun h45 => ?_)
  · refine g_iconst (v := 0) C0 dX10_sell_52 (by decide) ?_
    refine g_invV1 C0 dX10_sell_53 CX10_101 rfl rfl ⟨by decide, by decide, by decide, by decide⟩ (Nat.le_of_ble_eq_true rfl) ?_
    refine m_refused (n := 0) (by decide) ?_
    refine Aft_v (WM_len2 _ _) ?_
    rw [if_pos rfl]
    refine g_if_eq (tgt := 61) C0 dX10_sell_56 (by decide) (fun _ => ?_) (fun z => (by revert z; decide +kernel : False).elim)
    refine g_aload_n C0 dX10_sell_61 rfl ?_
    refine g_getfield C0 dX10_sell_62 FX10_34 rfl rfl ?_
    refine g_iload_n C0 dX10_sell_65 rfl ?_
    refine g_iaload C0 dX10_sell_66 rfl (inN b1) ?_
    refine g_istore C0 dX10_sell_67 (by decide) ?_
    refine g_aload_n C0 dX10_sell_69 rfl ?_
    refine g_getfield C0 dX10_sell_70 FX10_34 rfl rfl ?_
    refine g_iload_n C0 dX10_sell_73 rfl ?_
    refine g_iload_n C0 dX10_sell_74 rfl ?_
    refine g_iastore C0 dX10_sell_75 rfl (inN b1) ?_
    refine g_w (WM_set _ 8 (by decide) _) ?_
    refine g_aload_n C0 dX10_sell_76 rfl ?_
    refine g_dup C0 dX10_sell_77 rfl ?_
    refine g_getfield C0 dX10_sell_78 FX10_138 rfl rfl ?_
    refine g_iconst (v := 1) C0 dX10_sell_81 (by decide) ?_
    refine g_iadd C0 dX10_sell_82 ?_
    refine g_putfield C0 dX10_sell_83 FX10_138 rfl (Nat.le_of_ble_eq_true rfl) (fun _ => ⟨rfl, rfl⟩) ?_
    refine g_w (WM_inc3 _) ?_
    refine g_iload C0 dX10_sell_86 rfl ?_
    refine g_iret C0 rfl dX10_sell_88 (by decide) (by decide) ?_
    simp only [mSell, b1, b8, h36, h45, if_true, if_false, eq_self] at hK
    exact hK
  refine g_iconst (v := 2) C0 dX10_sell_48 (by decide) ?_
  refine g_goto (tgt := 53) C0 dX10_sell_49 (by decide) ?_
  refine g_invV1 C0 dX10_sell_53 CX10_101 rfl rfl ⟨by decide, by decide, by decide, by decide⟩ (Nat.le_of_ble_eq_true rfl) ?_
  refine m_refused (n := 2) (by decide) ?_
  refine Aft_v (WM_len2 _ _) ?_
  rw [if_neg (by decide)]
  refine g_if_eq (tgt := 61) C0 dX10_sell_56 (by decide) (fun z => (by revert z; decide +kernel : False).elim) (fun _ => ?_)
  refine g_iconst (v := 0) C0 dX10_sell_59 (by decide) ?_
  refine g_iret C0 rfl dX10_sell_60 (by decide) (by decide) ?_
  simp only [mSell, b1, b8, h36, h45, if_true, if_false, eq_self] at hK
  exact hK
set_option maxRecDepth 100000 in
set_option maxHeartbeats 4000000 in
theorem r_bond {q : XS} {K : AO → AW → Prop} {n c : Int32} (hK : K (mBond q n c).1 (WM (mBond q n c).2)) : Snd MX10_bond [.ref 0, .int n, .int c] (WM q) K := by
  refine Snd.of (by decide +kernel) (Nat.le_of_ble_eq_true rfl) rfl rfl ?_
  intro X D dA ad C0
  show Gd X _ MX10_bond 0 [some (.ref 0), some (.int n), some (.int c), none, none] [] _ 0 0
  refine g_iload_n C0 dX10_bond_0 rfl ?_
  refine g_iconst (v := 1) C0 dX10_bond_1 (by decide) ?_
  refine g_sipush (v := 5000) C0 dX10_bond_2 (by decide) ?_
  refine g_invS3 C0 dX10_bond_5 CX10_87 rfl ⟨by decide, by decide, by decide, by decide⟩ (Nat.le_of_ble_eq_true rfl) ?_
  refine m_in ?_
  refine Aft_v (WM_len2 _ _) ?_
  by_cases b5 : noW c 1 5000
  · rw [if_pos b5]
    refine g_istore_n C0 dX10_bond_8 (by decide) ?_
    refine g_iload_n C0 dX10_bond_9 rfl ?_
    refine g_invS1 C0 dX10_bond_10 CX10_128 rfl ⟨by decide, by decide, by decide, by decide⟩ (Nat.le_of_ble_eq_true rfl) ?_
    refine m_isN ?_
    refine Aft_v (WM_len2 _ _) ?_
    by_cases b10 : noN n
    · rw [if_pos b10]
      refine g_if_eq (tgt := 38) C0 dX10_bond_13 (by decide) (fun _ => ?_) (fun z => (by revert z; decide +kernel : False).elim)
      refine g_iconst (v := 0) C0 dX10_bond_38 (by decide) ?_
      refine g_istore C0 dX10_bond_39 (by decide) ?_
      refine g_aload_n C0 dX10_bond_41 rfl ?_
      refine g_iload_n C0 dX10_bond_42 rfl ?_
      refine g_invS1 C0 dX10_bond_43 CX10_128 rfl ⟨by decide, by decide, by decide, by decide⟩ (Nat.le_of_ble_eq_true rfl) ?_
      refine m_isN ?_
      refine Aft_v (WM_len2 _ _) ?_
      rw [if_pos b10]
      refine g_if_ne (tgt := 53) C0 dX10_bond_46 (by decide) (fun z => (by revert z; decide +kernel : False).elim) (fun _ => ?_)
      refine g_iconst (v := 1) C0 dX10_bond_49 (by decide) ?_
      refine g_goto (tgt := 71) C0 dX10_bond_50 (by decide) ?_
      refine g_invV1 C0 dX10_bond_71 CX10_101 rfl rfl ⟨by decide, by decide, by decide, by decide⟩ (Nat.le_of_ble_eq_true rfl) ?_
      refine m_refused (n := 1) (by decide) ?_
      refine Aft_v (WM_len2 _ _) ?_
      rw [if_neg (by decide)]
      refine g_if_eq (tgt := 79) C0 dX10_bond_74 (by decide) (fun z => (by revert z; decide +kernel : False).elim) (fun _ => ?_)
      refine g_iconst (v := 0) C0 dX10_bond_77 (by decide) ?_
      refine g_iret C0 rfl dX10_bond_78 (by decide) (by decide) ?_
      simp only [mBond, b5, b10, if_true, if_false, eq_self] at hK
      exact hK
    rw [if_neg b10]
    refine g_if_eq (tgt := 38) C0 dX10_bond_13 (by decide) (fun z => (by revert z; decide +kernel : False).elim) (fun _ => ?_)
    refine g_iload_n C0 dX10_bond_16 rfl ?_
    refine g_if_eq (tgt := 38) C0 dX10_bond_17 (by decide) (fun _ => ?_) (fun z => (by revert z; decide +kernel : False).elim)
    refine g_iconst (v := 0) C0 dX10_bond_38 (by decide) ?_
    refine g_istore C0 dX10_bond_39 (by decide) ?_
    refine g_aload_n C0 dX10_bond_41 rfl ?_
    refine g_iload_n C0 dX10_bond_42 rfl ?_
    refine g_invS1 C0 dX10_bond_43 CX10_128 rfl ⟨by decide, by decide, by decide, by decide⟩ (Nat.le_of_ble_eq_true rfl) ?_
    refine m_isN ?_
    refine Aft_v (WM_len2 _ _) ?_
    rw [if_neg b10]
    refine g_if_ne (tgt := 53) C0 dX10_bond_46 (by decide) (fun _ => ?_) (fun z => (by revert z; decide +kernel : False).elim)
    refine g_iload_n C0 dX10_bond_53 rfl ?_
    refine g_if_ne (tgt := 61) C0 dX10_bond_54 (by decide) (fun z => (by revert z; decide +kernel : False).elim) (fun _ => ?_)
    refine g_iconst (v := 2) C0 dX10_bond_57 (by decide) ?_
    refine g_goto (tgt := 71) C0 dX10_bond_58 (by decide) ?_
    refine g_invV1 C0 dX10_bond_71 CX10_101 rfl rfl ⟨by decide, by decide, by decide, by decide⟩ (Nat.le_of_ble_eq_true rfl) ?_
    refine m_refused (n := 2) (by decide) ?_
    refine Aft_v (WM_len2 _ _) ?_
    rw [if_neg (by decide)]
    refine g_if_eq (tgt := 79) C0 dX10_bond_74 (by decide) (fun z => (by revert z; decide +kernel : False).elim) (fun _ => ?_)
    refine g_iconst (v := 0) C0 dX10_bond_77 (by decide) ?_
    refine g_iret C0 rfl dX10_bond_78 (by decide) (by decide) ?_
    simp only [mBond, b5, b10, if_true, if_false, eq_self] at hK
    exact hK
  rw [if_neg b5]
  refine g_istore_n C0 dX10_bond_8 (by decide) ?_
  refine g_iload_n C0 dX10_bond_9 rfl ?_
  refine g_invS1 C0 dX10_bond_10 CX10_128 rfl ⟨by decide, by decide, by decide, by decide⟩ (Nat.le_of_ble_eq_true rfl) ?_
  refine m_isN ?_
  refine Aft_v (WM_len2 _ _) ?_
  by_cases b10 : noN n
  · rw [if_pos b10]
    refine g_if_eq (tgt := 38) C0 dX10_bond_13 (by decide) (fun _ => ?_) (fun z => (by revert z; decide +kernel : False).elim)
    refine g_iconst (v := 0) C0 dX10_bond_38 (by decide) ?_
    refine g_istore C0 dX10_bond_39 (by decide) ?_
    refine g_aload_n C0 dX10_bond_41 rfl ?_
    refine g_iload_n C0 dX10_bond_42 rfl ?_
    refine g_invS1 C0 dX10_bond_43 CX10_128 rfl ⟨by decide, by decide, by decide, by decide⟩ (Nat.le_of_ble_eq_true rfl) ?_
    refine m_isN ?_
    refine Aft_v (WM_len2 _ _) ?_
    rw [if_pos b10]
    refine g_if_ne (tgt := 53) C0 dX10_bond_46 (by decide) (fun z => (by revert z; decide +kernel : False).elim) (fun _ => ?_)
    refine g_iconst (v := 1) C0 dX10_bond_49 (by decide) ?_
    refine g_goto (tgt := 71) C0 dX10_bond_50 (by decide) ?_
    refine g_invV1 C0 dX10_bond_71 CX10_101 rfl rfl ⟨by decide, by decide, by decide, by decide⟩ (Nat.le_of_ble_eq_true rfl) ?_
    refine m_refused (n := 1) (by decide) ?_
    refine Aft_v (WM_len2 _ _) ?_
    rw [if_neg (by decide)]
    refine g_if_eq (tgt := 79) C0 dX10_bond_74 (by decide) (fun z => (by revert z; decide +kernel : False).elim) (fun _ => ?_)
    refine g_iconst (v := 0) C0 dX10_bond_77 (by decide) ?_
    refine g_iret C0 rfl dX10_bond_78 (by decide) (by decide) ?_
    simp only [mBond, b5, b10, if_true, if_false, eq_self] at hK
    exact hK
  rw [if_neg b10]
  refine g_if_eq (tgt := 38) C0 dX10_bond_13 (by decide) (fun z => (by revert z; decide +kernel : False).elim) (fun _ => ?_)
  refine g_iload_n C0 dX10_bond_16 rfl ?_
  refine g_if_eq (tgt := 38) C0 dX10_bond_17 (by decide) (fun z => (by revert z; decide +kernel : False).elim) (fun _ => ?_)
  refine g_aload_n C0 dX10_bond_20 rfl ?_
  refine g_getfield C0 dX10_bond_21 FX10_40 rfl rfl ?_
  refine g_iload_n C0 dX10_bond_24 rfl ?_
  refine g_iaload C0 dX10_bond_25 rfl (inN b10) ?_
  refine g_iload_n C0 dX10_bond_26 rfl ?_
  refine g_iadd C0 dX10_bond_27 ?_
  refine g_sipush (v := 5000) C0 dX10_bond_28 (by decide) ?_
  refine g_icmp_gt (tgt := 38) C0 dX10_bond_31 (by decide) (fun h31 => ?_) (fun h31 => ?_)
  · refine g_iconst (v := 0) C0 dX10_bond_38 (by decide) ?_
    refine g_istore C0 dX10_bond_39 (by decide) ?_
    refine g_aload_n C0 dX10_bond_41 rfl ?_
    refine g_iload_n C0 dX10_bond_42 rfl ?_
    refine g_invS1 C0 dX10_bond_43 CX10_128 rfl ⟨by decide, by decide, by decide, by decide⟩ (Nat.le_of_ble_eq_true rfl) ?_
    refine m_isN ?_
    refine Aft_v (WM_len2 _ _) ?_
    rw [if_neg b10]
    refine g_if_ne (tgt := 53) C0 dX10_bond_46 (by decide) (fun _ => ?_) (fun z => (by revert z; decide +kernel : False).elim)
    refine g_iload_n C0 dX10_bond_53 rfl ?_
    refine g_if_ne (tgt := 61) C0 dX10_bond_54 (by decide) (fun _ => ?_) (fun z => (by revert z; decide +kernel : False).elim)
    refine g_iload C0 dX10_bond_61 rfl ?_
    refine g_if_eq (tgt := 70) C0 dX10_bond_63 (by decide) (fun _ => ?_) (fun z => (by revert z; decide +kernel : False).elim)
    refine g_iconst (v := 3) C0 dX10_bond_70 (by decide) ?_
    refine g_invV1 C0 dX10_bond_71 CX10_101 rfl rfl ⟨by decide, by decide, by decide, by decide⟩ (Nat.le_of_ble_eq_true rfl) ?_
    refine m_refused (n := 3) (by decide) ?_
    refine Aft_v (WM_len2 _ _) ?_
    rw [if_neg (by decide)]
    refine g_if_eq (tgt := 79) C0 dX10_bond_74 (by decide) (fun z => (by revert z; decide +kernel : False).elim) (fun _ => ?_)
    refine g_iconst (v := 0) C0 dX10_bond_77 (by decide) ?_
    refine g_iret C0 rfl dX10_bond_78 (by decide) (by decide) ?_
    simp only [mBond, b5, b10, h31, if_true, if_false, eq_self] at hK
    exact hK
  refine g_iconst (v := 1) C0 dX10_bond_34 (by decide) ?_
  refine g_goto (tgt := 39) C0 dX10_bond_35 (by decide) ?_
  refine g_istore C0 dX10_bond_39 (by decide) ?_
  refine g_aload_n C0 dX10_bond_41 rfl ?_
  refine g_iload_n C0 dX10_bond_42 rfl ?_
  refine g_invS1 C0 dX10_bond_43 CX10_128 rfl ⟨by decide, by decide, by decide, by decide⟩ (Nat.le_of_ble_eq_true rfl) ?_
  refine m_isN ?_
  refine Aft_v (WM_len2 _ _) ?_
  rw [if_neg b10]
  refine g_if_ne (tgt := 53) C0 dX10_bond_46 (by decide) (fun _ => ?_) (fun z => (by revert z; decide +kernel : False).elim)
  refine g_iload_n C0 dX10_bond_53 rfl ?_
  refine g_if_ne (tgt := 61) C0 dX10_bond_54 (by decide) (fun _ => ?_) (fun z => (by revert z; decide +kernel : False).elim)
  refine g_iload C0 dX10_bond_61 rfl ?_
  refine g_if_eq (tgt := 70) C0 dX10_bond_63 (by decide) (fun z => (by revert z; decide +kernel : False).elim) (fun _ => ?_)
  refine g_iconst (v := 0) C0 dX10_bond_66 (by decide) ?_
  refine g_goto (tgt := 71) C0 dX10_bond_67 (by decide) ?_
  refine g_invV1 C0 dX10_bond_71 CX10_101 rfl rfl ⟨by decide, by decide, by decide, by decide⟩ (Nat.le_of_ble_eq_true rfl) ?_
  refine m_refused (n := 0) (by decide) ?_
  refine Aft_v (WM_len2 _ _) ?_
  rw [if_pos rfl]
  refine g_if_eq (tgt := 79) C0 dX10_bond_74 (by decide) (fun _ => ?_) (fun z => (by revert z; decide +kernel : False).elim)
  refine g_aload_n C0 dX10_bond_79 rfl ?_
  refine g_getfield C0 dX10_bond_80 FX10_40 rfl rfl ?_
  refine g_iload_n C0 dX10_bond_83 rfl ?_
  refine g_dup2 C0 dX10_bond_84 rfl rfl ?_
  refine g_iaload C0 dX10_bond_85 rfl (inN b10) ?_
  refine g_iload_n C0 dX10_bond_86 rfl ?_
  refine g_iadd C0 dX10_bond_87 ?_
  refine g_iastore C0 dX10_bond_88 rfl (inN b10) ?_
  refine g_w (WM_set _ 10 (by decide) _) ?_
  refine g_aload_n C0 dX10_bond_89 rfl ?_
  refine g_getfield C0 dX10_bond_90 FX10_40 rfl rfl ?_
  refine g_iload_n C0 dX10_bond_93 rfl ?_
  refine g_iaload C0 dX10_bond_94 rfl (inN b10) ?_
  refine g_iret C0 rfl dX10_bond_95 (by decide) (by decide) ?_
  simp only [mBond, b5, b10, h31, if_true, if_false, eq_self] at hK
  exact hK
set_option maxRecDepth 100000 in
set_option maxHeartbeats 4000000 in
theorem r_pay {q : XS} {K : AO → AW → Prop} {n c : Int32} (h4 : q.2 4 ≤ 60) (hc : ∀ k, vp_in (q.1 13 k) 5) (hK : K (mPay q n c).1 (WM (mPay q n c).2)) : Snd MX10_pay [.ref 0, .int n, .int c] (WM q) K := by
  refine Snd.of (by decide +kernel) (Nat.le_of_ble_eq_true rfl) rfl rfl ?_
  intro X D dA ad C0
  show Gd X _ MX10_pay 0 [some (.ref 0), some (.int n), some (.int c)] [] _ 0 0
  refine g_aload_n C0 dX10_pay_0 rfl ?_
  refine g_iload_n C0 dX10_pay_1 rfl ?_
  refine g_invS1 C0 dX10_pay_2 CX10_128 rfl ⟨by decide, by decide, by decide, by decide⟩ (Nat.le_of_ble_eq_true rfl) ?_
  refine m_isN ?_
  refine Aft_v (WM_len2 _ _) ?_
  by_cases b2 : noN n
  · rw [if_pos b2]
    refine g_if_ne (tgt := 12) C0 dX10_pay_5 (by decide) (fun z => (by revert z; decide +kernel : False).elim) (fun _ => ?_)
    refine g_iconst (v := 1) C0 dX10_pay_8 (by decide) ?_
    refine g_goto (tgt := 31) C0 dX10_pay_9 (by decide) ?_
    refine g_invV1 C0 dX10_pay_31 CX10_101 rfl rfl ⟨by decide, by decide, by decide, by decide⟩ (Nat.le_of_ble_eq_true rfl) ?_
    refine m_refused (n := 1) (by decide) ?_
    refine Aft_v (WM_len2 _ _) ?_
    rw [if_neg (by decide)]
    refine g_if_eq (tgt := 39) C0 dX10_pay_34 (by decide) (fun z => (by revert z; decide +kernel : False).elim) (fun _ => ?_)
    refine g_iconst (v := 0) C0 dX10_pay_37 (by decide) ?_
    refine g_iret C0 rfl dX10_pay_38 (by decide) (by decide) ?_
    simp only [mPay, b2, if_true, if_false, eq_self] at hK
    exact hK
  rw [if_neg b2]
  refine g_if_ne (tgt := 12) C0 dX10_pay_5 (by decide) (fun _ => ?_) (fun z => (by revert z; decide +kernel : False).elim)
  refine g_iload_n C0 dX10_pay_12 rfl ?_
  refine g_iconst (v := 1) C0 dX10_pay_13 (by decide) ?_
  refine g_aload_n C0 dX10_pay_14 rfl ?_
  refine g_getfield C0 dX10_pay_15 FX10_37 rfl rfl ?_
  refine g_iload_n C0 dX10_pay_18 rfl ?_
  refine g_iaload C0 dX10_pay_19 rfl (inN b2) ?_
  refine g_invS3 C0 dX10_pay_20 CX10_87 rfl ⟨by decide, by decide, by decide, by decide⟩ (Nat.le_of_ble_eq_true rfl) ?_
  refine m_in ?_
  refine Aft_v (WM_len2 _ _) ?_
  by_cases b20 : noW c 1 (mg q 9 n)
  · rw [if_pos b20]
    refine g_if_eq (tgt := 30) C0 dX10_pay_23 (by decide) (fun _ => ?_) (fun z => (by revert z; decide +kernel : False).elim)
    refine g_iconst (v := 2) C0 dX10_pay_30 (by decide) ?_
    refine g_invV1 C0 dX10_pay_31 CX10_101 rfl rfl ⟨by decide, by decide, by decide, by decide⟩ (Nat.le_of_ble_eq_true rfl) ?_
    refine m_refused (n := 2) (by decide) ?_
    refine Aft_v (WM_len2 _ _) ?_
    rw [if_neg (by decide)]
    refine g_if_eq (tgt := 39) C0 dX10_pay_34 (by decide) (fun z => (by revert z; decide +kernel : False).elim) (fun _ => ?_)
    refine g_iconst (v := 0) C0 dX10_pay_37 (by decide) ?_
    refine g_iret C0 rfl dX10_pay_38 (by decide) (by decide) ?_
    simp only [mPay, b2, b20, if_true, if_false, eq_self] at hK
    exact hK
  rw [if_neg b20]
  refine g_if_eq (tgt := 30) C0 dX10_pay_23 (by decide) (fun z => (by revert z; decide +kernel : False).elim) (fun _ => ?_)
  refine g_iconst (v := 0) C0 dX10_pay_26 (by decide) ?_
  refine g_goto (tgt := 31) C0 dX10_pay_27 (by decide) ?_
  refine g_invV1 C0 dX10_pay_31 CX10_101 rfl rfl ⟨by decide, by decide, by decide, by decide⟩ (Nat.le_of_ble_eq_true rfl) ?_
  refine m_refused (n := 0) (by decide) ?_
  refine Aft_v (WM_len2 _ _) ?_
  rw [if_pos rfl]
  refine g_if_eq (tgt := 39) C0 dX10_pay_34 (by decide) (fun _ => ?_) (fun z => (by revert z; decide +kernel : False).elim)
  refine g_aload_n C0 dX10_pay_39 rfl ?_
  refine g_iload_n C0 dX10_pay_40 rfl ?_
  refine g_iload_n C0 dX10_pay_41 rfl ?_
  refine g_invV2 C0 dX10_pay_42 CX10_141 rfl rfl ⟨by decide, by decide, by decide, by decide⟩ (Nat.le_of_ble_eq_true rfl) ?_
  refine m_settle (q := z0 q) h4 (inN b2) (mplace_in (q := mset1 (z0 q) n c) hc (inN b2)) ?_
  refine Aft_n (WM_len2 _ _) ?_
  refine g_aload_n C0 dX10_pay_45 rfl ?_
  refine g_getfield C0 dX10_pay_46 FX10_37 rfl rfl ?_
  refine g_iload_n C0 dX10_pay_49 rfl ?_
  refine g_iaload C0 dX10_pay_50 rfl (inN b2) ?_
  refine g_iret C0 rfl dX10_pay_51 (by decide) (by decide) ?_
  simp only [mPay, b2, b20, if_true, if_false, eq_self] at hK
  exact hK
set_option maxRecDepth 100000 in
set_option maxHeartbeats 4000000 in
theorem r_judge {q : XS} {K : AO → AW → Prop} {n : Int32} (h4 : q.2 4 ≤ 60) (hc : ∀ k, vp_in (q.1 13 k) 5) (hK : K (mJudge q n).1 (WM (mJudge q n).2)) : Snd MX10_judge [.ref 0, .int n] (WM q) K := by
  refine Snd.of (by decide +kernel) (Nat.le_of_ble_eq_true rfl) rfl rfl ?_
  intro X D dA ad C0
  show Gd X _ MX10_judge 0 [some (.ref 0), some (.int n), none] [] _ 0 0
  refine g_aload_n C0 dX10_judge_0 rfl ?_
  refine g_iload_n C0 dX10_judge_1 rfl ?_
  refine g_invS1 C0 dX10_judge_2 CX10_128 rfl ⟨by decide, by decide, by decide, by decide⟩ (Nat.le_of_ble_eq_true rfl) ?_
  refine m_isN ?_
  refine Aft_v (WM_len2 _ _) ?_
  by_cases b2 : noN n
  · rw [if_pos b2]
    refine g_if_ne (tgt := 12) C0 dX10_judge_5 (by decide) (fun z => (by revert z; decide +kernel : False).elim) (fun _ => ?_)
    refine g_iconst (v := 1) C0 dX10_judge_8 (by decide) ?_
    refine g_goto (tgt := 26) C0 dX10_judge_9 (by decide) ?_
    refine g_invV1 C0 dX10_judge_26 CX10_101 rfl rfl ⟨by decide, by decide, by decide, by decide⟩ (Nat.le_of_ble_eq_true rfl) ?_
    refine m_refused (n := 1) (by decide) ?_
    refine Aft_v (WM_len2 _ _) ?_
    rw [if_neg (by decide)]
    refine g_if_eq (tgt := 34) C0 dX10_judge_29 (by decide) (fun z => (by revert z; decide +kernel : False).elim) (fun _ => ?_)
    refine g_iconst (v := 0) C0 dX10_judge_32 (by decide) ?_
    refine g_iret C0 rfl dX10_judge_33 (by decide) (by decide) ?_
    simp only [mJudge, b2, if_true, if_false] at hK
    exact hK
  rw [if_neg b2]
  refine g_if_ne (tgt := 12) C0 dX10_judge_5 (by decide) (fun _ => ?_) (fun z => (by revert z; decide +kernel : False).elim)
  refine g_aload_n C0 dX10_judge_12 rfl ?_
  refine g_getfield C0 dX10_judge_13 FX10_37 rfl rfl ?_
  refine g_iload_n C0 dX10_judge_16 rfl ?_
  refine g_iaload C0 dX10_judge_17 rfl (inN b2) ?_
  refine g_if_le (tgt := 25) C0 dX10_judge_18 (by decide) (fun h18 => ?_) (fun h18 => ?_)
  · refine g_iconst (v := 2) C0 dX10_judge_25 (by decide) ?_
    refine g_invV1 C0 dX10_judge_26 CX10_101 rfl rfl ⟨by decide, by decide, by decide, by decide⟩ (Nat.le_of_ble_eq_true rfl) ?_
    refine m_refused (n := 2) (by decide) ?_
    refine Aft_v (WM_len2 _ _) ?_
    rw [if_neg (by decide)]
    refine g_if_eq (tgt := 34) C0 dX10_judge_29 (by decide) (fun z => (by revert z; decide +kernel : False).elim) (fun _ => ?_)
    refine g_iconst (v := 0) C0 dX10_judge_32 (by decide) ?_
    refine g_iret C0 rfl dX10_judge_33 (by decide) (by decide) ?_
    simp only [mJudge, b2, h18, if_true, if_false] at hK
    exact hK
  refine g_iconst (v := 0) C0 dX10_judge_21 (by decide) ?_
  refine g_goto (tgt := 26) C0 dX10_judge_22 (by decide) ?_
  refine g_invV1 C0 dX10_judge_26 CX10_101 rfl rfl ⟨by decide, by decide, by decide, by decide⟩ (Nat.le_of_ble_eq_true rfl) ?_
  refine m_refused (n := 0) (by decide) ?_
  refine Aft_v (WM_len2 _ _) ?_
  rw [if_pos rfl]
  refine g_if_eq (tgt := 34) C0 dX10_judge_29 (by decide) (fun _ => ?_) (fun z => (by revert z; decide +kernel : False).elim)
  refine g_aload_n C0 dX10_judge_34 rfl ?_
  refine g_getfield C0 dX10_judge_35 FX10_40 rfl rfl ?_
  refine g_iload_n C0 dX10_judge_38 rfl ?_
  refine g_iaload C0 dX10_judge_39 rfl (inN b2) ?_
  refine g_aload_n C0 dX10_judge_40 rfl ?_
  refine g_getfield C0 dX10_judge_41 FX10_37 rfl rfl ?_
  refine g_iload_n C0 dX10_judge_44 rfl ?_
  refine g_iaload C0 dX10_judge_45 rfl (inN b2) ?_
  refine g_icmp_ge (tgt := 58) C0 dX10_judge_46 (by decide) (fun h46 => ?_) (fun h46 => ?_)
  · refine g_aload_n C0 dX10_judge_58 rfl ?_
    refine g_getfield C0 dX10_judge_59 FX10_37 rfl rfl ?_
    refine g_iload_n C0 dX10_judge_62 rfl ?_
    refine g_iaload C0 dX10_judge_63 rfl (inN b2) ?_
    refine g_istore_n C0 dX10_judge_64 (by decide) ?_
    refine g_aload_n C0 dX10_judge_65 rfl ?_
    refine g_getfield C0 dX10_judge_66 FX10_40 rfl rfl ?_
    refine g_iload_n C0 dX10_judge_69 rfl ?_
    refine g_dup2 C0 dX10_judge_70 rfl rfl ?_
    refine g_iaload C0 dX10_judge_71 rfl (inN b2) ?_
    refine g_iload_n C0 dX10_judge_72 rfl ?_
    refine g_isub C0 dX10_judge_73 ?_
    refine g_iastore C0 dX10_judge_74 rfl (inN b2) ?_
    refine g_w (WM_set _ 10 (by decide) _) ?_
    refine g_aload_n C0 dX10_judge_75 rfl ?_
    refine g_getfield C0 dX10_judge_76 FX10_43 rfl rfl ?_
    refine g_iload_n C0 dX10_judge_79 rfl ?_
    refine g_iconst (v := 1) C0 dX10_judge_80 (by decide) ?_
    refine g_zastore C0 dX10_judge_81 rfl (inN b2) ?_
    rw [nar1]
    refine g_w (WM_setz _ _) ?_
    refine g_aload_n C0 dX10_judge_82 rfl ?_
    refine g_iload_n C0 dX10_judge_83 rfl ?_
    refine g_iload_n C0 dX10_judge_84 rfl ?_
    refine g_invV2 C0 dX10_judge_85 CX10_141 rfl rfl ⟨by decide, by decide, by decide, by decide⟩ (Nat.le_of_ble_eq_true rfl) ?_
    refine m_settle (q := mw (mw (z0 q) 10 n (mg q 10 n - mg q 9 n)) 11 n 1) h4 (inN b2) (mplace_in hc (inN b2)) ?_
    refine Aft_n (WM_len2 _ _) ?_
    refine g_aload_n C0 dX10_judge_88 rfl ?_
    refine g_getfield C0 dX10_judge_89 FX10_37 rfl rfl ?_
    refine g_iload_n C0 dX10_judge_92 rfl ?_
    refine g_iaload C0 dX10_judge_93 rfl (inN b2) ?_
    refine g_iret C0 rfl dX10_judge_94 (by decide) (by decide) ?_
    have h46c : mg q 9 n ≤ mg q 10 n := h46
    simp only [mJudge, mjQ, mjS, b2, h18, if_false, if_pos h46c] at hK
    exact hK
  refine g_aload_n C0 dX10_judge_49 rfl ?_
  refine g_getfield C0 dX10_judge_50 FX10_40 rfl rfl ?_
  refine g_iload_n C0 dX10_judge_53 rfl ?_
  refine g_iaload C0 dX10_judge_54 rfl (inN b2) ?_
  refine g_goto (tgt := 64) C0 dX10_judge_55 (by decide) ?_
  refine g_istore_n C0 dX10_judge_64 (by decide) ?_
  refine g_aload_n C0 dX10_judge_65 rfl ?_
  refine g_getfield C0 dX10_judge_66 FX10_40 rfl rfl ?_
  refine g_iload_n C0 dX10_judge_69 rfl ?_
  refine g_dup2 C0 dX10_judge_70 rfl rfl ?_
  refine g_iaload C0 dX10_judge_71 rfl (inN b2) ?_
  refine g_iload_n C0 dX10_judge_72 rfl ?_
  refine g_isub C0 dX10_judge_73 ?_
  refine g_iastore C0 dX10_judge_74 rfl (inN b2) ?_
  refine g_w (WM_set _ 10 (by decide) _) ?_
  refine g_aload_n C0 dX10_judge_75 rfl ?_
  refine g_getfield C0 dX10_judge_76 FX10_43 rfl rfl ?_
  refine g_iload_n C0 dX10_judge_79 rfl ?_
  refine g_iconst (v := 1) C0 dX10_judge_80 (by decide) ?_
  refine g_zastore C0 dX10_judge_81 rfl (inN b2) ?_
  rw [nar1]
  refine g_w (WM_setz _ _) ?_
  refine g_aload_n C0 dX10_judge_82 rfl ?_
  refine g_iload_n C0 dX10_judge_83 rfl ?_
  refine g_iload_n C0 dX10_judge_84 rfl ?_
  refine g_invV2 C0 dX10_judge_85 CX10_141 rfl rfl ⟨by decide, by decide, by decide, by decide⟩ (Nat.le_of_ble_eq_true rfl) ?_
  refine m_settle (q := mw (mw (z0 q) 10 n (mg q 10 n - mg q 10 n)) 11 n 1) h4 (inN b2) (mplace_in hc (inN b2)) ?_
  refine Aft_n (WM_len2 _ _) ?_
  refine g_aload_n C0 dX10_judge_88 rfl ?_
  refine g_getfield C0 dX10_judge_89 FX10_37 rfl rfl ?_
  refine g_iload_n C0 dX10_judge_92 rfl ?_
  refine g_iaload C0 dX10_judge_93 rfl (inN b2) ?_
  refine g_iret C0 rfl dX10_judge_94 (by decide) (by decide) ?_
  have h46c : ¬ mg q 9 n ≤ mg q 10 n := h46
  simp only [mJudge, mjQ, mjS, b2, h18, if_false, if_neg h46c] at hK
  exact hK
set_option maxRecDepth 100000 in
set_option maxHeartbeats 4000000 in
theorem r_hangUp {q : XS} {K : AO → AW → Prop} {c : Int32} (h5 : q.2 5 ≤ 60) (hK : K (mHangUp q c).1 (WM (mHangUp q c).2)) : Snd MX10_hangUp [.ref 0, .int c] (WM q) K := by
  refine Snd.of (by decide +kernel) (Nat.le_of_ble_eq_true rfl) rfl rfl ?_
  intro X D dA ad C0
  show Gd X _ MX10_hangUp 0 [some (.ref 0), some (.int c)] [] _ 0 0
  refine g_aload_n C0 dX10_hangUp_0 rfl ?_
  refine g_aload_n C0 dX10_hangUp_1 rfl ?_
  refine g_iload_n C0 dX10_hangUp_2 rfl ?_
  refine g_invV1 C0 dX10_hangUp_3 CX10_160 rfl rfl ⟨by decide, by decide, by decide, by decide⟩ (Nat.le_of_ble_eq_true rfl) ?_
  refine m_isL (by omega) ?_
  refine Aft_v (WM_len2 _ _) ?_
  by_cases b3 : noL (q.2 5) c
  · rw [if_pos b3]
    refine g_if_ne (tgt := 13) C0 dX10_hangUp_6 (by decide) (fun z => (by revert z; decide +kernel : False).elim) (fun _ => ?_)
    refine g_iconst (v := 1) C0 dX10_hangUp_9 (by decide) ?_
    refine g_goto (tgt := 27) C0 dX10_hangUp_10 (by decide) ?_
    refine g_invV1 C0 dX10_hangUp_27 CX10_101 rfl rfl ⟨by decide, by decide, by decide, by decide⟩ (Nat.le_of_ble_eq_true rfl) ?_
    refine m_refused (n := 1) (by decide) ?_
    refine Aft_v (WM_len2 _ _) ?_
    rw [if_neg (by decide)]
    refine g_if_eq (tgt := 35) C0 dX10_hangUp_30 (by decide) (fun z => (by revert z; decide +kernel : False).elim) (fun _ => ?_)
    refine g_iconst (v := 0) C0 dX10_hangUp_33 (by decide) ?_
    refine g_iret C0 rfl dX10_hangUp_34 (by decide) (by decide) ?_
    simp only [mHangUp, b3, if_true, if_false, eq_self] at hK
    exact hK
  rw [if_neg b3]
  refine g_if_ne (tgt := 13) C0 dX10_hangUp_6 (by decide) (fun _ => ?_) (fun z => (by revert z; decide +kernel : False).elim)
  refine g_aload_n C0 dX10_hangUp_13 rfl ?_
  refine g_getfield C0 dX10_hangUp_14 FX10_65 rfl rfl ?_
  refine g_iload_n C0 dX10_hangUp_17 rfl ?_
  refine g_iaload C0 dX10_hangUp_18 rfl (inL h5 b3) ?_
  refine g_if_ne (tgt := 26) C0 dX10_hangUp_19 (by decide) (fun h19 => ?_) (fun h19 => ?_)
  · refine g_iconst (v := 2) C0 dX10_hangUp_26 (by decide) ?_
    refine g_invV1 C0 dX10_hangUp_27 CX10_101 rfl rfl ⟨by decide, by decide, by decide, by decide⟩ (Nat.le_of_ble_eq_true rfl) ?_
    refine m_refused (n := 2) (by decide) ?_
    refine Aft_v (WM_len2 _ _) ?_
    rw [if_neg (by decide)]
    refine g_if_eq (tgt := 35) C0 dX10_hangUp_30 (by decide) (fun z => (by revert z; decide +kernel : False).elim) (fun _ => ?_)
    refine g_iconst (v := 0) C0 dX10_hangUp_33 (by decide) ?_
    refine g_iret C0 rfl dX10_hangUp_34 (by decide) (by decide) ?_
    simp only [mHangUp, b3, h19, if_true, if_false, eq_self] at hK
    exact hK
  refine g_iconst (v := 0) C0 dX10_hangUp_22 (by decide) ?_
  refine g_goto (tgt := 27) C0 dX10_hangUp_23 (by decide) ?_
  refine g_invV1 C0 dX10_hangUp_27 CX10_101 rfl rfl ⟨by decide, by decide, by decide, by decide⟩ (Nat.le_of_ble_eq_true rfl) ?_
  refine m_refused (n := 0) (by decide) ?_
  refine Aft_v (WM_len2 _ _) ?_
  rw [if_pos rfl]
  refine g_if_eq (tgt := 35) C0 dX10_hangUp_30 (by decide) (fun _ => ?_) (fun z => (by revert z; decide +kernel : False).elim)
  refine g_aload_n C0 dX10_hangUp_35 rfl ?_
  refine g_getfield C0 dX10_hangUp_36 FX10_65 rfl rfl ?_
  refine g_iload_n C0 dX10_hangUp_39 rfl ?_
  refine g_iconst (v := 1) C0 dX10_hangUp_40 (by decide) ?_
  refine g_iastore C0 dX10_hangUp_41 rfl (inL h5 b3) ?_
  refine g_w (WM_set _ 18 (by decide) _) ?_
  refine g_aload_n C0 dX10_hangUp_42 rfl ?_
  refine g_getfield C0 dX10_hangUp_43 FX10_74 rfl rfl ?_
  refine g_iload_n C0 dX10_hangUp_46 rfl ?_
  refine g_iaload C0 dX10_hangUp_47 rfl (inL h5 b3) ?_
  refine g_iret C0 rfl dX10_hangUp_48 (by decide) (by decide) ?_
  simp only [mHangUp, b3, h19, if_true, if_false, eq_self] at hK
  exact hK
set_option maxRecDepth 100000 in
set_option maxHeartbeats 4000000 in
theorem r_ownerOf {q : XS} {K : AO → AW → Prop} {n : Int32} (hK : K (mOfN q 8 n).1 (WM (mOfN q 8 n).2)) : Snd MX10_ownerOf [.ref 0, .int n] (WM q) K := by
  refine Snd.of (by decide +kernel) (Nat.le_of_ble_eq_true rfl) rfl rfl ?_
  intro X D dA ad C0
  show Gd X _ MX10_ownerOf 0 [some (.ref 0), some (.int n)] [] _ 0 0
  refine g_aload_n C0 dX10_ownerOf_0 rfl ?_
  refine g_iload_n C0 dX10_ownerOf_1 rfl ?_
  refine g_invV1 C0 dX10_ownerOf_2 CX10_166 rfl rfl ⟨by decide, by decide, by decide, by decide⟩ (Nat.le_of_ble_eq_true rfl) ?_
  refine m_noN ?_
  refine Aft_v (WM_len2 _ _) ?_
  by_cases b2 : noN n
  · simp only [if_pos b2]
    refine g_if_eq (tgt := 12) C0 dX10_ownerOf_5 (by decide) (fun z => (by revert z; decide +kernel : False).elim) (fun _ => ?_)
    refine g_iconst (v := 0) C0 dX10_ownerOf_8 (by decide) ?_
    refine g_goto (tgt := 18) C0 dX10_ownerOf_9 (by decide) ?_
    refine g_iret C0 rfl dX10_ownerOf_18 (by decide) (by decide) ?_
    simp only [mOfN, b2, if_true, if_false, eq_self] at hK
    exact hK
  simp only [if_neg b2]
  refine g_if_eq (tgt := 12) C0 dX10_ownerOf_5 (by decide) (fun _ => ?_) (fun z => (by revert z; decide +kernel : False).elim)
  refine g_aload_n C0 dX10_ownerOf_12 rfl ?_
  refine g_getfield C0 dX10_ownerOf_13 FX10_34 rfl rfl ?_
  refine g_iload_n C0 dX10_ownerOf_16 rfl ?_
  refine g_iaload C0 dX10_ownerOf_17 rfl (inN b2) ?_
  refine g_iret C0 rfl dX10_ownerOf_18 (by decide) (by decide) ?_
  simp only [mOfN, b2, if_true, if_false, eq_self] at hK
  exact hK
set_option maxRecDepth 100000 in
set_option maxHeartbeats 4000000 in
theorem r_debt {q : XS} {K : AO → AW → Prop} {n : Int32} (hK : K (mOfN q 9 n).1 (WM (mOfN q 9 n).2)) : Snd MX10_debt [.ref 0, .int n] (WM q) K := by
  refine Snd.of (by decide +kernel) (Nat.le_of_ble_eq_true rfl) rfl rfl ?_
  intro X D dA ad C0
  show Gd X _ MX10_debt 0 [some (.ref 0), some (.int n)] [] _ 0 0
  refine g_aload_n C0 dX10_debt_0 rfl ?_
  refine g_iload_n C0 dX10_debt_1 rfl ?_
  refine g_invV1 C0 dX10_debt_2 CX10_166 rfl rfl ⟨by decide, by decide, by decide, by decide⟩ (Nat.le_of_ble_eq_true rfl) ?_
  refine m_noN ?_
  refine Aft_v (WM_len2 _ _) ?_
  by_cases b2 : noN n
  · simp only [if_pos b2]
    refine g_if_eq (tgt := 12) C0 dX10_debt_5 (by decide) (fun z => (by revert z; decide +kernel : False).elim) (fun _ => ?_)
    refine g_iconst (v := 0) C0 dX10_debt_8 (by decide) ?_
    refine g_goto (tgt := 18) C0 dX10_debt_9 (by decide) ?_
    refine g_iret C0 rfl dX10_debt_18 (by decide) (by decide) ?_
    simp only [mOfN, b2, if_true, if_false, eq_self] at hK
    exact hK
  simp only [if_neg b2]
  refine g_if_eq (tgt := 12) C0 dX10_debt_5 (by decide) (fun _ => ?_) (fun z => (by revert z; decide +kernel : False).elim)
  refine g_aload_n C0 dX10_debt_12 rfl ?_
  refine g_getfield C0 dX10_debt_13 FX10_37 rfl rfl ?_
  refine g_iload_n C0 dX10_debt_16 rfl ?_
  refine g_iaload C0 dX10_debt_17 rfl (inN b2) ?_
  refine g_iret C0 rfl dX10_debt_18 (by decide) (by decide) ?_
  simp only [mOfN, b2, if_true, if_false, eq_self] at hK
  exact hK
set_option maxRecDepth 100000 in
set_option maxHeartbeats 4000000 in
theorem r_bondOf {q : XS} {K : AO → AW → Prop} {n : Int32} (hK : K (mOfN q 10 n).1 (WM (mOfN q 10 n).2)) : Snd MX10_bondOf [.ref 0, .int n] (WM q) K := by
  refine Snd.of (by decide +kernel) (Nat.le_of_ble_eq_true rfl) rfl rfl ?_
  intro X D dA ad C0
  show Gd X _ MX10_bondOf 0 [some (.ref 0), some (.int n)] [] _ 0 0
  refine g_aload_n C0 dX10_bondOf_0 rfl ?_
  refine g_iload_n C0 dX10_bondOf_1 rfl ?_
  refine g_invV1 C0 dX10_bondOf_2 CX10_166 rfl rfl ⟨by decide, by decide, by decide, by decide⟩ (Nat.le_of_ble_eq_true rfl) ?_
  refine m_noN ?_
  refine Aft_v (WM_len2 _ _) ?_
  by_cases b2 : noN n
  · simp only [if_pos b2]
    refine g_if_eq (tgt := 12) C0 dX10_bondOf_5 (by decide) (fun z => (by revert z; decide +kernel : False).elim) (fun _ => ?_)
    refine g_iconst (v := 0) C0 dX10_bondOf_8 (by decide) ?_
    refine g_goto (tgt := 18) C0 dX10_bondOf_9 (by decide) ?_
    refine g_iret C0 rfl dX10_bondOf_18 (by decide) (by decide) ?_
    simp only [mOfN, b2, if_true, if_false, eq_self] at hK
    exact hK
  simp only [if_neg b2]
  refine g_if_eq (tgt := 12) C0 dX10_bondOf_5 (by decide) (fun _ => ?_) (fun z => (by revert z; decide +kernel : False).elim)
  refine g_aload_n C0 dX10_bondOf_12 rfl ?_
  refine g_getfield C0 dX10_bondOf_13 FX10_40 rfl rfl ?_
  refine g_iload_n C0 dX10_bondOf_16 rfl ?_
  refine g_iaload C0 dX10_bondOf_17 rfl (inN b2) ?_
  refine g_iret C0 rfl dX10_bondOf_18 (by decide) (by decide) ?_
  simp only [mOfN, b2, if_true, if_false, eq_self] at hK
  exact hK
set_option maxRecDepth 100000 in
set_option maxHeartbeats 4000000 in
theorem r_coins {q : XS} {K : AO → AW → Prop} {n : Int32} (hK : K (mOfC q 4 n).1 (WM (mOfC q 4 n).2)) : Snd MX10_coins [.ref 0, .int n] (WM q) K := by
  refine Snd.of (by decide +kernel) (Nat.le_of_ble_eq_true rfl) rfl rfl ?_
  intro X D dA ad C0
  show Gd X _ MX10_coins 0 [some (.ref 0), some (.int n)] [] _ 0 0
  refine g_aload_n C0 dX10_coins_0 rfl ?_
  refine g_iload_n C0 dX10_coins_1 rfl ?_
  refine g_invV1 C0 dX10_coins_2 CX10_178 rfl rfl ⟨by decide, by decide, by decide, by decide⟩ (Nat.le_of_ble_eq_true rfl) ?_
  refine m_noC ?_
  refine Aft_v (WM_len2 _ _) ?_
  by_cases b2 : noC n
  · simp only [if_pos b2]
    refine g_if_eq (tgt := 12) C0 dX10_coins_5 (by decide) (fun z => (by revert z; decide +kernel : False).elim) (fun _ => ?_)
    refine g_iconst (v := 0) C0 dX10_coins_8 (by decide) ?_
    refine g_goto (tgt := 18) C0 dX10_coins_9 (by decide) ?_
    refine g_iret C0 rfl dX10_coins_18 (by decide) (by decide) ?_
    simp only [mOfC, b2, if_true, if_false, eq_self] at hK
    exact hK
  simp only [if_neg b2]
  refine g_if_eq (tgt := 12) C0 dX10_coins_5 (by decide) (fun _ => ?_) (fun z => (by revert z; decide +kernel : False).elim)
  refine g_aload_n C0 dX10_coins_12 rfl ?_
  refine g_getfield C0 dX10_coins_13 FX10_22 rfl rfl ?_
  refine g_iload_n C0 dX10_coins_16 rfl ?_
  refine g_iaload C0 dX10_coins_17 rfl (inC b2) ?_
  refine g_iret C0 rfl dX10_coins_18 (by decide) (by decide) ?_
  simp only [mOfC, b2, if_true, if_false, eq_self] at hK
  exact hK
set_option maxRecDepth 100000 in
set_option maxHeartbeats 4000000 in
theorem r_earned {q : XS} {K : AO → AW → Prop} {n : Int32} (hK : K (mOfC q 5 n).1 (WM (mOfC q 5 n).2)) : Snd MX10_earned [.ref 0, .int n] (WM q) K := by
  refine Snd.of (by decide +kernel) (Nat.le_of_ble_eq_true rfl) rfl rfl ?_
  intro X D dA ad C0
  show Gd X _ MX10_earned 0 [some (.ref 0), some (.int n)] [] _ 0 0
  refine g_aload_n C0 dX10_earned_0 rfl ?_
  refine g_iload_n C0 dX10_earned_1 rfl ?_
  refine g_invV1 C0 dX10_earned_2 CX10_178 rfl rfl ⟨by decide, by decide, by decide, by decide⟩ (Nat.le_of_ble_eq_true rfl) ?_
  refine m_noC ?_
  refine Aft_v (WM_len2 _ _) ?_
  by_cases b2 : noC n
  · simp only [if_pos b2]
    refine g_if_eq (tgt := 12) C0 dX10_earned_5 (by decide) (fun z => (by revert z; decide +kernel : False).elim) (fun _ => ?_)
    refine g_iconst (v := 0) C0 dX10_earned_8 (by decide) ?_
    refine g_goto (tgt := 18) C0 dX10_earned_9 (by decide) ?_
    refine g_iret C0 rfl dX10_earned_18 (by decide) (by decide) ?_
    simp only [mOfC, b2, if_true, if_false, eq_self] at hK
    exact hK
  simp only [if_neg b2]
  refine g_if_eq (tgt := 12) C0 dX10_earned_5 (by decide) (fun _ => ?_) (fun z => (by revert z; decide +kernel : False).elim)
  refine g_aload_n C0 dX10_earned_12 rfl ?_
  refine g_getfield C0 dX10_earned_13 FX10_25 rfl rfl ?_
  refine g_iload_n C0 dX10_earned_16 rfl ?_
  refine g_iaload C0 dX10_earned_17 rfl (inC b2) ?_
  refine g_iret C0 rfl dX10_earned_18 (by decide) (by decide) ?_
  simp only [mOfC, b2, if_true, if_false, eq_self] at hK
  exact hK
set_option maxRecDepth 100000 in
set_option maxHeartbeats 4000000 in
theorem r_losses {q : XS} {K : AO → AW → Prop} {n : Int32} (hK : K (mOfC q 6 n).1 (WM (mOfC q 6 n).2)) : Snd MX10_losses [.ref 0, .int n] (WM q) K := by
  refine Snd.of (by decide +kernel) (Nat.le_of_ble_eq_true rfl) rfl rfl ?_
  intro X D dA ad C0
  show Gd X _ MX10_losses 0 [some (.ref 0), some (.int n)] [] _ 0 0
  refine g_aload_n C0 dX10_losses_0 rfl ?_
  refine g_iload_n C0 dX10_losses_1 rfl ?_
  refine g_invV1 C0 dX10_losses_2 CX10_178 rfl rfl ⟨by decide, by decide, by decide, by decide⟩ (Nat.le_of_ble_eq_true rfl) ?_
  refine m_noC ?_
  refine Aft_v (WM_len2 _ _) ?_
  by_cases b2 : noC n
  · simp only [if_pos b2]
    refine g_if_eq (tgt := 12) C0 dX10_losses_5 (by decide) (fun z => (by revert z; decide +kernel : False).elim) (fun _ => ?_)
    refine g_iconst (v := 0) C0 dX10_losses_8 (by decide) ?_
    refine g_goto (tgt := 18) C0 dX10_losses_9 (by decide) ?_
    refine g_iret C0 rfl dX10_losses_18 (by decide) (by decide) ?_
    simp only [mOfC, b2, if_true, if_false, eq_self] at hK
    exact hK
  simp only [if_neg b2]
  refine g_if_eq (tgt := 12) C0 dX10_losses_5 (by decide) (fun _ => ?_) (fun z => (by revert z; decide +kernel : False).elim)
  refine g_aload_n C0 dX10_losses_12 rfl ?_
  refine g_getfield C0 dX10_losses_13 FX10_28 rfl rfl ?_
  refine g_iload_n C0 dX10_losses_16 rfl ?_
  refine g_iaload C0 dX10_losses_17 rfl (inC b2) ?_
  refine g_iret C0 rfl dX10_losses_18 (by decide) (by decide) ?_
  simp only [mOfC, b2, if_true, if_false, eq_self] at hK
  exact hK
set_option maxRecDepth 100000 in
set_option maxHeartbeats 4000000 in
theorem r_state {q : XS} {K : AO → AW → Prop} {n : Int32} (h5 : q.2 5 ≤ 60) (hK : K (mOfL q 18 n).1 (WM (mOfL q 18 n).2)) : Snd MX10_state [.ref 0, .int n] (WM q) K := by
  refine Snd.of (by decide +kernel) (Nat.le_of_ble_eq_true rfl) rfl rfl ?_
  intro X D dA ad C0
  show Gd X _ MX10_state 0 [some (.ref 0), some (.int n)] [] _ 0 0
  refine g_aload_n C0 dX10_state_0 rfl ?_
  refine g_iload_n C0 dX10_state_1 rfl ?_
  refine g_invV1 C0 dX10_state_2 CX10_172 rfl rfl ⟨by decide, by decide, by decide, by decide⟩ (Nat.le_of_ble_eq_true rfl) ?_
  refine m_noL (by omega) ?_
  refine Aft_v (WM_len2 _ _) ?_
  by_cases b2 : noL (q.2 5) n
  · simp only [if_pos b2]
    refine g_if_eq (tgt := 12) C0 dX10_state_5 (by decide) (fun z => (by revert z; decide +kernel : False).elim) (fun _ => ?_)
    refine g_iconst (v := 0) C0 dX10_state_8 (by decide) ?_
    refine g_goto (tgt := 18) C0 dX10_state_9 (by decide) ?_
    refine g_iret C0 rfl dX10_state_18 (by decide) (by decide) ?_
    simp only [mOfL, b2, if_true, if_false, eq_self] at hK
    exact hK
  simp only [if_neg b2]
  refine g_if_eq (tgt := 12) C0 dX10_state_5 (by decide) (fun _ => ?_) (fun z => (by revert z; decide +kernel : False).elim)
  refine g_aload_n C0 dX10_state_12 rfl ?_
  refine g_getfield C0 dX10_state_13 FX10_65 rfl rfl ?_
  refine g_iload_n C0 dX10_state_16 rfl ?_
  refine g_iaload C0 dX10_state_17 rfl (inL h5 b2) ?_
  refine g_iret C0 rfl dX10_state_18 (by decide) (by decide) ?_
  simp only [mOfL, b2, if_true, if_false, eq_self] at hK
  exact hK
set_option maxRecDepth 100000 in
set_option maxHeartbeats 4000000 in
theorem r_trunks {q : XS} {K : AO → AW → Prop} {n : Int32} (h5 : q.2 5 ≤ 60) (hK : K (mOfL q 19 n).1 (WM (mOfL q 19 n).2)) : Snd MX10_trunks [.ref 0, .int n] (WM q) K := by
  refine Snd.of (by decide +kernel) (Nat.le_of_ble_eq_true rfl) rfl rfl ?_
  intro X D dA ad C0
  show Gd X _ MX10_trunks 0 [some (.ref 0), some (.int n)] [] _ 0 0
  refine g_aload_n C0 dX10_trunks_0 rfl ?_
  refine g_iload_n C0 dX10_trunks_1 rfl ?_
  refine g_invV1 C0 dX10_trunks_2 CX10_172 rfl rfl ⟨by decide, by decide, by decide, by decide⟩ (Nat.le_of_ble_eq_true rfl) ?_
  refine m_noL (by omega) ?_
  refine Aft_v (WM_len2 _ _) ?_
  by_cases b2 : noL (q.2 5) n
  · simp only [if_pos b2]
    refine g_if_eq (tgt := 12) C0 dX10_trunks_5 (by decide) (fun z => (by revert z; decide +kernel : False).elim) (fun _ => ?_)
    refine g_iconst (v := 0) C0 dX10_trunks_8 (by decide) ?_
    refine g_goto (tgt := 18) C0 dX10_trunks_9 (by decide) ?_
    refine g_iret C0 rfl dX10_trunks_18 (by decide) (by decide) ?_
    simp only [mOfL, b2, if_true, if_false, eq_self] at hK
    exact hK
  simp only [if_neg b2]
  refine g_if_eq (tgt := 12) C0 dX10_trunks_5 (by decide) (fun _ => ?_) (fun z => (by revert z; decide +kernel : False).elim)
  refine g_aload_n C0 dX10_trunks_12 rfl ?_
  refine g_getfield C0 dX10_trunks_13 FX10_68 rfl rfl ?_
  refine g_iload_n C0 dX10_trunks_16 rfl ?_
  refine g_iaload C0 dX10_trunks_17 rfl (inL h5 b2) ?_
  refine g_iret C0 rfl dX10_trunks_18 (by decide) (by decide) ?_
  simp only [mOfL, b2, if_true, if_false, eq_self] at hK
  exact hK
set_option maxRecDepth 100000 in
set_option maxHeartbeats 4000000 in
theorem r_seconds {q : XS} {K : AO → AW → Prop} {n : Int32} (h5 : q.2 5 ≤ 60) (hK : K (mOfL q 21 n).1 (WM (mOfL q 21 n).2)) : Snd MX10_seconds [.ref 0, .int n] (WM q) K := by
  refine Snd.of (by decide +kernel) (Nat.le_of_ble_eq_true rfl) rfl rfl ?_
  intro X D dA ad C0
  show Gd X _ MX10_seconds 0 [some (.ref 0), some (.int n)] [] _ 0 0
  refine g_aload_n C0 dX10_seconds_0 rfl ?_
  refine g_iload_n C0 dX10_seconds_1 rfl ?_
  refine g_invV1 C0 dX10_seconds_2 CX10_172 rfl rfl ⟨by decide, by decide, by decide, by decide⟩ (Nat.le_of_ble_eq_true rfl) ?_
  refine m_noL (by omega) ?_
  refine Aft_v (WM_len2 _ _) ?_
  by_cases b2 : noL (q.2 5) n
  · simp only [if_pos b2]
    refine g_if_eq (tgt := 12) C0 dX10_seconds_5 (by decide) (fun z => (by revert z; decide +kernel : False).elim) (fun _ => ?_)
    refine g_iconst (v := 0) C0 dX10_seconds_8 (by decide) ?_
    refine g_goto (tgt := 18) C0 dX10_seconds_9 (by decide) ?_
    refine g_iret C0 rfl dX10_seconds_18 (by decide) (by decide) ?_
    simp only [mOfL, b2, if_true, if_false, eq_self] at hK
    exact hK
  simp only [if_neg b2]
  refine g_if_eq (tgt := 12) C0 dX10_seconds_5 (by decide) (fun _ => ?_) (fun z => (by revert z; decide +kernel : False).elim)
  refine g_aload_n C0 dX10_seconds_12 rfl ?_
  refine g_getfield C0 dX10_seconds_13 FX10_74 rfl rfl ?_
  refine g_iload_n C0 dX10_seconds_16 rfl ?_
  refine g_iaload C0 dX10_seconds_17 rfl (inL h5 b2) ?_
  refine g_iret C0 rfl dX10_seconds_18 (by decide) (by decide) ?_
  simp only [mOfL, b2, if_true, if_false, eq_self] at hK
  exact hK
set_option maxRecDepth 100000 in
set_option maxHeartbeats 4000000 in
theorem r_charged {q : XS} {K : AO → AW → Prop} {n : Int32} (h5 : q.2 5 ≤ 60) (hK : K (mOfL q 22 n).1 (WM (mOfL q 22 n).2)) : Snd MX10_charged [.ref 0, .int n] (WM q) K := by
  refine Snd.of (by decide +kernel) (Nat.le_of_ble_eq_true rfl) rfl rfl ?_
  intro X D dA ad C0
  show Gd X _ MX10_charged 0 [some (.ref 0), some (.int n)] [] _ 0 0
  refine g_aload_n C0 dX10_charged_0 rfl ?_
  refine g_iload_n C0 dX10_charged_1 rfl ?_
  refine g_invV1 C0 dX10_charged_2 CX10_172 rfl rfl ⟨by decide, by decide, by decide, by decide⟩ (Nat.le_of_ble_eq_true rfl) ?_
  refine m_noL (by omega) ?_
  refine Aft_v (WM_len2 _ _) ?_
  by_cases b2 : noL (q.2 5) n
  · simp only [if_pos b2]
    refine g_if_eq (tgt := 12) C0 dX10_charged_5 (by decide) (fun z => (by revert z; decide +kernel : False).elim) (fun _ => ?_)
    refine g_iconst (v := 0) C0 dX10_charged_8 (by decide) ?_
    refine g_goto (tgt := 18) C0 dX10_charged_9 (by decide) ?_
    refine g_iret C0 rfl dX10_charged_18 (by decide) (by decide) ?_
    simp only [mOfL, b2, if_true, if_false, eq_self] at hK
    exact hK
  simp only [if_neg b2]
  refine g_if_eq (tgt := 12) C0 dX10_charged_5 (by decide) (fun _ => ?_) (fun z => (by revert z; decide +kernel : False).elim)
  refine g_aload_n C0 dX10_charged_12 rfl ?_
  refine g_getfield C0 dX10_charged_13 FX10_77 rfl rfl ?_
  refine g_iload_n C0 dX10_charged_16 rfl ?_
  refine g_iaload C0 dX10_charged_17 rfl (inL h5 b2) ?_
  refine g_iret C0 rfl dX10_charged_18 (by decide) (by decide) ?_
  simp only [mOfL, b2, if_true, if_false, eq_self] at hK
  exact hK
set_option maxRecDepth 100000 in
set_option maxHeartbeats 4000000 in
theorem r_spent {q : XS} {K : AO → AW → Prop} {p : Int32} (hK : K (mSpent q p).1 (WM (mSpent q p).2)) : Snd MX10_spent [.ref 0, .int p] (WM q) K := by
  refine Snd.of (by decide +kernel) (Nat.le_of_ble_eq_true rfl) rfl rfl ?_
  intro X D dA ad C0
  show Gd X _ MX10_spent 0 [some (.ref 0), some (.int p)] [] _ 0 0
  refine g_aload_n C0 dX10_spent_0 rfl ?_
  refine g_iload_n C0 dX10_spent_1 rfl ?_
  refine g_invS1 C0 dX10_spent_2 CX10_135 rfl ⟨by decide, by decide, by decide, by decide⟩ (Nat.le_of_ble_eq_true rfl) ?_
  refine m_isP ?_
  refine Aft_v (WM_len2 _ _) ?_
  by_cases b2 : noP p
  · rw [if_pos b2]
    refine g_if_eq (tgt := 12) C0 dX10_spent_5 (by decide) (fun _ => ?_) (fun z => (by revert z; decide +kernel : False).elim)
    refine g_iconst (v := 1) C0 dX10_spent_12 (by decide) ?_
    refine g_invV1 C0 dX10_spent_13 CX10_101 rfl rfl ⟨by decide, by decide, by decide, by decide⟩ (Nat.le_of_ble_eq_true rfl) ?_
    refine m_refused (n := 1) (by decide) ?_
    refine Aft_v (WM_len2 _ _) ?_
    rw [if_neg (by decide)]
    refine g_if_eq (tgt := 23) C0 dX10_spent_16 (by decide) (fun z => (by revert z; decide +kernel : False).elim) (fun _ => ?_)
    refine g_iconst (v := 0) C0 dX10_spent_19 (by decide) ?_
    refine g_goto (tgt := 29) C0 dX10_spent_20 (by decide) ?_
    refine g_iret C0 rfl dX10_spent_29 (by decide) (by decide) ?_
    simp only [mSpent, b2, if_true, if_false, eq_self] at hK
    exact hK
  rw [if_neg b2]
  refine g_if_eq (tgt := 12) C0 dX10_spent_5 (by decide) (fun z => (by revert z; decide +kernel : False).elim) (fun _ => ?_)
  refine g_iconst (v := 0) C0 dX10_spent_8 (by decide) ?_
  refine g_goto (tgt := 13) C0 dX10_spent_9 (by decide) ?_
  refine g_invV1 C0 dX10_spent_13 CX10_101 rfl rfl ⟨by decide, by decide, by decide, by decide⟩ (Nat.le_of_ble_eq_true rfl) ?_
  refine m_refused (n := 0) (by decide) ?_
  refine Aft_v (WM_len2 _ _) ?_
  rw [if_pos rfl]
  refine g_if_eq (tgt := 23) C0 dX10_spent_16 (by decide) (fun _ => ?_) (fun z => (by revert z; decide +kernel : False).elim)
  refine g_aload_n C0 dX10_spent_23 rfl ?_
  refine g_getfield C0 dX10_spent_24 FX10_31 rfl rfl ?_
  refine g_iload_n C0 dX10_spent_27 rfl ?_
  refine g_iaload C0 dX10_spent_28 rfl (inP b2) ?_
  refine g_iret C0 rfl dX10_spent_29 (by decide) (by decide) ?_
  simp only [mSpent, b2, if_true, if_false, eq_self] at hK
  exact hK
set_option maxRecDepth 100000 in
set_option maxHeartbeats 4000000 in
theorem r_debtAnew {q : XS} {K : AO → AW → Prop} {n : Int32} (hK : K (mOfN q 9 n).1 (WM (mOfN q 9 n).2)) : Snd MX10_debtAnew [.ref 0, .int n] (WM q) K := by
  refine Snd.of (by decide +kernel) (Nat.le_of_ble_eq_true rfl) rfl rfl ?_
  intro X D dA ad C0
  show Gd X _ MX10_debtAnew 0 [some (.ref 0), some (.int n)] [] _ 0 0
  refine g_aload_n C0 dX10_debtAnew_0 rfl ?_
  refine g_iload_n C0 dX10_debtAnew_1 rfl ?_
  refine g_invV1 C0 dX10_debtAnew_2 CX10_169 rfl rfl ⟨by decide, by decide, by decide, by decide⟩ (Nat.le_of_ble_eq_true rfl) ?_
  by_cases b9 : noN n
  · refine r_debt ?_
    unfold mOfN
    simp only [if_pos b9]
    refine Aft_v (WM_len2 _ _) ?_
    refine g_iret C0 rfl dX10_debtAnew_5 (by decide) (by decide) ?_
    unfold mOfN at hK
    simp only [if_pos b9] at hK
    exact hK
  refine r_debt ?_
  unfold mOfN
  simp only [if_neg b9]
  refine Aft_v (WM_len2 _ _) ?_
  refine g_iret C0 rfl dX10_debtAnew_5 (by decide) (by decide) ?_
  unfold mOfN at hK
  simp only [if_neg b9] at hK
  exact hK
set_option maxRecDepth 100000 in
set_option maxHeartbeats 4000000 in
theorem r_chargedAnew {q : XS} {K : AO → AW → Prop} {n : Int32} (h5 : q.2 5 ≤ 60) (hK : K (mOfL q 22 n).1 (WM (mOfL q 22 n).2)) : Snd MX10_chargedAnew [.ref 0, .int n] (WM q) K := by
  refine Snd.of (by decide +kernel) (Nat.le_of_ble_eq_true rfl) rfl rfl ?_
  intro X D dA ad C0
  show Gd X _ MX10_chargedAnew 0 [some (.ref 0), some (.int n)] [] _ 0 0
  refine g_aload_n C0 dX10_chargedAnew_0 rfl ?_
  refine g_iload_n C0 dX10_chargedAnew_1 rfl ?_
  refine g_invV1 C0 dX10_chargedAnew_2 CX10_175 rfl rfl ⟨by decide, by decide, by decide, by decide⟩ (Nat.le_of_ble_eq_true rfl) ?_
  by_cases b9 : noL (q.2 5) n
  · refine r_charged h5 ?_
    unfold mOfL
    simp only [if_pos b9]
    refine Aft_v (WM_len2 _ _) ?_
    refine g_iret C0 rfl dX10_chargedAnew_5 (by decide) (by decide) ?_
    unfold mOfL at hK
    simp only [if_pos b9] at hK
    exact hK
  refine r_charged h5 ?_
  unfold mOfL
  simp only [if_neg b9]
  refine Aft_v (WM_len2 _ _) ?_
  refine g_iret C0 rfl dX10_chargedAnew_5 (by decide) (by decide) ?_
  unfold mOfL at hK
  simp only [if_neg b9] at hK
  exact hK
set_option maxRecDepth 100000 in
set_option maxHeartbeats 4000000 in
theorem r_earnedAnew {q : XS} {K : AO → AW → Prop} {n : Int32} (hK : K (mOfC q 5 n).1 (WM (mOfC q 5 n).2)) : Snd MX10_earnedAnew [.ref 0, .int n] (WM q) K := by
  refine Snd.of (by decide +kernel) (Nat.le_of_ble_eq_true rfl) rfl rfl ?_
  intro X D dA ad C0
  show Gd X _ MX10_earnedAnew 0 [some (.ref 0), some (.int n)] [] _ 0 0
  refine g_aload_n C0 dX10_earnedAnew_0 rfl ?_
  refine g_iload_n C0 dX10_earnedAnew_1 rfl ?_
  refine g_invV1 C0 dX10_earnedAnew_2 CX10_181 rfl rfl ⟨by decide, by decide, by decide, by decide⟩ (Nat.le_of_ble_eq_true rfl) ?_
  by_cases b9 : noC n
  · refine r_earned ?_
    unfold mOfC
    simp only [if_pos b9]
    refine Aft_v (WM_len2 _ _) ?_
    refine g_iret C0 rfl dX10_earnedAnew_5 (by decide) (by decide) ?_
    unfold mOfC at hK
    simp only [if_pos b9] at hK
    exact hK
  refine r_earned ?_
  unfold mOfC
  simp only [if_neg b9]
  refine Aft_v (WM_len2 _ _) ?_
  refine g_iret C0 rfl dX10_earnedAnew_5 (by decide) (by decide) ?_
  unfold mOfC at hK
  simp only [if_neg b9] at hK
  exact hK
set_option maxRecDepth 100000 in
set_option maxHeartbeats 4000000 in
theorem r_spentAnew {q : XS} {K : AO → AW → Prop} {n : Int32} (hK : K (mSpent q n).1 (WM (mSpent q n).2)) : Snd MX10_spentAnew [.ref 0, .int n] (WM q) K := by
  refine Snd.of (by decide +kernel) (Nat.le_of_ble_eq_true rfl) rfl rfl ?_
  intro X D dA ad C0
  show Gd X _ MX10_spentAnew 0 [some (.ref 0), some (.int n)] [] _ 0 0
  refine g_aload_n C0 dX10_spentAnew_0 rfl ?_
  refine g_iload_n C0 dX10_spentAnew_1 rfl ?_
  refine g_invV1 C0 dX10_spentAnew_2 CX10_183 rfl rfl ⟨by decide, by decide, by decide, by decide⟩ (Nat.le_of_ble_eq_true rfl) ?_
  by_cases b9 : noP n
  · refine r_spent ?_
    unfold mSpent
    simp only [if_pos b9]
    refine Aft_v (WM_len2 _ _) ?_
    refine g_iret C0 rfl dX10_spentAnew_5 (by decide) (by decide) ?_
    unfold mSpent at hK
    simp only [if_pos b9] at hK
    exact hK
  refine r_spent ?_
  unfold mSpent
  simp only [if_neg b9]
  refine Aft_v (WM_len2 _ _) ?_
  refine g_iret C0 rfl dX10_spentAnew_5 (by decide) (by decide) ?_
  unfold mSpent at hK
  simp only [if_neg b9] at hK
  exact hK
set_option maxRecDepth 100000 in
set_option maxHeartbeats 4000000 in
theorem r_second {q : XS} {K : AO → AW → Prop} (hK : K (mSecond q).1 (WM (mSecond q).2)) : Snd MX10_second [.ref 0] (WM q) K := by
  refine Snd.of (by decide +kernel) (Nat.le_of_ble_eq_true rfl) rfl rfl ?_
  intro X D dA ad C0
  show Gd X _ MX10_second 0 [some (.ref 0)] [] _ 0 0
  refine g_aload_n C0 dX10_second_0 rfl ?_
  refine g_iconst (v := 0) C0 dX10_second_1 (by decide) ?_
  refine g_putfield C0 dX10_second_2 FX10_83 rfl (Nat.le_of_ble_eq_true rfl) (fun _ => ⟨rfl, rfl⟩) ?_
  refine g_w (WM_put0 _ 0) ?_
  refine g_aload_n C0 dX10_second_5 rfl ?_
  refine g_getfield C0 dX10_second_6 FX10_125 rfl rfl ?_
  refine g_iret C0 rfl dX10_second_9 (by decide) (by decide) ?_
  exact hK
set_option maxRecDepth 100000 in
set_option maxHeartbeats 4000000 in
theorem r_calls {q : XS} {K : AO → AW → Prop} (hK : K (mCalls q).1 (WM (mCalls q).2)) : Snd MX10_calls [.ref 0] (WM q) K := by
  refine Snd.of (by decide +kernel) (Nat.le_of_ble_eq_true rfl) rfl rfl ?_
  intro X D dA ad C0
  show Gd X _ MX10_calls 0 [some (.ref 0)] [] _ 0 0
  refine g_aload_n C0 dX10_calls_0 rfl ?_
  refine g_iconst (v := 0) C0 dX10_calls_1 (by decide) ?_
  refine g_putfield C0 dX10_calls_2 FX10_83 rfl (Nat.le_of_ble_eq_true rfl) (fun _ => ⟨rfl, rfl⟩) ?_
  refine g_w (WM_put0 _ 0) ?_
  refine g_aload_n C0 dX10_calls_5 rfl ?_
  refine g_getfield C0 dX10_calls_6 FX10_91 rfl rfl ?_
  refine g_iret C0 rfl dX10_calls_9 (by decide) (by decide) ?_
  exact hK
set_option maxRecDepth 100000 in
set_option maxHeartbeats 4000000 in
theorem r_lost {q : XS} {K : AO → AW → Prop} (hK : K (mLost q).1 (WM (mLost q).2)) : Snd MX10_lost [.ref 0] (WM q) K := by
  refine Snd.of (by decide +kernel) (Nat.le_of_ble_eq_true rfl) rfl rfl ?_
  intro X D dA ad C0
  show Gd X _ MX10_lost 0 [some (.ref 0)] [] _ 0 0
  refine g_aload_n C0 dX10_lost_0 rfl ?_
  refine g_iconst (v := 0) C0 dX10_lost_1 (by decide) ?_
  refine g_putfield C0 dX10_lost_2 FX10_83 rfl (Nat.le_of_ble_eq_true rfl) (fun _ => ⟨rfl, rfl⟩) ?_
  refine g_w (WM_put0 _ 0) ?_
  refine g_aload_n C0 dX10_lost_5 rfl ?_
  refine g_getfield C0 dX10_lost_6 FX10_116 rfl rfl ?_
  refine g_iret C0 rfl dX10_lost_9 (by decide) (by decide) ?_
  exact hK
set_option maxRecDepth 100000 in
set_option maxHeartbeats 4000000 in
theorem r_isDear {q : XS} {K : AO → AW → Prop} (hK : K (mIsDear q).1 (WM (mIsDear q).2)) : Snd MX10_isDear [.ref 0] (WM q) K := by
  refine Snd.of (by decide +kernel) (Nat.le_of_ble_eq_true rfl) rfl rfl ?_
  intro X D dA ad C0
  show Gd X _ MX10_isDear 0 [some (.ref 0)] [] _ 0 0
  refine g_aload_n C0 dX10_isDear_0 rfl ?_
  refine g_iconst (v := 0) C0 dX10_isDear_1 (by decide) ?_
  refine g_putfield C0 dX10_isDear_2 FX10_83 rfl (Nat.le_of_ble_eq_true rfl) (fun _ => ⟨rfl, rfl⟩) ?_
  refine g_w (WM_put0 _ 0) ?_
  refine g_aload_n C0 dX10_isDear_5 rfl ?_
  refine g_getfield C0 dX10_isDear_6 FX10_125 rfl rfl ?_
  refine g_invS1 C0 dX10_isDear_9 CX10_163 rfl ⟨by decide, by decide, by decide, by decide⟩ (Nat.le_of_ble_eq_true rfl) ?_
  refine m_dear ?_
  refine Aft_v (WM_len2 _ _) ?_
  refine g_zret C0 rfl (by split <;> rfl) dX10_isDear_12 (by decide) (by decide) ?_
  exact hK
set_option maxRecDepth 100000 in
set_option maxHeartbeats 4000000 in
theorem r_carrierOf {q : XS} {K : AO → AW → Prop} {n : Int32} (h4 : q.2 4 ≤ 60) (hK : K (mCarrierOf q n).1 (WM (mCarrierOf q n).2)) : Snd MX10_carrierOf [.ref 0, .int n] (WM q) K := by
  refine Snd.of (by decide +kernel) (Nat.le_of_ble_eq_true rfl) rfl rfl ?_
  intro X D dA ad C0
  show Gd X _ MX10_carrierOf 0 [some (.ref 0), some (.int n)] [] _ 0 0
  refine g_aload_n C0 dX10_carrierOf_0 rfl ?_
  refine g_iload_n C0 dX10_carrierOf_1 rfl ?_
  refine g_invV1 C0 dX10_carrierOf_2 CX10_166 rfl rfl ⟨by decide, by decide, by decide, by decide⟩ (Nat.le_of_ble_eq_true rfl) ?_
  refine m_noN ?_
  refine Aft_v (WM_len2 _ _) ?_
  by_cases b2 : noN n
  · simp only [if_pos b2]
    refine g_if_eq (tgt := 12) C0 dX10_carrierOf_5 (by decide) (fun z => (by revert z; decide +kernel : False).elim) (fun _ => ?_)
    refine g_iconst (v := 0) C0 dX10_carrierOf_8 (by decide) ?_
    refine g_goto (tgt := 17) C0 dX10_carrierOf_9 (by decide) ?_
    refine g_iret C0 rfl dX10_carrierOf_17 (by decide) (by decide) ?_
    simp only [mCarrierOf, b2, if_true, if_false, eq_self] at hK
    exact hK
  simp only [if_neg b2]
  refine g_if_eq (tgt := 12) C0 dX10_carrierOf_5 (by decide) (fun _ => ?_) (fun z => (by revert z; decide +kernel : False).elim)
  refine g_aload_n C0 dX10_carrierOf_12 rfl ?_
  refine g_iload_n C0 dX10_carrierOf_13 rfl ?_
  refine g_invV1 C0 dX10_carrierOf_14 CX10_131 rfl rfl ⟨by decide, by decide, by decide, by decide⟩ (Nat.le_of_ble_eq_true rfl) ?_
  refine m_placeOf (show q.2 4 ≤ 60 from h4) ?_
  refine Aft_v (WM_len2 _ _) ?_
  refine g_iret C0 rfl dX10_carrierOf_17 (by decide) (by decide) ?_
  simp only [mCarrierOf, b2, if_true, if_false, eq_self] at hK
  exact hK
set_option maxRecDepth 100000 in
set_option maxHeartbeats 4000000 in
theorem r_carrierThen {q : XS} {K : AO → AW → Prop} {n s : Int32} (h4 : q.2 4 ≤ 60) (hK : K (mCarrierThen q n s).1 (WM (mCarrierThen q n s).2)) : Snd MX10_carrierThen [.ref 0, .int n, .int s] (WM q) K := by
  refine Snd.of (by decide +kernel) (Nat.le_of_ble_eq_true rfl) rfl rfl ?_
  intro X D dA ad C0
  show Gd X _ MX10_carrierThen 0 [some (.ref 0), some (.int n), some (.int s)] [] _ 0 0
  refine g_aload_n C0 dX10_carrierThen_0 rfl ?_
  refine g_iload_n C0 dX10_carrierThen_1 rfl ?_
  refine g_invS1 C0 dX10_carrierThen_2 CX10_128 rfl ⟨by decide, by decide, by decide, by decide⟩ (Nat.le_of_ble_eq_true rfl) ?_
  refine m_isN ?_
  refine Aft_v (WM_len2 _ _) ?_
  by_cases b2 : noN n
  · rw [if_pos b2]
    refine g_if_ne (tgt := 12) C0 dX10_carrierThen_5 (by decide) (fun z => (by revert z; decide +kernel : False).elim) (fun _ => ?_)
    refine g_iconst (v := 1) C0 dX10_carrierThen_8 (by decide) ?_
    refine g_goto (tgt := 29) C0 dX10_carrierThen_9 (by decide) ?_
    refine g_invV1 C0 dX10_carrierThen_29 CX10_101 rfl rfl ⟨by decide, by decide, by decide, by decide⟩ (Nat.le_of_ble_eq_true rfl) ?_
    refine m_refused (n := 1) (by decide) ?_
    refine Aft_v (WM_len2 _ _) ?_
    rw [if_neg (by decide)]
    refine g_if_eq (tgt := 39) C0 dX10_carrierThen_32 (by decide) (fun z => (by revert z; decide +kernel : False).elim) (fun _ => ?_)
    refine g_iconst (v := 0) C0 dX10_carrierThen_35 (by decide) ?_
    refine g_goto (tgt := 45) C0 dX10_carrierThen_36 (by decide) ?_
    refine g_iret C0 rfl dX10_carrierThen_45 (by decide) (by decide) ?_
    simp only [mCarrierThen, b2, if_true, if_false, eq_self] at hK
    exact hK
  rw [if_neg b2]
  refine g_if_ne (tgt := 12) C0 dX10_carrierThen_5 (by decide) (fun _ => ?_) (fun z => (by revert z; decide +kernel : False).elim)
  refine g_iload_n C0 dX10_carrierThen_12 rfl ?_
  refine g_iconst (v := 0) C0 dX10_carrierThen_13 (by decide) ?_
  refine g_aload_n C0 dX10_carrierThen_14 rfl ?_
  refine g_getfield C0 dX10_carrierThen_15 FX10_125 rfl rfl ?_
  refine g_invS3 C0 dX10_carrierThen_18 CX10_87 rfl ⟨by decide, by decide, by decide, by decide⟩ (Nat.le_of_ble_eq_true rfl) ?_
  refine m_in ?_
  refine Aft_v (WM_len2 _ _) ?_
  by_cases b18 : noW s 0 (nI (q.2 1))
  · rw [if_pos b18]
    refine g_if_eq (tgt := 28) C0 dX10_carrierThen_21 (by decide) (fun _ => ?_) (fun z => (by revert z; decide +kernel : False).elim)
    refine g_iconst (v := 2) C0 dX10_carrierThen_28 (by decide) ?_
    refine g_invV1 C0 dX10_carrierThen_29 CX10_101 rfl rfl ⟨by decide, by decide, by decide, by decide⟩ (Nat.le_of_ble_eq_true rfl) ?_
    refine m_refused (n := 2) (by decide) ?_
    refine Aft_v (WM_len2 _ _) ?_
    rw [if_neg (by decide)]
    refine g_if_eq (tgt := 39) C0 dX10_carrierThen_32 (by decide) (fun z => (by revert z; decide +kernel : False).elim) (fun _ => ?_)
    refine g_iconst (v := 0) C0 dX10_carrierThen_35 (by decide) ?_
    refine g_goto (tgt := 45) C0 dX10_carrierThen_36 (by decide) ?_
    refine g_iret C0 rfl dX10_carrierThen_45 (by decide) (by decide) ?_
    simp only [mCarrierThen, b2, b18, if_true, if_false, eq_self] at hK
    exact hK
  rw [if_neg b18]
  refine g_if_eq (tgt := 28) C0 dX10_carrierThen_21 (by decide) (fun z => (by revert z; decide +kernel : False).elim) (fun _ => ?_)
  refine g_iconst (v := 0) C0 dX10_carrierThen_24 (by decide) ?_
  refine g_goto (tgt := 29) C0 dX10_carrierThen_25 (by decide) ?_
  refine g_invV1 C0 dX10_carrierThen_29 CX10_101 rfl rfl ⟨by decide, by decide, by decide, by decide⟩ (Nat.le_of_ble_eq_true rfl) ?_
  refine m_refused (n := 0) (by decide) ?_
  refine Aft_v (WM_len2 _ _) ?_
  rw [if_pos rfl]
  refine g_if_eq (tgt := 39) C0 dX10_carrierThen_32 (by decide) (fun _ => ?_) (fun z => (by revert z; decide +kernel : False).elim)
  refine g_aload_n C0 dX10_carrierThen_39 rfl ?_
  refine g_iload_n C0 dX10_carrierThen_40 rfl ?_
  refine g_iload_n C0 dX10_carrierThen_41 rfl ?_
  refine g_invV2 C0 dX10_carrierThen_42 CX10_122 rfl rfl ⟨by decide, by decide, by decide, by decide⟩ (Nat.le_of_ble_eq_true rfl) ?_
  refine m_placeIn (show q.2 4 ≤ 60 from h4) ?_
  refine Aft_v (WM_len2 _ _) ?_
  refine g_iret C0 rfl dX10_carrierThen_45 (by decide) (by decide) ?_
  simp only [mCarrierThen, b2, b18, if_true, if_false, eq_self] at hK
  exact hK
set_option maxRecDepth 100000 in
set_option maxHeartbeats 4000000 in
theorem r_believed {q : XS} {K : AO → AW → Prop} {c n : Int32} (h4 : q.2 4 ≤ 60) (hK : K (mBelieved q c n).1 (WM (mBelieved q c n).2)) : Snd MX10_believed [.ref 0, .int c, .int n] (WM q) K := by
  refine Snd.of (by decide +kernel) (Nat.le_of_ble_eq_true rfl) rfl rfl ?_
  intro X D dA ad C0
  show Gd X _ MX10_believed 0 [some (.ref 0), some (.int c), some (.int n)] [] _ 0 0
  refine g_aload_n C0 dX10_believed_0 rfl ?_
  refine g_iload_n C0 dX10_believed_1 rfl ?_
  refine g_invS1 C0 dX10_believed_2 CX10_94 rfl ⟨by decide, by decide, by decide, by decide⟩ (Nat.le_of_ble_eq_true rfl) ?_
  refine m_isC ?_
  refine Aft_v (WM_len2 _ _) ?_
  by_cases b2 : noC c
  · rw [if_pos b2]
    refine g_if_eq (tgt := 19) C0 dX10_believed_5 (by decide) (fun _ => ?_) (fun z => (by revert z; decide +kernel : False).elim)
    refine g_iconst (v := 1) C0 dX10_believed_19 (by decide) ?_
    refine g_invV1 C0 dX10_believed_20 CX10_101 rfl rfl ⟨by decide, by decide, by decide, by decide⟩ (Nat.le_of_ble_eq_true rfl) ?_
    refine m_refused (n := 1) (by decide) ?_
    refine Aft_v (WM_len2 _ _) ?_
    rw [if_neg (by decide)]
    refine g_if_eq (tgt := 30) C0 dX10_believed_23 (by decide) (fun z => (by revert z; decide +kernel : False).elim) (fun _ => ?_)
    refine g_iconst (v := 0) C0 dX10_believed_26 (by decide) ?_
    refine g_goto (tgt := 36) C0 dX10_believed_27 (by decide) ?_
    refine g_iret C0 rfl dX10_believed_36 (by decide) (by decide) ?_
    simp only [mBelieved, b2, if_true, if_false, eq_self] at hK
    exact hK
  rw [if_neg b2]
  refine g_if_eq (tgt := 19) C0 dX10_believed_5 (by decide) (fun z => (by revert z; decide +kernel : False).elim) (fun _ => ?_)
  refine g_iload_n C0 dX10_believed_8 rfl ?_
  refine g_invS1 C0 dX10_believed_9 CX10_128 rfl ⟨by decide, by decide, by decide, by decide⟩ (Nat.le_of_ble_eq_true rfl) ?_
  refine m_isN ?_
  refine Aft_v (WM_len2 _ _) ?_
  by_cases b9 : noN n
  · rw [if_pos b9]
    refine g_if_eq (tgt := 19) C0 dX10_believed_12 (by decide) (fun _ => ?_) (fun z => (by revert z; decide +kernel : False).elim)
    refine g_iconst (v := 1) C0 dX10_believed_19 (by decide) ?_
    refine g_invV1 C0 dX10_believed_20 CX10_101 rfl rfl ⟨by decide, by decide, by decide, by decide⟩ (Nat.le_of_ble_eq_true rfl) ?_
    refine m_refused (n := 1) (by decide) ?_
    refine Aft_v (WM_len2 _ _) ?_
    rw [if_neg (by decide)]
    refine g_if_eq (tgt := 30) C0 dX10_believed_23 (by decide) (fun z => (by revert z; decide +kernel : False).elim) (fun _ => ?_)
    refine g_iconst (v := 0) C0 dX10_believed_26 (by decide) ?_
    refine g_goto (tgt := 36) C0 dX10_believed_27 (by decide) ?_
    refine g_iret C0 rfl dX10_believed_36 (by decide) (by decide) ?_
    simp only [mBelieved, b2, b9, if_true, if_false, eq_self] at hK
    exact hK
  rw [if_neg b9]
  refine g_if_eq (tgt := 19) C0 dX10_believed_12 (by decide) (fun z => (by revert z; decide +kernel : False).elim) (fun _ => ?_)
  refine g_iconst (v := 0) C0 dX10_believed_15 (by decide) ?_
  refine g_goto (tgt := 20) C0 dX10_believed_16 (by decide) ?_
  refine g_invV1 C0 dX10_believed_20 CX10_101 rfl rfl ⟨by decide, by decide, by decide, by decide⟩ (Nat.le_of_ble_eq_true rfl) ?_
  refine m_refused (n := 0) (by decide) ?_
  refine Aft_v (WM_len2 _ _) ?_
  rw [if_pos rfl]
  refine g_if_eq (tgt := 30) C0 dX10_believed_23 (by decide) (fun _ => ?_) (fun z => (by revert z; decide +kernel : False).elim)
  refine g_aload_n C0 dX10_believed_30 rfl ?_
  refine g_iload_n C0 dX10_believed_31 rfl ?_
  refine g_iload_n C0 dX10_believed_32 rfl ?_
  refine g_invV2 C0 dX10_believed_33 CX10_147 rfl rfl ⟨by decide, by decide, by decide, by decide⟩ (Nat.le_of_ble_eq_true rfl) ?_
  refine m_bel (inC b2) (show q.2 4 ≤ 60 from h4) ?_
  refine Aft_v (WM_len2 _ _) ?_
  refine g_iret C0 rfl dX10_believed_36 (by decide) (by decide) ?_
  simp only [mBelieved, b2, b9, if_true, if_false, eq_self] at hK
  exact hK
set_option maxRecDepth 100000 in
set_option maxHeartbeats 4000000 in
theorem r_isBarred {q : XS} {K : AO → AW → Prop} {n : Int32} (hK : K (mIsBarred q n).1 (WM (mIsBarred q n).2)) : Snd MX10_isBarred [.ref 0, .int n] (WM q) K := by
  refine Snd.of (by decide +kernel) (Nat.le_of_ble_eq_true rfl) rfl rfl ?_
  intro X D dA ad C0
  show Gd X _ MX10_isBarred 0 [some (.ref 0), some (.int n)] [] _ 0 0
  refine g_aload_n C0 dX10_isBarred_0 rfl ?_
  refine g_iload_n C0 dX10_isBarred_1 rfl ?_
  refine g_invV1 C0 dX10_isBarred_2 CX10_166 rfl rfl ⟨by decide, by decide, by decide, by decide⟩ (Nat.le_of_ble_eq_true rfl) ?_
  refine m_noN ?_
  refine Aft_v (WM_len2 _ _) ?_
  by_cases b2 : noN n
  · simp only [if_pos b2]
    refine g_if_ne (tgt := 21) C0 dX10_isBarred_5 (by decide) (fun _ => ?_) (fun z => (by revert z; decide +kernel : False).elim)
    refine g_iconst (v := 0) C0 dX10_isBarred_21 (by decide) ?_
    refine g_zret C0 rfl rfl dX10_isBarred_22 (by decide) (by decide) ?_
    rw [mIsBarred, if_pos b2] at hK
    exact hK
  simp only [if_neg b2]
  refine g_if_ne (tgt := 21) C0 dX10_isBarred_5 (by decide) (fun z => (by revert z; decide +kernel : False).elim) (fun _ => ?_)
  refine g_aload_n C0 dX10_isBarred_8 rfl ?_
  refine g_getfield C0 dX10_isBarred_9 FX10_43 rfl rfl ?_
  refine g_iload_n C0 dX10_isBarred_12 rfl ?_
  refine g_zaload C0 dX10_isBarred_13 rfl (inN b2) ?_
  refine g_if_eq (tgt := 21) C0 dX10_isBarred_14 (by decide) (fun h14 => ?_) (fun h14 => ?_)
  · refine g_iconst (v := 0) C0 dX10_isBarred_21 (by decide) ?_
    refine g_zret C0 rfl rfl dX10_isBarred_22 (by decide) (by decide) ?_
    have h14c : mg q 11 n = 0 := h14
    rw [mIsBarred, if_neg b2, if_pos h14c] at hK
    exact hK
  refine g_iconst (v := 1) C0 dX10_isBarred_17 (by decide) ?_
  refine g_goto (tgt := 22) C0 dX10_isBarred_18 (by decide) ?_
  refine g_zret C0 rfl rfl dX10_isBarred_22 (by decide) (by decide) ?_
  have h14c : ¬ mg q 11 n = 0 := h14
  rw [mIsBarred, if_neg b2, if_neg h14c] at hK
  exact hK
set_option maxRecDepth 100000 in
set_option maxHeartbeats 4000000 in
theorem r_callOf {q : XS} {K : AO → AW → Prop} {n : Int32} (h5 : q.2 5 ≤ 60) (hK : K (mCallOf q n).1 (WM (mCallOf q n).2)) : Snd MX10_callOf [.ref 0, .int n] (WM q) K := by
  refine Snd.of (by decide +kernel) (Nat.le_of_ble_eq_true rfl) rfl rfl ?_
  intro X D dA ad C0
  show Gd X _ MX10_callOf 0 [some (.ref 0), some (.int n)] [] _ 0 0
  refine g_aload_n C0 dX10_callOf_0 rfl ?_
  refine g_iload_n C0 dX10_callOf_1 rfl ?_
  refine g_invV1 C0 dX10_callOf_2 CX10_166 rfl rfl ⟨by decide, by decide, by decide, by decide⟩ (Nat.le_of_ble_eq_true rfl) ?_
  refine m_noN ?_
  refine Aft_v (WM_len2 _ _) ?_
  by_cases b2 : noN n
  · simp only [if_pos b2]
    refine g_if_eq (tgt := 12) C0 dX10_callOf_5 (by decide) (fun z => (by revert z; decide +kernel : False).elim) (fun _ => ?_)
    refine g_iconst (v := 0) C0 dX10_callOf_8 (by decide) ?_
    refine g_goto (tgt := 17) C0 dX10_callOf_9 (by decide) ?_
    refine g_iret C0 rfl dX10_callOf_17 (by decide) (by decide) ?_
    simp only [mCallOf, b2, if_true, if_false, eq_self] at hK
    exact hK
  simp only [if_neg b2]
  refine g_if_eq (tgt := 12) C0 dX10_callOf_5 (by decide) (fun _ => ?_) (fun z => (by revert z; decide +kernel : False).elim)
  refine g_aload_n C0 dX10_callOf_12 rfl ?_
  refine g_iload_n C0 dX10_callOf_13 rfl ?_
  refine g_invV1 C0 dX10_callOf_14 CX10_154 rfl rfl ⟨by decide, by decide, by decide, by decide⟩ (Nat.le_of_ble_eq_true rfl) ?_
  refine m_with (show q.2 5 ≤ 60 from h5) ?_
  refine Aft_v (WM_len2 _ _) ?_
  refine g_iret C0 rfl dX10_callOf_17 (by decide) (by decide) ?_
  simp only [mCallOf, b2, if_true, if_false, eq_self] at hK
  exact hK
set_option maxRecDepth 100000 in
set_option maxHeartbeats 4000000 in
theorem r_free {q : XS} {K : AO → AW → Prop} {a b : Int32} (h5 : q.2 5 ≤ 60) {lam : Nat → Nat} (hl : ∀ k, k < 60 → q.1 19 k = nI (lam k) ∧ lam k ≤ 4) (hK : K (mFree q a b lam).1 (WM (mFree q a b lam).2)) : Snd MX10_free [.ref 0, .int a, .int b] (WM q) K := by
  refine Snd.of (by decide +kernel) (Nat.le_of_ble_eq_true rfl) rfl rfl ?_
  intro X D dA ad C0
  show Gd X _ MX10_free 0 [some (.ref 0), some (.int a), some (.int b), none] [] _ 0 0
  refine g_iload_n C0 dX10_free_0 rfl ?_
  refine g_invS1 C0 dX10_free_1 CX10_94 rfl ⟨by decide, by decide, by decide, by decide⟩ (Nat.le_of_ble_eq_true rfl) ?_
  refine m_isC ?_
  refine Aft_v (WM_len2 _ _) ?_
  by_cases b1 : noC a
  · rw [if_pos b1]
    refine g_if_eq (tgt := 18) C0 dX10_free_4 (by decide) (fun _ => ?_) (fun z => (by revert z; decide +kernel : False).elim)
    refine g_iconst (v := 0) C0 dX10_free_18 (by decide) ?_
    refine g_istore_n C0 dX10_free_19 (by decide) ?_
    refine g_aload_n C0 dX10_free_20 rfl ?_
    refine g_iload_n C0 dX10_free_21 rfl ?_
    refine g_if_eq (tgt := 29) C0 dX10_free_22 (by decide) (fun _ => ?_) (fun z => (by revert z; decide +kernel : False).elim)
    refine g_iconst (v := 1) C0 dX10_free_29 (by decide) ?_
    refine g_invV1 C0 dX10_free_30 CX10_101 rfl rfl ⟨by decide, by decide, by decide, by decide⟩ (Nat.le_of_ble_eq_true rfl) ?_
    refine m_refused (n := 1) (by decide) ?_
    refine Aft_v (WM_len2 _ _) ?_
    rw [if_neg (by decide)]
    refine g_if_ne (tgt := 41) C0 dX10_free_33 (by decide) (fun _ => ?_) (fun z => (by revert z; decide +kernel : False).elim)
    refine g_iconst (v := 0) C0 dX10_free_41 (by decide) ?_
    refine g_goto (tgt := 62) C0 dX10_free_42 (by decide) ?_
    refine g_iret C0 rfl dX10_free_62 (by decide) (by decide) ?_
    simp only [mFree, b1, if_true, if_false, eq_self] at hK
    exact hK
  rw [if_neg b1]
  refine g_if_eq (tgt := 18) C0 dX10_free_4 (by decide) (fun z => (by revert z; decide +kernel : False).elim) (fun _ => ?_)
  refine g_iload_n C0 dX10_free_7 rfl ?_
  refine g_invS1 C0 dX10_free_8 CX10_94 rfl ⟨by decide, by decide, by decide, by decide⟩ (Nat.le_of_ble_eq_true rfl) ?_
  refine m_isC ?_
  refine Aft_v (WM_len2 _ _) ?_
  by_cases b8 : noC b
  · rw [if_pos b8]
    refine g_if_eq (tgt := 18) C0 dX10_free_11 (by decide) (fun _ => ?_) (fun z => (by revert z; decide +kernel : False).elim)
    refine g_iconst (v := 0) C0 dX10_free_18 (by decide) ?_
    refine g_istore_n C0 dX10_free_19 (by decide) ?_
    refine g_aload_n C0 dX10_free_20 rfl ?_
    refine g_iload_n C0 dX10_free_21 rfl ?_
    refine g_if_eq (tgt := 29) C0 dX10_free_22 (by decide) (fun _ => ?_) (fun z => (by revert z; decide +kernel : False).elim)
    refine g_iconst (v := 1) C0 dX10_free_29 (by decide) ?_
    refine g_invV1 C0 dX10_free_30 CX10_101 rfl rfl ⟨by decide, by decide, by decide, by decide⟩ (Nat.le_of_ble_eq_true rfl) ?_
    refine m_refused (n := 1) (by decide) ?_
    refine Aft_v (WM_len2 _ _) ?_
    rw [if_neg (by decide)]
    refine g_if_ne (tgt := 41) C0 dX10_free_33 (by decide) (fun _ => ?_) (fun z => (by revert z; decide +kernel : False).elim)
    refine g_iconst (v := 0) C0 dX10_free_41 (by decide) ?_
    refine g_goto (tgt := 62) C0 dX10_free_42 (by decide) ?_
    refine g_iret C0 rfl dX10_free_62 (by decide) (by decide) ?_
    simp only [mFree, b1, b8, if_true, if_false, eq_self] at hK
    exact hK
  rw [if_neg b8]
  refine g_if_eq (tgt := 18) C0 dX10_free_11 (by decide) (fun z => (by revert z; decide +kernel : False).elim) (fun _ => ?_)
  refine g_iconst (v := 1) C0 dX10_free_14 (by decide) ?_
  refine g_goto (tgt := 19) C0 dX10_free_15 (by decide) ?_
  refine g_istore_n C0 dX10_free_19 (by decide) ?_
  refine g_aload_n C0 dX10_free_20 rfl ?_
  refine g_iload_n C0 dX10_free_21 rfl ?_
  refine g_if_eq (tgt := 29) C0 dX10_free_22 (by decide) (fun z => (by revert z; decide +kernel : False).elim) (fun _ => ?_)
  refine g_iconst (v := 0) C0 dX10_free_25 (by decide) ?_
  refine g_goto (tgt := 30) C0 dX10_free_26 (by decide) ?_
  refine g_invV1 C0 dX10_free_30 CX10_101 rfl rfl ⟨by decide, by decide, by decide, by decide⟩ (Nat.le_of_ble_eq_true rfl) ?_
  refine m_refused (n := 0) (by decide) ?_
  refine Aft_v (WM_len2 _ _) ?_
  rw [if_pos rfl]
  refine g_if_ne (tgt := 41) C0 dX10_free_33 (by decide) (fun z => (by revert z; decide +kernel : False).elim) (fun _ => ?_)
  refine g_iload_n C0 dX10_free_36 rfl ?_
  refine g_iload_n C0 dX10_free_37 rfl ?_
  refine g_icmp_ne (tgt := 45) C0 dX10_free_38 (by decide) (fun h38 => ?_) (fun h38 => ?_)
  · refine g_aload_n C0 dX10_free_45 rfl ?_
    refine g_getfield C0 dX10_free_46 FX10_19 rfl rfl ?_
    refine g_iconst (v := 5) C0 dX10_free_49 (by decide) ?_
    refine g_iload_n C0 dX10_free_50 rfl ?_
    refine g_imul C0 dX10_free_51 ?_
    refine g_iload_n C0 dX10_free_52 rfl ?_
    refine g_iadd C0 dX10_free_53 ?_
    refine g_iaload C0 dX10_free_54 rfl (in25 (inC b1) (inC b8)) ?_
    refine g_aload_n C0 dX10_free_55 rfl ?_
    refine g_iload_n C0 dX10_free_56 rfl ?_
    refine g_iload_n C0 dX10_free_57 rfl ?_
    refine g_invV2 C0 dX10_free_58 CX10_108 rfl rfl ⟨by decide, by decide, by decide, by decide⟩ (Nat.le_of_ble_eq_true rfl) ?_
    refine m_used (lam := lam) (show q.2 5 ≤ 60 from h5) (fun k hk => hl k (by have : k < q.2 5 := hk; omega)) ?_
    refine Aft_v (WM_len2 _ _) ?_
    refine g_isub C0 dX10_free_61 ?_
    refine g_iret C0 rfl dX10_free_62 (by decide) (by decide) ?_
    simp only [mFree, b1, b8, h38, if_true, if_false, eq_self] at hK
    exact hK
  refine g_iconst (v := 0) C0 dX10_free_41 (by decide) ?_
  refine g_goto (tgt := 62) C0 dX10_free_42 (by decide) ?_
  refine g_iret C0 rfl dX10_free_62 (by decide) (by decide) ?_
  simp only [mFree, b1, b8, h38, if_true, if_false, eq_self] at hK
  exact hK
set_option maxRecDepth 100000 in
set_option maxHeartbeats 4000000 in
theorem r_route {q : XS} {K : AO → AW → Prop} {a b : Int32} (h4 : q.2 4 ≤ 60) (h5 : q.2 5 ≤ 60) {lam : Nat → Nat} (hl : ∀ k, k < 60 → q.1 19 k = nI (lam k) ∧ lam k ≤ 4) (hc : ∀ k, vp_in (q.1 13 k) 5) (hK : K (mRoute q a b lam).1 (WM (mRoute q a b lam).2)) : Snd MX10_route [.ref 0, .int a, .int b] (WM q) K := by
  refine Snd.of (by decide +kernel) (Nat.le_of_ble_eq_true rfl) rfl rfl ?_
  intro X D dA ad C0
  show Gd X _ MX10_route 0 [some (.ref 0), some (.int a), some (.int b), none] [] _ 0 0
  refine g_iload_n C0 dX10_route_0 rfl ?_
  refine g_invS1 C0 dX10_route_1 CX10_128 rfl ⟨by decide, by decide, by decide, by decide⟩ (Nat.le_of_ble_eq_true rfl) ?_
  refine m_isN ?_
  refine Aft_v (WM_len2 _ _) ?_
  by_cases b1 : noN a
  · rw [if_pos b1]
    refine g_if_eq (tgt := 18) C0 dX10_route_4 (by decide) (fun _ => ?_) (fun z => (by revert z; decide +kernel : False).elim)
    refine g_iconst (v := 0) C0 dX10_route_18 (by decide) ?_
    refine g_istore_n C0 dX10_route_19 (by decide) ?_
    refine g_aload_n C0 dX10_route_20 rfl ?_
    refine g_iload_n C0 dX10_route_21 rfl ?_
    refine g_if_ne (tgt := 29) C0 dX10_route_22 (by decide) (fun z => (by revert z; decide +kernel : False).elim) (fun _ => ?_)
    refine g_iconst (v := 1) C0 dX10_route_25 (by decide) ?_
    refine g_goto (tgt := 39) C0 dX10_route_26 (by decide) ?_
    refine g_invV1 C0 dX10_route_39 CX10_101 rfl rfl ⟨by decide, by decide, by decide, by decide⟩ (Nat.le_of_ble_eq_true rfl) ?_
    refine m_refused (n := 1) (by decide) ?_
    refine Aft_v (WM_len2 _ _) ?_
    rw [if_neg (by decide)]
    refine g_if_eq (tgt := 47) C0 dX10_route_42 (by decide) (fun z => (by revert z; decide +kernel : False).elim) (fun _ => ?_)
    refine g_iconst (v := 0) C0 dX10_route_45 (by decide) ?_
    refine g_iret C0 rfl dX10_route_46 (by decide) (by decide) ?_
    simp only [mRoute, b1, if_true, if_false, eq_self] at hK
    exact hK
  rw [if_neg b1]
  refine g_if_eq (tgt := 18) C0 dX10_route_4 (by decide) (fun z => (by revert z; decide +kernel : False).elim) (fun _ => ?_)
  refine g_iload_n C0 dX10_route_7 rfl ?_
  refine g_invS1 C0 dX10_route_8 CX10_128 rfl ⟨by decide, by decide, by decide, by decide⟩ (Nat.le_of_ble_eq_true rfl) ?_
  refine m_isN ?_
  refine Aft_v (WM_len2 _ _) ?_
  by_cases b8 : noN b
  · rw [if_pos b8]
    refine g_if_eq (tgt := 18) C0 dX10_route_11 (by decide) (fun _ => ?_) (fun z => (by revert z; decide +kernel : False).elim)
    refine g_iconst (v := 0) C0 dX10_route_18 (by decide) ?_
    refine g_istore_n C0 dX10_route_19 (by decide) ?_
    refine g_aload_n C0 dX10_route_20 rfl ?_
    refine g_iload_n C0 dX10_route_21 rfl ?_
    refine g_if_ne (tgt := 29) C0 dX10_route_22 (by decide) (fun z => (by revert z; decide +kernel : False).elim) (fun _ => ?_)
    refine g_iconst (v := 1) C0 dX10_route_25 (by decide) ?_
    refine g_goto (tgt := 39) C0 dX10_route_26 (by decide) ?_
    refine g_invV1 C0 dX10_route_39 CX10_101 rfl rfl ⟨by decide, by decide, by decide, by decide⟩ (Nat.le_of_ble_eq_true rfl) ?_
    refine m_refused (n := 1) (by decide) ?_
    refine Aft_v (WM_len2 _ _) ?_
    rw [if_neg (by decide)]
    refine g_if_eq (tgt := 47) C0 dX10_route_42 (by decide) (fun z => (by revert z; decide +kernel : False).elim) (fun _ => ?_)
    refine g_iconst (v := 0) C0 dX10_route_45 (by decide) ?_
    refine g_iret C0 rfl dX10_route_46 (by decide) (by decide) ?_
    simp only [mRoute, b1, b8, if_true, if_false, eq_self] at hK
    exact hK
  rw [if_neg b8]
  refine g_if_eq (tgt := 18) C0 dX10_route_11 (by decide) (fun z => (by revert z; decide +kernel : False).elim) (fun _ => ?_)
  refine g_iconst (v := 1) C0 dX10_route_14 (by decide) ?_
  refine g_goto (tgt := 19) C0 dX10_route_15 (by decide) ?_
  refine g_istore_n C0 dX10_route_19 (by decide) ?_
  refine g_aload_n C0 dX10_route_20 rfl ?_
  refine g_iload_n C0 dX10_route_21 rfl ?_
  refine g_if_ne (tgt := 29) C0 dX10_route_22 (by decide) (fun _ => ?_) (fun z => (by revert z; decide +kernel : False).elim)
  refine g_iload_n C0 dX10_route_29 rfl ?_
  refine g_iload_n C0 dX10_route_30 rfl ?_
  refine g_icmp_ne (tgt := 38) C0 dX10_route_31 (by decide) (fun h31 => ?_) (fun h31 => ?_)
  · refine g_iconst (v := 0) C0 dX10_route_38 (by decide) ?_
    refine g_invV1 C0 dX10_route_39 CX10_101 rfl rfl ⟨by decide, by decide, by decide, by decide⟩ (Nat.le_of_ble_eq_true rfl) ?_
    refine m_refused (n := 0) (by decide) ?_
    refine Aft_v (WM_len2 _ _) ?_
    rw [if_pos rfl]
    refine g_if_eq (tgt := 47) C0 dX10_route_42 (by decide) (fun _ => ?_) (fun z => (by revert z; decide +kernel : False).elim)
    refine g_aload_n C0 dX10_route_47 rfl ?_
    refine g_iload_n C0 dX10_route_48 rfl ?_
    refine g_iload_n C0 dX10_route_49 rfl ?_
    refine g_invV2 C0 dX10_route_50 CX10_157 rfl rfl ⟨by decide, by decide, by decide, by decide⟩ (Nat.le_of_ble_eq_true rfl) ?_
    refine m_comes (q := z0 q) (lam := lam) (inN b1) (inN b8) h4 h5 hl hc ?_
    refine Aft_v (WM_len2 _ _) ?_
    refine g_if_eq (tgt := 63) C0 dX10_route_53 (by decide) (fun h53 => ?_) (fun h53 => ?_)
    · refine g_iconst (v := (-1)) C0 dX10_route_63 (by decide) ?_
      refine g_iret C0 rfl dX10_route_64 (by decide) (by decide) ?_
      simp only [mRoute, b1, b8, h31, h53, if_true, if_false, eq_self] at hK
      exact hK
    refine g_aload_n C0 dX10_route_56 rfl ?_
    refine g_getfield C0 dX10_route_57 FX10_144 rfl rfl ?_
    refine g_goto (tgt := 64) C0 dX10_route_60 (by decide) ?_
    refine g_iret C0 rfl dX10_route_64 (by decide) (by decide) ?_
    simp only [mRoute, b1, b8, h31, h53, if_true, if_false, eq_self] at hK
    exact hK
  refine g_iconst (v := 2) C0 dX10_route_34 (by decide) ?_
  refine g_goto (tgt := 39) C0 dX10_route_35 (by decide) ?_
  refine g_invV1 C0 dX10_route_39 CX10_101 rfl rfl ⟨by decide, by decide, by decide, by decide⟩ (Nat.le_of_ble_eq_true rfl) ?_
  refine m_refused (n := 2) (by decide) ?_
  refine Aft_v (WM_len2 _ _) ?_
  rw [if_neg (by decide)]
  refine g_if_eq (tgt := 47) C0 dX10_route_42 (by decide) (fun z => (by revert z; decide +kernel : False).elim) (fun _ => ?_)
  refine g_iconst (v := 0) C0 dX10_route_45 (by decide) ?_
  refine g_iret C0 rfl dX10_route_46 (by decide) (by decide) ?_
  simp only [mRoute, b1, b8, h31, if_true, if_false, eq_self] at hK
  exact hK
theorem ixAt {q : XS} {lam : Nat → Nat} {c p : Int32} (h5 : q.2 5 ≤ 60) (hl : ∀ k, k < 60 → q.1 19 k = nI (lam k) ∧ lam k ≤ 4) (h1 : ¬ noL (q.2 5) c) (h2 : ¬ noW p 0 (mg q 19 c)) : vp_in (5 * c + p) 300 := by
  obtain ⟨i, hi, rfl⟩ := vp_in_of (inL h5 h1) (by decide)
  have h3 : mg q 19 (nI i) = nI (lam i) := by show q.1 19 (nI i).toNatClampNeg = _; rw [nI_clamp (by omega)]; exact (hl i hi).1
  have h4 := (hl i hi).2
  rw [h3] at h2
  have h5 : vp_in p 5 := by
    rw [vp_in_iff]
    have a : ¬ p < 0 := fun z => h2 (Or.inl z)
    have b : ¬ nI (lam i) < p := fun z => h2 (Or.inr z)
    rw [Int32.lt_iff_toInt_lt, Int32.toInt_zero] at a
    rw [Int32.lt_iff_toInt_lt, nI_toInt (by omega)] at b
    omega
  exact in5 hi h5
set_option maxRecDepth 100000 in
set_option maxHeartbeats 4000000 in
theorem r_carrierAt {q : XS} {K : AO → AW → Prop} {c p : Int32} (h5 : q.2 5 ≤ 60) {lam : Nat → Nat} (hl : ∀ k, k < 60 → q.1 19 k = nI (lam k) ∧ lam k ≤ 4) (hK : K (mCarrierAt q c p).1 (WM (mCarrierAt q c p).2)) : Snd MX10_carrierAt [.ref 0, .int c, .int p] (WM q) K := by
  refine Snd.of (by decide +kernel) (Nat.le_of_ble_eq_true rfl) rfl rfl ?_
  intro X D dA ad C0
  show Gd X _ MX10_carrierAt 0 [some (.ref 0), some (.int c), some (.int p), none] [] _ 0 0
  refine g_aload_n C0 dX10_carrierAt_0 rfl ?_
  refine g_iload_n C0 dX10_carrierAt_1 rfl ?_
  refine g_invV1 C0 dX10_carrierAt_2 CX10_160 rfl rfl ⟨by decide, by decide, by decide, by decide⟩ (Nat.le_of_ble_eq_true rfl) ?_
  refine m_isL (by omega) ?_
  refine Aft_v (WM_len2 _ _) ?_
  by_cases b2 : noL (q.2 5) c
  · rw [if_pos b2]
    refine g_if_eq (tgt := 26) C0 dX10_carrierAt_5 (by decide) (fun _ => ?_) (fun z => (by revert z; decide +kernel : False).elim)
    refine g_iconst (v := 0) C0 dX10_carrierAt_26 (by decide) ?_
    refine g_istore_n C0 dX10_carrierAt_27 (by decide) ?_
    refine g_aload_n C0 dX10_carrierAt_28 rfl ?_
    refine g_iload_n C0 dX10_carrierAt_29 rfl ?_
    refine g_if_eq (tgt := 37) C0 dX10_carrierAt_30 (by decide) (fun _ => ?_) (fun z => (by revert z; decide +kernel : False).elim)
    refine g_iconst (v := 1) C0 dX10_carrierAt_37 (by decide) ?_
    refine g_invV1 C0 dX10_carrierAt_38 CX10_101 rfl rfl ⟨by decide, by decide, by decide, by decide⟩ (Nat.le_of_ble_eq_true rfl) ?_
    refine m_refused (n := 1) (by decide) ?_
    refine Aft_v (WM_len2 _ _) ?_
    rw [if_neg (by decide)]
    refine g_if_eq (tgt := 48) C0 dX10_carrierAt_41 (by decide) (fun z => (by revert z; decide +kernel : False).elim) (fun _ => ?_)
    refine g_iconst (v := 0) C0 dX10_carrierAt_44 (by decide) ?_
    refine g_goto (tgt := 58) C0 dX10_carrierAt_45 (by decide) ?_
    refine g_iret C0 rfl dX10_carrierAt_58 (by decide) (by decide) ?_
    simp only [mCarrierAt, b2, if_true, if_false, eq_self] at hK
    exact hK
  rw [if_neg b2]
  refine g_if_eq (tgt := 26) C0 dX10_carrierAt_5 (by decide) (fun z => (by revert z; decide +kernel : False).elim) (fun _ => ?_)
  refine g_iload_n C0 dX10_carrierAt_8 rfl ?_
  refine g_iconst (v := 0) C0 dX10_carrierAt_9 (by decide) ?_
  refine g_aload_n C0 dX10_carrierAt_10 rfl ?_
  refine g_getfield C0 dX10_carrierAt_11 FX10_68 rfl rfl ?_
  refine g_iload_n C0 dX10_carrierAt_14 rfl ?_
  refine g_iaload C0 dX10_carrierAt_15 rfl (inL h5 b2) ?_
  refine g_invS3 C0 dX10_carrierAt_16 CX10_87 rfl ⟨by decide, by decide, by decide, by decide⟩ (Nat.le_of_ble_eq_true rfl) ?_
  refine m_in ?_
  refine Aft_v (WM_len2 _ _) ?_
  by_cases b16 : noW p 0 (mg q 19 c)
  · rw [if_pos b16]
    refine g_if_eq (tgt := 26) C0 dX10_carrierAt_19 (by decide) (fun _ => ?_) (fun z => (by revert z; decide +kernel : False).elim)
    refine g_iconst (v := 0) C0 dX10_carrierAt_26 (by decide) ?_
    refine g_istore_n C0 dX10_carrierAt_27 (by decide) ?_
    refine g_aload_n C0 dX10_carrierAt_28 rfl ?_
    refine g_iload_n C0 dX10_carrierAt_29 rfl ?_
    refine g_if_eq (tgt := 37) C0 dX10_carrierAt_30 (by decide) (fun _ => ?_) (fun z => (by revert z; decide +kernel : False).elim)
    refine g_iconst (v := 1) C0 dX10_carrierAt_37 (by decide) ?_
    refine g_invV1 C0 dX10_carrierAt_38 CX10_101 rfl rfl ⟨by decide, by decide, by decide, by decide⟩ (Nat.le_of_ble_eq_true rfl) ?_
    refine m_refused (n := 1) (by decide) ?_
    refine Aft_v (WM_len2 _ _) ?_
    rw [if_neg (by decide)]
    refine g_if_eq (tgt := 48) C0 dX10_carrierAt_41 (by decide) (fun z => (by revert z; decide +kernel : False).elim) (fun _ => ?_)
    refine g_iconst (v := 0) C0 dX10_carrierAt_44 (by decide) ?_
    refine g_goto (tgt := 58) C0 dX10_carrierAt_45 (by decide) ?_
    refine g_iret C0 rfl dX10_carrierAt_58 (by decide) (by decide) ?_
    simp only [mCarrierAt, b2, b16, if_true, if_false, eq_self] at hK
    exact hK
  rw [if_neg b16]
  refine g_if_eq (tgt := 26) C0 dX10_carrierAt_19 (by decide) (fun z => (by revert z; decide +kernel : False).elim) (fun _ => ?_)
  refine g_iconst (v := 1) C0 dX10_carrierAt_22 (by decide) ?_
  refine g_goto (tgt := 27) C0 dX10_carrierAt_23 (by decide) ?_
  refine g_istore_n C0 dX10_carrierAt_27 (by decide) ?_
  refine g_aload_n C0 dX10_carrierAt_28 rfl ?_
  refine g_iload_n C0 dX10_carrierAt_29 rfl ?_
  refine g_if_eq (tgt := 37) C0 dX10_carrierAt_30 (by decide) (fun z => (by revert z; decide +kernel : False).elim) (fun _ => ?_)
  refine g_iconst (v := 0) C0 dX10_carrierAt_33 (by decide) ?_
  refine g_goto (tgt := 38) C0 dX10_carrierAt_34 (by decide) ?_
  refine g_invV1 C0 dX10_carrierAt_38 CX10_101 rfl rfl ⟨by decide, by decide, by decide, by decide⟩ (Nat.le_of_ble_eq_true rfl) ?_
  refine m_refused (n := 0) (by decide) ?_
  refine Aft_v (WM_len2 _ _) ?_
  rw [if_pos rfl]
  refine g_if_eq (tgt := 48) C0 dX10_carrierAt_41 (by decide) (fun _ => ?_) (fun z => (by revert z; decide +kernel : False).elim)
  refine g_aload_n C0 dX10_carrierAt_48 rfl ?_
  refine g_getfield C0 dX10_carrierAt_49 FX10_71 rfl rfl ?_
  refine g_iconst (v := 5) C0 dX10_carrierAt_52 (by decide) ?_
  refine g_iload_n C0 dX10_carrierAt_53 rfl ?_
  refine g_imul C0 dX10_carrierAt_54 ?_
  refine g_iload_n C0 dX10_carrierAt_55 rfl ?_
  refine g_iadd C0 dX10_carrierAt_56 ?_
  refine g_iaload C0 dX10_carrierAt_57 rfl (ixAt h5 hl b2 b16) ?_
  refine g_iret C0 rfl dX10_carrierAt_58 (by decide) (by decide) ?_
  simp only [mCarrierAt, b2, b16, if_true, if_false, eq_self] at hK
  exact hK

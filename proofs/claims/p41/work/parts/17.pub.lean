def R0 (q : XS) (v : Int32) : AO × XS := (.inl (some (.int v)), q)
def xSetPrices (q : XS) (c a b : Int32) : AO × XS := if noC c then (.inr 0, q) else if noW a 0 9 then (.inr 1, q) else if noW b 0 9 then (.inr 1, q) else if nI (q.2 4) < 60 then R0 (xprice q c (nI (q.2 0)) a b) (hval q 2 c (nI (q.2 0)) 2) else (.inr 2, q)
def xSetDelay (q : XS) (c s : Int32) : AO × XS := if noC c then (.inr 0, q) else if noW s 0 5000 then (.inr 1, q) else R0 (xs q 7 c s) (xg q 7 c)
def xSetTrunk (q : XS) (a b n : Int32) (lam : Nat → Nat) : AO × XS := if noC a then (.inr 0, q) else if noC b then (.inr 0, q) else if a = b then (.inr 1, q) else if noW n 0 5 then (.inr 1, q) else R0 (xlose (xchange q a b n) a b lam).1 (nI (xlose (xchange q a b n) a b lam).2)
def xPort (q : XS) (n c : Int32) : AO × XS := if noN n then (.inr 0, q) else if noC c then (.inr 0, q) else if xg q 0 n = c then (.inr 2, q) else if xg q 2 n ≤ xg q 4 n then (if nI (q.2 2) < 60 then R0 (xgive (xs (xcarry q n (xg q 0 n) c (nI (q.2 0))) 0 n c) c (xg q 0 n) (xg q 2 n)) (xg q 2 n) else (.inr 2, q)) else (.inr 2, q)
def xSell (q : XS) (n p : Int32) : AO × XS := if noN n then (.inr 0, q) else if noP p then (.inr 0, q) else if xg q 1 n = p then (.inr 2, q) else if nI (q.2 3) < 60 then R0 (xs (hadd q 1 n (nI (q.2 0)) p) 1 n p) (xg q 1 n) else (.inr 2, q)
def xBond (q : XS) (n c : Int32) : AO × XS := if noN n then (.inr 0, q) else if noW c 1 5000 then (.inr 1, q) else if xg q 4 n + c ≤ 5000 then R0 (xs q 4 n (xg q 4 n + c)) (xg q 4 n + c) else (.inr 2, q)
def xPay (q : XS) (n c : Int32) : AO × XS := if noN n then (.inr 0, q) else if noW c 1 (xg q 2 n) then (.inr 1, q) else R0 (xsettle q n c) (xg (xset1 q n c) 2 n)
def xJq (q : XS) (n : Int32) : XS := xad q 4 n (-mn (xg q 4 n) (xg q 2 n))
def xJudge (q : XS) (n : Int32) : AO × XS := if noN n then (.inr 0, q) else if 0 < xg q 2 n then (if xg (xset1 (xJq q n) n (mn (xg q 4 n) (xg q 2 n))) 2 n ≤ 0 then R0 (xsettle (xJq q n) n (mn (xg q 4 n) (xg q 2 n))) (xg (xset1 (xJq q n) n (mn (xg q 4 n) (xg q 2 n))) 2 n) else R0 (xs (xsettle (xJq q n) n (mn (xg q 4 n) (xg q 2 n))) 5 n 1) (xg (xset1 (xJq q n) n (mn (xg q 4 n) (xg q 2 n))) 2 n)) else (.inr 2, q)
def xLq (q : XS) (a b : Int32) : XS := setC (xfind q a b).1 1 ((xfind q a b).1.2 1 + 1)
def xCall (q : XS) (a b : Int32) (m : Nat) : AO × XS := if noN a then (.inr 0, q) else if noN b then (.inr 0, q) else if a = b then (.inr 1, q) else if xg q 6 a = -1 then (if xg q 6 b = -1 then (if xg q 5 a = 0 then (if nI (q.2 6) < 60 then (if (xfind q a b).2 = 0 then (if nI ((xfind q a b).1.2 7) ≤ 1 then R0 (xLq q a b) (-1) else R0 (xpayLoss (xLq q a b) (wlast (xLq q a b)) (xg (xLq q a b) 35 0)) (-1)) else R0 (xbegin (xfind q a b).1 a b m) (nI ((xfind q a b).1.2 6))) else (.inr 2, q)) else (.inr 2, q)) else (.inr 2, q)) else (.inr 2, q)
def xHangUp (q : XS) (c : Int32) (m : Nat) : AO × XS := if noK q c then (.inr 0, q) else if xg q 31 c = 0 then R0 (xend q c 1 m) (clasted (xend q c 1 m) c (nI ((xend q c 1 m).2 0))) else (.inr 2, q)
def xPass (q : XS) (s : Int32) : AO × XS := if noW s 1 2000 then (.inr 1, q) else if nI (q.2 0) + s ≤ 20000 then R0 (setC (psF q (nI (q.2 0 + s.toNatClampNeg)) (q.2 6)).1 0 (q.2 0 + s.toNatClampNeg)) (psF q (nI (q.2 0 + s.toNatClampNeg)) (q.2 6)).2 else (.inr 2, q)
def xSecond (q : XS) : AO × XS := R0 q (nI (q.2 0))
def xIsDear (q : XS) : AO × XS := if nI (q.2 0) - nI (q.2 0) / 1440 * 1440 < 480 then R0 q 0 else if 1200 ≤ nI (q.2 0) - nI (q.2 0) / 1440 * 1440 then R0 q 0 else R0 q 1
def xOfN (q : XS) (k : Nat) (n : Int32) : AO × XS := if noN n then (.inr 0, q) else R0 q (xg q k n)
def xOfC (q : XS) (k : Nat) (n : Int32) : AO × XS := if noC n then (.inr 0, q) else R0 q (xg q k n)
def xOfK (q : XS) (k : Nat) (n : Int32) : AO × XS := if noK q n then (.inr 0, q) else R0 q (xg q k n)
def xCarrierThen (q : XS) (n s : Int32) : AO × XS := if noN n then (.inr 0, q) else if noW s 0 (nI (q.2 0)) then (.inr 1, q) else R0 q (placeAt q n s)
def xBelieved (q : XS) (c n : Int32) : AO × XS := if noC c then (.inr 0, q) else if noN n then (.inr 0, q) else R0 q (known q c n (nI (q.2 0)))
def daF (q : XS) (n : Int32) : Nat → Int32
  | 0 => 0
  | k + 1 => if xg q 27 (nI k) = n then daF q n k + xanew q (nI k) (-1) (-1) else daF q n k
def eaF (q : XS) (c : Int32) : Nat → Int32
  | 0 => 0
  | k + 1 => eaF q c k + xanew q (nI k) c (-1)
def saF (q : XS) (p : Int32) : Nat → Int32
  | 0 => 0
  | k + 1 => saF q p k + xanew q (nI k) (-1) p
def xDebtAnew (q : XS) (n : Int32) : AO × XS := if noN n then (.inr 0, q) else R0 q (daF q n (q.2 6) - xg q 3 n)
def xEarnedAnew (q : XS) (c : Int32) : AO × XS := if noC c then (.inr 0, q) else R0 q (eaF q c (q.2 6))
def xSpentAnew (q : XS) (p : Int32) : AO × XS := if noP p then (.inr 0, q) else R0 q (saF q p (q.2 6))
def xIsBarred (q : XS) (n : Int32) : AO × XS := if noN n then (.inr 0, q) else if xg q 5 n = 0 then R0 q 0 else R0 q 1
def xFree (q : XS) (a b : Int32) : AO × XS := if noC a then (.inr 0, q) else if noC b then (.inr 0, q) else if a = b then R0 q 0 else R0 q (xleft q a b)
def xRoute (q : XS) (a b : Int32) : AO × XS := if noN a then (.inr 0, q) else if noN b then (.inr 0, q) else if a = b then (.inr 1, q) else if (xfind q a b).2 = 0 then R0 (xfind q a b).1 (-1) else R0 (xfind q a b).1 (nI ((xfind q a b).1.2 7) - 1)
def xCalls (q : XS) : AO × XS := R0 q (nI (q.2 6))
def xLost (q : XS) : AO × XS := R0 q (nI (q.2 1))
def xTrunks (q : XS) (c : Int32) : AO × XS := if noK q c then (.inr 0, q) else R0 q (xg q 33 c - 1)
def xCarrierAt (q : XS) (c p : Int32) : AO × XS := if noK q c then (.inr 0, q) else if p < 0 then (.inr 0, q) else if p < xg q 33 c then R0 q (cstop q c p) else (.inr 0, q)
def xSeconds (q : XS) (c : Int32) : AO × XS := if noK q c then (.inr 0, q) else R0 q (clasted q c (nI (q.2 0)))
def xChargedAnew (q : XS) (c : Int32) : AO × XS := if noK q c then (.inr 0, q) else R0 q (xanew q c (-1) (-1))
def xSpent (q : XS) (p : Int32) : AO × XS := if noP p then (.inr 0, q) else R0 q (xg q 11 p)
set_option maxRecDepth 100000 in
set_option maxHeartbeats 4000000 in
theorem p_setPrices {q : XS} {K : AO → AW → Prop} {c a b : Int32} (hq : q.2 4 < 100000) (hK : K (xSetPrices q c a b).1 (WX (xSetPrices q c a b).2)) : Snd MX9_setPrices [.ref 0, .int c, .int a, .int b] (WX q) K := by
  refine Snd.of (by decide +kernel) (Nat.le_of_ble_eq_true rfl) rfl rfl ?_
  intro X D dA ad C0
  show Gd X _ MX9_setPrices 0 [some (.ref 0), some (.int c), some (.int a), some (.int b), none] [] _ 0 0
  refine g_iload_n C0 dX9_setPrices_0 rfl ?_
  refine g_invS1 C0 dX9_setPrices_1 CX9_81 rfl ⟨by decide, by decide, by decide, by decide⟩ (Nat.le_of_ble_eq_true rfl) ?_
  refine x_needC (fun h1 => Aft_x ?_) (fun h1 => Aft_n (WX_len2 _ _) ?_)
  · rw [xSetPrices, if_pos] at hK
    · exact hK
    · exact h1
  refine g_iload_n C0 dX9_setPrices_4 rfl ?_
  refine g_iconst (v := 0) C0 dX9_setPrices_5 (by decide) ?_
  refine g_bipush (v := 9) C0 dX9_setPrices_6 (by decide) ?_
  refine g_invS3 C0 dX9_setPrices_8 CX9_85 rfl ⟨by decide, by decide, by decide, by decide⟩ (Nat.le_of_ble_eq_true rfl) ?_
  refine x_needW (fun h8 => Aft_x ?_) (fun h8 => Aft_n (WX_len2 _ _) ?_)
  · rw [xSetPrices, if_neg, if_pos] at hK
    · exact hK
    · exact h8
    · exact h1
  refine g_iload_n C0 dX9_setPrices_11 rfl ?_
  refine g_iconst (v := 0) C0 dX9_setPrices_12 (by decide) ?_
  refine g_bipush (v := 9) C0 dX9_setPrices_13 (by decide) ?_
  refine g_invS3 C0 dX9_setPrices_15 CX9_85 rfl ⟨by decide, by decide, by decide, by decide⟩ (Nat.le_of_ble_eq_true rfl) ?_
  refine x_needW (fun h15 => Aft_x ?_) (fun h15 => Aft_n (WX_len2 _ _) ?_)
  · rw [xSetPrices, if_neg, if_neg, if_pos] at hK
    · exact hK
    · exact h15
    · exact h8
    · exact h1
  refine g_aload_n C0 dX9_setPrices_18 rfl ?_
  refine g_getfield C0 dX9_setPrices_19 FX9_56 rfl rfl ?_
  refine g_invV0 C0 dX9_setPrices_22 CX9_89 rfl rfl ⟨by decide, by decide, by decide, by decide⟩ (Nat.le_of_ble_eq_true rfl) ?_
  refine x_tfull ?_
  refine Aft_v (WX_len2 _ _) ?_
  by_cases hf : nI (q.2 4) < 60
  · rw [if_pos hf]
    refine g_if_eq (tgt := 38) C0 dX9_setPrices_25 (by decide) (fun _ => ?_) (fun z => (by revert z; decide +kernel : False).elim)
    refine g_aload_n C0 dX9_setPrices_38 rfl ?_
    refine g_getfield C0 dX9_setPrices_39 FX9_56 rfl rfl ?_
    refine g_iload_n C0 dX9_setPrices_42 rfl ?_
    refine g_aload_n C0 dX9_setPrices_43 rfl ?_
    refine g_getfield C0 dX9_setPrices_44 FX9_74 rfl rfl ?_
    refine g_invV2 C0 dX9_setPrices_47 CX9_100 rfl rfl ⟨by decide, by decide, by decide, by decide⟩ (Nat.le_of_ble_eq_true rfl) ?_
    refine x_dearAt (by assumption) ?_
    refine Aft_v (WX_len2 _ _) ?_
    refine g_istore C0 dX9_setPrices_50 (by decide) ?_
    refine g_aload_n C0 dX9_setPrices_52 rfl ?_
    refine g_getfield C0 dX9_setPrices_53 FX9_56 rfl rfl ?_
    refine g_iload_n C0 dX9_setPrices_56 rfl ?_
    refine g_aload_n C0 dX9_setPrices_57 rfl ?_
    refine g_getfield C0 dX9_setPrices_58 FX9_74 rfl rfl ?_
    refine g_iload_n C0 dX9_setPrices_61 rfl ?_
    refine g_iload_n C0 dX9_setPrices_62 rfl ?_
    refine g_invV4 C0 dX9_setPrices_63 CX9_104 rfl rfl ⟨by decide, by decide, by decide, by decide⟩ (Nat.le_of_ble_eq_true rfl) ?_
    refine x_price ?_
    refine Aft_n (WX_len2 _ _) ?_
    refine g_iload C0 dX9_setPrices_66 rfl ?_
    refine g_iret C0 rfl dX9_setPrices_68 (by decide) (by decide) ?_
    rw [xSetPrices, if_neg, if_neg, if_neg, if_pos] at hK
    · exact hK
    · exact hf
    · exact h15
    · exact h8
    · exact h1
  rw [if_neg hf]
  refine g_if_eq (tgt := 38) C0 dX9_setPrices_25 (by decide) (fun z => (by revert z; decide +kernel : False).elim) (fun _ => ?_)
  refine g_throw C0 dX9_setPrices_28 dX9_setPrices_31 dX9_setPrices_32 dX9_setPrices_34 dX9_setPrices_37 HX9_setPrices_28 rfl (by decide) (Nat.le_of_ble_eq_true rfl) (by decide) (by decide) ?_
  rw [xSetPrices, if_neg, if_neg, if_neg, if_neg] at hK
  · exact hK
  · exact hf
  · exact h15
  · exact h8
  · exact h1
set_option maxRecDepth 100000 in
set_option maxHeartbeats 4000000 in
theorem p_setDelay {q : XS} {K : AO → AW → Prop} {c s : Int32} (hK : K (xSetDelay q c s).1 (WX (xSetDelay q c s).2)) : Snd MX9_setDelay [.ref 0, .int c, .int s] (WX q) K := by
  refine Snd.of (by decide +kernel) (Nat.le_of_ble_eq_true rfl) rfl rfl ?_
  intro X D dA ad C0
  show Gd X _ MX9_setDelay 0 [some (.ref 0), some (.int c), some (.int s), none] [] _ 0 0
  refine g_iload_n C0 dX9_setDelay_0 rfl ?_
  refine g_invS1 C0 dX9_setDelay_1 CX9_81 rfl ⟨by decide, by decide, by decide, by decide⟩ (Nat.le_of_ble_eq_true rfl) ?_
  refine x_needC (fun h1 => Aft_x ?_) (fun h1 => Aft_n (WX_len2 _ _) ?_)
  · rw [xSetDelay, if_pos] at hK
    · exact hK
    · exact h1
  refine g_iload_n C0 dX9_setDelay_4 rfl ?_
  refine g_iconst (v := 0) C0 dX9_setDelay_5 (by decide) ?_
  refine g_sipush (v := 5000) C0 dX9_setDelay_6 (by decide) ?_
  refine g_invS3 C0 dX9_setDelay_9 CX9_85 rfl ⟨by decide, by decide, by decide, by decide⟩ (Nat.le_of_ble_eq_true rfl) ?_
  refine x_needW (fun h9 => Aft_x ?_) (fun h9 => Aft_n (WX_len2 _ _) ?_)
  · rw [xSetDelay, if_neg, if_pos] at hK
    · exact hK
    · exact h9
    · exact h1
  refine g_aload_n C0 dX9_setDelay_12 rfl ?_
  refine g_getfield C0 dX9_setDelay_13 FX9_19 rfl rfl ?_
  refine g_getfield C0 dX9_setDelay_16 FX9_108 rfl rfl ?_
  refine g_iload_n C0 dX9_setDelay_19 rfl ?_
  refine g_invV1 C0 dX9_setDelay_20 CX9_111 rfl rfl ⟨by decide, by decide, by decide, by decide⟩ (Nat.le_of_ble_eq_true rfl) ?_
  refine x_get 7 (by decide) ?_
  refine Aft_v (WX_len2 _ _) ?_
  refine g_istore_n C0 dX9_setDelay_23 (by decide) ?_
  refine g_aload_n C0 dX9_setDelay_24 rfl ?_
  refine g_getfield C0 dX9_setDelay_25 FX9_19 rfl rfl ?_
  refine g_getfield C0 dX9_setDelay_28 FX9_108 rfl rfl ?_
  refine g_iload_n C0 dX9_setDelay_31 rfl ?_
  refine g_iload_n C0 dX9_setDelay_32 rfl ?_
  refine g_invV2 C0 dX9_setDelay_33 CX9_115 rfl rfl ⟨by decide, by decide, by decide, by decide⟩ (Nat.le_of_ble_eq_true rfl) ?_
  refine x_set 7 (by decide) ?_
  refine Aft_n (WX_len2 _ _) ?_
  refine g_iload_n C0 dX9_setDelay_36 rfl ?_
  refine g_iret C0 rfl dX9_setDelay_37 (by decide) (by decide) ?_
  rw [xSetDelay, if_neg, if_neg] at hK
  · exact hK
  · exact h9
  · exact h1
set_option maxRecDepth 100000 in
set_option maxHeartbeats 4000000 in
theorem p_setTrunk {q : XS} {K : AO → AW → Prop} {a b n : Int32} {lam : Nat → Nat} (hq : q.2 6 < 100000) (hl : ∀ c, c < q.2 6 → xg q 33 (nI c) = nI (lam c + 1) ∧ lam c < 1000) (hK : K (xSetTrunk q a b n lam).1 (WX (xSetTrunk q a b n lam).2)) : Snd MX9_setTrunk [.ref 0, .int a, .int b, .int n] (WX q) K := by
  refine Snd.of (by decide +kernel) (Nat.le_of_ble_eq_true rfl) rfl rfl ?_
  intro X D dA ad C0
  show Gd X _ MX9_setTrunk 0 [some (.ref 0), some (.int a), some (.int b), some (.int n)] [] _ 0 0
  refine g_iload_n C0 dX9_setTrunk_0 rfl ?_
  refine g_invS1 C0 dX9_setTrunk_1 CX9_81 rfl ⟨by decide, by decide, by decide, by decide⟩ (Nat.le_of_ble_eq_true rfl) ?_
  refine x_needC (fun h1 => Aft_x ?_) (fun h1 => Aft_n (WX_len2 _ _) ?_)
  · rw [xSetTrunk, if_pos] at hK
    · exact hK
    · exact h1
  refine g_iload_n C0 dX9_setTrunk_4 rfl ?_
  refine g_invS1 C0 dX9_setTrunk_5 CX9_81 rfl ⟨by decide, by decide, by decide, by decide⟩ (Nat.le_of_ble_eq_true rfl) ?_
  refine x_needC (fun h5 => Aft_x ?_) (fun h5 => Aft_n (WX_len2 _ _) ?_)
  · rw [xSetTrunk, if_neg, if_pos] at hK
    · exact hK
    · exact h5
    · exact h1
  refine g_iload_n C0 dX9_setTrunk_8 rfl ?_
  refine g_iload_n C0 dX9_setTrunk_9 rfl ?_
  refine g_invS2 C0 dX9_setTrunk_10 CX9_118 rfl ⟨by decide, by decide, by decide, by decide⟩ (Nat.le_of_ble_eq_true rfl) ?_
  refine x_needD (fun h10 => Aft_x ?_) (fun h10 => Aft_n (WX_len2 _ _) ?_)
  · rw [xSetTrunk, if_neg, if_neg, if_pos] at hK
    · exact hK
    · exact h10
    · exact h5
    · exact h1
  refine g_iload_n C0 dX9_setTrunk_13 rfl ?_
  refine g_iconst (v := 0) C0 dX9_setTrunk_14 (by decide) ?_
  refine g_iconst (v := 5) C0 dX9_setTrunk_15 (by decide) ?_
  refine g_invS3 C0 dX9_setTrunk_16 CX9_85 rfl ⟨by decide, by decide, by decide, by decide⟩ (Nat.le_of_ble_eq_true rfl) ?_
  refine x_needW (fun h16 => Aft_x ?_) (fun h16 => Aft_n (WX_len2 _ _) ?_)
  · rw [xSetTrunk, if_neg, if_neg, if_neg, if_pos] at hK
    · exact hK
    · exact h16
    · exact h10
    · exact h5
    · exact h1
  refine g_aload_n C0 dX9_setTrunk_19 rfl ?_
  refine g_getfield C0 dX9_setTrunk_20 FX9_35 rfl rfl ?_
  refine g_iload_n C0 dX9_setTrunk_23 rfl ?_
  refine g_iload_n C0 dX9_setTrunk_24 rfl ?_
  refine g_iload_n C0 dX9_setTrunk_25 rfl ?_
  refine g_invV3 C0 dX9_setTrunk_26 CX9_121 rfl rfl ⟨by decide, by decide, by decide, by decide⟩ (Nat.le_of_ble_eq_true rfl) ?_
  refine x_change ?_
  refine Aft_n (WX_len2 _ _) ?_
  refine g_aload_n C0 dX9_setTrunk_29 rfl ?_
  refine g_iload_n C0 dX9_setTrunk_30 rfl ?_
  refine g_iload_n C0 dX9_setTrunk_31 rfl ?_
  refine g_invV2 C0 dX9_setTrunk_32 CX9_123 rfl rfl ⟨by decide, by decide, by decide, by decide⟩ (Nat.le_of_ble_eq_true rfl) ?_
  refine x_lose (lam := lam) (show (xchange q a b n).2 6 < 100000 from hq) (fun c hc => hl c hc) ?_
  refine Aft_v (WX_len2 _ _) ?_
  refine g_iret C0 rfl dX9_setTrunk_35 (by decide) (by decide) ?_
  rw [xSetTrunk, if_neg, if_neg, if_neg, if_neg] at hK
  · exact hK
  · exact h16
  · exact h10
  · exact h5
  · exact h1
set_option maxRecDepth 100000 in
set_option maxHeartbeats 4000000 in
theorem p_port {q : XS} {K : AO → AW → Prop} {n c : Int32} (hK : K (xPort q n c).1 (WX (xPort q n c).2)) : Snd MX9_port [.ref 0, .int n, .int c] (WX q) K := by
  refine Snd.of (by decide +kernel) (Nat.le_of_ble_eq_true rfl) rfl rfl ?_
  intro X D dA ad C0
  show Gd X _ MX9_port 0 [some (.ref 0), some (.int n), some (.int c), none, none] [] _ 0 0
  refine g_iload_n C0 dX9_port_0 rfl ?_
  refine g_invS1 C0 dX9_port_1 CX9_126 rfl ⟨by decide, by decide, by decide, by decide⟩ (Nat.le_of_ble_eq_true rfl) ?_
  refine x_needN (fun h1 => Aft_x ?_) (fun h1 => Aft_n (WX_len2 _ _) ?_)
  · rw [xPort, if_pos] at hK
    · exact hK
    · exact h1
  refine g_iload_n C0 dX9_port_4 rfl ?_
  refine g_invS1 C0 dX9_port_5 CX9_81 rfl ⟨by decide, by decide, by decide, by decide⟩ (Nat.le_of_ble_eq_true rfl) ?_
  refine x_needC (fun h5 => Aft_x ?_) (fun h5 => Aft_n (WX_len2 _ _) ?_)
  · rw [xPort, if_neg, if_pos] at hK
    · exact hK
    · exact h5
    · exact h1
  refine g_aload_n C0 dX9_port_8 rfl ?_
  refine g_getfield C0 dX9_port_9 FX9_12 rfl rfl ?_
  refine g_getfield C0 dX9_port_12 FX9_129 rfl rfl ?_
  refine g_iload_n C0 dX9_port_15 rfl ?_
  refine g_invV1 C0 dX9_port_16 CX9_111 rfl rfl ⟨by decide, by decide, by decide, by decide⟩ (Nat.le_of_ble_eq_true rfl) ?_
  refine x_get 0 (by decide) ?_
  refine Aft_v (WX_len2 _ _) ?_
  refine g_istore_n C0 dX9_port_19 (by decide) ?_
  refine g_aload_n C0 dX9_port_20 rfl ?_
  refine g_getfield C0 dX9_port_21 FX9_12 rfl rfl ?_
  refine g_getfield C0 dX9_port_24 FX9_131 rfl rfl ?_
  refine g_iload_n C0 dX9_port_27 rfl ?_
  refine g_invV1 C0 dX9_port_28 CX9_111 rfl rfl ⟨by decide, by decide, by decide, by decide⟩ (Nat.le_of_ble_eq_true rfl) ?_
  refine x_get 2 (by decide) ?_
  refine Aft_v (WX_len2 _ _) ?_
  refine g_istore C0 dX9_port_31 (by decide) ?_
  refine g_iload_n C0 dX9_port_33 rfl ?_
  refine g_iload_n C0 dX9_port_34 rfl ?_
  refine g_icmp_ne (tgt := 48) C0 dX9_port_35 (by decide) (fun h35 => ?_) (fun h35 => ?_)
  · refine g_aload_n C0 dX9_port_48 rfl ?_
    refine g_getfield C0 dX9_port_49 FX9_12 rfl rfl ?_
    refine g_getfield C0 dX9_port_52 FX9_136 rfl rfl ?_
    refine g_iload_n C0 dX9_port_55 rfl ?_
    refine g_invV1 C0 dX9_port_56 CX9_111 rfl rfl ⟨by decide, by decide, by decide, by decide⟩ (Nat.le_of_ble_eq_true rfl) ?_
    refine x_get 4 (by decide) ?_
    refine Aft_v (WX_len2 _ _) ?_
    refine g_iload C0 dX9_port_59 rfl ?_
    refine g_icmp_ge (tgt := 74) C0 dX9_port_61 (by decide) (fun h61 => ?_) (fun h61 => ?_)
    · refine g_aload_n C0 dX9_port_74 rfl ?_
      refine g_getfield C0 dX9_port_75 FX9_42 rfl rfl ?_
      refine g_invV0 C0 dX9_port_78 CX9_141 rfl rfl ⟨by decide, by decide, by decide, by decide⟩ (Nat.le_of_ble_eq_true rfl) ?_
      refine x_pfull ?_
      refine Aft_v (WX_len2 _ _) ?_
      by_cases hf : nI (q.2 2) < 60
      · rw [if_pos hf]
        refine g_if_eq (tgt := 94) C0 dX9_port_81 (by decide) (fun _ => ?_) (fun z => (by revert z; decide +kernel : False).elim)
        refine g_aload_n C0 dX9_port_94 rfl ?_
        refine g_getfield C0 dX9_port_95 FX9_42 rfl rfl ?_
        refine g_iload_n C0 dX9_port_98 rfl ?_
        refine g_iload_n C0 dX9_port_99 rfl ?_
        refine g_iload_n C0 dX9_port_100 rfl ?_
        refine g_aload_n C0 dX9_port_101 rfl ?_
        refine g_getfield C0 dX9_port_102 FX9_74 rfl rfl ?_
        refine g_aload_n C0 dX9_port_105 rfl ?_
        refine g_getfield C0 dX9_port_106 FX9_19 rfl rfl ?_
        refine g_getfield C0 dX9_port_109 FX9_108 rfl rfl ?_
        refine g_invV5 C0 dX9_port_112 CX9_144 rfl rfl ⟨by decide, by decide, by decide, by decide⟩ (Nat.le_of_ble_eq_true rfl) ?_
        refine x_carry ?_
        refine Aft_n (WX_len2 _ _) ?_
        refine g_aload_n C0 dX9_port_115 rfl ?_
        refine g_getfield C0 dX9_port_116 FX9_12 rfl rfl ?_
        refine g_getfield C0 dX9_port_119 FX9_129 rfl rfl ?_
        refine g_iload_n C0 dX9_port_122 rfl ?_
        refine g_iload_n C0 dX9_port_123 rfl ?_
        refine g_invV2 C0 dX9_port_124 CX9_115 rfl rfl ⟨by decide, by decide, by decide, by decide⟩ (Nat.le_of_ble_eq_true rfl) ?_
        refine x_set 0 (by decide) ?_
        refine Aft_n (WX_len2 _ _) ?_
        refine g_aload_n C0 dX9_port_127 rfl ?_
        refine g_getfield C0 dX9_port_128 FX9_19 rfl rfl ?_
        refine g_iload_n C0 dX9_port_131 rfl ?_
        refine g_iload_n C0 dX9_port_132 rfl ?_
        refine g_iload C0 dX9_port_133 rfl ?_
        refine g_invV3 C0 dX9_port_135 CX9_148 rfl rfl ⟨by decide, by decide, by decide, by decide⟩ (Nat.le_of_ble_eq_true rfl) ?_
        refine x_give ?_
        refine Aft_n (WX_len2 _ _) ?_
        refine g_iload C0 dX9_port_138 rfl ?_
        refine g_iret C0 rfl dX9_port_140 (by decide) (by decide) ?_
        rw [xPort, if_neg, if_neg, if_neg, if_pos, if_pos] at hK
        · exact hK
        · exact hf
        · exact h61
        · exact h35
        · exact h5
        · exact h1
      rw [if_neg hf]
      refine g_if_eq (tgt := 94) C0 dX9_port_81 (by decide) (fun z => (by revert z; decide +kernel : False).elim) (fun _ => ?_)
      refine g_throw C0 dX9_port_84 dX9_port_87 dX9_port_88 dX9_port_90 dX9_port_93 HX9_port_84 rfl (by decide) (Nat.le_of_ble_eq_true rfl) (by decide) (by decide) ?_
      rw [xPort, if_neg, if_neg, if_neg, if_pos, if_neg] at hK
      · exact hK
      · exact hf
      · exact h61
      · exact h35
      · exact h5
      · exact h1
    refine g_throw C0 dX9_port_64 dX9_port_67 dX9_port_68 dX9_port_70 dX9_port_73 HX9_port_64 rfl (by decide) (Nat.le_of_ble_eq_true rfl) (by decide) (by decide) ?_
    rw [xPort, if_neg, if_neg, if_neg, if_neg] at hK
    · exact hK
    · exact h61
    · exact h35
    · exact h5
    · exact h1
  refine g_throw C0 dX9_port_38 dX9_port_41 dX9_port_42 dX9_port_44 dX9_port_47 HX9_port_38 rfl (by decide) (Nat.le_of_ble_eq_true rfl) (by decide) (by decide) ?_
  rw [xPort, if_neg, if_neg, if_pos] at hK
  · exact hK
  · exact h35
  · exact h5
  · exact h1
set_option maxRecDepth 100000 in
set_option maxHeartbeats 4000000 in
theorem p_sell {q : XS} {K : AO → AW → Prop} {n p : Int32} (hK : K (xSell q n p).1 (WX (xSell q n p).2)) : Snd MX9_sell [.ref 0, .int n, .int p] (WX q) K := by
  refine Snd.of (by decide +kernel) (Nat.le_of_ble_eq_true rfl) rfl rfl ?_
  intro X D dA ad C0
  show Gd X _ MX9_sell 0 [some (.ref 0), some (.int n), some (.int p), none] [] _ 0 0
  refine g_iload_n C0 dX9_sell_0 rfl ?_
  refine g_invS1 C0 dX9_sell_1 CX9_126 rfl ⟨by decide, by decide, by decide, by decide⟩ (Nat.le_of_ble_eq_true rfl) ?_
  refine x_needN (fun h1 => Aft_x ?_) (fun h1 => Aft_n (WX_len2 _ _) ?_)
  · rw [xSell, if_pos] at hK
    · exact hK
    · exact h1
  refine g_iload_n C0 dX9_sell_4 rfl ?_
  refine g_invS1 C0 dX9_sell_5 CX9_151 rfl ⟨by decide, by decide, by decide, by decide⟩ (Nat.le_of_ble_eq_true rfl) ?_
  refine x_needP (fun h5 => Aft_x ?_) (fun h5 => Aft_n (WX_len2 _ _) ?_)
  · rw [xSell, if_neg, if_pos] at hK
    · exact hK
    · exact h5
    · exact h1
  refine g_aload_n C0 dX9_sell_8 rfl ?_
  refine g_getfield C0 dX9_sell_9 FX9_12 rfl rfl ?_
  refine g_getfield C0 dX9_sell_12 FX9_154 rfl rfl ?_
  refine g_iload_n C0 dX9_sell_15 rfl ?_
  refine g_invV1 C0 dX9_sell_16 CX9_111 rfl rfl ⟨by decide, by decide, by decide, by decide⟩ (Nat.le_of_ble_eq_true rfl) ?_
  refine x_get 1 (by decide) ?_
  refine Aft_v (WX_len2 _ _) ?_
  refine g_istore_n C0 dX9_sell_19 (by decide) ?_
  refine g_iload_n C0 dX9_sell_20 rfl ?_
  refine g_iload_n C0 dX9_sell_21 rfl ?_
  refine g_icmp_ne (tgt := 35) C0 dX9_sell_22 (by decide) (fun h22 => ?_) (fun h22 => ?_)
  · refine g_aload_n C0 dX9_sell_35 rfl ?_
    refine g_getfield C0 dX9_sell_36 FX9_49 rfl rfl ?_
    refine g_invV0 C0 dX9_sell_39 CX9_159 rfl rfl ⟨by decide, by decide, by decide, by decide⟩ (Nat.le_of_ble_eq_true rfl) ?_
    refine x_isFull 1 (by decide) ?_
    refine Aft_v (WX_len2 _ _) ?_
    by_cases hf : nI (q.2 3) < 60
    · rw [if_pos hf]
      refine g_if_eq (tgt := 55) C0 dX9_sell_42 (by decide) (fun _ => ?_) (fun z => (by revert z; decide +kernel : False).elim)
      refine g_aload_n C0 dX9_sell_55 rfl ?_
      refine g_getfield C0 dX9_sell_56 FX9_49 rfl rfl ?_
      refine g_iload_n C0 dX9_sell_59 rfl ?_
      refine g_aload_n C0 dX9_sell_60 rfl ?_
      refine g_getfield C0 dX9_sell_61 FX9_74 rfl rfl ?_
      refine g_iload_n C0 dX9_sell_64 rfl ?_
      refine g_invV3 C0 dX9_sell_65 CX9_162 rfl rfl ⟨by decide, by decide, by decide, by decide⟩ (Nat.le_of_ble_eq_true rfl) ?_
      refine x_hadd 1 (by decide) ?_
      refine Aft_n (WX_len2 _ _) ?_
      refine g_aload_n C0 dX9_sell_68 rfl ?_
      refine g_getfield C0 dX9_sell_69 FX9_12 rfl rfl ?_
      refine g_getfield C0 dX9_sell_72 FX9_154 rfl rfl ?_
      refine g_iload_n C0 dX9_sell_75 rfl ?_
      refine g_iload_n C0 dX9_sell_76 rfl ?_
      refine g_invV2 C0 dX9_sell_77 CX9_115 rfl rfl ⟨by decide, by decide, by decide, by decide⟩ (Nat.le_of_ble_eq_true rfl) ?_
      refine x_set 1 (by decide) ?_
      refine Aft_n (WX_len2 _ _) ?_
      refine g_iload_n C0 dX9_sell_80 rfl ?_
      refine g_iret C0 rfl dX9_sell_81 (by decide) (by decide) ?_
      rw [xSell, if_neg, if_neg, if_neg, if_pos] at hK
      · exact hK
      · exact hf
      · exact h22
      · exact h5
      · exact h1
    rw [if_neg hf]
    refine g_if_eq (tgt := 55) C0 dX9_sell_42 (by decide) (fun z => (by revert z; decide +kernel : False).elim) (fun _ => ?_)
    refine g_throw C0 dX9_sell_45 dX9_sell_48 dX9_sell_49 dX9_sell_51 dX9_sell_54 HX9_sell_45 rfl (by decide) (Nat.le_of_ble_eq_true rfl) (by decide) (by decide) ?_
    rw [xSell, if_neg, if_neg, if_neg, if_neg] at hK
    · exact hK
    · exact hf
    · exact h22
    · exact h5
    · exact h1
  refine g_throw C0 dX9_sell_25 dX9_sell_28 dX9_sell_29 dX9_sell_31 dX9_sell_34 HX9_sell_25 rfl (by decide) (Nat.le_of_ble_eq_true rfl) (by decide) (by decide) ?_
  rw [xSell, if_neg, if_neg, if_pos] at hK
  · exact hK
  · exact h22
  · exact h5
  · exact h1
set_option maxRecDepth 100000 in
set_option maxHeartbeats 4000000 in
theorem p_bond {q : XS} {K : AO → AW → Prop} {n c : Int32} (hK : K (xBond q n c).1 (WX (xBond q n c).2)) : Snd MX9_bond [.ref 0, .int n, .int c] (WX q) K := by
  refine Snd.of (by decide +kernel) (Nat.le_of_ble_eq_true rfl) rfl rfl ?_
  intro X D dA ad C0
  show Gd X _ MX9_bond 0 [some (.ref 0), some (.int n), some (.int c), none] [] _ 0 0
  refine g_iload_n C0 dX9_bond_0 rfl ?_
  refine g_invS1 C0 dX9_bond_1 CX9_126 rfl ⟨by decide, by decide, by decide, by decide⟩ (Nat.le_of_ble_eq_true rfl) ?_
  refine x_needN (fun h1 => Aft_x ?_) (fun h1 => Aft_n (WX_len2 _ _) ?_)
  · rw [xBond, if_pos] at hK
    · exact hK
    · exact h1
  refine g_iload_n C0 dX9_bond_4 rfl ?_
  refine g_iconst (v := 1) C0 dX9_bond_5 (by decide) ?_
  refine g_sipush (v := 5000) C0 dX9_bond_6 (by decide) ?_
  refine g_invS3 C0 dX9_bond_9 CX9_85 rfl ⟨by decide, by decide, by decide, by decide⟩ (Nat.le_of_ble_eq_true rfl) ?_
  refine x_needW (fun h9 => Aft_x ?_) (fun h9 => Aft_n (WX_len2 _ _) ?_)
  · rw [xBond, if_neg, if_pos] at hK
    · exact hK
    · exact h9
    · exact h1
  refine g_aload_n C0 dX9_bond_12 rfl ?_
  refine g_getfield C0 dX9_bond_13 FX9_12 rfl rfl ?_
  refine g_getfield C0 dX9_bond_16 FX9_136 rfl rfl ?_
  refine g_iload_n C0 dX9_bond_19 rfl ?_
  refine g_invV1 C0 dX9_bond_20 CX9_111 rfl rfl ⟨by decide, by decide, by decide, by decide⟩ (Nat.le_of_ble_eq_true rfl) ?_
  refine x_get 4 (by decide) ?_
  refine Aft_v (WX_len2 _ _) ?_
  refine g_iload_n C0 dX9_bond_23 rfl ?_
  refine g_iadd C0 dX9_bond_24 ?_
  refine g_istore_n C0 dX9_bond_25 (by decide) ?_
  refine g_iload_n C0 dX9_bond_26 rfl ?_
  refine g_sipush (v := 5000) C0 dX9_bond_27 (by decide) ?_
  refine g_icmp_le (tgt := 43) C0 dX9_bond_30 (by decide) (fun h30 => ?_) (fun h30 => ?_)
  · refine g_aload_n C0 dX9_bond_43 rfl ?_
    refine g_getfield C0 dX9_bond_44 FX9_12 rfl rfl ?_
    refine g_getfield C0 dX9_bond_47 FX9_136 rfl rfl ?_
    refine g_iload_n C0 dX9_bond_50 rfl ?_
    refine g_iload_n C0 dX9_bond_51 rfl ?_
    refine g_invV2 C0 dX9_bond_52 CX9_115 rfl rfl ⟨by decide, by decide, by decide, by decide⟩ (Nat.le_of_ble_eq_true rfl) ?_
    refine x_set 4 (by decide) ?_
    refine Aft_n (WX_len2 _ _) ?_
    refine g_iload_n C0 dX9_bond_55 rfl ?_
    refine g_iret C0 rfl dX9_bond_56 (by decide) (by decide) ?_
    rw [xBond, if_neg, if_neg, if_pos] at hK
    · exact hK
    · exact h30
    · exact h9
    · exact h1
  refine g_throw C0 dX9_bond_33 dX9_bond_36 dX9_bond_37 dX9_bond_39 dX9_bond_42 HX9_bond_33 rfl (by decide) (Nat.le_of_ble_eq_true rfl) (by decide) (by decide) ?_
  rw [xBond, if_neg, if_neg, if_neg] at hK
  · exact hK
  · exact h30
  · exact h9
  · exact h1
set_option maxRecDepth 100000 in
set_option maxHeartbeats 4000000 in
theorem p_pay {q : XS} {K : AO → AW → Prop} {n c : Int32} (hK : K (xPay q n c).1 (WX (xPay q n c).2)) : Snd MX9_pay [.ref 0, .int n, .int c] (WX q) K := by
  refine Snd.of (by decide +kernel) (Nat.le_of_ble_eq_true rfl) rfl rfl ?_
  intro X D dA ad C0
  show Gd X _ MX9_pay 0 [some (.ref 0), some (.int n), some (.int c)] [] _ 0 0
  refine g_iload_n C0 dX9_pay_0 rfl ?_
  refine g_invS1 C0 dX9_pay_1 CX9_126 rfl ⟨by decide, by decide, by decide, by decide⟩ (Nat.le_of_ble_eq_true rfl) ?_
  refine x_needN (fun h1 => Aft_x ?_) (fun h1 => Aft_n (WX_len2 _ _) ?_)
  · rw [xPay, if_pos] at hK
    · exact hK
    · exact h1
  refine g_iload_n C0 dX9_pay_4 rfl ?_
  refine g_iconst (v := 1) C0 dX9_pay_5 (by decide) ?_
  refine g_aload_n C0 dX9_pay_6 rfl ?_
  refine g_getfield C0 dX9_pay_7 FX9_12 rfl rfl ?_
  refine g_getfield C0 dX9_pay_10 FX9_131 rfl rfl ?_
  refine g_iload_n C0 dX9_pay_13 rfl ?_
  refine g_invV1 C0 dX9_pay_14 CX9_111 rfl rfl ⟨by decide, by decide, by decide, by decide⟩ (Nat.le_of_ble_eq_true rfl) ?_
  refine x_get 2 (by decide) ?_
  refine Aft_v (WX_len2 _ _) ?_
  refine g_invS3 C0 dX9_pay_17 CX9_85 rfl ⟨by decide, by decide, by decide, by decide⟩ (Nat.le_of_ble_eq_true rfl) ?_
  refine x_needW (fun h17 => Aft_x ?_) (fun h17 => Aft_n (WX_len2 _ _) ?_)
  · rw [xPay, if_neg, if_pos] at hK
    · exact hK
    · exact h17
    · exact h1
  refine g_aload_n C0 dX9_pay_20 rfl ?_
  refine g_iload_n C0 dX9_pay_21 rfl ?_
  refine g_iload_n C0 dX9_pay_22 rfl ?_
  refine g_invV2 C0 dX9_pay_23 CX9_167 rfl rfl ⟨by decide, by decide, by decide, by decide⟩ (Nat.le_of_ble_eq_true rfl) ?_
  refine x_settle ?_
  refine Aft_v (WX_len2 _ _) ?_
  refine g_iret C0 rfl dX9_pay_26 (by decide) (by decide) ?_
  rw [xPay, if_neg, if_neg] at hK
  · exact hK
  · exact h17
  · exact h1
set_option maxRecDepth 100000 in
set_option maxHeartbeats 4000000 in
theorem p_judge {q : XS} {K : AO → AW → Prop} {n : Int32} (hK : K (xJudge q n).1 (WX (xJudge q n).2)) : Snd MX9_judge [.ref 0, .int n] (WX q) K := by
  refine Snd.of (by decide +kernel) (Nat.le_of_ble_eq_true rfl) rfl rfl ?_
  intro X D dA ad C0
  show Gd X _ MX9_judge 0 [some (.ref 0), some (.int n), none, none, none] [] _ 0 0
  refine g_iload_n C0 dX9_judge_0 rfl ?_
  refine g_invS1 C0 dX9_judge_1 CX9_126 rfl ⟨by decide, by decide, by decide, by decide⟩ (Nat.le_of_ble_eq_true rfl) ?_
  refine x_needN (fun h1 => Aft_x ?_) (fun h1 => Aft_n (WX_len2 _ _) ?_)
  · rw [xJudge, if_pos] at hK
    · exact hK
    · exact h1
  refine g_aload_n C0 dX9_judge_4 rfl ?_
  refine g_getfield C0 dX9_judge_5 FX9_12 rfl rfl ?_
  refine g_getfield C0 dX9_judge_8 FX9_131 rfl rfl ?_
  refine g_iload_n C0 dX9_judge_11 rfl ?_
  refine g_invV1 C0 dX9_judge_12 CX9_111 rfl rfl ⟨by decide, by decide, by decide, by decide⟩ (Nat.le_of_ble_eq_true rfl) ?_
  refine x_get 2 (by decide) ?_
  refine Aft_v (WX_len2 _ _) ?_
  refine g_istore_n C0 dX9_judge_15 (by decide) ?_
  refine g_iload_n C0 dX9_judge_16 rfl ?_
  refine g_if_gt (tgt := 30) C0 dX9_judge_17 (by decide) (fun h17 => ?_) (fun h17 => ?_)
  · refine g_aload_n C0 dX9_judge_30 rfl ?_
    refine g_getfield C0 dX9_judge_31 FX9_12 rfl rfl ?_
    refine g_getfield C0 dX9_judge_34 FX9_136 rfl rfl ?_
    refine g_iload_n C0 dX9_judge_37 rfl ?_
    refine g_invV1 C0 dX9_judge_38 CX9_111 rfl rfl ⟨by decide, by decide, by decide, by decide⟩ (Nat.le_of_ble_eq_true rfl) ?_
    refine x_get 4 (by decide) ?_
    refine Aft_v (WX_len2 _ _) ?_
    refine g_iload_n C0 dX9_judge_41 rfl ?_
    refine g_min C0 dX9_judge_42 QX9_172 (by decide) (Nat.le_of_ble_eq_true rfl) (by decide) (by decide) ?_
    refine g_istore_n C0 dX9_judge_45 (by decide) ?_
    refine g_aload_n C0 dX9_judge_46 rfl ?_
    refine g_getfield C0 dX9_judge_47 FX9_12 rfl rfl ?_
    refine g_getfield C0 dX9_judge_50 FX9_136 rfl rfl ?_
    refine g_iload_n C0 dX9_judge_53 rfl ?_
    refine g_iload_n C0 dX9_judge_54 rfl ?_
    refine g_ineg C0 dX9_judge_55 ?_
    refine g_invV2 C0 dX9_judge_56 CX9_177 rfl rfl ⟨by decide, by decide, by decide, by decide⟩ (Nat.le_of_ble_eq_true rfl) ?_
    refine x_add 4 (by decide) ?_
    refine Aft_n (WX_len2 _ _) ?_
    refine g_aload_n C0 dX9_judge_59 rfl ?_
    refine g_iload_n C0 dX9_judge_60 rfl ?_
    refine g_iload_n C0 dX9_judge_61 rfl ?_
    refine g_invV2 C0 dX9_judge_62 CX9_167 rfl rfl ⟨by decide, by decide, by decide, by decide⟩ (Nat.le_of_ble_eq_true rfl) ?_
    refine x_settle ?_
    refine Aft_v (WX_len2 _ _) ?_
    refine g_istore C0 dX9_judge_65 (by decide) ?_
    refine g_iload C0 dX9_judge_67 rfl ?_
    refine g_if_le (tgt := 84) C0 dX9_judge_69 (by decide) (fun h69 => ?_) (fun h69 => ?_)
    · refine g_iload C0 dX9_judge_84 rfl ?_
      refine g_iret C0 rfl dX9_judge_86 (by decide) (by decide) ?_
      rw [xJudge, if_neg, if_pos, if_pos] at hK
      · exact hK
      · exact h69
      · exact h17
      · exact h1
    refine g_aload_n C0 dX9_judge_72 rfl ?_
    refine g_getfield C0 dX9_judge_73 FX9_12 rfl rfl ?_
    refine g_getfield C0 dX9_judge_76 FX9_179 rfl rfl ?_
    refine g_iload_n C0 dX9_judge_79 rfl ?_
    refine g_iconst (v := 1) C0 dX9_judge_80 (by decide) ?_
    refine g_invV2 C0 dX9_judge_81 CX9_115 rfl rfl ⟨by decide, by decide, by decide, by decide⟩ (Nat.le_of_ble_eq_true rfl) ?_
    refine x_set 5 (by decide) ?_
    refine Aft_n (WX_len2 _ _) ?_
    refine g_iload C0 dX9_judge_84 rfl ?_
    refine g_iret C0 rfl dX9_judge_86 (by decide) (by decide) ?_
    rw [xJudge, if_neg, if_pos, if_neg] at hK
    · exact hK
    · exact h69
    · exact h17
    · exact h1
  refine g_throw C0 dX9_judge_20 dX9_judge_23 dX9_judge_24 dX9_judge_26 dX9_judge_29 HX9_judge_20 rfl (by decide) (Nat.le_of_ble_eq_true rfl) (by decide) (by decide) ?_
  rw [xJudge, if_neg, if_neg] at hK
  · exact hK
  · exact h17
  · exact h1
set_option maxRecDepth 100000 in
set_option maxHeartbeats 4000000 in
theorem p_call {q : XS} {K : AO → AW → Prop} {a b : Int32} {m : Nat} (hq : q.2 2 < 100000) (hl : ¬ noN a → ¬ noN b → nI (q.2 6) < 60 → ¬ (xfind q a b).2 = 0 → xg (cbegin (xfind q a b).1 a b (nI ((xfind q a b).1.2 0))) 33 (nI ((xfind q a b).1.2 6)) = nI (m + 1) ∧ m < 100000 ∧ (xfind q a b).1.2 7 < 100000) (hK : K (xCall q a b m).1 (WX (xCall q a b m).2)) : Snd MX9_call [.ref 0, .int a, .int b] (WX q) K := by
  refine Snd.of (by decide +kernel) (Nat.le_of_ble_eq_true rfl) rfl rfl ?_
  intro X D dA ad C0
  show Gd X _ MX9_call 0 [some (.ref 0), some (.int a), some (.int b)] [] _ 0 0
  refine g_iload_n C0 dX9_call_0 rfl ?_
  refine g_invS1 C0 dX9_call_1 CX9_126 rfl ⟨by decide, by decide, by decide, by decide⟩ (Nat.le_of_ble_eq_true rfl) ?_
  refine x_needN (fun h1 => Aft_x ?_) (fun h1 => Aft_n (WX_len2 _ _) ?_)
  · rw [xCall, if_pos] at hK
    · exact hK
    · exact h1
  refine g_iload_n C0 dX9_call_4 rfl ?_
  refine g_invS1 C0 dX9_call_5 CX9_126 rfl ⟨by decide, by decide, by decide, by decide⟩ (Nat.le_of_ble_eq_true rfl) ?_
  refine x_needN (fun h5 => Aft_x ?_) (fun h5 => Aft_n (WX_len2 _ _) ?_)
  · rw [xCall, if_neg, if_pos] at hK
    · exact hK
    · exact h5
    · exact h1
  refine g_iload_n C0 dX9_call_8 rfl ?_
  refine g_iload_n C0 dX9_call_9 rfl ?_
  refine g_invS2 C0 dX9_call_10 CX9_118 rfl ⟨by decide, by decide, by decide, by decide⟩ (Nat.le_of_ble_eq_true rfl) ?_
  refine x_needD (fun h10 => Aft_x ?_) (fun h10 => Aft_n (WX_len2 _ _) ?_)
  · rw [xCall, if_neg, if_neg, if_pos] at hK
    · exact hK
    · exact h10
    · exact h5
    · exact h1
  refine g_aload_n C0 dX9_call_13 rfl ?_
  refine g_getfield C0 dX9_call_14 FX9_12 rfl rfl ?_
  refine g_getfield C0 dX9_call_17 FX9_182 rfl rfl ?_
  refine g_iload_n C0 dX9_call_20 rfl ?_
  refine g_invV1 C0 dX9_call_21 CX9_111 rfl rfl ⟨by decide, by decide, by decide, by decide⟩ (Nat.le_of_ble_eq_true rfl) ?_
  refine x_get 6 (by decide) ?_
  refine Aft_v (WX_len2 _ _) ?_
  refine g_iconst (v := (-1)) C0 dX9_call_24 (by decide) ?_
  refine g_icmp_ne (tgt := 43) C0 dX9_call_25 (by decide) (fun h25 => ?_) (fun h25 => ?_)
  · refine g_throw C0 dX9_call_43 dX9_call_46 dX9_call_47 dX9_call_49 dX9_call_52 HX9_call_43 rfl (by decide) (Nat.le_of_ble_eq_true rfl) (by decide) (by decide) ?_
    rw [xCall, if_neg, if_neg, if_neg, if_neg] at hK
    · exact hK
    · exact h25
    · exact h10
    · exact h5
    · exact h1
  refine g_aload_n C0 dX9_call_28 rfl ?_
  refine g_getfield C0 dX9_call_29 FX9_12 rfl rfl ?_
  refine g_getfield C0 dX9_call_32 FX9_182 rfl rfl ?_
  refine g_iload_n C0 dX9_call_35 rfl ?_
  refine g_invV1 C0 dX9_call_36 CX9_111 rfl rfl ⟨by decide, by decide, by decide, by decide⟩ (Nat.le_of_ble_eq_true rfl) ?_
  refine x_get 6 (by decide) ?_
  refine Aft_v (WX_len2 _ _) ?_
  refine g_iconst (v := (-1)) C0 dX9_call_39 (by decide) ?_
  refine g_icmp_eq (tgt := 53) C0 dX9_call_40 (by decide) (fun h40 => ?_) (fun h40 => ?_)
  · refine g_aload_n C0 dX9_call_53 rfl ?_
    refine g_getfield C0 dX9_call_54 FX9_12 rfl rfl ?_
    refine g_getfield C0 dX9_call_57 FX9_179 rfl rfl ?_
    refine g_iload_n C0 dX9_call_60 rfl ?_
    refine g_invV1 C0 dX9_call_61 CX9_111 rfl rfl ⟨by decide, by decide, by decide, by decide⟩ (Nat.le_of_ble_eq_true rfl) ?_
    refine x_get 5 (by decide) ?_
    refine Aft_v (WX_len2 _ _) ?_
    refine g_if_eq (tgt := 77) C0 dX9_call_64 (by decide) (fun h64 => ?_) (fun h64 => ?_)
    · refine g_aload_n C0 dX9_call_77 rfl ?_
      refine g_getfield C0 dX9_call_78 FX9_63 rfl rfl ?_
      refine g_invV0 C0 dX9_call_81 CX9_188 rfl rfl ⟨by decide, by decide, by decide, by decide⟩ (Nat.le_of_ble_eq_true rfl) ?_
      refine x_cfull ?_
      refine Aft_v (WX_len2 _ _) ?_
      by_cases hf : nI (q.2 6) < 60
      · rw [if_pos hf]
        refine g_if_eq (tgt := 97) C0 dX9_call_84 (by decide) (fun _ => ?_) (fun z => (by revert z; decide +kernel : False).elim)
        refine g_aload_n C0 dX9_call_97 rfl ?_
        refine g_iload_n C0 dX9_call_98 rfl ?_
        refine g_iload_n C0 dX9_call_99 rfl ?_
        refine g_invV2 C0 dX9_call_100 CX9_191 rfl rfl ⟨by decide, by decide, by decide, by decide⟩ (Nat.le_of_ble_eq_true rfl) ?_
        refine x_find (by assumption) ?_
        refine Aft_v (WX_len2 _ _) ?_
        refine g_if_eq (tgt := 113) C0 dX9_call_103 (by decide) (fun h103 => ?_) (fun h103 => ?_)
        · refine g_aload_n C0 dX9_call_113 rfl ?_
          refine g_dup C0 dX9_call_114 rfl ?_
          refine g_getfield C0 dX9_call_115 FX9_78 rfl rfl ?_
          refine g_iconst (v := 1) C0 dX9_call_118 (by decide) ?_
          refine g_iadd C0 dX9_call_119 ?_
          refine g_putfield C0 dX9_call_120 FX9_78 rfl (Nat.le_of_ble_eq_true rfl) (fun _ => ⟨rfl, rfl⟩) ?_
          refine g_w (WX_put1i _) ?_
          refine g_aload_n C0 dX9_call_123 rfl ?_
          refine g_getfield C0 dX9_call_124 FX9_70 rfl rfl ?_
          refine g_getfield C0 dX9_call_127 FX9_198 rfl rfl ?_
          refine g_iconst (v := 1) C0 dX9_call_130 (by decide) ?_
          refine g_icmp_le (tgt := 155) C0 dX9_call_131 (by decide) (fun h131 => ?_) (fun h131 => ?_)
          · refine g_iconst (v := (-1)) C0 dX9_call_155 (by decide) ?_
            refine g_iret C0 rfl dX9_call_156 (by decide) (by decide) ?_
            rw [xCall, if_neg, if_neg, if_neg, if_pos, if_pos, if_pos, if_pos, if_pos, if_pos] at hK
            · exact hK
            · exact h131
            · exact h103
            · exact hf
            · exact h64
            · exact h40
            · exact h25
            · exact h10
            · exact h5
            · exact h1
          refine g_aload_n C0 dX9_call_134 rfl ?_
          refine g_getfield C0 dX9_call_135 FX9_19 rfl rfl ?_
          refine g_aload_n C0 dX9_call_138 rfl ?_
          refine g_getfield C0 dX9_call_139 FX9_70 rfl rfl ?_
          refine g_invV0 C0 dX9_call_142 CX9_201 rfl rfl ⟨by decide, by decide, by decide, by decide⟩ (Nat.le_of_ble_eq_true rfl) ?_
          refine x_wlast ?_
          refine Aft_v (WX_len2 _ _) ?_
          refine g_aload_n C0 dX9_call_145 rfl ?_
          refine g_getfield C0 dX9_call_146 FX9_70 rfl rfl ?_
          refine g_invV0 C0 dX9_call_149 CX9_205 rfl rfl ⟨by decide, by decide, by decide, by decide⟩ (Nat.le_of_ble_eq_true rfl) ?_
          refine x_wfirst ?_
          refine Aft_v (WX_len2 _ _) ?_
          refine g_invV2 C0 dX9_call_152 CX9_208 rfl rfl ⟨by decide, by decide, by decide, by decide⟩ (Nat.le_of_ble_eq_true rfl) ?_
          refine x_payLoss ?_
          refine Aft_n (WX_len2 _ _) ?_
          refine g_iconst (v := (-1)) C0 dX9_call_155 (by decide) ?_
          refine g_iret C0 rfl dX9_call_156 (by decide) (by decide) ?_
          rw [xCall, if_neg, if_neg, if_neg, if_pos, if_pos, if_pos, if_pos, if_pos, if_neg] at hK
          · exact hK
          · exact h131
          · exact h103
          · exact hf
          · exact h64
          · exact h40
          · exact h25
          · exact h10
          · exact h5
          · exact h1
        refine g_aload_n C0 dX9_call_106 rfl ?_
        refine g_iload_n C0 dX9_call_107 rfl ?_
        refine g_iload_n C0 dX9_call_108 rfl ?_
        refine g_invV2 C0 dX9_call_109 CX9_195 rfl rfl ⟨by decide, by decide, by decide, by decide⟩ (Nat.le_of_ble_eq_true rfl) ?_
        refine x_begin (hl h1 h5 hf h103).2.2 (hl h1 h5 hf h103).1 (hl h1 h5 hf h103).2.1 ?_
        refine Aft_v (WX_len2 _ _) ?_
        refine g_iret C0 rfl dX9_call_112 (by decide) (by decide) ?_
        rw [xCall, if_neg, if_neg, if_neg, if_pos, if_pos, if_pos, if_pos, if_neg] at hK
        · exact hK
        · exact h103
        · exact hf
        · exact h64
        · exact h40
        · exact h25
        · exact h10
        · exact h5
        · exact h1
      rw [if_neg hf]
      refine g_if_eq (tgt := 97) C0 dX9_call_84 (by decide) (fun z => (by revert z; decide +kernel : False).elim) (fun _ => ?_)
      refine g_throw C0 dX9_call_87 dX9_call_90 dX9_call_91 dX9_call_93 dX9_call_96 HX9_call_87 rfl (by decide) (Nat.le_of_ble_eq_true rfl) (by decide) (by decide) ?_
      rw [xCall, if_neg, if_neg, if_neg, if_pos, if_pos, if_pos, if_neg] at hK
      · exact hK
      · exact hf
      · exact h64
      · exact h40
      · exact h25
      · exact h10
      · exact h5
      · exact h1
    refine g_throw C0 dX9_call_67 dX9_call_70 dX9_call_71 dX9_call_73 dX9_call_76 HX9_call_67 rfl (by decide) (Nat.le_of_ble_eq_true rfl) (by decide) (by decide) ?_
    rw [xCall, if_neg, if_neg, if_neg, if_pos, if_pos, if_neg] at hK
    · exact hK
    · exact h64
    · exact h40
    · exact h25
    · exact h10
    · exact h5
    · exact h1
  refine g_throw C0 dX9_call_43 dX9_call_46 dX9_call_47 dX9_call_49 dX9_call_52 HX9_call_43 rfl (by decide) (Nat.le_of_ble_eq_true rfl) (by decide) (by decide) ?_
  rw [xCall, if_neg, if_neg, if_neg, if_pos, if_neg] at hK
  · exact hK
  · exact h40
  · exact h25
  · exact h10
  · exact h5
  · exact h1
set_option maxRecDepth 100000 in
set_option maxHeartbeats 4000000 in
theorem p_hangUp {q : XS} {K : AO → AW → Prop} {c : Int32} {m : Nat} (hl : ¬ noK q c → xg q 33 c = nI (m + 1) ∧ m < 100000) (hK : K (xHangUp q c m).1 (WX (xHangUp q c m).2)) : Snd MX9_hangUp [.ref 0, .int c] (WX q) K := by
  refine Snd.of (by decide +kernel) (Nat.le_of_ble_eq_true rfl) rfl rfl ?_
  intro X D dA ad C0
  show Gd X _ MX9_hangUp 0 [some (.ref 0), some (.int c)] [] _ 0 0
  refine g_aload_n C0 dX9_hangUp_0 rfl ?_
  refine g_iload_n C0 dX9_hangUp_1 rfl ?_
  refine g_invV1 C0 dX9_hangUp_2 CX9_211 rfl rfl ⟨by decide, by decide, by decide, by decide⟩ (Nat.le_of_ble_eq_true rfl) ?_
  refine x_needK (fun h2 => Aft_x ?_) (fun h2 => Aft_n (WX_len2 _ _) ?_)
  · rw [xHangUp, if_pos] at hK
    · exact hK
    · exact h2
  refine g_aload_n C0 dX9_hangUp_5 rfl ?_
  refine g_getfield C0 dX9_hangUp_6 FX9_63 rfl rfl ?_
  refine g_iload_n C0 dX9_hangUp_9 rfl ?_
  refine g_invV1 C0 dX9_hangUp_10 CX9_214 rfl rfl ⟨by decide, by decide, by decide, by decide⟩ (Nat.le_of_ble_eq_true rfl) ?_
  refine x_goesOn ?_
  refine Aft_v (WX_len2 _ _) ?_
  unfold cgoes
  by_cases hf : xg q 31 c = 0
  · rw [if_pos hf]
    refine g_if_ne (tgt := 26) C0 dX9_hangUp_13 (by decide) (fun _ => ?_) (fun z => (by revert z; decide +kernel : False).elim)
    refine g_aload_n C0 dX9_hangUp_26 rfl ?_
    refine g_iload_n C0 dX9_hangUp_27 rfl ?_
    refine g_iconst (v := 1) C0 dX9_hangUp_28 (by decide) ?_
    refine g_invV2 C0 dX9_hangUp_29 CX9_220 rfl rfl ⟨by decide, by decide, by decide, by decide⟩ (Nat.le_of_ble_eq_true rfl) ?_
    refine x_end (hl h2).1 (hl h2).2 ?_
    refine Aft_n (WX_len2 _ _) ?_
    refine g_aload_n C0 dX9_hangUp_32 rfl ?_
    refine g_getfield C0 dX9_hangUp_33 FX9_63 rfl rfl ?_
    refine g_iload_n C0 dX9_hangUp_36 rfl ?_
    refine g_aload_n C0 dX9_hangUp_37 rfl ?_
    refine g_getfield C0 dX9_hangUp_38 FX9_74 rfl rfl ?_
    refine g_invV2 C0 dX9_hangUp_41 CX9_223 rfl rfl ⟨by decide, by decide, by decide, by decide⟩ (Nat.le_of_ble_eq_true rfl) ?_
    refine x_lasted ?_
    refine Aft_v (WX_len2 _ _) ?_
    refine g_iret C0 rfl dX9_hangUp_44 (by decide) (by decide) ?_
    rw [xHangUp, if_neg, if_pos] at hK
    · exact hK
    · exact hf
    · exact h2
  rw [if_neg hf]
  refine g_if_ne (tgt := 26) C0 dX9_hangUp_13 (by decide) (fun z => (by revert z; decide +kernel : False).elim) (fun _ => ?_)
  refine g_throw C0 dX9_hangUp_16 dX9_hangUp_19 dX9_hangUp_20 dX9_hangUp_22 dX9_hangUp_25 HX9_hangUp_16 rfl (by decide) (Nat.le_of_ble_eq_true rfl) (by decide) (by decide) ?_
  rw [xHangUp, if_neg, if_neg] at hK
  · exact hK
  · exact hf
  · exact h2
set_option maxRecDepth 100000 in
set_option maxHeartbeats 4000000 in
theorem p_pass {q : XS} {K : AO → AW → Prop} {s : Int32} (h4 : q.2 4 < 100000) (h5 : q.2 5 < 100000) (h6 : q.2 6 < 100000) (hK : K (xPass q s).1 (WX (xPass q s).2)) : Snd MX9_pass [.ref 0, .int s] (WX q) K := by
  refine Snd.of (by decide +kernel) (Nat.le_of_ble_eq_true rfl) rfl rfl ?_
  intro X D dA ad C0
  show Gd X _ MX9_pass 0 [some (.ref 0), some (.int s), none, none, none] [] _ 0 0
  refine g_iload_n C0 dX9_pass_0 rfl ?_
  refine g_iconst (v := 1) C0 dX9_pass_1 (by decide) ?_
  refine g_sipush (v := 2000) C0 dX9_pass_2 (by decide) ?_
  refine g_invS3 C0 dX9_pass_5 CX9_85 rfl ⟨by decide, by decide, by decide, by decide⟩ (Nat.le_of_ble_eq_true rfl) ?_
  refine x_needW (fun h5w => Aft_x ?_) (fun h5w => Aft_n (WX_len2 _ _) ?_)
  · rw [xPass, if_pos] at hK
    · exact hK
    · exact h5w
  refine g_aload_n C0 dX9_pass_8 rfl ?_
  refine g_getfield C0 dX9_pass_9 FX9_74 rfl rfl ?_
  refine g_iload_n C0 dX9_pass_12 rfl ?_
  refine g_iadd C0 dX9_pass_13 ?_
  refine g_sipush (v := 20000) C0 dX9_pass_14 (by decide) ?_
  refine g_icmp_le (tgt := 30) C0 dX9_pass_17 (by decide) (fun h17 => ?_) (fun h17 => ?_)
  · rw [xPass, if_neg h5w, if_pos h17] at hK
    obtain ⟨j, hj, rfl⟩ := nI_of2 (M := 2000) (n := 2000) (by decide) (fun z => h5w (Or.inl (Int32.lt_trans z (by decide)))) (Int32.not_lt.mp fun z => h5w (Or.inr z))
    rw [nI_clamp (by omega)] at hK
    refine g_aload_n C0 dX9_pass_30 rfl ?_
    refine g_getfield C0 dX9_pass_31 FX9_74 rfl rfl ?_
    refine g_iload_n C0 dX9_pass_34 rfl ?_
    refine g_iadd C0 dX9_pass_35 ?_
    rw [nI_add]
    refine g_istore_n C0 dX9_pass_36 (by decide) ?_
    refine g_iconst (v := 0) C0 dX9_pass_37 (by decide) ?_
    refine g_istore_n C0 dX9_pass_38 (by decide) ?_
    refine g_iconst (v := 0) C0 dX9_pass_39 (by decide) ?_
    refine g_istore C0 dX9_pass_40 (by decide) ?_
    exact lp_pass h4 h5 h6 hK C0 (q.2 6) 0 (by omega)
  refine g_throw C0 dX9_pass_20 dX9_pass_23 dX9_pass_24 dX9_pass_26 dX9_pass_29 HX9_pass_20 rfl (by decide) (Nat.le_of_ble_eq_true rfl) (by decide) (by decide) ?_
  rw [xPass, if_neg, if_neg] at hK
  · exact hK
  · exact h17
  · exact h5w
set_option maxRecDepth 100000 in
set_option maxHeartbeats 4000000 in
theorem p_second {q : XS} {K : AO → AW → Prop} (hK : K (xSecond q).1 (WX (xSecond q).2)) : Snd MX9_second [.ref 0] (WX q) K := by
  refine Snd.of (by decide +kernel) (Nat.le_of_ble_eq_true rfl) rfl rfl ?_
  intro X D dA ad C0
  show Gd X _ MX9_second 0 [some (.ref 0)] [] _ 0 0
  refine g_aload_n C0 dX9_second_0 rfl ?_
  refine g_getfield C0 dX9_second_1 FX9_74 rfl rfl ?_
  refine g_iret C0 rfl dX9_second_4 (by decide) (by decide) ?_
  unfold xSecond at hK; exact hK
set_option maxRecDepth 100000 in
set_option maxHeartbeats 4000000 in
theorem p_isDear {q : XS} {K : AO → AW → Prop} (hK : K (xIsDear q).1 (WX (xIsDear q).2)) : Snd MX9_isDear [.ref 0] (WX q) K := by
  refine Snd.of (by decide +kernel) (Nat.le_of_ble_eq_true rfl) rfl rfl ?_
  intro X D dA ad C0
  show Gd X _ MX9_isDear 0 [some (.ref 0), none] [] _ 0 0
  refine g_aload_n C0 dX9_isDear_0 rfl ?_
  refine g_getfield C0 dX9_isDear_1 FX9_74 rfl rfl ?_
  refine g_sipush (v := 1440) C0 dX9_isDear_4 (by decide) ?_
  refine g_irem C0 dX9_isDear_7 (by decide) ?_
  refine g_istore_n C0 dX9_isDear_8 (by decide) ?_
  refine g_iload_n C0 dX9_isDear_9 rfl ?_
  refine g_sipush (v := 480) C0 dX9_isDear_10 (by decide) ?_
  refine g_icmp_lt (tgt := 27) C0 dX9_isDear_13 (by decide) (fun h13 => ?_) (fun h13 => ?_)
  · refine g_iconst (v := 0) C0 dX9_isDear_27 (by decide) ?_
    refine g_zret C0 rfl rfl dX9_isDear_28 (by decide) (by decide) ?_
    rw [xIsDear, if_pos] at hK
    · exact hK
    · exact h13
  refine g_iload_n C0 dX9_isDear_16 rfl ?_
  refine g_sipush (v := 1200) C0 dX9_isDear_17 (by decide) ?_
  refine g_icmp_ge (tgt := 27) C0 dX9_isDear_20 (by decide) (fun h20 => ?_) (fun h20 => ?_)
  · refine g_iconst (v := 0) C0 dX9_isDear_27 (by decide) ?_
    refine g_zret C0 rfl rfl dX9_isDear_28 (by decide) (by decide) ?_
    rw [xIsDear, if_neg, if_pos] at hK
    · exact hK
    · exact h20
    · exact h13
  refine g_iconst (v := 1) C0 dX9_isDear_23 (by decide) ?_
  refine g_goto (tgt := 28) C0 dX9_isDear_24 (by decide) ?_
  refine g_zret C0 rfl rfl dX9_isDear_28 (by decide) (by decide) ?_
  rw [xIsDear, if_neg, if_neg] at hK
  · exact hK
  · exact h20
  · exact h13
set_option maxRecDepth 100000 in
set_option maxHeartbeats 4000000 in
theorem p_calls {q : XS} {K : AO → AW → Prop} (hK : K (xCalls q).1 (WX (xCalls q).2)) : Snd MX9_calls [.ref 0] (WX q) K := by
  refine Snd.of (by decide +kernel) (Nat.le_of_ble_eq_true rfl) rfl rfl ?_
  intro X D dA ad C0
  show Gd X _ MX9_calls 0 [some (.ref 0)] [] _ 0 0
  refine g_aload_n C0 dX9_calls_0 rfl ?_
  refine g_getfield C0 dX9_calls_1 FX9_63 rfl rfl ?_
  refine g_getfield C0 dX9_calls_4 FX9_228 rfl rfl ?_
  refine g_iret C0 rfl dX9_calls_7 (by decide) (by decide) ?_
  unfold xCalls at hK; exact hK
set_option maxRecDepth 100000 in
set_option maxHeartbeats 4000000 in
theorem p_lost {q : XS} {K : AO → AW → Prop} (hK : K (xLost q).1 (WX (xLost q).2)) : Snd MX9_lost [.ref 0] (WX q) K := by
  refine Snd.of (by decide +kernel) (Nat.le_of_ble_eq_true rfl) rfl rfl ?_
  intro X D dA ad C0
  show Gd X _ MX9_lost 0 [some (.ref 0)] [] _ 0 0
  refine g_aload_n C0 dX9_lost_0 rfl ?_
  refine g_getfield C0 dX9_lost_1 FX9_78 rfl rfl ?_
  refine g_iret C0 rfl dX9_lost_4 (by decide) (by decide) ?_
  unfold xLost at hK; exact hK
set_option maxRecDepth 100000 in
set_option maxHeartbeats 4000000 in
theorem p_carrierOf {q : XS} {K : AO → AW → Prop} {n : Int32} (hK : K (xOfN q 0 n).1 (WX (xOfN q 0 n).2)) : Snd MX9_carrierOf [.ref 0, .int n] (WX q) K := by
  refine Snd.of (by decide +kernel) (Nat.le_of_ble_eq_true rfl) rfl rfl ?_
  intro X D dA ad C0
  show Gd X _ MX9_carrierOf 0 [some (.ref 0), some (.int n)] [] _ 0 0
  refine g_iload_n C0 dX9_carrierOf_0 rfl ?_
  refine g_invS1 C0 dX9_carrierOf_1 CX9_126 rfl ⟨by decide, by decide, by decide, by decide⟩ (Nat.le_of_ble_eq_true rfl) ?_
  refine x_needN (fun h1 => Aft_x ?_) (fun h1 => Aft_n (WX_len2 _ _) ?_)
  · rw [xOfN, if_pos] at hK
    · exact hK
    · exact h1
  refine g_aload_n C0 dX9_carrierOf_4 rfl ?_
  refine g_getfield C0 dX9_carrierOf_5 FX9_12 rfl rfl ?_
  refine g_getfield C0 dX9_carrierOf_8 FX9_129 rfl rfl ?_
  refine g_iload_n C0 dX9_carrierOf_11 rfl ?_
  refine g_invV1 C0 dX9_carrierOf_12 CX9_111 rfl rfl ⟨by decide, by decide, by decide, by decide⟩ (Nat.le_of_ble_eq_true rfl) ?_
  refine x_get 0 (by decide) ?_
  refine Aft_v (WX_len2 _ _) ?_
  refine g_iret C0 rfl dX9_carrierOf_15 (by decide) (by decide) ?_
  rw [xOfN, if_neg] at hK
  · exact hK
  · exact h1
set_option maxRecDepth 100000 in
set_option maxHeartbeats 4000000 in
theorem p_ownerOf {q : XS} {K : AO → AW → Prop} {n : Int32} (hK : K (xOfN q 1 n).1 (WX (xOfN q 1 n).2)) : Snd MX9_ownerOf [.ref 0, .int n] (WX q) K := by
  refine Snd.of (by decide +kernel) (Nat.le_of_ble_eq_true rfl) rfl rfl ?_
  intro X D dA ad C0
  show Gd X _ MX9_ownerOf 0 [some (.ref 0), some (.int n)] [] _ 0 0
  refine g_iload_n C0 dX9_ownerOf_0 rfl ?_
  refine g_invS1 C0 dX9_ownerOf_1 CX9_126 rfl ⟨by decide, by decide, by decide, by decide⟩ (Nat.le_of_ble_eq_true rfl) ?_
  refine x_needN (fun h1 => Aft_x ?_) (fun h1 => Aft_n (WX_len2 _ _) ?_)
  · rw [xOfN, if_pos] at hK
    · exact hK
    · exact h1
  refine g_aload_n C0 dX9_ownerOf_4 rfl ?_
  refine g_getfield C0 dX9_ownerOf_5 FX9_12 rfl rfl ?_
  refine g_getfield C0 dX9_ownerOf_8 FX9_154 rfl rfl ?_
  refine g_iload_n C0 dX9_ownerOf_11 rfl ?_
  refine g_invV1 C0 dX9_ownerOf_12 CX9_111 rfl rfl ⟨by decide, by decide, by decide, by decide⟩ (Nat.le_of_ble_eq_true rfl) ?_
  refine x_get 1 (by decide) ?_
  refine Aft_v (WX_len2 _ _) ?_
  refine g_iret C0 rfl dX9_ownerOf_15 (by decide) (by decide) ?_
  rw [xOfN, if_neg] at hK
  · exact hK
  · exact h1
set_option maxRecDepth 100000 in
set_option maxHeartbeats 4000000 in
theorem p_debt {q : XS} {K : AO → AW → Prop} {n : Int32} (hK : K (xOfN q 2 n).1 (WX (xOfN q 2 n).2)) : Snd MX9_debt [.ref 0, .int n] (WX q) K := by
  refine Snd.of (by decide +kernel) (Nat.le_of_ble_eq_true rfl) rfl rfl ?_
  intro X D dA ad C0
  show Gd X _ MX9_debt 0 [some (.ref 0), some (.int n)] [] _ 0 0
  refine g_iload_n C0 dX9_debt_0 rfl ?_
  refine g_invS1 C0 dX9_debt_1 CX9_126 rfl ⟨by decide, by decide, by decide, by decide⟩ (Nat.le_of_ble_eq_true rfl) ?_
  refine x_needN (fun h1 => Aft_x ?_) (fun h1 => Aft_n (WX_len2 _ _) ?_)
  · rw [xOfN, if_pos] at hK
    · exact hK
    · exact h1
  refine g_aload_n C0 dX9_debt_4 rfl ?_
  refine g_getfield C0 dX9_debt_5 FX9_12 rfl rfl ?_
  refine g_getfield C0 dX9_debt_8 FX9_131 rfl rfl ?_
  refine g_iload_n C0 dX9_debt_11 rfl ?_
  refine g_invV1 C0 dX9_debt_12 CX9_111 rfl rfl ⟨by decide, by decide, by decide, by decide⟩ (Nat.le_of_ble_eq_true rfl) ?_
  refine x_get 2 (by decide) ?_
  refine Aft_v (WX_len2 _ _) ?_
  refine g_iret C0 rfl dX9_debt_15 (by decide) (by decide) ?_
  rw [xOfN, if_neg] at hK
  · exact hK
  · exact h1
set_option maxRecDepth 100000 in
set_option maxHeartbeats 4000000 in
theorem p_bondOf {q : XS} {K : AO → AW → Prop} {n : Int32} (hK : K (xOfN q 4 n).1 (WX (xOfN q 4 n).2)) : Snd MX9_bondOf [.ref 0, .int n] (WX q) K := by
  refine Snd.of (by decide +kernel) (Nat.le_of_ble_eq_true rfl) rfl rfl ?_
  intro X D dA ad C0
  show Gd X _ MX9_bondOf 0 [some (.ref 0), some (.int n)] [] _ 0 0
  refine g_iload_n C0 dX9_bondOf_0 rfl ?_
  refine g_invS1 C0 dX9_bondOf_1 CX9_126 rfl ⟨by decide, by decide, by decide, by decide⟩ (Nat.le_of_ble_eq_true rfl) ?_
  refine x_needN (fun h1 => Aft_x ?_) (fun h1 => Aft_n (WX_len2 _ _) ?_)
  · rw [xOfN, if_pos] at hK
    · exact hK
    · exact h1
  refine g_aload_n C0 dX9_bondOf_4 rfl ?_
  refine g_getfield C0 dX9_bondOf_5 FX9_12 rfl rfl ?_
  refine g_getfield C0 dX9_bondOf_8 FX9_136 rfl rfl ?_
  refine g_iload_n C0 dX9_bondOf_11 rfl ?_
  refine g_invV1 C0 dX9_bondOf_12 CX9_111 rfl rfl ⟨by decide, by decide, by decide, by decide⟩ (Nat.le_of_ble_eq_true rfl) ?_
  refine x_get 4 (by decide) ?_
  refine Aft_v (WX_len2 _ _) ?_
  refine g_iret C0 rfl dX9_bondOf_15 (by decide) (by decide) ?_
  rw [xOfN, if_neg] at hK
  · exact hK
  · exact h1
set_option maxRecDepth 100000 in
set_option maxHeartbeats 4000000 in
theorem p_callOf {q : XS} {K : AO → AW → Prop} {n : Int32} (hK : K (xOfN q 6 n).1 (WX (xOfN q 6 n).2)) : Snd MX9_callOf [.ref 0, .int n] (WX q) K := by
  refine Snd.of (by decide +kernel) (Nat.le_of_ble_eq_true rfl) rfl rfl ?_
  intro X D dA ad C0
  show Gd X _ MX9_callOf 0 [some (.ref 0), some (.int n)] [] _ 0 0
  refine g_iload_n C0 dX9_callOf_0 rfl ?_
  refine g_invS1 C0 dX9_callOf_1 CX9_126 rfl ⟨by decide, by decide, by decide, by decide⟩ (Nat.le_of_ble_eq_true rfl) ?_
  refine x_needN (fun h1 => Aft_x ?_) (fun h1 => Aft_n (WX_len2 _ _) ?_)
  · rw [xOfN, if_pos] at hK
    · exact hK
    · exact h1
  refine g_aload_n C0 dX9_callOf_4 rfl ?_
  refine g_getfield C0 dX9_callOf_5 FX9_12 rfl rfl ?_
  refine g_getfield C0 dX9_callOf_8 FX9_182 rfl rfl ?_
  refine g_iload_n C0 dX9_callOf_11 rfl ?_
  refine g_invV1 C0 dX9_callOf_12 CX9_111 rfl rfl ⟨by decide, by decide, by decide, by decide⟩ (Nat.le_of_ble_eq_true rfl) ?_
  refine x_get 6 (by decide) ?_
  refine Aft_v (WX_len2 _ _) ?_
  refine g_iret C0 rfl dX9_callOf_15 (by decide) (by decide) ?_
  rw [xOfN, if_neg] at hK
  · exact hK
  · exact h1
set_option maxRecDepth 100000 in
set_option maxHeartbeats 4000000 in
theorem p_coins {q : XS} {K : AO → AW → Prop} {n : Int32} (hK : K (xOfC q 8 n).1 (WX (xOfC q 8 n).2)) : Snd MX9_coins [.ref 0, .int n] (WX q) K := by
  refine Snd.of (by decide +kernel) (Nat.le_of_ble_eq_true rfl) rfl rfl ?_
  intro X D dA ad C0
  show Gd X _ MX9_coins 0 [some (.ref 0), some (.int n)] [] _ 0 0
  refine g_iload_n C0 dX9_coins_0 rfl ?_
  refine g_invS1 C0 dX9_coins_1 CX9_81 rfl ⟨by decide, by decide, by decide, by decide⟩ (Nat.le_of_ble_eq_true rfl) ?_
  refine x_needC (fun h1 => Aft_x ?_) (fun h1 => Aft_n (WX_len2 _ _) ?_)
  · rw [xOfC, if_pos] at hK
    · exact hK
    · exact h1
  refine g_aload_n C0 dX9_coins_4 rfl ?_
  refine g_getfield C0 dX9_coins_5 FX9_19 rfl rfl ?_
  refine g_getfield C0 dX9_coins_8 FX9_270 rfl rfl ?_
  refine g_iload_n C0 dX9_coins_11 rfl ?_
  refine g_invV1 C0 dX9_coins_12 CX9_111 rfl rfl ⟨by decide, by decide, by decide, by decide⟩ (Nat.le_of_ble_eq_true rfl) ?_
  refine x_get 8 (by decide) ?_
  refine Aft_v (WX_len2 _ _) ?_
  refine g_iret C0 rfl dX9_coins_15 (by decide) (by decide) ?_
  rw [xOfC, if_neg] at hK
  · exact hK
  · exact h1
set_option maxRecDepth 100000 in
set_option maxHeartbeats 4000000 in
theorem p_earned {q : XS} {K : AO → AW → Prop} {n : Int32} (hK : K (xOfC q 9 n).1 (WX (xOfC q 9 n).2)) : Snd MX9_earned [.ref 0, .int n] (WX q) K := by
  refine Snd.of (by decide +kernel) (Nat.le_of_ble_eq_true rfl) rfl rfl ?_
  intro X D dA ad C0
  show Gd X _ MX9_earned 0 [some (.ref 0), some (.int n)] [] _ 0 0
  refine g_iload_n C0 dX9_earned_0 rfl ?_
  refine g_invS1 C0 dX9_earned_1 CX9_81 rfl ⟨by decide, by decide, by decide, by decide⟩ (Nat.le_of_ble_eq_true rfl) ?_
  refine x_needC (fun h1 => Aft_x ?_) (fun h1 => Aft_n (WX_len2 _ _) ?_)
  · rw [xOfC, if_pos] at hK
    · exact hK
    · exact h1
  refine g_aload_n C0 dX9_earned_4 rfl ?_
  refine g_getfield C0 dX9_earned_5 FX9_19 rfl rfl ?_
  refine g_getfield C0 dX9_earned_8 FX9_273 rfl rfl ?_
  refine g_iload_n C0 dX9_earned_11 rfl ?_
  refine g_invV1 C0 dX9_earned_12 CX9_111 rfl rfl ⟨by decide, by decide, by decide, by decide⟩ (Nat.le_of_ble_eq_true rfl) ?_
  refine x_get 9 (by decide) ?_
  refine Aft_v (WX_len2 _ _) ?_
  refine g_iret C0 rfl dX9_earned_15 (by decide) (by decide) ?_
  rw [xOfC, if_neg] at hK
  · exact hK
  · exact h1
set_option maxRecDepth 100000 in
set_option maxHeartbeats 4000000 in
theorem p_losses {q : XS} {K : AO → AW → Prop} {n : Int32} (hK : K (xOfC q 10 n).1 (WX (xOfC q 10 n).2)) : Snd MX9_losses [.ref 0, .int n] (WX q) K := by
  refine Snd.of (by decide +kernel) (Nat.le_of_ble_eq_true rfl) rfl rfl ?_
  intro X D dA ad C0
  show Gd X _ MX9_losses 0 [some (.ref 0), some (.int n)] [] _ 0 0
  refine g_iload_n C0 dX9_losses_0 rfl ?_
  refine g_invS1 C0 dX9_losses_1 CX9_81 rfl ⟨by decide, by decide, by decide, by decide⟩ (Nat.le_of_ble_eq_true rfl) ?_
  refine x_needC (fun h1 => Aft_x ?_) (fun h1 => Aft_n (WX_len2 _ _) ?_)
  · rw [xOfC, if_pos] at hK
    · exact hK
    · exact h1
  refine g_aload_n C0 dX9_losses_4 rfl ?_
  refine g_getfield C0 dX9_losses_5 FX9_19 rfl rfl ?_
  refine g_getfield C0 dX9_losses_8 FX9_276 rfl rfl ?_
  refine g_iload_n C0 dX9_losses_11 rfl ?_
  refine g_invV1 C0 dX9_losses_12 CX9_111 rfl rfl ⟨by decide, by decide, by decide, by decide⟩ (Nat.le_of_ble_eq_true rfl) ?_
  refine x_get 10 (by decide) ?_
  refine Aft_v (WX_len2 _ _) ?_
  refine g_iret C0 rfl dX9_losses_15 (by decide) (by decide) ?_
  rw [xOfC, if_neg] at hK
  · exact hK
  · exact h1
set_option maxRecDepth 100000 in
set_option maxHeartbeats 4000000 in
theorem p_state {q : XS} {K : AO → AW → Prop} {n : Int32} (hK : K (xOfK q 31 n).1 (WX (xOfK q 31 n).2)) : Snd MX9_state [.ref 0, .int n] (WX q) K := by
  refine Snd.of (by decide +kernel) (Nat.le_of_ble_eq_true rfl) rfl rfl ?_
  intro X D dA ad C0
  show Gd X _ MX9_state 0 [some (.ref 0), some (.int n)] [] _ 0 0
  refine g_aload_n C0 dX9_state_0 rfl ?_
  refine g_iload_n C0 dX9_state_1 rfl ?_
  refine g_invV1 C0 dX9_state_2 CX9_211 rfl rfl ⟨by decide, by decide, by decide, by decide⟩ (Nat.le_of_ble_eq_true rfl) ?_
  refine x_needK (fun h2 => Aft_x ?_) (fun h2 => Aft_n (WX_len2 _ _) ?_)
  · rw [xOfK, if_pos] at hK
    · exact hK
    · exact h2
  refine g_aload_n C0 dX9_state_5 rfl ?_
  refine g_getfield C0 dX9_state_6 FX9_63 rfl rfl ?_
  refine g_getfield C0 dX9_state_9 FX9_253 rfl rfl ?_
  refine g_iload_n C0 dX9_state_12 rfl ?_
  refine g_invV1 C0 dX9_state_13 CX9_111 rfl rfl ⟨by decide, by decide, by decide, by decide⟩ (Nat.le_of_ble_eq_true rfl) ?_
  refine x_get 31 (by decide) ?_
  refine Aft_v (WX_len2 _ _) ?_
  refine g_iret C0 rfl dX9_state_16 (by decide) (by decide) ?_
  rw [xOfK, if_neg] at hK
  · exact hK
  · exact h2
set_option maxRecDepth 100000 in
set_option maxHeartbeats 4000000 in
theorem p_charged {q : XS} {K : AO → AW → Prop} {n : Int32} (hK : K (xOfK q 32 n).1 (WX (xOfK q 32 n).2)) : Snd MX9_charged [.ref 0, .int n] (WX q) K := by
  refine Snd.of (by decide +kernel) (Nat.le_of_ble_eq_true rfl) rfl rfl ?_
  intro X D dA ad C0
  show Gd X _ MX9_charged 0 [some (.ref 0), some (.int n)] [] _ 0 0
  refine g_aload_n C0 dX9_charged_0 rfl ?_
  refine g_iload_n C0 dX9_charged_1 rfl ?_
  refine g_invV1 C0 dX9_charged_2 CX9_211 rfl rfl ⟨by decide, by decide, by decide, by decide⟩ (Nat.le_of_ble_eq_true rfl) ?_
  refine x_needK (fun h2 => Aft_x ?_) (fun h2 => Aft_n (WX_len2 _ _) ?_)
  · rw [xOfK, if_pos] at hK
    · exact hK
    · exact h2
  refine g_aload_n C0 dX9_charged_5 rfl ?_
  refine g_getfield C0 dX9_charged_6 FX9_63 rfl rfl ?_
  refine g_getfield C0 dX9_charged_9 FX9_267 rfl rfl ?_
  refine g_iload_n C0 dX9_charged_12 rfl ?_
  refine g_invV1 C0 dX9_charged_13 CX9_111 rfl rfl ⟨by decide, by decide, by decide, by decide⟩ (Nat.le_of_ble_eq_true rfl) ?_
  refine x_get 32 (by decide) ?_
  refine Aft_v (WX_len2 _ _) ?_
  refine g_iret C0 rfl dX9_charged_16 (by decide) (by decide) ?_
  rw [xOfK, if_neg] at hK
  · exact hK
  · exact h2
set_option maxRecDepth 100000 in
set_option maxHeartbeats 4000000 in
theorem p_carrierThen {q : XS} {K : AO → AW → Prop} {n s : Int32} (hq : q.2 2 < 100000) (hK : K (xCarrierThen q n s).1 (WX (xCarrierThen q n s).2)) : Snd MX9_carrierThen [.ref 0, .int n, .int s] (WX q) K := by
  refine Snd.of (by decide +kernel) (Nat.le_of_ble_eq_true rfl) rfl rfl ?_
  intro X D dA ad C0
  show Gd X _ MX9_carrierThen 0 [some (.ref 0), some (.int n), some (.int s)] [] _ 0 0
  refine g_iload_n C0 dX9_carrierThen_0 rfl ?_
  refine g_invS1 C0 dX9_carrierThen_1 CX9_126 rfl ⟨by decide, by decide, by decide, by decide⟩ (Nat.le_of_ble_eq_true rfl) ?_
  refine x_needN (fun h1 => Aft_x ?_) (fun h1 => Aft_n (WX_len2 _ _) ?_)
  · rw [xCarrierThen, if_pos] at hK
    · exact hK
    · exact h1
  refine g_iload_n C0 dX9_carrierThen_4 rfl ?_
  refine g_iconst (v := 0) C0 dX9_carrierThen_5 (by decide) ?_
  refine g_aload_n C0 dX9_carrierThen_6 rfl ?_
  refine g_getfield C0 dX9_carrierThen_7 FX9_74 rfl rfl ?_
  refine g_invS3 C0 dX9_carrierThen_10 CX9_85 rfl ⟨by decide, by decide, by decide, by decide⟩ (Nat.le_of_ble_eq_true rfl) ?_
  refine x_needW (fun h10 => Aft_x ?_) (fun h10 => Aft_n (WX_len2 _ _) ?_)
  · rw [xCarrierThen, if_neg, if_pos] at hK
    · exact hK
    · exact h10
    · exact h1
  refine g_aload_n C0 dX9_carrierThen_13 rfl ?_
  refine g_getfield C0 dX9_carrierThen_14 FX9_42 rfl rfl ?_
  refine g_iload_n C0 dX9_carrierThen_17 rfl ?_
  refine g_iload_n C0 dX9_carrierThen_18 rfl ?_
  refine g_invV2 C0 dX9_carrierThen_19 CX9_234 rfl rfl ⟨by decide, by decide, by decide, by decide⟩ (Nat.le_of_ble_eq_true rfl) ?_
  refine x_placeAt (by assumption) ?_
  refine Aft_v (WX_len2 _ _) ?_
  refine g_iret C0 rfl dX9_carrierThen_22 (by decide) (by decide) ?_
  rw [xCarrierThen, if_neg, if_neg] at hK
  · exact hK
  · exact h10
  · exact h1
set_option maxRecDepth 100000 in
set_option maxHeartbeats 4000000 in
theorem p_believed {q : XS} {K : AO → AW → Prop} {c n : Int32} (hq : q.2 2 < 100000) (hK : K (xBelieved q c n).1 (WX (xBelieved q c n).2)) : Snd MX9_believed [.ref 0, .int c, .int n] (WX q) K := by
  refine Snd.of (by decide +kernel) (Nat.le_of_ble_eq_true rfl) rfl rfl ?_
  intro X D dA ad C0
  show Gd X _ MX9_believed 0 [some (.ref 0), some (.int c), some (.int n)] [] _ 0 0
  refine g_iload_n C0 dX9_believed_0 rfl ?_
  refine g_invS1 C0 dX9_believed_1 CX9_81 rfl ⟨by decide, by decide, by decide, by decide⟩ (Nat.le_of_ble_eq_true rfl) ?_
  refine x_needC (fun h1 => Aft_x ?_) (fun h1 => Aft_n (WX_len2 _ _) ?_)
  · rw [xBelieved, if_pos] at hK
    · exact hK
    · exact h1
  refine g_iload_n C0 dX9_believed_4 rfl ?_
  refine g_invS1 C0 dX9_believed_5 CX9_126 rfl ⟨by decide, by decide, by decide, by decide⟩ (Nat.le_of_ble_eq_true rfl) ?_
  refine x_needN (fun h5 => Aft_x ?_) (fun h5 => Aft_n (WX_len2 _ _) ?_)
  · rw [xBelieved, if_neg, if_pos] at hK
    · exact hK
    · exact h5
    · exact h1
  refine g_aload_n C0 dX9_believed_8 rfl ?_
  refine g_getfield C0 dX9_believed_9 FX9_42 rfl rfl ?_
  refine g_iload_n C0 dX9_believed_12 rfl ?_
  refine g_iload_n C0 dX9_believed_13 rfl ?_
  refine g_aload_n C0 dX9_believed_14 rfl ?_
  refine g_getfield C0 dX9_believed_15 FX9_74 rfl rfl ?_
  refine g_invV3 C0 dX9_believed_18 CX9_237 rfl rfl ⟨by decide, by decide, by decide, by decide⟩ (Nat.le_of_ble_eq_true rfl) ?_
  refine x_known (by assumption) ?_
  refine Aft_v (WX_len2 _ _) ?_
  refine g_iret C0 rfl dX9_believed_21 (by decide) (by decide) ?_
  rw [xBelieved, if_neg, if_neg] at hK
  · exact hK
  · exact h5
  · exact h1
set_option maxRecDepth 100000 in
set_option maxHeartbeats 4000000 in
theorem p_isBarred {q : XS} {K : AO → AW → Prop} {n : Int32} (hK : K (xIsBarred q n).1 (WX (xIsBarred q n).2)) : Snd MX9_isBarred [.ref 0, .int n] (WX q) K := by
  refine Snd.of (by decide +kernel) (Nat.le_of_ble_eq_true rfl) rfl rfl ?_
  intro X D dA ad C0
  show Gd X _ MX9_isBarred 0 [some (.ref 0), some (.int n)] [] _ 0 0
  refine g_iload_n C0 dX9_isBarred_0 rfl ?_
  refine g_invS1 C0 dX9_isBarred_1 CX9_126 rfl ⟨by decide, by decide, by decide, by decide⟩ (Nat.le_of_ble_eq_true rfl) ?_
  refine x_needN (fun h1 => Aft_x ?_) (fun h1 => Aft_n (WX_len2 _ _) ?_)
  · rw [xIsBarred, if_pos] at hK
    · exact hK
    · exact h1
  refine g_aload_n C0 dX9_isBarred_4 rfl ?_
  refine g_getfield C0 dX9_isBarred_5 FX9_12 rfl rfl ?_
  refine g_getfield C0 dX9_isBarred_8 FX9_179 rfl rfl ?_
  refine g_iload_n C0 dX9_isBarred_11 rfl ?_
  refine g_invV1 C0 dX9_isBarred_12 CX9_111 rfl rfl ⟨by decide, by decide, by decide, by decide⟩ (Nat.le_of_ble_eq_true rfl) ?_
  refine x_get 5 (by decide) ?_
  refine Aft_v (WX_len2 _ _) ?_
  refine g_if_eq (tgt := 22) C0 dX9_isBarred_15 (by decide) (fun h15 => ?_) (fun h15 => ?_)
  · refine g_iconst (v := 0) C0 dX9_isBarred_22 (by decide) ?_
    refine g_zret C0 rfl rfl dX9_isBarred_23 (by decide) (by decide) ?_
    rw [xIsBarred, if_neg, if_pos] at hK
    · exact hK
    · exact h15
    · exact h1
  refine g_iconst (v := 1) C0 dX9_isBarred_18 (by decide) ?_
  refine g_goto (tgt := 23) C0 dX9_isBarred_19 (by decide) ?_
  refine g_zret C0 rfl rfl dX9_isBarred_23 (by decide) (by decide) ?_
  rw [xIsBarred, if_neg, if_neg] at hK
  · exact hK
  · exact h15
  · exact h1
set_option maxRecDepth 100000 in
set_option maxHeartbeats 4000000 in
theorem p_free {q : XS} {K : AO → AW → Prop} {a b : Int32} (hK : K (xFree q a b).1 (WX (xFree q a b).2)) : Snd MX9_free [.ref 0, .int a, .int b] (WX q) K := by
  refine Snd.of (by decide +kernel) (Nat.le_of_ble_eq_true rfl) rfl rfl ?_
  intro X D dA ad C0
  show Gd X _ MX9_free 0 [some (.ref 0), some (.int a), some (.int b)] [] _ 0 0
  refine g_iload_n C0 dX9_free_0 rfl ?_
  refine g_invS1 C0 dX9_free_1 CX9_81 rfl ⟨by decide, by decide, by decide, by decide⟩ (Nat.le_of_ble_eq_true rfl) ?_
  refine x_needC (fun h1 => Aft_x ?_) (fun h1 => Aft_n (WX_len2 _ _) ?_)
  · rw [xFree, if_pos] at hK
    · exact hK
    · exact h1
  refine g_iload_n C0 dX9_free_4 rfl ?_
  refine g_invS1 C0 dX9_free_5 CX9_81 rfl ⟨by decide, by decide, by decide, by decide⟩ (Nat.le_of_ble_eq_true rfl) ?_
  refine x_needC (fun h5 => Aft_x ?_) (fun h5 => Aft_n (WX_len2 _ _) ?_)
  · rw [xFree, if_neg, if_pos] at hK
    · exact hK
    · exact h5
    · exact h1
  refine g_iload_n C0 dX9_free_8 rfl ?_
  refine g_iload_n C0 dX9_free_9 rfl ?_
  refine g_icmp_ne (tgt := 17) C0 dX9_free_10 (by decide) (fun h10 => ?_) (fun h10 => ?_)
  · refine g_aload_n C0 dX9_free_17 rfl ?_
    refine g_getfield C0 dX9_free_18 FX9_35 rfl rfl ?_
    refine g_iload_n C0 dX9_free_21 rfl ?_
    refine g_iload_n C0 dX9_free_22 rfl ?_
    refine g_invV2 C0 dX9_free_23 CX9_250 rfl rfl ⟨by decide, by decide, by decide, by decide⟩ (Nat.le_of_ble_eq_true rfl) ?_
    refine x_left ?_
    refine Aft_v (WX_len2 _ _) ?_
    refine g_iret C0 rfl dX9_free_26 (by decide) (by decide) ?_
    rw [xFree, if_neg, if_neg, if_neg] at hK
    · exact hK
    · exact h10
    · exact h5
    · exact h1
  refine g_iconst (v := 0) C0 dX9_free_13 (by decide) ?_
  refine g_goto (tgt := 26) C0 dX9_free_14 (by decide) ?_
  refine g_iret C0 rfl dX9_free_26 (by decide) (by decide) ?_
  rw [xFree, if_neg, if_neg, if_pos] at hK
  · exact hK
  · exact h10
  · exact h5
  · exact h1
set_option maxRecDepth 100000 in
set_option maxHeartbeats 4000000 in
theorem p_route {q : XS} {K : AO → AW → Prop} {a b : Int32} (hq : q.2 2 < 100000) (hK : K (xRoute q a b).1 (WX (xRoute q a b).2)) : Snd MX9_route [.ref 0, .int a, .int b] (WX q) K := by
  refine Snd.of (by decide +kernel) (Nat.le_of_ble_eq_true rfl) rfl rfl ?_
  intro X D dA ad C0
  show Gd X _ MX9_route 0 [some (.ref 0), some (.int a), some (.int b)] [] _ 0 0
  refine g_iload_n C0 dX9_route_0 rfl ?_
  refine g_invS1 C0 dX9_route_1 CX9_126 rfl ⟨by decide, by decide, by decide, by decide⟩ (Nat.le_of_ble_eq_true rfl) ?_
  refine x_needN (fun h1 => Aft_x ?_) (fun h1 => Aft_n (WX_len2 _ _) ?_)
  · rw [xRoute, if_pos] at hK
    · exact hK
    · exact h1
  refine g_iload_n C0 dX9_route_4 rfl ?_
  refine g_invS1 C0 dX9_route_5 CX9_126 rfl ⟨by decide, by decide, by decide, by decide⟩ (Nat.le_of_ble_eq_true rfl) ?_
  refine x_needN (fun h5 => Aft_x ?_) (fun h5 => Aft_n (WX_len2 _ _) ?_)
  · rw [xRoute, if_neg, if_pos] at hK
    · exact hK
    · exact h5
    · exact h1
  refine g_iload_n C0 dX9_route_8 rfl ?_
  refine g_iload_n C0 dX9_route_9 rfl ?_
  refine g_invS2 C0 dX9_route_10 CX9_118 rfl ⟨by decide, by decide, by decide, by decide⟩ (Nat.le_of_ble_eq_true rfl) ?_
  refine x_needD (fun h10 => Aft_x ?_) (fun h10 => Aft_n (WX_len2 _ _) ?_)
  · rw [xRoute, if_neg, if_neg, if_pos] at hK
    · exact hK
    · exact h10
    · exact h5
    · exact h1
  refine g_aload_n C0 dX9_route_13 rfl ?_
  refine g_iload_n C0 dX9_route_14 rfl ?_
  refine g_iload_n C0 dX9_route_15 rfl ?_
  refine g_invV2 C0 dX9_route_16 CX9_191 rfl rfl ⟨by decide, by decide, by decide, by decide⟩ (Nat.le_of_ble_eq_true rfl) ?_
  refine x_find (by assumption) ?_
  refine Aft_v (WX_len2 _ _) ?_
  refine g_if_eq (tgt := 34) C0 dX9_route_19 (by decide) (fun h19 => ?_) (fun h19 => ?_)
  · refine g_iconst (v := (-1)) C0 dX9_route_34 (by decide) ?_
    refine g_iret C0 rfl dX9_route_35 (by decide) (by decide) ?_
    rw [xRoute, if_neg, if_neg, if_neg, if_pos] at hK
    · exact hK
    · exact h19
    · exact h10
    · exact h5
    · exact h1
  refine g_aload_n C0 dX9_route_22 rfl ?_
  refine g_getfield C0 dX9_route_23 FX9_70 rfl rfl ?_
  refine g_getfield C0 dX9_route_26 FX9_198 rfl rfl ?_
  refine g_iconst (v := 1) C0 dX9_route_29 (by decide) ?_
  refine g_isub C0 dX9_route_30 ?_
  refine g_goto (tgt := 35) C0 dX9_route_31 (by decide) ?_
  refine g_iret C0 rfl dX9_route_35 (by decide) (by decide) ?_
  rw [xRoute, if_neg, if_neg, if_neg, if_neg] at hK
  · exact hK
  · exact h19
  · exact h10
  · exact h5
  · exact h1
set_option maxRecDepth 100000 in
set_option maxHeartbeats 4000000 in
theorem p_trunks {q : XS} {K : AO → AW → Prop} {c : Int32} (hK : K (xTrunks q c).1 (WX (xTrunks q c).2)) : Snd MX9_trunks [.ref 0, .int c] (WX q) K := by
  refine Snd.of (by decide +kernel) (Nat.le_of_ble_eq_true rfl) rfl rfl ?_
  intro X D dA ad C0
  show Gd X _ MX9_trunks 0 [some (.ref 0), some (.int c)] [] _ 0 0
  refine g_aload_n C0 dX9_trunks_0 rfl ?_
  refine g_iload_n C0 dX9_trunks_1 rfl ?_
  refine g_invV1 C0 dX9_trunks_2 CX9_211 rfl rfl ⟨by decide, by decide, by decide, by decide⟩ (Nat.le_of_ble_eq_true rfl) ?_
  refine x_needK (fun h2 => Aft_x ?_) (fun h2 => Aft_n (WX_len2 _ _) ?_)
  · rw [xTrunks, if_pos] at hK
    · exact hK
    · exact h2
  refine g_aload_n C0 dX9_trunks_5 rfl ?_
  refine g_getfield C0 dX9_trunks_6 FX9_63 rfl rfl ?_
  refine g_getfield C0 dX9_trunks_9 FX9_256 rfl rfl ?_
  refine g_iload_n C0 dX9_trunks_12 rfl ?_
  refine g_invV1 C0 dX9_trunks_13 CX9_111 rfl rfl ⟨by decide, by decide, by decide, by decide⟩ (Nat.le_of_ble_eq_true rfl) ?_
  refine x_get 33 (by decide) ?_
  refine Aft_v (WX_len2 _ _) ?_
  refine g_iconst (v := 1) C0 dX9_trunks_16 (by decide) ?_
  refine g_isub C0 dX9_trunks_17 ?_
  refine g_iret C0 rfl dX9_trunks_18 (by decide) (by decide) ?_
  rw [xTrunks, if_neg] at hK
  · exact hK
  · exact h2
set_option maxRecDepth 100000 in
set_option maxHeartbeats 4000000 in
theorem p_carrierAt {q : XS} {K : AO → AW → Prop} {c p : Int32} (hK : K (xCarrierAt q c p).1 (WX (xCarrierAt q c p).2)) : Snd MX9_carrierAt [.ref 0, .int c, .int p] (WX q) K := by
  refine Snd.of (by decide +kernel) (Nat.le_of_ble_eq_true rfl) rfl rfl ?_
  intro X D dA ad C0
  show Gd X _ MX9_carrierAt 0 [some (.ref 0), some (.int c), some (.int p)] [] _ 0 0
  refine g_aload_n C0 dX9_carrierAt_0 rfl ?_
  refine g_iload_n C0 dX9_carrierAt_1 rfl ?_
  refine g_invV1 C0 dX9_carrierAt_2 CX9_211 rfl rfl ⟨by decide, by decide, by decide, by decide⟩ (Nat.le_of_ble_eq_true rfl) ?_
  refine x_needK (fun h2 => Aft_x ?_) (fun h2 => Aft_n (WX_len2 _ _) ?_)
  · rw [xCarrierAt, if_pos] at hK
    · exact hK
    · exact h2
  refine g_iload_n C0 dX9_carrierAt_5 rfl ?_
  refine g_if_lt (tgt := 24) C0 dX9_carrierAt_6 (by decide) (fun h6 => ?_) (fun h6 => ?_)
  · refine g_throwW C0 dX9_carrierAt_24 dX9_carrierAt_27 dX9_carrierAt_28 dX9_carrierAt_31 dX9_carrierAt_34 HX9_carrierAt_24 rfl (by decide) (Nat.le_of_ble_eq_true rfl) (by decide) (by decide) ?_
    rw [xCarrierAt, if_neg, if_pos] at hK
    · exact hK
    · exact h6
    · exact h2
  refine g_iload_n C0 dX9_carrierAt_9 rfl ?_
  refine g_aload_n C0 dX9_carrierAt_10 rfl ?_
  refine g_getfield C0 dX9_carrierAt_11 FX9_63 rfl rfl ?_
  refine g_getfield C0 dX9_carrierAt_14 FX9_256 rfl rfl ?_
  refine g_iload_n C0 dX9_carrierAt_17 rfl ?_
  refine g_invV1 C0 dX9_carrierAt_18 CX9_111 rfl rfl ⟨by decide, by decide, by decide, by decide⟩ (Nat.le_of_ble_eq_true rfl) ?_
  refine x_get 33 (by decide) ?_
  refine Aft_v (WX_len2 _ _) ?_
  refine g_icmp_lt (tgt := 35) C0 dX9_carrierAt_21 (by decide) (fun h21 => ?_) (fun h21 => ?_)
  · refine g_aload_n C0 dX9_carrierAt_35 rfl ?_
    refine g_getfield C0 dX9_carrierAt_36 FX9_63 rfl rfl ?_
    refine g_iload_n C0 dX9_carrierAt_39 rfl ?_
    refine g_iload_n C0 dX9_carrierAt_40 rfl ?_
    refine g_invV2 C0 dX9_carrierAt_41 CX9_264 rfl rfl ⟨by decide, by decide, by decide, by decide⟩ (Nat.le_of_ble_eq_true rfl) ?_
    refine x_stop ?_
    refine Aft_v (WX_len2 _ _) ?_
    refine g_iret C0 rfl dX9_carrierAt_44 (by decide) (by decide) ?_
    rw [xCarrierAt, if_neg, if_neg, if_pos] at hK
    · exact hK
    · exact h21
    · exact h6
    · exact h2
  refine g_throwW C0 dX9_carrierAt_24 dX9_carrierAt_27 dX9_carrierAt_28 dX9_carrierAt_31 dX9_carrierAt_34 HX9_carrierAt_24 rfl (by decide) (Nat.le_of_ble_eq_true rfl) (by decide) (by decide) ?_
  rw [xCarrierAt, if_neg, if_neg, if_neg] at hK
  · exact hK
  · exact h21
  · exact h6
  · exact h2
set_option maxRecDepth 100000 in
set_option maxHeartbeats 4000000 in
theorem p_seconds {q : XS} {K : AO → AW → Prop} {c : Int32} (hK : K (xSeconds q c).1 (WX (xSeconds q c).2)) : Snd MX9_seconds [.ref 0, .int c] (WX q) K := by
  refine Snd.of (by decide +kernel) (Nat.le_of_ble_eq_true rfl) rfl rfl ?_
  intro X D dA ad C0
  show Gd X _ MX9_seconds 0 [some (.ref 0), some (.int c)] [] _ 0 0
  refine g_aload_n C0 dX9_seconds_0 rfl ?_
  refine g_iload_n C0 dX9_seconds_1 rfl ?_
  refine g_invV1 C0 dX9_seconds_2 CX9_211 rfl rfl ⟨by decide, by decide, by decide, by decide⟩ (Nat.le_of_ble_eq_true rfl) ?_
  refine x_needK (fun h2 => Aft_x ?_) (fun h2 => Aft_n (WX_len2 _ _) ?_)
  · rw [xSeconds, if_pos] at hK
    · exact hK
    · exact h2
  refine g_aload_n C0 dX9_seconds_5 rfl ?_
  refine g_getfield C0 dX9_seconds_6 FX9_63 rfl rfl ?_
  refine g_iload_n C0 dX9_seconds_9 rfl ?_
  refine g_aload_n C0 dX9_seconds_10 rfl ?_
  refine g_getfield C0 dX9_seconds_11 FX9_74 rfl rfl ?_
  refine g_invV2 C0 dX9_seconds_14 CX9_223 rfl rfl ⟨by decide, by decide, by decide, by decide⟩ (Nat.le_of_ble_eq_true rfl) ?_
  refine x_lasted ?_
  refine Aft_v (WX_len2 _ _) ?_
  refine g_iret C0 rfl dX9_seconds_17 (by decide) (by decide) ?_
  rw [xSeconds, if_neg] at hK
  · exact hK
  · exact h2
set_option maxRecDepth 100000 in
set_option maxHeartbeats 4000000 in
theorem p_chargedAnew {q : XS} {K : AO → AW → Prop} {c : Int32} (h2 : q.2 2 < 100000) (h3 : q.2 3 < 100000) (h4 : q.2 4 < 100000) (h5 : q.2 5 < 100000) (hK : K (xChargedAnew q c).1 (WX (xChargedAnew q c).2)) : Snd MX9_chargedAnew [.ref 0, .int c] (WX q) K := by
  refine Snd.of (by decide +kernel) (Nat.le_of_ble_eq_true rfl) rfl rfl ?_
  intro X D dA ad C0
  show Gd X _ MX9_chargedAnew 0 [some (.ref 0), some (.int c)] [] _ 0 0
  refine g_aload_n C0 dX9_chargedAnew_0 rfl ?_
  refine g_iload_n C0 dX9_chargedAnew_1 rfl ?_
  refine g_invV1 C0 dX9_chargedAnew_2 CX9_211 rfl rfl ⟨by decide, by decide, by decide, by decide⟩ (Nat.le_of_ble_eq_true rfl) ?_
  refine x_needK (fun h2 => Aft_x ?_) (fun h2 => Aft_n (WX_len2 _ _) ?_)
  · rw [xChargedAnew, if_pos] at hK
    · exact hK
    · exact h2
  refine g_aload_n C0 dX9_chargedAnew_5 rfl ?_
  refine g_iload_n C0 dX9_chargedAnew_6 rfl ?_
  refine g_iconst (v := (-1)) C0 dX9_chargedAnew_7 (by decide) ?_
  refine g_iconst (v := (-1)) C0 dX9_chargedAnew_8 (by decide) ?_
  refine g_invV3 C0 dX9_chargedAnew_9 CX9_244 rfl rfl ⟨by decide, by decide, by decide, by decide⟩ (Nat.le_of_ble_eq_true rfl) ?_
  refine x_anew (by assumption) (by assumption) (by assumption) (by assumption) ?_
  refine Aft_v (WX_len2 _ _) ?_
  refine g_iret C0 rfl dX9_chargedAnew_12 (by decide) (by decide) ?_
  rw [xChargedAnew, if_neg] at hK
  · exact hK
  · exact h2
set_option maxRecDepth 100000 in
set_option maxHeartbeats 4000000 in
theorem p_spent {q : XS} {K : AO → AW → Prop} {p : Int32} (hK : K (xSpent q p).1 (WX (xSpent q p).2)) : Snd MX9_spent [.ref 0, .int p] (WX q) K := by
  refine Snd.of (by decide +kernel) (Nat.le_of_ble_eq_true rfl) rfl rfl ?_
  intro X D dA ad C0
  show Gd X _ MX9_spent 0 [some (.ref 0), some (.int p)] [] _ 0 0
  refine g_iload_n C0 dX9_spent_0 rfl ?_
  refine g_invS1 C0 dX9_spent_1 CX9_151 rfl ⟨by decide, by decide, by decide, by decide⟩ (Nat.le_of_ble_eq_true rfl) ?_
  refine x_needP (fun h1 => Aft_x ?_) (fun h1 => Aft_n (WX_len2 _ _) ?_)
  · rw [xSpent, if_pos] at hK
    · exact hK
    · exact h1
  refine g_aload_n C0 dX9_spent_4 rfl ?_
  refine g_getfield C0 dX9_spent_5 FX9_28 rfl rfl ?_
  refine g_iload_n C0 dX9_spent_8 rfl ?_
  refine g_invV1 C0 dX9_spent_9 CX9_111 rfl rfl ⟨by decide, by decide, by decide, by decide⟩ (Nat.le_of_ble_eq_true rfl) ?_
  refine x_get 11 (by decide) ?_
  refine Aft_v (WX_len2 _ _) ?_
  refine g_iret C0 rfl dX9_spent_12 (by decide) (by decide) ?_
  rw [xSpent, if_neg] at hK
  · exact hK
  · exact h1
set_option maxRecDepth 100000 in
set_option maxHeartbeats 4000000 in
theorem lp_debtAnew {q : XS} {K : AO → AW → Prop} {n : Int32} (h2 : q.2 2 < 100000) (h3 : q.2 3 < 100000) (h4 : q.2 4 < 100000) (h5 : q.2 5 < 100000) (h6 : q.2 6 < 100000) (hK : K (.inl (some (.int (daF q n (q.2 6) - xg q 3 n)))) (WX q)) {X : CX} {D : va_G} {dA : Nat → ClassId} {w0 : AW} {ad : Nat → Nat} (C0 : Ok X (D, dA, w0, ad, K) MX9_debtAnew) : ∀ (n9 k : Nat), k + n9 = q.2 6 → Gd X (D, dA, w0, ad, K) MX9_debtAnew 8 [some (.ref 0), some (.int n), some (.int (daF q n k)), some (.int (nI k))] [] (WX q) 1 6 := by
  intro n9
  induction n9 with
  | zero =>
    intro k hk
    have hk6 : k = q.2 6 := by omega
    subst hk6
    refine g_iload_n C0 dX9_debtAnew_8 rfl ?_
    refine g_aload_n C0 dX9_debtAnew_9 rfl ?_
    refine g_getfield C0 dX9_debtAnew_10 FX9_63 rfl rfl ?_
    refine g_getfield C0 dX9_debtAnew_13 FX9_228 rfl rfl ?_
    refine g_icmp_ge (tgt := 50) C0 dX9_debtAnew_16 (by decide) (fun _ => ?_) (fun z => absurd (Int32.le_refl _) z)
    refine g_iload_n C0 dX9_debtAnew_50 rfl ?_
    refine g_aload_n C0 dX9_debtAnew_51 rfl ?_
    refine g_getfield C0 dX9_debtAnew_52 FX9_12 rfl rfl ?_
    refine g_getfield C0 dX9_debtAnew_55 FX9_247 rfl rfl ?_
    refine g_iload_n C0 dX9_debtAnew_58 rfl ?_
    refine g_invV1 C0 dX9_debtAnew_59 CX9_111 rfl rfl ⟨by decide, by decide, by decide, by decide⟩ (Nat.le_of_ble_eq_true rfl) ?_
    refine x_get 3 (by decide) ?_
    refine Aft_v (WX_len2 _ _) ?_
    refine g_isub C0 dX9_debtAnew_62 ?_
    refine g_iret C0 rfl dX9_debtAnew_63 (by decide) (by decide) ?_
    exact hK
  | succ n9 ih =>
    intro k hk
    refine g_iload_n C0 dX9_debtAnew_8 rfl ?_
    refine g_aload_n C0 dX9_debtAnew_9 rfl ?_
    refine g_getfield C0 dX9_debtAnew_10 FX9_63 rfl rfl ?_
    refine g_getfield C0 dX9_debtAnew_13 FX9_228 rfl rfl ?_
    refine g_icmp_ge (tgt := 50) C0 dX9_debtAnew_16 (by decide) (fun h16 => absurd h16 (nI_ge (by omega) (by omega))) (fun h16 => ?_)
    refine g_aload_n C0 dX9_debtAnew_19 rfl ?_
    refine g_getfield C0 dX9_debtAnew_20 FX9_63 rfl rfl ?_
    refine g_getfield C0 dX9_debtAnew_23 FX9_241 rfl rfl ?_
    refine g_iload_n C0 dX9_debtAnew_26 rfl ?_
    refine g_invV1 C0 dX9_debtAnew_27 CX9_111 rfl rfl ⟨by decide, by decide, by decide, by decide⟩ (Nat.le_of_ble_eq_true rfl) ?_
    refine x_get 27 (by decide) ?_
    refine Aft_v (WX_len2 _ _) ?_
    refine g_iload_n C0 dX9_debtAnew_30 rfl ?_
    refine g_icmp_ne (tgt := 44) C0 dX9_debtAnew_31 (by decide) (fun h31 => ?_) (fun h31 => ?_)
    · refine g_iinc (v := nI (k + 1)) C0 dX9_debtAnew_44 rfl (nI_1 _) (by decide) ?_
      refine g_goto (tgt := 8) C0 dX9_debtAnew_47 (by decide) ?_
      exact g_ls (by rw [daF, if_neg h31]; rfl) (ih (k + 1) (by omega))
    refine g_iload_n C0 dX9_debtAnew_34 rfl ?_
    refine g_aload_n C0 dX9_debtAnew_35 rfl ?_
    refine g_iload_n C0 dX9_debtAnew_36 rfl ?_
    refine g_iconst (v := (-1)) C0 dX9_debtAnew_37 (by decide) ?_
    refine g_iconst (v := (-1)) C0 dX9_debtAnew_38 (by decide) ?_
    refine g_invV3 C0 dX9_debtAnew_39 CX9_244 rfl rfl ⟨by decide, by decide, by decide, by decide⟩ (Nat.le_of_ble_eq_true rfl) ?_
    refine x_anew (by assumption) (by assumption) (by assumption) (by assumption) ?_
    refine Aft_v (WX_len2 _ _) ?_
    refine g_iadd C0 dX9_debtAnew_42 ?_
    refine g_istore_n C0 dX9_debtAnew_43 (by decide) ?_
    refine g_iinc (v := nI (k + 1)) C0 dX9_debtAnew_44 rfl (nI_1 _) (by decide) ?_
    refine g_goto (tgt := 8) C0 dX9_debtAnew_47 (by decide) ?_
    exact g_ls (by rw [daF, if_pos h31]; rfl) (ih (k + 1) (by omega))
set_option maxRecDepth 100000 in
set_option maxHeartbeats 4000000 in
theorem p_debtAnew {q : XS} {K : AO → AW → Prop} {n : Int32} (h2 : q.2 2 < 100000) (h3 : q.2 3 < 100000) (h4 : q.2 4 < 100000) (h5 : q.2 5 < 100000) (h6 : q.2 6 < 100000) (hK : K (xDebtAnew q n).1 (WX (xDebtAnew q n).2)) : Snd MX9_debtAnew [.ref 0, .int n] (WX q) K := by
  refine Snd.of (by decide +kernel) (Nat.le_of_ble_eq_true rfl) rfl rfl ?_
  intro X D dA ad C0
  show Gd X _ MX9_debtAnew 0 [some (.ref 0), some (.int n), none, none] [] _ 0 0
  refine g_iload_n C0 dX9_debtAnew_0 rfl ?_
  refine g_invS1 C0 dX9_debtAnew_1 CX9_126 rfl ⟨by decide, by decide, by decide, by decide⟩ (Nat.le_of_ble_eq_true rfl) ?_
  refine x_needN (fun h1 => Aft_x ?_) (fun h1 => Aft_n (WX_len2 _ _) ?_)
  · rw [xDebtAnew, if_pos] at hK
    · exact hK
    · exact h1
  refine g_iconst (v := 0) C0 dX9_debtAnew_4 (by decide) ?_
  refine g_istore_n C0 dX9_debtAnew_5 (by decide) ?_
  refine g_iconst (v := 0) C0 dX9_debtAnew_6 (by decide) ?_
  refine g_istore_n C0 dX9_debtAnew_7 (by decide) ?_
  rw [xDebtAnew, if_neg h1] at hK
  exact lp_debtAnew h2 h3 h4 h5 h6 hK C0 (q.2 6) 0 (by omega)
set_option maxRecDepth 100000 in
set_option maxHeartbeats 4000000 in
theorem lp_earnedAnew {q : XS} {K : AO → AW → Prop} {c : Int32} (h2 : q.2 2 < 100000) (h3 : q.2 3 < 100000) (h4 : q.2 4 < 100000) (h5 : q.2 5 < 100000) (h6 : q.2 6 < 100000) (hK : K (.inl (some (.int (eaF q c (q.2 6))))) (WX q)) {X : CX} {D : va_G} {dA : Nat → ClassId} {w0 : AW} {ad : Nat → Nat} (C0 : Ok X (D, dA, w0, ad, K) MX9_earnedAnew) : ∀ (n9 k : Nat), k + n9 = q.2 6 → Gd X (D, dA, w0, ad, K) MX9_earnedAnew 8 [some (.ref 0), some (.int c), some (.int (eaF q c k)), some (.int (nI k))] [] (WX q) 1 6 := by
  intro n9
  induction n9 with
  | zero =>
    intro k hk
    have hk6 : k = q.2 6 := by omega
    subst hk6
    refine g_iload_n C0 dX9_earnedAnew_8 rfl ?_
    refine g_aload_n C0 dX9_earnedAnew_9 rfl ?_
    refine g_getfield C0 dX9_earnedAnew_10 FX9_63 rfl rfl ?_
    refine g_getfield C0 dX9_earnedAnew_13 FX9_228 rfl rfl ?_
    refine g_icmp_ge (tgt := 35) C0 dX9_earnedAnew_16 (by decide) (fun _ => ?_) (fun z => absurd (Int32.le_refl _) z)
    refine g_iload_n C0 dX9_earnedAnew_35 rfl ?_
    refine g_iret C0 rfl dX9_earnedAnew_36 (by decide) (by decide) ?_
    exact hK
  | succ n9 ih =>
    intro k hk
    refine g_iload_n C0 dX9_earnedAnew_8 rfl ?_
    refine g_aload_n C0 dX9_earnedAnew_9 rfl ?_
    refine g_getfield C0 dX9_earnedAnew_10 FX9_63 rfl rfl ?_
    refine g_getfield C0 dX9_earnedAnew_13 FX9_228 rfl rfl ?_
    refine g_icmp_ge (tgt := 35) C0 dX9_earnedAnew_16 (by decide) (fun h16 => absurd h16 (nI_ge (by omega) (by omega))) (fun h16 => ?_)
    refine g_iload_n C0 dX9_earnedAnew_19 rfl ?_
    refine g_aload_n C0 dX9_earnedAnew_20 rfl ?_
    refine g_iload_n C0 dX9_earnedAnew_21 rfl ?_
    refine g_iload_n C0 dX9_earnedAnew_22 rfl ?_
    refine g_iconst (v := (-1)) C0 dX9_earnedAnew_23 (by decide) ?_
    refine g_invV3 C0 dX9_earnedAnew_24 CX9_244 rfl rfl ⟨by decide, by decide, by decide, by decide⟩ (Nat.le_of_ble_eq_true rfl) ?_
    refine x_anew (by assumption) (by assumption) (by assumption) (by assumption) ?_
    refine Aft_v (WX_len2 _ _) ?_
    refine g_iadd C0 dX9_earnedAnew_27 ?_
    refine g_istore_n C0 dX9_earnedAnew_28 (by decide) ?_
    refine g_iinc (v := nI (k + 1)) C0 dX9_earnedAnew_29 rfl (nI_1 _) (by decide) ?_
    refine g_goto (tgt := 8) C0 dX9_earnedAnew_32 (by decide) ?_
    exact ih (k + 1) (by omega)
set_option maxRecDepth 100000 in
set_option maxHeartbeats 4000000 in
theorem p_earnedAnew {q : XS} {K : AO → AW → Prop} {c : Int32} (h2 : q.2 2 < 100000) (h3 : q.2 3 < 100000) (h4 : q.2 4 < 100000) (h5 : q.2 5 < 100000) (h6 : q.2 6 < 100000) (hK : K (xEarnedAnew q c).1 (WX (xEarnedAnew q c).2)) : Snd MX9_earnedAnew [.ref 0, .int c] (WX q) K := by
  refine Snd.of (by decide +kernel) (Nat.le_of_ble_eq_true rfl) rfl rfl ?_
  intro X D dA ad C0
  show Gd X _ MX9_earnedAnew 0 [some (.ref 0), some (.int c), none, none] [] _ 0 0
  refine g_iload_n C0 dX9_earnedAnew_0 rfl ?_
  refine g_invS1 C0 dX9_earnedAnew_1 CX9_81 rfl ⟨by decide, by decide, by decide, by decide⟩ (Nat.le_of_ble_eq_true rfl) ?_
  refine x_needC (fun h1 => Aft_x ?_) (fun h1 => Aft_n (WX_len2 _ _) ?_)
  · rw [xEarnedAnew, if_pos] at hK
    · exact hK
    · exact h1
  refine g_iconst (v := 0) C0 dX9_earnedAnew_4 (by decide) ?_
  refine g_istore_n C0 dX9_earnedAnew_5 (by decide) ?_
  refine g_iconst (v := 0) C0 dX9_earnedAnew_6 (by decide) ?_
  refine g_istore_n C0 dX9_earnedAnew_7 (by decide) ?_
  rw [xEarnedAnew, if_neg h1] at hK
  exact lp_earnedAnew h2 h3 h4 h5 h6 hK C0 (q.2 6) 0 (by omega)
set_option maxRecDepth 100000 in
set_option maxHeartbeats 4000000 in
theorem lp_spentAnew {q : XS} {K : AO → AW → Prop} {p : Int32} (h2 : q.2 2 < 100000) (h3 : q.2 3 < 100000) (h4 : q.2 4 < 100000) (h5 : q.2 5 < 100000) (h6 : q.2 6 < 100000) (hK : K (.inl (some (.int (saF q p (q.2 6))))) (WX q)) {X : CX} {D : va_G} {dA : Nat → ClassId} {w0 : AW} {ad : Nat → Nat} (C0 : Ok X (D, dA, w0, ad, K) MX9_spentAnew) : ∀ (n9 k : Nat), k + n9 = q.2 6 → Gd X (D, dA, w0, ad, K) MX9_spentAnew 8 [some (.ref 0), some (.int p), some (.int (saF q p k)), some (.int (nI k))] [] (WX q) 1 6 := by
  intro n9
  induction n9 with
  | zero =>
    intro k hk
    have hk6 : k = q.2 6 := by omega
    subst hk6
    refine g_iload_n C0 dX9_spentAnew_8 rfl ?_
    refine g_aload_n C0 dX9_spentAnew_9 rfl ?_
    refine g_getfield C0 dX9_spentAnew_10 FX9_63 rfl rfl ?_
    refine g_getfield C0 dX9_spentAnew_13 FX9_228 rfl rfl ?_
    refine g_icmp_ge (tgt := 35) C0 dX9_spentAnew_16 (by decide) (fun _ => ?_) (fun z => absurd (Int32.le_refl _) z)
    refine g_iload_n C0 dX9_spentAnew_35 rfl ?_
    refine g_iret C0 rfl dX9_spentAnew_36 (by decide) (by decide) ?_
    exact hK
  | succ n9 ih =>
    intro k hk
    refine g_iload_n C0 dX9_spentAnew_8 rfl ?_
    refine g_aload_n C0 dX9_spentAnew_9 rfl ?_
    refine g_getfield C0 dX9_spentAnew_10 FX9_63 rfl rfl ?_
    refine g_getfield C0 dX9_spentAnew_13 FX9_228 rfl rfl ?_
    refine g_icmp_ge (tgt := 35) C0 dX9_spentAnew_16 (by decide) (fun h16 => absurd h16 (nI_ge (by omega) (by omega))) (fun h16 => ?_)
    refine g_iload_n C0 dX9_spentAnew_19 rfl ?_
    refine g_aload_n C0 dX9_spentAnew_20 rfl ?_
    refine g_iload_n C0 dX9_spentAnew_21 rfl ?_
    refine g_iconst (v := (-1)) C0 dX9_spentAnew_22 (by decide) ?_
    refine g_iload_n C0 dX9_spentAnew_23 rfl ?_
    refine g_invV3 C0 dX9_spentAnew_24 CX9_244 rfl rfl ⟨by decide, by decide, by decide, by decide⟩ (Nat.le_of_ble_eq_true rfl) ?_
    refine x_anew (by assumption) (by assumption) (by assumption) (by assumption) ?_
    refine Aft_v (WX_len2 _ _) ?_
    refine g_iadd C0 dX9_spentAnew_27 ?_
    refine g_istore_n C0 dX9_spentAnew_28 (by decide) ?_
    refine g_iinc (v := nI (k + 1)) C0 dX9_spentAnew_29 rfl (nI_1 _) (by decide) ?_
    refine g_goto (tgt := 8) C0 dX9_spentAnew_32 (by decide) ?_
    exact ih (k + 1) (by omega)
set_option maxRecDepth 100000 in
set_option maxHeartbeats 4000000 in
theorem p_spentAnew {q : XS} {K : AO → AW → Prop} {p : Int32} (h2 : q.2 2 < 100000) (h3 : q.2 3 < 100000) (h4 : q.2 4 < 100000) (h5 : q.2 5 < 100000) (h6 : q.2 6 < 100000) (hK : K (xSpentAnew q p).1 (WX (xSpentAnew q p).2)) : Snd MX9_spentAnew [.ref 0, .int p] (WX q) K := by
  refine Snd.of (by decide +kernel) (Nat.le_of_ble_eq_true rfl) rfl rfl ?_
  intro X D dA ad C0
  show Gd X _ MX9_spentAnew 0 [some (.ref 0), some (.int p), none, none] [] _ 0 0
  refine g_iload_n C0 dX9_spentAnew_0 rfl ?_
  refine g_invS1 C0 dX9_spentAnew_1 CX9_151 rfl ⟨by decide, by decide, by decide, by decide⟩ (Nat.le_of_ble_eq_true rfl) ?_
  refine x_needP (fun h1 => Aft_x ?_) (fun h1 => Aft_n (WX_len2 _ _) ?_)
  · rw [xSpentAnew, if_pos] at hK
    · exact hK
    · exact h1
  refine g_iconst (v := 0) C0 dX9_spentAnew_4 (by decide) ?_
  refine g_istore_n C0 dX9_spentAnew_5 (by decide) ?_
  refine g_iconst (v := 0) C0 dX9_spentAnew_6 (by decide) ?_
  refine g_istore_n C0 dX9_spentAnew_7 (by decide) ?_
  rw [xSpentAnew, if_neg h1] at hK
  exact lp_spentAnew h2 h3 h4 h5 h6 hK C0 (q.2 6) 0 (by omega)

theorem WX_put7 (q : XS) (n : Nat) : (WX q).set 81 (.inr (8, [Value.ref 82, .int (nI (q.2 7))].set 1 (.int (nI n)))) = WX (setC q 7 n) := rfl
theorem WX_put7i (q : XS) : (WX q).set 81 (.inr (8, [Value.ref 82, .int (nI (q.2 7))].set 1 (.int (nI (q.2 7) + 1)))) = WX (setC q 7 (q.2 7 + 1)) := by
  rw [nI_1]; rfl
theorem WX_put6i (q : XS) : (WX q).set 64 (.inr (0, [Value.ref 65, .ref 67, .ref 69, .ref 71, .ref 73, .ref 75, .ref 77, .ref 79, .int (nI (q.2 6))].set 8 (.int (nI (q.2 6) + 1)))) = WX (setC q 6 (q.2 6 + 1)) := by
  rw [nI_1]; rfl
/-! trunks -/
def btw (a b : Int32) : Int32 := mn a b * 5 + mx a b
def xleft (q : XS) (a b : Int32) : Int32 := xg q 12 (btw a b) - xg q 13 (btw a b)
def xchange (q : XS) (a b n : Int32) : XS := xs q 12 (btw a b) n
def xtake (q : XS) (a b n : Int32) : XS := xad q 13 (btw a b) n
/-! the way -/
def wbegin (q : XS) (c : Int32) : XS := setC (xs q 35 0 c) 7 1
def wgo (q : XS) (c : Int32) : XS := setC (xs q 35 (nI (q.2 7)) c) 7 (q.2 7 + 1)
def wlast (q : XS) : Int32 := xg q 35 (nI (q.2 7) - 1)
def whF (q : XS) (c : Int32) (m : Nat) : Nat → Int32
  | 0 => 0
  | n + 1 => if xg q 35 (nI (m - (n + 1))) = c then 1 else whF q c m n
def whas (q : XS) (c : Int32) : Int32 := whF q c (q.2 7) (q.2 7)
/-! carriers -/
def xgive (q : XS) (a b c : Int32) : XS := xad (xad q 8 a (-c)) 8 b c
def xpayLoss (q : XS) (a b : Int32) : XS := xad (xgive q a b 5) 10 a 5
/-! tariffs -/
def dearB (s : Int32) : Int32 := s / 1440 * 720 + mn (mx (s - s / 1440 * 1440 - 480) 0) 720
def xprice (q : XS) (carrier second dear cheap : Int32) : XS := hadd (hadd q 2 carrier second dear) 3 carrier second cheap
def xcharge (q : XS) (c a b : Int32) : Int32 := (dearB b - dearB a) * hval q 2 c a 2 + (b - a - (dearB b - dearB a)) * hval q 3 c a 1
/-! calls as they are -/
def cgoes (q : XS) (c : Int32) : Int32 := if xg q 31 c = 0 then 1 else 0
def cend (q : XS) (c s : Int32) : Int32 := if xg q 31 c = 0 then s else xg q 30 c
def clasted (q : XS) (c s : Int32) : Int32 := cend q c s - xg q 29 c
def cstop (q : XS) (c p : Int32) : Int32 := xg q 34 (c * 5 + p)
def cfin (q : XS) (c s v : Int32) : XS := xs (xs q 30 c s) 31 c v
def cpF (q : XS) (c a : Int32) (m : Nat) : Nat → Int32
  | 0 => -1
  | n + 1 => if cstop q c (nI (m - (n + 1))) = a then nI (m - (n + 1)) else cpF q c a m n
/-! ports -/
def placeAt (q : XS) (n s : Int32) : Int32 := hval q 0 n s (n - n / 5 * 5)
def pkF (q : XS) (c n s : Int32) : Nat → Int32
  | 0 => n - n / 5 * 5
  | k + 1 => if xg q 17 (nI k * 5 + c) ≤ s ∧ xg q 14 (nI k) = n then xg q 16 (nI k) else pkF q c n s k
def known (q : XS) (c n s : Int32) : Int32 := pkF q c n s (q.2 2)
def cyF (q : XS) (row a b s : Int32) : Nat → XS
  | 0 => q
  | k + 1 => xs (cyF q row a b s k) 17 (row + nI k) (if nI k = a ∨ nI k = b then s else s + xg (cyF q row a b s k) 7 (nI k))
def xcarry (q : XS) (n a b s : Int32) : XS := hadd (cyF q (nI (q.2 2) * 5) a b s 5) 0 n s b
def cbF (q : XS) (call : Int32) : Nat → XS
  | 0 => q
  | n + 1 => xs (cbF q call n) 34 (call * 5 + nI n) (xg (cbF q call n) 35 (nI n))
def cset (q : XS) (a b s : Int32) : XS := xs (xs (xs (xs q 27 (nI (q.2 6)) a) 28 (nI (q.2 6)) b) 29 (nI (q.2 6)) s) 33 (nI (q.2 6)) (nI (q.2 7))
def cbegin (q : XS) (a b s : Int32) : XS := setC (cbF (cset q a b s) (nI (q.2 6)) (q.2 7)) 6 (q.2 6 + 1)
set_option maxRecDepth 100000 in
set_option maxHeartbeats 4000000 in
theorem x_between {q : XS} {K : AO → AW → Prop} {a b : Int32} (hK : K (.inl (some (.int (btw a b)))) (WX q)) : Snd MX7_between [.int a, .int b] (WX q) K := by
  refine Snd.of (by decide +kernel) (Nat.le_of_ble_eq_true rfl) rfl rfl ?_
  intro X D dA ad C0
  show Gd X _ MX7_between 0 [some (.int a), some (.int b)] [] _ 0 0
  refine g_iload_n C0 dX7_between_0 rfl ?_
  refine g_iload_n C0 dX7_between_1 rfl ?_
  refine g_min C0 dX7_between_2 QX7_23 (by decide) (Nat.le_of_ble_eq_true rfl) (by decide) (by decide) ?_
  refine g_iconst (v := 5) C0 dX7_between_5 (by decide) ?_
  refine g_imul C0 dX7_between_6 ?_
  refine g_iload_n C0 dX7_between_7 rfl ?_
  refine g_iload_n C0 dX7_between_8 rfl ?_
  refine g_max C0 dX7_between_9 QX7_29 (by decide) (Nat.le_of_ble_eq_true rfl) (by decide) (by decide) ?_
  refine g_iadd C0 dX7_between_12 ?_
  refine g_iret C0 rfl dX7_between_13 (by decide) (by decide) ?_
  exact hK
set_option maxRecDepth 100000 in
set_option maxHeartbeats 4000000 in
theorem x_change {q : XS} {K : AO → AW → Prop} {a b n : Int32} (hK : K (.inl none) (WX (xchange q a b n))) : Snd MX7_change [.ref 27, .int a, .int b, .int n] (WX q) K := by
  refine Snd.of (by decide +kernel) (Nat.le_of_ble_eq_true rfl) rfl rfl ?_
  intro X D dA ad C0
  show Gd X _ MX7_change 0 [some (.ref 27), some (.int a), some (.int b), some (.int n)] [] _ 0 0
  refine g_aload_n C0 dX7_change_0 rfl ?_
  refine g_getfield C0 dX7_change_1 FX7_14 rfl rfl ?_
  refine g_iload_n C0 dX7_change_4 rfl ?_
  refine g_iload_n C0 dX7_change_5 rfl ?_
  refine g_invS2 C0 dX7_change_6 CX7_32 rfl ⟨by decide, by decide, by decide, by decide⟩ (Nat.le_of_ble_eq_true rfl) ?_
  refine x_between ?_
  refine Aft_v (WX_len2 _ _) ?_
  refine g_iload_n C0 dX7_change_9 rfl ?_
  refine g_invV2 C0 dX7_change_10 CX7_35 rfl rfl ⟨by decide, by decide, by decide, by decide⟩ (Nat.le_of_ble_eq_true rfl) ?_
  refine x_set 12 (by decide) ?_
  refine Aft_n (WX_len2 _ _) ?_
  refine g_vret C0 rfl dX7_change_13 (by decide) (by decide) ?_
  exact hK
set_option maxRecDepth 100000 in
set_option maxHeartbeats 4000000 in
theorem x_take {q : XS} {K : AO → AW → Prop} {a b n : Int32} (hK : K (.inl none) (WX (xtake q a b n))) : Snd MX7_take [.ref 27, .int a, .int b, .int n] (WX q) K := by
  refine Snd.of (by decide +kernel) (Nat.le_of_ble_eq_true rfl) rfl rfl ?_
  intro X D dA ad C0
  show Gd X _ MX7_take 0 [some (.ref 27), some (.int a), some (.int b), some (.int n)] [] _ 0 0
  refine g_aload_n C0 dX7_take_0 rfl ?_
  refine g_getfield C0 dX7_take_1 FX7_20 rfl rfl ?_
  refine g_iload_n C0 dX7_take_4 rfl ?_
  refine g_iload_n C0 dX7_take_5 rfl ?_
  refine g_invS2 C0 dX7_take_6 CX7_32 rfl ⟨by decide, by decide, by decide, by decide⟩ (Nat.le_of_ble_eq_true rfl) ?_
  refine x_between ?_
  refine Aft_v (WX_len2 _ _) ?_
  refine g_iload_n C0 dX7_take_9 rfl ?_
  refine g_invV2 C0 dX7_take_10 CX7_38 rfl rfl ⟨by decide, by decide, by decide, by decide⟩ (Nat.le_of_ble_eq_true rfl) ?_
  refine x_add 13 (by decide) ?_
  refine Aft_n (WX_len2 _ _) ?_
  refine g_vret C0 rfl dX7_take_13 (by decide) (by decide) ?_
  exact hK
set_option maxRecDepth 100000 in
set_option maxHeartbeats 4000000 in
theorem x_left {q : XS} {K : AO → AW → Prop} {a b : Int32} (hK : K (.inl (some (.int (xleft q a b)))) (WX q)) : Snd MX7_left [.ref 27, .int a, .int b] (WX q) K := by
  refine Snd.of (by decide +kernel) (Nat.le_of_ble_eq_true rfl) rfl rfl ?_
  intro X D dA ad C0
  show Gd X _ MX7_left 0 [some (.ref 27), some (.int a), some (.int b), none] [] _ 0 0
  refine g_iload_n C0 dX7_left_0 rfl ?_
  refine g_iload_n C0 dX7_left_1 rfl ?_
  refine g_invS2 C0 dX7_left_2 CX7_32 rfl ⟨by decide, by decide, by decide, by decide⟩ (Nat.le_of_ble_eq_true rfl) ?_
  refine x_between ?_
  refine Aft_v (WX_len2 _ _) ?_
  refine g_istore_n C0 dX7_left_5 (by decide) ?_
  refine g_aload_n C0 dX7_left_6 rfl ?_
  refine g_getfield C0 dX7_left_7 FX7_14 rfl rfl ?_
  refine g_iload_n C0 dX7_left_10 rfl ?_
  refine g_invV1 C0 dX7_left_11 CX7_41 rfl rfl ⟨by decide, by decide, by decide, by decide⟩ (Nat.le_of_ble_eq_true rfl) ?_
  refine x_get 12 (by decide) ?_
  refine Aft_v (WX_len2 _ _) ?_
  refine g_aload_n C0 dX7_left_14 rfl ?_
  refine g_getfield C0 dX7_left_15 FX7_20 rfl rfl ?_
  refine g_iload_n C0 dX7_left_18 rfl ?_
  refine g_invV1 C0 dX7_left_19 CX7_41 rfl rfl ⟨by decide, by decide, by decide, by decide⟩ (Nat.le_of_ble_eq_true rfl) ?_
  refine x_get 13 (by decide) ?_
  refine Aft_v (WX_len2 _ _) ?_
  refine g_isub C0 dX7_left_22 ?_
  refine g_iret C0 rfl dX7_left_23 (by decide) (by decide) ?_
  exact hK
set_option maxRecDepth 100000 in
set_option maxHeartbeats 4000000 in
theorem x_wbegin {q : XS} {K : AO → AW → Prop} {c : Int32} (hK : K (.inl none) (WX (wbegin q c))) : Snd MX8_begin [.ref 81, .int c] (WX q) K := by
  refine Snd.of (by decide +kernel) (Nat.le_of_ble_eq_true rfl) rfl rfl ?_
  intro X D dA ad C0
  show Gd X _ MX8_begin 0 [some (.ref 81), some (.int c)] [] _ 0 0
  refine g_aload_n C0 dX8_begin_0 rfl ?_
  refine g_getfield C0 dX8_begin_1 FX8_14 rfl rfl ?_
  refine g_iconst (v := 0) C0 dX8_begin_4 (by decide) ?_
  refine g_iload_n C0 dX8_begin_5 rfl ?_
  refine g_invV2 C0 dX8_begin_6 CX8_24 rfl rfl ⟨by decide, by decide, by decide, by decide⟩ (Nat.le_of_ble_eq_true rfl) ?_
  refine x_set 35 (by decide) ?_
  refine Aft_n (WX_len2 _ _) ?_
  refine g_aload_n C0 dX8_begin_9 rfl ?_
  refine g_iconst (v := 1) C0 dX8_begin_10 (by decide) ?_
  refine g_putfield C0 dX8_begin_11 FX8_20 rfl (Nat.le_of_ble_eq_true rfl) (fun _ => ⟨rfl, rfl⟩) ?_
  refine g_w (WX_put7 _ 1) ?_
  refine g_vret C0 rfl dX8_begin_14 (by decide) (by decide) ?_
  exact hK
set_option maxRecDepth 100000 in
set_option maxHeartbeats 4000000 in
theorem x_wgo {q : XS} {K : AO → AW → Prop} {c : Int32} (hK : K (.inl none) (WX (wgo q c))) : Snd MX8_goOn [.ref 81, .int c] (WX q) K := by
  refine Snd.of (by decide +kernel) (Nat.le_of_ble_eq_true rfl) rfl rfl ?_
  intro X D dA ad C0
  show Gd X _ MX8_goOn 0 [some (.ref 81), some (.int c)] [] _ 0 0
  refine g_aload_n C0 dX8_goOn_0 rfl ?_
  refine g_getfield C0 dX8_goOn_1 FX8_14 rfl rfl ?_
  refine g_aload_n C0 dX8_goOn_4 rfl ?_
  refine g_getfield C0 dX8_goOn_5 FX8_20 rfl rfl ?_
  refine g_iload_n C0 dX8_goOn_8 rfl ?_
  refine g_invV2 C0 dX8_goOn_9 CX8_24 rfl rfl ⟨by decide, by decide, by decide, by decide⟩ (Nat.le_of_ble_eq_true rfl) ?_
  refine x_set 35 (by decide) ?_
  refine Aft_n (WX_len2 _ _) ?_
  refine g_aload_n C0 dX8_goOn_12 rfl ?_
  refine g_dup C0 dX8_goOn_13 rfl ?_
  refine g_getfield C0 dX8_goOn_14 FX8_20 rfl rfl ?_
  refine g_iconst (v := 1) C0 dX8_goOn_17 (by decide) ?_
  refine g_iadd C0 dX8_goOn_18 ?_
  refine g_putfield C0 dX8_goOn_19 FX8_20 rfl (Nat.le_of_ble_eq_true rfl) (fun _ => ⟨rfl, rfl⟩) ?_
  refine g_w (WX_put7i _) ?_
  refine g_vret C0 rfl dX8_goOn_22 (by decide) (by decide) ?_
  exact hK
set_option maxRecDepth 100000 in
set_option maxHeartbeats 4000000 in
theorem x_wfirst {q : XS} {K : AO → AW → Prop} (hK : K (.inl (some (.int (xg q 35 0)))) (WX q)) : Snd MX8_first [.ref 81] (WX q) K := by
  refine Snd.of (by decide +kernel) (Nat.le_of_ble_eq_true rfl) rfl rfl ?_
  intro X D dA ad C0
  show Gd X _ MX8_first 0 [some (.ref 81)] [] _ 0 0
  refine g_aload_n C0 dX8_first_0 rfl ?_
  refine g_getfield C0 dX8_first_1 FX8_14 rfl rfl ?_
  refine g_iconst (v := 0) C0 dX8_first_4 (by decide) ?_
  refine g_invV1 C0 dX8_first_5 CX8_27 rfl rfl ⟨by decide, by decide, by decide, by decide⟩ (Nat.le_of_ble_eq_true rfl) ?_
  refine x_get 35 (by decide) ?_
  refine Aft_v (WX_len2 _ _) ?_
  refine g_iret C0 rfl dX8_first_8 (by decide) (by decide) ?_
  exact hK
set_option maxRecDepth 100000 in
set_option maxHeartbeats 4000000 in
theorem x_wlast {q : XS} {K : AO → AW → Prop} (hK : K (.inl (some (.int (wlast q)))) (WX q)) : Snd MX8_last [.ref 81] (WX q) K := by
  refine Snd.of (by decide +kernel) (Nat.le_of_ble_eq_true rfl) rfl rfl ?_
  intro X D dA ad C0
  show Gd X _ MX8_last 0 [some (.ref 81)] [] _ 0 0
  refine g_aload_n C0 dX8_last_0 rfl ?_
  refine g_getfield C0 dX8_last_1 FX8_14 rfl rfl ?_
  refine g_aload_n C0 dX8_last_4 rfl ?_
  refine g_getfield C0 dX8_last_5 FX8_20 rfl rfl ?_
  refine g_iconst (v := 1) C0 dX8_last_8 (by decide) ?_
  refine g_isub C0 dX8_last_9 ?_
  refine g_invV1 C0 dX8_last_10 CX8_27 rfl rfl ⟨by decide, by decide, by decide, by decide⟩ (Nat.le_of_ble_eq_true rfl) ?_
  refine x_get 35 (by decide) ?_
  refine Aft_v (WX_len2 _ _) ?_
  refine g_iret C0 rfl dX8_last_13 (by decide) (by decide) ?_
  exact hK
set_option maxRecDepth 100000 in
set_option maxHeartbeats 4000000 in
theorem x_give {q : XS} {K : AO → AW → Prop} {a b c : Int32} (hK : K (.inl none) (WX (xgive q a b c))) : Snd MX1_give [.ref 16, .int a, .int b, .int c] (WX q) K := by
  refine Snd.of (by decide +kernel) (Nat.le_of_ble_eq_true rfl) rfl rfl ?_
  intro X D dA ad C0
  show Gd X _ MX1_give 0 [some (.ref 16), some (.int a), some (.int b), some (.int c)] [] _ 0 0
  refine g_aload_n C0 dX1_give_0 rfl ?_
  refine g_getfield C0 dX1_give_1 FX1_20 rfl rfl ?_
  refine g_iload_n C0 dX1_give_4 rfl ?_
  refine g_iload_n C0 dX1_give_5 rfl ?_
  refine g_ineg C0 dX1_give_6 ?_
  refine g_invV2 C0 dX1_give_7 CX1_29 rfl rfl ⟨by decide, by decide, by decide, by decide⟩ (Nat.le_of_ble_eq_true rfl) ?_
  refine x_add 8 (by decide) ?_
  refine Aft_n (WX_len2 _ _) ?_
  refine g_aload_n C0 dX1_give_10 rfl ?_
  refine g_getfield C0 dX1_give_11 FX1_20 rfl rfl ?_
  refine g_iload_n C0 dX1_give_14 rfl ?_
  refine g_iload_n C0 dX1_give_15 rfl ?_
  refine g_invV2 C0 dX1_give_16 CX1_29 rfl rfl ⟨by decide, by decide, by decide, by decide⟩ (Nat.le_of_ble_eq_true rfl) ?_
  refine x_add 8 (by decide) ?_
  refine Aft_n (WX_len2 _ _) ?_
  refine g_vret C0 rfl dX1_give_19 (by decide) (by decide) ?_
  exact hK
set_option maxRecDepth 100000 in
set_option maxHeartbeats 4000000 in
theorem x_payLoss {q : XS} {K : AO → AW → Prop} {a b : Int32} (hK : K (.inl none) (WX (xpayLoss q a b))) : Snd MX1_payLoss [.ref 16, .int a, .int b] (WX q) K := by
  refine Snd.of (by decide +kernel) (Nat.le_of_ble_eq_true rfl) rfl rfl ?_
  intro X D dA ad C0
  show Gd X _ MX1_payLoss 0 [some (.ref 16), some (.int a), some (.int b)] [] _ 0 0
  refine g_aload_n C0 dX1_payLoss_0 rfl ?_
  refine g_iload_n C0 dX1_payLoss_1 rfl ?_
  refine g_iload_n C0 dX1_payLoss_2 rfl ?_
  refine g_iconst (v := 5) C0 dX1_payLoss_3 (by decide) ?_
  refine g_invV3 C0 dX1_payLoss_4 CX1_32 rfl rfl ⟨by decide, by decide, by decide, by decide⟩ (Nat.le_of_ble_eq_true rfl) ?_
  refine x_give ?_
  refine Aft_n (WX_len2 _ _) ?_
  refine g_aload_n C0 dX1_payLoss_7 rfl ?_
  refine g_getfield C0 dX1_payLoss_8 FX1_26 rfl rfl ?_
  refine g_iload_n C0 dX1_payLoss_11 rfl ?_
  refine g_iconst (v := 5) C0 dX1_payLoss_12 (by decide) ?_
  refine g_invV2 C0 dX1_payLoss_13 CX1_29 rfl rfl ⟨by decide, by decide, by decide, by decide⟩ (Nat.le_of_ble_eq_true rfl) ?_
  refine x_add 10 (by decide) ?_
  refine Aft_n (WX_len2 _ _) ?_
  refine g_vret C0 rfl dX1_payLoss_16 (by decide) (by decide) ?_
  exact hK
set_option maxRecDepth 100000 in
set_option maxHeartbeats 4000000 in
theorem x_tfull {q : XS} {K : AO → AW → Prop} (hK : K (.inl (some (.int (if nI (q.2 4) < 60 then 0 else 1)))) (WX q)) : Snd MX6_isFull [.ref 49] (WX q) K := by
  refine Snd.of (by decide +kernel) (Nat.le_of_ble_eq_true rfl) rfl rfl ?_
  intro X D dA ad C0
  show Gd X _ MX6_isFull 0 [some (.ref 49)] [] _ 0 0
  refine g_aload_n C0 dX6_isFull_0 rfl ?_
  refine g_getfield C0 dX6_isFull_1 FX6_12 rfl rfl ?_
  refine g_invV0 C0 dX6_isFull_4 CX6_21 rfl rfl ⟨by decide, by decide, by decide, by decide⟩ (Nat.le_of_ble_eq_true rfl) ?_
  refine x_isFull 2 (by decide) ?_
  refine Aft_v (WX_len2 _ _) ?_
  refine g_zret C0 rfl (by split <;> rfl) dX6_isFull_7 (by decide) (by decide) ?_
  exact hK
set_option maxRecDepth 100000 in
set_option maxHeartbeats 4000000 in
theorem x_price {q : XS} {K : AO → AW → Prop} {c s a b : Int32} (hK : K (.inl none) (WX (xprice q c s a b))) : Snd MX6_change [.ref 49, .int c, .int s, .int a, .int b] (WX q) K := by
  refine Snd.of (by decide +kernel) (Nat.le_of_ble_eq_true rfl) rfl rfl ?_
  intro X D dA ad C0
  show Gd X _ MX6_change 0 [some (.ref 49), some (.int c), some (.int s), some (.int a), some (.int b)] [] _ 0 0
  refine g_aload_n C0 dX6_change_0 rfl ?_
  refine g_getfield C0 dX6_change_1 FX6_12 rfl rfl ?_
  refine g_iload_n C0 dX6_change_4 rfl ?_
  refine g_iload_n C0 dX6_change_5 rfl ?_
  refine g_iload_n C0 dX6_change_6 rfl ?_
  refine g_invV3 C0 dX6_change_7 CX6_25 rfl rfl ⟨by decide, by decide, by decide, by decide⟩ (Nat.le_of_ble_eq_true rfl) ?_
  refine x_hadd 2 (by decide) ?_
  refine Aft_n (WX_len2 _ _) ?_
  refine g_aload_n C0 dX6_change_10 rfl ?_
  refine g_getfield C0 dX6_change_11 FX6_18 rfl rfl ?_
  refine g_iload_n C0 dX6_change_14 rfl ?_
  refine g_iload_n C0 dX6_change_15 rfl ?_
  refine g_iload C0 dX6_change_16 rfl ?_
  refine g_invV3 C0 dX6_change_18 CX6_25 rfl rfl ⟨by decide, by decide, by decide, by decide⟩ (Nat.le_of_ble_eq_true rfl) ?_
  refine x_hadd 3 (by decide) ?_
  refine Aft_n (WX_len2 _ _) ?_
  refine g_vret C0 rfl dX6_change_21 (by decide) (by decide) ?_
  exact hK
set_option maxRecDepth 100000 in
set_option maxHeartbeats 4000000 in
theorem x_dearAt {q : XS} {K : AO → AW → Prop} {c s : Int32} (hq : q.2 4 < 100000) (hK : K (.inl (some (.int (hval q 2 c s 2)))) (WX q)) : Snd MX6_dearAt [.ref 49, .int c, .int s] (WX q) K := by
  refine Snd.of (by decide +kernel) (Nat.le_of_ble_eq_true rfl) rfl rfl ?_
  intro X D dA ad C0
  show Gd X _ MX6_dearAt 0 [some (.ref 49), some (.int c), some (.int s)] [] _ 0 0
  refine g_aload_n C0 dX6_dearAt_0 rfl ?_
  refine g_getfield C0 dX6_dearAt_1 FX6_12 rfl rfl ?_
  refine g_iload_n C0 dX6_dearAt_4 rfl ?_
  refine g_iload_n C0 dX6_dearAt_5 rfl ?_
  refine g_iconst (v := 2) C0 dX6_dearAt_6 (by decide) ?_
  refine g_invV3 C0 dX6_dearAt_7 CX6_29 rfl rfl ⟨by decide, by decide, by decide, by decide⟩ (Nat.le_of_ble_eq_true rfl) ?_
  refine x_valueAt 2 (by decide) (by assumption) ?_
  refine Aft_v (WX_len2 _ _) ?_
  refine g_iret C0 rfl dX6_dearAt_10 (by decide) (by decide) ?_
  exact hK
set_option maxRecDepth 100000 in
set_option maxHeartbeats 4000000 in
theorem x_tnext {q : XS} {K : AO → AW → Prop} {c s l : Int32} (hq : q.2 4 < 100000) (hK : K (.inl (some (.int (hnext q 2 c s l)))) (WX q)) : Snd MX6_nextAfter [.ref 49, .int c, .int s, .int l] (WX q) K := by
  refine Snd.of (by decide +kernel) (Nat.le_of_ble_eq_true rfl) rfl rfl ?_
  intro X D dA ad C0
  show Gd X _ MX6_nextAfter 0 [some (.ref 49), some (.int c), some (.int s), some (.int l)] [] _ 0 0
  refine g_aload_n C0 dX6_nextAfter_0 rfl ?_
  refine g_getfield C0 dX6_nextAfter_1 FX6_12 rfl rfl ?_
  refine g_iload_n C0 dX6_nextAfter_4 rfl ?_
  refine g_iload_n C0 dX6_nextAfter_5 rfl ?_
  refine g_iload_n C0 dX6_nextAfter_6 rfl ?_
  refine g_invV3 C0 dX6_nextAfter_7 CX6_33 rfl rfl ⟨by decide, by decide, by decide, by decide⟩ (Nat.le_of_ble_eq_true rfl) ?_
  refine x_nextAfter 2 (by decide) (by assumption) ?_
  refine Aft_v (WX_len2 _ _) ?_
  refine g_iret C0 rfl dX6_nextAfter_10 (by decide) (by decide) ?_
  exact hK
set_option maxRecDepth 100000 in
set_option maxHeartbeats 4000000 in
theorem x_dearBefore {q : XS} {K : AO → AW → Prop} {s : Int32} (hK : K (.inl (some (.int (dearB s)))) (WX q)) : Snd MX6_dearBefore [.int s] (WX q) K := by
  refine Snd.of (by decide +kernel) (Nat.le_of_ble_eq_true rfl) rfl rfl ?_
  intro X D dA ad C0
  show Gd X _ MX6_dearBefore 0 [some (.int s), none] [] _ 0 0
  refine g_iload_n C0 dX6_dearBefore_0 rfl ?_
  refine g_sipush (v := 1440) C0 dX6_dearBefore_1 (by decide) ?_
  refine g_irem C0 dX6_dearBefore_4 (by decide) ?_
  refine g_sipush (v := 480) C0 dX6_dearBefore_5 (by decide) ?_
  refine g_isub C0 dX6_dearBefore_8 ?_
  refine g_iconst (v := 0) C0 dX6_dearBefore_9 (by decide) ?_
  refine g_max C0 dX6_dearBefore_10 QX6_44 (by decide) (Nat.le_of_ble_eq_true rfl) (by decide) (by decide) ?_
  refine g_istore_n C0 dX6_dearBefore_13 (by decide) ?_
  refine g_iload_n C0 dX6_dearBefore_14 rfl ?_
  refine g_sipush (v := 1440) C0 dX6_dearBefore_15 (by decide) ?_
  refine g_idiv C0 dX6_dearBefore_18 (by decide) ?_
  refine g_sipush (v := 720) C0 dX6_dearBefore_19 (by decide) ?_
  refine g_imul C0 dX6_dearBefore_22 ?_
  refine g_iload_n C0 dX6_dearBefore_23 rfl ?_
  refine g_sipush (v := 720) C0 dX6_dearBefore_24 (by decide) ?_
  refine g_min C0 dX6_dearBefore_27 QX6_49 (by decide) (Nat.le_of_ble_eq_true rfl) (by decide) (by decide) ?_
  refine g_iadd C0 dX6_dearBefore_30 ?_
  refine g_iret C0 rfl dX6_dearBefore_31 (by decide) (by decide) ?_
  exact hK
set_option maxRecDepth 100000 in
set_option maxHeartbeats 4000000 in
theorem x_charge {q : XS} {K : AO → AW → Prop} {c a b : Int32} (hq : q.2 4 < 100000) (hq5 : q.2 5 < 100000) (hK : K (.inl (some (.int (xcharge q c a b)))) (WX q)) : Snd MX6_charge [.ref 49, .int c, .int a, .int b] (WX q) K := by
  refine Snd.of (by decide +kernel) (Nat.le_of_ble_eq_true rfl) rfl rfl ?_
  intro X D dA ad C0
  show Gd X _ MX6_charge 0 [some (.ref 49), some (.int c), some (.int a), some (.int b), none, none, none] [] _ 0 0
  refine g_iload_n C0 dX6_charge_0 rfl ?_
  refine g_invS1 C0 dX6_charge_1 CX6_36 rfl ⟨by decide, by decide, by decide, by decide⟩ (Nat.le_of_ble_eq_true rfl) ?_
  refine x_dearBefore ?_
  refine Aft_v (WX_len2 _ _) ?_
  refine g_iload_n C0 dX6_charge_4 rfl ?_
  refine g_invS1 C0 dX6_charge_5 CX6_36 rfl ⟨by decide, by decide, by decide, by decide⟩ (Nat.le_of_ble_eq_true rfl) ?_
  refine x_dearBefore ?_
  refine Aft_v (WX_len2 _ _) ?_
  refine g_isub C0 dX6_charge_8 ?_
  refine g_istore C0 dX6_charge_9 (by decide) ?_
  refine g_iload_n C0 dX6_charge_11 rfl ?_
  refine g_iload_n C0 dX6_charge_12 rfl ?_
  refine g_isub C0 dX6_charge_13 ?_
  refine g_iload C0 dX6_charge_14 rfl ?_
  refine g_isub C0 dX6_charge_16 ?_
  refine g_istore C0 dX6_charge_17 (by decide) ?_
  refine g_aload_n C0 dX6_charge_19 rfl ?_
  refine g_getfield C0 dX6_charge_20 FX6_18 rfl rfl ?_
  refine g_iload_n C0 dX6_charge_23 rfl ?_
  refine g_iload_n C0 dX6_charge_24 rfl ?_
  refine g_iconst (v := 1) C0 dX6_charge_25 (by decide) ?_
  refine g_invV3 C0 dX6_charge_26 CX6_29 rfl rfl ⟨by decide, by decide, by decide, by decide⟩ (Nat.le_of_ble_eq_true rfl) ?_
  refine x_valueAt 3 (by decide) (by assumption) ?_
  refine Aft_v (WX_len2 _ _) ?_
  refine g_istore C0 dX6_charge_29 (by decide) ?_
  refine g_iload C0 dX6_charge_31 rfl ?_
  refine g_aload_n C0 dX6_charge_33 rfl ?_
  refine g_iload_n C0 dX6_charge_34 rfl ?_
  refine g_iload_n C0 dX6_charge_35 rfl ?_
  refine g_invV2 C0 dX6_charge_36 CX6_40 rfl rfl ⟨by decide, by decide, by decide, by decide⟩ (Nat.le_of_ble_eq_true rfl) ?_
  refine x_dearAt (by assumption) ?_
  refine Aft_v (WX_len2 _ _) ?_
  refine g_imul C0 dX6_charge_39 ?_
  refine g_iload C0 dX6_charge_40 rfl ?_
  refine g_iload C0 dX6_charge_42 rfl ?_
  refine g_imul C0 dX6_charge_44 ?_
  refine g_iadd C0 dX6_charge_45 ?_
  refine g_iret C0 rfl dX6_charge_46 (by decide) (by decide) ?_
  exact hK
set_option maxRecDepth 100000 in
set_option maxHeartbeats 4000000 in
theorem x_cfull {q : XS} {K : AO → AW → Prop} (hK : K (.inl (some (.int (if nI (q.2 6) < 60 then 0 else 1)))) (WX q)) : Snd MX0_isFull [.ref 64] (WX q) K := by
  refine Snd.of (by decide +kernel) (Nat.le_of_ble_eq_true rfl) rfl rfl ?_
  intro X D dA ad C0
  show Gd X _ MX0_isFull 0 [some (.ref 64)] [] _ 0 0
  refine g_aload_n C0 dX0_isFull_0 rfl ?_
  refine g_getfield C0 dX0_isFull_1 FX0_41 rfl rfl ?_
  refine g_bipush (v := 60) C0 dX0_isFull_4 (by decide) ?_
  refine g_icmp_lt (tgt := 13) C0 dX0_isFull_6 (by decide) (fun h6 => ?_) (fun h6 => ?_)
  · refine g_iconst (v := 0) C0 dX0_isFull_13 (by decide) ?_
    refine g_zret C0 rfl rfl dX0_isFull_14 (by decide) (by decide) ?_
    rw [if_pos h6] at hK; exact hK
  refine g_iconst (v := 1) C0 dX0_isFull_9 (by decide) ?_
  refine g_goto (tgt := 14) C0 dX0_isFull_10 (by decide) ?_
  refine g_zret C0 rfl rfl dX0_isFull_14 (by decide) (by decide) ?_
  rw [if_neg h6] at hK; exact hK
set_option maxRecDepth 100000 in
set_option maxHeartbeats 4000000 in
theorem x_goesOn {q : XS} {K : AO → AW → Prop} {c : Int32} (hK : K (.inl (some (.int (cgoes q c)))) (WX q)) : Snd MX0_goesOn [.ref 64, .int c] (WX q) K := by
  refine Snd.of (by decide +kernel) (Nat.le_of_ble_eq_true rfl) rfl rfl ?_
  intro X D dA ad C0
  show Gd X _ MX0_goesOn 0 [some (.ref 64), some (.int c)] [] _ 0 0
  refine g_aload_n C0 dX0_goesOn_0 rfl ?_
  refine g_getfield C0 dX0_goesOn_1 FX0_29 rfl rfl ?_
  refine g_iload_n C0 dX0_goesOn_4 rfl ?_
  refine g_invV1 C0 dX0_goesOn_5 CX0_54 rfl rfl ⟨by decide, by decide, by decide, by decide⟩ (Nat.le_of_ble_eq_true rfl) ?_
  refine x_get 31 (by decide) ?_
  refine Aft_v (WX_len2 _ _) ?_
  refine g_if_ne (tgt := 15) C0 dX0_goesOn_8 (by decide) (fun h8 => ?_) (fun h8 => ?_)
  · refine g_iconst (v := 0) C0 dX0_goesOn_15 (by decide) ?_
    refine g_zret C0 rfl rfl dX0_goesOn_16 (by decide) (by decide) ?_
    rw [cgoes, if_neg h8] at hK; exact hK
  refine g_iconst (v := 1) C0 dX0_goesOn_11 (by decide) ?_
  refine g_goto (tgt := 16) C0 dX0_goesOn_12 (by decide) ?_
  refine g_zret C0 rfl rfl dX0_goesOn_16 (by decide) (by decide) ?_
  rw [cgoes, if_pos h8] at hK; exact hK
set_option maxRecDepth 100000 in
set_option maxHeartbeats 4000000 in
theorem x_cfin {q : XS} {K : AO → AW → Prop} {c s v : Int32} (hK : K (.inl none) (WX (cfin q c s v))) : Snd MX0_end [.ref 64, .int c, .int s, .int v] (WX q) K := by
  refine Snd.of (by decide +kernel) (Nat.le_of_ble_eq_true rfl) rfl rfl ?_
  intro X D dA ad C0
  show Gd X _ MX0_end 0 [some (.ref 64), some (.int c), some (.int s), some (.int v)] [] _ 0 0
  refine g_aload_n C0 dX0_end_0 rfl ?_
  refine g_getfield C0 dX0_end_1 FX0_26 rfl rfl ?_
  refine g_iload_n C0 dX0_end_4 rfl ?_
  refine g_iload_n C0 dX0_end_5 rfl ?_
  refine g_invV2 C0 dX0_end_6 CX0_45 rfl rfl ⟨by decide, by decide, by decide, by decide⟩ (Nat.le_of_ble_eq_true rfl) ?_
  refine x_set 30 (by decide) ?_
  refine Aft_n (WX_len2 _ _) ?_
  refine g_aload_n C0 dX0_end_9 rfl ?_
  refine g_getfield C0 dX0_end_10 FX0_29 rfl rfl ?_
  refine g_iload_n C0 dX0_end_13 rfl ?_
  refine g_iload_n C0 dX0_end_14 rfl ?_
  refine g_invV2 C0 dX0_end_15 CX0_45 rfl rfl ⟨by decide, by decide, by decide, by decide⟩ (Nat.le_of_ble_eq_true rfl) ?_
  refine x_set 31 (by decide) ?_
  refine Aft_n (WX_len2 _ _) ?_
  refine g_vret C0 rfl dX0_end_18 (by decide) (by decide) ?_
  exact hK
set_option maxRecDepth 100000 in
set_option maxHeartbeats 4000000 in
theorem x_endOf {q : XS} {K : AO → AW → Prop} {c s : Int32} (hK : K (.inl (some (.int (cend q c s)))) (WX q)) : Snd MX0_endOf [.ref 64, .int c, .int s] (WX q) K := by
  refine Snd.of (by decide +kernel) (Nat.le_of_ble_eq_true rfl) rfl rfl ?_
  intro X D dA ad C0
  show Gd X _ MX0_endOf 0 [some (.ref 64), some (.int c), some (.int s)] [] _ 0 0
  refine g_aload_n C0 dX0_endOf_0 rfl ?_
  refine g_iload_n C0 dX0_endOf_1 rfl ?_
  refine g_invV1 C0 dX0_endOf_2 CX0_58 rfl rfl ⟨by decide, by decide, by decide, by decide⟩ (Nat.le_of_ble_eq_true rfl) ?_
  refine x_goesOn ?_
  refine Aft_v (WX_len2 _ _) ?_
  unfold cgoes
  by_cases hf : xg q 31 c = 0
  · rw [if_pos hf]
    refine g_if_eq (tgt := 12) C0 dX0_endOf_5 (by decide) (fun z => (by revert z; decide +kernel : False).elim) (fun _ => ?_)
    refine g_iload_n C0 dX0_endOf_8 rfl ?_
    refine g_goto (tgt := 20) C0 dX0_endOf_9 (by decide) ?_
    refine g_iret C0 rfl dX0_endOf_20 (by decide) (by decide) ?_
    rw [cend, if_pos hf] at hK; exact hK
  rw [if_neg hf]
  refine g_if_eq (tgt := 12) C0 dX0_endOf_5 (by decide) (fun _ => ?_) (fun z => (by revert z; decide +kernel : False).elim)
  refine g_aload_n C0 dX0_endOf_12 rfl ?_
  refine g_getfield C0 dX0_endOf_13 FX0_26 rfl rfl ?_
  refine g_iload_n C0 dX0_endOf_16 rfl ?_
  refine g_invV1 C0 dX0_endOf_17 CX0_54 rfl rfl ⟨by decide, by decide, by decide, by decide⟩ (Nat.le_of_ble_eq_true rfl) ?_
  refine x_get 30 (by decide) ?_
  refine Aft_v (WX_len2 _ _) ?_
  refine g_iret C0 rfl dX0_endOf_20 (by decide) (by decide) ?_
  rw [cend, if_neg hf] at hK; exact hK
set_option maxRecDepth 100000 in
set_option maxHeartbeats 4000000 in
theorem x_lasted {q : XS} {K : AO → AW → Prop} {c s : Int32} (hK : K (.inl (some (.int (clasted q c s)))) (WX q)) : Snd MX0_lasted [.ref 64, .int c, .int s] (WX q) K := by
  refine Snd.of (by decide +kernel) (Nat.le_of_ble_eq_true rfl) rfl rfl ?_
  intro X D dA ad C0
  show Gd X _ MX0_lasted 0 [some (.ref 64), some (.int c), some (.int s)] [] _ 0 0
  refine g_aload_n C0 dX0_lasted_0 rfl ?_
  refine g_iload_n C0 dX0_lasted_1 rfl ?_
  refine g_iload_n C0 dX0_lasted_2 rfl ?_
  refine g_invV2 C0 dX0_lasted_3 CX0_62 rfl rfl ⟨by decide, by decide, by decide, by decide⟩ (Nat.le_of_ble_eq_true rfl) ?_
  refine x_endOf ?_
  refine Aft_v (WX_len2 _ _) ?_
  refine g_aload_n C0 dX0_lasted_6 rfl ?_
  refine g_getfield C0 dX0_lasted_7 FX0_23 rfl rfl ?_
  refine g_iload_n C0 dX0_lasted_10 rfl ?_
  refine g_invV1 C0 dX0_lasted_11 CX0_54 rfl rfl ⟨by decide, by decide, by decide, by decide⟩ (Nat.le_of_ble_eq_true rfl) ?_
  refine x_get 29 (by decide) ?_
  refine Aft_v (WX_len2 _ _) ?_
  refine g_isub C0 dX0_lasted_14 ?_
  refine g_iret C0 rfl dX0_lasted_15 (by decide) (by decide) ?_
  exact hK
set_option maxRecDepth 100000 in
set_option maxHeartbeats 4000000 in
theorem x_stop {q : XS} {K : AO → AW → Prop} {c p : Int32} (hK : K (.inl (some (.int (cstop q c p)))) (WX q)) : Snd MX0_stop [.ref 64, .int c, .int p] (WX q) K := by
  refine Snd.of (by decide +kernel) (Nat.le_of_ble_eq_true rfl) rfl rfl ?_
  intro X D dA ad C0
  show Gd X _ MX0_stop 0 [some (.ref 64), some (.int c), some (.int p)] [] _ 0 0
  refine g_aload_n C0 dX0_stop_0 rfl ?_
  refine g_getfield C0 dX0_stop_1 FX0_38 rfl rfl ?_
  refine g_iload_n C0 dX0_stop_4 rfl ?_
  refine g_iconst (v := 5) C0 dX0_stop_5 (by decide) ?_
  refine g_imul C0 dX0_stop_6 ?_
  refine g_iload_n C0 dX0_stop_7 rfl ?_
  refine g_iadd C0 dX0_stop_8 ?_
  refine g_invV1 C0 dX0_stop_9 CX0_54 rfl rfl ⟨by decide, by decide, by decide, by decide⟩ (Nat.le_of_ble_eq_true rfl) ?_
  refine x_get 34 (by decide) ?_
  refine Aft_v (WX_len2 _ _) ?_
  refine g_iret C0 rfl dX0_stop_12 (by decide) (by decide) ?_
  exact hK
set_option maxRecDepth 100000 in
set_option maxHeartbeats 4000000 in
theorem x_pfull {q : XS} {K : AO → AW → Prop} (hK : K (.inl (some (.int (if nI (q.2 2) < 60 then 0 else 1)))) (WX q)) : Snd MX4_isFull [.ref 32] (WX q) K := by
  refine Snd.of (by decide +kernel) (Nat.le_of_ble_eq_true rfl) rfl rfl ?_
  intro X D dA ad C0
  show Gd X _ MX4_isFull 0 [some (.ref 32)] [] _ 0 0
  refine g_aload_n C0 dX4_isFull_0 rfl ?_
  refine g_getfield C0 dX4_isFull_1 FX4_12 rfl rfl ?_
  refine g_invV0 C0 dX4_isFull_4 CX4_27 rfl rfl ⟨by decide, by decide, by decide, by decide⟩ (Nat.le_of_ble_eq_true rfl) ?_
  refine x_isFull 0 (by decide) ?_
  refine Aft_v (WX_len2 _ _) ?_
  refine g_zret C0 rfl (by split <;> rfl) dX4_isFull_7 (by decide) (by decide) ?_
  exact hK
set_option maxRecDepth 100000 in
set_option maxHeartbeats 4000000 in
theorem x_placeAt {q : XS} {K : AO → AW → Prop} {n s : Int32} (hq : q.2 2 < 100000) (hK : K (.inl (some (.int (placeAt q n s)))) (WX q)) : Snd MX4_placeAt [.ref 32, .int n, .int s] (WX q) K := by
  refine Snd.of (by decide +kernel) (Nat.le_of_ble_eq_true rfl) rfl rfl ?_
  intro X D dA ad C0
  show Gd X _ MX4_placeAt 0 [some (.ref 32), some (.int n), some (.int s)] [] _ 0 0
  refine g_aload_n C0 dX4_placeAt_0 rfl ?_
  refine g_getfield C0 dX4_placeAt_1 FX4_12 rfl rfl ?_
  refine g_iload_n C0 dX4_placeAt_4 rfl ?_
  refine g_iload_n C0 dX4_placeAt_5 rfl ?_
  refine g_iload_n C0 dX4_placeAt_6 rfl ?_
  refine g_iconst (v := 5) C0 dX4_placeAt_7 (by decide) ?_
  refine g_irem C0 dX4_placeAt_8 (by decide) ?_
  refine g_invV3 C0 dX4_placeAt_9 CX4_46 rfl rfl ⟨by decide, by decide, by decide, by decide⟩ (Nat.le_of_ble_eq_true rfl) ?_
  refine x_valueAt 0 (by decide) (by assumption) ?_
  refine Aft_v (WX_len2 _ _) ?_
  refine g_iret C0 rfl dX4_placeAt_12 (by decide) (by decide) ?_
  exact hK

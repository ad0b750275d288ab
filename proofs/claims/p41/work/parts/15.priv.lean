abbrev noC (c : Int32) : Prop := c < 0 ∨ 5 ≤ c
abbrev noP (c : Int32) : Prop := c < 0 ∨ 6 ≤ c
abbrev noN (c : Int32) : Prop := c < 0 ∨ 12 ≤ c
abbrev noK (q : XS) (c : Int32) : Prop := c < 0 ∨ nI (q.2 6) ≤ c
abbrev noW (v a b : Int32) : Prop := v < a ∨ b < v
def XI (x : XS) (k : Nat) : Nat := x.2 k
/-! what the private methods make of the state -/
def xset1 (q : XS) (n p : Int32) : XS := xad (xad (xad q 2 n (-p)) 3 n p) 8 (xg (xad (xad q 2 n (-p)) 3 n p) 0 n) p
def xsettle (q : XS) (n p : Int32) : XS := if xg (xset1 q n p) 2 n = 0 then xs (xset1 q n p) 5 n 0 else xset1 q n p
def fwF (goal other : Int32) : Nat → XS → XS × Int32
  | 0, q => (q, if wlast q = goal then 1 else 0)
  | n + 1, q => if wlast q = goal then (q, 1) else if whas q (known q (wlast q) other (nI (q.2 0))) = 0 ∧ 0 < xleft q (wlast q) (known q (wlast q) other (nI (q.2 0))) then fwF goal other n (wgo q (known q (wlast q) other (nI (q.2 0)))) else (q, 0)
def xfind (q : XS) (a b : Int32) : XS × Int32 := fwF (xg q 0 b) b 5 (wbegin q (xg q 0 a))
def tkF (q : XS) (c d : Int32) : Nat → XS
  | 0 => q
  | n + 1 => xtake (tkF q c d n) (cstop (tkF q c d n) c (nI n)) (cstop (tkF q c d n) c (nI n + 1)) d
def xbegin (q : XS) (a b : Int32) (m : Nat) : XS := xs (xs (tkF (cbegin q a b (nI (q.2 0))) (nI (q.2 6)) 1 m) 6 a (nI (q.2 6))) 6 b (nI (q.2 6))
def xend (q : XS) (c v : Int32) (m : Nat) : XS := xs (xs (tkF (cfin q c (nI (q.2 0)) v) c (-1) m) 6 (xg (tkF (cfin q c (nI (q.2 0)) v) c (-1) m) 27 c) (-1)) 6 (xg (xs (tkF (cfin q c (nI (q.2 0)) v) c (-1) m) 6 (xg (tkF (cfin q c (nI (q.2 0)) v) c (-1) m) 27 c) (-1)) 28 c) (-1)
def xchv (q : XS) (c u : Int32) : Int32 := xcharge q (xg q 0 (xg q 27 c)) (nI (q.2 0)) u
def xch3 (q : XS) (c u : Int32) : XS := xad (xad (xad q 32 c (xchv q c u)) 2 (xg q 27 c) (xchv q c u)) 9 (xg q 0 (xg q 27 c)) (xchv q c u)
def xchU (q : XS) (c u : Int32) : XS := xad (xch3 q c u) 11 (xg (xch3 q c u) 1 (xg q 27 c)) (xchv q c u)
set_option maxRecDepth 100000 in
set_option maxHeartbeats 4000000 in
theorem x_needC {w : AW} {K : AO → AW → Prop} {c : Int32} (hx : noC c → K (.inr 0) w) (hk : ¬ noC c → K (.inl none) w) : Snd MX9_needCarrier [.int c] (w) K := by
  refine Snd.of (by decide +kernel) (Nat.le_of_ble_eq_true rfl) rfl rfl ?_
  intro X D dA ad C0
  show Gd X _ MX9_needCarrier 0 [some (.int c)] [] _ 0 0
  refine g_iload_n C0 dX9_needCarrier_0 rfl ?_
  refine g_if_lt (tgt := 9) C0 dX9_needCarrier_1 (by decide) (fun h1 => ?_) (fun h1 => ?_)
  · refine g_throwW C0 dX9_needCarrier_9 dX9_needCarrier_12 dX9_needCarrier_13 dX9_needCarrier_16 dX9_needCarrier_19 HX9_needCarrier_9 rfl (by decide) (Nat.le_of_ble_eq_true rfl) (by decide) (by decide) ?_
    exact hx (Or.inl h1)
  refine g_iload_n C0 dX9_needCarrier_4 rfl ?_
  refine g_iconst (v := 5) C0 dX9_needCarrier_5 (by decide) ?_
  refine g_icmp_lt (tgt := 20) C0 dX9_needCarrier_6 (by decide) (fun h6 => ?_) (fun h6 => ?_)
  · refine g_vret C0 rfl dX9_needCarrier_20 (by decide) (by decide) ?_
    exact hk (fun z => z.elim h1 (Int32.not_le.mpr h6))
  refine g_throwW C0 dX9_needCarrier_9 dX9_needCarrier_12 dX9_needCarrier_13 dX9_needCarrier_16 dX9_needCarrier_19 HX9_needCarrier_9 rfl (by decide) (Nat.le_of_ble_eq_true rfl) (by decide) (by decide) ?_
  exact hx (Or.inr (Int32.not_lt.mp h6))
set_option maxRecDepth 100000 in
set_option maxHeartbeats 4000000 in
theorem x_needP {w : AW} {K : AO → AW → Prop} {c : Int32} (hx : noP c → K (.inr 0) w) (hk : ¬ noP c → K (.inl none) w) : Snd MX9_needPerson [.int c] (w) K := by
  refine Snd.of (by decide +kernel) (Nat.le_of_ble_eq_true rfl) rfl rfl ?_
  intro X D dA ad C0
  show Gd X _ MX9_needPerson 0 [some (.int c)] [] _ 0 0
  refine g_iload_n C0 dX9_needPerson_0 rfl ?_
  refine g_if_lt (tgt := 10) C0 dX9_needPerson_1 (by decide) (fun h1 => ?_) (fun h1 => ?_)
  · refine g_throwW C0 dX9_needPerson_10 dX9_needPerson_13 dX9_needPerson_14 dX9_needPerson_17 dX9_needPerson_20 HX9_needPerson_10 rfl (by decide) (Nat.le_of_ble_eq_true rfl) (by decide) (by decide) ?_
    exact hx (Or.inl h1)
  refine g_iload_n C0 dX9_needPerson_4 rfl ?_
  refine g_bipush (v := 6) C0 dX9_needPerson_5 (by decide) ?_
  refine g_icmp_lt (tgt := 21) C0 dX9_needPerson_7 (by decide) (fun h7 => ?_) (fun h7 => ?_)
  · refine g_vret C0 rfl dX9_needPerson_21 (by decide) (by decide) ?_
    exact hk (fun z => z.elim h1 (Int32.not_le.mpr h7))
  refine g_throwW C0 dX9_needPerson_10 dX9_needPerson_13 dX9_needPerson_14 dX9_needPerson_17 dX9_needPerson_20 HX9_needPerson_10 rfl (by decide) (Nat.le_of_ble_eq_true rfl) (by decide) (by decide) ?_
  exact hx (Or.inr (Int32.not_lt.mp h7))
set_option maxRecDepth 100000 in
set_option maxHeartbeats 4000000 in
theorem x_needN {w : AW} {K : AO → AW → Prop} {c : Int32} (hx : noN c → K (.inr 0) w) (hk : ¬ noN c → K (.inl none) w) : Snd MX9_needNumber [.int c] (w) K := by
  refine Snd.of (by decide +kernel) (Nat.le_of_ble_eq_true rfl) rfl rfl ?_
  intro X D dA ad C0
  show Gd X _ MX9_needNumber 0 [some (.int c)] [] _ 0 0
  refine g_iload_n C0 dX9_needNumber_0 rfl ?_
  refine g_if_lt (tgt := 10) C0 dX9_needNumber_1 (by decide) (fun h1 => ?_) (fun h1 => ?_)
  · refine g_throwW C0 dX9_needNumber_10 dX9_needNumber_13 dX9_needNumber_14 dX9_needNumber_17 dX9_needNumber_20 HX9_needNumber_10 rfl (by decide) (Nat.le_of_ble_eq_true rfl) (by decide) (by decide) ?_
    exact hx (Or.inl h1)
  refine g_iload_n C0 dX9_needNumber_4 rfl ?_
  refine g_bipush (v := 12) C0 dX9_needNumber_5 (by decide) ?_
  refine g_icmp_lt (tgt := 21) C0 dX9_needNumber_7 (by decide) (fun h7 => ?_) (fun h7 => ?_)
  · refine g_vret C0 rfl dX9_needNumber_21 (by decide) (by decide) ?_
    exact hk (fun z => z.elim h1 (Int32.not_le.mpr h7))
  refine g_throwW C0 dX9_needNumber_10 dX9_needNumber_13 dX9_needNumber_14 dX9_needNumber_17 dX9_needNumber_20 HX9_needNumber_10 rfl (by decide) (Nat.le_of_ble_eq_true rfl) (by decide) (by decide) ?_
  exact hx (Or.inr (Int32.not_lt.mp h7))
set_option maxRecDepth 100000 in
set_option maxHeartbeats 4000000 in
theorem x_needK {q : XS} {K : AO → AW → Prop} {c : Int32} (hx : noK q c → K (.inr 0) (WX q)) (hk : ¬ noK q c → K (.inl none) (WX q)) : Snd MX9_needCall [.ref 0, .int c] (WX q) K := by
  refine Snd.of (by decide +kernel) (Nat.le_of_ble_eq_true rfl) rfl rfl ?_
  intro X D dA ad C0
  show Gd X _ MX9_needCall 0 [some (.ref 0), some (.int c)] [] _ 0 0
  refine g_iload_n C0 dX9_needCall_0 rfl ?_
  refine g_if_lt (tgt := 15) C0 dX9_needCall_1 (by decide) (fun h1 => ?_) (fun h1 => ?_)
  · refine g_throwW C0 dX9_needCall_15 dX9_needCall_18 dX9_needCall_19 dX9_needCall_22 dX9_needCall_25 HX9_needCall_15 rfl (by decide) (Nat.le_of_ble_eq_true rfl) (by decide) (by decide) ?_
    exact hx (Or.inl h1)
  refine g_iload_n C0 dX9_needCall_4 rfl ?_
  refine g_aload_n C0 dX9_needCall_5 rfl ?_
  refine g_getfield C0 dX9_needCall_6 FX9_63 rfl rfl ?_
  refine g_getfield C0 dX9_needCall_9 FX9_228 rfl rfl ?_
  refine g_icmp_lt (tgt := 26) C0 dX9_needCall_12 (by decide) (fun h12 => ?_) (fun h12 => ?_)
  · refine g_vret C0 rfl dX9_needCall_26 (by decide) (by decide) ?_
    exact hk (fun z => z.elim h1 (Int32.not_le.mpr h12))
  refine g_throwW C0 dX9_needCall_15 dX9_needCall_18 dX9_needCall_19 dX9_needCall_22 dX9_needCall_25 HX9_needCall_15 rfl (by decide) (Nat.le_of_ble_eq_true rfl) (by decide) (by decide) ?_
  exact hx (Or.inr (Int32.not_lt.mp h12))
set_option maxRecDepth 100000 in
set_option maxHeartbeats 4000000 in
theorem x_needD {w : AW} {K : AO → AW → Prop} {a b : Int32} (hx : a = b → K (.inr 1) w) (hk : ¬ a = b → K (.inl none) w) : Snd MX9_needDifferent [.int a, .int b] (w) K := by
  refine Snd.of (by decide +kernel) (Nat.le_of_ble_eq_true rfl) rfl rfl ?_
  intro X D dA ad C0
  show Gd X _ MX9_needDifferent 0 [some (.int a), some (.int b)] [] _ 0 0
  refine g_iload_n C0 dX9_needDifferent_0 rfl ?_
  refine g_iload_n C0 dX9_needDifferent_1 rfl ?_
  refine g_icmp_ne (tgt := 16) C0 dX9_needDifferent_2 (by decide) (fun h2 => ?_) (fun h2 => ?_)
  · refine g_vret C0 rfl dX9_needDifferent_16 (by decide) (by decide) ?_
    exact hk h2
  refine g_throwW C0 dX9_needDifferent_5 dX9_needDifferent_8 dX9_needDifferent_9 dX9_needDifferent_12 dX9_needDifferent_15 HX9_needDifferent_5 rfl (by decide) (Nat.le_of_ble_eq_true rfl) (by decide) (by decide) ?_
  exact hx h2
set_option maxRecDepth 100000 in
set_option maxHeartbeats 4000000 in
theorem x_needW {w : AW} {K : AO → AW → Prop} {v a b : Int32} (hx : noW v a b → K (.inr 1) w) (hk : ¬ noW v a b → K (.inl none) w) : Snd MX9_needWithin [.int v, .int a, .int b] (w) K := by
  refine Snd.of (by decide +kernel) (Nat.le_of_ble_eq_true rfl) rfl rfl ?_
  intro X D dA ad C0
  show Gd X _ MX9_needWithin 0 [some (.int v), some (.int a), some (.int b)] [] _ 0 0
  refine g_iload_n C0 dX9_needWithin_0 rfl ?_
  refine g_iload_n C0 dX9_needWithin_1 rfl ?_
  refine g_icmp_lt (tgt := 10) C0 dX9_needWithin_2 (by decide) (fun h2 => ?_) (fun h2 => ?_)
  · refine g_throwW C0 dX9_needWithin_10 dX9_needWithin_13 dX9_needWithin_14 dX9_needWithin_17 dX9_needWithin_20 HX9_needWithin_10 rfl (by decide) (Nat.le_of_ble_eq_true rfl) (by decide) (by decide) ?_
    exact hx (Or.inl h2)
  refine g_iload_n C0 dX9_needWithin_5 rfl ?_
  refine g_iload_n C0 dX9_needWithin_6 rfl ?_
  refine g_icmp_le (tgt := 21) C0 dX9_needWithin_7 (by decide) (fun h7 => ?_) (fun h7 => ?_)
  · refine g_vret C0 rfl dX9_needWithin_21 (by decide) (by decide) ?_
    exact hk (fun z => z.elim h2 (Int32.not_lt.mpr h7))
  refine g_throwW C0 dX9_needWithin_10 dX9_needWithin_13 dX9_needWithin_14 dX9_needWithin_17 dX9_needWithin_20 HX9_needWithin_10 rfl (by decide) (Nat.le_of_ble_eq_true rfl) (by decide) (by decide) ?_
  exact hx (Or.inr (Int32.not_le.mp h7))
set_option maxRecDepth 100000 in
set_option maxHeartbeats 4000000 in
theorem x_settle {q : XS} {K : AO → AW → Prop} {n p : Int32} (hK : K (.inl (some (.int (xg (xset1 q n p) 2 n)))) (WX (xsettle q n p))) : Snd MX9_settle [.ref 0, .int n, .int p] (WX q) K := by
  refine Snd.of (by decide +kernel) (Nat.le_of_ble_eq_true rfl) rfl rfl ?_
  intro X D dA ad C0
  show Gd X _ MX9_settle 0 [some (.ref 0), some (.int n), some (.int p), none] [] _ 0 0
  refine g_aload_n C0 dX9_settle_0 rfl ?_
  refine g_getfield C0 dX9_settle_1 FX9_12 rfl rfl ?_
  refine g_getfield C0 dX9_settle_4 FX9_131 rfl rfl ?_
  refine g_iload_n C0 dX9_settle_7 rfl ?_
  refine g_iload_n C0 dX9_settle_8 rfl ?_
  refine g_ineg C0 dX9_settle_9 ?_
  refine g_invV2 C0 dX9_settle_10 CX9_177 rfl rfl ⟨by decide, by decide, by decide, by decide⟩ (Nat.le_of_ble_eq_true rfl) ?_
  refine x_add 2 (by decide) ?_
  refine Aft_n (WX_len2 _ _) ?_
  refine g_aload_n C0 dX9_settle_13 rfl ?_
  refine g_getfield C0 dX9_settle_14 FX9_12 rfl rfl ?_
  refine g_getfield C0 dX9_settle_17 FX9_247 rfl rfl ?_
  refine g_iload_n C0 dX9_settle_20 rfl ?_
  refine g_iload_n C0 dX9_settle_21 rfl ?_
  refine g_invV2 C0 dX9_settle_22 CX9_177 rfl rfl ⟨by decide, by decide, by decide, by decide⟩ (Nat.le_of_ble_eq_true rfl) ?_
  refine x_add 3 (by decide) ?_
  refine Aft_n (WX_len2 _ _) ?_
  refine g_aload_n C0 dX9_settle_25 rfl ?_
  refine g_getfield C0 dX9_settle_26 FX9_19 rfl rfl ?_
  refine g_getfield C0 dX9_settle_29 FX9_270 rfl rfl ?_
  refine g_aload_n C0 dX9_settle_32 rfl ?_
  refine g_getfield C0 dX9_settle_33 FX9_12 rfl rfl ?_
  refine g_getfield C0 dX9_settle_36 FX9_129 rfl rfl ?_
  refine g_iload_n C0 dX9_settle_39 rfl ?_
  refine g_invV1 C0 dX9_settle_40 CX9_111 rfl rfl ⟨by decide, by decide, by decide, by decide⟩ (Nat.le_of_ble_eq_true rfl) ?_
  refine x_get 0 (by decide) ?_
  refine Aft_v (WX_len2 _ _) ?_
  refine g_iload_n C0 dX9_settle_43 rfl ?_
  refine g_invV2 C0 dX9_settle_44 CX9_177 rfl rfl ⟨by decide, by decide, by decide, by decide⟩ (Nat.le_of_ble_eq_true rfl) ?_
  refine x_add 8 (by decide) ?_
  refine Aft_n (WX_len2 _ _) ?_
  refine g_aload_n C0 dX9_settle_47 rfl ?_
  refine g_getfield C0 dX9_settle_48 FX9_12 rfl rfl ?_
  refine g_getfield C0 dX9_settle_51 FX9_131 rfl rfl ?_
  refine g_iload_n C0 dX9_settle_54 rfl ?_
  refine g_invV1 C0 dX9_settle_55 CX9_111 rfl rfl ⟨by decide, by decide, by decide, by decide⟩ (Nat.le_of_ble_eq_true rfl) ?_
  refine x_get 2 (by decide) ?_
  refine Aft_v (WX_len2 _ _) ?_
  refine g_istore_n C0 dX9_settle_58 (by decide) ?_
  refine g_iload_n C0 dX9_settle_59 rfl ?_
  refine g_if_ne (tgt := 75) C0 dX9_settle_60 (by decide) (fun h60 => ?_) (fun h60 => ?_)
  · refine g_iload_n C0 dX9_settle_75 rfl ?_
    refine g_iret C0 rfl dX9_settle_76 (by decide) (by decide) ?_
    rw [xsettle, if_neg] at hK
    · exact hK
    · exact h60
  refine g_aload_n C0 dX9_settle_63 rfl ?_
  refine g_getfield C0 dX9_settle_64 FX9_12 rfl rfl ?_
  refine g_getfield C0 dX9_settle_67 FX9_179 rfl rfl ?_
  refine g_iload_n C0 dX9_settle_70 rfl ?_
  refine g_iconst (v := 0) C0 dX9_settle_71 (by decide) ?_
  refine g_invV2 C0 dX9_settle_72 CX9_115 rfl rfl ⟨by decide, by decide, by decide, by decide⟩ (Nat.le_of_ble_eq_true rfl) ?_
  refine x_set 5 (by decide) ?_
  refine Aft_n (WX_len2 _ _) ?_
  refine g_iload_n C0 dX9_settle_75 rfl ?_
  refine g_iret C0 rfl dX9_settle_76 (by decide) (by decide) ?_
  rw [xsettle, if_pos] at hK
  · exact hK
  · exact h60
set_option maxRecDepth 100000 in
set_option maxHeartbeats 4000000 in
theorem lp_find {K : AO → AW → Prop} {goal a b : Int32} {X : CX} {D : va_G} {dA : Nat → ClassId} {w0 : AW} {ad : Nat → Nat} (C0 : Ok X (D, dA, w0, ad, K) MX9_findWay) : ∀ (n : Nat) (q : XS) (o5 : Option Value), n ≤ 5 → q.2 2 < 100000 → q.2 7 + n < 100000 → K (.inl (some (.int (fwF goal b n q).2))) (WX (fwF goal b n q).1) → Gd X (D, dA, w0, ad, K) MX9_findWay 33 [some (.ref 0), some (.int a), some (.int b), some (.int goal), some (.int (nI (5 - n))), o5] [] (WX q) 0 0 := by
  intro n
  induction n with
  | zero =>
    intro q o5 h5 hq2 hq7 hK
    refine g_iload C0 dX9_findWay_33 rfl ?_
    refine g_iconst (v := nI 5) C0 dX9_findWay_35 (by decide +kernel) ?_
    refine g_icmp_ge (tgt := 119) C0 dX9_findWay_36 (by decide) (fun _ => ?_) (fun z => absurd (Int32.le_refl _) z)
    refine g_aload_n C0 dX9_findWay_119 rfl ?_
    refine g_getfield C0 dX9_findWay_120 FX9_70 rfl rfl ?_
    refine g_invV0 C0 dX9_findWay_123 CX9_201 rfl rfl ⟨by decide, by decide, by decide, by decide⟩ (Nat.le_of_ble_eq_true rfl) ?_
    refine x_wlast ?_
    refine Aft_v (WX_len2 _ _) ?_
    refine g_iload_n C0 dX9_findWay_126 rfl ?_
    refine g_icmp_ne (tgt := 134) C0 dX9_findWay_127 (by decide) (fun h127 => ?_) (fun h127 => ?_)
    · refine g_iconst (v := 0) C0 dX9_findWay_134 (by decide) ?_
      refine g_zret C0 rfl rfl dX9_findWay_135 (by decide) (by decide) ?_
      rw [fwF, if_neg h127] at hK; exact hK
    refine g_iconst (v := 1) C0 dX9_findWay_130 (by decide) ?_
    refine g_goto (tgt := 135) C0 dX9_findWay_131 (by decide) ?_
    refine g_zret C0 rfl rfl dX9_findWay_135 (by decide) (by decide) ?_
    rw [fwF, if_pos h127] at hK; exact hK
  | succ n ih =>
    intro q o5 h5 hq2 hq7 hK
    have hi : 5 - (n + 1) + 1 = 5 - n := by omega
    have hq7' : q.2 7 < 100000 := by omega
    refine g_iload C0 dX9_findWay_33 rfl ?_
    refine g_iconst (v := 5) C0 dX9_findWay_35 (by decide) ?_
    refine g_icmp_ge (tgt := 119) C0 dX9_findWay_36 (by decide) (fun h36 => absurd h36 (nI_ge (b := 5) (by omega) (by omega))) (fun h36 => ?_)
    refine g_aload_n C0 dX9_findWay_39 rfl ?_
    refine g_getfield C0 dX9_findWay_40 FX9_70 rfl rfl ?_
    refine g_invV0 C0 dX9_findWay_43 CX9_201 rfl rfl ⟨by decide, by decide, by decide, by decide⟩ (Nat.le_of_ble_eq_true rfl) ?_
    refine x_wlast ?_
    refine Aft_v (WX_len2 _ _) ?_
    refine g_iload_n C0 dX9_findWay_46 rfl ?_
    refine g_icmp_eq (tgt := 119) C0 dX9_findWay_47 (by decide) (fun h47 => ?_) (fun h47 => ?_)
    · refine g_aload_n C0 dX9_findWay_119 rfl ?_
      refine g_getfield C0 dX9_findWay_120 FX9_70 rfl rfl ?_
      refine g_invV0 C0 dX9_findWay_123 CX9_201 rfl rfl ⟨by decide, by decide, by decide, by decide⟩ (Nat.le_of_ble_eq_true rfl) ?_
      refine x_wlast ?_
      refine Aft_v (WX_len2 _ _) ?_
      refine g_iload_n C0 dX9_findWay_126 rfl ?_
      refine g_icmp_ne (tgt := 134) C0 dX9_findWay_127 (by decide) (fun h127 => ?_) (fun h127 => ?_)
      · refine g_iconst (v := 0) C0 dX9_findWay_134 (by decide) ?_
        refine g_zret C0 rfl rfl dX9_findWay_135 (by decide) (by decide) ?_
        exact absurd h47 h127
      refine g_iconst (v := 1) C0 dX9_findWay_130 (by decide) ?_
      refine g_goto (tgt := 135) C0 dX9_findWay_131 (by decide) ?_
      refine g_zret C0 rfl rfl dX9_findWay_135 (by decide) (by decide) ?_
      rw [fwF, if_pos h47] at hK; exact hK
    refine g_aload_n C0 dX9_findWay_50 rfl ?_
    refine g_getfield C0 dX9_findWay_51 FX9_42 rfl rfl ?_
    refine g_aload_n C0 dX9_findWay_54 rfl ?_
    refine g_getfield C0 dX9_findWay_55 FX9_70 rfl rfl ?_
    refine g_invV0 C0 dX9_findWay_58 CX9_201 rfl rfl ⟨by decide, by decide, by decide, by decide⟩ (Nat.le_of_ble_eq_true rfl) ?_
    refine x_wlast ?_
    refine Aft_v (WX_len2 _ _) ?_
    refine g_iload_n C0 dX9_findWay_61 rfl ?_
    refine g_aload_n C0 dX9_findWay_62 rfl ?_
    refine g_getfield C0 dX9_findWay_63 FX9_74 rfl rfl ?_
    refine g_invV3 C0 dX9_findWay_66 CX9_237 rfl rfl ⟨by decide, by decide, by decide, by decide⟩ (Nat.le_of_ble_eq_true rfl) ?_
    refine x_known (by assumption) ?_
    refine Aft_v (WX_len2 _ _) ?_
    refine g_istore C0 dX9_findWay_69 (by decide) ?_
    refine g_aload_n C0 dX9_findWay_71 rfl ?_
    refine g_getfield C0 dX9_findWay_72 FX9_70 rfl rfl ?_
    refine g_iload C0 dX9_findWay_75 rfl ?_
    refine g_invV1 C0 dX9_findWay_77 CX9_297 rfl rfl ⟨by decide, by decide, by decide, by decide⟩ (Nat.le_of_ble_eq_true rfl) ?_
    refine x_whas (by assumption) ?_
    refine Aft_v (WX_len2 _ _) ?_
    refine g_if_ne (tgt := 102) C0 dX9_findWay_80 (by decide) (fun h80 => ?_) (fun h80 => ?_)
    · refine g_iconst (v := 0) C0 dX9_findWay_102 (by decide) ?_
      refine g_zret C0 rfl rfl dX9_findWay_103 (by decide) (by decide) ?_
      rw [fwF, if_neg h47, if_neg (fun z => h80 z.1)] at hK; exact hK
    refine g_aload_n C0 dX9_findWay_83 rfl ?_
    refine g_getfield C0 dX9_findWay_84 FX9_35 rfl rfl ?_
    refine g_aload_n C0 dX9_findWay_87 rfl ?_
    refine g_getfield C0 dX9_findWay_88 FX9_70 rfl rfl ?_
    refine g_invV0 C0 dX9_findWay_91 CX9_201 rfl rfl ⟨by decide, by decide, by decide, by decide⟩ (Nat.le_of_ble_eq_true rfl) ?_
    refine x_wlast ?_
    refine Aft_v (WX_len2 _ _) ?_
    refine g_iload C0 dX9_findWay_94 rfl ?_
    refine g_invV2 C0 dX9_findWay_96 CX9_250 rfl rfl ⟨by decide, by decide, by decide, by decide⟩ (Nat.le_of_ble_eq_true rfl) ?_
    refine x_left ?_
    refine Aft_v (WX_len2 _ _) ?_
    refine g_if_gt (tgt := 104) C0 dX9_findWay_99 (by decide) (fun h99 => ?_) (fun h99 => ?_)
    · refine g_aload_n C0 dX9_findWay_104 rfl ?_
      refine g_getfield C0 dX9_findWay_105 FX9_70 rfl rfl ?_
      refine g_iload C0 dX9_findWay_108 rfl ?_
      refine g_invV1 C0 dX9_findWay_110 CX9_300 rfl rfl ⟨by decide, by decide, by decide, by decide⟩ (Nat.le_of_ble_eq_true rfl) ?_
      refine x_wgo ?_
      refine Aft_n (WX_len2 _ _) ?_
      refine g_iinc (v := nI (5 - n)) C0 dX9_findWay_113 rfl (by rw [← hi]; exact (nI_1 _)) (by decide) ?_
      refine g_goto (tgt := 33) C0 dX9_findWay_116 (by decide) ?_
      rw [fwF, if_neg h47, if_pos ⟨h80, h99⟩] at hK
      exact ih _ _ (by omega) hq2 (by show q.2 7 + 1 + n < 100000; omega) hK
    refine g_iconst (v := 0) C0 dX9_findWay_102 (by decide) ?_
    refine g_zret C0 rfl rfl dX9_findWay_103 (by decide) (by decide) ?_
    rw [fwF, if_neg h47, if_neg (fun z => h99 z.2)] at hK; exact hK
set_option maxRecDepth 100000 in
set_option maxHeartbeats 4000000 in
theorem x_find {q : XS} {K : AO → AW → Prop} {a b : Int32} (hq2 : q.2 2 < 100000) (hK : K (.inl (some (.int (xfind q a b).2))) (WX (xfind q a b).1)) : Snd MX9_findWay [.ref 0, .int a, .int b] (WX q) K := by
  refine Snd.of (by decide +kernel) (Nat.le_of_ble_eq_true rfl) rfl rfl ?_
  intro X D dA ad C0
  show Gd X _ MX9_findWay 0 [some (.ref 0), some (.int a), some (.int b), none, none, none] [] _ 0 0
  refine g_aload_n C0 dX9_findWay_0 rfl ?_
  refine g_getfield C0 dX9_findWay_1 FX9_12 rfl rfl ?_
  refine g_getfield C0 dX9_findWay_4 FX9_129 rfl rfl ?_
  refine g_iload_n C0 dX9_findWay_7 rfl ?_
  refine g_invV1 C0 dX9_findWay_8 CX9_111 rfl rfl ⟨by decide, by decide, by decide, by decide⟩ (Nat.le_of_ble_eq_true rfl) ?_
  refine x_get 0 (by decide) ?_
  refine Aft_v (WX_len2 _ _) ?_
  refine g_istore_n C0 dX9_findWay_11 (by decide) ?_
  refine g_aload_n C0 dX9_findWay_12 rfl ?_
  refine g_getfield C0 dX9_findWay_13 FX9_70 rfl rfl ?_
  refine g_aload_n C0 dX9_findWay_16 rfl ?_
  refine g_getfield C0 dX9_findWay_17 FX9_12 rfl rfl ?_
  refine g_getfield C0 dX9_findWay_20 FX9_129 rfl rfl ?_
  refine g_iload_n C0 dX9_findWay_23 rfl ?_
  refine g_invV1 C0 dX9_findWay_24 CX9_111 rfl rfl ⟨by decide, by decide, by decide, by decide⟩ (Nat.le_of_ble_eq_true rfl) ?_
  refine x_get 0 (by decide) ?_
  refine Aft_v (WX_len2 _ _) ?_
  refine g_invV1 C0 dX9_findWay_27 CX9_294 rfl rfl ⟨by decide, by decide, by decide, by decide⟩ (Nat.le_of_ble_eq_true rfl) ?_
  refine x_wbegin ?_
  refine Aft_n (WX_len2 _ _) ?_
  refine g_iconst (v := 0) C0 dX9_findWay_30 (by decide) ?_
  refine g_istore C0 dX9_findWay_31 (by decide) ?_
  exact g_ls rfl (lp_find C0 5 _ _ (Nat.le_refl _) hq2 (by show 1 + 5 < 100000; decide) hK)
set_option maxRecDepth 100000 in
set_option maxHeartbeats 4000000 in
theorem lp_takeL {q : XS} {K : AO → AW → Prop} {c d : Int32} {m : Nat} (hm : m < 100000) (hK : K (.inl none) (WX (tkF q c d m))) {X : CX} {D : va_G} {dA : Nat → ClassId} {w0 : AW} {ad : Nat → Nat} (C0 : Ok X (D, dA, w0, ad, K) MX9_takeLines) : ∀ (n k : Nat), k + n = m → Gd X (D, dA, w0, ad, K) MX9_takeLines 17 [some (.ref 0), some (.int c), some (.int d), some (.int (nI m)), some (.int (nI k))] [] (WX (tkF q c d k)) 0 0 := by
  intro n
  induction n with
  | zero =>
    intro k hk
    have hkm : k = m := by omega
    subst hkm
    refine g_iload C0 dX9_takeLines_17 rfl ?_
    refine g_iload_n C0 dX9_takeLines_19 rfl ?_
    refine g_icmp_ge (tgt := 59) C0 dX9_takeLines_20 (by decide) (fun _ => ?_) (fun z => absurd (Int32.le_refl _) z)
    refine g_vret C0 rfl dX9_takeLines_59 (by decide) (by decide) ?_
    exact hK
  | succ n ih =>
    intro k hk
    refine g_iload C0 dX9_takeLines_17 rfl ?_
    refine g_iload_n C0 dX9_takeLines_19 rfl ?_
    refine g_icmp_ge (tgt := 59) C0 dX9_takeLines_20 (by decide) (fun h20 => absurd h20 (nI_ge (by omega) (by omega))) (fun h20 => ?_)
    refine g_aload_n C0 dX9_takeLines_23 rfl ?_
    refine g_getfield C0 dX9_takeLines_24 FX9_35 rfl rfl ?_
    refine g_aload_n C0 dX9_takeLines_27 rfl ?_
    refine g_getfield C0 dX9_takeLines_28 FX9_63 rfl rfl ?_
    refine g_iload_n C0 dX9_takeLines_31 rfl ?_
    refine g_iload C0 dX9_takeLines_32 rfl ?_
    refine g_invV2 C0 dX9_takeLines_34 CX9_264 rfl rfl ⟨by decide, by decide, by decide, by decide⟩ (Nat.le_of_ble_eq_true rfl) ?_
    refine x_stop ?_
    refine Aft_v (WX_len2 _ _) ?_
    refine g_aload_n C0 dX9_takeLines_37 rfl ?_
    refine g_getfield C0 dX9_takeLines_38 FX9_63 rfl rfl ?_
    refine g_iload_n C0 dX9_takeLines_41 rfl ?_
    refine g_iload C0 dX9_takeLines_42 rfl ?_
    refine g_iconst (v := 1) C0 dX9_takeLines_44 (by decide) ?_
    refine g_iadd C0 dX9_takeLines_45 ?_
    refine g_invV2 C0 dX9_takeLines_46 CX9_264 rfl rfl ⟨by decide, by decide, by decide, by decide⟩ (Nat.le_of_ble_eq_true rfl) ?_
    refine x_stop ?_
    refine Aft_v (WX_len2 _ _) ?_
    refine g_iload_n C0 dX9_takeLines_49 rfl ?_
    refine g_invV3 C0 dX9_takeLines_50 CX9_315 rfl rfl ⟨by decide, by decide, by decide, by decide⟩ (Nat.le_of_ble_eq_true rfl) ?_
    refine x_take ?_
    refine Aft_n (WX_len2 _ _) ?_
    refine g_iinc (v := nI (k + 1)) C0 dX9_takeLines_53 rfl (nI_1 _) (by decide) ?_
    refine g_goto (tgt := 17) C0 dX9_takeLines_56 (by decide) ?_
    exact ih (k + 1) (by omega)
set_option maxRecDepth 100000 in
set_option maxHeartbeats 4000000 in
theorem x_takeL {q : XS} {K : AO → AW → Prop} {c d : Int32} {m : Nat} (hl : xg q 33 c = nI (m + 1)) (hm : m < 100000) (hK : K (.inl none) (WX (tkF q c d m))) : Snd MX9_takeLines [.ref 0, .int c, .int d] (WX q) K := by
  refine Snd.of (by decide +kernel) (Nat.le_of_ble_eq_true rfl) rfl rfl ?_
  intro X D dA ad C0
  show Gd X _ MX9_takeLines 0 [some (.ref 0), some (.int c), some (.int d), none, none] [] _ 0 0
  refine g_aload_n C0 dX9_takeLines_0 rfl ?_
  refine g_getfield C0 dX9_takeLines_1 FX9_63 rfl rfl ?_
  refine g_getfield C0 dX9_takeLines_4 FX9_256 rfl rfl ?_
  refine g_iload_n C0 dX9_takeLines_7 rfl ?_
  refine g_invV1 C0 dX9_takeLines_8 CX9_111 rfl rfl ⟨by decide, by decide, by decide, by decide⟩ (Nat.le_of_ble_eq_true rfl) ?_
  refine x_get 33 (by decide) ?_
  refine Aft_v (WX_len2 _ _) ?_
  rw [hl]
  refine g_iconst (v := 1) C0 dX9_takeLines_11 (by decide) ?_
  refine g_isub C0 dX9_takeLines_12 ?_
  rw [nI_pred]
  refine g_istore_n C0 dX9_takeLines_13 (by decide) ?_
  refine g_iconst (v := 0) C0 dX9_takeLines_14 (by decide) ?_
  refine g_istore C0 dX9_takeLines_15 (by decide) ?_
  exact lp_takeL hm hK C0 m 0 (by omega)
set_option maxRecDepth 100000 in
set_option maxHeartbeats 4000000 in
theorem x_begin {q : XS} {K : AO → AW → Prop} {a b : Int32} {m : Nat} (hq7 : q.2 7 < 100000) (hl : xg (cbegin q a b (nI (q.2 0))) 33 (nI (q.2 6)) = nI (m + 1)) (hm : m < 100000) (hK : K (.inl (some (.int (nI (q.2 6))))) (WX (xbegin q a b m))) : Snd MX9_beginTalk [.ref 0, .int a, .int b] (WX q) K := by
  refine Snd.of (by decide +kernel) (Nat.le_of_ble_eq_true rfl) rfl rfl ?_
  intro X D dA ad C0
  show Gd X _ MX9_beginTalk 0 [some (.ref 0), some (.int a), some (.int b), none] [] _ 0 0
  refine g_aload_n C0 dX9_beginTalk_0 rfl ?_
  refine g_getfield C0 dX9_beginTalk_1 FX9_63 rfl rfl ?_
  refine g_iload_n C0 dX9_beginTalk_4 rfl ?_
  refine g_iload_n C0 dX9_beginTalk_5 rfl ?_
  refine g_aload_n C0 dX9_beginTalk_6 rfl ?_
  refine g_getfield C0 dX9_beginTalk_7 FX9_74 rfl rfl ?_
  refine g_aload_n C0 dX9_beginTalk_10 rfl ?_
  refine g_getfield C0 dX9_beginTalk_11 FX9_70 rfl rfl ?_
  refine g_invV4 C0 dX9_beginTalk_14 CX9_303 rfl rfl ⟨by decide, by decide, by decide, by decide⟩ (Nat.le_of_ble_eq_true rfl) ?_
  refine x_cbegin (by assumption) ?_
  refine Aft_v (WX_len2 _ _) ?_
  refine g_istore_n C0 dX9_beginTalk_17 (by decide) ?_
  refine g_aload_n C0 dX9_beginTalk_18 rfl ?_
  refine g_iload_n C0 dX9_beginTalk_19 rfl ?_
  refine g_iconst (v := 1) C0 dX9_beginTalk_20 (by decide) ?_
  refine g_invV2 C0 dX9_beginTalk_21 CX9_306 rfl rfl ⟨by decide, by decide, by decide, by decide⟩ (Nat.le_of_ble_eq_true rfl) ?_
  refine x_takeL (by assumption) (by assumption) ?_
  refine Aft_n (WX_len2 _ _) ?_
  refine g_aload_n C0 dX9_beginTalk_24 rfl ?_
  refine g_getfield C0 dX9_beginTalk_25 FX9_12 rfl rfl ?_
  refine g_getfield C0 dX9_beginTalk_28 FX9_182 rfl rfl ?_
  refine g_iload_n C0 dX9_beginTalk_31 rfl ?_
  refine g_iload_n C0 dX9_beginTalk_32 rfl ?_
  refine g_invV2 C0 dX9_beginTalk_33 CX9_115 rfl rfl ⟨by decide, by decide, by decide, by decide⟩ (Nat.le_of_ble_eq_true rfl) ?_
  refine x_set 6 (by decide) ?_
  refine Aft_n (WX_len2 _ _) ?_
  refine g_aload_n C0 dX9_beginTalk_36 rfl ?_
  refine g_getfield C0 dX9_beginTalk_37 FX9_12 rfl rfl ?_
  refine g_getfield C0 dX9_beginTalk_40 FX9_182 rfl rfl ?_
  refine g_iload_n C0 dX9_beginTalk_43 rfl ?_
  refine g_iload_n C0 dX9_beginTalk_44 rfl ?_
  refine g_invV2 C0 dX9_beginTalk_45 CX9_115 rfl rfl ⟨by decide, by decide, by decide, by decide⟩ (Nat.le_of_ble_eq_true rfl) ?_
  refine x_set 6 (by decide) ?_
  refine Aft_n (WX_len2 _ _) ?_
  refine g_iload_n C0 dX9_beginTalk_48 rfl ?_
  refine g_iret C0 rfl dX9_beginTalk_49 (by decide) (by decide) ?_
  exact hK
set_option maxRecDepth 100000 in
set_option maxHeartbeats 4000000 in
theorem x_end {q : XS} {K : AO → AW → Prop} {c v : Int32} {m : Nat} (hl : xg q 33 c = nI (m + 1)) (hm : m < 100000) (hK : K (.inl none) (WX (xend q c v m))) : Snd MX9_endTalk [.ref 0, .int c, .int v] (WX q) K := by
  refine Snd.of (by decide +kernel) (Nat.le_of_ble_eq_true rfl) rfl rfl ?_
  intro X D dA ad C0
  show Gd X _ MX9_endTalk 0 [some (.ref 0), some (.int c), some (.int v)] [] _ 0 0
  refine g_aload_n C0 dX9_endTalk_0 rfl ?_
  refine g_getfield C0 dX9_endTalk_1 FX9_63 rfl rfl ?_
  refine g_iload_n C0 dX9_endTalk_4 rfl ?_
  refine g_aload_n C0 dX9_endTalk_5 rfl ?_
  refine g_getfield C0 dX9_endTalk_6 FX9_74 rfl rfl ?_
  refine g_iload_n C0 dX9_endTalk_9 rfl ?_
  refine g_invV3 C0 dX9_endTalk_10 CX9_309 rfl rfl ⟨by decide, by decide, by decide, by decide⟩ (Nat.le_of_ble_eq_true rfl) ?_
  refine x_cfin ?_
  refine Aft_n (WX_len2 _ _) ?_
  refine g_aload_n C0 dX9_endTalk_13 rfl ?_
  refine g_iload_n C0 dX9_endTalk_14 rfl ?_
  refine g_iconst (v := (-1)) C0 dX9_endTalk_15 (by decide) ?_
  refine g_invV2 C0 dX9_endTalk_16 CX9_306 rfl rfl ⟨by decide, by decide, by decide, by decide⟩ (Nat.le_of_ble_eq_true rfl) ?_
  refine x_takeL (show xg (cfin q c (nI (q.2 0)) v) 33 c = nI (m + 1) from hl) hm ?_
  refine Aft_n (WX_len2 _ _) ?_
  refine g_aload_n C0 dX9_endTalk_19 rfl ?_
  refine g_getfield C0 dX9_endTalk_20 FX9_12 rfl rfl ?_
  refine g_getfield C0 dX9_endTalk_23 FX9_182 rfl rfl ?_
  refine g_aload_n C0 dX9_endTalk_26 rfl ?_
  refine g_getfield C0 dX9_endTalk_27 FX9_63 rfl rfl ?_
  refine g_getfield C0 dX9_endTalk_30 FX9_241 rfl rfl ?_
  refine g_iload_n C0 dX9_endTalk_33 rfl ?_
  refine g_invV1 C0 dX9_endTalk_34 CX9_111 rfl rfl ⟨by decide, by decide, by decide, by decide⟩ (Nat.le_of_ble_eq_true rfl) ?_
  refine x_get 27 (by decide) ?_
  refine Aft_v (WX_len2 _ _) ?_
  refine g_iconst (v := (-1)) C0 dX9_endTalk_37 (by decide) ?_
  refine g_invV2 C0 dX9_endTalk_38 CX9_115 rfl rfl ⟨by decide, by decide, by decide, by decide⟩ (Nat.le_of_ble_eq_true rfl) ?_
  refine x_set 6 (by decide) ?_
  refine Aft_n (WX_len2 _ _) ?_
  refine g_aload_n C0 dX9_endTalk_41 rfl ?_
  refine g_getfield C0 dX9_endTalk_42 FX9_12 rfl rfl ?_
  refine g_getfield C0 dX9_endTalk_45 FX9_182 rfl rfl ?_
  refine g_aload_n C0 dX9_endTalk_48 rfl ?_
  refine g_getfield C0 dX9_endTalk_49 FX9_63 rfl rfl ?_
  refine g_getfield C0 dX9_endTalk_52 FX9_312 rfl rfl ?_
  refine g_iload_n C0 dX9_endTalk_55 rfl ?_
  refine g_invV1 C0 dX9_endTalk_56 CX9_111 rfl rfl ⟨by decide, by decide, by decide, by decide⟩ (Nat.le_of_ble_eq_true rfl) ?_
  refine x_get 28 (by decide) ?_
  refine Aft_v (WX_len2 _ _) ?_
  refine g_iconst (v := (-1)) C0 dX9_endTalk_59 (by decide) ?_
  refine g_invV2 C0 dX9_endTalk_60 CX9_115 rfl rfl ⟨by decide, by decide, by decide, by decide⟩ (Nat.le_of_ble_eq_true rfl) ?_
  refine x_set 6 (by decide) ?_
  refine Aft_n (WX_len2 _ _) ?_
  refine g_vret C0 rfl dX9_endTalk_63 (by decide) (by decide) ?_
  exact hK
set_option maxRecDepth 100000 in
set_option maxHeartbeats 4000000 in
theorem x_chU {q : XS} {K : AO → AW → Prop} {c u : Int32} (hq : q.2 4 < 100000) (hq5 : q.2 5 < 100000) (hK : K (.inl (some (.int (xchv q c u)))) (WX (xchU q c u))) : Snd MX9_chargeUntil [.ref 0, .int c, .int u] (WX q) K := by
  refine Snd.of (by decide +kernel) (Nat.le_of_ble_eq_true rfl) rfl rfl ?_
  intro X D dA ad C0
  show Gd X _ MX9_chargeUntil 0 [some (.ref 0), some (.int c), some (.int u), none, none, none] [] _ 0 0
  refine g_aload_n C0 dX9_chargeUntil_0 rfl ?_
  refine g_getfield C0 dX9_chargeUntil_1 FX9_63 rfl rfl ?_
  refine g_getfield C0 dX9_chargeUntil_4 FX9_241 rfl rfl ?_
  refine g_iload_n C0 dX9_chargeUntil_7 rfl ?_
  refine g_invV1 C0 dX9_chargeUntil_8 CX9_111 rfl rfl ⟨by decide, by decide, by decide, by decide⟩ (Nat.le_of_ble_eq_true rfl) ?_
  refine x_get 27 (by decide) ?_
  refine Aft_v (WX_len2 _ _) ?_
  refine g_istore_n C0 dX9_chargeUntil_11 (by decide) ?_
  refine g_aload_n C0 dX9_chargeUntil_12 rfl ?_
  refine g_getfield C0 dX9_chargeUntil_13 FX9_12 rfl rfl ?_
  refine g_getfield C0 dX9_chargeUntil_16 FX9_129 rfl rfl ?_
  refine g_iload_n C0 dX9_chargeUntil_19 rfl ?_
  refine g_invV1 C0 dX9_chargeUntil_20 CX9_111 rfl rfl ⟨by decide, by decide, by decide, by decide⟩ (Nat.le_of_ble_eq_true rfl) ?_
  refine x_get 0 (by decide) ?_
  refine Aft_v (WX_len2 _ _) ?_
  refine g_istore C0 dX9_chargeUntil_23 (by decide) ?_
  refine g_aload_n C0 dX9_chargeUntil_25 rfl ?_
  refine g_getfield C0 dX9_chargeUntil_26 FX9_56 rfl rfl ?_
  refine g_iload C0 dX9_chargeUntil_29 rfl ?_
  refine g_aload_n C0 dX9_chargeUntil_31 rfl ?_
  refine g_getfield C0 dX9_chargeUntil_32 FX9_74 rfl rfl ?_
  refine g_iload_n C0 dX9_chargeUntil_35 rfl ?_
  refine g_invV3 C0 dX9_chargeUntil_36 CX9_321 rfl rfl ⟨by decide, by decide, by decide, by decide⟩ (Nat.le_of_ble_eq_true rfl) ?_
  refine x_charge (by assumption) (by assumption) ?_
  refine Aft_v (WX_len2 _ _) ?_
  refine g_istore C0 dX9_chargeUntil_39 (by decide) ?_
  refine g_aload_n C0 dX9_chargeUntil_41 rfl ?_
  refine g_getfield C0 dX9_chargeUntil_42 FX9_63 rfl rfl ?_
  refine g_getfield C0 dX9_chargeUntil_45 FX9_267 rfl rfl ?_
  refine g_iload_n C0 dX9_chargeUntil_48 rfl ?_
  refine g_iload C0 dX9_chargeUntil_49 rfl ?_
  refine g_invV2 C0 dX9_chargeUntil_51 CX9_177 rfl rfl ⟨by decide, by decide, by decide, by decide⟩ (Nat.le_of_ble_eq_true rfl) ?_
  refine x_add 32 (by decide) ?_
  refine Aft_n (WX_len2 _ _) ?_
  refine g_aload_n C0 dX9_chargeUntil_54 rfl ?_
  refine g_getfield C0 dX9_chargeUntil_55 FX9_12 rfl rfl ?_
  refine g_getfield C0 dX9_chargeUntil_58 FX9_131 rfl rfl ?_
  refine g_iload_n C0 dX9_chargeUntil_61 rfl ?_
  refine g_iload C0 dX9_chargeUntil_62 rfl ?_
  refine g_invV2 C0 dX9_chargeUntil_64 CX9_177 rfl rfl ⟨by decide, by decide, by decide, by decide⟩ (Nat.le_of_ble_eq_true rfl) ?_
  refine x_add 2 (by decide) ?_
  refine Aft_n (WX_len2 _ _) ?_
  refine g_aload_n C0 dX9_chargeUntil_67 rfl ?_
  refine g_getfield C0 dX9_chargeUntil_68 FX9_19 rfl rfl ?_
  refine g_getfield C0 dX9_chargeUntil_71 FX9_273 rfl rfl ?_
  refine g_iload C0 dX9_chargeUntil_74 rfl ?_
  refine g_iload C0 dX9_chargeUntil_76 rfl ?_
  refine g_invV2 C0 dX9_chargeUntil_78 CX9_177 rfl rfl ⟨by decide, by decide, by decide, by decide⟩ (Nat.le_of_ble_eq_true rfl) ?_
  refine x_add 9 (by decide) ?_
  refine Aft_n (WX_len2 _ _) ?_
  refine g_aload_n C0 dX9_chargeUntil_81 rfl ?_
  refine g_getfield C0 dX9_chargeUntil_82 FX9_28 rfl rfl ?_
  refine g_aload_n C0 dX9_chargeUntil_85 rfl ?_
  refine g_getfield C0 dX9_chargeUntil_86 FX9_12 rfl rfl ?_
  refine g_getfield C0 dX9_chargeUntil_89 FX9_154 rfl rfl ?_
  refine g_iload_n C0 dX9_chargeUntil_92 rfl ?_
  refine g_invV1 C0 dX9_chargeUntil_93 CX9_111 rfl rfl ⟨by decide, by decide, by decide, by decide⟩ (Nat.le_of_ble_eq_true rfl) ?_
  refine x_get 1 (by decide) ?_
  refine Aft_v (WX_len2 _ _) ?_
  refine g_iload C0 dX9_chargeUntil_96 rfl ?_
  refine g_invV2 C0 dX9_chargeUntil_98 CX9_177 rfl rfl ⟨by decide, by decide, by decide, by decide⟩ (Nat.le_of_ble_eq_true rfl) ?_
  refine x_add 11 (by decide) ?_
  refine Aft_n (WX_len2 _ _) ?_
  refine g_iload C0 dX9_chargeUntil_101 rfl ?_
  refine g_iret C0 rfl dX9_chargeUntil_103 (by decide) (by decide) ?_
  exact hK

/-! ===== histories: 0 ports, 1 sales, 2 dear prices, 3 cheap ones ===== -/
def hr : Nat → Nat
  | 0 => 14
  | 1 => 18
  | 2 => 21
  | _ => 24
def ho : Nat → Nat
  | 0 => 33
  | 1 => 42
  | 2 => 50
  | _ => 57
theorem hrk (h j : Nat) (hh : h < 4) (hj : j < 3) : hr h + j < 36 := by
  match h, hh with
  | 0, _ => show 14 + j < 36; omega
  | 1, _ => show 18 + j < 36; omega
  | 2, _ => show 21 + j < 36; omega
  | 3, _ => show 24 + j < 36; omega
  | h + 4, x => exact absurd x (by omega)
theorem WX_hist (q : XS) (h : Nat) (hh : h < 4) : (WX q)[ho h]? = some (.inr (2, [.ref (ro (hr h + 0)), .ref (ro (hr h + 1)), .ref (ro (hr h + 2)), .int (nI (q.2 (2 + h)))])) := by
  match h, hh with
  | 0, _ => rfl
  | 1, _ => rfl
  | 2, _ => rfl
  | 3, _ => rfl
  | h + 4, x => exact absurd x (by omega)
theorem WX_hput (q : XS) (h n : Nat) (hh : h < 4) : (WX q).set (ho h) (.inr (2, [.ref (ro (hr h + 0)), .ref (ro (hr h + 1)), .ref (ro (hr h + 2)), .int (nI n)])) = WX (setC q (2 + h) n) := by
  match h, hh with
  | 0, _ => rfl
  | 1, _ => rfl
  | 2, _ => rfl
  | 3, _ => rfl
  | h + 4, x => exact absurd x (by omega)
theorem WX_hput1 (q : XS) (h : Nat) (hh : h < 4) : (WX q).set (ho h) (.inr (2, [Value.ref (ro (hr h + 0)), .ref (ro (hr h + 1)), .ref (ro (hr h + 2)), .int (nI (q.2 (2 + h)))].set 3 (.int (nI (q.2 (2 + h)) + 1)))) = WX (setC q (2 + h) (q.2 (2 + h) + 1)) := by
  rw [nI_1]; exact WX_hput q h _ hh
theorem ii_m1 (x : Int32) : x + Int32.ofInt (-1) = x - 1 := by rw [Int32.sub_eq_add_neg]; rfl
theorem ii_1 (x : Int32) : x + Int32.ofInt 1 = x + 1 := rfl
def mn (x y : Int32) : Int32 := if y < x then y else x
def mx (x y : Int32) : Int32 := if x < y then y else x
/-- whether a history is full, an entry more, its value for a key in a second, the next change behind a second -/
def hadd (q : XS) (h : Nat) (key start value : Int32) : XS := if nI (q.2 (2 + h)) < 60 then setC (xs (xs (xs q (hr h + 0) (nI (q.2 (2 + h))) key) (hr h + 1) (nI (q.2 (2 + h))) start) (hr h + 2) (nI (q.2 (2 + h))) value) (2 + h) (q.2 (2 + h) + 1) else q
def hvF (q : XS) (h : Nat) (key second first : Int32) : Nat → Int32
  | 0 => first
  | n + 1 => if xg q (hr h + 0) (nI n) = key ∧ xg q (hr h + 1) (nI n) ≤ second then xg q (hr h + 2) (nI n) else hvF q h key second first n
def hval (q : XS) (h : Nat) (key second first : Int32) : Int32 := hvF q h key second first (q.2 (2 + h))
/-- over the last n of c entries -/
def hnF (q : XS) (h : Nat) (key second last : Int32) (c : Nat) : Nat → Int32
  | 0 => last
  | n + 1 => if xg q (hr h + 0) (nI (c - (n + 1))) = key ∧ second < xg q (hr h + 1) (nI (c - (n + 1))) then mn (xg q (hr h + 1) (nI (c - (n + 1)))) last else hnF q h key second last c n
def hnext (q : XS) (h : Nat) (key second last : Int32) : Int32 := hnF q h key second last (q.2 (2 + h)) (q.2 (2 + h))
theorem nI_c (n : Nat) (hn : n < 100000) : n < 2 ^ 31 := by omega
set_option maxRecDepth 100000 in
set_option maxHeartbeats 4000000 in
theorem x_isFull {q : XS} {K : AO → AW → Prop} (h : Nat) (hh : h < 4) (hK : K (.inl (some (.int (if nI (q.2 (2 + h)) < 60 then 0 else 1)))) (WX q)) : Snd MX2_isFull [.ref (ho h)] (WX q) K := by
  refine Snd.of (by decide +kernel) (Nat.le_of_ble_eq_true rfl) rfl rfl ?_
  intro X D dA ad C0
  show Gd X _ MX2_isFull 0 [some (.ref (ho h))] [] _ 0 0
  refine g_aload_n C0 dX2_isFull_0 rfl ?_
  refine g_getfield C0 dX2_isFull_1 FX2_26 (WX_hist _ h hh) rfl ?_
  refine g_bipush (v := 60) C0 dX2_isFull_4 (by decide) ?_
  refine g_icmp_lt (tgt := 13) C0 dX2_isFull_6 (by decide) (fun h6 => ?_) (fun h6 => ?_)
  · refine g_iconst (v := 0) C0 dX2_isFull_13 (by decide) ?_
    refine g_zret C0 rfl rfl dX2_isFull_14 (by decide) (by decide) ?_
    rw [if_pos h6] at hK; exact hK
  refine g_iconst (v := 1) C0 dX2_isFull_9 (by decide) ?_
  refine g_goto (tgt := 14) C0 dX2_isFull_10 (by decide) ?_
  refine g_zret C0 rfl rfl dX2_isFull_14 (by decide) (by decide) ?_
  rw [if_neg h6] at hK; exact hK
set_option maxRecDepth 100000 in
set_option maxHeartbeats 4000000 in
theorem x_hadd {q : XS} {K : AO → AW → Prop} (h : Nat) (hh : h < 4) {key start value : Int32} (hK : K (.inl none) (WX (hadd q h key start value))) : Snd MX2_add [.ref (ho h), .int key, .int start, .int value] (WX q) K := by
  refine Snd.of (by decide +kernel) (Nat.le_of_ble_eq_true rfl) rfl rfl ?_
  intro X D dA ad C0
  show Gd X _ MX2_add 0 [some (.ref (ho h)), some (.int key), some (.int start), some (.int value)] [] _ 0 0
  refine g_aload_n C0 dX2_add_0 rfl ?_
  refine g_invV0 C0 dX2_add_1 CX2_30 rfl (WX_hist _ h hh) ⟨by decide, by decide, by decide, by decide⟩ (Nat.le_of_ble_eq_true rfl) ?_
  refine x_isFull h hh ?_
  refine Aft_v (WX_len2 _ _) ?_
  by_cases hf : nI (q.2 (2 + h)) < 60
  · rw [if_pos hf]
    refine g_if_eq (tgt := 8) C0 dX2_add_4 (by decide) (fun _ => ?_) (fun z => (by revert z; decide +kernel : False).elim)
    refine g_aload_n C0 dX2_add_8 rfl ?_
    refine g_getfield C0 dX2_add_9 FX2_14 (WX_hist _ h hh) rfl ?_
    refine g_aload_n C0 dX2_add_12 rfl ?_
    refine g_getfield C0 dX2_add_13 FX2_26 (WX_hist _ h hh) rfl ?_
    refine g_iload_n C0 dX2_add_16 rfl ?_
    refine g_invV2 C0 dX2_add_17 CX2_34 rfl (WX_row _ (hr h + 0) (hrk h 0 hh (by decide))).1 ⟨by decide, by decide, by decide, by decide⟩ (Nat.le_of_ble_eq_true rfl) ?_
    refine x_set (hr h + 0) (hrk h 0 hh (by decide)) ?_
    refine Aft_n (WX_len2 _ _) ?_
    refine g_aload_n C0 dX2_add_20 rfl ?_
    refine g_getfield C0 dX2_add_21 FX2_20 (WX_hist _ h hh) rfl ?_
    refine g_aload_n C0 dX2_add_24 rfl ?_
    refine g_getfield C0 dX2_add_25 FX2_26 (WX_hist _ h hh) rfl ?_
    refine g_iload_n C0 dX2_add_28 rfl ?_
    refine g_invV2 C0 dX2_add_29 CX2_34 rfl (WX_row _ (hr h + 1) (hrk h 1 hh (by decide))).1 ⟨by decide, by decide, by decide, by decide⟩ (Nat.le_of_ble_eq_true rfl) ?_
    refine x_set (hr h + 1) (hrk h 1 hh (by decide)) ?_
    refine Aft_n (WX_len2 _ _) ?_
    refine g_aload_n C0 dX2_add_32 rfl ?_
    refine g_getfield C0 dX2_add_33 FX2_23 (WX_hist _ h hh) rfl ?_
    refine g_aload_n C0 dX2_add_36 rfl ?_
    refine g_getfield C0 dX2_add_37 FX2_26 (WX_hist _ h hh) rfl ?_
    refine g_iload_n C0 dX2_add_40 rfl ?_
    refine g_invV2 C0 dX2_add_41 CX2_34 rfl (WX_row _ (hr h + 2) (hrk h 2 hh (by decide))).1 ⟨by decide, by decide, by decide, by decide⟩ (Nat.le_of_ble_eq_true rfl) ?_
    refine x_set (hr h + 2) (hrk h 2 hh (by decide)) ?_
    refine Aft_n (WX_len2 _ _) ?_
    refine g_aload_n C0 dX2_add_44 rfl ?_
    refine g_dup C0 dX2_add_45 rfl ?_
    refine g_getfield C0 dX2_add_46 FX2_26 (WX_hist _ h hh) rfl ?_
    refine g_iconst (v := 1) C0 dX2_add_49 (by decide) ?_
    refine g_iadd C0 dX2_add_50 ?_
    refine g_putfield C0 dX2_add_51 FX2_26 (WX_hist _ h hh) (Nat.le_of_ble_eq_true rfl) (fun _ => ⟨rfl, rfl⟩) ?_
    refine g_w (WX_hput1 _ h hh) ?_
    refine g_vret C0 rfl dX2_add_54 (by decide) (by decide) ?_
    rw [hadd, if_pos (by assumption)] at hK; exact hK
  rw [if_neg hf]
  refine g_if_eq (tgt := 8) C0 dX2_add_4 (by decide) (fun z => (by revert z; decide +kernel : False).elim) (fun _ => ?_)
  refine g_vret C0 rfl dX2_add_7 (by decide) (by decide) ?_
  rw [hadd, if_neg (by assumption)] at hK; exact hK
set_option maxRecDepth 100000 in
set_option maxHeartbeats 4000000 in
theorem lp_valueAt {q : XS} {K : AO → AW → Prop} {h : Nat} (hh : h < 4) (hq : q.2 (2 + h) < 100000) {key second first : Int32} {X : CX} {D : va_G} {dA : Nat → ClassId} {w0 : AW} {ad : Nat → Nat} (C0 : Ok X (D, dA, w0, ad, K) MX2_valueAt) (hK : K (.inl (some (.int (hval q h key second first)))) (WX q)) :
    ∀ n : Nat, n ≤ q.2 (2 + h) → hvF q h key second first n = hval q h key second first → Gd X (D, dA, w0, ad, K) MX2_valueAt 8 [some (.ref (ho h)), some (.int key), some (.int second), some (.int first), some (.int (nI n - 1))] [] (WX q) 0 0 := by
  intro n
  induction n with
  | zero =>
    intro hn hs
    refine g_iload C0 dX2_valueAt_8 rfl ?_
    refine g_if_lt (tgt := 55) C0 dX2_valueAt_10 (by decide) (fun _ => ?_) (fun z => absurd (by decide +kernel) z)
    refine g_iload_n C0 dX2_valueAt_55 rfl ?_
    refine g_iret C0 rfl dX2_valueAt_56 (by decide) (by decide) ?_
    rw [← hs] at hK
    exact hK
  | succ n ih =>
    intro hn hs
    rw [nI_pred]
    refine g_iload C0 dX2_valueAt_8 rfl ?_
    refine g_if_lt (tgt := 55) C0 dX2_valueAt_10 (by decide) (fun h10 => absurd h10 (nI_pos (by omega))) (fun h10 => ?_)
    refine g_aload_n C0 dX2_valueAt_13 rfl ?_
    refine g_getfield C0 dX2_valueAt_14 FX2_14 (WX_hist _ h hh) rfl ?_
    refine g_iload C0 dX2_valueAt_17 rfl ?_
    refine g_invV1 C0 dX2_valueAt_19 CX2_37 rfl (WX_row _ (hr h + 0) (hrk h 0 hh (by decide))).1 ⟨by decide, by decide, by decide, by decide⟩ (Nat.le_of_ble_eq_true rfl) ?_
    refine x_get (hr h + 0) (hrk h 0 hh (by decide)) ?_
    refine Aft_v (WX_len2 _ _) ?_
    refine g_iload_n C0 dX2_valueAt_22 rfl ?_
    refine g_icmp_ne (tgt := 49) C0 dX2_valueAt_23 (by decide) (fun h23 => ?_) (fun h23 => ?_)
    · refine g_iinc (v := nI n - 1) C0 dX2_valueAt_49 rfl (ii_m1 _) (by decide) ?_
      refine g_goto (tgt := 8) C0 dX2_valueAt_52 (by decide) ?_
      exact ih (by omega) (by rw [← hs, hvF, if_neg (fun z => absurd z.1 h23)])
    refine g_aload_n C0 dX2_valueAt_26 rfl ?_
    refine g_getfield C0 dX2_valueAt_27 FX2_20 (WX_hist _ h hh) rfl ?_
    refine g_iload C0 dX2_valueAt_30 rfl ?_
    refine g_invV1 C0 dX2_valueAt_32 CX2_37 rfl (WX_row _ (hr h + 1) (hrk h 1 hh (by decide))).1 ⟨by decide, by decide, by decide, by decide⟩ (Nat.le_of_ble_eq_true rfl) ?_
    refine x_get (hr h + 1) (hrk h 1 hh (by decide)) ?_
    refine Aft_v (WX_len2 _ _) ?_
    refine g_iload_n C0 dX2_valueAt_35 rfl ?_
    refine g_icmp_gt (tgt := 49) C0 dX2_valueAt_36 (by decide) (fun h36 => ?_) (fun h36 => ?_)
    · refine g_iinc (v := nI n - 1) C0 dX2_valueAt_49 rfl (ii_m1 _) (by decide) ?_
      refine g_goto (tgt := 8) C0 dX2_valueAt_52 (by decide) ?_
      exact ih (by omega) (by rw [← hs, hvF, if_neg (fun z => absurd z.2 (Int32.not_le.mpr h36))])
    refine g_aload_n C0 dX2_valueAt_39 rfl ?_
    refine g_getfield C0 dX2_valueAt_40 FX2_23 (WX_hist _ h hh) rfl ?_
    refine g_iload C0 dX2_valueAt_43 rfl ?_
    refine g_invV1 C0 dX2_valueAt_45 CX2_37 rfl (WX_row _ (hr h + 2) (hrk h 2 hh (by decide))).1 ⟨by decide, by decide, by decide, by decide⟩ (Nat.le_of_ble_eq_true rfl) ?_
    refine x_get (hr h + 2) (hrk h 2 hh (by decide)) ?_
    refine Aft_v (WX_len2 _ _) ?_
    refine g_iret C0 rfl dX2_valueAt_48 (by decide) (by decide) ?_
    rw [← hs, hvF, if_pos ⟨by assumption, Int32.not_lt.mp (by assumption)⟩] at hK; exact hK
set_option maxRecDepth 100000 in
set_option maxHeartbeats 4000000 in
theorem x_valueAt {q : XS} {K : AO → AW → Prop} (h : Nat) (hh : h < 4) (hq : q.2 (2 + h) < 100000) {key second first : Int32} (hK : K (.inl (some (.int (hval q h key second first)))) (WX q)) : Snd MX2_valueAt [.ref (ho h), .int key, .int second, .int first] (WX q) K := by
  refine Snd.of (by decide +kernel) (Nat.le_of_ble_eq_true rfl) rfl rfl ?_
  intro X D dA ad C0
  show Gd X _ MX2_valueAt 0 [some (.ref (ho h)), some (.int key), some (.int second), some (.int first), none] [] _ 0 0
  refine g_aload_n C0 dX2_valueAt_0 rfl ?_
  refine g_getfield C0 dX2_valueAt_1 FX2_26 (WX_hist _ h hh) rfl ?_
  refine g_iconst (v := 1) C0 dX2_valueAt_4 (by decide) ?_
  refine g_isub C0 dX2_valueAt_5 ?_
  refine g_istore C0 dX2_valueAt_6 (by decide) ?_
  exact lp_valueAt hh hq C0 hK _ (Nat.le_refl _) rfl
set_option maxRecDepth 100000 in
set_option maxHeartbeats 4000000 in
theorem lp_nextAfter {q : XS} {K : AO → AW → Prop} {h : Nat} (hh : h < 4) (hq : q.2 (2 + h) < 100000) {key second last : Int32} {X : CX} {D : va_G} {dA : Nat → ClassId} {w0 : AW} {ad : Nat → Nat} (C0 : Ok X (D, dA, w0, ad, K) MX2_nextAfter) (hK : K (.inl (some (.int (hnext q h key second last)))) (WX q)) :
    ∀ n : Nat, n ≤ q.2 (2 + h) → hnF q h key second last (q.2 (2 + h)) n = hnext q h key second last → Gd X (D, dA, w0, ad, K) MX2_nextAfter 3 [some (.ref (ho h)), some (.int key), some (.int second), some (.int last), some (.int (nI (q.2 (2 + h) - n)))] [] (WX q) 0 0 := by
  intro n
  induction n with
  | zero =>
    intro hn hs
    refine g_iload C0 dX2_nextAfter_3 rfl ?_
    refine g_aload_n C0 dX2_nextAfter_5 rfl ?_
    refine g_getfield C0 dX2_nextAfter_6 FX2_26 (WX_hist _ h hh) rfl ?_
    refine g_icmp_ge (tgt := 58) C0 dX2_nextAfter_9 (by decide) (fun _ => ?_) (fun z => absurd (Int32.le_refl _) z)
    refine g_iload_n C0 dX2_nextAfter_58 rfl ?_
    refine g_iret C0 rfl dX2_nextAfter_59 (by decide) (by decide) ?_
    rw [← hs] at hK
    exact hK
  | succ n ih =>
    intro hn hs
    have hi : q.2 (2 + h) - (n + 1) + 1 = q.2 (2 + h) - n := by omega
    refine g_iload C0 dX2_nextAfter_3 rfl ?_
    refine g_aload_n C0 dX2_nextAfter_5 rfl ?_
    refine g_getfield C0 dX2_nextAfter_6 FX2_26 (WX_hist _ h hh) rfl ?_
    refine g_icmp_ge (tgt := 58) C0 dX2_nextAfter_9 (by decide) (fun h9 => absurd h9 (nI_ge (by omega) (by omega))) (fun h9 => ?_)
    refine g_aload_n C0 dX2_nextAfter_12 rfl ?_
    refine g_getfield C0 dX2_nextAfter_13 FX2_14 (WX_hist _ h hh) rfl ?_
    refine g_iload C0 dX2_nextAfter_16 rfl ?_
    refine g_invV1 C0 dX2_nextAfter_18 CX2_37 rfl (WX_row _ (hr h + 0) (hrk h 0 hh (by decide))).1 ⟨by decide, by decide, by decide, by decide⟩ (Nat.le_of_ble_eq_true rfl) ?_
    refine x_get (hr h + 0) (hrk h 0 hh (by decide)) ?_
    refine Aft_v (WX_len2 _ _) ?_
    refine g_iload_n C0 dX2_nextAfter_21 rfl ?_
    refine g_icmp_ne (tgt := 52) C0 dX2_nextAfter_22 (by decide) (fun h22 => ?_) (fun h22 => ?_)
    · refine g_iinc (v := nI (q.2 (2 + h) - n)) C0 dX2_nextAfter_52 rfl (by rw [← hi]; exact (nI_1 _)) (by decide) ?_
      refine g_goto (tgt := 3) C0 dX2_nextAfter_55 (by decide) ?_
      exact ih (by omega) (by rw [← hs, hnF, if_neg (fun z => absurd z.1 h22)])
    refine g_aload_n C0 dX2_nextAfter_25 rfl ?_
    refine g_getfield C0 dX2_nextAfter_26 FX2_20 (WX_hist _ h hh) rfl ?_
    refine g_iload C0 dX2_nextAfter_29 rfl ?_
    refine g_invV1 C0 dX2_nextAfter_31 CX2_37 rfl (WX_row _ (hr h + 1) (hrk h 1 hh (by decide))).1 ⟨by decide, by decide, by decide, by decide⟩ (Nat.le_of_ble_eq_true rfl) ?_
    refine x_get (hr h + 1) (hrk h 1 hh (by decide)) ?_
    refine Aft_v (WX_len2 _ _) ?_
    refine g_iload_n C0 dX2_nextAfter_34 rfl ?_
    refine g_icmp_le (tgt := 52) C0 dX2_nextAfter_35 (by decide) (fun h35 => ?_) (fun h35 => ?_)
    · refine g_iinc (v := nI (q.2 (2 + h) - n)) C0 dX2_nextAfter_52 rfl (by rw [← hi]; exact (nI_1 _)) (by decide) ?_
      refine g_goto (tgt := 3) C0 dX2_nextAfter_55 (by decide) ?_
      exact ih (by omega) (by rw [← hs, hnF, if_neg (fun z => absurd z.2 (Int32.not_lt.mpr h35))])
    refine g_aload_n C0 dX2_nextAfter_38 rfl ?_
    refine g_getfield C0 dX2_nextAfter_39 FX2_20 (WX_hist _ h hh) rfl ?_
    refine g_iload C0 dX2_nextAfter_42 rfl ?_
    refine g_invV1 C0 dX2_nextAfter_44 CX2_37 rfl (WX_row _ (hr h + 1) (hrk h 1 hh (by decide))).1 ⟨by decide, by decide, by decide, by decide⟩ (Nat.le_of_ble_eq_true rfl) ?_
    refine x_get (hr h + 1) (hrk h 1 hh (by decide)) ?_
    refine Aft_v (WX_len2 _ _) ?_
    refine g_iload_n C0 dX2_nextAfter_47 rfl ?_
    refine g_min C0 dX2_nextAfter_48 QX2_41 (by decide) (Nat.le_of_ble_eq_true rfl) (by decide) (by decide) ?_
    refine g_iret C0 rfl dX2_nextAfter_51 (by decide) (by decide) ?_
    rw [← hs, hnF, if_pos ⟨by assumption, Int32.not_le.mp (by assumption)⟩] at hK; exact hK
set_option maxRecDepth 100000 in
set_option maxHeartbeats 4000000 in
theorem x_nextAfter {q : XS} {K : AO → AW → Prop} (h : Nat) (hh : h < 4) (hq : q.2 (2 + h) < 100000) {key second last : Int32} (hK : K (.inl (some (.int (hnext q h key second last)))) (WX q)) : Snd MX2_nextAfter [.ref (ho h), .int key, .int second, .int last] (WX q) K := by
  refine Snd.of (by decide +kernel) (Nat.le_of_ble_eq_true rfl) rfl rfl ?_
  intro X D dA ad C0
  show Gd X _ MX2_nextAfter 0 [some (.ref (ho h)), some (.int key), some (.int second), some (.int last), none] [] _ 0 0
  refine g_iconst (v := 0) C0 dX2_nextAfter_0 (by decide) ?_
  refine g_istore C0 dX2_nextAfter_1 (by decide) ?_
  exact g_ls (by rw [Nat.sub_self]; rfl) (lp_nextAfter hh hq C0 hK _ (Nat.le_refl _) rfl)

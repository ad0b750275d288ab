theorem noW_noC (c : Int32) : noW c 0 4 ↔ noC c := by
  unfold noW noC
  constructor
  · rintro (h | h)
    · exact Or.inl h
    · right; rw [Int32.lt_iff_toInt_lt] at h; rw [Int32.le_iff_toInt_le]; have a : (4 : Int32).toInt = 4 := rfl; have b : (5 : Int32).toInt = 5 := rfl; omega
  · rintro (h | h)
    · exact Or.inl h
    · right; rw [Int32.le_iff_toInt_le] at h; rw [Int32.lt_iff_toInt_lt]; have a : (4 : Int32).toInt = 4 := rfl; have b : (5 : Int32).toInt = 5 := rfl; omega
theorem noW_noP (c : Int32) : noW c 0 5 ↔ noP c := by
  unfold noW noP
  constructor
  · rintro (h | h)
    · exact Or.inl h
    · right; rw [Int32.lt_iff_toInt_lt] at h; rw [Int32.le_iff_toInt_le]; have a : (5 : Int32).toInt = 5 := rfl; have b : (6 : Int32).toInt = 6 := rfl; omega
  · rintro (h | h)
    · exact Or.inl h
    · right; rw [Int32.le_iff_toInt_le] at h; rw [Int32.lt_iff_toInt_lt]; have a : (5 : Int32).toInt = 5 := rfl; have b : (6 : Int32).toInt = 6 := rfl; omega
theorem noW_noN (c : Int32) : noW c 0 11 ↔ noN c := by
  unfold noW noN
  constructor
  · rintro (h | h)
    · exact Or.inl h
    · right; rw [Int32.lt_iff_toInt_lt] at h; rw [Int32.le_iff_toInt_le]; have a : (11 : Int32).toInt = 11 := rfl; have b : (12 : Int32).toInt = 12 := rfl; omega
  · rintro (h | h)
    · exact Or.inl h
    · right; rw [Int32.le_iff_toInt_le] at h; rw [Int32.lt_iff_toInt_lt]; have a : (11 : Int32).toInt = 11 := rfl; have b : (12 : Int32).toInt = 12 := rfl; omega
/-- no such call of n -/
abbrev noL (n : Nat) (c : Int32) : Prop := c < 0 ∨ nI n ≤ c
theorem noW_noL (n : Nat) (hn : n < 100000) (c : Int32) : noW c 0 (nI n - 1) ↔ noL n c := by
  unfold noW noL
  have a : (nI n).toInt = n := nI_toInt (by omega)
  have b : (nI n - 1).toInt = n - 1 := by
    cases n with
    | zero => rfl
    | succ k => rw [nI_pred, nI_toInt (by omega)]; omega
  constructor
  · rintro (h | h)
    · exact Or.inl h
    · right; rw [Int32.lt_iff_toInt_lt] at h; rw [Int32.le_iff_toInt_le]; omega
  · rintro (h | h)
    · exact Or.inl h
    · right; rw [Int32.le_iff_toInt_le] at h; rw [Int32.lt_iff_toInt_lt]; omega
theorem in_of {c : Int32} {n : Nat} (hn : n < 2 ^ 31) (h : ¬ (c < 0 ∨ nI n ≤ c)) : vp_in c n := by
  rw [vp_in_iff]
  have h1 : ¬ c < 0 := fun z => h (Or.inl z)
  have h2 : ¬ nI n ≤ c := fun z => h (Or.inr z)
  rw [Int32.lt_iff_toInt_lt, Int32.toInt_zero] at h1
  rw [Int32.le_iff_toInt_le, nI_toInt hn] at h2
  omega
theorem inN {c : Int32} (h : ¬ noN c) : vp_in c 12 := in_of (n := 12) (by decide) h
theorem inC {c : Int32} (h : ¬ noC c) : vp_in c 5 := in_of (n := 5) (by decide) h
theorem inP {c : Int32} (h : ¬ noP c) : vp_in c 6 := in_of (n := 6) (by decide) h
theorem inL {n : Nat} (hn : n ≤ 60) {c : Int32} (h : ¬ noL n c) : vp_in c 60 := by
  have := in_of (n := n) (by omega) h
  rw [vp_in_iff] at this ⊢
  omega
/-! what the reference reads off its state -/
def piF (q : XS) (n s : Int32) : Nat → Int32
  | 0 => n - n / 5 * 5
  | k + 1 => if q.1 12 k = n ∧ q.1 14 k ≤ s then q.1 13 k else piF q n s k
def mplace (q : XS) (n s : Int32) : Int32 := piF q n s (q.2 4)
def bvF (q : XS) (c n : Int32) : Nat → Int32
  | 0 => n - n / 5 * 5
  | k + 1 => if q.1 12 k = n ∧ mg q 15 (5 * nI k + c) ≤ nI (q.2 1) then q.1 13 k else bvF q c n k
def mbel (q : XS) (c n : Int32) : Int32 := bvF q c n (q.2 4)
abbrev tkC (q : XS) (c : Nat) (a b : Int32) (k : Nat) : Prop := (q.1 20 (5 * c + k) = a ∧ q.1 20 (5 * c + k + 1) = b) ∨ (q.1 20 (5 * c + k) = b ∧ q.1 20 (5 * c + k + 1) = a)
def mtF (q : XS) (c : Nat) (a b : Int32) : Nat → Int32
  | 0 => -1
  | k + 1 => if tkC q c a b k then nI k else mtF q c a b k
def mtakes (q : XS) (c : Nat) (a b : Int32) (m : Nat) : Int32 := if q.1 18 c = 0 then mtF q c a b m else -1
def muF (q : XS) (a b : Int32) (lam : Nat → Nat) : Nat → Int32
  | 0 => 0
  | k + 1 => muF q a b lam k + (if mtakes q k a b (lam k) = -1 then 0 else 1)
def mused (q : XS) (a b : Int32) (lam : Nat → Nat) : Int32 := muF q a b lam (q.2 5)
def mcF (q : XS) (n : Int32) : Nat → Int32
  | 0 => -1
  | k + 1 => if q.1 18 k = 0 ∧ (q.1 16 k = n ∨ q.1 17 k = n) then nI k else mcF q n k
def mwith (q : XS) (n : Int32) : Int32 := mcF q n (q.2 5)
def moF (q : XS) (c : Int32) : Nat → Bool
  | 0 => false
  | k + 1 => moF q c k || decide (q.1 23 k = c)
def mpay (q : XS) (a b : Int32) : XS := mw (mw (mw q 4 a (mg q 4 a - 5)) 4 b (mg (mw q 4 a (mg q 4 a - 5)) 4 b + 5)) 6 a (mg (mw (mw q 4 a (mg q 4 a - 5)) 4 b (mg (mw q 4 a (mg q 4 a - 5)) 4 b + 5)) 6 a + 5)
def mset1 (q : XS) (n p : Int32) : XS := mw q 9 n (mg q 9 n - p)
def mset2 (q : XS) (n p : Int32) : XS := mw (mset1 q n p) 4 (mplace (mset1 q n p) n 20000) (mg (mset1 q n p) 4 (mplace (mset1 q n p) n 20000) + p)
def msettle (q : XS) (n p : Int32) : XS := if mg (mset2 q n p) 11 n = 0 then mw (mset2 q n p) 11 n 0 else if mg (mset2 q n p) 9 n ≤ 0 then mw (mset2 q n p) 11 n 0 else mw (mset2 q n p) 11 n 1
abbrev dearP (s : Int32) : Prop := ¬ noW (s / 60 - s / 60 / 24 * 24) 8 19
set_option maxRecDepth 100000 in
set_option maxHeartbeats 4000000 in
theorem m_in {w : AW} {K : AO → AW → Prop} {v a b : Int32} (hK : K (.inl (some (.int (if noW v a b then 0 else 1)))) w) : Snd MX10_in [.int v, .int a, .int b] (w) K := by
  refine Snd.of (by decide +kernel) (Nat.le_of_ble_eq_true rfl) rfl rfl ?_
  intro X D dA ad C0
  show Gd X _ MX10_in 0 [some (.int v), some (.int a), some (.int b)] [] _ 0 0
  refine g_iload_n C0 dX10_in_0 rfl ?_
  refine g_iload_n C0 dX10_in_1 rfl ?_
  refine g_icmp_lt (tgt := 14) C0 dX10_in_2 (by decide) (fun h2 => ?_) (fun h2 => ?_)
  · refine g_iconst (v := 0) C0 dX10_in_14 (by decide) ?_
    refine g_zret C0 rfl rfl dX10_in_15 (by decide) (by decide) ?_
    rw [if_pos (Or.inl h2)] at hK; exact hK
  refine g_iload_n C0 dX10_in_5 rfl ?_
  refine g_iload_n C0 dX10_in_6 rfl ?_
  refine g_icmp_gt (tgt := 14) C0 dX10_in_7 (by decide) (fun h7 => ?_) (fun h7 => ?_)
  · refine g_iconst (v := 0) C0 dX10_in_14 (by decide) ?_
    refine g_zret C0 rfl rfl dX10_in_15 (by decide) (by decide) ?_
    rw [if_pos (Or.inr h7)] at hK; exact hK
  refine g_iconst (v := 1) C0 dX10_in_10 (by decide) ?_
  refine g_goto (tgt := 15) C0 dX10_in_11 (by decide) ?_
  refine g_zret C0 rfl rfl dX10_in_15 (by decide) (by decide) ?_
  rw [if_neg (fun z => z.elim h2 h7)] at hK; exact hK
set_option maxRecDepth 100000 in
set_option maxHeartbeats 4000000 in
theorem m_isC {w : AW} {K : AO → AW → Prop} {c : Int32} (hK : K (.inl (some (.int (if noC c then 0 else 1)))) w) : Snd MX10_isCarrier [.int c] (w) K := by
  refine Snd.of (by decide +kernel) (Nat.le_of_ble_eq_true rfl) rfl rfl ?_
  intro X D dA ad C0
  show Gd X _ MX10_isCarrier 0 [some (.int c)] [] _ 0 0
  refine g_iload_n C0 dX10_isCarrier_0 rfl ?_
  refine g_iconst (v := 0) C0 dX10_isCarrier_1 (by decide) ?_
  refine g_iconst (v := 4) C0 dX10_isCarrier_2 (by decide) ?_
  refine g_invS3 C0 dX10_isCarrier_3 CX10_87 rfl ⟨by decide, by decide, by decide, by decide⟩ (Nat.le_of_ble_eq_true rfl) ?_
  refine m_in ?_
  refine Aft_v rfl ?_
  refine g_zret C0 rfl (by split <;> rfl) dX10_isCarrier_6 (by decide) (by decide) ?_
  have h9 := propext (noW_noC c)
  simp only [h9]
  exact hK
set_option maxRecDepth 100000 in
set_option maxHeartbeats 4000000 in
theorem m_isN {w : AW} {K : AO → AW → Prop} {c : Int32} (hK : K (.inl (some (.int (if noN c then 0 else 1)))) w) : Snd MX10_isNumber [.int c] (w) K := by
  refine Snd.of (by decide +kernel) (Nat.le_of_ble_eq_true rfl) rfl rfl ?_
  intro X D dA ad C0
  show Gd X _ MX10_isNumber 0 [some (.int c)] [] _ 0 0
  refine g_iload_n C0 dX10_isNumber_0 rfl ?_
  refine g_iconst (v := 0) C0 dX10_isNumber_1 (by decide) ?_
  refine g_bipush (v := 11) C0 dX10_isNumber_2 (by decide) ?_
  refine g_invS3 C0 dX10_isNumber_4 CX10_87 rfl ⟨by decide, by decide, by decide, by decide⟩ (Nat.le_of_ble_eq_true rfl) ?_
  refine m_in ?_
  refine Aft_v rfl ?_
  refine g_zret C0 rfl (by split <;> rfl) dX10_isNumber_7 (by decide) (by decide) ?_
  have h9 := propext (noW_noN c)
  simp only [h9]
  exact hK
set_option maxRecDepth 100000 in
set_option maxHeartbeats 4000000 in
theorem m_isP {w : AW} {K : AO → AW → Prop} {c : Int32} (hK : K (.inl (some (.int (if noP c then 0 else 1)))) w) : Snd MX10_isPerson [.int c] (w) K := by
  refine Snd.of (by decide +kernel) (Nat.le_of_ble_eq_true rfl) rfl rfl ?_
  intro X D dA ad C0
  show Gd X _ MX10_isPerson 0 [some (.int c)] [] _ 0 0
  refine g_iload_n C0 dX10_isPerson_0 rfl ?_
  refine g_iconst (v := 0) C0 dX10_isPerson_1 (by decide) ?_
  refine g_iconst (v := 5) C0 dX10_isPerson_2 (by decide) ?_
  refine g_invS3 C0 dX10_isPerson_3 CX10_87 rfl ⟨by decide, by decide, by decide, by decide⟩ (Nat.le_of_ble_eq_true rfl) ?_
  refine m_in ?_
  refine Aft_v rfl ?_
  refine g_zret C0 rfl (by split <;> rfl) dX10_isPerson_6 (by decide) (by decide) ?_
  have h9 := propext (noW_noP c)
  simp only [h9]
  exact hK
set_option maxRecDepth 100000 in
set_option maxHeartbeats 4000000 in
theorem m_isL {q : XS} {K : AO → AW → Prop} {c : Int32} (h5 : q.2 5 < 100000) (hK : K (.inl (some (.int (if noL (q.2 5) c then 0 else 1)))) (WM q)) : Snd MX10_isCall [.ref 0, .int c] (WM q) K := by
  refine Snd.of (by decide +kernel) (Nat.le_of_ble_eq_true rfl) rfl rfl ?_
  intro X D dA ad C0
  show Gd X _ MX10_isCall 0 [some (.ref 0), some (.int c)] [] _ 0 0
  refine g_iload_n C0 dX10_isCall_0 rfl ?_
  refine g_iconst (v := 0) C0 dX10_isCall_1 (by decide) ?_
  refine g_aload_n C0 dX10_isCall_2 rfl ?_
  refine g_getfield C0 dX10_isCall_3 FX10_91 rfl rfl ?_
  refine g_iconst (v := 1) C0 dX10_isCall_6 (by decide) ?_
  refine g_isub C0 dX10_isCall_7 ?_
  refine g_invS3 C0 dX10_isCall_8 CX10_87 rfl ⟨by decide, by decide, by decide, by decide⟩ (Nat.le_of_ble_eq_true rfl) ?_
  refine m_in ?_
  refine Aft_v (WM_len2 _ _) ?_
  refine g_zret C0 rfl (by split <;> rfl) dX10_isCall_11 (by decide) (by decide) ?_
  have h9 := propext (noW_noL (q.2 5) h5 c)
  simp only [h9]
  exact hK
set_option maxRecDepth 100000 in
set_option maxHeartbeats 4000000 in
theorem m_refused {q : XS} {K : AO → AW → Prop} {n : Nat} (hn : n < 100000) (hK : K (.inl (some (.int (if n = 0 then 0 else 1)))) (WM (setC q 0 n))) : Snd MX10_refused [.ref 0, .int (nI n)] (WM q) K := by
  refine Snd.of (by decide +kernel) (Nat.le_of_ble_eq_true rfl) rfl rfl ?_
  intro X D dA ad C0
  show Gd X _ MX10_refused 0 [some (.ref 0), some (.int (nI n))] [] _ 0 0
  refine g_aload_n C0 dX10_refused_0 rfl ?_
  refine g_iload_n C0 dX10_refused_1 rfl ?_
  refine g_putfield C0 dX10_refused_2 FX10_83 rfl (Nat.le_of_ble_eq_true rfl) (fun _ => ⟨rfl, rfl⟩) ?_
  refine g_w (WM_put0 _ n) ?_
  refine g_iload_n C0 dX10_refused_5 rfl ?_
  refine g_if_eq (tgt := 13) C0 dX10_refused_6 (by decide) (fun h6 => ?_) (fun h6 => ?_)
  · refine g_iconst (v := 0) C0 dX10_refused_13 (by decide) ?_
    refine g_zret C0 rfl rfl dX10_refused_14 (by decide) (by decide) ?_
    rw [if_pos] at hK
    · exact hK
    · rw [← nI_0, nI_eq (by omega) (by omega)] at h6; exact h6
  refine g_iconst (v := 1) C0 dX10_refused_9 (by decide) ?_
  refine g_goto (tgt := 14) C0 dX10_refused_10 (by decide) ?_
  refine g_zret C0 rfl rfl dX10_refused_14 (by decide) (by decide) ?_
  rw [if_neg] at hK
  · exact hK
  · intro z; subst z; exact h6 nI_0
set_option maxRecDepth 100000 in
set_option maxHeartbeats 4000000 in
theorem m_thrown {q : XS} {K : AO → AW → Prop} (hK : K (.inl (some (.int (nI (q.2 0))))) (WM q)) : Snd MX10_thrown [.ref 0] (WM q) K := by
  refine Snd.of (by decide +kernel) (Nat.le_of_ble_eq_true rfl) rfl rfl ?_
  intro X D dA ad C0
  show Gd X _ MX10_thrown 0 [some (.ref 0)] [] _ 0 0
  refine g_aload_n C0 dX10_thrown_0 rfl ?_
  refine g_getfield C0 dX10_thrown_1 FX10_83 rfl rfl ?_
  refine g_iret C0 rfl dX10_thrown_4 (by decide) (by decide) ?_
  exact hK
set_option maxRecDepth 100000 in
set_option maxHeartbeats 4000000 in
theorem ml_placeIn {q : XS} {K : AO → AW → Prop} {n s : Int32} (h4 : q.2 4 ≤ 60) (hK : K (.inl (some (.int (mplace q n s)))) (WM q)) {X : CX} {D : va_G} {dA : Nat → ClassId} {w0 : AW} {ad : Nat → Nat} (C0 : Ok X (D, dA, w0, ad, K) MX10_placeIn) : ∀ (n9 k : Nat), k + n9 = q.2 4 → Gd X (D, dA, w0, ad, K) MX10_placeIn 7 [some (.ref 0), some (.int n), some (.int s), some (.int (piF q n s k)), some (.int (nI k))] [] (WM q) 0 0 := by
  intro n9
  induction n9 with
  | zero =>
    intro k hk
    have hk4 : k = q.2 4 := by omega
    subst hk4
    refine g_iload C0 dX10_placeIn_7 rfl ?_
    refine g_aload_n C0 dX10_placeIn_9 rfl ?_
    refine g_getfield C0 dX10_placeIn_10 FX10_119 rfl rfl ?_
    refine g_icmp_ge (tgt := 56) C0 dX10_placeIn_13 (by decide) (fun _ => ?_) (fun z => absurd (Int32.le_refl _) z)
    refine g_iload_n C0 dX10_placeIn_56 rfl ?_
    refine g_iret C0 rfl dX10_placeIn_57 (by decide) (by decide) ?_
    exact hK
  | succ n9 ih =>
    intro k hk
    have ik : vp_in (nI k) 60 := vp_in_nI (by omega) (by omega)
    have ck : (nI k).toNatClampNeg = k := nI_clamp (by omega)
    refine g_iload C0 dX10_placeIn_7 rfl ?_
    refine g_aload_n C0 dX10_placeIn_9 rfl ?_
    refine g_getfield C0 dX10_placeIn_10 FX10_119 rfl rfl ?_
    refine g_icmp_ge (tgt := 56) C0 dX10_placeIn_13 (by decide) (fun h13 => absurd h13 (nI_ge (by omega) (by omega))) (fun h13 => ?_)
    refine g_aload_n C0 dX10_placeIn_16 rfl ?_
    refine g_getfield C0 dX10_placeIn_17 FX10_47 rfl rfl ?_
    refine g_iload C0 dX10_placeIn_20 rfl ?_
    refine g_iaload C0 dX10_placeIn_22 rfl (by assumption) ?_
    refine g_iload_n C0 dX10_placeIn_23 rfl ?_
    refine g_icmp_ne (tgt := 48) C0 dX10_placeIn_24 (by decide) (fun h24 => ?_) (fun h24 => ?_)
    · refine g_iload_n C0 dX10_placeIn_48 rfl ?_
      refine g_istore_n C0 dX10_placeIn_49 (by decide) ?_
      refine g_iinc (v := nI (k + 1)) C0 dX10_placeIn_50 rfl (nI_1 _) (by decide) ?_
      refine g_goto (tgt := 7) C0 dX10_placeIn_53 (by decide) ?_
      exact g_ls (by rw [piF, if_neg (fun z => by rw [← ck] at z; exact h24 z.1)]; rfl) (ih (k + 1) (by omega))
    refine g_aload_n C0 dX10_placeIn_27 rfl ?_
    refine g_getfield C0 dX10_placeIn_28 FX10_53 rfl rfl ?_
    refine g_iload C0 dX10_placeIn_31 rfl ?_
    refine g_iaload C0 dX10_placeIn_33 rfl (by assumption) ?_
    refine g_iload_n C0 dX10_placeIn_34 rfl ?_
    refine g_icmp_gt (tgt := 48) C0 dX10_placeIn_35 (by decide) (fun h35 => ?_) (fun h35 => ?_)
    · refine g_iload_n C0 dX10_placeIn_48 rfl ?_
      refine g_istore_n C0 dX10_placeIn_49 (by decide) ?_
      refine g_iinc (v := nI (k + 1)) C0 dX10_placeIn_50 rfl (nI_1 _) (by decide) ?_
      refine g_goto (tgt := 7) C0 dX10_placeIn_53 (by decide) ?_
      exact g_ls (by rw [piF, if_neg (fun z => by rw [← ck] at z; exact absurd z.2 (Int32.not_le.mpr h35))]; rfl) (ih (k + 1) (by omega))
    refine g_aload_n C0 dX10_placeIn_38 rfl ?_
    refine g_getfield C0 dX10_placeIn_39 FX10_50 rfl rfl ?_
    refine g_iload C0 dX10_placeIn_42 rfl ?_
    refine g_iaload C0 dX10_placeIn_44 rfl (by assumption) ?_
    rw [ck]
    refine g_goto (tgt := 49) C0 dX10_placeIn_45 (by decide) ?_
    refine g_istore_n C0 dX10_placeIn_49 (by decide) ?_
    refine g_iinc (v := nI (k + 1)) C0 dX10_placeIn_50 rfl (nI_1 _) (by decide) ?_
    refine g_goto (tgt := 7) C0 dX10_placeIn_53 (by decide) ?_
    exact g_ls (by rw [piF, if_pos ⟨by rw [← ck]; exact h24, by rw [← ck]; exact Int32.not_lt.mp h35⟩]; rfl) (ih (k + 1) (by omega))
set_option maxRecDepth 100000 in
set_option maxHeartbeats 4000000 in
theorem m_placeIn {q : XS} {K : AO → AW → Prop} {n s : Int32} (h4 : q.2 4 ≤ 60) (hK : K (.inl (some (.int (mplace q n s)))) (WM q)) : Snd MX10_placeIn [.ref 0, .int n, .int s] (WM q) K := by
  refine Snd.of (by decide +kernel) (Nat.le_of_ble_eq_true rfl) rfl rfl ?_
  intro X D dA ad C0
  show Gd X _ MX10_placeIn 0 [some (.ref 0), some (.int n), some (.int s), none, none] [] _ 0 0
  refine g_iload_n C0 dX10_placeIn_0 rfl ?_
  refine g_iconst (v := 5) C0 dX10_placeIn_1 (by decide) ?_
  refine g_irem C0 dX10_placeIn_2 (by decide) ?_
  refine g_istore_n C0 dX10_placeIn_3 (by decide) ?_
  refine g_iconst (v := 0) C0 dX10_placeIn_4 (by decide) ?_
  refine g_istore C0 dX10_placeIn_5 (by decide) ?_
  exact ml_placeIn h4 hK C0 (q.2 4) 0 (by omega)
set_option maxRecDepth 100000 in
set_option maxHeartbeats 4000000 in
theorem m_placeOf {q : XS} {K : AO → AW → Prop} {n : Int32} (h4 : q.2 4 ≤ 60) (hK : K (.inl (some (.int (mplace q n 20000)))) (WM q)) : Snd MX10_placeOf [.ref 0, .int n] (WM q) K := by
  refine Snd.of (by decide +kernel) (Nat.le_of_ble_eq_true rfl) rfl rfl ?_
  intro X D dA ad C0
  show Gd X _ MX10_placeOf 0 [some (.ref 0), some (.int n)] [] _ 0 0
  refine g_aload_n C0 dX10_placeOf_0 rfl ?_
  refine g_iload_n C0 dX10_placeOf_1 rfl ?_
  refine g_sipush (v := 20000) C0 dX10_placeOf_2 (by decide) ?_
  refine g_invV2 C0 dX10_placeOf_5 CX10_122 rfl rfl ⟨by decide, by decide, by decide, by decide⟩ (Nat.le_of_ble_eq_true rfl) ?_
  refine m_placeIn (by assumption) ?_
  refine Aft_v (WM_len2 _ _) ?_
  refine g_iret C0 rfl dX10_placeOf_8 (by decide) (by decide) ?_
  exact hK
theorem in5 {k : Nat} {c : Int32} (hk : k < 60) (hc : vp_in c 5) : vp_in (5 * nI k + c) 300 := by
  obtain ⟨j, hj, rfl⟩ := vp_in_of hc (by decide)
  rw [show (5 : Int32) = nI 5 from rfl, pk_mul, nI_add]
  exact vp_in_nI (by omega) (by decide)
theorem i5n (k j : Nat) : (5 : Int32) * nI k + nI j = nI (5 * k + j) := by
  rw [show (5 : Int32) = nI 5 from rfl, pk_mul, nI_add]
set_option maxRecDepth 100000 in
set_option maxHeartbeats 4000000 in
theorem ml_bel {q : XS} {K : AO → AW → Prop} {c n : Int32} (hc : vp_in c 5) (h4 : q.2 4 ≤ 60) (hK : K (.inl (some (.int (mbel q c n)))) (WM q)) {X : CX} {D : va_G} {dA : Nat → ClassId} {w0 : AW} {ad : Nat → Nat} (C0 : Ok X (D, dA, w0, ad, K) MX10_believes) : ∀ (n9 k : Nat), k + n9 = q.2 4 → Gd X (D, dA, w0, ad, K) MX10_believes 7 [some (.ref 0), some (.int c), some (.int n), some (.int (bvF q c n k)), some (.int (nI k))] [] (WM q) 0 0 := by
  intro n9
  induction n9 with
  | zero =>
    intro k hk
    have hk4 : k = q.2 4 := by omega
    subst hk4
    refine g_iload C0 dX10_believes_7 rfl ?_
    refine g_aload_n C0 dX10_believes_9 rfl ?_
    refine g_getfield C0 dX10_believes_10 FX10_119 rfl rfl ?_
    refine g_icmp_ge (tgt := 63) C0 dX10_believes_13 (by decide) (fun _ => ?_) (fun z => absurd (Int32.le_refl _) z)
    refine g_iload_n C0 dX10_believes_63 rfl ?_
    refine g_iret C0 rfl dX10_believes_64 (by decide) (by decide) ?_
    exact hK
  | succ n9 ih =>
    intro k hk
    have ik : vp_in (nI k) 60 := vp_in_nI (by omega) (by omega)
    have ck : (nI k).toNatClampNeg = k := nI_clamp (by omega)
    have i5 : vp_in (5 * nI k + c) 300 := in5 (by omega) hc
    refine g_iload C0 dX10_believes_7 rfl ?_
    refine g_aload_n C0 dX10_believes_9 rfl ?_
    refine g_getfield C0 dX10_believes_10 FX10_119 rfl rfl ?_
    refine g_icmp_ge (tgt := 63) C0 dX10_believes_13 (by decide) (fun h13 => absurd h13 (nI_ge (by omega) (by omega))) (fun h13 => ?_)
    refine g_aload_n C0 dX10_believes_16 rfl ?_
    refine g_getfield C0 dX10_believes_17 FX10_47 rfl rfl ?_
    refine g_iload C0 dX10_believes_20 rfl ?_
    refine g_iaload C0 dX10_believes_22 rfl (by assumption) ?_
    refine g_iload_n C0 dX10_believes_23 rfl ?_
    refine g_icmp_ne (tgt := 55) C0 dX10_believes_24 (by decide) (fun h24 => ?_) (fun h24 => ?_)
    · refine g_iload_n C0 dX10_believes_55 rfl ?_
      refine g_istore_n C0 dX10_believes_56 (by decide) ?_
      refine g_iinc (v := nI (k + 1)) C0 dX10_believes_57 rfl (nI_1 _) (by decide) ?_
      refine g_goto (tgt := 7) C0 dX10_believes_60 (by decide) ?_
      exact g_ls (by rw [bvF, if_neg (fun z => by rw [← ck] at z; exact h24 z.1)]; rfl) (ih (k + 1) (by omega))
    refine g_aload_n C0 dX10_believes_27 rfl ?_
    refine g_getfield C0 dX10_believes_28 FX10_56 rfl rfl ?_
    refine g_iconst (v := 5) C0 dX10_believes_31 (by decide) ?_
    refine g_iload C0 dX10_believes_32 rfl ?_
    refine g_imul C0 dX10_believes_34 ?_
    refine g_iload_n C0 dX10_believes_35 rfl ?_
    refine g_iadd C0 dX10_believes_36 ?_
    refine g_iaload C0 dX10_believes_37 rfl (by assumption) ?_
    refine g_aload_n C0 dX10_believes_38 rfl ?_
    refine g_getfield C0 dX10_believes_39 FX10_125 rfl rfl ?_
    refine g_icmp_gt (tgt := 55) C0 dX10_believes_42 (by decide) (fun h42 => ?_) (fun h42 => ?_)
    · refine g_iload_n C0 dX10_believes_55 rfl ?_
      refine g_istore_n C0 dX10_believes_56 (by decide) ?_
      refine g_iinc (v := nI (k + 1)) C0 dX10_believes_57 rfl (nI_1 _) (by decide) ?_
      refine g_goto (tgt := 7) C0 dX10_believes_60 (by decide) ?_
      exact g_ls (by rw [bvF, if_neg (fun z => absurd z.2 (Int32.not_le.mpr h42))]; rfl) (ih (k + 1) (by omega))
    refine g_aload_n C0 dX10_believes_45 rfl ?_
    refine g_getfield C0 dX10_believes_46 FX10_50 rfl rfl ?_
    refine g_iload C0 dX10_believes_49 rfl ?_
    refine g_iaload C0 dX10_believes_51 rfl (by assumption) ?_
    rw [ck]
    refine g_goto (tgt := 56) C0 dX10_believes_52 (by decide) ?_
    refine g_istore_n C0 dX10_believes_56 (by decide) ?_
    refine g_iinc (v := nI (k + 1)) C0 dX10_believes_57 rfl (nI_1 _) (by decide) ?_
    refine g_goto (tgt := 7) C0 dX10_believes_60 (by decide) ?_
    exact g_ls (by rw [bvF, if_pos ⟨by rw [← ck]; exact h24, Int32.not_lt.mp h42⟩]; rfl) (ih (k + 1) (by omega))
set_option maxRecDepth 100000 in
set_option maxHeartbeats 4000000 in
theorem m_bel {q : XS} {K : AO → AW → Prop} {c n : Int32} (hc : vp_in c 5) (h4 : q.2 4 ≤ 60) (hK : K (.inl (some (.int (mbel q c n)))) (WM q)) : Snd MX10_believes [.ref 0, .int c, .int n] (WM q) K := by
  refine Snd.of (by decide +kernel) (Nat.le_of_ble_eq_true rfl) rfl rfl ?_
  intro X D dA ad C0
  show Gd X _ MX10_believes 0 [some (.ref 0), some (.int c), some (.int n), none, none] [] _ 0 0
  refine g_iload_n C0 dX10_believes_0 rfl ?_
  refine g_iconst (v := 5) C0 dX10_believes_1 (by decide) ?_
  refine g_irem C0 dX10_believes_2 (by decide) ?_
  refine g_istore_n C0 dX10_believes_3 (by decide) ?_
  refine g_iconst (v := 0) C0 dX10_believes_4 (by decide) ?_
  refine g_istore C0 dX10_believes_5 (by decide) ?_
  exact ml_bel hc h4 hK C0 (q.2 4) 0 (by omega)

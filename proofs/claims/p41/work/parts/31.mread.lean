theorem noW_noC (c : Int32) : noW c 0 4 ↔ noC c := by
  unfold noW noC
  constructor
  · rintro (h | h)
    · exact Or.inl h
    · right; rw [Int32.lt_iff_toInt_lt] at h; rw [Int32.le_iff_toInt_le]; have a : (4 : Int32).toInt = 4 := rfl; have b : (5 : Int32).toInt = 5 := rfl; omega
  · rintro (h | h)
    · exact Or.inl h
    · right; rw [Int32.le_iff_toInt_le] at h; rw [Int32.lt_iff_toInt_lt]; have a : (4 : Int32).toInt = 4 := rfl; have b : (5 : Int32).toInt = 5 := rfl; omega
theorem noW_noP (c : Int32) : noW c 0 5 ↔ noP c := by
  unfold noW noP
  constructor
  · rintro (h | h)
    · exact Or.inl h
    · right; rw [Int32.lt_iff_toInt_lt] at h; rw [Int32.le_iff_toInt_le]; have a : (5 : Int32).toInt = 5 := rfl; have b : (6 : Int32).toInt = 6 := rfl; omega
  · rintro (h | h)
    · exact Or.inl h
    · right; rw [Int32.le_iff_toInt_le] at h; rw [Int32.lt_iff_toInt_lt]; have a : (5 : Int32).toInt = 5 := rfl; have b : (6 : Int32).toInt = 6 := rfl; omega
theorem noW_noN (c : Int32) : noW c 0 11 ↔ noN c := by
  unfold noW noN
  constructor
  · rintro (h | h)
    · exact Or.inl h
    · right; rw [Int32.lt_iff_toInt_lt] at h; rw [Int32.le_iff_toInt_le]; have a : (11 : Int32).toInt = 11 := rfl; have b : (12 : Int32).toInt = 12 := rfl; omega
  · rintro (h | h)
    · exact Or.inl h
    · right; rw [Int32.le_iff_toInt_le] at h; rw [Int32.lt_iff_toInt_lt]; have a : (11 : Int32).toInt = 11 := rfl; have b : (12 : Int32).toInt = 12 := rfl; omega
/-- no such call of n -/
abbrev noL (n : Nat) (c : Int32) : Prop := c < 0 ∨ nI n ≤ c
theorem noW_noL (n : Nat) (hn : n < 100000) (c : Int32) : noW c 0 (nI n - 1) ↔ noL n c := by
  unfold noW noL
  have a : (nI n).toInt = n := nI_toInt (by omega)
  have b : (nI n - 1).toInt = n - 1 := by
    cases n with
    | zero => rfl
    | succ k => rw [nI_pred, nI_toInt (by omega)]; omega
  constructor
  · rintro (h | h)
    · exact Or.inl h
    · right; rw [Int32.lt_iff_toInt_lt] at h; rw [Int32.le_iff_toInt_le]; omega
  · rintro (h | h)
    · exact Or.inl h
    · right; rw [Int32.le_iff_toInt_le] at h; rw [Int32.lt_iff_toInt_lt]; omega
theorem in_of {c : Int32} {n : Nat} (hn : n < 2 ^ 31) (h : ¬ (c < 0 ∨ nI n ≤ c)) : vp_in c n := by
  rw [vp_in_iff]
  have h1 : ¬ c < 0 := fun z => h (Or.inl z)
  have h2 : ¬ nI n ≤ c := fun z => h (Or.inr z)
  rw [Int32.lt_iff_toInt_lt, Int32.toInt_zero] at h1
  rw [Int32.le_iff_toInt_le, nI_toInt hn] at h2
  omega
theorem inN {c : Int32} (h : ¬ noN c) : vp_in c 12 := in_of (n := 12) (by decide) h
theorem inC {c : Int32} (h : ¬ noC c) : vp_in c 5 := in_of (n := 5) (by decide) h
theorem inP {c : Int32} (h : ¬ noP c) : vp_in c 6 := in_of (n := 6) (by decide) h
theorem inL {n : Nat} (hn : n ≤ 60) {c : Int32} (h : ¬ noL n c) : vp_in c 60 := by
  have := in_of (n := n) (by omega) h
  rw [vp_in_iff] at this ⊢
  omega
/-! what the reference reads off its state -/
def piF (q : XS) (n s : Int32) : Nat → Int32
  | 0 => n - n / 5 * 5
  | k + 1 => if q.1 12 k = n ∧ q.1 14 k ≤ s then q.1 13 k else piF q n s k
def mplace (q : XS) (n s : Int32) : Int32 := piF q n s (q.2 4)
def bvF (q : XS) (c n : Int32) : Nat → Int32
  | 0 => n - n / 5 * 5
  | k + 1 => if q.1 12 k = n ∧ mg q 15 (5 * nI k + c) ≤ nI (q.2 1) then q.1 13 k else bvF q c n k
def mbel (q : XS) (c n : Int32) : Int32 := bvF q c n (q.2 4)
abbrev tkC (q : XS) (c : Nat) (a b : Int32) (k : Nat) : Prop := (q.1 20 (5 * c + k) = a ∧ q.1 20 (5 * c + k + 1) = b) ∨ (q.1 20 (5 * c + k) = b ∧ q.1 20 (5 * c + k + 1) = a)
def mtF (q : XS) (c : Nat) (a b : Int32) : Nat → Int32
  | 0 => -1
  | k + 1 => if tkC q c a b k then nI k else mtF q c a b k
def mtakes (q : XS) (c : Nat) (a b : Int32) (m : Nat) : Int32 := if q.1 18 c = 0 then mtF q c a b m else -1
def muF (q : XS) (a b : Int32) (lam : Nat → Nat) : Nat → Int32
  | 0 => 0
  | k + 1 => muF q a b lam k + (if mtakes q k a b (lam k) = -1 then 0 else 1)
def mused (q : XS) (a b : Int32) (lam : Nat → Nat) : Int32 := muF q a b lam (q.2 5)
def mcF (q : XS) (n : Int32) : Nat → Int32
  | 0 => -1
  | k + 1 => if q.1 18 k = 0 ∧ (q.1 16 k = n ∨ q.1 17 k = n) then nI k else mcF q n k
def mwith (q : XS) (n : Int32) : Int32 := mcF q n (q.2 5)
def moF (q : XS) (c : Int32) : Nat → Bool
  | 0 => false
  | k + 1 => moF q c k || decide (q.1 23 k = c)
def mpay (q : XS) (a b : Int32) : XS := mw (mw (mw q 4 a (mg q 4 a - 5)) 4 b (mg (mw q 4 a (mg q 4 a - 5)) 4 b + 5)) 6 a (mg (mw (mw q 4 a (mg q 4 a - 5)) 4 b (mg (mw q 4 a (mg q 4 a - 5)) 4 b + 5)) 6 a + 5)
def mset1 (q : XS) (n p : Int32) : XS := mw q 9 n (mg q 9 n - p)
def mset2 (q : XS) (n p : Int32) : XS := mw (mset1 q n p) 4 (mplace (mset1 q n p) n 20000) (mg (mset1 q n p) 4 (mplace (mset1 q n p) n 20000) + p)
def msettle (q : XS) (n p : Int32) : XS := if mg (mset2 q n p) 11 n = 0 then mw (mset2 q n p) 11 n 0 else if mg (mset2 q n p) 9 n ≤ 0 then mw (mset2 q n p) 11 n 0 else mw (mset2 q n p) 11 n 1
abbrev dearP (s : Int32) : Prop := ¬ noW (s / 60 - s / 60 / 24 * 24) 8 19
theorem in5 {k : Nat} {c : Int32} (hk : k < 60) (hc : vp_in c 5) : vp_in (5 * nI k + c) 300 := by
  obtain ⟨j, hj, rfl⟩ := vp_in_of hc (by decide)
  rw [show (5 : Int32) = nI 5 from rfl, pk_mul, nI_add]
  exact vp_in_nI (by omega) (by decide)
theorem i5n (k j : Nat) : (5 : Int32) * nI k + nI j = nI (5 * k + j) := by
  rw [show (5 : Int32) = nI 5 from rfl, pk_mul, nI_add]

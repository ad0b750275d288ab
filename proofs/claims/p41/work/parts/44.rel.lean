/-! ===== the class's state and the reference's ===== -/
theorem HE.of {q p : XS} (r : ∀ k, 14 ≤ k → k ≤ 26 → q.1 k = p.1 k) (c : ∀ k, 2 ≤ k → k ≤ 5 → q.2 k = p.2 k) : HE q p := by
  intro h hh
  have := hr_v hh
  exact ⟨c _ (by omega) (by omega), fun j hj => r _ (by omega) (by omega)⟩
def wiR (st a b : Nat → Int32) (n : Int32) : Nat → Int32
  | 0 => -1
  | k + 1 => if st k = 0 ∧ (a k = n ∨ b k = n) then nI k else wiR st a b n k
theorem mcF_r {t : XS} {n : Int32} : ∀ k, mcF t n k = wiR (t.1 18) (t.1 16) (t.1 17) n k
  | 0 => rfl
  | k + 1 => by rw [mcF, wiR, mcF_r k]
abbrev tkR (w : Nat → Int32) (c : Nat) (a b : Int32) (i : Nat) : Prop := (w (5 * c + i) = a ∧ w (5 * c + i + 1) = b) ∨ (w (5 * c + i) = b ∧ w (5 * c + i + 1) = a)
/-- how many of the first m trunks of a call's way lie between two carriers -/
def pcR (w : Nat → Int32) (c : Nat) (a b : Int32) : Nat → Nat
  | 0 => 0
  | i + 1 => pcR w c a b i + if tkR w c a b i then 1 else 0
/-- how many lines between two carriers are used by the first k calls -/
def ucR (w st : Nat → Int32) (lam : Nat → Nat) (a b : Int32) : Nat → Nat
  | 0 => 0
  | k + 1 => ucR w st lam a b k + if st k = 0 then pcR w k a b (lam k) else 0
abbrev lm (t : XS) (k : Nat) : Nat := (t.1 19 k).toNatClampNeg
abbrev RX (x t : XS) : Prop := (x.2 0 = t.2 1) ∧ (x.2 1 = t.2 6) ∧ (x.2 2 = t.2 4) ∧ (x.2 3 = t.2 3) ∧ (x.2 4 = t.2 2) ∧ (x.2 6 = t.2 5) ∧ (∀ n, n < 12 → x.1 1 n = t.1 8 n) ∧ (∀ n, n < 12 → x.1 2 n = t.1 9 n) ∧ (∀ n, n < 12 → x.1 4 n = t.1 10 n) ∧ (∀ n, n < 12 → x.1 5 n = t.1 11 n) ∧ (∀ n, n < 5 → x.1 7 n = t.1 2 n) ∧ (∀ n, n < 5 → x.1 8 n = t.1 4 n) ∧ (∀ n, n < 5 → x.1 9 n = t.1 5 n) ∧ (∀ n, n < 5 → x.1 10 n = t.1 6 n) ∧ (∀ n, n < 6 → x.1 11 n = t.1 7 n) ∧ (∀ k, k < 60 → x.1 14 k = t.1 12 k) ∧ (∀ k, k < 60 → x.1 15 k = t.1 14 k) ∧ (∀ k, k < 60 → x.1 16 k = t.1 13 k) ∧ (∀ k, k < 300 → x.1 17 k = t.1 15 k) ∧ (∀ k, k < 60 → x.1 27 k = t.1 16 k) ∧ (∀ k, k < 60 → x.1 28 k = t.1 17 k) ∧ (∀ k, k < 60 → x.1 31 k = t.1 18 k) ∧ (∀ k, k < 60 → x.1 32 k = t.1 22 k) ∧ (∀ k, k < 300 → x.1 34 k = t.1 20 k) ∧ (∀ k, k < x.2 6 → x.1 33 k = t.1 19 k + 1) ∧ (∀ k, k < x.2 6 → t.1 21 k = nI (eN x k - bN x k)) ∧ (∀ n, n < 12 → x.1 6 n = wiR (t.1 18) (t.1 16) (t.1 17) (nI n) (t.2 5)) ∧ (∀ n, n < 12 → x.1 0 n = lastV (x.1 14) (x.1 15) (x.1 16) (nI n) (nI (x.2 0)) (nI n - nI n / 5 * 5) (x.2 2)) ∧ (∀ n, n < 12 → x.1 1 n = lastV (x.1 18) (x.1 19) (x.1 20) (nI n) (nI (x.2 0)) (nI n - nI n / 6 * 6) (x.2 3)) ∧ (∀ a b, a < b → b < 5 → x.1 12 (5 * a + b) = t.1 3 (5 * a + b) ∧ t.1 3 (5 * b + a) = t.1 3 (5 * a + b) ∧ ∃ n, n ≤ 5 ∧ t.1 3 (5 * a + b) = nI n) ∧ (∀ a b, a < b → b < 5 → x.1 13 (5 * a + b) = nI (ucR (t.1 20) (t.1 18) (fun k => (t.1 19 k).toNatClampNeg) (nI a) (nI b) (t.2 5))) ∧ (∀ c, c < 5 → lastV (x.1 21) (x.1 22) (x.1 23) (nI c) (nI (x.2 0)) 2 (x.2 4) = t.1 0 c) ∧ (∀ c, c < 5 → lastV (x.1 24) (x.1 25) (x.1 26) (nI c) (nI (x.2 0)) 1 (x.2 5) = t.1 1 c) ∧ (∀ c, c < 5 → (∃ d, d ≤ 9 ∧ t.1 0 c = nI d) ∧ ∃ d, d ≤ 9 ∧ t.1 1 c = nI d) ∧ (∀ k, vp_in (t.1 13 k) 5) ∧ (∀ k, vp_in (t.1 16 k) 12) ∧ (∀ k, vp_in (t.1 17 k) 12) ∧ (∀ k, vp_in (t.1 8 k) 6) ∧ (∀ k, vp_in (t.1 20 k) 5) ∧ (∀ k, t.1 19 k = nI ((t.1 19 k).toNatClampNeg) ∧ (t.1 19 k).toNatClampNeg ≤ 4) ∧ (∀ n, n < 12 → t.1 11 n = 0 ∨ t.1 11 n = 1) ∧ (∀ n, n < 12 → ∃ d, x.1 2 n = nI d ∧ d ≤ 540 * x.2 0) ∧ (∀ n, n < 12 → ∃ b, b ≤ 5000 ∧ x.1 4 n = nI b) ∧ (∀ k, k < x.2 6 → ∀ i j, i < j → j ≤ (t.1 19 k).toNatClampNeg → ¬ t.1 20 (5 * k + i) = t.1 20 (5 * k + j)) ∧ (∀ k, x.2 6 ≤ k → k < 60 → x.1 31 k = 0 ∧ x.1 32 k = 0 ∧ t.1 21 k = 0) ∧ (∀ k j, k < x.2 6 → j < x.2 6 → ¬ j = k → t.1 18 k = 0 → t.1 18 j = 0 → ¬ t.1 16 k = t.1 16 j ∧ ¬ t.1 16 k = t.1 17 j ∧ ¬ t.1 17 k = t.1 16 j ∧ ¬ t.1 17 k = t.1 17 j) ∧ (HA x (x.2 0)) ∧ (TM x) ∧ (BK x)
theorem RX.cN {x t : XS} (s9 : RX x t) : x.2 0 = t.2 1 := s9.1
theorem RX.cL {x t : XS} (s9 : RX x t) : x.2 1 = t.2 6 := s9.2.1
theorem RX.cP {x t : XS} (s9 : RX x t) : x.2 2 = t.2 4 := s9.2.2.1
theorem RX.cS {x t : XS} (s9 : RX x t) : x.2 3 = t.2 3 := s9.2.2.2.1
theorem RX.cD {x t : XS} (s9 : RX x t) : x.2 4 = t.2 2 := s9.2.2.2.2.1
theorem RX.cC {x t : XS} (s9 : RX x t) : x.2 6 = t.2 5 := s9.2.2.2.2.2.1
theorem RX.rO {x t : XS} (s9 : RX x t) : ∀ n, n < 12 → x.1 1 n = t.1 8 n := s9.2.2.2.2.2.2.1
theorem RX.rD {x t : XS} (s9 : RX x t) : ∀ n, n < 12 → x.1 2 n = t.1 9 n := s9.2.2.2.2.2.2.2.1
theorem RX.rB {x t : XS} (s9 : RX x t) : ∀ n, n < 12 → x.1 4 n = t.1 10 n := s9.2.2.2.2.2.2.2.2.1
theorem RX.rY {x t : XS} (s9 : RX x t) : ∀ n, n < 12 → x.1 5 n = t.1 11 n := s9.2.2.2.2.2.2.2.2.2.1
theorem RX.rE {x t : XS} (s9 : RX x t) : ∀ n, n < 5 → x.1 7 n = t.1 2 n := s9.2.2.2.2.2.2.2.2.2.2.1
theorem RX.rP {x t : XS} (s9 : RX x t) : ∀ n, n < 5 → x.1 8 n = t.1 4 n := s9.2.2.2.2.2.2.2.2.2.2.2.1
theorem RX.rA {x t : XS} (s9 : RX x t) : ∀ n, n < 5 → x.1 9 n = t.1 5 n := s9.2.2.2.2.2.2.2.2.2.2.2.2.1
theorem RX.rL {x t : XS} (s9 : RX x t) : ∀ n, n < 5 → x.1 10 n = t.1 6 n := s9.2.2.2.2.2.2.2.2.2.2.2.2.2.1
theorem RX.rS {x t : XS} (s9 : RX x t) : ∀ n, n < 6 → x.1 11 n = t.1 7 n := s9.2.2.2.2.2.2.2.2.2.2.2.2.2.2.1
theorem RX.r14 {x t : XS} (s9 : RX x t) : ∀ k, k < 60 → x.1 14 k = t.1 12 k := s9.2.2.2.2.2.2.2.2.2.2.2.2.2.2.2.1
theorem RX.r15 {x t : XS} (s9 : RX x t) : ∀ k, k < 60 → x.1 15 k = t.1 14 k := s9.2.2.2.2.2.2.2.2.2.2.2.2.2.2.2.2.1
theorem RX.r16 {x t : XS} (s9 : RX x t) : ∀ k, k < 60 → x.1 16 k = t.1 13 k := s9.2.2.2.2.2.2.2.2.2.2.2.2.2.2.2.2.2.1
theorem RX.r17 {x t : XS} (s9 : RX x t) : ∀ k, k < 300 → x.1 17 k = t.1 15 k := s9.2.2.2.2.2.2.2.2.2.2.2.2.2.2.2.2.2.2.1
theorem RX.r27 {x t : XS} (s9 : RX x t) : ∀ k, k < 60 → x.1 27 k = t.1 16 k := s9.2.2.2.2.2.2.2.2.2.2.2.2.2.2.2.2.2.2.2.1
theorem RX.r28 {x t : XS} (s9 : RX x t) : ∀ k, k < 60 → x.1 28 k = t.1 17 k := s9.2.2.2.2.2.2.2.2.2.2.2.2.2.2.2.2.2.2.2.2.1
theorem RX.r31 {x t : XS} (s9 : RX x t) : ∀ k, k < 60 → x.1 31 k = t.1 18 k := s9.2.2.2.2.2.2.2.2.2.2.2.2.2.2.2.2.2.2.2.2.2.1
theorem RX.r32 {x t : XS} (s9 : RX x t) : ∀ k, k < 60 → x.1 32 k = t.1 22 k := s9.2.2.2.2.2.2.2.2.2.2.2.2.2.2.2.2.2.2.2.2.2.2.1
theorem RX.r34 {x t : XS} (s9 : RX x t) : ∀ k, k < 300 → x.1 34 k = t.1 20 k := s9.2.2.2.2.2.2.2.2.2.2.2.2.2.2.2.2.2.2.2.2.2.2.2.1
theorem RX.r33 {x t : XS} (s9 : RX x t) : ∀ k, k < x.2 6 → x.1 33 k = t.1 19 k + 1 := s9.2.2.2.2.2.2.2.2.2.2.2.2.2.2.2.2.2.2.2.2.2.2.2.2.1
theorem RX.rT {x t : XS} (s9 : RX x t) : ∀ k, k < x.2 6 → t.1 21 k = nI (eN x k - bN x k) := s9.2.2.2.2.2.2.2.2.2.2.2.2.2.2.2.2.2.2.2.2.2.2.2.2.2.1
theorem RX.rW {x t : XS} (s9 : RX x t) : ∀ n, n < 12 → x.1 6 n = wiR (t.1 18) (t.1 16) (t.1 17) (nI n) (t.2 5) := s9.2.2.2.2.2.2.2.2.2.2.2.2.2.2.2.2.2.2.2.2.2.2.2.2.2.2.1
theorem RX.rC {x t : XS} (s9 : RX x t) : ∀ n, n < 12 → x.1 0 n = lastV (x.1 14) (x.1 15) (x.1 16) (nI n) (nI (x.2 0)) (nI n - nI n / 5 * 5) (x.2 2) := s9.2.2.2.2.2.2.2.2.2.2.2.2.2.2.2.2.2.2.2.2.2.2.2.2.2.2.2.1
theorem RX.rQ {x t : XS} (s9 : RX x t) : ∀ n, n < 12 → x.1 1 n = lastV (x.1 18) (x.1 19) (x.1 20) (nI n) (nI (x.2 0)) (nI n - nI n / 6 * 6) (x.2 3) := s9.2.2.2.2.2.2.2.2.2.2.2.2.2.2.2.2.2.2.2.2.2.2.2.2.2.2.2.2.1
theorem RX.rN {x t : XS} (s9 : RX x t) : ∀ a b, a < b → b < 5 → x.1 12 (5 * a + b) = t.1 3 (5 * a + b) ∧ t.1 3 (5 * b + a) = t.1 3 (5 * a + b) ∧ ∃ n, n ≤ 5 ∧ t.1 3 (5 * a + b) = nI n := s9.2.2.2.2.2.2.2.2.2.2.2.2.2.2.2.2.2.2.2.2.2.2.2.2.2.2.2.2.2.1
theorem RX.rK {x t : XS} (s9 : RX x t) : ∀ a b, a < b → b < 5 → x.1 13 (5 * a + b) = nI (ucR (t.1 20) (t.1 18) (fun k => (t.1 19 k).toNatClampNeg) (nI a) (nI b) (t.2 5)) := s9.2.2.2.2.2.2.2.2.2.2.2.2.2.2.2.2.2.2.2.2.2.2.2.2.2.2.2.2.2.2.1
theorem RX.pD {x t : XS} (s9 : RX x t) : ∀ c, c < 5 → lastV (x.1 21) (x.1 22) (x.1 23) (nI c) (nI (x.2 0)) 2 (x.2 4) = t.1 0 c := s9.2.2.2.2.2.2.2.2.2.2.2.2.2.2.2.2.2.2.2.2.2.2.2.2.2.2.2.2.2.2.2.1
theorem RX.pC {x t : XS} (s9 : RX x t) : ∀ c, c < 5 → lastV (x.1 24) (x.1 25) (x.1 26) (nI c) (nI (x.2 0)) 1 (x.2 5) = t.1 1 c := s9.2.2.2.2.2.2.2.2.2.2.2.2.2.2.2.2.2.2.2.2.2.2.2.2.2.2.2.2.2.2.2.2.1
theorem RX.pR {x t : XS} (s9 : RX x t) : ∀ c, c < 5 → (∃ d, d ≤ 9 ∧ t.1 0 c = nI d) ∧ ∃ d, d ≤ 9 ∧ t.1 1 c = nI d := s9.2.2.2.2.2.2.2.2.2.2.2.2.2.2.2.2.2.2.2.2.2.2.2.2.2.2.2.2.2.2.2.2.2.1
theorem RX.g13 {x t : XS} (s9 : RX x t) : ∀ k, vp_in (t.1 13 k) 5 := s9.2.2.2.2.2.2.2.2.2.2.2.2.2.2.2.2.2.2.2.2.2.2.2.2.2.2.2.2.2.2.2.2.2.2.1
theorem RX.g16 {x t : XS} (s9 : RX x t) : ∀ k, vp_in (t.1 16 k) 12 := s9.2.2.2.2.2.2.2.2.2.2.2.2.2.2.2.2.2.2.2.2.2.2.2.2.2.2.2.2.2.2.2.2.2.2.2.1
theorem RX.g17 {x t : XS} (s9 : RX x t) : ∀ k, vp_in (t.1 17 k) 12 := s9.2.2.2.2.2.2.2.2.2.2.2.2.2.2.2.2.2.2.2.2.2.2.2.2.2.2.2.2.2.2.2.2.2.2.2.2.1
theorem RX.g8 {x t : XS} (s9 : RX x t) : ∀ k, vp_in (t.1 8 k) 6 := s9.2.2.2.2.2.2.2.2.2.2.2.2.2.2.2.2.2.2.2.2.2.2.2.2.2.2.2.2.2.2.2.2.2.2.2.2.2.1
theorem RX.g20 {x t : XS} (s9 : RX x t) : ∀ k, vp_in (t.1 20 k) 5 := s9.2.2.2.2.2.2.2.2.2.2.2.2.2.2.2.2.2.2.2.2.2.2.2.2.2.2.2.2.2.2.2.2.2.2.2.2.2.2.1
theorem RX.g19 {x t : XS} (s9 : RX x t) : ∀ k, t.1 19 k = nI ((t.1 19 k).toNatClampNeg) ∧ (t.1 19 k).toNatClampNeg ≤ 4 := s9.2.2.2.2.2.2.2.2.2.2.2.2.2.2.2.2.2.2.2.2.2.2.2.2.2.2.2.2.2.2.2.2.2.2.2.2.2.2.2.1
theorem RX.gY {x t : XS} (s9 : RX x t) : ∀ n, n < 12 → t.1 11 n = 0 ∨ t.1 11 n = 1 := s9.2.2.2.2.2.2.2.2.2.2.2.2.2.2.2.2.2.2.2.2.2.2.2.2.2.2.2.2.2.2.2.2.2.2.2.2.2.2.2.2.1
theorem RX.gD {x t : XS} (s9 : RX x t) : ∀ n, n < 12 → ∃ d, x.1 2 n = nI d ∧ d ≤ 540 * x.2 0 := s9.2.2.2.2.2.2.2.2.2.2.2.2.2.2.2.2.2.2.2.2.2.2.2.2.2.2.2.2.2.2.2.2.2.2.2.2.2.2.2.2.2.1
theorem RX.gB {x t : XS} (s9 : RX x t) : ∀ n, n < 12 → ∃ b, b ≤ 5000 ∧ x.1 4 n = nI b := s9.2.2.2.2.2.2.2.2.2.2.2.2.2.2.2.2.2.2.2.2.2.2.2.2.2.2.2.2.2.2.2.2.2.2.2.2.2.2.2.2.2.2.1
theorem RX.w20 {x t : XS} (s9 : RX x t) : ∀ k, k < x.2 6 → ∀ i j, i < j → j ≤ (t.1 19 k).toNatClampNeg → ¬ t.1 20 (5 * k + i) = t.1 20 (5 * k + j) := s9.2.2.2.2.2.2.2.2.2.2.2.2.2.2.2.2.2.2.2.2.2.2.2.2.2.2.2.2.2.2.2.2.2.2.2.2.2.2.2.2.2.2.2.1
theorem RX.z {x t : XS} (s9 : RX x t) : ∀ k, x.2 6 ≤ k → k < 60 → x.1 31 k = 0 ∧ x.1 32 k = 0 ∧ t.1 21 k = 0 := s9.2.2.2.2.2.2.2.2.2.2.2.2.2.2.2.2.2.2.2.2.2.2.2.2.2.2.2.2.2.2.2.2.2.2.2.2.2.2.2.2.2.2.2.2.1
theorem RX.tl {x t : XS} (s9 : RX x t) : ∀ k j, k < x.2 6 → j < x.2 6 → ¬ j = k → t.1 18 k = 0 → t.1 18 j = 0 → ¬ t.1 16 k = t.1 16 j ∧ ¬ t.1 16 k = t.1 17 j ∧ ¬ t.1 17 k = t.1 16 j ∧ ¬ t.1 17 k = t.1 17 j := s9.2.2.2.2.2.2.2.2.2.2.2.2.2.2.2.2.2.2.2.2.2.2.2.2.2.2.2.2.2.2.2.2.2.2.2.2.2.2.2.2.2.2.2.2.2.1
theorem RX.ha {x t : XS} (s9 : RX x t) : HA x (x.2 0) := s9.2.2.2.2.2.2.2.2.2.2.2.2.2.2.2.2.2.2.2.2.2.2.2.2.2.2.2.2.2.2.2.2.2.2.2.2.2.2.2.2.2.2.2.2.2.2.1
theorem RX.tm {x t : XS} (s9 : RX x t) : TM x := s9.2.2.2.2.2.2.2.2.2.2.2.2.2.2.2.2.2.2.2.2.2.2.2.2.2.2.2.2.2.2.2.2.2.2.2.2.2.2.2.2.2.2.2.2.2.2.2.1
theorem RX.bk {x t : XS} (s9 : RX x t) : BK x := s9.2.2.2.2.2.2.2.2.2.2.2.2.2.2.2.2.2.2.2.2.2.2.2.2.2.2.2.2.2.2.2.2.2.2.2.2.2.2.2.2.2.2.2.2.2.2.2.2
theorem equ {N m : Nat} {f g : Nat → Int32} (h : ∀ n, n < N → f n = g n) {v w : Int32} (e : v = w) : ∀ n, n < N → upd f m v n = upd g m w n := fun n hn => by rw [upd_a, upd_a, e, h n hn]
theorem uall {N m : Nat} {f : Nat → Int32} {p : Int32 → Prop} (h : ∀ n, n < N → p (f n)) {v : Int32} (e : p v) : ∀ n, n < N → p (upd f m v n) := fun n hn => by
  rw [upd_a]
  by_cases hm : n = m
  · rw [if_pos hm]; exact e
  · rw [if_neg hm]; exact h n hn
theorem uall' {m : Nat} {f : Nat → Int32} {p : Int32 → Prop} (h : ∀ n, p (f n)) {v : Int32} (e : p v) : ∀ n, p (upd f m v n) := fun n => by
  rw [upd_a]
  by_cases hm : n = m
  · rw [if_pos hm]; exact e
  · rw [if_neg hm]; exact h n
theorem nN {c : Int32} (h : ¬ noN c) : ∃ n, n < 12 ∧ c = nI n := vp_in_of (inN h) (by decide)
theorem nC {c : Int32} (h : ¬ noC c) : ∃ n, n < 5 ∧ c = nI n := vp_in_of (inC h) (by decide)
theorem nP {c : Int32} (h : ¬ noP c) : ∃ n, n < 6 ∧ c = nI n := vp_in_of (inP h) (by decide)
theorem nW {v : Int32} {a b : Nat} (hb : b < 2 ^ 31) (ha : a < 2 ^ 31) (h : ¬ noW v (nI a) (nI b)) : ∃ n, a ≤ n ∧ n ≤ b ∧ v = nI n := by
  have h1 : ¬ v < nI a := fun z => h (Or.inl z)
  have h2 : ¬ nI b < v := fun z => h (Or.inr z)
  rw [Int32.lt_iff_toInt_lt, nI_toInt ha] at h1
  rw [Int32.lt_iff_toInt_lt, nI_toInt hb] at h2
  have h3 : vp_in v (b + 1) := vp_in_iff.mpr ⟨by omega, by omega⟩
  by_cases hb2 : b + 1 < 2 ^ 31
  · obtain ⟨n, hn, rfl⟩ := vp_in_of h3 hb2
    rw [nI_toInt (by omega)] at h1
    exact ⟨n, by omega, by omega, rfl⟩
  · have hv : ¬ v < 0 := by rw [Int32.lt_iff_toInt_lt, Int32.toInt_zero]; omega
    obtain ⟨n, hn, rfl⟩ := nI_of hv
    rw [nI_toInt hn] at h1 h2
    exact ⟨n, by omega, by omega, rfl⟩
/-- how an answer of the class is an answer of the reference: o the class's end, m the reference's, c its number of the exception, ka which number each exception has -/
def Ans (ka : Nat → Nat) (o m : AO) (c : Nat) : Prop := (∃ v, o = .inl (some (.int v)) ∧ m = .inl (some (.int v)) ∧ c = 0) ∨ ∃ e b, e < 3 ∧ o = .inr e ∧ m = .inl (some (.int b)) ∧ c = ka e ∧ 0 < c ∧ c < 4
/-- a call of the interface: the class's and the reference's -/
def Same (ka : Nat → Nat) (o : AO × XS) (m : AO × XS) : Prop := Ans ka o.1 m.1 (m.2.2 0) ∧ RX o.2 m.2
theorem RX.z0 {x t : XS} (h : RX x t) (n : Nat) : RX x (setC t 0 n) := ⟨h.cN, h.cL, h.cP, h.cS, h.cD, h.cC, h.rO, h.rD, h.rB, h.rY, h.rE, h.rP, h.rA, h.rL, h.rS, h.r14, h.r15, h.r16, h.r17, h.r27, h.r28, h.r31, h.r32, h.r34, h.r33, h.rT, h.rW, h.rC, h.rQ, h.rN, h.rK, h.pD, h.pC, h.pR, h.g13, h.g16, h.g17, h.g8, h.g20, h.g19, h.gY, h.gD, h.gB, h.w20, h.z, h.tl, h.ha, h.tm, h.bk⟩
theorem Same.no {ka : Nat → Nat} {x t : XS} (h : RX x t) {e c : Nat} (he : e < 3) (hc : c = ka e) (h0 : 0 < c) (h4 : c < 4) : Same ka (.inr e, x) (R1 t c) := ⟨Or.inr ⟨e, 0, he, rfl, rfl, hc, h0, h4⟩, h.z0 c⟩
theorem Same.yes {ka : Nat → Nat} {x t : XS} (h : RX x t) {v w : Int32} (hz : t.2 0 = 0) (e : v = w) : Same ka (R0 x v) (R0 t w) := ⟨Or.inl ⟨v, rfl, by rw [e]; rfl, hz⟩, h⟩
def ka (a b c : Nat) : Nat → Nat
  | 0 => a
  | 1 => b
  | _ => c

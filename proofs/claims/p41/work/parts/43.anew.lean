/-! ===== the sums anew, call by call ===== -/
def bN (q : XS) (k : Nat) : Nat := (q.1 29 k).toNatClampNeg
def eN (q : XS) (k : Nat) : Nat := if q.1 31 k = 0 then q.2 0 else (q.1 30 k).toNatClampNeg
/-- the calls' seconds are in order -/
def TM (q : XS) : Prop := q.2 6 ≤ 60 ∧ ∀ k, k < q.2 6 → q.1 29 k = nI (bN q k) ∧ (¬ q.1 31 k = 0 → q.1 30 k = nI (eN q k)) ∧ bN q k ≤ eN q k ∧ eN q k ≤ q.2 0
def AN (q : XS) (k : Nat) (car per : Int32) : Int32 := sI (Fn q (q.1 27 k) car per) (bN q k) (eN q k - bN q k)
theorem cend_n {q : XS} (T : TM q) {k : Nat} (hk : k < q.2 6) : cend q (nI k) (nI (q.2 0)) = nI (eN q k) := by
  have h6 := T.1
  have h := (T.2 k hk).2.1
  unfold cend eN at *
  rw [xg_n (show k < 60 by omega), xg_n (show k < 60 by omega)]
  by_cases h0 : q.1 31 k = 0
  · rw [if_pos h0, if_pos h0]
  · rw [if_neg h0, if_neg h0]
    have := h h0
    rw [if_neg h0] at this
    exact this
theorem xanew_AN {q : XS} (H : HA q (q.2 0)) (T : TM q) {k : Nat} (hk : k < q.2 6) (car per : Int32) : xanew q (nI k) car per = AN q k car per := by
  have h6 := T.1
  obtain ⟨t1, t2, t3, t4⟩ := T.2 k hk
  have hT := H.h0.top
  exact xanew_n H (xg_n (show k < 60 by omega)) (cend_n T hk) ((xg_n (show k < 60 by omega)).trans t1) t3 (by omega)
def DA (q : XS) (n : Int32) : Int32 := sI (fun k => if q.1 27 k = n then AN q k (-1) (-1) else 0) 0 (q.2 6)
def EA (q : XS) (c : Int32) : Int32 := sI (fun k => AN q k c (-1)) 0 (q.2 6)
def SA (q : XS) (p : Int32) : Int32 := sI (fun k => AN q k (-1) p) 0 (q.2 6)
theorem daF_n {q : XS} (H : HA q (q.2 0)) (T : TM q) (n : Int32) : ∀ k, k ≤ q.2 6 → daF q n k = sI (fun k => if q.1 27 k = n then AN q k (-1) (-1) else 0) 0 k
  | 0, _ => rfl
  | k + 1, hk => by
    have h6 := T.1
    rw [daF, sI, daF_n H T n k (by omega), xanew_AN H T (by omega), xg_n (show k < 60 by omega), Nat.zero_add]
    by_cases h : q.1 27 k = n
    · rw [if_pos h, if_pos h]
    · rw [if_neg h, if_neg h]; exact (Int32.add_zero _).symm
theorem eaF_n {q : XS} (H : HA q (q.2 0)) (T : TM q) (c : Int32) : ∀ k, k ≤ q.2 6 → eaF q c k = sI (fun k => AN q k c (-1)) 0 k
  | 0, _ => rfl
  | k + 1, hk => by rw [eaF, sI, eaF_n H T c k (by omega), xanew_AN H T (by omega), Nat.zero_add]
theorem saF_n {q : XS} (H : HA q (q.2 0)) (T : TM q) (c : Int32) : ∀ k, k ≤ q.2 6 → saF q c k = sI (fun k => AN q k (-1) c) 0 k
  | 0, _ => rfl
  | k + 1, hk => by rw [saF, sI, saF_n H T c k (by omega), xanew_AN H T (by omega), Nat.zero_add]
/-- the calls of q are as they were in p, as far as their charges go -/
abbrev CE (q p : XS) : Prop := (SE q p (q.2 0)) ∧ (∀ k, k < q.2 6 → p.1 27 k = q.1 27 k ∧ bN p k = bN q k ∧ eN p k = eN q k)
theorem CE.se {q p : XS} (s9 : CE q p) : SE q p (q.2 0) := s9.1
theorem CE.num {q p : XS} (s9 : CE q p) : ∀ k, k < q.2 6 → p.1 27 k = q.1 27 k ∧ bN p k = bN q k ∧ eN p k = eN q k := s9.2
theorem CE.an {q p : XS} (E : CE q p) (T : TM q) {k : Nat} (hk : k < q.2 6) (car per : Int32) : AN p k car per = AN q k car per := by
  obtain ⟨e1, e2, e3⟩ := E.num k hk
  obtain ⟨-, -, t3, t4⟩ := T.2 k hk
  unfold AN
  rw [e1, e2, e3]
  exact sI_congr (fun i hi => E.se.fn (by omega))
theorem CE.da {q p : XS} (E : CE q p) (T : TM q) (h6 : p.2 6 = q.2 6) (n : Int32) : DA p n = DA q n := by
  unfold DA
  rw [h6]
  refine sI_congr (fun i hi => ?_)
  rw [E.an T (by omega), (E.num (0 + i) (by omega)).1]
theorem CE.ea {q p : XS} (E : CE q p) (T : TM q) (h6 : p.2 6 = q.2 6) (n : Int32) : EA p n = EA q n := by
  unfold EA
  rw [h6]
  exact sI_congr (fun i hi => E.an T (by omega) _ _)
theorem CE.sa {q p : XS} (E : CE q p) (T : TM q) (h6 : p.2 6 = q.2 6) (n : Int32) : SA p n = SA q n := by
  unfold SA
  rw [h6]
  exact sI_congr (fun i hi => E.an T (by omega) _ _)
/-- what the books are anew -/
abbrev BK (q : XS) : Prop := (∀ k, k < q.2 6 → q.1 32 k = AN q k (-1) (-1)) ∧ (∀ n, n < 12 → q.1 2 n = DA q (nI n) - q.1 3 n) ∧ (∀ c, c < 5 → q.1 9 c = EA q (nI c)) ∧ (∀ p, p < 6 → q.1 11 p = SA q (nI p))
theorem BK.ch {q : XS} (s9 : BK q) : ∀ k, k < q.2 6 → q.1 32 k = AN q k (-1) (-1) := s9.1
theorem BK.db {q : XS} (s9 : BK q) : ∀ n, n < 12 → q.1 2 n = DA q (nI n) - q.1 3 n := s9.2.1
theorem BK.ea {q : XS} (s9 : BK q) : ∀ c, c < 5 → q.1 9 c = EA q (nI c) := s9.2.2.1
theorem BK.sp {q : XS} (s9 : BK q) : ∀ p, p < 6 → q.1 11 p = SA q (nI p) := s9.2.2.2
/-- the books stay right where only debts and payments change, by as much -/
theorem BK.keep {q p : XS} (B : BK q) (E : CE q p) (T : TM q) (h6 : p.2 6 = q.2 6) (e32 : p.1 32 = q.1 32) (e9 : p.1 9 = q.1 9) (e11 : p.1 11 = q.1 11) (e2 : ∀ n, n < 12 → p.1 2 n + p.1 3 n = q.1 2 n + q.1 3 n) : BK p := by
  refine ⟨fun k hk => ?_, fun n hn => ?_, fun c hc => ?_, fun c hc => ?_⟩
  · rw [h6] at hk; rw [e32, E.an T hk]; exact B.ch k hk
  · have h1 := B.db n hn
    have h2 := e2 n hn
    rw [E.da T h6]
    grind
  · rw [e9, E.ea T h6]; exact B.ea c hc
  · rw [e11, E.sa T h6]; exact B.sp c hc
/-- a call more, of no second yet -/
theorem BK.more {q p : XS} (B : BK q) (E : CE q p) (T : TM q) (h6 : p.2 6 = q.2 6 + 1) (e32 : ∀ k, k < q.2 6 → p.1 32 k = q.1 32 k) (e32n : p.1 32 (q.2 6) = 0) (en : eN p (q.2 6) = bN p (q.2 6)) (e9 : p.1 9 = q.1 9) (e11 : p.1 11 = q.1 11) (e2 : p.1 2 = q.1 2) (e3 : p.1 3 = q.1 3) : BK p := by
  have an0 : ∀ car per, AN p (q.2 6) car per = 0 := fun car per => by unfold AN; rw [en, Nat.sub_self]; rfl
  refine ⟨fun k hk => ?_, fun n hn => ?_, fun c hc => ?_, fun c hc => ?_⟩
  · by_cases h : k = q.2 6
    · subst h; rw [e32n, an0]
    · rw [e32 k (by omega), E.an T (by omega)]; exact B.ch k (by omega)
  · rw [e2, e3, B.db n hn]
    have : DA p (nI n) = DA q (nI n) := by
      unfold DA
      rw [h6, sI, Nat.zero_add, an0, ite_self, Int32.add_zero]
      refine sI_congr (fun i hi => ?_)
      rw [E.an T (by omega), (E.num (0 + i) (by omega)).1]
    rw [this]
  · rw [e9, B.ea c hc]
    unfold EA
    rw [h6, sI, Nat.zero_add, an0, Int32.add_zero]
    exact (sI_congr (fun i hi => E.an T (by omega) _ _)).symm
  · rw [e11, B.sp c hc]
    unfold SA
    rw [h6, sI, Nat.zero_add, an0, Int32.add_zero]
    exact (sI_congr (fun i hi => E.an T (by omega) _ _)).symm

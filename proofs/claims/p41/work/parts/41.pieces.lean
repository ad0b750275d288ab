/-! ===== charges by pieces are charges by seconds ===== -/
abbrev dearN (t : Nat) : Prop := 480 ≤ t % 1440 ∧ t % 1440 < 1200
def dB (t : Nat) : Nat := t / 1440 * 720 + min (t % 1440 - 480) 720
theorem dB_s (t : Nat) : dB (t + 1) = dB t + if dearN t then 1 else 0 := by
  by_cases h : dearN t
  · rw [if_pos h]; unfold dearN at h; unfold dB; omega
  · rw [if_neg h]; unfold dearN at h; unfold dB; omega
theorem dearB_n {t : Nat} (ht : t < 2 ^ 30) : dearB (nI t) = nI (dB t) := by
  unfold dearB
  have e1 : nI t - nI t / 1440 * 1440 = nI (t % 1440) := pk_rem (d := 1440) (by omega) (by decide) (by decide)
  have e2 : nI t / 1440 = nI (t / 1440) := pk_div (d := 1440) (by omega) (by decide) (by decide)
  rw [e1, e2]
  have e3 : mx (nI (t % 1440) - 480) 0 = nI (t % 1440 - 480) := by
    unfold mx
    by_cases h : t % 1440 < 480
    · have hs : nI (t % 1440) - 480 < 0 := pk_sneg (b := 480) (by decide) h
      rw [if_pos hs, show t % 1440 - 480 = 0 by omega]; rfl
    · rw [show nI (t % 1440) - 480 = nI (t % 1440 - 480) from pk_sub (b := 480) (by omega), if_neg (nI_pos (by omega))]
  rw [e3, show (720 : Int32) = nI 720 from rfl, mn_n (by omega) (by decide), pk_mul, nI_add]
  rfl
theorem xcharge_n {q : XS} {c D C : Int32} {a : Nat} (hD : hval q 2 c (nI a) 2 = D) (hC : hval q 3 c (nI a) 1 = C) : ∀ n, a + n < 2 ^ 30 → xcharge q c (nI a) (nI (a + n)) = sI (fun t => if dearN t then D else C) a n
  | 0, h => by
    unfold xcharge
    rw [hD, hC, Nat.add_zero]
    show _ = (0 : Int32)
    grind
  | n + 1, h => by
    have ih := xcharge_n hD hC n (by omega)
    unfold xcharge at ih ⊢
    rw [hD, hC, dearB_n (by omega), dearB_n (by omega)] at ih
    rw [hD, hC, dearB_n (by omega), dearB_n (by omega), sI, ← ih, show a + (n + 1) = a + n + 1 from rfl, dB_s, nI_succ (a + n)]
    by_cases h1 : dearN (a + n)
    · rw [if_pos h1, if_pos h1, nI_succ]; grind
    · rw [if_neg h1, if_neg h1, Nat.add_zero]; grind
/-- the price of a number's second, and what of it counts for a carrier and a person -/
def Pn (q : XS) (n : Int32) (t : Nat) : Int32 := if dearN t then hval q 2 (placeAt q n (nI t)) (nI t) 2 else hval q 3 (placeAt q n (nI t)) (nI t) 1
def Fn (q : XS) (n car per : Int32) (t : Nat) : Int32 := if caT q n car per (nI t) then Pn q n t else 0
abbrev HA (q : XS) (now : Nat) : Prop := (HI q 0 now) ∧ (HI q 1 now) ∧ (HI q 2 now) ∧ (q.2 5 = q.2 4) ∧ (∀ i, i < 60 → q.1 24 i = q.1 21 i ∧ q.1 25 i = q.1 22 i)
theorem HA.h0 {q : XS} {now : Nat} (s9 : HA q now) : HI q 0 now := s9.1
theorem HA.h1 {q : XS} {now : Nat} (s9 : HA q now) : HI q 1 now := s9.2.1
theorem HA.h2 {q : XS} {now : Nat} (s9 : HA q now) : HI q 2 now := s9.2.2.1
theorem HA.c {q : XS} {now : Nat} (s9 : HA q now) : q.2 5 = q.2 4 := s9.2.2.2.1
theorem HA.r {q : XS} {now : Nat} (s9 : HA q now) : ∀ i, i < 60 → q.1 24 i = q.1 21 i ∧ q.1 25 i = q.1 22 i := s9.2.2.2.2
theorem HA.h3 {q : XS} {now : Nat} (H : HA q now) : HI q 3 now := by
  have hc := H.h2.cnt
  have ec : q.2 (2 + 3) = q.2 (2 + 2) := H.c
  have er : ∀ i, i < 60 → hst q 3 i = hst q 2 i := fun i hi => by
    show (q.1 25 i).toNatClampNeg = (q.1 22 i).toNatClampNeg
    rw [(H.r i hi).2]
  refine ⟨by decide, by rw [ec]; exact hc, H.h2.top, fun i hi => ?_, fun i j h1 h2 => ?_⟩
  · rw [ec] at hi
    rw [er i (by omega)]
    exact ⟨((H.r i (by omega)).2).trans (H.h2.lo i hi).1, (H.h2.lo i hi).2⟩
  · rw [ec] at h2
    rw [er i (by omega), er j (by omega)]
    exact H.h2.mono i j h1 h2
def mu (q : XS) (f : Nat) : Nat := cg (hst q 0) f (q.2 2) + cg (hst q 1) f (q.2 3) + cg (hst q 2) f (q.2 4)
theorem caU_spec {q : XS} {now : Nat} (H : HA q now) (num : Int32) {f e : Nat} (hf : f ≤ 20000) (he : e ≤ 20000) : ∃ r, caU q num (nI e) (nI f) = nI r ∧ r ≤ e ∧ (f < e → f < r) ∧ (∀ t, f ≤ t → t < r → placeAt q num (nI t) = placeAt q num (nI f) ∧ (∀ x, hval q 1 num (nI t) x = hval q 1 num (nI f) x) ∧ (∀ x, hval q 2 (placeAt q num (nI f)) (nI t) x = hval q 2 (placeAt q num (nI f)) (nI f) x) ∧ (∀ x, hval q 3 (placeAt q num (nI f)) (nI t) x = hval q 3 (placeAt q num (nI f)) (nI f) x)) ∧ (r = e ∨ mu q r + 1 ≤ mu q f) := by
  obtain ⟨r0, a1, a2, a3, a4, a5⟩ := hnext_spec H.h0 (key := num) hf he
  obtain ⟨r1, b1, b2, b3, b4, b5⟩ := hnext_spec H.h1 (key := num) hf (e := r0) (by omega)
  obtain ⟨r2, c1, c2, c3, c4, c5⟩ := hnext_spec H.h2 (key := placeAt q num (nI f)) hf (e := r1) (by omega)
  refine ⟨r2, ?_, by omega, fun h => c3 (b3 (a3 h)), fun t h1 h2 => ⟨?_, fun x => ?_, fun x => ?_, fun x => ?_⟩, ?_⟩
  · unfold caU; rw [a1, b1, c1]
  · exact hval_same H.h0 h1 (by omega) (fun i hi hk => (a4 i hi hk).imp id (fun z => by clear a5 b5 c5 a3 b3 c3; omega))
  · exact hval_same H.h1 h1 (by omega) (fun i hi hk => (b4 i hi hk).imp id (fun z => by clear a5 b5 c5 a3 b3 c3; omega))
  · exact hval_same H.h2 h1 (by omega) (fun i hi hk => (c4 i hi hk).imp id (fun z => by clear a5 b5 c5 a3 b3 c3; omega))
  · refine hval_same H.h3 h1 (by omega) (fun i hi hk => ?_)
    have hc := H.h2.cnt
    have hi2 : i < q.2 (2 + 2) := by have : q.2 (2 + 3) = q.2 (2 + 2) := H.c; omega
    have er : hst q 3 i = hst q 2 i := by
      show (q.1 25 i).toNatClampNeg = (q.1 22 i).toNatClampNeg
      rw [(H.r i (by omega)).2]
    rw [er]
    exact (c4 i hi2 (((H.r i (by omega)).1).symm.trans hk)).imp id (fun z => by clear a5 b5 c5 a3 b3 c3; omega)
  · have m0 : ∀ g, f ≤ g → cg (hst q 0) g (q.2 2) ≤ cg (hst q 0) f (q.2 2) := fun g hg => cg_anti _ hg _
    have m1 : ∀ g, f ≤ g → cg (hst q 1) g (q.2 3) ≤ cg (hst q 1) f (q.2 3) := fun g hg => cg_anti _ hg _
    have m2 : ∀ g, f ≤ g → cg (hst q 2) g (q.2 4) ≤ cg (hst q 2) f (q.2 4) := fun g hg => cg_anti _ hg _
    rcases c5 with h | ⟨i, h1, h2, h3⟩
    · rcases b5 with g | ⟨i, h1, h2, h3⟩
      · rcases a5 with g2 | ⟨i, h1, h2, h3⟩
        · left; omega
        · right
          have e2 : r2 = r0 := by omega
          have := cg_less (hst q 0) h3 h2.symm _ h1
          have := m1 r0 (by omega)
          have := m2 r0 (by omega)
          unfold mu; rw [e2]; simp only [Nat.reduceAdd] at *; omega
      · right
        have := cg_less (hst q 1) h3 h2.symm _ h1
        have := m0 r1 (by omega)
        have := m2 r1 (by omega)
        unfold mu; rw [h]; simp only [Nat.reduceAdd] at *; omega
    · right
      have := cg_less (hst q 2) h3 h2.symm _ h1
      have := m0 r2 (by omega)
      have := m1 r2 (by omega)
      unfold mu; simp only [Nat.reduceAdd] at *; omega
theorem caF_end (q : XS) (num car per : Int32) (e : Nat) (s : Int32) : ∀ k, caF q num (nI e) car per k (nI e) s = s
  | 0 => rfl
  | k + 1 => by rw [caF, if_pos (Int32.le_refl _)]
theorem caF_n {q : XS} {now : Nat} (H : HA q now) (num car per : Int32) {e : Nat} (he : e ≤ 20000) : ∀ (k f : Nat) (s : Int32), f ≤ e → mu q f + 1 ≤ k → caF q num (nI e) car per k (nI f) s = s + sI (Fn q num car per) f (e - f)
  | 0, f, s, _, h => absurd h (by omega)
  | k + 1, f, s, hf, hm => by
    by_cases hfe : f = e
    · subst hfe
      rw [caF_end, Nat.sub_self]
      exact (Int32.add_zero s).symm
    · obtain ⟨r, h1, h2, h3, h4, h5⟩ := caU_spec H num (f := f) (e := e) (by omega) he
      have hfr := h3 (by omega)
      rw [caF, if_neg (nI_ge (by omega) (by omega)), h1]
      have hp : (if caT q num car per (nI f) then s + xcharge q (placeAt q num (nI f)) (nI f) (nI r) else s) = s + sI (Fn q num car per) f (r - f) := by
        have hx := xcharge_n (q := q) (c := placeAt q num (nI f)) (a := f) rfl rfl (r - f) (by omega)
        rw [show f + (r - f) = r by omega] at hx
        have hT : ∀ i, i < r - f → (caT q num car per (nI (f + i)) ↔ caT q num car per (nI f)) := fun i hi => by
          obtain ⟨p1, p2, -, -⟩ := h4 (f + i) (by omega) (by omega)
          unfold caT
          rw [p1, p2]
        by_cases hc : caT q num car per (nI f)
        · rw [if_pos hc, hx]
          refine congrArg (s + ·) (sI_congr (fun i hi => ?_))
          obtain ⟨p1, -, p3, p4⟩ := h4 (f + i) (by omega) (by omega)
          unfold Fn Pn
          rw [if_pos ((hT i hi).mpr hc), p1, p3, p4]
        · rw [if_neg hc, sI_zero (fun i hi => if_neg (fun z => hc ((hT i hi).mp z)))]
          exact (Int32.add_zero s).symm
      rw [hp]
      by_cases hre : r = e
      · subst hre
        rw [caF_end]
      · rw [caF_n H num car per he k r _ h2 (by omega), show e - f = (r - f) + (e - r) by omega, sI_add, show f + (r - f) = r by omega, Int32.add_assoc]
theorem xanew_n {q : XS} {now : Nat} (H : HA q now) {c num car per : Int32} {b e : Nat} (h1 : xg q 27 c = num) (h2 : cend q c (nI (q.2 0)) = nI e) (h3 : xg q 29 c = nI b) (hbe : b ≤ e) (he : e ≤ 20000) : xanew q c car per = sI (Fn q num car per) b (e - b) := by
  unfold xanew
  have c0 := H.h0.cnt
  have c1 := H.h1.cnt
  have c2 := H.h2.cnt
  have m0 := cg_le (hst q 0) b (q.2 2)
  have m1 := cg_le (hst q 1) b (q.2 3)
  have m2 := cg_le (hst q 2) b (q.2 4)
  simp only [Nat.reduceAdd] at c0 c1 c2
  rw [h1, h2, h3, caF_n H num car per he 181 b 0 hbe (by unfold mu; omega)]
  exact Int32.zero_add _

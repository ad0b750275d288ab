theorem par_par {st v w f : Nat → Int32} {n : Nat} : par st w (par st v f n) n = par st (fun k => v k + w k) f n := by
  funext k
  unfold par
  by_cases h : k < n ∧ st k = 0
  · rw [if_pos h, if_pos h, if_pos h, Int32.add_assoc]
  · rw [if_neg h, if_neg h, if_neg h]
theorem acc_z {st : Nat → Int32} {key : Nat → Nat} {P : Nat → Nat → Int32} {a n m : Nat} (f : Nat → Int32) : (fun j => f j + sI (fun s => acc st key (P s) n j) a m + acc st key (P (a + m)) n j) = fun j => f j + sI (fun s => acc st key (P s) n j) a (m + 1) := by
  funext j
  rw [sI, Int32.add_assoc]
theorem outF_n {x t : XS} (h : RX x t) : ∀ n, x.2 0 + n ≤ 20000 → outF t n = (W5 t (fun j => t.1 9 j + sI (fun s => acc (t.1 18) (cn x) (PT x t s) (x.2 6) j) (x.2 0) n) (fun j => t.1 7 j + sI (fun s => acc (t.1 18) (ow x) (PT x t s) (x.2 6) j) (x.2 0) n) (fun j => t.1 5 j + sI (fun s => acc (t.1 18) (cr x) (PT x t s) (x.2 6) j) (x.2 0) n) (par (t.1 18) (fun k => sI (fun s => PT x t s k) (x.2 0) n) (t.1 22) (x.2 6)) (par (t.1 18) (fun _ => nI n) (t.1 21) (x.2 6)) (x.2 0 + n), sI (fun s => sI (fun k => if t.1 18 k = 0 then PT x t s k else 0) 0 (x.2 6)) (x.2 0) n) := by
  intro n
  induction n with
  | zero =>
    intro _
    have e0 : ∀ f : Nat → Int32, (fun j => f j + (0 : Int32)) = f := fun f => funext fun j => Int32.add_zero _
    have e1 : ∀ f : Nat → Int32, par (t.1 18) (fun _ => 0) f (x.2 6) = f := fun f => funext fun k => by
      unfold par; split
      · exact Int32.add_zero _
      · rfl
    show (t, (0 : Int32)) = _
    rw [Nat.add_zero, h.cN]
    refine Prod.ext ?_ rfl
    show t = W5 t (fun j => t.1 9 j + (0 : Int32)) (fun j => t.1 7 j + (0 : Int32)) (fun j => t.1 5 j + (0 : Int32)) (par (t.1 18) (fun _ => (0 : Int32)) (t.1 22) (x.2 6)) (par (t.1 18) (fun _ => nI 0) (t.1 21) (x.2 6)) (t.2 1)
    rw [nI_0, e0, e0, e0, e1, e1, W5_0]
  | succ n ih =>
    intro hn
    have ih := ih (by omega)
    rw [outF, ih]
    dsimp only
    have e5 : (W5 t (fun j => t.1 9 j + sI (fun s => acc (t.1 18) (cn x) (PT x t s) (x.2 6) j) (x.2 0) n) (fun j => t.1 7 j + sI (fun s => acc (t.1 18) (ow x) (PT x t s) (x.2 6) j) (x.2 0) n) (fun j => t.1 5 j + sI (fun s => acc (t.1 18) (cr x) (PT x t s) (x.2 6) j) (x.2 0) n) (par (t.1 18) (fun k => sI (fun s => PT x t s k) (x.2 0) n) (t.1 22) (x.2 6)) (par (t.1 18) (fun _ => nI n) (t.1 21) (x.2 6)) (x.2 0 + n)).2 5 = x.2 6 := h.cC.symm
    rw [e5, inF_n2 h (by omega) _ _ _ _ _ _ _ (Nat.le_refl _)]
    dsimp only
    have e1 : (fun _ : Nat => nI n + 1) = fun _ => nI (n + 1) := funext fun _ => nI_1 n
    rw [W5_c, acc_z, acc_z, acc_z, par_par, par_par, e1]
    rfl
theorem acc_sum {st : Nat → Int32} {key : Nat → Nat} {P : Nat → Nat → Int32} {a n m j : Nat} : sI (fun s => acc st key (P s) n j) a m = acc st key (fun k => sI (fun s => P s k) a m) n j := by
  unfold acc
  rw [sI_comm]
  exact sI_congr (fun i _ => sI_if _ _ _)
theorem acc_e {st st2 : Nat → Int32} {key : Nat → Nat} {v w : Nat → Int32} {n j : Nat} (h : ∀ k, k < n → st k = st2 k ∧ v k = w k) : acc st key v n j = acc st2 key w n j := sI_congr (fun i hi => by
  obtain ⟨a, b⟩ := h (0 + i) (by omega)
  rw [a, b])
theorem sI_b {f : Nat → Int32} {a B : Nat} : ∀ {n : Nat}, (∀ i, i < n → ∃ d, d ≤ B ∧ f (a + i) = nI d) → ∃ e, e ≤ B * n ∧ sI f a n = nI e
  | 0, _ => ⟨0, Nat.zero_le _, rfl⟩
  | n + 1, h => by
    obtain ⟨e1, h1, h2⟩ := sI_b (fun i hi => h i (by omega)) (n := n)
    obtain ⟨d, h3, h4⟩ := h n (by omega)
    exact ⟨e1 + d, by rw [Nat.mul_succ]; omega, by rw [sI, h2, h4, nI_add]⟩
theorem cv_n {x t : XS} (h : RX x t) {m k : Nat} (hk : k < x.2 6) (hm : x.2 0 + m ≤ 20000) : cvX x (x.2 0 + m) k = sI (fun s => PT x t s k) (x.2 0) m := by
  have c := (h.cr hk).1
  unfold cvX
  exact xcharge_n ((hval_last (by decide) h.d60).trans (h.pD _ c)) ((hval_last (by decide) h.ha.h3.cnt).trans (h.pC _ c)) m (by omega)
theorem late_1 {x t : XS} (h : RX x t) {n s : Nat} (hn : n < 12) (h1 : x.2 0 ≤ s) (h2 : s ≤ 20000) : hval x 1 (nI n) (nI s) (nI n - nI n / 6 * 6) = x.1 1 n :=
  (hval_same h.ha.h1 h1 h2 (fun i hi _ => Or.inl (h.ha.h1.lo i hi).2)).trans ((hval_last (by decide) h.s60).trans (h.rQ n hn).symm)
theorem late_2 {x t : XS} (h : RX x t) {c s : Nat} (hc : c < 5) (h1 : x.2 0 ≤ s) (h2 : s ≤ 20000) : hval x 2 (nI c) (nI s) 2 = t.1 0 c :=
  (hval_same h.ha.h2 h1 h2 (fun i hi _ => Or.inl (h.ha.h2.lo i hi).2)).trans ((hval_last (by decide) h.d60).trans (h.pD c hc))
theorem late_3 {x t : XS} (h : RX x t) {c s : Nat} (hc : c < 5) (h1 : x.2 0 ≤ s) (h2 : s ≤ 20000) : hval x 3 (nI c) (nI s) 1 = t.1 1 c :=
  (hval_same h.ha.h3 h1 h2 (fun i hi _ => Or.inl (h.ha.h3.lo i hi).2)).trans ((hval_last (by decide) h.ha.h3.cnt).trans (h.pC c hc))
theorem Pn_late {x t : XS} (h : RX x t) {k s : Nat} (hk : k < x.2 6) (h1 : x.2 0 ≤ s) (h2 : s ≤ 20000) : Pn x (x.1 27 k) s = PT x t s k := by
  obtain ⟨a1, a2⟩ := h.cn hk
  obtain ⟨b1, b2⟩ := h.cr hk
  unfold Pn PT
  rw [a2, place_late h a1 h1 h2, b2, late_2 h b1 h1 h2, late_3 h b1 h1 h2]
theorem Fn_late {x t : XS} (h : RX x t) {k s : Nat} (hk : k < x.2 6) (h1 : x.2 0 ≤ s) (h2 : s ≤ 20000) (car per : Int32) : Fn x (x.1 27 k) car per s = if (car = -1 ∨ car = nI (cr x k)) ∧ (per = -1 ∨ per = nI (ow x k)) then PT x t s k else 0 := by
  obtain ⟨a1, a2⟩ := h.cn hk
  obtain ⟨b1, b2⟩ := h.cr hk
  obtain ⟨c1, c2⟩ := h.ow hk
  unfold Fn
  rw [Pn_late h hk h1 h2]
  have e1 : caT x (x.1 27 k) car per (nI s) ↔ (car = -1 ∨ car = nI (cr x k)) ∧ (per = -1 ∨ per = nI (ow x k)) := by
    unfold caT
    rw [a2, place_late h a1 h1 h2, b2, late_1 h a1 h1 h2, c2]
  by_cases hc : (car = -1 ∨ car = nI (cr x k)) ∧ (per = -1 ∨ per = nI (ow x k))
  · rw [if_pos hc, if_pos (e1.mpr hc)]
  · rw [if_neg hc, if_neg (fun z => hc (e1.mp z))]
theorem HE.fn {q p : XS} (H : HE q p) {now : Nat} (I : HA q now) (n car per : Int32) (t : Nat) : Fn p n car per t = Fn q n car per t := by
  have e0 : placeAt p n (nI t) = placeAt q n (nI t) := H.val (by decide) I.h0.cnt
  unfold Fn Pn caT
  rw [e0, H.val (by decide) I.h1.cnt, H.val (by decide) I.h2.cnt, H.val (by decide) I.h3.cnt]
/-- the charges anew, some seconds later -/
theorem AN_later {x t p : XS} (h : RX x t) (he : HE x p) {m k : Nat} (e27 : p.1 27 = x.1 27) (e29 : p.1 29 = x.1 29) (e30 : p.1 30 = x.1 30) (e31 : p.1 31 = x.1 31) (eN0 : p.2 0 = x.2 0 + m) (hm : x.2 0 + m ≤ 20000) (hk : k < x.2 6) (car per : Int32) :
    AN p k car per = AN x k car per + if x.1 31 k = 0 ∧ (car = -1 ∨ car = nI (cr x k)) ∧ (per = -1 ∨ per = nI (ow x k)) then cvX x (x.2 0 + m) k else 0 := by
  obtain ⟨t1, t2, t3, t4⟩ := h.tm.2 k hk
  have eb : bN p k = bN x k := by unfold bN; rw [e29]
  unfold AN
  rw [e27, eb, sI_congr (g := Fn x (x.1 27 k) car per) (fun i _ => he.fn h.ha _ _ _ _)]
  by_cases h0 : x.1 31 k = 0
  · have ee : eN p k = x.2 0 + m := by unfold eN; rw [e31, if_pos h0, eN0]
    have ex : eN x k = x.2 0 := by unfold eN; rw [if_pos h0]
    rw [ex] at t3
    rw [ee, ex, show x.2 0 + m - bN x k = (x.2 0 - bN x k) + m by omega, sI_add, show bN x k + (x.2 0 - bN x k) = x.2 0 by omega]
    refine congrArg (_ + ·) ?_
    rw [sI_congr (n := m) (a := x.2 0) (f := Fn x (x.1 27 k) car per) (g := fun s => if (car = -1 ∨ car = nI (cr x k)) ∧ (per = -1 ∨ per = nI (ow x k)) then PT x t s k else 0) (fun i hi => Fn_late h hk (s := x.2 0 + i) (by omega) (by omega) car per)]
    by_cases hc : (car = -1 ∨ car = nI (cr x k)) ∧ (per = -1 ∨ per = nI (ow x k))
    · rw [if_pos ⟨h0, hc⟩, cv_n h hk hm]
      exact sI_congr (fun i _ => if_pos hc)
    · rw [if_neg (fun z => hc z.2)]
      exact sI_zero (fun i _ => if_neg hc)
  · have ee : eN p k = eN x k := by unfold eN; rw [e31, if_neg h0, if_neg h0, e30]
    rw [ee, if_neg (fun z => h0 z.1), Int32.add_zero]
theorem nIm1 {n : Nat} (h : n < 2 ^ 31) : ¬ nI n = -1 := fun z => by
  have := congrArg Int32.toInt z
  rw [nI_toInt h] at this
  have h2 : ((-1 : Int32)).toInt = -1 := rfl
  omega

def lateX (x : XS) (m : Nat) : XS := setC (rows4 x (par (x.1 31) (cvX x (x.2 0 + m)) (x.1 32) (x.2 6)) (fun j => x.1 2 j + acc (x.1 31) (cn x) (cvX x (x.2 0 + m)) (x.2 6) j) (fun j => x.1 9 j + acc (x.1 31) (cr x) (cvX x (x.2 0 + m)) (x.2 6) j) (fun j => x.1 11 j + acc (x.1 31) (ow x) (cvX x (x.2 0 + m)) (x.2 6) j)) 0 (x.2 0 + m)
theorem lateX_he (x : XS) (m : Nat) : HE x (lateX x m) := HE.of (fun k h1 h2 => by
  unfold lateX rows4
  show x.1 k = if k = 32 then _ else if k = 2 then _ else if k = 9 then _ else if k = 11 then _ else x.1 k
  rw [if_neg (by omega), if_neg (by omega), if_neg (by omega), if_neg (by omega)]) (fun k h1 h2 => (if_neg (by omega)).symm)
theorem late_bk {x t : XS} (h : RX x t) {m : Nat} (hm : x.2 0 + m ≤ 20000) : BK (lateX x m) := by
  have he : HE x (lateX x m) := lateX_he x m
  have an := fun k (hk : k < x.2 6) (car per : Int32) => AN_later h he (p := lateX x m) (m := m) rfl rfl rfl rfl rfl hm hk car per
  refine ⟨fun k hk => ?_, fun n hn => ?_, fun c hc => ?_, fun c hc => ?_⟩
  · have hk2 : k < x.2 6 := hk
    show par (x.1 31) (cvX x (x.2 0 + m)) (x.1 32) (x.2 6) k = _
    rw [an k hk2, ← h.bk.ch k hk2]
    unfold par
    by_cases h0 : x.1 31 k = 0
    · rw [if_pos ⟨hk2, h0⟩, if_pos ⟨h0, Or.inl rfl, Or.inl rfl⟩]
    · rw [if_neg (fun z => h0 z.2), if_neg (fun z => h0 z.1), Int32.add_zero]
  · show x.1 2 n + acc (x.1 31) (cn x) (cvX x (x.2 0 + m)) (x.2 6) n = DA (lateX x m) (nI n) - x.1 3 n
    have e1 : DA (lateX x m) (nI n) = DA x (nI n) + acc (x.1 31) (cn x) (cvX x (x.2 0 + m)) (x.2 6) n := by
      unfold DA acc
      rw [← sI_plus]
      refine sI_congr (fun i hi => ?_)
      have hi2 : 0 + i < x.2 6 := by have : i < x.2 6 := hi; omega
      show (if x.1 27 (0 + i) = nI n then _ else _) = _
      rw [an _ hi2]
      obtain ⟨a1, a2⟩ := h.cn hi2
      by_cases hc : cn x (0 + i) = n
      · have hc2 : x.1 27 (0 + i) = nI n := by rw [a2, hc]
        rw [if_pos hc2, if_pos hc2]
        by_cases h0 : x.1 31 (0 + i) = 0
        · rw [if_pos ⟨h0, Or.inl rfl, Or.inl rfl⟩, if_pos ⟨h0, hc⟩]
        · rw [if_neg (fun z => h0 z.1), if_neg (fun z => h0 z.1)]
      · have hc2 : ¬ x.1 27 (0 + i) = nI n := fun z => hc (nI_eqI (by omega) (by omega) (a2.symm.trans z))
        rw [if_neg hc2, if_neg hc2, if_neg (fun z => hc z.2)]
        rfl
    rw [e1, h.bk.db n hn]
    grind
  · show x.1 9 c + acc (x.1 31) (cr x) (cvX x (x.2 0 + m)) (x.2 6) c = EA (lateX x m) (nI c)
    rw [h.bk.ea c hc]
    unfold EA acc
    rw [← sI_plus]
    refine (sI_congr (fun i hi => ?_)).symm
    have hi2 : 0 + i < x.2 6 := by have : i < x.2 6 := hi; omega
    rw [an _ hi2]
    have b1 := (h.cr hi2).1
    refine congrArg (AN x (0 + i) (nI c) (-1) + ·) ?_
    by_cases h0 : x.1 31 (0 + i) = 0 ∧ cr x (0 + i) = c
    · rw [if_pos h0, if_pos ⟨h0.1, Or.inr (by rw [h0.2]), Or.inl rfl⟩]
    · rw [if_neg h0, if_neg (fun z => h0 ⟨z.1, (z.2.1.elim (fun w => absurd w (nIm1 (by omega))) (fun w => (nI_eqI (by omega) (by omega) w).symm))⟩)]
  · show x.1 11 c + acc (x.1 31) (ow x) (cvX x (x.2 0 + m)) (x.2 6) c = SA (lateX x m) (nI c)
    rw [h.bk.sp c hc]
    unfold SA acc
    rw [← sI_plus]
    refine (sI_congr (fun i hi => ?_)).symm
    have hi2 : 0 + i < x.2 6 := by have : i < x.2 6 := hi; omega
    rw [an _ hi2]
    have b1 := (h.ow hi2).1
    refine congrArg (AN x (0 + i) (-1) (nI c) + ·) ?_
    by_cases h0 : x.1 31 (0 + i) = 0 ∧ ow x (0 + i) = c
    · rw [if_pos h0, if_pos ⟨h0.1, Or.inl rfl, Or.inr (by rw [h0.2])⟩]
    · rw [if_neg h0, if_neg (fun z => h0 ⟨z.1, (z.2.2.elim (fun w => absurd w (nIm1 (by omega))) (fun w => (nI_eqI (by omega) (by omega) w).symm))⟩)]
theorem late_rx {x t : XS} (h : RX x t) {m : Nat} (hm : x.2 0 + m ≤ 20000) : RX (lateX x m) (W5 t (fun j => t.1 9 j + sI (fun s => acc (t.1 18) (cn x) (PT x t s) (x.2 6) j) (x.2 0) m) (fun j => t.1 7 j + sI (fun s => acc (t.1 18) (ow x) (PT x t s) (x.2 6) j) (x.2 0) m) (fun j => t.1 5 j + sI (fun s => acc (t.1 18) (cr x) (PT x t s) (x.2 6) j) (x.2 0) m) (par (t.1 18) (fun k => sI (fun s => PT x t s k) (x.2 0) m) (t.1 22) (x.2 6)) (par (t.1 18) (fun _ => nI m) (t.1 21) (x.2 6)) (x.2 0 + m)) := by
  have h6 := h.c60
  have he := lateX_he x m
  have hst : ∀ k, k < x.2 6 → x.1 31 k = t.1 18 k := fun k hk => h.r31 k (by omega)
  have hacc : ∀ (key : Nat → Nat) (j : Nat), acc (x.1 31) key (cvX x (x.2 0 + m)) (x.2 6) j = sI (fun s => acc (t.1 18) key (PT x t s) (x.2 6) j) (x.2 0) m := fun key j => by
    rw [acc_sum]
    exact acc_e (fun k hk => ⟨hst k hk, cv_n h hk hm⟩)
  have eD : ∀ n, n < 12 → x.1 2 n + acc (x.1 31) (cn x) (cvX x (x.2 0 + m)) (x.2 6) n = t.1 9 n + sI (fun s => acc (t.1 18) (cn x) (PT x t s) (x.2 6) n) (x.2 0) m := fun n hn => by rw [hacc, h.rD n hn]
  have eA : ∀ n, n < 5 → x.1 9 n + acc (x.1 31) (cr x) (cvX x (x.2 0 + m)) (x.2 6) n = t.1 5 n + sI (fun s => acc (t.1 18) (cr x) (PT x t s) (x.2 6) n) (x.2 0) m := fun n hn => by rw [hacc, h.rA n hn]
  have eS : ∀ n, n < 6 → x.1 11 n + acc (x.1 31) (ow x) (cvX x (x.2 0 + m)) (x.2 6) n = t.1 7 n + sI (fun s => acc (t.1 18) (ow x) (PT x t s) (x.2 6) n) (x.2 0) m := fun n hn => by rw [hacc, h.rS n hn]
  have e32 : ∀ k, k < 60 → par (x.1 31) (cvX x (x.2 0 + m)) (x.1 32) (x.2 6) k = par (t.1 18) (fun k => sI (fun s => PT x t s k) (x.2 0) m) (t.1 22) (x.2 6) k := fun k hk => by
    unfold par
    rw [h.r31 k hk, h.r32 k hk]
    by_cases hc : k < x.2 6 ∧ t.1 18 k = 0
    · rw [if_pos hc, if_pos hc, cv_n h hc.1 hm]
    · rw [if_neg hc, if_neg hc]
  have eT : ∀ k, k < x.2 6 → par (t.1 18) (fun _ => nI m) (t.1 21) (x.2 6) k = nI (eN (lateX x m) k - bN x k) := fun k hk => by
    obtain ⟨t1, t2, t3, t4⟩ := h.tm.2 k hk
    unfold par
    show _ = nI ((if x.1 31 k = 0 then x.2 0 + m else (x.1 30 k).toNatClampNeg) - bN x k)
    rw [h.rT k hk]
    unfold eN at *
    by_cases h0 : x.1 31 k = 0
    · rw [if_pos h0] at t3
      rw [if_pos h0, if_pos h0, if_pos ⟨hk, (hst k hk).symm.trans h0⟩, nI_add]
      exact congrArg nI (by omega)
    · rw [if_neg h0, if_neg h0, if_neg (fun z => h0 ((hst k hk).trans z.2))]
  have eC : ∀ n, n < 12 → x.1 0 n = lastV (x.1 14) (x.1 15) (x.1 16) (nI n) (nI (x.2 0 + m)) (nI n - nI n / 5 * 5) (x.2 2) := fun n hn =>
    (place_late h hn (by omega) hm).symm.trans (hval_last (by decide) h.p60)
  have eQ : ∀ n, n < 12 → x.1 1 n = lastV (x.1 18) (x.1 19) (x.1 20) (nI n) (nI (x.2 0 + m)) (nI n - nI n / 6 * 6) (x.2 3) := fun n hn =>
    (late_1 h hn (by omega) hm).symm.trans (hval_last (by decide) h.s60)
  have ePD : ∀ c, c < 5 → lastV (x.1 21) (x.1 22) (x.1 23) (nI c) (nI (x.2 0 + m)) 2 (x.2 4) = t.1 0 c := fun c hc =>
    (hval_last (by decide) h.d60).symm.trans (late_2 h hc (by omega) hm)
  have ePC : ∀ c, c < 5 → lastV (x.1 24) (x.1 25) (x.1 26) (nI c) (nI (x.2 0 + m)) 1 (x.2 5) = t.1 1 c := fun c hc =>
    (hval_last (by decide) h.ha.h3.cnt).symm.trans (late_3 h hc (by omega) hm)
  have eG : ∀ n, n < 12 → ∃ d, x.1 2 n + acc (x.1 31) (cn x) (cvX x (x.2 0 + m)) (x.2 6) n = nI d ∧ d ≤ 540 * (x.2 0 + m) := fun n hn => by
    obtain ⟨d, e1, e2⟩ := h.gD n hn
    have hv : ∀ k, k < x.2 6 → ∃ d, d ≤ 9 * m ∧ (if x.1 31 (0 + k) = 0 ∧ cn x (0 + k) = n then cvX x (x.2 0 + m) (0 + k) else 0) = nI d := fun k hk => by
      by_cases hc : x.1 31 (0 + k) = 0 ∧ cn x (0 + k) = n
      · rw [if_pos hc, cv_n h (by omega) hm]
        refine sI_b (fun i _ => ?_)
        have := h.pR _ (h.cr (k := 0 + k) (by omega)).1
        unfold PT
        split
        · exact this.1
        · exact this.2
      · rw [if_neg hc]; exact ⟨0, Nat.zero_le _, rfl⟩
    obtain ⟨d2, f1, f2⟩ := sI_b (f := fun k => if x.1 31 k = 0 ∧ cn x k = n then cvX x (x.2 0 + m) k else 0) (a := 0) hv
    have hb : 9 * m * x.2 6 ≤ 9 * m * 60 := Nat.mul_le_mul_left _ h6
    refine ⟨d + d2, ?_, by omega⟩
    rw [e1, ← nI_add]
    exact congrArg (nI d + ·) f2
  have eTM : TM (lateX x m) := ⟨h.tm.1, fun k hk => by
    obtain ⟨t1, t2, t3, t4⟩ := h.tm.2 k hk
    refine ⟨t1, fun h0 => ?_, ?_, ?_⟩
    · have h1 := t2 h0
      have h2 : eN (lateX x m) k = eN x k := by
        show (if x.1 31 k = 0 then x.2 0 + m else (x.1 30 k).toNatClampNeg) = if x.1 31 k = 0 then x.2 0 else (x.1 30 k).toNatClampNeg
        have h0' : ¬ x.1 31 k = 0 := h0
        rw [if_neg h0', if_neg h0']
      rw [h2]; exact h1
    · show bN x k ≤ if x.1 31 k = 0 then x.2 0 + m else (x.1 30 k).toNatClampNeg
      unfold eN at t3 t4
      split
      · rename_i h0; rw [if_pos h0] at t3; omega
      · rename_i h0; rw [if_neg h0] at t3; exact t3
    · show (if x.1 31 k = 0 then x.2 0 + m else (x.1 30 k).toNatClampNeg) ≤ x.2 0 + m
      unfold eN at t3 t4
      split
      · omega
      · rename_i h0; rw [if_neg h0] at t4; omega⟩
  have eZ : ∀ k, x.2 6 ≤ k → k < 60 → x.1 31 k = 0 ∧ par (x.1 31) (cvX x (x.2 0 + m)) (x.1 32) (x.2 6) k = 0 ∧ par (t.1 18) (fun _ => nI m) (t.1 21) (x.2 6) k = 0 := fun k h1 h2 => by
    obtain ⟨z1, z2, z3⟩ := h.z k h1 h2
    unfold par
    rw [if_neg (by omega), if_neg (by omega)]
    exact ⟨z1, z2, z3⟩
  exact ⟨(rfl), h.cL, h.cP, h.cS, h.cD, h.cC, h.rO, (eD), h.rB, h.rY, h.rE, h.rP, (eA), h.rL, (eS), h.r14, h.r15, h.r16, h.r17, h.r27, h.r28, h.r31, (e32), h.r34, h.r33, (eT), h.rW, (eC), (eQ), h.rN, h.rK, (ePD), (ePC), h.pR, h.g13, h.g16, h.g17, h.g8, h.g20, h.g19, h.gY, (eG), h.gB, h.w20, (eZ), h.tl, ((he.ha h.ha).later (Nat.le_add_right _ _) hm), (eTM), (late_bk h hm)⟩
theorem s_pass {x t : XS} (h : RX x t) {s : Int32} {m : Nat} (hs : ¬ noW s 1 2000 → s = nI m ∧ m ≤ 2000) : Same (ka 0 1 2) (xPass x s) (mPass t s m) := by
  unfold xPass mPass
  by_cases hw : noW s 1 2000
  · rw [if_pos hw, if_pos hw]; exact Same.no h (by decide) rfl (by decide) (by decide)
  · rw [if_neg hw, if_neg hw]
    obtain ⟨rfl, hm⟩ := hs hw
    have h20 := h.n20
    rw [nI_clamp (by omega), ← h.cN, nI_add]
    by_cases h1 : x.2 0 + m ≤ 20000
    · have h2 : nI (x.2 0 + m) ≤ 20000 := nI_le (b := 20000) h1 (by decide)
      rw [if_pos h2, if_pos h2, psF_n h _ _ (Nat.le_refl _), outF_n (h.z0 0) m h1]
      refine Same.yes (late_rx (h.z0 0) h1) rfl ?_
      show sI (fun k => if x.1 31 k = 0 then cvX x (x.2 0 + m) k else 0) 0 (x.2 6) = sI (fun s => sI (fun k => if t.1 18 k = 0 then PT x (z0 t) s k else 0) 0 (x.2 6)) (x.2 0) m
      rw [sI_comm]
      refine sI_congr (fun i hi => ?_)
      have h6 := h.c60
      rw [sI_if, h.r31 _ (by omega), cv_n (h.z0 0) (by omega) h1]
    · have h2 : ¬ nI (x.2 0 + m) ≤ 20000 := nI_ge (a := 20000) (by omega) (by omega)
      rw [if_neg h2, if_neg h2]; exact Same.no h (by decide) rfl (by decide) (by decide)

/-! ===== what is kept: time; two ways of passing are one ===== -/
theorem PT_9 {x t : XS} (h : RX x t) {k : Nat} (hk : k < x.2 6) (s : Nat) : ∃ d, d ≤ 9 ∧ PT x t s k = nI d := by
  obtain ⟨⟨d1, h1, e1⟩, d2, h2, e2⟩ := h.pR (cr x k) (h.cr hk).1
  unfold PT
  split
  · exact ⟨d1, h1, e1⟩
  · exact ⟨d2, h2, e2⟩
theorem cv_9 {x t : XS} (h : RX x t) {m k : Nat} (hk : k < x.2 6) (hm : x.2 0 + m ≤ 20000) : ∃ e, e ≤ 9 * m ∧ cvX x (x.2 0 + m) k = nI e := by
  rw [cv_n h hk hm]
  exact sI_b (fun i _ => PT_9 h hk _)
theorem acc_b {x t : XS} (h : RX x t) {m : Nat} (hm : x.2 0 + m ≤ 20000) (key : Nat → Nat) (j : Nat) : ∃ e, e ≤ 9 * m * x.2 6 ∧ acc (x.1 31) key (cvX x (x.2 0 + m)) (x.2 6) j = nI e := by
  refine sI_b (fun i hi => ?_)
  rw [Nat.zero_add]
  split
  · exact cv_9 h hi hm
  · exact ⟨0, Nat.zero_le _, nI_0.symm⟩
theorem lateX_2 (x : XS) (m : Nat) {j : Nat} (h : j ≠ 0) : (lateX x m).2 j = x.2 j := if_neg h
theorem lateX_1 (x : XS) (m : Nat) {j : Nat} (h1 : j ≠ 32) (h2 : j ≠ 2) (h3 : j ≠ 9) (h4 : j ≠ 11) : (lateX x m).1 j = x.1 j := by
  show (if j = 32 then _ else if j = 2 then _ else if j = 9 then _ else if j = 11 then _ else x.1 j) = x.1 j
  rw [if_neg h1, if_neg h2, if_neg h3, if_neg h4]
theorem EI.late {w : Nat → Prop} {B T : Nat} {n0 : Int32} {x t : XS} (E : EI w B T n0 x) (h : RX x t) {m : Nat} (hm : x.2 0 + m ≤ 20000) : EI w B (T + m) n0 (lateX x m) := by
  have h6 := h.c60
  refine ⟨E.ls, E.ln, fun j hj => ?_, E.nw, E.sv, by show x.2 0 + m ≤ T + m; have := E.nn; omega, fun n hn h5 => ?_, E.pu, E.py⟩
  · have hj2 : j < x.2 6 := hj
    obtain ⟨d, g1, g2⟩ := E.cb j hj2
    show ∃ c, c ≤ 9 * ((if x.1 31 j = 0 then x.2 0 + m else (x.1 30 j).toNatClampNeg) - bN x j) ∧ par (x.1 31) (cvX x (x.2 0 + m)) (x.1 32) (x.2 6) j = nI c
    have tm := (h.tm.2 j hj2).2.2
    unfold eN at g1 tm
    unfold par
    by_cases h0 : x.1 31 j = 0
    · rw [if_pos h0] at g1 tm
      rw [if_pos h0, if_pos ⟨hj2, h0⟩]
      obtain ⟨e, q1, q2⟩ := cv_9 h hj2 hm
      exact ⟨d + e, by omega, by rw [g2, q2, nI_add]⟩
    · rw [if_neg h0] at g1
      rw [if_neg h0, if_neg (fun z => h0 z.2)]
      exact ⟨d, g1, g2⟩
  · show ¬ x.1 2 n + acc (x.1 31) (cn x) (cvX x (x.2 0 + m)) (x.2 6) n = 0
    have h9 := E.br n hn h5
    obtain ⟨d, q1, q2⟩ := h.gD n hn
    obtain ⟨e, q3, q4⟩ := acc_b h hm (cn x) n
    have q5 : 9 * m * x.2 6 ≤ 9 * 20000 * 60 := Nat.mul_le_mul (by omega) h6
    rw [q1, q4, nI_add]
    refine nI_ne0 ?_ (by omega)
    have : d ≠ 0 := fun z => h9 (by rw [q1, z]; exact nI_0)
    omega
/-- what passing m seconds answers -/
def SM (x : XS) (m : Nat) : Int32 := sI (fun k => if x.1 31 k = 0 then cvX x (x.2 0 + m) k else 0) 0 (x.2 6)
theorem xPass_n {x t : XS} (h : RX x t) {m : Nat} (h1 : 1 ≤ m) (h2 : m ≤ 2000) (hm : x.2 0 + m ≤ 20000) : xPass x (nI m) = R0 (lateX x m) (SM x m) := by
  unfold xPass
  have hw : ¬ noW (nI m) 1 2000 := fun z => by
    rcases z with z | z
    · exact nI_nlt (b := 1) h1 (by omega) z
    · exact nI_nlt (a := 2000) h2 (by decide) z
  have h3 : nI (x.2 0 + m) ≤ 20000 := nI_le (b := 20000) hm (by decide)
  rw [if_neg hw, nI_clamp (by omega), nI_add, if_pos h3, psF_n h _ _ (Nat.le_refl _)]
  rfl
theorem iv_late {B T : Nat} {n0 : Int32} {x t : XS} (h : RX x t) (E : EI NB B T n0 x) {m : Nat} (hm : x.2 0 + m ≤ 20000) : IV B (T + m) n0 (lateX x m) := ⟨_, late_rx h hm, E.late h hm⟩
theorem acc_2 {st : Nat → Int32} {key : Nat → Nat} {v w : Nat → Int32} {n j : Nat} : acc st key (fun k => v k + w k) n j = acc st key v n j + acc st key w n j := by
  unfold acc
  rw [← sI_plus]
  refine sI_congr (fun i _ => ?_)
  split
  · rfl
  · exact (Int32.add_zero 0).symm
theorem par_c {st v w f : Nat → Int32} {n : Nat} (h : ∀ k, k < n → v k = w k) : par st v f n = par st w f n := by
  funext k
  unfold par
  by_cases hk : k < n ∧ st k = 0
  · rw [if_pos hk, if_pos hk, h k hk.1]
  · rw [if_neg hk, if_neg hk]
theorem acc_c {st : Nat → Int32} {key : Nat → Nat} {v w : Nat → Int32} {n j : Nat} (h : ∀ k, k < n → v k = w k) : acc st key v n j = acc st key w n j := acc_e (fun k hk => ⟨rfl, h k hk⟩)
theorem cv_late {x t : XS} (h : RX x t) {a b k : Nat} (hk : k < x.2 6) (hm : x.2 0 + a + b ≤ 20000) : cvX x (x.2 0 + a) k + cvX (lateX x a) ((lateX x a).2 0 + b) k = cvX x (x.2 0 + (a + b)) k := by
  have hl := late_rx h (m := a) (by omega)
  rw [cv_n hl (m := b) hk hm, cv_n h hk (m := a) (by omega), cv_n h hk (m := a + b) (by omega), sI_add]
  rfl
theorem cv_0 {x t : XS} (h : RX x t) {k : Nat} (hk : k < x.2 6) : cvX x (x.2 0 + 0) k = 0 := by
  have := h.n20
  rw [cv_n h hk (m := 0) (by omega)]
  rfl
theorem lateX_add {x t : XS} (h : RX x t) {a b : Nat} (hm : x.2 0 + a + b ≤ 20000) : lateX (lateX x a) b = lateX x (a + b) ∧ SM x a + SM (lateX x a) b = SM x (a + b) := by
  have e2 : ∀ f : Nat → Int32, ∀ key : Nat → Nat, (fun j => (fun j => f j + acc (x.1 31) key (cvX x (x.2 0 + a)) (x.2 6) j) j + acc (x.1 31) key (cvX (lateX x a) ((lateX x a).2 0 + b)) (x.2 6) j) = fun j => f j + acc (x.1 31) key (cvX x (x.2 0 + (a + b))) (x.2 6) j := fun f key => by
    funext j
    show f j + acc (x.1 31) key (cvX x (x.2 0 + a)) (x.2 6) j + acc (x.1 31) key (cvX (lateX x a) ((lateX x a).2 0 + b)) (x.2 6) j = _
    rw [Int32.add_assoc, ← acc_2, acc_c (w := cvX x (x.2 0 + (a + b))) (fun k hk => cv_late h hk hm)]
  constructor
  · have e1 : par (x.1 31) (cvX (lateX x a) ((lateX x a).2 0 + b)) (par (x.1 31) (cvX x (x.2 0 + a)) (x.1 32) (x.2 6)) (x.2 6) = par (x.1 31) (cvX x (x.2 0 + (a + b))) (x.1 32) (x.2 6) := by
      rw [par_par]
      exact par_c (fun k hk => cv_late h hk hm)
    have hrow : ∀ j, (lateX (lateX x a) b).1 j = (lateX x (a + b)).1 j := fun j => by
      show (if j = 32 then par (x.1 31) (cvX (lateX x a) ((lateX x a).2 0 + b)) (par (x.1 31) (cvX x (x.2 0 + a)) (x.1 32) (x.2 6)) (x.2 6) else if j = 2 then (fun j => (fun j => x.1 2 j + acc (x.1 31) (cn x) (cvX x (x.2 0 + a)) (x.2 6) j) j + acc (x.1 31) (cn x) (cvX (lateX x a) ((lateX x a).2 0 + b)) (x.2 6) j) else if j = 9 then (fun j => (fun j => x.1 9 j + acc (x.1 31) (cr x) (cvX x (x.2 0 + a)) (x.2 6) j) j + acc (x.1 31) (cr x) (cvX (lateX x a) ((lateX x a).2 0 + b)) (x.2 6) j) else if j = 11 then (fun j => (fun j => x.1 11 j + acc (x.1 31) (ow x) (cvX x (x.2 0 + a)) (x.2 6) j) j + acc (x.1 31) (ow x) (cvX (lateX x a) ((lateX x a).2 0 + b)) (x.2 6) j) else (lateX x a).1 j) = (if j = 32 then par (x.1 31) (cvX x (x.2 0 + (a + b))) (x.1 32) (x.2 6) else if j = 2 then (fun j => x.1 2 j + acc (x.1 31) (cn x) (cvX x (x.2 0 + (a + b))) (x.2 6) j) else if j = 9 then (fun j => x.1 9 j + acc (x.1 31) (cr x) (cvX x (x.2 0 + (a + b))) (x.2 6) j) else if j = 11 then (fun j => x.1 11 j + acc (x.1 31) (ow x) (cvX x (x.2 0 + (a + b))) (x.2 6) j) else x.1 j)
      rw [e1, e2, e2, e2]
      by_cases h1 : j = 32
      · rw [if_pos h1, if_pos h1]
      · rw [if_neg h1, if_neg h1]
        by_cases h2 : j = 2
        · rw [if_pos h2, if_pos h2]
        · rw [if_neg h2, if_neg h2]
          by_cases h3 : j = 9
          · rw [if_pos h3, if_pos h3]
          · rw [if_neg h3, if_neg h3]
            by_cases h4 : j = 11
            · rw [if_pos h4, if_pos h4]
            · rw [if_neg h4, if_neg h4, lateX_1 x a h1 h2 h3 h4]
    have hcnt : ∀ j, (lateX (lateX x a) b).2 j = (lateX x (a + b)).2 j := fun j => by
      show (if j = 0 then x.2 0 + a + b else (if j = 0 then x.2 0 + a else x.2 j)) = (if j = 0 then x.2 0 + (a + b) else x.2 j)
      by_cases h0 : j = 0
      · rw [if_pos h0, if_pos h0, Nat.add_assoc]
      · rw [if_neg h0, if_neg h0, if_neg h0]
    exact Prod.ext (funext hrow) (funext hcnt)
  · show sI (fun k => if x.1 31 k = 0 then cvX x (x.2 0 + a) k else 0) 0 (x.2 6) + sI (fun k => if x.1 31 k = 0 then cvX (lateX x a) ((lateX x a).2 0 + b) k else 0) 0 (x.2 6) = sI (fun k => if x.1 31 k = 0 then cvX x (x.2 0 + (a + b)) k else 0) 0 (x.2 6)
    rw [← sI_plus]
    refine sI_congr (fun i hi => ?_)
    by_cases h0 : x.1 31 (0 + i) = 0
    · rw [if_pos h0, if_pos h0, if_pos h0]
      exact cv_late h (by omega) hm
    · rw [if_neg h0, if_neg h0, if_neg h0]; exact Int32.add_zero 0
theorem lateX_0 {x t : XS} (h : RX x t) : lateX x 0 = x ∧ SM x 0 = 0 := by
  have e0 : ∀ f : Nat → Int32, ∀ key : Nat → Nat, (fun j => f j + acc (x.1 31) key (cvX x (x.2 0 + 0)) (x.2 6) j) = f := fun f key => by
    funext j
    have : acc (x.1 31) key (cvX x (x.2 0 + 0)) (x.2 6) j = 0 := sI_zero (fun i hi => by
      rw [Nat.zero_add]
      split
      · exact cv_0 h hi
      · rfl)
    rw [this, Int32.add_zero]
  have e1 : par (x.1 31) (cvX x (x.2 0 + 0)) (x.1 32) (x.2 6) = x.1 32 := by
    funext k
    unfold par
    by_cases hk : k < x.2 6 ∧ x.1 31 k = 0
    · rw [if_pos hk, cv_0 h hk.1, Int32.add_zero]
    · rw [if_neg hk]
  constructor
  · unfold lateX
    rw [e0, e0, e0, e1, rows4_0]
    exact setC_self x 0
  · exact sI_zero (fun i hi => by
      rw [Nat.zero_add]
      split
      · exact cv_0 h hi
      · rfl)
/-- nobody talks: nothing is charged -/
theorem SM_none {x : XS} (m : Nat) (h : ∀ k, k < x.2 6 → ¬ x.1 31 k = 0) : SM x m = 0 := sI_zero (fun i hi => by
  rw [Nat.zero_add, if_neg (h i hi)])
/-! ===== the books add up ===== -/
theorem place_in {B T : Nat} {n0 : Int32} {w : Nat → Prop} {x t : XS} (h : RX x t) (E : EI w B T n0 x) {n : Nat} (hn : n < 12) (s : Int32) : ∃ c, c < 5 ∧ placeAt x (nI n) s = nI c := by
  have : ∀ k, k ≤ x.2 2 → ∃ c, c < 5 ∧ hvF x 0 (nI n) s (nI n - nI n / 5 * 5) k = nI c := by
    intro k
    induction k with
    | zero => intro _; exact ⟨n % 5, by omega, pk_rem (d := 5) (by omega) (by decide) (by decide)⟩
    | succ k ih =>
      intro hk
      rw [hvF]
      have h60 := h.p60
      split
      · obtain ⟨c, hc, e1, -⟩ := E.nw k (by omega)
        exact ⟨c, hc, (xg_h (q := x) (h := 0) (j := 2) (by decide) (by decide) (by omega)).trans e1⟩
      · exact ih (by omega)
  exact this _ (Nat.le_refl _)
theorem payer_in {B T : Nat} {n0 : Int32} {w : Nat → Prop} {x t : XS} (h : RX x t) (E : EI w B T n0 x) {n : Nat} (hn : n < 12) (s : Int32) : ∃ c, c < 6 ∧ hval x 1 (nI n) s (nI n - nI n / 6 * 6) = nI c := by
  have : ∀ k, k ≤ x.2 3 → ∃ c, c < 6 ∧ hvF x 1 (nI n) s (nI n - nI n / 6 * 6) k = nI c := by
    intro k
    induction k with
    | zero => intro _; exact ⟨n % 6, by omega, pk_rem (d := 6) (by omega) (by decide) (by decide)⟩
    | succ k ih =>
      intro hk
      rw [hvF]
      have h60 := h.s60
      split
      · obtain ⟨c, hc, e1⟩ := E.sv k (by omega)
        exact ⟨c, hc, (xg_h (q := x) (h := 1) (j := 2) (by decide) (by decide) (by omega)).trans e1⟩
      · exact ih (by omega)
  exact this _ (Nat.le_refl _)
/-- each second of talk has one carrier and one payer -/
theorem AN_c {B T : Nat} {n0 : Int32} {w : Nat → Prop} {x t : XS} (h : RX x t) (E : EI w B T n0 x) {k : Nat} (hk : k < x.2 6) : sI (fun c => AN x k (nI c) (-1)) 0 5 = AN x k (-1) (-1) := by
  obtain ⟨hn, en⟩ := h.cn hk
  unfold AN
  rw [sI_comm]
  refine sI_congr (fun i hi => ?_)
  obtain ⟨c0, hc0, ec0⟩ := place_in h E hn (nI (bN x k + i))
  refine sI_one (c := c0) (fun c hc => ?_) hc0
  unfold Fn
  rw [en]
  by_cases hcc : c = c0
  · subst hcc
    rw [if_pos rfl, if_pos ⟨Or.inr ec0.symm, Or.inl rfl⟩, if_pos ⟨Or.inl rfl, Or.inl rfl⟩]
  · rw [if_neg hcc, if_neg]
    rintro ⟨z | z, -⟩
    · exact nIm1 (by omega) z
    · rw [ec0] at z
      exact hcc (nI_eqI (by omega) (by omega) z)
theorem AN_p {B T : Nat} {n0 : Int32} {w : Nat → Prop} {x t : XS} (h : RX x t) (E : EI w B T n0 x) {k : Nat} (hk : k < x.2 6) : sI (fun c => AN x k (-1) (nI c)) 0 6 = AN x k (-1) (-1) := by
  obtain ⟨hn, en⟩ := h.cn hk
  unfold AN
  rw [sI_comm]
  refine sI_congr (fun i hi => ?_)
  obtain ⟨c0, hc0, ec0⟩ := payer_in h E hn (nI (bN x k + i))
  refine sI_one (c := c0) (fun c hc => ?_) hc0
  unfold Fn
  rw [en]
  by_cases hcc : c = c0
  · subst hcc
    rw [if_pos rfl, if_pos ⟨Or.inl rfl, Or.inr ec0.symm⟩, if_pos ⟨Or.inl rfl, Or.inl rfl⟩]
  · rw [if_neg hcc, if_neg]
    rintro ⟨-, z | z⟩
    · exact nIm1 (by omega) z
    · rw [ec0] at z
      exact hcc (nI_eqI (by omega) (by omega) z)
theorem sum_ch {x t : XS} (h : RX x t) : sI (x.1 32) 0 (x.2 6) = sI (fun k => AN x k (-1) (-1)) 0 (x.2 6) := sI_congr (fun i hi => h.bk.ch (0 + i) (by omega))
theorem sum_ea {B T : Nat} {n0 : Int32} {w : Nat → Prop} {x t : XS} (h : RX x t) (E : EI w B T n0 x) : sI (x.1 9) 0 5 = sI (x.1 32) 0 (x.2 6) := by
  rw [sum_ch h, sI_congr (g := fun c => EA x (nI c)) (fun i hi => h.bk.ea (0 + i) (by omega))]
  unfold EA
  rw [sI_comm]
  exact sI_congr (fun i hi => AN_c h E (by omega))
theorem sum_sp {B T : Nat} {n0 : Int32} {w : Nat → Prop} {x t : XS} (h : RX x t) (E : EI w B T n0 x) : sI (x.1 11) 0 6 = sI (x.1 32) 0 (x.2 6) := by
  rw [sum_ch h, sI_congr (g := fun c => SA x (nI c)) (fun i hi => h.bk.sp (0 + i) (by omega))]
  unfold SA
  rw [sI_comm]
  exact sI_congr (fun i hi => AN_p h E (by omega))
theorem sI_sub (f g : Nat → Int32) (a : Nat) : ∀ n, sI (fun i => f i - g i) a n = sI f a n - sI g a n
  | 0 => by show (0 : Int32) = 0 - 0; decide +kernel
  | n + 1 => by rw [sI, sI, sI, sI_sub f g a n]; grind
theorem sum_db {B T : Nat} {n0 : Int32} {w : Nat → Prop} {x t : XS} (h : RX x t) (E : EI w B T n0 x) : sI (x.1 2) 0 12 = sI (x.1 32) 0 (x.2 6) - n0 := by
  rw [sum_ch h, sI_congr (g := fun c => DA x (nI c) - x.1 3 c) (fun i hi => h.bk.db (0 + i) (by omega)), sI_sub, E.py]
  congr 1
  unfold DA
  rw [sI_comm]
  refine sI_congr (fun i hi => ?_)
  obtain ⟨hn, en⟩ := h.cn (k := 0 + i) (by omega)
  refine sI_one (c := cn x (0 + i)) (fun c hc => ?_) hn
  rw [en]
  by_cases hcc : c = cn x (0 + i)
  · rw [if_pos hcc, if_pos (by rw [hcc])]
  · rw [if_neg hcc, if_neg (fun z => hcc (nI_eqI (by omega) (by omega) z.symm))]

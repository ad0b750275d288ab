/-! ===== answers of an exchange that keeps IV, by numbers ===== -/
theorem okN {n : Nat} (h : n < 12) : ¬ noN (nI n) := fun z => by
  rcases z with z | z
  · exact nI_pos (by omega) z
  · exact nI_ge (b := 12) (a := n) h (by decide) z
theorem okC {n : Nat} (h : n < 5) : ¬ noC (nI n) := fun z => by
  rcases z with z | z
  · exact nI_pos (by omega) z
  · exact nI_ge (b := 5) (a := n) h (by decide) z
theorem okP {n : Nat} (h : n < 6) : ¬ noP (nI n) := fun z => by
  rcases z with z | z
  · exact nI_pos (by omega) z
  · exact nI_ge (b := 6) (a := n) h (by decide) z
theorem okK {x : XS} {n : Nat} (h : n < x.2 6) (h6 : x.2 6 ≤ 60) : ¬ noK x (nI n) := fun z => by
  rcases z with z | z
  · exact nI_pos (by omega) z
  · exact nI_ge h (by omega) z
theorem v_ofN (x : XS) {k n : Nat} (hk : rl k = 12) (h : n < 12) : xOfN x k (nI n) = R0 x (x.1 k n) := by
  unfold xOfN
  rw [if_neg (okN h), xg_n (by rw [hk]; exact h)]
theorem v_ofC (x : XS) {k n : Nat} (hk : rl k = 5) (h : n < 5) : xOfC x k (nI n) = R0 x (x.1 k n) := by
  unfold xOfC
  rw [if_neg (okC h), xg_n (by rw [hk]; exact h)]
theorem v_ofK {x : XS} {k n : Nat} (hk : rl k = 60) (h : n < x.2 6) (h6 : x.2 6 ≤ 60) : xOfK x k (nI n) = R0 x (x.1 k n) := by
  unfold xOfK
  rw [if_neg (okK h h6), xg_n (by rw [hk]; omega)]
theorem v_spent (x : XS) {n : Nat} (h : n < 6) : xSpent x (nI n) = R0 x (x.1 11 n) := by
  unfold xSpent
  rw [if_neg (okP h), xg_n (show n < 6 from h)]
theorem v_barred (x : XS) {n : Nat} (h : n < 12) : xIsBarred x (nI n) = R0 x (if x.1 5 n = 0 then 0 else 1) := by
  unfold xIsBarred
  rw [if_neg (okN h), xg_n (show n < 12 from h)]
  split <;> rfl
theorem v_debtAnew {x t : XS} (h : RX x t) {n : Nat} (hn : n < 12) : xDebtAnew x (nI n) = R0 x (x.1 2 n) := by
  unfold xDebtAnew
  rw [if_neg (okN hn), xg_n (show n < 12 from hn), daF_n h.ha h.tm _ _ (Nat.le_refl _), h.bk.db n hn]
  rfl
theorem v_earnedAnew {x t : XS} (h : RX x t) {n : Nat} (hn : n < 5) : xEarnedAnew x (nI n) = R0 x (x.1 9 n) := by
  unfold xEarnedAnew
  rw [if_neg (okC hn), eaF_n h.ha h.tm _ _ (Nat.le_refl _), h.bk.ea n hn]
  rfl
theorem v_spentAnew {x t : XS} (h : RX x t) {n : Nat} (hn : n < 6) : xSpentAnew x (nI n) = R0 x (x.1 11 n) := by
  unfold xSpentAnew
  rw [if_neg (okP hn), saF_n h.ha h.tm _ _ (Nat.le_refl _), h.bk.sp n hn]
  rfl
theorem v_chargedAnew {x t : XS} (h : RX x t) {n : Nat} (hn : n < x.2 6) : xChargedAnew x (nI n) = R0 x (x.1 32 n) := by
  unfold xChargedAnew
  rw [if_neg (okK hn h.c60), xanew_AN h.ha h.tm hn, h.bk.ch n hn]
theorem v_seconds {x t : XS} (h : RX x t) {n : Nat} (hn : n < x.2 6) : xSeconds x (nI n) = R0 x (nI (eN x n - bN x n)) := by
  unfold xSeconds
  rw [if_neg (okK hn h.c60), lasted_n h hn, h.rT n hn]
theorem v_trunks {x t : XS} (h : RX x t) {n : Nat} (hn : n < x.2 6) : xTrunks x (nI n) = R0 x (nI (lm t n)) := by
  unfold xTrunks
  rw [if_neg (okK hn h.c60), len_n h hn, nI_pred]
theorem v_at {x t : XS} (h : RX x t) {n p : Nat} (hn : n < x.2 6) (hp : p ≤ lm t n) : xCarrierAt x (nI n) (nI p) = R0 x (t.1 20 (5 * n + p)) := by
  have h6 := h.c60
  have h4 : lm t n ≤ 4 := (h.g19 n).2
  unfold xCarrierAt
  rw [if_neg (okK hn h.c60), len_n h hn, if_neg (nI_pos (by omega)), if_pos (nI_lt (by omega) (by omega)), stop_n h (by omega) (by omega)]
theorem v_atno {x t : XS} (h : RX x t) {n : Nat} (hn : n < x.2 6) {p : Int32} (hp : p < 0 ∨ nI (lm t n + 1) ≤ p) : xCarrierAt x (nI n) p = (.inr 0, x) := by
  unfold xCarrierAt
  rw [if_neg (okK hn h.c60), len_n h hn]
  rcases hp with hp | hp
  · rw [if_pos hp]
  · by_cases h0 : p < 0
    · rw [if_pos h0]
    · rw [if_neg h0, if_neg (Int32.not_lt.mpr hp)]
theorem v_then {x t : XS} (h : RX x t) {n s : Nat} (hn : n < 12) (hs : s ≤ x.2 0) : xCarrierThen x (nI n) (nI s) = R0 x (placeAt x (nI n) (nI s)) := by
  have h20 := h.n20
  unfold xCarrierThen
  rw [if_neg (okN hn), if_neg]
  rintro (z | z)
  · exact nI_pos (by omega) z
  · exact nI_nlt hs (by omega) z
theorem v_believed (x : XS) {c n : Nat} (hc : c < 5) (hn : n < 12) : xBelieved x (nI c) (nI n) = R0 x (known x (nI c) (nI n) (nI (x.2 0))) := by
  unfold xBelieved
  rw [if_neg (okC hc), if_neg (okN hn)]
theorem v_free (x : XS) {a b : Nat} (ha : a < 5) (hb : b < 5) (hab : ¬ a = b) : xFree x (nI a) (nI b) = R0 x (xleft x (nI a) (nI b)) := by
  unfold xFree
  rw [if_neg (okC ha), if_neg (okC hb), if_neg (fun z => hab (nI_eqI (by omega) (by omega) z))]
theorem xleft_s (x : XS) {a b : Nat} (ha : a < 5) (hb : b < 5) (hab : ¬ a = b) : xleft x (nI a) (nI b) = xleft x (nI b) (nI a) := by
  rcases Nat.lt_or_ge a b with h | h
  · rw [(xleft_lt x h hb).1, (xleft_lt x h hb).2]
  · rw [(xleft_lt x (show b < a by omega) ha).1, (xleft_lt x (show b < a by omega) ha).2]
theorem xleft_0 {B T : Nat} {n0 : Int32} {x : XS} (E : EI NB B T n0 x) {a b : Nat} (ha : a < 5) (hb : b < 5) (hab : ¬ a = b) : ¬ xleft x (nI a) (nI b) < 0 := by
  have key : ∀ c d, c < d → d < 5 → ¬ x.1 12 (5 * c + d) - x.1 13 (5 * c + d) < 0 := fun c d hcd hd => by
    obtain ⟨l, u, h1, h2, e1, e2⟩ := E.ln c d hcd hd id
    rw [e1, e2, pk_sub h2]
    exact nI_pos (by omega)
  rcases Nat.lt_or_ge a b with h | h
  · rw [(xleft_lt x h hb).1]; exact key a b h hb
  · rw [(xleft_lt x (show b < a by omega) ha).2]; exact key b a (by omega) ha
/-- a carrier believes of its own number that it has it -/
theorem known_own {B T : Nat} {n0 : Int32} {w : Nat → Prop} {x t : XS} (h : RX x t) (E : EI w B T n0 x) {n c : Nat} (hn : n < 12) (hc : c < 5) (e0 : x.1 0 n = nI c) : known x (nI c) (nI n) (nI (x.2 0)) = nI c := by
  have h20 := h.n20
  have h60 := h.p60
  -- the last port of n, among the first k
  have key : ∀ k, k ≤ x.2 2 → hvF x 0 (nI n) (nI (x.2 0)) (nI n - nI n / 5 * 5) k = nI c → pkF x (nI c) (nI n) (nI (x.2 0)) k = nI c := by
    intro k
    induction k with
    | zero => intro _ e; exact e
    | succ k ih =>
      intro hk e
      have a0 : xg x (hr 0 + 0) (nI k) = x.1 14 k := xg_h (q := x) (h := 0) (j := 0) (by decide) (by decide) (by omega)
      have a1 : xg x (hr 0 + 1) (nI k) = x.1 15 k := xg_h (q := x) (h := 0) (j := 1) (by decide) (by decide) (by omega)
      have a2 : xg x (hr 0 + 2) (nI k) = x.1 16 k := xg_h (q := x) (h := 0) (j := 2) (by decide) (by decide) (by omega)
      have b0 : xg x 14 (nI k) = x.1 14 k := xg_n (k := 14) (show k < 60 by omega)
      have b2 : xg x 16 (nI k) = x.1 16 k := xg_n (k := 16) (show k < 60 by omega)
      obtain ⟨e15, h15⟩ := h.ha.h0.lo k (by show k < x.2 2; omega)
      have e15' : x.1 15 k = nI (hst x 0 k) := e15
      rw [hvF, a0, a1, a2] at e
      rw [pkF, b0, b2]
      by_cases hkey : x.1 14 k = nI n
      · rw [if_pos ⟨hkey, by rw [e15']; exact nI_le h15 (by omega)⟩] at e
        obtain ⟨c2, hc2, f1, f2⟩ := E.nw k (by omega)
        have ec : c2 = c := nI_eqI (by omega) (by omega) (f1.symm.trans e)
        subst ec
        have e17 : xg x 17 (nI k * 5 + nI c2) = x.1 15 k := by
          rw [show (5 : Int32) = nI 5 from rfl, pk_mul, nI_add, xg_n (k := 17) (show k * 5 + c2 < 300 by omega), show k * 5 + c2 = 5 * k + c2 by omega]
          exact f2
        rw [if_pos ⟨by rw [e17, e15']; exact nI_le h15 (by omega), hkey⟩]
        exact e
      · rw [if_neg (fun z => hkey z.1)] at e
        rw [if_neg (fun z => hkey z.2)]
        exact ih (by omega) e
  refine key _ (Nat.le_refl _) ?_
  have := placeAt_C h hn
  rw [e0] at this
  exact this
/-- who is in a call is in one that goes on -/
theorem talk_on {x t : XS} (h : RX x t) {n : Nat} (hn : n < 12) : x.1 6 n = -1 ∨ ∃ k, k < x.2 6 ∧ x.1 6 n = nI k ∧ x.1 31 k = 0 := by
  have h6 := h.c60
  have key : ∀ m, m ≤ x.2 6 → wiR (t.1 18) (t.1 16) (t.1 17) (nI n) m = -1 ∨ ∃ k, k < x.2 6 ∧ wiR (t.1 18) (t.1 16) (t.1 17) (nI n) m = nI k ∧ x.1 31 k = 0 := by
    intro m
    induction m with
    | zero => intro _; exact Or.inl rfl
    | succ m ih =>
      intro hm
      rw [wiR]
      split
      · next hz => exact Or.inr ⟨m, by omega, rfl, (h.r31 m (by omega)).trans hz.1⟩
      · exact ih (by omega)
  rw [h.rW n hn, ← h.cC]
  exact key _ (Nat.le_refl _)
/-- nobody talks: nobody is in a call -/
theorem talk_no {x t : XS} (h : RX x t) (h0 : ∀ k, k < x.2 6 → ¬ x.1 31 k = 0) {n : Nat} (hn : n < 12) : x.1 6 n = -1 := by
  rcases talk_on h hn with e | ⟨k, hk, -, e⟩
  · exact e
  · exact absurd e (h0 k hk)
/-- bits of a set of carriers -/
theorem bit_32 : ∀ s, s < 32 → ∀ a, a < 5 → ∀ b, b < 5 → (((nI s ||| (1 <<< nI a)) >>> nI b) &&& 1) = (if a = b then 1 else ((nI s >>> nI b) &&& 1)) ∧ ∃ r, r < 32 ∧ (nI s ||| (1 <<< nI a)) = nI r := by
  have h : ∀ s : Fin 32, ∀ a : Fin 5, ∀ b : Fin 5, (((nI s ||| (1 <<< nI a)) >>> nI b) &&& 1) = (if (a : Nat) = b then 1 else ((nI s >>> nI b) &&& 1)) ∧ (nI s ||| (1 <<< nI a)) = nI (s ||| (1 <<< (a : Nat))) ∧ ((s : Nat) ||| (1 <<< (a : Nat))) < 32 := by decide +kernel
  intro s hs a ha b hb
  obtain ⟨h1, h2, h3⟩ := h ⟨s, hs⟩ ⟨a, ha⟩ ⟨b, hb⟩
  exact ⟨h1, _, h3, h2⟩

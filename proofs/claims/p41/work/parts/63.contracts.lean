/-! ===== what a house answers, and what it is then ===== -/
theorem hang_l {q t : XS} (rx : RX q t) {c : Int32} : ¬ noK q c → xg q 33 c = nI (lm t c.toNatClampNeg + 1) ∧ lm t c.toNatClampNeg < 100000 := fun h => by
  obtain ⟨k, hk, rfl⟩ := nK rx (fun z => h ((noK_L rx c).mpr z))
  have h6 := rx.c60
  rw [nI_clamp (by omega)]
  refine ⟨len_n rx hk, ?_⟩
  show (t.1 19 k).toNatClampNeg < 100000
  have := (rx.g19 k).2
  omega
theorem call_l {q t : XS} (rx : RX q t) {a b : Int32} : ¬ noN a → ¬ noN b → nI (q.2 6) < 60 → ¬ (xfind q a b).2 = 0 → xg (cbegin (xfind q a b).1 a b (nI ((xfind q a b).1.2 0))) 33 (nI ((xfind q a b).1.2 6)) = nI ((mcomes (z0 t) a b (lm t)).1.2 7 + 1) ∧ (mcomes (z0 t) a b (lm t)).1.2 7 < 100000 ∧ (xfind q a b).1.2 7 < 100000 := fun h1 h2 h3 h4 => by
  obtain ⟨i, hi, rfl⟩ := nN h1
  obtain ⟨j, hj, rfl⟩ := nN h2
  have w : WR (xfind q (nI i) (nI j)).1 (mcomes (z0 t) (nI i) (nI j) (lm t)).1 ((mcomes (z0 t) (nI i) (nI j) (lm t)).1.2 7) := (xfind_n (rx.z0 0) hi hj).1
  have f5 := w.f5
  have hc2 : (mcomes (z0 t) (nI i) (nI j) (lm t)).1.2 5 = t.2 5 := mcomes_c 5 (by decide)
  have h6 := rx.c60
  have hx6 : (xfind q (nI i) (nI j)).1.2 6 = q.2 6 := w.r.cC.trans (hc2.trans rx.cC.symm)
  have hq : q.2 6 < 60 := (nI_ltI (b := 60) (by omega) (by decide)).mp h3
  have hc : (xfind q (nI i) (nI j)).1.2 6 < 60 := by rw [hx6]; exact hq
  refine ⟨?_, by omega, by rw [w.lx]; omega⟩
  rw [cbegin_n w hc, xg_n (k := 33) (show (xfind q (nI i) (nI j)).1.2 6 < 60 from hc)]
  exact pk_us
theorem CT.v {M : MT} {As : List Value} {q q2 : XS} {v : Int32} {o : AO × XS} (h : CT M As q o.2 (cod o.1)) (e : o = R0 q2 v) : CT M As q q2 v := by
  rw [e] at h; exact h
theorem CT.x {M : MT} {As : List Value} {q : XS} {n : Nat} {o : AO × XS} (h : CT M As q o.2 (cod o.1)) (e : o = (.inr n, q)) : CT M As q q (cod (.inr n)) := by
  rw [e] at h; exact h
theorem c_prices {q t : XS} (r : RX q t) (a b c : Int32) : CT ML_prices [.int a, .int b, .int c] q (xSetPrices q a b c).2 (cod (xSetPrices q a b c).1) :=
  w_prices (fun K hK => p_setPrices (by have := r.d60; omega) hK) (by unfold xSetPrices R0; (repeat' split) <;> first | exact Or.inl ⟨_, rfl⟩ | exact Or.inr ⟨_, rfl, by decide⟩)
theorem c_delays {q t : XS} (r : RX q t) (a b : Int32) : CT ML_delays [.int a, .int b] q (xSetDelay q a b).2 (cod (xSetDelay q a b).1) :=
  w_delays (fun K hK => p_setDelay hK) (by unfold xSetDelay R0; (repeat' split) <;> first | exact Or.inl ⟨_, rfl⟩ | exact Or.inr ⟨_, rfl, by decide⟩)
theorem c_lines {q t : XS} (r : RX q t) (a b c : Int32) : CT ML_lines [.int a, .int b, .int c] q (xSetTrunk q a b c (lm t)).2 (cod (xSetTrunk q a b c (lm t)).1) :=
  w_lines (fun K hK => p_setTrunk (by have := r.c60; omega) (fun c hc => ⟨len_n r hc, (by show (t.1 19 c).toNatClampNeg < 1000; have := (r.g19 c).2; omega)⟩) hK) (by unfold xSetTrunk R0; (repeat' split) <;> first | exact Or.inl ⟨_, rfl⟩ | exact Or.inr ⟨_, rfl, by decide⟩)
theorem c_ports {q t : XS} (r : RX q t) (a b : Int32) : CT ML_ports [.int a, .int b] q (xPort q a b).2 (cod (xPort q a b).1) :=
  w_ports (fun K hK => p_port hK) (by unfold xPort R0; (repeat' split) <;> first | exact Or.inl ⟨_, rfl⟩ | exact Or.inr ⟨_, rfl, by decide⟩)
theorem c_sells {q t : XS} (r : RX q t) (a b : Int32) : CT ML_sells [.int a, .int b] q (xSell q a b).2 (cod (xSell q a b).1) :=
  w_sells (fun K hK => p_sell hK) (by unfold xSell R0; (repeat' split) <;> first | exact Or.inl ⟨_, rfl⟩ | exact Or.inr ⟨_, rfl, by decide⟩)
theorem c_bonds {q t : XS} (r : RX q t) (a b : Int32) : CT ML_bonds [.int a, .int b] q (xBond q a b).2 (cod (xBond q a b).1) :=
  w_bonds (fun K hK => p_bond hK) (by unfold xBond R0; (repeat' split) <;> first | exact Or.inl ⟨_, rfl⟩ | exact Or.inr ⟨_, rfl, by decide⟩)
theorem c_pays {q t : XS} (r : RX q t) (a b : Int32) : CT ML_pays [.int a, .int b] q (xPay q a b).2 (cod (xPay q a b).1) :=
  w_pays (fun K hK => p_pay hK) (by unfold xPay R0; (repeat' split) <;> first | exact Or.inl ⟨_, rfl⟩ | exact Or.inr ⟨_, rfl, by decide⟩)
theorem c_judges {q t : XS} (r : RX q t) (a : Int32) : CT ML_judges [.int a] q (xJudge q a).2 (cod (xJudge q a).1) :=
  w_judges (fun K hK => p_judge hK) (by unfold xJudge R0; (repeat' split) <;> first | exact Or.inl ⟨_, rfl⟩ | exact Or.inr ⟨_, rfl, by decide⟩)
theorem rings_e (q : XS) (a b : Int32) (m : Nat) : (∃ v, (xCall q a b m).1 = .inl (some (.int v))) ∨ ∃ e, (xCall q a b m).1 = .inr e ∧ (e = 0 ∨ e = 1 ∨ e = 2) := by
  unfold xCall R0
  by_cases h1 : noN a
  · rw [if_pos h1]; exact Or.inr ⟨0, rfl, Or.inl rfl⟩
  rw [if_neg h1]
  by_cases h2 : noN b
  · rw [if_pos h2]; exact Or.inr ⟨0, rfl, Or.inl rfl⟩
  rw [if_neg h2]
  by_cases h3 : a = b
  · rw [if_pos h3]; exact Or.inr ⟨1, rfl, Or.inr (Or.inl rfl)⟩
  rw [if_neg h3]
  by_cases h4 : xg q 6 a = -1
  · rw [if_pos h4]
    by_cases h5 : xg q 6 b = -1
    · rw [if_pos h5]
      by_cases h6 : xg q 5 a = 0
      · rw [if_pos h6]
        by_cases h7 : nI (q.2 6) < 60
        · rw [if_pos h7]
          by_cases h8 : (xfind q a b).2 = 0
          · rw [if_pos h8]
            by_cases h9 : nI ((xfind q a b).1.2 7) ≤ 1
            · rw [if_pos h9]; exact Or.inl ⟨_, rfl⟩
            · rw [if_neg h9]; exact Or.inl ⟨_, rfl⟩
          · rw [if_neg h8]; exact Or.inl ⟨_, rfl⟩
        · rw [if_neg h7]; exact Or.inr ⟨2, rfl, Or.inr (Or.inr rfl)⟩
      · rw [if_neg h6]; exact Or.inr ⟨2, rfl, Or.inr (Or.inr rfl)⟩
    · rw [if_neg h5]; exact Or.inr ⟨2, rfl, Or.inr (Or.inr rfl)⟩
  · rw [if_neg h4]; exact Or.inr ⟨2, rfl, Or.inr (Or.inr rfl)⟩
theorem c_rings {q t : XS} (r : RX q t) (a b : Int32) : CT ML_rings [.int a, .int b] q (xCall q a b ((mcomes (z0 t) a b (lm t)).1.2 7)).2 (cod (xCall q a b ((mcomes (z0 t) a b (lm t)).1.2 7)).1) :=
  w_rings (fun K hK => p_call (by have := r.p60; omega) (call_l r) hK) (rings_e _ _ _ _)
theorem c_hangs {q t : XS} (r : RX q t) (a : Int32) : CT ML_hangs [.int a] q (xHangUp q a (lm t a.toNatClampNeg)).2 (cod (xHangUp q a (lm t a.toNatClampNeg)).1) :=
  w_hangs (fun K hK => p_hangUp (hang_l r) hK) (by unfold xHangUp R0; (repeat' split) <;> first | exact Or.inl ⟨_, rfl⟩ | exact Or.inr ⟨_, rfl, by decide⟩)
theorem c_passes {q t : XS} (r : RX q t) (a : Int32) : CT ML_passes [.int a] q (xPass q a).2 (cod (xPass q a).1) :=
  w_passes (fun K hK => p_pass (by have := r.d60; omega) (by rw [r.ha.c]; have := r.d60; omega) (by have := r.c60; omega) hK) (by unfold xPass R0; (repeat' split) <;> first | exact Or.inl ⟨_, rfl⟩ | exact Or.inr ⟨_, rfl, by decide⟩)
theorem c_route {q t : XS} (r : RX q t) (a b : Int32) : CT ML_route [.int a, .int b] q (xRoute q a b).2 (cod (xRoute q a b).1) :=
  w_route (fun K hK => p_route (by have := r.p60; omega) hK) (by unfold xRoute R0; (repeat' split) <;> first | exact Or.inl ⟨_, rfl⟩ | exact Or.inr ⟨_, rfl, by decide⟩)
theorem c_carrier {q t : XS} (r : RX q t) (a : Int32) : CT ML_carrier [.int a] q (xOfN q 0 a).2 (cod (xOfN q 0 a).1) :=
  w_carrier (fun K hK => p_carrierOf hK) (by unfold xOfN R0; (repeat' split) <;> first | exact Or.inl ⟨_, rfl⟩ | exact Or.inr ⟨_, rfl, by decide⟩)
theorem c_then {q t : XS} (r : RX q t) (a b : Int32) : CT ML_then [.int a, .int b] q (xCarrierThen q a b).2 (cod (xCarrierThen q a b).1) :=
  w_then (fun K hK => p_carrierThen (by have := r.p60; omega) hK) (by unfold xCarrierThen R0; (repeat' split) <;> first | exact Or.inl ⟨_, rfl⟩ | exact Or.inr ⟨_, rfl, by decide⟩)
theorem c_owner {q t : XS} (r : RX q t) (a : Int32) : CT ML_owner [.int a] q (xOfN q 1 a).2 (cod (xOfN q 1 a).1) :=
  w_owner (fun K hK => p_ownerOf hK) (by unfold xOfN R0; (repeat' split) <;> first | exact Or.inl ⟨_, rfl⟩ | exact Or.inr ⟨_, rfl, by decide⟩)
theorem c_believed {q t : XS} (r : RX q t) (a b : Int32) : CT ML_believed [.int a, .int b] q (xBelieved q a b).2 (cod (xBelieved q a b).1) :=
  w_believed (fun K hK => p_believed (by have := r.p60; omega) hK) (by unfold xBelieved R0; (repeat' split) <;> first | exact Or.inl ⟨_, rfl⟩ | exact Or.inr ⟨_, rfl, by decide⟩)
theorem c_debt {q t : XS} (r : RX q t) (a : Int32) : CT ML_debt [.int a] q (xOfN q 2 a).2 (cod (xOfN q 2 a).1) :=
  w_debt (fun K hK => p_debt hK) (by unfold xOfN R0; (repeat' split) <;> first | exact Or.inl ⟨_, rfl⟩ | exact Or.inr ⟨_, rfl, by decide⟩)
theorem c_debtAnew {q t : XS} (r : RX q t) (a : Int32) : CT ML_debtAnew [.int a] q (xDebtAnew q a).2 (cod (xDebtAnew q a).1) :=
  w_debtAnew (fun K hK => p_debtAnew (by have := r.p60; omega) (by have := r.s60; omega) (by have := r.d60; omega) (by rw [r.ha.c]; have := r.d60; omega) (by have := r.c60; omega) hK) (by unfold xDebtAnew R0; (repeat' split) <;> first | exact Or.inl ⟨_, rfl⟩ | exact Or.inr ⟨_, rfl, by decide⟩)
theorem c_bond {q t : XS} (r : RX q t) (a : Int32) : CT ML_bond [.int a] q (xOfN q 4 a).2 (cod (xOfN q 4 a).1) :=
  w_bond (fun K hK => p_bondOf hK) (by unfold xOfN R0; (repeat' split) <;> first | exact Or.inl ⟨_, rfl⟩ | exact Or.inr ⟨_, rfl, by decide⟩)
theorem c_barred {q t : XS} (r : RX q t) (a : Int32) : CT ML_barred [.int a] q (xIsBarred q a).2 (cod (xIsBarred q a).1) :=
  w_barred (fun K hK => p_isBarred hK) (by unfold xIsBarred R0; (repeat' split) <;> first | exact Or.inl rfl | exact Or.inr (Or.inl rfl) | exact Or.inr (Or.inr rfl))
theorem c_callOf {q t : XS} (r : RX q t) (a : Int32) : CT ML_callOf [.int a] q (xOfN q 6 a).2 (cod (xOfN q 6 a).1) :=
  w_callOf (fun K hK => p_callOf hK) (by unfold xOfN R0; (repeat' split) <;> first | exact Or.inl ⟨_, rfl⟩ | exact Or.inr ⟨_, rfl, by decide⟩)
theorem c_free {q t : XS} (r : RX q t) (a b : Int32) : CT ML_free [.int a, .int b] q (xFree q a b).2 (cod (xFree q a b).1) :=
  w_free (fun K hK => p_free hK) (by unfold xFree R0; (repeat' split) <;> first | exact Or.inl ⟨_, rfl⟩ | exact Or.inr ⟨_, rfl, by decide⟩)
theorem c_state {q t : XS} (r : RX q t) (a : Int32) : CT ML_state [.int a] q (xOfK q 31 a).2 (cod (xOfK q 31 a).1) :=
  w_state (fun K hK => p_state hK) (by unfold xOfK R0; (repeat' split) <;> first | exact Or.inl ⟨_, rfl⟩ | exact Or.inr ⟨_, rfl, by decide⟩)
theorem c_trunks {q t : XS} (r : RX q t) (a : Int32) : CT ML_trunks [.int a] q (xTrunks q a).2 (cod (xTrunks q a).1) :=
  w_trunks (fun K hK => p_trunks hK) (by unfold xTrunks R0; (repeat' split) <;> first | exact Or.inl ⟨_, rfl⟩ | exact Or.inr ⟨_, rfl, by decide⟩)
theorem c_at {q t : XS} (r : RX q t) (a b : Int32) : CT ML_at [.int a, .int b] q (xCarrierAt q a b).2 (cod (xCarrierAt q a b).1) :=
  w_at (fun K hK => p_carrierAt hK) (by unfold xCarrierAt R0; (repeat' split) <;> first | exact Or.inl ⟨_, rfl⟩ | exact Or.inr ⟨_, rfl, by decide⟩)
theorem c_seconds {q t : XS} (r : RX q t) (a : Int32) : CT ML_seconds [.int a] q (xSeconds q a).2 (cod (xSeconds q a).1) :=
  w_seconds (fun K hK => p_seconds hK) (by unfold xSeconds R0; (repeat' split) <;> first | exact Or.inl ⟨_, rfl⟩ | exact Or.inr ⟨_, rfl, by decide⟩)
theorem c_charged {q t : XS} (r : RX q t) (a : Int32) : CT ML_charged [.int a] q (xOfK q 32 a).2 (cod (xOfK q 32 a).1) :=
  w_charged (fun K hK => p_charged hK) (by unfold xOfK R0; (repeat' split) <;> first | exact Or.inl ⟨_, rfl⟩ | exact Or.inr ⟨_, rfl, by decide⟩)
theorem c_chargedAnew {q t : XS} (r : RX q t) (a : Int32) : CT ML_chargedAnew [.int a] q (xChargedAnew q a).2 (cod (xChargedAnew q a).1) :=
  w_chargedAnew (fun K hK => p_chargedAnew (by have := r.p60; omega) (by have := r.s60; omega) (by have := r.d60; omega) (by rw [r.ha.c]; have := r.d60; omega) hK) (by unfold xChargedAnew R0; (repeat' split) <;> first | exact Or.inl ⟨_, rfl⟩ | exact Or.inr ⟨_, rfl, by decide⟩)
theorem c_coins {q t : XS} (r : RX q t) (a : Int32) : CT ML_coins [.int a] q (xOfC q 8 a).2 (cod (xOfC q 8 a).1) :=
  w_coins (fun K hK => p_coins hK) (by unfold xOfC R0; (repeat' split) <;> first | exact Or.inl ⟨_, rfl⟩ | exact Or.inr ⟨_, rfl, by decide⟩)
theorem c_earned {q t : XS} (r : RX q t) (a : Int32) : CT ML_earned [.int a] q (xOfC q 9 a).2 (cod (xOfC q 9 a).1) :=
  w_earned (fun K hK => p_earned hK) (by unfold xOfC R0; (repeat' split) <;> first | exact Or.inl ⟨_, rfl⟩ | exact Or.inr ⟨_, rfl, by decide⟩)
theorem c_earnedAnew {q t : XS} (r : RX q t) (a : Int32) : CT ML_earnedAnew [.int a] q (xEarnedAnew q a).2 (cod (xEarnedAnew q a).1) :=
  w_earnedAnew (fun K hK => p_earnedAnew (by have := r.p60; omega) (by have := r.s60; omega) (by have := r.d60; omega) (by rw [r.ha.c]; have := r.d60; omega) (by have := r.c60; omega) hK) (by unfold xEarnedAnew R0; (repeat' split) <;> first | exact Or.inl ⟨_, rfl⟩ | exact Or.inr ⟨_, rfl, by decide⟩)
theorem c_spent {q t : XS} (r : RX q t) (a : Int32) : CT ML_spent [.int a] q (xSpent q a).2 (cod (xSpent q a).1) :=
  w_spent (fun K hK => p_spent hK) (by unfold xSpent R0; (repeat' split) <;> first | exact Or.inl ⟨_, rfl⟩ | exact Or.inr ⟨_, rfl, by decide⟩)
theorem c_spentAnew {q t : XS} (r : RX q t) (a : Int32) : CT ML_spentAnew [.int a] q (xSpentAnew q a).2 (cod (xSpentAnew q a).1) :=
  w_spentAnew (fun K hK => p_spentAnew (by have := r.p60; omega) (by have := r.s60; omega) (by have := r.d60; omega) (by rw [r.ha.c]; have := r.d60; omega) (by have := r.c60; omega) hK) (by unfold xSpentAnew R0; (repeat' split) <;> first | exact Or.inl ⟨_, rfl⟩ | exact Or.inr ⟨_, rfl, by decide⟩)
theorem c_losses {q t : XS} (r : RX q t) (a : Int32) : CT ML_losses [.int a] q (xOfC q 10 a).2 (cod (xOfC q 10 a).1) :=
  w_losses (fun K hK => p_losses hK) (by unfold xOfC R0; (repeat' split) <;> first | exact Or.inl ⟨_, rfl⟩ | exact Or.inr ⟨_, rfl, by decide⟩)
theorem c_calls (q : XS) : CT MX9_calls [] q q (nI (q.2 6)) := fun _ hK => p_calls hK
theorem c_second (q : XS) : CT MX9_second [] q q (nI (q.2 0)) := fun _ hK => p_second hK
theorem c_lost (q : XS) : CT MX9_lost [] q q (nI (q.2 1)) := fun _ hK => p_lost hK
theorem isDear_2 (q : XS) : ∃ v, xIsDear q = R0 q v := by unfold xIsDear; (repeat' split) <;> exact ⟨_, rfl⟩
theorem c_isDear (q : XS) : ∃ v, CT MX9_isDear [] q q v := by
  obtain ⟨v, h⟩ := isDear_2 q
  exact ⟨v, fun _ hK => p_isDear (by rw [h]; exact hK)⟩
theorem y_ofN (q : XS) (k : Nat) (a : Int32) : (xOfN q k a).2 = q := by unfold xOfN R0; (repeat' split) <;> rfl
theorem y_ofC (q : XS) (k : Nat) (a : Int32) : (xOfC q k a).2 = q := by unfold xOfC R0; (repeat' split) <;> rfl
theorem y_ofK (q : XS) (k : Nat) (a : Int32) : (xOfK q k a).2 = q := by unfold xOfK R0; (repeat' split) <;> rfl
theorem y_then (q : XS) (a b : Int32) : (xCarrierThen q a b).2 = q := by unfold xCarrierThen R0; (repeat' split) <;> rfl
theorem y_believed (q : XS) (a b : Int32) : (xBelieved q a b).2 = q := by unfold xBelieved R0; (repeat' split) <;> rfl
theorem y_debtAnew (q : XS) (a : Int32) : (xDebtAnew q a).2 = q := by unfold xDebtAnew R0; (repeat' split) <;> rfl
theorem y_barred (q : XS) (a : Int32) : (xIsBarred q a).2 = q := by unfold xIsBarred R0; (repeat' split) <;> rfl
theorem y_free (q : XS) (a b : Int32) : (xFree q a b).2 = q := by unfold xFree R0; (repeat' split) <;> rfl
theorem y_trunks (q : XS) (a : Int32) : (xTrunks q a).2 = q := by unfold xTrunks R0; (repeat' split) <;> rfl
theorem y_at (q : XS) (a b : Int32) : (xCarrierAt q a b).2 = q := by unfold xCarrierAt R0; (repeat' split) <;> rfl
theorem y_seconds (q : XS) (a : Int32) : (xSeconds q a).2 = q := by unfold xSeconds R0; (repeat' split) <;> rfl
theorem y_chargedAnew (q : XS) (a : Int32) : (xChargedAnew q a).2 = q := by unfold xChargedAnew R0; (repeat' split) <;> rfl
theorem y_earnedAnew (q : XS) (a : Int32) : (xEarnedAnew q a).2 = q := by unfold xEarnedAnew R0; (repeat' split) <;> rfl
theorem y_spent (q : XS) (a : Int32) : (xSpent q a).2 = q := by unfold xSpent R0; (repeat' split) <;> rfl
theorem y_spentAnew (q : XS) (a : Int32) : (xSpentAnew q a).2 = q := by unfold xSpentAnew R0; (repeat' split) <;> rfl
theorem l_carrier {q t : XS} (r : RX q t) (a : Int32) : CT ML_carrier [.int a] q q (cod (xOfN q 0 a).1) := by
  have h := c_carrier r a
  rw [y_ofN] at h
  exact h
theorem l_then {q t : XS} (r : RX q t) (a b : Int32) : CT ML_then [.int a, .int b] q q (cod (xCarrierThen q a b).1) := by
  have h := c_then r a b
  rw [y_then] at h
  exact h
theorem l_owner {q t : XS} (r : RX q t) (a : Int32) : CT ML_owner [.int a] q q (cod (xOfN q 1 a).1) := by
  have h := c_owner r a
  rw [y_ofN] at h
  exact h
theorem l_believed {q t : XS} (r : RX q t) (a b : Int32) : CT ML_believed [.int a, .int b] q q (cod (xBelieved q a b).1) := by
  have h := c_believed r a b
  rw [y_believed] at h
  exact h
theorem l_debt {q t : XS} (r : RX q t) (a : Int32) : CT ML_debt [.int a] q q (cod (xOfN q 2 a).1) := by
  have h := c_debt r a
  rw [y_ofN] at h
  exact h
theorem l_debtAnew {q t : XS} (r : RX q t) (a : Int32) : CT ML_debtAnew [.int a] q q (cod (xDebtAnew q a).1) := by
  have h := c_debtAnew r a
  rw [y_debtAnew] at h
  exact h
theorem l_bond {q t : XS} (r : RX q t) (a : Int32) : CT ML_bond [.int a] q q (cod (xOfN q 4 a).1) := by
  have h := c_bond r a
  rw [y_ofN] at h
  exact h
theorem l_barred {q t : XS} (r : RX q t) (a : Int32) : CT ML_barred [.int a] q q (cod (xIsBarred q a).1) := by
  have h := c_barred r a
  rw [y_barred] at h
  exact h
theorem l_callOf {q t : XS} (r : RX q t) (a : Int32) : CT ML_callOf [.int a] q q (cod (xOfN q 6 a).1) := by
  have h := c_callOf r a
  rw [y_ofN] at h
  exact h
theorem l_free {q t : XS} (r : RX q t) (a b : Int32) : CT ML_free [.int a, .int b] q q (cod (xFree q a b).1) := by
  have h := c_free r a b
  rw [y_free] at h
  exact h
theorem l_state {q t : XS} (r : RX q t) (a : Int32) : CT ML_state [.int a] q q (cod (xOfK q 31 a).1) := by
  have h := c_state r a
  rw [y_ofK] at h
  exact h
theorem l_trunks {q t : XS} (r : RX q t) (a : Int32) : CT ML_trunks [.int a] q q (cod (xTrunks q a).1) := by
  have h := c_trunks r a
  rw [y_trunks] at h
  exact h
theorem l_at {q t : XS} (r : RX q t) (a b : Int32) : CT ML_at [.int a, .int b] q q (cod (xCarrierAt q a b).1) := by
  have h := c_at r a b
  rw [y_at] at h
  exact h
theorem l_seconds {q t : XS} (r : RX q t) (a : Int32) : CT ML_seconds [.int a] q q (cod (xSeconds q a).1) := by
  have h := c_seconds r a
  rw [y_seconds] at h
  exact h
theorem l_charged {q t : XS} (r : RX q t) (a : Int32) : CT ML_charged [.int a] q q (cod (xOfK q 32 a).1) := by
  have h := c_charged r a
  rw [y_ofK] at h
  exact h
theorem l_chargedAnew {q t : XS} (r : RX q t) (a : Int32) : CT ML_chargedAnew [.int a] q q (cod (xChargedAnew q a).1) := by
  have h := c_chargedAnew r a
  rw [y_chargedAnew] at h
  exact h
theorem l_coins {q t : XS} (r : RX q t) (a : Int32) : CT ML_coins [.int a] q q (cod (xOfC q 8 a).1) := by
  have h := c_coins r a
  rw [y_ofC] at h
  exact h
theorem l_earned {q t : XS} (r : RX q t) (a : Int32) : CT ML_earned [.int a] q q (cod (xOfC q 9 a).1) := by
  have h := c_earned r a
  rw [y_ofC] at h
  exact h
theorem l_earnedAnew {q t : XS} (r : RX q t) (a : Int32) : CT ML_earnedAnew [.int a] q q (cod (xEarnedAnew q a).1) := by
  have h := c_earnedAnew r a
  rw [y_earnedAnew] at h
  exact h
theorem l_spent {q t : XS} (r : RX q t) (a : Int32) : CT ML_spent [.int a] q q (cod (xSpent q a).1) := by
  have h := c_spent r a
  rw [y_spent] at h
  exact h
theorem l_spentAnew {q t : XS} (r : RX q t) (a : Int32) : CT ML_spentAnew [.int a] q q (cod (xSpentAnew q a).1) := by
  have h := c_spentAnew r a
  rw [y_spentAnew] at h
  exact h
theorem l_losses {q t : XS} (r : RX q t) (a : Int32) : CT ML_losses [.int a] q q (cod (xOfC q 10 a).1) := by
  have h := c_losses r a
  rw [y_ofC] at h
  exact h
/-! numbers out of their range -/
theorem m1_neg {k : Nat} (h : k < 2 ^ 30) : -1 - nI k < 0 := by
  rw [Int32.lt_iff_toInt_lt, Int32.toInt_sub, nI_toInt (by omega), show (-1 : Int32).toInt = -1 from by decide, show (0 : Int32).toInt = 0 from by decide]
  rw [Int.bmod_eq_of_le (by omega) (by omega)]
  omega
theorem neg_lt1 {k : Nat} (h : k < 2 ^ 30) : -nI k < 1 := by
  have e : -nI k = nI 0 - nI k := by rw [nI_0]; grind
  rw [e, Int32.lt_iff_toInt_lt, pk_sub_toInt (by omega) h, show (1 : Int32).toInt = 1 from by decide]
  omega
theorem noW_hi {k b : Nat} {a : Int32} (h : b < k) (hk : k < 2 ^ 31) : noW (nI k) a (nI b) := Or.inr (nI_lt h hk)
theorem noW_m1 {k : Nat} {b : Int32} (h : k < 2 ^ 30) : noW (-1 - nI k) 0 b := Or.inl (m1_neg h)
theorem noW_neg {k : Nat} {b : Int32} (h : k < 2 ^ 30) : noW (-nI k) 1 b := Or.inl (neg_lt1 h)
theorem n_prices0 {q t : XS} (r : RX q t) {a b c : Int32} (h : noC a) : CT ML_prices [.int a, .int b, .int c] q q (cod (.inr 0)) := CT.x (c_prices r a b c) (if_pos h)
theorem n_prices1 {q t : XS} (r : RX q t) {a b c : Int32} (h0 : ¬ noC a) (h : noW b 0 9) : CT ML_prices [.int a, .int b, .int c] q q (cod (.inr 1)) := CT.x (c_prices r a b c) ((if_neg h0).trans (if_pos h))
theorem n_prices2 {q t : XS} (r : RX q t) {a b c : Int32} (h0 : ¬ noC a) (h1 : ¬ noW b 0 9) (h : noW c 0 9) : CT ML_prices [.int a, .int b, .int c] q q (cod (.inr 1)) := CT.x (c_prices r a b c) ((if_neg h0).trans ((if_neg h1).trans (if_pos h)))
theorem n_delays0 {q t : XS} (r : RX q t) {a b : Int32} (h : noC a) : CT ML_delays [.int a, .int b] q q (cod (.inr 0)) := CT.x (c_delays r a b) (if_pos h)
theorem n_delays1 {q t : XS} (r : RX q t) {a b : Int32} (h0 : ¬ noC a) (h : noW b 0 5000) : CT ML_delays [.int a, .int b] q q (cod (.inr 1)) := CT.x (c_delays r a b) ((if_neg h0).trans (if_pos h))
theorem n_lines0 {q t : XS} (r : RX q t) {a b c : Int32} (h : noC a) : CT ML_lines [.int a, .int b, .int c] q q (cod (.inr 0)) := CT.x (c_lines r a b c) (if_pos h)
theorem n_lines1 {q t : XS} (r : RX q t) {a b c : Int32} (h0 : ¬ noC a) (h : noC b) : CT ML_lines [.int a, .int b, .int c] q q (cod (.inr 0)) := CT.x (c_lines r a b c) ((if_neg h0).trans (if_pos h))
theorem n_lines2 {q t : XS} (r : RX q t) {a b c : Int32} (h0 : ¬ noC a) (h1 : ¬ noC b) (h : a = b) : CT ML_lines [.int a, .int b, .int c] q q (cod (.inr 1)) := CT.x (c_lines r a b c) ((if_neg h0).trans ((if_neg h1).trans (if_pos h)))
theorem n_lines3 {q t : XS} (r : RX q t) {a b c : Int32} (h0 : ¬ noC a) (h1 : ¬ noC b) (h2 : ¬ a = b) (h : noW c 0 5) : CT ML_lines [.int a, .int b, .int c] q q (cod (.inr 1)) := CT.x (c_lines r a b c) ((if_neg h0).trans ((if_neg h1).trans ((if_neg h2).trans (if_pos h))))
theorem n_ports0 {q t : XS} (r : RX q t) {a b : Int32} (h : noN a) : CT ML_ports [.int a, .int b] q q (cod (.inr 0)) := CT.x (c_ports r a b) (if_pos h)
theorem n_ports1 {q t : XS} (r : RX q t) {a b : Int32} (h0 : ¬ noN a) (h : noC b) : CT ML_ports [.int a, .int b] q q (cod (.inr 0)) := CT.x (c_ports r a b) ((if_neg h0).trans (if_pos h))
theorem n_ports2 {q t : XS} (r : RX q t) {a b : Int32} (h0 : ¬ noN a) (h1 : ¬ noC b) (h : xg q 0 a = b) : CT ML_ports [.int a, .int b] q q (cod (.inr 2)) := CT.x (c_ports r a b) ((if_neg h0).trans ((if_neg h1).trans (if_pos h)))
theorem n_ports3 {q t : XS} (r : RX q t) {a b : Int32} (h0 : ¬ noN a) (h1 : ¬ noC b) (h2 : ¬ xg q 0 a = b) (h : ¬ xg q 2 a ≤ xg q 4 a) : CT ML_ports [.int a, .int b] q q (cod (.inr 2)) := CT.x (c_ports r a b) ((if_neg h0).trans ((if_neg h1).trans ((if_neg h2).trans (if_neg h))))
theorem n_sells0 {q t : XS} (r : RX q t) {a b : Int32} (h : noN a) : CT ML_sells [.int a, .int b] q q (cod (.inr 0)) := CT.x (c_sells r a b) (if_pos h)
theorem n_sells1 {q t : XS} (r : RX q t) {a b : Int32} (h0 : ¬ noN a) (h : noP b) : CT ML_sells [.int a, .int b] q q (cod (.inr 0)) := CT.x (c_sells r a b) ((if_neg h0).trans (if_pos h))
theorem n_sells2 {q t : XS} (r : RX q t) {a b : Int32} (h0 : ¬ noN a) (h1 : ¬ noP b) (h : xg q 1 a = b) : CT ML_sells [.int a, .int b] q q (cod (.inr 2)) := CT.x (c_sells r a b) ((if_neg h0).trans ((if_neg h1).trans (if_pos h)))
theorem n_bonds0 {q t : XS} (r : RX q t) {a b : Int32} (h : noN a) : CT ML_bonds [.int a, .int b] q q (cod (.inr 0)) := CT.x (c_bonds r a b) (if_pos h)
theorem n_bonds1 {q t : XS} (r : RX q t) {a b : Int32} (h0 : ¬ noN a) (h : noW b 1 5000) : CT ML_bonds [.int a, .int b] q q (cod (.inr 1)) := CT.x (c_bonds r a b) ((if_neg h0).trans (if_pos h))
theorem n_bonds2 {q t : XS} (r : RX q t) {a b : Int32} (h0 : ¬ noN a) (h1 : ¬ noW b 1 5000) (h : ¬ xg q 4 a + b ≤ 5000) : CT ML_bonds [.int a, .int b] q q (cod (.inr 2)) := CT.x (c_bonds r a b) ((if_neg h0).trans ((if_neg h1).trans (if_neg h)))
theorem n_pays0 {q t : XS} (r : RX q t) {a b : Int32} (h : noN a) : CT ML_pays [.int a, .int b] q q (cod (.inr 0)) := CT.x (c_pays r a b) (if_pos h)
theorem n_pays1 {q t : XS} (r : RX q t) {a b : Int32} (h0 : ¬ noN a) (h : noW b 1 (xg q 2 a)) : CT ML_pays [.int a, .int b] q q (cod (.inr 1)) := CT.x (c_pays r a b) ((if_neg h0).trans (if_pos h))
theorem n_judges0 {q t : XS} (r : RX q t) {a : Int32} (h : noN a) : CT ML_judges [.int a] q q (cod (.inr 0)) := CT.x (c_judges r a) (if_pos h)
theorem n_judges1 {q t : XS} (r : RX q t) {a : Int32} (h0 : ¬ noN a) (h : ¬ 0 < xg q 2 a) : CT ML_judges [.int a] q q (cod (.inr 2)) := CT.x (c_judges r a) ((if_neg h0).trans (if_neg h))
theorem n_rings0 {q t : XS} (r : RX q t) {a b : Int32} (h : noN a) : CT ML_rings [.int a, .int b] q q (cod (.inr 0)) := CT.x (c_rings r a b) (if_pos h)
theorem n_rings1 {q t : XS} (r : RX q t) {a b : Int32} (h0 : ¬ noN a) (h : noN b) : CT ML_rings [.int a, .int b] q q (cod (.inr 0)) := CT.x (c_rings r a b) ((if_neg h0).trans (if_pos h))
theorem n_rings2 {q t : XS} (r : RX q t) {a b : Int32} (h0 : ¬ noN a) (h1 : ¬ noN b) (h : a = b) : CT ML_rings [.int a, .int b] q q (cod (.inr 1)) := CT.x (c_rings r a b) ((if_neg h0).trans ((if_neg h1).trans (if_pos h)))
theorem n_rings3 {q t : XS} (r : RX q t) {a b : Int32} (h0 : ¬ noN a) (h1 : ¬ noN b) (h2 : ¬ a = b) (h : ¬ xg q 6 a = -1) : CT ML_rings [.int a, .int b] q q (cod (.inr 2)) := CT.x (c_rings r a b) ((if_neg h0).trans ((if_neg h1).trans ((if_neg h2).trans (if_neg h))))
theorem n_rings4 {q t : XS} (r : RX q t) {a b : Int32} (h0 : ¬ noN a) (h1 : ¬ noN b) (h2 : ¬ a = b) (h : ¬ xg q 6 b = -1) : CT ML_rings [.int a, .int b] q q (cod (.inr 2)) := by
  by_cases h3 : xg q 6 a = -1
  · exact CT.x (c_rings r a b) ((if_neg h0).trans ((if_neg h1).trans ((if_neg h2).trans ((if_pos h3).trans (if_neg h)))))
  · exact n_rings3 r h0 h1 h2 h3
theorem n_rings5 {q t : XS} (r : RX q t) {a b : Int32} (h0 : ¬ noN a) (h1 : ¬ noN b) (h2 : ¬ a = b) (h : ¬ xg q 5 a = 0) : CT ML_rings [.int a, .int b] q q (cod (.inr 2)) := by
  by_cases h3 : xg q 6 b = -1
  · by_cases h4 : xg q 6 a = -1
    · exact CT.x (c_rings r a b) ((if_neg h0).trans ((if_neg h1).trans ((if_neg h2).trans ((if_pos h4).trans ((if_pos h3).trans (if_neg h))))))
    · exact n_rings3 r h0 h1 h2 h4
  · exact n_rings4 r h0 h1 h2 h3
theorem n_hangs0 {q t : XS} (r : RX q t) {a : Int32} (h : noK q a) : CT ML_hangs [.int a] q q (cod (.inr 0)) := CT.x (c_hangs r a) (if_pos h)
theorem n_hangs1 {q t : XS} (r : RX q t) {a : Int32} (h0 : ¬ noK q a) (h : ¬ xg q 31 a = 0) : CT ML_hangs [.int a] q q (cod (.inr 2)) := CT.x (c_hangs r a) ((if_neg h0).trans (if_neg h))
theorem n_passes1 {q t : XS} (r : RX q t) {a : Int32} (h : noW a 1 2000) : CT ML_passes [.int a] q q (cod (.inr 1)) := CT.x (c_passes r a) (if_pos h)
theorem n_carrier0 {q t : XS} (r : RX q t) {a : Int32} (h : noN a) : CT ML_carrier [.int a] q q (cod (.inr 0)) := CT.x (c_carrier r a) (if_pos h)
theorem n_owner0 {q t : XS} (r : RX q t) {a : Int32} (h : noN a) : CT ML_owner [.int a] q q (cod (.inr 0)) := CT.x (c_owner r a) (if_pos h)
theorem n_debt0 {q t : XS} (r : RX q t) {a : Int32} (h : noN a) : CT ML_debt [.int a] q q (cod (.inr 0)) := CT.x (c_debt r a) (if_pos h)
theorem n_debtAnew0 {q t : XS} (r : RX q t) {a : Int32} (h : noN a) : CT ML_debtAnew [.int a] q q (cod (.inr 0)) := CT.x (c_debtAnew r a) (if_pos h)
theorem n_bond0 {q t : XS} (r : RX q t) {a : Int32} (h : noN a) : CT ML_bond [.int a] q q (cod (.inr 0)) := CT.x (c_bond r a) (if_pos h)
theorem n_barred0 {q t : XS} (r : RX q t) {a : Int32} (h : noN a) : CT ML_barred [.int a] q q (cod (.inr 0)) := CT.x (c_barred r a) (if_pos h)
theorem n_callOf0 {q t : XS} (r : RX q t) {a : Int32} (h : noN a) : CT ML_callOf [.int a] q q (cod (.inr 0)) := CT.x (c_callOf r a) (if_pos h)
theorem n_then0 {q t : XS} (r : RX q t) {a b : Int32} (h : noN a) : CT ML_then [.int a, .int b] q q (cod (.inr 0)) := CT.x (c_then r a b) (if_pos h)
theorem n_then1 {q t : XS} (r : RX q t) {a b : Int32} (h0 : ¬ noN a) (h : noW b 0 (nI (q.2 0))) : CT ML_then [.int a, .int b] q q (cod (.inr 1)) := CT.x (c_then r a b) ((if_neg h0).trans (if_pos h))
theorem n_believed0 {q t : XS} (r : RX q t) {a b : Int32} (h : noC a) : CT ML_believed [.int a, .int b] q q (cod (.inr 0)) := CT.x (c_believed r a b) (if_pos h)
theorem n_believed1 {q t : XS} (r : RX q t) {a b : Int32} (h0 : ¬ noC a) (h : noN b) : CT ML_believed [.int a, .int b] q q (cod (.inr 0)) := CT.x (c_believed r a b) ((if_neg h0).trans (if_pos h))
theorem n_free1 {q t : XS} (r : RX q t) {a b : Int32} (h0 : ¬ noC a) (h : noC b) : CT ML_free [.int a, .int b] q q (cod (.inr 0)) := CT.x (c_free r a b) ((if_neg h0).trans (if_pos h))
theorem n_route1 {q t : XS} (r : RX q t) {a b : Int32} (h0 : ¬ noN a) (h : noN b) : CT ML_route [.int a, .int b] q q (cod (.inr 0)) := CT.x (c_route r a b) ((if_neg h0).trans (if_pos h))
theorem n_route2 {q t : XS} (r : RX q t) {a b : Int32} (h0 : ¬ noN a) (h1 : ¬ noN b) (h : a = b) : CT ML_route [.int a, .int b] q q (cod (.inr 1)) := CT.x (c_route r a b) ((if_neg h0).trans ((if_neg h1).trans (if_pos h)))
theorem n_state0 {q t : XS} (r : RX q t) {a : Int32} (h : noK q a) : CT ML_state [.int a] q q (cod (.inr 0)) := CT.x (c_state r a) (if_pos h)
theorem n_trunks0 {q t : XS} (r : RX q t) {a : Int32} (h : noK q a) : CT ML_trunks [.int a] q q (cod (.inr 0)) := CT.x (c_trunks r a) (if_pos h)
theorem n_seconds0 {q t : XS} (r : RX q t) {a : Int32} (h : noK q a) : CT ML_seconds [.int a] q q (cod (.inr 0)) := CT.x (c_seconds r a) (if_pos h)
theorem n_charged0 {q t : XS} (r : RX q t) {a : Int32} (h : noK q a) : CT ML_charged [.int a] q q (cod (.inr 0)) := CT.x (c_charged r a) (if_pos h)
theorem n_chargedAnew0 {q t : XS} (r : RX q t) {a : Int32} (h : noK q a) : CT ML_chargedAnew [.int a] q q (cod (.inr 0)) := CT.x (c_chargedAnew r a) (if_pos h)
theorem n_at0 {q t : XS} (r : RX q t) {a b : Int32} (h : noK q a) : CT ML_at [.int a, .int b] q q (cod (.inr 0)) := CT.x (c_at r a b) (if_pos h)
theorem n_at1 {q t : XS} (r : RX q t) {a b : Int32} (h0 : ¬ noK q a) (h : b < 0) : CT ML_at [.int a, .int b] q q (cod (.inr 0)) := CT.x (c_at r a b) ((if_neg h0).trans (if_pos h))
theorem n_at2 {q t : XS} (r : RX q t) {a b : Int32} (h0 : ¬ noK q a) (h1 : ¬ b < 0) (h : ¬ b < xg q 33 a) : CT ML_at [.int a, .int b] q q (cod (.inr 0)) := CT.x (c_at r a b) ((if_neg h0).trans ((if_neg h1).trans (if_neg h)))
theorem n_coins0 {q t : XS} (r : RX q t) {a : Int32} (h : noC a) : CT ML_coins [.int a] q q (cod (.inr 0)) := CT.x (c_coins r a) (if_pos h)
theorem n_earned0 {q t : XS} (r : RX q t) {a : Int32} (h : noC a) : CT ML_earned [.int a] q q (cod (.inr 0)) := CT.x (c_earned r a) (if_pos h)
theorem n_earnedAnew0 {q t : XS} (r : RX q t) {a : Int32} (h : noC a) : CT ML_earnedAnew [.int a] q q (cod (.inr 0)) := CT.x (c_earnedAnew r a) (if_pos h)
theorem n_losses0 {q t : XS} (r : RX q t) {a : Int32} (h : noC a) : CT ML_losses [.int a] q q (cod (.inr 0)) := CT.x (c_losses r a) (if_pos h)
theorem n_spent0 {q t : XS} (r : RX q t) {a : Int32} (h : noP a) : CT ML_spent [.int a] q q (cod (.inr 0)) := CT.x (c_spent r a) (if_pos h)
theorem n_spentAnew0 {q t : XS} (r : RX q t) {a : Int32} (h : noP a) : CT ML_spentAnew [.int a] q q (cod (.inr 0)) := CT.x (c_spentAnew r a) (if_pos h)
theorem n_free2 {q t : XS} (r : RX q t) {a : Int32} (h0 : ¬ noC a) : CT ML_free [.int a, .int a] q q 0 := CT.v (c_free r a a) ((if_neg h0).trans ((if_neg h0).trans (if_pos rfl)))
theorem a_carrier {x t : XS} (h : RX x t) {n : Nat} (hn : n < 12) : CT ML_carrier [.int (nI n)] x x (x.1 0 n) := CT.v (c_carrier h _) (v_ofN x rfl hn)
theorem a_owner {x t : XS} (h : RX x t) {n : Nat} (hn : n < 12) : CT ML_owner [.int (nI n)] x x (x.1 1 n) := CT.v (c_owner h _) (v_ofN x rfl hn)
theorem a_debt {x t : XS} (h : RX x t) {n : Nat} (hn : n < 12) : CT ML_debt [.int (nI n)] x x (x.1 2 n) := CT.v (c_debt h _) (v_ofN x rfl hn)
theorem a_bond {x t : XS} (h : RX x t) {n : Nat} (hn : n < 12) : CT ML_bond [.int (nI n)] x x (x.1 4 n) := CT.v (c_bond h _) (v_ofN x rfl hn)
theorem a_callOf {x t : XS} (h : RX x t) {n : Nat} (hn : n < 12) : CT ML_callOf [.int (nI n)] x x (x.1 6 n) := CT.v (c_callOf h _) (v_ofN x rfl hn)
theorem a_barred {x t : XS} (h : RX x t) {n : Nat} (hn : n < 12) : CT ML_barred [.int (nI n)] x x (if x.1 5 n = 0 then 0 else 1) := CT.v (c_barred h _) (v_barred x hn)
theorem a_debtAnew {x t : XS} (h : RX x t) {n : Nat} (hn : n < 12) : CT ML_debtAnew [.int (nI n)] x x (x.1 2 n) := CT.v (c_debtAnew h _) (v_debtAnew h hn)
theorem a_coins {x t : XS} (h : RX x t) {n : Nat} (hn : n < 5) : CT ML_coins [.int (nI n)] x x (x.1 8 n) := CT.v (c_coins h _) (v_ofC x rfl hn)
theorem a_earned {x t : XS} (h : RX x t) {n : Nat} (hn : n < 5) : CT ML_earned [.int (nI n)] x x (x.1 9 n) := CT.v (c_earned h _) (v_ofC x rfl hn)
theorem a_losses {x t : XS} (h : RX x t) {n : Nat} (hn : n < 5) : CT ML_losses [.int (nI n)] x x (x.1 10 n) := CT.v (c_losses h _) (v_ofC x rfl hn)
theorem a_earnedAnew {x t : XS} (h : RX x t) {n : Nat} (hn : n < 5) : CT ML_earnedAnew [.int (nI n)] x x (x.1 9 n) := CT.v (c_earnedAnew h _) (v_earnedAnew h hn)
theorem a_spent {x t : XS} (h : RX x t) {n : Nat} (hn : n < 6) : CT ML_spent [.int (nI n)] x x (x.1 11 n) := CT.v (c_spent h _) (v_spent x hn)
theorem a_spentAnew {x t : XS} (h : RX x t) {n : Nat} (hn : n < 6) : CT ML_spentAnew [.int (nI n)] x x (x.1 11 n) := CT.v (c_spentAnew h _) (v_spentAnew h hn)
theorem a_state {x t : XS} (h : RX x t) {n : Nat} (hn : n < x.2 6) : CT ML_state [.int (nI n)] x x (x.1 31 n) := CT.v (c_state h _) (v_ofK rfl hn h.c60)
theorem a_charged {x t : XS} (h : RX x t) {n : Nat} (hn : n < x.2 6) : CT ML_charged [.int (nI n)] x x (x.1 32 n) := CT.v (c_charged h _) (v_ofK rfl hn h.c60)
theorem a_chargedAnew {x t : XS} (h : RX x t) {n : Nat} (hn : n < x.2 6) : CT ML_chargedAnew [.int (nI n)] x x (x.1 32 n) := CT.v (c_chargedAnew h _) (v_chargedAnew h hn)
theorem a_seconds {x t : XS} (h : RX x t) {n : Nat} (hn : n < x.2 6) : CT ML_seconds [.int (nI n)] x x (nI (eN x n - bN x n)) := CT.v (c_seconds h _) (v_seconds h hn)
theorem a_trunks {x t : XS} (h : RX x t) {n : Nat} (hn : n < x.2 6) : CT ML_trunks [.int (nI n)] x x (nI (lm t n)) := CT.v (c_trunks h _) (v_trunks h hn)
theorem a_at {x t : XS} (h : RX x t) {n : Nat} (hn : n < x.2 6) {p : Nat} (hp : p ≤ lm t n) : CT ML_at [.int (nI n), .int (nI p)] x x (t.1 20 (5 * n + p)) := CT.v (c_at h _ _) (v_at h hn hp)
theorem a_then {x t : XS} (h : RX x t) {n : Nat} (hn : n < 12) {s : Nat} (hs : s ≤ x.2 0) : CT ML_then [.int (nI n), .int (nI s)] x x (placeAt x (nI n) (nI s)) := CT.v (c_then h _ _) (v_then h hn hs)
theorem a_believed {x t : XS} (h : RX x t) {c : Nat} (hc : c < 5) {n : Nat} (hn : n < 12) : CT ML_believed [.int (nI c), .int (nI n)] x x (known x (nI c) (nI n) (nI (x.2 0))) := CT.v (c_believed h _ _) (v_believed x hc hn)
theorem a_free {x t : XS} (h : RX x t) {a b : Nat} (ha : a < 5) (hb : b < 5) (hab : ¬ a = b) : CT ML_free [.int (nI a), .int (nI b)] x x (xleft x (nI a) (nI b)) := CT.v (c_free h _ _) (v_free x ha hb hab)

/-! ===== the law's wrappers ===== -/
theorem KL0 : Cond.classLink RL 13 (EXN 0) ∈ WL := WL_tb 276 (by decide +kernel) (by decide +kernel)
theorem KL1 : Cond.classLink RL 16 (EXN 1) ∈ WL := WL_tb 379 (by decide +kernel) (by decide +kernel)
theorem KL2 : Cond.classLink RL 19 (EXN 2) ∈ WL := WL_tb 380 (by decide +kernel) (by decide +kernel)
theorem KC0 : Cond.castable (EXN 0) (EXN 0) ∈ BD := List.mem_filter.mpr ⟨List.mem_of_getElem? (i := 286) (by decide +kernel), rfl⟩
theorem KC1 : Cond.castable (EXN 1) (EXN 1) ∈ BD := List.mem_filter.mpr ⟨List.mem_of_getElem? (i := 394) (by decide +kernel), rfl⟩
theorem KC2 : Cond.castable (EXN 2) (EXN 2) ∈ BD := List.mem_filter.mpr ⟨List.mem_of_getElem? (i := 418) (by decide +kernel), rfl⟩
theorem KTL_prices_0 : Cat ML_prices 4 0 8 4 2 := ⟨by decide, [], (⟨0, 7, 8, 13⟩ : ExceptionTableEntry), [(⟨0, 7, 13, 16⟩ : ExceptionTableEntry), (⟨0, 7, 18, 19⟩ : ExceptionTableEntry)], rfl, rfl, fun z hz => absurd hz List.not_mem_nil, by decide +kernel, by decide, KL0, KC0, by decide, Or.inl ⟨dL_prices_8, rfl⟩⟩
theorem KTL_prices_1 : Cat ML_prices 4 1 13 4 2 := ⟨by decide, [(⟨0, 7, 8, 13⟩ : ExceptionTableEntry)], (⟨0, 7, 13, 16⟩ : ExceptionTableEntry), [(⟨0, 7, 18, 19⟩ : ExceptionTableEntry)], rfl, rfl, fun z hz => by rw [List.mem_singleton.mp hz]; exact Or.inr ⟨by decide, 0, by decide, by decide, KL0⟩, by decide +kernel, by decide, KL1, KC1, by decide, Or.inl ⟨dL_prices_13, rfl⟩⟩
theorem KTL_prices_2 : Cat ML_prices 4 2 18 4 2 := ⟨by decide, [(⟨0, 7, 8, 13⟩ : ExceptionTableEntry), (⟨0, 7, 13, 16⟩ : ExceptionTableEntry)], (⟨0, 7, 18, 19⟩ : ExceptionTableEntry), [], rfl, rfl, fun z hz => by
    rcases List.mem_cons.mp hz with h9 | h9
    · rw [h9]; exact Or.inr ⟨by decide, 0, by decide, by decide, KL0⟩
    · rw [List.mem_singleton.mp h9]; exact Or.inr ⟨by decide, 1, by decide, by decide, KL1⟩, by decide +kernel, by decide, KL2, KC2, by decide, Or.inl ⟨dL_prices_18, rfl⟩⟩
set_option maxRecDepth 100000 in
set_option maxHeartbeats 4000000 in
theorem w_prices {q q2 : XS} {o : AO} {a b c : Int32} (h : ∀ K : AO → AW → Prop, K o (WX q2) → Snd MX9_setPrices [.ref 0, .int a, .int b, .int c] (WX q) K) (hs : (∃ v, o = .inl (some (.int v))) ∨ ∃ e, o = .inr e ∧ (e = 0 ∨ e = 1 ∨ e = 2)) : CT ML_prices [.int a, .int b, .int c] q q2 (cod o) := by
  intro K hK
  refine Snd.ofH (by decide +kernel) (Nat.le_of_ble_eq_true rfl) rfl rfl ?_
  intro X D dA ad C0
  show Gd X _ ML_prices 0 [some (.ref 0), some (.int a), some (.int b), some (.int c), none] [] _ 0 0
  refine g_aload_n C0 dL_prices_0 rfl ?_
  refine g_iload_n C0 dL_prices_1 rfl ?_
  refine g_iload_n C0 dL_prices_2 rfl ?_
  refine g_iload_n C0 dL_prices_3 rfl ?_
  refine g_invVc (As := [.int a, .int b, .int c]) (n := 3) (st := []) (K2 := fun o2 w2 => o2 = o ∧ w2 = WX q2) C0 dL_prices_4 CL_7 rfl rfl rfl ⟨by decide, by decide, by decide, by decide⟩ (Nat.le_of_ble_eq_true rfl) rfl (h _ ⟨rfl, rfl⟩) (fun v w2 g => ?_) (fun k w2 g => ?_)
  · obtain ⟨g1, rfl⟩ := g
    refine ⟨rfl, ?_⟩
    rcases hs with ⟨v9, g2⟩ | ⟨e9, g2, -⟩
    · rw [g2] at g1 hK
      cases g1
      refine g_iret C0 rfl dL_prices_7 (by decide) (by decide) ?_
      exact hK
    · rw [g2] at g1; cases g1
  · obtain ⟨g1, rfl⟩ := g
    refine ⟨rfl, ?_⟩
    rcases hs with ⟨v9, g2⟩ | ⟨e9, g2, g3⟩
    · rw [g2] at g1; cases g1
    · rw [g2] at g1 hK
      cases g1
      rcases g3 with rfl | rfl | rfl
      · refine ⟨8, 4, 2, KTL_prices_0, ?_⟩
        refine g_ldc C0 KK0 dL_prices_10 ?_
        refine g_iret C0 rfl dL_prices_12 (by decide) (by decide) ?_
        exact hK
      · refine ⟨13, 4, 2, KTL_prices_1, ?_⟩
        refine g_ldc C0 KK1 dL_prices_15 ?_
        refine g_iret C0 rfl dL_prices_17 (by decide) (by decide) ?_
        exact hK
      · refine ⟨18, 4, 2, KTL_prices_2, ?_⟩
        refine g_ldc C0 KK2 dL_prices_20 ?_
        refine g_iret C0 rfl dL_prices_22 (by decide) (by decide) ?_
        exact hK
theorem KTL_delays_0 : Cat ML_delays 3 0 7 3 1 := ⟨by decide, [], (⟨0, 6, 7, 13⟩ : ExceptionTableEntry), [(⟨0, 6, 11, 16⟩ : ExceptionTableEntry)], rfl, rfl, fun z hz => absurd hz List.not_mem_nil, by decide +kernel, by decide, KL0, KC0, by decide, Or.inr ⟨3, rfl, dL_delays_7, rfl⟩⟩
theorem KTL_delays_1 : Cat ML_delays 3 1 11 3 1 := ⟨by decide, [(⟨0, 6, 7, 13⟩ : ExceptionTableEntry)], (⟨0, 6, 11, 16⟩ : ExceptionTableEntry), [], rfl, rfl, fun z hz => by rw [List.mem_singleton.mp hz]; exact Or.inr ⟨by decide, 0, by decide, by decide, KL0⟩, by decide +kernel, by decide, KL1, KC1, by decide, Or.inr ⟨3, rfl, dL_delays_11, rfl⟩⟩
set_option maxRecDepth 100000 in
set_option maxHeartbeats 4000000 in
theorem w_delays {q q2 : XS} {o : AO} {a b : Int32} (h : ∀ K : AO → AW → Prop, K o (WX q2) → Snd MX9_setDelay [.ref 0, .int a, .int b] (WX q) K) (hs : (∃ v, o = .inl (some (.int v))) ∨ ∃ e, o = .inr e ∧ (e = 0 ∨ e = 1)) : CT ML_delays [.int a, .int b] q q2 (cod o) := by
  intro K hK
  refine Snd.ofH (by decide +kernel) (Nat.le_of_ble_eq_true rfl) rfl rfl ?_
  intro X D dA ad C0
  show Gd X _ ML_delays 0 [some (.ref 0), some (.int a), some (.int b), none] [] _ 0 0
  refine g_aload_n C0 dL_delays_0 rfl ?_
  refine g_iload_n C0 dL_delays_1 rfl ?_
  refine g_iload_n C0 dL_delays_2 rfl ?_
  refine g_invVc (As := [.int a, .int b]) (n := 2) (st := []) (K2 := fun o2 w2 => o2 = o ∧ w2 = WX q2) C0 dL_delays_3 CL_22 rfl rfl rfl ⟨by decide, by decide, by decide, by decide⟩ (Nat.le_of_ble_eq_true rfl) rfl (h _ ⟨rfl, rfl⟩) (fun v w2 g => ?_) (fun k w2 g => ?_)
  · obtain ⟨g1, rfl⟩ := g
    refine ⟨rfl, ?_⟩
    rcases hs with ⟨v9, g2⟩ | ⟨e9, g2, -⟩
    · rw [g2] at g1 hK
      cases g1
      refine g_iret C0 rfl dL_delays_6 (by decide) (by decide) ?_
      exact hK
    · rw [g2] at g1; cases g1
  · obtain ⟨g1, rfl⟩ := g
    refine ⟨rfl, ?_⟩
    rcases hs with ⟨v9, g2⟩ | ⟨e9, g2, g3⟩
    · rw [g2] at g1; cases g1
    · rw [g2] at g1 hK
      cases g1
      rcases g3 with rfl | rfl
      · refine ⟨7, 3, 1, KTL_delays_0, ?_⟩
        refine g_ldc C0 KK0 dL_delays_8 ?_
        refine g_iret C0 rfl dL_delays_10 (by decide) (by decide) ?_
        exact hK
      · refine ⟨11, 3, 1, KTL_delays_1, ?_⟩
        refine g_ldc C0 KK1 dL_delays_12 ?_
        refine g_iret C0 rfl dL_delays_14 (by decide) (by decide) ?_
        exact hK
theorem KTL_lines_0 : Cat ML_lines 4 0 8 4 2 := ⟨by decide, [], (⟨0, 7, 8, 13⟩ : ExceptionTableEntry), [(⟨0, 7, 13, 16⟩ : ExceptionTableEntry)], rfl, rfl, fun z hz => absurd hz List.not_mem_nil, by decide +kernel, by decide, KL0, KC0, by decide, Or.inl ⟨dL_lines_8, rfl⟩⟩
theorem KTL_lines_1 : Cat ML_lines 4 1 13 4 2 := ⟨by decide, [(⟨0, 7, 8, 13⟩ : ExceptionTableEntry)], (⟨0, 7, 13, 16⟩ : ExceptionTableEntry), [], rfl, rfl, fun z hz => by rw [List.mem_singleton.mp hz]; exact Or.inr ⟨by decide, 0, by decide, by decide, KL0⟩, by decide +kernel, by decide, KL1, KC1, by decide, Or.inl ⟨dL_lines_13, rfl⟩⟩
set_option maxRecDepth 100000 in
set_option maxHeartbeats 4000000 in
theorem w_lines {q q2 : XS} {o : AO} {a b c : Int32} (h : ∀ K : AO → AW → Prop, K o (WX q2) → Snd MX9_setTrunk [.ref 0, .int a, .int b, .int c] (WX q) K) (hs : (∃ v, o = .inl (some (.int v))) ∨ ∃ e, o = .inr e ∧ (e = 0 ∨ e = 1)) : CT ML_lines [.int a, .int b, .int c] q q2 (cod o) := by
  intro K hK
  refine Snd.ofH (by decide +kernel) (Nat.le_of_ble_eq_true rfl) rfl rfl ?_
  intro X D dA ad C0
  show Gd X _ ML_lines 0 [some (.ref 0), some (.int a), some (.int b), some (.int c), none] [] _ 0 0
  refine g_aload_n C0 dL_lines_0 rfl ?_
  refine g_iload_n C0 dL_lines_1 rfl ?_
  refine g_iload_n C0 dL_lines_2 rfl ?_
  refine g_iload_n C0 dL_lines_3 rfl ?_
  refine g_invVc (As := [.int a, .int b, .int c]) (n := 3) (st := []) (K2 := fun o2 w2 => o2 = o ∧ w2 = WX q2) C0 dL_lines_4 CL_26 rfl rfl rfl ⟨by decide, by decide, by decide, by decide⟩ (Nat.le_of_ble_eq_true rfl) rfl (h _ ⟨rfl, rfl⟩) (fun v w2 g => ?_) (fun k w2 g => ?_)
  · obtain ⟨g1, rfl⟩ := g
    refine ⟨rfl, ?_⟩
    rcases hs with ⟨v9, g2⟩ | ⟨e9, g2, -⟩
    · rw [g2] at g1 hK
      cases g1
      refine g_iret C0 rfl dL_lines_7 (by decide) (by decide) ?_
      exact hK
    · rw [g2] at g1; cases g1
  · obtain ⟨g1, rfl⟩ := g
    refine ⟨rfl, ?_⟩
    rcases hs with ⟨v9, g2⟩ | ⟨e9, g2, g3⟩
    · rw [g2] at g1; cases g1
    · rw [g2] at g1 hK
      cases g1
      rcases g3 with rfl | rfl
      · refine ⟨8, 4, 2, KTL_lines_0, ?_⟩
        refine g_ldc C0 KK0 dL_lines_10 ?_
        refine g_iret C0 rfl dL_lines_12 (by decide) (by decide) ?_
        exact hK
      · refine ⟨13, 4, 2, KTL_lines_1, ?_⟩
        refine g_ldc C0 KK1 dL_lines_15 ?_
        refine g_iret C0 rfl dL_lines_17 (by decide) (by decide) ?_
        exact hK
theorem KTL_ports_0 : Cat ML_ports 3 0 7 3 1 := ⟨by decide, [], (⟨0, 6, 7, 13⟩ : ExceptionTableEntry), [(⟨0, 6, 11, 19⟩ : ExceptionTableEntry)], rfl, rfl, fun z hz => absurd hz List.not_mem_nil, by decide +kernel, by decide, KL0, KC0, by decide, Or.inr ⟨3, rfl, dL_ports_7, rfl⟩⟩
theorem KTL_ports_2 : Cat ML_ports 3 2 11 3 1 := ⟨by decide, [(⟨0, 6, 7, 13⟩ : ExceptionTableEntry)], (⟨0, 6, 11, 19⟩ : ExceptionTableEntry), [], rfl, rfl, fun z hz => by rw [List.mem_singleton.mp hz]; exact Or.inr ⟨by decide, 0, by decide, by decide, KL0⟩, by decide +kernel, by decide, KL2, KC2, by decide, Or.inr ⟨3, rfl, dL_ports_11, rfl⟩⟩
set_option maxRecDepth 100000 in
set_option maxHeartbeats 4000000 in
theorem w_ports {q q2 : XS} {o : AO} {a b : Int32} (h : ∀ K : AO → AW → Prop, K o (WX q2) → Snd MX9_port [.ref 0, .int a, .int b] (WX q) K) (hs : (∃ v, o = .inl (some (.int v))) ∨ ∃ e, o = .inr e ∧ (e = 0 ∨ e = 2)) : CT ML_ports [.int a, .int b] q q2 (cod o) := by
  intro K hK
  refine Snd.ofH (by decide +kernel) (Nat.le_of_ble_eq_true rfl) rfl rfl ?_
  intro X D dA ad C0
  show Gd X _ ML_ports 0 [some (.ref 0), some (.int a), some (.int b), none] [] _ 0 0
  refine g_aload_n C0 dL_ports_0 rfl ?_
  refine g_iload_n C0 dL_ports_1 rfl ?_
  refine g_iload_n C0 dL_ports_2 rfl ?_
  refine g_invVc (As := [.int a, .int b]) (n := 2) (st := []) (K2 := fun o2 w2 => o2 = o ∧ w2 = WX q2) C0 dL_ports_3 CL_29 rfl rfl rfl ⟨by decide, by decide, by decide, by decide⟩ (Nat.le_of_ble_eq_true rfl) rfl (h _ ⟨rfl, rfl⟩) (fun v w2 g => ?_) (fun k w2 g => ?_)
  · obtain ⟨g1, rfl⟩ := g
    refine ⟨rfl, ?_⟩
    rcases hs with ⟨v9, g2⟩ | ⟨e9, g2, -⟩
    · rw [g2] at g1 hK
      cases g1
      refine g_iret C0 rfl dL_ports_6 (by decide) (by decide) ?_
      exact hK
    · rw [g2] at g1; cases g1
  · obtain ⟨g1, rfl⟩ := g
    refine ⟨rfl, ?_⟩
    rcases hs with ⟨v9, g2⟩ | ⟨e9, g2, g3⟩
    · rw [g2] at g1; cases g1
    · rw [g2] at g1 hK
      cases g1
      rcases g3 with rfl | rfl
      · refine ⟨7, 3, 1, KTL_ports_0, ?_⟩
        refine g_ldc C0 KK0 dL_ports_8 ?_
        refine g_iret C0 rfl dL_ports_10 (by decide) (by decide) ?_
        exact hK
      · refine ⟨11, 3, 1, KTL_ports_2, ?_⟩
        refine g_ldc C0 KK2 dL_ports_12 ?_
        refine g_iret C0 rfl dL_ports_14 (by decide) (by decide) ?_
        exact hK
theorem KTL_sells_0 : Cat ML_sells 3 0 7 3 1 := ⟨by decide, [], (⟨0, 6, 7, 13⟩ : ExceptionTableEntry), [(⟨0, 6, 11, 19⟩ : ExceptionTableEntry)], rfl, rfl, fun z hz => absurd hz List.not_mem_nil, by decide +kernel, by decide, KL0, KC0, by decide, Or.inr ⟨3, rfl, dL_sells_7, rfl⟩⟩
theorem KTL_sells_2 : Cat ML_sells 3 2 11 3 1 := ⟨by decide, [(⟨0, 6, 7, 13⟩ : ExceptionTableEntry)], (⟨0, 6, 11, 19⟩ : ExceptionTableEntry), [], rfl, rfl, fun z hz => by rw [List.mem_singleton.mp hz]; exact Or.inr ⟨by decide, 0, by decide, by decide, KL0⟩, by decide +kernel, by decide, KL2, KC2, by decide, Or.inr ⟨3, rfl, dL_sells_11, rfl⟩⟩
set_option maxRecDepth 100000 in
set_option maxHeartbeats 4000000 in
theorem w_sells {q q2 : XS} {o : AO} {a b : Int32} (h : ∀ K : AO → AW → Prop, K o (WX q2) → Snd MX9_sell [.ref 0, .int a, .int b] (WX q) K) (hs : (∃ v, o = .inl (some (.int v))) ∨ ∃ e, o = .inr e ∧ (e = 0 ∨ e = 2)) : CT ML_sells [.int a, .int b] q q2 (cod o) := by
  intro K hK
  refine Snd.ofH (by decide +kernel) (Nat.le_of_ble_eq_true rfl) rfl rfl ?_
  intro X D dA ad C0
  show Gd X _ ML_sells 0 [some (.ref 0), some (.int a), some (.int b), none] [] _ 0 0
  refine g_aload_n C0 dL_sells_0 rfl ?_
  refine g_iload_n C0 dL_sells_1 rfl ?_
  refine g_iload_n C0 dL_sells_2 rfl ?_
  refine g_invVc (As := [.int a, .int b]) (n := 2) (st := []) (K2 := fun o2 w2 => o2 = o ∧ w2 = WX q2) C0 dL_sells_3 CL_32 rfl rfl rfl ⟨by decide, by decide, by decide, by decide⟩ (Nat.le_of_ble_eq_true rfl) rfl (h _ ⟨rfl, rfl⟩) (fun v w2 g => ?_) (fun k w2 g => ?_)
  · obtain ⟨g1, rfl⟩ := g
    refine ⟨rfl, ?_⟩
    rcases hs with ⟨v9, g2⟩ | ⟨e9, g2, -⟩
    · rw [g2] at g1 hK
      cases g1
      refine g_iret C0 rfl dL_sells_6 (by decide) (by decide) ?_
      exact hK
    · rw [g2] at g1; cases g1
  · obtain ⟨g1, rfl⟩ := g
    refine ⟨rfl, ?_⟩
    rcases hs with ⟨v9, g2⟩ | ⟨e9, g2, g3⟩
    · rw [g2] at g1; cases g1
    · rw [g2] at g1 hK
      cases g1
      rcases g3 with rfl | rfl
      · refine ⟨7, 3, 1, KTL_sells_0, ?_⟩
        refine g_ldc C0 KK0 dL_sells_8 ?_
        refine g_iret C0 rfl dL_sells_10 (by decide) (by decide) ?_
        exact hK
      · refine ⟨11, 3, 1, KTL_sells_2, ?_⟩
        refine g_ldc C0 KK2 dL_sells_12 ?_
        refine g_iret C0 rfl dL_sells_14 (by decide) (by decide) ?_
        exact hK
theorem KTL_bonds_0 : Cat ML_bonds 3 0 7 3 1 := ⟨by decide, [], (⟨0, 6, 7, 13⟩ : ExceptionTableEntry), [(⟨0, 6, 11, 16⟩ : ExceptionTableEntry), (⟨0, 6, 15, 19⟩ : ExceptionTableEntry)], rfl, rfl, fun z hz => absurd hz List.not_mem_nil, by decide +kernel, by decide, KL0, KC0, by decide, Or.inr ⟨3, rfl, dL_bonds_7, rfl⟩⟩
theorem KTL_bonds_1 : Cat ML_bonds 3 1 11 3 1 := ⟨by decide, [(⟨0, 6, 7, 13⟩ : ExceptionTableEntry)], (⟨0, 6, 11, 16⟩ : ExceptionTableEntry), [(⟨0, 6, 15, 19⟩ : ExceptionTableEntry)], rfl, rfl, fun z hz => by rw [List.mem_singleton.mp hz]; exact Or.inr ⟨by decide, 0, by decide, by decide, KL0⟩, by decide +kernel, by decide, KL1, KC1, by decide, Or.inr ⟨3, rfl, dL_bonds_11, rfl⟩⟩
theorem KTL_bonds_2 : Cat ML_bonds 3 2 15 3 1 := ⟨by decide, [(⟨0, 6, 7, 13⟩ : ExceptionTableEntry), (⟨0, 6, 11, 16⟩ : ExceptionTableEntry)], (⟨0, 6, 15, 19⟩ : ExceptionTableEntry), [], rfl, rfl, fun z hz => by
    rcases List.mem_cons.mp hz with h9 | h9
    · rw [h9]; exact Or.inr ⟨by decide, 0, by decide, by decide, KL0⟩
    · rw [List.mem_singleton.mp h9]; exact Or.inr ⟨by decide, 1, by decide, by decide, KL1⟩, by decide +kernel, by decide, KL2, KC2, by decide, Or.inr ⟨3, rfl, dL_bonds_15, rfl⟩⟩
set_option maxRecDepth 100000 in
set_option maxHeartbeats 4000000 in
theorem w_bonds {q q2 : XS} {o : AO} {a b : Int32} (h : ∀ K : AO → AW → Prop, K o (WX q2) → Snd MX9_bond [.ref 0, .int a, .int b] (WX q) K) (hs : (∃ v, o = .inl (some (.int v))) ∨ ∃ e, o = .inr e ∧ (e = 0 ∨ e = 1 ∨ e = 2)) : CT ML_bonds [.int a, .int b] q q2 (cod o) := by
  intro K hK
  refine Snd.ofH (by decide +kernel) (Nat.le_of_ble_eq_true rfl) rfl rfl ?_
  intro X D dA ad C0
  show Gd X _ ML_bonds 0 [some (.ref 0), some (.int a), some (.int b), none] [] _ 0 0
  refine g_aload_n C0 dL_bonds_0 rfl ?_
  refine g_iload_n C0 dL_bonds_1 rfl ?_
  refine g_iload_n C0 dL_bonds_2 rfl ?_
  refine g_invVc (As := [.int a, .int b]) (n := 2) (st := []) (K2 := fun o2 w2 => o2 = o ∧ w2 = WX q2) C0 dL_bonds_3 CL_35 rfl rfl rfl ⟨by decide, by decide, by decide, by decide⟩ (Nat.le_of_ble_eq_true rfl) rfl (h _ ⟨rfl, rfl⟩) (fun v w2 g => ?_) (fun k w2 g => ?_)
  · obtain ⟨g1, rfl⟩ := g
    refine ⟨rfl, ?_⟩
    rcases hs with ⟨v9, g2⟩ | ⟨e9, g2, -⟩
    · rw [g2] at g1 hK
      cases g1
      refine g_iret C0 rfl dL_bonds_6 (by decide) (by decide) ?_
      exact hK
    · rw [g2] at g1; cases g1
  · obtain ⟨g1, rfl⟩ := g
    refine ⟨rfl, ?_⟩
    rcases hs with ⟨v9, g2⟩ | ⟨e9, g2, g3⟩
    · rw [g2] at g1; cases g1
    · rw [g2] at g1 hK
      cases g1
      rcases g3 with rfl | rfl | rfl
      · refine ⟨7, 3, 1, KTL_bonds_0, ?_⟩
        refine g_ldc C0 KK0 dL_bonds_8 ?_
        refine g_iret C0 rfl dL_bonds_10 (by decide) (by decide) ?_
        exact hK
      · refine ⟨11, 3, 1, KTL_bonds_1, ?_⟩
        refine g_ldc C0 KK1 dL_bonds_12 ?_
        refine g_iret C0 rfl dL_bonds_14 (by decide) (by decide) ?_
        exact hK
      · refine ⟨15, 3, 1, KTL_bonds_2, ?_⟩
        refine g_ldc C0 KK2 dL_bonds_16 ?_
        refine g_iret C0 rfl dL_bonds_18 (by decide) (by decide) ?_
        exact hK
theorem KTL_pays_0 : Cat ML_pays 3 0 7 3 1 := ⟨by decide, [], (⟨0, 6, 7, 13⟩ : ExceptionTableEntry), [(⟨0, 6, 11, 16⟩ : ExceptionTableEntry)], rfl, rfl, fun z hz => absurd hz List.not_mem_nil, by decide +kernel, by decide, KL0, KC0, by decide, Or.inr ⟨3, rfl, dL_pays_7, rfl⟩⟩
theorem KTL_pays_1 : Cat ML_pays 3 1 11 3 1 := ⟨by decide, [(⟨0, 6, 7, 13⟩ : ExceptionTableEntry)], (⟨0, 6, 11, 16⟩ : ExceptionTableEntry), [], rfl, rfl, fun z hz => by rw [List.mem_singleton.mp hz]; exact Or.inr ⟨by decide, 0, by decide, by decide, KL0⟩, by decide +kernel, by decide, KL1, KC1, by decide, Or.inr ⟨3, rfl, dL_pays_11, rfl⟩⟩
set_option maxRecDepth 100000 in
set_option maxHeartbeats 4000000 in
theorem w_pays {q q2 : XS} {o : AO} {a b : Int32} (h : ∀ K : AO → AW → Prop, K o (WX q2) → Snd MX9_pay [.ref 0, .int a, .int b] (WX q) K) (hs : (∃ v, o = .inl (some (.int v))) ∨ ∃ e, o = .inr e ∧ (e = 0 ∨ e = 1)) : CT ML_pays [.int a, .int b] q q2 (cod o) := by
  intro K hK
  refine Snd.ofH (by decide +kernel) (Nat.le_of_ble_eq_true rfl) rfl rfl ?_
  intro X D dA ad C0
  show Gd X _ ML_pays 0 [some (.ref 0), some (.int a), some (.int b), none] [] _ 0 0
  refine g_aload_n C0 dL_pays_0 rfl ?_
  refine g_iload_n C0 dL_pays_1 rfl ?_
  refine g_iload_n C0 dL_pays_2 rfl ?_
  refine g_invVc (As := [.int a, .int b]) (n := 2) (st := []) (K2 := fun o2 w2 => o2 = o ∧ w2 = WX q2) C0 dL_pays_3 CL_38 rfl rfl rfl ⟨by decide, by decide, by decide, by decide⟩ (Nat.le_of_ble_eq_true rfl) rfl (h _ ⟨rfl, rfl⟩) (fun v w2 g => ?_) (fun k w2 g => ?_)
  · obtain ⟨g1, rfl⟩ := g
    refine ⟨rfl, ?_⟩
    rcases hs with ⟨v9, g2⟩ | ⟨e9, g2, -⟩
    · rw [g2] at g1 hK
      cases g1
      refine g_iret C0 rfl dL_pays_6 (by decide) (by decide) ?_
      exact hK
    · rw [g2] at g1; cases g1
  · obtain ⟨g1, rfl⟩ := g
    refine ⟨rfl, ?_⟩
    rcases hs with ⟨v9, g2⟩ | ⟨e9, g2, g3⟩
    · rw [g2] at g1; cases g1
    · rw [g2] at g1 hK
      cases g1
      rcases g3 with rfl | rfl
      · refine ⟨7, 3, 1, KTL_pays_0, ?_⟩
        refine g_ldc C0 KK0 dL_pays_8 ?_
        refine g_iret C0 rfl dL_pays_10 (by decide) (by decide) ?_
        exact hK
      · refine ⟨11, 3, 1, KTL_pays_1, ?_⟩
        refine g_ldc C0 KK1 dL_pays_12 ?_
        refine g_iret C0 rfl dL_pays_14 (by decide) (by decide) ?_
        exact hK
theorem KTL_judges_0 : Cat ML_judges 2 0 6 2 1 := ⟨by decide, [], (⟨0, 5, 6, 13⟩ : ExceptionTableEntry), [(⟨0, 5, 10, 19⟩ : ExceptionTableEntry)], rfl, rfl, fun z hz => absurd hz List.not_mem_nil, by decide +kernel, by decide, KL0, KC0, by decide, Or.inr ⟨2, rfl, dL_judges_6, rfl⟩⟩
theorem KTL_judges_2 : Cat ML_judges 2 2 10 2 1 := ⟨by decide, [(⟨0, 5, 6, 13⟩ : ExceptionTableEntry)], (⟨0, 5, 10, 19⟩ : ExceptionTableEntry), [], rfl, rfl, fun z hz => by rw [List.mem_singleton.mp hz]; exact Or.inr ⟨by decide, 0, by decide, by decide, KL0⟩, by decide +kernel, by decide, KL2, KC2, by decide, Or.inr ⟨2, rfl, dL_judges_10, rfl⟩⟩
set_option maxRecDepth 100000 in
set_option maxHeartbeats 4000000 in
theorem w_judges {q q2 : XS} {o : AO} {a : Int32} (h : ∀ K : AO → AW → Prop, K o (WX q2) → Snd MX9_judge [.ref 0, .int a] (WX q) K) (hs : (∃ v, o = .inl (some (.int v))) ∨ ∃ e, o = .inr e ∧ (e = 0 ∨ e = 2)) : CT ML_judges [.int a] q q2 (cod o) := by
  intro K hK
  refine Snd.ofH (by decide +kernel) (Nat.le_of_ble_eq_true rfl) rfl rfl ?_
  intro X D dA ad C0
  show Gd X _ ML_judges 0 [some (.ref 0), some (.int a), none] [] _ 0 0
  refine g_aload_n C0 dL_judges_0 rfl ?_
  refine g_iload_n C0 dL_judges_1 rfl ?_
  refine g_invVc (As := [.int a]) (n := 1) (st := []) (K2 := fun o2 w2 => o2 = o ∧ w2 = WX q2) C0 dL_judges_2 CL_41 rfl rfl rfl ⟨by decide, by decide, by decide, by decide⟩ (Nat.le_of_ble_eq_true rfl) rfl (h _ ⟨rfl, rfl⟩) (fun v w2 g => ?_) (fun k w2 g => ?_)
  · obtain ⟨g1, rfl⟩ := g
    refine ⟨rfl, ?_⟩
    rcases hs with ⟨v9, g2⟩ | ⟨e9, g2, -⟩
    · rw [g2] at g1 hK
      cases g1
      refine g_iret C0 rfl dL_judges_5 (by decide) (by decide) ?_
      exact hK
    · rw [g2] at g1; cases g1
  · obtain ⟨g1, rfl⟩ := g
    refine ⟨rfl, ?_⟩
    rcases hs with ⟨v9, g2⟩ | ⟨e9, g2, g3⟩
    · rw [g2] at g1; cases g1
    · rw [g2] at g1 hK
      cases g1
      rcases g3 with rfl | rfl
      · refine ⟨6, 2, 1, KTL_judges_0, ?_⟩
        refine g_ldc C0 KK0 dL_judges_7 ?_
        refine g_iret C0 rfl dL_judges_9 (by decide) (by decide) ?_
        exact hK
      · refine ⟨10, 2, 1, KTL_judges_2, ?_⟩
        refine g_ldc C0 KK2 dL_judges_11 ?_
        refine g_iret C0 rfl dL_judges_13 (by decide) (by decide) ?_
        exact hK
theorem KTL_rings_0 : Cat ML_rings 3 0 7 3 1 := ⟨by decide, [], (⟨0, 6, 7, 13⟩ : ExceptionTableEntry), [(⟨0, 6, 11, 16⟩ : ExceptionTableEntry), (⟨0, 6, 15, 19⟩ : ExceptionTableEntry)], rfl, rfl, fun z hz => absurd hz List.not_mem_nil, by decide +kernel, by decide, KL0, KC0, by decide, Or.inr ⟨3, rfl, dL_rings_7, rfl⟩⟩
theorem KTL_rings_1 : Cat ML_rings 3 1 11 3 1 := ⟨by decide, [(⟨0, 6, 7, 13⟩ : ExceptionTableEntry)], (⟨0, 6, 11, 16⟩ : ExceptionTableEntry), [(⟨0, 6, 15, 19⟩ : ExceptionTableEntry)], rfl, rfl, fun z hz => by rw [List.mem_singleton.mp hz]; exact Or.inr ⟨by decide, 0, by decide, by decide, KL0⟩, by decide +kernel, by decide, KL1, KC1, by decide, Or.inr ⟨3, rfl, dL_rings_11, rfl⟩⟩
theorem KTL_rings_2 : Cat ML_rings 3 2 15 3 1 := ⟨by decide, [(⟨0, 6, 7, 13⟩ : ExceptionTableEntry), (⟨0, 6, 11, 16⟩ : ExceptionTableEntry)], (⟨0, 6, 15, 19⟩ : ExceptionTableEntry), [], rfl, rfl, fun z hz => by
    rcases List.mem_cons.mp hz with h9 | h9
    · rw [h9]; exact Or.inr ⟨by decide, 0, by decide, by decide, KL0⟩
    · rw [List.mem_singleton.mp h9]; exact Or.inr ⟨by decide, 1, by decide, by decide, KL1⟩, by decide +kernel, by decide, KL2, KC2, by decide, Or.inr ⟨3, rfl, dL_rings_15, rfl⟩⟩
set_option maxRecDepth 100000 in
set_option maxHeartbeats 4000000 in
theorem w_rings {q q2 : XS} {o : AO} {a b : Int32} (h : ∀ K : AO → AW → Prop, K o (WX q2) → Snd MX9_call [.ref 0, .int a, .int b] (WX q) K) (hs : (∃ v, o = .inl (some (.int v))) ∨ ∃ e, o = .inr e ∧ (e = 0 ∨ e = 1 ∨ e = 2)) : CT ML_rings [.int a, .int b] q q2 (cod o) := by
  intro K hK
  refine Snd.ofH (by decide +kernel) (Nat.le_of_ble_eq_true rfl) rfl rfl ?_
  intro X D dA ad C0
  show Gd X _ ML_rings 0 [some (.ref 0), some (.int a), some (.int b), none] [] _ 0 0
  refine g_aload_n C0 dL_rings_0 rfl ?_
  refine g_iload_n C0 dL_rings_1 rfl ?_
  refine g_iload_n C0 dL_rings_2 rfl ?_
  refine g_invVc (As := [.int a, .int b]) (n := 2) (st := []) (K2 := fun o2 w2 => o2 = o ∧ w2 = WX q2) C0 dL_rings_3 CL_45 rfl rfl rfl ⟨by decide, by decide, by decide, by decide⟩ (Nat.le_of_ble_eq_true rfl) rfl (h _ ⟨rfl, rfl⟩) (fun v w2 g => ?_) (fun k w2 g => ?_)
  · obtain ⟨g1, rfl⟩ := g
    refine ⟨rfl, ?_⟩
    rcases hs with ⟨v9, g2⟩ | ⟨e9, g2, -⟩
    · rw [g2] at g1 hK
      cases g1
      refine g_iret C0 rfl dL_rings_6 (by decide) (by decide) ?_
      exact hK
    · rw [g2] at g1; cases g1
  · obtain ⟨g1, rfl⟩ := g
    refine ⟨rfl, ?_⟩
    rcases hs with ⟨v9, g2⟩ | ⟨e9, g2, g3⟩
    · rw [g2] at g1; cases g1
    · rw [g2] at g1 hK
      cases g1
      rcases g3 with rfl | rfl | rfl
      · refine ⟨7, 3, 1, KTL_rings_0, ?_⟩
        refine g_ldc C0 KK0 dL_rings_8 ?_
        refine g_iret C0 rfl dL_rings_10 (by decide) (by decide) ?_
        exact hK
      · refine ⟨11, 3, 1, KTL_rings_1, ?_⟩
        refine g_ldc C0 KK1 dL_rings_12 ?_
        refine g_iret C0 rfl dL_rings_14 (by decide) (by decide) ?_
        exact hK
      · refine ⟨15, 3, 1, KTL_rings_2, ?_⟩
        refine g_ldc C0 KK2 dL_rings_16 ?_
        refine g_iret C0 rfl dL_rings_18 (by decide) (by decide) ?_
        exact hK
theorem KTL_hangs_0 : Cat ML_hangs 2 0 6 2 1 := ⟨by decide, [], (⟨0, 5, 6, 13⟩ : ExceptionTableEntry), [(⟨0, 5, 10, 19⟩ : ExceptionTableEntry)], rfl, rfl, fun z hz => absurd hz List.not_mem_nil, by decide +kernel, by decide, KL0, KC0, by decide, Or.inr ⟨2, rfl, dL_hangs_6, rfl⟩⟩
theorem KTL_hangs_2 : Cat ML_hangs 2 2 10 2 1 := ⟨by decide, [(⟨0, 5, 6, 13⟩ : ExceptionTableEntry)], (⟨0, 5, 10, 19⟩ : ExceptionTableEntry), [], rfl, rfl, fun z hz => by rw [List.mem_singleton.mp hz]; exact Or.inr ⟨by decide, 0, by decide, by decide, KL0⟩, by decide +kernel, by decide, KL2, KC2, by decide, Or.inr ⟨2, rfl, dL_hangs_10, rfl⟩⟩
set_option maxRecDepth 100000 in
set_option maxHeartbeats 4000000 in
theorem w_hangs {q q2 : XS} {o : AO} {a : Int32} (h : ∀ K : AO → AW → Prop, K o (WX q2) → Snd MX9_hangUp [.ref 0, .int a] (WX q) K) (hs : (∃ v, o = .inl (some (.int v))) ∨ ∃ e, o = .inr e ∧ (e = 0 ∨ e = 2)) : CT ML_hangs [.int a] q q2 (cod o) := by
  intro K hK
  refine Snd.ofH (by decide +kernel) (Nat.le_of_ble_eq_true rfl) rfl rfl ?_
  intro X D dA ad C0
  show Gd X _ ML_hangs 0 [some (.ref 0), some (.int a), none] [] _ 0 0
  refine g_aload_n C0 dL_hangs_0 rfl ?_
  refine g_iload_n C0 dL_hangs_1 rfl ?_
  refine g_invVc (As := [.int a]) (n := 1) (st := []) (K2 := fun o2 w2 => o2 = o ∧ w2 = WX q2) C0 dL_hangs_2 CL_48 rfl rfl rfl ⟨by decide, by decide, by decide, by decide⟩ (Nat.le_of_ble_eq_true rfl) rfl (h _ ⟨rfl, rfl⟩) (fun v w2 g => ?_) (fun k w2 g => ?_)
  · obtain ⟨g1, rfl⟩ := g
    refine ⟨rfl, ?_⟩
    rcases hs with ⟨v9, g2⟩ | ⟨e9, g2, -⟩
    · rw [g2] at g1 hK
      cases g1
      refine g_iret C0 rfl dL_hangs_5 (by decide) (by decide) ?_
      exact hK
    · rw [g2] at g1; cases g1
  · obtain ⟨g1, rfl⟩ := g
    refine ⟨rfl, ?_⟩
    rcases hs with ⟨v9, g2⟩ | ⟨e9, g2, g3⟩
    · rw [g2] at g1; cases g1
    · rw [g2] at g1 hK
      cases g1
      rcases g3 with rfl | rfl
      · refine ⟨6, 2, 1, KTL_hangs_0, ?_⟩
        refine g_ldc C0 KK0 dL_hangs_7 ?_
        refine g_iret C0 rfl dL_hangs_9 (by decide) (by decide) ?_
        exact hK
      · refine ⟨10, 2, 1, KTL_hangs_2, ?_⟩
        refine g_ldc C0 KK2 dL_hangs_11 ?_
        refine g_iret C0 rfl dL_hangs_13 (by decide) (by decide) ?_
        exact hK
theorem KTL_passes_1 : Cat ML_passes 2 1 6 2 1 := ⟨by decide, [], (⟨0, 5, 6, 16⟩ : ExceptionTableEntry), [(⟨0, 5, 10, 19⟩ : ExceptionTableEntry)], rfl, rfl, fun z hz => absurd hz List.not_mem_nil, by decide +kernel, by decide, KL1, KC1, by decide, Or.inr ⟨2, rfl, dL_passes_6, rfl⟩⟩
theorem KTL_passes_2 : Cat ML_passes 2 2 10 2 1 := ⟨by decide, [(⟨0, 5, 6, 16⟩ : ExceptionTableEntry)], (⟨0, 5, 10, 19⟩ : ExceptionTableEntry), [], rfl, rfl, fun z hz => by rw [List.mem_singleton.mp hz]; exact Or.inr ⟨by decide, 1, by decide, by decide, KL1⟩, by decide +kernel, by decide, KL2, KC2, by decide, Or.inr ⟨2, rfl, dL_passes_10, rfl⟩⟩
set_option maxRecDepth 100000 in
set_option maxHeartbeats 4000000 in
theorem w_passes {q q2 : XS} {o : AO} {a : Int32} (h : ∀ K : AO → AW → Prop, K o (WX q2) → Snd MX9_pass [.ref 0, .int a] (WX q) K) (hs : (∃ v, o = .inl (some (.int v))) ∨ ∃ e, o = .inr e ∧ (e = 1 ∨ e = 2)) : CT ML_passes [.int a] q q2 (cod o) := by
  intro K hK
  refine Snd.ofH (by decide +kernel) (Nat.le_of_ble_eq_true rfl) rfl rfl ?_
  intro X D dA ad C0
  show Gd X _ ML_passes 0 [some (.ref 0), some (.int a), none] [] _ 0 0
  refine g_aload_n C0 dL_passes_0 rfl ?_
  refine g_iload_n C0 dL_passes_1 rfl ?_
  refine g_invVc (As := [.int a]) (n := 1) (st := []) (K2 := fun o2 w2 => o2 = o ∧ w2 = WX q2) C0 dL_passes_2 CL_51 rfl rfl rfl ⟨by decide, by decide, by decide, by decide⟩ (Nat.le_of_ble_eq_true rfl) rfl (h _ ⟨rfl, rfl⟩) (fun v w2 g => ?_) (fun k w2 g => ?_)
  · obtain ⟨g1, rfl⟩ := g
    refine ⟨rfl, ?_⟩
    rcases hs with ⟨v9, g2⟩ | ⟨e9, g2, -⟩
    · rw [g2] at g1 hK
      cases g1
      refine g_iret C0 rfl dL_passes_5 (by decide) (by decide) ?_
      exact hK
    · rw [g2] at g1; cases g1
  · obtain ⟨g1, rfl⟩ := g
    refine ⟨rfl, ?_⟩
    rcases hs with ⟨v9, g2⟩ | ⟨e9, g2, g3⟩
    · rw [g2] at g1; cases g1
    · rw [g2] at g1 hK
      cases g1
      rcases g3 with rfl | rfl
      · refine ⟨6, 2, 1, KTL_passes_1, ?_⟩
        refine g_ldc C0 KK1 dL_passes_7 ?_
        refine g_iret C0 rfl dL_passes_9 (by decide) (by decide) ?_
        exact hK
      · refine ⟨10, 2, 1, KTL_passes_2, ?_⟩
        refine g_ldc C0 KK2 dL_passes_11 ?_
        refine g_iret C0 rfl dL_passes_13 (by decide) (by decide) ?_
        exact hK
theorem KTL_carrier_0 : Cat ML_carrier 2 0 6 2 1 := ⟨by decide, [], (⟨0, 5, 6, 13⟩ : ExceptionTableEntry), [], rfl, rfl, fun z hz => absurd hz List.not_mem_nil, by decide +kernel, by decide, KL0, KC0, by decide, Or.inr ⟨2, rfl, dL_carrier_6, rfl⟩⟩
set_option maxRecDepth 100000 in
set_option maxHeartbeats 4000000 in
theorem w_carrier {q q2 : XS} {o : AO} {a : Int32} (h : ∀ K : AO → AW → Prop, K o (WX q2) → Snd MX9_carrierOf [.ref 0, .int a] (WX q) K) (hs : (∃ v, o = .inl (some (.int v))) ∨ ∃ e, o = .inr e ∧ (e = 0)) : CT ML_carrier [.int a] q q2 (cod o) := by
  intro K hK
  refine Snd.ofH (by decide +kernel) (Nat.le_of_ble_eq_true rfl) rfl rfl ?_
  intro X D dA ad C0
  show Gd X _ ML_carrier 0 [some (.ref 0), some (.int a), none] [] _ 0 0
  refine g_aload_n C0 dL_carrier_0 rfl ?_
  refine g_iload_n C0 dL_carrier_1 rfl ?_
  refine g_invVc (As := [.int a]) (n := 1) (st := []) (K2 := fun o2 w2 => o2 = o ∧ w2 = WX q2) C0 dL_carrier_2 CL_54 rfl rfl rfl ⟨by decide, by decide, by decide, by decide⟩ (Nat.le_of_ble_eq_true rfl) rfl (h _ ⟨rfl, rfl⟩) (fun v w2 g => ?_) (fun k w2 g => ?_)
  · obtain ⟨g1, rfl⟩ := g
    refine ⟨rfl, ?_⟩
    rcases hs with ⟨v9, g2⟩ | ⟨e9, g2, -⟩
    · rw [g2] at g1 hK
      cases g1
      refine g_iret C0 rfl dL_carrier_5 (by decide) (by decide) ?_
      exact hK
    · rw [g2] at g1; cases g1
  · obtain ⟨g1, rfl⟩ := g
    refine ⟨rfl, ?_⟩
    rcases hs with ⟨v9, g2⟩ | ⟨e9, g2, g3⟩
    · rw [g2] at g1; cases g1
    · rw [g2] at g1 hK
      cases g1
      subst g3
      · refine ⟨6, 2, 1, KTL_carrier_0, ?_⟩
        refine g_ldc C0 KK0 dL_carrier_7 ?_
        refine g_iret C0 rfl dL_carrier_9 (by decide) (by decide) ?_
        exact hK
theorem KTL_then_0 : Cat ML_then 3 0 7 3 1 := ⟨by decide, [], (⟨0, 6, 7, 13⟩ : ExceptionTableEntry), [(⟨0, 6, 11, 16⟩ : ExceptionTableEntry)], rfl, rfl, fun z hz => absurd hz List.not_mem_nil, by decide +kernel, by decide, KL0, KC0, by decide, Or.inr ⟨3, rfl, dL_then_7, rfl⟩⟩
theorem KTL_then_1 : Cat ML_then 3 1 11 3 1 := ⟨by decide, [(⟨0, 6, 7, 13⟩ : ExceptionTableEntry)], (⟨0, 6, 11, 16⟩ : ExceptionTableEntry), [], rfl, rfl, fun z hz => by rw [List.mem_singleton.mp hz]; exact Or.inr ⟨by decide, 0, by decide, by decide, KL0⟩, by decide +kernel, by decide, KL1, KC1, by decide, Or.inr ⟨3, rfl, dL_then_11, rfl⟩⟩
set_option maxRecDepth 100000 in
set_option maxHeartbeats 4000000 in
theorem w_then {q q2 : XS} {o : AO} {a b : Int32} (h : ∀ K : AO → AW → Prop, K o (WX q2) → Snd MX9_carrierThen [.ref 0, .int a, .int b] (WX q) K) (hs : (∃ v, o = .inl (some (.int v))) ∨ ∃ e, o = .inr e ∧ (e = 0 ∨ e = 1)) : CT ML_then [.int a, .int b] q q2 (cod o) := by
  intro K hK
  refine Snd.ofH (by decide +kernel) (Nat.le_of_ble_eq_true rfl) rfl rfl ?_
  intro X D dA ad C0
  show Gd X _ ML_then 0 [some (.ref 0), some (.int a), some (.int b), none] [] _ 0 0
  refine g_aload_n C0 dL_then_0 rfl ?_
  refine g_iload_n C0 dL_then_1 rfl ?_
  refine g_iload_n C0 dL_then_2 rfl ?_
  refine g_invVc (As := [.int a, .int b]) (n := 2) (st := []) (K2 := fun o2 w2 => o2 = o ∧ w2 = WX q2) C0 dL_then_3 CL_57 rfl rfl rfl ⟨by decide, by decide, by decide, by decide⟩ (Nat.le_of_ble_eq_true rfl) rfl (h _ ⟨rfl, rfl⟩) (fun v w2 g => ?_) (fun k w2 g => ?_)
  · obtain ⟨g1, rfl⟩ := g
    refine ⟨rfl, ?_⟩
    rcases hs with ⟨v9, g2⟩ | ⟨e9, g2, -⟩
    · rw [g2] at g1 hK
      cases g1
      refine g_iret C0 rfl dL_then_6 (by decide) (by decide) ?_
      exact hK
    · rw [g2] at g1; cases g1
  · obtain ⟨g1, rfl⟩ := g
    refine ⟨rfl, ?_⟩
    rcases hs with ⟨v9, g2⟩ | ⟨e9, g2, g3⟩
    · rw [g2] at g1; cases g1
    · rw [g2] at g1 hK
      cases g1
      rcases g3 with rfl | rfl
      · refine ⟨7, 3, 1, KTL_then_0, ?_⟩
        refine g_ldc C0 KK0 dL_then_8 ?_
        refine g_iret C0 rfl dL_then_10 (by decide) (by decide) ?_
        exact hK
      · refine ⟨11, 3, 1, KTL_then_1, ?_⟩
        refine g_ldc C0 KK1 dL_then_12 ?_
        refine g_iret C0 rfl dL_then_14 (by decide) (by decide) ?_
        exact hK
theorem KTL_owner_0 : Cat ML_owner 2 0 6 2 1 := ⟨by decide, [], (⟨0, 5, 6, 13⟩ : ExceptionTableEntry), [], rfl, rfl, fun z hz => absurd hz List.not_mem_nil, by decide +kernel, by decide, KL0, KC0, by decide, Or.inr ⟨2, rfl, dL_owner_6, rfl⟩⟩
set_option maxRecDepth 100000 in
set_option maxHeartbeats 4000000 in
theorem w_owner {q q2 : XS} {o : AO} {a : Int32} (h : ∀ K : AO → AW → Prop, K o (WX q2) → Snd MX9_ownerOf [.ref 0, .int a] (WX q) K) (hs : (∃ v, o = .inl (some (.int v))) ∨ ∃ e, o = .inr e ∧ (e = 0)) : CT ML_owner [.int a] q q2 (cod o) := by
  intro K hK
  refine Snd.ofH (by decide +kernel) (Nat.le_of_ble_eq_true rfl) rfl rfl ?_
  intro X D dA ad C0
  show Gd X _ ML_owner 0 [some (.ref 0), some (.int a), none] [] _ 0 0
  refine g_aload_n C0 dL_owner_0 rfl ?_
  refine g_iload_n C0 dL_owner_1 rfl ?_
  refine g_invVc (As := [.int a]) (n := 1) (st := []) (K2 := fun o2 w2 => o2 = o ∧ w2 = WX q2) C0 dL_owner_2 CL_60 rfl rfl rfl ⟨by decide, by decide, by decide, by decide⟩ (Nat.le_of_ble_eq_true rfl) rfl (h _ ⟨rfl, rfl⟩) (fun v w2 g => ?_) (fun k w2 g => ?_)
  · obtain ⟨g1, rfl⟩ := g
    refine ⟨rfl, ?_⟩
    rcases hs with ⟨v9, g2⟩ | ⟨e9, g2, -⟩
    · rw [g2] at g1 hK
      cases g1
      refine g_iret C0 rfl dL_owner_5 (by decide) (by decide) ?_
      exact hK
    · rw [g2] at g1; cases g1
  · obtain ⟨g1, rfl⟩ := g
    refine ⟨rfl, ?_⟩
    rcases hs with ⟨v9, g2⟩ | ⟨e9, g2, g3⟩
    · rw [g2] at g1; cases g1
    · rw [g2] at g1 hK
      cases g1
      subst g3
      · refine ⟨6, 2, 1, KTL_owner_0, ?_⟩
        refine g_ldc C0 KK0 dL_owner_7 ?_
        refine g_iret C0 rfl dL_owner_9 (by decide) (by decide) ?_
        exact hK
theorem KTL_believed_0 : Cat ML_believed 3 0 7 3 1 := ⟨by decide, [], (⟨0, 6, 7, 13⟩ : ExceptionTableEntry), [], rfl, rfl, fun z hz => absurd hz List.not_mem_nil, by decide +kernel, by decide, KL0, KC0, by decide, Or.inr ⟨3, rfl, dL_believed_7, rfl⟩⟩
set_option maxRecDepth 100000 in
set_option maxHeartbeats 4000000 in
theorem w_believed {q q2 : XS} {o : AO} {a b : Int32} (h : ∀ K : AO → AW → Prop, K o (WX q2) → Snd MX9_believed [.ref 0, .int a, .int b] (WX q) K) (hs : (∃ v, o = .inl (some (.int v))) ∨ ∃ e, o = .inr e ∧ (e = 0)) : CT ML_believed [.int a, .int b] q q2 (cod o) := by
  intro K hK
  refine Snd.ofH (by decide +kernel) (Nat.le_of_ble_eq_true rfl) rfl rfl ?_
  intro X D dA ad C0
  show Gd X _ ML_believed 0 [some (.ref 0), some (.int a), some (.int b), none] [] _ 0 0
  refine g_aload_n C0 dL_believed_0 rfl ?_
  refine g_iload_n C0 dL_believed_1 rfl ?_
  refine g_iload_n C0 dL_believed_2 rfl ?_
  refine g_invVc (As := [.int a, .int b]) (n := 2) (st := []) (K2 := fun o2 w2 => o2 = o ∧ w2 = WX q2) C0 dL_believed_3 CL_63 rfl rfl rfl ⟨by decide, by decide, by decide, by decide⟩ (Nat.le_of_ble_eq_true rfl) rfl (h _ ⟨rfl, rfl⟩) (fun v w2 g => ?_) (fun k w2 g => ?_)
  · obtain ⟨g1, rfl⟩ := g
    refine ⟨rfl, ?_⟩
    rcases hs with ⟨v9, g2⟩ | ⟨e9, g2, -⟩
    · rw [g2] at g1 hK
      cases g1
      refine g_iret C0 rfl dL_believed_6 (by decide) (by decide) ?_
      exact hK
    · rw [g2] at g1; cases g1
  · obtain ⟨g1, rfl⟩ := g
    refine ⟨rfl, ?_⟩
    rcases hs with ⟨v9, g2⟩ | ⟨e9, g2, g3⟩
    · rw [g2] at g1; cases g1
    · rw [g2] at g1 hK
      cases g1
      subst g3
      · refine ⟨7, 3, 1, KTL_believed_0, ?_⟩
        refine g_ldc C0 KK0 dL_believed_8 ?_
        refine g_iret C0 rfl dL_believed_10 (by decide) (by decide) ?_
        exact hK
theorem KTL_debt_0 : Cat ML_debt 2 0 6 2 1 := ⟨by decide, [], (⟨0, 5, 6, 13⟩ : ExceptionTableEntry), [], rfl, rfl, fun z hz => absurd hz List.not_mem_nil, by decide +kernel, by decide, KL0, KC0, by decide, Or.inr ⟨2, rfl, dL_debt_6, rfl⟩⟩
set_option maxRecDepth 100000 in
set_option maxHeartbeats 4000000 in
theorem w_debt {q q2 : XS} {o : AO} {a : Int32} (h : ∀ K : AO → AW → Prop, K o (WX q2) → Snd MX9_debt [.ref 0, .int a] (WX q) K) (hs : (∃ v, o = .inl (some (.int v))) ∨ ∃ e, o = .inr e ∧ (e = 0)) : CT ML_debt [.int a] q q2 (cod o) := by
  intro K hK
  refine Snd.ofH (by decide +kernel) (Nat.le_of_ble_eq_true rfl) rfl rfl ?_
  intro X D dA ad C0
  show Gd X _ ML_debt 0 [some (.ref 0), some (.int a), none] [] _ 0 0
  refine g_aload_n C0 dL_debt_0 rfl ?_
  refine g_iload_n C0 dL_debt_1 rfl ?_
  refine g_invVc (As := [.int a]) (n := 1) (st := []) (K2 := fun o2 w2 => o2 = o ∧ w2 = WX q2) C0 dL_debt_2 CL_66 rfl rfl rfl ⟨by decide, by decide, by decide, by decide⟩ (Nat.le_of_ble_eq_true rfl) rfl (h _ ⟨rfl, rfl⟩) (fun v w2 g => ?_) (fun k w2 g => ?_)
  · obtain ⟨g1, rfl⟩ := g
    refine ⟨rfl, ?_⟩
    rcases hs with ⟨v9, g2⟩ | ⟨e9, g2, -⟩
    · rw [g2] at g1 hK
      cases g1
      refine g_iret C0 rfl dL_debt_5 (by decide) (by decide) ?_
      exact hK
    · rw [g2] at g1; cases g1
  · obtain ⟨g1, rfl⟩ := g
    refine ⟨rfl, ?_⟩
    rcases hs with ⟨v9, g2⟩ | ⟨e9, g2, g3⟩
    · rw [g2] at g1; cases g1
    · rw [g2] at g1 hK
      cases g1
      subst g3
      · refine ⟨6, 2, 1, KTL_debt_0, ?_⟩
        refine g_ldc C0 KK0 dL_debt_7 ?_
        refine g_iret C0 rfl dL_debt_9 (by decide) (by decide) ?_
        exact hK
theorem KTL_debtAnew_0 : Cat ML_debtAnew 2 0 6 2 1 := ⟨by decide, [], (⟨0, 5, 6, 13⟩ : ExceptionTableEntry), [], rfl, rfl, fun z hz => absurd hz List.not_mem_nil, by decide +kernel, by decide, KL0, KC0, by decide, Or.inr ⟨2, rfl, dL_debtAnew_6, rfl⟩⟩
set_option maxRecDepth 100000 in
set_option maxHeartbeats 4000000 in
theorem w_debtAnew {q q2 : XS} {o : AO} {a : Int32} (h : ∀ K : AO → AW → Prop, K o (WX q2) → Snd MX9_debtAnew [.ref 0, .int a] (WX q) K) (hs : (∃ v, o = .inl (some (.int v))) ∨ ∃ e, o = .inr e ∧ (e = 0)) : CT ML_debtAnew [.int a] q q2 (cod o) := by
  intro K hK
  refine Snd.ofH (by decide +kernel) (Nat.le_of_ble_eq_true rfl) rfl rfl ?_
  intro X D dA ad C0
  show Gd X _ ML_debtAnew 0 [some (.ref 0), some (.int a), none] [] _ 0 0
  refine g_aload_n C0 dL_debtAnew_0 rfl ?_
  refine g_iload_n C0 dL_debtAnew_1 rfl ?_
  refine g_invVc (As := [.int a]) (n := 1) (st := []) (K2 := fun o2 w2 => o2 = o ∧ w2 = WX q2) C0 dL_debtAnew_2 CL_69 rfl rfl rfl ⟨by decide, by decide, by decide, by decide⟩ (Nat.le_of_ble_eq_true rfl) rfl (h _ ⟨rfl, rfl⟩) (fun v w2 g => ?_) (fun k w2 g => ?_)
  · obtain ⟨g1, rfl⟩ := g
    refine ⟨rfl, ?_⟩
    rcases hs with ⟨v9, g2⟩ | ⟨e9, g2, -⟩
    · rw [g2] at g1 hK
      cases g1
      refine g_iret C0 rfl dL_debtAnew_5 (by decide) (by decide) ?_
      exact hK
    · rw [g2] at g1; cases g1
  · obtain ⟨g1, rfl⟩ := g
    refine ⟨rfl, ?_⟩
    rcases hs with ⟨v9, g2⟩ | ⟨e9, g2, g3⟩
    · rw [g2] at g1; cases g1
    · rw [g2] at g1 hK
      cases g1
      subst g3
      · refine ⟨6, 2, 1, KTL_debtAnew_0, ?_⟩
        refine g_ldc C0 KK0 dL_debtAnew_7 ?_
        refine g_iret C0 rfl dL_debtAnew_9 (by decide) (by decide) ?_
        exact hK
theorem KTL_bond_0 : Cat ML_bond 2 0 6 2 1 := ⟨by decide, [], (⟨0, 5, 6, 13⟩ : ExceptionTableEntry), [], rfl, rfl, fun z hz => absurd hz List.not_mem_nil, by decide +kernel, by decide, KL0, KC0, by decide, Or.inr ⟨2, rfl, dL_bond_6, rfl⟩⟩
set_option maxRecDepth 100000 in
set_option maxHeartbeats 4000000 in
theorem w_bond {q q2 : XS} {o : AO} {a : Int32} (h : ∀ K : AO → AW → Prop, K o (WX q2) → Snd MX9_bondOf [.ref 0, .int a] (WX q) K) (hs : (∃ v, o = .inl (some (.int v))) ∨ ∃ e, o = .inr e ∧ (e = 0)) : CT ML_bond [.int a] q q2 (cod o) := by
  intro K hK
  refine Snd.ofH (by decide +kernel) (Nat.le_of_ble_eq_true rfl) rfl rfl ?_
  intro X D dA ad C0
  show Gd X _ ML_bond 0 [some (.ref 0), some (.int a), none] [] _ 0 0
  refine g_aload_n C0 dL_bond_0 rfl ?_
  refine g_iload_n C0 dL_bond_1 rfl ?_
  refine g_invVc (As := [.int a]) (n := 1) (st := []) (K2 := fun o2 w2 => o2 = o ∧ w2 = WX q2) C0 dL_bond_2 CL_72 rfl rfl rfl ⟨by decide, by decide, by decide, by decide⟩ (Nat.le_of_ble_eq_true rfl) rfl (h _ ⟨rfl, rfl⟩) (fun v w2 g => ?_) (fun k w2 g => ?_)
  · obtain ⟨g1, rfl⟩ := g
    refine ⟨rfl, ?_⟩
    rcases hs with ⟨v9, g2⟩ | ⟨e9, g2, -⟩
    · rw [g2] at g1 hK
      cases g1
      refine g_iret C0 rfl dL_bond_5 (by decide) (by decide) ?_
      exact hK
    · rw [g2] at g1; cases g1
  · obtain ⟨g1, rfl⟩ := g
    refine ⟨rfl, ?_⟩
    rcases hs with ⟨v9, g2⟩ | ⟨e9, g2, g3⟩
    · rw [g2] at g1; cases g1
    · rw [g2] at g1 hK
      cases g1
      subst g3
      · refine ⟨6, 2, 1, KTL_bond_0, ?_⟩
        refine g_ldc C0 KK0 dL_bond_7 ?_
        refine g_iret C0 rfl dL_bond_9 (by decide) (by decide) ?_
        exact hK
theorem KTL_barred_0 : Cat ML_barred 2 0 14 2 1 := ⟨by decide, [], (⟨0, 13, 14, 13⟩ : ExceptionTableEntry), [], rfl, rfl, fun z hz => absurd hz List.not_mem_nil, by decide +kernel, by decide, KL0, KC0, by decide, Or.inr ⟨2, rfl, dL_barred_14, rfl⟩⟩
set_option maxRecDepth 100000 in
set_option maxHeartbeats 4000000 in
theorem w_barred {q q2 : XS} {o : AO} {a : Int32} (h : ∀ K : AO → AW → Prop, K o (WX q2) → Snd MX9_isBarred [.ref 0, .int a] (WX q) K) (hs : o = .inl (some (.int 0)) ∨ o = .inl (some (.int 1)) ∨ o = .inr 0) : CT ML_barred [.int a] q q2 (cod o) := by
  intro K hK
  refine Snd.ofH (by decide +kernel) (Nat.le_of_ble_eq_true rfl) rfl rfl ?_
  intro X D dA ad C0
  show Gd X _ ML_barred 0 [some (.ref 0), some (.int a), none] [] _ 0 0
  refine g_aload_n C0 dL_barred_0 rfl ?_
  refine g_iload_n C0 dL_barred_1 rfl ?_
  refine g_invVc (As := [.int a]) (n := 1) (st := []) (K2 := fun o2 w2 => o2 = o ∧ w2 = WX q2) C0 dL_barred_2 CL_75 rfl rfl rfl ⟨by decide, by decide, by decide, by decide⟩ (Nat.le_of_ble_eq_true rfl) rfl (h _ ⟨rfl, rfl⟩) (fun v w2 g => ?_) (fun k w2 g => ?_)
  · obtain ⟨g1, rfl⟩ := g
    refine ⟨rfl, ?_⟩
    rcases hs with g2 | g2 | g2
    · rw [g2] at g1 hK
      cases g1
      refine g_if_eq (tgt := 12) C0 dL_barred_5 (by decide) (fun _ => ?_) (fun z => absurd rfl z)
      refine g_iconst (v := 0) C0 dL_barred_12 (by decide) ?_
      refine g_iret C0 rfl dL_barred_13 (by decide) (by decide) ?_
      exact hK
    · rw [g2] at g1 hK
      cases g1
      refine g_if_eq (tgt := 12) C0 dL_barred_5 (by decide) (fun z => absurd z (by decide)) (fun _ => ?_)
      refine g_iconst (v := 1) C0 dL_barred_8 (by decide) ?_
      refine g_goto (tgt := 13) C0 dL_barred_9 (by decide) ?_
      refine g_iret C0 rfl dL_barred_13 (by decide) (by decide) ?_
      exact hK
    · rw [g2] at g1; cases g1
  · obtain ⟨g1, rfl⟩ := g
    refine ⟨rfl, ?_⟩
    rcases hs with g2 | g2 | g2
    · rw [g2] at g1; cases g1
    · rw [g2] at g1; cases g1
    · rw [g2] at g1 hK
      cases g1
      refine ⟨14, 2, 1, KTL_barred_0, ?_⟩
      refine g_ldc C0 KK0 dL_barred_15 ?_
      refine g_iret C0 rfl dL_barred_17 (by decide) (by decide) ?_
      exact hK
theorem KTL_callOf_0 : Cat ML_callOf 2 0 6 2 1 := ⟨by decide, [], (⟨0, 5, 6, 13⟩ : ExceptionTableEntry), [], rfl, rfl, fun z hz => absurd hz List.not_mem_nil, by decide +kernel, by decide, KL0, KC0, by decide, Or.inr ⟨2, rfl, dL_callOf_6, rfl⟩⟩
set_option maxRecDepth 100000 in
set_option maxHeartbeats 4000000 in
theorem w_callOf {q q2 : XS} {o : AO} {a : Int32} (h : ∀ K : AO → AW → Prop, K o (WX q2) → Snd MX9_callOf [.ref 0, .int a] (WX q) K) (hs : (∃ v, o = .inl (some (.int v))) ∨ ∃ e, o = .inr e ∧ (e = 0)) : CT ML_callOf [.int a] q q2 (cod o) := by
  intro K hK
  refine Snd.ofH (by decide +kernel) (Nat.le_of_ble_eq_true rfl) rfl rfl ?_
  intro X D dA ad C0
  show Gd X _ ML_callOf 0 [some (.ref 0), some (.int a), none] [] _ 0 0
  refine g_aload_n C0 dL_callOf_0 rfl ?_
  refine g_iload_n C0 dL_callOf_1 rfl ?_
  refine g_invVc (As := [.int a]) (n := 1) (st := []) (K2 := fun o2 w2 => o2 = o ∧ w2 = WX q2) C0 dL_callOf_2 CL_79 rfl rfl rfl ⟨by decide, by decide, by decide, by decide⟩ (Nat.le_of_ble_eq_true rfl) rfl (h _ ⟨rfl, rfl⟩) (fun v w2 g => ?_) (fun k w2 g => ?_)
  · obtain ⟨g1, rfl⟩ := g
    refine ⟨rfl, ?_⟩
    rcases hs with ⟨v9, g2⟩ | ⟨e9, g2, -⟩
    · rw [g2] at g1 hK
      cases g1
      refine g_iret C0 rfl dL_callOf_5 (by decide) (by decide) ?_
      exact hK
    · rw [g2] at g1; cases g1
  · obtain ⟨g1, rfl⟩ := g
    refine ⟨rfl, ?_⟩
    rcases hs with ⟨v9, g2⟩ | ⟨e9, g2, g3⟩
    · rw [g2] at g1; cases g1
    · rw [g2] at g1 hK
      cases g1
      subst g3
      · refine ⟨6, 2, 1, KTL_callOf_0, ?_⟩
        refine g_ldc C0 KK0 dL_callOf_7 ?_
        refine g_iret C0 rfl dL_callOf_9 (by decide) (by decide) ?_
        exact hK
theorem KTL_free_0 : Cat ML_free 3 0 7 3 1 := ⟨by decide, [], (⟨0, 6, 7, 13⟩ : ExceptionTableEntry), [], rfl, rfl, fun z hz => absurd hz List.not_mem_nil, by decide +kernel, by decide, KL0, KC0, by decide, Or.inr ⟨3, rfl, dL_free_7, rfl⟩⟩
set_option maxRecDepth 100000 in
set_option maxHeartbeats 4000000 in
theorem w_free {q q2 : XS} {o : AO} {a b : Int32} (h : ∀ K : AO → AW → Prop, K o (WX q2) → Snd MX9_free [.ref 0, .int a, .int b] (WX q) K) (hs : (∃ v, o = .inl (some (.int v))) ∨ ∃ e, o = .inr e ∧ (e = 0)) : CT ML_free [.int a, .int b] q q2 (cod o) := by
  intro K hK
  refine Snd.ofH (by decide +kernel) (Nat.le_of_ble_eq_true rfl) rfl rfl ?_
  intro X D dA ad C0
  show Gd X _ ML_free 0 [some (.ref 0), some (.int a), some (.int b), none] [] _ 0 0
  refine g_aload_n C0 dL_free_0 rfl ?_
  refine g_iload_n C0 dL_free_1 rfl ?_
  refine g_iload_n C0 dL_free_2 rfl ?_
  refine g_invVc (As := [.int a, .int b]) (n := 2) (st := []) (K2 := fun o2 w2 => o2 = o ∧ w2 = WX q2) C0 dL_free_3 CL_82 rfl rfl rfl ⟨by decide, by decide, by decide, by decide⟩ (Nat.le_of_ble_eq_true rfl) rfl (h _ ⟨rfl, rfl⟩) (fun v w2 g => ?_) (fun k w2 g => ?_)
  · obtain ⟨g1, rfl⟩ := g
    refine ⟨rfl, ?_⟩
    rcases hs with ⟨v9, g2⟩ | ⟨e9, g2, -⟩
    · rw [g2] at g1 hK
      cases g1
      refine g_iret C0 rfl dL_free_6 (by decide) (by decide) ?_
      exact hK
    · rw [g2] at g1; cases g1
  · obtain ⟨g1, rfl⟩ := g
    refine ⟨rfl, ?_⟩
    rcases hs with ⟨v9, g2⟩ | ⟨e9, g2, g3⟩
    · rw [g2] at g1; cases g1
    · rw [g2] at g1 hK
      cases g1
      subst g3
      · refine ⟨7, 3, 1, KTL_free_0, ?_⟩
        refine g_ldc C0 KK0 dL_free_8 ?_
        refine g_iret C0 rfl dL_free_10 (by decide) (by decide) ?_
        exact hK
theorem KTL_route_0 : Cat ML_route 3 0 7 3 1 := ⟨by decide, [], (⟨0, 6, 7, 13⟩ : ExceptionTableEntry), [(⟨0, 6, 11, 16⟩ : ExceptionTableEntry)], rfl, rfl, fun z hz => absurd hz List.not_mem_nil, by decide +kernel, by decide, KL0, KC0, by decide, Or.inr ⟨3, rfl, dL_route_7, rfl⟩⟩
theorem KTL_route_1 : Cat ML_route 3 1 11 3 1 := ⟨by decide, [(⟨0, 6, 7, 13⟩ : ExceptionTableEntry)], (⟨0, 6, 11, 16⟩ : ExceptionTableEntry), [], rfl, rfl, fun z hz => by rw [List.mem_singleton.mp hz]; exact Or.inr ⟨by decide, 0, by decide, by decide, KL0⟩, by decide +kernel, by decide, KL1, KC1, by decide, Or.inr ⟨3, rfl, dL_route_11, rfl⟩⟩
set_option maxRecDepth 100000 in
set_option maxHeartbeats 4000000 in
theorem w_route {q q2 : XS} {o : AO} {a b : Int32} (h : ∀ K : AO → AW → Prop, K o (WX q2) → Snd MX9_route [.ref 0, .int a, .int b] (WX q) K) (hs : (∃ v, o = .inl (some (.int v))) ∨ ∃ e, o = .inr e ∧ (e = 0 ∨ e = 1)) : CT ML_route [.int a, .int b] q q2 (cod o) := by
  intro K hK
  refine Snd.ofH (by decide +kernel) (Nat.le_of_ble_eq_true rfl) rfl rfl ?_
  intro X D dA ad C0
  show Gd X _ ML_route 0 [some (.ref 0), some (.int a), some (.int b), none] [] _ 0 0
  refine g_aload_n C0 dL_route_0 rfl ?_
  refine g_iload_n C0 dL_route_1 rfl ?_
  refine g_iload_n C0 dL_route_2 rfl ?_
  refine g_invVc (As := [.int a, .int b]) (n := 2) (st := []) (K2 := fun o2 w2 => o2 = o ∧ w2 = WX q2) C0 dL_route_3 CL_85 rfl rfl rfl ⟨by decide, by decide, by decide, by decide⟩ (Nat.le_of_ble_eq_true rfl) rfl (h _ ⟨rfl, rfl⟩) (fun v w2 g => ?_) (fun k w2 g => ?_)
  · obtain ⟨g1, rfl⟩ := g
    refine ⟨rfl, ?_⟩
    rcases hs with ⟨v9, g2⟩ | ⟨e9, g2, -⟩
    · rw [g2] at g1 hK
      cases g1
      refine g_iret C0 rfl dL_route_6 (by decide) (by decide) ?_
      exact hK
    · rw [g2] at g1; cases g1
  · obtain ⟨g1, rfl⟩ := g
    refine ⟨rfl, ?_⟩
    rcases hs with ⟨v9, g2⟩ | ⟨e9, g2, g3⟩
    · rw [g2] at g1; cases g1
    · rw [g2] at g1 hK
      cases g1
      rcases g3 with rfl | rfl
      · refine ⟨7, 3, 1, KTL_route_0, ?_⟩
        refine g_ldc C0 KK0 dL_route_8 ?_
        refine g_iret C0 rfl dL_route_10 (by decide) (by decide) ?_
        exact hK
      · refine ⟨11, 3, 1, KTL_route_1, ?_⟩
        refine g_ldc C0 KK1 dL_route_12 ?_
        refine g_iret C0 rfl dL_route_14 (by decide) (by decide) ?_
        exact hK
theorem KTL_state_0 : Cat ML_state 2 0 6 2 1 := ⟨by decide, [], (⟨0, 5, 6, 13⟩ : ExceptionTableEntry), [], rfl, rfl, fun z hz => absurd hz List.not_mem_nil, by decide +kernel, by decide, KL0, KC0, by decide, Or.inr ⟨2, rfl, dL_state_6, rfl⟩⟩
set_option maxRecDepth 100000 in
set_option maxHeartbeats 4000000 in
theorem w_state {q q2 : XS} {o : AO} {a : Int32} (h : ∀ K : AO → AW → Prop, K o (WX q2) → Snd MX9_state [.ref 0, .int a] (WX q) K) (hs : (∃ v, o = .inl (some (.int v))) ∨ ∃ e, o = .inr e ∧ (e = 0)) : CT ML_state [.int a] q q2 (cod o) := by
  intro K hK
  refine Snd.ofH (by decide +kernel) (Nat.le_of_ble_eq_true rfl) rfl rfl ?_
  intro X D dA ad C0
  show Gd X _ ML_state 0 [some (.ref 0), some (.int a), none] [] _ 0 0
  refine g_aload_n C0 dL_state_0 rfl ?_
  refine g_iload_n C0 dL_state_1 rfl ?_
  refine g_invVc (As := [.int a]) (n := 1) (st := []) (K2 := fun o2 w2 => o2 = o ∧ w2 = WX q2) C0 dL_state_2 CL_88 rfl rfl rfl ⟨by decide, by decide, by decide, by decide⟩ (Nat.le_of_ble_eq_true rfl) rfl (h _ ⟨rfl, rfl⟩) (fun v w2 g => ?_) (fun k w2 g => ?_)
  · obtain ⟨g1, rfl⟩ := g
    refine ⟨rfl, ?_⟩
    rcases hs with ⟨v9, g2⟩ | ⟨e9, g2, -⟩
    · rw [g2] at g1 hK
      cases g1
      refine g_iret C0 rfl dL_state_5 (by decide) (by decide) ?_
      exact hK
    · rw [g2] at g1; cases g1
  · obtain ⟨g1, rfl⟩ := g
    refine ⟨rfl, ?_⟩
    rcases hs with ⟨v9, g2⟩ | ⟨e9, g2, g3⟩
    · rw [g2] at g1; cases g1
    · rw [g2] at g1 hK
      cases g1
      subst g3
      · refine ⟨6, 2, 1, KTL_state_0, ?_⟩
        refine g_ldc C0 KK0 dL_state_7 ?_
        refine g_iret C0 rfl dL_state_9 (by decide) (by decide) ?_
        exact hK
theorem KTL_trunks_0 : Cat ML_trunks 2 0 6 2 1 := ⟨by decide, [], (⟨0, 5, 6, 13⟩ : ExceptionTableEntry), [], rfl, rfl, fun z hz => absurd hz List.not_mem_nil, by decide +kernel, by decide, KL0, KC0, by decide, Or.inr ⟨2, rfl, dL_trunks_6, rfl⟩⟩
set_option maxRecDepth 100000 in
set_option maxHeartbeats 4000000 in
theorem w_trunks {q q2 : XS} {o : AO} {a : Int32} (h : ∀ K : AO → AW → Prop, K o (WX q2) → Snd MX9_trunks [.ref 0, .int a] (WX q) K) (hs : (∃ v, o = .inl (some (.int v))) ∨ ∃ e, o = .inr e ∧ (e = 0)) : CT ML_trunks [.int a] q q2 (cod o) := by
  intro K hK
  refine Snd.ofH (by decide +kernel) (Nat.le_of_ble_eq_true rfl) rfl rfl ?_
  intro X D dA ad C0
  show Gd X _ ML_trunks 0 [some (.ref 0), some (.int a), none] [] _ 0 0
  refine g_aload_n C0 dL_trunks_0 rfl ?_
  refine g_iload_n C0 dL_trunks_1 rfl ?_
  refine g_invVc (As := [.int a]) (n := 1) (st := []) (K2 := fun o2 w2 => o2 = o ∧ w2 = WX q2) C0 dL_trunks_2 CL_91 rfl rfl rfl ⟨by decide, by decide, by decide, by decide⟩ (Nat.le_of_ble_eq_true rfl) rfl (h _ ⟨rfl, rfl⟩) (fun v w2 g => ?_) (fun k w2 g => ?_)
  · obtain ⟨g1, rfl⟩ := g
    refine ⟨rfl, ?_⟩
    rcases hs with ⟨v9, g2⟩ | ⟨e9, g2, -⟩
    · rw [g2] at g1 hK
      cases g1
      refine g_iret C0 rfl dL_trunks_5 (by decide) (by decide) ?_
      exact hK
    · rw [g2] at g1; cases g1
  · obtain ⟨g1, rfl⟩ := g
    refine ⟨rfl, ?_⟩
    rcases hs with ⟨v9, g2⟩ | ⟨e9, g2, g3⟩
    · rw [g2] at g1; cases g1
    · rw [g2] at g1 hK
      cases g1
      subst g3
      · refine ⟨6, 2, 1, KTL_trunks_0, ?_⟩
        refine g_ldc C0 KK0 dL_trunks_7 ?_
        refine g_iret C0 rfl dL_trunks_9 (by decide) (by decide) ?_
        exact hK
theorem KTL_at_0 : Cat ML_at 3 0 7 3 1 := ⟨by decide, [], (⟨0, 6, 7, 13⟩ : ExceptionTableEntry), [], rfl, rfl, fun z hz => absurd hz List.not_mem_nil, by decide +kernel, by decide, KL0, KC0, by decide, Or.inr ⟨3, rfl, dL_at_7, rfl⟩⟩
set_option maxRecDepth 100000 in
set_option maxHeartbeats 4000000 in
theorem w_at {q q2 : XS} {o : AO} {a b : Int32} (h : ∀ K : AO → AW → Prop, K o (WX q2) → Snd MX9_carrierAt [.ref 0, .int a, .int b] (WX q) K) (hs : (∃ v, o = .inl (some (.int v))) ∨ ∃ e, o = .inr e ∧ (e = 0)) : CT ML_at [.int a, .int b] q q2 (cod o) := by
  intro K hK
  refine Snd.ofH (by decide +kernel) (Nat.le_of_ble_eq_true rfl) rfl rfl ?_
  intro X D dA ad C0
  show Gd X _ ML_at 0 [some (.ref 0), some (.int a), some (.int b), none] [] _ 0 0
  refine g_aload_n C0 dL_at_0 rfl ?_
  refine g_iload_n C0 dL_at_1 rfl ?_
  refine g_iload_n C0 dL_at_2 rfl ?_
  refine g_invVc (As := [.int a, .int b]) (n := 2) (st := []) (K2 := fun o2 w2 => o2 = o ∧ w2 = WX q2) C0 dL_at_3 CL_94 rfl rfl rfl ⟨by decide, by decide, by decide, by decide⟩ (Nat.le_of_ble_eq_true rfl) rfl (h _ ⟨rfl, rfl⟩) (fun v w2 g => ?_) (fun k w2 g => ?_)
  · obtain ⟨g1, rfl⟩ := g
    refine ⟨rfl, ?_⟩
    rcases hs with ⟨v9, g2⟩ | ⟨e9, g2, -⟩
    · rw [g2] at g1 hK
      cases g1
      refine g_iret C0 rfl dL_at_6 (by decide) (by decide) ?_
      exact hK
    · rw [g2] at g1; cases g1
  · obtain ⟨g1, rfl⟩ := g
    refine ⟨rfl, ?_⟩
    rcases hs with ⟨v9, g2⟩ | ⟨e9, g2, g3⟩
    · rw [g2] at g1; cases g1
    · rw [g2] at g1 hK
      cases g1
      subst g3
      · refine ⟨7, 3, 1, KTL_at_0, ?_⟩
        refine g_ldc C0 KK0 dL_at_8 ?_
        refine g_iret C0 rfl dL_at_10 (by decide) (by decide) ?_
        exact hK
theorem KTL_seconds_0 : Cat ML_seconds 2 0 6 2 1 := ⟨by decide, [], (⟨0, 5, 6, 13⟩ : ExceptionTableEntry), [], rfl, rfl, fun z hz => absurd hz List.not_mem_nil, by decide +kernel, by decide, KL0, KC0, by decide, Or.inr ⟨2, rfl, dL_seconds_6, rfl⟩⟩
set_option maxRecDepth 100000 in
set_option maxHeartbeats 4000000 in
theorem w_seconds {q q2 : XS} {o : AO} {a : Int32} (h : ∀ K : AO → AW → Prop, K o (WX q2) → Snd MX9_seconds [.ref 0, .int a] (WX q) K) (hs : (∃ v, o = .inl (some (.int v))) ∨ ∃ e, o = .inr e ∧ (e = 0)) : CT ML_seconds [.int a] q q2 (cod o) := by
  intro K hK
  refine Snd.ofH (by decide +kernel) (Nat.le_of_ble_eq_true rfl) rfl rfl ?_
  intro X D dA ad C0
  show Gd X _ ML_seconds 0 [some (.ref 0), some (.int a), none] [] _ 0 0
  refine g_aload_n C0 dL_seconds_0 rfl ?_
  refine g_iload_n C0 dL_seconds_1 rfl ?_
  refine g_invVc (As := [.int a]) (n := 1) (st := []) (K2 := fun o2 w2 => o2 = o ∧ w2 = WX q2) C0 dL_seconds_2 CL_97 rfl rfl rfl ⟨by decide, by decide, by decide, by decide⟩ (Nat.le_of_ble_eq_true rfl) rfl (h _ ⟨rfl, rfl⟩) (fun v w2 g => ?_) (fun k w2 g => ?_)
  · obtain ⟨g1, rfl⟩ := g
    refine ⟨rfl, ?_⟩
    rcases hs with ⟨v9, g2⟩ | ⟨e9, g2, -⟩
    · rw [g2] at g1 hK
      cases g1
      refine g_iret C0 rfl dL_seconds_5 (by decide) (by decide) ?_
      exact hK
    · rw [g2] at g1; cases g1
  · obtain ⟨g1, rfl⟩ := g
    refine ⟨rfl, ?_⟩
    rcases hs with ⟨v9, g2⟩ | ⟨e9, g2, g3⟩
    · rw [g2] at g1; cases g1
    · rw [g2] at g1 hK
      cases g1
      subst g3
      · refine ⟨6, 2, 1, KTL_seconds_0, ?_⟩
        refine g_ldc C0 KK0 dL_seconds_7 ?_
        refine g_iret C0 rfl dL_seconds_9 (by decide) (by decide) ?_
        exact hK
theorem KTL_charged_0 : Cat ML_charged 2 0 6 2 1 := ⟨by decide, [], (⟨0, 5, 6, 13⟩ : ExceptionTableEntry), [], rfl, rfl, fun z hz => absurd hz List.not_mem_nil, by decide +kernel, by decide, KL0, KC0, by decide, Or.inr ⟨2, rfl, dL_charged_6, rfl⟩⟩
set_option maxRecDepth 100000 in
set_option maxHeartbeats 4000000 in
theorem w_charged {q q2 : XS} {o : AO} {a : Int32} (h : ∀ K : AO → AW → Prop, K o (WX q2) → Snd MX9_charged [.ref 0, .int a] (WX q) K) (hs : (∃ v, o = .inl (some (.int v))) ∨ ∃ e, o = .inr e ∧ (e = 0)) : CT ML_charged [.int a] q q2 (cod o) := by
  intro K hK
  refine Snd.ofH (by decide +kernel) (Nat.le_of_ble_eq_true rfl) rfl rfl ?_
  intro X D dA ad C0
  show Gd X _ ML_charged 0 [some (.ref 0), some (.int a), none] [] _ 0 0
  refine g_aload_n C0 dL_charged_0 rfl ?_
  refine g_iload_n C0 dL_charged_1 rfl ?_
  refine g_invVc (As := [.int a]) (n := 1) (st := []) (K2 := fun o2 w2 => o2 = o ∧ w2 = WX q2) C0 dL_charged_2 CL_100 rfl rfl rfl ⟨by decide, by decide, by decide, by decide⟩ (Nat.le_of_ble_eq_true rfl) rfl (h _ ⟨rfl, rfl⟩) (fun v w2 g => ?_) (fun k w2 g => ?_)
  · obtain ⟨g1, rfl⟩ := g
    refine ⟨rfl, ?_⟩
    rcases hs with ⟨v9, g2⟩ | ⟨e9, g2, -⟩
    · rw [g2] at g1 hK
      cases g1
      refine g_iret C0 rfl dL_charged_5 (by decide) (by decide) ?_
      exact hK
    · rw [g2] at g1; cases g1
  · obtain ⟨g1, rfl⟩ := g
    refine ⟨rfl, ?_⟩
    rcases hs with ⟨v9, g2⟩ | ⟨e9, g2, g3⟩
    · rw [g2] at g1; cases g1
    · rw [g2] at g1 hK
      cases g1
      subst g3
      · refine ⟨6, 2, 1, KTL_charged_0, ?_⟩
        refine g_ldc C0 KK0 dL_charged_7 ?_
        refine g_iret C0 rfl dL_charged_9 (by decide) (by decide) ?_
        exact hK
theorem KTL_chargedAnew_0 : Cat ML_chargedAnew 2 0 6 2 1 := ⟨by decide, [], (⟨0, 5, 6, 13⟩ : ExceptionTableEntry), [], rfl, rfl, fun z hz => absurd hz List.not_mem_nil, by decide +kernel, by decide, KL0, KC0, by decide, Or.inr ⟨2, rfl, dL_chargedAnew_6, rfl⟩⟩
set_option maxRecDepth 100000 in
set_option maxHeartbeats 4000000 in
theorem w_chargedAnew {q q2 : XS} {o : AO} {a : Int32} (h : ∀ K : AO → AW → Prop, K o (WX q2) → Snd MX9_chargedAnew [.ref 0, .int a] (WX q) K) (hs : (∃ v, o = .inl (some (.int v))) ∨ ∃ e, o = .inr e ∧ (e = 0)) : CT ML_chargedAnew [.int a] q q2 (cod o) := by
  intro K hK
  refine Snd.ofH (by decide +kernel) (Nat.le_of_ble_eq_true rfl) rfl rfl ?_
  intro X D dA ad C0
  show Gd X _ ML_chargedAnew 0 [some (.ref 0), some (.int a), none] [] _ 0 0
  refine g_aload_n C0 dL_chargedAnew_0 rfl ?_
  refine g_iload_n C0 dL_chargedAnew_1 rfl ?_
  refine g_invVc (As := [.int a]) (n := 1) (st := []) (K2 := fun o2 w2 => o2 = o ∧ w2 = WX q2) C0 dL_chargedAnew_2 CL_103 rfl rfl rfl ⟨by decide, by decide, by decide, by decide⟩ (Nat.le_of_ble_eq_true rfl) rfl (h _ ⟨rfl, rfl⟩) (fun v w2 g => ?_) (fun k w2 g => ?_)
  · obtain ⟨g1, rfl⟩ := g
    refine ⟨rfl, ?_⟩
    rcases hs with ⟨v9, g2⟩ | ⟨e9, g2, -⟩
    · rw [g2] at g1 hK
      cases g1
      refine g_iret C0 rfl dL_chargedAnew_5 (by decide) (by decide) ?_
      exact hK
    · rw [g2] at g1; cases g1
  · obtain ⟨g1, rfl⟩ := g
    refine ⟨rfl, ?_⟩
    rcases hs with ⟨v9, g2⟩ | ⟨e9, g2, g3⟩
    · rw [g2] at g1; cases g1
    · rw [g2] at g1 hK
      cases g1
      subst g3
      · refine ⟨6, 2, 1, KTL_chargedAnew_0, ?_⟩
        refine g_ldc C0 KK0 dL_chargedAnew_7 ?_
        refine g_iret C0 rfl dL_chargedAnew_9 (by decide) (by decide) ?_
        exact hK
theorem KTL_coins_0 : Cat ML_coins 2 0 6 2 1 := ⟨by decide, [], (⟨0, 5, 6, 13⟩ : ExceptionTableEntry), [], rfl, rfl, fun z hz => absurd hz List.not_mem_nil, by decide +kernel, by decide, KL0, KC0, by decide, Or.inr ⟨2, rfl, dL_coins_6, rfl⟩⟩
set_option maxRecDepth 100000 in
set_option maxHeartbeats 4000000 in
theorem w_coins {q q2 : XS} {o : AO} {a : Int32} (h : ∀ K : AO → AW → Prop, K o (WX q2) → Snd MX9_coins [.ref 0, .int a] (WX q) K) (hs : (∃ v, o = .inl (some (.int v))) ∨ ∃ e, o = .inr e ∧ (e = 0)) : CT ML_coins [.int a] q q2 (cod o) := by
  intro K hK
  refine Snd.ofH (by decide +kernel) (Nat.le_of_ble_eq_true rfl) rfl rfl ?_
  intro X D dA ad C0
  show Gd X _ ML_coins 0 [some (.ref 0), some (.int a), none] [] _ 0 0
  refine g_aload_n C0 dL_coins_0 rfl ?_
  refine g_iload_n C0 dL_coins_1 rfl ?_
  refine g_invVc (As := [.int a]) (n := 1) (st := []) (K2 := fun o2 w2 => o2 = o ∧ w2 = WX q2) C0 dL_coins_2 CL_106 rfl rfl rfl ⟨by decide, by decide, by decide, by decide⟩ (Nat.le_of_ble_eq_true rfl) rfl (h _ ⟨rfl, rfl⟩) (fun v w2 g => ?_) (fun k w2 g => ?_)
  · obtain ⟨g1, rfl⟩ := g
    refine ⟨rfl, ?_⟩
    rcases hs with ⟨v9, g2⟩ | ⟨e9, g2, -⟩
    · rw [g2] at g1 hK
      cases g1
      refine g_iret C0 rfl dL_coins_5 (by decide) (by decide) ?_
      exact hK
    · rw [g2] at g1; cases g1
  · obtain ⟨g1, rfl⟩ := g
    refine ⟨rfl, ?_⟩
    rcases hs with ⟨v9, g2⟩ | ⟨e9, g2, g3⟩
    · rw [g2] at g1; cases g1
    · rw [g2] at g1 hK
      cases g1
      subst g3
      · refine ⟨6, 2, 1, KTL_coins_0, ?_⟩
        refine g_ldc C0 KK0 dL_coins_7 ?_
        refine g_iret C0 rfl dL_coins_9 (by decide) (by decide) ?_
        exact hK
theorem KTL_earned_0 : Cat ML_earned 2 0 6 2 1 := ⟨by decide, [], (⟨0, 5, 6, 13⟩ : ExceptionTableEntry), [], rfl, rfl, fun z hz => absurd hz List.not_mem_nil, by decide +kernel, by decide, KL0, KC0, by decide, Or.inr ⟨2, rfl, dL_earned_6, rfl⟩⟩
set_option maxRecDepth 100000 in
set_option maxHeartbeats 4000000 in
theorem w_earned {q q2 : XS} {o : AO} {a : Int32} (h : ∀ K : AO → AW → Prop, K o (WX q2) → Snd MX9_earned [.ref 0, .int a] (WX q) K) (hs : (∃ v, o = .inl (some (.int v))) ∨ ∃ e, o = .inr e ∧ (e = 0)) : CT ML_earned [.int a] q q2 (cod o) := by
  intro K hK
  refine Snd.ofH (by decide +kernel) (Nat.le_of_ble_eq_true rfl) rfl rfl ?_
  intro X D dA ad C0
  show Gd X _ ML_earned 0 [some (.ref 0), some (.int a), none] [] _ 0 0
  refine g_aload_n C0 dL_earned_0 rfl ?_
  refine g_iload_n C0 dL_earned_1 rfl ?_
  refine g_invVc (As := [.int a]) (n := 1) (st := []) (K2 := fun o2 w2 => o2 = o ∧ w2 = WX q2) C0 dL_earned_2 CL_109 rfl rfl rfl ⟨by decide, by decide, by decide, by decide⟩ (Nat.le_of_ble_eq_true rfl) rfl (h _ ⟨rfl, rfl⟩) (fun v w2 g => ?_) (fun k w2 g => ?_)
  · obtain ⟨g1, rfl⟩ := g
    refine ⟨rfl, ?_⟩
    rcases hs with ⟨v9, g2⟩ | ⟨e9, g2, -⟩
    · rw [g2] at g1 hK
      cases g1
      refine g_iret C0 rfl dL_earned_5 (by decide) (by decide) ?_
      exact hK
    · rw [g2] at g1; cases g1
  · obtain ⟨g1, rfl⟩ := g
    refine ⟨rfl, ?_⟩
    rcases hs with ⟨v9, g2⟩ | ⟨e9, g2, g3⟩
    · rw [g2] at g1; cases g1
    · rw [g2] at g1 hK
      cases g1
      subst g3
      · refine ⟨6, 2, 1, KTL_earned_0, ?_⟩
        refine g_ldc C0 KK0 dL_earned_7 ?_
        refine g_iret C0 rfl dL_earned_9 (by decide) (by decide) ?_
        exact hK
theorem KTL_earnedAnew_0 : Cat ML_earnedAnew 2 0 6 2 1 := ⟨by decide, [], (⟨0, 5, 6, 13⟩ : ExceptionTableEntry), [], rfl, rfl, fun z hz => absurd hz List.not_mem_nil, by decide +kernel, by decide, KL0, KC0, by decide, Or.inr ⟨2, rfl, dL_earnedAnew_6, rfl⟩⟩
set_option maxRecDepth 100000 in
set_option maxHeartbeats 4000000 in
theorem w_earnedAnew {q q2 : XS} {o : AO} {a : Int32} (h : ∀ K : AO → AW → Prop, K o (WX q2) → Snd MX9_earnedAnew [.ref 0, .int a] (WX q) K) (hs : (∃ v, o = .inl (some (.int v))) ∨ ∃ e, o = .inr e ∧ (e = 0)) : CT ML_earnedAnew [.int a] q q2 (cod o) := by
  intro K hK
  refine Snd.ofH (by decide +kernel) (Nat.le_of_ble_eq_true rfl) rfl rfl ?_
  intro X D dA ad C0
  show Gd X _ ML_earnedAnew 0 [some (.ref 0), some (.int a), none] [] _ 0 0
  refine g_aload_n C0 dL_earnedAnew_0 rfl ?_
  refine g_iload_n C0 dL_earnedAnew_1 rfl ?_
  refine g_invVc (As := [.int a]) (n := 1) (st := []) (K2 := fun o2 w2 => o2 = o ∧ w2 = WX q2) C0 dL_earnedAnew_2 CL_112 rfl rfl rfl ⟨by decide, by decide, by decide, by decide⟩ (Nat.le_of_ble_eq_true rfl) rfl (h _ ⟨rfl, rfl⟩) (fun v w2 g => ?_) (fun k w2 g => ?_)
  · obtain ⟨g1, rfl⟩ := g
    refine ⟨rfl, ?_⟩
    rcases hs with ⟨v9, g2⟩ | ⟨e9, g2, -⟩
    · rw [g2] at g1 hK
      cases g1
      refine g_iret C0 rfl dL_earnedAnew_5 (by decide) (by decide) ?_
      exact hK
    · rw [g2] at g1; cases g1
  · obtain ⟨g1, rfl⟩ := g
    refine ⟨rfl, ?_⟩
    rcases hs with ⟨v9, g2⟩ | ⟨e9, g2, g3⟩
    · rw [g2] at g1; cases g1
    · rw [g2] at g1 hK
      cases g1
      subst g3
      · refine ⟨6, 2, 1, KTL_earnedAnew_0, ?_⟩
        refine g_ldc C0 KK0 dL_earnedAnew_7 ?_
        refine g_iret C0 rfl dL_earnedAnew_9 (by decide) (by decide) ?_
        exact hK
theorem KTL_spent_0 : Cat ML_spent 2 0 6 2 1 := ⟨by decide, [], (⟨0, 5, 6, 13⟩ : ExceptionTableEntry), [], rfl, rfl, fun z hz => absurd hz List.not_mem_nil, by decide +kernel, by decide, KL0, KC0, by decide, Or.inr ⟨2, rfl, dL_spent_6, rfl⟩⟩
set_option maxRecDepth 100000 in
set_option maxHeartbeats 4000000 in
theorem w_spent {q q2 : XS} {o : AO} {a : Int32} (h : ∀ K : AO → AW → Prop, K o (WX q2) → Snd MX9_spent [.ref 0, .int a] (WX q) K) (hs : (∃ v, o = .inl (some (.int v))) ∨ ∃ e, o = .inr e ∧ (e = 0)) : CT ML_spent [.int a] q q2 (cod o) := by
  intro K hK
  refine Snd.ofH (by decide +kernel) (Nat.le_of_ble_eq_true rfl) rfl rfl ?_
  intro X D dA ad C0
  show Gd X _ ML_spent 0 [some (.ref 0), some (.int a), none] [] _ 0 0
  refine g_aload_n C0 dL_spent_0 rfl ?_
  refine g_iload_n C0 dL_spent_1 rfl ?_
  refine g_invVc (As := [.int a]) (n := 1) (st := []) (K2 := fun o2 w2 => o2 = o ∧ w2 = WX q2) C0 dL_spent_2 CL_115 rfl rfl rfl ⟨by decide, by decide, by decide, by decide⟩ (Nat.le_of_ble_eq_true rfl) rfl (h _ ⟨rfl, rfl⟩) (fun v w2 g => ?_) (fun k w2 g => ?_)
  · obtain ⟨g1, rfl⟩ := g
    refine ⟨rfl, ?_⟩
    rcases hs with ⟨v9, g2⟩ | ⟨e9, g2, -⟩
    · rw [g2] at g1 hK
      cases g1
      refine g_iret C0 rfl dL_spent_5 (by decide) (by decide) ?_
      exact hK
    · rw [g2] at g1; cases g1
  · obtain ⟨g1, rfl⟩ := g
    refine ⟨rfl, ?_⟩
    rcases hs with ⟨v9, g2⟩ | ⟨e9, g2, g3⟩
    · rw [g2] at g1; cases g1
    · rw [g2] at g1 hK
      cases g1
      subst g3
      · refine ⟨6, 2, 1, KTL_spent_0, ?_⟩
        refine g_ldc C0 KK0 dL_spent_7 ?_
        refine g_iret C0 rfl dL_spent_9 (by decide) (by decide) ?_
        exact hK
theorem KTL_spentAnew_0 : Cat ML_spentAnew 2 0 6 2 1 := ⟨by decide, [], (⟨0, 5, 6, 13⟩ : ExceptionTableEntry), [], rfl, rfl, fun z hz => absurd hz List.not_mem_nil, by decide +kernel, by decide, KL0, KC0, by decide, Or.inr ⟨2, rfl, dL_spentAnew_6, rfl⟩⟩
set_option maxRecDepth 100000 in
set_option maxHeartbeats 4000000 in
theorem w_spentAnew {q q2 : XS} {o : AO} {a : Int32} (h : ∀ K : AO → AW → Prop, K o (WX q2) → Snd MX9_spentAnew [.ref 0, .int a] (WX q) K) (hs : (∃ v, o = .inl (some (.int v))) ∨ ∃ e, o = .inr e ∧ (e = 0)) : CT ML_spentAnew [.int a] q q2 (cod o) := by
  intro K hK
  refine Snd.ofH (by decide +kernel) (Nat.le_of_ble_eq_true rfl) rfl rfl ?_
  intro X D dA ad C0
  show Gd X _ ML_spentAnew 0 [some (.ref 0), some (.int a), none] [] _ 0 0
  refine g_aload_n C0 dL_spentAnew_0 rfl ?_
  refine g_iload_n C0 dL_spentAnew_1 rfl ?_
  refine g_invVc (As := [.int a]) (n := 1) (st := []) (K2 := fun o2 w2 => o2 = o ∧ w2 = WX q2) C0 dL_spentAnew_2 CL_118 rfl rfl rfl ⟨by decide, by decide, by decide, by decide⟩ (Nat.le_of_ble_eq_true rfl) rfl (h _ ⟨rfl, rfl⟩) (fun v w2 g => ?_) (fun k w2 g => ?_)
  · obtain ⟨g1, rfl⟩ := g
    refine ⟨rfl, ?_⟩
    rcases hs with ⟨v9, g2⟩ | ⟨e9, g2, -⟩
    · rw [g2] at g1 hK
      cases g1
      refine g_iret C0 rfl dL_spentAnew_5 (by decide) (by decide) ?_
      exact hK
    · rw [g2] at g1; cases g1
  · obtain ⟨g1, rfl⟩ := g
    refine ⟨rfl, ?_⟩
    rcases hs with ⟨v9, g2⟩ | ⟨e9, g2, g3⟩
    · rw [g2] at g1; cases g1
    · rw [g2] at g1 hK
      cases g1
      subst g3
      · refine ⟨6, 2, 1, KTL_spentAnew_0, ?_⟩
        refine g_ldc C0 KK0 dL_spentAnew_7 ?_
        refine g_iret C0 rfl dL_spentAnew_9 (by decide) (by decide) ?_
        exact hK
theorem KTL_losses_0 : Cat ML_losses 2 0 6 2 1 := ⟨by decide, [], (⟨0, 5, 6, 13⟩ : ExceptionTableEntry), [], rfl, rfl, fun z hz => absurd hz List.not_mem_nil, by decide +kernel, by decide, KL0, KC0, by decide, Or.inr ⟨2, rfl, dL_losses_6, rfl⟩⟩
set_option maxRecDepth 100000 in
set_option maxHeartbeats 4000000 in
theorem w_losses {q q2 : XS} {o : AO} {a : Int32} (h : ∀ K : AO → AW → Prop, K o (WX q2) → Snd MX9_losses [.ref 0, .int a] (WX q) K) (hs : (∃ v, o = .inl (some (.int v))) ∨ ∃ e, o = .inr e ∧ (e = 0)) : CT ML_losses [.int a] q q2 (cod o) := by
  intro K hK
  refine Snd.ofH (by decide +kernel) (Nat.le_of_ble_eq_true rfl) rfl rfl ?_
  intro X D dA ad C0
  show Gd X _ ML_losses 0 [some (.ref 0), some (.int a), none] [] _ 0 0
  refine g_aload_n C0 dL_losses_0 rfl ?_
  refine g_iload_n C0 dL_losses_1 rfl ?_
  refine g_invVc (As := [.int a]) (n := 1) (st := []) (K2 := fun o2 w2 => o2 = o ∧ w2 = WX q2) C0 dL_losses_2 CL_121 rfl rfl rfl ⟨by decide, by decide, by decide, by decide⟩ (Nat.le_of_ble_eq_true rfl) rfl (h _ ⟨rfl, rfl⟩) (fun v w2 g => ?_) (fun k w2 g => ?_)
  · obtain ⟨g1, rfl⟩ := g
    refine ⟨rfl, ?_⟩
    rcases hs with ⟨v9, g2⟩ | ⟨e9, g2, -⟩
    · rw [g2] at g1 hK
      cases g1
      refine g_iret C0 rfl dL_losses_5 (by decide) (by decide) ?_
      exact hK
    · rw [g2] at g1; cases g1
  · obtain ⟨g1, rfl⟩ := g
    refine ⟨rfl, ?_⟩
    rcases hs with ⟨v9, g2⟩ | ⟨e9, g2, g3⟩
    · rw [g2] at g1; cases g1
    · rw [g2] at g1 hK
      cases g1
      subst g3
      · refine ⟨6, 2, 1, KTL_losses_0, ?_⟩
        refine g_ldc C0 KK0 dL_losses_7 ?_
        refine g_iret C0 rfl dL_losses_9 (by decide) (by decide) ?_
        exact hK

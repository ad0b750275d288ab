/-! ===== the law's wrappers ===== -/
def WS (t : XS) : AW := (WM t).map (esh 84)
/-- the law's world: the class's object, the reference's, the array of one long -/
def W3 (q t : XS) (f : Nat → Int64) : AW := WX q ++ (WS t ++ [.inl (2, 1, .inr (.inl f))])
theorem W3_len (q t : XS) (f : Nat → Int64) : (W3 q t f).length = 110 := rfl
theorem W3_out (q t : XS) (f : Nat → Int64) : (W3 q t f)[109]? = some (.inl (2, 1, .inr (.inl f))) := rfl
theorem W3_set (q t : XS) (f g : Nat → Int64) : (W3 q t f).set 109 (.inl (2, 1, .inr (.inl g))) = W3 q t g := rfl
theorem in01 : vp_in 0 1 := by rw [← nI_0]; exact vp_in_nI (by decide) (by decide)
theorem vsh_0 (v : Value) : vsh 0 v = v := by
  cases v with
  | ref i => show Value.ref (0 + i) = .ref i; rw [Nat.zero_add]
  | _ => rfl
theorem osh_0 (o : AO) : osh 0 o = o := by
  cases o with
  | inl v =>
    cases v with
    | none => rfl
    | some v => exact congrArg (fun z => Sum.inl (some z)) (vsh_0 v)
  | inr k => rfl
theorem esh_0 (x : va_E) : esh 0 x = x := by
  cases x with
  | inl a => rfl
  | inr o =>
    have h : o.2.map (vsh 0) = o.2 := by
      rw [show (vsh 0 : Value → Value) = id from funext vsh_0, List.map_id]
    show Sum.inr (o.1, o.2.map (vsh 0)) = _
    rw [h]
theorem big_0 (w post : AW) : big [] w post = w ++ post := by
  show [] ++ (w.map (esh 0) ++ post) = _
  rw [List.nil_append, show (esh 0 : va_E → va_E) = id from funext esh_0, List.map_id]
/-- a method of the class in the law's world -/
theorem frX {M : MT} {av : List Value} {q q2 : XS} {o : AO} {post : AW} (h : ∀ K : AO → AW → Prop, K o (WX q2) → Snd M av (WX q) K) : Snd M av (WX q ++ post) (fun o2 w2 => o2 = o ∧ w2 = WX q2 ++ post) := by
  have h2 := Snd.frame (M := M) (av := av) (w := WX q) (K := fun o2 w2 => o2 = o ∧ w2 = WX q2 ++ post) [] post (h _ ⟨Or.inl (WX_len2 _ _), osh_0 o, big_0 _ _⟩)
  rw [big_0, show av.map (vsh ([] : AW).length) = av from by rw [show (vsh ([] : AW).length : Value → Value) = id from funext vsh_0, List.map_id]] at h2
  exact h2
/-- a method of the reference in the law's world -/
theorem frM {M : MT} {av : List Value} {q t t2 : XS} {f : Nat → Int64} {o : AO} (h : ∀ K : AO → AW → Prop, K o (WM t2) → Snd M av (WM t) K) : Snd M (av.map (vsh 84)) (W3 q t f) (fun o2 w2 => o2 = osh 84 o ∧ w2 = W3 q t2 f) :=
  Snd.frame (M := M) (av := av) (w := WM t) (K := fun o2 w2 => o2 = osh 84 o ∧ w2 = W3 q t2 f) (WX q) [.inl (2, 1, .inr (.inl f))] (h _ ⟨Or.inl (WM_len2 _ _), rfl, rfl⟩)
theorem KL0 : Cond.classLink RL 13 (EXN 0) ∈ WL := WL_tb 293 (by decide +kernel) (by decide +kernel)
theorem KL1 : Cond.classLink RL 15 (EXN 1) ∈ WL := WL_tb 294 (by decide +kernel) (by decide +kernel)
theorem KL2 : Cond.classLink RL 17 (EXN 2) ∈ WL := WL_tb 295 (by decide +kernel) (by decide +kernel)
theorem KC0 : Cond.castable (EXN 0) (EXN 0) ∈ BD := List.mem_filter.mpr ⟨List.mem_of_getElem? (i := 305) (by decide +kernel), rfl⟩
theorem KC1 : Cond.castable (EXN 1) (EXN 1) ∈ BD := List.mem_filter.mpr ⟨List.mem_of_getElem? (i := 376) (by decide +kernel), rfl⟩
theorem KC2 : Cond.castable (EXN 2) (EXN 2) ∈ BD := List.mem_filter.mpr ⟨List.mem_of_getElem? (i := 400) (by decide +kernel), rfl⟩
theorem KTL_setPrices_0 : Cat ML_setPrices 7 0 15 5 2 := ⟨by decide, [], (⟨0, 12, 15, 13⟩ : ExceptionTableEntry), [(⟨0, 12, 19, 15⟩ : ExceptionTableEntry), (⟨0, 12, 23, 17⟩ : ExceptionTableEntry)], rfl, rfl, fun z hz => absurd hz List.not_mem_nil, by decide +kernel, by decide, KL0, KC0, by decide, Or.inl ⟨dL_setPrices_15, rfl⟩⟩
theorem KTL_setPrices_1 : Cat ML_setPrices 7 1 19 5 2 := ⟨by decide, [(⟨0, 12, 15, 13⟩ : ExceptionTableEntry)], (⟨0, 12, 19, 15⟩ : ExceptionTableEntry), [(⟨0, 12, 23, 17⟩ : ExceptionTableEntry)], rfl, rfl, fun z hz => by rw [List.mem_singleton.mp hz]; exact Or.inr ⟨by decide, 0, by decide, by decide, KL0⟩, by decide +kernel, by decide, KL1, KC1, by decide, Or.inl ⟨dL_setPrices_19, rfl⟩⟩
theorem KTL_setPrices_2 : Cat ML_setPrices 7 2 23 5 2 := ⟨by decide, [(⟨0, 12, 15, 13⟩ : ExceptionTableEntry), (⟨0, 12, 19, 15⟩ : ExceptionTableEntry)], (⟨0, 12, 23, 17⟩ : ExceptionTableEntry), [], rfl, rfl, fun z hz => by
    rcases List.mem_cons.mp hz with h9 | h9
    · rw [h9]; exact Or.inr ⟨by decide, 0, by decide, by decide, KL0⟩
    · rw [List.mem_singleton.mp h9]; exact Or.inr ⟨by decide, 1, by decide, by decide, KL1⟩, by decide +kernel, by decide, KL2, KC2, by decide, Or.inl ⟨dL_setPrices_23, rfl⟩⟩
set_option maxRecDepth 100000 in
set_option maxHeartbeats 4000000 in
theorem w_setPrices {q q2 t : XS} {o : AO} {f : Nat → Int64} {K : AO → AW → Prop} {a b c : Int32} (h : ∀ K : AO → AW → Prop, K o (WX q2) → Snd MX9_setPrices [.ref 0, .int a, .int b, .int c] (WX q) K) (hs : (∃ v, o = .inl (some (.int v))) ∨ ∃ e, o = .inr e ∧ e < 3 ∧ 0 < ka 1 2 3 e) (hy : ∀ v, o = .inl (some (.int v)) → K (.inl (some (.int 0))) (W3 q2 t (vp_updL f 0 v.toInt64))) (hx : ∀ e, o = .inr e → K (.inl (some (.int (nI (ka 1 2 3 e))))) (W3 q2 t f)) : Snd ML_setPrices [.ref 0, .int a, .int b, .int c, .ref 109] (W3 q t f) K := by
  refine Snd.ofH (by decide +kernel) (Nat.le_of_ble_eq_true rfl) rfl rfl ?_
  intro X D dA ad C0
  show Gd X _ ML_setPrices 0 [some (.ref 0), some (.int a), some (.int b), some (.int c), some (.ref 109), none] [] _ 0 0
  refine g_aload C0 dL_setPrices_0 rfl ?_
  refine g_iconst (v := 0) C0 dL_setPrices_2 (by decide) ?_
  refine g_aload_n C0 dL_setPrices_3 rfl ?_
  refine g_iload_n C0 dL_setPrices_4 rfl ?_
  refine g_iload_n C0 dL_setPrices_5 rfl ?_
  refine g_iload_n C0 dL_setPrices_6 rfl ?_
  refine g_invVc (As := [.int a, .int b, .int c]) (n := 3) (st := [.int 0, .ref 109]) (K2 := fun o2 w2 => o2 = o ∧ w2 = WX q2 ++ (WS t ++ [.inl (2, 1, .inr (.inl f))])) C0 dL_setPrices_7 CL_7 rfl rfl rfl ⟨by decide, by decide, by decide, by decide⟩ (Nat.le_of_ble_eq_true rfl) rfl (frX h) (fun v w2 g => ?_) (fun k w2 g => ?_)
  · obtain ⟨g1, rfl⟩ := g
    refine ⟨rfl, ?_⟩
    rcases hs with ⟨v9, g2⟩ | ⟨e9, g2, -⟩
    · rw [g2] at g1
      cases g1
      have hK := hy v9 g2
      refine g_i2l C0 dL_setPrices_10 ?_
      refine g_lastore C0 dL_setPrices_11 (W3_out q2 t f) in01 ?_
      refine g_w (W3_set q2 t f _) ?_
      refine g_goto (tgt := 27) C0 dL_setPrices_12 (by decide) ?_
      refine g_iconst (v := 0) C0 dL_setPrices_27 (by decide) ?_
      refine g_iret C0 rfl dL_setPrices_28 (by decide) (by decide) ?_
      exact hK
    · rw [g2] at g1; cases g1
  · obtain ⟨g1, rfl⟩ := g
    refine ⟨rfl, ?_⟩
    rcases hs with ⟨v9, g2⟩ | ⟨e9, g2, g3, g4⟩
    · rw [g2] at g1; cases g1
    · rw [g2] at g1
      cases g1
      have hK := hx _ g2
      match k, g3, g4 with
      | 0, _, _ =>
        refine ⟨15, 5, 2, KTL_setPrices_0, ?_⟩
        refine g_iconst (v := nI 1) C0 dL_setPrices_17 (by decide +kernel) ?_
        refine g_iret C0 rfl dL_setPrices_18 (by decide) (by decide) ?_
        exact hK
      | 1, _, _ =>
        refine ⟨19, 5, 2, KTL_setPrices_1, ?_⟩
        refine g_iconst (v := nI 2) C0 dL_setPrices_21 (by decide +kernel) ?_
        refine g_iret C0 rfl dL_setPrices_22 (by decide) (by decide) ?_
        exact hK
      | 2, _, _ =>
        refine ⟨23, 5, 2, KTL_setPrices_2, ?_⟩
        refine g_iconst (v := nI 3) C0 dL_setPrices_25 (by decide +kernel) ?_
        refine g_iret C0 rfl dL_setPrices_26 (by decide) (by decide) ?_
        exact hK
      | k + 3, g3, _ => exact absurd g3 (by omega)
theorem KTL_setDelay_0 : Cat ML_setDelay 5 0 13 4 2 := ⟨by decide, [], (⟨0, 10, 13, 13⟩ : ExceptionTableEntry), [(⟨0, 10, 17, 15⟩ : ExceptionTableEntry)], rfl, rfl, fun z hz => absurd hz List.not_mem_nil, by decide +kernel, by decide, KL0, KC0, by decide, Or.inl ⟨dL_setDelay_13, rfl⟩⟩
theorem KTL_setDelay_1 : Cat ML_setDelay 5 1 17 4 2 := ⟨by decide, [(⟨0, 10, 13, 13⟩ : ExceptionTableEntry)], (⟨0, 10, 17, 15⟩ : ExceptionTableEntry), [], rfl, rfl, fun z hz => by rw [List.mem_singleton.mp hz]; exact Or.inr ⟨by decide, 0, by decide, by decide, KL0⟩, by decide +kernel, by decide, KL1, KC1, by decide, Or.inl ⟨dL_setDelay_17, rfl⟩⟩
set_option maxRecDepth 100000 in
set_option maxHeartbeats 4000000 in
theorem w_setDelay {q q2 t : XS} {o : AO} {f : Nat → Int64} {K : AO → AW → Prop} {a b : Int32} (h : ∀ K : AO → AW → Prop, K o (WX q2) → Snd MX9_setDelay [.ref 0, .int a, .int b] (WX q) K) (hs : (∃ v, o = .inl (some (.int v))) ∨ ∃ e, o = .inr e ∧ e < 3 ∧ 0 < ka 1 2 0 e) (hy : ∀ v, o = .inl (some (.int v)) → K (.inl (some (.int 0))) (W3 q2 t (vp_updL f 0 v.toInt64))) (hx : ∀ e, o = .inr e → K (.inl (some (.int (nI (ka 1 2 0 e))))) (W3 q2 t f)) : Snd ML_setDelay [.ref 0, .int a, .int b, .ref 109] (W3 q t f) K := by
  refine Snd.ofH (by decide +kernel) (Nat.le_of_ble_eq_true rfl) rfl rfl ?_
  intro X D dA ad C0
  show Gd X _ ML_setDelay 0 [some (.ref 0), some (.int a), some (.int b), some (.ref 109), none] [] _ 0 0
  refine g_aload_n C0 dL_setDelay_0 rfl ?_
  refine g_iconst (v := 0) C0 dL_setDelay_1 (by decide) ?_
  refine g_aload_n C0 dL_setDelay_2 rfl ?_
  refine g_iload_n C0 dL_setDelay_3 rfl ?_
  refine g_iload_n C0 dL_setDelay_4 rfl ?_
  refine g_invVc (As := [.int a, .int b]) (n := 2) (st := [.int 0, .ref 109]) (K2 := fun o2 w2 => o2 = o ∧ w2 = WX q2 ++ (WS t ++ [.inl (2, 1, .inr (.inl f))])) C0 dL_setDelay_5 CL_19 rfl rfl rfl ⟨by decide, by decide, by decide, by decide⟩ (Nat.le_of_ble_eq_true rfl) rfl (frX h) (fun v w2 g => ?_) (fun k w2 g => ?_)
  · obtain ⟨g1, rfl⟩ := g
    refine ⟨rfl, ?_⟩
    rcases hs with ⟨v9, g2⟩ | ⟨e9, g2, -⟩
    · rw [g2] at g1
      cases g1
      have hK := hy v9 g2
      refine g_i2l C0 dL_setDelay_8 ?_
      refine g_lastore C0 dL_setDelay_9 (W3_out q2 t f) in01 ?_
      refine g_w (W3_set q2 t f _) ?_
      refine g_goto (tgt := 21) C0 dL_setDelay_10 (by decide) ?_
      refine g_iconst (v := 0) C0 dL_setDelay_21 (by decide) ?_
      refine g_iret C0 rfl dL_setDelay_22 (by decide) (by decide) ?_
      exact hK
    · rw [g2] at g1; cases g1
  · obtain ⟨g1, rfl⟩ := g
    refine ⟨rfl, ?_⟩
    rcases hs with ⟨v9, g2⟩ | ⟨e9, g2, g3, g4⟩
    · rw [g2] at g1; cases g1
    · rw [g2] at g1
      cases g1
      have hK := hx _ g2
      match k, g3, g4 with
      | 0, _, _ =>
        refine ⟨13, 4, 2, KTL_setDelay_0, ?_⟩
        refine g_iconst (v := nI 1) C0 dL_setDelay_15 (by decide +kernel) ?_
        refine g_iret C0 rfl dL_setDelay_16 (by decide) (by decide) ?_
        exact hK
      | 1, _, _ =>
        refine ⟨17, 4, 2, KTL_setDelay_1, ?_⟩
        refine g_iconst (v := nI 2) C0 dL_setDelay_19 (by decide +kernel) ?_
        refine g_iret C0 rfl dL_setDelay_20 (by decide) (by decide) ?_
        exact hK
      | 2, _, g4 => exact absurd g4 (by decide)
      | k + 3, g3, _ => exact absurd g3 (by omega)
theorem KTL_setTrunk_0 : Cat ML_setTrunk 7 0 15 5 2 := ⟨by decide, [], (⟨0, 12, 15, 13⟩ : ExceptionTableEntry), [(⟨0, 12, 19, 15⟩ : ExceptionTableEntry)], rfl, rfl, fun z hz => absurd hz List.not_mem_nil, by decide +kernel, by decide, KL0, KC0, by decide, Or.inl ⟨dL_setTrunk_15, rfl⟩⟩
theorem KTL_setTrunk_1 : Cat ML_setTrunk 7 1 19 5 2 := ⟨by decide, [(⟨0, 12, 15, 13⟩ : ExceptionTableEntry)], (⟨0, 12, 19, 15⟩ : ExceptionTableEntry), [], rfl, rfl, fun z hz => by rw [List.mem_singleton.mp hz]; exact Or.inr ⟨by decide, 0, by decide, by decide, KL0⟩, by decide +kernel, by decide, KL1, KC1, by decide, Or.inl ⟨dL_setTrunk_19, rfl⟩⟩
set_option maxRecDepth 100000 in
set_option maxHeartbeats 4000000 in
theorem w_setTrunk {q q2 t : XS} {o : AO} {f : Nat → Int64} {K : AO → AW → Prop} {a b c : Int32} (h : ∀ K : AO → AW → Prop, K o (WX q2) → Snd MX9_setTrunk [.ref 0, .int a, .int b, .int c] (WX q) K) (hs : (∃ v, o = .inl (some (.int v))) ∨ ∃ e, o = .inr e ∧ e < 3 ∧ 0 < ka 1 2 0 e) (hy : ∀ v, o = .inl (some (.int v)) → K (.inl (some (.int 0))) (W3 q2 t (vp_updL f 0 v.toInt64))) (hx : ∀ e, o = .inr e → K (.inl (some (.int (nI (ka 1 2 0 e))))) (W3 q2 t f)) : Snd ML_setTrunk [.ref 0, .int a, .int b, .int c, .ref 109] (W3 q t f) K := by
  refine Snd.ofH (by decide +kernel) (Nat.le_of_ble_eq_true rfl) rfl rfl ?_
  intro X D dA ad C0
  show Gd X _ ML_setTrunk 0 [some (.ref 0), some (.int a), some (.int b), some (.int c), some (.ref 109), none] [] _ 0 0
  refine g_aload C0 dL_setTrunk_0 rfl ?_
  refine g_iconst (v := 0) C0 dL_setTrunk_2 (by decide) ?_
  refine g_aload_n C0 dL_setTrunk_3 rfl ?_
  refine g_iload_n C0 dL_setTrunk_4 rfl ?_
  refine g_iload_n C0 dL_setTrunk_5 rfl ?_
  refine g_iload_n C0 dL_setTrunk_6 rfl ?_
  refine g_invVc (As := [.int a, .int b, .int c]) (n := 3) (st := [.int 0, .ref 109]) (K2 := fun o2 w2 => o2 = o ∧ w2 = WX q2 ++ (WS t ++ [.inl (2, 1, .inr (.inl f))])) C0 dL_setTrunk_7 CL_23 rfl rfl rfl ⟨by decide, by decide, by decide, by decide⟩ (Nat.le_of_ble_eq_true rfl) rfl (frX h) (fun v w2 g => ?_) (fun k w2 g => ?_)
  · obtain ⟨g1, rfl⟩ := g
    refine ⟨rfl, ?_⟩
    rcases hs with ⟨v9, g2⟩ | ⟨e9, g2, -⟩
    · rw [g2] at g1
      cases g1
      have hK := hy v9 g2
      refine g_i2l C0 dL_setTrunk_10 ?_
      refine g_lastore C0 dL_setTrunk_11 (W3_out q2 t f) in01 ?_
      refine g_w (W3_set q2 t f _) ?_
      refine g_goto (tgt := 23) C0 dL_setTrunk_12 (by decide) ?_
      refine g_iconst (v := 0) C0 dL_setTrunk_23 (by decide) ?_
      refine g_iret C0 rfl dL_setTrunk_24 (by decide) (by decide) ?_
      exact hK
    · rw [g2] at g1; cases g1
  · obtain ⟨g1, rfl⟩ := g
    refine ⟨rfl, ?_⟩
    rcases hs with ⟨v9, g2⟩ | ⟨e9, g2, g3, g4⟩
    · rw [g2] at g1; cases g1
    · rw [g2] at g1
      cases g1
      have hK := hx _ g2
      match k, g3, g4 with
      | 0, _, _ =>
        refine ⟨15, 5, 2, KTL_setTrunk_0, ?_⟩
        refine g_iconst (v := nI 1) C0 dL_setTrunk_17 (by decide +kernel) ?_
        refine g_iret C0 rfl dL_setTrunk_18 (by decide) (by decide) ?_
        exact hK
      | 1, _, _ =>
        refine ⟨19, 5, 2, KTL_setTrunk_1, ?_⟩
        refine g_iconst (v := nI 2) C0 dL_setTrunk_21 (by decide +kernel) ?_
        refine g_iret C0 rfl dL_setTrunk_22 (by decide) (by decide) ?_
        exact hK
      | 2, _, g4 => exact absurd g4 (by decide)
      | k + 3, g3, _ => exact absurd g3 (by omega)
theorem KTL_port_0 : Cat ML_port 5 0 13 4 2 := ⟨by decide, [], (⟨0, 10, 13, 13⟩ : ExceptionTableEntry), [(⟨0, 10, 17, 17⟩ : ExceptionTableEntry)], rfl, rfl, fun z hz => absurd hz List.not_mem_nil, by decide +kernel, by decide, KL0, KC0, by decide, Or.inl ⟨dL_port_13, rfl⟩⟩
theorem KTL_port_2 : Cat ML_port 5 2 17 4 2 := ⟨by decide, [(⟨0, 10, 13, 13⟩ : ExceptionTableEntry)], (⟨0, 10, 17, 17⟩ : ExceptionTableEntry), [], rfl, rfl, fun z hz => by rw [List.mem_singleton.mp hz]; exact Or.inr ⟨by decide, 0, by decide, by decide, KL0⟩, by decide +kernel, by decide, KL2, KC2, by decide, Or.inl ⟨dL_port_17, rfl⟩⟩
set_option maxRecDepth 100000 in
set_option maxHeartbeats 4000000 in
theorem w_port {q q2 t : XS} {o : AO} {f : Nat → Int64} {K : AO → AW → Prop} {a b : Int32} (h : ∀ K : AO → AW → Prop, K o (WX q2) → Snd MX9_port [.ref 0, .int a, .int b] (WX q) K) (hs : (∃ v, o = .inl (some (.int v))) ∨ ∃ e, o = .inr e ∧ e < 3 ∧ 0 < ka 1 0 2 e) (hy : ∀ v, o = .inl (some (.int v)) → K (.inl (some (.int 0))) (W3 q2 t (vp_updL f 0 v.toInt64))) (hx : ∀ e, o = .inr e → K (.inl (some (.int (nI (ka 1 0 2 e))))) (W3 q2 t f)) : Snd ML_port [.ref 0, .int a, .int b, .ref 109] (W3 q t f) K := by
  refine Snd.ofH (by decide +kernel) (Nat.le_of_ble_eq_true rfl) rfl rfl ?_
  intro X D dA ad C0
  show Gd X _ ML_port 0 [some (.ref 0), some (.int a), some (.int b), some (.ref 109), none] [] _ 0 0
  refine g_aload_n C0 dL_port_0 rfl ?_
  refine g_iconst (v := 0) C0 dL_port_1 (by decide) ?_
  refine g_aload_n C0 dL_port_2 rfl ?_
  refine g_iload_n C0 dL_port_3 rfl ?_
  refine g_iload_n C0 dL_port_4 rfl ?_
  refine g_invVc (As := [.int a, .int b]) (n := 2) (st := [.int 0, .ref 109]) (K2 := fun o2 w2 => o2 = o ∧ w2 = WX q2 ++ (WS t ++ [.inl (2, 1, .inr (.inl f))])) C0 dL_port_5 CL_26 rfl rfl rfl ⟨by decide, by decide, by decide, by decide⟩ (Nat.le_of_ble_eq_true rfl) rfl (frX h) (fun v w2 g => ?_) (fun k w2 g => ?_)
  · obtain ⟨g1, rfl⟩ := g
    refine ⟨rfl, ?_⟩
    rcases hs with ⟨v9, g2⟩ | ⟨e9, g2, -⟩
    · rw [g2] at g1
      cases g1
      have hK := hy v9 g2
      refine g_i2l C0 dL_port_8 ?_
      refine g_lastore C0 dL_port_9 (W3_out q2 t f) in01 ?_
      refine g_w (W3_set q2 t f _) ?_
      refine g_goto (tgt := 21) C0 dL_port_10 (by decide) ?_
      refine g_iconst (v := 0) C0 dL_port_21 (by decide) ?_
      refine g_iret C0 rfl dL_port_22 (by decide) (by decide) ?_
      exact hK
    · rw [g2] at g1; cases g1
  · obtain ⟨g1, rfl⟩ := g
    refine ⟨rfl, ?_⟩
    rcases hs with ⟨v9, g2⟩ | ⟨e9, g2, g3, g4⟩
    · rw [g2] at g1; cases g1
    · rw [g2] at g1
      cases g1
      have hK := hx _ g2
      match k, g3, g4 with
      | 0, _, _ =>
        refine ⟨13, 4, 2, KTL_port_0, ?_⟩
        refine g_iconst (v := nI 1) C0 dL_port_15 (by decide +kernel) ?_
        refine g_iret C0 rfl dL_port_16 (by decide) (by decide) ?_
        exact hK
      | 1, _, g4 => exact absurd g4 (by decide)
      | 2, _, _ =>
        refine ⟨17, 4, 2, KTL_port_2, ?_⟩
        refine g_iconst (v := nI 2) C0 dL_port_19 (by decide +kernel) ?_
        refine g_iret C0 rfl dL_port_20 (by decide) (by decide) ?_
        exact hK
      | k + 3, g3, _ => exact absurd g3 (by omega)
theorem KTL_sell_0 : Cat ML_sell 5 0 13 4 2 := ⟨by decide, [], (⟨0, 10, 13, 13⟩ : ExceptionTableEntry), [(⟨0, 10, 17, 17⟩ : ExceptionTableEntry)], rfl, rfl, fun z hz => absurd hz List.not_mem_nil, by decide +kernel, by decide, KL0, KC0, by decide, Or.inl ⟨dL_sell_13, rfl⟩⟩
theorem KTL_sell_2 : Cat ML_sell 5 2 17 4 2 := ⟨by decide, [(⟨0, 10, 13, 13⟩ : ExceptionTableEntry)], (⟨0, 10, 17, 17⟩ : ExceptionTableEntry), [], rfl, rfl, fun z hz => by rw [List.mem_singleton.mp hz]; exact Or.inr ⟨by decide, 0, by decide, by decide, KL0⟩, by decide +kernel, by decide, KL2, KC2, by decide, Or.inl ⟨dL_sell_17, rfl⟩⟩
set_option maxRecDepth 100000 in
set_option maxHeartbeats 4000000 in
theorem w_sell {q q2 t : XS} {o : AO} {f : Nat → Int64} {K : AO → AW → Prop} {a b : Int32} (h : ∀ K : AO → AW → Prop, K o (WX q2) → Snd MX9_sell [.ref 0, .int a, .int b] (WX q) K) (hs : (∃ v, o = .inl (some (.int v))) ∨ ∃ e, o = .inr e ∧ e < 3 ∧ 0 < ka 1 0 2 e) (hy : ∀ v, o = .inl (some (.int v)) → K (.inl (some (.int 0))) (W3 q2 t (vp_updL f 0 v.toInt64))) (hx : ∀ e, o = .inr e → K (.inl (some (.int (nI (ka 1 0 2 e))))) (W3 q2 t f)) : Snd ML_sell [.ref 0, .int a, .int b, .ref 109] (W3 q t f) K := by
  refine Snd.ofH (by decide +kernel) (Nat.le_of_ble_eq_true rfl) rfl rfl ?_
  intro X D dA ad C0
  show Gd X _ ML_sell 0 [some (.ref 0), some (.int a), some (.int b), some (.ref 109), none] [] _ 0 0
  refine g_aload_n C0 dL_sell_0 rfl ?_
  refine g_iconst (v := 0) C0 dL_sell_1 (by decide) ?_
  refine g_aload_n C0 dL_sell_2 rfl ?_
  refine g_iload_n C0 dL_sell_3 rfl ?_
  refine g_iload_n C0 dL_sell_4 rfl ?_
  refine g_invVc (As := [.int a, .int b]) (n := 2) (st := [.int 0, .ref 109]) (K2 := fun o2 w2 => o2 = o ∧ w2 = WX q2 ++ (WS t ++ [.inl (2, 1, .inr (.inl f))])) C0 dL_sell_5 CL_29 rfl rfl rfl ⟨by decide, by decide, by decide, by decide⟩ (Nat.le_of_ble_eq_true rfl) rfl (frX h) (fun v w2 g => ?_) (fun k w2 g => ?_)
  · obtain ⟨g1, rfl⟩ := g
    refine ⟨rfl, ?_⟩
    rcases hs with ⟨v9, g2⟩ | ⟨e9, g2, -⟩
    · rw [g2] at g1
      cases g1
      have hK := hy v9 g2
      refine g_i2l C0 dL_sell_8 ?_
      refine g_lastore C0 dL_sell_9 (W3_out q2 t f) in01 ?_
      refine g_w (W3_set q2 t f _) ?_
      refine g_goto (tgt := 21) C0 dL_sell_10 (by decide) ?_
      refine g_iconst (v := 0) C0 dL_sell_21 (by decide) ?_
      refine g_iret C0 rfl dL_sell_22 (by decide) (by decide) ?_
      exact hK
    · rw [g2] at g1; cases g1
  · obtain ⟨g1, rfl⟩ := g
    refine ⟨rfl, ?_⟩
    rcases hs with ⟨v9, g2⟩ | ⟨e9, g2, g3, g4⟩
    · rw [g2] at g1; cases g1
    · rw [g2] at g1
      cases g1
      have hK := hx _ g2
      match k, g3, g4 with
      | 0, _, _ =>
        refine ⟨13, 4, 2, KTL_sell_0, ?_⟩
        refine g_iconst (v := nI 1) C0 dL_sell_15 (by decide +kernel) ?_
        refine g_iret C0 rfl dL_sell_16 (by decide) (by decide) ?_
        exact hK
      | 1, _, g4 => exact absurd g4 (by decide)
      | 2, _, _ =>
        refine ⟨17, 4, 2, KTL_sell_2, ?_⟩
        refine g_iconst (v := nI 2) C0 dL_sell_19 (by decide +kernel) ?_
        refine g_iret C0 rfl dL_sell_20 (by decide) (by decide) ?_
        exact hK
      | k + 3, g3, _ => exact absurd g3 (by omega)
theorem KTL_bond_0 : Cat ML_bond 5 0 13 4 2 := ⟨by decide, [], (⟨0, 10, 13, 13⟩ : ExceptionTableEntry), [(⟨0, 10, 17, 15⟩ : ExceptionTableEntry), (⟨0, 10, 21, 17⟩ : ExceptionTableEntry)], rfl, rfl, fun z hz => absurd hz List.not_mem_nil, by decide +kernel, by decide, KL0, KC0, by decide, Or.inl ⟨dL_bond_13, rfl⟩⟩
theorem KTL_bond_1 : Cat ML_bond 5 1 17 4 2 := ⟨by decide, [(⟨0, 10, 13, 13⟩ : ExceptionTableEntry)], (⟨0, 10, 17, 15⟩ : ExceptionTableEntry), [(⟨0, 10, 21, 17⟩ : ExceptionTableEntry)], rfl, rfl, fun z hz => by rw [List.mem_singleton.mp hz]; exact Or.inr ⟨by decide, 0, by decide, by decide, KL0⟩, by decide +kernel, by decide, KL1, KC1, by decide, Or.inl ⟨dL_bond_17, rfl⟩⟩
theorem KTL_bond_2 : Cat ML_bond 5 2 21 4 2 := ⟨by decide, [(⟨0, 10, 13, 13⟩ : ExceptionTableEntry), (⟨0, 10, 17, 15⟩ : ExceptionTableEntry)], (⟨0, 10, 21, 17⟩ : ExceptionTableEntry), [], rfl, rfl, fun z hz => by
    rcases List.mem_cons.mp hz with h9 | h9
    · rw [h9]; exact Or.inr ⟨by decide, 0, by decide, by decide, KL0⟩
    · rw [List.mem_singleton.mp h9]; exact Or.inr ⟨by decide, 1, by decide, by decide, KL1⟩, by decide +kernel, by decide, KL2, KC2, by decide, Or.inl ⟨dL_bond_21, rfl⟩⟩
set_option maxRecDepth 100000 in
set_option maxHeartbeats 4000000 in
theorem w_bond {q q2 t : XS} {o : AO} {f : Nat → Int64} {K : AO → AW → Prop} {a b : Int32} (h : ∀ K : AO → AW → Prop, K o (WX q2) → Snd MX9_bond [.ref 0, .int a, .int b] (WX q) K) (hs : (∃ v, o = .inl (some (.int v))) ∨ ∃ e, o = .inr e ∧ e < 3 ∧ 0 < ka 1 2 3 e) (hy : ∀ v, o = .inl (some (.int v)) → K (.inl (some (.int 0))) (W3 q2 t (vp_updL f 0 v.toInt64))) (hx : ∀ e, o = .inr e → K (.inl (some (.int (nI (ka 1 2 3 e))))) (W3 q2 t f)) : Snd ML_bond [.ref 0, .int a, .int b, .ref 109] (W3 q t f) K := by
  refine Snd.ofH (by decide +kernel) (Nat.le_of_ble_eq_true rfl) rfl rfl ?_
  intro X D dA ad C0
  show Gd X _ ML_bond 0 [some (.ref 0), some (.int a), some (.int b), some (.ref 109), none] [] _ 0 0
  refine g_aload_n C0 dL_bond_0 rfl ?_
  refine g_iconst (v := 0) C0 dL_bond_1 (by decide) ?_
  refine g_aload_n C0 dL_bond_2 rfl ?_
  refine g_iload_n C0 dL_bond_3 rfl ?_
  refine g_iload_n C0 dL_bond_4 rfl ?_
  refine g_invVc (As := [.int a, .int b]) (n := 2) (st := [.int 0, .ref 109]) (K2 := fun o2 w2 => o2 = o ∧ w2 = WX q2 ++ (WS t ++ [.inl (2, 1, .inr (.inl f))])) C0 dL_bond_5 CL_32 rfl rfl rfl ⟨by decide, by decide, by decide, by decide⟩ (Nat.le_of_ble_eq_true rfl) rfl (frX h) (fun v w2 g => ?_) (fun k w2 g => ?_)
  · obtain ⟨g1, rfl⟩ := g
    refine ⟨rfl, ?_⟩
    rcases hs with ⟨v9, g2⟩ | ⟨e9, g2, -⟩
    · rw [g2] at g1
      cases g1
      have hK := hy v9 g2
      refine g_i2l C0 dL_bond_8 ?_
      refine g_lastore C0 dL_bond_9 (W3_out q2 t f) in01 ?_
      refine g_w (W3_set q2 t f _) ?_
      refine g_goto (tgt := 25) C0 dL_bond_10 (by decide) ?_
      refine g_iconst (v := 0) C0 dL_bond_25 (by decide) ?_
      refine g_iret C0 rfl dL_bond_26 (by decide) (by decide) ?_
      exact hK
    · rw [g2] at g1; cases g1
  · obtain ⟨g1, rfl⟩ := g
    refine ⟨rfl, ?_⟩
    rcases hs with ⟨v9, g2⟩ | ⟨e9, g2, g3, g4⟩
    · rw [g2] at g1; cases g1
    · rw [g2] at g1
      cases g1
      have hK := hx _ g2
      match k, g3, g4 with
      | 0, _, _ =>
        refine ⟨13, 4, 2, KTL_bond_0, ?_⟩
        refine g_iconst (v := nI 1) C0 dL_bond_15 (by decide +kernel) ?_
        refine g_iret C0 rfl dL_bond_16 (by decide) (by decide) ?_
        exact hK
      | 1, _, _ =>
        refine ⟨17, 4, 2, KTL_bond_1, ?_⟩
        refine g_iconst (v := nI 2) C0 dL_bond_19 (by decide +kernel) ?_
        refine g_iret C0 rfl dL_bond_20 (by decide) (by decide) ?_
        exact hK
      | 2, _, _ =>
        refine ⟨21, 4, 2, KTL_bond_2, ?_⟩
        refine g_iconst (v := nI 3) C0 dL_bond_23 (by decide +kernel) ?_
        refine g_iret C0 rfl dL_bond_24 (by decide) (by decide) ?_
        exact hK
      | k + 3, g3, _ => exact absurd g3 (by omega)
theorem KTL_pay_0 : Cat ML_pay 5 0 13 4 2 := ⟨by decide, [], (⟨0, 10, 13, 13⟩ : ExceptionTableEntry), [(⟨0, 10, 17, 15⟩ : ExceptionTableEntry)], rfl, rfl, fun z hz => absurd hz List.not_mem_nil, by decide +kernel, by decide, KL0, KC0, by decide, Or.inl ⟨dL_pay_13, rfl⟩⟩
theorem KTL_pay_1 : Cat ML_pay 5 1 17 4 2 := ⟨by decide, [(⟨0, 10, 13, 13⟩ : ExceptionTableEntry)], (⟨0, 10, 17, 15⟩ : ExceptionTableEntry), [], rfl, rfl, fun z hz => by rw [List.mem_singleton.mp hz]; exact Or.inr ⟨by decide, 0, by decide, by decide, KL0⟩, by decide +kernel, by decide, KL1, KC1, by decide, Or.inl ⟨dL_pay_17, rfl⟩⟩
set_option maxRecDepth 100000 in
set_option maxHeartbeats 4000000 in
theorem w_pay {q q2 t : XS} {o : AO} {f : Nat → Int64} {K : AO → AW → Prop} {a b : Int32} (h : ∀ K : AO → AW → Prop, K o (WX q2) → Snd MX9_pay [.ref 0, .int a, .int b] (WX q) K) (hs : (∃ v, o = .inl (some (.int v))) ∨ ∃ e, o = .inr e ∧ e < 3 ∧ 0 < ka 1 2 0 e) (hy : ∀ v, o = .inl (some (.int v)) → K (.inl (some (.int 0))) (W3 q2 t (vp_updL f 0 v.toInt64))) (hx : ∀ e, o = .inr e → K (.inl (some (.int (nI (ka 1 2 0 e))))) (W3 q2 t f)) : Snd ML_pay [.ref 0, .int a, .int b, .ref 109] (W3 q t f) K := by
  refine Snd.ofH (by decide +kernel) (Nat.le_of_ble_eq_true rfl) rfl rfl ?_
  intro X D dA ad C0
  show Gd X _ ML_pay 0 [some (.ref 0), some (.int a), some (.int b), some (.ref 109), none] [] _ 0 0
  refine g_aload_n C0 dL_pay_0 rfl ?_
  refine g_iconst (v := 0) C0 dL_pay_1 (by decide) ?_
  refine g_aload_n C0 dL_pay_2 rfl ?_
  refine g_iload_n C0 dL_pay_3 rfl ?_
  refine g_iload_n C0 dL_pay_4 rfl ?_
  refine g_invVc (As := [.int a, .int b]) (n := 2) (st := [.int 0, .ref 109]) (K2 := fun o2 w2 => o2 = o ∧ w2 = WX q2 ++ (WS t ++ [.inl (2, 1, .inr (.inl f))])) C0 dL_pay_5 CL_35 rfl rfl rfl ⟨by decide, by decide, by decide, by decide⟩ (Nat.le_of_ble_eq_true rfl) rfl (frX h) (fun v w2 g => ?_) (fun k w2 g => ?_)
  · obtain ⟨g1, rfl⟩ := g
    refine ⟨rfl, ?_⟩
    rcases hs with ⟨v9, g2⟩ | ⟨e9, g2, -⟩
    · rw [g2] at g1
      cases g1
      have hK := hy v9 g2
      refine g_i2l C0 dL_pay_8 ?_
      refine g_lastore C0 dL_pay_9 (W3_out q2 t f) in01 ?_
      refine g_w (W3_set q2 t f _) ?_
      refine g_goto (tgt := 21) C0 dL_pay_10 (by decide) ?_
      refine g_iconst (v := 0) C0 dL_pay_21 (by decide) ?_
      refine g_iret C0 rfl dL_pay_22 (by decide) (by decide) ?_
      exact hK
    · rw [g2] at g1; cases g1
  · obtain ⟨g1, rfl⟩ := g
    refine ⟨rfl, ?_⟩
    rcases hs with ⟨v9, g2⟩ | ⟨e9, g2, g3, g4⟩
    · rw [g2] at g1; cases g1
    · rw [g2] at g1
      cases g1
      have hK := hx _ g2
      match k, g3, g4 with
      | 0, _, _ =>
        refine ⟨13, 4, 2, KTL_pay_0, ?_⟩
        refine g_iconst (v := nI 1) C0 dL_pay_15 (by decide +kernel) ?_
        refine g_iret C0 rfl dL_pay_16 (by decide) (by decide) ?_
        exact hK
      | 1, _, _ =>
        refine ⟨17, 4, 2, KTL_pay_1, ?_⟩
        refine g_iconst (v := nI 2) C0 dL_pay_19 (by decide +kernel) ?_
        refine g_iret C0 rfl dL_pay_20 (by decide) (by decide) ?_
        exact hK
      | 2, _, g4 => exact absurd g4 (by decide)
      | k + 3, g3, _ => exact absurd g3 (by omega)
theorem KTL_judge_0 : Cat ML_judge 4 0 12 3 1 := ⟨by decide, [], (⟨0, 9, 12, 13⟩ : ExceptionTableEntry), [(⟨0, 9, 15, 17⟩ : ExceptionTableEntry)], rfl, rfl, fun z hz => absurd hz List.not_mem_nil, by decide +kernel, by decide, KL0, KC0, by decide, Or.inr ⟨3, rfl, dL_judge_12, rfl⟩⟩
theorem KTL_judge_2 : Cat ML_judge 4 2 15 3 1 := ⟨by decide, [(⟨0, 9, 12, 13⟩ : ExceptionTableEntry)], (⟨0, 9, 15, 17⟩ : ExceptionTableEntry), [], rfl, rfl, fun z hz => by rw [List.mem_singleton.mp hz]; exact Or.inr ⟨by decide, 0, by decide, by decide, KL0⟩, by decide +kernel, by decide, KL2, KC2, by decide, Or.inr ⟨3, rfl, dL_judge_15, rfl⟩⟩
set_option maxRecDepth 100000 in
set_option maxHeartbeats 4000000 in
theorem w_judge {q q2 t : XS} {o : AO} {f : Nat → Int64} {K : AO → AW → Prop} {a : Int32} (h : ∀ K : AO → AW → Prop, K o (WX q2) → Snd MX9_judge [.ref 0, .int a] (WX q) K) (hs : (∃ v, o = .inl (some (.int v))) ∨ ∃ e, o = .inr e ∧ e < 3 ∧ 0 < ka 1 0 2 e) (hy : ∀ v, o = .inl (some (.int v)) → K (.inl (some (.int 0))) (W3 q2 t (vp_updL f 0 v.toInt64))) (hx : ∀ e, o = .inr e → K (.inl (some (.int (nI (ka 1 0 2 e))))) (W3 q2 t f)) : Snd ML_judge [.ref 0, .int a, .ref 109] (W3 q t f) K := by
  refine Snd.ofH (by decide +kernel) (Nat.le_of_ble_eq_true rfl) rfl rfl ?_
  intro X D dA ad C0
  show Gd X _ ML_judge 0 [some (.ref 0), some (.int a), some (.ref 109), none] [] _ 0 0
  refine g_aload_n C0 dL_judge_0 rfl ?_
  refine g_iconst (v := 0) C0 dL_judge_1 (by decide) ?_
  refine g_aload_n C0 dL_judge_2 rfl ?_
  refine g_iload_n C0 dL_judge_3 rfl ?_
  refine g_invVc (As := [.int a]) (n := 1) (st := [.int 0, .ref 109]) (K2 := fun o2 w2 => o2 = o ∧ w2 = WX q2 ++ (WS t ++ [.inl (2, 1, .inr (.inl f))])) C0 dL_judge_4 CL_38 rfl rfl rfl ⟨by decide, by decide, by decide, by decide⟩ (Nat.le_of_ble_eq_true rfl) rfl (frX h) (fun v w2 g => ?_) (fun k w2 g => ?_)
  · obtain ⟨g1, rfl⟩ := g
    refine ⟨rfl, ?_⟩
    rcases hs with ⟨v9, g2⟩ | ⟨e9, g2, -⟩
    · rw [g2] at g1
      cases g1
      have hK := hy v9 g2
      refine g_i2l C0 dL_judge_7 ?_
      refine g_lastore C0 dL_judge_8 (W3_out q2 t f) in01 ?_
      refine g_w (W3_set q2 t f _) ?_
      refine g_goto (tgt := 18) C0 dL_judge_9 (by decide) ?_
      refine g_iconst (v := 0) C0 dL_judge_18 (by decide) ?_
      refine g_iret C0 rfl dL_judge_19 (by decide) (by decide) ?_
      exact hK
    · rw [g2] at g1; cases g1
  · obtain ⟨g1, rfl⟩ := g
    refine ⟨rfl, ?_⟩
    rcases hs with ⟨v9, g2⟩ | ⟨e9, g2, g3, g4⟩
    · rw [g2] at g1; cases g1
    · rw [g2] at g1
      cases g1
      have hK := hx _ g2
      match k, g3, g4 with
      | 0, _, _ =>
        refine ⟨12, 3, 1, KTL_judge_0, ?_⟩
        refine g_iconst (v := nI 1) C0 dL_judge_13 (by decide +kernel) ?_
        refine g_iret C0 rfl dL_judge_14 (by decide) (by decide) ?_
        exact hK
      | 1, _, g4 => exact absurd g4 (by decide)
      | 2, _, _ =>
        refine ⟨15, 3, 1, KTL_judge_2, ?_⟩
        refine g_iconst (v := nI 2) C0 dL_judge_16 (by decide +kernel) ?_
        refine g_iret C0 rfl dL_judge_17 (by decide) (by decide) ?_
        exact hK
      | k + 3, g3, _ => exact absurd g3 (by omega)
theorem KTL_call_0 : Cat ML_call 5 0 13 4 2 := ⟨by decide, [], (⟨0, 10, 13, 13⟩ : ExceptionTableEntry), [(⟨0, 10, 17, 15⟩ : ExceptionTableEntry), (⟨0, 10, 21, 17⟩ : ExceptionTableEntry)], rfl, rfl, fun z hz => absurd hz List.not_mem_nil, by decide +kernel, by decide, KL0, KC0, by decide, Or.inl ⟨dL_call_13, rfl⟩⟩
theorem KTL_call_1 : Cat ML_call 5 1 17 4 2 := ⟨by decide, [(⟨0, 10, 13, 13⟩ : ExceptionTableEntry)], (⟨0, 10, 17, 15⟩ : ExceptionTableEntry), [(⟨0, 10, 21, 17⟩ : ExceptionTableEntry)], rfl, rfl, fun z hz => by rw [List.mem_singleton.mp hz]; exact Or.inr ⟨by decide, 0, by decide, by decide, KL0⟩, by decide +kernel, by decide, KL1, KC1, by decide, Or.inl ⟨dL_call_17, rfl⟩⟩
theorem KTL_call_2 : Cat ML_call 5 2 21 4 2 := ⟨by decide, [(⟨0, 10, 13, 13⟩ : ExceptionTableEntry), (⟨0, 10, 17, 15⟩ : ExceptionTableEntry)], (⟨0, 10, 21, 17⟩ : ExceptionTableEntry), [], rfl, rfl, fun z hz => by
    rcases List.mem_cons.mp hz with h9 | h9
    · rw [h9]; exact Or.inr ⟨by decide, 0, by decide, by decide, KL0⟩
    · rw [List.mem_singleton.mp h9]; exact Or.inr ⟨by decide, 1, by decide, by decide, KL1⟩, by decide +kernel, by decide, KL2, KC2, by decide, Or.inl ⟨dL_call_21, rfl⟩⟩
set_option maxRecDepth 100000 in
set_option maxHeartbeats 4000000 in
theorem w_call {q q2 t : XS} {o : AO} {f : Nat → Int64} {K : AO → AW → Prop} {a b : Int32} (h : ∀ K : AO → AW → Prop, K o (WX q2) → Snd MX9_call [.ref 0, .int a, .int b] (WX q) K) (hs : (∃ v, o = .inl (some (.int v))) ∨ ∃ e, o = .inr e ∧ e < 3 ∧ 0 < ka 1 2 3 e) (hy : ∀ v, o = .inl (some (.int v)) → K (.inl (some (.int 0))) (W3 q2 t (vp_updL f 0 v.toInt64))) (hx : ∀ e, o = .inr e → K (.inl (some (.int (nI (ka 1 2 3 e))))) (W3 q2 t f)) : Snd ML_call [.ref 0, .int a, .int b, .ref 109] (W3 q t f) K := by
  refine Snd.ofH (by decide +kernel) (Nat.le_of_ble_eq_true rfl) rfl rfl ?_
  intro X D dA ad C0
  show Gd X _ ML_call 0 [some (.ref 0), some (.int a), some (.int b), some (.ref 109), none] [] _ 0 0
  refine g_aload_n C0 dL_call_0 rfl ?_
  refine g_iconst (v := 0) C0 dL_call_1 (by decide) ?_
  refine g_aload_n C0 dL_call_2 rfl ?_
  refine g_iload_n C0 dL_call_3 rfl ?_
  refine g_iload_n C0 dL_call_4 rfl ?_
  refine g_invVc (As := [.int a, .int b]) (n := 2) (st := [.int 0, .ref 109]) (K2 := fun o2 w2 => o2 = o ∧ w2 = WX q2 ++ (WS t ++ [.inl (2, 1, .inr (.inl f))])) C0 dL_call_5 CL_42 rfl rfl rfl ⟨by decide, by decide, by decide, by decide⟩ (Nat.le_of_ble_eq_true rfl) rfl (frX h) (fun v w2 g => ?_) (fun k w2 g => ?_)
  · obtain ⟨g1, rfl⟩ := g
    refine ⟨rfl, ?_⟩
    rcases hs with ⟨v9, g2⟩ | ⟨e9, g2, -⟩
    · rw [g2] at g1
      cases g1
      have hK := hy v9 g2
      refine g_i2l C0 dL_call_8 ?_
      refine g_lastore C0 dL_call_9 (W3_out q2 t f) in01 ?_
      refine g_w (W3_set q2 t f _) ?_
      refine g_goto (tgt := 25) C0 dL_call_10 (by decide) ?_
      refine g_iconst (v := 0) C0 dL_call_25 (by decide) ?_
      refine g_iret C0 rfl dL_call_26 (by decide) (by decide) ?_
      exact hK
    · rw [g2] at g1; cases g1
  · obtain ⟨g1, rfl⟩ := g
    refine ⟨rfl, ?_⟩
    rcases hs with ⟨v9, g2⟩ | ⟨e9, g2, g3, g4⟩
    · rw [g2] at g1; cases g1
    · rw [g2] at g1
      cases g1
      have hK := hx _ g2
      match k, g3, g4 with
      | 0, _, _ =>
        refine ⟨13, 4, 2, KTL_call_0, ?_⟩
        refine g_iconst (v := nI 1) C0 dL_call_15 (by decide +kernel) ?_
        refine g_iret C0 rfl dL_call_16 (by decide) (by decide) ?_
        exact hK
      | 1, _, _ =>
        refine ⟨17, 4, 2, KTL_call_1, ?_⟩
        refine g_iconst (v := nI 2) C0 dL_call_19 (by decide +kernel) ?_
        refine g_iret C0 rfl dL_call_20 (by decide) (by decide) ?_
        exact hK
      | 2, _, _ =>
        refine ⟨21, 4, 2, KTL_call_2, ?_⟩
        refine g_iconst (v := nI 3) C0 dL_call_23 (by decide +kernel) ?_
        refine g_iret C0 rfl dL_call_24 (by decide) (by decide) ?_
        exact hK
      | k + 3, g3, _ => exact absurd g3 (by omega)
theorem KTL_hangUp_0 : Cat ML_hangUp 4 0 12 3 1 := ⟨by decide, [], (⟨0, 9, 12, 13⟩ : ExceptionTableEntry), [(⟨0, 9, 15, 17⟩ : ExceptionTableEntry)], rfl, rfl, fun z hz => absurd hz List.not_mem_nil, by decide +kernel, by decide, KL0, KC0, by decide, Or.inr ⟨3, rfl, dL_hangUp_12, rfl⟩⟩
theorem KTL_hangUp_2 : Cat ML_hangUp 4 2 15 3 1 := ⟨by decide, [(⟨0, 9, 12, 13⟩ : ExceptionTableEntry)], (⟨0, 9, 15, 17⟩ : ExceptionTableEntry), [], rfl, rfl, fun z hz => by rw [List.mem_singleton.mp hz]; exact Or.inr ⟨by decide, 0, by decide, by decide, KL0⟩, by decide +kernel, by decide, KL2, KC2, by decide, Or.inr ⟨3, rfl, dL_hangUp_15, rfl⟩⟩
set_option maxRecDepth 100000 in
set_option maxHeartbeats 4000000 in
theorem w_hangUp {q q2 t : XS} {o : AO} {f : Nat → Int64} {K : AO → AW → Prop} {a : Int32} (h : ∀ K : AO → AW → Prop, K o (WX q2) → Snd MX9_hangUp [.ref 0, .int a] (WX q) K) (hs : (∃ v, o = .inl (some (.int v))) ∨ ∃ e, o = .inr e ∧ e < 3 ∧ 0 < ka 1 0 2 e) (hy : ∀ v, o = .inl (some (.int v)) → K (.inl (some (.int 0))) (W3 q2 t (vp_updL f 0 v.toInt64))) (hx : ∀ e, o = .inr e → K (.inl (some (.int (nI (ka 1 0 2 e))))) (W3 q2 t f)) : Snd ML_hangUp [.ref 0, .int a, .ref 109] (W3 q t f) K := by
  refine Snd.ofH (by decide +kernel) (Nat.le_of_ble_eq_true rfl) rfl rfl ?_
  intro X D dA ad C0
  show Gd X _ ML_hangUp 0 [some (.ref 0), some (.int a), some (.ref 109), none] [] _ 0 0
  refine g_aload_n C0 dL_hangUp_0 rfl ?_
  refine g_iconst (v := 0) C0 dL_hangUp_1 (by decide) ?_
  refine g_aload_n C0 dL_hangUp_2 rfl ?_
  refine g_iload_n C0 dL_hangUp_3 rfl ?_
  refine g_invVc (As := [.int a]) (n := 1) (st := [.int 0, .ref 109]) (K2 := fun o2 w2 => o2 = o ∧ w2 = WX q2 ++ (WS t ++ [.inl (2, 1, .inr (.inl f))])) C0 dL_hangUp_4 CL_45 rfl rfl rfl ⟨by decide, by decide, by decide, by decide⟩ (Nat.le_of_ble_eq_true rfl) rfl (frX h) (fun v w2 g => ?_) (fun k w2 g => ?_)
  · obtain ⟨g1, rfl⟩ := g
    refine ⟨rfl, ?_⟩
    rcases hs with ⟨v9, g2⟩ | ⟨e9, g2, -⟩
    · rw [g2] at g1
      cases g1
      have hK := hy v9 g2
      refine g_i2l C0 dL_hangUp_7 ?_
      refine g_lastore C0 dL_hangUp_8 (W3_out q2 t f) in01 ?_
      refine g_w (W3_set q2 t f _) ?_
      refine g_goto (tgt := 18) C0 dL_hangUp_9 (by decide) ?_
      refine g_iconst (v := 0) C0 dL_hangUp_18 (by decide) ?_
      refine g_iret C0 rfl dL_hangUp_19 (by decide) (by decide) ?_
      exact hK
    · rw [g2] at g1; cases g1
  · obtain ⟨g1, rfl⟩ := g
    refine ⟨rfl, ?_⟩
    rcases hs with ⟨v9, g2⟩ | ⟨e9, g2, g3, g4⟩
    · rw [g2] at g1; cases g1
    · rw [g2] at g1
      cases g1
      have hK := hx _ g2
      match k, g3, g4 with
      | 0, _, _ =>
        refine ⟨12, 3, 1, KTL_hangUp_0, ?_⟩
        refine g_iconst (v := nI 1) C0 dL_hangUp_13 (by decide +kernel) ?_
        refine g_iret C0 rfl dL_hangUp_14 (by decide) (by decide) ?_
        exact hK
      | 1, _, g4 => exact absurd g4 (by decide)
      | 2, _, _ =>
        refine ⟨15, 3, 1, KTL_hangUp_2, ?_⟩
        refine g_iconst (v := nI 2) C0 dL_hangUp_16 (by decide +kernel) ?_
        refine g_iret C0 rfl dL_hangUp_17 (by decide) (by decide) ?_
        exact hK
      | k + 3, g3, _ => exact absurd g3 (by omega)
theorem KTL_pass_1 : Cat ML_pass 4 1 12 3 1 := ⟨by decide, [], (⟨0, 9, 12, 15⟩ : ExceptionTableEntry), [(⟨0, 9, 15, 17⟩ : ExceptionTableEntry)], rfl, rfl, fun z hz => absurd hz List.not_mem_nil, by decide +kernel, by decide, KL1, KC1, by decide, Or.inr ⟨3, rfl, dL_pass_12, rfl⟩⟩
theorem KTL_pass_2 : Cat ML_pass 4 2 15 3 1 := ⟨by decide, [(⟨0, 9, 12, 15⟩ : ExceptionTableEntry)], (⟨0, 9, 15, 17⟩ : ExceptionTableEntry), [], rfl, rfl, fun z hz => by rw [List.mem_singleton.mp hz]; exact Or.inr ⟨by decide, 1, by decide, by decide, KL1⟩, by decide +kernel, by decide, KL2, KC2, by decide, Or.inr ⟨3, rfl, dL_pass_15, rfl⟩⟩
set_option maxRecDepth 100000 in
set_option maxHeartbeats 4000000 in
theorem w_pass {q q2 t : XS} {o : AO} {f : Nat → Int64} {K : AO → AW → Prop} {a : Int32} (h : ∀ K : AO → AW → Prop, K o (WX q2) → Snd MX9_pass [.ref 0, .int a] (WX q) K) (hs : (∃ v, o = .inl (some (.int v))) ∨ ∃ e, o = .inr e ∧ e < 3 ∧ 0 < ka 0 1 2 e) (hy : ∀ v, o = .inl (some (.int v)) → K (.inl (some (.int 0))) (W3 q2 t (vp_updL f 0 v.toInt64))) (hx : ∀ e, o = .inr e → K (.inl (some (.int (nI (ka 0 1 2 e))))) (W3 q2 t f)) : Snd ML_pass [.ref 0, .int a, .ref 109] (W3 q t f) K := by
  refine Snd.ofH (by decide +kernel) (Nat.le_of_ble_eq_true rfl) rfl rfl ?_
  intro X D dA ad C0
  show Gd X _ ML_pass 0 [some (.ref 0), some (.int a), some (.ref 109), none] [] _ 0 0
  refine g_aload_n C0 dL_pass_0 rfl ?_
  refine g_iconst (v := 0) C0 dL_pass_1 (by decide) ?_
  refine g_aload_n C0 dL_pass_2 rfl ?_
  refine g_iload_n C0 dL_pass_3 rfl ?_
  refine g_invVc (As := [.int a]) (n := 1) (st := [.int 0, .ref 109]) (K2 := fun o2 w2 => o2 = o ∧ w2 = WX q2 ++ (WS t ++ [.inl (2, 1, .inr (.inl f))])) C0 dL_pass_4 CL_48 rfl rfl rfl ⟨by decide, by decide, by decide, by decide⟩ (Nat.le_of_ble_eq_true rfl) rfl (frX h) (fun v w2 g => ?_) (fun k w2 g => ?_)
  · obtain ⟨g1, rfl⟩ := g
    refine ⟨rfl, ?_⟩
    rcases hs with ⟨v9, g2⟩ | ⟨e9, g2, -⟩
    · rw [g2] at g1
      cases g1
      have hK := hy v9 g2
      refine g_i2l C0 dL_pass_7 ?_
      refine g_lastore C0 dL_pass_8 (W3_out q2 t f) in01 ?_
      refine g_w (W3_set q2 t f _) ?_
      refine g_goto (tgt := 18) C0 dL_pass_9 (by decide) ?_
      refine g_iconst (v := 0) C0 dL_pass_18 (by decide) ?_
      refine g_iret C0 rfl dL_pass_19 (by decide) (by decide) ?_
      exact hK
    · rw [g2] at g1; cases g1
  · obtain ⟨g1, rfl⟩ := g
    refine ⟨rfl, ?_⟩
    rcases hs with ⟨v9, g2⟩ | ⟨e9, g2, g3, g4⟩
    · rw [g2] at g1; cases g1
    · rw [g2] at g1
      cases g1
      have hK := hx _ g2
      match k, g3, g4 with
      | 0, _, g4 => exact absurd g4 (by decide)
      | 1, _, _ =>
        refine ⟨12, 3, 1, KTL_pass_1, ?_⟩
        refine g_iconst (v := nI 1) C0 dL_pass_13 (by decide +kernel) ?_
        refine g_iret C0 rfl dL_pass_14 (by decide) (by decide) ?_
        exact hK
      | 2, _, _ =>
        refine ⟨15, 3, 1, KTL_pass_2, ?_⟩
        refine g_iconst (v := nI 2) C0 dL_pass_16 (by decide +kernel) ?_
        refine g_iret C0 rfl dL_pass_17 (by decide) (by decide) ?_
        exact hK
      | k + 3, g3, _ => exact absurd g3 (by omega)
theorem KTL_carrierOf_0 : Cat ML_carrierOf 4 0 12 3 1 := ⟨by decide, [], (⟨0, 9, 12, 13⟩ : ExceptionTableEntry), [], rfl, rfl, fun z hz => absurd hz List.not_mem_nil, by decide +kernel, by decide, KL0, KC0, by decide, Or.inr ⟨3, rfl, dL_carrierOf_12, rfl⟩⟩
set_option maxRecDepth 100000 in
set_option maxHeartbeats 4000000 in
theorem w_carrierOf {q q2 t : XS} {o : AO} {f : Nat → Int64} {K : AO → AW → Prop} {a : Int32} (h : ∀ K : AO → AW → Prop, K o (WX q2) → Snd MX9_carrierOf [.ref 0, .int a] (WX q) K) (hs : (∃ v, o = .inl (some (.int v))) ∨ ∃ e, o = .inr e ∧ e < 3 ∧ 0 < ka 1 0 0 e) (hy : ∀ v, o = .inl (some (.int v)) → K (.inl (some (.int 0))) (W3 q2 t (vp_updL f 0 v.toInt64))) (hx : ∀ e, o = .inr e → K (.inl (some (.int (nI (ka 1 0 0 e))))) (W3 q2 t f)) : Snd ML_carrierOf [.ref 0, .int a, .ref 109] (W3 q t f) K := by
  refine Snd.ofH (by decide +kernel) (Nat.le_of_ble_eq_true rfl) rfl rfl ?_
  intro X D dA ad C0
  show Gd X _ ML_carrierOf 0 [some (.ref 0), some (.int a), some (.ref 109), none] [] _ 0 0
  refine g_aload_n C0 dL_carrierOf_0 rfl ?_
  refine g_iconst (v := 0) C0 dL_carrierOf_1 (by decide) ?_
  refine g_aload_n C0 dL_carrierOf_2 rfl ?_
  refine g_iload_n C0 dL_carrierOf_3 rfl ?_
  refine g_invVc (As := [.int a]) (n := 1) (st := [.int 0, .ref 109]) (K2 := fun o2 w2 => o2 = o ∧ w2 = WX q2 ++ (WS t ++ [.inl (2, 1, .inr (.inl f))])) C0 dL_carrierOf_4 CL_51 rfl rfl rfl ⟨by decide, by decide, by decide, by decide⟩ (Nat.le_of_ble_eq_true rfl) rfl (frX h) (fun v w2 g => ?_) (fun k w2 g => ?_)
  · obtain ⟨g1, rfl⟩ := g
    refine ⟨rfl, ?_⟩
    rcases hs with ⟨v9, g2⟩ | ⟨e9, g2, -⟩
    · rw [g2] at g1
      cases g1
      have hK := hy v9 g2
      refine g_i2l C0 dL_carrierOf_7 ?_
      refine g_lastore C0 dL_carrierOf_8 (W3_out q2 t f) in01 ?_
      refine g_w (W3_set q2 t f _) ?_
      refine g_goto (tgt := 15) C0 dL_carrierOf_9 (by decide) ?_
      refine g_iconst (v := 0) C0 dL_carrierOf_15 (by decide) ?_
      refine g_iret C0 rfl dL_carrierOf_16 (by decide) (by decide) ?_
      exact hK
    · rw [g2] at g1; cases g1
  · obtain ⟨g1, rfl⟩ := g
    refine ⟨rfl, ?_⟩
    rcases hs with ⟨v9, g2⟩ | ⟨e9, g2, g3, g4⟩
    · rw [g2] at g1; cases g1
    · rw [g2] at g1
      cases g1
      have hK := hx _ g2
      match k, g3, g4 with
      | 0, _, _ =>
        refine ⟨12, 3, 1, KTL_carrierOf_0, ?_⟩
        refine g_iconst (v := nI 1) C0 dL_carrierOf_13 (by decide +kernel) ?_
        refine g_iret C0 rfl dL_carrierOf_14 (by decide) (by decide) ?_
        exact hK
      | 1, _, g4 => exact absurd g4 (by decide)
      | 2, _, g4 => exact absurd g4 (by decide)
      | k + 3, g3, _ => exact absurd g3 (by omega)
theorem KTL_carrierThen_0 : Cat ML_carrierThen 5 0 13 4 2 := ⟨by decide, [], (⟨0, 10, 13, 13⟩ : ExceptionTableEntry), [(⟨0, 10, 17, 15⟩ : ExceptionTableEntry)], rfl, rfl, fun z hz => absurd hz List.not_mem_nil, by decide +kernel, by decide, KL0, KC0, by decide, Or.inl ⟨dL_carrierThen_13, rfl⟩⟩
theorem KTL_carrierThen_1 : Cat ML_carrierThen 5 1 17 4 2 := ⟨by decide, [(⟨0, 10, 13, 13⟩ : ExceptionTableEntry)], (⟨0, 10, 17, 15⟩ : ExceptionTableEntry), [], rfl, rfl, fun z hz => by rw [List.mem_singleton.mp hz]; exact Or.inr ⟨by decide, 0, by decide, by decide, KL0⟩, by decide +kernel, by decide, KL1, KC1, by decide, Or.inl ⟨dL_carrierThen_17, rfl⟩⟩
set_option maxRecDepth 100000 in
set_option maxHeartbeats 4000000 in
theorem w_carrierThen {q q2 t : XS} {o : AO} {f : Nat → Int64} {K : AO → AW → Prop} {a b : Int32} (h : ∀ K : AO → AW → Prop, K o (WX q2) → Snd MX9_carrierThen [.ref 0, .int a, .int b] (WX q) K) (hs : (∃ v, o = .inl (some (.int v))) ∨ ∃ e, o = .inr e ∧ e < 3 ∧ 0 < ka 1 2 0 e) (hy : ∀ v, o = .inl (some (.int v)) → K (.inl (some (.int 0))) (W3 q2 t (vp_updL f 0 v.toInt64))) (hx : ∀ e, o = .inr e → K (.inl (some (.int (nI (ka 1 2 0 e))))) (W3 q2 t f)) : Snd ML_carrierThen [.ref 0, .int a, .int b, .ref 109] (W3 q t f) K := by
  refine Snd.ofH (by decide +kernel) (Nat.le_of_ble_eq_true rfl) rfl rfl ?_
  intro X D dA ad C0
  show Gd X _ ML_carrierThen 0 [some (.ref 0), some (.int a), some (.int b), some (.ref 109), none] [] _ 0 0
  refine g_aload_n C0 dL_carrierThen_0 rfl ?_
  refine g_iconst (v := 0) C0 dL_carrierThen_1 (by decide) ?_
  refine g_aload_n C0 dL_carrierThen_2 rfl ?_
  refine g_iload_n C0 dL_carrierThen_3 rfl ?_
  refine g_iload_n C0 dL_carrierThen_4 rfl ?_
  refine g_invVc (As := [.int a, .int b]) (n := 2) (st := [.int 0, .ref 109]) (K2 := fun o2 w2 => o2 = o ∧ w2 = WX q2 ++ (WS t ++ [.inl (2, 1, .inr (.inl f))])) C0 dL_carrierThen_5 CL_54 rfl rfl rfl ⟨by decide, by decide, by decide, by decide⟩ (Nat.le_of_ble_eq_true rfl) rfl (frX h) (fun v w2 g => ?_) (fun k w2 g => ?_)
  · obtain ⟨g1, rfl⟩ := g
    refine ⟨rfl, ?_⟩
    rcases hs with ⟨v9, g2⟩ | ⟨e9, g2, -⟩
    · rw [g2] at g1
      cases g1
      have hK := hy v9 g2
      refine g_i2l C0 dL_carrierThen_8 ?_
      refine g_lastore C0 dL_carrierThen_9 (W3_out q2 t f) in01 ?_
      refine g_w (W3_set q2 t f _) ?_
      refine g_goto (tgt := 21) C0 dL_carrierThen_10 (by decide) ?_
      refine g_iconst (v := 0) C0 dL_carrierThen_21 (by decide) ?_
      refine g_iret C0 rfl dL_carrierThen_22 (by decide) (by decide) ?_
      exact hK
    · rw [g2] at g1; cases g1
  · obtain ⟨g1, rfl⟩ := g
    refine ⟨rfl, ?_⟩
    rcases hs with ⟨v9, g2⟩ | ⟨e9, g2, g3, g4⟩
    · rw [g2] at g1; cases g1
    · rw [g2] at g1
      cases g1
      have hK := hx _ g2
      match k, g3, g4 with
      | 0, _, _ =>
        refine ⟨13, 4, 2, KTL_carrierThen_0, ?_⟩
        refine g_iconst (v := nI 1) C0 dL_carrierThen_15 (by decide +kernel) ?_
        refine g_iret C0 rfl dL_carrierThen_16 (by decide) (by decide) ?_
        exact hK
      | 1, _, _ =>
        refine ⟨17, 4, 2, KTL_carrierThen_1, ?_⟩
        refine g_iconst (v := nI 2) C0 dL_carrierThen_19 (by decide +kernel) ?_
        refine g_iret C0 rfl dL_carrierThen_20 (by decide) (by decide) ?_
        exact hK
      | 2, _, g4 => exact absurd g4 (by decide)
      | k + 3, g3, _ => exact absurd g3 (by omega)
theorem KTL_ownerOf_0 : Cat ML_ownerOf 4 0 12 3 1 := ⟨by decide, [], (⟨0, 9, 12, 13⟩ : ExceptionTableEntry), [], rfl, rfl, fun z hz => absurd hz List.not_mem_nil, by decide +kernel, by decide, KL0, KC0, by decide, Or.inr ⟨3, rfl, dL_ownerOf_12, rfl⟩⟩
set_option maxRecDepth 100000 in
set_option maxHeartbeats 4000000 in
theorem w_ownerOf {q q2 t : XS} {o : AO} {f : Nat → Int64} {K : AO → AW → Prop} {a : Int32} (h : ∀ K : AO → AW → Prop, K o (WX q2) → Snd MX9_ownerOf [.ref 0, .int a] (WX q) K) (hs : (∃ v, o = .inl (some (.int v))) ∨ ∃ e, o = .inr e ∧ e < 3 ∧ 0 < ka 1 0 0 e) (hy : ∀ v, o = .inl (some (.int v)) → K (.inl (some (.int 0))) (W3 q2 t (vp_updL f 0 v.toInt64))) (hx : ∀ e, o = .inr e → K (.inl (some (.int (nI (ka 1 0 0 e))))) (W3 q2 t f)) : Snd ML_ownerOf [.ref 0, .int a, .ref 109] (W3 q t f) K := by
  refine Snd.ofH (by decide +kernel) (Nat.le_of_ble_eq_true rfl) rfl rfl ?_
  intro X D dA ad C0
  show Gd X _ ML_ownerOf 0 [some (.ref 0), some (.int a), some (.ref 109), none] [] _ 0 0
  refine g_aload_n C0 dL_ownerOf_0 rfl ?_
  refine g_iconst (v := 0) C0 dL_ownerOf_1 (by decide) ?_
  refine g_aload_n C0 dL_ownerOf_2 rfl ?_
  refine g_iload_n C0 dL_ownerOf_3 rfl ?_
  refine g_invVc (As := [.int a]) (n := 1) (st := [.int 0, .ref 109]) (K2 := fun o2 w2 => o2 = o ∧ w2 = WX q2 ++ (WS t ++ [.inl (2, 1, .inr (.inl f))])) C0 dL_ownerOf_4 CL_57 rfl rfl rfl ⟨by decide, by decide, by decide, by decide⟩ (Nat.le_of_ble_eq_true rfl) rfl (frX h) (fun v w2 g => ?_) (fun k w2 g => ?_)
  · obtain ⟨g1, rfl⟩ := g
    refine ⟨rfl, ?_⟩
    rcases hs with ⟨v9, g2⟩ | ⟨e9, g2, -⟩
    · rw [g2] at g1
      cases g1
      have hK := hy v9 g2
      refine g_i2l C0 dL_ownerOf_7 ?_
      refine g_lastore C0 dL_ownerOf_8 (W3_out q2 t f) in01 ?_
      refine g_w (W3_set q2 t f _) ?_
      refine g_goto (tgt := 15) C0 dL_ownerOf_9 (by decide) ?_
      refine g_iconst (v := 0) C0 dL_ownerOf_15 (by decide) ?_
      refine g_iret C0 rfl dL_ownerOf_16 (by decide) (by decide) ?_
      exact hK
    · rw [g2] at g1; cases g1
  · obtain ⟨g1, rfl⟩ := g
    refine ⟨rfl, ?_⟩
    rcases hs with ⟨v9, g2⟩ | ⟨e9, g2, g3, g4⟩
    · rw [g2] at g1; cases g1
    · rw [g2] at g1
      cases g1
      have hK := hx _ g2
      match k, g3, g4 with
      | 0, _, _ =>
        refine ⟨12, 3, 1, KTL_ownerOf_0, ?_⟩
        refine g_iconst (v := nI 1) C0 dL_ownerOf_13 (by decide +kernel) ?_
        refine g_iret C0 rfl dL_ownerOf_14 (by decide) (by decide) ?_
        exact hK
      | 1, _, g4 => exact absurd g4 (by decide)
      | 2, _, g4 => exact absurd g4 (by decide)
      | k + 3, g3, _ => exact absurd g3 (by omega)
theorem KTL_believed_0 : Cat ML_believed 5 0 13 4 2 := ⟨by decide, [], (⟨0, 10, 13, 13⟩ : ExceptionTableEntry), [], rfl, rfl, fun z hz => absurd hz List.not_mem_nil, by decide +kernel, by decide, KL0, KC0, by decide, Or.inl ⟨dL_believed_13, rfl⟩⟩
set_option maxRecDepth 100000 in
set_option maxHeartbeats 4000000 in
theorem w_believed {q q2 t : XS} {o : AO} {f : Nat → Int64} {K : AO → AW → Prop} {a b : Int32} (h : ∀ K : AO → AW → Prop, K o (WX q2) → Snd MX9_believed [.ref 0, .int a, .int b] (WX q) K) (hs : (∃ v, o = .inl (some (.int v))) ∨ ∃ e, o = .inr e ∧ e < 3 ∧ 0 < ka 1 0 0 e) (hy : ∀ v, o = .inl (some (.int v)) → K (.inl (some (.int 0))) (W3 q2 t (vp_updL f 0 v.toInt64))) (hx : ∀ e, o = .inr e → K (.inl (some (.int (nI (ka 1 0 0 e))))) (W3 q2 t f)) : Snd ML_believed [.ref 0, .int a, .int b, .ref 109] (W3 q t f) K := by
  refine Snd.ofH (by decide +kernel) (Nat.le_of_ble_eq_true rfl) rfl rfl ?_
  intro X D dA ad C0
  show Gd X _ ML_believed 0 [some (.ref 0), some (.int a), some (.int b), some (.ref 109), none] [] _ 0 0
  refine g_aload_n C0 dL_believed_0 rfl ?_
  refine g_iconst (v := 0) C0 dL_believed_1 (by decide) ?_
  refine g_aload_n C0 dL_believed_2 rfl ?_
  refine g_iload_n C0 dL_believed_3 rfl ?_
  refine g_iload_n C0 dL_believed_4 rfl ?_
  refine g_invVc (As := [.int a, .int b]) (n := 2) (st := [.int 0, .ref 109]) (K2 := fun o2 w2 => o2 = o ∧ w2 = WX q2 ++ (WS t ++ [.inl (2, 1, .inr (.inl f))])) C0 dL_believed_5 CL_60 rfl rfl rfl ⟨by decide, by decide, by decide, by decide⟩ (Nat.le_of_ble_eq_true rfl) rfl (frX h) (fun v w2 g => ?_) (fun k w2 g => ?_)
  · obtain ⟨g1, rfl⟩ := g
    refine ⟨rfl, ?_⟩
    rcases hs with ⟨v9, g2⟩ | ⟨e9, g2, -⟩
    · rw [g2] at g1
      cases g1
      have hK := hy v9 g2
      refine g_i2l C0 dL_believed_8 ?_
      refine g_lastore C0 dL_believed_9 (W3_out q2 t f) in01 ?_
      refine g_w (W3_set q2 t f _) ?_
      refine g_goto (tgt := 17) C0 dL_believed_10 (by decide) ?_
      refine g_iconst (v := 0) C0 dL_believed_17 (by decide) ?_
      refine g_iret C0 rfl dL_believed_18 (by decide) (by decide) ?_
      exact hK
    · rw [g2] at g1; cases g1
  · obtain ⟨g1, rfl⟩ := g
    refine ⟨rfl, ?_⟩
    rcases hs with ⟨v9, g2⟩ | ⟨e9, g2, g3, g4⟩
    · rw [g2] at g1; cases g1
    · rw [g2] at g1
      cases g1
      have hK := hx _ g2
      match k, g3, g4 with
      | 0, _, _ =>
        refine ⟨13, 4, 2, KTL_believed_0, ?_⟩
        refine g_iconst (v := nI 1) C0 dL_believed_15 (by decide +kernel) ?_
        refine g_iret C0 rfl dL_believed_16 (by decide) (by decide) ?_
        exact hK
      | 1, _, g4 => exact absurd g4 (by decide)
      | 2, _, g4 => exact absurd g4 (by decide)
      | k + 3, g3, _ => exact absurd g3 (by omega)
theorem KTL_debt_0 : Cat ML_debt 4 0 12 3 1 := ⟨by decide, [], (⟨0, 9, 12, 13⟩ : ExceptionTableEntry), [], rfl, rfl, fun z hz => absurd hz List.not_mem_nil, by decide +kernel, by decide, KL0, KC0, by decide, Or.inr ⟨3, rfl, dL_debt_12, rfl⟩⟩
set_option maxRecDepth 100000 in
set_option maxHeartbeats 4000000 in
theorem w_debt {q q2 t : XS} {o : AO} {f : Nat → Int64} {K : AO → AW → Prop} {a : Int32} (h : ∀ K : AO → AW → Prop, K o (WX q2) → Snd MX9_debt [.ref 0, .int a] (WX q) K) (hs : (∃ v, o = .inl (some (.int v))) ∨ ∃ e, o = .inr e ∧ e < 3 ∧ 0 < ka 1 0 0 e) (hy : ∀ v, o = .inl (some (.int v)) → K (.inl (some (.int 0))) (W3 q2 t (vp_updL f 0 v.toInt64))) (hx : ∀ e, o = .inr e → K (.inl (some (.int (nI (ka 1 0 0 e))))) (W3 q2 t f)) : Snd ML_debt [.ref 0, .int a, .ref 109] (W3 q t f) K := by
  refine Snd.ofH (by decide +kernel) (Nat.le_of_ble_eq_true rfl) rfl rfl ?_
  intro X D dA ad C0
  show Gd X _ ML_debt 0 [some (.ref 0), some (.int a), some (.ref 109), none] [] _ 0 0
  refine g_aload_n C0 dL_debt_0 rfl ?_
  refine g_iconst (v := 0) C0 dL_debt_1 (by decide) ?_
  refine g_aload_n C0 dL_debt_2 rfl ?_
  refine g_iload_n C0 dL_debt_3 rfl ?_
  refine g_invVc (As := [.int a]) (n := 1) (st := [.int 0, .ref 109]) (K2 := fun o2 w2 => o2 = o ∧ w2 = WX q2 ++ (WS t ++ [.inl (2, 1, .inr (.inl f))])) C0 dL_debt_4 CL_63 rfl rfl rfl ⟨by decide, by decide, by decide, by decide⟩ (Nat.le_of_ble_eq_true rfl) rfl (frX h) (fun v w2 g => ?_) (fun k w2 g => ?_)
  · obtain ⟨g1, rfl⟩ := g
    refine ⟨rfl, ?_⟩
    rcases hs with ⟨v9, g2⟩ | ⟨e9, g2, -⟩
    · rw [g2] at g1
      cases g1
      have hK := hy v9 g2
      refine g_i2l C0 dL_debt_7 ?_
      refine g_lastore C0 dL_debt_8 (W3_out q2 t f) in01 ?_
      refine g_w (W3_set q2 t f _) ?_
      refine g_goto (tgt := 15) C0 dL_debt_9 (by decide) ?_
      refine g_iconst (v := 0) C0 dL_debt_15 (by decide) ?_
      refine g_iret C0 rfl dL_debt_16 (by decide) (by decide) ?_
      exact hK
    · rw [g2] at g1; cases g1
  · obtain ⟨g1, rfl⟩ := g
    refine ⟨rfl, ?_⟩
    rcases hs with ⟨v9, g2⟩ | ⟨e9, g2, g3, g4⟩
    · rw [g2] at g1; cases g1
    · rw [g2] at g1
      cases g1
      have hK := hx _ g2
      match k, g3, g4 with
      | 0, _, _ =>
        refine ⟨12, 3, 1, KTL_debt_0, ?_⟩
        refine g_iconst (v := nI 1) C0 dL_debt_13 (by decide +kernel) ?_
        refine g_iret C0 rfl dL_debt_14 (by decide) (by decide) ?_
        exact hK
      | 1, _, g4 => exact absurd g4 (by decide)
      | 2, _, g4 => exact absurd g4 (by decide)
      | k + 3, g3, _ => exact absurd g3 (by omega)
theorem KTL_debtAnew_0 : Cat ML_debtAnew 4 0 12 3 1 := ⟨by decide, [], (⟨0, 9, 12, 13⟩ : ExceptionTableEntry), [], rfl, rfl, fun z hz => absurd hz List.not_mem_nil, by decide +kernel, by decide, KL0, KC0, by decide, Or.inr ⟨3, rfl, dL_debtAnew_12, rfl⟩⟩
set_option maxRecDepth 100000 in
set_option maxHeartbeats 4000000 in
theorem w_debtAnew {q q2 t : XS} {o : AO} {f : Nat → Int64} {K : AO → AW → Prop} {a : Int32} (h : ∀ K : AO → AW → Prop, K o (WX q2) → Snd MX9_debtAnew [.ref 0, .int a] (WX q) K) (hs : (∃ v, o = .inl (some (.int v))) ∨ ∃ e, o = .inr e ∧ e < 3 ∧ 0 < ka 1 0 0 e) (hy : ∀ v, o = .inl (some (.int v)) → K (.inl (some (.int 0))) (W3 q2 t (vp_updL f 0 v.toInt64))) (hx : ∀ e, o = .inr e → K (.inl (some (.int (nI (ka 1 0 0 e))))) (W3 q2 t f)) : Snd ML_debtAnew [.ref 0, .int a, .ref 109] (W3 q t f) K := by
  refine Snd.ofH (by decide +kernel) (Nat.le_of_ble_eq_true rfl) rfl rfl ?_
  intro X D dA ad C0
  show Gd X _ ML_debtAnew 0 [some (.ref 0), some (.int a), some (.ref 109), none] [] _ 0 0
  refine g_aload_n C0 dL_debtAnew_0 rfl ?_
  refine g_iconst (v := 0) C0 dL_debtAnew_1 (by decide) ?_
  refine g_aload_n C0 dL_debtAnew_2 rfl ?_
  refine g_iload_n C0 dL_debtAnew_3 rfl ?_
  refine g_invVc (As := [.int a]) (n := 1) (st := [.int 0, .ref 109]) (K2 := fun o2 w2 => o2 = o ∧ w2 = WX q2 ++ (WS t ++ [.inl (2, 1, .inr (.inl f))])) C0 dL_debtAnew_4 CL_66 rfl rfl rfl ⟨by decide, by decide, by decide, by decide⟩ (Nat.le_of_ble_eq_true rfl) rfl (frX h) (fun v w2 g => ?_) (fun k w2 g => ?_)
  · obtain ⟨g1, rfl⟩ := g
    refine ⟨rfl, ?_⟩
    rcases hs with ⟨v9, g2⟩ | ⟨e9, g2, -⟩
    · rw [g2] at g1
      cases g1
      have hK := hy v9 g2
      refine g_i2l C0 dL_debtAnew_7 ?_
      refine g_lastore C0 dL_debtAnew_8 (W3_out q2 t f) in01 ?_
      refine g_w (W3_set q2 t f _) ?_
      refine g_goto (tgt := 15) C0 dL_debtAnew_9 (by decide) ?_
      refine g_iconst (v := 0) C0 dL_debtAnew_15 (by decide) ?_
      refine g_iret C0 rfl dL_debtAnew_16 (by decide) (by decide) ?_
      exact hK
    · rw [g2] at g1; cases g1
  · obtain ⟨g1, rfl⟩ := g
    refine ⟨rfl, ?_⟩
    rcases hs with ⟨v9, g2⟩ | ⟨e9, g2, g3, g4⟩
    · rw [g2] at g1; cases g1
    · rw [g2] at g1
      cases g1
      have hK := hx _ g2
      match k, g3, g4 with
      | 0, _, _ =>
        refine ⟨12, 3, 1, KTL_debtAnew_0, ?_⟩
        refine g_iconst (v := nI 1) C0 dL_debtAnew_13 (by decide +kernel) ?_
        refine g_iret C0 rfl dL_debtAnew_14 (by decide) (by decide) ?_
        exact hK
      | 1, _, g4 => exact absurd g4 (by decide)
      | 2, _, g4 => exact absurd g4 (by decide)
      | k + 3, g3, _ => exact absurd g3 (by omega)
theorem KTL_bondOf_0 : Cat ML_bondOf 4 0 12 3 1 := ⟨by decide, [], (⟨0, 9, 12, 13⟩ : ExceptionTableEntry), [], rfl, rfl, fun z hz => absurd hz List.not_mem_nil, by decide +kernel, by decide, KL0, KC0, by decide, Or.inr ⟨3, rfl, dL_bondOf_12, rfl⟩⟩
set_option maxRecDepth 100000 in
set_option maxHeartbeats 4000000 in
theorem w_bondOf {q q2 t : XS} {o : AO} {f : Nat → Int64} {K : AO → AW → Prop} {a : Int32} (h : ∀ K : AO → AW → Prop, K o (WX q2) → Snd MX9_bondOf [.ref 0, .int a] (WX q) K) (hs : (∃ v, o = .inl (some (.int v))) ∨ ∃ e, o = .inr e ∧ e < 3 ∧ 0 < ka 1 0 0 e) (hy : ∀ v, o = .inl (some (.int v)) → K (.inl (some (.int 0))) (W3 q2 t (vp_updL f 0 v.toInt64))) (hx : ∀ e, o = .inr e → K (.inl (some (.int (nI (ka 1 0 0 e))))) (W3 q2 t f)) : Snd ML_bondOf [.ref 0, .int a, .ref 109] (W3 q t f) K := by
  refine Snd.ofH (by decide +kernel) (Nat.le_of_ble_eq_true rfl) rfl rfl ?_
  intro X D dA ad C0
  show Gd X _ ML_bondOf 0 [some (.ref 0), some (.int a), some (.ref 109), none] [] _ 0 0
  refine g_aload_n C0 dL_bondOf_0 rfl ?_
  refine g_iconst (v := 0) C0 dL_bondOf_1 (by decide) ?_
  refine g_aload_n C0 dL_bondOf_2 rfl ?_
  refine g_iload_n C0 dL_bondOf_3 rfl ?_
  refine g_invVc (As := [.int a]) (n := 1) (st := [.int 0, .ref 109]) (K2 := fun o2 w2 => o2 = o ∧ w2 = WX q2 ++ (WS t ++ [.inl (2, 1, .inr (.inl f))])) C0 dL_bondOf_4 CL_69 rfl rfl rfl ⟨by decide, by decide, by decide, by decide⟩ (Nat.le_of_ble_eq_true rfl) rfl (frX h) (fun v w2 g => ?_) (fun k w2 g => ?_)
  · obtain ⟨g1, rfl⟩ := g
    refine ⟨rfl, ?_⟩
    rcases hs with ⟨v9, g2⟩ | ⟨e9, g2, -⟩
    · rw [g2] at g1
      cases g1
      have hK := hy v9 g2
      refine g_i2l C0 dL_bondOf_7 ?_
      refine g_lastore C0 dL_bondOf_8 (W3_out q2 t f) in01 ?_
      refine g_w (W3_set q2 t f _) ?_
      refine g_goto (tgt := 15) C0 dL_bondOf_9 (by decide) ?_
      refine g_iconst (v := 0) C0 dL_bondOf_15 (by decide) ?_
      refine g_iret C0 rfl dL_bondOf_16 (by decide) (by decide) ?_
      exact hK
    · rw [g2] at g1; cases g1
  · obtain ⟨g1, rfl⟩ := g
    refine ⟨rfl, ?_⟩
    rcases hs with ⟨v9, g2⟩ | ⟨e9, g2, g3, g4⟩
    · rw [g2] at g1; cases g1
    · rw [g2] at g1
      cases g1
      have hK := hx _ g2
      match k, g3, g4 with
      | 0, _, _ =>
        refine ⟨12, 3, 1, KTL_bondOf_0, ?_⟩
        refine g_iconst (v := nI 1) C0 dL_bondOf_13 (by decide +kernel) ?_
        refine g_iret C0 rfl dL_bondOf_14 (by decide) (by decide) ?_
        exact hK
      | 1, _, g4 => exact absurd g4 (by decide)
      | 2, _, g4 => exact absurd g4 (by decide)
      | k + 3, g3, _ => exact absurd g3 (by omega)
theorem KTL_isBarred_0 : Cat ML_isBarred 4 0 19 3 1 := ⟨by decide, [], (⟨0, 16, 19, 13⟩ : ExceptionTableEntry), [], rfl, rfl, fun z hz => absurd hz List.not_mem_nil, by decide +kernel, by decide, KL0, KC0, by decide, Or.inr ⟨3, rfl, dL_isBarred_19, rfl⟩⟩
set_option maxRecDepth 100000 in
set_option maxHeartbeats 4000000 in
theorem w_isBarred {q q2 t : XS} {o : AO} {f : Nat → Int64} {K : AO → AW → Prop} {a : Int32} (h : ∀ K : AO → AW → Prop, K o (WX q2) → Snd MX9_isBarred [.ref 0, .int a] (WX q) K) (hs : (∃ v, o = .inl (some (.int v))) ∨ ∃ e, o = .inr e ∧ e < 3 ∧ 0 < ka 1 0 0 e) (hy : ∀ v, o = .inl (some (.int v)) → K (.inl (some (.int 0))) (W3 q2 t (vp_updL f 0 (if v = 0 then 0 else 1)))) (hx : ∀ e, o = .inr e → K (.inl (some (.int (nI (ka 1 0 0 e))))) (W3 q2 t f)) : Snd ML_isBarred [.ref 0, .int a, .ref 109] (W3 q t f) K := by
  refine Snd.ofH (by decide +kernel) (Nat.le_of_ble_eq_true rfl) rfl rfl ?_
  intro X D dA ad C0
  show Gd X _ ML_isBarred 0 [some (.ref 0), some (.int a), some (.ref 109), none] [] _ 0 0
  refine g_aload_n C0 dL_isBarred_0 rfl ?_
  refine g_iconst (v := 0) C0 dL_isBarred_1 (by decide) ?_
  refine g_aload_n C0 dL_isBarred_2 rfl ?_
  refine g_iload_n C0 dL_isBarred_3 rfl ?_
  refine g_invVc (As := [.int a]) (n := 1) (st := [.int 0, .ref 109]) (K2 := fun o2 w2 => o2 = o ∧ w2 = WX q2 ++ (WS t ++ [.inl (2, 1, .inr (.inl f))])) C0 dL_isBarred_4 CL_72 rfl rfl rfl ⟨by decide, by decide, by decide, by decide⟩ (Nat.le_of_ble_eq_true rfl) rfl (frX h) (fun v w2 g => ?_) (fun k w2 g => ?_)
  · obtain ⟨g1, rfl⟩ := g
    refine ⟨rfl, ?_⟩
    rcases hs with ⟨v9, g2⟩ | ⟨e9, g2, -⟩
    · rw [g2] at g1
      cases g1
      have hK := hy v9 g2
      refine g_if_eq (tgt := 14) C0 dL_isBarred_7 (by decide) (fun h0 => ?_) (fun h0 => ?_)
      · rw [if_pos h0] at hK
        refine g_lconst (v := 0) C0 dL_isBarred_14 rfl ?_
        refine g_lastore C0 dL_isBarred_15 (W3_out q2 t f) in01 ?_
        refine g_w (W3_set q2 t f _) ?_
        refine g_goto (tgt := 22) C0 dL_isBarred_16 (by decide) ?_
        refine g_iconst (v := 0) C0 dL_isBarred_22 (by decide) ?_
        refine g_iret C0 rfl dL_isBarred_23 (by decide) (by decide) ?_
        exact hK
      · rw [if_neg h0] at hK
        refine g_lconst (v := 1) C0 dL_isBarred_10 rfl ?_
        refine g_goto (tgt := 15) C0 dL_isBarred_11 (by decide) ?_
        refine g_lastore C0 dL_isBarred_15 (W3_out q2 t f) in01 ?_
        refine g_w (W3_set q2 t f _) ?_
        refine g_goto (tgt := 22) C0 dL_isBarred_16 (by decide) ?_
        refine g_iconst (v := 0) C0 dL_isBarred_22 (by decide) ?_
        refine g_iret C0 rfl dL_isBarred_23 (by decide) (by decide) ?_
        exact hK
    · rw [g2] at g1; cases g1
  · obtain ⟨g1, rfl⟩ := g
    refine ⟨rfl, ?_⟩
    rcases hs with ⟨v9, g2⟩ | ⟨e9, g2, g3, g4⟩
    · rw [g2] at g1; cases g1
    · rw [g2] at g1
      cases g1
      have hK := hx _ g2
      match k, g3, g4 with
      | 0, _, _ =>
        refine ⟨19, 3, 1, KTL_isBarred_0, ?_⟩
        refine g_iconst (v := nI 1) C0 dL_isBarred_20 (by decide +kernel) ?_
        refine g_iret C0 rfl dL_isBarred_21 (by decide) (by decide) ?_
        exact hK
      | 1, _, g4 => exact absurd g4 (by decide)
      | 2, _, g4 => exact absurd g4 (by decide)
      | k + 3, g3, _ => exact absurd g3 (by omega)
theorem KTL_callOf_0 : Cat ML_callOf 4 0 12 3 1 := ⟨by decide, [], (⟨0, 9, 12, 13⟩ : ExceptionTableEntry), [], rfl, rfl, fun z hz => absurd hz List.not_mem_nil, by decide +kernel, by decide, KL0, KC0, by decide, Or.inr ⟨3, rfl, dL_callOf_12, rfl⟩⟩
set_option maxRecDepth 100000 in
set_option maxHeartbeats 4000000 in
theorem w_callOf {q q2 t : XS} {o : AO} {f : Nat → Int64} {K : AO → AW → Prop} {a : Int32} (h : ∀ K : AO → AW → Prop, K o (WX q2) → Snd MX9_callOf [.ref 0, .int a] (WX q) K) (hs : (∃ v, o = .inl (some (.int v))) ∨ ∃ e, o = .inr e ∧ e < 3 ∧ 0 < ka 1 0 0 e) (hy : ∀ v, o = .inl (some (.int v)) → K (.inl (some (.int 0))) (W3 q2 t (vp_updL f 0 v.toInt64))) (hx : ∀ e, o = .inr e → K (.inl (some (.int (nI (ka 1 0 0 e))))) (W3 q2 t f)) : Snd ML_callOf [.ref 0, .int a, .ref 109] (W3 q t f) K := by
  refine Snd.ofH (by decide +kernel) (Nat.le_of_ble_eq_true rfl) rfl rfl ?_
  intro X D dA ad C0
  show Gd X _ ML_callOf 0 [some (.ref 0), some (.int a), some (.ref 109), none] [] _ 0 0
  refine g_aload_n C0 dL_callOf_0 rfl ?_
  refine g_iconst (v := 0) C0 dL_callOf_1 (by decide) ?_
  refine g_aload_n C0 dL_callOf_2 rfl ?_
  refine g_iload_n C0 dL_callOf_3 rfl ?_
  refine g_invVc (As := [.int a]) (n := 1) (st := [.int 0, .ref 109]) (K2 := fun o2 w2 => o2 = o ∧ w2 = WX q2 ++ (WS t ++ [.inl (2, 1, .inr (.inl f))])) C0 dL_callOf_4 CL_76 rfl rfl rfl ⟨by decide, by decide, by decide, by decide⟩ (Nat.le_of_ble_eq_true rfl) rfl (frX h) (fun v w2 g => ?_) (fun k w2 g => ?_)
  · obtain ⟨g1, rfl⟩ := g
    refine ⟨rfl, ?_⟩
    rcases hs with ⟨v9, g2⟩ | ⟨e9, g2, -⟩
    · rw [g2] at g1
      cases g1
      have hK := hy v9 g2
      refine g_i2l C0 dL_callOf_7 ?_
      refine g_lastore C0 dL_callOf_8 (W3_out q2 t f) in01 ?_
      refine g_w (W3_set q2 t f _) ?_
      refine g_goto (tgt := 15) C0 dL_callOf_9 (by decide) ?_
      refine g_iconst (v := 0) C0 dL_callOf_15 (by decide) ?_
      refine g_iret C0 rfl dL_callOf_16 (by decide) (by decide) ?_
      exact hK
    · rw [g2] at g1; cases g1
  · obtain ⟨g1, rfl⟩ := g
    refine ⟨rfl, ?_⟩
    rcases hs with ⟨v9, g2⟩ | ⟨e9, g2, g3, g4⟩
    · rw [g2] at g1; cases g1
    · rw [g2] at g1
      cases g1
      have hK := hx _ g2
      match k, g3, g4 with
      | 0, _, _ =>
        refine ⟨12, 3, 1, KTL_callOf_0, ?_⟩
        refine g_iconst (v := nI 1) C0 dL_callOf_13 (by decide +kernel) ?_
        refine g_iret C0 rfl dL_callOf_14 (by decide) (by decide) ?_
        exact hK
      | 1, _, g4 => exact absurd g4 (by decide)
      | 2, _, g4 => exact absurd g4 (by decide)
      | k + 3, g3, _ => exact absurd g3 (by omega)
theorem KTL_free_0 : Cat ML_free 5 0 13 4 2 := ⟨by decide, [], (⟨0, 10, 13, 13⟩ : ExceptionTableEntry), [], rfl, rfl, fun z hz => absurd hz List.not_mem_nil, by decide +kernel, by decide, KL0, KC0, by decide, Or.inl ⟨dL_free_13, rfl⟩⟩
set_option maxRecDepth 100000 in
set_option maxHeartbeats 4000000 in
theorem w_free {q q2 t : XS} {o : AO} {f : Nat → Int64} {K : AO → AW → Prop} {a b : Int32} (h : ∀ K : AO → AW → Prop, K o (WX q2) → Snd MX9_free [.ref 0, .int a, .int b] (WX q) K) (hs : (∃ v, o = .inl (some (.int v))) ∨ ∃ e, o = .inr e ∧ e < 3 ∧ 0 < ka 1 0 0 e) (hy : ∀ v, o = .inl (some (.int v)) → K (.inl (some (.int 0))) (W3 q2 t (vp_updL f 0 v.toInt64))) (hx : ∀ e, o = .inr e → K (.inl (some (.int (nI (ka 1 0 0 e))))) (W3 q2 t f)) : Snd ML_free [.ref 0, .int a, .int b, .ref 109] (W3 q t f) K := by
  refine Snd.ofH (by decide +kernel) (Nat.le_of_ble_eq_true rfl) rfl rfl ?_
  intro X D dA ad C0
  show Gd X _ ML_free 0 [some (.ref 0), some (.int a), some (.int b), some (.ref 109), none] [] _ 0 0
  refine g_aload_n C0 dL_free_0 rfl ?_
  refine g_iconst (v := 0) C0 dL_free_1 (by decide) ?_
  refine g_aload_n C0 dL_free_2 rfl ?_
  refine g_iload_n C0 dL_free_3 rfl ?_
  refine g_iload_n C0 dL_free_4 rfl ?_
  refine g_invVc (As := [.int a, .int b]) (n := 2) (st := [.int 0, .ref 109]) (K2 := fun o2 w2 => o2 = o ∧ w2 = WX q2 ++ (WS t ++ [.inl (2, 1, .inr (.inl f))])) C0 dL_free_5 CL_79 rfl rfl rfl ⟨by decide, by decide, by decide, by decide⟩ (Nat.le_of_ble_eq_true rfl) rfl (frX h) (fun v w2 g => ?_) (fun k w2 g => ?_)
  · obtain ⟨g1, rfl⟩ := g
    refine ⟨rfl, ?_⟩
    rcases hs with ⟨v9, g2⟩ | ⟨e9, g2, -⟩
    · rw [g2] at g1
      cases g1
      have hK := hy v9 g2
      refine g_i2l C0 dL_free_8 ?_
      refine g_lastore C0 dL_free_9 (W3_out q2 t f) in01 ?_
      refine g_w (W3_set q2 t f _) ?_
      refine g_goto (tgt := 17) C0 dL_free_10 (by decide) ?_
      refine g_iconst (v := 0) C0 dL_free_17 (by decide) ?_
      refine g_iret C0 rfl dL_free_18 (by decide) (by decide) ?_
      exact hK
    · rw [g2] at g1; cases g1
  · obtain ⟨g1, rfl⟩ := g
    refine ⟨rfl, ?_⟩
    rcases hs with ⟨v9, g2⟩ | ⟨e9, g2, g3, g4⟩
    · rw [g2] at g1; cases g1
    · rw [g2] at g1
      cases g1
      have hK := hx _ g2
      match k, g3, g4 with
      | 0, _, _ =>
        refine ⟨13, 4, 2, KTL_free_0, ?_⟩
        refine g_iconst (v := nI 1) C0 dL_free_15 (by decide +kernel) ?_
        refine g_iret C0 rfl dL_free_16 (by decide) (by decide) ?_
        exact hK
      | 1, _, g4 => exact absurd g4 (by decide)
      | 2, _, g4 => exact absurd g4 (by decide)
      | k + 3, g3, _ => exact absurd g3 (by omega)
theorem KTL_route_0 : Cat ML_route 5 0 13 4 2 := ⟨by decide, [], (⟨0, 10, 13, 13⟩ : ExceptionTableEntry), [(⟨0, 10, 17, 15⟩ : ExceptionTableEntry)], rfl, rfl, fun z hz => absurd hz List.not_mem_nil, by decide +kernel, by decide, KL0, KC0, by decide, Or.inl ⟨dL_route_13, rfl⟩⟩
theorem KTL_route_1 : Cat ML_route 5 1 17 4 2 := ⟨by decide, [(⟨0, 10, 13, 13⟩ : ExceptionTableEntry)], (⟨0, 10, 17, 15⟩ : ExceptionTableEntry), [], rfl, rfl, fun z hz => by rw [List.mem_singleton.mp hz]; exact Or.inr ⟨by decide, 0, by decide, by decide, KL0⟩, by decide +kernel, by decide, KL1, KC1, by decide, Or.inl ⟨dL_route_17, rfl⟩⟩
set_option maxRecDepth 100000 in
set_option maxHeartbeats 4000000 in
theorem w_route {q q2 t : XS} {o : AO} {f : Nat → Int64} {K : AO → AW → Prop} {a b : Int32} (h : ∀ K : AO → AW → Prop, K o (WX q2) → Snd MX9_route [.ref 0, .int a, .int b] (WX q) K) (hs : (∃ v, o = .inl (some (.int v))) ∨ ∃ e, o = .inr e ∧ e < 3 ∧ 0 < ka 1 2 0 e) (hy : ∀ v, o = .inl (some (.int v)) → K (.inl (some (.int 0))) (W3 q2 t (vp_updL f 0 v.toInt64))) (hx : ∀ e, o = .inr e → K (.inl (some (.int (nI (ka 1 2 0 e))))) (W3 q2 t f)) : Snd ML_route [.ref 0, .int a, .int b, .ref 109] (W3 q t f) K := by
  refine Snd.ofH (by decide +kernel) (Nat.le_of_ble_eq_true rfl) rfl rfl ?_
  intro X D dA ad C0
  show Gd X _ ML_route 0 [some (.ref 0), some (.int a), some (.int b), some (.ref 109), none] [] _ 0 0
  refine g_aload_n C0 dL_route_0 rfl ?_
  refine g_iconst (v := 0) C0 dL_route_1 (by decide) ?_
  refine g_aload_n C0 dL_route_2 rfl ?_
  refine g_iload_n C0 dL_route_3 rfl ?_
  refine g_iload_n C0 dL_route_4 rfl ?_
  refine g_invVc (As := [.int a, .int b]) (n := 2) (st := [.int 0, .ref 109]) (K2 := fun o2 w2 => o2 = o ∧ w2 = WX q2 ++ (WS t ++ [.inl (2, 1, .inr (.inl f))])) C0 dL_route_5 CL_82 rfl rfl rfl ⟨by decide, by decide, by decide, by decide⟩ (Nat.le_of_ble_eq_true rfl) rfl (frX h) (fun v w2 g => ?_) (fun k w2 g => ?_)
  · obtain ⟨g1, rfl⟩ := g
    refine ⟨rfl, ?_⟩
    rcases hs with ⟨v9, g2⟩ | ⟨e9, g2, -⟩
    · rw [g2] at g1
      cases g1
      have hK := hy v9 g2
      refine g_i2l C0 dL_route_8 ?_
      refine g_lastore C0 dL_route_9 (W3_out q2 t f) in01 ?_
      refine g_w (W3_set q2 t f _) ?_
      refine g_goto (tgt := 21) C0 dL_route_10 (by decide) ?_
      refine g_iconst (v := 0) C0 dL_route_21 (by decide) ?_
      refine g_iret C0 rfl dL_route_22 (by decide) (by decide) ?_
      exact hK
    · rw [g2] at g1; cases g1
  · obtain ⟨g1, rfl⟩ := g
    refine ⟨rfl, ?_⟩
    rcases hs with ⟨v9, g2⟩ | ⟨e9, g2, g3, g4⟩
    · rw [g2] at g1; cases g1
    · rw [g2] at g1
      cases g1
      have hK := hx _ g2
      match k, g3, g4 with
      | 0, _, _ =>
        refine ⟨13, 4, 2, KTL_route_0, ?_⟩
        refine g_iconst (v := nI 1) C0 dL_route_15 (by decide +kernel) ?_
        refine g_iret C0 rfl dL_route_16 (by decide) (by decide) ?_
        exact hK
      | 1, _, _ =>
        refine ⟨17, 4, 2, KTL_route_1, ?_⟩
        refine g_iconst (v := nI 2) C0 dL_route_19 (by decide +kernel) ?_
        refine g_iret C0 rfl dL_route_20 (by decide) (by decide) ?_
        exact hK
      | 2, _, g4 => exact absurd g4 (by decide)
      | k + 3, g3, _ => exact absurd g3 (by omega)
theorem KTL_state_0 : Cat ML_state 4 0 12 3 1 := ⟨by decide, [], (⟨0, 9, 12, 13⟩ : ExceptionTableEntry), [], rfl, rfl, fun z hz => absurd hz List.not_mem_nil, by decide +kernel, by decide, KL0, KC0, by decide, Or.inr ⟨3, rfl, dL_state_12, rfl⟩⟩
set_option maxRecDepth 100000 in
set_option maxHeartbeats 4000000 in
theorem w_state {q q2 t : XS} {o : AO} {f : Nat → Int64} {K : AO → AW → Prop} {a : Int32} (h : ∀ K : AO → AW → Prop, K o (WX q2) → Snd MX9_state [.ref 0, .int a] (WX q) K) (hs : (∃ v, o = .inl (some (.int v))) ∨ ∃ e, o = .inr e ∧ e < 3 ∧ 0 < ka 1 0 0 e) (hy : ∀ v, o = .inl (some (.int v)) → K (.inl (some (.int 0))) (W3 q2 t (vp_updL f 0 v.toInt64))) (hx : ∀ e, o = .inr e → K (.inl (some (.int (nI (ka 1 0 0 e))))) (W3 q2 t f)) : Snd ML_state [.ref 0, .int a, .ref 109] (W3 q t f) K := by
  refine Snd.ofH (by decide +kernel) (Nat.le_of_ble_eq_true rfl) rfl rfl ?_
  intro X D dA ad C0
  show Gd X _ ML_state 0 [some (.ref 0), some (.int a), some (.ref 109), none] [] _ 0 0
  refine g_aload_n C0 dL_state_0 rfl ?_
  refine g_iconst (v := 0) C0 dL_state_1 (by decide) ?_
  refine g_aload_n C0 dL_state_2 rfl ?_
  refine g_iload_n C0 dL_state_3 rfl ?_
  refine g_invVc (As := [.int a]) (n := 1) (st := [.int 0, .ref 109]) (K2 := fun o2 w2 => o2 = o ∧ w2 = WX q2 ++ (WS t ++ [.inl (2, 1, .inr (.inl f))])) C0 dL_state_4 CL_85 rfl rfl rfl ⟨by decide, by decide, by decide, by decide⟩ (Nat.le_of_ble_eq_true rfl) rfl (frX h) (fun v w2 g => ?_) (fun k w2 g => ?_)
  · obtain ⟨g1, rfl⟩ := g
    refine ⟨rfl, ?_⟩
    rcases hs with ⟨v9, g2⟩ | ⟨e9, g2, -⟩
    · rw [g2] at g1
      cases g1
      have hK := hy v9 g2
      refine g_i2l C0 dL_state_7 ?_
      refine g_lastore C0 dL_state_8 (W3_out q2 t f) in01 ?_
      refine g_w (W3_set q2 t f _) ?_
      refine g_goto (tgt := 15) C0 dL_state_9 (by decide) ?_
      refine g_iconst (v := 0) C0 dL_state_15 (by decide) ?_
      refine g_iret C0 rfl dL_state_16 (by decide) (by decide) ?_
      exact hK
    · rw [g2] at g1; cases g1
  · obtain ⟨g1, rfl⟩ := g
    refine ⟨rfl, ?_⟩
    rcases hs with ⟨v9, g2⟩ | ⟨e9, g2, g3, g4⟩
    · rw [g2] at g1; cases g1
    · rw [g2] at g1
      cases g1
      have hK := hx _ g2
      match k, g3, g4 with
      | 0, _, _ =>
        refine ⟨12, 3, 1, KTL_state_0, ?_⟩
        refine g_iconst (v := nI 1) C0 dL_state_13 (by decide +kernel) ?_
        refine g_iret C0 rfl dL_state_14 (by decide) (by decide) ?_
        exact hK
      | 1, _, g4 => exact absurd g4 (by decide)
      | 2, _, g4 => exact absurd g4 (by decide)
      | k + 3, g3, _ => exact absurd g3 (by omega)
theorem KTL_trunks_0 : Cat ML_trunks 4 0 12 3 1 := ⟨by decide, [], (⟨0, 9, 12, 13⟩ : ExceptionTableEntry), [], rfl, rfl, fun z hz => absurd hz List.not_mem_nil, by decide +kernel, by decide, KL0, KC0, by decide, Or.inr ⟨3, rfl, dL_trunks_12, rfl⟩⟩
set_option maxRecDepth 100000 in
set_option maxHeartbeats 4000000 in
theorem w_trunks {q q2 t : XS} {o : AO} {f : Nat → Int64} {K : AO → AW → Prop} {a : Int32} (h : ∀ K : AO → AW → Prop, K o (WX q2) → Snd MX9_trunks [.ref 0, .int a] (WX q) K) (hs : (∃ v, o = .inl (some (.int v))) ∨ ∃ e, o = .inr e ∧ e < 3 ∧ 0 < ka 1 0 0 e) (hy : ∀ v, o = .inl (some (.int v)) → K (.inl (some (.int 0))) (W3 q2 t (vp_updL f 0 v.toInt64))) (hx : ∀ e, o = .inr e → K (.inl (some (.int (nI (ka 1 0 0 e))))) (W3 q2 t f)) : Snd ML_trunks [.ref 0, .int a, .ref 109] (W3 q t f) K := by
  refine Snd.ofH (by decide +kernel) (Nat.le_of_ble_eq_true rfl) rfl rfl ?_
  intro X D dA ad C0
  show Gd X _ ML_trunks 0 [some (.ref 0), some (.int a), some (.ref 109), none] [] _ 0 0
  refine g_aload_n C0 dL_trunks_0 rfl ?_
  refine g_iconst (v := 0) C0 dL_trunks_1 (by decide) ?_
  refine g_aload_n C0 dL_trunks_2 rfl ?_
  refine g_iload_n C0 dL_trunks_3 rfl ?_
  refine g_invVc (As := [.int a]) (n := 1) (st := [.int 0, .ref 109]) (K2 := fun o2 w2 => o2 = o ∧ w2 = WX q2 ++ (WS t ++ [.inl (2, 1, .inr (.inl f))])) C0 dL_trunks_4 CL_88 rfl rfl rfl ⟨by decide, by decide, by decide, by decide⟩ (Nat.le_of_ble_eq_true rfl) rfl (frX h) (fun v w2 g => ?_) (fun k w2 g => ?_)
  · obtain ⟨g1, rfl⟩ := g
    refine ⟨rfl, ?_⟩
    rcases hs with ⟨v9, g2⟩ | ⟨e9, g2, -⟩
    · rw [g2] at g1
      cases g1
      have hK := hy v9 g2
      refine g_i2l C0 dL_trunks_7 ?_
      refine g_lastore C0 dL_trunks_8 (W3_out q2 t f) in01 ?_
      refine g_w (W3_set q2 t f _) ?_
      refine g_goto (tgt := 15) C0 dL_trunks_9 (by decide) ?_
      refine g_iconst (v := 0) C0 dL_trunks_15 (by decide) ?_
      refine g_iret C0 rfl dL_trunks_16 (by decide) (by decide) ?_
      exact hK
    · rw [g2] at g1; cases g1
  · obtain ⟨g1, rfl⟩ := g
    refine ⟨rfl, ?_⟩
    rcases hs with ⟨v9, g2⟩ | ⟨e9, g2, g3, g4⟩
    · rw [g2] at g1; cases g1
    · rw [g2] at g1
      cases g1
      have hK := hx _ g2
      match k, g3, g4 with
      | 0, _, _ =>
        refine ⟨12, 3, 1, KTL_trunks_0, ?_⟩
        refine g_iconst (v := nI 1) C0 dL_trunks_13 (by decide +kernel) ?_
        refine g_iret C0 rfl dL_trunks_14 (by decide) (by decide) ?_
        exact hK
      | 1, _, g4 => exact absurd g4 (by decide)
      | 2, _, g4 => exact absurd g4 (by decide)
      | k + 3, g3, _ => exact absurd g3 (by omega)
theorem KTL_carrierAt_0 : Cat ML_carrierAt 5 0 13 4 2 := ⟨by decide, [], (⟨0, 10, 13, 13⟩ : ExceptionTableEntry), [], rfl, rfl, fun z hz => absurd hz List.not_mem_nil, by decide +kernel, by decide, KL0, KC0, by decide, Or.inl ⟨dL_carrierAt_13, rfl⟩⟩
set_option maxRecDepth 100000 in
set_option maxHeartbeats 4000000 in
theorem w_carrierAt {q q2 t : XS} {o : AO} {f : Nat → Int64} {K : AO → AW → Prop} {a b : Int32} (h : ∀ K : AO → AW → Prop, K o (WX q2) → Snd MX9_carrierAt [.ref 0, .int a, .int b] (WX q) K) (hs : (∃ v, o = .inl (some (.int v))) ∨ ∃ e, o = .inr e ∧ e < 3 ∧ 0 < ka 1 0 0 e) (hy : ∀ v, o = .inl (some (.int v)) → K (.inl (some (.int 0))) (W3 q2 t (vp_updL f 0 v.toInt64))) (hx : ∀ e, o = .inr e → K (.inl (some (.int (nI (ka 1 0 0 e))))) (W3 q2 t f)) : Snd ML_carrierAt [.ref 0, .int a, .int b, .ref 109] (W3 q t f) K := by
  refine Snd.ofH (by decide +kernel) (Nat.le_of_ble_eq_true rfl) rfl rfl ?_
  intro X D dA ad C0
  show Gd X _ ML_carrierAt 0 [some (.ref 0), some (.int a), some (.int b), some (.ref 109), none] [] _ 0 0
  refine g_aload_n C0 dL_carrierAt_0 rfl ?_
  refine g_iconst (v := 0) C0 dL_carrierAt_1 (by decide) ?_
  refine g_aload_n C0 dL_carrierAt_2 rfl ?_
  refine g_iload_n C0 dL_carrierAt_3 rfl ?_
  refine g_iload_n C0 dL_carrierAt_4 rfl ?_
  refine g_invVc (As := [.int a, .int b]) (n := 2) (st := [.int 0, .ref 109]) (K2 := fun o2 w2 => o2 = o ∧ w2 = WX q2 ++ (WS t ++ [.inl (2, 1, .inr (.inl f))])) C0 dL_carrierAt_5 CL_91 rfl rfl rfl ⟨by decide, by decide, by decide, by decide⟩ (Nat.le_of_ble_eq_true rfl) rfl (frX h) (fun v w2 g => ?_) (fun k w2 g => ?_)
  · obtain ⟨g1, rfl⟩ := g
    refine ⟨rfl, ?_⟩
    rcases hs with ⟨v9, g2⟩ | ⟨e9, g2, -⟩
    · rw [g2] at g1
      cases g1
      have hK := hy v9 g2
      refine g_i2l C0 dL_carrierAt_8 ?_
      refine g_lastore C0 dL_carrierAt_9 (W3_out q2 t f) in01 ?_
      refine g_w (W3_set q2 t f _) ?_
      refine g_goto (tgt := 17) C0 dL_carrierAt_10 (by decide) ?_
      refine g_iconst (v := 0) C0 dL_carrierAt_17 (by decide) ?_
      refine g_iret C0 rfl dL_carrierAt_18 (by decide) (by decide) ?_
      exact hK
    · rw [g2] at g1; cases g1
  · obtain ⟨g1, rfl⟩ := g
    refine ⟨rfl, ?_⟩
    rcases hs with ⟨v9, g2⟩ | ⟨e9, g2, g3, g4⟩
    · rw [g2] at g1; cases g1
    · rw [g2] at g1
      cases g1
      have hK := hx _ g2
      match k, g3, g4 with
      | 0, _, _ =>
        refine ⟨13, 4, 2, KTL_carrierAt_0, ?_⟩
        refine g_iconst (v := nI 1) C0 dL_carrierAt_15 (by decide +kernel) ?_
        refine g_iret C0 rfl dL_carrierAt_16 (by decide) (by decide) ?_
        exact hK
      | 1, _, g4 => exact absurd g4 (by decide)
      | 2, _, g4 => exact absurd g4 (by decide)
      | k + 3, g3, _ => exact absurd g3 (by omega)
theorem KTL_seconds_0 : Cat ML_seconds 4 0 12 3 1 := ⟨by decide, [], (⟨0, 9, 12, 13⟩ : ExceptionTableEntry), [], rfl, rfl, fun z hz => absurd hz List.not_mem_nil, by decide +kernel, by decide, KL0, KC0, by decide, Or.inr ⟨3, rfl, dL_seconds_12, rfl⟩⟩
set_option maxRecDepth 100000 in
set_option maxHeartbeats 4000000 in
theorem w_seconds {q q2 t : XS} {o : AO} {f : Nat → Int64} {K : AO → AW → Prop} {a : Int32} (h : ∀ K : AO → AW → Prop, K o (WX q2) → Snd MX9_seconds [.ref 0, .int a] (WX q) K) (hs : (∃ v, o = .inl (some (.int v))) ∨ ∃ e, o = .inr e ∧ e < 3 ∧ 0 < ka 1 0 0 e) (hy : ∀ v, o = .inl (some (.int v)) → K (.inl (some (.int 0))) (W3 q2 t (vp_updL f 0 v.toInt64))) (hx : ∀ e, o = .inr e → K (.inl (some (.int (nI (ka 1 0 0 e))))) (W3 q2 t f)) : Snd ML_seconds [.ref 0, .int a, .ref 109] (W3 q t f) K := by
  refine Snd.ofH (by decide +kernel) (Nat.le_of_ble_eq_true rfl) rfl rfl ?_
  intro X D dA ad C0
  show Gd X _ ML_seconds 0 [some (.ref 0), some (.int a), some (.ref 109), none] [] _ 0 0
  refine g_aload_n C0 dL_seconds_0 rfl ?_
  refine g_iconst (v := 0) C0 dL_seconds_1 (by decide) ?_
  refine g_aload_n C0 dL_seconds_2 rfl ?_
  refine g_iload_n C0 dL_seconds_3 rfl ?_
  refine g_invVc (As := [.int a]) (n := 1) (st := [.int 0, .ref 109]) (K2 := fun o2 w2 => o2 = o ∧ w2 = WX q2 ++ (WS t ++ [.inl (2, 1, .inr (.inl f))])) C0 dL_seconds_4 CL_94 rfl rfl rfl ⟨by decide, by decide, by decide, by decide⟩ (Nat.le_of_ble_eq_true rfl) rfl (frX h) (fun v w2 g => ?_) (fun k w2 g => ?_)
  · obtain ⟨g1, rfl⟩ := g
    refine ⟨rfl, ?_⟩
    rcases hs with ⟨v9, g2⟩ | ⟨e9, g2, -⟩
    · rw [g2] at g1
      cases g1
      have hK := hy v9 g2
      refine g_i2l C0 dL_seconds_7 ?_
      refine g_lastore C0 dL_seconds_8 (W3_out q2 t f) in01 ?_
      refine g_w (W3_set q2 t f _) ?_
      refine g_goto (tgt := 15) C0 dL_seconds_9 (by decide) ?_
      refine g_iconst (v := 0) C0 dL_seconds_15 (by decide) ?_
      refine g_iret C0 rfl dL_seconds_16 (by decide) (by decide) ?_
      exact hK
    · rw [g2] at g1; cases g1
  · obtain ⟨g1, rfl⟩ := g
    refine ⟨rfl, ?_⟩
    rcases hs with ⟨v9, g2⟩ | ⟨e9, g2, g3, g4⟩
    · rw [g2] at g1; cases g1
    · rw [g2] at g1
      cases g1
      have hK := hx _ g2
      match k, g3, g4 with
      | 0, _, _ =>
        refine ⟨12, 3, 1, KTL_seconds_0, ?_⟩
        refine g_iconst (v := nI 1) C0 dL_seconds_13 (by decide +kernel) ?_
        refine g_iret C0 rfl dL_seconds_14 (by decide) (by decide) ?_
        exact hK
      | 1, _, g4 => exact absurd g4 (by decide)
      | 2, _, g4 => exact absurd g4 (by decide)
      | k + 3, g3, _ => exact absurd g3 (by omega)
theorem KTL_charged_0 : Cat ML_charged 4 0 12 3 1 := ⟨by decide, [], (⟨0, 9, 12, 13⟩ : ExceptionTableEntry), [], rfl, rfl, fun z hz => absurd hz List.not_mem_nil, by decide +kernel, by decide, KL0, KC0, by decide, Or.inr ⟨3, rfl, dL_charged_12, rfl⟩⟩
set_option maxRecDepth 100000 in
set_option maxHeartbeats 4000000 in
theorem w_charged {q q2 t : XS} {o : AO} {f : Nat → Int64} {K : AO → AW → Prop} {a : Int32} (h : ∀ K : AO → AW → Prop, K o (WX q2) → Snd MX9_charged [.ref 0, .int a] (WX q) K) (hs : (∃ v, o = .inl (some (.int v))) ∨ ∃ e, o = .inr e ∧ e < 3 ∧ 0 < ka 1 0 0 e) (hy : ∀ v, o = .inl (some (.int v)) → K (.inl (some (.int 0))) (W3 q2 t (vp_updL f 0 v.toInt64))) (hx : ∀ e, o = .inr e → K (.inl (some (.int (nI (ka 1 0 0 e))))) (W3 q2 t f)) : Snd ML_charged [.ref 0, .int a, .ref 109] (W3 q t f) K := by
  refine Snd.ofH (by decide +kernel) (Nat.le_of_ble_eq_true rfl) rfl rfl ?_
  intro X D dA ad C0
  show Gd X _ ML_charged 0 [some (.ref 0), some (.int a), some (.ref 109), none] [] _ 0 0
  refine g_aload_n C0 dL_charged_0 rfl ?_
  refine g_iconst (v := 0) C0 dL_charged_1 (by decide) ?_
  refine g_aload_n C0 dL_charged_2 rfl ?_
  refine g_iload_n C0 dL_charged_3 rfl ?_
  refine g_invVc (As := [.int a]) (n := 1) (st := [.int 0, .ref 109]) (K2 := fun o2 w2 => o2 = o ∧ w2 = WX q2 ++ (WS t ++ [.inl (2, 1, .inr (.inl f))])) C0 dL_charged_4 CL_97 rfl rfl rfl ⟨by decide, by decide, by decide, by decide⟩ (Nat.le_of_ble_eq_true rfl) rfl (frX h) (fun v w2 g => ?_) (fun k w2 g => ?_)
  · obtain ⟨g1, rfl⟩ := g
    refine ⟨rfl, ?_⟩
    rcases hs with ⟨v9, g2⟩ | ⟨e9, g2, -⟩
    · rw [g2] at g1
      cases g1
      have hK := hy v9 g2
      refine g_i2l C0 dL_charged_7 ?_
      refine g_lastore C0 dL_charged_8 (W3_out q2 t f) in01 ?_
      refine g_w (W3_set q2 t f _) ?_
      refine g_goto (tgt := 15) C0 dL_charged_9 (by decide) ?_
      refine g_iconst (v := 0) C0 dL_charged_15 (by decide) ?_
      refine g_iret C0 rfl dL_charged_16 (by decide) (by decide) ?_
      exact hK
    · rw [g2] at g1; cases g1
  · obtain ⟨g1, rfl⟩ := g
    refine ⟨rfl, ?_⟩
    rcases hs with ⟨v9, g2⟩ | ⟨e9, g2, g3, g4⟩
    · rw [g2] at g1; cases g1
    · rw [g2] at g1
      cases g1
      have hK := hx _ g2
      match k, g3, g4 with
      | 0, _, _ =>
        refine ⟨12, 3, 1, KTL_charged_0, ?_⟩
        refine g_iconst (v := nI 1) C0 dL_charged_13 (by decide +kernel) ?_
        refine g_iret C0 rfl dL_charged_14 (by decide) (by decide) ?_
        exact hK
      | 1, _, g4 => exact absurd g4 (by decide)
      | 2, _, g4 => exact absurd g4 (by decide)
      | k + 3, g3, _ => exact absurd g3 (by omega)
theorem KTL_chargedAnew_0 : Cat ML_chargedAnew 4 0 12 3 1 := ⟨by decide, [], (⟨0, 9, 12, 13⟩ : ExceptionTableEntry), [], rfl, rfl, fun z hz => absurd hz List.not_mem_nil, by decide +kernel, by decide, KL0, KC0, by decide, Or.inr ⟨3, rfl, dL_chargedAnew_12, rfl⟩⟩
set_option maxRecDepth 100000 in
set_option maxHeartbeats 4000000 in
theorem w_chargedAnew {q q2 t : XS} {o : AO} {f : Nat → Int64} {K : AO → AW → Prop} {a : Int32} (h : ∀ K : AO → AW → Prop, K o (WX q2) → Snd MX9_chargedAnew [.ref 0, .int a] (WX q) K) (hs : (∃ v, o = .inl (some (.int v))) ∨ ∃ e, o = .inr e ∧ e < 3 ∧ 0 < ka 1 0 0 e) (hy : ∀ v, o = .inl (some (.int v)) → K (.inl (some (.int 0))) (W3 q2 t (vp_updL f 0 v.toInt64))) (hx : ∀ e, o = .inr e → K (.inl (some (.int (nI (ka 1 0 0 e))))) (W3 q2 t f)) : Snd ML_chargedAnew [.ref 0, .int a, .ref 109] (W3 q t f) K := by
  refine Snd.ofH (by decide +kernel) (Nat.le_of_ble_eq_true rfl) rfl rfl ?_
  intro X D dA ad C0
  show Gd X _ ML_chargedAnew 0 [some (.ref 0), some (.int a), some (.ref 109), none] [] _ 0 0
  refine g_aload_n C0 dL_chargedAnew_0 rfl ?_
  refine g_iconst (v := 0) C0 dL_chargedAnew_1 (by decide) ?_
  refine g_aload_n C0 dL_chargedAnew_2 rfl ?_
  refine g_iload_n C0 dL_chargedAnew_3 rfl ?_
  refine g_invVc (As := [.int a]) (n := 1) (st := [.int 0, .ref 109]) (K2 := fun o2 w2 => o2 = o ∧ w2 = WX q2 ++ (WS t ++ [.inl (2, 1, .inr (.inl f))])) C0 dL_chargedAnew_4 CL_100 rfl rfl rfl ⟨by decide, by decide, by decide, by decide⟩ (Nat.le_of_ble_eq_true rfl) rfl (frX h) (fun v w2 g => ?_) (fun k w2 g => ?_)
  · obtain ⟨g1, rfl⟩ := g
    refine ⟨rfl, ?_⟩
    rcases hs with ⟨v9, g2⟩ | ⟨e9, g2, -⟩
    · rw [g2] at g1
      cases g1
      have hK := hy v9 g2
      refine g_i2l C0 dL_chargedAnew_7 ?_
      refine g_lastore C0 dL_chargedAnew_8 (W3_out q2 t f) in01 ?_
      refine g_w (W3_set q2 t f _) ?_
      refine g_goto (tgt := 15) C0 dL_chargedAnew_9 (by decide) ?_
      refine g_iconst (v := 0) C0 dL_chargedAnew_15 (by decide) ?_
      refine g_iret C0 rfl dL_chargedAnew_16 (by decide) (by decide) ?_
      exact hK
    · rw [g2] at g1; cases g1
  · obtain ⟨g1, rfl⟩ := g
    refine ⟨rfl, ?_⟩
    rcases hs with ⟨v9, g2⟩ | ⟨e9, g2, g3, g4⟩
    · rw [g2] at g1; cases g1
    · rw [g2] at g1
      cases g1
      have hK := hx _ g2
      match k, g3, g4 with
      | 0, _, _ =>
        refine ⟨12, 3, 1, KTL_chargedAnew_0, ?_⟩
        refine g_iconst (v := nI 1) C0 dL_chargedAnew_13 (by decide +kernel) ?_
        refine g_iret C0 rfl dL_chargedAnew_14 (by decide) (by decide) ?_
        exact hK
      | 1, _, g4 => exact absurd g4 (by decide)
      | 2, _, g4 => exact absurd g4 (by decide)
      | k + 3, g3, _ => exact absurd g3 (by omega)
theorem KTL_coins_0 : Cat ML_coins 4 0 12 3 1 := ⟨by decide, [], (⟨0, 9, 12, 13⟩ : ExceptionTableEntry), [], rfl, rfl, fun z hz => absurd hz List.not_mem_nil, by decide +kernel, by decide, KL0, KC0, by decide, Or.inr ⟨3, rfl, dL_coins_12, rfl⟩⟩
set_option maxRecDepth 100000 in
set_option maxHeartbeats 4000000 in
theorem w_coins {q q2 t : XS} {o : AO} {f : Nat → Int64} {K : AO → AW → Prop} {a : Int32} (h : ∀ K : AO → AW → Prop, K o (WX q2) → Snd MX9_coins [.ref 0, .int a] (WX q) K) (hs : (∃ v, o = .inl (some (.int v))) ∨ ∃ e, o = .inr e ∧ e < 3 ∧ 0 < ka 1 0 0 e) (hy : ∀ v, o = .inl (some (.int v)) → K (.inl (some (.int 0))) (W3 q2 t (vp_updL f 0 v.toInt64))) (hx : ∀ e, o = .inr e → K (.inl (some (.int (nI (ka 1 0 0 e))))) (W3 q2 t f)) : Snd ML_coins [.ref 0, .int a, .ref 109] (W3 q t f) K := by
  refine Snd.ofH (by decide +kernel) (Nat.le_of_ble_eq_true rfl) rfl rfl ?_
  intro X D dA ad C0
  show Gd X _ ML_coins 0 [some (.ref 0), some (.int a), some (.ref 109), none] [] _ 0 0
  refine g_aload_n C0 dL_coins_0 rfl ?_
  refine g_iconst (v := 0) C0 dL_coins_1 (by decide) ?_
  refine g_aload_n C0 dL_coins_2 rfl ?_
  refine g_iload_n C0 dL_coins_3 rfl ?_
  refine g_invVc (As := [.int a]) (n := 1) (st := [.int 0, .ref 109]) (K2 := fun o2 w2 => o2 = o ∧ w2 = WX q2 ++ (WS t ++ [.inl (2, 1, .inr (.inl f))])) C0 dL_coins_4 CL_103 rfl rfl rfl ⟨by decide, by decide, by decide, by decide⟩ (Nat.le_of_ble_eq_true rfl) rfl (frX h) (fun v w2 g => ?_) (fun k w2 g => ?_)
  · obtain ⟨g1, rfl⟩ := g
    refine ⟨rfl, ?_⟩
    rcases hs with ⟨v9, g2⟩ | ⟨e9, g2, -⟩
    · rw [g2] at g1
      cases g1
      have hK := hy v9 g2
      refine g_i2l C0 dL_coins_7 ?_
      refine g_lastore C0 dL_coins_8 (W3_out q2 t f) in01 ?_
      refine g_w (W3_set q2 t f _) ?_
      refine g_goto (tgt := 15) C0 dL_coins_9 (by decide) ?_
      refine g_iconst (v := 0) C0 dL_coins_15 (by decide) ?_
      refine g_iret C0 rfl dL_coins_16 (by decide) (by decide) ?_
      exact hK
    · rw [g2] at g1; cases g1
  · obtain ⟨g1, rfl⟩ := g
    refine ⟨rfl, ?_⟩
    rcases hs with ⟨v9, g2⟩ | ⟨e9, g2, g3, g4⟩
    · rw [g2] at g1; cases g1
    · rw [g2] at g1
      cases g1
      have hK := hx _ g2
      match k, g3, g4 with
      | 0, _, _ =>
        refine ⟨12, 3, 1, KTL_coins_0, ?_⟩
        refine g_iconst (v := nI 1) C0 dL_coins_13 (by decide +kernel) ?_
        refine g_iret C0 rfl dL_coins_14 (by decide) (by decide) ?_
        exact hK
      | 1, _, g4 => exact absurd g4 (by decide)
      | 2, _, g4 => exact absurd g4 (by decide)
      | k + 3, g3, _ => exact absurd g3 (by omega)
theorem KTL_earned_0 : Cat ML_earned 4 0 12 3 1 := ⟨by decide, [], (⟨0, 9, 12, 13⟩ : ExceptionTableEntry), [], rfl, rfl, fun z hz => absurd hz List.not_mem_nil, by decide +kernel, by decide, KL0, KC0, by decide, Or.inr ⟨3, rfl, dL_earned_12, rfl⟩⟩
set_option maxRecDepth 100000 in
set_option maxHeartbeats 4000000 in
theorem w_earned {q q2 t : XS} {o : AO} {f : Nat → Int64} {K : AO → AW → Prop} {a : Int32} (h : ∀ K : AO → AW → Prop, K o (WX q2) → Snd MX9_earned [.ref 0, .int a] (WX q) K) (hs : (∃ v, o = .inl (some (.int v))) ∨ ∃ e, o = .inr e ∧ e < 3 ∧ 0 < ka 1 0 0 e) (hy : ∀ v, o = .inl (some (.int v)) → K (.inl (some (.int 0))) (W3 q2 t (vp_updL f 0 v.toInt64))) (hx : ∀ e, o = .inr e → K (.inl (some (.int (nI (ka 1 0 0 e))))) (W3 q2 t f)) : Snd ML_earned [.ref 0, .int a, .ref 109] (W3 q t f) K := by
  refine Snd.ofH (by decide +kernel) (Nat.le_of_ble_eq_true rfl) rfl rfl ?_
  intro X D dA ad C0
  show Gd X _ ML_earned 0 [some (.ref 0), some (.int a), some (.ref 109), none] [] _ 0 0
  refine g_aload_n C0 dL_earned_0 rfl ?_
  refine g_iconst (v := 0) C0 dL_earned_1 (by decide) ?_
  refine g_aload_n C0 dL_earned_2 rfl ?_
  refine g_iload_n C0 dL_earned_3 rfl ?_
  refine g_invVc (As := [.int a]) (n := 1) (st := [.int 0, .ref 109]) (K2 := fun o2 w2 => o2 = o ∧ w2 = WX q2 ++ (WS t ++ [.inl (2, 1, .inr (.inl f))])) C0 dL_earned_4 CL_106 rfl rfl rfl ⟨by decide, by decide, by decide, by decide⟩ (Nat.le_of_ble_eq_true rfl) rfl (frX h) (fun v w2 g => ?_) (fun k w2 g => ?_)
  · obtain ⟨g1, rfl⟩ := g
    refine ⟨rfl, ?_⟩
    rcases hs with ⟨v9, g2⟩ | ⟨e9, g2, -⟩
    · rw [g2] at g1
      cases g1
      have hK := hy v9 g2
      refine g_i2l C0 dL_earned_7 ?_
      refine g_lastore C0 dL_earned_8 (W3_out q2 t f) in01 ?_
      refine g_w (W3_set q2 t f _) ?_
      refine g_goto (tgt := 15) C0 dL_earned_9 (by decide) ?_
      refine g_iconst (v := 0) C0 dL_earned_15 (by decide) ?_
      refine g_iret C0 rfl dL_earned_16 (by decide) (by decide) ?_
      exact hK
    · rw [g2] at g1; cases g1
  · obtain ⟨g1, rfl⟩ := g
    refine ⟨rfl, ?_⟩
    rcases hs with ⟨v9, g2⟩ | ⟨e9, g2, g3, g4⟩
    · rw [g2] at g1; cases g1
    · rw [g2] at g1
      cases g1
      have hK := hx _ g2
      match k, g3, g4 with
      | 0, _, _ =>
        refine ⟨12, 3, 1, KTL_earned_0, ?_⟩
        refine g_iconst (v := nI 1) C0 dL_earned_13 (by decide +kernel) ?_
        refine g_iret C0 rfl dL_earned_14 (by decide) (by decide) ?_
        exact hK
      | 1, _, g4 => exact absurd g4 (by decide)
      | 2, _, g4 => exact absurd g4 (by decide)
      | k + 3, g3, _ => exact absurd g3 (by omega)
theorem KTL_earnedAnew_0 : Cat ML_earnedAnew 4 0 12 3 1 := ⟨by decide, [], (⟨0, 9, 12, 13⟩ : ExceptionTableEntry), [], rfl, rfl, fun z hz => absurd hz List.not_mem_nil, by decide +kernel, by decide, KL0, KC0, by decide, Or.inr ⟨3, rfl, dL_earnedAnew_12, rfl⟩⟩
set_option maxRecDepth 100000 in
set_option maxHeartbeats 4000000 in
theorem w_earnedAnew {q q2 t : XS} {o : AO} {f : Nat → Int64} {K : AO → AW → Prop} {a : Int32} (h : ∀ K : AO → AW → Prop, K o (WX q2) → Snd MX9_earnedAnew [.ref 0, .int a] (WX q) K) (hs : (∃ v, o = .inl (some (.int v))) ∨ ∃ e, o = .inr e ∧ e < 3 ∧ 0 < ka 1 0 0 e) (hy : ∀ v, o = .inl (some (.int v)) → K (.inl (some (.int 0))) (W3 q2 t (vp_updL f 0 v.toInt64))) (hx : ∀ e, o = .inr e → K (.inl (some (.int (nI (ka 1 0 0 e))))) (W3 q2 t f)) : Snd ML_earnedAnew [.ref 0, .int a, .ref 109] (W3 q t f) K := by
  refine Snd.ofH (by decide +kernel) (Nat.le_of_ble_eq_true rfl) rfl rfl ?_
  intro X D dA ad C0
  show Gd X _ ML_earnedAnew 0 [some (.ref 0), some (.int a), some (.ref 109), none] [] _ 0 0
  refine g_aload_n C0 dL_earnedAnew_0 rfl ?_
  refine g_iconst (v := 0) C0 dL_earnedAnew_1 (by decide) ?_
  refine g_aload_n C0 dL_earnedAnew_2 rfl ?_
  refine g_iload_n C0 dL_earnedAnew_3 rfl ?_
  refine g_invVc (As := [.int a]) (n := 1) (st := [.int 0, .ref 109]) (K2 := fun o2 w2 => o2 = o ∧ w2 = WX q2 ++ (WS t ++ [.inl (2, 1, .inr (.inl f))])) C0 dL_earnedAnew_4 CL_109 rfl rfl rfl ⟨by decide, by decide, by decide, by decide⟩ (Nat.le_of_ble_eq_true rfl) rfl (frX h) (fun v w2 g => ?_) (fun k w2 g => ?_)
  · obtain ⟨g1, rfl⟩ := g
    refine ⟨rfl, ?_⟩
    rcases hs with ⟨v9, g2⟩ | ⟨e9, g2, -⟩
    · rw [g2] at g1
      cases g1
      have hK := hy v9 g2
      refine g_i2l C0 dL_earnedAnew_7 ?_
      refine g_lastore C0 dL_earnedAnew_8 (W3_out q2 t f) in01 ?_
      refine g_w (W3_set q2 t f _) ?_
      refine g_goto (tgt := 15) C0 dL_earnedAnew_9 (by decide) ?_
      refine g_iconst (v := 0) C0 dL_earnedAnew_15 (by decide) ?_
      refine g_iret C0 rfl dL_earnedAnew_16 (by decide) (by decide) ?_
      exact hK
    · rw [g2] at g1; cases g1
  · obtain ⟨g1, rfl⟩ := g
    refine ⟨rfl, ?_⟩
    rcases hs with ⟨v9, g2⟩ | ⟨e9, g2, g3, g4⟩
    · rw [g2] at g1; cases g1
    · rw [g2] at g1
      cases g1
      have hK := hx _ g2
      match k, g3, g4 with
      | 0, _, _ =>
        refine ⟨12, 3, 1, KTL_earnedAnew_0, ?_⟩
        refine g_iconst (v := nI 1) C0 dL_earnedAnew_13 (by decide +kernel) ?_
        refine g_iret C0 rfl dL_earnedAnew_14 (by decide) (by decide) ?_
        exact hK
      | 1, _, g4 => exact absurd g4 (by decide)
      | 2, _, g4 => exact absurd g4 (by decide)
      | k + 3, g3, _ => exact absurd g3 (by omega)
theorem KTL_spent_0 : Cat ML_spent 4 0 12 3 1 := ⟨by decide, [], (⟨0, 9, 12, 13⟩ : ExceptionTableEntry), [], rfl, rfl, fun z hz => absurd hz List.not_mem_nil, by decide +kernel, by decide, KL0, KC0, by decide, Or.inr ⟨3, rfl, dL_spent_12, rfl⟩⟩
set_option maxRecDepth 100000 in
set_option maxHeartbeats 4000000 in
theorem w_spent {q q2 t : XS} {o : AO} {f : Nat → Int64} {K : AO → AW → Prop} {a : Int32} (h : ∀ K : AO → AW → Prop, K o (WX q2) → Snd MX9_spent [.ref 0, .int a] (WX q) K) (hs : (∃ v, o = .inl (some (.int v))) ∨ ∃ e, o = .inr e ∧ e < 3 ∧ 0 < ka 1 0 0 e) (hy : ∀ v, o = .inl (some (.int v)) → K (.inl (some (.int 0))) (W3 q2 t (vp_updL f 0 v.toInt64))) (hx : ∀ e, o = .inr e → K (.inl (some (.int (nI (ka 1 0 0 e))))) (W3 q2 t f)) : Snd ML_spent [.ref 0, .int a, .ref 109] (W3 q t f) K := by
  refine Snd.ofH (by decide +kernel) (Nat.le_of_ble_eq_true rfl) rfl rfl ?_
  intro X D dA ad C0
  show Gd X _ ML_spent 0 [some (.ref 0), some (.int a), some (.ref 109), none] [] _ 0 0
  refine g_aload_n C0 dL_spent_0 rfl ?_
  refine g_iconst (v := 0) C0 dL_spent_1 (by decide) ?_
  refine g_aload_n C0 dL_spent_2 rfl ?_
  refine g_iload_n C0 dL_spent_3 rfl ?_
  refine g_invVc (As := [.int a]) (n := 1) (st := [.int 0, .ref 109]) (K2 := fun o2 w2 => o2 = o ∧ w2 = WX q2 ++ (WS t ++ [.inl (2, 1, .inr (.inl f))])) C0 dL_spent_4 CL_112 rfl rfl rfl ⟨by decide, by decide, by decide, by decide⟩ (Nat.le_of_ble_eq_true rfl) rfl (frX h) (fun v w2 g => ?_) (fun k w2 g => ?_)
  · obtain ⟨g1, rfl⟩ := g
    refine ⟨rfl, ?_⟩
    rcases hs with ⟨v9, g2⟩ | ⟨e9, g2, -⟩
    · rw [g2] at g1
      cases g1
      have hK := hy v9 g2
      refine g_i2l C0 dL_spent_7 ?_
      refine g_lastore C0 dL_spent_8 (W3_out q2 t f) in01 ?_
      refine g_w (W3_set q2 t f _) ?_
      refine g_goto (tgt := 15) C0 dL_spent_9 (by decide) ?_
      refine g_iconst (v := 0) C0 dL_spent_15 (by decide) ?_
      refine g_iret C0 rfl dL_spent_16 (by decide) (by decide) ?_
      exact hK
    · rw [g2] at g1; cases g1
  · obtain ⟨g1, rfl⟩ := g
    refine ⟨rfl, ?_⟩
    rcases hs with ⟨v9, g2⟩ | ⟨e9, g2, g3, g4⟩
    · rw [g2] at g1; cases g1
    · rw [g2] at g1
      cases g1
      have hK := hx _ g2
      match k, g3, g4 with
      | 0, _, _ =>
        refine ⟨12, 3, 1, KTL_spent_0, ?_⟩
        refine g_iconst (v := nI 1) C0 dL_spent_13 (by decide +kernel) ?_
        refine g_iret C0 rfl dL_spent_14 (by decide) (by decide) ?_
        exact hK
      | 1, _, g4 => exact absurd g4 (by decide)
      | 2, _, g4 => exact absurd g4 (by decide)
      | k + 3, g3, _ => exact absurd g3 (by omega)
theorem KTL_spentAnew_0 : Cat ML_spentAnew 4 0 12 3 1 := ⟨by decide, [], (⟨0, 9, 12, 13⟩ : ExceptionTableEntry), [], rfl, rfl, fun z hz => absurd hz List.not_mem_nil, by decide +kernel, by decide, KL0, KC0, by decide, Or.inr ⟨3, rfl, dL_spentAnew_12, rfl⟩⟩
set_option maxRecDepth 100000 in
set_option maxHeartbeats 4000000 in
theorem w_spentAnew {q q2 t : XS} {o : AO} {f : Nat → Int64} {K : AO → AW → Prop} {a : Int32} (h : ∀ K : AO → AW → Prop, K o (WX q2) → Snd MX9_spentAnew [.ref 0, .int a] (WX q) K) (hs : (∃ v, o = .inl (some (.int v))) ∨ ∃ e, o = .inr e ∧ e < 3 ∧ 0 < ka 1 0 0 e) (hy : ∀ v, o = .inl (some (.int v)) → K (.inl (some (.int 0))) (W3 q2 t (vp_updL f 0 v.toInt64))) (hx : ∀ e, o = .inr e → K (.inl (some (.int (nI (ka 1 0 0 e))))) (W3 q2 t f)) : Snd ML_spentAnew [.ref 0, .int a, .ref 109] (W3 q t f) K := by
  refine Snd.ofH (by decide +kernel) (Nat.le_of_ble_eq_true rfl) rfl rfl ?_
  intro X D dA ad C0
  show Gd X _ ML_spentAnew 0 [some (.ref 0), some (.int a), some (.ref 109), none] [] _ 0 0
  refine g_aload_n C0 dL_spentAnew_0 rfl ?_
  refine g_iconst (v := 0) C0 dL_spentAnew_1 (by decide) ?_
  refine g_aload_n C0 dL_spentAnew_2 rfl ?_
  refine g_iload_n C0 dL_spentAnew_3 rfl ?_
  refine g_invVc (As := [.int a]) (n := 1) (st := [.int 0, .ref 109]) (K2 := fun o2 w2 => o2 = o ∧ w2 = WX q2 ++ (WS t ++ [.inl (2, 1, .inr (.inl f))])) C0 dL_spentAnew_4 CL_115 rfl rfl rfl ⟨by decide, by decide, by decide, by decide⟩ (Nat.le_of_ble_eq_true rfl) rfl (frX h) (fun v w2 g => ?_) (fun k w2 g => ?_)
  · obtain ⟨g1, rfl⟩ := g
    refine ⟨rfl, ?_⟩
    rcases hs with ⟨v9, g2⟩ | ⟨e9, g2, -⟩
    · rw [g2] at g1
      cases g1
      have hK := hy v9 g2
      refine g_i2l C0 dL_spentAnew_7 ?_
      refine g_lastore C0 dL_spentAnew_8 (W3_out q2 t f) in01 ?_
      refine g_w (W3_set q2 t f _) ?_
      refine g_goto (tgt := 15) C0 dL_spentAnew_9 (by decide) ?_
      refine g_iconst (v := 0) C0 dL_spentAnew_15 (by decide) ?_
      refine g_iret C0 rfl dL_spentAnew_16 (by decide) (by decide) ?_
      exact hK
    · rw [g2] at g1; cases g1
  · obtain ⟨g1, rfl⟩ := g
    refine ⟨rfl, ?_⟩
    rcases hs with ⟨v9, g2⟩ | ⟨e9, g2, g3, g4⟩
    · rw [g2] at g1; cases g1
    · rw [g2] at g1
      cases g1
      have hK := hx _ g2
      match k, g3, g4 with
      | 0, _, _ =>
        refine ⟨12, 3, 1, KTL_spentAnew_0, ?_⟩
        refine g_iconst (v := nI 1) C0 dL_spentAnew_13 (by decide +kernel) ?_
        refine g_iret C0 rfl dL_spentAnew_14 (by decide) (by decide) ?_
        exact hK
      | 1, _, g4 => exact absurd g4 (by decide)
      | 2, _, g4 => exact absurd g4 (by decide)
      | k + 3, g3, _ => exact absurd g3 (by omega)
theorem KTL_losses_0 : Cat ML_losses 4 0 12 3 1 := ⟨by decide, [], (⟨0, 9, 12, 13⟩ : ExceptionTableEntry), [], rfl, rfl, fun z hz => absurd hz List.not_mem_nil, by decide +kernel, by decide, KL0, KC0, by decide, Or.inr ⟨3, rfl, dL_losses_12, rfl⟩⟩
set_option maxRecDepth 100000 in
set_option maxHeartbeats 4000000 in
theorem w_losses {q q2 t : XS} {o : AO} {f : Nat → Int64} {K : AO → AW → Prop} {a : Int32} (h : ∀ K : AO → AW → Prop, K o (WX q2) → Snd MX9_losses [.ref 0, .int a] (WX q) K) (hs : (∃ v, o = .inl (some (.int v))) ∨ ∃ e, o = .inr e ∧ e < 3 ∧ 0 < ka 1 0 0 e) (hy : ∀ v, o = .inl (some (.int v)) → K (.inl (some (.int 0))) (W3 q2 t (vp_updL f 0 v.toInt64))) (hx : ∀ e, o = .inr e → K (.inl (some (.int (nI (ka 1 0 0 e))))) (W3 q2 t f)) : Snd ML_losses [.ref 0, .int a, .ref 109] (W3 q t f) K := by
  refine Snd.ofH (by decide +kernel) (Nat.le_of_ble_eq_true rfl) rfl rfl ?_
  intro X D dA ad C0
  show Gd X _ ML_losses 0 [some (.ref 0), some (.int a), some (.ref 109), none] [] _ 0 0
  refine g_aload_n C0 dL_losses_0 rfl ?_
  refine g_iconst (v := 0) C0 dL_losses_1 (by decide) ?_
  refine g_aload_n C0 dL_losses_2 rfl ?_
  refine g_iload_n C0 dL_losses_3 rfl ?_
  refine g_invVc (As := [.int a]) (n := 1) (st := [.int 0, .ref 109]) (K2 := fun o2 w2 => o2 = o ∧ w2 = WX q2 ++ (WS t ++ [.inl (2, 1, .inr (.inl f))])) C0 dL_losses_4 CL_118 rfl rfl rfl ⟨by decide, by decide, by decide, by decide⟩ (Nat.le_of_ble_eq_true rfl) rfl (frX h) (fun v w2 g => ?_) (fun k w2 g => ?_)
  · obtain ⟨g1, rfl⟩ := g
    refine ⟨rfl, ?_⟩
    rcases hs with ⟨v9, g2⟩ | ⟨e9, g2, -⟩
    · rw [g2] at g1
      cases g1
      have hK := hy v9 g2
      refine g_i2l C0 dL_losses_7 ?_
      refine g_lastore C0 dL_losses_8 (W3_out q2 t f) in01 ?_
      refine g_w (W3_set q2 t f _) ?_
      refine g_goto (tgt := 15) C0 dL_losses_9 (by decide) ?_
      refine g_iconst (v := 0) C0 dL_losses_15 (by decide) ?_
      refine g_iret C0 rfl dL_losses_16 (by decide) (by decide) ?_
      exact hK
    · rw [g2] at g1; cases g1
  · obtain ⟨g1, rfl⟩ := g
    refine ⟨rfl, ?_⟩
    rcases hs with ⟨v9, g2⟩ | ⟨e9, g2, g3, g4⟩
    · rw [g2] at g1; cases g1
    · rw [g2] at g1
      cases g1
      have hK := hx _ g2
      match k, g3, g4 with
      | 0, _, _ =>
        refine ⟨12, 3, 1, KTL_losses_0, ?_⟩
        refine g_iconst (v := nI 1) C0 dL_losses_13 (by decide +kernel) ?_
        refine g_iret C0 rfl dL_losses_14 (by decide) (by decide) ?_
        exact hK
      | 1, _, g4 => exact absurd g4 (by decide)
      | 2, _, g4 => exact absurd g4 (by decide)
      | k + 3, g3, _ => exact absurd g3 (by omega)

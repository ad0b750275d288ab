/-! ===== from the law's entry to its loop ===== -/
def KT1 : AO → AW → Prop := fun o _ => o = .inl (some (.int 1))
def nul9 : va_E := .inr (9, [.null, .null, .null, .null, .null, .null, .null, .null, .null, .int 0, .int 0])
theorem cM_init {K : AO → AW → Prop} (hK : K (.inl none) (WX q0 ++ (WX q0).map (esh 84))) : Snd MX9_init [.ref 84] (WX q0 ++ [nul9]) K :=
  Snd.frame (M := MX9_init) (av := [.ref 0]) (w := [nul9]) (WX q0) [] (p_init ⟨Or.inr ⟨rfl, rfl, rfl, rfl⟩, (by show K (.inl none) (WX q0 ++ ((WX q0).map (esh 84) ++ [])); rw [List.append_nil]; exact hK)⟩)
theorem iv_0 : IV 0 0 0 q0 := ⟨t0, rx_0, fun c hc => ⟨0, Nat.le_refl 0, (q0_z (k := 10) (n := 5) rfl c).trans nI_0.symm⟩, fun a b hab hb _ => ⟨2, 0, by decide, by decide, (by show rowI 25 2 (5 * a + b) = _; unfold rowI; rw [if_pos (by omega)]; rfl), (q0_z (k := 13) (n := 25) rfl _).trans nI_0.symm⟩, fun j hj => absurd hj (Nat.not_lt_zero j), fun i hi => absurd hi (Nat.not_lt_zero i), fun i hi => absurd hi (Nat.not_lt_zero i), Nat.le_refl 0, fun n hn h => absurd (q0_z (k := 5) (n := 12) rfl n) h, sI_zero (fun i _ => q0_z (k := 8) (n := 5) rfl _), sI_zero (fun i _ => q0_3 _)⟩
set_option maxRecDepth 100000 in
set_option maxHeartbeats 4000000 in
theorem law_first {p : Program} {l : Launch} {e : Env} {s : State} {m : MethodId} {args : Array Value} {below : List Frame} {meth : Method} {c : Code} {D : va_G} {dA : Nat → ClassId} {ad0 : Nat → Nat} {b0 L : Nat} {xs : Nat → Int32} (C0 : Ok (p, l, e, s, m, args, below, meth, c) (D, dA, [], ad0, KT1) ML_law) (hX : va_X b0 L xs s s.heap) (hb : b0 < s.heap.size) (hL : L ≤ 260) :
    Ge b0 (p, l, e, s, m, args, below, meth, c) (D, dA, [], ad0, KT1) ML_law 20 [none, some (.ref 0), some (.ref 84), some (.ref 168), none, none, none, none, none, none, none, none, none] [] (W2 q0 q0 (fun _ => 0)) 1000 30000 := by
  intro ad H locs lsA h1 h2 h3 h4 h5
  have hag : ∀ i, i < 169 → adPush ad 169 b0 i = ad i := fun i hi => by simp only [adPush, if_neg (Nat.ne_of_lt hi)]
  have ecw : cw dA (adPush ad 169 b0) (W2 q0 q0 (fun _ => 0)) = cw dA ad (W2 q0 q0 (fun _ => 0)) := cw_eq (w := W2 q0 q0 (fun _ => 0)) hag rfl
  have eA0 : ∀ q, va_A (cw dA ad0 []) s.heap.size q ↔ s.heap.size ≤ q := fun q => ⟨fun h => by
    rcases h with ⟨k, e9, hk⟩ | h
    · simp [cw] at hk
    · exact h, fun h => Or.inr h⟩
  have eA : va_A (cw dA (adPush ad 169 b0) (W2 q0 q0 (fun _ => 0))) s.heap.size = va_A (cw dA ad0 []) s.heap.size := by
    funext q
    refine propext ⟨fun h => ?_, fun h => Or.inr ((eA0 q).mp h)⟩
    rcases h with ⟨k, e9, hk⟩ | h
    · rw [ecw] at hk
      exact h2.2.2 k _ hk
    · exact Or.inr h
  have C1 : Ok (p, l, e, s, m, args, below, meth, c) (D, dA, W2 q0 q0 (fun _ => 0), adPush ad 169 b0, KT1) ML_law := by
    obtain ⟨c1, c2, c3, c4, c5, c6, c7, c8, c9, c10, c11, c12, c13⟩ := C0
    exact ⟨c1, c2, c3, c4, c5, c6, c7, by rw [eA]; exact c8, c9, c10, c11, c12, c13⟩
  have e169 : adPush ad 169 b0 169 = b0 := by simp only [adPush, if_true]
  have SC : SCR (p, l, e, s, m, args, below, meth, c) (D, dA, W2 q0 q0 (fun _ => 0), adPush ad 169 b0, KT1) 169 L xs := by
    refine ⟨by rw [e169]; exact hX, by rw [e169]; exact hb, ?_⟩
    rw [e169, eA]
    exact fun z => absurd ((eA0 b0).mp z) (Nat.not_le.mpr hb)
  have hl4 : LH lsA ML_law.nL [some (.ref 169), some (.ref 0), some (.ref 84), some (.ref 168), none, none, none, none, none, none, none, none, none] (adPush ad 169 b0) := by
    refine ⟨h4.1, h4.2.1, rfl, fun j v hj => ?_⟩
    match j, hj with
    | 0, hj => cases hj; exact ⟨by show lsA[0]? = some (.val (.ref (adPush ad 169 b0 169))); rw [e169]; exact h5, rfl⟩
    | 1, hj => cases hj; have := h4.2.2.2 1 _ rfl; exact ⟨by show lsA[1]? = some (.val (.ref (adPush ad 169 b0 0))); rw [hag 0 (by decide)]; exact this.1, rfl⟩
    | 2, hj => cases hj; have := h4.2.2.2 2 _ rfl; exact ⟨by show lsA[2]? = some (.val (.ref (adPush ad 169 b0 84))); rw [hag 84 (by decide)]; exact this.1, rfl⟩
    | 3, hj => cases hj; have := h4.2.2.2 3 _ rfl; exact ⟨by show lsA[3]? = some (.val (.ref (adPush ad 169 b0 168))); rw [hag 168 (by decide)]; exact this.1, rfl⟩
    | 4, hj => cases hj
    | 5, hj => cases hj
    | 6, hj => cases hj
    | 7, hj => cases hj
    | 8, hj => cases hj
    | 9, hj => cases hj
    | 10, hj => cases hj
    | 11, hj => cases hj
    | 12, hj => cases hj
    | j + 13, hj => simp at hj
  have g := la_head C1 SC rfl hL (fun _ => rfl) (q := q0) (f := fun _ => 0) iv_0 (adPush ad 169 b0) H locs lsA AG.rf ⟨by rw [ecw]; exact h2.1, by rw [ecw, ← ecw, eA, ecw]; exact h2.2⟩ (by rw [eA]; exact h3) hl4
  intro T hT X0
  obtain ⟨t, a1, o, b1, b2, b3⟩ := g T hT X0
  refine ⟨t, a1, o, b1, b2, ?_⟩
  rw [eA] at b3
  rcases b3 with ⟨⟨v, w', ad', g1, g2, g3, g4, g5⟩, b4⟩ | ⟨q, b4, E, ce9, L9, ⟨k, w', ad', g1, g2, g3⟩, b5⟩
  · rw [eA] at g4 g5
    refine Or.inl ⟨⟨v, w', ad', g1, g2, ⟨Nat.zero_le _, fun i hi => absurd hi (Nat.not_lt_zero _), fun z => ?_⟩, g4, g5⟩, b4⟩
    have := g3.1
    rw [W2_len] at this
    have z2 : w'.length = 0 := z
    omega
  · cases g2
set_option maxRecDepth 100000 in
set_option maxHeartbeats 4000000 in
theorem law_start {X : CX} {S : SX} {b0 : Nat} (C0 : Ok X S ML_law) (hS : S.2.2.1 = []) (kt : Ge b0 X S ML_law 20 [none, some (.ref 0), some (.ref 84), some (.ref 168), none, none, none, none, none, none, none, none, none] [] (W2 q0 q0 (fun _ => 0)) 1000 30000) : Ge b0 X S ML_law 0 [none, none, none, none, none, none, none, none, none, none, none, none, none] [] [] 0 0 := by
  refine ge_new C0 dL_law_0 NL_8 rfl rfl rfl (Nat.le_of_ble_eq_true rfl) (Nat.le_of_ble_eq_true rfl) ?_
  refine ge_dup C0 dL_law_3 rfl ?_
  refine ge_invI (As := []) C0 dL_law_4 CL_229 rfl rfl ⟨by decide, by decide, Nat.le_of_ble_eq_true rfl, Nat.le_of_ble_eq_true rfl⟩ (Nat.le_of_ble_eq_true rfl) (p_init ?_)
  refine ⟨Or.inr ⟨rfl, rfl⟩, ?_⟩
  show Ge b0 X S ML_law 7 _ [.ref 0] (WX q0) _ _
  refine ge_astore_n C0 dL_law_7 (by decide) (by decide) rfl rfl ?_
  refine ge_new C0 dL_law_8 NL_8 rfl rfl rfl (Nat.le_of_ble_eq_true rfl) (Nat.le_of_ble_eq_true rfl) ?_
  refine ge_dup C0 dL_law_11 rfl ?_
  refine ge_invI (As := []) C0 dL_law_12 CL_229 rfl rfl ⟨by decide, by decide, Nat.le_of_ble_eq_true rfl, Nat.le_of_ble_eq_true rfl⟩ (Nat.le_of_ble_eq_true rfl) (cM_init ?_)
  refine ⟨Or.inr ⟨rfl, rfl⟩, ?_⟩
  show Ge b0 X S ML_law 15 _ [.ref 84] (WX q0 ++ (WX q0).map (esh 84)) _ _
  refine ge_astore_n C0 dL_law_15 (by decide) (by decide) rfl rfl ?_
  refine ge_iconst (v := nI 1) C0 dL_law_16 (by decide +kernel) ?_
  refine ge_newarray C0 dL_law_17 (KAi 1) rfl (by decide) rfl rfl rfl (Nat.le_of_ble_eq_true rfl) (Nat.le_of_ble_eq_true rfl) ?_
  refine ge_w (w2 := W2 q0 q0 (fun _ => 0)) rfl ?_
  refine ge_astore_n C0 dL_law_19 (by decide) (by decide) rfl rfl ?_
  refine ge_widen (cs2 := 1000) (ss2 := 30000) (Nat.le_of_ble_eq_true rfl) (Nat.le_of_ble_eq_true rfl) ?_
  exact kt

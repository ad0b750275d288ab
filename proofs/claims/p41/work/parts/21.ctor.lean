/-! ===== constructors ===== -/
def rowI (n : Nat) (f : Int32) : Nat → Int32 := fun j => if j < n then f else 0
theorem rowI_s (n k : Nat) (f : Int32) (hk : k < 2 ^ 31) : upd (fun j => if j < k then f else 0) (nI k).toNatClampNeg f = fun j => if j < k + 1 then f else 0 := by
  rw [nI_clamp hk]
  funext j
  unfold upd
  by_cases h : j = k
  · rw [if_pos h, if_pos (by omega)]
  · rw [if_neg h]
    show (if j < k then f else 0) = _
    by_cases h2 : j < k
    · rw [if_pos h2, if_pos (by omega)]
    · rw [if_neg h2, if_neg (by omega)]
set_option maxRecDepth 100000 in
set_option maxHeartbeats 4000000 in
theorem lp_row {K : AO → AW → Prop} {n : Nat} {f : Int32} (hn : n ≤ 300) {X : CX} {D : va_G} {dA : Nat → ClassId} {w0 : AW} {ad : Nat → Nat} (C0 : Ok X (D, dA, w0, ad, K) MX5_init) (hK : K (.inl none) [.inr (5, [.ref 1]), .inl (0, n, .inl (rowI n f))]) :
    ∀ m k : Nat, k + m = n → Gd X (D, dA, w0, ad, K) MX5_init 17 [some (.ref 0), some (.int (nI n)), some (.int f), some (.int (nI k))] [] [.inr (5, [.ref 1]), .inl (0, n, .inl (fun j => if j < k then f else 0))] 1 n := by
  intro m
  induction m with
  | zero =>
    intro k hk
    have hkn : k = n := by omega
    subst hkn
    refine g_iload_n C0 dX5_init_17 rfl ?_
    refine g_aload_n C0 dX5_init_18 rfl ?_
    refine g_getfield C0 dX5_init_19 FX5_13 rfl rfl ?_
    refine g_alen C0 (by decide) dX5_init_22 rfl ?_
    refine g_icmp_ge (tgt := 39) C0 dX5_init_23 (by decide) (fun _ => ?_) (fun z => absurd (Int32.le_refl _) z)
    refine g_vret C0 rfl dX5_init_39 (by decide) (show k ≤ 300 from hn) ?_
    exact hK
  | succ m ih =>
    intro k hk
    refine g_iload_n C0 dX5_init_17 rfl ?_
    refine g_aload_n C0 dX5_init_18 rfl ?_
    refine g_getfield C0 dX5_init_19 FX5_13 rfl rfl ?_
    refine g_alen C0 (by decide) dX5_init_22 rfl ?_
    refine g_icmp_ge (tgt := 39) C0 dX5_init_23 (by decide) (fun z => absurd z (nI_ge (by omega) (by omega))) (fun _ => ?_)
    refine g_aload_n C0 dX5_init_26 rfl ?_
    refine g_getfield C0 dX5_init_27 FX5_13 rfl rfl ?_
    refine g_iload_n C0 dX5_init_30 rfl ?_
    refine g_iload_n C0 dX5_init_31 rfl ?_
    refine g_iastore C0 dX5_init_32 rfl (vp_in_nI (by omega) (by omega)) ?_
    rw [rowI_s n k f (by omega)]
    refine g_iinc (v := nI (k + 1)) C0 dX5_init_33 rfl (nI_1 _) (by decide) ?_
    refine g_goto (tgt := 17) C0 dX5_init_36 (by decide) ?_
    exact ih (k + 1) (by omega)
set_option maxRecDepth 100000 in
set_option maxHeartbeats 4000000 in
theorem k_row {K : AO → AW → Prop} (n : Nat) (hn : n ≤ 300) (f : Int32) (hK : K (.inl none) [.inr (5, [.ref 1]), .inl (0, n, .inl (rowI n f))]) : Snd MX5_init [.ref 0, .int (nI n), .int f] [.inr (5, [.null])] K := by
  refine Snd.of (by decide +kernel) (Nat.le_of_ble_eq_true rfl) rfl rfl ?_
  intro X D dA ad C0
  show Gd X _ MX5_init 0 [some (.ref 0), some (.int (nI n)), some (.int f), none] [] _ 0 0
  refine g_aload_n C0 dX5_init_0 rfl ?_
  refine g_objInit C0 dX5_init_1 OX5_1 (by decide) (Nat.le_of_ble_eq_true rfl) ?_
  refine g_aload_n C0 dX5_init_4 rfl ?_
  refine g_iload_n C0 dX5_init_5 rfl ?_
  refine g_iconst (v := 0) C0 dX5_init_6 (by decide) ?_
  refine g_max C0 dX5_init_7 QX5_7 (by decide) (Nat.le_of_ble_eq_true rfl) (by decide) (by decide) ?_
  rw [if_neg (nI_pos (by omega))]
  refine g_newarray C0 dX5_init_10 (KAi n) rfl (by omega) rfl rfl rfl (by decide) (show 0 + n ≤ 300 by omega) ?_
  refine g_putfinal C0 dX5_init_12 FX5_13 rfl rfl rfl (Nat.le_of_ble_eq_true rfl) (fun _ => ⟨rfl, rfl⟩) ?_
  refine g_w (w2 := [.inr (5, [.ref 1]), .inl (0, n, .inl (fun _ => 0))]) rfl ?_
  refine g_iconst (v := 0) C0 dX5_init_15 (by decide) ?_
  refine g_istore_n C0 dX5_init_16 (by decide) ?_
  refine g_widen (cs2 := 1) (ss2 := n) (by omega) (by omega) ?_
  exact lp_row hn C0 hK n 0 (by omega)
theorem c_row {K : AO → AW → Prop} (w : AW) (n : Nat) (hn : n ≤ 300) (f : Int32) (ok : wOk (w ++ [.inr (5, [.null])]) = true) (hK : K (.inl none) (w ++ [.inr (5, [.ref (w.length + 1)]), .inl (0, n, .inl (rowI n f))])) : Snd MX5_init [.ref w.length, .int (nI n), .int f] (w ++ [.inr (5, [.null])]) K :=
  Snd.frame (M := MX5_init) (av := [.ref 0, .int (nI n), .int f]) (w := [.inr (5, [.null])]) w [] (k_row n hn f ⟨Or.inr ⟨rfl, rfl, ok, rfl⟩, hK⟩)
def w_X2 : AW := [.inr (2, [.ref 1, .ref 3, .ref 5, .int 0]), .inr (5, [.ref 2]), .inl (0, 60, .inl (rowI 60 (0))), .inr (5, [.ref 4]), .inl (0, 60, .inl (rowI 60 (0))), .inr (5, [.ref 6]), .inl (0, 60, .inl (rowI 60 (0)))]
set_option maxRecDepth 100000 in
set_option maxHeartbeats 4000000 in
theorem k_X2 {K : AO → AW → Prop} (hK : K (.inl none) w_X2) : Snd MX2_init [.ref 0] [.inr (2, [.null, .null, .null, .int 0])] K := by
  refine Snd.of (by decide +kernel) (Nat.le_of_ble_eq_true rfl) rfl rfl ?_
  intro X D dA ad C0
  show Gd X _ MX2_init 0 [some (.ref 0)] [] _ 0 0
  refine g_aload_n C0 dX2_init_0 rfl ?_
  refine g_objInit C0 dX2_init_1 OX2_3 (by decide) (Nat.le_of_ble_eq_true rfl) ?_
  refine g_aload_n C0 dX2_init_4 rfl ?_
  refine g_new C0 dX2_init_5 NX2_9 rfl rfl rfl (by decide) (by decide) ?_
  refine g_dup C0 dX2_init_8 rfl ?_
  refine g_bipush (v := nI 60) C0 dX2_init_9 (by decide +kernel) ?_
  refine g_iconst (v := 0) C0 dX2_init_11 (by decide) ?_
  refine g_invI2 C0 dX2_init_12 CX2_11 ⟨by decide, by decide, by decide, by decide⟩ (Nat.le_of_ble_eq_true rfl) ?_
  refine c_row _ 60 (by decide) (0) rfl ?_
  refine Aft_g rfl rfl ?_
  refine g_w (w2 := [.inr (2, [.null, .null, .null, .int 0]), .inr (5, [.ref 2]), .inl (0, 60, .inl (rowI 60 (0)))]) rfl ?_
  refine g_putfinal C0 dX2_init_15 FX2_14 rfl rfl rfl (Nat.le_of_ble_eq_true rfl) (fun _ => ⟨rfl, rfl⟩) ?_
  refine g_w (w2 := [.inr (2, [.ref 1, .null, .null, .int 0]), .inr (5, [.ref 2]), .inl (0, 60, .inl (rowI 60 (0)))]) rfl ?_
  refine g_aload_n C0 dX2_init_18 rfl ?_
  refine g_new C0 dX2_init_19 NX2_9 rfl rfl rfl (by decide) (by decide) ?_
  refine g_dup C0 dX2_init_22 rfl ?_
  refine g_bipush (v := nI 60) C0 dX2_init_23 (by decide +kernel) ?_
  refine g_iconst (v := 0) C0 dX2_init_25 (by decide) ?_
  refine g_invI2 C0 dX2_init_26 CX2_11 ⟨by decide, by decide, by decide, by decide⟩ (Nat.le_of_ble_eq_true rfl) ?_
  refine c_row _ 60 (by decide) (0) rfl ?_
  refine Aft_g rfl rfl ?_
  refine g_w (w2 := [.inr (2, [.ref 1, .null, .null, .int 0]), .inr (5, [.ref 2]), .inl (0, 60, .inl (rowI 60 (0))), .inr (5, [.ref 4]), .inl (0, 60, .inl (rowI 60 (0)))]) rfl ?_
  refine g_putfinal C0 dX2_init_29 FX2_20 rfl rfl rfl (Nat.le_of_ble_eq_true rfl) (fun _ => ⟨rfl, rfl⟩) ?_
  refine g_w (w2 := [.inr (2, [.ref 1, .ref 3, .null, .int 0]), .inr (5, [.ref 2]), .inl (0, 60, .inl (rowI 60 (0))), .inr (5, [.ref 4]), .inl (0, 60, .inl (rowI 60 (0)))]) rfl ?_
  refine g_aload_n C0 dX2_init_32 rfl ?_
  refine g_new C0 dX2_init_33 NX2_9 rfl rfl rfl (by decide) (by decide) ?_
  refine g_dup C0 dX2_init_36 rfl ?_
  refine g_bipush (v := nI 60) C0 dX2_init_37 (by decide +kernel) ?_
  refine g_iconst (v := 0) C0 dX2_init_39 (by decide) ?_
  refine g_invI2 C0 dX2_init_40 CX2_11 ⟨by decide, by decide, by decide, by decide⟩ (Nat.le_of_ble_eq_true rfl) ?_
  refine c_row _ 60 (by decide) (0) rfl ?_
  refine Aft_g rfl rfl ?_
  refine g_w (w2 := [.inr (2, [.ref 1, .ref 3, .null, .int 0]), .inr (5, [.ref 2]), .inl (0, 60, .inl (rowI 60 (0))), .inr (5, [.ref 4]), .inl (0, 60, .inl (rowI 60 (0))), .inr (5, [.ref 6]), .inl (0, 60, .inl (rowI 60 (0)))]) rfl ?_
  refine g_putfinal C0 dX2_init_43 FX2_23 rfl rfl rfl (Nat.le_of_ble_eq_true rfl) (fun _ => ⟨rfl, rfl⟩) ?_
  refine g_w (w2 := [.inr (2, [.ref 1, .ref 3, .ref 5, .int 0]), .inr (5, [.ref 2]), .inl (0, 60, .inl (rowI 60 (0))), .inr (5, [.ref 4]), .inl (0, 60, .inl (rowI 60 (0))), .inr (5, [.ref 6]), .inl (0, 60, .inl (rowI 60 (0)))]) rfl ?_
  refine g_aload_n C0 dX2_init_46 rfl ?_
  refine g_iconst (v := 0) C0 dX2_init_47 (by decide) ?_
  refine g_putfield C0 dX2_init_48 FX2_26 rfl (Nat.le_of_ble_eq_true rfl) (fun _ => ⟨rfl, rfl⟩) ?_
  refine g_w (w2 := [.inr (2, [.ref 1, .ref 3, .ref 5, .int 0]), .inr (5, [.ref 2]), .inl (0, 60, .inl (rowI 60 (0))), .inr (5, [.ref 4]), .inl (0, 60, .inl (rowI 60 (0))), .inr (5, [.ref 6]), .inl (0, 60, .inl (rowI 60 (0)))]) rfl ?_
  refine g_vret C0 rfl dX2_init_51 (by decide) (by decide) ?_
  exact hK
set_option maxRecDepth 100000 in
set_option maxHeartbeats 4000000 in
theorem c_X2 {K : AO → AW → Prop} (w : AW) (ok : wOk (w ++ [.inr (2, [.null, .null, .null, .int 0])]) = true) (hK : K (.inl none) (w ++ w_X2.map (esh w.length))) : Snd MX2_init [.ref w.length] (w ++ [.inr (2, [.null, .null, .null, .int 0])]) K :=
  Snd.frame (M := MX2_init) (av := [.ref 0]) (w := [.inr (2, [.null, .null, .null, .int 0])]) w [] (k_X2 ⟨Or.inr ⟨rfl, rfl, ok, rfl⟩, (by show K (.inl none) (w ++ (w_X2.map (esh w.length) ++ [])); rw [List.append_nil]; exact hK)⟩)
def w_X8 : AW := [.inr (8, [.ref 1, .int 0]), .inr (5, [.ref 2]), .inl (0, 5, .inl (rowI 5 (0)))]
set_option maxRecDepth 100000 in
set_option maxHeartbeats 4000000 in
theorem k_X8 {K : AO → AW → Prop} (hK : K (.inl none) w_X8) : Snd MX8_init [.ref 0] [.inr (8, [.null, .int 0])] K := by
  refine Snd.of (by decide +kernel) (Nat.le_of_ble_eq_true rfl) rfl rfl ?_
  intro X D dA ad C0
  show Gd X _ MX8_init 0 [some (.ref 0)] [] _ 0 0
  refine g_aload_n C0 dX8_init_0 rfl ?_
  refine g_objInit C0 dX8_init_1 OX8_3 (by decide) (Nat.le_of_ble_eq_true rfl) ?_
  refine g_aload_n C0 dX8_init_4 rfl ?_
  refine g_new C0 dX8_init_5 NX8_9 rfl rfl rfl (by decide) (by decide) ?_
  refine g_dup C0 dX8_init_8 rfl ?_
  refine g_iconst (v := nI 5) C0 dX8_init_9 (by decide +kernel) ?_
  refine g_iconst (v := 0) C0 dX8_init_10 (by decide) ?_
  refine g_invI2 C0 dX8_init_11 CX8_11 ⟨by decide, by decide, by decide, by decide⟩ (Nat.le_of_ble_eq_true rfl) ?_
  refine c_row _ 5 (by decide) (0) rfl ?_
  refine Aft_g rfl rfl ?_
  refine g_w (w2 := [.inr (8, [.null, .int 0]), .inr (5, [.ref 2]), .inl (0, 5, .inl (rowI 5 (0)))]) rfl ?_
  refine g_putfinal C0 dX8_init_14 FX8_14 rfl rfl rfl (Nat.le_of_ble_eq_true rfl) (fun _ => ⟨rfl, rfl⟩) ?_
  refine g_w (w2 := [.inr (8, [.ref 1, .int 0]), .inr (5, [.ref 2]), .inl (0, 5, .inl (rowI 5 (0)))]) rfl ?_
  refine g_aload_n C0 dX8_init_17 rfl ?_
  refine g_iconst (v := 0) C0 dX8_init_18 (by decide) ?_
  refine g_putfield C0 dX8_init_19 FX8_20 rfl (Nat.le_of_ble_eq_true rfl) (fun _ => ⟨rfl, rfl⟩) ?_
  refine g_w (w2 := [.inr (8, [.ref 1, .int 0]), .inr (5, [.ref 2]), .inl (0, 5, .inl (rowI 5 (0)))]) rfl ?_
  refine g_vret C0 rfl dX8_init_22 (by decide) (by decide) ?_
  exact hK
set_option maxRecDepth 100000 in
set_option maxHeartbeats 4000000 in
theorem c_X8 {K : AO → AW → Prop} (w : AW) (ok : wOk (w ++ [.inr (8, [.null, .int 0])]) = true) (hK : K (.inl none) (w ++ w_X8.map (esh w.length))) : Snd MX8_init [.ref w.length] (w ++ [.inr (8, [.null, .int 0])]) K :=
  Snd.frame (M := MX8_init) (av := [.ref 0]) (w := [.inr (8, [.null, .int 0])]) w [] (k_X8 ⟨Or.inr ⟨rfl, rfl, ok, rfl⟩, (by show K (.inl none) (w ++ (w_X8.map (esh w.length) ++ [])); rw [List.append_nil]; exact hK)⟩)
def w_X7 : AW := [.inr (7, [.ref 1, .ref 3]), .inr (5, [.ref 2]), .inl (0, 25, .inl (rowI 25 (2))), .inr (5, [.ref 4]), .inl (0, 25, .inl (rowI 25 (0)))]
set_option maxRecDepth 100000 in
set_option maxHeartbeats 4000000 in
theorem k_X7 {K : AO → AW → Prop} (hK : K (.inl none) w_X7) : Snd MX7_init [.ref 0] [.inr (7, [.null, .null])] K := by
  refine Snd.of (by decide +kernel) (Nat.le_of_ble_eq_true rfl) rfl rfl ?_
  intro X D dA ad C0
  show Gd X _ MX7_init 0 [some (.ref 0)] [] _ 0 0
  refine g_aload_n C0 dX7_init_0 rfl ?_
  refine g_objInit C0 dX7_init_1 OX7_3 (by decide) (Nat.le_of_ble_eq_true rfl) ?_
  refine g_aload_n C0 dX7_init_4 rfl ?_
  refine g_new C0 dX7_init_5 NX7_9 rfl rfl rfl (by decide) (by decide) ?_
  refine g_dup C0 dX7_init_8 rfl ?_
  refine g_bipush (v := nI 25) C0 dX7_init_9 (by decide +kernel) ?_
  refine g_iconst (v := 2) C0 dX7_init_11 (by decide) ?_
  refine g_invI2 C0 dX7_init_12 CX7_11 ⟨by decide, by decide, by decide, by decide⟩ (Nat.le_of_ble_eq_true rfl) ?_
  refine c_row _ 25 (by decide) (2) rfl ?_
  refine Aft_g rfl rfl ?_
  refine g_w (w2 := [.inr (7, [.null, .null]), .inr (5, [.ref 2]), .inl (0, 25, .inl (rowI 25 (2)))]) rfl ?_
  refine g_putfinal C0 dX7_init_15 FX7_14 rfl rfl rfl (Nat.le_of_ble_eq_true rfl) (fun _ => ⟨rfl, rfl⟩) ?_
  refine g_w (w2 := [.inr (7, [.ref 1, .null]), .inr (5, [.ref 2]), .inl (0, 25, .inl (rowI 25 (2)))]) rfl ?_
  refine g_aload_n C0 dX7_init_18 rfl ?_
  refine g_new C0 dX7_init_19 NX7_9 rfl rfl rfl (by decide) (by decide) ?_
  refine g_dup C0 dX7_init_22 rfl ?_
  refine g_bipush (v := nI 25) C0 dX7_init_23 (by decide +kernel) ?_
  refine g_iconst (v := 0) C0 dX7_init_25 (by decide) ?_
  refine g_invI2 C0 dX7_init_26 CX7_11 ⟨by decide, by decide, by decide, by decide⟩ (Nat.le_of_ble_eq_true rfl) ?_
  refine c_row _ 25 (by decide) (0) rfl ?_
  refine Aft_g rfl rfl ?_
  refine g_w (w2 := [.inr (7, [.ref 1, .null]), .inr (5, [.ref 2]), .inl (0, 25, .inl (rowI 25 (2))), .inr (5, [.ref 4]), .inl (0, 25, .inl (rowI 25 (0)))]) rfl ?_
  refine g_putfinal C0 dX7_init_29 FX7_20 rfl rfl rfl (Nat.le_of_ble_eq_true rfl) (fun _ => ⟨rfl, rfl⟩) ?_
  refine g_w (w2 := [.inr (7, [.ref 1, .ref 3]), .inr (5, [.ref 2]), .inl (0, 25, .inl (rowI 25 (2))), .inr (5, [.ref 4]), .inl (0, 25, .inl (rowI 25 (0)))]) rfl ?_
  refine g_vret C0 rfl dX7_init_32 (by decide) (by decide) ?_
  exact hK
set_option maxRecDepth 100000 in
set_option maxHeartbeats 4000000 in
theorem c_X7 {K : AO → AW → Prop} (w : AW) (ok : wOk (w ++ [.inr (7, [.null, .null])]) = true) (hK : K (.inl none) (w ++ w_X7.map (esh w.length))) : Snd MX7_init [.ref w.length] (w ++ [.inr (7, [.null, .null])]) K :=
  Snd.frame (M := MX7_init) (av := [.ref 0]) (w := [.inr (7, [.null, .null])]) w [] (k_X7 ⟨Or.inr ⟨rfl, rfl, ok, rfl⟩, (by show K (.inl none) (w ++ (w_X7.map (esh w.length) ++ [])); rw [List.append_nil]; exact hK)⟩)
def w_X1 : AW := [.inr (1, [.ref 1, .ref 3, .ref 5, .ref 7]), .inr (5, [.ref 2]), .inl (0, 5, .inl (rowI 5 (100))), .inr (5, [.ref 4]), .inl (0, 5, .inl (rowI 5 (0))), .inr (5, [.ref 6]), .inl (0, 5, .inl (rowI 5 (0))), .inr (5, [.ref 8]), .inl (0, 5, .inl (rowI 5 (0)))]
set_option maxRecDepth 100000 in
set_option maxHeartbeats 4000000 in
theorem k_X1 {K : AO → AW → Prop} (hK : K (.inl none) w_X1) : Snd MX1_init [.ref 0] [.inr (1, [.null, .null, .null, .null])] K := by
  refine Snd.of (by decide +kernel) (Nat.le_of_ble_eq_true rfl) rfl rfl ?_
  intro X D dA ad C0
  show Gd X _ MX1_init 0 [some (.ref 0)] [] _ 0 0
  refine g_aload_n C0 dX1_init_0 rfl ?_
  refine g_objInit C0 dX1_init_1 OX1_3 (by decide) (Nat.le_of_ble_eq_true rfl) ?_
  refine g_aload_n C0 dX1_init_4 rfl ?_
  refine g_new C0 dX1_init_5 NX1_9 rfl rfl rfl (by decide) (by decide) ?_
  refine g_dup C0 dX1_init_8 rfl ?_
  refine g_iconst (v := nI 5) C0 dX1_init_9 (by decide +kernel) ?_
  refine g_bipush (v := 100) C0 dX1_init_10 (by decide) ?_
  refine g_invI2 C0 dX1_init_12 CX1_11 ⟨by decide, by decide, by decide, by decide⟩ (Nat.le_of_ble_eq_true rfl) ?_
  refine c_row _ 5 (by decide) (100) rfl ?_
  refine Aft_g rfl rfl ?_
  refine g_w (w2 := [.inr (1, [.null, .null, .null, .null]), .inr (5, [.ref 2]), .inl (0, 5, .inl (rowI 5 (100)))]) rfl ?_
  refine g_putfinal C0 dX1_init_15 FX1_14 rfl rfl rfl (Nat.le_of_ble_eq_true rfl) (fun _ => ⟨rfl, rfl⟩) ?_
  refine g_w (w2 := [.inr (1, [.ref 1, .null, .null, .null]), .inr (5, [.ref 2]), .inl (0, 5, .inl (rowI 5 (100)))]) rfl ?_
  refine g_aload_n C0 dX1_init_18 rfl ?_
  refine g_new C0 dX1_init_19 NX1_9 rfl rfl rfl (by decide) (by decide) ?_
  refine g_dup C0 dX1_init_22 rfl ?_
  refine g_iconst (v := nI 5) C0 dX1_init_23 (by decide +kernel) ?_
  refine g_iconst (v := 0) C0 dX1_init_24 (by decide) ?_
  refine g_invI2 C0 dX1_init_25 CX1_11 ⟨by decide, by decide, by decide, by decide⟩ (Nat.le_of_ble_eq_true rfl) ?_
  refine c_row _ 5 (by decide) (0) rfl ?_
  refine Aft_g rfl rfl ?_
  refine g_w (w2 := [.inr (1, [.ref 1, .null, .null, .null]), .inr (5, [.ref 2]), .inl (0, 5, .inl (rowI 5 (100))), .inr (5, [.ref 4]), .inl (0, 5, .inl (rowI 5 (0)))]) rfl ?_
  refine g_putfinal C0 dX1_init_28 FX1_20 rfl rfl rfl (Nat.le_of_ble_eq_true rfl) (fun _ => ⟨rfl, rfl⟩) ?_
  refine g_w (w2 := [.inr (1, [.ref 1, .ref 3, .null, .null]), .inr (5, [.ref 2]), .inl (0, 5, .inl (rowI 5 (100))), .inr (5, [.ref 4]), .inl (0, 5, .inl (rowI 5 (0)))]) rfl ?_
  refine g_aload_n C0 dX1_init_31 rfl ?_
  refine g_new C0 dX1_init_32 NX1_9 rfl rfl rfl (by decide) (by decide) ?_
  refine g_dup C0 dX1_init_35 rfl ?_
  refine g_iconst (v := nI 5) C0 dX1_init_36 (by decide +kernel) ?_
  refine g_iconst (v := 0) C0 dX1_init_37 (by decide) ?_
  refine g_invI2 C0 dX1_init_38 CX1_11 ⟨by decide, by decide, by decide, by decide⟩ (Nat.le_of_ble_eq_true rfl) ?_
  refine c_row _ 5 (by decide) (0) rfl ?_
  refine Aft_g rfl rfl ?_
  refine g_w (w2 := [.inr (1, [.ref 1, .ref 3, .null, .null]), .inr (5, [.ref 2]), .inl (0, 5, .inl (rowI 5 (100))), .inr (5, [.ref 4]), .inl (0, 5, .inl (rowI 5 (0))), .inr (5, [.ref 6]), .inl (0, 5, .inl (rowI 5 (0)))]) rfl ?_
  refine g_putfinal C0 dX1_init_41 FX1_23 rfl rfl rfl (Nat.le_of_ble_eq_true rfl) (fun _ => ⟨rfl, rfl⟩) ?_
  refine g_w (w2 := [.inr (1, [.ref 1, .ref 3, .ref 5, .null]), .inr (5, [.ref 2]), .inl (0, 5, .inl (rowI 5 (100))), .inr (5, [.ref 4]), .inl (0, 5, .inl (rowI 5 (0))), .inr (5, [.ref 6]), .inl (0, 5, .inl (rowI 5 (0)))]) rfl ?_
  refine g_aload_n C0 dX1_init_44 rfl ?_
  refine g_new C0 dX1_init_45 NX1_9 rfl rfl rfl (by decide) (by decide) ?_
  refine g_dup C0 dX1_init_48 rfl ?_
  refine g_iconst (v := nI 5) C0 dX1_init_49 (by decide +kernel) ?_
  refine g_iconst (v := 0) C0 dX1_init_50 (by decide) ?_
  refine g_invI2 C0 dX1_init_51 CX1_11 ⟨by decide, by decide, by decide, by decide⟩ (Nat.le_of_ble_eq_true rfl) ?_
  refine c_row _ 5 (by decide) (0) rfl ?_
  refine Aft_g rfl rfl ?_
  refine g_w (w2 := [.inr (1, [.ref 1, .ref 3, .ref 5, .null]), .inr (5, [.ref 2]), .inl (0, 5, .inl (rowI 5 (100))), .inr (5, [.ref 4]), .inl (0, 5, .inl (rowI 5 (0))), .inr (5, [.ref 6]), .inl (0, 5, .inl (rowI 5 (0))), .inr (5, [.ref 8]), .inl (0, 5, .inl (rowI 5 (0)))]) rfl ?_
  refine g_putfinal C0 dX1_init_54 FX1_26 rfl rfl rfl (Nat.le_of_ble_eq_true rfl) (fun _ => ⟨rfl, rfl⟩) ?_
  refine g_w (w2 := [.inr (1, [.ref 1, .ref 3, .ref 5, .ref 7]), .inr (5, [.ref 2]), .inl (0, 5, .inl (rowI 5 (100))), .inr (5, [.ref 4]), .inl (0, 5, .inl (rowI 5 (0))), .inr (5, [.ref 6]), .inl (0, 5, .inl (rowI 5 (0))), .inr (5, [.ref 8]), .inl (0, 5, .inl (rowI 5 (0)))]) rfl ?_
  refine g_vret C0 rfl dX1_init_57 (by decide) (by decide) ?_
  exact hK
set_option maxRecDepth 100000 in
set_option maxHeartbeats 4000000 in
theorem c_X1 {K : AO → AW → Prop} (w : AW) (ok : wOk (w ++ [.inr (1, [.null, .null, .null, .null])]) = true) (hK : K (.inl none) (w ++ w_X1.map (esh w.length))) : Snd MX1_init [.ref w.length] (w ++ [.inr (1, [.null, .null, .null, .null])]) K :=
  Snd.frame (M := MX1_init) (av := [.ref 0]) (w := [.inr (1, [.null, .null, .null, .null])]) w [] (k_X1 ⟨Or.inr ⟨rfl, rfl, ok, rfl⟩, (by show K (.inl none) (w ++ (w_X1.map (esh w.length) ++ [])); rw [List.append_nil]; exact hK)⟩)
def w_X0 : AW := [.inr (0, [.ref 1, .ref 3, .ref 5, .ref 7, .ref 9, .ref 11, .ref 13, .ref 15, .int 0]), .inr (5, [.ref 2]), .inl (0, 60, .inl (rowI 60 (0))), .inr (5, [.ref 4]), .inl (0, 60, .inl (rowI 60 (0))), .inr (5, [.ref 6]), .inl (0, 60, .inl (rowI 60 (0))), .inr (5, [.ref 8]), .inl (0, 60, .inl (rowI 60 (0))), .inr (5, [.ref 10]), .inl (0, 60, .inl (rowI 60 (0))), .inr (5, [.ref 12]), .inl (0, 60, .inl (rowI 60 (0))), .inr (5, [.ref 14]), .inl (0, 60, .inl (rowI 60 (0))), .inr (5, [.ref 16]), .inl (0, 300, .inl (rowI 300 (0)))]
set_option maxRecDepth 100000 in
set_option maxHeartbeats 4000000 in
theorem k_X0 {K : AO → AW → Prop} (hK : K (.inl none) w_X0) : Snd MX0_init [.ref 0] [.inr (0, [.null, .null, .null, .null, .null, .null, .null, .null, .int 0])] K := by
  refine Snd.of (by decide +kernel) (Nat.le_of_ble_eq_true rfl) rfl rfl ?_
  intro X D dA ad C0
  show Gd X _ MX0_init 0 [some (.ref 0)] [] _ 0 0
  refine g_aload_n C0 dX0_init_0 rfl ?_
  refine g_objInit C0 dX0_init_1 OX0_3 (by decide) (Nat.le_of_ble_eq_true rfl) ?_
  refine g_aload_n C0 dX0_init_4 rfl ?_
  refine g_new C0 dX0_init_5 NX0_9 rfl rfl rfl (by decide) (by decide) ?_
  refine g_dup C0 dX0_init_8 rfl ?_
  refine g_bipush (v := nI 60) C0 dX0_init_9 (by decide +kernel) ?_
  refine g_iconst (v := 0) C0 dX0_init_11 (by decide) ?_
  refine g_invI2 C0 dX0_init_12 CX0_11 ⟨by decide, by decide, by decide, by decide⟩ (Nat.le_of_ble_eq_true rfl) ?_
  refine c_row _ 60 (by decide) (0) rfl ?_
  refine Aft_g rfl rfl ?_
  refine g_w (w2 := [.inr (0, [.null, .null, .null, .null, .null, .null, .null, .null, .int 0]), .inr (5, [.ref 2]), .inl (0, 60, .inl (rowI 60 (0)))]) rfl ?_
  refine g_putfinal C0 dX0_init_15 FX0_14 rfl rfl rfl (Nat.le_of_ble_eq_true rfl) (fun _ => ⟨rfl, rfl⟩) ?_
  refine g_w (w2 := [.inr (0, [.ref 1, .null, .null, .null, .null, .null, .null, .null, .int 0]), .inr (5, [.ref 2]), .inl (0, 60, .inl (rowI 60 (0)))]) rfl ?_
  refine g_aload_n C0 dX0_init_18 rfl ?_
  refine g_new C0 dX0_init_19 NX0_9 rfl rfl rfl (by decide) (by decide) ?_
  refine g_dup C0 dX0_init_22 rfl ?_
  refine g_bipush (v := nI 60) C0 dX0_init_23 (by decide +kernel) ?_
  refine g_iconst (v := 0) C0 dX0_init_25 (by decide) ?_
  refine g_invI2 C0 dX0_init_26 CX0_11 ⟨by decide, by decide, by decide, by decide⟩ (Nat.le_of_ble_eq_true rfl) ?_
  refine c_row _ 60 (by decide) (0) rfl ?_
  refine Aft_g rfl rfl ?_
  refine g_w (w2 := [.inr (0, [.ref 1, .null, .null, .null, .null, .null, .null, .null, .int 0]), .inr (5, [.ref 2]), .inl (0, 60, .inl (rowI 60 (0))), .inr (5, [.ref 4]), .inl (0, 60, .inl (rowI 60 (0)))]) rfl ?_
  refine g_putfinal C0 dX0_init_29 FX0_20 rfl rfl rfl (Nat.le_of_ble_eq_true rfl) (fun _ => ⟨rfl, rfl⟩) ?_
  refine g_w (w2 := [.inr (0, [.ref 1, .ref 3, .null, .null, .null, .null, .null, .null, .int 0]), .inr (5, [.ref 2]), .inl (0, 60, .inl (rowI 60 (0))), .inr (5, [.ref 4]), .inl (0, 60, .inl (rowI 60 (0)))]) rfl ?_
  refine g_aload_n C0 dX0_init_32 rfl ?_
  refine g_new C0 dX0_init_33 NX0_9 rfl rfl rfl (by decide) (by decide) ?_
  refine g_dup C0 dX0_init_36 rfl ?_
  refine g_bipush (v := nI 60) C0 dX0_init_37 (by decide +kernel) ?_
  refine g_iconst (v := 0) C0 dX0_init_39 (by decide) ?_
  refine g_invI2 C0 dX0_init_40 CX0_11 ⟨by decide, by decide, by decide, by decide⟩ (Nat.le_of_ble_eq_true rfl) ?_
  refine c_row _ 60 (by decide) (0) rfl ?_
  refine Aft_g rfl rfl ?_
  refine g_w (w2 := [.inr (0, [.ref 1, .ref 3, .null, .null, .null, .null, .null, .null, .int 0]), .inr (5, [.ref 2]), .inl (0, 60, .inl (rowI 60 (0))), .inr (5, [.ref 4]), .inl (0, 60, .inl (rowI 60 (0))), .inr (5, [.ref 6]), .inl (0, 60, .inl (rowI 60 (0)))]) rfl ?_
  refine g_putfinal C0 dX0_init_43 FX0_23 rfl rfl rfl (Nat.le_of_ble_eq_true rfl) (fun _ => ⟨rfl, rfl⟩) ?_
  refine g_w (w2 := [.inr (0, [.ref 1, .ref 3, .ref 5, .null, .null, .null, .null, .null, .int 0]), .inr (5, [.ref 2]), .inl (0, 60, .inl (rowI 60 (0))), .inr (5, [.ref 4]), .inl (0, 60, .inl (rowI 60 (0))), .inr (5, [.ref 6]), .inl (0, 60, .inl (rowI 60 (0)))]) rfl ?_
  refine g_aload_n C0 dX0_init_46 rfl ?_
  refine g_new C0 dX0_init_47 NX0_9 rfl rfl rfl (by decide) (by decide) ?_
  refine g_dup C0 dX0_init_50 rfl ?_
  refine g_bipush (v := nI 60) C0 dX0_init_51 (by decide +kernel) ?_
  refine g_iconst (v := 0) C0 dX0_init_53 (by decide) ?_
  refine g_invI2 C0 dX0_init_54 CX0_11 ⟨by decide, by decide, by decide, by decide⟩ (Nat.le_of_ble_eq_true rfl) ?_
  refine c_row _ 60 (by decide) (0) rfl ?_
  refine Aft_g rfl rfl ?_
  refine g_w (w2 := [.inr (0, [.ref 1, .ref 3, .ref 5, .null, .null, .null, .null, .null, .int 0]), .inr (5, [.ref 2]), .inl (0, 60, .inl (rowI 60 (0))), .inr (5, [.ref 4]), .inl (0, 60, .inl (rowI 60 (0))), .inr (5, [.ref 6]), .inl (0, 60, .inl (rowI 60 (0))), .inr (5, [.ref 8]), .inl (0, 60, .inl (rowI 60 (0)))]) rfl ?_
  refine g_putfinal C0 dX0_init_57 FX0_26 rfl rfl rfl (Nat.le_of_ble_eq_true rfl) (fun _ => ⟨rfl, rfl⟩) ?_
  refine g_w (w2 := [.inr (0, [.ref 1, .ref 3, .ref 5, .ref 7, .null, .null, .null, .null, .int 0]), .inr (5, [.ref 2]), .inl (0, 60, .inl (rowI 60 (0))), .inr (5, [.ref 4]), .inl (0, 60, .inl (rowI 60 (0))), .inr (5, [.ref 6]), .inl (0, 60, .inl (rowI 60 (0))), .inr (5, [.ref 8]), .inl (0, 60, .inl (rowI 60 (0)))]) rfl ?_
  refine g_aload_n C0 dX0_init_60 rfl ?_
  refine g_new C0 dX0_init_61 NX0_9 rfl rfl rfl (by decide) (by decide) ?_
  refine g_dup C0 dX0_init_64 rfl ?_
  refine g_bipush (v := nI 60) C0 dX0_init_65 (by decide +kernel) ?_
  refine g_iconst (v := 0) C0 dX0_init_67 (by decide) ?_
  refine g_invI2 C0 dX0_init_68 CX0_11 ⟨by decide, by decide, by decide, by decide⟩ (Nat.le_of_ble_eq_true rfl) ?_
  refine c_row _ 60 (by decide) (0) rfl ?_
  refine Aft_g rfl rfl ?_
  refine g_w (w2 := [.inr (0, [.ref 1, .ref 3, .ref 5, .ref 7, .null, .null, .null, .null, .int 0]), .inr (5, [.ref 2]), .inl (0, 60, .inl (rowI 60 (0))), .inr (5, [.ref 4]), .inl (0, 60, .inl (rowI 60 (0))), .inr (5, [.ref 6]), .inl (0, 60, .inl (rowI 60 (0))), .inr (5, [.ref 8]), .inl (0, 60, .inl (rowI 60 (0))), .inr (5, [.ref 10]), .inl (0, 60, .inl (rowI 60 (0)))]) rfl ?_
  refine g_putfinal C0 dX0_init_71 FX0_29 rfl rfl rfl (Nat.le_of_ble_eq_true rfl) (fun _ => ⟨rfl, rfl⟩) ?_
  refine g_w (w2 := [.inr (0, [.ref 1, .ref 3, .ref 5, .ref 7, .ref 9, .null, .null, .null, .int 0]), .inr (5, [.ref 2]), .inl (0, 60, .inl (rowI 60 (0))), .inr (5, [.ref 4]), .inl (0, 60, .inl (rowI 60 (0))), .inr (5, [.ref 6]), .inl (0, 60, .inl (rowI 60 (0))), .inr (5, [.ref 8]), .inl (0, 60, .inl (rowI 60 (0))), .inr (5, [.ref 10]), .inl (0, 60, .inl (rowI 60 (0)))]) rfl ?_
  refine g_aload_n C0 dX0_init_74 rfl ?_
  refine g_new C0 dX0_init_75 NX0_9 rfl rfl rfl (by decide) (by decide) ?_
  refine g_dup C0 dX0_init_78 rfl ?_
  refine g_bipush (v := nI 60) C0 dX0_init_79 (by decide +kernel) ?_
  refine g_iconst (v := 0) C0 dX0_init_81 (by decide) ?_
  refine g_invI2 C0 dX0_init_82 CX0_11 ⟨by decide, by decide, by decide, by decide⟩ (Nat.le_of_ble_eq_true rfl) ?_
  refine c_row _ 60 (by decide) (0) rfl ?_
  refine Aft_g rfl rfl ?_
  refine g_w (w2 := [.inr (0, [.ref 1, .ref 3, .ref 5, .ref 7, .ref 9, .null, .null, .null, .int 0]), .inr (5, [.ref 2]), .inl (0, 60, .inl (rowI 60 (0))), .inr (5, [.ref 4]), .inl (0, 60, .inl (rowI 60 (0))), .inr (5, [.ref 6]), .inl (0, 60, .inl (rowI 60 (0))), .inr (5, [.ref 8]), .inl (0, 60, .inl (rowI 60 (0))), .inr (5, [.ref 10]), .inl (0, 60, .inl (rowI 60 (0))), .inr (5, [.ref 12]), .inl (0, 60, .inl (rowI 60 (0)))]) rfl ?_
  refine g_putfinal C0 dX0_init_85 FX0_32 rfl rfl rfl (Nat.le_of_ble_eq_true rfl) (fun _ => ⟨rfl, rfl⟩) ?_
  refine g_w (w2 := [.inr (0, [.ref 1, .ref 3, .ref 5, .ref 7, .ref 9, .ref 11, .null, .null, .int 0]), .inr (5, [.ref 2]), .inl (0, 60, .inl (rowI 60 (0))), .inr (5, [.ref 4]), .inl (0, 60, .inl (rowI 60 (0))), .inr (5, [.ref 6]), .inl (0, 60, .inl (rowI 60 (0))), .inr (5, [.ref 8]), .inl (0, 60, .inl (rowI 60 (0))), .inr (5, [.ref 10]), .inl (0, 60, .inl (rowI 60 (0))), .inr (5, [.ref 12]), .inl (0, 60, .inl (rowI 60 (0)))]) rfl ?_
  refine g_aload_n C0 dX0_init_88 rfl ?_
  refine g_new C0 dX0_init_89 NX0_9 rfl rfl rfl (by decide) (by decide) ?_
  refine g_dup C0 dX0_init_92 rfl ?_
  refine g_bipush (v := nI 60) C0 dX0_init_93 (by decide +kernel) ?_
  refine g_iconst (v := 0) C0 dX0_init_95 (by decide) ?_
  refine g_invI2 C0 dX0_init_96 CX0_11 ⟨by decide, by decide, by decide, by decide⟩ (Nat.le_of_ble_eq_true rfl) ?_
  refine c_row _ 60 (by decide) (0) rfl ?_
  refine Aft_g rfl rfl ?_
  refine g_w (w2 := [.inr (0, [.ref 1, .ref 3, .ref 5, .ref 7, .ref 9, .ref 11, .null, .null, .int 0]), .inr (5, [.ref 2]), .inl (0, 60, .inl (rowI 60 (0))), .inr (5, [.ref 4]), .inl (0, 60, .inl (rowI 60 (0))), .inr (5, [.ref 6]), .inl (0, 60, .inl (rowI 60 (0))), .inr (5, [.ref 8]), .inl (0, 60, .inl (rowI 60 (0))), .inr (5, [.ref 10]), .inl (0, 60, .inl (rowI 60 (0))), .inr (5, [.ref 12]), .inl (0, 60, .inl (rowI 60 (0))), .inr (5, [.ref 14]), .inl (0, 60, .inl (rowI 60 (0)))]) rfl ?_
  refine g_putfinal C0 dX0_init_99 FX0_35 rfl rfl rfl (Nat.le_of_ble_eq_true rfl) (fun _ => ⟨rfl, rfl⟩) ?_
  refine g_w (w2 := [.inr (0, [.ref 1, .ref 3, .ref 5, .ref 7, .ref 9, .ref 11, .ref 13, .null, .int 0]), .inr (5, [.ref 2]), .inl (0, 60, .inl (rowI 60 (0))), .inr (5, [.ref 4]), .inl (0, 60, .inl (rowI 60 (0))), .inr (5, [.ref 6]), .inl (0, 60, .inl (rowI 60 (0))), .inr (5, [.ref 8]), .inl (0, 60, .inl (rowI 60 (0))), .inr (5, [.ref 10]), .inl (0, 60, .inl (rowI 60 (0))), .inr (5, [.ref 12]), .inl (0, 60, .inl (rowI 60 (0))), .inr (5, [.ref 14]), .inl (0, 60, .inl (rowI 60 (0)))]) rfl ?_
  refine g_aload_n C0 dX0_init_102 rfl ?_
  refine g_new C0 dX0_init_103 NX0_9 rfl rfl rfl (by decide) (by decide) ?_
  refine g_dup C0 dX0_init_106 rfl ?_
  refine g_sipush (v := nI 300) C0 dX0_init_107 (by decide +kernel) ?_
  refine g_iconst (v := 0) C0 dX0_init_110 (by decide) ?_
  refine g_invI2 C0 dX0_init_111 CX0_11 ⟨by decide, by decide, by decide, by decide⟩ (Nat.le_of_ble_eq_true rfl) ?_
  refine c_row _ 300 (by decide) (0) rfl ?_
  refine Aft_g rfl rfl ?_
  refine g_w (w2 := [.inr (0, [.ref 1, .ref 3, .ref 5, .ref 7, .ref 9, .ref 11, .ref 13, .null, .int 0]), .inr (5, [.ref 2]), .inl (0, 60, .inl (rowI 60 (0))), .inr (5, [.ref 4]), .inl (0, 60, .inl (rowI 60 (0))), .inr (5, [.ref 6]), .inl (0, 60, .inl (rowI 60 (0))), .inr (5, [.ref 8]), .inl (0, 60, .inl (rowI 60 (0))), .inr (5, [.ref 10]), .inl (0, 60, .inl (rowI 60 (0))), .inr (5, [.ref 12]), .inl (0, 60, .inl (rowI 60 (0))), .inr (5, [.ref 14]), .inl (0, 60, .inl (rowI 60 (0))), .inr (5, [.ref 16]), .inl (0, 300, .inl (rowI 300 (0)))]) rfl ?_
  refine g_putfinal C0 dX0_init_114 FX0_38 rfl rfl rfl (Nat.le_of_ble_eq_true rfl) (fun _ => ⟨rfl, rfl⟩) ?_
  refine g_w (w2 := [.inr (0, [.ref 1, .ref 3, .ref 5, .ref 7, .ref 9, .ref 11, .ref 13, .ref 15, .int 0]), .inr (5, [.ref 2]), .inl (0, 60, .inl (rowI 60 (0))), .inr (5, [.ref 4]), .inl (0, 60, .inl (rowI 60 (0))), .inr (5, [.ref 6]), .inl (0, 60, .inl (rowI 60 (0))), .inr (5, [.ref 8]), .inl (0, 60, .inl (rowI 60 (0))), .inr (5, [.ref 10]), .inl (0, 60, .inl (rowI 60 (0))), .inr (5, [.ref 12]), .inl (0, 60, .inl (rowI 60 (0))), .inr (5, [.ref 14]), .inl (0, 60, .inl (rowI 60 (0))), .inr (5, [.ref 16]), .inl (0, 300, .inl (rowI 300 (0)))]) rfl ?_
  refine g_aload_n C0 dX0_init_117 rfl ?_
  refine g_iconst (v := 0) C0 dX0_init_118 (by decide) ?_
  refine g_putfield C0 dX0_init_119 FX0_41 rfl (Nat.le_of_ble_eq_true rfl) (fun _ => ⟨rfl, rfl⟩) ?_
  refine g_w (w2 := [.inr (0, [.ref 1, .ref 3, .ref 5, .ref 7, .ref 9, .ref 11, .ref 13, .ref 15, .int 0]), .inr (5, [.ref 2]), .inl (0, 60, .inl (rowI 60 (0))), .inr (5, [.ref 4]), .inl (0, 60, .inl (rowI 60 (0))), .inr (5, [.ref 6]), .inl (0, 60, .inl (rowI 60 (0))), .inr (5, [.ref 8]), .inl (0, 60, .inl (rowI 60 (0))), .inr (5, [.ref 10]), .inl (0, 60, .inl (rowI 60 (0))), .inr (5, [.ref 12]), .inl (0, 60, .inl (rowI 60 (0))), .inr (5, [.ref 14]), .inl (0, 60, .inl (rowI 60 (0))), .inr (5, [.ref 16]), .inl (0, 300, .inl (rowI 300 (0)))]) rfl ?_
  refine g_vret C0 rfl dX0_init_122 (by decide) (by decide) ?_
  exact hK
set_option maxRecDepth 100000 in
set_option maxHeartbeats 4000000 in
theorem c_X0 {K : AO → AW → Prop} (w : AW) (ok : wOk (w ++ [.inr (0, [.null, .null, .null, .null, .null, .null, .null, .null, .int 0])]) = true) (hK : K (.inl none) (w ++ w_X0.map (esh w.length))) : Snd MX0_init [.ref w.length] (w ++ [.inr (0, [.null, .null, .null, .null, .null, .null, .null, .null, .int 0])]) K :=
  Snd.frame (M := MX0_init) (av := [.ref 0]) (w := [.inr (0, [.null, .null, .null, .null, .null, .null, .null, .null, .int 0])]) w [] (k_X0 ⟨Or.inr ⟨rfl, rfl, ok, rfl⟩, (by show K (.inl none) (w ++ (w_X0.map (esh w.length) ++ [])); rw [List.append_nil]; exact hK)⟩)
def nmC : Nat → Nat → Int32
  | 0 => rowI 12 0
  | k + 1 => rs 12 (nmC k) (nI k) (nI k - nI k / 5 * 5)
def nmO : Nat → Nat → Int32
  | 0 => rowI 12 0
  | k + 1 => rs 12 (nmO k) (nI k) (nI k - nI k / 6 * 6)
def w_X3 : AW := [.inr (3, [.ref 1, .ref 3, .ref 5, .ref 7, .ref 9, .ref 11, .ref 13]), .inr (5, [.ref 2]), .inl (0, 12, .inl (nmC 12)), .inr (5, [.ref 4]), .inl (0, 12, .inl (nmO 12)), .inr (5, [.ref 6]), .inl (0, 12, .inl (rowI 12 (0))), .inr (5, [.ref 8]), .inl (0, 12, .inl (rowI 12 (0))), .inr (5, [.ref 10]), .inl (0, 12, .inl (rowI 12 (0))), .inr (5, [.ref 12]), .inl (0, 12, .inl (rowI 12 (0))), .inr (5, [.ref 14]), .inl (0, 12, .inl (rowI 12 (-1)))]
set_option maxRecDepth 100000 in
set_option maxHeartbeats 4000000 in
theorem lp_num {K : AO → AW → Prop} {X : CX} {D : va_G} {dA : Nat → ClassId} {w0 : AW} {ad : Nat → Nat} (C0 : Ok X (D, dA, w0, ad, K) MX3_init) (hK : K (.inl none) [.inr (3, [.ref 1, .ref 3, .ref 5, .ref 7, .ref 9, .ref 11, .ref 13]), .inr (5, [.ref 2]), .inl (0, 12, .inl (nmC 12)), .inr (5, [.ref 4]), .inl (0, 12, .inl (nmO 12)), .inr (5, [.ref 6]), .inl (0, 12, .inl (rowI 12 (0))), .inr (5, [.ref 8]), .inl (0, 12, .inl (rowI 12 (0))), .inr (5, [.ref 10]), .inl (0, 12, .inl (rowI 12 (0))), .inr (5, [.ref 12]), .inl (0, 12, .inl (rowI 12 (0))), .inr (5, [.ref 14]), .inl (0, 12, .inl (rowI 12 (-1)))]) :
    ∀ m k : Nat, k + m = 12 → Gd X (D, dA, w0, ad, K) MX3_init 104 [some (.ref 0), some (.int (nI k))] [] [.inr (3, [.ref 1, .ref 3, .ref 5, .ref 7, .ref 9, .ref 11, .ref 13]), .inr (5, [.ref 2]), .inl (0, 12, .inl (nmC k)), .inr (5, [.ref 4]), .inl (0, 12, .inl (nmO k)), .inr (5, [.ref 6]), .inl (0, 12, .inl (rowI 12 (0))), .inr (5, [.ref 8]), .inl (0, 12, .inl (rowI 12 (0))), .inr (5, [.ref 10]), .inl (0, 12, .inl (rowI 12 (0))), .inr (5, [.ref 12]), .inl (0, 12, .inl (rowI 12 (0))), .inr (5, [.ref 14]), .inl (0, 12, .inl (rowI 12 (-1)))] 14 2107 := by
  intro m
  induction m with
  | zero =>
    intro k hk
    have hk12 : k = 12 := by omega
    subst hk12
    refine g_iload_n C0 dX3_init_104 rfl ?_
    refine g_bipush (v := nI 12) C0 dX3_init_105 (by decide +kernel) ?_
    refine g_icmp_ge (tgt := 139) C0 dX3_init_107 (by decide) (fun _ => ?_) (fun z => absurd (Int32.le_refl _) z)
    refine g_vret C0 rfl dX3_init_139 (by decide) (by decide) ?_
    exact hK
  | succ m ih =>
    intro k hk
    refine g_iload_n C0 dX3_init_104 rfl ?_
    refine g_bipush (v := nI 12) C0 dX3_init_105 (by decide +kernel) ?_
    refine g_icmp_ge (tgt := 139) C0 dX3_init_107 (by decide) (fun z => absurd z (nI_ge (by omega) (by omega))) (fun _ => ?_)
    refine g_aload_n C0 dX3_init_110 rfl ?_
    refine g_getfield C0 dX3_init_111 FX3_14 rfl rfl ?_
    refine g_iload_n C0 dX3_init_114 rfl ?_
    refine g_iload_n C0 dX3_init_115 rfl ?_
    refine g_iconst (v := 5) C0 dX3_init_116 (by decide) ?_
    refine g_irem C0 dX3_init_117 (by decide) ?_
    refine g_invV2 C0 dX3_init_118 CX3_38 rfl rfl ⟨by decide, by decide, by decide, by decide⟩ (Nat.le_of_ble_eq_true rfl) ?_
    refine s_set _ _ rfl rfl (by decide) ?_
    refine Aft_n rfl ?_
    refine g_aload_n C0 dX3_init_121 rfl ?_
    refine g_getfield C0 dX3_init_122 FX3_20 rfl rfl ?_
    refine g_iload_n C0 dX3_init_125 rfl ?_
    refine g_iload_n C0 dX3_init_126 rfl ?_
    refine g_bipush (v := 6) C0 dX3_init_127 (by decide) ?_
    refine g_irem C0 dX3_init_129 (by decide) ?_
    refine g_invV2 C0 dX3_init_130 CX3_38 rfl rfl ⟨by decide, by decide, by decide, by decide⟩ (Nat.le_of_ble_eq_true rfl) ?_
    refine s_set _ _ rfl rfl (by decide) ?_
    refine Aft_n rfl ?_
    refine g_iinc (v := nI (k + 1)) C0 dX3_init_133 rfl (nI_1 _) (by decide) ?_
    refine g_goto (tgt := 104) C0 dX3_init_136 (by decide) ?_
    exact ih (k + 1) (by omega)
set_option maxRecDepth 100000 in
set_option maxHeartbeats 4000000 in
theorem k_X3 {K : AO → AW → Prop} (hK : K (.inl none) w_X3) : Snd MX3_init [.ref 0] [.inr (3, [.null, .null, .null, .null, .null, .null, .null])] K := by
  refine Snd.of (by decide +kernel) (Nat.le_of_ble_eq_true rfl) rfl rfl ?_
  intro X D dA ad C0
  show Gd X _ MX3_init 0 [some (.ref 0), none] [] _ 0 0
  refine g_aload_n C0 dX3_init_0 rfl ?_
  refine g_objInit C0 dX3_init_1 OX3_3 (by decide) (Nat.le_of_ble_eq_true rfl) ?_
  refine g_aload_n C0 dX3_init_4 rfl ?_
  refine g_new C0 dX3_init_5 NX3_9 rfl rfl rfl (by decide) (by decide) ?_
  refine g_dup C0 dX3_init_8 rfl ?_
  refine g_bipush (v := nI 12) C0 dX3_init_9 (by decide +kernel) ?_
  refine g_iconst (v := 0) C0 dX3_init_11 (by decide) ?_
  refine g_invI2 C0 dX3_init_12 CX3_11 ⟨by decide, by decide, by decide, by decide⟩ (Nat.le_of_ble_eq_true rfl) ?_
  refine c_row _ 12 (by decide) (0) rfl ?_
  refine Aft_g rfl rfl ?_
  refine g_w (w2 := [.inr (3, [.null, .null, .null, .null, .null, .null, .null]), .inr (5, [.ref 2]), .inl (0, 12, .inl (rowI 12 (0)))]) rfl ?_
  refine g_putfinal C0 dX3_init_15 FX3_14 rfl rfl rfl (Nat.le_of_ble_eq_true rfl) (fun _ => ⟨rfl, rfl⟩) ?_
  refine g_w (w2 := [.inr (3, [.ref 1, .null, .null, .null, .null, .null, .null]), .inr (5, [.ref 2]), .inl (0, 12, .inl (rowI 12 (0)))]) rfl ?_
  refine g_aload_n C0 dX3_init_18 rfl ?_
  refine g_new C0 dX3_init_19 NX3_9 rfl rfl rfl (by decide) (by decide) ?_
  refine g_dup C0 dX3_init_22 rfl ?_
  refine g_bipush (v := nI 12) C0 dX3_init_23 (by decide +kernel) ?_
  refine g_iconst (v := 0) C0 dX3_init_25 (by decide) ?_
  refine g_invI2 C0 dX3_init_26 CX3_11 ⟨by decide, by decide, by decide, by decide⟩ (Nat.le_of_ble_eq_true rfl) ?_
  refine c_row _ 12 (by decide) (0) rfl ?_
  refine Aft_g rfl rfl ?_
  refine g_w (w2 := [.inr (3, [.ref 1, .null, .null, .null, .null, .null, .null]), .inr (5, [.ref 2]), .inl (0, 12, .inl (rowI 12 (0))), .inr (5, [.ref 4]), .inl (0, 12, .inl (rowI 12 (0)))]) rfl ?_
  refine g_putfinal C0 dX3_init_29 FX3_20 rfl rfl rfl (Nat.le_of_ble_eq_true rfl) (fun _ => ⟨rfl, rfl⟩) ?_
  refine g_w (w2 := [.inr (3, [.ref 1, .ref 3, .null, .null, .null, .null, .null]), .inr (5, [.ref 2]), .inl (0, 12, .inl (rowI 12 (0))), .inr (5, [.ref 4]), .inl (0, 12, .inl (rowI 12 (0)))]) rfl ?_
  refine g_aload_n C0 dX3_init_32 rfl ?_
  refine g_new C0 dX3_init_33 NX3_9 rfl rfl rfl (by decide) (by decide) ?_
  refine g_dup C0 dX3_init_36 rfl ?_
  refine g_bipush (v := nI 12) C0 dX3_init_37 (by decide +kernel) ?_
  refine g_iconst (v := 0) C0 dX3_init_39 (by decide) ?_
  refine g_invI2 C0 dX3_init_40 CX3_11 ⟨by decide, by decide, by decide, by decide⟩ (Nat.le_of_ble_eq_true rfl) ?_
  refine c_row _ 12 (by decide) (0) rfl ?_
  refine Aft_g rfl rfl ?_
  refine g_w (w2 := [.inr (3, [.ref 1, .ref 3, .null, .null, .null, .null, .null]), .inr (5, [.ref 2]), .inl (0, 12, .inl (rowI 12 (0))), .inr (5, [.ref 4]), .inl (0, 12, .inl (rowI 12 (0))), .inr (5, [.ref 6]), .inl (0, 12, .inl (rowI 12 (0)))]) rfl ?_
  refine g_putfinal C0 dX3_init_43 FX3_23 rfl rfl rfl (Nat.le_of_ble_eq_true rfl) (fun _ => ⟨rfl, rfl⟩) ?_
  refine g_w (w2 := [.inr (3, [.ref 1, .ref 3, .ref 5, .null, .null, .null, .null]), .inr (5, [.ref 2]), .inl (0, 12, .inl (rowI 12 (0))), .inr (5, [.ref 4]), .inl (0, 12, .inl (rowI 12 (0))), .inr (5, [.ref 6]), .inl (0, 12, .inl (rowI 12 (0)))]) rfl ?_
  refine g_aload_n C0 dX3_init_46 rfl ?_
  refine g_new C0 dX3_init_47 NX3_9 rfl rfl rfl (by decide) (by decide) ?_
  refine g_dup C0 dX3_init_50 rfl ?_
  refine g_bipush (v := nI 12) C0 dX3_init_51 (by decide +kernel) ?_
  refine g_iconst (v := 0) C0 dX3_init_53 (by decide) ?_
  refine g_invI2 C0 dX3_init_54 CX3_11 ⟨by decide, by decide, by decide, by decide⟩ (Nat.le_of_ble_eq_true rfl) ?_
  refine c_row _ 12 (by decide) (0) rfl ?_
  refine Aft_g rfl rfl ?_
  refine g_w (w2 := [.inr (3, [.ref 1, .ref 3, .ref 5, .null, .null, .null, .null]), .inr (5, [.ref 2]), .inl (0, 12, .inl (rowI 12 (0))), .inr (5, [.ref 4]), .inl (0, 12, .inl (rowI 12 (0))), .inr (5, [.ref 6]), .inl (0, 12, .inl (rowI 12 (0))), .inr (5, [.ref 8]), .inl (0, 12, .inl (rowI 12 (0)))]) rfl ?_
  refine g_putfinal C0 dX3_init_57 FX3_26 rfl rfl rfl (Nat.le_of_ble_eq_true rfl) (fun _ => ⟨rfl, rfl⟩) ?_
  refine g_w (w2 := [.inr (3, [.ref 1, .ref 3, .ref 5, .ref 7, .null, .null, .null]), .inr (5, [.ref 2]), .inl (0, 12, .inl (rowI 12 (0))), .inr (5, [.ref 4]), .inl (0, 12, .inl (rowI 12 (0))), .inr (5, [.ref 6]), .inl (0, 12, .inl (rowI 12 (0))), .inr (5, [.ref 8]), .inl (0, 12, .inl (rowI 12 (0)))]) rfl ?_
  refine g_aload_n C0 dX3_init_60 rfl ?_
  refine g_new C0 dX3_init_61 NX3_9 rfl rfl rfl (by decide) (by decide) ?_
  refine g_dup C0 dX3_init_64 rfl ?_
  refine g_bipush (v := nI 12) C0 dX3_init_65 (by decide +kernel) ?_
  refine g_iconst (v := 0) C0 dX3_init_67 (by decide) ?_
  refine g_invI2 C0 dX3_init_68 CX3_11 ⟨by decide, by decide, by decide, by decide⟩ (Nat.le_of_ble_eq_true rfl) ?_
  refine c_row _ 12 (by decide) (0) rfl ?_
  refine Aft_g rfl rfl ?_
  refine g_w (w2 := [.inr (3, [.ref 1, .ref 3, .ref 5, .ref 7, .null, .null, .null]), .inr (5, [.ref 2]), .inl (0, 12, .inl (rowI 12 (0))), .inr (5, [.ref 4]), .inl (0, 12, .inl (rowI 12 (0))), .inr (5, [.ref 6]), .inl (0, 12, .inl (rowI 12 (0))), .inr (5, [.ref 8]), .inl (0, 12, .inl (rowI 12 (0))), .inr (5, [.ref 10]), .inl (0, 12, .inl (rowI 12 (0)))]) rfl ?_
  refine g_putfinal C0 dX3_init_71 FX3_29 rfl rfl rfl (Nat.le_of_ble_eq_true rfl) (fun _ => ⟨rfl, rfl⟩) ?_
  refine g_w (w2 := [.inr (3, [.ref 1, .ref 3, .ref 5, .ref 7, .ref 9, .null, .null]), .inr (5, [.ref 2]), .inl (0, 12, .inl (rowI 12 (0))), .inr (5, [.ref 4]), .inl (0, 12, .inl (rowI 12 (0))), .inr (5, [.ref 6]), .inl (0, 12, .inl (rowI 12 (0))), .inr (5, [.ref 8]), .inl (0, 12, .inl (rowI 12 (0))), .inr (5, [.ref 10]), .inl (0, 12, .inl (rowI 12 (0)))]) rfl ?_
  refine g_aload_n C0 dX3_init_74 rfl ?_
  refine g_new C0 dX3_init_75 NX3_9 rfl rfl rfl (by decide) (by decide) ?_
  refine g_dup C0 dX3_init_78 rfl ?_
  refine g_bipush (v := nI 12) C0 dX3_init_79 (by decide +kernel) ?_
  refine g_iconst (v := 0) C0 dX3_init_81 (by decide) ?_
  refine g_invI2 C0 dX3_init_82 CX3_11 ⟨by decide, by decide, by decide, by decide⟩ (Nat.le_of_ble_eq_true rfl) ?_
  refine c_row _ 12 (by decide) (0) rfl ?_
  refine Aft_g rfl rfl ?_
  refine g_w (w2 := [.inr (3, [.ref 1, .ref 3, .ref 5, .ref 7, .ref 9, .null, .null]), .inr (5, [.ref 2]), .inl (0, 12, .inl (rowI 12 (0))), .inr (5, [.ref 4]), .inl (0, 12, .inl (rowI 12 (0))), .inr (5, [.ref 6]), .inl (0, 12, .inl (rowI 12 (0))), .inr (5, [.ref 8]), .inl (0, 12, .inl (rowI 12 (0))), .inr (5, [.ref 10]), .inl (0, 12, .inl (rowI 12 (0))), .inr (5, [.ref 12]), .inl (0, 12, .inl (rowI 12 (0)))]) rfl ?_
  refine g_putfinal C0 dX3_init_85 FX3_32 rfl rfl rfl (Nat.le_of_ble_eq_true rfl) (fun _ => ⟨rfl, rfl⟩) ?_
  refine g_w (w2 := [.inr (3, [.ref 1, .ref 3, .ref 5, .ref 7, .ref 9, .ref 11, .null]), .inr (5, [.ref 2]), .inl (0, 12, .inl (rowI 12 (0))), .inr (5, [.ref 4]), .inl (0, 12, .inl (rowI 12 (0))), .inr (5, [.ref 6]), .inl (0, 12, .inl (rowI 12 (0))), .inr (5, [.ref 8]), .inl (0, 12, .inl (rowI 12 (0))), .inr (5, [.ref 10]), .inl (0, 12, .inl (rowI 12 (0))), .inr (5, [.ref 12]), .inl (0, 12, .inl (rowI 12 (0)))]) rfl ?_
  refine g_aload_n C0 dX3_init_88 rfl ?_
  refine g_new C0 dX3_init_89 NX3_9 rfl rfl rfl (by decide) (by decide) ?_
  refine g_dup C0 dX3_init_92 rfl ?_
  refine g_bipush (v := nI 12) C0 dX3_init_93 (by decide +kernel) ?_
  refine g_iconst (v := -1) C0 dX3_init_95 (by decide) ?_
  refine g_invI2 C0 dX3_init_96 CX3_11 ⟨by decide, by decide, by decide, by decide⟩ (Nat.le_of_ble_eq_true rfl) ?_
  refine c_row _ 12 (by decide) (-1) rfl ?_
  refine Aft_g rfl rfl ?_
  refine g_w (w2 := [.inr (3, [.ref 1, .ref 3, .ref 5, .ref 7, .ref 9, .ref 11, .null]), .inr (5, [.ref 2]), .inl (0, 12, .inl (rowI 12 (0))), .inr (5, [.ref 4]), .inl (0, 12, .inl (rowI 12 (0))), .inr (5, [.ref 6]), .inl (0, 12, .inl (rowI 12 (0))), .inr (5, [.ref 8]), .inl (0, 12, .inl (rowI 12 (0))), .inr (5, [.ref 10]), .inl (0, 12, .inl (rowI 12 (0))), .inr (5, [.ref 12]), .inl (0, 12, .inl (rowI 12 (0))), .inr (5, [.ref 14]), .inl (0, 12, .inl (rowI 12 (-1)))]) rfl ?_
  refine g_putfinal C0 dX3_init_99 FX3_35 rfl rfl rfl (Nat.le_of_ble_eq_true rfl) (fun _ => ⟨rfl, rfl⟩) ?_
  refine g_w (w2 := [.inr (3, [.ref 1, .ref 3, .ref 5, .ref 7, .ref 9, .ref 11, .ref 13]), .inr (5, [.ref 2]), .inl (0, 12, .inl (rowI 12 (0))), .inr (5, [.ref 4]), .inl (0, 12, .inl (rowI 12 (0))), .inr (5, [.ref 6]), .inl (0, 12, .inl (rowI 12 (0))), .inr (5, [.ref 8]), .inl (0, 12, .inl (rowI 12 (0))), .inr (5, [.ref 10]), .inl (0, 12, .inl (rowI 12 (0))), .inr (5, [.ref 12]), .inl (0, 12, .inl (rowI 12 (0))), .inr (5, [.ref 14]), .inl (0, 12, .inl (rowI 12 (-1)))]) rfl ?_
  refine g_iconst (v := 0) C0 dX3_init_102 (by decide) ?_
  refine g_istore_n C0 dX3_init_103 (by decide) ?_
  exact lp_num C0 hK 12 0 (by omega)
set_option maxRecDepth 100000 in
set_option maxHeartbeats 4000000 in
theorem c_X3 {K : AO → AW → Prop} (w : AW) (ok : wOk (w ++ [.inr (3, [.null, .null, .null, .null, .null, .null, .null])]) = true) (hK : K (.inl none) (w ++ w_X3.map (esh w.length))) : Snd MX3_init [.ref w.length] (w ++ [.inr (3, [.null, .null, .null, .null, .null, .null, .null])]) K :=
  Snd.frame (M := MX3_init) (av := [.ref 0]) (w := [.inr (3, [.null, .null, .null, .null, .null, .null, .null])]) w [] (k_X3 ⟨Or.inr ⟨rfl, rfl, ok, rfl⟩, (by show K (.inl none) (w ++ (w_X3.map (esh w.length) ++ [])); rw [List.append_nil]; exact hK)⟩)
def w_X4 : AW := [.inr (4, [.ref 1, .ref 8]), .inr (2, [.ref 2, .ref 4, .ref 6, .int 0]), .inr (5, [.ref 3]), .inl (0, 60, .inl (rowI 60 (0))), .inr (5, [.ref 5]), .inl (0, 60, .inl (rowI 60 (0))), .inr (5, [.ref 7]), .inl (0, 60, .inl (rowI 60 (0))), .inr (5, [.ref 9]), .inl (0, 300, .inl (rowI 300 (0)))]
set_option maxRecDepth 100000 in
set_option maxHeartbeats 4000000 in
theorem k_X4 {K : AO → AW → Prop} (hK : K (.inl none) w_X4) : Snd MX4_init [.ref 0] [.inr (4, [.null, .null])] K := by
  refine Snd.of (by decide +kernel) (Nat.le_of_ble_eq_true rfl) rfl rfl ?_
  intro X D dA ad C0
  show Gd X _ MX4_init 0 [some (.ref 0)] [] _ 0 0
  refine g_aload_n C0 dX4_init_0 rfl ?_
  refine g_objInit C0 dX4_init_1 OX4_3 (by decide) (Nat.le_of_ble_eq_true rfl) ?_
  refine g_aload_n C0 dX4_init_4 rfl ?_
  refine g_new C0 dX4_init_5 NX4_9 rfl rfl rfl (by decide) (by decide) ?_
  refine g_dup C0 dX4_init_8 rfl ?_
  refine g_invI0 C0 dX4_init_9 CX4_11 ⟨by decide, by decide, by decide, by decide⟩ (Nat.le_of_ble_eq_true rfl) ?_
  refine c_X2 _ rfl ?_
  refine Aft_g rfl rfl ?_
  refine g_w (w2 := [.inr (4, [.null, .null]), .inr (2, [.ref 2, .ref 4, .ref 6, .int 0]), .inr (5, [.ref 3]), .inl (0, 60, .inl (rowI 60 (0))), .inr (5, [.ref 5]), .inl (0, 60, .inl (rowI 60 (0))), .inr (5, [.ref 7]), .inl (0, 60, .inl (rowI 60 (0)))]) rfl ?_
  refine g_putfinal C0 dX4_init_12 FX4_12 rfl rfl rfl (Nat.le_of_ble_eq_true rfl) (fun _ => ⟨rfl, rfl⟩) ?_
  refine g_w (w2 := [.inr (4, [.ref 1, .null]), .inr (2, [.ref 2, .ref 4, .ref 6, .int 0]), .inr (5, [.ref 3]), .inl (0, 60, .inl (rowI 60 (0))), .inr (5, [.ref 5]), .inl (0, 60, .inl (rowI 60 (0))), .inr (5, [.ref 7]), .inl (0, 60, .inl (rowI 60 (0)))]) rfl ?_
  refine g_aload_n C0 dX4_init_15 rfl ?_
  refine g_new C0 dX4_init_16 NX4_18 rfl rfl rfl (by decide) (by decide) ?_
  refine g_dup C0 dX4_init_19 rfl ?_
  refine g_sipush (v := nI 300) C0 dX4_init_20 (by decide +kernel) ?_
  refine g_iconst (v := 0) C0 dX4_init_23 (by decide) ?_
  refine g_invI2 C0 dX4_init_24 CX4_20 ⟨by decide, by decide, by decide, by decide⟩ (Nat.le_of_ble_eq_true rfl) ?_
  refine c_row _ 300 (by decide) (0) rfl ?_
  refine Aft_g rfl rfl ?_
  refine g_w (w2 := [.inr (4, [.ref 1, .null]), .inr (2, [.ref 2, .ref 4, .ref 6, .int 0]), .inr (5, [.ref 3]), .inl (0, 60, .inl (rowI 60 (0))), .inr (5, [.ref 5]), .inl (0, 60, .inl (rowI 60 (0))), .inr (5, [.ref 7]), .inl (0, 60, .inl (rowI 60 (0))), .inr (5, [.ref 9]), .inl (0, 300, .inl (rowI 300 (0)))]) rfl ?_
  refine g_putfinal C0 dX4_init_27 FX4_23 rfl rfl rfl (Nat.le_of_ble_eq_true rfl) (fun _ => ⟨rfl, rfl⟩) ?_
  refine g_w (w2 := [.inr (4, [.ref 1, .ref 8]), .inr (2, [.ref 2, .ref 4, .ref 6, .int 0]), .inr (5, [.ref 3]), .inl (0, 60, .inl (rowI 60 (0))), .inr (5, [.ref 5]), .inl (0, 60, .inl (rowI 60 (0))), .inr (5, [.ref 7]), .inl (0, 60, .inl (rowI 60 (0))), .inr (5, [.ref 9]), .inl (0, 300, .inl (rowI 300 (0)))]) rfl ?_
  refine g_vret C0 rfl dX4_init_30 (by decide) (by decide) ?_
  exact hK
set_option maxRecDepth 100000 in
set_option maxHeartbeats 4000000 in
theorem c_X4 {K : AO → AW → Prop} (w : AW) (ok : wOk (w ++ [.inr (4, [.null, .null])]) = true) (hK : K (.inl none) (w ++ w_X4.map (esh w.length))) : Snd MX4_init [.ref w.length] (w ++ [.inr (4, [.null, .null])]) K :=
  Snd.frame (M := MX4_init) (av := [.ref 0]) (w := [.inr (4, [.null, .null])]) w [] (k_X4 ⟨Or.inr ⟨rfl, rfl, ok, rfl⟩, (by show K (.inl none) (w ++ (w_X4.map (esh w.length) ++ [])); rw [List.append_nil]; exact hK)⟩)
def w_X6 : AW := [.inr (6, [.ref 1, .ref 8]), .inr (2, [.ref 2, .ref 4, .ref 6, .int 0]), .inr (5, [.ref 3]), .inl (0, 60, .inl (rowI 60 (0))), .inr (5, [.ref 5]), .inl (0, 60, .inl (rowI 60 (0))), .inr (5, [.ref 7]), .inl (0, 60, .inl (rowI 60 (0))), .inr (2, [.ref 9, .ref 11, .ref 13, .int 0]), .inr (5, [.ref 10]), .inl (0, 60, .inl (rowI 60 (0))), .inr (5, [.ref 12]), .inl (0, 60, .inl (rowI 60 (0))), .inr (5, [.ref 14]), .inl (0, 60, .inl (rowI 60 (0)))]
set_option maxRecDepth 100000 in
set_option maxHeartbeats 4000000 in
theorem k_X6 {K : AO → AW → Prop} (hK : K (.inl none) w_X6) : Snd MX6_init [.ref 0] [.inr (6, [.null, .null])] K := by
  refine Snd.of (by decide +kernel) (Nat.le_of_ble_eq_true rfl) rfl rfl ?_
  intro X D dA ad C0
  show Gd X _ MX6_init 0 [some (.ref 0)] [] _ 0 0
  refine g_aload_n C0 dX6_init_0 rfl ?_
  refine g_objInit C0 dX6_init_1 OX6_3 (by decide) (Nat.le_of_ble_eq_true rfl) ?_
  refine g_aload_n C0 dX6_init_4 rfl ?_
  refine g_new C0 dX6_init_5 NX6_9 rfl rfl rfl (by decide) (by decide) ?_
  refine g_dup C0 dX6_init_8 rfl ?_
  refine g_invI0 C0 dX6_init_9 CX6_11 ⟨by decide, by decide, by decide, by decide⟩ (Nat.le_of_ble_eq_true rfl) ?_
  refine c_X2 _ rfl ?_
  refine Aft_g rfl rfl ?_
  refine g_w (w2 := [.inr (6, [.null, .null]), .inr (2, [.ref 2, .ref 4, .ref 6, .int 0]), .inr (5, [.ref 3]), .inl (0, 60, .inl (rowI 60 (0))), .inr (5, [.ref 5]), .inl (0, 60, .inl (rowI 60 (0))), .inr (5, [.ref 7]), .inl (0, 60, .inl (rowI 60 (0)))]) rfl ?_
  refine g_putfinal C0 dX6_init_12 FX6_12 rfl rfl rfl (Nat.le_of_ble_eq_true rfl) (fun _ => ⟨rfl, rfl⟩) ?_
  refine g_w (w2 := [.inr (6, [.ref 1, .null]), .inr (2, [.ref 2, .ref 4, .ref 6, .int 0]), .inr (5, [.ref 3]), .inl (0, 60, .inl (rowI 60 (0))), .inr (5, [.ref 5]), .inl (0, 60, .inl (rowI 60 (0))), .inr (5, [.ref 7]), .inl (0, 60, .inl (rowI 60 (0)))]) rfl ?_
  refine g_aload_n C0 dX6_init_15 rfl ?_
  refine g_new C0 dX6_init_16 NX6_9 rfl rfl rfl (by decide) (by decide) ?_
  refine g_dup C0 dX6_init_19 rfl ?_
  refine g_invI0 C0 dX6_init_20 CX6_11 ⟨by decide, by decide, by decide, by decide⟩ (Nat.le_of_ble_eq_true rfl) ?_
  refine c_X2 _ rfl ?_
  refine Aft_g rfl rfl ?_
  refine g_w (w2 := [.inr (6, [.ref 1, .null]), .inr (2, [.ref 2, .ref 4, .ref 6, .int 0]), .inr (5, [.ref 3]), .inl (0, 60, .inl (rowI 60 (0))), .inr (5, [.ref 5]), .inl (0, 60, .inl (rowI 60 (0))), .inr (5, [.ref 7]), .inl (0, 60, .inl (rowI 60 (0))), .inr (2, [.ref 9, .ref 11, .ref 13, .int 0]), .inr (5, [.ref 10]), .inl (0, 60, .inl (rowI 60 (0))), .inr (5, [.ref 12]), .inl (0, 60, .inl (rowI 60 (0))), .inr (5, [.ref 14]), .inl (0, 60, .inl (rowI 60 (0)))]) rfl ?_
  refine g_putfinal C0 dX6_init_23 FX6_18 rfl rfl rfl (Nat.le_of_ble_eq_true rfl) (fun _ => ⟨rfl, rfl⟩) ?_
  refine g_w (w2 := [.inr (6, [.ref 1, .ref 8]), .inr (2, [.ref 2, .ref 4, .ref 6, .int 0]), .inr (5, [.ref 3]), .inl (0, 60, .inl (rowI 60 (0))), .inr (5, [.ref 5]), .inl (0, 60, .inl (rowI 60 (0))), .inr (5, [.ref 7]), .inl (0, 60, .inl (rowI 60 (0))), .inr (2, [.ref 9, .ref 11, .ref 13, .int 0]), .inr (5, [.ref 10]), .inl (0, 60, .inl (rowI 60 (0))), .inr (5, [.ref 12]), .inl (0, 60, .inl (rowI 60 (0))), .inr (5, [.ref 14]), .inl (0, 60, .inl (rowI 60 (0)))]) rfl ?_
  refine g_vret C0 rfl dX6_init_26 (by decide) (by decide) ?_
  exact hK
set_option maxRecDepth 100000 in
set_option maxHeartbeats 4000000 in
theorem c_X6 {K : AO → AW → Prop} (w : AW) (ok : wOk (w ++ [.inr (6, [.null, .null])]) = true) (hK : K (.inl none) (w ++ w_X6.map (esh w.length))) : Snd MX6_init [.ref w.length] (w ++ [.inr (6, [.null, .null])]) K :=
  Snd.frame (M := MX6_init) (av := [.ref 0]) (w := [.inr (6, [.null, .null])]) w [] (k_X6 ⟨Or.inr ⟨rfl, rfl, ok, rfl⟩, (by show K (.inl none) (w ++ (w_X6.map (esh w.length) ++ [])); rw [List.append_nil]; exact hK)⟩)
def w_X9 : AW := [.inr (9, [.ref 1, .ref 16, .ref 25, .ref 27, .ref 32, .ref 42, .ref 49, .ref 64, .ref 81, .int 0, .int 0]), .inr (3, [.ref 2, .ref 4, .ref 6, .ref 8, .ref 10, .ref 12, .ref 14]), .inr (5, [.ref 3]), .inl (0, 12, .inl (nmC 12)), .inr (5, [.ref 5]), .inl (0, 12, .inl (nmO 12)), .inr (5, [.ref 7]), .inl (0, 12, .inl (rowI 12 (0))), .inr (5, [.ref 9]), .inl (0, 12, .inl (rowI 12 (0))), .inr (5, [.ref 11]), .inl (0, 12, .inl (rowI 12 (0))), .inr (5, [.ref 13]), .inl (0, 12, .inl (rowI 12 (0))), .inr (5, [.ref 15]), .inl (0, 12, .inl (rowI 12 (-1))), .inr (1, [.ref 17, .ref 19, .ref 21, .ref 23]), .inr (5, [.ref 18]), .inl (0, 5, .inl (rowI 5 (100))), .inr (5, [.ref 20]), .inl (0, 5, .inl (rowI 5 (0))), .inr (5, [.ref 22]), .inl (0, 5, .inl (rowI 5 (0))), .inr (5, [.ref 24]), .inl (0, 5, .inl (rowI 5 (0))), .inr (5, [.ref 26]), .inl (0, 6, .inl (rowI 6 (0))), .inr (7, [.ref 28, .ref 30]), .inr (5, [.ref 29]), .inl (0, 25, .inl (rowI 25 (2))), .inr (5, [.ref 31]), .inl (0, 25, .inl (rowI 25 (0))), .inr (4, [.ref 33, .ref 40]), .inr (2, [.ref 34, .ref 36, .ref 38, .int 0]), .inr (5, [.ref 35]), .inl (0, 60, .inl (rowI 60 (0))), .inr (5, [.ref 37]), .inl (0, 60, .inl (rowI 60 (0))), .inr (5, [.ref 39]), .inl (0, 60, .inl (rowI 60 (0))), .inr (5, [.ref 41]), .inl (0, 300, .inl (rowI 300 (0))), .inr (2, [.ref 43, .ref 45, .ref 47, .int 0]), .inr (5, [.ref 44]), .inl (0, 60, .inl (rowI 60 (0))), .inr (5, [.ref 46]), .inl (0, 60, .inl (rowI 60 (0))), .inr (5, [.ref 48]), .inl (0, 60, .inl (rowI 60 (0))), .inr (6, [.ref 50, .ref 57]), .inr (2, [.ref 51, .ref 53, .ref 55, .int 0]), .inr (5, [.ref 52]), .inl (0, 60, .inl (rowI 60 (0))), .inr (5, [.ref 54]), .inl (0, 60, .inl (rowI 60 (0))), .inr (5, [.ref 56]), .inl (0, 60, .inl (rowI 60 (0))), .inr (2, [.ref 58, .ref 60, .ref 62, .int 0]), .inr (5, [.ref 59]), .inl (0, 60, .inl (rowI 60 (0))), .inr (5, [.ref 61]), .inl (0, 60, .inl (rowI 60 (0))), .inr (5, [.ref 63]), .inl (0, 60, .inl (rowI 60 (0))), .inr (0, [.ref 65, .ref 67, .ref 69, .ref 71, .ref 73, .ref 75, .ref 77, .ref 79, .int 0]), .inr (5, [.ref 66]), .inl (0, 60, .inl (rowI 60 (0))), .inr (5, [.ref 68]), .inl (0, 60, .inl (rowI 60 (0))), .inr (5, [.ref 70]), .inl (0, 60, .inl (rowI 60 (0))), .inr (5, [.ref 72]), .inl (0, 60, .inl (rowI 60 (0))), .inr (5, [.ref 74]), .inl (0, 60, .inl (rowI 60 (0))), .inr (5, [.ref 76]), .inl (0, 60, .inl (rowI 60 (0))), .inr (5, [.ref 78]), .inl (0, 60, .inl (rowI 60 (0))), .inr (5, [.ref 80]), .inl (0, 300, .inl (rowI 300 (0))), .inr (8, [.ref 82, .int 0]), .inr (5, [.ref 83]), .inl (0, 5, .inl (rowI 5 (0)))]
set_option maxRecDepth 100000 in
set_option maxHeartbeats 4000000 in
theorem k_X9 {K : AO → AW → Prop} (hK : K (.inl none) w_X9) : Snd MX9_init [.ref 0] [.inr (9, [.null, .null, .null, .null, .null, .null, .null, .null, .null, .int 0, .int 0])] K := by
  refine Snd.of (by decide +kernel) (Nat.le_of_ble_eq_true rfl) rfl rfl ?_
  intro X D dA ad C0
  show Gd X _ MX9_init 0 [some (.ref 0)] [] _ 0 0
  refine g_aload_n C0 dX9_init_0 rfl ?_
  refine g_objInit C0 dX9_init_1 OX9_3 (by decide) (Nat.le_of_ble_eq_true rfl) ?_
  refine g_aload_n C0 dX9_init_4 rfl ?_
  refine g_new C0 dX9_init_5 NX9_9 rfl rfl rfl (by decide) (by decide) ?_
  refine g_dup C0 dX9_init_8 rfl ?_
  refine g_invI0 C0 dX9_init_9 CX9_11 ⟨by decide, by decide, by decide, by decide⟩ (Nat.le_of_ble_eq_true rfl) ?_
  refine c_X3 _ rfl ?_
  refine Aft_g rfl rfl ?_
  refine g_w (w2 := [.inr (9, [.null, .null, .null, .null, .null, .null, .null, .null, .null, .int 0, .int 0]), .inr (3, [.ref 2, .ref 4, .ref 6, .ref 8, .ref 10, .ref 12, .ref 14]), .inr (5, [.ref 3]), .inl (0, 12, .inl (nmC 12)), .inr (5, [.ref 5]), .inl (0, 12, .inl (nmO 12)), .inr (5, [.ref 7]), .inl (0, 12, .inl (rowI 12 (0))), .inr (5, [.ref 9]), .inl (0, 12, .inl (rowI 12 (0))), .inr (5, [.ref 11]), .inl (0, 12, .inl (rowI 12 (0))), .inr (5, [.ref 13]), .inl (0, 12, .inl (rowI 12 (0))), .inr (5, [.ref 15]), .inl (0, 12, .inl (rowI 12 (-1)))]) rfl ?_
  refine g_putfinal C0 dX9_init_12 FX9_12 rfl rfl rfl (Nat.le_of_ble_eq_true rfl) (fun _ => ⟨rfl, rfl⟩) ?_
  refine g_w (w2 := [.inr (9, [.ref 1, .null, .null, .null, .null, .null, .null, .null, .null, .int 0, .int 0]), .inr (3, [.ref 2, .ref 4, .ref 6, .ref 8, .ref 10, .ref 12, .ref 14]), .inr (5, [.ref 3]), .inl (0, 12, .inl (nmC 12)), .inr (5, [.ref 5]), .inl (0, 12, .inl (nmO 12)), .inr (5, [.ref 7]), .inl (0, 12, .inl (rowI 12 (0))), .inr (5, [.ref 9]), .inl (0, 12, .inl (rowI 12 (0))), .inr (5, [.ref 11]), .inl (0, 12, .inl (rowI 12 (0))), .inr (5, [.ref 13]), .inl (0, 12, .inl (rowI 12 (0))), .inr (5, [.ref 15]), .inl (0, 12, .inl (rowI 12 (-1)))]) rfl ?_
  refine g_aload_n C0 dX9_init_15 rfl ?_
  refine g_new C0 dX9_init_16 NX9_16 rfl rfl rfl (by decide) (by decide) ?_
  refine g_dup C0 dX9_init_19 rfl ?_
  refine g_invI0 C0 dX9_init_20 CX9_18 ⟨by decide, by decide, by decide, by decide⟩ (Nat.le_of_ble_eq_true rfl) ?_
  refine c_X1 _ rfl ?_
  refine Aft_g rfl rfl ?_
  refine g_w (w2 := [.inr (9, [.ref 1, .null, .null, .null, .null, .null, .null, .null, .null, .int 0, .int 0]), .inr (3, [.ref 2, .ref 4, .ref 6, .ref 8, .ref 10, .ref 12, .ref 14]), .inr (5, [.ref 3]), .inl (0, 12, .inl (nmC 12)), .inr (5, [.ref 5]), .inl (0, 12, .inl (nmO 12)), .inr (5, [.ref 7]), .inl (0, 12, .inl (rowI 12 (0))), .inr (5, [.ref 9]), .inl (0, 12, .inl (rowI 12 (0))), .inr (5, [.ref 11]), .inl (0, 12, .inl (rowI 12 (0))), .inr (5, [.ref 13]), .inl (0, 12, .inl (rowI 12 (0))), .inr (5, [.ref 15]), .inl (0, 12, .inl (rowI 12 (-1))), .inr (1, [.ref 17, .ref 19, .ref 21, .ref 23]), .inr (5, [.ref 18]), .inl (0, 5, .inl (rowI 5 (100))), .inr (5, [.ref 20]), .inl (0, 5, .inl (rowI 5 (0))), .inr (5, [.ref 22]), .inl (0, 5, .inl (rowI 5 (0))), .inr (5, [.ref 24]), .inl (0, 5, .inl (rowI 5 (0)))]) rfl ?_
  refine g_putfinal C0 dX9_init_23 FX9_19 rfl rfl rfl (Nat.le_of_ble_eq_true rfl) (fun _ => ⟨rfl, rfl⟩) ?_
  refine g_w (w2 := [.inr (9, [.ref 1, .ref 16, .null, .null, .null, .null, .null, .null, .null, .int 0, .int 0]), .inr (3, [.ref 2, .ref 4, .ref 6, .ref 8, .ref 10, .ref 12, .ref 14]), .inr (5, [.ref 3]), .inl (0, 12, .inl (nmC 12)), .inr (5, [.ref 5]), .inl (0, 12, .inl (nmO 12)), .inr (5, [.ref 7]), .inl (0, 12, .inl (rowI 12 (0))), .inr (5, [.ref 9]), .inl (0, 12, .inl (rowI 12 (0))), .inr (5, [.ref 11]), .inl (0, 12, .inl (rowI 12 (0))), .inr (5, [.ref 13]), .inl (0, 12, .inl (rowI 12 (0))), .inr (5, [.ref 15]), .inl (0, 12, .inl (rowI 12 (-1))), .inr (1, [.ref 17, .ref 19, .ref 21, .ref 23]), .inr (5, [.ref 18]), .inl (0, 5, .inl (rowI 5 (100))), .inr (5, [.ref 20]), .inl (0, 5, .inl (rowI 5 (0))), .inr (5, [.ref 22]), .inl (0, 5, .inl (rowI 5 (0))), .inr (5, [.ref 24]), .inl (0, 5, .inl (rowI 5 (0)))]) rfl ?_
  refine g_aload_n C0 dX9_init_26 rfl ?_
  refine g_new C0 dX9_init_27 NX9_23 rfl rfl rfl (by decide) (by decide) ?_
  refine g_dup C0 dX9_init_30 rfl ?_
  refine g_bipush (v := nI 6) C0 dX9_init_31 (by decide +kernel) ?_
  refine g_iconst (v := 0) C0 dX9_init_33 (by decide) ?_
  refine g_invI2 C0 dX9_init_34 CX9_25 ⟨by decide, by decide, by decide, by decide⟩ (Nat.le_of_ble_eq_true rfl) ?_
  refine c_row _ 6 (by decide) (0) rfl ?_
  refine Aft_g rfl rfl ?_
  refine g_w (w2 := [.inr (9, [.ref 1, .ref 16, .null, .null, .null, .null, .null, .null, .null, .int 0, .int 0]), .inr (3, [.ref 2, .ref 4, .ref 6, .ref 8, .ref 10, .ref 12, .ref 14]), .inr (5, [.ref 3]), .inl (0, 12, .inl (nmC 12)), .inr (5, [.ref 5]), .inl (0, 12, .inl (nmO 12)), .inr (5, [.ref 7]), .inl (0, 12, .inl (rowI 12 (0))), .inr (5, [.ref 9]), .inl (0, 12, .inl (rowI 12 (0))), .inr (5, [.ref 11]), .inl (0, 12, .inl (rowI 12 (0))), .inr (5, [.ref 13]), .inl (0, 12, .inl (rowI 12 (0))), .inr (5, [.ref 15]), .inl (0, 12, .inl (rowI 12 (-1))), .inr (1, [.ref 17, .ref 19, .ref 21, .ref 23]), .inr (5, [.ref 18]), .inl (0, 5, .inl (rowI 5 (100))), .inr (5, [.ref 20]), .inl (0, 5, .inl (rowI 5 (0))), .inr (5, [.ref 22]), .inl (0, 5, .inl (rowI 5 (0))), .inr (5, [.ref 24]), .inl (0, 5, .inl (rowI 5 (0))), .inr (5, [.ref 26]), .inl (0, 6, .inl (rowI 6 (0)))]) rfl ?_
  refine g_putfinal C0 dX9_init_37 FX9_28 rfl rfl rfl (Nat.le_of_ble_eq_true rfl) (fun _ => ⟨rfl, rfl⟩) ?_
  refine g_w (w2 := [.inr (9, [.ref 1, .ref 16, .ref 25, .null, .null, .null, .null, .null, .null, .int 0, .int 0]), .inr (3, [.ref 2, .ref 4, .ref 6, .ref 8, .ref 10, .ref 12, .ref 14]), .inr (5, [.ref 3]), .inl (0, 12, .inl (nmC 12)), .inr (5, [.ref 5]), .inl (0, 12, .inl (nmO 12)), .inr (5, [.ref 7]), .inl (0, 12, .inl (rowI 12 (0))), .inr (5, [.ref 9]), .inl (0, 12, .inl (rowI 12 (0))), .inr (5, [.ref 11]), .inl (0, 12, .inl (rowI 12 (0))), .inr (5, [.ref 13]), .inl (0, 12, .inl (rowI 12 (0))), .inr (5, [.ref 15]), .inl (0, 12, .inl (rowI 12 (-1))), .inr (1, [.ref 17, .ref 19, .ref 21, .ref 23]), .inr (5, [.ref 18]), .inl (0, 5, .inl (rowI 5 (100))), .inr (5, [.ref 20]), .inl (0, 5, .inl (rowI 5 (0))), .inr (5, [.ref 22]), .inl (0, 5, .inl (rowI 5 (0))), .inr (5, [.ref 24]), .inl (0, 5, .inl (rowI 5 (0))), .inr (5, [.ref 26]), .inl (0, 6, .inl (rowI 6 (0)))]) rfl ?_
  refine g_aload_n C0 dX9_init_40 rfl ?_
  refine g_new C0 dX9_init_41 NX9_32 rfl rfl rfl (by decide) (by decide) ?_
  refine g_dup C0 dX9_init_44 rfl ?_
  refine g_invI0 C0 dX9_init_45 CX9_34 ⟨by decide, by decide, by decide, by decide⟩ (Nat.le_of_ble_eq_true rfl) ?_
  refine c_X7 _ rfl ?_
  refine Aft_g rfl rfl ?_
  refine g_w (w2 := [.inr (9, [.ref 1, .ref 16, .ref 25, .null, .null, .null, .null, .null, .null, .int 0, .int 0]), .inr (3, [.ref 2, .ref 4, .ref 6, .ref 8, .ref 10, .ref 12, .ref 14]), .inr (5, [.ref 3]), .inl (0, 12, .inl (nmC 12)), .inr (5, [.ref 5]), .inl (0, 12, .inl (nmO 12)), .inr (5, [.ref 7]), .inl (0, 12, .inl (rowI 12 (0))), .inr (5, [.ref 9]), .inl (0, 12, .inl (rowI 12 (0))), .inr (5, [.ref 11]), .inl (0, 12, .inl (rowI 12 (0))), .inr (5, [.ref 13]), .inl (0, 12, .inl (rowI 12 (0))), .inr (5, [.ref 15]), .inl (0, 12, .inl (rowI 12 (-1))), .inr (1, [.ref 17, .ref 19, .ref 21, .ref 23]), .inr (5, [.ref 18]), .inl (0, 5, .inl (rowI 5 (100))), .inr (5, [.ref 20]), .inl (0, 5, .inl (rowI 5 (0))), .inr (5, [.ref 22]), .inl (0, 5, .inl (rowI 5 (0))), .inr (5, [.ref 24]), .inl (0, 5, .inl (rowI 5 (0))), .inr (5, [.ref 26]), .inl (0, 6, .inl (rowI 6 (0))), .inr (7, [.ref 28, .ref 30]), .inr (5, [.ref 29]), .inl (0, 25, .inl (rowI 25 (2))), .inr (5, [.ref 31]), .inl (0, 25, .inl (rowI 25 (0)))]) rfl ?_
  refine g_putfinal C0 dX9_init_48 FX9_35 rfl rfl rfl (Nat.le_of_ble_eq_true rfl) (fun _ => ⟨rfl, rfl⟩) ?_
  refine g_w (w2 := [.inr (9, [.ref 1, .ref 16, .ref 25, .ref 27, .null, .null, .null, .null, .null, .int 0, .int 0]), .inr (3, [.ref 2, .ref 4, .ref 6, .ref 8, .ref 10, .ref 12, .ref 14]), .inr (5, [.ref 3]), .inl (0, 12, .inl (nmC 12)), .inr (5, [.ref 5]), .inl (0, 12, .inl (nmO 12)), .inr (5, [.ref 7]), .inl (0, 12, .inl (rowI 12 (0))), .inr (5, [.ref 9]), .inl (0, 12, .inl (rowI 12 (0))), .inr (5, [.ref 11]), .inl (0, 12, .inl (rowI 12 (0))), .inr (5, [.ref 13]), .inl (0, 12, .inl (rowI 12 (0))), .inr (5, [.ref 15]), .inl (0, 12, .inl (rowI 12 (-1))), .inr (1, [.ref 17, .ref 19, .ref 21, .ref 23]), .inr (5, [.ref 18]), .inl (0, 5, .inl (rowI 5 (100))), .inr (5, [.ref 20]), .inl (0, 5, .inl (rowI 5 (0))), .inr (5, [.ref 22]), .inl (0, 5, .inl (rowI 5 (0))), .inr (5, [.ref 24]), .inl (0, 5, .inl (rowI 5 (0))), .inr (5, [.ref 26]), .inl (0, 6, .inl (rowI 6 (0))), .inr (7, [.ref 28, .ref 30]), .inr (5, [.ref 29]), .inl (0, 25, .inl (rowI 25 (2))), .inr (5, [.ref 31]), .inl (0, 25, .inl (rowI 25 (0)))]) rfl ?_
  refine g_aload_n C0 dX9_init_51 rfl ?_
  refine g_new C0 dX9_init_52 NX9_39 rfl rfl rfl (by decide) (by decide) ?_
  refine g_dup C0 dX9_init_55 rfl ?_
  refine g_invI0 C0 dX9_init_56 CX9_41 ⟨by decide, by decide, by decide, by decide⟩ (Nat.le_of_ble_eq_true rfl) ?_
  refine c_X4 _ rfl ?_
  refine Aft_g rfl rfl ?_
  refine g_w (w2 := [.inr (9, [.ref 1, .ref 16, .ref 25, .ref 27, .null, .null, .null, .null, .null, .int 0, .int 0]), .inr (3, [.ref 2, .ref 4, .ref 6, .ref 8, .ref 10, .ref 12, .ref 14]), .inr (5, [.ref 3]), .inl (0, 12, .inl (nmC 12)), .inr (5, [.ref 5]), .inl (0, 12, .inl (nmO 12)), .inr (5, [.ref 7]), .inl (0, 12, .inl (rowI 12 (0))), .inr (5, [.ref 9]), .inl (0, 12, .inl (rowI 12 (0))), .inr (5, [.ref 11]), .inl (0, 12, .inl (rowI 12 (0))), .inr (5, [.ref 13]), .inl (0, 12, .inl (rowI 12 (0))), .inr (5, [.ref 15]), .inl (0, 12, .inl (rowI 12 (-1))), .inr (1, [.ref 17, .ref 19, .ref 21, .ref 23]), .inr (5, [.ref 18]), .inl (0, 5, .inl (rowI 5 (100))), .inr (5, [.ref 20]), .inl (0, 5, .inl (rowI 5 (0))), .inr (5, [.ref 22]), .inl (0, 5, .inl (rowI 5 (0))), .inr (5, [.ref 24]), .inl (0, 5, .inl (rowI 5 (0))), .inr (5, [.ref 26]), .inl (0, 6, .inl (rowI 6 (0))), .inr (7, [.ref 28, .ref 30]), .inr (5, [.ref 29]), .inl (0, 25, .inl (rowI 25 (2))), .inr (5, [.ref 31]), .inl (0, 25, .inl (rowI 25 (0))), .inr (4, [.ref 33, .ref 40]), .inr (2, [.ref 34, .ref 36, .ref 38, .int 0]), .inr (5, [.ref 35]), .inl (0, 60, .inl (rowI 60 (0))), .inr (5, [.ref 37]), .inl (0, 60, .inl (rowI 60 (0))), .inr (5, [.ref 39]), .inl (0, 60, .inl (rowI 60 (0))), .inr (5, [.ref 41]), .inl (0, 300, .inl (rowI 300 (0)))]) rfl ?_
  refine g_putfinal C0 dX9_init_59 FX9_42 rfl rfl rfl (Nat.le_of_ble_eq_true rfl) (fun _ => ⟨rfl, rfl⟩) ?_
  refine g_w (w2 := [.inr (9, [.ref 1, .ref 16, .ref 25, .ref 27, .ref 32, .null, .null, .null, .null, .int 0, .int 0]), .inr (3, [.ref 2, .ref 4, .ref 6, .ref 8, .ref 10, .ref 12, .ref 14]), .inr (5, [.ref 3]), .inl (0, 12, .inl (nmC 12)), .inr (5, [.ref 5]), .inl (0, 12, .inl (nmO 12)), .inr (5, [.ref 7]), .inl (0, 12, .inl (rowI 12 (0))), .inr (5, [.ref 9]), .inl (0, 12, .inl (rowI 12 (0))), .inr (5, [.ref 11]), .inl (0, 12, .inl (rowI 12 (0))), .inr (5, [.ref 13]), .inl (0, 12, .inl (rowI 12 (0))), .inr (5, [.ref 15]), .inl (0, 12, .inl (rowI 12 (-1))), .inr (1, [.ref 17, .ref 19, .ref 21, .ref 23]), .inr (5, [.ref 18]), .inl (0, 5, .inl (rowI 5 (100))), .inr (5, [.ref 20]), .inl (0, 5, .inl (rowI 5 (0))), .inr (5, [.ref 22]), .inl (0, 5, .inl (rowI 5 (0))), .inr (5, [.ref 24]), .inl (0, 5, .inl (rowI 5 (0))), .inr (5, [.ref 26]), .inl (0, 6, .inl (rowI 6 (0))), .inr (7, [.ref 28, .ref 30]), .inr (5, [.ref 29]), .inl (0, 25, .inl (rowI 25 (2))), .inr (5, [.ref 31]), .inl (0, 25, .inl (rowI 25 (0))), .inr (4, [.ref 33, .ref 40]), .inr (2, [.ref 34, .ref 36, .ref 38, .int 0]), .inr (5, [.ref 35]), .inl (0, 60, .inl (rowI 60 (0))), .inr (5, [.ref 37]), .inl (0, 60, .inl (rowI 60 (0))), .inr (5, [.ref 39]), .inl (0, 60, .inl (rowI 60 (0))), .inr (5, [.ref 41]), .inl (0, 300, .inl (rowI 300 (0)))]) rfl ?_
  refine g_aload_n C0 dX9_init_62 rfl ?_
  refine g_new C0 dX9_init_63 NX9_46 rfl rfl rfl (by decide) (by decide) ?_
  refine g_dup C0 dX9_init_66 rfl ?_
  refine g_invI0 C0 dX9_init_67 CX9_48 ⟨by decide, by decide, by decide, by decide⟩ (Nat.le_of_ble_eq_true rfl) ?_
  refine c_X2 _ rfl ?_
  refine Aft_g rfl rfl ?_
  refine g_w (w2 := [.inr (9, [.ref 1, .ref 16, .ref 25, .ref 27, .ref 32, .null, .null, .null, .null, .int 0, .int 0]), .inr (3, [.ref 2, .ref 4, .ref 6, .ref 8, .ref 10, .ref 12, .ref 14]), .inr (5, [.ref 3]), .inl (0, 12, .inl (nmC 12)), .inr (5, [.ref 5]), .inl (0, 12, .inl (nmO 12)), .inr (5, [.ref 7]), .inl (0, 12, .inl (rowI 12 (0))), .inr (5, [.ref 9]), .inl (0, 12, .inl (rowI 12 (0))), .inr (5, [.ref 11]), .inl (0, 12, .inl (rowI 12 (0))), .inr (5, [.ref 13]), .inl (0, 12, .inl (rowI 12 (0))), .inr (5, [.ref 15]), .inl (0, 12, .inl (rowI 12 (-1))), .inr (1, [.ref 17, .ref 19, .ref 21, .ref 23]), .inr (5, [.ref 18]), .inl (0, 5, .inl (rowI 5 (100))), .inr (5, [.ref 20]), .inl (0, 5, .inl (rowI 5 (0))), .inr (5, [.ref 22]), .inl (0, 5, .inl (rowI 5 (0))), .inr (5, [.ref 24]), .inl (0, 5, .inl (rowI 5 (0))), .inr (5, [.ref 26]), .inl (0, 6, .inl (rowI 6 (0))), .inr (7, [.ref 28, .ref 30]), .inr (5, [.ref 29]), .inl (0, 25, .inl (rowI 25 (2))), .inr (5, [.ref 31]), .inl (0, 25, .inl (rowI 25 (0))), .inr (4, [.ref 33, .ref 40]), .inr (2, [.ref 34, .ref 36, .ref 38, .int 0]), .inr (5, [.ref 35]), .inl (0, 60, .inl (rowI 60 (0))), .inr (5, [.ref 37]), .inl (0, 60, .inl (rowI 60 (0))), .inr (5, [.ref 39]), .inl (0, 60, .inl (rowI 60 (0))), .inr (5, [.ref 41]), .inl (0, 300, .inl (rowI 300 (0))), .inr (2, [.ref 43, .ref 45, .ref 47, .int 0]), .inr (5, [.ref 44]), .inl (0, 60, .inl (rowI 60 (0))), .inr (5, [.ref 46]), .inl (0, 60, .inl (rowI 60 (0))), .inr (5, [.ref 48]), .inl (0, 60, .inl (rowI 60 (0)))]) rfl ?_
  refine g_putfinal C0 dX9_init_70 FX9_49 rfl rfl rfl (Nat.le_of_ble_eq_true rfl) (fun _ => ⟨rfl, rfl⟩) ?_
  refine g_w (w2 := [.inr (9, [.ref 1, .ref 16, .ref 25, .ref 27, .ref 32, .ref 42, .null, .null, .null, .int 0, .int 0]), .inr (3, [.ref 2, .ref 4, .ref 6, .ref 8, .ref 10, .ref 12, .ref 14]), .inr (5, [.ref 3]), .inl (0, 12, .inl (nmC 12)), .inr (5, [.ref 5]), .inl (0, 12, .inl (nmO 12)), .inr (5, [.ref 7]), .inl (0, 12, .inl (rowI 12 (0))), .inr (5, [.ref 9]), .inl (0, 12, .inl (rowI 12 (0))), .inr (5, [.ref 11]), .inl (0, 12, .inl (rowI 12 (0))), .inr (5, [.ref 13]), .inl (0, 12, .inl (rowI 12 (0))), .inr (5, [.ref 15]), .inl (0, 12, .inl (rowI 12 (-1))), .inr (1, [.ref 17, .ref 19, .ref 21, .ref 23]), .inr (5, [.ref 18]), .inl (0, 5, .inl (rowI 5 (100))), .inr (5, [.ref 20]), .inl (0, 5, .inl (rowI 5 (0))), .inr (5, [.ref 22]), .inl (0, 5, .inl (rowI 5 (0))), .inr (5, [.ref 24]), .inl (0, 5, .inl (rowI 5 (0))), .inr (5, [.ref 26]), .inl (0, 6, .inl (rowI 6 (0))), .inr (7, [.ref 28, .ref 30]), .inr (5, [.ref 29]), .inl (0, 25, .inl (rowI 25 (2))), .inr (5, [.ref 31]), .inl (0, 25, .inl (rowI 25 (0))), .inr (4, [.ref 33, .ref 40]), .inr (2, [.ref 34, .ref 36, .ref 38, .int 0]), .inr (5, [.ref 35]), .inl (0, 60, .inl (rowI 60 (0))), .inr (5, [.ref 37]), .inl (0, 60, .inl (rowI 60 (0))), .inr (5, [.ref 39]), .inl (0, 60, .inl (rowI 60 (0))), .inr (5, [.ref 41]), .inl (0, 300, .inl (rowI 300 (0))), .inr (2, [.ref 43, .ref 45, .ref 47, .int 0]), .inr (5, [.ref 44]), .inl (0, 60, .inl (rowI 60 (0))), .inr (5, [.ref 46]), .inl (0, 60, .inl (rowI 60 (0))), .inr (5, [.ref 48]), .inl (0, 60, .inl (rowI 60 (0)))]) rfl ?_
  refine g_aload_n C0 dX9_init_73 rfl ?_
  refine g_new C0 dX9_init_74 NX9_53 rfl rfl rfl (by decide) (by decide) ?_
  refine g_dup C0 dX9_init_77 rfl ?_
  refine g_invI0 C0 dX9_init_78 CX9_55 ⟨by decide, by decide, by decide, by decide⟩ (Nat.le_of_ble_eq_true rfl) ?_
  refine c_X6 _ rfl ?_
  refine Aft_g rfl rfl ?_
  refine g_w (w2 := [.inr (9, [.ref 1, .ref 16, .ref 25, .ref 27, .ref 32, .ref 42, .null, .null, .null, .int 0, .int 0]), .inr (3, [.ref 2, .ref 4, .ref 6, .ref 8, .ref 10, .ref 12, .ref 14]), .inr (5, [.ref 3]), .inl (0, 12, .inl (nmC 12)), .inr (5, [.ref 5]), .inl (0, 12, .inl (nmO 12)), .inr (5, [.ref 7]), .inl (0, 12, .inl (rowI 12 (0))), .inr (5, [.ref 9]), .inl (0, 12, .inl (rowI 12 (0))), .inr (5, [.ref 11]), .inl (0, 12, .inl (rowI 12 (0))), .inr (5, [.ref 13]), .inl (0, 12, .inl (rowI 12 (0))), .inr (5, [.ref 15]), .inl (0, 12, .inl (rowI 12 (-1))), .inr (1, [.ref 17, .ref 19, .ref 21, .ref 23]), .inr (5, [.ref 18]), .inl (0, 5, .inl (rowI 5 (100))), .inr (5, [.ref 20]), .inl (0, 5, .inl (rowI 5 (0))), .inr (5, [.ref 22]), .inl (0, 5, .inl (rowI 5 (0))), .inr (5, [.ref 24]), .inl (0, 5, .inl (rowI 5 (0))), .inr (5, [.ref 26]), .inl (0, 6, .inl (rowI 6 (0))), .inr (7, [.ref 28, .ref 30]), .inr (5, [.ref 29]), .inl (0, 25, .inl (rowI 25 (2))), .inr (5, [.ref 31]), .inl (0, 25, .inl (rowI 25 (0))), .inr (4, [.ref 33, .ref 40]), .inr (2, [.ref 34, .ref 36, .ref 38, .int 0]), .inr (5, [.ref 35]), .inl (0, 60, .inl (rowI 60 (0))), .inr (5, [.ref 37]), .inl (0, 60, .inl (rowI 60 (0))), .inr (5, [.ref 39]), .inl (0, 60, .inl (rowI 60 (0))), .inr (5, [.ref 41]), .inl (0, 300, .inl (rowI 300 (0))), .inr (2, [.ref 43, .ref 45, .ref 47, .int 0]), .inr (5, [.ref 44]), .inl (0, 60, .inl (rowI 60 (0))), .inr (5, [.ref 46]), .inl (0, 60, .inl (rowI 60 (0))), .inr (5, [.ref 48]), .inl (0, 60, .inl (rowI 60 (0))), .inr (6, [.ref 50, .ref 57]), .inr (2, [.ref 51, .ref 53, .ref 55, .int 0]), .inr (5, [.ref 52]), .inl (0, 60, .inl (rowI 60 (0))), .inr (5, [.ref 54]), .inl (0, 60, .inl (rowI 60 (0))), .inr (5, [.ref 56]), .inl (0, 60, .inl (rowI 60 (0))), .inr (2, [.ref 58, .ref 60, .ref 62, .int 0]), .inr (5, [.ref 59]), .inl (0, 60, .inl (rowI 60 (0))), .inr (5, [.ref 61]), .inl (0, 60, .inl (rowI 60 (0))), .inr (5, [.ref 63]), .inl (0, 60, .inl (rowI 60 (0)))]) rfl ?_
  refine g_putfinal C0 dX9_init_81 FX9_56 rfl rfl rfl (Nat.le_of_ble_eq_true rfl) (fun _ => ⟨rfl, rfl⟩) ?_
  refine g_w (w2 := [.inr (9, [.ref 1, .ref 16, .ref 25, .ref 27, .ref 32, .ref 42, .ref 49, .null, .null, .int 0, .int 0]), .inr (3, [.ref 2, .ref 4, .ref 6, .ref 8, .ref 10, .ref 12, .ref 14]), .inr (5, [.ref 3]), .inl (0, 12, .inl (nmC 12)), .inr (5, [.ref 5]), .inl (0, 12, .inl (nmO 12)), .inr (5, [.ref 7]), .inl (0, 12, .inl (rowI 12 (0))), .inr (5, [.ref 9]), .inl (0, 12, .inl (rowI 12 (0))), .inr (5, [.ref 11]), .inl (0, 12, .inl (rowI 12 (0))), .inr (5, [.ref 13]), .inl (0, 12, .inl (rowI 12 (0))), .inr (5, [.ref 15]), .inl (0, 12, .inl (rowI 12 (-1))), .inr (1, [.ref 17, .ref 19, .ref 21, .ref 23]), .inr (5, [.ref 18]), .inl (0, 5, .inl (rowI 5 (100))), .inr (5, [.ref 20]), .inl (0, 5, .inl (rowI 5 (0))), .inr (5, [.ref 22]), .inl (0, 5, .inl (rowI 5 (0))), .inr (5, [.ref 24]), .inl (0, 5, .inl (rowI 5 (0))), .inr (5, [.ref 26]), .inl (0, 6, .inl (rowI 6 (0))), .inr (7, [.ref 28, .ref 30]), .inr (5, [.ref 29]), .inl (0, 25, .inl (rowI 25 (2))), .inr (5, [.ref 31]), .inl (0, 25, .inl (rowI 25 (0))), .inr (4, [.ref 33, .ref 40]), .inr (2, [.ref 34, .ref 36, .ref 38, .int 0]), .inr (5, [.ref 35]), .inl (0, 60, .inl (rowI 60 (0))), .inr (5, [.ref 37]), .inl (0, 60, .inl (rowI 60 (0))), .inr (5, [.ref 39]), .inl (0, 60, .inl (rowI 60 (0))), .inr (5, [.ref 41]), .inl (0, 300, .inl (rowI 300 (0))), .inr (2, [.ref 43, .ref 45, .ref 47, .int 0]), .inr (5, [.ref 44]), .inl (0, 60, .inl (rowI 60 (0))), .inr (5, [.ref 46]), .inl (0, 60, .inl (rowI 60 (0))), .inr (5, [.ref 48]), .inl (0, 60, .inl (rowI 60 (0))), .inr (6, [.ref 50, .ref 57]), .inr (2, [.ref 51, .ref 53, .ref 55, .int 0]), .inr (5, [.ref 52]), .inl (0, 60, .inl (rowI 60 (0))), .inr (5, [.ref 54]), .inl (0, 60, .inl (rowI 60 (0))), .inr (5, [.ref 56]), .inl (0, 60, .inl (rowI 60 (0))), .inr (2, [.ref 58, .ref 60, .ref 62, .int 0]), .inr (5, [.ref 59]), .inl (0, 60, .inl (rowI 60 (0))), .inr (5, [.ref 61]), .inl (0, 60, .inl (rowI 60 (0))), .inr (5, [.ref 63]), .inl (0, 60, .inl (rowI 60 (0)))]) rfl ?_
  refine g_aload_n C0 dX9_init_84 rfl ?_
  refine g_new C0 dX9_init_85 NX9_60 rfl rfl rfl (by decide) (by decide) ?_
  refine g_dup C0 dX9_init_88 rfl ?_
  refine g_invI0 C0 dX9_init_89 CX9_62 ⟨by decide, by decide, by decide, by decide⟩ (Nat.le_of_ble_eq_true rfl) ?_
  refine c_X0 _ rfl ?_
  refine Aft_g rfl rfl ?_
  refine g_w (w2 := [.inr (9, [.ref 1, .ref 16, .ref 25, .ref 27, .ref 32, .ref 42, .ref 49, .null, .null, .int 0, .int 0]), .inr (3, [.ref 2, .ref 4, .ref 6, .ref 8, .ref 10, .ref 12, .ref 14]), .inr (5, [.ref 3]), .inl (0, 12, .inl (nmC 12)), .inr (5, [.ref 5]), .inl (0, 12, .inl (nmO 12)), .inr (5, [.ref 7]), .inl (0, 12, .inl (rowI 12 (0))), .inr (5, [.ref 9]), .inl (0, 12, .inl (rowI 12 (0))), .inr (5, [.ref 11]), .inl (0, 12, .inl (rowI 12 (0))), .inr (5, [.ref 13]), .inl (0, 12, .inl (rowI 12 (0))), .inr (5, [.ref 15]), .inl (0, 12, .inl (rowI 12 (-1))), .inr (1, [.ref 17, .ref 19, .ref 21, .ref 23]), .inr (5, [.ref 18]), .inl (0, 5, .inl (rowI 5 (100))), .inr (5, [.ref 20]), .inl (0, 5, .inl (rowI 5 (0))), .inr (5, [.ref 22]), .inl (0, 5, .inl (rowI 5 (0))), .inr (5, [.ref 24]), .inl (0, 5, .inl (rowI 5 (0))), .inr (5, [.ref 26]), .inl (0, 6, .inl (rowI 6 (0))), .inr (7, [.ref 28, .ref 30]), .inr (5, [.ref 29]), .inl (0, 25, .inl (rowI 25 (2))), .inr (5, [.ref 31]), .inl (0, 25, .inl (rowI 25 (0))), .inr (4, [.ref 33, .ref 40]), .inr (2, [.ref 34, .ref 36, .ref 38, .int 0]), .inr (5, [.ref 35]), .inl (0, 60, .inl (rowI 60 (0))), .inr (5, [.ref 37]), .inl (0, 60, .inl (rowI 60 (0))), .inr (5, [.ref 39]), .inl (0, 60, .inl (rowI 60 (0))), .inr (5, [.ref 41]), .inl (0, 300, .inl (rowI 300 (0))), .inr (2, [.ref 43, .ref 45, .ref 47, .int 0]), .inr (5, [.ref 44]), .inl (0, 60, .inl (rowI 60 (0))), .inr (5, [.ref 46]), .inl (0, 60, .inl (rowI 60 (0))), .inr (5, [.ref 48]), .inl (0, 60, .inl (rowI 60 (0))), .inr (6, [.ref 50, .ref 57]), .inr (2, [.ref 51, .ref 53, .ref 55, .int 0]), .inr (5, [.ref 52]), .inl (0, 60, .inl (rowI 60 (0))), .inr (5, [.ref 54]), .inl (0, 60, .inl (rowI 60 (0))), .inr (5, [.ref 56]), .inl (0, 60, .inl (rowI 60 (0))), .inr (2, [.ref 58, .ref 60, .ref 62, .int 0]), .inr (5, [.ref 59]), .inl (0, 60, .inl (rowI 60 (0))), .inr (5, [.ref 61]), .inl (0, 60, .inl (rowI 60 (0))), .inr (5, [.ref 63]), .inl (0, 60, .inl (rowI 60 (0))), .inr (0, [.ref 65, .ref 67, .ref 69, .ref 71, .ref 73, .ref 75, .ref 77, .ref 79, .int 0]), .inr (5, [.ref 66]), .inl (0, 60, .inl (rowI 60 (0))), .inr (5, [.ref 68]), .inl (0, 60, .inl (rowI 60 (0))), .inr (5, [.ref 70]), .inl (0, 60, .inl (rowI 60 (0))), .inr (5, [.ref 72]), .inl (0, 60, .inl (rowI 60 (0))), .inr (5, [.ref 74]), .inl (0, 60, .inl (rowI 60 (0))), .inr (5, [.ref 76]), .inl (0, 60, .inl (rowI 60 (0))), .inr (5, [.ref 78]), .inl (0, 60, .inl (rowI 60 (0))), .inr (5, [.ref 80]), .inl (0, 300, .inl (rowI 300 (0)))]) rfl ?_
  refine g_putfinal C0 dX9_init_92 FX9_63 rfl rfl rfl (Nat.le_of_ble_eq_true rfl) (fun _ => ⟨rfl, rfl⟩) ?_
  refine g_w (w2 := [.inr (9, [.ref 1, .ref 16, .ref 25, .ref 27, .ref 32, .ref 42, .ref 49, .ref 64, .null, .int 0, .int 0]), .inr (3, [.ref 2, .ref 4, .ref 6, .ref 8, .ref 10, .ref 12, .ref 14]), .inr (5, [.ref 3]), .inl (0, 12, .inl (nmC 12)), .inr (5, [.ref 5]), .inl (0, 12, .inl (nmO 12)), .inr (5, [.ref 7]), .inl (0, 12, .inl (rowI 12 (0))), .inr (5, [.ref 9]), .inl (0, 12, .inl (rowI 12 (0))), .inr (5, [.ref 11]), .inl (0, 12, .inl (rowI 12 (0))), .inr (5, [.ref 13]), .inl (0, 12, .inl (rowI 12 (0))), .inr (5, [.ref 15]), .inl (0, 12, .inl (rowI 12 (-1))), .inr (1, [.ref 17, .ref 19, .ref 21, .ref 23]), .inr (5, [.ref 18]), .inl (0, 5, .inl (rowI 5 (100))), .inr (5, [.ref 20]), .inl (0, 5, .inl (rowI 5 (0))), .inr (5, [.ref 22]), .inl (0, 5, .inl (rowI 5 (0))), .inr (5, [.ref 24]), .inl (0, 5, .inl (rowI 5 (0))), .inr (5, [.ref 26]), .inl (0, 6, .inl (rowI 6 (0))), .inr (7, [.ref 28, .ref 30]), .inr (5, [.ref 29]), .inl (0, 25, .inl (rowI 25 (2))), .inr (5, [.ref 31]), .inl (0, 25, .inl (rowI 25 (0))), .inr (4, [.ref 33, .ref 40]), .inr (2, [.ref 34, .ref 36, .ref 38, .int 0]), .inr (5, [.ref 35]), .inl (0, 60, .inl (rowI 60 (0))), .inr (5, [.ref 37]), .inl (0, 60, .inl (rowI 60 (0))), .inr (5, [.ref 39]), .inl (0, 60, .inl (rowI 60 (0))), .inr (5, [.ref 41]), .inl (0, 300, .inl (rowI 300 (0))), .inr (2, [.ref 43, .ref 45, .ref 47, .int 0]), .inr (5, [.ref 44]), .inl (0, 60, .inl (rowI 60 (0))), .inr (5, [.ref 46]), .inl (0, 60, .inl (rowI 60 (0))), .inr (5, [.ref 48]), .inl (0, 60, .inl (rowI 60 (0))), .inr (6, [.ref 50, .ref 57]), .inr (2, [.ref 51, .ref 53, .ref 55, .int 0]), .inr (5, [.ref 52]), .inl (0, 60, .inl (rowI 60 (0))), .inr (5, [.ref 54]), .inl (0, 60, .inl (rowI 60 (0))), .inr (5, [.ref 56]), .inl (0, 60, .inl (rowI 60 (0))), .inr (2, [.ref 58, .ref 60, .ref 62, .int 0]), .inr (5, [.ref 59]), .inl (0, 60, .inl (rowI 60 (0))), .inr (5, [.ref 61]), .inl (0, 60, .inl (rowI 60 (0))), .inr (5, [.ref 63]), .inl (0, 60, .inl (rowI 60 (0))), .inr (0, [.ref 65, .ref 67, .ref 69, .ref 71, .ref 73, .ref 75, .ref 77, .ref 79, .int 0]), .inr (5, [.ref 66]), .inl (0, 60, .inl (rowI 60 (0))), .inr (5, [.ref 68]), .inl (0, 60, .inl (rowI 60 (0))), .inr (5, [.ref 70]), .inl (0, 60, .inl (rowI 60 (0))), .inr (5, [.ref 72]), .inl (0, 60, .inl (rowI 60 (0))), .inr (5, [.ref 74]), .inl (0, 60, .inl (rowI 60 (0))), .inr (5, [.ref 76]), .inl (0, 60, .inl (rowI 60 (0))), .inr (5, [.ref 78]), .inl (0, 60, .inl (rowI 60 (0))), .inr (5, [.ref 80]), .inl (0, 300, .inl (rowI 300 (0)))]) rfl ?_
  refine g_aload_n C0 dX9_init_95 rfl ?_
  refine g_new C0 dX9_init_96 NX9_67 rfl rfl rfl (by decide) (by decide) ?_
  refine g_dup C0 dX9_init_99 rfl ?_
  refine g_invI0 C0 dX9_init_100 CX9_69 ⟨by decide, by decide, by decide, by decide⟩ (Nat.le_of_ble_eq_true rfl) ?_
  refine c_X8 _ rfl ?_
  refine Aft_g rfl rfl ?_
  refine g_w (w2 := [.inr (9, [.ref 1, .ref 16, .ref 25, .ref 27, .ref 32, .ref 42, .ref 49, .ref 64, .null, .int 0, .int 0]), .inr (3, [.ref 2, .ref 4, .ref 6, .ref 8, .ref 10, .ref 12, .ref 14]), .inr (5, [.ref 3]), .inl (0, 12, .inl (nmC 12)), .inr (5, [.ref 5]), .inl (0, 12, .inl (nmO 12)), .inr (5, [.ref 7]), .inl (0, 12, .inl (rowI 12 (0))), .inr (5, [.ref 9]), .inl (0, 12, .inl (rowI 12 (0))), .inr (5, [.ref 11]), .inl (0, 12, .inl (rowI 12 (0))), .inr (5, [.ref 13]), .inl (0, 12, .inl (rowI 12 (0))), .inr (5, [.ref 15]), .inl (0, 12, .inl (rowI 12 (-1))), .inr (1, [.ref 17, .ref 19, .ref 21, .ref 23]), .inr (5, [.ref 18]), .inl (0, 5, .inl (rowI 5 (100))), .inr (5, [.ref 20]), .inl (0, 5, .inl (rowI 5 (0))), .inr (5, [.ref 22]), .inl (0, 5, .inl (rowI 5 (0))), .inr (5, [.ref 24]), .inl (0, 5, .inl (rowI 5 (0))), .inr (5, [.ref 26]), .inl (0, 6, .inl (rowI 6 (0))), .inr (7, [.ref 28, .ref 30]), .inr (5, [.ref 29]), .inl (0, 25, .inl (rowI 25 (2))), .inr (5, [.ref 31]), .inl (0, 25, .inl (rowI 25 (0))), .inr (4, [.ref 33, .ref 40]), .inr (2, [.ref 34, .ref 36, .ref 38, .int 0]), .inr (5, [.ref 35]), .inl (0, 60, .inl (rowI 60 (0))), .inr (5, [.ref 37]), .inl (0, 60, .inl (rowI 60 (0))), .inr (5, [.ref 39]), .inl (0, 60, .inl (rowI 60 (0))), .inr (5, [.ref 41]), .inl (0, 300, .inl (rowI 300 (0))), .inr (2, [.ref 43, .ref 45, .ref 47, .int 0]), .inr (5, [.ref 44]), .inl (0, 60, .inl (rowI 60 (0))), .inr (5, [.ref 46]), .inl (0, 60, .inl (rowI 60 (0))), .inr (5, [.ref 48]), .inl (0, 60, .inl (rowI 60 (0))), .inr (6, [.ref 50, .ref 57]), .inr (2, [.ref 51, .ref 53, .ref 55, .int 0]), .inr (5, [.ref 52]), .inl (0, 60, .inl (rowI 60 (0))), .inr (5, [.ref 54]), .inl (0, 60, .inl (rowI 60 (0))), .inr (5, [.ref 56]), .inl (0, 60, .inl (rowI 60 (0))), .inr (2, [.ref 58, .ref 60, .ref 62, .int 0]), .inr (5, [.ref 59]), .inl (0, 60, .inl (rowI 60 (0))), .inr (5, [.ref 61]), .inl (0, 60, .inl (rowI 60 (0))), .inr (5, [.ref 63]), .inl (0, 60, .inl (rowI 60 (0))), .inr (0, [.ref 65, .ref 67, .ref 69, .ref 71, .ref 73, .ref 75, .ref 77, .ref 79, .int 0]), .inr (5, [.ref 66]), .inl (0, 60, .inl (rowI 60 (0))), .inr (5, [.ref 68]), .inl (0, 60, .inl (rowI 60 (0))), .inr (5, [.ref 70]), .inl (0, 60, .inl (rowI 60 (0))), .inr (5, [.ref 72]), .inl (0, 60, .inl (rowI 60 (0))), .inr (5, [.ref 74]), .inl (0, 60, .inl (rowI 60 (0))), .inr (5, [.ref 76]), .inl (0, 60, .inl (rowI 60 (0))), .inr (5, [.ref 78]), .inl (0, 60, .inl (rowI 60 (0))), .inr (5, [.ref 80]), .inl (0, 300, .inl (rowI 300 (0))), .inr (8, [.ref 82, .int 0]), .inr (5, [.ref 83]), .inl (0, 5, .inl (rowI 5 (0)))]) rfl ?_
  refine g_putfinal C0 dX9_init_103 FX9_70 rfl rfl rfl (Nat.le_of_ble_eq_true rfl) (fun _ => ⟨rfl, rfl⟩) ?_
  refine g_w (w2 := [.inr (9, [.ref 1, .ref 16, .ref 25, .ref 27, .ref 32, .ref 42, .ref 49, .ref 64, .ref 81, .int 0, .int 0]), .inr (3, [.ref 2, .ref 4, .ref 6, .ref 8, .ref 10, .ref 12, .ref 14]), .inr (5, [.ref 3]), .inl (0, 12, .inl (nmC 12)), .inr (5, [.ref 5]), .inl (0, 12, .inl (nmO 12)), .inr (5, [.ref 7]), .inl (0, 12, .inl (rowI 12 (0))), .inr (5, [.ref 9]), .inl (0, 12, .inl (rowI 12 (0))), .inr (5, [.ref 11]), .inl (0, 12, .inl (rowI 12 (0))), .inr (5, [.ref 13]), .inl (0, 12, .inl (rowI 12 (0))), .inr (5, [.ref 15]), .inl (0, 12, .inl (rowI 12 (-1))), .inr (1, [.ref 17, .ref 19, .ref 21, .ref 23]), .inr (5, [.ref 18]), .inl (0, 5, .inl (rowI 5 (100))), .inr (5, [.ref 20]), .inl (0, 5, .inl (rowI 5 (0))), .inr (5, [.ref 22]), .inl (0, 5, .inl (rowI 5 (0))), .inr (5, [.ref 24]), .inl (0, 5, .inl (rowI 5 (0))), .inr (5, [.ref 26]), .inl (0, 6, .inl (rowI 6 (0))), .inr (7, [.ref 28, .ref 30]), .inr (5, [.ref 29]), .inl (0, 25, .inl (rowI 25 (2))), .inr (5, [.ref 31]), .inl (0, 25, .inl (rowI 25 (0))), .inr (4, [.ref 33, .ref 40]), .inr (2, [.ref 34, .ref 36, .ref 38, .int 0]), .inr (5, [.ref 35]), .inl (0, 60, .inl (rowI 60 (0))), .inr (5, [.ref 37]), .inl (0, 60, .inl (rowI 60 (0))), .inr (5, [.ref 39]), .inl (0, 60, .inl (rowI 60 (0))), .inr (5, [.ref 41]), .inl (0, 300, .inl (rowI 300 (0))), .inr (2, [.ref 43, .ref 45, .ref 47, .int 0]), .inr (5, [.ref 44]), .inl (0, 60, .inl (rowI 60 (0))), .inr (5, [.ref 46]), .inl (0, 60, .inl (rowI 60 (0))), .inr (5, [.ref 48]), .inl (0, 60, .inl (rowI 60 (0))), .inr (6, [.ref 50, .ref 57]), .inr (2, [.ref 51, .ref 53, .ref 55, .int 0]), .inr (5, [.ref 52]), .inl (0, 60, .inl (rowI 60 (0))), .inr (5, [.ref 54]), .inl (0, 60, .inl (rowI 60 (0))), .inr (5, [.ref 56]), .inl (0, 60, .inl (rowI 60 (0))), .inr (2, [.ref 58, .ref 60, .ref 62, .int 0]), .inr (5, [.ref 59]), .inl (0, 60, .inl (rowI 60 (0))), .inr (5, [.ref 61]), .inl (0, 60, .inl (rowI 60 (0))), .inr (5, [.ref 63]), .inl (0, 60, .inl (rowI 60 (0))), .inr (0, [.ref 65, .ref 67, .ref 69, .ref 71, .ref 73, .ref 75, .ref 77, .ref 79, .int 0]), .inr (5, [.ref 66]), .inl (0, 60, .inl (rowI 60 (0))), .inr (5, [.ref 68]), .inl (0, 60, .inl (rowI 60 (0))), .inr (5, [.ref 70]), .inl (0, 60, .inl (rowI 60 (0))), .inr (5, [.ref 72]), .inl (0, 60, .inl (rowI 60 (0))), .inr (5, [.ref 74]), .inl (0, 60, .inl (rowI 60 (0))), .inr (5, [.ref 76]), .inl (0, 60, .inl (rowI 60 (0))), .inr (5, [.ref 78]), .inl (0, 60, .inl (rowI 60 (0))), .inr (5, [.ref 80]), .inl (0, 300, .inl (rowI 300 (0))), .inr (8, [.ref 82, .int 0]), .inr (5, [.ref 83]), .inl (0, 5, .inl (rowI 5 (0)))]) rfl ?_
  refine g_aload_n C0 dX9_init_106 rfl ?_
  refine g_iconst (v := 0) C0 dX9_init_107 (by decide) ?_
  refine g_putfield C0 dX9_init_108 FX9_74 rfl (Nat.le_of_ble_eq_true rfl) (fun _ => ⟨rfl, rfl⟩) ?_
  refine g_w (w2 := [.inr (9, [.ref 1, .ref 16, .ref 25, .ref 27, .ref 32, .ref 42, .ref 49, .ref 64, .ref 81, .int 0, .int 0]), .inr (3, [.ref 2, .ref 4, .ref 6, .ref 8, .ref 10, .ref 12, .ref 14]), .inr (5, [.ref 3]), .inl (0, 12, .inl (nmC 12)), .inr (5, [.ref 5]), .inl (0, 12, .inl (nmO 12)), .inr (5, [.ref 7]), .inl (0, 12, .inl (rowI 12 (0))), .inr (5, [.ref 9]), .inl (0, 12, .inl (rowI 12 (0))), .inr (5, [.ref 11]), .inl (0, 12, .inl (rowI 12 (0))), .inr (5, [.ref 13]), .inl (0, 12, .inl (rowI 12 (0))), .inr (5, [.ref 15]), .inl (0, 12, .inl (rowI 12 (-1))), .inr (1, [.ref 17, .ref 19, .ref 21, .ref 23]), .inr (5, [.ref 18]), .inl (0, 5, .inl (rowI 5 (100))), .inr (5, [.ref 20]), .inl (0, 5, .inl (rowI 5 (0))), .inr (5, [.ref 22]), .inl (0, 5, .inl (rowI 5 (0))), .inr (5, [.ref 24]), .inl (0, 5, .inl (rowI 5 (0))), .inr (5, [.ref 26]), .inl (0, 6, .inl (rowI 6 (0))), .inr (7, [.ref 28, .ref 30]), .inr (5, [.ref 29]), .inl (0, 25, .inl (rowI 25 (2))), .inr (5, [.ref 31]), .inl (0, 25, .inl (rowI 25 (0))), .inr (4, [.ref 33, .ref 40]), .inr (2, [.ref 34, .ref 36, .ref 38, .int 0]), .inr (5, [.ref 35]), .inl (0, 60, .inl (rowI 60 (0))), .inr (5, [.ref 37]), .inl (0, 60, .inl (rowI 60 (0))), .inr (5, [.ref 39]), .inl (0, 60, .inl (rowI 60 (0))), .inr (5, [.ref 41]), .inl (0, 300, .inl (rowI 300 (0))), .inr (2, [.ref 43, .ref 45, .ref 47, .int 0]), .inr (5, [.ref 44]), .inl (0, 60, .inl (rowI 60 (0))), .inr (5, [.ref 46]), .inl (0, 60, .inl (rowI 60 (0))), .inr (5, [.ref 48]), .inl (0, 60, .inl (rowI 60 (0))), .inr (6, [.ref 50, .ref 57]), .inr (2, [.ref 51, .ref 53, .ref 55, .int 0]), .inr (5, [.ref 52]), .inl (0, 60, .inl (rowI 60 (0))), .inr (5, [.ref 54]), .inl (0, 60, .inl (rowI 60 (0))), .inr (5, [.ref 56]), .inl (0, 60, .inl (rowI 60 (0))), .inr (2, [.ref 58, .ref 60, .ref 62, .int 0]), .inr (5, [.ref 59]), .inl (0, 60, .inl (rowI 60 (0))), .inr (5, [.ref 61]), .inl (0, 60, .inl (rowI 60 (0))), .inr (5, [.ref 63]), .inl (0, 60, .inl (rowI 60 (0))), .inr (0, [.ref 65, .ref 67, .ref 69, .ref 71, .ref 73, .ref 75, .ref 77, .ref 79, .int 0]), .inr (5, [.ref 66]), .inl (0, 60, .inl (rowI 60 (0))), .inr (5, [.ref 68]), .inl (0, 60, .inl (rowI 60 (0))), .inr (5, [.ref 70]), .inl (0, 60, .inl (rowI 60 (0))), .inr (5, [.ref 72]), .inl (0, 60, .inl (rowI 60 (0))), .inr (5, [.ref 74]), .inl (0, 60, .inl (rowI 60 (0))), .inr (5, [.ref 76]), .inl (0, 60, .inl (rowI 60 (0))), .inr (5, [.ref 78]), .inl (0, 60, .inl (rowI 60 (0))), .inr (5, [.ref 80]), .inl (0, 300, .inl (rowI 300 (0))), .inr (8, [.ref 82, .int 0]), .inr (5, [.ref 83]), .inl (0, 5, .inl (rowI 5 (0)))]) rfl ?_
  refine g_aload_n C0 dX9_init_111 rfl ?_
  refine g_iconst (v := 0) C0 dX9_init_112 (by decide) ?_
  refine g_putfield C0 dX9_init_113 FX9_78 rfl (Nat.le_of_ble_eq_true rfl) (fun _ => ⟨rfl, rfl⟩) ?_
  refine g_w (w2 := [.inr (9, [.ref 1, .ref 16, .ref 25, .ref 27, .ref 32, .ref 42, .ref 49, .ref 64, .ref 81, .int 0, .int 0]), .inr (3, [.ref 2, .ref 4, .ref 6, .ref 8, .ref 10, .ref 12, .ref 14]), .inr (5, [.ref 3]), .inl (0, 12, .inl (nmC 12)), .inr (5, [.ref 5]), .inl (0, 12, .inl (nmO 12)), .inr (5, [.ref 7]), .inl (0, 12, .inl (rowI 12 (0))), .inr (5, [.ref 9]), .inl (0, 12, .inl (rowI 12 (0))), .inr (5, [.ref 11]), .inl (0, 12, .inl (rowI 12 (0))), .inr (5, [.ref 13]), .inl (0, 12, .inl (rowI 12 (0))), .inr (5, [.ref 15]), .inl (0, 12, .inl (rowI 12 (-1))), .inr (1, [.ref 17, .ref 19, .ref 21, .ref 23]), .inr (5, [.ref 18]), .inl (0, 5, .inl (rowI 5 (100))), .inr (5, [.ref 20]), .inl (0, 5, .inl (rowI 5 (0))), .inr (5, [.ref 22]), .inl (0, 5, .inl (rowI 5 (0))), .inr (5, [.ref 24]), .inl (0, 5, .inl (rowI 5 (0))), .inr (5, [.ref 26]), .inl (0, 6, .inl (rowI 6 (0))), .inr (7, [.ref 28, .ref 30]), .inr (5, [.ref 29]), .inl (0, 25, .inl (rowI 25 (2))), .inr (5, [.ref 31]), .inl (0, 25, .inl (rowI 25 (0))), .inr (4, [.ref 33, .ref 40]), .inr (2, [.ref 34, .ref 36, .ref 38, .int 0]), .inr (5, [.ref 35]), .inl (0, 60, .inl (rowI 60 (0))), .inr (5, [.ref 37]), .inl (0, 60, .inl (rowI 60 (0))), .inr (5, [.ref 39]), .inl (0, 60, .inl (rowI 60 (0))), .inr (5, [.ref 41]), .inl (0, 300, .inl (rowI 300 (0))), .inr (2, [.ref 43, .ref 45, .ref 47, .int 0]), .inr (5, [.ref 44]), .inl (0, 60, .inl (rowI 60 (0))), .inr (5, [.ref 46]), .inl (0, 60, .inl (rowI 60 (0))), .inr (5, [.ref 48]), .inl (0, 60, .inl (rowI 60 (0))), .inr (6, [.ref 50, .ref 57]), .inr (2, [.ref 51, .ref 53, .ref 55, .int 0]), .inr (5, [.ref 52]), .inl (0, 60, .inl (rowI 60 (0))), .inr (5, [.ref 54]), .inl (0, 60, .inl (rowI 60 (0))), .inr (5, [.ref 56]), .inl (0, 60, .inl (rowI 60 (0))), .inr (2, [.ref 58, .ref 60, .ref 62, .int 0]), .inr (5, [.ref 59]), .inl (0, 60, .inl (rowI 60 (0))), .inr (5, [.ref 61]), .inl (0, 60, .inl (rowI 60 (0))), .inr (5, [.ref 63]), .inl (0, 60, .inl (rowI 60 (0))), .inr (0, [.ref 65, .ref 67, .ref 69, .ref 71, .ref 73, .ref 75, .ref 77, .ref 79, .int 0]), .inr (5, [.ref 66]), .inl (0, 60, .inl (rowI 60 (0))), .inr (5, [.ref 68]), .inl (0, 60, .inl (rowI 60 (0))), .inr (5, [.ref 70]), .inl (0, 60, .inl (rowI 60 (0))), .inr (5, [.ref 72]), .inl (0, 60, .inl (rowI 60 (0))), .inr (5, [.ref 74]), .inl (0, 60, .inl (rowI 60 (0))), .inr (5, [.ref 76]), .inl (0, 60, .inl (rowI 60 (0))), .inr (5, [.ref 78]), .inl (0, 60, .inl (rowI 60 (0))), .inr (5, [.ref 80]), .inl (0, 300, .inl (rowI 300 (0))), .inr (8, [.ref 82, .int 0]), .inr (5, [.ref 83]), .inl (0, 5, .inl (rowI 5 (0)))]) rfl ?_
  refine g_vret C0 rfl dX9_init_116 (by decide) (by decide) ?_
  exact hK
def q0 : XS := (fun k => match k with
  | 0 => nmC 12
  | 1 => nmO 12
  | 2 => rowI 12 0
  | 3 => rowI 12 0
  | 4 => rowI 12 0
  | 5 => rowI 12 0
  | 6 => rowI 12 (-1)
  | 7 => rowI 5 100
  | 8 => rowI 5 0
  | 9 => rowI 5 0
  | 10 => rowI 5 0
  | 11 => rowI 6 0
  | 12 => rowI 25 2
  | 13 => rowI 25 0
  | 14 => rowI 60 0
  | 15 => rowI 60 0
  | 16 => rowI 60 0
  | 17 => rowI 300 0
  | 18 => rowI 60 0
  | 19 => rowI 60 0
  | 20 => rowI 60 0
  | 21 => rowI 60 0
  | 22 => rowI 60 0
  | 23 => rowI 60 0
  | 24 => rowI 60 0
  | 25 => rowI 60 0
  | 26 => rowI 60 0
  | 27 => rowI 60 0
  | 28 => rowI 60 0
  | 29 => rowI 60 0
  | 30 => rowI 60 0
  | 31 => rowI 60 0
  | 32 => rowI 60 0
  | 33 => rowI 60 0
  | 34 => rowI 300 0
  | _ => rowI 5 0, fun _ => 0)
set_option maxRecDepth 100000 in
set_option maxHeartbeats 4000000 in
theorem w_X9_eq : w_X9 = WX q0 := rfl
set_option maxRecDepth 100000 in
set_option maxHeartbeats 4000000 in
theorem p_init {K : AO → AW → Prop} (hK : K (.inl none) (WX q0)) : Snd MX9_init [.ref 0] [.inr (9, [.null, .null, .null, .null, .null, .null, .null, .null, .null, .int 0, .int 0])] K := k_X9 (by rw [w_X9_eq]; exact hK)

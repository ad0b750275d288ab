theorem rg_in {i : Int32} {n : Nat} (hn : n < 1000) (h1 : 0 ≤ i) (h2 : ¬ nI n ≤ i) : vp_in i n := by
  have hb : n < 2 ^ 31 := by omega
  rw [vp_in_iff]
  have e1 := Int32.le_iff_toInt_le.mp h1
  have e2 : ¬ (nI n).toInt ≤ i.toInt := fun q => h2 (Int32.le_iff_toInt_le.mpr q)
  rw [nI_toInt hb] at e2
  rw [Int32.toInt_zero] at e1
  exact ⟨e1, by omega⟩
theorem rg_lt {i : Int32} {n : Nat} (h2 : ¬ nI n ≤ i) : i < nI n := Int32.not_le.mp h2
set_option maxRecDepth 100000 in
set_option maxHeartbeats 4000000 in
theorem s_get {w : AW} {K : AO → AW → Prop} {r a n : Nat} {f : Nat → Int32} (i : Int32) (hr : w[r]? = some (.inr (5, [.ref a]))) (ha : w[a]? = some (.inl (0, n, .inl f))) (hn : n < 1000)  (hK : K (.inl (some (.int (rg n f i)))) w) : Snd MX5_get [.ref r, .int i] w K := by
  refine Snd.of (by decide +kernel) (Nat.le_of_ble_eq_true rfl) rfl rfl ?_
  intro X D dA ad C0
  show Gd X _ MX5_get 0 [some (.ref r), some (.int i)] [] _ 0 0
  refine g_iload_n C0 dX5_get_0 rfl ?_
  refine g_if_lt (tgt := 22) C0 dX5_get_1 (by decide) (fun h1 => ?_) (fun h1 => ?_)
  · refine g_iconst (v := 0) C0 dX5_get_22 (by decide) ?_
    refine g_iret C0 rfl dX5_get_23 (by decide) (by decide) ?_
    rw [rg, if_neg (fun q => absurd q.1 (Int32.not_le.mpr h1))] at hK; exact hK
  refine g_iload_n C0 dX5_get_4 rfl ?_
  refine g_aload_n C0 dX5_get_5 rfl ?_
  refine g_getfield C0 dX5_get_6 FX5_13 hr rfl ?_
  refine g_alen C0 (by decide) dX5_get_9 ha ?_
  refine g_icmp_ge (tgt := 22) C0 dX5_get_10 (by decide) (fun h10 => ?_) (fun h10 => ?_)
  · refine g_iconst (v := 0) C0 dX5_get_22 (by decide) ?_
    refine g_iret C0 rfl dX5_get_23 (by decide) (by decide) ?_
    rw [rg, if_neg (fun q => absurd q.2 (Int32.not_lt.mpr h10))] at hK; exact hK
  refine g_aload_n C0 dX5_get_13 rfl ?_
  refine g_getfield C0 dX5_get_14 FX5_13 hr rfl ?_
  refine g_iload_n C0 dX5_get_17 rfl ?_
  refine g_iaload C0 dX5_get_18 ha (rg_in hn (Int32.not_lt.mp h1) h10) ?_
  refine g_goto (tgt := 23) C0 dX5_get_19 (by decide) ?_
  refine g_iret C0 rfl dX5_get_23 (by decide) (by decide) ?_
  rw [rg, if_pos ⟨Int32.not_lt.mp h1, rg_lt h10⟩] at hK; exact hK
theorem set_same {w : AW} {a : Nat} {e : va_E} (h : w[a]? = some e) : w.set a e = w := by
  have := (List.getElem?_eq_some_iff.mp h)
  obtain ⟨h1, h2⟩ := this
  rw [← h2]; exact List.set_getElem_self h1
set_option maxRecDepth 100000 in
set_option maxHeartbeats 4000000 in
theorem s_set {w : AW} {K : AO → AW → Prop} {r a n : Nat} {f : Nat → Int32} (i : Int32) (v : Int32) (hr : w[r]? = some (.inr (5, [.ref a]))) (ha : w[a]? = some (.inl (0, n, .inl f))) (hn : n < 1000)  (hK : K (.inl none) (w.set a (.inl (0, n, .inl (rs n f i v))))) : Snd MX5_set [.ref r, .int i, .int v] w K := by
  refine Snd.of (by decide +kernel) (Nat.le_of_ble_eq_true rfl) rfl rfl ?_
  intro X D dA ad C0
  show Gd X _ MX5_set 0 [some (.ref r), some (.int i), some (.int v)] [] _ 0 0
  refine g_iload_n C0 dX5_set_0 rfl ?_
  refine g_if_lt (tgt := 20) C0 dX5_set_1 (by decide) (fun h1 => ?_) (fun h1 => ?_)
  · refine g_vret C0 rfl dX5_set_20 (by decide) (by decide) ?_
    rw [rs, if_neg (fun q => absurd q.1 (Int32.not_le.mpr h1))] at hK; rw [set_same ha] at hK; exact hK
  refine g_iload_n C0 dX5_set_4 rfl ?_
  refine g_aload_n C0 dX5_set_5 rfl ?_
  refine g_getfield C0 dX5_set_6 FX5_13 hr rfl ?_
  refine g_alen C0 (by decide) dX5_set_9 ha ?_
  refine g_icmp_ge (tgt := 20) C0 dX5_set_10 (by decide) (fun h10 => ?_) (fun h10 => ?_)
  · refine g_vret C0 rfl dX5_set_20 (by decide) (by decide) ?_
    rw [rs, if_neg (fun q => absurd q.2 (Int32.not_lt.mpr h10))] at hK; rw [set_same ha] at hK; exact hK
  refine g_aload_n C0 dX5_set_13 rfl ?_
  refine g_getfield C0 dX5_set_14 FX5_13 hr rfl ?_
  refine g_iload_n C0 dX5_set_17 rfl ?_
  refine g_iload_n C0 dX5_set_18 rfl ?_
  refine g_iastore C0 dX5_set_19 ha (rg_in hn (Int32.not_lt.mp h1) h10) ?_
  refine g_vret C0 rfl dX5_set_20 (by decide) (by decide) ?_
  rw [rs, if_pos ⟨Int32.not_lt.mp h1, rg_lt h10⟩] at hK; exact hK
set_option maxRecDepth 100000 in
set_option maxHeartbeats 4000000 in
theorem s_add {w : AW} {K : AO → AW → Prop} {r a n : Nat} {f : Nat → Int32} (i : Int32) (v : Int32) (hr : w[r]? = some (.inr (5, [.ref a]))) (ha : w[a]? = some (.inl (0, n, .inl f))) (hn : n < 1000)  (hK : K (.inl none) (w.set a (.inl (0, n, .inl (rad n f i v))))) : Snd MX5_add [.ref r, .int i, .int v] w K := by
  refine Snd.of (by decide +kernel) (Nat.le_of_ble_eq_true rfl) rfl rfl ?_
  intro X D dA ad C0
  show Gd X _ MX5_add 0 [some (.ref r), some (.int i), some (.int v)] [] _ 0 0
  refine g_iload_n C0 dX5_add_0 rfl ?_
  refine g_if_lt (tgt := 23) C0 dX5_add_1 (by decide) (fun h1 => ?_) (fun h1 => ?_)
  · refine g_vret C0 rfl dX5_add_23 (by decide) (by decide) ?_
    rw [rad, if_neg (fun q => absurd q.1 (Int32.not_le.mpr h1))] at hK; rw [set_same ha] at hK; exact hK
  refine g_iload_n C0 dX5_add_4 rfl ?_
  refine g_aload_n C0 dX5_add_5 rfl ?_
  refine g_getfield C0 dX5_add_6 FX5_13 hr rfl ?_
  refine g_alen C0 (by decide) dX5_add_9 ha ?_
  refine g_icmp_ge (tgt := 23) C0 dX5_add_10 (by decide) (fun h10 => ?_) (fun h10 => ?_)
  · refine g_vret C0 rfl dX5_add_23 (by decide) (by decide) ?_
    rw [rad, if_neg (fun q => absurd q.2 (Int32.not_lt.mpr h10))] at hK; rw [set_same ha] at hK; exact hK
  refine g_aload_n C0 dX5_add_13 rfl ?_
  refine g_getfield C0 dX5_add_14 FX5_13 hr rfl ?_
  refine g_iload_n C0 dX5_add_17 rfl ?_
  refine g_dup2 C0 dX5_add_18 rfl rfl ?_
  refine g_iaload C0 dX5_add_19 ha (rg_in hn (Int32.not_lt.mp h1) h10) ?_
  refine g_iload_n C0 dX5_add_20 rfl ?_
  refine g_iadd C0 dX5_add_21 ?_
  refine g_iastore C0 dX5_add_22 ha (rg_in hn (Int32.not_lt.mp h1) h10) ?_
  refine g_vret C0 rfl dX5_add_23 (by decide) (by decide) ?_
  rw [rad, if_pos ⟨Int32.not_lt.mp h1, rg_lt h10⟩] at hK; exact hK
theorem x_get {q : XS} {K : AO → AW → Prop} (k : Nat) (hk : k < 36) {i : Int32} (hK : K (.inl (some (.int (xg q k i)))) (WX q)) : Snd MX5_get [.ref (ro k), .int i] (WX q) K :=
  s_get i (WX_row q k hk).1 (WX_row q k hk).2.1 (WX_row q k hk).2.2 hK
theorem x_set {q : XS} {K : AO → AW → Prop} (k : Nat) (hk : k < 36) {i v : Int32} (hK : K (.inl none) (WX (xs q k i v))) : Snd MX5_set [.ref (ro k), .int i, .int v] (WX q) K :=
  s_set i v (WX_row q k hk).1 (WX_row q k hk).2.1 (WX_row q k hk).2.2 (by rw [WX_set q k hk]; exact hK)
theorem x_add {q : XS} {K : AO → AW → Prop} (k : Nat) (hk : k < 36) {i v : Int32} (hK : K (.inl none) (WX (xad q k i v))) : Snd MX5_add [.ref (ro k), .int i, .int v] (WX q) K :=
  s_add i v (WX_row q k hk).1 (WX_row q k hk).2.1 (WX_row q k hk).2.2 (by rw [WX_set q k hk]; exact hK)

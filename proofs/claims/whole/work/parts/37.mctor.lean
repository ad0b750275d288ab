def mZ : XS := (fun _ _ => 0, fun _ => 0)
def m1 : Nat → XS
  | 0 => mZ
  | k + 1 => mw (mw (mw (m1 k) 0 (nI k) 2) 1 (nI k) 1) 2 (nI k) 100
def m2 : Nat → XS
  | 0 => m1 5
  | k + 1 => mw (m2 k) 3 (nI k) (if nI k / 5 = nI k - nI k / 5 * 5 then 0 else 2)
def m3 : Nat → XS
  | 0 => m2 25
  | k + 1 => mw (m3 k) 8 (nI k) (nI k - nI k / 6 * 6)
abbrev t0 : XS := m3 12
set_option maxRecDepth 100000 in
set_option maxHeartbeats 4000000 in
theorem ml_i3 {K : AO → AW → Prop} (hK : K (.inl none) (WM t0)) {X : CX} {D : va_G} {dA : Nat → ClassId} {w0 : AW} {ad : Nat → Nat} (C0 : Ok X (D, dA, w0, ad, K) MX10_init) : ∀ (n9 k : Nat), k + n9 = 12 → Gd X (D, dA, w0, ad, K) MX10_init 262 [some (.ref 0), some (.int (nI k))] [] (WM (m3 k)) 24 1600 := by
  intro n9
  induction n9 with
  | zero =>
    intro k hk
    have hk2 : k = 12 := by omega
    subst hk2
    refine g_iload_n C0 dX10_init_262 rfl ?_
    refine g_bipush (v := nI 12) C0 dX10_init_263 (by decide +kernel) ?_
    refine g_icmp_ge (tgt := 284) C0 dX10_init_265 (by decide) (fun _ => ?_) (fun z => absurd (Int32.le_refl _) z)
    refine g_vret C0 rfl dX10_init_284 (by decide) (by decide) ?_
    exact hK
  | succ n9 ih =>
    intro k hk
    have ik : vp_in (nI k) 12 := vp_in_nI (by omega) (by omega)
    refine g_iload_n C0 dX10_init_262 rfl ?_
    refine g_bipush (v := 12) C0 dX10_init_263 (by decide) ?_
    refine g_icmp_ge (tgt := 284) C0 dX10_init_265 (by decide) (fun h265 => absurd h265 (nI_ge (b := 12) (by omega) (by omega))) (fun h265 => ?_)
    refine g_aload_n C0 dX10_init_268 rfl ?_
    refine g_getfield C0 dX10_init_269 FX10_34 rfl rfl ?_
    refine g_iload_n C0 dX10_init_272 rfl ?_
    refine g_iload_n C0 dX10_init_273 rfl ?_
    refine g_bipush (v := 6) C0 dX10_init_274 (by decide) ?_
    refine g_irem C0 dX10_init_276 (by decide) ?_
    refine g_iastore C0 dX10_init_277 rfl (by assumption) ?_
    refine g_w (WM_set _ 8 (by decide) _) ?_
    refine g_iinc (v := nI (k + 1)) C0 dX10_init_278 rfl (nI_1 _) (by decide) ?_
    refine g_goto (tgt := 262) C0 dX10_init_281 (by decide) ?_
    exact ih (k + 1) (by omega)
set_option maxRecDepth 100000 in
set_option maxHeartbeats 4000000 in
theorem ml_i2 {K : AO → AW → Prop} (hK : K (.inl none) (WM t0)) {X : CX} {D : va_G} {dA : Nat → ClassId} {w0 : AW} {ad : Nat → Nat} (C0 : Ok X (D, dA, w0, ad, K) MX10_init) : ∀ (n9 k : Nat), k + n9 = 25 → Gd X (D, dA, w0, ad, K) MX10_init 228 [some (.ref 0), some (.int (nI k))] [] (WM (m2 k)) 24 1600 := by
  intro n9
  induction n9 with
  | zero =>
    intro k hk
    have hk2 : k = 25 := by omega
    subst hk2
    refine g_iload_n C0 dX10_init_228 rfl ?_
    refine g_bipush (v := nI 25) C0 dX10_init_229 (by decide +kernel) ?_
    refine g_icmp_ge (tgt := 260) C0 dX10_init_231 (by decide) (fun _ => ?_) (fun z => absurd (Int32.le_refl _) z)
    refine g_iconst (v := nI 0) C0 dX10_init_260 (by decide +kernel) ?_
    refine g_istore_n C0 dX10_init_261 (by decide) ?_
    exact ml_i3 hK C0 12 0 rfl
  | succ n9 ih =>
    intro k hk
    have ik : vp_in (nI k) 25 := vp_in_nI (by omega) (by omega)
    refine g_iload_n C0 dX10_init_228 rfl ?_
    refine g_bipush (v := 25) C0 dX10_init_229 (by decide) ?_
    refine g_icmp_ge (tgt := 260) C0 dX10_init_231 (by decide) (fun h231 => absurd h231 (nI_ge (b := 25) (by omega) (by omega))) (fun h231 => ?_)
    refine g_aload_n C0 dX10_init_234 rfl ?_
    refine g_getfield C0 dX10_init_235 FX10_19 rfl rfl ?_
    refine g_iload_n C0 dX10_init_238 rfl ?_
    refine g_iload_n C0 dX10_init_239 rfl ?_
    refine g_iconst (v := 5) C0 dX10_init_240 (by decide) ?_
    refine g_idiv C0 dX10_init_241 (by decide) ?_
    refine g_iload_n C0 dX10_init_242 rfl ?_
    refine g_iconst (v := 5) C0 dX10_init_243 (by decide) ?_
    refine g_irem C0 dX10_init_244 (by decide) ?_
    refine g_icmp_ne (tgt := 252) C0 dX10_init_245 (by decide) (fun h245 => ?_) (fun h245 => ?_)
    · refine g_iconst (v := 2) C0 dX10_init_252 (by decide) ?_
      refine g_iastore C0 dX10_init_253 rfl (by assumption) ?_
      refine g_w (WM_set _ 3 (by decide) _) ?_
      refine g_iinc (v := nI (k + 1)) C0 dX10_init_254 rfl (nI_1 _) (by decide) ?_
      refine g_goto (tgt := 228) C0 dX10_init_257 (by decide) ?_
      have H := ih (k + 1) (by omega)
      rw [m2, if_neg h245] at H
      exact H
    refine g_iconst (v := 0) C0 dX10_init_248 (by decide) ?_
    refine g_goto (tgt := 253) C0 dX10_init_249 (by decide) ?_
    refine g_iastore C0 dX10_init_253 rfl (by assumption) ?_
    refine g_w (WM_set _ 3 (by decide) _) ?_
    refine g_iinc (v := nI (k + 1)) C0 dX10_init_254 rfl (nI_1 _) (by decide) ?_
    refine g_goto (tgt := 228) C0 dX10_init_257 (by decide) ?_
    have H := ih (k + 1) (by omega)
    rw [m2, if_pos h245] at H
    exact H
set_option maxRecDepth 100000 in
set_option maxHeartbeats 4000000 in
theorem ml_i1 {K : AO → AW → Prop} (hK : K (.inl none) (WM t0)) {X : CX} {D : va_G} {dA : Nat → ClassId} {w0 : AW} {ad : Nat → Nat} (C0 : Ok X (D, dA, w0, ad, K) MX10_init) : ∀ (n9 k : Nat), k + n9 = 5 → Gd X (D, dA, w0, ad, K) MX10_init 193 [some (.ref 0), some (.int (nI k))] [] (WM (m1 k)) 24 1600 := by
  intro n9
  induction n9 with
  | zero =>
    intro k hk
    have hk2 : k = 5 := by omega
    subst hk2
    refine g_iload_n C0 dX10_init_193 rfl ?_
    refine g_iconst (v := nI 5) C0 dX10_init_194 (by decide +kernel) ?_
    refine g_icmp_ge (tgt := 226) C0 dX10_init_195 (by decide) (fun _ => ?_) (fun z => absurd (Int32.le_refl _) z)
    refine g_iconst (v := nI 0) C0 dX10_init_226 (by decide +kernel) ?_
    refine g_istore_n C0 dX10_init_227 (by decide) ?_
    exact ml_i2 hK C0 25 0 rfl
  | succ n9 ih =>
    intro k hk
    have ik : vp_in (nI k) 5 := vp_in_nI (by omega) (by omega)
    refine g_iload_n C0 dX10_init_193 rfl ?_
    refine g_iconst (v := 5) C0 dX10_init_194 (by decide) ?_
    refine g_icmp_ge (tgt := 226) C0 dX10_init_195 (by decide) (fun h195 => absurd h195 (nI_ge (b := 5) (by omega) (by omega))) (fun h195 => ?_)
    refine g_aload_n C0 dX10_init_198 rfl ?_
    refine g_getfield C0 dX10_init_199 FX10_7 rfl rfl ?_
    refine g_iload_n C0 dX10_init_202 rfl ?_
    refine g_iconst (v := 2) C0 dX10_init_203 (by decide) ?_
    refine g_iastore C0 dX10_init_204 rfl (by assumption) ?_
    refine g_w (WM_set _ 0 (by decide) _) ?_
    refine g_aload_n C0 dX10_init_205 rfl ?_
    refine g_getfield C0 dX10_init_206 FX10_13 rfl rfl ?_
    refine g_iload_n C0 dX10_init_209 rfl ?_
    refine g_iconst (v := 1) C0 dX10_init_210 (by decide) ?_
    refine g_iastore C0 dX10_init_211 rfl (by assumption) ?_
    refine g_w (WM_set _ 1 (by decide) _) ?_
    refine g_aload_n C0 dX10_init_212 rfl ?_
    refine g_getfield C0 dX10_init_213 FX10_16 rfl rfl ?_
    refine g_iload_n C0 dX10_init_216 rfl ?_
    refine g_bipush (v := 100) C0 dX10_init_217 (by decide) ?_
    refine g_iastore C0 dX10_init_219 rfl (by assumption) ?_
    refine g_w (WM_set _ 2 (by decide) _) ?_
    refine g_iinc (v := nI (k + 1)) C0 dX10_init_220 rfl (nI_1 _) (by decide) ?_
    refine g_goto (tgt := 193) C0 dX10_init_223 (by decide) ?_
    exact ih (k + 1) (by omega)
set_option maxRecDepth 100000 in
set_option maxHeartbeats 4000000 in
theorem r_init {K : AO → AW → Prop} (hK : K (.inl none) (WM t0)) : Snd MX10_init [.ref 0] [.inr (10, [.int 0, .int 0, .null, .null, .null, .null, .null, .null, .null, .int 0, .null, .null, .null, .null, .null, .int 0, .int 0, .null, .null, .null, .null, .int 0, .int 0, .null, .null, .null, .null, .null, .null, .null, .int 0, .null])] K := by
  refine Snd.of (by decide +kernel) (Nat.le_of_ble_eq_true rfl) rfl rfl ?_
  intro X D dA ad C0
  show Gd X _ MX10_init 0 [some (.ref 0), none] [] _ 0 0
  refine g_aload_n C0 dX10_init_0 rfl ?_
  refine g_objInit C0 dX10_init_1 OX10_1 (by decide) (Nat.le_of_ble_eq_true rfl) ?_
  refine g_aload_n C0 dX10_init_4 rfl ?_
  refine g_iconst (v := nI 5) C0 dX10_init_5 (by decide +kernel) ?_
  refine g_newarray C0 dX10_init_6 (KAi 5) rfl (by decide) rfl rfl rfl (by decide) (by decide) ?_
  refine g_putfinal C0 dX10_init_8 FX10_7 rfl rfl rfl (Nat.le_of_ble_eq_true rfl) (fun _ => ⟨rfl, rfl⟩) ?_
  refine g_w (w2 := [.inr (10, [.int 0, .int 0, .ref 1, .null, .null, .null, .null, .null, .null, .int 0, .null, .null, .null, .null, .null, .int 0, .int 0, .null, .null, .null, .null, .int 0, .int 0, .null, .null, .null, .null, .null, .null, .null, .int 0, .null]), .inl (0, 5, .inl (fun _ => 0))]) rfl ?_
  refine g_aload_n C0 dX10_init_11 rfl ?_
  refine g_iconst (v := nI 5) C0 dX10_init_12 (by decide +kernel) ?_
  refine g_newarray C0 dX10_init_13 (KAi 5) rfl (by decide) rfl rfl rfl (by decide) (by decide) ?_
  refine g_putfinal C0 dX10_init_15 FX10_13 rfl rfl rfl (Nat.le_of_ble_eq_true rfl) (fun _ => ⟨rfl, rfl⟩) ?_
  refine g_w (w2 := [.inr (10, [.int 0, .int 0, .ref 1, .ref 2, .null, .null, .null, .null, .null, .int 0, .null, .null, .null, .null, .null, .int 0, .int 0, .null, .null, .null, .null, .int 0, .int 0, .null, .null, .null, .null, .null, .null, .null, .int 0, .null]), .inl (0, 5, .inl (fun _ => 0)), .inl (0, 5, .inl (fun _ => 0))]) rfl ?_
  refine g_aload_n C0 dX10_init_18 rfl ?_
  refine g_iconst (v := nI 5) C0 dX10_init_19 (by decide +kernel) ?_
  refine g_newarray C0 dX10_init_20 (KAi 5) rfl (by decide) rfl rfl rfl (by decide) (by decide) ?_
  refine g_putfinal C0 dX10_init_22 FX10_16 rfl rfl rfl (Nat.le_of_ble_eq_true rfl) (fun _ => ⟨rfl, rfl⟩) ?_
  refine g_w (w2 := [.inr (10, [.int 0, .int 0, .ref 1, .ref 2, .ref 3, .null, .null, .null, .null, .int 0, .null, .null, .null, .null, .null, .int 0, .int 0, .null, .null, .null, .null, .int 0, .int 0, .null, .null, .null, .null, .null, .null, .null, .int 0, .null]), .inl (0, 5, .inl (fun _ => 0)), .inl (0, 5, .inl (fun _ => 0)), .inl (0, 5, .inl (fun _ => 0))]) rfl ?_
  refine g_aload_n C0 dX10_init_25 rfl ?_
  refine g_bipush (v := nI 25) C0 dX10_init_26 (by decide +kernel) ?_
  refine g_newarray C0 dX10_init_28 (KAi 25) rfl (by decide) rfl rfl rfl (by decide) (by decide) ?_
  refine g_putfinal C0 dX10_init_30 FX10_19 rfl rfl rfl (Nat.le_of_ble_eq_true rfl) (fun _ => ⟨rfl, rfl⟩) ?_
  refine g_w (w2 := [.inr (10, [.int 0, .int 0, .ref 1, .ref 2, .ref 3, .ref 4, .null, .null, .null, .int 0, .null, .null, .null, .null, .null, .int 0, .int 0, .null, .null, .null, .null, .int 0, .int 0, .null, .null, .null, .null, .null, .null, .null, .int 0, .null]), .inl (0, 5, .inl (fun _ => 0)), .inl (0, 5, .inl (fun _ => 0)), .inl (0, 5, .inl (fun _ => 0)), .inl (0, 25, .inl (fun _ => 0))]) rfl ?_
  refine g_aload_n C0 dX10_init_33 rfl ?_
  refine g_iconst (v := nI 5) C0 dX10_init_34 (by decide +kernel) ?_
  refine g_newarray C0 dX10_init_35 (KAi 5) rfl (by decide) rfl rfl rfl (by decide) (by decide) ?_
  refine g_putfinal C0 dX10_init_37 FX10_22 rfl rfl rfl (Nat.le_of_ble_eq_true rfl) (fun _ => ⟨rfl, rfl⟩) ?_
  refine g_w (w2 := [.inr (10, [.int 0, .int 0, .ref 1, .ref 2, .ref 3, .ref 4, .ref 5, .null, .null, .int 0, .null, .null, .null, .null, .null, .int 0, .int 0, .null, .null, .null, .null, .int 0, .int 0, .null, .null, .null, .null, .null, .null, .null, .int 0, .null]), .inl (0, 5, .inl (fun _ => 0)), .inl (0, 5, .inl (fun _ => 0)), .inl (0, 5, .inl (fun _ => 0)), .inl (0, 25, .inl (fun _ => 0)), .inl (0, 5, .inl (fun _ => 0))]) rfl ?_
  refine g_aload_n C0 dX10_init_40 rfl ?_
  refine g_iconst (v := nI 5) C0 dX10_init_41 (by decide +kernel) ?_
  refine g_newarray C0 dX10_init_42 (KAi 5) rfl (by decide) rfl rfl rfl (by decide) (by decide) ?_
  refine g_putfinal C0 dX10_init_44 FX10_25 rfl rfl rfl (Nat.le_of_ble_eq_true rfl) (fun _ => ⟨rfl, rfl⟩) ?_
  refine g_w (w2 := [.inr (10, [.int 0, .int 0, .ref 1, .ref 2, .ref 3, .ref 4, .ref 5, .ref 6, .null, .int 0, .null, .null, .null, .null, .null, .int 0, .int 0, .null, .null, .null, .null, .int 0, .int 0, .null, .null, .null, .null, .null, .null, .null, .int 0, .null]), .inl (0, 5, .inl (fun _ => 0)), .inl (0, 5, .inl (fun _ => 0)), .inl (0, 5, .inl (fun _ => 0)), .inl (0, 25, .inl (fun _ => 0)), .inl (0, 5, .inl (fun _ => 0)), .inl (0, 5, .inl (fun _ => 0))]) rfl ?_
  refine g_aload_n C0 dX10_init_47 rfl ?_
  refine g_iconst (v := nI 5) C0 dX10_init_48 (by decide +kernel) ?_
  refine g_newarray C0 dX10_init_49 (KAi 5) rfl (by decide) rfl rfl rfl (by decide) (by decide) ?_
  refine g_putfinal C0 dX10_init_51 FX10_28 rfl rfl rfl (Nat.le_of_ble_eq_true rfl) (fun _ => ⟨rfl, rfl⟩) ?_
  refine g_w (w2 := [.inr (10, [.int 0, .int 0, .ref 1, .ref 2, .ref 3, .ref 4, .ref 5, .ref 6, .ref 7, .int 0, .null, .null, .null, .null, .null, .int 0, .int 0, .null, .null, .null, .null, .int 0, .int 0, .null, .null, .null, .null, .null, .null, .null, .int 0, .null]), .inl (0, 5, .inl (fun _ => 0)), .inl (0, 5, .inl (fun _ => 0)), .inl (0, 5, .inl (fun _ => 0)), .inl (0, 25, .inl (fun _ => 0)), .inl (0, 5, .inl (fun _ => 0)), .inl (0, 5, .inl (fun _ => 0)), .inl (0, 5, .inl (fun _ => 0))]) rfl ?_
  refine g_aload_n C0 dX10_init_54 rfl ?_
  refine g_bipush (v := nI 6) C0 dX10_init_55 (by decide +kernel) ?_
  refine g_newarray C0 dX10_init_57 (KAi 6) rfl (by decide) rfl rfl rfl (by decide) (by decide) ?_
  refine g_putfinal C0 dX10_init_59 FX10_31 rfl rfl rfl (Nat.le_of_ble_eq_true rfl) (fun _ => ⟨rfl, rfl⟩) ?_
  refine g_w (w2 := [.inr (10, [.int 0, .int 0, .ref 1, .ref 2, .ref 3, .ref 4, .ref 5, .ref 6, .ref 7, .int 0, .ref 8, .null, .null, .null, .null, .int 0, .int 0, .null, .null, .null, .null, .int 0, .int 0, .null, .null, .null, .null, .null, .null, .null, .int 0, .null]), .inl (0, 5, .inl (fun _ => 0)), .inl (0, 5, .inl (fun _ => 0)), .inl (0, 5, .inl (fun _ => 0)), .inl (0, 25, .inl (fun _ => 0)), .inl (0, 5, .inl (fun _ => 0)), .inl (0, 5, .inl (fun _ => 0)), .inl (0, 5, .inl (fun _ => 0)), .inl (0, 6, .inl (fun _ => 0))]) rfl ?_
  refine g_aload_n C0 dX10_init_62 rfl ?_
  refine g_bipush (v := nI 12) C0 dX10_init_63 (by decide +kernel) ?_
  refine g_newarray C0 dX10_init_65 (KAi 12) rfl (by decide) rfl rfl rfl (by decide) (by decide) ?_
  refine g_putfinal C0 dX10_init_67 FX10_34 rfl rfl rfl (Nat.le_of_ble_eq_true rfl) (fun _ => ⟨rfl, rfl⟩) ?_
  refine g_w (w2 := [.inr (10, [.int 0, .int 0, .ref 1, .ref 2, .ref 3, .ref 4, .ref 5, .ref 6, .ref 7, .int 0, .ref 8, .ref 9, .null, .null, .null, .int 0, .int 0, .null, .null, .null, .null, .int 0, .int 0, .null, .null, .null, .null, .null, .null, .null, .int 0, .null]), .inl (0, 5, .inl (fun _ => 0)), .inl (0, 5, .inl (fun _ => 0)), .inl (0, 5, .inl (fun _ => 0)), .inl (0, 25, .inl (fun _ => 0)), .inl (0, 5, .inl (fun _ => 0)), .inl (0, 5, .inl (fun _ => 0)), .inl (0, 5, .inl (fun _ => 0)), .inl (0, 6, .inl (fun _ => 0)), .inl (0, 12, .inl (fun _ => 0))]) rfl ?_
  refine g_aload_n C0 dX10_init_70 rfl ?_
  refine g_bipush (v := nI 12) C0 dX10_init_71 (by decide +kernel) ?_
  refine g_newarray C0 dX10_init_73 (KAi 12) rfl (by decide) rfl rfl rfl (by decide) (by decide) ?_
  refine g_putfinal C0 dX10_init_75 FX10_37 rfl rfl rfl (Nat.le_of_ble_eq_true rfl) (fun _ => ⟨rfl, rfl⟩) ?_
  refine g_w (w2 := [.inr (10, [.int 0, .int 0, .ref 1, .ref 2, .ref 3, .ref 4, .ref 5, .ref 6, .ref 7, .int 0, .ref 8, .ref 9, .ref 10, .null, .null, .int 0, .int 0, .null, .null, .null, .null, .int 0, .int 0, .null, .null, .null, .null, .null, .null, .null, .int 0, .null]), .inl (0, 5, .inl (fun _ => 0)), .inl (0, 5, .inl (fun _ => 0)), .inl (0, 5, .inl (fun _ => 0)), .inl (0, 25, .inl (fun _ => 0)), .inl (0, 5, .inl (fun _ => 0)), .inl (0, 5, .inl (fun _ => 0)), .inl (0, 5, .inl (fun _ => 0)), .inl (0, 6, .inl (fun _ => 0)), .inl (0, 12, .inl (fun _ => 0)), .inl (0, 12, .inl (fun _ => 0))]) rfl ?_
  refine g_aload_n C0 dX10_init_78 rfl ?_
  refine g_bipush (v := nI 12) C0 dX10_init_79 (by decide +kernel) ?_
  refine g_newarray C0 dX10_init_81 (KAi 12) rfl (by decide) rfl rfl rfl (by decide) (by decide) ?_
  refine g_putfinal C0 dX10_init_83 FX10_40 rfl rfl rfl (Nat.le_of_ble_eq_true rfl) (fun _ => ⟨rfl, rfl⟩) ?_
  refine g_w (w2 := [.inr (10, [.int 0, .int 0, .ref 1, .ref 2, .ref 3, .ref 4, .ref 5, .ref 6, .ref 7, .int 0, .ref 8, .ref 9, .ref 10, .ref 11, .null, .int 0, .int 0, .null, .null, .null, .null, .int 0, .int 0, .null, .null, .null, .null, .null, .null, .null, .int 0, .null]), .inl (0, 5, .inl (fun _ => 0)), .inl (0, 5, .inl (fun _ => 0)), .inl (0, 5, .inl (fun _ => 0)), .inl (0, 25, .inl (fun _ => 0)), .inl (0, 5, .inl (fun _ => 0)), .inl (0, 5, .inl (fun _ => 0)), .inl (0, 5, .inl (fun _ => 0)), .inl (0, 6, .inl (fun _ => 0)), .inl (0, 12, .inl (fun _ => 0)), .inl (0, 12, .inl (fun _ => 0)), .inl (0, 12, .inl (fun _ => 0))]) rfl ?_
  refine g_aload_n C0 dX10_init_86 rfl ?_
  refine g_bipush (v := nI 12) C0 dX10_init_87 (by decide +kernel) ?_
  refine g_newarray C0 dX10_init_89 (KAz 12) rfl (by decide) rfl rfl rfl (by decide) (by decide) ?_
  refine g_putfinal C0 dX10_init_91 FX10_43 rfl rfl rfl (Nat.le_of_ble_eq_true rfl) (fun _ => ⟨rfl, rfl⟩) ?_
  refine g_w (w2 := [.inr (10, [.int 0, .int 0, .ref 1, .ref 2, .ref 3, .ref 4, .ref 5, .ref 6, .ref 7, .int 0, .ref 8, .ref 9, .ref 10, .ref 11, .ref 12, .int 0, .int 0, .null, .null, .null, .null, .int 0, .int 0, .null, .null, .null, .null, .null, .null, .null, .int 0, .null]), .inl (0, 5, .inl (fun _ => 0)), .inl (0, 5, .inl (fun _ => 0)), .inl (0, 5, .inl (fun _ => 0)), .inl (0, 25, .inl (fun _ => 0)), .inl (0, 5, .inl (fun _ => 0)), .inl (0, 5, .inl (fun _ => 0)), .inl (0, 5, .inl (fun _ => 0)), .inl (0, 6, .inl (fun _ => 0)), .inl (0, 12, .inl (fun _ => 0)), .inl (0, 12, .inl (fun _ => 0)), .inl (0, 12, .inl (fun _ => 0)), .inl (1, 12, .inl (fun _ => 0))]) rfl ?_
  refine g_aload_n C0 dX10_init_94 rfl ?_
  refine g_bipush (v := nI 60) C0 dX10_init_95 (by decide +kernel) ?_
  refine g_newarray C0 dX10_init_97 (KAi 60) rfl (by decide) rfl rfl rfl (by decide) (by decide) ?_
  refine g_putfinal C0 dX10_init_99 FX10_47 rfl rfl rfl (Nat.le_of_ble_eq_true rfl) (fun _ => ⟨rfl, rfl⟩) ?_
  refine g_w (w2 := [.inr (10, [.int 0, .int 0, .ref 1, .ref 2, .ref 3, .ref 4, .ref 5, .ref 6, .ref 7, .int 0, .ref 8, .ref 9, .ref 10, .ref 11, .ref 12, .int 0, .int 0, .ref 13, .null, .null, .null, .int 0, .int 0, .null, .null, .null, .null, .null, .null, .null, .int 0, .null]), .inl (0, 5, .inl (fun _ => 0)), .inl (0, 5, .inl (fun _ => 0)), .inl (0, 5, .inl (fun _ => 0)), .inl (0, 25, .inl (fun _ => 0)), .inl (0, 5, .inl (fun _ => 0)), .inl (0, 5, .inl (fun _ => 0)), .inl (0, 5, .inl (fun _ => 0)), .inl (0, 6, .inl (fun _ => 0)), .inl (0, 12, .inl (fun _ => 0)), .inl (0, 12, .inl (fun _ => 0)), .inl (0, 12, .inl (fun _ => 0)), .inl (1, 12, .inl (fun _ => 0)), .inl (0, 60, .inl (fun _ => 0))]) rfl ?_
  refine g_aload_n C0 dX10_init_102 rfl ?_
  refine g_bipush (v := nI 60) C0 dX10_init_103 (by decide +kernel) ?_
  refine g_newarray C0 dX10_init_105 (KAi 60) rfl (by decide) rfl rfl rfl (by decide) (by decide) ?_
  refine g_putfinal C0 dX10_init_107 FX10_50 rfl rfl rfl (Nat.le_of_ble_eq_true rfl) (fun _ => ⟨rfl, rfl⟩) ?_
  refine g_w (w2 := [.inr (10, [.int 0, .int 0, .ref 1, .ref 2, .ref 3, .ref 4, .ref 5, .ref 6, .ref 7, .int 0, .ref 8, .ref 9, .ref 10, .ref 11, .ref 12, .int 0, .int 0, .ref 13, .ref 14, .null, .null, .int 0, .int 0, .null, .null, .null, .null, .null, .null, .null, .int 0, .null]), .inl (0, 5, .inl (fun _ => 0)), .inl (0, 5, .inl (fun _ => 0)), .inl (0, 5, .inl (fun _ => 0)), .inl (0, 25, .inl (fun _ => 0)), .inl (0, 5, .inl (fun _ => 0)), .inl (0, 5, .inl (fun _ => 0)), .inl (0, 5, .inl (fun _ => 0)), .inl (0, 6, .inl (fun _ => 0)), .inl (0, 12, .inl (fun _ => 0)), .inl (0, 12, .inl (fun _ => 0)), .inl (0, 12, .inl (fun _ => 0)), .inl (1, 12, .inl (fun _ => 0)), .inl (0, 60, .inl (fun _ => 0)), .inl (0, 60, .inl (fun _ => 0))]) rfl ?_
  refine g_aload_n C0 dX10_init_110 rfl ?_
  refine g_bipush (v := nI 60) C0 dX10_init_111 (by decide +kernel) ?_
  refine g_newarray C0 dX10_init_113 (KAi 60) rfl (by decide) rfl rfl rfl (by decide) (by decide) ?_
  refine g_putfinal C0 dX10_init_115 FX10_53 rfl rfl rfl (Nat.le_of_ble_eq_true rfl) (fun _ => ⟨rfl, rfl⟩) ?_
  refine g_w (w2 := [.inr (10, [.int 0, .int 0, .ref 1, .ref 2, .ref 3, .ref 4, .ref 5, .ref 6, .ref 7, .int 0, .ref 8, .ref 9, .ref 10, .ref 11, .ref 12, .int 0, .int 0, .ref 13, .ref 14, .ref 15, .null, .int 0, .int 0, .null, .null, .null, .null, .null, .null, .null, .int 0, .null]), .inl (0, 5, .inl (fun _ => 0)), .inl (0, 5, .inl (fun _ => 0)), .inl (0, 5, .inl (fun _ => 0)), .inl (0, 25, .inl (fun _ => 0)), .inl (0, 5, .inl (fun _ => 0)), .inl (0, 5, .inl (fun _ => 0)), .inl (0, 5, .inl (fun _ => 0)), .inl (0, 6, .inl (fun _ => 0)), .inl (0, 12, .inl (fun _ => 0)), .inl (0, 12, .inl (fun _ => 0)), .inl (0, 12, .inl (fun _ => 0)), .inl (1, 12, .inl (fun _ => 0)), .inl (0, 60, .inl (fun _ => 0)), .inl (0, 60, .inl (fun _ => 0)), .inl (0, 60, .inl (fun _ => 0))]) rfl ?_
  refine g_aload_n C0 dX10_init_118 rfl ?_
  refine g_sipush (v := nI 300) C0 dX10_init_119 (by decide +kernel) ?_
  refine g_newarray C0 dX10_init_122 (KAi 300) rfl (by decide) rfl rfl rfl (by decide) (by decide) ?_
  refine g_putfinal C0 dX10_init_124 FX10_56 rfl rfl rfl (Nat.le_of_ble_eq_true rfl) (fun _ => ⟨rfl, rfl⟩) ?_
  refine g_w (w2 := [.inr (10, [.int 0, .int 0, .ref 1, .ref 2, .ref 3, .ref 4, .ref 5, .ref 6, .ref 7, .int 0, .ref 8, .ref 9, .ref 10, .ref 11, .ref 12, .int 0, .int 0, .ref 13, .ref 14, .ref 15, .ref 16, .int 0, .int 0, .null, .null, .null, .null, .null, .null, .null, .int 0, .null]), .inl (0, 5, .inl (fun _ => 0)), .inl (0, 5, .inl (fun _ => 0)), .inl (0, 5, .inl (fun _ => 0)), .inl (0, 25, .inl (fun _ => 0)), .inl (0, 5, .inl (fun _ => 0)), .inl (0, 5, .inl (fun _ => 0)), .inl (0, 5, .inl (fun _ => 0)), .inl (0, 6, .inl (fun _ => 0)), .inl (0, 12, .inl (fun _ => 0)), .inl (0, 12, .inl (fun _ => 0)), .inl (0, 12, .inl (fun _ => 0)), .inl (1, 12, .inl (fun _ => 0)), .inl (0, 60, .inl (fun _ => 0)), .inl (0, 60, .inl (fun _ => 0)), .inl (0, 60, .inl (fun _ => 0)), .inl (0, 300, .inl (fun _ => 0))]) rfl ?_
  refine g_aload_n C0 dX10_init_127 rfl ?_
  refine g_bipush (v := nI 60) C0 dX10_init_128 (by decide +kernel) ?_
  refine g_newarray C0 dX10_init_130 (KAi 60) rfl (by decide) rfl rfl rfl (by decide) (by decide) ?_
  refine g_putfinal C0 dX10_init_132 FX10_59 rfl rfl rfl (Nat.le_of_ble_eq_true rfl) (fun _ => ⟨rfl, rfl⟩) ?_
  refine g_w (w2 := [.inr (10, [.int 0, .int 0, .ref 1, .ref 2, .ref 3, .ref 4, .ref 5, .ref 6, .ref 7, .int 0, .ref 8, .ref 9, .ref 10, .ref 11, .ref 12, .int 0, .int 0, .ref 13, .ref 14, .ref 15, .ref 16, .int 0, .int 0, .ref 17, .null, .null, .null, .null, .null, .null, .int 0, .null]), .inl (0, 5, .inl (fun _ => 0)), .inl (0, 5, .inl (fun _ => 0)), .inl (0, 5, .inl (fun _ => 0)), .inl (0, 25, .inl (fun _ => 0)), .inl (0, 5, .inl (fun _ => 0)), .inl (0, 5, .inl (fun _ => 0)), .inl (0, 5, .inl (fun _ => 0)), .inl (0, 6, .inl (fun _ => 0)), .inl (0, 12, .inl (fun _ => 0)), .inl (0, 12, .inl (fun _ => 0)), .inl (0, 12, .inl (fun _ => 0)), .inl (1, 12, .inl (fun _ => 0)), .inl (0, 60, .inl (fun _ => 0)), .inl (0, 60, .inl (fun _ => 0)), .inl (0, 60, .inl (fun _ => 0)), .inl (0, 300, .inl (fun _ => 0)), .inl (0, 60, .inl (fun _ => 0))]) rfl ?_
  refine g_aload_n C0 dX10_init_135 rfl ?_
  refine g_bipush (v := nI 60) C0 dX10_init_136 (by decide +kernel) ?_
  refine g_newarray C0 dX10_init_138 (KAi 60) rfl (by decide) rfl rfl rfl (by decide) (by decide) ?_
  refine g_putfinal C0 dX10_init_140 FX10_62 rfl rfl rfl (Nat.le_of_ble_eq_true rfl) (fun _ => ⟨rfl, rfl⟩) ?_
  refine g_w (w2 := [.inr (10, [.int 0, .int 0, .ref 1, .ref 2, .ref 3, .ref 4, .ref 5, .ref 6, .ref 7, .int 0, .ref 8, .ref 9, .ref 10, .ref 11, .ref 12, .int 0, .int 0, .ref 13, .ref 14, .ref 15, .ref 16, .int 0, .int 0, .ref 17, .ref 18, .null, .null, .null, .null, .null, .int 0, .null]), .inl (0, 5, .inl (fun _ => 0)), .inl (0, 5, .inl (fun _ => 0)), .inl (0, 5, .inl (fun _ => 0)), .inl (0, 25, .inl (fun _ => 0)), .inl (0, 5, .inl (fun _ => 0)), .inl (0, 5, .inl (fun _ => 0)), .inl (0, 5, .inl (fun _ => 0)), .inl (0, 6, .inl (fun _ => 0)), .inl (0, 12, .inl (fun _ => 0)), .inl (0, 12, .inl (fun _ => 0)), .inl (0, 12, .inl (fun _ => 0)), .inl (1, 12, .inl (fun _ => 0)), .inl (0, 60, .inl (fun _ => 0)), .inl (0, 60, .inl (fun _ => 0)), .inl (0, 60, .inl (fun _ => 0)), .inl (0, 300, .inl (fun _ => 0)), .inl (0, 60, .inl (fun _ => 0)), .inl (0, 60, .inl (fun _ => 0))]) rfl ?_
  refine g_aload_n C0 dX10_init_143 rfl ?_
  refine g_bipush (v := nI 60) C0 dX10_init_144 (by decide +kernel) ?_
  refine g_newarray C0 dX10_init_146 (KAi 60) rfl (by decide) rfl rfl rfl (by decide) (by decide) ?_
  refine g_putfinal C0 dX10_init_148 FX10_65 rfl rfl rfl (Nat.le_of_ble_eq_true rfl) (fun _ => ⟨rfl, rfl⟩) ?_
  refine g_w (w2 := [.inr (10, [.int 0, .int 0, .ref 1, .ref 2, .ref 3, .ref 4, .ref 5, .ref 6, .ref 7, .int 0, .ref 8, .ref 9, .ref 10, .ref 11, .ref 12, .int 0, .int 0, .ref 13, .ref 14, .ref 15, .ref 16, .int 0, .int 0, .ref 17, .ref 18, .ref 19, .null, .null, .null, .null, .int 0, .null]), .inl (0, 5, .inl (fun _ => 0)), .inl (0, 5, .inl (fun _ => 0)), .inl (0, 5, .inl (fun _ => 0)), .inl (0, 25, .inl (fun _ => 0)), .inl (0, 5, .inl (fun _ => 0)), .inl (0, 5, .inl (fun _ => 0)), .inl (0, 5, .inl (fun _ => 0)), .inl (0, 6, .inl (fun _ => 0)), .inl (0, 12, .inl (fun _ => 0)), .inl (0, 12, .inl (fun _ => 0)), .inl (0, 12, .inl (fun _ => 0)), .inl (1, 12, .inl (fun _ => 0)), .inl (0, 60, .inl (fun _ => 0)), .inl (0, 60, .inl (fun _ => 0)), .inl (0, 60, .inl (fun _ => 0)), .inl (0, 300, .inl (fun _ => 0)), .inl (0, 60, .inl (fun _ => 0)), .inl (0, 60, .inl (fun _ => 0)), .inl (0, 60, .inl (fun _ => 0))]) rfl ?_
  refine g_aload_n C0 dX10_init_151 rfl ?_
  refine g_bipush (v := nI 60) C0 dX10_init_152 (by decide +kernel) ?_
  refine g_newarray C0 dX10_init_154 (KAi 60) rfl (by decide) rfl rfl rfl (by decide) (by decide) ?_
  refine g_putfinal C0 dX10_init_156 FX10_68 rfl rfl rfl (Nat.le_of_ble_eq_true rfl) (fun _ => ⟨rfl, rfl⟩) ?_
  refine g_w (w2 := [.inr (10, [.int 0, .int 0, .ref 1, .ref 2, .ref 3, .ref 4, .ref 5, .ref 6, .ref 7, .int 0, .ref 8, .ref 9, .ref 10, .ref 11, .ref 12, .int 0, .int 0, .ref 13, .ref 14, .ref 15, .ref 16, .int 0, .int 0, .ref 17, .ref 18, .ref 19, .ref 20, .null, .null, .null, .int 0, .null]), .inl (0, 5, .inl (fun _ => 0)), .inl (0, 5, .inl (fun _ => 0)), .inl (0, 5, .inl (fun _ => 0)), .inl (0, 25, .inl (fun _ => 0)), .inl (0, 5, .inl (fun _ => 0)), .inl (0, 5, .inl (fun _ => 0)), .inl (0, 5, .inl (fun _ => 0)), .inl (0, 6, .inl (fun _ => 0)), .inl (0, 12, .inl (fun _ => 0)), .inl (0, 12, .inl (fun _ => 0)), .inl (0, 12, .inl (fun _ => 0)), .inl (1, 12, .inl (fun _ => 0)), .inl (0, 60, .inl (fun _ => 0)), .inl (0, 60, .inl (fun _ => 0)), .inl (0, 60, .inl (fun _ => 0)), .inl (0, 300, .inl (fun _ => 0)), .inl (0, 60, .inl (fun _ => 0)), .inl (0, 60, .inl (fun _ => 0)), .inl (0, 60, .inl (fun _ => 0)), .inl (0, 60, .inl (fun _ => 0))]) rfl ?_
  refine g_aload_n C0 dX10_init_159 rfl ?_
  refine g_sipush (v := nI 300) C0 dX10_init_160 (by decide +kernel) ?_
  refine g_newarray C0 dX10_init_163 (KAi 300) rfl (by decide) rfl rfl rfl (by decide) (by decide) ?_
  refine g_putfinal C0 dX10_init_165 FX10_71 rfl rfl rfl (Nat.le_of_ble_eq_true rfl) (fun _ => ⟨rfl, rfl⟩) ?_
  refine g_w (w2 := [.inr (10, [.int 0, .int 0, .ref 1, .ref 2, .ref 3, .ref 4, .ref 5, .ref 6, .ref 7, .int 0, .ref 8, .ref 9, .ref 10, .ref 11, .ref 12, .int 0, .int 0, .ref 13, .ref 14, .ref 15, .ref 16, .int 0, .int 0, .ref 17, .ref 18, .ref 19, .ref 20, .ref 21, .null, .null, .int 0, .null]), .inl (0, 5, .inl (fun _ => 0)), .inl (0, 5, .inl (fun _ => 0)), .inl (0, 5, .inl (fun _ => 0)), .inl (0, 25, .inl (fun _ => 0)), .inl (0, 5, .inl (fun _ => 0)), .inl (0, 5, .inl (fun _ => 0)), .inl (0, 5, .inl (fun _ => 0)), .inl (0, 6, .inl (fun _ => 0)), .inl (0, 12, .inl (fun _ => 0)), .inl (0, 12, .inl (fun _ => 0)), .inl (0, 12, .inl (fun _ => 0)), .inl (1, 12, .inl (fun _ => 0)), .inl (0, 60, .inl (fun _ => 0)), .inl (0, 60, .inl (fun _ => 0)), .inl (0, 60, .inl (fun _ => 0)), .inl (0, 300, .inl (fun _ => 0)), .inl (0, 60, .inl (fun _ => 0)), .inl (0, 60, .inl (fun _ => 0)), .inl (0, 60, .inl (fun _ => 0)), .inl (0, 60, .inl (fun _ => 0)), .inl (0, 300, .inl (fun _ => 0))]) rfl ?_
  refine g_aload_n C0 dX10_init_168 rfl ?_
  refine g_bipush (v := nI 60) C0 dX10_init_169 (by decide +kernel) ?_
  refine g_newarray C0 dX10_init_171 (KAi 60) rfl (by decide) rfl rfl rfl (by decide) (by decide) ?_
  refine g_putfinal C0 dX10_init_173 FX10_74 rfl rfl rfl (Nat.le_of_ble_eq_true rfl) (fun _ => ⟨rfl, rfl⟩) ?_
  refine g_w (w2 := [.inr (10, [.int 0, .int 0, .ref 1, .ref 2, .ref 3, .ref 4, .ref 5, .ref 6, .ref 7, .int 0, .ref 8, .ref 9, .ref 10, .ref 11, .ref 12, .int 0, .int 0, .ref 13, .ref 14, .ref 15, .ref 16, .int 0, .int 0, .ref 17, .ref 18, .ref 19, .ref 20, .ref 21, .ref 22, .null, .int 0, .null]), .inl (0, 5, .inl (fun _ => 0)), .inl (0, 5, .inl (fun _ => 0)), .inl (0, 5, .inl (fun _ => 0)), .inl (0, 25, .inl (fun _ => 0)), .inl (0, 5, .inl (fun _ => 0)), .inl (0, 5, .inl (fun _ => 0)), .inl (0, 5, .inl (fun _ => 0)), .inl (0, 6, .inl (fun _ => 0)), .inl (0, 12, .inl (fun _ => 0)), .inl (0, 12, .inl (fun _ => 0)), .inl (0, 12, .inl (fun _ => 0)), .inl (1, 12, .inl (fun _ => 0)), .inl (0, 60, .inl (fun _ => 0)), .inl (0, 60, .inl (fun _ => 0)), .inl (0, 60, .inl (fun _ => 0)), .inl (0, 300, .inl (fun _ => 0)), .inl (0, 60, .inl (fun _ => 0)), .inl (0, 60, .inl (fun _ => 0)), .inl (0, 60, .inl (fun _ => 0)), .inl (0, 60, .inl (fun _ => 0)), .inl (0, 300, .inl (fun _ => 0)), .inl (0, 60, .inl (fun _ => 0))]) rfl ?_
  refine g_aload_n C0 dX10_init_176 rfl ?_
  refine g_bipush (v := nI 60) C0 dX10_init_177 (by decide +kernel) ?_
  refine g_newarray C0 dX10_init_179 (KAi 60) rfl (by decide) rfl rfl rfl (by decide) (by decide) ?_
  refine g_putfinal C0 dX10_init_181 FX10_77 rfl rfl rfl (Nat.le_of_ble_eq_true rfl) (fun _ => ⟨rfl, rfl⟩) ?_
  refine g_w (w2 := [.inr (10, [.int 0, .int 0, .ref 1, .ref 2, .ref 3, .ref 4, .ref 5, .ref 6, .ref 7, .int 0, .ref 8, .ref 9, .ref 10, .ref 11, .ref 12, .int 0, .int 0, .ref 13, .ref 14, .ref 15, .ref 16, .int 0, .int 0, .ref 17, .ref 18, .ref 19, .ref 20, .ref 21, .ref 22, .ref 23, .int 0, .null]), .inl (0, 5, .inl (fun _ => 0)), .inl (0, 5, .inl (fun _ => 0)), .inl (0, 5, .inl (fun _ => 0)), .inl (0, 25, .inl (fun _ => 0)), .inl (0, 5, .inl (fun _ => 0)), .inl (0, 5, .inl (fun _ => 0)), .inl (0, 5, .inl (fun _ => 0)), .inl (0, 6, .inl (fun _ => 0)), .inl (0, 12, .inl (fun _ => 0)), .inl (0, 12, .inl (fun _ => 0)), .inl (0, 12, .inl (fun _ => 0)), .inl (1, 12, .inl (fun _ => 0)), .inl (0, 60, .inl (fun _ => 0)), .inl (0, 60, .inl (fun _ => 0)), .inl (0, 60, .inl (fun _ => 0)), .inl (0, 300, .inl (fun _ => 0)), .inl (0, 60, .inl (fun _ => 0)), .inl (0, 60, .inl (fun _ => 0)), .inl (0, 60, .inl (fun _ => 0)), .inl (0, 60, .inl (fun _ => 0)), .inl (0, 300, .inl (fun _ => 0)), .inl (0, 60, .inl (fun _ => 0)), .inl (0, 60, .inl (fun _ => 0))]) rfl ?_
  refine g_aload_n C0 dX10_init_184 rfl ?_
  refine g_iconst (v := nI 5) C0 dX10_init_185 (by decide +kernel) ?_
  refine g_newarray C0 dX10_init_186 (KAi 5) rfl (by decide) rfl rfl rfl (by decide) (by decide) ?_
  refine g_putfinal C0 dX10_init_188 FX10_80 rfl rfl rfl (Nat.le_of_ble_eq_true rfl) (fun _ => ⟨rfl, rfl⟩) ?_
  refine g_w (w2 := [.inr (10, [.int 0, .int 0, .ref 1, .ref 2, .ref 3, .ref 4, .ref 5, .ref 6, .ref 7, .int 0, .ref 8, .ref 9, .ref 10, .ref 11, .ref 12, .int 0, .int 0, .ref 13, .ref 14, .ref 15, .ref 16, .int 0, .int 0, .ref 17, .ref 18, .ref 19, .ref 20, .ref 21, .ref 22, .ref 23, .int 0, .ref 24]), .inl (0, 5, .inl (fun _ => 0)), .inl (0, 5, .inl (fun _ => 0)), .inl (0, 5, .inl (fun _ => 0)), .inl (0, 25, .inl (fun _ => 0)), .inl (0, 5, .inl (fun _ => 0)), .inl (0, 5, .inl (fun _ => 0)), .inl (0, 5, .inl (fun _ => 0)), .inl (0, 6, .inl (fun _ => 0)), .inl (0, 12, .inl (fun _ => 0)), .inl (0, 12, .inl (fun _ => 0)), .inl (0, 12, .inl (fun _ => 0)), .inl (1, 12, .inl (fun _ => 0)), .inl (0, 60, .inl (fun _ => 0)), .inl (0, 60, .inl (fun _ => 0)), .inl (0, 60, .inl (fun _ => 0)), .inl (0, 300, .inl (fun _ => 0)), .inl (0, 60, .inl (fun _ => 0)), .inl (0, 60, .inl (fun _ => 0)), .inl (0, 60, .inl (fun _ => 0)), .inl (0, 60, .inl (fun _ => 0)), .inl (0, 300, .inl (fun _ => 0)), .inl (0, 60, .inl (fun _ => 0)), .inl (0, 60, .inl (fun _ => 0)), .inl (0, 5, .inl (fun _ => 0))]) rfl ?_
  refine g_iconst (v := nI 0) C0 dX10_init_191 (by decide +kernel) ?_
  refine g_istore_n C0 dX10_init_192 (by decide) ?_
  refine g_w (w2 := WM mZ) rfl ?_
  refine g_widen (cs2 := 24) (ss2 := 1600) (by decide) (by decide) ?_
  exact ml_i1 hK C0 5 0 rfl

/-! ===== the law's loop ===== -/
theorem wl {w0 : AW} {x y : XS} {f : Nat → Int32} (h : w0.length = 169) : (W2 x y f).length = w0.length := (W2_len x y f).trans h.symm
theorem wll (x y x2 y2 : XS) (f f2 : Nat → Int32) : (W2 x2 y2 f2).length = (W2 x y f).length := (W2_len _ _ _).trans (W2_len _ _ _).symm
set_option maxRecDepth 100000 in
set_option maxHeartbeats 4000000 in
theorem la_end {X : CX} {S : SX} (C0 : Ok X S ML_law) {L : Nat} {xs : Nat → Int32} (SC : SCR X S 169 L xs) (hw0 : S.2.2.1.length = 169) (hL : L ≤ 260) (hK : ∀ w, SK S (.inl (some (.int 1))) w) {q y : XS} {f : Nat → Int32} {B T th k : Nat} {o7 o8 o9 o10 o11 o12 : Option Value} (I : IV B T (f 0) q) (hB : B ≤ 10000) (hT : T + 1000 ≤ 20000) : Gd X S ML_law 281 [some (.ref 169), some (.ref 0), some (.ref 84), some (.ref 168), some (.int (nI th)), some (.int (nI 1)), some (.int (nI k)), o7, o8, o9, o10, o11, o12] [] (W2 q y f) (400000) (3000000) := by
  obtain ⟨m, hm, em⟩ := dw_n L xs 0
  refine g_iload C0 dL_law_281 rfl ?_
  refine g_if_eq (tgt := 330) C0 dL_law_283 (by decide) (fun z => absurd z (by decide +kernel)) (fun _ => ?_)
  refine g_aload_n C0 dL_law_286 rfl ?_
  refine g_aload_n C0 dL_law_287 rfl ?_
  refine g_aload_n C0 dL_law_288 rfl ?_
  refine g_iconst (v := nI 0) C0 dL_law_289 (by decide +kernel) ?_
  refine g_invSS (As := [.ref 169, .int (nI (0))]) C0 SC (wl hw0) dL_law_290 CL_230 rfl rfl rfl ⟨by decide, by decide, (by show 400000 + 0 ≤ 600130; omega), (by show 3000000 + 0 ≤ 7301080; omega)⟩ (Nat.le_of_ble_eq_true rfl) (k_drawn hL (by omega) (Aft_v rfl ?_))
  rw [em]
  refine g_bipush (v := nI 27) C0 dL_law_293 (by decide +kernel) ?_
  refine g_divN C0 dL_law_295 (by decide) (by decide) (by omega) ?_
  refine g_invS (As := [.ref 0, .ref 168, .int (nI (m / 27))]) C0 dL_law_296 CL_246 rfl rfl rfl ⟨by decide, by decide, (by show 400000 + 0 + 3000 ≤ 600130; omega), (by show 3000000 + 0 + 18000 ≤ 7301080; omega)⟩ (Nat.le_of_ble_eq_true rfl) (k_holds I hB (HC.one _ _ _ _) (W2_arr _ _ _) rfl (by omega) (Aft_v rfl ?_))
  refine g_if_eq (tgt := 330) C0 dL_law_299 (by decide) (fun z => absurd z (by decide)) (fun _ => ?_)
  refine g_aload_n C0 dL_law_302 rfl ?_
  refine g_aload_n C0 dL_law_303 rfl ?_
  refine g_invS (As := [.ref 0, .ref 168]) C0 dL_law_304 CL_250 rfl rfl rfl ⟨by decide, by decide, (by show 400000 + 0 + 3000 + 1000 ≤ 600130; omega), (by show 3000000 + 0 + 18000 + 6000 ≤ 7301080; omega)⟩ (Nat.le_of_ble_eq_true rfl) (k_ends I hT (fun q2 f2 I2 => Aft_v (wll _ _ _ _ _ _) ?_))
  refine g_if_eq (tgt := 330) C0 dL_law_307 (by decide) (fun z => absurd z (by decide)) (fun _ => ?_)
  refine g_aload_n C0 dL_law_310 rfl ?_
  refine g_aload_n C0 dL_law_311 rfl ?_
  refine g_aload_n C0 dL_law_312 rfl ?_
  refine g_iconst (v := nI 0) C0 dL_law_313 (by decide +kernel) ?_
  refine g_invSS (As := [.ref 169, .int (nI (0))]) C0 SC (wl hw0) dL_law_314 CL_230 rfl rfl rfl ⟨by decide, by decide, (by show 400000 + 0 + 3000 + 1000 + 0 ≤ 600130; omega), (by show 3000000 + 0 + 18000 + 6000 + 0 ≤ 7301080; omega)⟩ (Nat.le_of_ble_eq_true rfl) (k_drawn hL (by omega) (Aft_v rfl ?_))
  rw [em]
  refine g_bipush (v := nI 29) C0 dL_law_317 (by decide +kernel) ?_
  refine g_divN C0 dL_law_319 (by decide) (by decide) (by omega) ?_
  refine g_invS (As := [.ref 0, .ref 168, .int (nI (m / 29))]) C0 dL_law_320 CL_246 rfl rfl rfl ⟨by decide, by decide, (by show 400000 + 0 + 3000 + 1000 + 0 + 3000 ≤ 600130; omega), (by show 3000000 + 0 + 18000 + 6000 + 0 + 18000 ≤ 7301080; omega)⟩ (Nat.le_of_ble_eq_true rfl) (k_holds I2 hB (HC.one _ _ _ _) (W2_arr _ _ _) rfl (by omega) (Aft_v rfl ?_))
  refine g_if_eq (tgt := 330) C0 dL_law_323 (by decide) (fun z => absurd z (by decide)) (fun _ => ?_)
  refine g_iconst (v := nI 1) C0 dL_law_326 (by decide +kernel) ?_
  refine g_goto (tgt := 331) C0 dL_law_327 (by decide) ?_
  exact g_zret C0 rfl rfl dL_law_331 (by show 400000 + 0 + 3000 + 1000 + 0 + 3000 ≤ 600130; omega) (by show 3000000 + 0 + 18000 + 6000 + 0 + 18000 ≤ 7301080; omega) (hK _)
set_option maxRecDepth 100000 in
set_option maxHeartbeats 4000000 in
theorem la_268 {X : CX} {S : SX} (C0 : Ok X S ML_law) {L : Nat} {xs : Nat → Int32} (SC : SCR X S 169 L xs) (hw0 : S.2.2.1.length = 169) (hL : L ≤ 260) (hK : ∀ w, SK S (.inl (some (.int 1))) w) {q : XS} {f : Nat → Int32} {B T : Nat} {m th k : Nat} {o8 o9 o10 o11 o12 : Option Value} (hm : m < 2 ^ 31) (hk : k < 46) (next : ∀ q f o7 o8 o9 o10 o11 o12, IV B T (f 0) q → Gd X S ML_law 39 [some (.ref 169), some (.ref 0), some (.ref 84), some (.ref 168), some (.int (nI th)), some (.int (nI 1)), some (.int (nI (k + 1))), o7, o8, o9, o10, o11, o12] [] (W2 q q f) (1000 + 7000 * (k + 1)) (30000 + 42000 * (k + 1))) (I : IV B T (f 0) q) : Gd X S ML_law 268 [some (.ref 169), some (.ref 0), some (.ref 84), some (.ref 168), some (.int (nI th)), some (.int (nI 1)), some (.int (nI k)), some (.int (nI m)), o8, o9, o10, o11, o12] [] (W2 q q f) (1000 + 7000 * k + 5603) (30000 + 42000 * k + 33618) := by
  refine g_iconst (v := nI 1) C0 dL_law_268 (by decide +kernel) ?_
  refine g_goto (tgt := 273) C0 dL_law_269 (by decide) ?_
  refine g_istore C0 dL_law_273 (by decide) ?_
  refine g_iinc (v := nI (k + 1)) C0 dL_law_275 rfl (nI_1 _) (by decide) ?_
  refine g_goto (tgt := 39) C0 dL_law_278 (by decide) ?_
  refine g_widen (cs2 := 1000 + 7000 * (k + 1)) (ss2 := 30000 + 42000 * (k + 1)) (by show 1000 + 7000 * k + 5603 ≤ _; omega) (by show 30000 + 42000 * k + 33618 ≤ _; omega) ?_
  exact next _ _ _ _ _ _ _ _ I
set_option maxRecDepth 100000 in
set_option maxHeartbeats 4000000 in
theorem la_248 {X : CX} {S : SX} (C0 : Ok X S ML_law) {L : Nat} {xs : Nat → Int32} (SC : SCR X S 169 L xs) (hw0 : S.2.2.1.length = 169) (hL : L ≤ 260) (hK : ∀ w, SK S (.inl (some (.int 1))) w) {q : XS} {f : Nat → Int32} {B T : Nat} {m th k : Nat} {o8 o9 o10 o11 o12 : Option Value} (hm : m < 2 ^ 31) (hk : k < 46) (next : ∀ q f o7 o8 o9 o10 o11 o12, IV B T (f 0) q → Gd X S ML_law 39 [some (.ref 169), some (.ref 0), some (.ref 84), some (.ref 168), some (.int (nI th)), some (.int (nI 1)), some (.int (nI (k + 1))), o7, o8, o9, o10, o11, o12] [] (W2 q q f) (1000 + 7000 * (k + 1)) (30000 + 42000 * (k + 1))) (I : IV B T (f 0) q) (hB : B ≤ 10000) : Gd X S ML_law 248 [some (.ref 169), some (.ref 0), some (.ref 84), some (.ref 168), some (.int (nI th)), some (.int (nI 1)), some (.int (nI k)), some (.int (nI m)), o8, o9, o10, o11, o12] [] (W2 q q f) (1000 + 7000 * k + 2603) (30000 + 42000 * k + 15618) := by
  refine g_iload C0 dL_law_248 rfl ?_
  refine g_iconst (v := nI 5) C0 dL_law_250 (by decide +kernel) ?_
  refine g_remN C0 dL_law_251 (by decide) (by decide) (by omega) ?_
  refine g_if_gt (tgt := 268) C0 dL_law_252 (by decide) (fun _ => ?_) (fun _ => ?_)
  · refine g_widen (cs2 := 1000 + 7000 * k + 5603) (ss2 := 30000 + 42000 * k + 33618) (by show 1000 + 7000 * k + 2603 ≤ _; omega) (by show 30000 + 42000 * k + 15618 ≤ _; omega) ?_
    exact la_268 C0 SC hw0 hL hK hm hk next I
  refine g_aload_n C0 dL_law_255 rfl ?_
  refine g_aload_n C0 dL_law_256 rfl ?_
  refine g_iload C0 dL_law_257 rfl ?_
  refine g_bipush (v := nI 7) C0 dL_law_259 (by decide +kernel) ?_
  refine g_divN C0 dL_law_261 (by decide) (by decide) (by omega) ?_
  refine g_invS (As := [.ref 84, .ref 168, .int (nI (m / 7))]) C0 dL_law_262 CL_246 rfl rfl rfl ⟨by decide, by decide, (by show 1000 + 7000 * k + 2603 + 3000 ≤ 600130; omega), (by show 30000 + 42000 * k + 15618 + 18000 ≤ 7301080; omega)⟩ (Nat.le_of_ble_eq_true rfl) (k_holds I hB (HC.two _ _ _ _) (W2_arr _ _ _) rfl (by omega) (Aft_v rfl ?_))
  refine g_if_eq (tgt := 272) C0 dL_law_265 (by decide) (fun z => absurd z (by decide)) (fun _ => ?_)
  refine g_widen (cs2 := 1000 + 7000 * k + 5603) (ss2 := 30000 + 42000 * k + 33618) (by show 1000 + 7000 * k + 2603 + 3000 ≤ _; omega) (by show 30000 + 42000 * k + 15618 + 18000 ≤ _; omega) ?_
  exact la_268 C0 SC hw0 hL hK hm hk next I
set_option maxRecDepth 100000 in
set_option maxHeartbeats 4000000 in
theorem la_229 {X : CX} {S : SX} (C0 : Ok X S ML_law) {L : Nat} {xs : Nat → Int32} (SC : SCR X S 169 L xs) (hw0 : S.2.2.1.length = 169) (hL : L ≤ 260) (hK : ∀ w, SK S (.inl (some (.int 1))) w) {q : XS} {f : Nat → Int32} {B T : Nat} {m th k : Nat} {o8 o9 o10 o11 o12 : Option Value} (hm : m < 2 ^ 31) (hk : k < 46) (next : ∀ q f o7 o8 o9 o10 o11 o12, IV B T (f 0) q → Gd X S ML_law 39 [some (.ref 169), some (.ref 0), some (.ref 84), some (.ref 168), some (.int (nI th)), some (.int (nI 1)), some (.int (nI (k + 1))), o7, o8, o9, o10, o11, o12] [] (W2 q q f) (1000 + 7000 * (k + 1)) (30000 + 42000 * (k + 1))) (I : IV B T (f 0) q) (hB : B ≤ 10000) : Gd X S ML_law 229 [some (.ref 169), some (.ref 0), some (.ref 84), some (.ref 168), some (.int (nI th)), some (.int (nI 1)), some (.int (nI k)), some (.int (nI m)), o8, o9, o10, o11, o12] [] (W2 q q f) (1000 + 7000 * k + 1603) (30000 + 42000 * k + 9618) := by
  refine g_iload C0 dL_law_229 rfl ?_
  refine g_iconst (v := nI 2) C0 dL_law_231 (by decide +kernel) ?_
  refine g_remN C0 dL_law_232 (by decide) (by decide) (by omega) ?_
  refine g_if_gt (tgt := 248) C0 dL_law_233 (by decide) (fun _ => ?_) (fun _ => ?_)
  · refine g_widen (cs2 := 1000 + 7000 * k + 2603) (ss2 := 30000 + 42000 * k + 15618) (by show 1000 + 7000 * k + 1603 ≤ _; omega) (by show 30000 + 42000 * k + 9618 ≤ _; omega) ?_
    exact la_248 C0 SC hw0 hL hK hm hk next I hB
  refine g_aload_n C0 dL_law_236 rfl ?_
  refine g_aload_n C0 dL_law_237 rfl ?_
  refine g_iload C0 dL_law_238 rfl ?_
  refine g_iconst (v := nI 3) C0 dL_law_240 (by decide +kernel) ?_
  refine g_divN C0 dL_law_241 (by decide) (by decide) (by omega) ?_
  refine g_invS (As := [.ref 0, .ref 84, .int (nI (m / 3))]) C0 dL_law_242 CL_242 rfl rfl rfl ⟨by decide, by decide, (by show 1000 + 7000 * k + 1603 + 1000 ≤ 600130; omega), (by show 30000 + 42000 * k + 9618 + 6000 ≤ 7301080; omega)⟩ (Nat.le_of_ble_eq_true rfl) (k_alike I (fun q2 I2 => Aft_v (wll _ _ _ _ _ _) ?_))
  refine g_if_eq (tgt := 272) C0 dL_law_245 (by decide) (fun z => absurd z (by decide)) (fun _ => ?_)
  refine g_widen (cs2 := 1000 + 7000 * k + 2603) (ss2 := 30000 + 42000 * k + 15618) (by show 1000 + 7000 * k + 1603 + 1000 ≤ _; omega) (by show 30000 + 42000 * k + 9618 + 6000 ≤ _; omega) ?_
  exact la_248 C0 SC hw0 hL hK hm hk next I2 hB
set_option maxRecDepth 100000 in
set_option maxHeartbeats 4000000 in
theorem la_204 {X : CX} {S : SX} (C0 : Ok X S ML_law) {L : Nat} {xs : Nat → Int32} (SC : SCR X S 169 L xs) (hw0 : S.2.2.1.length = 169) (hL : L ≤ 260) (hK : ∀ w, SK S (.inl (some (.int 1))) w) {q : XS} {f : Nat → Int32} {B T : Nat} {m th k : Nat} {o8 o9 o10 o11 o12 : Option Value} (hm : m < 2 ^ 31) (hk : k < 46) (next : ∀ q f o7 o8 o9 o10 o11 o12, IV B T (f 0) q → Gd X S ML_law 39 [some (.ref 169), some (.ref 0), some (.ref 84), some (.ref 168), some (.int (nI th)), some (.int (nI 1)), some (.int (nI (k + 1))), o7, o8, o9, o10, o11, o12] [] (W2 q q f) (1000 + 7000 * (k + 1)) (30000 + 42000 * (k + 1))) (I : IV B T (f 0) q) (hB : B ≤ 10000) : Gd X S ML_law 204 [some (.ref 169), some (.ref 0), some (.ref 84), some (.ref 168), some (.int (nI th)), some (.int (nI 1)), some (.int (nI k)), some (.int (nI m)), o8, o9, o10, o11, o12] [] (W2 q q f) (1000 + 7000 * k + 1403) (30000 + 42000 * k + 8418) := by
  refine g_iload C0 dL_law_204 rfl ?_
  refine g_if_eq (tgt := 272) C0 dL_law_206 (by decide) (fun z => absurd z (by decide +kernel)) (fun _ => ?_)
  refine g_iload C0 dL_law_209 rfl ?_
  refine g_iconst (v := nI 3) C0 dL_law_211 (by decide +kernel) ?_
  refine g_remN C0 dL_law_212 (by decide) (by decide) (by omega) ?_
  refine g_if_gt (tgt := 229) C0 dL_law_213 (by decide) (fun _ => ?_) (fun _ => ?_)
  · refine g_widen (cs2 := 1000 + 7000 * k + 1603) (ss2 := 30000 + 42000 * k + 9618) (by show 1000 + 7000 * k + 1403 ≤ _; omega) (by show 30000 + 42000 * k + 8418 ≤ _; omega) ?_
    exact la_229 C0 SC hw0 hL hK hm hk next I hB
  have I0 := I
  obtain ⟨t, r, E⟩ := I
  refine g_aload_n C0 dL_law_216 rfl ?_
  refine g_iload C0 dL_law_217 rfl ?_
  refine g_sipush (v := nI 499) C0 dL_law_219 (by decide +kernel) ?_
  refine g_remN C0 dL_law_222 (by decide) (by decide) (by omega) ?_
  refine g_cs1 C0 dL_law_223 CL_238 rfl ⟨by decide, by decide, (by show 1000 + 7000 * k + 1403 + 200 ≤ 600130; omega), (by show 30000 + 42000 * k + 8418 + 1200 ≤ 7301080; omega)⟩ (Nat.le_of_ble_eq_true rfl) (HC.two _ _ _ _) (k_refuses r E (by omega)) ?_
  refine g_if_eq (tgt := 272) C0 dL_law_226 (by decide) (fun z => absurd z (by decide)) (fun _ => ?_)
  refine g_widen (cs2 := 1000 + 7000 * k + 1603) (ss2 := 30000 + 42000 * k + 9618) (by show 1000 + 7000 * k + 1403 + 200 ≤ _; omega) (by show 30000 + 42000 * k + 8418 + 1200 ≤ _; omega) ?_
  exact la_229 C0 SC hw0 hL hK hm hk next I0 hB
set_option maxRecDepth 100000 in
set_option maxHeartbeats 4000000 in
theorem la_146 {X : CX} {S : SX} (C0 : Ok X S ML_law) {L : Nat} {xs : Nat → Int32} (SC : SCR X S 169 L xs) (hw0 : S.2.2.1.length = 169) (hL : L ≤ 260) (hK : ∀ w, SK S (.inl (some (.int 1))) w) {q t : XS} {f : Nat → Int32} {m th k : Nat} {d b v : Int32} (r : RX q t) (hm : m < 2 ^ 31) (hk : k < 46) (kk : ∀ f2 : Nat → Int32, f2 0 = f 0 + nadd m v d b (q.1 4 (anum m)) → Gd X S ML_law 204 [some (.ref 169), some (.ref 0), some (.ref 84), some (.ref 168), some (.int (nI th)), some (.int (nI 1)), some (.int (nI k)), some (.int (nI m)), some (.int (nI (m % 32))), some (.int (nI (anum m))), some (.int d), some (.int b), some (.int v)] [] (W2 q q f2) (1000 + 7000 * k + 1403) (30000 + 42000 * k + 8418)) : Gd X S ML_law 146 [some (.ref 169), some (.ref 0), some (.ref 84), some (.ref 168), some (.int (nI th)), some (.int (nI 1)), some (.int (nI k)), some (.int (nI m)), some (.int (nI (m % 32))), some (.int (nI (anum m))), some (.int d), some (.int b), some (.int v)] [] (W2 q q f) (1000 + 7000 * k + 1402) (30000 + 42000 * k + 8412) := by
  have J202 : ∀ a : Int32, a = nadd m v d b (q.1 4 (anum m)) → Gd X S ML_law 202 [some (.ref 169), some (.ref 0), some (.ref 84), some (.ref 168), some (.int (nI th)), some (.int (nI 1)), some (.int (nI k)), some (.int (nI m)), some (.int (nI (m % 32))), some (.int (nI (anum m))), some (.int d), some (.int b), some (.int v)] [.int a, .int (f 0), .int (nI 0), .ref 168] (W2 q q f) (1000 + 7000 * k + 1403) (30000 + 42000 * k + 8418) := fun a ea => by
    subst ea
    refine g_iadd C0 dL_law_202 ?_
    refine g_iastore C0 dL_law_203 (W2_arr _ _ _) (vp_in_nI (by decide) (by decide)) ?_
    refine g_w (W2_set _ _ _ _) ?_
    rw [show (nI 0).toNatClampNeg = 0 from nI_clamp (by decide)]
    exact kk _ (pk_us)
  have J201 : nadd m v d b (q.1 4 (anum m)) = 0 → Gd X S ML_law 201 [some (.ref 169), some (.ref 0), some (.ref 84), some (.ref 168), some (.int (nI th)), some (.int (nI 1)), some (.int (nI k)), some (.int (nI m)), some (.int (nI (m % 32))), some (.int (nI (anum m))), some (.int d), some (.int b), some (.int v)] [.int (f 0), .int (nI 0), .ref 168] (W2 q q f) (1000 + 7000 * k + 1402) (30000 + 42000 * k + 8412) := fun ea => by
    refine g_iconst (v := nI 0) C0 dL_law_201 (by decide +kernel) ?_
    refine g_widen (cs2 := 1000 + 7000 * k + 1403) (ss2 := 30000 + 42000 * k + 8418) (by omega) (by omega) ?_
    exact J202 _ (ea.trans nI_0.symm).symm
  have J184 : ¬ m % 32 = 13 → (m % 32 = 14 ∨ m % 32 = 15) → Gd X S ML_law 184 [some (.ref 169), some (.ref 0), some (.ref 84), some (.ref 168), some (.int (nI th)), some (.int (nI 1)), some (.int (nI k)), some (.int (nI m)), some (.int (nI (m % 32))), some (.int (nI (anum m))), some (.int d), some (.int b), some (.int v)] [.int (f 0), .int (nI 0), .ref 168] (W2 q q f) (1000 + 7000 * k + 1402) (30000 + 42000 * k + 8412) := fun h1 h2 => by
    refine g_iload C0 dL_law_184 rfl ?_
    refine g_if_lt (tgt := 201) C0 dL_law_186 (by decide) (fun h3 => ?_) (fun h3 => ?_)
    · refine J201 ?_
      unfold nadd
      rw [if_neg (fun z => h1 z.1), if_neg (fun z => Int32.not_le.mpr h3 z.2)]
    refine g_iload C0 dL_law_189 rfl ?_
    refine g_aload_n C0 dL_law_191 rfl ?_
    refine g_iload C0 dL_law_192 rfl ?_
    refine g_ct1 C0 dL_law_194 CL_159 rfl ⟨by decide, by decide, (by show 1000 + 7000 * k + 1402 + 1 ≤ 600130; omega), (by show 30000 + 42000 * k + 8412 + 6 ≤ 7301080; omega)⟩ (Nat.le_of_ble_eq_true rfl) (HC.one _ _ _ _) (a_bond r (anum_lt m)) ?_
    refine g_isub C0 dL_law_197 ?_
    refine g_goto (tgt := 202) C0 dL_law_198 (by decide) ?_
    refine g_widen (cs2 := 1000 + 7000 * k + 1403) (ss2 := 30000 + 42000 * k + 8418) (by show 1000 + 7000 * k + 1402 + 1 + 0 ≤ _; omega) (by show 30000 + 42000 * k + 8412 + 6 + 0 ≤ _; omega) ?_
    refine J202 _ ?_
    unfold nadd
    rw [if_neg (fun z => h1 z.1), if_pos ⟨h2, Int32.not_lt.mp h3⟩]
  have J170 : ¬ (m % 32 = 13 ∧ 0 ≤ v) → Gd X S ML_law 170 [some (.ref 169), some (.ref 0), some (.ref 84), some (.ref 168), some (.int (nI th)), some (.int (nI 1)), some (.int (nI k)), some (.int (nI m)), some (.int (nI (m % 32))), some (.int (nI (anum m))), some (.int d), some (.int b), some (.int v)] [.int (f 0), .int (nI 0), .ref 168] (W2 q q f) (1000 + 7000 * k + 1402) (30000 + 42000 * k + 8412) := fun h1 => by
    refine g_iload C0 dL_law_170 rfl ?_
    refine g_bipush (v := nI 14) C0 dL_law_172 (by decide +kernel) ?_
    refine g_icmp_eq (tgt := 184) C0 dL_law_174 (by decide) (fun h2 => ?_) (fun h2 => ?_)
    · have h2 := nI_eqI (by omega) (by omega) h2
      exact J184 (by omega) (Or.inl h2)
    · have h2 : ¬ m % 32 = 14 := fun z => h2 (by rw [z])
      refine g_iload C0 dL_law_177 rfl ?_
      refine g_bipush (v := nI 15) C0 dL_law_179 (by decide +kernel) ?_
      refine g_icmp_ne (tgt := 201) C0 dL_law_181 (by decide) (fun h4 => ?_) (fun h4 => ?_)
      · have h4 : ¬ m % 32 = 15 := fun z => h4 (by rw [z])
        refine J201 ?_
        unfold nadd
        rw [if_neg h1, if_neg (fun z => z.1.elim h2 h4)]
      · have h4 := nI_eqI (by omega) (by omega) h4
        exact J184 (by omega) (Or.inr h4)
  refine g_aload_n C0 dL_law_146 rfl ?_
  refine g_iconst (v := nI 0) C0 dL_law_147 (by decide +kernel) ?_
  refine g_dup2 C0 dL_law_148 rfl rfl ?_
  refine g_iaload C0 dL_law_149 (W2_arr _ _ _) (vp_in_nI (by decide) (by decide)) ?_
  rw [show (nI 0).toNatClampNeg = 0 from nI_clamp (by decide)]
  refine g_iload C0 dL_law_150 rfl ?_
  refine g_bipush (v := nI 13) C0 dL_law_152 (by decide +kernel) ?_
  refine g_icmp_ne (tgt := 170) C0 dL_law_154 (by decide) (fun h2 => ?_) (fun h2 => ?_)
  · exact J170 (fun z => h2 (by rw [z.1]))
  · have h2 := nI_eqI (by omega) (by omega) h2
    refine g_iload C0 dL_law_157 rfl ?_
    refine g_if_lt (tgt := 170) C0 dL_law_159 (by decide) (fun h3 => ?_) (fun h3 => ?_)
    · exact J170 (fun z => Int32.not_le.mpr h3 z.2)
    refine g_iload C0 dL_law_162 rfl ?_
    refine g_iload C0 dL_law_164 rfl ?_
    refine g_isub C0 dL_law_166 ?_
    refine g_goto (tgt := 202) C0 dL_law_167 (by decide) ?_
    refine g_widen (cs2 := 1000 + 7000 * k + 1403) (ss2 := 30000 + 42000 * k + 8418) (by omega) (by omega) ?_
    refine J202 _ ?_
    unfold nadd
    rw [if_pos ⟨h2, Int32.not_lt.mp h3⟩]
set_option maxRecDepth 100000 in
set_option maxHeartbeats 4000000 in
theorem la_turn {X : CX} {S : SX} (C0 : Ok X S ML_law) {L : Nat} {xs : Nat → Int32} (SC : SCR X S 169 L xs) (hw0 : S.2.2.1.length = 169) (hL : L ≤ 260) (hK : ∀ w, SK S (.inl (some (.int 1))) w) {q : XS} {f : Nat → Int32} {th k : Nat} {o7 o8 o9 o10 o11 o12 : Option Value} (I : IV (60 * k) (200 * k) (f 0) q) (hth : th ≤ 46) (hk : k < th) (next : ∀ q f o7 o8 o9 o10 o11 o12, IV (60 * (k + 1)) (200 * (k + 1)) (f 0) q → Gd X S ML_law 39 [some (.ref 169), some (.ref 0), some (.ref 84), some (.ref 168), some (.int (nI th)), some (.int (nI 1)), some (.int (nI (k + 1))), o7, o8, o9, o10, o11, o12] [] (W2 q q f) (1000 + 7000 * (k + 1)) (30000 + 42000 * (k + 1))) : Gd X S ML_law 39 [some (.ref 169), some (.ref 0), some (.ref 84), some (.ref 168), some (.int (nI th)), some (.int (nI 1)), some (.int (nI k)), o7, o8, o9, o10, o11, o12] [] (W2 q q f) (1000 + 7000 * k) (30000 + 42000 * k) := by
  obtain ⟨m, hm, em⟩ := dw_n L xs (1 + k)
  obtain ⟨q2, v, hA0, hA1, I2⟩ := k_act I hm (by omega)
  obtain ⟨t, r, E⟩ := I
  have J : Gd X S ML_law 89 [some (.ref 169), some (.ref 0), some (.ref 84), some (.ref 168), some (.int (nI th)), some (.int (nI 1)), some (.int (nI k)), some (.int (nI m)), some (.int (nI (m % 32))), some (.int (nI (anum m))), o10, o11, o12] [] (W2 q q f) (1000 + 7000 * k + 0) (30000 + 42000 * k + 0) := by
    refine g_aload_n C0 dL_law_89 rfl ?_
    refine g_iload C0 dL_law_90 rfl ?_
    refine g_ct1 C0 dL_law_92 CL_164 rfl ⟨by decide, by decide, (by show 1000 + 7000 * k + 0 + 1 ≤ 600130; omega), (by show 30000 + 42000 * k + 0 + 6 ≤ 7301080; omega)⟩ (Nat.le_of_ble_eq_true rfl) (HC.one _ _ _ _) (a_debt r (anum_lt m)) ?_
    refine g_istore C0 dL_law_95 (by decide) ?_
    refine g_aload_n C0 dL_law_97 rfl ?_
    refine g_iload C0 dL_law_98 rfl ?_
    refine g_ct1 C0 dL_law_100 CL_159 rfl ⟨by decide, by decide, (by show 1000 + 7000 * k + 0 + 1 + 1 ≤ 600130; omega), (by show 30000 + 42000 * k + 0 + 6 + 6 ≤ 7301080; omega)⟩ (Nat.le_of_ble_eq_true rfl) (HC.one _ _ _ _) (a_bond r (anum_lt m)) ?_
    refine g_istore C0 dL_law_103 (by decide) ?_
    refine g_aload_n C0 dL_law_105 rfl ?_
    refine g_iload C0 dL_law_106 rfl ?_
    refine g_iconst (v := nI 0) C0 dL_law_108 (by decide +kernel) ?_
    refine g_cs2 C0 dL_law_109 CL_234 rfl ⟨by decide, by decide, (by show 1000 + 7000 * k + 0 + 1 + 1 + 600 ≤ 600130; omega), (by show 30000 + 42000 * k + 0 + 6 + 6 + 3600 ≤ 7301080; omega)⟩ (Nat.le_of_ble_eq_true rfl) (HC.one q q2 q f) (hA0) ?_
    refine g_istore C0 dL_law_112 (by decide) ?_
    refine g_aload_n C0 dL_law_114 rfl ?_
    refine g_iload C0 dL_law_115 rfl ?_
    refine g_sipush (v := nI 9973) C0 dL_law_117 (by decide +kernel) ?_
    refine g_remN C0 dL_law_120 (by decide) (by decide) (by omega) ?_
    refine g_cs1 C0 dL_law_121 CL_238 rfl ⟨by decide, by decide, (by show 1000 + 7000 * k + 0 + 1 + 1 + 600 + 200 ≤ 600130; omega), (by show 30000 + 42000 * k + 0 + 6 + 6 + 3600 + 1200 ≤ 7301080; omega)⟩ (Nat.le_of_ble_eq_true rfl) (HC.two q2 q q f) (k_refuses r E (by omega)) ?_
    refine g_if_eq (tgt := 143) C0 dL_law_124 (by decide) (fun z => absurd z (by decide)) (fun _ => ?_)
    refine g_aload_n C0 dL_law_127 rfl ?_
    refine g_iload C0 dL_law_128 rfl ?_
    refine g_iconst (v := nI 1) C0 dL_law_130 (by decide +kernel) ?_
    refine g_cs2 C0 dL_law_131 CL_234 rfl ⟨by decide, by decide, (by show 1000 + 7000 * k + 0 + 1 + 1 + 600 + 200 + 600 ≤ 600130; omega), (by show 30000 + 42000 * k + 0 + 6 + 6 + 3600 + 1200 + 3600 ≤ 7301080; omega)⟩ (Nat.le_of_ble_eq_true rfl) (HC.two q2 q q2 f) (hA1) ?_
    refine g_iload C0 dL_law_134 rfl ?_
    refine g_icmp_ne (tgt := 143) C0 dL_law_136 (by decide) (fun z => absurd rfl z) (fun _ => ?_)
    refine g_iconst (v := nI 1) C0 dL_law_139 (by decide +kernel) ?_
    refine g_goto (tgt := 144) C0 dL_law_140 (by decide) ?_
    refine g_istore C0 dL_law_144 (by decide) ?_
    refine g_widen (cs2 := 1000 + 7000 * k + 1402) (ss2 := 30000 + 42000 * k + 8412) (by show 1000 + 7000 * k + 0 + 1 + 1 + 600 + 200 + 600 ≤ _; omega) (by show 30000 + 42000 * k + 0 + 6 + 6 + 3600 + 1200 + 3600 ≤ _; omega) ?_
    have I3 := I2.mono (B2 := 60 * (k + 1)) (T2 := 200 * (k + 1)) (by omega) (by omega)
    obtain ⟨t2, r2, -⟩ := I2
    refine la_146 C0 SC hw0 hL hK r2 hm (by omega) (fun f2 hf2 => ?_)
    exact la_204 C0 SC hw0 hL hK hm (by omega) next (by rw [hf2]; exact I3) (by omega)
  refine g_iload C0 dL_law_39 rfl ?_
  refine g_iload C0 dL_law_41 rfl ?_
  refine g_icmp_ge (tgt := 281) C0 dL_law_43 (by decide) (fun z => absurd z (nI_ge (by omega) (by omega))) (fun _ => ?_)
  refine g_iload C0 dL_law_46 rfl ?_
  refine g_if_eq (tgt := 281) C0 dL_law_48 (by decide) (fun z => absurd z (by decide +kernel)) (fun _ => ?_)
  refine g_aload_n C0 dL_law_51 rfl ?_
  refine g_iconst (v := nI 1) C0 dL_law_52 (by decide +kernel) ?_
  refine g_iload C0 dL_law_53 rfl ?_
  refine g_addN C0 dL_law_55 ?_
  refine g_invSS (As := [.ref 169, .int (nI (1 + k))]) C0 SC (wl hw0) dL_law_56 CL_230 rfl rfl rfl ⟨by decide, by decide, (by show 1000 + 7000 * k + 0 ≤ 600130; omega), (by show 30000 + 42000 * k + 0 ≤ 7301080; omega)⟩ (Nat.le_of_ble_eq_true rfl) (k_drawn hL (by omega) (Aft_v rfl ?_))
  rw [em]
  refine g_istore C0 dL_law_59 (by decide) ?_
  refine g_iload C0 dL_law_61 rfl ?_
  refine g_bipush (v := nI 32) C0 dL_law_63 (by decide +kernel) ?_
  refine g_remN C0 dL_law_65 (by decide) (by decide) (by omega) ?_
  refine g_istore C0 dL_law_66 (by decide) ?_
  refine g_iload C0 dL_law_68 rfl ?_
  refine g_bipush (v := nI 32) C0 dL_law_70 (by decide +kernel) ?_
  refine g_divN C0 dL_law_72 (by decide) (by decide) (by omega) ?_
  refine g_iload C0 dL_law_73 rfl ?_
  refine g_iconst (v := nI 3) C0 dL_law_75 (by decide +kernel) ?_
  refine g_remN C0 dL_law_76 (by decide) (by decide) (by omega) ?_
  by_cases h3 : m % 3 = 0
  · have ea : anum m = m / 32 % 12 := if_pos h3
    rw [ea] at J
    refine g_if_ne (tgt := 85) C0 dL_law_77 (by decide) (fun z => absurd (by rw [h3]; exact nI_0) z) (fun _ => ?_)
    refine g_bipush (v := nI 12) C0 dL_law_80 (by decide +kernel) ?_
    refine g_goto (tgt := 86) C0 dL_law_82 (by decide) ?_
    refine g_remN C0 dL_law_86 (by decide) (by decide) (by omega) ?_
    refine g_istore C0 dL_law_87 (by decide) ?_
    exact J
  · have ea : anum m = m / 32 % 5 := if_neg h3
    rw [ea] at J
    refine g_if_ne (tgt := 85) C0 dL_law_77 (by decide) (fun _ => ?_) (fun z => absurd z (nI_ne0 (by omega) (by omega)))
    refine g_iconst (v := nI 5) C0 dL_law_85 (by decide +kernel) ?_
    refine g_remN C0 dL_law_86 (by decide) (by decide) (by omega) ?_
    refine g_istore C0 dL_law_87 (by decide) ?_
    exact J
set_option maxRecDepth 100000 in
set_option maxHeartbeats 4000000 in
theorem lp_law {X : CX} {S : SX} (C0 : Ok X S ML_law) {L : Nat} {xs : Nat → Int32} (SC : SCR X S 169 L xs) (hw0 : S.2.2.1.length = 169) (hL : L ≤ 260) (hK : ∀ w, SK S (.inl (some (.int 1))) w) {th : Nat} (hth : th ≤ 46) : ∀ n k, k + n = th → ∀ q f o7 o8 o9 o10 o11 o12, IV (60 * k) (200 * k) (f 0) q → Gd X S ML_law 39 [some (.ref 169), some (.ref 0), some (.ref 84), some (.ref 168), some (.int (nI th)), some (.int (nI 1)), some (.int (nI k)), o7, o8, o9, o10, o11, o12] [] (W2 q q f) (1000 + 7000 * k) (30000 + 42000 * k) := by
  intro n
  induction n with
  | zero =>
    intro k hk q f o7 o8 o9 o10 o11 o12 I
    have ek : k = th := by omega
    subst ek
    refine g_iload C0 dL_law_39 rfl ?_
    refine g_iload C0 dL_law_41 rfl ?_
    refine g_icmp_ge (tgt := 281) C0 dL_law_43 (by decide) (fun _ => ?_) (fun z => absurd (Int32.le_refl _) z)
    refine g_widen (cs2 := 400000) (ss2 := 3000000) (by omega) (by omega) ?_
    exact la_end C0 SC hw0 hL hK I (by omega) (by omega)
  | succ n ih =>
    intro k hk q f o7 o8 o9 o10 o11 o12 I
    exact la_turn C0 SC hw0 hL hK I hth (by omega) (fun q2 f2 p7 p8 p9 p10 p11 p12 I2 => ih (k + 1) (by omega) q2 f2 p7 p8 p9 p10 p11 p12 I2)
set_option maxRecDepth 100000 in
set_option maxHeartbeats 4000000 in
theorem la_head {X : CX} {S : SX} (C0 : Ok X S ML_law) {L : Nat} {xs : Nat → Int32} (SC : SCR X S 169 L xs) (hw0 : S.2.2.1.length = 169) (hL : L ≤ 260) (hK : ∀ w, SK S (.inl (some (.int 1))) w) {q : XS} {f : Nat → Int32} {o4 o5 o6 o7 o8 o9 o10 o11 o12 : Option Value} (I : IV 0 0 (f 0) q) : Gd X S ML_law 20 [some (.ref 169), some (.ref 0), some (.ref 84), some (.ref 168), o4, o5, o6, o7, o8, o9, o10, o11, o12] [] (W2 q q f) 1000 30000 := by
  obtain ⟨m, hm, em⟩ := dw_n L xs 0
  refine g_bipush (v := nI 20) C0 dL_law_20 (by decide +kernel) ?_
  refine g_aload_n C0 dL_law_22 rfl ?_
  refine g_iconst (v := nI 0) C0 dL_law_23 (by decide +kernel) ?_
  refine g_invSS (As := [.ref 169, .int (nI (0))]) C0 SC (wl hw0) dL_law_24 CL_230 rfl rfl rfl ⟨by decide, by decide, (by show 1000 + 0 ≤ 600130; omega), (by show 30000 + 0 ≤ 7301080; omega)⟩ (Nat.le_of_ble_eq_true rfl) (k_drawn hL (by omega) (Aft_v rfl ?_))
  rw [em]
  refine g_bipush (v := nI 27) C0 dL_law_27 (by decide +kernel) ?_
  refine g_remN C0 dL_law_29 (by decide) (by decide) (by omega) ?_
  refine g_addN C0 dL_law_30 ?_
  refine g_istore C0 dL_law_31 (by decide) ?_
  refine g_iconst (v := nI 1) C0 dL_law_33 (by decide +kernel) ?_
  refine g_istore C0 dL_law_34 (by decide) ?_
  refine g_iconst (v := nI 0) C0 dL_law_36 (by decide +kernel) ?_
  refine g_istore C0 dL_law_37 (by decide) ?_
  refine g_widen (cs2 := 1000 + 7000 * 0) (ss2 := 30000 + 42000 * 0) (by decide) (by decide) ?_
  exact lp_law C0 SC hw0 hL hK (th := 20 + m % 27) (by omega) (20 + m % 27) 0 (by omega) q f _ _ _ _ _ _ I

/-! ===== calls that throw ===== -/
theorem own_in {q t : XS} (r : RX q t) {n : Nat} (hn : n < 12) : ∃ p, p < 6 ∧ q.1 1 n = nI p := by
  obtain ⟨p, hp, h⟩ := vp_in_of (r.g8 n) (by decide)
  exact ⟨p, hp, (r.rO n hn).trans h⟩
theorem bond_full {q t : XS} (r : RX q t) {n : Nat} (hn : n < 12) (h : ¬ q.1 4 n = 0) : ¬ xg q 4 (nI n) + nI 5000 ≤ 5000 := by
  obtain ⟨b, hb, hq⟩ := r.gB n hn
  rw [xg_n (k := 4) (show n < 12 from hn), hq, nI_add]
  refine nI_ge (a := 5000) ?_ (by omega)
  have : b ≠ 0 := fun z => h (by rw [hq, z]; exact nI_0)
  omega
theorem debt_more {q t : XS} (r : RX q t) {n m : Nat} (hn : n < 12) (hm : m < 10000) : noW (q.1 2 n + nI 1 + nI m) 1 (xg q 2 (nI n)) := by
  obtain ⟨d, hd, h2⟩ := r.gD n hn
  have h3 := r.n20
  rw [xg_n (k := 2) (show n < 12 from hn), hd, nI_add, nI_add]
  exact noW_hi (by omega) (by omega)
theorem no_debt {q t : XS} {B T : Nat} {n0 : Int32} (r : RX q t) (E : EI NB B T n0 q) {n : Nat} (hn : n < 12) (h : ¬ 0 < q.1 2 n) : q.1 5 n = 0 := by
  obtain ⟨d, hd, h2⟩ := r.gD n hn
  have h3 := r.n20
  have h0 : q.1 2 n = 0 := by
    rw [hd] at h ⊢
    by_cases hz : d = 0
    · rw [hz]; exact nI_0
    · exact absurd (nI_lt (a := 0) (by omega) (by omega)) h
  exact Classical.byContradiction fun z => E.br n hn z h0
theorem nI_ne {a b : Nat} (h : a ≠ b) (ha : a < 2 ^ 31) (hb : b < 2 ^ 31) : ¬ nI a = nI b := fun z => h (nI_eqI ha hb z)
set_option maxRecDepth 100000 in
set_option maxHeartbeats 4000000 in
theorem rf_1 {X : CX} {S : SX} {q t : XS} {B T m he on : Nat} {n0 ca nu pe cl : Int32} {o2 o9 o10 o11 : Option Value} (C0 : Ok X S ML_refuses) (r : RX q t) (E : EI NB B T n0 q) (hm : m < 10000) (hh : he < 12) (ho : on < 5) (hca : noC ca) (hnu : noN nu) (hpe : noP pe) (hcl : noK q cl) (k : Gd X S ML_refuses 283 [some (.ref 0), some (.int (nI m)), o2, some (.int ca), some (.int nu), some (.int pe), some (.int cl), some (.int (nI he)), some (.int (nI on)), o9, o10, o11] [] (WX q) 38 228) : Gd X S ML_refuses 115 [some (.ref 0), some (.int (nI m)), o2, some (.int ca), some (.int nu), some (.int pe), some (.int cl), some (.int (nI he)), some (.int (nI on)), o9, o10, o11] [] (WX q) 0 0 := by
  refine g_aload_n C0 dL_refuses_115 rfl ?_
  refine g_iload_n C0 dL_refuses_116 rfl ?_
  refine g_bipush (v := nI 99) C0 dL_refuses_117 (by decide +kernel) ?_
  refine g_iconst (v := nI 0) C0 dL_refuses_119 (by decide +kernel) ?_
  refine g_ct3 C0 dL_refuses_120 CL_130 rfl ⟨by decide, by decide, Nat.le_of_ble_eq_true rfl, Nat.le_of_ble_eq_true rfl⟩ (Nat.le_of_ble_eq_true rfl) (HC.self _ _) (n_prices0 r hca) ?_
  refine g_ldc C0 KK0 dL_refuses_123 ?_
  refine g_icmp_ne (tgt := 669) C0 dL_refuses_125 (by decide) (fun z => absurd rfl z) (fun _ => ?_)
  refine g_aload_n C0 dL_refuses_128 rfl ?_
  refine g_iload C0 dL_refuses_129 rfl ?_
  refine g_bipush (v := nI 10) C0 dL_refuses_131 (by decide +kernel) ?_
  refine g_iload_n C0 dL_refuses_133 rfl ?_
  refine g_addN C0 dL_refuses_134 ?_
  refine g_iconst (v := nI 0) C0 dL_refuses_135 (by decide +kernel) ?_
  refine g_ct3 C0 dL_refuses_136 CL_130 rfl ⟨by decide, by decide, Nat.le_of_ble_eq_true rfl, Nat.le_of_ble_eq_true rfl⟩ (Nat.le_of_ble_eq_true rfl) (HC.self _ _) (n_prices1 r (okC ho) (noW_hi (b := 9) (by omega) (by omega))) ?_
  refine g_ldc C0 KK1 dL_refuses_139 ?_
  refine g_icmp_ne (tgt := 669) C0 dL_refuses_141 (by decide) (fun z => absurd rfl z) (fun _ => ?_)
  refine g_aload_n C0 dL_refuses_144 rfl ?_
  refine g_iload C0 dL_refuses_145 rfl ?_
  refine g_iconst (v := nI 0) C0 dL_refuses_147 (by decide +kernel) ?_
  refine g_iconst (v := -1) C0 dL_refuses_148 (by decide) ?_
  refine g_iload_n C0 dL_refuses_149 rfl ?_
  refine g_isub C0 dL_refuses_150 ?_
  refine g_ct3 C0 dL_refuses_151 CL_130 rfl ⟨by decide, by decide, Nat.le_of_ble_eq_true rfl, Nat.le_of_ble_eq_true rfl⟩ (Nat.le_of_ble_eq_true rfl) (HC.self _ _) (n_prices2 r (okC ho) (by decide +kernel) (noW_m1 (by omega))) ?_
  refine g_ldc C0 KK1 dL_refuses_154 ?_
  refine g_icmp_ne (tgt := 669) C0 dL_refuses_156 (by decide) (fun z => absurd rfl z) (fun _ => ?_)
  refine g_aload_n C0 dL_refuses_159 rfl ?_
  refine g_iload_n C0 dL_refuses_160 rfl ?_
  refine g_iconst (v := -1) C0 dL_refuses_161 (by decide) ?_
  refine g_ct2 C0 dL_refuses_162 CL_136 rfl ⟨by decide, by decide, Nat.le_of_ble_eq_true rfl, Nat.le_of_ble_eq_true rfl⟩ (Nat.le_of_ble_eq_true rfl) (HC.self _ _) (n_delays0 r hca) ?_
  refine g_ldc C0 KK0 dL_refuses_165 ?_
  refine g_icmp_ne (tgt := 669) C0 dL_refuses_167 (by decide) (fun z => absurd rfl z) (fun _ => ?_)
  refine g_aload_n C0 dL_refuses_170 rfl ?_
  refine g_iload C0 dL_refuses_171 rfl ?_
  refine g_sipush (v := nI 5001) C0 dL_refuses_173 (by decide +kernel) ?_
  refine g_iload_n C0 dL_refuses_176 rfl ?_
  refine g_addN C0 dL_refuses_177 ?_
  refine g_ct2 C0 dL_refuses_178 CL_136 rfl ⟨by decide, by decide, Nat.le_of_ble_eq_true rfl, Nat.le_of_ble_eq_true rfl⟩ (Nat.le_of_ble_eq_true rfl) (HC.self _ _) (n_delays1 r (okC ho) (noW_hi (b := 5000) (by omega) (by omega))) ?_
  refine g_ldc C0 KK1 dL_refuses_181 ?_
  refine g_icmp_ne (tgt := 669) C0 dL_refuses_183 (by decide) (fun z => absurd rfl z) (fun _ => ?_)
  refine g_aload_n C0 dL_refuses_186 rfl ?_
  refine g_iload C0 dL_refuses_187 rfl ?_
  refine g_iconst (v := -1) C0 dL_refuses_189 (by decide) ?_
  refine g_iload_n C0 dL_refuses_190 rfl ?_
  refine g_isub C0 dL_refuses_191 ?_
  refine g_ct2 C0 dL_refuses_192 CL_136 rfl ⟨by decide, by decide, Nat.le_of_ble_eq_true rfl, Nat.le_of_ble_eq_true rfl⟩ (Nat.le_of_ble_eq_true rfl) (HC.self _ _) (n_delays1 r (okC ho) (noW_m1 (by omega))) ?_
  refine g_ldc C0 KK1 dL_refuses_195 ?_
  refine g_icmp_ne (tgt := 669) C0 dL_refuses_197 (by decide) (fun z => absurd rfl z) (fun _ => ?_)
  refine g_aload_n C0 dL_refuses_200 rfl ?_
  refine g_iload_n C0 dL_refuses_201 rfl ?_
  refine g_iload C0 dL_refuses_202 rfl ?_
  refine g_bipush (v := nI 9) C0 dL_refuses_204 (by decide +kernel) ?_
  refine g_ct3 C0 dL_refuses_206 CL_140 rfl ⟨by decide, by decide, Nat.le_of_ble_eq_true rfl, Nat.le_of_ble_eq_true rfl⟩ (Nat.le_of_ble_eq_true rfl) (HC.self _ _) (n_lines0 r hca) ?_
  refine g_ldc C0 KK0 dL_refuses_209 ?_
  refine g_icmp_ne (tgt := 669) C0 dL_refuses_211 (by decide) (fun z => absurd rfl z) (fun _ => ?_)
  refine g_aload_n C0 dL_refuses_214 rfl ?_
  refine g_iload C0 dL_refuses_215 rfl ?_
  refine g_iload_n C0 dL_refuses_217 rfl ?_
  refine g_bipush (v := nI 9) C0 dL_refuses_218 (by decide +kernel) ?_
  refine g_ct3 C0 dL_refuses_220 CL_140 rfl ⟨by decide, by decide, Nat.le_of_ble_eq_true rfl, Nat.le_of_ble_eq_true rfl⟩ (Nat.le_of_ble_eq_true rfl) (HC.self _ _) (n_lines1 r (okC ho) hca) ?_
  refine g_ldc C0 KK0 dL_refuses_223 ?_
  refine g_icmp_ne (tgt := 669) C0 dL_refuses_225 (by decide) (fun z => absurd rfl z) (fun _ => ?_)
  refine g_aload_n C0 dL_refuses_228 rfl ?_
  refine g_iload C0 dL_refuses_229 rfl ?_
  refine g_iload C0 dL_refuses_231 rfl ?_
  refine g_iconst (v := nI 2) C0 dL_refuses_233 (by decide +kernel) ?_
  refine g_ct3 C0 dL_refuses_234 CL_140 rfl ⟨by decide, by decide, Nat.le_of_ble_eq_true rfl, Nat.le_of_ble_eq_true rfl⟩ (Nat.le_of_ble_eq_true rfl) (HC.self _ _) (n_lines2 r (okC ho) (okC ho) rfl) ?_
  refine g_ldc C0 KK1 dL_refuses_237 ?_
  refine g_icmp_ne (tgt := 669) C0 dL_refuses_239 (by decide) (fun z => absurd rfl z) (fun _ => ?_)
  refine g_aload_n C0 dL_refuses_242 rfl ?_
  refine g_iload C0 dL_refuses_243 rfl ?_
  refine g_iload C0 dL_refuses_245 rfl ?_
  refine g_iconst (v := nI 1) C0 dL_refuses_247 (by decide +kernel) ?_
  refine g_addN C0 dL_refuses_248 ?_
  refine g_iconst (v := nI 5) C0 dL_refuses_249 (by decide +kernel) ?_
  refine g_remN C0 dL_refuses_250 (by decide) (by decide) (by omega) ?_
  refine g_bipush (v := nI 6) C0 dL_refuses_251 (by decide +kernel) ?_
  refine g_iload_n C0 dL_refuses_253 rfl ?_
  refine g_addN C0 dL_refuses_254 ?_
  refine g_ct3 C0 dL_refuses_255 CL_140 rfl ⟨by decide, by decide, Nat.le_of_ble_eq_true rfl, Nat.le_of_ble_eq_true rfl⟩ (Nat.le_of_ble_eq_true rfl) (HC.self _ _) (n_lines3 r (okC ho) (okC (show (on + 1) % 5 < 5 by omega)) (nI_ne (by omega) (by omega) (by omega)) (noW_hi (b := 5) (by omega) (by omega))) ?_
  refine g_ldc C0 KK1 dL_refuses_258 ?_
  refine g_icmp_ne (tgt := 669) C0 dL_refuses_260 (by decide) (fun z => absurd rfl z) (fun _ => ?_)
  refine g_aload_n C0 dL_refuses_263 rfl ?_
  refine g_iload C0 dL_refuses_264 rfl ?_
  refine g_iload C0 dL_refuses_266 rfl ?_
  refine g_iconst (v := nI 1) C0 dL_refuses_268 (by decide +kernel) ?_
  refine g_addN C0 dL_refuses_269 ?_
  refine g_iconst (v := nI 5) C0 dL_refuses_270 (by decide +kernel) ?_
  refine g_remN C0 dL_refuses_271 (by decide) (by decide) (by omega) ?_
  refine g_iconst (v := -1) C0 dL_refuses_272 (by decide) ?_
  refine g_iload_n C0 dL_refuses_273 rfl ?_
  refine g_isub C0 dL_refuses_274 ?_
  refine g_ct3 C0 dL_refuses_275 CL_140 rfl ⟨by decide, by decide, Nat.le_of_ble_eq_true rfl, Nat.le_of_ble_eq_true rfl⟩ (Nat.le_of_ble_eq_true rfl) (HC.self _ _) (n_lines3 r (okC ho) (okC (show (on + 1) % 5 < 5 by omega)) (nI_ne (by omega) (by omega) (by omega)) (noW_m1 (by omega))) ?_
  refine g_ldc C0 KK1 dL_refuses_278 ?_
  refine g_icmp_ne (tgt := 669) C0 dL_refuses_280 (by decide) (fun z => absurd rfl z) (fun _ => ?_)
  exact k
set_option maxRecDepth 100000 in
set_option maxHeartbeats 4000000 in
theorem rf_2 {X : CX} {S : SX} {q t : XS} {B T m he on : Nat} {n0 ca nu pe cl : Int32} {o2 o9 o10 o11 : Option Value} (C0 : Ok X S ML_refuses) (r : RX q t) (E : EI NB B T n0 q) (hm : m < 10000) (hh : he < 12) (ho : on < 5) (hca : noC ca) (hnu : noN nu) (hpe : noP pe) (hcl : noK q cl) (k : Gd X S ML_refuses 367 [some (.ref 0), some (.int (nI m)), o2, some (.int ca), some (.int nu), some (.int pe), some (.int cl), some (.int (nI he)), some (.int (nI on)), o9, o10, o11] [] (WX q) 67 402) : Gd X S ML_refuses 283 [some (.ref 0), some (.int (nI m)), o2, some (.int ca), some (.int nu), some (.int pe), some (.int cl), some (.int (nI he)), some (.int (nI on)), o9, o10, o11] [] (WX q) 38 228 := by
  obtain ⟨u, hu, eu⟩ := x0_in r hh
  obtain ⟨p, hp, ep⟩ := own_in r hh
  refine g_aload_n C0 dL_refuses_283 rfl ?_
  refine g_iload C0 dL_refuses_284 rfl ?_
  refine g_iload C0 dL_refuses_286 rfl ?_
  refine g_ct2 C0 dL_refuses_288 CL_143 rfl ⟨by decide, by decide, Nat.le_of_ble_eq_true rfl, Nat.le_of_ble_eq_true rfl⟩ (Nat.le_of_ble_eq_true rfl) (HC.self _ _) (n_ports0 r hnu) ?_
  refine g_ldc C0 KK0 dL_refuses_291 ?_
  refine g_icmp_ne (tgt := 669) C0 dL_refuses_293 (by decide) (fun z => absurd rfl z) (fun _ => ?_)
  refine g_aload_n C0 dL_refuses_296 rfl ?_
  refine g_iload C0 dL_refuses_297 rfl ?_
  refine g_iload_n C0 dL_refuses_299 rfl ?_
  refine g_ct2 C0 dL_refuses_300 CL_143 rfl ⟨by decide, by decide, Nat.le_of_ble_eq_true rfl, Nat.le_of_ble_eq_true rfl⟩ (Nat.le_of_ble_eq_true rfl) (HC.self _ _) (n_ports1 r (okN hh) hca) ?_
  refine g_ldc C0 KK0 dL_refuses_303 ?_
  refine g_icmp_ne (tgt := 669) C0 dL_refuses_305 (by decide) (fun z => absurd rfl z) (fun _ => ?_)
  refine g_aload_n C0 dL_refuses_308 rfl ?_
  refine g_iload C0 dL_refuses_309 rfl ?_
  refine g_aload_n C0 dL_refuses_311 rfl ?_
  refine g_iload C0 dL_refuses_312 rfl ?_
  refine g_ct1 C0 dL_refuses_314 CL_146 rfl ⟨by decide, by decide, Nat.le_of_ble_eq_true rfl, Nat.le_of_ble_eq_true rfl⟩ (Nat.le_of_ble_eq_true rfl) (HC.self _ _) (a_carrier r hh) ?_
  refine g_ct2 C0 dL_refuses_317 CL_143 rfl ⟨by decide, by decide, Nat.le_of_ble_eq_true rfl, Nat.le_of_ble_eq_true rfl⟩ (Nat.le_of_ble_eq_true rfl) (HC.self _ _) (n_ports2 r (okN hh) (by rw [eu]; exact okC hu) (xg_n (k := 0) (show he < 12 from hh))) ?_
  refine g_ldc C0 KK2 dL_refuses_320 ?_
  refine g_icmp_ne (tgt := 669) C0 dL_refuses_322 (by decide) (fun z => absurd rfl z) (fun _ => ?_)
  refine g_aload_n C0 dL_refuses_325 rfl ?_
  refine g_iload C0 dL_refuses_326 rfl ?_
  refine g_iconst (v := nI 0) C0 dL_refuses_328 (by decide +kernel) ?_
  refine g_ct2 C0 dL_refuses_329 CL_150 rfl ⟨by decide, by decide, Nat.le_of_ble_eq_true rfl, Nat.le_of_ble_eq_true rfl⟩ (Nat.le_of_ble_eq_true rfl) (HC.self _ _) (n_sells0 r hnu) ?_
  refine g_ldc C0 KK0 dL_refuses_332 ?_
  refine g_icmp_ne (tgt := 669) C0 dL_refuses_334 (by decide) (fun z => absurd rfl z) (fun _ => ?_)
  refine g_aload_n C0 dL_refuses_337 rfl ?_
  refine g_iload C0 dL_refuses_338 rfl ?_
  refine g_iload C0 dL_refuses_340 rfl ?_
  refine g_ct2 C0 dL_refuses_342 CL_150 rfl ⟨by decide, by decide, Nat.le_of_ble_eq_true rfl, Nat.le_of_ble_eq_true rfl⟩ (Nat.le_of_ble_eq_true rfl) (HC.self _ _) (n_sells1 r (okN hh) hpe) ?_
  refine g_ldc C0 KK0 dL_refuses_345 ?_
  refine g_icmp_ne (tgt := 669) C0 dL_refuses_347 (by decide) (fun z => absurd rfl z) (fun _ => ?_)
  refine g_aload_n C0 dL_refuses_350 rfl ?_
  refine g_iload C0 dL_refuses_351 rfl ?_
  refine g_aload_n C0 dL_refuses_353 rfl ?_
  refine g_iload C0 dL_refuses_354 rfl ?_
  refine g_ct1 C0 dL_refuses_356 CL_153 rfl ⟨by decide, by decide, Nat.le_of_ble_eq_true rfl, Nat.le_of_ble_eq_true rfl⟩ (Nat.le_of_ble_eq_true rfl) (HC.self _ _) (a_owner r hh) ?_
  refine g_ct2 C0 dL_refuses_359 CL_150 rfl ⟨by decide, by decide, Nat.le_of_ble_eq_true rfl, Nat.le_of_ble_eq_true rfl⟩ (Nat.le_of_ble_eq_true rfl) (HC.self _ _) (n_sells2 r (okN hh) (by rw [ep]; exact okP hp) (xg_n (k := 1) (show he < 12 from hh))) ?_
  refine g_ldc C0 KK2 dL_refuses_362 ?_
  refine g_icmp_ne (tgt := 669) C0 dL_refuses_364 (by decide) (fun z => absurd rfl z) (fun _ => ?_)
  exact k
set_option maxRecDepth 100000 in
set_option maxHeartbeats 4000000 in
theorem rf_3 {X : CX} {S : SX} {q t : XS} {B T m he on : Nat} {n0 ca nu pe cl : Int32} {o2 o9 o10 o11 : Option Value} (C0 : Ok X S ML_refuses) (r : RX q t) (E : EI NB B T n0 q) (hm : m < 10000) (hh : he < 12) (ho : on < 5) (hca : noC ca) (hnu : noN nu) (hpe : noP pe) (hcl : noK q cl) (k : Gd X S ML_refuses 408 [some (.ref 0), some (.int (nI m)), o2, some (.int ca), some (.int nu), some (.int pe), some (.int cl), some (.int (nI he)), some (.int (nI on)), o9, o10, o11] [] (WX q) 76 456) : Gd X S ML_refuses 367 [some (.ref 0), some (.int (nI m)), o2, some (.int ca), some (.int nu), some (.int pe), some (.int cl), some (.int (nI he)), some (.int (nI on)), o9, o10, o11] [] (WX q) 67 402 := by
  refine g_aload_n C0 dL_refuses_367 rfl ?_
  refine g_iload C0 dL_refuses_368 rfl ?_
  refine g_iconst (v := nI 0) C0 dL_refuses_370 (by decide +kernel) ?_
  refine g_ct2 C0 dL_refuses_371 CL_156 rfl ⟨by decide, by decide, Nat.le_of_ble_eq_true rfl, Nat.le_of_ble_eq_true rfl⟩ (Nat.le_of_ble_eq_true rfl) (HC.self _ _) (n_bonds0 r hnu) ?_
  refine g_ldc C0 KK0 dL_refuses_374 ?_
  refine g_icmp_ne (tgt := 669) C0 dL_refuses_376 (by decide) (fun z => absurd rfl z) (fun _ => ?_)
  refine g_aload_n C0 dL_refuses_379 rfl ?_
  refine g_iload C0 dL_refuses_380 rfl ?_
  refine g_iload_n C0 dL_refuses_382 rfl ?_
  refine g_ineg C0 dL_refuses_383 ?_
  refine g_ct2 C0 dL_refuses_384 CL_156 rfl ⟨by decide, by decide, Nat.le_of_ble_eq_true rfl, Nat.le_of_ble_eq_true rfl⟩ (Nat.le_of_ble_eq_true rfl) (HC.self _ _) (n_bonds1 r (okN hh) (noW_neg (by omega))) ?_
  refine g_ldc C0 KK1 dL_refuses_387 ?_
  refine g_icmp_ne (tgt := 669) C0 dL_refuses_389 (by decide) (fun z => absurd rfl z) (fun _ => ?_)
  refine g_aload_n C0 dL_refuses_392 rfl ?_
  refine g_iload C0 dL_refuses_393 rfl ?_
  refine g_sipush (v := nI 5001) C0 dL_refuses_395 (by decide +kernel) ?_
  refine g_iload_n C0 dL_refuses_398 rfl ?_
  refine g_addN C0 dL_refuses_399 ?_
  refine g_ct2 C0 dL_refuses_400 CL_156 rfl ⟨by decide, by decide, Nat.le_of_ble_eq_true rfl, Nat.le_of_ble_eq_true rfl⟩ (Nat.le_of_ble_eq_true rfl) (HC.self _ _) (n_bonds1 r (okN hh) (noW_hi (b := 5000) (by omega) (by omega))) ?_
  refine g_ldc C0 KK1 dL_refuses_403 ?_
  refine g_icmp_ne (tgt := 669) C0 dL_refuses_405 (by decide) (fun z => absurd rfl z) (fun _ => ?_)
  exact k
set_option maxRecDepth 100000 in
set_option maxHeartbeats 4000000 in
theorem rf_4 {X : CX} {S : SX} {q t : XS} {B T m he on : Nat} {n0 ca nu pe cl : Int32} {o2 o9 o10 o11 : Option Value} (C0 : Ok X S ML_refuses) (r : RX q t) (E : EI NB B T n0 q) (hm : m < 10000) (hh : he < 12) (ho : on < 5) (hca : noC ca) (hnu : noN nu) (hpe : noP pe) (hcl : noK q cl) (k : Gd X S ML_refuses 431 [some (.ref 0), some (.int (nI m)), o2, some (.int ca), some (.int nu), some (.int pe), some (.int cl), some (.int (nI he)), some (.int (nI on)), o9, o10, o11] [] (WX q) 80 480) : Gd X S ML_refuses 408 [some (.ref 0), some (.int (nI m)), o2, some (.int ca), some (.int nu), some (.int pe), some (.int cl), some (.int (nI he)), some (.int (nI on)), o9, o10, o11] [] (WX q) 76 456 := by
  refine g_aload_n C0 dL_refuses_408 rfl ?_
  refine g_iload C0 dL_refuses_409 rfl ?_
  refine g_ct1 C0 dL_refuses_411 CL_159 rfl ⟨by decide, by decide, Nat.le_of_ble_eq_true rfl, Nat.le_of_ble_eq_true rfl⟩ (Nat.le_of_ble_eq_true rfl) (HC.self _ _) (a_bond r hh) ?_
  refine g_if_eq (tgt := 431) C0 dL_refuses_414 (by decide) (fun _ => ?_) (fun h9 => ?_)
  · exact g_widen (cs2 := 80) (ss2 := 480) (by decide) (by decide) k
  refine g_aload_n C0 dL_refuses_417 rfl ?_
  refine g_iload C0 dL_refuses_418 rfl ?_
  refine g_sipush (v := nI 5000) C0 dL_refuses_420 (by decide +kernel) ?_
  refine g_ct2 C0 dL_refuses_423 CL_156 rfl ⟨by decide, by decide, Nat.le_of_ble_eq_true rfl, Nat.le_of_ble_eq_true rfl⟩ (Nat.le_of_ble_eq_true rfl) (HC.self _ _) (n_bonds2 r (okN hh) (by decide +kernel) (bond_full r hh h9)) ?_
  refine g_ldc C0 KK2 dL_refuses_426 ?_
  refine g_icmp_ne (tgt := 669) C0 dL_refuses_428 (by decide) (fun z => absurd rfl z) (fun _ => ?_)
  exact k
set_option maxRecDepth 100000 in
set_option maxHeartbeats 4000000 in
theorem rf_5 {X : CX} {S : SX} {q t : XS} {B T m he on : Nat} {n0 ca nu pe cl : Int32} {o2 o9 o10 o11 : Option Value} (C0 : Ok X S ML_refuses) (r : RX q t) (E : EI NB B T n0 q) (hm : m < 10000) (hh : he < 12) (ho : on < 5) (hca : noC ca) (hnu : noN nu) (hpe : noP pe) (hcl : noK q cl) (k : Gd X S ML_refuses 488 [some (.ref 0), some (.int (nI m)), o2, some (.int ca), some (.int nu), some (.int pe), some (.int cl), some (.int (nI he)), some (.int (nI on)), o9, o10, o11] [] (WX q) 89 534) : Gd X S ML_refuses 431 [some (.ref 0), some (.int (nI m)), o2, some (.int ca), some (.int nu), some (.int pe), some (.int cl), some (.int (nI he)), some (.int (nI on)), o9, o10, o11] [] (WX q) 80 480 := by
  refine g_aload_n C0 dL_refuses_431 rfl ?_
  refine g_iload C0 dL_refuses_432 rfl ?_
  refine g_iconst (v := nI 1) C0 dL_refuses_434 (by decide +kernel) ?_
  refine g_ct2 C0 dL_refuses_435 CL_161 rfl ⟨by decide, by decide, Nat.le_of_ble_eq_true rfl, Nat.le_of_ble_eq_true rfl⟩ (Nat.le_of_ble_eq_true rfl) (HC.self _ _) (n_pays0 r hnu) ?_
  refine g_ldc C0 KK0 dL_refuses_438 ?_
  refine g_icmp_ne (tgt := 669) C0 dL_refuses_440 (by decide) (fun z => absurd rfl z) (fun _ => ?_)
  refine g_aload_n C0 dL_refuses_443 rfl ?_
  refine g_iload C0 dL_refuses_444 rfl ?_
  refine g_iload_n C0 dL_refuses_446 rfl ?_
  refine g_ineg C0 dL_refuses_447 ?_
  refine g_ct2 C0 dL_refuses_448 CL_161 rfl ⟨by decide, by decide, Nat.le_of_ble_eq_true rfl, Nat.le_of_ble_eq_true rfl⟩ (Nat.le_of_ble_eq_true rfl) (HC.self _ _) (n_pays1 r (okN hh) (noW_neg (by omega))) ?_
  refine g_ldc C0 KK1 dL_refuses_451 ?_
  refine g_icmp_ne (tgt := 669) C0 dL_refuses_453 (by decide) (fun z => absurd rfl z) (fun _ => ?_)
  refine g_aload_n C0 dL_refuses_456 rfl ?_
  refine g_iload C0 dL_refuses_457 rfl ?_
  refine g_aload_n C0 dL_refuses_459 rfl ?_
  refine g_iload C0 dL_refuses_460 rfl ?_
  refine g_ct1 C0 dL_refuses_462 CL_164 rfl ⟨by decide, by decide, Nat.le_of_ble_eq_true rfl, Nat.le_of_ble_eq_true rfl⟩ (Nat.le_of_ble_eq_true rfl) (HC.self _ _) (a_debt r hh) ?_
  refine g_iconst (v := nI 1) C0 dL_refuses_465 (by decide +kernel) ?_
  refine g_iadd C0 dL_refuses_466 ?_
  refine g_iload_n C0 dL_refuses_467 rfl ?_
  refine g_iadd C0 dL_refuses_468 ?_
  refine g_ct2 C0 dL_refuses_469 CL_161 rfl ⟨by decide, by decide, Nat.le_of_ble_eq_true rfl, Nat.le_of_ble_eq_true rfl⟩ (Nat.le_of_ble_eq_true rfl) (HC.self _ _) (n_pays1 r (okN hh) (debt_more r hh hm)) ?_
  refine g_ldc C0 KK1 dL_refuses_472 ?_
  refine g_icmp_ne (tgt := 669) C0 dL_refuses_474 (by decide) (fun z => absurd rfl z) (fun _ => ?_)
  refine g_aload_n C0 dL_refuses_477 rfl ?_
  refine g_iload C0 dL_refuses_478 rfl ?_
  refine g_ct1 C0 dL_refuses_480 CL_166 rfl ⟨by decide, by decide, Nat.le_of_ble_eq_true rfl, Nat.le_of_ble_eq_true rfl⟩ (Nat.le_of_ble_eq_true rfl) (HC.self _ _) (n_judges0 r hnu) ?_
  refine g_ldc C0 KK0 dL_refuses_483 ?_
  refine g_icmp_ne (tgt := 669) C0 dL_refuses_485 (by decide) (fun z => absurd rfl z) (fun _ => ?_)
  exact k
set_option maxRecDepth 100000 in
set_option maxHeartbeats 4000000 in
theorem rf_6 {X : CX} {S : SX} {q t : XS} {B T m he on : Nat} {n0 ca nu pe cl : Int32} {o2 o9 o10 o11 : Option Value} (C0 : Ok X S ML_refuses) (r : RX q t) (E : EI NB B T n0 q) (hm : m < 10000) (hh : he < 12) (ho : on < 5) (hca : noC ca) (hnu : noN nu) (hpe : noP pe) (hcl : noK q cl) (k : Gd X S ML_refuses 517 [some (.ref 0), some (.int (nI m)), o2, some (.int ca), some (.int nu), some (.int pe), some (.int cl), some (.int (nI he)), some (.int (nI on)), o9, o10, o11] [] (WX q) 93 558) : Gd X S ML_refuses 488 [some (.ref 0), some (.int (nI m)), o2, some (.int ca), some (.int nu), some (.int pe), some (.int cl), some (.int (nI he)), some (.int (nI on)), o9, o10, o11] [] (WX q) 89 534 := by
  refine g_aload_n C0 dL_refuses_488 rfl ?_
  refine g_iload C0 dL_refuses_489 rfl ?_
  refine g_ct1 C0 dL_refuses_491 CL_164 rfl ⟨by decide, by decide, Nat.le_of_ble_eq_true rfl, Nat.le_of_ble_eq_true rfl⟩ (Nat.le_of_ble_eq_true rfl) (HC.self _ _) (a_debt r hh) ?_
  refine g_if_gt (tgt := 517) C0 dL_refuses_494 (by decide) (fun _ => ?_) (fun h9 => ?_)
  · exact g_widen (cs2 := 93) (ss2 := 558) (by decide) (by decide) k
  refine g_aload_n C0 dL_refuses_497 rfl ?_
  refine g_iload C0 dL_refuses_498 rfl ?_
  refine g_ct1 C0 dL_refuses_500 CL_166 rfl ⟨by decide, by decide, Nat.le_of_ble_eq_true rfl, Nat.le_of_ble_eq_true rfl⟩ (Nat.le_of_ble_eq_true rfl) (HC.self _ _) (n_judges1 r (okN hh) (by rw [xg_n (k := 2) (show he < 12 from hh)]; exact h9)) ?_
  refine g_ldc C0 KK2 dL_refuses_503 ?_
  refine g_icmp_ne (tgt := 669) C0 dL_refuses_505 (by decide) (fun z => absurd rfl z) (fun _ => ?_)
  refine g_aload_n C0 dL_refuses_508 rfl ?_
  refine g_iload C0 dL_refuses_509 rfl ?_
  refine g_ct1 C0 dL_refuses_511 CL_169 rfl ⟨by decide, by decide, Nat.le_of_ble_eq_true rfl, Nat.le_of_ble_eq_true rfl⟩ (Nat.le_of_ble_eq_true rfl) (HC.self _ _) (a_barred r hh) ?_
  refine g_if_ne (tgt := 669) C0 dL_refuses_514 (by decide) (fun z => absurd (if_pos (no_debt r E hh h9)) z) (fun _ => ?_)
  exact k
set_option maxRecDepth 100000 in
set_option maxHeartbeats 4000000 in
theorem rf_7 {X : CX} {S : SX} {q t : XS} {B T m he on : Nat} {n0 ca nu pe cl : Int32} {o2 o9 o10 o11 : Option Value} (C0 : Ok X S ML_refuses) (r : RX q t) (E : EI NB B T n0 q) (hm : m < 10000) (hh : he < 12) (ho : on < 5) (hca : noC ca) (hnu : noN nu) (hpe : noP pe) (hcl : noK q cl) (k : Gd X S ML_refuses 556 [some (.ref 0), some (.int (nI m)), o2, some (.int ca), some (.int nu), some (.int pe), some (.int cl), some (.int (nI he)), some (.int (nI on)), o9, o10, o11] [] (WX q) 111 666) : Gd X S ML_refuses 517 [some (.ref 0), some (.int (nI m)), o2, some (.int ca), some (.int nu), some (.int pe), some (.int cl), some (.int (nI he)), some (.int (nI on)), o9, o10, o11] [] (WX q) 93 558 := by
  refine g_aload_n C0 dL_refuses_517 rfl ?_
  refine g_iload C0 dL_refuses_518 rfl ?_
  refine g_iload C0 dL_refuses_520 rfl ?_
  refine g_ct2 C0 dL_refuses_522 CL_172 rfl ⟨by decide, by decide, Nat.le_of_ble_eq_true rfl, Nat.le_of_ble_eq_true rfl⟩ (Nat.le_of_ble_eq_true rfl) (HC.self _ _) (n_rings0 r hnu) ?_
  refine g_ldc C0 KK0 dL_refuses_525 ?_
  refine g_icmp_ne (tgt := 669) C0 dL_refuses_527 (by decide) (fun z => absurd rfl z) (fun _ => ?_)
  refine g_aload_n C0 dL_refuses_530 rfl ?_
  refine g_iload C0 dL_refuses_531 rfl ?_
  refine g_iload C0 dL_refuses_533 rfl ?_
  refine g_ct2 C0 dL_refuses_535 CL_172 rfl ⟨by decide, by decide, Nat.le_of_ble_eq_true rfl, Nat.le_of_ble_eq_true rfl⟩ (Nat.le_of_ble_eq_true rfl) (HC.self _ _) (n_rings1 r (okN hh) hnu) ?_
  refine g_ldc C0 KK0 dL_refuses_538 ?_
  refine g_icmp_ne (tgt := 669) C0 dL_refuses_540 (by decide) (fun z => absurd rfl z) (fun _ => ?_)
  refine g_aload_n C0 dL_refuses_543 rfl ?_
  refine g_iload C0 dL_refuses_544 rfl ?_
  refine g_iload C0 dL_refuses_546 rfl ?_
  refine g_ct2 C0 dL_refuses_548 CL_172 rfl ⟨by decide, by decide, Nat.le_of_ble_eq_true rfl, Nat.le_of_ble_eq_true rfl⟩ (Nat.le_of_ble_eq_true rfl) (HC.self _ _) (n_rings2 r (okN hh) (okN hh) rfl) ?_
  refine g_ldc C0 KK1 dL_refuses_551 ?_
  refine g_icmp_ne (tgt := 669) C0 dL_refuses_553 (by decide) (fun z => absurd rfl z) (fun _ => ?_)
  exact k
set_option maxRecDepth 100000 in
set_option maxHeartbeats 4000000 in
theorem rf_8 {X : CX} {S : SX} {q t : XS} {B T m he on : Nat} {n0 ca nu pe cl : Int32} {o2 o9 o10 o11 : Option Value} (C0 : Ok X S ML_refuses) (r : RX q t) (E : EI NB B T n0 q) (hm : m < 10000) (hh : he < 12) (ho : on < 5) (hca : noC ca) (hnu : noN nu) (hpe : noP pe) (hcl : noK q cl) (k : Gd X S ML_refuses 602 [some (.ref 0), some (.int (nI m)), o2, some (.int ca), some (.int nu), some (.int pe), some (.int cl), some (.int (nI he)), some (.int (nI on)), o9, o10, o11] [] (WX q) 124 744) : Gd X S ML_refuses 556 [some (.ref 0), some (.int (nI m)), o2, some (.int ca), some (.int nu), some (.int pe), some (.int cl), some (.int (nI he)), some (.int (nI on)), o9, o10, o11] [] (WX q) 111 666 := by
  refine g_aload_n C0 dL_refuses_556 rfl ?_
  refine g_iload C0 dL_refuses_557 rfl ?_
  refine g_ct1 C0 dL_refuses_559 CL_175 rfl ⟨by decide, by decide, Nat.le_of_ble_eq_true rfl, Nat.le_of_ble_eq_true rfl⟩ (Nat.le_of_ble_eq_true rfl) (HC.self _ _) (a_callOf r hh) ?_
  refine g_iconst (v := -1) C0 dL_refuses_562 (by decide) ?_
  refine g_icmp_eq (tgt := 602) C0 dL_refuses_563 (by decide) (fun _ => ?_) (fun h9 => ?_)
  · exact g_widen (cs2 := 124) (ss2 := 744) (by decide) (by decide) k
  refine g_aload_n C0 dL_refuses_566 rfl ?_
  refine g_iload C0 dL_refuses_567 rfl ?_
  refine g_iload C0 dL_refuses_569 rfl ?_
  refine g_iconst (v := nI 1) C0 dL_refuses_571 (by decide +kernel) ?_
  refine g_addN C0 dL_refuses_572 ?_
  refine g_bipush (v := nI 12) C0 dL_refuses_573 (by decide +kernel) ?_
  refine g_remN C0 dL_refuses_575 (by decide) (by decide) (by omega) ?_
  refine g_ct2 C0 dL_refuses_576 CL_172 rfl ⟨by decide, by decide, Nat.le_of_ble_eq_true rfl, Nat.le_of_ble_eq_true rfl⟩ (Nat.le_of_ble_eq_true rfl) (HC.self _ _) (n_rings3 r (okN hh) (okN (show (he + 1) % 12 < 12 by omega)) (nI_ne (by omega) (by omega) (by omega)) (by rw [xg_n (k := 6) (show he < 12 from hh)]; exact h9)) ?_
  refine g_ldc C0 KK2 dL_refuses_579 ?_
  refine g_icmp_ne (tgt := 669) C0 dL_refuses_581 (by decide) (fun z => absurd rfl z) (fun _ => ?_)
  refine g_aload_n C0 dL_refuses_584 rfl ?_
  refine g_iload C0 dL_refuses_585 rfl ?_
  refine g_iconst (v := nI 1) C0 dL_refuses_587 (by decide +kernel) ?_
  refine g_addN C0 dL_refuses_588 ?_
  refine g_bipush (v := nI 12) C0 dL_refuses_589 (by decide +kernel) ?_
  refine g_remN C0 dL_refuses_591 (by decide) (by decide) (by omega) ?_
  refine g_iload C0 dL_refuses_592 rfl ?_
  refine g_ct2 C0 dL_refuses_594 CL_172 rfl ⟨by decide, by decide, Nat.le_of_ble_eq_true rfl, Nat.le_of_ble_eq_true rfl⟩ (Nat.le_of_ble_eq_true rfl) (HC.self _ _) (n_rings4 r (okN (show (he + 1) % 12 < 12 by omega)) (okN hh) (nI_ne (by omega) (by omega) (by omega)) (by rw [xg_n (k := 6) (show he < 12 from hh)]; exact h9)) ?_
  refine g_ldc C0 KK2 dL_refuses_597 ?_
  refine g_icmp_ne (tgt := 669) C0 dL_refuses_599 (by decide) (fun z => absurd rfl z) (fun _ => ?_)
  exact k
set_option maxRecDepth 100000 in
set_option maxHeartbeats 4000000 in
theorem rf_9 {X : CX} {S : SX} {q t : XS} {B T m he on : Nat} {n0 ca nu pe cl : Int32} {o2 o9 o10 o11 : Option Value} (C0 : Ok X S ML_refuses) (r : RX q t) (E : EI NB B T n0 q) (hm : m < 10000) (hh : he < 12) (ho : on < 5) (hca : noC ca) (hnu : noN nu) (hpe : noP pe) (hcl : noK q cl) (k : Gd X S ML_refuses 629 [some (.ref 0), some (.int (nI m)), o2, some (.int ca), some (.int nu), some (.int pe), some (.int cl), some (.int (nI he)), some (.int (nI on)), o9, o10, o11] [] (WX q) 131 786) : Gd X S ML_refuses 602 [some (.ref 0), some (.int (nI m)), o2, some (.int ca), some (.int nu), some (.int pe), some (.int cl), some (.int (nI he)), some (.int (nI on)), o9, o10, o11] [] (WX q) 124 744 := by
  refine g_aload_n C0 dL_refuses_602 rfl ?_
  refine g_iload C0 dL_refuses_603 rfl ?_
  refine g_ct1 C0 dL_refuses_605 CL_169 rfl ⟨by decide, by decide, Nat.le_of_ble_eq_true rfl, Nat.le_of_ble_eq_true rfl⟩ (Nat.le_of_ble_eq_true rfl) (HC.self _ _) (a_barred r hh) ?_
  refine g_if_eq (tgt := 629) C0 dL_refuses_608 (by decide) (fun _ => ?_) (fun h9 => ?_)
  · exact g_widen (cs2 := 131) (ss2 := 786) (by decide) (by decide) k
  have h8 : ¬ q.1 5 he = 0 := fun z => h9 (if_pos z)
  refine g_aload_n C0 dL_refuses_611 rfl ?_
  refine g_iload C0 dL_refuses_612 rfl ?_
  refine g_iload C0 dL_refuses_614 rfl ?_
  refine g_iconst (v := nI 5) C0 dL_refuses_616 (by decide +kernel) ?_
  refine g_addN C0 dL_refuses_617 ?_
  refine g_bipush (v := nI 12) C0 dL_refuses_618 (by decide +kernel) ?_
  refine g_remN C0 dL_refuses_620 (by decide) (by decide) (by omega) ?_
  refine g_ct2 C0 dL_refuses_621 CL_172 rfl ⟨by decide, by decide, Nat.le_of_ble_eq_true rfl, Nat.le_of_ble_eq_true rfl⟩ (Nat.le_of_ble_eq_true rfl) (HC.self _ _) (n_rings5 r (okN hh) (okN (show (he + 5) % 12 < 12 by omega)) (nI_ne (by omega) (by omega) (by omega)) (by rw [xg_n (k := 5) (show he < 12 from hh)]; exact h8)) ?_
  refine g_ldc C0 KK2 dL_refuses_624 ?_
  refine g_icmp_ne (tgt := 669) C0 dL_refuses_626 (by decide) (fun z => absurd rfl z) (fun _ => ?_)
  exact k
set_option maxRecDepth 100000 in
set_option maxHeartbeats 4000000 in
theorem rf_10 {X : CX} {S : SX} {q t : XS} {B T m he on : Nat} {n0 ca nu pe cl : Int32} {o2 o9 o10 o11 : Option Value} (C0 : Ok X S ML_refuses) (r : RX q t) (E : EI NB B T n0 q) (hm : m < 10000) (hh : he < 12) (ho : on < 5) (hca : noC ca) (hnu : noN nu) (hpe : noP pe) (hcl : noK q cl) (k : Gd X S ML_refuses 672 [some (.ref 0), some (.int (nI m)), o2, some (.int ca), some (.int nu), some (.int pe), some (.int cl), some (.int (nI he)), some (.int (nI on)), some (.int (nI 1)), o10, o11] [] (WX q) 137 822) : Gd X S ML_refuses 629 [some (.ref 0), some (.int (nI m)), o2, some (.int ca), some (.int nu), some (.int pe), some (.int cl), some (.int (nI he)), some (.int (nI on)), o9, o10, o11] [] (WX q) 131 786 := by
  refine g_aload_n C0 dL_refuses_629 rfl ?_
  refine g_iload C0 dL_refuses_630 rfl ?_
  refine g_ct1 C0 dL_refuses_632 CL_177 rfl ⟨by decide, by decide, Nat.le_of_ble_eq_true rfl, Nat.le_of_ble_eq_true rfl⟩ (Nat.le_of_ble_eq_true rfl) (HC.self _ _) (n_hangs0 r hcl) ?_
  refine g_ldc C0 KK0 dL_refuses_635 ?_
  refine g_icmp_ne (tgt := 669) C0 dL_refuses_637 (by decide) (fun z => absurd rfl z) (fun _ => ?_)
  refine g_aload_n C0 dL_refuses_640 rfl ?_
  refine g_iload_n C0 dL_refuses_641 rfl ?_
  refine g_ineg C0 dL_refuses_642 ?_
  refine g_ct1 C0 dL_refuses_643 CL_180 rfl ⟨by decide, by decide, Nat.le_of_ble_eq_true rfl, Nat.le_of_ble_eq_true rfl⟩ (Nat.le_of_ble_eq_true rfl) (HC.self _ _) (n_passes1 r (noW_neg (by omega))) ?_
  refine g_ldc C0 KK1 dL_refuses_646 ?_
  refine g_icmp_ne (tgt := 669) C0 dL_refuses_648 (by decide) (fun z => absurd rfl z) (fun _ => ?_)
  refine g_aload_n C0 dL_refuses_651 rfl ?_
  refine g_sipush (v := nI 2001) C0 dL_refuses_652 (by decide +kernel) ?_
  refine g_iload_n C0 dL_refuses_655 rfl ?_
  refine g_addN C0 dL_refuses_656 ?_
  refine g_ct1 C0 dL_refuses_657 CL_180 rfl ⟨by decide, by decide, Nat.le_of_ble_eq_true rfl, Nat.le_of_ble_eq_true rfl⟩ (Nat.le_of_ble_eq_true rfl) (HC.self _ _) (n_passes1 r (noW_hi (b := 2000) (by omega) (by omega))) ?_
  refine g_ldc C0 KK1 dL_refuses_660 ?_
  refine g_icmp_ne (tgt := 669) C0 dL_refuses_662 (by decide) (fun z => absurd rfl z) (fun _ => ?_)
  refine g_iconst (v := nI 1) C0 dL_refuses_665 (by decide +kernel) ?_
  refine g_goto (tgt := 670) C0 dL_refuses_666 (by decide) ?_
  refine g_istore C0 dL_refuses_670 (by decide) ?_
  exact k
set_option maxRecDepth 100000 in
set_option maxHeartbeats 4000000 in
theorem rf_11 {X : CX} {S : SX} {q t : XS} {B T m he on : Nat} {n0 ca nu pe cl : Int32} {o2 o9 o10 o11 : Option Value} (C0 : Ok X S ML_refuses) (r : RX q t) (E : EI NB B T n0 q) (hm : m < 10000) (hh : he < 12) (ho : on < 5) (hca : noC ca) (hnu : noN nu) (hpe : noP pe) (hcl : noK q cl) (k : Gd X S ML_refuses 824 [some (.ref 0), some (.int (nI m)), o2, some (.int ca), some (.int nu), some (.int pe), some (.int cl), some (.int (nI he)), some (.int (nI on)), some (.int (nI 1)), o10, o11] [] (WX q) 154 924) : Gd X S ML_refuses 672 [some (.ref 0), some (.int (nI m)), o2, some (.int ca), some (.int nu), some (.int pe), some (.int cl), some (.int (nI he)), some (.int (nI on)), some (.int (nI 1)), o10, o11] [] (WX q) 137 822 := by
  refine g_iload C0 dL_refuses_672 rfl ?_
  refine g_if_eq (tgt := 1006) C0 dL_refuses_674 (by decide) (fun z => absurd z (by decide +kernel)) (fun _ => ?_)
  refine g_aload_n C0 dL_refuses_677 rfl ?_
  refine g_iload C0 dL_refuses_678 rfl ?_
  refine g_ct1 C0 dL_refuses_680 CL_146 rfl ⟨by decide, by decide, Nat.le_of_ble_eq_true rfl, Nat.le_of_ble_eq_true rfl⟩ (Nat.le_of_ble_eq_true rfl) (HC.self _ _) (n_carrier0 r hnu) ?_
  refine g_ldc C0 KK0 dL_refuses_683 ?_
  refine g_icmp_ne (tgt := 1006) C0 dL_refuses_685 (by decide) (fun z => absurd rfl z) (fun _ => ?_)
  refine g_aload_n C0 dL_refuses_688 rfl ?_
  refine g_iload C0 dL_refuses_689 rfl ?_
  refine g_iconst (v := nI 0) C0 dL_refuses_691 (by decide +kernel) ?_
  refine g_ct2 C0 dL_refuses_692 CL_183 rfl ⟨by decide, by decide, Nat.le_of_ble_eq_true rfl, Nat.le_of_ble_eq_true rfl⟩ (Nat.le_of_ble_eq_true rfl) (HC.self _ _) (n_then0 r hnu) ?_
  refine g_ldc C0 KK0 dL_refuses_695 ?_
  refine g_icmp_ne (tgt := 1006) C0 dL_refuses_697 (by decide) (fun z => absurd rfl z) (fun _ => ?_)
  refine g_aload_n C0 dL_refuses_700 rfl ?_
  refine g_iload C0 dL_refuses_701 rfl ?_
  refine g_aload_n C0 dL_refuses_703 rfl ?_
  refine g_cv C0 dL_refuses_704 CL_186 rfl ⟨by decide, by decide, Nat.le_of_ble_eq_true rfl, Nat.le_of_ble_eq_true rfl⟩ (Nat.le_of_ble_eq_true rfl) (HC.self _ _) (c_second q) ?_
  refine g_iconst (v := nI 1) C0 dL_refuses_707 (by decide +kernel) ?_
  refine g_addN C0 dL_refuses_708 ?_
  refine g_iload_n C0 dL_refuses_709 rfl ?_
  refine g_addN C0 dL_refuses_710 ?_
  refine g_ct2 C0 dL_refuses_711 CL_183 rfl ⟨by decide, by decide, Nat.le_of_ble_eq_true rfl, Nat.le_of_ble_eq_true rfl⟩ (Nat.le_of_ble_eq_true rfl) (HC.self _ _) (n_then1 r (okN hh) (noW_hi (by omega) (by have := r.n20; omega))) ?_
  refine g_ldc C0 KK1 dL_refuses_714 ?_
  refine g_icmp_ne (tgt := 1006) C0 dL_refuses_716 (by decide) (fun z => absurd rfl z) (fun _ => ?_)
  refine g_aload_n C0 dL_refuses_719 rfl ?_
  refine g_iload C0 dL_refuses_720 rfl ?_
  refine g_iconst (v := -1) C0 dL_refuses_722 (by decide) ?_
  refine g_iload_n C0 dL_refuses_723 rfl ?_
  refine g_isub C0 dL_refuses_724 ?_
  refine g_ct2 C0 dL_refuses_725 CL_183 rfl ⟨by decide, by decide, Nat.le_of_ble_eq_true rfl, Nat.le_of_ble_eq_true rfl⟩ (Nat.le_of_ble_eq_true rfl) (HC.self _ _) (n_then1 r (okN hh) (noW_m1 (by omega))) ?_
  refine g_ldc C0 KK1 dL_refuses_728 ?_
  refine g_icmp_ne (tgt := 1006) C0 dL_refuses_730 (by decide) (fun z => absurd rfl z) (fun _ => ?_)
  refine g_aload_n C0 dL_refuses_733 rfl ?_
  refine g_iload C0 dL_refuses_734 rfl ?_
  refine g_ct1 C0 dL_refuses_736 CL_153 rfl ⟨by decide, by decide, Nat.le_of_ble_eq_true rfl, Nat.le_of_ble_eq_true rfl⟩ (Nat.le_of_ble_eq_true rfl) (HC.self _ _) (n_owner0 r hnu) ?_
  refine g_ldc C0 KK0 dL_refuses_739 ?_
  refine g_icmp_ne (tgt := 1006) C0 dL_refuses_741 (by decide) (fun z => absurd rfl z) (fun _ => ?_)
  refine g_aload_n C0 dL_refuses_744 rfl ?_
  refine g_iload_n C0 dL_refuses_745 rfl ?_
  refine g_iload C0 dL_refuses_746 rfl ?_
  refine g_ct2 C0 dL_refuses_748 CL_189 rfl ⟨by decide, by decide, Nat.le_of_ble_eq_true rfl, Nat.le_of_ble_eq_true rfl⟩ (Nat.le_of_ble_eq_true rfl) (HC.self _ _) (n_believed0 r hca) ?_
  refine g_ldc C0 KK0 dL_refuses_751 ?_
  refine g_icmp_ne (tgt := 1006) C0 dL_refuses_753 (by decide) (fun z => absurd rfl z) (fun _ => ?_)
  refine g_aload_n C0 dL_refuses_756 rfl ?_
  refine g_iload C0 dL_refuses_757 rfl ?_
  refine g_iload C0 dL_refuses_759 rfl ?_
  refine g_ct2 C0 dL_refuses_761 CL_189 rfl ⟨by decide, by decide, Nat.le_of_ble_eq_true rfl, Nat.le_of_ble_eq_true rfl⟩ (Nat.le_of_ble_eq_true rfl) (HC.self _ _) (n_believed1 r (okC ho) hnu) ?_
  refine g_ldc C0 KK0 dL_refuses_764 ?_
  refine g_icmp_ne (tgt := 1006) C0 dL_refuses_766 (by decide) (fun z => absurd rfl z) (fun _ => ?_)
  refine g_aload_n C0 dL_refuses_769 rfl ?_
  refine g_iload C0 dL_refuses_770 rfl ?_
  refine g_ct1 C0 dL_refuses_772 CL_164 rfl ⟨by decide, by decide, Nat.le_of_ble_eq_true rfl, Nat.le_of_ble_eq_true rfl⟩ (Nat.le_of_ble_eq_true rfl) (HC.self _ _) (n_debt0 r hnu) ?_
  refine g_ldc C0 KK0 dL_refuses_775 ?_
  refine g_icmp_ne (tgt := 1006) C0 dL_refuses_777 (by decide) (fun z => absurd rfl z) (fun _ => ?_)
  refine g_aload_n C0 dL_refuses_780 rfl ?_
  refine g_iload C0 dL_refuses_781 rfl ?_
  refine g_ct1 C0 dL_refuses_783 CL_191 rfl ⟨by decide, by decide, Nat.le_of_ble_eq_true rfl, Nat.le_of_ble_eq_true rfl⟩ (Nat.le_of_ble_eq_true rfl) (HC.self _ _) (n_debtAnew0 r hnu) ?_
  refine g_ldc C0 KK0 dL_refuses_786 ?_
  refine g_icmp_ne (tgt := 1006) C0 dL_refuses_788 (by decide) (fun z => absurd rfl z) (fun _ => ?_)
  refine g_aload_n C0 dL_refuses_791 rfl ?_
  refine g_iload C0 dL_refuses_792 rfl ?_
  refine g_ct1 C0 dL_refuses_794 CL_159 rfl ⟨by decide, by decide, Nat.le_of_ble_eq_true rfl, Nat.le_of_ble_eq_true rfl⟩ (Nat.le_of_ble_eq_true rfl) (HC.self _ _) (n_bond0 r hnu) ?_
  refine g_ldc C0 KK0 dL_refuses_797 ?_
  refine g_icmp_ne (tgt := 1006) C0 dL_refuses_799 (by decide) (fun z => absurd rfl z) (fun _ => ?_)
  refine g_aload_n C0 dL_refuses_802 rfl ?_
  refine g_iload C0 dL_refuses_803 rfl ?_
  refine g_ct1 C0 dL_refuses_805 CL_169 rfl ⟨by decide, by decide, Nat.le_of_ble_eq_true rfl, Nat.le_of_ble_eq_true rfl⟩ (Nat.le_of_ble_eq_true rfl) (HC.self _ _) (n_barred0 r hnu) ?_
  refine g_ldc C0 KK0 dL_refuses_808 ?_
  refine g_icmp_ne (tgt := 1006) C0 dL_refuses_810 (by decide) (fun z => absurd rfl z) (fun _ => ?_)
  refine g_aload_n C0 dL_refuses_813 rfl ?_
  refine g_iload C0 dL_refuses_814 rfl ?_
  refine g_ct1 C0 dL_refuses_816 CL_175 rfl ⟨by decide, by decide, Nat.le_of_ble_eq_true rfl, Nat.le_of_ble_eq_true rfl⟩ (Nat.le_of_ble_eq_true rfl) (HC.self _ _) (n_callOf0 r hnu) ?_
  refine g_ldc C0 KK0 dL_refuses_819 ?_
  refine g_icmp_ne (tgt := 1006) C0 dL_refuses_821 (by decide) (fun z => absurd rfl z) (fun _ => ?_)
  exact k
set_option maxRecDepth 100000 in
set_option maxHeartbeats 4000000 in
theorem rf_12 {X : CX} {S : SX} {q t : XS} {B T m he on : Nat} {n0 ca nu pe cl : Int32} {o2 o9 o10 o11 : Option Value} (C0 : Ok X S ML_refuses) (r : RX q t) (E : EI NB B T n0 q) (hm : m < 10000) (hh : he < 12) (ho : on < 5) (hca : noC ca) (hnu : noN nu) (hpe : noP pe) (hcl : noK q cl) (k : Gd X S ML_refuses 1009 [some (.ref 0), some (.int (nI m)), o2, some (.int ca), some (.int nu), some (.int pe), some (.int cl), some (.int (nI he)), some (.int (nI on)), some (.int (nI 1)), o10, o11] [] (WX q) 177 1062) : Gd X S ML_refuses 824 [some (.ref 0), some (.int (nI m)), o2, some (.int ca), some (.int nu), some (.int pe), some (.int cl), some (.int (nI he)), some (.int (nI on)), some (.int (nI 1)), o10, o11] [] (WX q) 154 924 := by
  refine g_aload_n C0 dL_refuses_824 rfl ?_
  refine g_iload C0 dL_refuses_825 rfl ?_
  refine g_iload_n C0 dL_refuses_827 rfl ?_
  refine g_ct2 C0 dL_refuses_828 CL_193 rfl ⟨by decide, by decide, Nat.le_of_ble_eq_true rfl, Nat.le_of_ble_eq_true rfl⟩ (Nat.le_of_ble_eq_true rfl) (HC.self _ _) (n_free1 r (okC ho) hca) ?_
  refine g_ldc C0 KK0 dL_refuses_831 ?_
  refine g_icmp_ne (tgt := 1006) C0 dL_refuses_833 (by decide) (fun z => absurd rfl z) (fun _ => ?_)
  refine g_aload_n C0 dL_refuses_836 rfl ?_
  refine g_iload C0 dL_refuses_837 rfl ?_
  refine g_iload C0 dL_refuses_839 rfl ?_
  refine g_ct2 C0 dL_refuses_841 CL_193 rfl ⟨by decide, by decide, Nat.le_of_ble_eq_true rfl, Nat.le_of_ble_eq_true rfl⟩ (Nat.le_of_ble_eq_true rfl) (HC.self _ _) (n_free2 r (okC ho)) ?_
  refine g_if_ne (tgt := 1006) C0 dL_refuses_844 (by decide) (fun z => absurd rfl z) (fun _ => ?_)
  refine g_aload_n C0 dL_refuses_847 rfl ?_
  refine g_iload C0 dL_refuses_848 rfl ?_
  refine g_iload C0 dL_refuses_850 rfl ?_
  refine g_ct2 C0 dL_refuses_852 CL_195 rfl ⟨by decide, by decide, Nat.le_of_ble_eq_true rfl, Nat.le_of_ble_eq_true rfl⟩ (Nat.le_of_ble_eq_true rfl) (HC.self _ _) (n_route1 r (okN hh) hnu) ?_
  refine g_ldc C0 KK0 dL_refuses_855 ?_
  refine g_icmp_ne (tgt := 1006) C0 dL_refuses_857 (by decide) (fun z => absurd rfl z) (fun _ => ?_)
  refine g_aload_n C0 dL_refuses_860 rfl ?_
  refine g_iload C0 dL_refuses_861 rfl ?_
  refine g_iload C0 dL_refuses_863 rfl ?_
  refine g_ct2 C0 dL_refuses_865 CL_195 rfl ⟨by decide, by decide, Nat.le_of_ble_eq_true rfl, Nat.le_of_ble_eq_true rfl⟩ (Nat.le_of_ble_eq_true rfl) (HC.self _ _) (n_route2 r (okN hh) (okN hh) rfl) ?_
  refine g_ldc C0 KK1 dL_refuses_868 ?_
  refine g_icmp_ne (tgt := 1006) C0 dL_refuses_870 (by decide) (fun z => absurd rfl z) (fun _ => ?_)
  refine g_aload_n C0 dL_refuses_873 rfl ?_
  refine g_iload C0 dL_refuses_874 rfl ?_
  refine g_ct1 C0 dL_refuses_876 CL_197 rfl ⟨by decide, by decide, Nat.le_of_ble_eq_true rfl, Nat.le_of_ble_eq_true rfl⟩ (Nat.le_of_ble_eq_true rfl) (HC.self _ _) (n_state0 r hcl) ?_
  refine g_ldc C0 KK0 dL_refuses_879 ?_
  refine g_icmp_ne (tgt := 1006) C0 dL_refuses_881 (by decide) (fun z => absurd rfl z) (fun _ => ?_)
  refine g_aload_n C0 dL_refuses_884 rfl ?_
  refine g_iload C0 dL_refuses_885 rfl ?_
  refine g_ct1 C0 dL_refuses_887 CL_199 rfl ⟨by decide, by decide, Nat.le_of_ble_eq_true rfl, Nat.le_of_ble_eq_true rfl⟩ (Nat.le_of_ble_eq_true rfl) (HC.self _ _) (n_trunks0 r hcl) ?_
  refine g_ldc C0 KK0 dL_refuses_890 ?_
  refine g_icmp_ne (tgt := 1006) C0 dL_refuses_892 (by decide) (fun z => absurd rfl z) (fun _ => ?_)
  refine g_aload_n C0 dL_refuses_895 rfl ?_
  refine g_iload C0 dL_refuses_896 rfl ?_
  refine g_iconst (v := nI 0) C0 dL_refuses_898 (by decide +kernel) ?_
  refine g_ct2 C0 dL_refuses_899 CL_201 rfl ⟨by decide, by decide, Nat.le_of_ble_eq_true rfl, Nat.le_of_ble_eq_true rfl⟩ (Nat.le_of_ble_eq_true rfl) (HC.self _ _) (n_at0 r hcl) ?_
  refine g_ldc C0 KK0 dL_refuses_902 ?_
  refine g_icmp_ne (tgt := 1006) C0 dL_refuses_904 (by decide) (fun z => absurd rfl z) (fun _ => ?_)
  refine g_aload_n C0 dL_refuses_907 rfl ?_
  refine g_iload C0 dL_refuses_908 rfl ?_
  refine g_ct1 C0 dL_refuses_910 CL_204 rfl ⟨by decide, by decide, Nat.le_of_ble_eq_true rfl, Nat.le_of_ble_eq_true rfl⟩ (Nat.le_of_ble_eq_true rfl) (HC.self _ _) (n_seconds0 r hcl) ?_
  refine g_ldc C0 KK0 dL_refuses_913 ?_
  refine g_icmp_ne (tgt := 1006) C0 dL_refuses_915 (by decide) (fun z => absurd rfl z) (fun _ => ?_)
  refine g_aload_n C0 dL_refuses_918 rfl ?_
  refine g_iload C0 dL_refuses_919 rfl ?_
  refine g_ct1 C0 dL_refuses_921 CL_206 rfl ⟨by decide, by decide, Nat.le_of_ble_eq_true rfl, Nat.le_of_ble_eq_true rfl⟩ (Nat.le_of_ble_eq_true rfl) (HC.self _ _) (n_charged0 r hcl) ?_
  refine g_ldc C0 KK0 dL_refuses_924 ?_
  refine g_icmp_ne (tgt := 1006) C0 dL_refuses_926 (by decide) (fun z => absurd rfl z) (fun _ => ?_)
  refine g_aload_n C0 dL_refuses_929 rfl ?_
  refine g_iload C0 dL_refuses_930 rfl ?_
  refine g_ct1 C0 dL_refuses_932 CL_208 rfl ⟨by decide, by decide, Nat.le_of_ble_eq_true rfl, Nat.le_of_ble_eq_true rfl⟩ (Nat.le_of_ble_eq_true rfl) (HC.self _ _) (n_chargedAnew0 r hcl) ?_
  refine g_ldc C0 KK0 dL_refuses_935 ?_
  refine g_icmp_ne (tgt := 1006) C0 dL_refuses_937 (by decide) (fun z => absurd rfl z) (fun _ => ?_)
  refine g_aload_n C0 dL_refuses_940 rfl ?_
  refine g_iload_n C0 dL_refuses_941 rfl ?_
  refine g_ct1 C0 dL_refuses_942 CL_210 rfl ⟨by decide, by decide, Nat.le_of_ble_eq_true rfl, Nat.le_of_ble_eq_true rfl⟩ (Nat.le_of_ble_eq_true rfl) (HC.self _ _) (n_coins0 r hca) ?_
  refine g_ldc C0 KK0 dL_refuses_945 ?_
  refine g_icmp_ne (tgt := 1006) C0 dL_refuses_947 (by decide) (fun z => absurd rfl z) (fun _ => ?_)
  refine g_aload_n C0 dL_refuses_950 rfl ?_
  refine g_iload_n C0 dL_refuses_951 rfl ?_
  refine g_ct1 C0 dL_refuses_952 CL_212 rfl ⟨by decide, by decide, Nat.le_of_ble_eq_true rfl, Nat.le_of_ble_eq_true rfl⟩ (Nat.le_of_ble_eq_true rfl) (HC.self _ _) (n_earned0 r hca) ?_
  refine g_ldc C0 KK0 dL_refuses_955 ?_
  refine g_icmp_ne (tgt := 1006) C0 dL_refuses_957 (by decide) (fun z => absurd rfl z) (fun _ => ?_)
  refine g_aload_n C0 dL_refuses_960 rfl ?_
  refine g_iload_n C0 dL_refuses_961 rfl ?_
  refine g_ct1 C0 dL_refuses_962 CL_214 rfl ⟨by decide, by decide, Nat.le_of_ble_eq_true rfl, Nat.le_of_ble_eq_true rfl⟩ (Nat.le_of_ble_eq_true rfl) (HC.self _ _) (n_earnedAnew0 r hca) ?_
  refine g_ldc C0 KK0 dL_refuses_965 ?_
  refine g_icmp_ne (tgt := 1006) C0 dL_refuses_967 (by decide) (fun z => absurd rfl z) (fun _ => ?_)
  refine g_aload_n C0 dL_refuses_970 rfl ?_
  refine g_iload C0 dL_refuses_971 rfl ?_
  refine g_ct1 C0 dL_refuses_973 CL_216 rfl ⟨by decide, by decide, Nat.le_of_ble_eq_true rfl, Nat.le_of_ble_eq_true rfl⟩ (Nat.le_of_ble_eq_true rfl) (HC.self _ _) (n_spent0 r hpe) ?_
  refine g_ldc C0 KK0 dL_refuses_976 ?_
  refine g_icmp_ne (tgt := 1006) C0 dL_refuses_978 (by decide) (fun z => absurd rfl z) (fun _ => ?_)
  refine g_aload_n C0 dL_refuses_981 rfl ?_
  refine g_iload C0 dL_refuses_982 rfl ?_
  refine g_ct1 C0 dL_refuses_984 CL_218 rfl ⟨by decide, by decide, Nat.le_of_ble_eq_true rfl, Nat.le_of_ble_eq_true rfl⟩ (Nat.le_of_ble_eq_true rfl) (HC.self _ _) (n_spentAnew0 r hpe) ?_
  refine g_ldc C0 KK0 dL_refuses_987 ?_
  refine g_icmp_ne (tgt := 1006) C0 dL_refuses_989 (by decide) (fun z => absurd rfl z) (fun _ => ?_)
  refine g_aload_n C0 dL_refuses_992 rfl ?_
  refine g_iload_n C0 dL_refuses_993 rfl ?_
  refine g_ct1 C0 dL_refuses_994 CL_220 rfl ⟨by decide, by decide, Nat.le_of_ble_eq_true rfl, Nat.le_of_ble_eq_true rfl⟩ (Nat.le_of_ble_eq_true rfl) (HC.self _ _) (n_losses0 r hca) ?_
  refine g_ldc C0 KK0 dL_refuses_997 ?_
  refine g_icmp_ne (tgt := 1006) C0 dL_refuses_999 (by decide) (fun z => absurd rfl z) (fun _ => ?_)
  refine g_iconst (v := nI 1) C0 dL_refuses_1002 (by decide +kernel) ?_
  refine g_goto (tgt := 1007) C0 dL_refuses_1003 (by decide) ?_
  refine g_istore C0 dL_refuses_1007 (by decide) ?_
  exact k
set_option maxRecDepth 100000 in
set_option maxHeartbeats 4000000 in
theorem rf_13 {X : CX} {S : SX} {q t : XS} {B T m he on : Nat} {n0 ca nu pe cl : Int32} {o2 o9 o10 o11 : Option Value} (C0 : Ok X S ML_refuses) (r : RX q t) (E : EI NB B T n0 q) (hm : m < 10000) (hh : he < 12) (ho : on < 5) (hca : noC ca) (hnu : noN nu) (hpe : noP pe) (hcl : noK q cl) (k : ∀ ow : Int32, (ow < 0 ∨ ∃ c, c < q.2 6 ∧ ow = nI c) → Gd X S ML_refuses 1031 [some (.ref 0), some (.int (nI m)), o2, some (.int ca), some (.int nu), some (.int pe), some (.int cl), some (.int (nI he)), some (.int (nI on)), some (.int (nI 1)), some (.int ow), o11] [] (WX q) 177 1062) : Gd X S ML_refuses 1009 [some (.ref 0), some (.int (nI m)), o2, some (.int ca), some (.int nu), some (.int pe), some (.int cl), some (.int (nI he)), some (.int (nI on)), some (.int (nI 1)), o10, o11] [] (WX q) 177 1062 := by
  refine g_aload_n C0 dL_refuses_1009 rfl ?_
  refine g_cv C0 dL_refuses_1010 CL_126 rfl ⟨by decide, by decide, Nat.le_of_ble_eq_true rfl, Nat.le_of_ble_eq_true rfl⟩ (Nat.le_of_ble_eq_true rfl) (HC.self _ _) (c_calls q) ?_
  have h60 := r.c60
  refine g_if_ne (tgt := 1020) C0 dL_refuses_1013 (by decide) (fun h9 => ?_) (fun h9 => ?_)
  rotate_left
  · refine g_iconst (v := -1) C0 dL_refuses_1016 (by decide) ?_
    refine g_goto (tgt := 1029) C0 dL_refuses_1017 (by decide) ?_
    refine g_istore C0 dL_refuses_1029 (by decide) ?_
    refine g_widen (cs2 := 177) (ss2 := 1062) (by decide) (by decide) ?_
    exact k _ (Or.inl (by decide +kernel))
  have hc : 0 < q.2 6 := Nat.pos_of_ne_zero fun z => h9 (by rw [z]; exact nI_0)
  refine g_iload_n C0 dL_refuses_1020 rfl ?_
  refine g_bipush (v := nI 24) C0 dL_refuses_1021 (by decide +kernel) ?_
  refine g_divN C0 dL_refuses_1023 (by decide) (by decide) (by omega) ?_
  refine g_aload_n C0 dL_refuses_1024 rfl ?_
  refine g_cv C0 dL_refuses_1025 CL_126 rfl ⟨by decide, by decide, Nat.le_of_ble_eq_true rfl, Nat.le_of_ble_eq_true rfl⟩ (Nat.le_of_ble_eq_true rfl) (HC.self _ _) (c_calls q) ?_
  refine g_remN C0 dL_refuses_1028 hc (by omega) (by omega) ?_
  refine g_istore C0 dL_refuses_1029 (by decide) ?_
  exact k _ (Or.inr ⟨_, Nat.mod_lt _ hc, rfl⟩)
set_option maxRecDepth 100000 in
set_option maxHeartbeats 4000000 in
theorem rf_14 {X : CX} {S : SX} {q t : XS} {B T m he on : Nat} {n0 ca nu pe cl : Int32} {o2 o9 o10 o11 : Option Value} (C0 : Ok X S ML_refuses) (r : RX q t) (E : EI NB B T n0 q) (hm : m < 10000) (hh : he < 12) (ho : on < 5) (hca : noC ca) (hnu : noN nu) (hpe : noP pe) (hcl : noK q cl) {ow : Int32} (k : ∀ nx : Nat, nx < 5 → ¬ q.1 0 he = nI nx → Gd X S ML_refuses 1047 [some (.ref 0), some (.int (nI m)), o2, some (.int ca), some (.int nu), some (.int pe), some (.int cl), some (.int (nI he)), some (.int (nI on)), some (.int (nI 1)), some (.int ow), some (.int (nI nx))] [] (WX q) 178 1068) : Gd X S ML_refuses 1031 [some (.ref 0), some (.int (nI m)), o2, some (.int ca), some (.int nu), some (.int pe), some (.int cl), some (.int (nI he)), some (.int (nI on)), some (.int (nI 1)), some (.int ow), o11] [] (WX q) 177 1062 := by
  obtain ⟨u, hu, eu⟩ := x0_in r hh
  refine g_aload_n C0 dL_refuses_1031 rfl ?_
  refine g_iload C0 dL_refuses_1032 rfl ?_
  refine g_ct1 C0 dL_refuses_1034 CL_146 rfl ⟨by decide, by decide, Nat.le_of_ble_eq_true rfl, Nat.le_of_ble_eq_true rfl⟩ (Nat.le_of_ble_eq_true rfl) (HC.self _ _) ((show CT ML_carrier [.int (nI he)] q q (nI u) from by rw [← eu]; exact a_carrier r hh)) ?_
  refine g_iconst (v := nI 1) C0 dL_refuses_1037 (by decide +kernel) ?_
  refine g_addN C0 dL_refuses_1038 ?_
  refine g_iload_n C0 dL_refuses_1039 rfl ?_
  refine g_iconst (v := nI 4) C0 dL_refuses_1040 (by decide +kernel) ?_
  refine g_remN C0 dL_refuses_1041 (by decide) (by decide) (by omega) ?_
  refine g_addN C0 dL_refuses_1042 ?_
  refine g_iconst (v := nI 5) C0 dL_refuses_1043 (by decide +kernel) ?_
  refine g_remN C0 dL_refuses_1044 (by decide) (by decide) (by omega) ?_
  refine g_istore C0 dL_refuses_1045 (by decide) ?_
  exact k _ (by omega) (fun z => absurd (eu.symm.trans z) (nI_ne (by omega) (by omega) (by omega)))
set_option maxRecDepth 100000 in
set_option maxHeartbeats 4000000 in
theorem rf_15 {X : CX} {S : SX} {q t : XS} {B T m he on : Nat} {n0 ca nu pe cl : Int32} {o2 o9 o10 o11 : Option Value} (C0 : Ok X S ML_refuses) (r : RX q t) (E : EI NB B T n0 q) (hm : m < 10000) (hh : he < 12) (ho : on < 5) (hca : noC ca) (hnu : noN nu) (hpe : noP pe) (hcl : noK q cl) {ow : Int32} {nx : Nat} (how : ow < 0 ∨ ∃ c, c < q.2 6 ∧ ow = nI c) (k : Gd X S ML_refuses 1105 [some (.ref 0), some (.int (nI m)), o2, some (.int ca), some (.int nu), some (.int pe), some (.int cl), some (.int (nI he)), some (.int (nI on)), some (.int (nI 1)), some (.int ow), some (.int (nI nx))] [] (WX q) 185 1110) : Gd X S ML_refuses 1047 [some (.ref 0), some (.int (nI m)), o2, some (.int ca), some (.int nu), some (.int pe), some (.int cl), some (.int (nI he)), some (.int (nI on)), some (.int (nI 1)), some (.int ow), some (.int (nI nx))] [] (WX q) 178 1068 := by
  refine g_iload C0 dL_refuses_1047 rfl ?_
  refine g_if_eq (tgt := 1137) C0 dL_refuses_1049 (by decide) (fun z => absurd z (by decide +kernel)) (fun _ => ?_)
  refine g_iload C0 dL_refuses_1052 rfl ?_
  rcases how with hneg | ⟨c, hc, rfl⟩
  · refine g_if_lt (tgt := 1105) C0 dL_refuses_1054 (by decide) (fun _ => ?_) (fun z => absurd hneg z)
    exact g_widen (cs2 := 185) (ss2 := 1110) (by decide) (by decide) k
  have h60 := r.c60
  have hK := okK hc h60
  refine g_if_lt (tgt := 1105) C0 dL_refuses_1054 (by decide) (fun z => absurd z (nI_pos (by omega))) (fun _ => ?_)
  refine g_aload_n C0 dL_refuses_1057 rfl ?_
  refine g_iload C0 dL_refuses_1058 rfl ?_
  refine g_iconst (v := -1) C0 dL_refuses_1060 (by decide) ?_
  refine g_iload_n C0 dL_refuses_1061 rfl ?_
  refine g_isub C0 dL_refuses_1062 ?_
  refine g_ct2 C0 dL_refuses_1063 CL_201 rfl ⟨by decide, by decide, Nat.le_of_ble_eq_true rfl, Nat.le_of_ble_eq_true rfl⟩ (Nat.le_of_ble_eq_true rfl) (HC.self _ _) (n_at1 r hK (m1_neg (by omega))) ?_
  refine g_ldc C0 KK0 dL_refuses_1066 ?_
  refine g_icmp_ne (tgt := 1137) C0 dL_refuses_1068 (by decide) (fun z => absurd rfl z) (fun _ => ?_)
  refine g_aload_n C0 dL_refuses_1071 rfl ?_
  refine g_iload C0 dL_refuses_1072 rfl ?_
  refine g_iconst (v := nI 5) C0 dL_refuses_1074 (by decide +kernel) ?_
  refine g_iload_n C0 dL_refuses_1075 rfl ?_
  refine g_addN C0 dL_refuses_1076 ?_
  refine g_ct2 C0 dL_refuses_1077 CL_201 rfl ⟨by decide, by decide, Nat.le_of_ble_eq_true rfl, Nat.le_of_ble_eq_true rfl⟩ (Nat.le_of_ble_eq_true rfl) (HC.self _ _) (n_at2 r hK (nI_pos (by omega)) (by rw [len_n r hc]; exact nI_nlt (by have h4 : lm t c ≤ 4 := (r.g19 c).2; omega) (by omega))) ?_
  refine g_ldc C0 KK0 dL_refuses_1080 ?_
  refine g_icmp_ne (tgt := 1137) C0 dL_refuses_1082 (by decide) (fun z => absurd rfl z) (fun _ => ?_)
  refine g_aload_n C0 dL_refuses_1085 rfl ?_
  refine g_iload C0 dL_refuses_1086 rfl ?_
  refine g_ct1 C0 dL_refuses_1088 CL_197 rfl ⟨by decide, by decide, Nat.le_of_ble_eq_true rfl, Nat.le_of_ble_eq_true rfl⟩ (Nat.le_of_ble_eq_true rfl) (HC.self _ _) (a_state r hc) ?_
  refine g_if_eq (tgt := 1105) C0 dL_refuses_1091 (by decide) (fun _ => ?_) (fun h9 => ?_)
  · exact g_widen (cs2 := 185) (ss2 := 1110) (by decide) (by decide) k
  refine g_aload_n C0 dL_refuses_1094 rfl ?_
  refine g_iload C0 dL_refuses_1095 rfl ?_
  refine g_ct1 C0 dL_refuses_1097 CL_177 rfl ⟨by decide, by decide, Nat.le_of_ble_eq_true rfl, Nat.le_of_ble_eq_true rfl⟩ (Nat.le_of_ble_eq_true rfl) (HC.self _ _) (n_hangs1 r hK (by rw [xg_n (k := 31) (show c < 60 by omega)]; exact h9)) ?_
  refine g_ldc C0 KK2 dL_refuses_1100 ?_
  refine g_icmp_ne (tgt := 1137) C0 dL_refuses_1102 (by decide) (fun z => absurd rfl z) (fun _ => ?_)
  exact k
set_option maxRecDepth 100000 in
set_option maxHeartbeats 4000000 in
theorem rf_16 {X : CX} {S : SX} {q t : XS} {B T m he on : Nat} {n0 ca nu pe cl : Int32} {o2 o9 o10 o11 : Option Value} (C0 : Ok X S ML_refuses) (r : RX q t) (E : EI NB B T n0 q) (hm : m < 10000) (hh : he < 12) (ho : on < 5) (hca : noC ca) (hnu : noN nu) (hpe : noP pe) (hcl : noK q cl) {ow : Int32} {nx : Nat} (hx : nx < 5) (hxn : ¬ q.1 0 he = nI nx) (hK : SK S (.inl (some (.int 1))) (WX q)) : Gd X S ML_refuses 1105 [some (.ref 0), some (.int (nI m)), o2, some (.int ca), some (.int nu), some (.int pe), some (.int cl), some (.int (nI he)), some (.int (nI on)), some (.int (nI 1)), some (.int ow), some (.int (nI nx))] [] (WX q) 185 1110 := by
  refine g_aload_n C0 dL_refuses_1105 rfl ?_
  refine g_iload C0 dL_refuses_1106 rfl ?_
  refine g_ct1 C0 dL_refuses_1108 CL_164 rfl ⟨by decide, by decide, Nat.le_of_ble_eq_true rfl, Nat.le_of_ble_eq_true rfl⟩ (Nat.le_of_ble_eq_true rfl) (HC.self _ _) (a_debt r hh) ?_
  refine g_aload_n C0 dL_refuses_1111 rfl ?_
  refine g_iload C0 dL_refuses_1112 rfl ?_
  refine g_ct1 C0 dL_refuses_1114 CL_159 rfl ⟨by decide, by decide, Nat.le_of_ble_eq_true rfl, Nat.le_of_ble_eq_true rfl⟩ (Nat.le_of_ble_eq_true rfl) (HC.self _ _) (a_bond r hh) ?_
  refine g_icmp_le (tgt := 1133) C0 dL_refuses_1117 (by decide) (fun _ => ?_) (fun h9 => ?_)
  · refine g_iconst (v := 1) C0 dL_refuses_1133 (by decide) ?_
    refine g_goto (tgt := 1138) C0 dL_refuses_1134 (by decide) ?_
    exact g_zret C0 rfl rfl dL_refuses_1138 (Nat.le_of_ble_eq_true rfl) (Nat.le_of_ble_eq_true rfl) hK
  refine g_aload_n C0 dL_refuses_1120 rfl ?_
  refine g_iload C0 dL_refuses_1121 rfl ?_
  refine g_iload C0 dL_refuses_1123 rfl ?_
  refine g_ct2 C0 dL_refuses_1125 CL_143 rfl ⟨by decide, by decide, Nat.le_of_ble_eq_true rfl, Nat.le_of_ble_eq_true rfl⟩ (Nat.le_of_ble_eq_true rfl) (HC.self _ _) (n_ports3 r (okN hh) (okC hx) (by rw [xg_n (k := 0) (show he < 12 from hh)]; exact hxn) (by rw [xg_n (k := 2) (show he < 12 from hh), xg_n (k := 4) (show he < 12 from hh)]; exact h9)) ?_
  refine g_ldc C0 KK2 dL_refuses_1128 ?_
  refine g_icmp_ne (tgt := 1137) C0 dL_refuses_1130 (by decide) (fun z => absurd rfl z) (fun _ => ?_)
  refine g_iconst (v := 1) C0 dL_refuses_1133 (by decide) ?_
  refine g_goto (tgt := 1138) C0 dL_refuses_1134 (by decide) ?_
  exact g_zret C0 rfl rfl dL_refuses_1138 (Nat.le_of_ble_eq_true rfl) (Nat.le_of_ble_eq_true rfl) hK
set_option maxRecDepth 100000 in
set_option maxHeartbeats 4000000 in
theorem rf_all {X : CX} {S : SX} {q t : XS} {B T m he on : Nat} {n0 ca nu pe cl : Int32} {o2 o9 o10 o11 : Option Value} (C0 : Ok X S ML_refuses) (r : RX q t) (E : EI NB B T n0 q) (hm : m < 10000) (hh : he < 12) (ho : on < 5) (hca : noC ca) (hnu : noN nu) (hpe : noP pe) (hcl : noK q cl) (hK : SK S (.inl (some (.int 1))) (WX q)) : Gd X S ML_refuses 115 [some (.ref 0), some (.int (nI m)), o2, some (.int ca), some (.int nu), some (.int pe), some (.int cl), some (.int (nI he)), some (.int (nI on)), o9, o10, o11] [] (WX q) 0 0 := by
  refine rf_1 C0 r E hm hh ho hca hnu hpe hcl ?_
  refine rf_2 C0 r E hm hh ho hca hnu hpe hcl ?_
  refine rf_3 C0 r E hm hh ho hca hnu hpe hcl ?_
  refine rf_4 C0 r E hm hh ho hca hnu hpe hcl ?_
  refine rf_5 C0 r E hm hh ho hca hnu hpe hcl ?_
  refine rf_6 C0 r E hm hh ho hca hnu hpe hcl ?_
  refine rf_7 C0 r E hm hh ho hca hnu hpe hcl ?_
  refine rf_8 C0 r E hm hh ho hca hnu hpe hcl ?_
  refine rf_9 C0 r E hm hh ho hca hnu hpe hcl ?_
  refine rf_10 C0 r E hm hh ho hca hnu hpe hcl ?_
  refine rf_11 (o9 := o9) C0 r E hm hh ho hca hnu hpe hcl ?_
  refine rf_12 (o9 := o9) C0 r E hm hh ho hca hnu hpe hcl ?_
  refine rf_13 (o9 := o9) C0 r E hm hh ho hca hnu hpe hcl (fun ow how => ?_)
  refine rf_14 (o9 := o9) (o10 := o10) C0 r E hm hh ho hca hnu hpe hcl (fun nx hx hxn => ?_)
  refine rf_15 (o9 := o9) (o10 := o10) (o11 := o11) C0 r E hm hh ho hca hnu hpe hcl how ?_
  exact rf_16 (o9 := o9) (o10 := o10) (o11 := o11) C0 r E hm hh ho hca hnu hpe hcl hx hxn hK
set_option maxRecDepth 100000 in
set_option maxHeartbeats 4000000 in
theorem k_refuses {q t : XS} {B T m : Nat} {n0 : Int32} (r : RX q t) (E : EI NB B T n0 q) (hm : m < 10000) : CT ML_refuses [.int (nI m)] q q 1 := by
  intro K hK
  refine Snd.of (by decide +kernel) (Nat.le_of_ble_eq_true rfl) rfl rfl ?_
  intro X D dA ad C0
  show Gd X _ ML_refuses 0 [some (.ref 0), some (.int (nI m)), none, none, none, none, none, none, none, none, none, none] [] _ 0 0
  have h60 := r.c60
  by_cases h2 : m % 2 = 0
  · refine g_iload_n C0 dL_refuses_0 rfl ?_
    refine g_iconst (v := nI 2) C0 dL_refuses_1 (by decide +kernel) ?_
    refine g_remN C0 dL_refuses_2 (by decide) (by decide) (by omega) ?_
    refine g_if_ne (tgt := 10) C0 dL_refuses_3 (by decide) (fun z => absurd (by rw [h2]; exact nI_0) z) (fun _ => ?_)
    refine g_iconst (v := nI 1) C0 dL_refuses_6 (by decide +kernel) ?_
    refine g_goto (tgt := 11) C0 dL_refuses_7 (by decide) ?_
    refine g_istore_n C0 dL_refuses_11 (by decide) ?_
    refine g_iload_n C0 dL_refuses_12 rfl ?_
    refine g_if_eq (tgt := 25) C0 dL_refuses_13 (by decide) (fun z => absurd z (by decide +kernel)) (fun _ => ?_)
    refine g_iconst (v := -1) C0 dL_refuses_16 (by decide) ?_
    refine g_iload_n C0 dL_refuses_17 rfl ?_
    refine g_bipush (v := nI 50) C0 dL_refuses_18 (by decide +kernel) ?_
    refine g_remN C0 dL_refuses_20 (by decide) (by decide) (by omega) ?_
    refine g_isub C0 dL_refuses_21 ?_
    refine g_goto (tgt := 31) C0 dL_refuses_22 (by decide) ?_
    refine g_istore_n C0 dL_refuses_31 (by decide) ?_
    refine g_iload_n C0 dL_refuses_32 rfl ?_
    refine g_if_eq (tgt := 45) C0 dL_refuses_33 (by decide) (fun z => absurd z (by decide +kernel)) (fun _ => ?_)
    refine g_iconst (v := -1) C0 dL_refuses_36 (by decide) ?_
    refine g_iload_n C0 dL_refuses_37 rfl ?_
    refine g_bipush (v := nI 50) C0 dL_refuses_38 (by decide +kernel) ?_
    refine g_remN C0 dL_refuses_40 (by decide) (by decide) (by omega) ?_
    refine g_isub C0 dL_refuses_41 ?_
    refine g_goto (tgt := 52) C0 dL_refuses_42 (by decide) ?_
    refine g_istore C0 dL_refuses_52 (by decide) ?_
    refine g_iload_n C0 dL_refuses_54 rfl ?_
    refine g_if_eq (tgt := 67) C0 dL_refuses_55 (by decide) (fun z => absurd z (by decide +kernel)) (fun _ => ?_)
    refine g_iconst (v := -1) C0 dL_refuses_58 (by decide) ?_
    refine g_iload_n C0 dL_refuses_59 rfl ?_
    refine g_bipush (v := nI 50) C0 dL_refuses_60 (by decide +kernel) ?_
    refine g_remN C0 dL_refuses_62 (by decide) (by decide) (by omega) ?_
    refine g_isub C0 dL_refuses_63 ?_
    refine g_goto (tgt := 74) C0 dL_refuses_64 (by decide) ?_
    refine g_istore C0 dL_refuses_74 (by decide) ?_
    refine g_iload_n C0 dL_refuses_76 rfl ?_
    refine g_if_eq (tgt := 89) C0 dL_refuses_77 (by decide) (fun z => absurd z (by decide +kernel)) (fun _ => ?_)
    refine g_iconst (v := -1) C0 dL_refuses_80 (by decide) ?_
    refine g_iload_n C0 dL_refuses_81 rfl ?_
    refine g_bipush (v := nI 50) C0 dL_refuses_82 (by decide +kernel) ?_
    refine g_remN C0 dL_refuses_84 (by decide) (by decide) (by omega) ?_
    refine g_isub C0 dL_refuses_85 ?_
    refine g_goto (tgt := 98) C0 dL_refuses_86 (by decide) ?_
    refine g_istore C0 dL_refuses_98 (by decide) ?_
    refine g_iload_n C0 dL_refuses_100 rfl ?_
    refine g_iconst (v := nI 2) C0 dL_refuses_101 (by decide +kernel) ?_
    refine g_divN C0 dL_refuses_102 (by decide) (by decide) (by omega) ?_
    refine g_bipush (v := nI 12) C0 dL_refuses_103 (by decide +kernel) ?_
    refine g_remN C0 dL_refuses_105 (by decide) (by decide) (by omega) ?_
    refine g_istore C0 dL_refuses_106 (by decide) ?_
    refine g_iload_n C0 dL_refuses_108 rfl ?_
    refine g_iconst (v := nI 2) C0 dL_refuses_109 (by decide +kernel) ?_
    refine g_divN C0 dL_refuses_110 (by decide) (by decide) (by omega) ?_
    refine g_iconst (v := nI 5) C0 dL_refuses_111 (by decide +kernel) ?_
    refine g_remN C0 dL_refuses_112 (by decide) (by decide) (by omega) ?_
    refine g_istore C0 dL_refuses_113 (by decide) ?_
    exact rf_all C0 r E hm (by omega) (by omega) (Or.inl (m1_neg (by omega))) (Or.inl (m1_neg (by omega))) (Or.inl (m1_neg (by omega))) (Or.inl (m1_neg (by omega))) hK
  · refine g_iload_n C0 dL_refuses_0 rfl ?_
    refine g_iconst (v := nI 2) C0 dL_refuses_1 (by decide +kernel) ?_
    refine g_remN C0 dL_refuses_2 (by decide) (by decide) (by omega) ?_
    refine g_if_ne (tgt := 10) C0 dL_refuses_3 (by decide) (fun _ => ?_) (fun z => absurd z (nI_ne0 (by omega) (by omega)))
    refine g_iconst (v := nI 0) C0 dL_refuses_10 (by decide +kernel) ?_
    refine g_istore_n C0 dL_refuses_11 (by decide) ?_
    refine g_iload_n C0 dL_refuses_12 rfl ?_
    refine g_if_eq (tgt := 25) C0 dL_refuses_13 (by decide) (fun _ => ?_) (fun z => absurd nI_0 z)
    refine g_iconst (v := nI 5) C0 dL_refuses_25 (by decide +kernel) ?_
    refine g_iload_n C0 dL_refuses_26 rfl ?_
    refine g_bipush (v := nI 50) C0 dL_refuses_27 (by decide +kernel) ?_
    refine g_remN C0 dL_refuses_29 (by decide) (by decide) (by omega) ?_
    refine g_addN C0 dL_refuses_30 ?_
    refine g_istore_n C0 dL_refuses_31 (by decide) ?_
    refine g_iload_n C0 dL_refuses_32 rfl ?_
    refine g_if_eq (tgt := 45) C0 dL_refuses_33 (by decide) (fun _ => ?_) (fun z => absurd nI_0 z)
    refine g_bipush (v := nI 12) C0 dL_refuses_45 (by decide +kernel) ?_
    refine g_iload_n C0 dL_refuses_47 rfl ?_
    refine g_bipush (v := nI 50) C0 dL_refuses_48 (by decide +kernel) ?_
    refine g_remN C0 dL_refuses_50 (by decide) (by decide) (by omega) ?_
    refine g_addN C0 dL_refuses_51 ?_
    refine g_istore C0 dL_refuses_52 (by decide) ?_
    refine g_iload_n C0 dL_refuses_54 rfl ?_
    refine g_if_eq (tgt := 67) C0 dL_refuses_55 (by decide) (fun _ => ?_) (fun z => absurd nI_0 z)
    refine g_bipush (v := nI 6) C0 dL_refuses_67 (by decide +kernel) ?_
    refine g_iload_n C0 dL_refuses_69 rfl ?_
    refine g_bipush (v := nI 50) C0 dL_refuses_70 (by decide +kernel) ?_
    refine g_remN C0 dL_refuses_72 (by decide) (by decide) (by omega) ?_
    refine g_addN C0 dL_refuses_73 ?_
    refine g_istore C0 dL_refuses_74 (by decide) ?_
    refine g_iload_n C0 dL_refuses_76 rfl ?_
    refine g_if_eq (tgt := 89) C0 dL_refuses_77 (by decide) (fun _ => ?_) (fun z => absurd nI_0 z)
    refine g_aload_n C0 dL_refuses_89 rfl ?_
    refine g_cv C0 dL_refuses_90 CL_126 rfl ⟨by decide, by decide, Nat.le_of_ble_eq_true rfl, Nat.le_of_ble_eq_true rfl⟩ (Nat.le_of_ble_eq_true rfl) (HC.self _ _) (c_calls q) ?_
    refine g_iload_n C0 dL_refuses_93 rfl ?_
    refine g_bipush (v := nI 50) C0 dL_refuses_94 (by decide +kernel) ?_
    refine g_remN C0 dL_refuses_96 (by decide) (by decide) (by omega) ?_
    refine g_addN C0 dL_refuses_97 ?_
    refine g_istore C0 dL_refuses_98 (by decide) ?_
    refine g_iload_n C0 dL_refuses_100 rfl ?_
    refine g_iconst (v := nI 2) C0 dL_refuses_101 (by decide +kernel) ?_
    refine g_divN C0 dL_refuses_102 (by decide) (by decide) (by omega) ?_
    refine g_bipush (v := nI 12) C0 dL_refuses_103 (by decide +kernel) ?_
    refine g_remN C0 dL_refuses_105 (by decide) (by decide) (by omega) ?_
    refine g_istore C0 dL_refuses_106 (by decide) ?_
    refine g_iload_n C0 dL_refuses_108 rfl ?_
    refine g_iconst (v := nI 2) C0 dL_refuses_109 (by decide +kernel) ?_
    refine g_divN C0 dL_refuses_110 (by decide) (by decide) (by omega) ?_
    refine g_iconst (v := nI 5) C0 dL_refuses_111 (by decide +kernel) ?_
    refine g_remN C0 dL_refuses_112 (by decide) (by decide) (by omega) ?_
    refine g_istore C0 dL_refuses_113 (by decide) ?_
    refine g_widen (cs2 := 0) (ss2 := 0) (by decide) (by decide) ?_
    exact rf_all C0 r E hm (by omega) (by omega) (Or.inr (nI_le (a := 5) (by omega) (by omega))) (Or.inr (nI_le (a := 12) (by omega) (by omega))) (Or.inr (nI_le (a := 6) (by omega) (by omega))) (Or.inr (nI_le (by omega) (by omega))) hK

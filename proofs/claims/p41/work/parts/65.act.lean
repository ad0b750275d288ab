/-! ===== an act ===== -/
def anum (m : Nat) : Nat := if m % 3 = 0 then m / 32 % 12 else m / 32 % 5
theorem anum_lt (m : Nat) : anum m < 12 := by unfold anum; split <;> omega
def aspan (m : Nat) : Nat := 1 + (if m / 32 % 7 = 0 then m / 32 % 200 else m / 32 % 50)
theorem aspan_lt (m : Nat) : 1 ≤ aspan m ∧ aspan m ≤ 200 := by unfold aspan; split <;> omega
abbrev LSA (m : Nat) (sv : Int32) (o6 o7 o8 : Option Value) : List (Option Value) := [some (.ref 0), some (.int (nI m)), some (.int sv), some (.int (nI (m / 32))), some (.int (nI (anum m))), some (.int (nI (m / 32 / 12 % 5))), o6, o7, o8]
set_option maxRecDepth 100000 in
set_option maxHeartbeats 4000000 in
theorem ac_head {X : CX} {S : SX} {q : XS} {m : Nat} {sv : Int32} (C0 : Ok X S ML_act) (hm : m < 2 ^ 31) (k : Gd X S ML_act 33 (LSA m sv none none none) [.int (nI (m % 32))] (WX q) 0 0) : Gd X S ML_act 0 [some (.ref 0), some (.int (nI m)), some (.int sv), none, none, none, none, none, none] [] (WX q) 0 0 := by
  unfold LSA at k
  refine g_iload_n C0 dL_act_0 rfl ?_
  refine g_bipush (v := nI 32) C0 dL_act_1 (by decide +kernel) ?_
  refine g_divN C0 dL_act_3 (by decide) (by decide) (by omega) ?_
  refine g_istore_n C0 dL_act_4 (by decide) ?_
  refine g_iload_n C0 dL_act_5 rfl ?_
  refine g_iload_n C0 dL_act_6 rfl ?_
  refine g_iconst (v := nI 3) C0 dL_act_7 (by decide +kernel) ?_
  refine g_remN C0 dL_act_8 (by decide) (by decide) (by omega) ?_
  by_cases h3 : m % 3 = 0
  · have ea : anum m = m / 32 % 12 := if_pos h3
    rw [ea] at k
    refine g_if_ne (tgt := 17) C0 dL_act_9 (by decide) (fun z => absurd (by rw [h3]; exact nI_0) z) (fun _ => ?_)
    refine g_bipush (v := nI 12) C0 dL_act_12 (by decide +kernel) ?_
    refine g_goto (tgt := 18) C0 dL_act_14 (by decide) ?_
    refine g_remN C0 dL_act_18 (by decide) (by decide) (by omega) ?_
    refine g_istore C0 dL_act_19 (by decide) ?_
    refine g_iload_n C0 dL_act_21 rfl ?_
    refine g_bipush (v := nI 12) C0 dL_act_22 (by decide +kernel) ?_
    refine g_divN C0 dL_act_24 (by decide) (by decide) (by omega) ?_
    refine g_iconst (v := nI 5) C0 dL_act_25 (by decide +kernel) ?_
    refine g_remN C0 dL_act_26 (by decide) (by decide) (by omega) ?_
    refine g_istore C0 dL_act_27 (by decide) ?_
    refine g_iload_n C0 dL_act_29 rfl ?_
    refine g_bipush (v := nI 32) C0 dL_act_30 (by decide +kernel) ?_
    refine g_remN C0 dL_act_32 (by decide) (by decide) (by omega) ?_
    exact k
  · have ea : anum m = m / 32 % 5 := if_neg h3
    rw [ea] at k
    refine g_if_ne (tgt := 17) C0 dL_act_9 (by decide) (fun _ => ?_) (fun z => absurd z (nI_ne0 (by omega) (by omega)))
    refine g_iconst (v := nI 5) C0 dL_act_17 (by decide +kernel) ?_
    refine g_remN C0 dL_act_18 (by decide) (by decide) (by omega) ?_
    refine g_istore C0 dL_act_19 (by decide) ?_
    refine g_iload_n C0 dL_act_21 rfl ?_
    refine g_bipush (v := nI 12) C0 dL_act_22 (by decide +kernel) ?_
    refine g_divN C0 dL_act_24 (by decide) (by decide) (by omega) ?_
    refine g_iconst (v := nI 5) C0 dL_act_25 (by decide +kernel) ?_
    refine g_remN C0 dL_act_26 (by decide) (by decide) (by omega) ?_
    refine g_istore C0 dL_act_27 (by decide) ?_
    refine g_iload_n C0 dL_act_29 rfl ?_
    refine g_bipush (v := nI 32) C0 dL_act_30 (by decide +kernel) ?_
    refine g_remN C0 dL_act_32 (by decide) (by decide) (by omega) ?_
    exact k
theorem act_in {q q2 : XS} {v sv : Int32} {m c : Nat} {off : Int} {tgt : Nat} (hm : m < 2 ^ 31) (hc : m % 32 = c) (h21 : c ≤ 21) (ho : (#[103, 125, 125, 154, 154, 181, 181, 181, 181, 181, 190, 204, 204, 221, 237, 237, 244, 244, 266, 266, 266, 266] : Array Int)[c]? = some off) (ht : (33 : Int) + off = (tgt : Int)) (h : ∀ (X : CX) (S : SX), Ok X S ML_act → SK S (.inl (some (.int v))) (WX q2) → Gd X S ML_act tgt (LSA m sv none none none) [] (WX q) 0 0) : CT ML_act [.int (nI m), .int sv] q q2 v := by
  intro K hK
  refine Snd.of (by decide +kernel) (Nat.le_of_ble_eq_true rfl) rfl rfl ?_
  intro X D dA ad C0
  show Gd X _ ML_act 0 [some (.ref 0), some (.int (nI m)), some (.int sv), none, none, none, none, none, none] [] _ 0 0
  refine ac_head C0 hm ?_
  have e1 : (nI (m % 32)).toInt = (c : Int) := by rw [hc]; exact nI_toInt (by omega)
  refine g_tblI (off := off) (tgt := tgt) C0 dL_act_33 (by rw [e1]; omega) (by rw [e1]; omega) (by rw [e1, Int.sub_zero]; exact ho) ht ?_
  exact h X _ C0 hK
theorem act_out {q q2 : XS} {v sv : Int32} {m : Nat} (hm : m < 2 ^ 31) (hc : 21 < m % 32) (h : ∀ (X : CX) (S : SX), Ok X S ML_act → SK S (.inl (some (.int v))) (WX q2) → Gd X S ML_act 369 (LSA m sv none none none) [] (WX q) 0 0) : CT ML_act [.int (nI m), .int sv] q q2 v := by
  intro K hK
  refine Snd.of (by decide +kernel) (Nat.le_of_ble_eq_true rfl) rfl rfl ?_
  intro X D dA ad C0
  show Gd X _ ML_act 0 [some (.ref 0), some (.int (nI m)), some (.int sv), none, none, none, none, none, none] [] _ 0 0
  refine ac_head C0 hm ?_
  have e1 : (nI (m % 32)).toInt = ((m % 32 : Nat) : Int) := nI_toInt (by omega)
  refine g_tblO (tgt := 369) C0 dL_act_33 (Or.inr (by rw [e1]; omega)) (by decide) ?_
  exact h X _ C0 hK
set_option maxRecDepth 100000 in
set_option maxHeartbeats 4000000 in
theorem at_prices {X : CX} {S : SX} {q t : XS} {m : Nat} {sv : Int32} (C0 : Ok X S ML_act) (r : RX q t) (hm : m < 2 ^ 31) (hK : SK S (.inl (some (.int (cod (xSetPrices q (nI (m / 32 / 12 % 5)) (nI (m / 32 / 60 % 10)) (nI (m / 32 / 600 % 10))).1)))) (WX ((xSetPrices q (nI (m / 32 / 12 % 5)) (nI (m / 32 / 60 % 10)) (nI (m / 32 / 600 % 10))).2))) : Gd X S ML_act 136 (LSA m sv none none none) [] (WX q) 0 0 := by
  refine g_aload_n C0 dL_act_136 rfl ?_
  refine g_iload C0 dL_act_137 rfl ?_
  refine g_iload_n C0 dL_act_139 rfl ?_
  refine g_bipush (v := nI 60) C0 dL_act_140 (by decide +kernel) ?_
  refine g_divN C0 dL_act_142 (by decide) (by decide) (by omega) ?_
  refine g_bipush (v := nI 10) C0 dL_act_143 (by decide +kernel) ?_
  refine g_remN C0 dL_act_145 (by decide) (by decide) (by omega) ?_
  refine g_iload_n C0 dL_act_146 rfl ?_
  refine g_sipush (v := nI 600) C0 dL_act_147 (by decide +kernel) ?_
  refine g_divN C0 dL_act_150 (by decide) (by decide) (by omega) ?_
  refine g_bipush (v := nI 10) C0 dL_act_151 (by decide +kernel) ?_
  refine g_remN C0 dL_act_153 (by decide) (by decide) (by omega) ?_
  refine g_ct3 C0 dL_act_154 CL_130 rfl ⟨by decide, by decide, Nat.le_of_ble_eq_true rfl, Nat.le_of_ble_eq_true rfl⟩ (Nat.le_of_ble_eq_true rfl) (HC.self _ _) (c_prices r _ _ _) ?_
  exact g_iret C0 rfl dL_act_157 (Nat.le_of_ble_eq_true rfl) (Nat.le_of_ble_eq_true rfl) hK
set_option maxRecDepth 100000 in
set_option maxHeartbeats 4000000 in
theorem at_delays {X : CX} {S : SX} {q t : XS} {m : Nat} {sv : Int32} (C0 : Ok X S ML_act) (r : RX q t) (hm : m < 2 ^ 31) (hK : SK S (.inl (some (.int (cod (xSetDelay q (nI (m / 32 / 12 % 5)) (nI (if m / 32 / 60 % 3 = 0 then 0 else m / 32 / 180 % 300))).1)))) (WX (xSetDelay q (nI (m / 32 / 12 % 5)) (nI (if m / 32 / 60 % 3 = 0 then 0 else m / 32 / 180 % 300))).2)) : Gd X S ML_act 158 (LSA m sv none none none) [] (WX q) 0 0 := by
  refine g_aload_n C0 dL_act_158 rfl ?_
  refine g_iload C0 dL_act_159 rfl ?_
  refine g_iload_n C0 dL_act_161 rfl ?_
  refine g_bipush (v := nI 60) C0 dL_act_162 (by decide +kernel) ?_
  refine g_divN C0 dL_act_164 (by decide) (by decide) (by omega) ?_
  refine g_iconst (v := nI 3) C0 dL_act_165 (by decide +kernel) ?_
  refine g_remN C0 dL_act_166 (by decide) (by decide) (by omega) ?_
  have J : Gd X S ML_act 183 (LSA m sv none none none) [.int (nI (if m / 32 / 60 % 3 = 0 then 0 else m / 32 / 180 % 300)), .int (nI (m / 32 / 12 % 5)), .ref 0] (WX q) 0 0 := by
    refine g_ct2 C0 dL_act_183 CL_136 rfl ⟨by decide, by decide, Nat.le_of_ble_eq_true rfl, Nat.le_of_ble_eq_true rfl⟩ (Nat.le_of_ble_eq_true rfl) (HC.self _ _) (c_delays r _ _) ?_
    exact g_iret C0 rfl dL_act_186 (Nat.le_of_ble_eq_true rfl) (Nat.le_of_ble_eq_true rfl) hK
  by_cases h3 : m / 32 / 60 % 3 = 0
  · rw [if_pos h3] at J
    refine g_if_ne (tgt := 174) C0 dL_act_167 (by decide) (fun z => absurd (by rw [h3]; exact nI_0) z) (fun _ => ?_)
    refine g_iconst (v := nI 0) C0 dL_act_170 (by decide +kernel) ?_
    refine g_goto (tgt := 183) C0 dL_act_171 (by decide) ?_
    exact J
  · rw [if_neg h3] at J
    refine g_if_ne (tgt := 174) C0 dL_act_167 (by decide) (fun _ => ?_) (fun z => absurd z (nI_ne0 (by omega) (by omega)))
    refine g_iload_n C0 dL_act_174 rfl ?_
    refine g_sipush (v := nI 180) C0 dL_act_175 (by decide +kernel) ?_
    refine g_divN C0 dL_act_178 (by decide) (by decide) (by omega) ?_
    refine g_sipush (v := nI 300) C0 dL_act_179 (by decide +kernel) ?_
    refine g_remN C0 dL_act_182 (by decide) (by decide) (by omega) ?_
    exact J
set_option maxRecDepth 100000 in
set_option maxHeartbeats 4000000 in
theorem at_lines {X : CX} {S : SX} {q t : XS} {m : Nat} {sv : Int32} (C0 : Ok X S ML_act) (r : RX q t) (hm : m < 2 ^ 31) (hK : SK S (.inl (some (.int (cod (xSetTrunk q (nI (m / 32 / 12 % 5)) (nI ((m / 32 / 12 % 5 + 1 + m / 32 / 60 % 4) % 5)) (nI (m / 32 / 240 % 4)) (lm t)).1)))) (WX ((xSetTrunk q (nI (m / 32 / 12 % 5)) (nI ((m / 32 / 12 % 5 + 1 + m / 32 / 60 % 4) % 5)) (nI (m / 32 / 240 % 4)) (lm t)).2))) : Gd X S ML_act 187 (LSA m sv none none none) [] (WX q) 0 0 := by
  refine g_aload_n C0 dL_act_187 rfl ?_
  refine g_iload C0 dL_act_188 rfl ?_
  refine g_iload C0 dL_act_190 rfl ?_
  refine g_iconst (v := nI 1) C0 dL_act_192 (by decide +kernel) ?_
  refine g_addN C0 dL_act_193 ?_
  refine g_iload_n C0 dL_act_194 rfl ?_
  refine g_bipush (v := nI 60) C0 dL_act_195 (by decide +kernel) ?_
  refine g_divN C0 dL_act_197 (by decide) (by decide) (by omega) ?_
  refine g_iconst (v := nI 4) C0 dL_act_198 (by decide +kernel) ?_
  refine g_remN C0 dL_act_199 (by decide) (by decide) (by omega) ?_
  refine g_addN C0 dL_act_200 ?_
  refine g_iconst (v := nI 5) C0 dL_act_201 (by decide +kernel) ?_
  refine g_remN C0 dL_act_202 (by decide) (by decide) (by omega) ?_
  refine g_iload_n C0 dL_act_203 rfl ?_
  refine g_sipush (v := nI 240) C0 dL_act_204 (by decide +kernel) ?_
  refine g_divN C0 dL_act_207 (by decide) (by decide) (by omega) ?_
  refine g_iconst (v := nI 4) C0 dL_act_208 (by decide +kernel) ?_
  refine g_remN C0 dL_act_209 (by decide) (by decide) (by omega) ?_
  refine g_ct3 C0 dL_act_210 CL_140 rfl ⟨by decide, by decide, Nat.le_of_ble_eq_true rfl, Nat.le_of_ble_eq_true rfl⟩ (Nat.le_of_ble_eq_true rfl) (HC.self _ _) (c_lines r _ _ _) ?_
  exact g_iret C0 rfl dL_act_213 (Nat.le_of_ble_eq_true rfl) (Nat.le_of_ble_eq_true rfl) hK
set_option maxRecDepth 100000 in
set_option maxHeartbeats 4000000 in
theorem at_ports {X : CX} {S : SX} {q t : XS} {m : Nat} {sv : Int32} (C0 : Ok X S ML_act) (r : RX q t) (hm : m < 2 ^ 31) (hK : SK S (.inl (some (.int (cod (xPort q (nI (anum m)) (nI (m / 32 / 12 % 5))).1)))) (WX ((xPort q (nI (anum m)) (nI (m / 32 / 12 % 5))).2))) : Gd X S ML_act 214 (LSA m sv none none none) [] (WX q) 0 0 := by
  refine g_aload_n C0 dL_act_214 rfl ?_
  refine g_iload C0 dL_act_215 rfl ?_
  refine g_iload C0 dL_act_217 rfl ?_
  refine g_ct2 C0 dL_act_219 CL_143 rfl ⟨by decide, by decide, Nat.le_of_ble_eq_true rfl, Nat.le_of_ble_eq_true rfl⟩ (Nat.le_of_ble_eq_true rfl) (HC.self _ _) (c_ports r _ _) ?_
  exact g_iret C0 rfl dL_act_222 (Nat.le_of_ble_eq_true rfl) (Nat.le_of_ble_eq_true rfl) hK
set_option maxRecDepth 100000 in
set_option maxHeartbeats 4000000 in
theorem at_sells {X : CX} {S : SX} {q t : XS} {m : Nat} {sv : Int32} (C0 : Ok X S ML_act) (r : RX q t) (hm : m < 2 ^ 31) (hK : SK S (.inl (some (.int (cod (xSell q (nI (anum m)) (nI (m / 32 / 12 % 6))).1)))) (WX ((xSell q (nI (anum m)) (nI (m / 32 / 12 % 6))).2))) : Gd X S ML_act 223 (LSA m sv none none none) [] (WX q) 0 0 := by
  refine g_aload_n C0 dL_act_223 rfl ?_
  refine g_iload C0 dL_act_224 rfl ?_
  refine g_iload_n C0 dL_act_226 rfl ?_
  refine g_bipush (v := nI 12) C0 dL_act_227 (by decide +kernel) ?_
  refine g_divN C0 dL_act_229 (by decide) (by decide) (by omega) ?_
  refine g_bipush (v := nI 6) C0 dL_act_230 (by decide +kernel) ?_
  refine g_remN C0 dL_act_232 (by decide) (by decide) (by omega) ?_
  refine g_ct2 C0 dL_act_233 CL_150 rfl ⟨by decide, by decide, Nat.le_of_ble_eq_true rfl, Nat.le_of_ble_eq_true rfl⟩ (Nat.le_of_ble_eq_true rfl) (HC.self _ _) (c_sells r _ _) ?_
  exact g_iret C0 rfl dL_act_236 (Nat.le_of_ble_eq_true rfl) (Nat.le_of_ble_eq_true rfl) hK
set_option maxRecDepth 100000 in
set_option maxHeartbeats 4000000 in
theorem at_bonds {X : CX} {S : SX} {q t : XS} {m : Nat} {sv : Int32} (C0 : Ok X S ML_act) (r : RX q t) (hm : m < 2 ^ 31) (hK : SK S (.inl (some (.int (cod (xBond q (nI (anum m)) (nI (1 + m / 32 / 12 % 400))).1)))) (WX ((xBond q (nI (anum m)) (nI (1 + m / 32 / 12 % 400))).2))) : Gd X S ML_act 237 (LSA m sv none none none) [] (WX q) 0 0 := by
  refine g_aload_n C0 dL_act_237 rfl ?_
  refine g_iload C0 dL_act_238 rfl ?_
  refine g_iconst (v := nI 1) C0 dL_act_240 (by decide +kernel) ?_
  refine g_iload_n C0 dL_act_241 rfl ?_
  refine g_bipush (v := nI 12) C0 dL_act_242 (by decide +kernel) ?_
  refine g_divN C0 dL_act_244 (by decide) (by decide) (by omega) ?_
  refine g_sipush (v := nI 400) C0 dL_act_245 (by decide +kernel) ?_
  refine g_remN C0 dL_act_248 (by decide) (by decide) (by omega) ?_
  refine g_addN C0 dL_act_249 ?_
  refine g_ct2 C0 dL_act_250 CL_156 rfl ⟨by decide, by decide, Nat.le_of_ble_eq_true rfl, Nat.le_of_ble_eq_true rfl⟩ (Nat.le_of_ble_eq_true rfl) (HC.self _ _) (c_bonds r _ _) ?_
  exact g_iret C0 rfl dL_act_253 (Nat.le_of_ble_eq_true rfl) (Nat.le_of_ble_eq_true rfl) hK
set_option maxRecDepth 100000 in
set_option maxHeartbeats 4000000 in
theorem at_pays {X : CX} {S : SX} {q t : XS} {m : Nat} {sv : Int32} (C0 : Ok X S ML_act) (r : RX q t) (hm : m < 2 ^ 31) (hK : SK S (.inl (some (.int (cod (xPay q (nI (anum m)) (nI (1 + m / 32 / 12 % 60))).1)))) (WX ((xPay q (nI (anum m)) (nI (1 + m / 32 / 12 % 60))).2))) : Gd X S ML_act 254 (LSA m sv none none none) [] (WX q) 0 0 := by
  refine g_aload_n C0 dL_act_254 rfl ?_
  refine g_iload C0 dL_act_255 rfl ?_
  refine g_iconst (v := nI 1) C0 dL_act_257 (by decide +kernel) ?_
  refine g_iload_n C0 dL_act_258 rfl ?_
  refine g_bipush (v := nI 12) C0 dL_act_259 (by decide +kernel) ?_
  refine g_divN C0 dL_act_261 (by decide) (by decide) (by omega) ?_
  refine g_bipush (v := nI 60) C0 dL_act_262 (by decide +kernel) ?_
  refine g_remN C0 dL_act_264 (by decide) (by decide) (by omega) ?_
  refine g_addN C0 dL_act_265 ?_
  refine g_ct2 C0 dL_act_266 CL_161 rfl ⟨by decide, by decide, Nat.le_of_ble_eq_true rfl, Nat.le_of_ble_eq_true rfl⟩ (Nat.le_of_ble_eq_true rfl) (HC.self _ _) (c_pays r _ _) ?_
  exact g_iret C0 rfl dL_act_269 (Nat.le_of_ble_eq_true rfl) (Nat.le_of_ble_eq_true rfl) hK
set_option maxRecDepth 100000 in
set_option maxHeartbeats 4000000 in
theorem at_judges {X : CX} {S : SX} {q t : XS} {m : Nat} {sv : Int32} (C0 : Ok X S ML_act) (r : RX q t) (hm : m < 2 ^ 31) (hK : SK S (.inl (some (.int (cod (xJudge q (nI (anum m))).1)))) (WX ((xJudge q (nI (anum m))).2))) : Gd X S ML_act 270 (LSA m sv none none none) [] (WX q) 0 0 := by
  refine g_aload_n C0 dL_act_270 rfl ?_
  refine g_iload C0 dL_act_271 rfl ?_
  refine g_ct1 C0 dL_act_273 CL_166 rfl ⟨by decide, by decide, Nat.le_of_ble_eq_true rfl, Nat.le_of_ble_eq_true rfl⟩ (Nat.le_of_ble_eq_true rfl) (HC.self _ _) (c_judges r _) ?_
  exact g_iret C0 rfl dL_act_276 (Nat.le_of_ble_eq_true rfl) (Nat.le_of_ble_eq_true rfl) hK
set_option maxRecDepth 100000 in
set_option maxHeartbeats 4000000 in
theorem at_hangs {X : CX} {S : SX} {q t : XS} {m : Nat} {sv : Int32} (C0 : Ok X S ML_act) (r : RX q t) (hm : m < 2 ^ 31) (hK : SK S (.inl (some (.int (cod (xHangUp q (nI (if q.2 6 = 0 then 0 else m / 32 % q.2 6)) (lm t (nI (if q.2 6 = 0 then 0 else m / 32 % q.2 6)).toNatClampNeg)).1)))) (WX (xHangUp q (nI (if q.2 6 = 0 then 0 else m / 32 % q.2 6)) (lm t (nI (if q.2 6 = 0 then 0 else m / 32 % q.2 6)).toNatClampNeg)).2)) : Gd X S ML_act 277 (LSA m sv none none none) [] (WX q) 0 0 := by
  have h60 := r.c60
  refine g_aload_n C0 dL_act_277 rfl ?_
  refine g_aload_n C0 dL_act_278 rfl ?_
  refine g_cv C0 dL_act_279 CL_126 rfl ⟨by decide, by decide, Nat.le_of_ble_eq_true rfl, Nat.le_of_ble_eq_true rfl⟩ (Nat.le_of_ble_eq_true rfl) (HC.self _ _) (c_calls q) ?_
  have J : Gd X S ML_act 295 (LSA m sv none none none) [.int (nI (if q.2 6 = 0 then 0 else m / 32 % q.2 6)), .ref 0] (WX q) 0 0 := by
    refine g_ct1 C0 dL_act_295 CL_177 rfl ⟨by decide, by decide, Nat.le_of_ble_eq_true rfl, Nat.le_of_ble_eq_true rfl⟩ (Nat.le_of_ble_eq_true rfl) (HC.self _ _) (c_hangs r _) ?_
    exact g_iret C0 rfl dL_act_298 (Nat.le_of_ble_eq_true rfl) (Nat.le_of_ble_eq_true rfl) hK
  by_cases h3 : q.2 6 = 0
  · rw [if_pos h3] at J
    refine g_if_ne (tgt := 289) C0 dL_act_282 (by decide) (fun z => absurd (by rw [h3]; exact nI_0) z) (fun _ => ?_)
    refine g_iconst (v := nI 0) C0 dL_act_285 (by decide +kernel) ?_
    refine g_goto (tgt := 295) C0 dL_act_286 (by decide) ?_
    exact J
  · rw [if_neg h3] at J
    refine g_if_ne (tgt := 289) C0 dL_act_282 (by decide) (fun _ => ?_) (fun z => absurd z (nI_ne0 (by omega) (by omega)))
    refine g_iload_n C0 dL_act_289 rfl ?_
    refine g_aload_n C0 dL_act_290 rfl ?_
    refine g_cv C0 dL_act_291 CL_126 rfl ⟨by decide, by decide, Nat.le_of_ble_eq_true rfl, Nat.le_of_ble_eq_true rfl⟩ (Nat.le_of_ble_eq_true rfl) (HC.self _ _) (c_calls q) ?_
    refine g_remN C0 dL_act_294 (by omega) (by omega) (by omega) ?_
    exact J
set_option maxRecDepth 100000 in
set_option maxHeartbeats 4000000 in
theorem at_rings {X : CX} {S : SX} {q t : XS} {m : Nat} {sv : Int32} (C0 : Ok X S ML_act) (r : RX q t) (hm : m < 2 ^ 31) (hK : SK S (.inl (some (.int (cod (xCall q (nI (anum m)) (nI (m / 32 / 12 % 12)) ((mcomes (z0 t) (nI (anum m)) (nI (m / 32 / 12 % 12)) (lm t)).1.2 7)).1)))) (WX ((xCall q (nI (anum m)) (nI (m / 32 / 12 % 12)) ((mcomes (z0 t) (nI (anum m)) (nI (m / 32 / 12 % 12)) (lm t)).1.2 7)).2))) : Gd X S ML_act 369 (LSA m sv none none none) [] (WX q) 0 0 := by
  refine g_aload_n C0 dL_act_369 rfl ?_
  refine g_iload C0 dL_act_370 rfl ?_
  refine g_iload_n C0 dL_act_372 rfl ?_
  refine g_bipush (v := nI 12) C0 dL_act_373 (by decide +kernel) ?_
  refine g_divN C0 dL_act_375 (by decide) (by decide) (by omega) ?_
  refine g_bipush (v := nI 12) C0 dL_act_376 (by decide +kernel) ?_
  refine g_remN C0 dL_act_378 (by decide) (by decide) (by omega) ?_
  refine g_ct2 C0 dL_act_379 CL_172 rfl ⟨by decide, by decide, Nat.le_of_ble_eq_true rfl, Nat.le_of_ble_eq_true rfl⟩ (Nat.le_of_ble_eq_true rfl) (HC.self _ _) (c_rings r _ _) ?_
  exact g_iret C0 rfl dL_act_382 (Nat.le_of_ble_eq_true rfl) (Nat.le_of_ble_eq_true rfl) hK
set_option maxRecDepth 100000 in
set_option maxHeartbeats 4000000 in
theorem at_span {X : CX} {S : SX} {q : XS} {m : Nat} {sv : Int32} (C0 : Ok X S ML_act) (hm : m < 2 ^ 31) (k : Gd X S ML_act 326 (LSA m sv (some (.int (nI (aspan m)))) (some (.int (nI 0))) (some (.int (nI 0)))) [] (WX q) 0 0) : Gd X S ML_act 299 (LSA m sv none none none) [] (WX q) 0 0 := by
  refine g_iconst (v := nI 1) C0 dL_act_299 (by decide +kernel) ?_
  refine g_iload_n C0 dL_act_300 rfl ?_
  refine g_iload_n C0 dL_act_301 rfl ?_
  refine g_bipush (v := nI 7) C0 dL_act_302 (by decide +kernel) ?_
  refine g_remN C0 dL_act_304 (by decide) (by decide) (by omega) ?_
  by_cases h3 : m / 32 % 7 = 0
  · have ea : aspan m = 1 + m / 32 % 200 := by unfold aspan; rw [if_pos h3]
    rw [ea] at k
    refine g_if_ne (tgt := 314) C0 dL_act_305 (by decide) (fun z => absurd (by rw [h3]; exact nI_0) z) (fun _ => ?_)
    refine g_sipush (v := nI 200) C0 dL_act_308 (by decide +kernel) ?_
    refine g_goto (tgt := 316) C0 dL_act_311 (by decide) ?_
    refine g_remN C0 dL_act_316 (by decide) (by decide) (by omega) ?_
    refine g_addN C0 dL_act_317 ?_
    refine g_istore C0 dL_act_318 (by decide) ?_
    refine g_iconst (v := nI 0) C0 dL_act_320 (by decide +kernel) ?_
    refine g_istore C0 dL_act_321 (by decide) ?_
    refine g_iconst (v := nI 0) C0 dL_act_323 (by decide +kernel) ?_
    refine g_istore C0 dL_act_324 (by decide) ?_
    exact k
  · have ea : aspan m = 1 + m / 32 % 50 := by unfold aspan; rw [if_neg h3]
    rw [ea] at k
    refine g_if_ne (tgt := 314) C0 dL_act_305 (by decide) (fun _ => ?_) (fun z => absurd z (nI_ne0 (by omega) (by omega)))
    refine g_bipush (v := nI 50) C0 dL_act_314 (by decide +kernel) ?_
    refine g_remN C0 dL_act_316 (by decide) (by decide) (by omega) ?_
    refine g_addN C0 dL_act_317 ?_
    refine g_istore C0 dL_act_318 (by decide) ?_
    refine g_iconst (v := nI 0) C0 dL_act_320 (by decide +kernel) ?_
    refine g_istore C0 dL_act_321 (by decide) ?_
    refine g_iconst (v := nI 0) C0 dL_act_323 (by decide +kernel) ?_
    refine g_istore C0 dL_act_324 (by decide) ?_
    exact k
set_option maxRecDepth 100000 in
set_option maxHeartbeats 4000000 in
theorem at_pass0 {X : CX} {S : SX} {q t : XS} {m : Nat} (C0 : Ok X S ML_act) (r : RX q t) (hm : m < 2 ^ 31) (hT : q.2 0 + 200 ≤ 20000) (hK : SK S (.inl (some (.int (SM q (aspan m))))) (WX (lateX q (aspan m)))) : Gd X S ML_act 299 (LSA m (nI 0) none none none) [] (WX q) 0 0 := by
  obtain ⟨s1, s2⟩ := aspan_lt m
  refine at_span C0 hm ?_
  refine g_iload C0 dL_act_326 rfl ?_
  refine g_iload C0 dL_act_328 rfl ?_
  refine g_icmp_ge (tgt := 353) C0 dL_act_330 (by decide) (fun z => absurd z (nI_ge (by omega) (by omega))) (fun _ => ?_)
  refine g_iload_n C0 dL_act_333 rfl ?_
  refine g_if_eq (tgt := 353) C0 dL_act_334 (by decide) (fun _ => ?_) (fun z => absurd nI_0 z)
  refine g_iload_n C0 dL_act_353 rfl ?_
  refine g_if_eq (tgt := 362) C0 dL_act_354 (by decide) (fun _ => ?_) (fun z => absurd nI_0 z)
  refine g_aload_n C0 dL_act_362 rfl ?_
  refine g_iload C0 dL_act_363 rfl ?_
  refine g_ct1 C0 dL_act_365 CL_180 rfl ⟨by decide, by decide, Nat.le_of_ble_eq_true rfl, Nat.le_of_ble_eq_true rfl⟩ (Nat.le_of_ble_eq_true rfl) (HC.self _ _) (CT.v (c_passes r _) (xPass_n r s1 (by omega) (by omega))) ?_
  exact g_iret C0 rfl dL_act_368 (Nat.le_of_ble_eq_true rfl) (Nat.le_of_ble_eq_true rfl) hK
set_option maxRecDepth 100000 in
set_option maxHeartbeats 4000000 in
theorem lp_pass1 {X : CX} {S : SX} {q t : XS} {m n : Nat} (C0 : Ok X S ML_act) (r : RX q t) (hm : m < 2 ^ 31) (hn : n ≤ 200) (hT : q.2 0 + 200 ≤ 20000) (hK : SK S (.inl (some (.int (SM q n)))) (WX (lateX q n))) : ∀ j k, k + j = n → Gd X S ML_act 326 (LSA m (nI 1) (some (.int (nI n))) (some (.int (SM q k))) (some (.int (nI k)))) [] (WX (lateX q k)) (2 * k) (12 * k) := by
  intro j
  induction j with
  | zero =>
    intro k hk
    have ek : k = n := by omega
    subst ek
    refine g_iload C0 dL_act_326 rfl ?_
    refine g_iload C0 dL_act_328 rfl ?_
    refine g_icmp_ge (tgt := 353) C0 dL_act_330 (by decide) (fun _ => ?_) (fun z => absurd (Int32.le_refl _) z)
    refine g_iload_n C0 dL_act_353 rfl ?_
    refine g_if_eq (tgt := 362) C0 dL_act_354 (by decide) (fun z => absurd z (by decide +kernel)) (fun _ => ?_)
    refine g_iload C0 dL_act_357 rfl ?_
    refine g_goto (tgt := 368) C0 dL_act_359 (by decide) ?_
    exact g_iret C0 rfl dL_act_368 (by show 2 * k ≤ 600; omega) (by show 12 * k ≤ 3600; omega) hK
  | succ j ih =>
    intro k hk
    obtain ⟨a1, a2⟩ := lateX_add r (a := k) (b := 1) (by omega)
    have rk := late_rx r (m := k) (by omega)
    have e0 : (lateX q k).2 0 = q.2 0 + k := rfl
    refine g_iload C0 dL_act_326 rfl ?_
    refine g_iload C0 dL_act_328 rfl ?_
    refine g_icmp_ge (tgt := 353) C0 dL_act_330 (by decide) (fun z => absurd z (nI_ge (by omega) (by omega))) (fun _ => ?_)
    refine g_iload_n C0 dL_act_333 rfl ?_
    refine g_if_eq (tgt := 353) C0 dL_act_334 (by decide) (fun z => absurd z (by decide +kernel)) (fun _ => ?_)
    refine g_iload C0 dL_act_337 rfl ?_
    refine g_aload_n C0 dL_act_339 rfl ?_
    refine g_iconst (v := nI 1) C0 dL_act_340 (by decide +kernel) ?_
    refine g_ct1 C0 dL_act_341 CL_180 rfl ⟨by decide, by decide, (by show 2 * k + 2 ≤ 600; omega), (by show 12 * k + 12 ≤ 3600; omega)⟩ (Nat.le_of_ble_eq_true rfl) (HC.self _ _) (CT.v (c_passes rk _) (xPass_n rk (Nat.le_refl 1) (by decide) (by rw [e0]; omega))) ?_
    refine g_iadd C0 dL_act_344 ?_
    refine g_istore C0 dL_act_345 (by decide) ?_
    refine g_iinc (v := nI (k + 1)) C0 dL_act_347 rfl (nI_1 _) (by decide) ?_
    refine g_goto (tgt := 326) C0 dL_act_350 (by decide) ?_
    rw [a1, a2]
    refine g_widen (cs2 := 2 * (k + 1)) (ss2 := 12 * (k + 1)) (by show 2 * k + 2 ≤ _; omega) (by show 12 * k + 12 ≤ _; omega) ?_
    exact ih (k + 1) (by omega)
set_option maxRecDepth 100000 in
set_option maxHeartbeats 4000000 in
theorem at_pass1 {X : CX} {S : SX} {q t : XS} {m : Nat} (C0 : Ok X S ML_act) (r : RX q t) (hm : m < 2 ^ 31) (hT : q.2 0 + 200 ≤ 20000) (hK : SK S (.inl (some (.int (SM q (aspan m))))) (WX (lateX q (aspan m)))) : Gd X S ML_act 299 (LSA m (nI 1) none none none) [] (WX q) 0 0 := by
  obtain ⟨s1, s2⟩ := aspan_lt m
  obtain ⟨z1, z2⟩ := lateX_0 r
  refine at_span C0 hm ?_
  have g := lp_pass1 C0 r hm s2 hT hK (aspan m) 0 (by omega)
  rw [z1, z2, ← nI_0] at g
  exact g
/-- what an act pays for numbers, as the law counts it -/
def nadd (m : Nat) (v d b b2 : Int32) : Int32 := if m % 32 = 13 ∧ 0 ≤ v then d - v else if (m % 32 = 14 ∨ m % 32 = 15) ∧ 0 ≤ v then b - b2 else 0
theorem nadd_0 {m : Nat} {v d b b2 : Int32} (h : m % 32 ≠ 13 ∧ m % 32 ≠ 14 ∧ m % 32 ≠ 15) : nadd m v d b b2 = 0 := by
  unfold nadd
  rw [if_neg (fun z => h.1 z.1), if_neg (fun z => z.1.elim h.2.1 h.2.2)]
theorem cod_neg {e : Nat} : ¬ 0 ≤ cod (.inr e) := by
  match e with
  | 0 => decide +kernel
  | 1 => decide +kernel
  | e + 2 => exact (by decide +kernel : ¬ (0 : Int32) ≤ -2000000003)
theorem nadd_x {m e : Nat} {d b b2 : Int32} : nadd m (cod (.inr e)) d b b2 = 0 := by
  unfold nadd
  rw [if_neg (fun z => cod_neg z.2), if_neg (fun z => cod_neg z.2)]
/-- AN ACT: the same, with seconds at once or one by one -/
abbrev ACT (m B T : Nat) (n0 : Int32) (q q2 : XS) (v : Int32) : Prop := CT ML_act [.int (nI m), .int (nI 0)] q q2 v ∧ CT ML_act [.int (nI m), .int (nI 1)] q q2 v ∧ IV (B + 60) (T + 200) (n0 + nadd m v (q.1 2 (anum m)) (q.1 4 (anum m)) (q2.1 4 (anum m))) q2
theorem ACT.of {m B T : Nat} {n0 : Int32} {q q2 : XS} {v : Int32} (h3 : m % 32 ≠ 13 ∧ m % 32 ≠ 14 ∧ m % 32 ≠ 15) (h : ∀ sv, CT ML_act [.int (nI m), .int sv] q q2 v) (I : IV (B + 60) (T + 200) n0 q2) : ACT m B T n0 q q2 v := ⟨h _, h _, by rw [nadd_0 h3, Int32.add_zero]; exact I⟩
theorem ak_0 {m B T : Nat} {n0 : Int32} {q : XS} (I : IV B T n0 q) (hm : m < 2 ^ 31) (hT : T + 200 ≤ 18000) (hc : m % 32 = 0) : ∃ q2 v, ACT m B T n0 q q2 v := by
  obtain ⟨t, r, E⟩ := I
  exact ⟨_, _, ACT.of (by omega) (fun sv => act_in (off := 103) (tgt := 136) hm hc (by decide) rfl (by decide) (fun X S C0 hK => at_prices C0 r hm hK)) ((iv_setPrices ⟨t, r, E⟩ _ _ _).mono (by omega) (by omega))⟩
theorem ak_1 {m B T : Nat} {n0 : Int32} {q : XS} (I : IV B T n0 q) (hm : m < 2 ^ 31) (hT : T + 200 ≤ 18000) (hc : m % 32 = 1) : ∃ q2 v, ACT m B T n0 q q2 v := by
  obtain ⟨t, r, E⟩ := I
  exact ⟨_, _, ACT.of (by omega) (fun sv => act_in (off := 125) (tgt := 158) hm hc (by decide) rfl (by decide) (fun X S C0 hK => at_delays C0 r hm hK)) ((iv_setDelay ⟨t, r, E⟩ _ _).mono (by omega) (by omega))⟩
theorem ak_2 {m B T : Nat} {n0 : Int32} {q : XS} (I : IV B T n0 q) (hm : m < 2 ^ 31) (hT : T + 200 ≤ 18000) (hc : m % 32 = 2) : ∃ q2 v, ACT m B T n0 q q2 v := by
  obtain ⟨t, r, E⟩ := I
  exact ⟨_, _, ACT.of (by omega) (fun sv => act_in (off := 125) (tgt := 158) hm hc (by decide) rfl (by decide) (fun X S C0 hK => at_delays C0 r hm hK)) ((iv_setDelay ⟨t, r, E⟩ _ _).mono (by omega) (by omega))⟩
theorem ak_3 {m B T : Nat} {n0 : Int32} {q : XS} (I : IV B T n0 q) (hm : m < 2 ^ 31) (hT : T + 200 ≤ 18000) (hc : m % 32 = 3) : ∃ q2 v, ACT m B T n0 q q2 v := by
  obtain ⟨t, r, E⟩ := I
  exact ⟨_, _, ACT.of (by omega) (fun sv => act_in (off := 154) (tgt := 187) hm hc (by decide) rfl (by decide) (fun X S C0 hK => at_lines C0 r hm hK)) ((iv_setTrunk r E _ _ _).mono (by omega) (by omega))⟩
theorem ak_4 {m B T : Nat} {n0 : Int32} {q : XS} (I : IV B T n0 q) (hm : m < 2 ^ 31) (hT : T + 200 ≤ 18000) (hc : m % 32 = 4) : ∃ q2 v, ACT m B T n0 q q2 v := by
  obtain ⟨t, r, E⟩ := I
  exact ⟨_, _, ACT.of (by omega) (fun sv => act_in (off := 154) (tgt := 187) hm hc (by decide) rfl (by decide) (fun X S C0 hK => at_lines C0 r hm hK)) ((iv_setTrunk r E _ _ _).mono (by omega) (by omega))⟩
theorem ak_5 {m B T : Nat} {n0 : Int32} {q : XS} (I : IV B T n0 q) (hm : m < 2 ^ 31) (hT : T + 200 ≤ 18000) (hc : m % 32 = 5) : ∃ q2 v, ACT m B T n0 q q2 v := by
  obtain ⟨t, r, E⟩ := I
  exact ⟨_, _, ACT.of (by omega) (fun sv => act_in (off := 181) (tgt := 214) hm hc (by decide) rfl (by decide) (fun X S C0 hK => at_ports C0 r hm hK)) ((iv_port ⟨t, r, E⟩ _ _).mono (by omega) (by omega))⟩
theorem ak_6 {m B T : Nat} {n0 : Int32} {q : XS} (I : IV B T n0 q) (hm : m < 2 ^ 31) (hT : T + 200 ≤ 18000) (hc : m % 32 = 6) : ∃ q2 v, ACT m B T n0 q q2 v := by
  obtain ⟨t, r, E⟩ := I
  exact ⟨_, _, ACT.of (by omega) (fun sv => act_in (off := 181) (tgt := 214) hm hc (by decide) rfl (by decide) (fun X S C0 hK => at_ports C0 r hm hK)) ((iv_port ⟨t, r, E⟩ _ _).mono (by omega) (by omega))⟩
theorem ak_7 {m B T : Nat} {n0 : Int32} {q : XS} (I : IV B T n0 q) (hm : m < 2 ^ 31) (hT : T + 200 ≤ 18000) (hc : m % 32 = 7) : ∃ q2 v, ACT m B T n0 q q2 v := by
  obtain ⟨t, r, E⟩ := I
  exact ⟨_, _, ACT.of (by omega) (fun sv => act_in (off := 181) (tgt := 214) hm hc (by decide) rfl (by decide) (fun X S C0 hK => at_ports C0 r hm hK)) ((iv_port ⟨t, r, E⟩ _ _).mono (by omega) (by omega))⟩
theorem ak_8 {m B T : Nat} {n0 : Int32} {q : XS} (I : IV B T n0 q) (hm : m < 2 ^ 31) (hT : T + 200 ≤ 18000) (hc : m % 32 = 8) : ∃ q2 v, ACT m B T n0 q q2 v := by
  obtain ⟨t, r, E⟩ := I
  exact ⟨_, _, ACT.of (by omega) (fun sv => act_in (off := 181) (tgt := 214) hm hc (by decide) rfl (by decide) (fun X S C0 hK => at_ports C0 r hm hK)) ((iv_port ⟨t, r, E⟩ _ _).mono (by omega) (by omega))⟩
theorem ak_9 {m B T : Nat} {n0 : Int32} {q : XS} (I : IV B T n0 q) (hm : m < 2 ^ 31) (hT : T + 200 ≤ 18000) (hc : m % 32 = 9) : ∃ q2 v, ACT m B T n0 q q2 v := by
  obtain ⟨t, r, E⟩ := I
  exact ⟨_, _, ACT.of (by omega) (fun sv => act_in (off := 181) (tgt := 214) hm hc (by decide) rfl (by decide) (fun X S C0 hK => at_ports C0 r hm hK)) ((iv_port ⟨t, r, E⟩ _ _).mono (by omega) (by omega))⟩
theorem ak_10 {m B T : Nat} {n0 : Int32} {q : XS} (I : IV B T n0 q) (hm : m < 2 ^ 31) (hT : T + 200 ≤ 18000) (hc : m % 32 = 10) : ∃ q2 v, ACT m B T n0 q q2 v := by
  obtain ⟨t, r, E⟩ := I
  exact ⟨_, _, ACT.of (by omega) (fun sv => act_in (off := 190) (tgt := 223) hm hc (by decide) rfl (by decide) (fun X S C0 hK => at_sells C0 r hm hK)) ((iv_sell ⟨t, r, E⟩ _ _).mono (by omega) (by omega))⟩
theorem ak_11 {m B T : Nat} {n0 : Int32} {q : XS} (I : IV B T n0 q) (hm : m < 2 ^ 31) (hT : T + 200 ≤ 18000) (hc : m % 32 = 11) : ∃ q2 v, ACT m B T n0 q q2 v := by
  obtain ⟨t, r, E⟩ := I
  exact ⟨_, _, ACT.of (by omega) (fun sv => act_in (off := 204) (tgt := 237) hm hc (by decide) rfl (by decide) (fun X S C0 hK => at_bonds C0 r hm hK)) ((iv_bond ⟨t, r, E⟩ _ _).mono (by omega) (by omega))⟩
theorem ak_12 {m B T : Nat} {n0 : Int32} {q : XS} (I : IV B T n0 q) (hm : m < 2 ^ 31) (hT : T + 200 ≤ 18000) (hc : m % 32 = 12) : ∃ q2 v, ACT m B T n0 q q2 v := by
  obtain ⟨t, r, E⟩ := I
  exact ⟨_, _, ACT.of (by omega) (fun sv => act_in (off := 204) (tgt := 237) hm hc (by decide) rfl (by decide) (fun X S C0 hK => at_bonds C0 r hm hK)) ((iv_bond ⟨t, r, E⟩ _ _).mono (by omega) (by omega))⟩
theorem ak_16 {m B T : Nat} {n0 : Int32} {q : XS} (I : IV B T n0 q) (hm : m < 2 ^ 31) (hT : T + 200 ≤ 18000) (hc : m % 32 = 16) : ∃ q2 v, ACT m B T n0 q q2 v := by
  obtain ⟨t, r, E⟩ := I
  exact ⟨_, _, ACT.of (by omega) (fun sv => act_in (off := 244) (tgt := 277) hm hc (by decide) rfl (by decide) (fun X S C0 hK => at_hangs C0 r hm hK)) ((iv_hangUp r E).mono (by omega) (by omega))⟩
theorem ak_17 {m B T : Nat} {n0 : Int32} {q : XS} (I : IV B T n0 q) (hm : m < 2 ^ 31) (hT : T + 200 ≤ 18000) (hc : m % 32 = 17) : ∃ q2 v, ACT m B T n0 q q2 v := by
  obtain ⟨t, r, E⟩ := I
  exact ⟨_, _, ACT.of (by omega) (fun sv => act_in (off := 244) (tgt := 277) hm hc (by decide) rfl (by decide) (fun X S C0 hK => at_hangs C0 r hm hK)) ((iv_hangUp r E).mono (by omega) (by omega))⟩
theorem ak_13 {m B T : Nat} {n0 : Int32} {q : XS} (I : IV B T n0 q) (hm : m < 2 ^ 31) (hT : T + 200 ≤ 18000) (hc : m % 32 = 13) : ∃ q2 v, ACT m B T n0 q q2 v := by
  have hp := iv_pay I (anum_lt m) (nI (1 + m / 32 / 12 % 60))
  obtain ⟨t, r, E⟩ := I
  have hA : ∀ sv, CT ML_act [.int (nI m), .int sv] q _ _ := fun sv => act_in (off := 221) (tgt := 254) hm hc (by decide) rfl (by decide) (fun X S C0 hK => at_pays C0 r hm hK)
  rcases hp with ⟨e, -, he⟩ | ⟨d, p, hp, hd, h2, hv, hI⟩
  · rw [he] at hA
    refine ⟨_, _, hA _, hA _, ?_⟩
    rw [nadd_x, Int32.add_zero]
    exact IV.mono ⟨t, r, E⟩ (by omega) (by omega)
  · rw [hv] at hA
    refine ⟨_, _, hA _, hA _, ?_⟩
    have en : nadd m (cod (.inl (some (.int (nI (d - p)))))) (q.1 2 (anum m)) (q.1 4 (anum m)) ((xPay q (nI (anum m)) (nI (1 + m / 32 / 12 % 60))).2.1 4 (anum m)) = nI p := by
      unfold nadd
      rw [if_pos ⟨hc, nI_pos' (by omega)⟩, h2]
      exact (pk_sub (by omega)).trans (congrArg nI (by omega))
    rw [en]
    exact hI.mono (by omega) (by omega)
theorem ak_14 {m B T : Nat} {n0 : Int32} {q : XS} (I : IV B T n0 q) (hm : m < 2 ^ 31) (hT : T + 200 ≤ 18000) (hc : m % 32 = 14) : ∃ q2 v, ACT m B T n0 q q2 v := by
  have hp := iv_judge I (anum_lt m)
  obtain ⟨t, r, E⟩ := I
  have hA : ∀ sv, CT ML_act [.int (nI m), .int sv] q _ _ := fun sv => act_in (off := 237) (tgt := 270) hm hc (by decide) rfl (by decide) (fun X S C0 hK => at_judges C0 r hm hK)
  rcases hp with ⟨e, -, he⟩ | ⟨b, p, l, hp, hb, hl, h2, hv, h4, hI⟩
  · rw [he] at hA
    refine ⟨_, _, hA _, hA _, ?_⟩
    rw [nadd_x, Int32.add_zero]
    exact IV.mono ⟨t, r, E⟩ (by omega) (by omega)
  · rw [hv] at hA
    refine ⟨_, _, hA _, hA _, ?_⟩
    have en : nadd m (cod (.inl (some (.int (nI l))))) (q.1 2 (anum m)) (q.1 4 (anum m)) ((xJudge q (nI (anum m))).2.1 4 (anum m)) = nI p := by
      unfold nadd
      rw [if_neg (fun z => absurd z.1 (by omega)), if_pos ⟨by omega, nI_pos' (by omega)⟩, h2, h4]
      exact (pk_sub (by omega)).trans (congrArg nI (by omega))
    rw [en]
    exact hI.mono (by omega) (by omega)
theorem ak_15 {m B T : Nat} {n0 : Int32} {q : XS} (I : IV B T n0 q) (hm : m < 2 ^ 31) (hT : T + 200 ≤ 18000) (hc : m % 32 = 15) : ∃ q2 v, ACT m B T n0 q q2 v := by
  have hp := iv_judge I (anum_lt m)
  obtain ⟨t, r, E⟩ := I
  have hA : ∀ sv, CT ML_act [.int (nI m), .int sv] q _ _ := fun sv => act_in (off := 237) (tgt := 270) hm hc (by decide) rfl (by decide) (fun X S C0 hK => at_judges C0 r hm hK)
  rcases hp with ⟨e, -, he⟩ | ⟨b, p, l, hp, hb, hl, h2, hv, h4, hI⟩
  · rw [he] at hA
    refine ⟨_, _, hA _, hA _, ?_⟩
    rw [nadd_x, Int32.add_zero]
    exact IV.mono ⟨t, r, E⟩ (by omega) (by omega)
  · rw [hv] at hA
    refine ⟨_, _, hA _, hA _, ?_⟩
    have en : nadd m (cod (.inl (some (.int (nI l))))) (q.1 2 (anum m)) (q.1 4 (anum m)) ((xJudge q (nI (anum m))).2.1 4 (anum m)) = nI p := by
      unfold nadd
      rw [if_neg (fun z => absurd z.1 (by omega)), if_pos ⟨by omega, nI_pos' (by omega)⟩, h2, h4]
      exact (pk_sub (by omega)).trans (congrArg nI (by omega))
    rw [en]
    exact hI.mono (by omega) (by omega)
theorem ak_18 {m B T : Nat} {n0 : Int32} {q : XS} (I : IV B T n0 q) (hm : m < 2 ^ 31) (hT : T + 200 ≤ 18000) (hc : m % 32 = 18) : ∃ q2 v, ACT m B T n0 q q2 v := by
  obtain ⟨t, r, E⟩ := I
  have hn := E.nn
  obtain ⟨s1, s2⟩ := aspan_lt m
  refine ⟨lateX q (aspan m), SM q (aspan m), act_in (off := 266) (tgt := 299) hm hc (by decide) rfl (by decide) (fun X S C0 hK => at_pass0 C0 r hm (by omega) hK), act_in (off := 266) (tgt := 299) hm hc (by decide) rfl (by decide) (fun X S C0 hK => at_pass1 C0 r hm (by omega) hK), ?_⟩
  rw [nadd_0 (by omega), Int32.add_zero]
  exact (iv_late r E (m := aspan m) (by omega)).mono (by omega) (by omega)
theorem ak_19 {m B T : Nat} {n0 : Int32} {q : XS} (I : IV B T n0 q) (hm : m < 2 ^ 31) (hT : T + 200 ≤ 18000) (hc : m % 32 = 19) : ∃ q2 v, ACT m B T n0 q q2 v := by
  obtain ⟨t, r, E⟩ := I
  have hn := E.nn
  obtain ⟨s1, s2⟩ := aspan_lt m
  refine ⟨lateX q (aspan m), SM q (aspan m), act_in (off := 266) (tgt := 299) hm hc (by decide) rfl (by decide) (fun X S C0 hK => at_pass0 C0 r hm (by omega) hK), act_in (off := 266) (tgt := 299) hm hc (by decide) rfl (by decide) (fun X S C0 hK => at_pass1 C0 r hm (by omega) hK), ?_⟩
  rw [nadd_0 (by omega), Int32.add_zero]
  exact (iv_late r E (m := aspan m) (by omega)).mono (by omega) (by omega)
theorem ak_20 {m B T : Nat} {n0 : Int32} {q : XS} (I : IV B T n0 q) (hm : m < 2 ^ 31) (hT : T + 200 ≤ 18000) (hc : m % 32 = 20) : ∃ q2 v, ACT m B T n0 q q2 v := by
  obtain ⟨t, r, E⟩ := I
  have hn := E.nn
  obtain ⟨s1, s2⟩ := aspan_lt m
  refine ⟨lateX q (aspan m), SM q (aspan m), act_in (off := 266) (tgt := 299) hm hc (by decide) rfl (by decide) (fun X S C0 hK => at_pass0 C0 r hm (by omega) hK), act_in (off := 266) (tgt := 299) hm hc (by decide) rfl (by decide) (fun X S C0 hK => at_pass1 C0 r hm (by omega) hK), ?_⟩
  rw [nadd_0 (by omega), Int32.add_zero]
  exact (iv_late r E (m := aspan m) (by omega)).mono (by omega) (by omega)
theorem ak_21 {m B T : Nat} {n0 : Int32} {q : XS} (I : IV B T n0 q) (hm : m < 2 ^ 31) (hT : T + 200 ≤ 18000) (hc : m % 32 = 21) : ∃ q2 v, ACT m B T n0 q q2 v := by
  obtain ⟨t, r, E⟩ := I
  have hn := E.nn
  obtain ⟨s1, s2⟩ := aspan_lt m
  refine ⟨lateX q (aspan m), SM q (aspan m), act_in (off := 266) (tgt := 299) hm hc (by decide) rfl (by decide) (fun X S C0 hK => at_pass0 C0 r hm (by omega) hK), act_in (off := 266) (tgt := 299) hm hc (by decide) rfl (by decide) (fun X S C0 hK => at_pass1 C0 r hm (by omega) hK), ?_⟩
  rw [nadd_0 (by omega), Int32.add_zero]
  exact (iv_late r E (m := aspan m) (by omega)).mono (by omega) (by omega)
theorem ak_22 {m B T : Nat} {n0 : Int32} {q : XS} (I : IV B T n0 q) (hm : m < 2 ^ 31) (hT : T + 200 ≤ 18000) (hc : 21 < m % 32) : ∃ q2 v, ACT m B T n0 q q2 v := by
  obtain ⟨t, r, E⟩ := I
  exact ⟨_, _, ACT.of (by omega) (fun sv => act_out hm hc (fun X S C0 hK => at_rings C0 r hm hK)) ((iv_call r E _ _).mono (by omega) (by omega))⟩
theorem k_act {m B T : Nat} {n0 : Int32} {q : XS} (I : IV B T n0 q) (hm : m < 2 ^ 31) (hT : T + 200 ≤ 18000) : ∃ q2 v, ACT m B T n0 q q2 v := by
  have h32 : m % 32 < 32 := Nat.mod_lt _ (by decide)
  generalize hc : m % 32 = c at h32
  match c, h32 with
  | 0, _ => exact ak_0 I hm hT hc
  | 1, _ => exact ak_1 I hm hT hc
  | 2, _ => exact ak_2 I hm hT hc
  | 3, _ => exact ak_3 I hm hT hc
  | 4, _ => exact ak_4 I hm hT hc
  | 5, _ => exact ak_5 I hm hT hc
  | 6, _ => exact ak_6 I hm hT hc
  | 7, _ => exact ak_7 I hm hT hc
  | 8, _ => exact ak_8 I hm hT hc
  | 9, _ => exact ak_9 I hm hT hc
  | 10, _ => exact ak_10 I hm hT hc
  | 11, _ => exact ak_11 I hm hT hc
  | 12, _ => exact ak_12 I hm hT hc
  | 13, _ => exact ak_13 I hm hT hc
  | 14, _ => exact ak_14 I hm hT hc
  | 15, _ => exact ak_15 I hm hT hc
  | 16, _ => exact ak_16 I hm hT hc
  | 17, _ => exact ak_17 I hm hT hc
  | 18, _ => exact ak_18 I hm hT hc
  | 19, _ => exact ak_19 I hm hT hc
  | 20, _ => exact ak_20 I hm hT hc
  | 21, _ => exact ak_21 I hm hT hc
  | c + 22, _ => exact ak_22 I hm hT (by omega)

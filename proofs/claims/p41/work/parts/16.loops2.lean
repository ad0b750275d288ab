theorem WX_put1 (q : XS) (k : Nat) : (WX q).set 0 (.inr (9, [Value.ref 1, .ref 16, .ref 25, .ref 27, .ref 32, .ref 42, .ref 49, .ref 64, .ref 81, .int (nI (q.2 0)), .int (nI (q.2 1))].set 10 (.int (nI (q.2 1) + nI k)))) = WX (setC q 1 (q.2 1 + k)) := by
  rw [nI_add]; rfl
theorem WX_put1i (q : XS) : (WX q).set 0 (.inr (9, [Value.ref 1, .ref 16, .ref 25, .ref 27, .ref 32, .ref 42, .ref 49, .ref 64, .ref 81, .int (nI (q.2 0)), .int (nI (q.2 1))].set 10 (.int (nI (q.2 1) + 1)))) = WX (setC q 1 (q.2 1 + 1)) := by
  rw [nI_1]; rfl
theorem WX_put0 (q : XS) (t : Nat) : (WX q).set 0 (.inr (9, [Value.ref 1, .ref 16, .ref 25, .ref 27, .ref 32, .ref 42, .ref 49, .ref 64, .ref 81, .int (nI (q.2 0)), .int (nI (q.2 1))].set 9 (.int (nI t)))) = WX (setC q 0 t) := rfl
theorem tkF_r (q : XS) (c d : Int32) (k : Nat) (hk : ¬ k = 13) : ∀ n, (tkF q c d n).1 k = q.1 k
  | 0 => rfl
  | n + 1 => by
    show (if k = 13 then _ else (tkF q c d n).1 k) = _
    rw [if_neg hk, tkF_r q c d k hk n]
theorem tkF_c (q : XS) (c d : Int32) : ∀ n, (tkF q c d n).2 = q.2
  | 0 => rfl
  | n + 1 => tkF_c q c d n
def cpl (q : XS) (c a : Int32) (m : Nat) : Int32 := cpF q c a (m + 1) (m + 1)
abbrev ltC (q : XS) (n : Nat) (a b : Int32) (m : Nat) : Prop := xg q 31 (nI n) = 0 ∧ ¬ cpl q (nI n) a m = -1 ∧ ¬ cpl q (nI n) b m = -1 ∧ (cpl q (nI n) a m - cpl q (nI n) b m = 1 ∨ cpl q (nI n) b m - cpl q (nI n) a m = 1)
def ltQ (q : XS) (n : Nat) (a b : Int32) (m : Nat) : XS := if cpl q (nI n) a m ≤ cpl q (nI n) b m then xpayLoss (xend q (nI n) 2 m) b a else xpayLoss (xend q (nI n) 2 m) a b
def ltF (a b : Int32) (lam : Nat → Nat) : Nat → XS → Nat → XS × Nat
  | 0, q, k => (q, k)
  | n + 1, q, k => if 0 ≤ xleft q a b then (q, k) else if ltC q n a b (lam n) then ltF a b lam n (ltQ q n a b (lam n)) (k + 1) else ltF a b lam n q k
def xlose (q : XS) (a b : Int32) (lam : Nat → Nat) : XS × Nat := (setC (ltF a b lam (q.2 6) q 0).1 1 ((ltF a b lam (q.2 6) q 0).1.2 1 + (ltF a b lam (q.2 6) q 0).2), (ltF a b lam (q.2 6) q 0).2)
theorem ltQ_33 (q : XS) (n : Nat) (a b : Int32) (m : Nat) : (ltQ q n a b m).1 33 = q.1 33 := by
  unfold ltQ; split <;> exact tkF_r (cfin q (nI n) (nI (q.2 0)) 2) (nI n) (-1) 33 (by decide) m
def caU (q : XS) (num e f : Int32) : Int32 := hnext q 2 (placeAt q num f) f (hnext q 1 num f (hnext q 0 num f e))
abbrev caT (q : XS) (num car per f : Int32) : Prop := (car = -1 ∨ car = placeAt q num f) ∧ (per = -1 ∨ per = hval q 1 num f (num - num / 6 * 6))
def caF (q : XS) (num e car per : Int32) : Nat → Int32 → Int32 → Int32
  | 0, _, s => s
  | k + 1, f, s => if e ≤ f then s else caF q num e car per k (caU q num e f) (if caT q num car per f then s + xcharge q (placeAt q num f) f (caU q num e f) else s)
def xanew (q : XS) (c car per : Int32) : Int32 := caF q (xg q 27 c) (cend q c (nI (q.2 0))) car per 181 (xg q 29 c) 0
def psF (q : XS) (u : Int32) : Nat → XS × Int32
  | 0 => (q, 0)
  | n + 1 => if xg (psF q u n).1 31 (nI n) = 0 then (xchU (psF q u n).1 (nI n) u, (psF q u n).2 + xchv (psF q u n).1 (nI n) u) else psF q u n
theorem psF_c (q : XS) (u : Int32) : ∀ n, (psF q u n).1.2 = q.2
  | 0 => rfl
  | n + 1 => by
    unfold psF
    split
    · exact psF_c q u n
    · exact psF_c q u n
set_option maxRecDepth 100000 in
set_option maxHeartbeats 4000000 in
theorem lp_lose {K : AO → AW → Prop} {a b : Int32} {lam : Nat → Nat} {X : CX} {D : va_G} {dA : Nat → ClassId} {w0 : AW} {ad : Nat → Nat} (C0 : Ok X (D, dA, w0, ad, K) MX9_loseTooMany) : ∀ (n : Nat) (q : XS) (k : Nat) (o5 o6 o7 o8 : Option Value), (∀ c, c < n → xg q 33 (nI c) = nI (lam c + 1) ∧ lam c < 1000) → K (.inl (some (.int (nI (ltF a b lam n q k).2)))) (WX (setC (ltF a b lam n q k).1 1 ((ltF a b lam n q k).1.2 1 + (ltF a b lam n q k).2))) → n < 100000 → Gd X (D, dA, w0, ad, K) MX9_loseTooMany 13 [some (.ref 0), some (.int a), some (.int b), some (.int (nI k)), some (.int (nI n - 1)), o5, o6, o7, o8] [] (WX q) 0 0 := by
  intro n
  induction n with
  | zero =>
    intro q k o5 o6 o7 o8 hl hK hn
    refine g_iload C0 dX9_loseTooMany_13 rfl ?_
    refine g_if_lt (tgt := 165) C0 dX9_loseTooMany_15 (by decide) (fun _ => ?_) (fun z => absurd (by decide +kernel) z)
    refine g_aload_n C0 dX9_loseTooMany_165 rfl ?_
    refine g_dup C0 dX9_loseTooMany_166 rfl ?_
    refine g_getfield C0 dX9_loseTooMany_167 FX9_78 rfl rfl ?_
    refine g_iload_n C0 dX9_loseTooMany_170 rfl ?_
    refine g_iadd C0 dX9_loseTooMany_171 ?_
    refine g_putfield C0 dX9_loseTooMany_172 FX9_78 rfl (Nat.le_of_ble_eq_true rfl) (fun _ => ⟨rfl, rfl⟩) ?_
    refine g_w (WX_put1 _ _) ?_
    refine g_iload_n C0 dX9_loseTooMany_175 rfl ?_
    refine g_iret C0 rfl dX9_loseTooMany_176 (by decide) (by decide) ?_
    exact hK
  | succ n ih =>
    intro q k o5 o6 o7 o8 hl hK hn
    rw [nI_pred]
    refine g_iload C0 dX9_loseTooMany_13 rfl ?_
    refine g_if_lt (tgt := 165) C0 dX9_loseTooMany_15 (by decide) (fun h15 => absurd h15 (nI_pos (by omega))) (fun h15 => ?_)
    refine g_aload_n C0 dX9_loseTooMany_18 rfl ?_
    refine g_getfield C0 dX9_loseTooMany_19 FX9_35 rfl rfl ?_
    refine g_iload_n C0 dX9_loseTooMany_22 rfl ?_
    refine g_iload_n C0 dX9_loseTooMany_23 rfl ?_
    refine g_invV2 C0 dX9_loseTooMany_24 CX9_250 rfl rfl ⟨by decide, by decide, by decide, by decide⟩ (Nat.le_of_ble_eq_true rfl) ?_
    refine x_left ?_
    refine Aft_v (WX_len2 _ _) ?_
    refine g_if_ge (tgt := 165) C0 dX9_loseTooMany_27 (by decide) (fun h27 => ?_) (fun h27 => ?_)
    · refine g_aload_n C0 dX9_loseTooMany_165 rfl ?_
      refine g_dup C0 dX9_loseTooMany_166 rfl ?_
      refine g_getfield C0 dX9_loseTooMany_167 FX9_78 rfl rfl ?_
      refine g_iload_n C0 dX9_loseTooMany_170 rfl ?_
      refine g_iadd C0 dX9_loseTooMany_171 ?_
      refine g_putfield C0 dX9_loseTooMany_172 FX9_78 rfl (Nat.le_of_ble_eq_true rfl) (fun _ => ⟨rfl, rfl⟩) ?_
      refine g_w (WX_put1 _ _) ?_
      refine g_iload_n C0 dX9_loseTooMany_175 rfl ?_
      refine g_iret C0 rfl dX9_loseTooMany_176 (by decide) (by decide) ?_
      rw [ltF, if_pos h27] at hK
      exact hK
    refine g_aload_n C0 dX9_loseTooMany_30 rfl ?_
    refine g_getfield C0 dX9_loseTooMany_31 FX9_63 rfl rfl ?_
    refine g_iload C0 dX9_loseTooMany_34 rfl ?_
    refine g_iload_n C0 dX9_loseTooMany_36 rfl ?_
    refine g_invV2 C0 dX9_loseTooMany_37 CX9_318 rfl rfl ⟨by decide, by decide, by decide, by decide⟩ (Nat.le_of_ble_eq_true rfl) ?_
    refine x_cplace (hl n (by omega)).1 (by have := (hl n (by omega)).2; omega) ?_
    refine Aft_v (WX_len2 _ _) ?_
    refine g_istore C0 dX9_loseTooMany_40 (by decide) ?_
    refine g_aload_n C0 dX9_loseTooMany_42 rfl ?_
    refine g_getfield C0 dX9_loseTooMany_43 FX9_63 rfl rfl ?_
    refine g_iload C0 dX9_loseTooMany_46 rfl ?_
    refine g_iload_n C0 dX9_loseTooMany_48 rfl ?_
    refine g_invV2 C0 dX9_loseTooMany_49 CX9_318 rfl rfl ⟨by decide, by decide, by decide, by decide⟩ (Nat.le_of_ble_eq_true rfl) ?_
    refine x_cplace (hl n (by omega)).1 (by have := (hl n (by omega)).2; omega) ?_
    refine Aft_v (WX_len2 _ _) ?_
    refine g_istore C0 dX9_loseTooMany_52 (by decide) ?_
    refine g_iload C0 dX9_loseTooMany_54 rfl ?_
    refine g_iload C0 dX9_loseTooMany_56 rfl ?_
    refine g_isub C0 dX9_loseTooMany_58 ?_
    refine g_iconst (v := 1) C0 dX9_loseTooMany_59 (by decide) ?_
    refine g_icmp_eq (tgt := 72) C0 dX9_loseTooMany_60 (by decide) (fun h60 => ?_) (fun h60 => ?_)
    · refine g_iconst (v := 1) C0 dX9_loseTooMany_72 (by decide) ?_
      refine g_goto (tgt := 77) C0 dX9_loseTooMany_73 (by decide) ?_
      refine g_istore C0 dX9_loseTooMany_77 (by decide) ?_
      refine g_aload_n C0 dX9_loseTooMany_79 rfl ?_
      refine g_getfield C0 dX9_loseTooMany_80 FX9_63 rfl rfl ?_
      refine g_iload C0 dX9_loseTooMany_83 rfl ?_
      refine g_invV1 C0 dX9_loseTooMany_85 CX9_214 rfl rfl ⟨by decide, by decide, by decide, by decide⟩ (Nat.le_of_ble_eq_true rfl) ?_
      refine x_goesOn ?_
      refine Aft_v (WX_len2 _ _) ?_
      unfold cgoes
      by_cases hf : xg q 31 (nI n) = 0
      · rw [if_pos hf]
        refine g_if_eq (tgt := 159) C0 dX9_loseTooMany_88 (by decide) (fun z => (by revert z; decide +kernel : False).elim) (fun _ => ?_)
        refine g_iload C0 dX9_loseTooMany_91 rfl ?_
        refine g_iconst (v := (-1)) C0 dX9_loseTooMany_93 (by decide) ?_
        refine g_icmp_eq (tgt := 159) C0 dX9_loseTooMany_94 (by decide) (fun h94 => ?_) (fun h94 => ?_)
        · refine g_iinc (v := nI n - 1) C0 dX9_loseTooMany_159 rfl (ii_m1 _) (by decide) ?_
          refine g_goto (tgt := 13) C0 dX9_loseTooMany_162 (by decide) ?_
          rw [ltF, if_neg h27, if_neg (fun z => absurd h94 z.2.1)] at hK
          exact ih _ _ _ _ _ _ (fun c hc => hl c (by omega)) hK (by omega)
        refine g_iload C0 dX9_loseTooMany_97 rfl ?_
        refine g_iconst (v := (-1)) C0 dX9_loseTooMany_99 (by decide) ?_
        refine g_icmp_eq (tgt := 159) C0 dX9_loseTooMany_100 (by decide) (fun h100 => ?_) (fun h100 => ?_)
        · refine g_iinc (v := nI n - 1) C0 dX9_loseTooMany_159 rfl (ii_m1 _) (by decide) ?_
          refine g_goto (tgt := 13) C0 dX9_loseTooMany_162 (by decide) ?_
          rw [ltF, if_neg h27, if_neg (fun z => absurd h100 z.2.2.1)] at hK
          exact ih _ _ _ _ _ _ (fun c hc => hl c (by omega)) hK (by omega)
        refine g_iload C0 dX9_loseTooMany_103 rfl ?_
        refine g_if_eq (tgt := 159) C0 dX9_loseTooMany_105 (by decide) (fun z => (by revert z; decide +kernel : False).elim) (fun _ => ?_)
        refine g_aload_n C0 dX9_loseTooMany_108 rfl ?_
        refine g_iload C0 dX9_loseTooMany_109 rfl ?_
        refine g_iconst (v := 2) C0 dX9_loseTooMany_111 (by decide) ?_
        refine g_invV2 C0 dX9_loseTooMany_112 CX9_220 rfl rfl ⟨by decide, by decide, by decide, by decide⟩ (Nat.le_of_ble_eq_true rfl) ?_
        refine x_end (hl n (by omega)).1 (by have := (hl n (by omega)).2; omega) ?_
        refine Aft_n (WX_len2 _ _) ?_
        refine g_iload C0 dX9_loseTooMany_115 rfl ?_
        refine g_iload C0 dX9_loseTooMany_117 rfl ?_
        refine g_icmp_le (tgt := 126) C0 dX9_loseTooMany_119 (by decide) (fun h119 => ?_) (fun h119 => ?_)
        · refine g_iconst (v := 0) C0 dX9_loseTooMany_126 (by decide) ?_
          refine g_istore C0 dX9_loseTooMany_127 (by decide) ?_
          refine g_aload_n C0 dX9_loseTooMany_129 rfl ?_
          refine g_getfield C0 dX9_loseTooMany_130 FX9_19 rfl rfl ?_
          refine g_iload C0 dX9_loseTooMany_133 rfl ?_
          refine g_if_eq (tgt := 142) C0 dX9_loseTooMany_135 (by decide) (fun _ => ?_) (fun z => (by revert z; decide +kernel : False).elim)
          refine g_iload_n C0 dX9_loseTooMany_142 rfl ?_
          refine g_iload C0 dX9_loseTooMany_143 rfl ?_
          refine g_if_eq (tgt := 152) C0 dX9_loseTooMany_145 (by decide) (fun _ => ?_) (fun z => (by revert z; decide +kernel : False).elim)
          refine g_iload_n C0 dX9_loseTooMany_152 rfl ?_
          refine g_invV2 C0 dX9_loseTooMany_153 CX9_208 rfl rfl ⟨by decide, by decide, by decide, by decide⟩ (Nat.le_of_ble_eq_true rfl) ?_
          refine x_payLoss ?_
          refine Aft_n (WX_len2 _ _) ?_
          refine g_iinc (v := nI (k + 1)) C0 dX9_loseTooMany_156 rfl (nI_1 _) (by decide) ?_
          refine g_iinc (v := nI n - 1) C0 dX9_loseTooMany_159 rfl (ii_m1 _) (by decide) ?_
          refine g_goto (tgt := 13) C0 dX9_loseTooMany_162 (by decide) ?_
          have h119c : cpl q (nI n) a (lam n) ≤ cpl q (nI n) b (lam n) := h119
          rw [ltF, if_neg h27, if_pos ⟨hf, h94, h100, (Or.inl h60)⟩, ltQ, if_pos h119c] at hK
          exact ih _ _ _ _ _ _ (fun c hc => by
            have := hl c (by omega)
            refine ⟨?_, this.2⟩
            rw [← this.1]
            unfold xg
            exact congrArg (fun f => rg (rl 33) f (nI c)) (by have := ltQ_33 q n a b (lam n); rw [ltQ, if_pos h119c] at this; exact this)) hK (by omega)
        refine g_iconst (v := 1) C0 dX9_loseTooMany_122 (by decide) ?_
        refine g_goto (tgt := 127) C0 dX9_loseTooMany_123 (by decide) ?_
        refine g_istore C0 dX9_loseTooMany_127 (by decide) ?_
        refine g_aload_n C0 dX9_loseTooMany_129 rfl ?_
        refine g_getfield C0 dX9_loseTooMany_130 FX9_19 rfl rfl ?_
        refine g_iload C0 dX9_loseTooMany_133 rfl ?_
        refine g_if_eq (tgt := 142) C0 dX9_loseTooMany_135 (by decide) (fun z => (by revert z; decide +kernel : False).elim) (fun _ => ?_)
        refine g_iload_n C0 dX9_loseTooMany_138 rfl ?_
        refine g_goto (tgt := 143) C0 dX9_loseTooMany_139 (by decide) ?_
        refine g_iload C0 dX9_loseTooMany_143 rfl ?_
        refine g_if_eq (tgt := 152) C0 dX9_loseTooMany_145 (by decide) (fun z => (by revert z; decide +kernel : False).elim) (fun _ => ?_)
        refine g_iload_n C0 dX9_loseTooMany_148 rfl ?_
        refine g_goto (tgt := 153) C0 dX9_loseTooMany_149 (by decide) ?_
        refine g_invV2 C0 dX9_loseTooMany_153 CX9_208 rfl rfl ⟨by decide, by decide, by decide, by decide⟩ (Nat.le_of_ble_eq_true rfl) ?_
        refine x_payLoss ?_
        refine Aft_n (WX_len2 _ _) ?_
        refine g_iinc (v := nI (k + 1)) C0 dX9_loseTooMany_156 rfl (nI_1 _) (by decide) ?_
        refine g_iinc (v := nI n - 1) C0 dX9_loseTooMany_159 rfl (ii_m1 _) (by decide) ?_
        refine g_goto (tgt := 13) C0 dX9_loseTooMany_162 (by decide) ?_
        have h119c : ¬ cpl q (nI n) a (lam n) ≤ cpl q (nI n) b (lam n) := h119
        rw [ltF, if_neg h27, if_pos ⟨hf, h94, h100, (Or.inl h60)⟩, ltQ, if_neg h119c] at hK
        exact ih _ _ _ _ _ _ (fun c hc => by
          have := hl c (by omega)
          refine ⟨?_, this.2⟩
          rw [← this.1]
          unfold xg
          exact congrArg (fun f => rg (rl 33) f (nI c)) (by have := ltQ_33 q n a b (lam n); rw [ltQ, if_neg h119c] at this; exact this)) hK (by omega)
      rw [if_neg hf]
      refine g_if_eq (tgt := 159) C0 dX9_loseTooMany_88 (by decide) (fun _ => ?_) (fun z => (by revert z; decide +kernel : False).elim)
      refine g_iinc (v := nI n - 1) C0 dX9_loseTooMany_159 rfl (ii_m1 _) (by decide) ?_
      refine g_goto (tgt := 13) C0 dX9_loseTooMany_162 (by decide) ?_
      rw [ltF, if_neg h27, if_neg (fun z => absurd z.1 hf)] at hK
      exact ih _ _ _ _ _ _ (fun c hc => hl c (by omega)) hK (by omega)
    refine g_iload C0 dX9_loseTooMany_63 rfl ?_
    refine g_iload C0 dX9_loseTooMany_65 rfl ?_
    refine g_isub C0 dX9_loseTooMany_67 ?_
    refine g_iconst (v := 1) C0 dX9_loseTooMany_68 (by decide) ?_
    refine g_icmp_ne (tgt := 76) C0 dX9_loseTooMany_69 (by decide) (fun h69 => ?_) (fun h69 => ?_)
    · refine g_iconst (v := 0) C0 dX9_loseTooMany_76 (by decide) ?_
      refine g_istore C0 dX9_loseTooMany_77 (by decide) ?_
      refine g_aload_n C0 dX9_loseTooMany_79 rfl ?_
      refine g_getfield C0 dX9_loseTooMany_80 FX9_63 rfl rfl ?_
      refine g_iload C0 dX9_loseTooMany_83 rfl ?_
      refine g_invV1 C0 dX9_loseTooMany_85 CX9_214 rfl rfl ⟨by decide, by decide, by decide, by decide⟩ (Nat.le_of_ble_eq_true rfl) ?_
      refine x_goesOn ?_
      refine Aft_v (WX_len2 _ _) ?_
      unfold cgoes
      by_cases hf : xg q 31 (nI n) = 0
      · rw [if_pos hf]
        refine g_if_eq (tgt := 159) C0 dX9_loseTooMany_88 (by decide) (fun z => (by revert z; decide +kernel : False).elim) (fun _ => ?_)
        refine g_iload C0 dX9_loseTooMany_91 rfl ?_
        refine g_iconst (v := (-1)) C0 dX9_loseTooMany_93 (by decide) ?_
        refine g_icmp_eq (tgt := 159) C0 dX9_loseTooMany_94 (by decide) (fun h94 => ?_) (fun h94 => ?_)
        · refine g_iinc (v := nI n - 1) C0 dX9_loseTooMany_159 rfl (ii_m1 _) (by decide) ?_
          refine g_goto (tgt := 13) C0 dX9_loseTooMany_162 (by decide) ?_
          rw [ltF, if_neg h27, if_neg (fun z => absurd h94 z.2.1)] at hK
          exact ih _ _ _ _ _ _ (fun c hc => hl c (by omega)) hK (by omega)
        refine g_iload C0 dX9_loseTooMany_97 rfl ?_
        refine g_iconst (v := (-1)) C0 dX9_loseTooMany_99 (by decide) ?_
        refine g_icmp_eq (tgt := 159) C0 dX9_loseTooMany_100 (by decide) (fun h100 => ?_) (fun h100 => ?_)
        · refine g_iinc (v := nI n - 1) C0 dX9_loseTooMany_159 rfl (ii_m1 _) (by decide) ?_
          refine g_goto (tgt := 13) C0 dX9_loseTooMany_162 (by decide) ?_
          rw [ltF, if_neg h27, if_neg (fun z => absurd h100 z.2.2.1)] at hK
          exact ih _ _ _ _ _ _ (fun c hc => hl c (by omega)) hK (by omega)
        refine g_iload C0 dX9_loseTooMany_103 rfl ?_
        refine g_if_eq (tgt := 159) C0 dX9_loseTooMany_105 (by decide) (fun _ => ?_) (fun z => (by revert z; decide +kernel : False).elim)
        refine g_iinc (v := nI n - 1) C0 dX9_loseTooMany_159 rfl (ii_m1 _) (by decide) ?_
        refine g_goto (tgt := 13) C0 dX9_loseTooMany_162 (by decide) ?_
        rw [ltF, if_neg h27, if_neg (fun z => z.2.2.2.elim h60 h69)] at hK
        exact ih _ _ _ _ _ _ (fun c hc => hl c (by omega)) hK (by omega)
      rw [if_neg hf]
      refine g_if_eq (tgt := 159) C0 dX9_loseTooMany_88 (by decide) (fun _ => ?_) (fun z => (by revert z; decide +kernel : False).elim)
      refine g_iinc (v := nI n - 1) C0 dX9_loseTooMany_159 rfl (ii_m1 _) (by decide) ?_
      refine g_goto (tgt := 13) C0 dX9_loseTooMany_162 (by decide) ?_
      rw [ltF, if_neg h27, if_neg (fun z => absurd z.1 hf)] at hK
      exact ih _ _ _ _ _ _ (fun c hc => hl c (by omega)) hK (by omega)
    refine g_iconst (v := 1) C0 dX9_loseTooMany_72 (by decide) ?_
    refine g_goto (tgt := 77) C0 dX9_loseTooMany_73 (by decide) ?_
    refine g_istore C0 dX9_loseTooMany_77 (by decide) ?_
    refine g_aload_n C0 dX9_loseTooMany_79 rfl ?_
    refine g_getfield C0 dX9_loseTooMany_80 FX9_63 rfl rfl ?_
    refine g_iload C0 dX9_loseTooMany_83 rfl ?_
    refine g_invV1 C0 dX9_loseTooMany_85 CX9_214 rfl rfl ⟨by decide, by decide, by decide, by decide⟩ (Nat.le_of_ble_eq_true rfl) ?_
    refine x_goesOn ?_
    refine Aft_v (WX_len2 _ _) ?_
    unfold cgoes
    by_cases hf : xg q 31 (nI n) = 0
    · rw [if_pos hf]
      refine g_if_eq (tgt := 159) C0 dX9_loseTooMany_88 (by decide) (fun z => (by revert z; decide +kernel : False).elim) (fun _ => ?_)
      refine g_iload C0 dX9_loseTooMany_91 rfl ?_
      refine g_iconst (v := (-1)) C0 dX9_loseTooMany_93 (by decide) ?_
      refine g_icmp_eq (tgt := 159) C0 dX9_loseTooMany_94 (by decide) (fun h94 => ?_) (fun h94 => ?_)
      · refine g_iinc (v := nI n - 1) C0 dX9_loseTooMany_159 rfl (ii_m1 _) (by decide) ?_
        refine g_goto (tgt := 13) C0 dX9_loseTooMany_162 (by decide) ?_
        rw [ltF, if_neg h27, if_neg (fun z => absurd h94 z.2.1)] at hK
        exact ih _ _ _ _ _ _ (fun c hc => hl c (by omega)) hK (by omega)
      refine g_iload C0 dX9_loseTooMany_97 rfl ?_
      refine g_iconst (v := (-1)) C0 dX9_loseTooMany_99 (by decide) ?_
      refine g_icmp_eq (tgt := 159) C0 dX9_loseTooMany_100 (by decide) (fun h100 => ?_) (fun h100 => ?_)
      · refine g_iinc (v := nI n - 1) C0 dX9_loseTooMany_159 rfl (ii_m1 _) (by decide) ?_
        refine g_goto (tgt := 13) C0 dX9_loseTooMany_162 (by decide) ?_
        rw [ltF, if_neg h27, if_neg (fun z => absurd h100 z.2.2.1)] at hK
        exact ih _ _ _ _ _ _ (fun c hc => hl c (by omega)) hK (by omega)
      refine g_iload C0 dX9_loseTooMany_103 rfl ?_
      refine g_if_eq (tgt := 159) C0 dX9_loseTooMany_105 (by decide) (fun z => (by revert z; decide +kernel : False).elim) (fun _ => ?_)
      refine g_aload_n C0 dX9_loseTooMany_108 rfl ?_
      refine g_iload C0 dX9_loseTooMany_109 rfl ?_
      refine g_iconst (v := 2) C0 dX9_loseTooMany_111 (by decide) ?_
      refine g_invV2 C0 dX9_loseTooMany_112 CX9_220 rfl rfl ⟨by decide, by decide, by decide, by decide⟩ (Nat.le_of_ble_eq_true rfl) ?_
      refine x_end (hl n (by omega)).1 (by have := (hl n (by omega)).2; omega) ?_
      refine Aft_n (WX_len2 _ _) ?_
      refine g_iload C0 dX9_loseTooMany_115 rfl ?_
      refine g_iload C0 dX9_loseTooMany_117 rfl ?_
      refine g_icmp_le (tgt := 126) C0 dX9_loseTooMany_119 (by decide) (fun h119 => ?_) (fun h119 => ?_)
      · refine g_iconst (v := 0) C0 dX9_loseTooMany_126 (by decide) ?_
        refine g_istore C0 dX9_loseTooMany_127 (by decide) ?_
        refine g_aload_n C0 dX9_loseTooMany_129 rfl ?_
        refine g_getfield C0 dX9_loseTooMany_130 FX9_19 rfl rfl ?_
        refine g_iload C0 dX9_loseTooMany_133 rfl ?_
        refine g_if_eq (tgt := 142) C0 dX9_loseTooMany_135 (by decide) (fun _ => ?_) (fun z => (by revert z; decide +kernel : False).elim)
        refine g_iload_n C0 dX9_loseTooMany_142 rfl ?_
        refine g_iload C0 dX9_loseTooMany_143 rfl ?_
        refine g_if_eq (tgt := 152) C0 dX9_loseTooMany_145 (by decide) (fun _ => ?_) (fun z => (by revert z; decide +kernel : False).elim)
        refine g_iload_n C0 dX9_loseTooMany_152 rfl ?_
        refine g_invV2 C0 dX9_loseTooMany_153 CX9_208 rfl rfl ⟨by decide, by decide, by decide, by decide⟩ (Nat.le_of_ble_eq_true rfl) ?_
        refine x_payLoss ?_
        refine Aft_n (WX_len2 _ _) ?_
        refine g_iinc (v := nI (k + 1)) C0 dX9_loseTooMany_156 rfl (nI_1 _) (by decide) ?_
        refine g_iinc (v := nI n - 1) C0 dX9_loseTooMany_159 rfl (ii_m1 _) (by decide) ?_
        refine g_goto (tgt := 13) C0 dX9_loseTooMany_162 (by decide) ?_
        have h119c : cpl q (nI n) a (lam n) ≤ cpl q (nI n) b (lam n) := h119
        rw [ltF, if_neg h27, if_pos ⟨hf, h94, h100, (Or.inr h69)⟩, ltQ, if_pos h119c] at hK
        exact ih _ _ _ _ _ _ (fun c hc => by
          have := hl c (by omega)
          refine ⟨?_, this.2⟩
          rw [← this.1]
          unfold xg
          exact congrArg (fun f => rg (rl 33) f (nI c)) (by have := ltQ_33 q n a b (lam n); rw [ltQ, if_pos h119c] at this; exact this)) hK (by omega)
      refine g_iconst (v := 1) C0 dX9_loseTooMany_122 (by decide) ?_
      refine g_goto (tgt := 127) C0 dX9_loseTooMany_123 (by decide) ?_
      refine g_istore C0 dX9_loseTooMany_127 (by decide) ?_
      refine g_aload_n C0 dX9_loseTooMany_129 rfl ?_
      refine g_getfield C0 dX9_loseTooMany_130 FX9_19 rfl rfl ?_
      refine g_iload C0 dX9_loseTooMany_133 rfl ?_
      refine g_if_eq (tgt := 142) C0 dX9_loseTooMany_135 (by decide) (fun z => (by revert z; decide +kernel : False).elim) (fun _ => ?_)
      refine g_iload_n C0 dX9_loseTooMany_138 rfl ?_
      refine g_goto (tgt := 143) C0 dX9_loseTooMany_139 (by decide) ?_
      refine g_iload C0 dX9_loseTooMany_143 rfl ?_
      refine g_if_eq (tgt := 152) C0 dX9_loseTooMany_145 (by decide) (fun z => (by revert z; decide +kernel : False).elim) (fun _ => ?_)
      refine g_iload_n C0 dX9_loseTooMany_148 rfl ?_
      refine g_goto (tgt := 153) C0 dX9_loseTooMany_149 (by decide) ?_
      refine g_invV2 C0 dX9_loseTooMany_153 CX9_208 rfl rfl ⟨by decide, by decide, by decide, by decide⟩ (Nat.le_of_ble_eq_true rfl) ?_
      refine x_payLoss ?_
      refine Aft_n (WX_len2 _ _) ?_
      refine g_iinc (v := nI (k + 1)) C0 dX9_loseTooMany_156 rfl (nI_1 _) (by decide) ?_
      refine g_iinc (v := nI n - 1) C0 dX9_loseTooMany_159 rfl (ii_m1 _) (by decide) ?_
      refine g_goto (tgt := 13) C0 dX9_loseTooMany_162 (by decide) ?_
      have h119c : ¬ cpl q (nI n) a (lam n) ≤ cpl q (nI n) b (lam n) := h119
      rw [ltF, if_neg h27, if_pos ⟨hf, h94, h100, (Or.inr h69)⟩, ltQ, if_neg h119c] at hK
      exact ih _ _ _ _ _ _ (fun c hc => by
        have := hl c (by omega)
        refine ⟨?_, this.2⟩
        rw [← this.1]
        unfold xg
        exact congrArg (fun f => rg (rl 33) f (nI c)) (by have := ltQ_33 q n a b (lam n); rw [ltQ, if_neg h119c] at this; exact this)) hK (by omega)
    rw [if_neg hf]
    refine g_if_eq (tgt := 159) C0 dX9_loseTooMany_88 (by decide) (fun _ => ?_) (fun z => (by revert z; decide +kernel : False).elim)
    refine g_iinc (v := nI n - 1) C0 dX9_loseTooMany_159 rfl (ii_m1 _) (by decide) ?_
    refine g_goto (tgt := 13) C0 dX9_loseTooMany_162 (by decide) ?_
    rw [ltF, if_neg h27, if_neg (fun z => absurd z.1 hf)] at hK
    exact ih _ _ _ _ _ _ (fun c hc => hl c (by omega)) hK (by omega)
set_option maxRecDepth 100000 in
set_option maxHeartbeats 4000000 in
theorem x_lose {q : XS} {K : AO → AW → Prop} {a b : Int32} {lam : Nat → Nat} (hq : q.2 6 < 100000) (hl : ∀ c, c < q.2 6 → xg q 33 (nI c) = nI (lam c + 1) ∧ lam c < 1000) (hK : K (.inl (some (.int (nI (xlose q a b lam).2)))) (WX (xlose q a b lam).1)) : Snd MX9_loseTooMany [.ref 0, .int a, .int b] (WX q) K := by
  refine Snd.of (by decide +kernel) (Nat.le_of_ble_eq_true rfl) rfl rfl ?_
  intro X D dA ad C0
  show Gd X _ MX9_loseTooMany 0 [some (.ref 0), some (.int a), some (.int b), none, none, none, none, none, none] [] _ 0 0
  refine g_iconst (v := 0) C0 dX9_loseTooMany_0 (by decide) ?_
  refine g_istore_n C0 dX9_loseTooMany_1 (by decide) ?_
  refine g_aload_n C0 dX9_loseTooMany_2 rfl ?_
  refine g_getfield C0 dX9_loseTooMany_3 FX9_63 rfl rfl ?_
  refine g_getfield C0 dX9_loseTooMany_6 FX9_228 rfl rfl ?_
  refine g_iconst (v := 1) C0 dX9_loseTooMany_9 (by decide) ?_
  refine g_isub C0 dX9_loseTooMany_10 ?_
  refine g_istore C0 dX9_loseTooMany_11 (by decide) ?_
  exact lp_lose C0 _ q 0 _ _ _ _ hl hK hq
set_option maxRecDepth 100000 in
set_option maxHeartbeats 4000000 in
theorem lp_anew {q : XS} {K : AO → AW → Prop} {c car per num en r : Int32} (h2 : q.2 2 < 100000) (h3 : q.2 3 < 100000) (h4 : q.2 4 < 100000) (h5 : q.2 5 < 100000) (hK : K (.inl (some (.int r))) (WX q)) {X : CX} {D : va_G} {dA : Nat → ClassId} {w0 : AW} {ad : Nat → Nat} (C0 : Ok X (D, dA, w0, ad, K) MX9_chargesAnew) : ∀ (n : Nat) (f s : Int32) (o9 o10 o11 : Option Value), n ≤ 181 → caF q num en car per n f s = r → Gd X (D, dA, w0, ad, K) MX9_chargesAnew 46 [some (.ref 0), some (.int c), some (.int car), some (.int per), some (.int num), some (.int en), some (.int f), some (.int s), some (.int (nI (181 - n))), o9, o10, o11] [] (WX q) 0 0 := by
  intro n
  induction n with
  | zero =>
    intro f s o9 o10 o11 hn hs
    refine g_iload C0 dX9_chargesAnew_46 rfl ?_
    refine g_sipush (v := nI 181) C0 dX9_chargesAnew_48 (by decide +kernel) ?_
    refine g_icmp_ge (tgt := 190) C0 dX9_chargesAnew_51 (by decide) (fun _ => ?_) (fun z => absurd (Int32.le_refl _) z)
    refine g_iload C0 dX9_chargesAnew_190 rfl ?_
    refine g_iret C0 rfl dX9_chargesAnew_192 (by decide) (by decide) ?_
    rw [← hs] at hK
    exact hK
  | succ n ih =>
    intro f s o9 o10 o11 hn hs
    have hi : 181 - (n + 1) + 1 = 181 - n := by omega
    refine g_iload C0 dX9_chargesAnew_46 rfl ?_
    refine g_sipush (v := 181) C0 dX9_chargesAnew_48 (by decide) ?_
    refine g_icmp_ge (tgt := 190) C0 dX9_chargesAnew_51 (by decide) (fun h51 => absurd h51 (nI_ge (b := 181) (by omega) (by omega))) (fun h51 => ?_)
    refine g_iload C0 dX9_chargesAnew_54 rfl ?_
    refine g_iload C0 dX9_chargesAnew_56 rfl ?_
    refine g_icmp_ge (tgt := 190) C0 dX9_chargesAnew_58 (by decide) (fun h58 => ?_) (fun h58 => ?_)
    · refine g_iload C0 dX9_chargesAnew_190 rfl ?_
      refine g_iret C0 rfl dX9_chargesAnew_192 (by decide) (by decide) ?_
      rw [caF, if_pos h58] at hs
      rw [← hs] at hK
      exact hK
    refine g_aload_n C0 dX9_chargesAnew_61 rfl ?_
    refine g_getfield C0 dX9_chargesAnew_62 FX9_42 rfl rfl ?_
    refine g_iload C0 dX9_chargesAnew_65 rfl ?_
    refine g_iload C0 dX9_chargesAnew_67 rfl ?_
    refine g_invV2 C0 dX9_chargesAnew_69 CX9_234 rfl rfl ⟨by decide, by decide, by decide, by decide⟩ (Nat.le_of_ble_eq_true rfl) ?_
    refine x_placeAt (by assumption) ?_
    refine Aft_v (WX_len2 _ _) ?_
    refine g_istore C0 dX9_chargesAnew_72 (by decide) ?_
    refine g_aload_n C0 dX9_chargesAnew_74 rfl ?_
    refine g_getfield C0 dX9_chargesAnew_75 FX9_49 rfl rfl ?_
    refine g_iload C0 dX9_chargesAnew_78 rfl ?_
    refine g_iload C0 dX9_chargesAnew_80 rfl ?_
    refine g_iload C0 dX9_chargesAnew_82 rfl ?_
    refine g_bipush (v := 6) C0 dX9_chargesAnew_84 (by decide) ?_
    refine g_irem C0 dX9_chargesAnew_86 (by decide) ?_
    refine g_invV3 C0 dX9_chargesAnew_87 CX9_330 rfl rfl ⟨by decide, by decide, by decide, by decide⟩ (Nat.le_of_ble_eq_true rfl) ?_
    refine x_valueAt 1 (by decide) (by assumption) ?_
    refine Aft_v (WX_len2 _ _) ?_
    refine g_istore C0 dX9_chargesAnew_90 (by decide) ?_
    refine g_aload_n C0 dX9_chargesAnew_92 rfl ?_
    refine g_getfield C0 dX9_chargesAnew_93 FX9_42 rfl rfl ?_
    refine g_getfield C0 dX9_chargesAnew_96 FX9_333 rfl rfl ?_
    refine g_iload C0 dX9_chargesAnew_99 rfl ?_
    refine g_iload C0 dX9_chargesAnew_101 rfl ?_
    refine g_iload C0 dX9_chargesAnew_103 rfl ?_
    refine g_invV3 C0 dX9_chargesAnew_105 CX9_336 rfl rfl ⟨by decide, by decide, by decide, by decide⟩ (Nat.le_of_ble_eq_true rfl) ?_
    refine x_nextAfter 0 (by decide) (by assumption) ?_
    refine Aft_v (WX_len2 _ _) ?_
    refine g_istore C0 dX9_chargesAnew_108 (by decide) ?_
    refine g_aload_n C0 dX9_chargesAnew_110 rfl ?_
    refine g_getfield C0 dX9_chargesAnew_111 FX9_49 rfl rfl ?_
    refine g_iload C0 dX9_chargesAnew_114 rfl ?_
    refine g_iload C0 dX9_chargesAnew_116 rfl ?_
    refine g_iload C0 dX9_chargesAnew_118 rfl ?_
    refine g_invV3 C0 dX9_chargesAnew_120 CX9_336 rfl rfl ⟨by decide, by decide, by decide, by decide⟩ (Nat.le_of_ble_eq_true rfl) ?_
    refine x_nextAfter 1 (by decide) (by assumption) ?_
    refine Aft_v (WX_len2 _ _) ?_
    refine g_istore C0 dX9_chargesAnew_123 (by decide) ?_
    refine g_aload_n C0 dX9_chargesAnew_125 rfl ?_
    refine g_getfield C0 dX9_chargesAnew_126 FX9_56 rfl rfl ?_
    refine g_iload C0 dX9_chargesAnew_129 rfl ?_
    refine g_iload C0 dX9_chargesAnew_131 rfl ?_
    refine g_iload C0 dX9_chargesAnew_133 rfl ?_
    refine g_invV3 C0 dX9_chargesAnew_135 CX9_339 rfl rfl ⟨by decide, by decide, by decide, by decide⟩ (Nat.le_of_ble_eq_true rfl) ?_
    refine x_tnext (by assumption) ?_
    refine Aft_v (WX_len2 _ _) ?_
    refine g_istore C0 dX9_chargesAnew_138 (by decide) ?_
    refine g_iload_n C0 dX9_chargesAnew_140 rfl ?_
    refine g_iconst (v := (-1)) C0 dX9_chargesAnew_141 (by decide) ?_
    refine g_icmp_eq (tgt := 151) C0 dX9_chargesAnew_142 (by decide) (fun h142 => ?_) (fun h142 => ?_)
    · refine g_iload_n C0 dX9_chargesAnew_151 rfl ?_
      refine g_iconst (v := (-1)) C0 dX9_chargesAnew_152 (by decide) ?_
      refine g_icmp_eq (tgt := 162) C0 dX9_chargesAnew_153 (by decide) (fun h153 => ?_) (fun h153 => ?_)
      · refine g_iload C0 dX9_chargesAnew_162 rfl ?_
        refine g_aload_n C0 dX9_chargesAnew_164 rfl ?_
        refine g_getfield C0 dX9_chargesAnew_165 FX9_56 rfl rfl ?_
        refine g_iload C0 dX9_chargesAnew_168 rfl ?_
        refine g_iload C0 dX9_chargesAnew_170 rfl ?_
        refine g_iload C0 dX9_chargesAnew_172 rfl ?_
        refine g_invV3 C0 dX9_chargesAnew_174 CX9_321 rfl rfl ⟨by decide, by decide, by decide, by decide⟩ (Nat.le_of_ble_eq_true rfl) ?_
        refine x_charge (by assumption) (by assumption) ?_
        refine Aft_v (WX_len2 _ _) ?_
        refine g_iadd C0 dX9_chargesAnew_177 ?_
        refine g_istore C0 dX9_chargesAnew_178 (by decide) ?_
        refine g_iload C0 dX9_chargesAnew_180 rfl ?_
        refine g_istore C0 dX9_chargesAnew_182 (by decide) ?_
        refine g_iinc (v := nI (181 - n)) C0 dX9_chargesAnew_184 rfl (by rw [← hi]; exact (nI_1 _)) (by decide) ?_
        refine g_goto (tgt := 46) C0 dX9_chargesAnew_187 (by decide) ?_
        exact ih _ _ _ _ _ (by omega) (by rw [← hs, caF, if_neg h58, if_pos ⟨(Or.inl h142), (Or.inl h153)⟩]; rfl)
      refine g_iload_n C0 dX9_chargesAnew_156 rfl ?_
      refine g_iload C0 dX9_chargesAnew_157 rfl ?_
      refine g_icmp_ne (tgt := 180) C0 dX9_chargesAnew_159 (by decide) (fun h159 => ?_) (fun h159 => ?_)
      · refine g_iload C0 dX9_chargesAnew_180 rfl ?_
        refine g_istore C0 dX9_chargesAnew_182 (by decide) ?_
        refine g_iinc (v := nI (181 - n)) C0 dX9_chargesAnew_184 rfl (by rw [← hi]; exact (nI_1 _)) (by decide) ?_
        refine g_goto (tgt := 46) C0 dX9_chargesAnew_187 (by decide) ?_
        exact ih _ _ _ _ _ (by omega) (by rw [← hs, caF, if_neg h58, if_neg (fun z => z.2.elim h153 h159)]; rfl)
      refine g_iload C0 dX9_chargesAnew_162 rfl ?_
      refine g_aload_n C0 dX9_chargesAnew_164 rfl ?_
      refine g_getfield C0 dX9_chargesAnew_165 FX9_56 rfl rfl ?_
      refine g_iload C0 dX9_chargesAnew_168 rfl ?_
      refine g_iload C0 dX9_chargesAnew_170 rfl ?_
      refine g_iload C0 dX9_chargesAnew_172 rfl ?_
      refine g_invV3 C0 dX9_chargesAnew_174 CX9_321 rfl rfl ⟨by decide, by decide, by decide, by decide⟩ (Nat.le_of_ble_eq_true rfl) ?_
      refine x_charge (by assumption) (by assumption) ?_
      refine Aft_v (WX_len2 _ _) ?_
      refine g_iadd C0 dX9_chargesAnew_177 ?_
      refine g_istore C0 dX9_chargesAnew_178 (by decide) ?_
      refine g_iload C0 dX9_chargesAnew_180 rfl ?_
      refine g_istore C0 dX9_chargesAnew_182 (by decide) ?_
      refine g_iinc (v := nI (181 - n)) C0 dX9_chargesAnew_184 rfl (by rw [← hi]; exact (nI_1 _)) (by decide) ?_
      refine g_goto (tgt := 46) C0 dX9_chargesAnew_187 (by decide) ?_
      exact ih _ _ _ _ _ (by omega) (by rw [← hs, caF, if_neg h58, if_pos ⟨(Or.inl h142), (Or.inr h159)⟩]; rfl)
    refine g_iload_n C0 dX9_chargesAnew_145 rfl ?_
    refine g_iload C0 dX9_chargesAnew_146 rfl ?_
    refine g_icmp_ne (tgt := 180) C0 dX9_chargesAnew_148 (by decide) (fun h148 => ?_) (fun h148 => ?_)
    · refine g_iload C0 dX9_chargesAnew_180 rfl ?_
      refine g_istore C0 dX9_chargesAnew_182 (by decide) ?_
      refine g_iinc (v := nI (181 - n)) C0 dX9_chargesAnew_184 rfl (by rw [← hi]; exact (nI_1 _)) (by decide) ?_
      refine g_goto (tgt := 46) C0 dX9_chargesAnew_187 (by decide) ?_
      exact ih _ _ _ _ _ (by omega) (by rw [← hs, caF, if_neg h58, if_neg (fun z => z.1.elim h142 h148)]; rfl)
    refine g_iload_n C0 dX9_chargesAnew_151 rfl ?_
    refine g_iconst (v := (-1)) C0 dX9_chargesAnew_152 (by decide) ?_
    refine g_icmp_eq (tgt := 162) C0 dX9_chargesAnew_153 (by decide) (fun h153 => ?_) (fun h153 => ?_)
    · refine g_iload C0 dX9_chargesAnew_162 rfl ?_
      refine g_aload_n C0 dX9_chargesAnew_164 rfl ?_
      refine g_getfield C0 dX9_chargesAnew_165 FX9_56 rfl rfl ?_
      refine g_iload C0 dX9_chargesAnew_168 rfl ?_
      refine g_iload C0 dX9_chargesAnew_170 rfl ?_
      refine g_iload C0 dX9_chargesAnew_172 rfl ?_
      refine g_invV3 C0 dX9_chargesAnew_174 CX9_321 rfl rfl ⟨by decide, by decide, by decide, by decide⟩ (Nat.le_of_ble_eq_true rfl) ?_
      refine x_charge (by assumption) (by assumption) ?_
      refine Aft_v (WX_len2 _ _) ?_
      refine g_iadd C0 dX9_chargesAnew_177 ?_
      refine g_istore C0 dX9_chargesAnew_178 (by decide) ?_
      refine g_iload C0 dX9_chargesAnew_180 rfl ?_
      refine g_istore C0 dX9_chargesAnew_182 (by decide) ?_
      refine g_iinc (v := nI (181 - n)) C0 dX9_chargesAnew_184 rfl (by rw [← hi]; exact (nI_1 _)) (by decide) ?_
      refine g_goto (tgt := 46) C0 dX9_chargesAnew_187 (by decide) ?_
      exact ih _ _ _ _ _ (by omega) (by rw [← hs, caF, if_neg h58, if_pos ⟨(Or.inr h148), (Or.inl h153)⟩]; rfl)
    refine g_iload_n C0 dX9_chargesAnew_156 rfl ?_
    refine g_iload C0 dX9_chargesAnew_157 rfl ?_
    refine g_icmp_ne (tgt := 180) C0 dX9_chargesAnew_159 (by decide) (fun h159 => ?_) (fun h159 => ?_)
    · refine g_iload C0 dX9_chargesAnew_180 rfl ?_
      refine g_istore C0 dX9_chargesAnew_182 (by decide) ?_
      refine g_iinc (v := nI (181 - n)) C0 dX9_chargesAnew_184 rfl (by rw [← hi]; exact (nI_1 _)) (by decide) ?_
      refine g_goto (tgt := 46) C0 dX9_chargesAnew_187 (by decide) ?_
      exact ih _ _ _ _ _ (by omega) (by rw [← hs, caF, if_neg h58, if_neg (fun z => z.2.elim h153 h159)]; rfl)
    refine g_iload C0 dX9_chargesAnew_162 rfl ?_
    refine g_aload_n C0 dX9_chargesAnew_164 rfl ?_
    refine g_getfield C0 dX9_chargesAnew_165 FX9_56 rfl rfl ?_
    refine g_iload C0 dX9_chargesAnew_168 rfl ?_
    refine g_iload C0 dX9_chargesAnew_170 rfl ?_
    refine g_iload C0 dX9_chargesAnew_172 rfl ?_
    refine g_invV3 C0 dX9_chargesAnew_174 CX9_321 rfl rfl ⟨by decide, by decide, by decide, by decide⟩ (Nat.le_of_ble_eq_true rfl) ?_
    refine x_charge (by assumption) (by assumption) ?_
    refine Aft_v (WX_len2 _ _) ?_
    refine g_iadd C0 dX9_chargesAnew_177 ?_
    refine g_istore C0 dX9_chargesAnew_178 (by decide) ?_
    refine g_iload C0 dX9_chargesAnew_180 rfl ?_
    refine g_istore C0 dX9_chargesAnew_182 (by decide) ?_
    refine g_iinc (v := nI (181 - n)) C0 dX9_chargesAnew_184 rfl (by rw [← hi]; exact (nI_1 _)) (by decide) ?_
    refine g_goto (tgt := 46) C0 dX9_chargesAnew_187 (by decide) ?_
    exact ih _ _ _ _ _ (by omega) (by rw [← hs, caF, if_neg h58, if_pos ⟨(Or.inr h148), (Or.inr h159)⟩]; rfl)
set_option maxRecDepth 100000 in
set_option maxHeartbeats 4000000 in
theorem x_anew {q : XS} {K : AO → AW → Prop} {c car per : Int32} (h2 : q.2 2 < 100000) (h3 : q.2 3 < 100000) (h4 : q.2 4 < 100000) (h5 : q.2 5 < 100000) (hK : K (.inl (some (.int (xanew q c car per)))) (WX q)) : Snd MX9_chargesAnew [.ref 0, .int c, .int car, .int per] (WX q) K := by
  refine Snd.of (by decide +kernel) (Nat.le_of_ble_eq_true rfl) rfl rfl ?_
  intro X D dA ad C0
  show Gd X _ MX9_chargesAnew 0 [some (.ref 0), some (.int c), some (.int car), some (.int per), none, none, none, none, none, none, none, none] [] _ 0 0
  refine g_aload_n C0 dX9_chargesAnew_0 rfl ?_
  refine g_getfield C0 dX9_chargesAnew_1 FX9_63 rfl rfl ?_
  refine g_getfield C0 dX9_chargesAnew_4 FX9_241 rfl rfl ?_
  refine g_iload_n C0 dX9_chargesAnew_7 rfl ?_
  refine g_invV1 C0 dX9_chargesAnew_8 CX9_111 rfl rfl ⟨by decide, by decide, by decide, by decide⟩ (Nat.le_of_ble_eq_true rfl) ?_
  refine x_get 27 (by decide) ?_
  refine Aft_v (WX_len2 _ _) ?_
  refine g_istore C0 dX9_chargesAnew_11 (by decide) ?_
  refine g_aload_n C0 dX9_chargesAnew_13 rfl ?_
  refine g_getfield C0 dX9_chargesAnew_14 FX9_63 rfl rfl ?_
  refine g_iload_n C0 dX9_chargesAnew_17 rfl ?_
  refine g_aload_n C0 dX9_chargesAnew_18 rfl ?_
  refine g_getfield C0 dX9_chargesAnew_19 FX9_74 rfl rfl ?_
  refine g_invV2 C0 dX9_chargesAnew_22 CX9_324 rfl rfl ⟨by decide, by decide, by decide, by decide⟩ (Nat.le_of_ble_eq_true rfl) ?_
  refine x_endOf ?_
  refine Aft_v (WX_len2 _ _) ?_
  refine g_istore C0 dX9_chargesAnew_25 (by decide) ?_
  refine g_aload_n C0 dX9_chargesAnew_27 rfl ?_
  refine g_getfield C0 dX9_chargesAnew_28 FX9_63 rfl rfl ?_
  refine g_getfield C0 dX9_chargesAnew_31 FX9_327 rfl rfl ?_
  refine g_iload_n C0 dX9_chargesAnew_34 rfl ?_
  refine g_invV1 C0 dX9_chargesAnew_35 CX9_111 rfl rfl ⟨by decide, by decide, by decide, by decide⟩ (Nat.le_of_ble_eq_true rfl) ?_
  refine x_get 29 (by decide) ?_
  refine Aft_v (WX_len2 _ _) ?_
  refine g_istore C0 dX9_chargesAnew_38 (by decide) ?_
  refine g_iconst (v := 0) C0 dX9_chargesAnew_40 (by decide) ?_
  refine g_istore C0 dX9_chargesAnew_41 (by decide) ?_
  refine g_iconst (v := 0) C0 dX9_chargesAnew_43 (by decide) ?_
  refine g_istore C0 dX9_chargesAnew_44 (by decide) ?_
  exact lp_anew h2 h3 h4 h5 hK C0 181 _ _ _ _ _ (Nat.le_refl _) rfl
set_option maxRecDepth 100000 in
set_option maxHeartbeats 4000000 in
theorem lp_pass {q : XS} {K : AO → AW → Prop} {sec : Int32} {t : Nat} (h4 : q.2 4 < 100000) (h5 : q.2 5 < 100000) (h6 : q.2 6 < 100000) (hK : K (.inl (some (.int (psF q (nI t) (q.2 6)).2))) (WX (setC (psF q (nI t) (q.2 6)).1 0 t))) {X : CX} {D : va_G} {dA : Nat → ClassId} {w0 : AW} {ad : Nat → Nat} (C0 : Ok X (D, dA, w0, ad, K) MX9_pass) : ∀ (n k : Nat), k + n = q.2 6 → Gd X (D, dA, w0, ad, K) MX9_pass 42 [some (.ref 0), some (.int sec), some (.int (nI t)), some (.int (psF q (nI t) k).2), some (.int (nI k))] [] (WX (psF q (nI t) k).1) 1 6 := by
  intro n
  induction n with
  | zero =>
    intro k hk
    have hk6 : k = q.2 6 := by omega
    subst hk6
    have hc := psF_c q (nI t) (q.2 6)
    refine g_iload C0 dX9_pass_42 rfl ?_
    refine g_aload_n C0 dX9_pass_44 rfl ?_
    refine g_getfield C0 dX9_pass_45 FX9_63 rfl rfl ?_
    refine g_getfield C0 dX9_pass_48 FX9_228 rfl rfl ?_
    rw [hc]
    refine g_icmp_ge (tgt := 82) C0 dX9_pass_51 (by decide) (fun _ => ?_) (fun z => absurd (Int32.le_refl _) z)
    refine g_aload_n C0 dX9_pass_82 rfl ?_
    refine g_iload_n C0 dX9_pass_83 rfl ?_
    refine g_putfield C0 dX9_pass_84 FX9_74 rfl (Nat.le_of_ble_eq_true rfl) (fun _ => ⟨rfl, rfl⟩) ?_
    refine g_w (WX_put0 _ t) ?_
    refine g_iload_n C0 dX9_pass_87 rfl ?_
    refine g_iret C0 rfl dX9_pass_88 (by decide) (by decide) ?_
    exact hK
  | succ n ih =>
    intro k hk
    have hc := psF_c q (nI t) k
    have h4' : (psF q (nI t) k).1.2 4 < 100000 := by rw [hc]; exact h4
    have h5' : (psF q (nI t) k).1.2 5 < 100000 := by rw [hc]; exact h5
    refine g_iload C0 dX9_pass_42 rfl ?_
    refine g_aload_n C0 dX9_pass_44 rfl ?_
    refine g_getfield C0 dX9_pass_45 FX9_63 rfl rfl ?_
    refine g_getfield C0 dX9_pass_48 FX9_228 rfl rfl ?_
    rw [hc]
    refine g_icmp_ge (tgt := 82) C0 dX9_pass_51 (by decide) (fun h51 => absurd h51 (nI_ge (by omega) (by omega))) (fun h51 => ?_)
    refine g_aload_n C0 dX9_pass_54 rfl ?_
    refine g_getfield C0 dX9_pass_55 FX9_63 rfl rfl ?_
    refine g_iload C0 dX9_pass_58 rfl ?_
    refine g_invV1 C0 dX9_pass_60 CX9_214 rfl rfl ⟨by decide, by decide, by decide, by decide⟩ (Nat.le_of_ble_eq_true rfl) ?_
    refine x_goesOn ?_
    refine Aft_v (WX_len2 _ _) ?_
    unfold cgoes
    by_cases hf : xg (psF q (nI t) k).1 31 (nI k) = 0
    · rw [if_pos hf]
      refine g_if_eq (tgt := 76) C0 dX9_pass_63 (by decide) (fun z => (by revert z; decide +kernel : False).elim) (fun _ => ?_)
      refine g_iload_n C0 dX9_pass_66 rfl ?_
      refine g_aload_n C0 dX9_pass_67 rfl ?_
      refine g_iload C0 dX9_pass_68 rfl ?_
      refine g_iload_n C0 dX9_pass_70 rfl ?_
      refine g_invV2 C0 dX9_pass_71 CX9_231 rfl rfl ⟨by decide, by decide, by decide, by decide⟩ (Nat.le_of_ble_eq_true rfl) ?_
      refine x_chU (by assumption) (by assumption) ?_
      refine Aft_v (WX_len2 _ _) ?_
      refine g_iadd C0 dX9_pass_74 ?_
      refine g_istore_n C0 dX9_pass_75 (by decide) ?_
      refine g_iinc (v := nI (k + 1)) C0 dX9_pass_76 rfl (nI_1 _) (by decide) ?_
      refine g_goto (tgt := 42) C0 dX9_pass_79 (by decide) ?_
      exact g_w (by rw [psF, if_pos hf]) (g_ls (by rw [psF, if_pos hf]; rfl) (ih (k + 1) (by omega)))
    rw [if_neg hf]
    refine g_if_eq (tgt := 76) C0 dX9_pass_63 (by decide) (fun _ => ?_) (fun z => (by revert z; decide +kernel : False).elim)
    refine g_iinc (v := nI (k + 1)) C0 dX9_pass_76 rfl (nI_1 _) (by decide) ?_
    refine g_goto (tgt := 42) C0 dX9_pass_79 (by decide) ?_
    exact g_w (by rw [psF, if_neg hf]) (g_ls (by rw [psF, if_neg hf]; rfl) (ih (k + 1) (by omega)))

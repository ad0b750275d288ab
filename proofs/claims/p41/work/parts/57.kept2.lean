/-! ===== what is kept: ends, losses, lines, ways, calls, time ===== -/
theorem ended_eN {x t : XS} (h : RX x t) {k : Nat} (h0 : x.1 31 k = 0) {v : Int32} (hv : ¬ v = 0) (f : Nat → Int32) (c1 c2 i : Nat) : eN (endX x k v f c1 c2) i = eN x i := by
  have h20 := h.n20
  show (if upd (x.1 31) k v i = 0 then x.2 0 else (upd (x.1 30) k (nI (x.2 0)) i).toNatClampNeg) = (if x.1 31 i = 0 then x.2 0 else (x.1 30 i).toNatClampNeg)
  rw [upd_a, upd_a]
  by_cases hi : i = k
  · subst hi
    rw [if_pos rfl, if_pos rfl, if_neg hv, if_pos h0, nI_clamp (by omega)]
  · rw [if_neg hi, if_neg hi]
theorem EI.ended {w : Nat → Prop} {B T : Nat} {n0 : Int32} {x t : XS} (E : EI w B T n0 x) (h : RX x t) {k : Nat} (hk : k < x.2 6) (h0 : x.1 31 k = 0) {v : Int32} (hv : ¬ v = 0) {f : Nat → Int32} {c2 : Nat} (h2 : c2 < 12) (e2 : x.1 28 k = nI c2) (hf : ∀ a b, a < b → b < 5 → f (5 * a + b) = x.1 13 (5 * a + b) + nI (pcR (t.1 20) k (nI a) (nI b) (lm t k)) * (-1)) : EI w B T n0 (endX x k v f (cn x k) c2) := by
  have hr := rx_ended h hk h0 hv h2 e2 hf
  have h6 := h.c60
  have s0 : t.1 18 k = 0 := (h.r31 k (by omega)).symm.trans h0
  refine ⟨E.ls, fun a b hab hb hw => ?_, fun j hj => ?_, E.nw, E.sv, E.nn, E.br, E.pu, E.py⟩
  · obtain ⟨l, u, hl, hu, e12, e13⟩ := E.ln a b hab hb hw
    refine ⟨l, ucR (t.1 20) (upd (t.1 18) k v) (lm t) (nI a) (nI b) (t.2 5), hl, ?_, e12, hr.rK a b hab hb⟩
    have h60 := uc60 h (nI a) (nI b)
    have eu : u = ucR (t.1 20) (t.1 18) (lm t) (nI a) (nI b) (t.2 5) := nI_eqI (by omega) (by omega) (e13.symm.trans (h.rK a b hab hb))
    have he := ucR_end (w := t.1 20) (lam := lm t) (a := nI a) (b := nI b) s0 hv (t.2 5) (by rw [← h.cC]; exact hk)
    omega
  · rw [ended_eN h h0 hv]
    exact E.cb j hj
theorem EI.loss {w : Nat → Prop} {B T : Nat} {n0 : Int32} {x : XS} (E : EI w B T n0 x) {a b : Nat} (ha : a < 5) (hb : b < 5) : EI w (B + 1) T n0 (xpayLoss x (nI a) (nI b)) := by
  rw [xpayLoss_n ha hb]
  refine ⟨fun c hc => ?_, E.ln, E.cb, E.nw, E.sv, E.nn, E.br, (sI_give ha hb 5).trans E.pu, E.py⟩
  show ∃ m, m ≤ B + 1 ∧ upd (x.1 10) a (x.1 10 a + 5) c = nI (5 * m)
  obtain ⟨m, h1, h2⟩ := E.ls c hc
  by_cases hca : c = a
  · subst hca
    exact ⟨m + 1, by omega, by rw [pk_us, h2, show (5 : Int32) = nI 5 from rfl, nI_add]; rfl⟩
  · exact ⟨m, by omega, by rw [pk_un hca]; exact h2⟩
theorem iv_hangUp {B T : Nat} {n0 : Int32} {x t : XS} (h : RX x t) (E : EI NB B T n0 x) {c : Int32} : IV B T n0 (xHangUp x c (lm t c.toNatClampNeg)).2 := by
  refine ⟨_, (s_hangUp h (c := c) rfl).2, ?_⟩
  unfold xHangUp R0
  split
  · exact E
  · next hn =>
    split
    · next h0 =>
      obtain ⟨k, hk, rfl⟩ := nK h (fun z => hn ((noK_L h c).mpr z))
      have h6 := h.c60
      rw [nI_clamp (by omega)]
      rw [xg_n (k := 31) (show k < 60 by omega)] at h0
      obtain ⟨c2, h2, e2⟩ := h.cd hk
      obtain ⟨f, e3, hf⟩ := xend_n h hk (v := 1) h2 e2
      rw [e3]
      exact E.ended h hk h0 (by decide) h2 e2 hf
    · exact E
/-- the lines left between two carriers -/
theorem xleft_lt (x : XS) {c d : Nat} (hcd : c < d) (hd : d < 5) : xleft x (nI c) (nI d) = x.1 12 (5 * c + d) - x.1 13 (5 * c + d) ∧ xleft x (nI d) (nI c) = x.1 12 (5 * c + d) - x.1 13 (5 * c + d) := by
  obtain ⟨e1, e2⟩ := btw_lt hcd hd
  unfold xleft
  rw [e1, e2, xg_n (k := 12) (show 5 * c + d < 25 by omega), xg_n (k := 13) (show 5 * c + d < 25 by omega)]
  exact ⟨rfl, rfl⟩
theorem uc_z {w st : Nat → Int32} {lam : Nat → Nat} {a b : Int32} : ∀ {m : Nat}, (∀ k, k < m → st k = 0 → pcR w k a b (lam k) = 0) → ucR w st lam a b m = 0
  | 0, _ => rfl
  | m + 1, h => by
    rw [ucR, uc_z (fun k hk => h k (by omega))]
    by_cases h0 : st m = 0
    · rw [if_pos h0, h m (by omega) h0]
    · rw [if_neg h0]
/-- the trunk between a and b, in the class's rows -/
theorem tr_pair {a b c d : Nat} (ha : a < 5) (hb : b < 5) (hcd : c < d) (hd : d < 5) (h : 5 * c + d = if a < b then 5 * a + b else 5 * b + a) (hab : ¬ a = b) : (c = a ∧ d = b) ∨ (c = b ∧ d = a) := by
  split at h <;> omega
theorem tr_ok {x t : XS} (h : RX x t) {a b u : Nat} (ha : a < 5) (hb : b < 5) (hab : ¬ a = b) (hu : ucR (t.1 20) (t.1 18) (lm t) (nI a) (nI b) (t.2 5) = u) (hl : ∃ l, l ≤ 5 ∧ t.1 3 (5 * a + b) = nI l ∧ u ≤ l) {c d : Nat} (hcd : c < d) (hd : d < 5) (hj : 5 * c + d = if a < b then 5 * a + b else 5 * b + a) : ∃ l u, l ≤ 5 ∧ u ≤ l ∧ x.1 12 (5 * c + d) = nI l ∧ x.1 13 (5 * c + d) = nI u := by
  obtain ⟨l, h1, h2, h3⟩ := hl
  obtain ⟨p1, p2, -⟩ := h.rN c d hcd hd
  have p3 := h.rK c d hcd hd
  rcases tr_pair ha hb hcd hd hj hab with ⟨rfl, rfl⟩ | ⟨rfl, rfl⟩
  · exact ⟨l, u, h1, h3, p1.trans h2, p3.trans (congrArg nI hu)⟩
  · refine ⟨l, u, h1, h3, p1.trans (p2.symm.trans h2), p3.trans (congrArg nI ?_)⟩
    exact (uc_s _ _ _ _ _ _).trans hu
set_option maxHeartbeats 4000000 in
theorem lose_e {a b l T : Nat} {n0 : Int32} (ha : a < 5) (hb : b < 5) (hab : ¬ a = b) (hl : l ≤ 5) (lam : Nat → Nat) : ∀ n, ∀ (q t : XS) (g B : Nat), RX q (setC t 6 (q.2 1)) → t.2 6 = q.2 1 + g → n ≤ q.2 6 → t.1 3 (5 * a + b) = nI l → lam = lm t → (∀ k, n ≤ k → k < q.2 6 → t.1 18 k = 0 → pcR (t.1 20) k (nI a) (nI b) (lm t k) = 0) → EI (fun j => j = if a < b then 5 * a + b else 5 * b + a) B T n0 q →
    EI NB (B + n) T n0 (ltF (nI a) (nI b) lam n q g).1 := by
  intro n
  induction n with
  | zero =>
    intro q t g B h hg _ h3 hlam hp E
    refine ⟨E.ls, fun c d hcd hd _ => ?_, E.cb, E.nw, E.sv, E.nn, E.br, E.pu, E.py⟩
    by_cases hj : 5 * c + d = if a < b then 5 * a + b else 5 * b + a
    · have hz := uc_z (w := t.1 20) (st := t.1 18) (lam := lm t) (a := nI a) (b := nI b) (m := t.2 5) (fun k hk h0 => hp k (Nat.zero_le _) (by rw [h.cC]; exact hk) h0)
      exact tr_ok h ha hb hab hz ⟨l, hl, h3, Nat.zero_le _⟩ hcd hd hj
    · exact E.ln c d hcd hd hj
  | succ n ih =>
    intro q t g B h hg hn h3 hlam hp E
    have h6 := h.c60
    have hC : q.2 6 = t.2 5 := h.cC
    subst hlam
    have hle := uc_le (w := t.1 20) (st := t.1 18) (lam := lm t) (a := nI a) (b := nI b) (n := t.2 5) (fun k hk => h.pc1 (k := k) (by rw [hC]; exact hk) _ _) _ (Nat.le_refl _)
    have hx : xleft q (nI a) (nI b) = nI l - nI (ucR (t.1 20) (t.1 18) (lm t) (nI a) (nI b) (t.2 5)) := by
      rw [left_n h ha hb hab, used_u h]
      exact congrArg (· - _) h3
    rw [ltF, hx]
    by_cases hc : ucR (t.1 20) (t.1 18) (lm t) (nI a) (nI b) (t.2 5) ≤ l
    · rw [if_pos ((sub_le (by omega) (by omega)).mpr hc)]
      refine ⟨fun c hc => ?_, fun c d hcd hd _ => ?_, E.cb, E.nw, E.sv, E.nn, E.br, E.pu, E.py⟩
      · obtain ⟨m, g1, g2⟩ := E.ls c hc
        exact ⟨m, by omega, g2⟩
      · by_cases hj : 5 * c + d = if a < b then 5 * a + b else 5 * b + a
        · exact tr_ok h ha hb hab rfl ⟨l, hl, h3, hc⟩ hcd hd hj
        · exact E.ln c d hcd hd hj
    · rw [if_neg (fun z => hc ((sub_le (by omega) (by omega)).mp z))]
      have hL : ltC q n (nI a) (nI b) (lm t n) ↔ t.1 18 n = 0 ∧ ∃ i, i < lm t n ∧ tkR (t.1 20) n (nI a) (nI b) i := ltC_n h (by omega) _ _
      by_cases hT : ltC q n (nI a) (nI b) (lm t n)
      · rw [if_pos hT]
        obtain ⟨s0, i, i1, i3⟩ := hL.mp hT
        have h4 : lm t n ≤ 4 := (h.g19 n).2
        obtain ⟨r1, r2, r3, r4, r5, r6, r7, r8⟩ := lose_1 h hg (k := n) (by omega) s0 i1 ha hb i3
        obtain ⟨c2, h2, e2⟩ := h.cd (k := n) (by omega)
        obtain ⟨f, e3, hf⟩ := xend_n h (k := n) (by omega) (v := 2) h2 e2
        have s0x : q.1 31 n = 0 := (h.r31 n (by omega)).trans s0
        have E2 := E.ended h (k := n) (by omega) s0x (v := 2) (by decide) h2 e2 hf
        have e3' : xend q (nI n) 2 (lm t n) = endX q n 2 f (cn q n) c2 := e3
        have E3 : EI (fun j => j = if a < b then 5 * a + b else 5 * b + a) (B + 1) T n0 (ltQ q n (nI a) (nI b) (lm t n)) := by
          unfold ltQ
          rw [e3']
          by_cases hcc : cpl q (nI n) (nI a) (lm t n) ≤ cpl q (nI n) (nI b) (lm t n)
          · rw [if_pos hcc]
            exact E2.loss hb ha
          · rw [if_neg hcc]
            exact E2.loss ha hb
        have el : lm t = lm (mlQ t n (nI i)) := by funext j; show _ = ((mlQ t n (nI i)).1 19 j).toNatClampNeg; rw [r5]
        have := ih _ _ (g + 1) (B + 1) r1 r2 (by rw [r3]; omega) (by rw [r7]; exact h3) el (fun k k1 k2 k3 => ?_) E3
        · exact this.mono (by omega) (Nat.le_refl _)
        · rw [r3] at k2
          rw [r8, upd_a] at k3
          rw [r6, ← el]
          by_cases hkn : k = n
          · rw [if_pos hkn] at k3; exact absurd k3 (by decide)
          · rw [if_neg hkn] at k3; exact hp k (by omega) k2 k3
      · rw [if_neg hT]
        have := ih q t g B h hg (by omega) h3 rfl (fun k k1 k2 k3 => ?_) E
        · exact this.mono (by omega) (Nat.le_refl _)
        · by_cases hkn : k = n
          · subst hkn
            exact pc_z (fun i hi hz => hT (hL.mpr ⟨k3, i, hi, hz⟩))
          · exact hp k (by omega) k2 k3
theorem iv_setTrunk {B T : Nat} {n0 : Int32} {x t : XS} (h : RX x t) (E : EI NB B T n0 x) (a b n : Int32) : IV (B + 60) T n0 (xSetTrunk x a b n (lm t)).2 := by
  have Em := E.mono (B2 := B + 60) (T2 := T) (by omega) (Nat.le_refl _)
  refine ⟨_, (s_setTrunk h a b n).2, ?_⟩
  unfold xSetTrunk R0
  split
  · exact Em
  · next h1 =>
    split
    · exact Em
    · next h2 =>
      split
      · exact Em
      · next h3 =>
        split
        · exact Em
        · next h4 =>
          obtain ⟨i, hi, rfl⟩ := nC h1
          obtain ⟨j, hj, rfl⟩ := nC h2
          obtain ⟨k, -, hk, rfl⟩ := nW (a := 0) (b := 5) (by decide) (by decide) h4
          have hij : ¬ i = j := fun z => h3 (by rw [z])
          have h6 := h.c60
          obtain ⟨r1, r2, r3, r4, r5, r6, r7, r8, r9⟩ := line_n h hi hj hij hk
          have hlm : lm t = lm (mtQ t (nI i) (nI j) (nI k)) := funext fun c => by show (t.1 19 c).toNatClampNeg = ((mtQ t (nI i) (nI j) (nI k)).1 19 c).toNatClampNeg; rw [r8]
          have hR : RX (xchange x (nI i) (nI j) (nI k)) (setC (mtQ t (nI i) (nI j) (nI k)) 6 ((xchange x (nI i) (nI j) (nI k)).2 1)) := by
            rw [r1.cL, setC_self]; exact r1
          have ex : ∃ m, m = (if i < j then 5 * i + j else 5 * j + i) ∧ xchange x (nI i) (nI j) (nI k) = setR x 12 (upd (x.1 12) m (nI k)) := by
            unfold xchange
            by_cases hlt : i < j
            · exact ⟨5 * i + j, (if_pos hlt).symm, by rw [(btw_lt hlt hj).1, xs_n (k := 12) (show 5 * i + j < 25 by omega)]⟩
            · exact ⟨5 * j + i, (if_neg hlt).symm, by rw [(btw_lt (show j < i by omega) hi).2, xs_n (k := 12) (show 5 * j + i < 25 by omega)]⟩
          obtain ⟨m, em, ex⟩ := ex
          have E2 : EI (fun z => z = if i < j then 5 * i + j else 5 * j + i) B T n0 (xchange x (nI i) (nI j) (nI k)) := by
            rw [ex]
            refine ⟨E.ls, fun c d hcd hd hw => ?_, E.cb, E.nw, E.sv, E.nn, E.br, E.pu, E.py⟩
            obtain ⟨l, u, g1, g2, g3, g4⟩ := E.ln c d hcd hd id
            refine ⟨l, u, g1, g2, ?_, g4⟩
            show upd (x.1 12) m (nI k) (5 * c + d) = nI l
            rw [pk_un (by rw [em]; exact hw)]; exact g3
          have E3 := lose_e hi hj hij hk (lm t) (x.2 6) _ _ 0 B hR (by rw [← r1.cL]; rfl) (by rw [r3]; exact Nat.le_refl _) r2 hlm (fun c c1 c2 => absurd c2 (by rw [r3]; omega)) E2
          unfold xlose
          rw [r3]
          exact (E3.mono (B2 := B + 60) (T2 := T) (by omega) (Nat.le_refl _)).keep (fun _ _ => rfl) (fun j hj => if_neg (by omega))
/-! ways -/
theorem fw_r (g o : Int32) : ∀ n (q : XS), (∀ j, j ≠ 35 → (fwF g o n q).1.1 j = q.1 j) ∧ ∀ j, j ≠ 7 → (fwF g o n q).1.2 j = q.2 j
  | 0, q => ⟨fun _ _ => rfl, fun _ _ => rfl⟩
  | n + 1, q => by
    rw [fwF]
    split
    · exact ⟨fun _ _ => rfl, fun _ _ => rfl⟩
    · split
      · obtain ⟨h1, h2⟩ := fw_r g o n (wgo q (known q (wlast q) o (nI (q.2 0))))
        exact ⟨fun j hj => (h1 j hj).trans (if_neg hj), fun j hj => (h2 j hj).trans (if_neg hj)⟩
      · exact ⟨fun _ _ => rfl, fun _ _ => rfl⟩
theorem xfind_r (x : XS) (a b : Int32) : (∀ j, j ≠ 35 → (xfind x a b).1.1 j = x.1 j) ∧ ∀ j, j ≠ 7 → (xfind x a b).1.2 j = x.2 j := by
  obtain ⟨h1, h2⟩ := fw_r (xg x 0 b) b 5 (wbegin x (xg x 0 a))
  exact ⟨fun j hj => (h1 j hj).trans (if_neg hj), fun j hj => (h2 j hj).trans (if_neg hj)⟩
theorem EI.find {w : Nat → Prop} {B T : Nat} {n0 : Int32} {x : XS} (E : EI w B T n0 x) (a b : Int32) : EI w B T n0 (xfind x a b).1 := E.keep (fun j hj => (xfind_r x a b).1 j (by omega)) (fun j hj => (xfind_r x a b).2 j (by omega))
/-- each trunk of a way has a line left -/
abbrev HOP (q : XS) : Prop := ∀ i, i + 1 < q.2 7 → i + 1 < 5 → 0 < xleft q (q.1 35 i) (q.1 35 (i + 1))
theorem xleft_e {p q : XS} (h1 : p.1 12 = q.1 12) (h2 : p.1 13 = q.1 13) (a b : Int32) : xleft p a b = xleft q a b := by
  unfold xleft xg
  rw [h1, h2]
theorem fw_hop (g o : Int32) : ∀ n (q : XS), q.2 7 + n = 6 → 1 ≤ q.2 7 → HOP q → HOP (fwF g o n q).1
  | 0, q, _, _, h => h
  | n + 1, q, h7, h1, h => by
    rw [fwF]
    split
    · exact h
    · split
      · next hg =>
        refine fw_hop g o n _ (by show q.2 7 + 1 + n = 6; omega) (by show 1 ≤ q.2 7 + 1; omega) (fun i hi hi5 => ?_)
        have hi2 : i + 1 < q.2 7 + 1 := hi
        rw [xleft_e (p := wgo q (known q (wlast q) o (nI (q.2 0)))) (q := q) rfl rfl]
        have e35 : (wgo q (known q (wlast q) o (nI (q.2 0)))).1 35 = rs 5 (q.1 35) (nI (q.2 7)) (known q (wlast q) o (nI (q.2 0))) := rfl
        rw [e35]
        by_cases h5 : q.2 7 < 5
        · rw [rs_n (n := 5) (by decide) h5]
          by_cases hl : i + 1 = q.2 7
          · have e0 : q.1 35 i = wlast q := by
              unfold wlast
              rw [← hl, nI_pred, xg_n (k := 35) (show i < 5 by omega)]
            rw [hl, pk_us, pk_un (by omega), e0]
            exact hg.2
          · rw [pk_un (by omega), pk_un (by omega)]
            exact h i (by omega) hi5
        · have e5 : q.2 7 = 5 := by omega
          have er : rs 5 (q.1 35) (nI (q.2 7)) (known q (wlast q) o (nI (q.2 0))) = q.1 35 := by
            unfold rs
            rw [e5, if_neg (fun z => absurd z.2 (by decide))]
          rw [er]
          exact h i (by omega) hi5
      · exact h
theorem xfind_hop (x : XS) (a b : Int32) : HOP (xfind x a b).1 := fw_hop _ _ 5 _ rfl (Nat.le_refl _) (fun i hi => absurd hi (by show ¬ i + 1 < 1; omega))
/-- a trunk of the way, and the lines left between its ends -/
theorem hop_lines {q t : XS} {f : Nat} (w : WR q t f) (hop : HOP q) {B T : Nat} {n0 : Int32} (E : EI NB B T n0 q) {c d : Nat} (hcd : c < d) (hd : d < 5) : ∃ l u, l ≤ 5 ∧ u + pcR (wyR (t.1 20) (t.1 23) (5 * t.2 5) (f + 1)) (t.2 5) (nI c) (nI d) f ≤ l ∧ q.1 12 (5 * c + d) = nI l ∧ q.1 13 (5 * c + d) = nI u := by
  obtain ⟨l, u, hl, hu, e12, e13⟩ := E.ln c d hcd hd id
  refine ⟨l, u, hl, ?_, e12, e13⟩
  have f5 := w.f5
  have ew : ∀ i, i ≤ f → wyR (t.1 20) (t.1 23) (5 * t.2 5) (f + 1) (5 * t.2 5 + i) = t.1 23 i := fun i hi => by
    unfold wyR
    rw [if_pos (by omega), Nat.add_sub_cancel_left]
  have h1 : pcR (wyR (t.1 20) (t.1 23) (5 * t.2 5) (f + 1)) (t.2 5) (nI c) (nI d) f ≤ 1 := pc_1 (fun i j hij hj => by
    rw [ew i (by omega), ew j hj]; exact w.d.2 i j hij hj)
  by_cases h0 : pcR (wyR (t.1 20) (t.1 23) (5 * t.2 5) (f + 1)) (t.2 5) (nI c) (nI d) f = 0
  · omega
  · have hx : ∃ i, i < f ∧ tkR (wyR (t.1 20) (t.1 23) (5 * t.2 5) (f + 1)) (t.2 5) (nI c) (nI d) i := Classical.byContradiction fun z => h0 (pc_z (fun i hi hk => z ⟨i, hi, hk⟩))
    obtain ⟨i, hi, hk⟩ := hx
    have hh := hop i (by rw [w.lx]; omega) (by omega)
    rw [w.e i (by omega), w.e (i + 1) (by omega)] at hh
    have hlt : 0 < nI l - nI u := by
      rcases hk with ⟨k1, k2⟩ | ⟨k1, k2⟩
      · rw [ew i (by omega)] at k1
        rw [Nat.add_assoc, ew (i + 1) (by omega)] at k2
        rw [k1, k2, (xleft_lt q hcd hd).1, e12, e13] at hh
        exact hh
      · rw [ew i (by omega)] at k1
        rw [Nat.add_assoc, ew (i + 1) (by omega)] at k2
        rw [k1, k2, (xleft_lt q hcd hd).2, e12, e13] at hh
        exact hh
    rw [Int32.lt_iff_toInt_lt, pk_sub_toInt (by omega) (by omega), Int32.toInt_zero] at hlt
    omega
theorem EI.begun {B T : Nat} {n0 : Int32} {q t : XS} {f : Nat} (w : WR q t f) (hop : HOP q) (E : EI NB B T n0 q) (hc : q.2 6 < 60) (a b : Nat) {r13 : Nat → Int32} (h13 : ∀ c d, c < d → d < 5 → r13 (5 * c + d) = q.1 13 (5 * c + d) + nI (pcR (wyR (t.1 20) (t.1 23) (5 * t.2 5) (f + 1)) (t.2 5) (nI c) (nI d) f)) : EI NB B T n0 (begX q a b f r13) := by
  refine ⟨E.ls, fun c d hcd hd _ => ?_, fun j hj => ?_, E.nw, E.sv, E.nn, E.br, E.pu, E.py⟩
  · obtain ⟨l, u, g1, g2, g3, g4⟩ := hop_lines w hop E hcd hd
    refine ⟨l, u + pcR (wyR (t.1 20) (t.1 23) (5 * t.2 5) (f + 1)) (t.2 5) (nI c) (nI d) f, g1, g2, g3, ?_⟩
    show r13 (5 * c + d) = _
    rw [h13 c d hcd hd, g4, nI_add]
  · have hj2 : j < q.2 6 + 1 := hj
    by_cases hn : j = q.2 6
    · subst hn
      refine ⟨0, Nat.zero_le _, ?_⟩
      show q.1 32 (q.2 6) = nI 0
      rw [nI_0]
      exact (w.r.z _ (Nat.le_refl _) hc).2.1
    · obtain ⟨m, g1, g2⟩ := E.cb j (by omega)
      refine ⟨m, ?_, g2⟩
      have eb : bN (begX q a b f r13) j = bN q j := by
        show (upd (q.1 29) (q.2 6) (nI (q.2 0)) j).toNatClampNeg = (q.1 29 j).toNatClampNeg
        rw [pk_un hn]
      rw [eb]
      exact g1
theorem iv_call {B T : Nat} {n0 : Int32} {x t : XS} (h : RX x t) (E : EI NB B T n0 x) (a b : Int32) : IV (B + 1) T n0 (xCall x a b ((mcomes (z0 t) a b (lm t)).1.2 7)).2 := by
  have Em := E.mono (B2 := B + 1) (T2 := T) (by omega) (Nat.le_refl _)
  refine ⟨_, (s_call h a b).2, ?_⟩
  unfold xCall R0
  split
  · exact Em
  · next h1 =>
    split
    · exact Em
    · next h2 =>
      split
      · exact Em
      · split
        · split
          · split
            · split
              · next hc =>
                obtain ⟨i, hi, rfl⟩ := nN h1
                obtain ⟨j, hj, rfl⟩ := nN h2
                have hc2 : x.2 6 < 60 := by have := h.c60; exact Nat.lt_of_not_le (fun z => nI_nlt (b := 60) z (by omega) hc)
                obtain ⟨w0, e0⟩ := xfind_n (h.z0 0) hi hj
                have w : WR (xfind x (nI i) (nI j)).1 (mcomes (z0 t) (nI i) (nI j) (lm t)).1 ((mcomes (z0 t) (nI i) (nI j) (lm t)).1.2 7) := w0
                have Ef := E.find (nI i) (nI j)
                have f5 := w.f5
                have El : EI NB B T n0 (xLq x (nI i) (nI j)) := Ef.keep (fun _ _ => rfl) (fun j hj => if_neg (by omega))
                split
                · split
                  · exact El.mono (by omega) (Nat.le_refl _)
                  · obtain ⟨u, hu, eu⟩ := vp_in_of (w.d.1 _ (Nat.le_refl _)) (by decide)
                    obtain ⟨v, hv, ev⟩ := vp_in_of (w.d.1 0 (Nat.zero_le _)) (by decide)
                    have k1 : wlast (xLq x (nI i) (nI j)) = nI u := (wlast_n w).trans eu
                    have k2 : xg (xLq x (nI i) (nI j)) 35 0 = nI v := by
                      rw [show (0 : Int32) = nI 0 from nI_0.symm, xg_n (k := 35) (show 0 < 5 by decide)]
                      exact (w.e 0 (Nat.zero_le _)).trans ev
                    rw [k1, k2]
                    exact El.loss hu hv
                · have hx6 : (xfind x (nI i) (nI j)).1.2 6 = x.2 6 := (xfind_r x (nI i) (nI j)).2 6 (by decide)
                  obtain ⟨r13, e1, e2⟩ := xbegin_n w (by rw [hx6]; exact hc2) hi hj
                  rw [e1]
                  exact (Ef.begun w (xfind_hop x (nI i) (nI j)) (by rw [hx6]; exact hc2) i j e2).mono (by omega) (Nat.le_refl _)
              · exact Em
            · exact Em
          · exact Em
        · exact Em

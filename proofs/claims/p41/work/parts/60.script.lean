/-! ===== the law's frame: the script, the switch, calls of methods that catch ===== -/
section GL
variable {X : CX} {S : SX} {M : MT} {pc : Nat} {ls : List (Option Value)} {st : List Value} {w : AW} {cs ss : Nat}
/-- the script: L ints xs in an array that no world holds, by the name N -/
def SCR (X : CX) (S : SX) (N L : Nat) (xs : Nat → Int32) : Prop := match X, S with
  | (p, l, e, s, m, args, below, meth, c), (D, dA, w0, ad0, K) => va_X (ad0 N) L xs s s.heap ∧ ad0 N < s.heap.size ∧ ¬ va_A (cw dA ad0 w0) s.heap.size (ad0 N)
theorem g_sld (C0 : Ok X S M) {N L : Nat} {xs : Nat → Int32} {i : Int32} (hs : SCR X S N L xs) (hl : w.length = S.2.2.1.length) (d : decode M.code pc = .ok (.iaload, 1)) (hin : vp_in i L) (k : Gd X S M (pc + 1) ls (.int (xs i.toNatClampNeg) :: st) w cs ss) : Gd X S M pc ls (.int i :: .ref N :: st) w cs ss := by
  obtain ⟨p, l, e, s, m, args, below, meth, c⟩ := X
  obtain ⟨D, dA, w0, ad0, K⟩ := S
  obtain ⟨x1, x2, x3⟩ := hs
  intro ad H locs lsA h1 h2 h3 h4
  have e1 : ad = ad0 := h1.2.2 hl
  subst e1
  exact va_sld C0.1 C0.2.1 x1 x2 x3 h3 hin d (k ad H locs lsA h1 h2 h3 h4)
theorem g_slen (C0 : Ok X S M) {N L : Nat} {xs : Nat → Int32} (hs : SCR X S N L xs) (hl : w.length = S.2.2.1.length) (d : decode M.code pc = .ok (.arraylength, 1)) (k : Gd X S M (pc + 1) ls (.int (nI L) :: st) w cs ss) : Gd X S M pc ls (.ref N :: st) w cs ss := by
  obtain ⟨p, l, e, s, m, args, below, meth, c⟩ := X
  obtain ⟨D, dA, w0, ad0, K⟩ := S
  obtain ⟨x1, x2, x3⟩ := hs
  intro ad H locs lsA h1 h2 h3 h4
  have e1 : ad = ad0 := h1.2.2 hl
  subst e1
  exact va_slen C0.1 C0.2.1 x1 x2 x3 h3 d (k ad H locs lsA h1 h2 h3 h4)
theorem g_tblO (C0 : Ok X S M) {dflt lo hi : Int} {offs : Array Int} {len : Nat} {x : Int32} {tgt : Nat} (d : decode M.code pc = .ok (.tableswitch dflt lo hi offs, len)) (h : x.toInt < lo ∨ hi < x.toInt) (ht : (pc : Int) + dflt = (tgt : Int)) (k : Gd X S M tgt ls st w cs ss) : Gd X S M pc ls (.int x :: st) w cs ss := by
  obtain ⟨p, l, e, s, m, args, below, meth, c⟩ := X
  obtain ⟨D, dA, w0, ad0, K⟩ := S
  intro ad H locs lsA h1 h2 h3 h4
  exact lv_tableOut C0.1 C0.2.1 d h ht (k ad H locs lsA h1 h2 h3 h4)
theorem g_tblI (C0 : Ok X S M) {dflt lo hi : Int} {offs : Array Int} {len : Nat} {x : Int32} {off : Int} {tgt : Nat} (d : decode M.code pc = .ok (.tableswitch dflt lo hi offs, len)) (h1 : ¬ x.toInt < lo) (h2 : ¬ hi < x.toInt) (ho : offs[(x.toInt - lo).toNat]? = some off) (ht : (pc : Int) + off = (tgt : Int)) (k : Gd X S M tgt ls st w cs ss) : Gd X S M pc ls (.int x :: st) w cs ss := by
  obtain ⟨p, l, e, s, m, args, below, meth, c⟩ := X
  obtain ⟨D, dA, w0, ad0, K⟩ := S
  intro ad H locs lsA a1 a2 a3 a4
  exact lv_tableIn C0.1 C0.2.1 d h1 h2 ho ht (k ad H locs lsA a1 a2 a3 a4)
/-- a static call of a method that catches, and throws nothing -/
theorem g_invSH (C0 : Ok X S M) {M2 : MT} {idx n : Nat} {q9 : Nat × Nat × Nat × Nat} {t9 : List (Nat × Nat × Nat × Nat)} {As st0 : List Value} (d : decode M.code pc = .ok (.invokestatic idx, 3)) (hL : CB M.y.cls idx M2 n ∧ Cond.static M2.y ∈ WL) (hh2 : M2.hh = q9 :: t9) (hst : st0 = As.reverse ++ st) (hn : As.length = n) (hR : RM M M2 cs ss) (hcat : (st.map fun v => v.category).sum ≤ 8)
    (hS : Snd M2 As w (fun o w' => match o with | .inl v => Aft X S M pc ls st w cs ss M2.mc M2.ms (.inl v) w' | .inr _ => False)) : Gd X S M pc ls st0 w cs ss := by
  obtain ⟨p, l, e, s, m, args, below, meth, c⟩ := X
  obtain ⟨D, dA, w0, ad0, K⟩ := S
  have D0 := C0
  obtain ⟨c1, c2, c3, c4, c5, c6, c7, c8, c9, c10, c11, c12, c13⟩ := D0
  obtain ⟨⟨b1, b2, b3, b4, b5⟩, hstt⟩ := hL
  intro ad H locs lsA h1 h2 h3 h4
  subst hst
  obtain ⟨K2, hK2⟩ : ∃ K2 : AO → AW → Prop, K2 = (fun o w' => match o with | .inl v => Aft (p, l, e, s, m, args, below, meth, c) (D, dA, w0, ad0, K) M pc ls st w cs ss M2.mc M2.ms (.inl v) w' | .inr _ => False) := ⟨_, rfl⟩
  rw [← hK2] at hS
  have hM := Met_of (hS l c10 D dA ad H.size) (fun E st t ⟨k, w', ad', _, hk, _⟩ => by rw [hK2] at hk; exact hk)
  have hcw := MT.cwd_cons hh2
  have hG : GoodIn WL M2.ws := fun x hx => (List.mem_cons.mp hx).elim (fun e => by rw [e]; exact ⟨b3, WL_good b3⟩) (fun h => ⟨h, WL_good h⟩)
  have hr : va_Run p l e M.rm s m args below meth c H locs cs ss M2.mc M2.ms (F0 m pc lsA ((As.reverse ++ st).map (cv ad))) (st.map (cv ad)) (QcB D dA ad w H.size K2 (As.map (cv ad)).toArray) (va_A (cw dA ad w) H.size) := vx_runSW (hh := M2.hh) (bytes := M2.code) (maxL := M2.nL) (ret := M2.ret) (n := n) (As := As.map (cv ad)) (rest := st.map (cv ad)) (g := F0 m pc lsA ((As.reverse ++ st).map (cv ad))) ⟨c1, c2, c4, c5, c6⟩ hM
    ⟨⟨rfl, rfl, hR.1, hR.2.1, pay_in c6 hG, by unfold MT.ws; rw [hcw]; exact List.mem_cons_self⟩, by rw [← hcw]; exact c6 _ b3, c6 _ b2, b4, fun sig hs => by rw [hs] at b5; exact (Option.some.inj b5).symm, c6 _ b1, c6 _ hstt⟩
    ⟨FB, fun U hU hW => ⟨rfl, PcB_at C0 h2 h3 U hU hW⟩⟩ rfl (by rw [List.length_map]; exact hn) h4.1 (by simp only [List.map_append, List.map_reverse]) (lv_room (by rw [cats_cv]; exact hcat)) d ⟨hR.2.2.1, hR.2.2.2⟩
  refine g_after (K2 := K2) (mc := M2.mc) (ms := M2.ms) (a := (As.map (cv ad)).toArray) C0 h1 h2 h3 h4 (fun T hT X0 => Or.inl (hr T hT X0)) (fun v w' h => by rw [hK2] at h; exact h) (fun k w' ad' H1 locs1 q ce hK => by rw [hK2] at hK; exact hK.elim)
end GL

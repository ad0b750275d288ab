/-! ===== rules for this law: constants, bits, numbers; a house in a world ===== -/
section GD
variable {X : CX} {S : SX} {M : MT} {pc : Nat} {ls : List (Option Value)} {st : List Value} {w : AW} {cs ss : Nat}
theorem g_ldc (C0 : Ok X S M) {idx : Nat} {v : Int32} (hW : Cond.constant M.y.cls idx v ∈ WL) (d : decode M.code pc = .ok (.ldc idx, 2)) (k : Gd X S M (pc + 2) ls (.int v :: st) w cs ss) : Gd X S M pc ls st w cs ss := by
  obtain ⟨p, l, e, s, m, args, below, meth, c⟩ := X
  obtain ⟨D, dA, w0, ad0, K⟩ := S
  intro ad H locs lsA h1 h2 h3 h4
  exact lv_ldc C0.1 C0.2.1 C0.2.2.2.2.1 (C0.2.2.2.2.2.1 _ hW) d (k ad H locs lsA h1 h2 h3 h4)
theorem g_ior (C0 : Ok X S M) {x y : Int32} (d : decode M.code pc = .ok (.ior, 1)) (k : Gd X S M (pc + 1) ls (.int (x ||| y) :: st) w cs ss) : Gd X S M pc ls (.int y :: .int x :: st) w cs ss := by
  obtain ⟨p, l, e, s, m, args, below, meth, c⟩ := X
  obtain ⟨D, dA, w0, ad0, K⟩ := S
  intro ad H locs lsA h1 h2 h3 h4
  exact lv_ior C0.1 C0.2.1 d (k ad H locs lsA h1 h2 h3 h4)
theorem g_ishl (C0 : Ok X S M) {x y : Int32} (d : decode M.code pc = .ok (.ishl, 1)) (k : Gd X S M (pc + 1) ls (.int (x <<< (y &&& 31)) :: st) w cs ss) : Gd X S M pc ls (.int y :: .int x :: st) w cs ss := by
  obtain ⟨p, l, e, s, m, args, below, meth, c⟩ := X
  obtain ⟨D, dA, w0, ad0, K⟩ := S
  intro ad H locs lsA h1 h2 h3 h4
  exact lv_ishl C0.1 C0.2.1 d (k ad H locs lsA h1 h2 h3 h4)
theorem g_ishr (C0 : Ok X S M) {x y : Int32} (d : decode M.code pc = .ok (.ishr, 1)) (k : Gd X S M (pc + 1) ls (.int (x >>> (y &&& 31)) :: st) w cs ss) : Gd X S M pc ls (.int y :: .int x :: st) w cs ss := by
  obtain ⟨p, l, e, s, m, args, below, meth, c⟩ := X
  obtain ⟨D, dA, w0, ad0, K⟩ := S
  intro ad H locs lsA h1 h2 h3 h4
  exact lv_ishr C0.1 C0.2.1 d (k ad H locs lsA h1 h2 h3 h4)
theorem g_divN (C0 : Ok X S M) {a b : Nat} (d : decode M.code pc = .ok (.idiv, 1)) (h0 : 0 < b) (hb : b < 2 ^ 31) (ha : a < 2 ^ 31) (k : Gd X S M (pc + 1) ls (.int (nI (a / b)) :: st) w cs ss) : Gd X S M pc ls (.int (nI b) :: .int (nI a) :: st) w cs ss :=
  g_idiv C0 d (nI_ne0 h0 hb) (by rw [pk_div ha h0 hb]; exact k)
theorem g_remN (C0 : Ok X S M) {a b : Nat} (d : decode M.code pc = .ok (.irem, 1)) (h0 : 0 < b) (hb : b < 2 ^ 31) (ha : a < 2 ^ 31) (k : Gd X S M (pc + 1) ls (.int (nI (a % b)) :: st) w cs ss) : Gd X S M pc ls (.int (nI b) :: .int (nI a) :: st) w cs ss :=
  g_irem C0 d (nI_ne0 h0 hb) (by rw [pk_rem ha h0 hb]; exact k)
theorem g_addN (C0 : Ok X S M) {a b : Nat} (d : decode M.code pc = .ok (.iadd, 1)) (k : Gd X S M (pc + 1) ls (.int (nI (a + b)) :: st) w cs ss) : Gd X S M pc ls (.int (nI b) :: .int (nI a) :: st) w cs ss :=
  g_iadd C0 d (by rw [nI_add]; exact k)
/-- the house of the name b holds q in the world w; with q2 it is the world w2 -/
def HC (b : Nat) (w : AW) (q : XS) (w2 : AW) (q2 : XS) : Prop := ∃ pre post : AW, pre.length = b ∧ w = big pre (WX q) post ∧ w2 = big pre (WX q2) post
theorem HC.len {b : Nat} {w2 : AW} {q q2 : XS} (h : HC b w q w2 q2) : w2.length = w.length := by
  obtain ⟨pre, post, -, rfl, rfl⟩ := h
  rw [big_len, big_len, WX_len, WX_len]
/-- a method of a house that answers v, and makes q2 of q -/
def CT (M : MT) (As : List Value) (q q2 : XS) (v : Int32) : Prop := ∀ K : AO → AW → Prop, K (.inl (some (.int v))) (WX q2) → Snd M (.ref 0 :: As) (WX q) K
theorem CT.at {M2 : MT} {As : List Value} {q q2 : XS} {v : Int32} {b : Nat} {w2 : AW} {K : AO → AW → Prop} (h : CT M2 As q q2 v) (hc : HC b w q w2 q2) (hi : As.map (vsh b) = As) (hK : K (.inl (some (.int v))) w2) : Snd M2 (.ref b :: As) w K := by
  obtain ⟨pre, post, rfl, rfl, rfl⟩ := hc
  have h2 := Snd.frame (M := M2) (av := .ref 0 :: As) (w := WX q) (K := K) pre post (h _ ⟨Or.inl (WX_len2 _ _), hK⟩)
  rw [List.map_cons, hi] at h2
  exact h2
theorem g_ct (C0 : Ok X S M) {M2 : MT} {idx n b : Nat} {q9 : Nat × Nat × Nat × Nat} {t9 : List (Nat × Nat × Nat × Nat)} {As st0 : List Value} {q q2 : XS} {v : Int32} {w2 : AW} (d : decode M.code pc = .ok (.invokestatic idx, 3)) (hL : CB M.y.cls idx M2 n ∧ Cond.static M2.y ∈ WL) (hh2 : M2.hh = q9 :: t9) (hst : st0 = As.reverse ++ .ref b :: st) (hn : As.length + 1 = n) (hi : As.map (vsh b) = As) (hR : RM M M2 cs ss) (hcat : (st.map fun v => v.category).sum ≤ 8) (hc : HC b w q w2 q2) (h : CT M2 As q q2 v)
    (k : Gd X S M (pc + 3) ls (.int v :: st) w2 (cs + M2.mc) (ss + M2.ms)) : Gd X S M pc ls st0 w cs ss :=
  g_invSH C0 (As := .ref b :: As) d hL hh2 (by rw [hst]; simp) hn hR hcat (h.at hc hi (Aft_v hc.len k))
theorem g_ct1 (C0 : Ok X S M) {M2 : MT} {idx b : Nat} {q9 : Nat × Nat × Nat × Nat} {t9 : List (Nat × Nat × Nat × Nat)} {a1 : Int32} {q q2 : XS} {v : Int32} {w2 : AW} (d : decode M.code pc = .ok (.invokestatic idx, 3)) (hL : CB M.y.cls idx M2 2 ∧ Cond.static M2.y ∈ WL) (hh2 : M2.hh = q9 :: t9) (hR : RM M M2 cs ss) (hcat : (st.map fun v => v.category).sum ≤ 8) (hc : HC b w q w2 q2) (h : CT M2 [.int a1] q q2 v)
    (k : Gd X S M (pc + 3) ls (.int v :: st) w2 (cs + M2.mc) (ss + M2.ms)) : Gd X S M pc ls (.int a1 :: .ref b :: st) w cs ss := g_ct C0 (As := [.int a1]) d hL hh2 rfl rfl rfl hR hcat hc h k
theorem g_ct2 (C0 : Ok X S M) {M2 : MT} {idx b : Nat} {q9 : Nat × Nat × Nat × Nat} {t9 : List (Nat × Nat × Nat × Nat)} {a1 a2 : Int32} {q q2 : XS} {v : Int32} {w2 : AW} (d : decode M.code pc = .ok (.invokestatic idx, 3)) (hL : CB M.y.cls idx M2 3 ∧ Cond.static M2.y ∈ WL) (hh2 : M2.hh = q9 :: t9) (hR : RM M M2 cs ss) (hcat : (st.map fun v => v.category).sum ≤ 8) (hc : HC b w q w2 q2) (h : CT M2 [.int a1, .int a2] q q2 v)
    (k : Gd X S M (pc + 3) ls (.int v :: st) w2 (cs + M2.mc) (ss + M2.ms)) : Gd X S M pc ls (.int a2 :: .int a1 :: .ref b :: st) w cs ss := g_ct C0 (As := [.int a1, .int a2]) d hL hh2 rfl rfl rfl hR hcat hc h k
theorem g_ct3 (C0 : Ok X S M) {M2 : MT} {idx b : Nat} {q9 : Nat × Nat × Nat × Nat} {t9 : List (Nat × Nat × Nat × Nat)} {a1 a2 a3 : Int32} {q q2 : XS} {v : Int32} {w2 : AW} (d : decode M.code pc = .ok (.invokestatic idx, 3)) (hL : CB M.y.cls idx M2 4 ∧ Cond.static M2.y ∈ WL) (hh2 : M2.hh = q9 :: t9) (hR : RM M M2 cs ss) (hcat : (st.map fun v => v.category).sum ≤ 8) (hc : HC b w q w2 q2) (h : CT M2 [.int a1, .int a2, .int a3] q q2 v)
    (k : Gd X S M (pc + 3) ls (.int v :: st) w2 (cs + M2.mc) (ss + M2.ms)) : Gd X S M pc ls (.int a3 :: .int a2 :: .int a1 :: .ref b :: st) w cs ss := g_ct C0 (As := [.int a1, .int a2, .int a3]) d hL hh2 rfl rfl rfl hR hcat hc h k
/-- the same for a static method without a table -/
theorem g_cs (C0 : Ok X S M) {M2 : MT} {idx n b : Nat} {As st0 : List Value} {q q2 : XS} {v : Int32} {w2 : AW} (d : decode M.code pc = .ok (.invokestatic idx, 3)) (hL : CS M.y.cls idx M2 n) (hh : M.hh = []) (hst : st0 = As.reverse ++ .ref b :: st) (hn : As.length + 1 = n) (hi : As.map (vsh b) = As) (hR : RM M M2 cs ss) (hcat : (st.map fun v => v.category).sum ≤ 8) (hc : HC b w q w2 q2) (h : CT M2 As q q2 v)
    (k : Gd X S M (pc + 3) ls (.int v :: st) w2 (cs + M2.mc) (ss + M2.ms)) : Gd X S M pc ls st0 w cs ss :=
  g_invS C0 (As := .ref b :: As) d hL hh (by rw [hst]; simp) hn hR hcat (h.at hc hi (Aft_v hc.len k))
theorem g_cs1 (C0 : Ok X S M) {M2 : MT} {idx b : Nat} {a1 : Int32} {q q2 : XS} {v : Int32} {w2 : AW} (d : decode M.code pc = .ok (.invokestatic idx, 3)) (hL : CS M.y.cls idx M2 2) (hh : M.hh = []) (hR : RM M M2 cs ss) (hcat : (st.map fun v => v.category).sum ≤ 8) (hc : HC b w q w2 q2) (h : CT M2 [.int a1] q q2 v)
    (k : Gd X S M (pc + 3) ls (.int v :: st) w2 (cs + M2.mc) (ss + M2.ms)) : Gd X S M pc ls (.int a1 :: .ref b :: st) w cs ss := g_cs C0 (As := [.int a1]) d hL hh rfl rfl rfl hR hcat hc h k
theorem g_cs2 (C0 : Ok X S M) {M2 : MT} {idx b : Nat} {a1 a2 : Int32} {q q2 : XS} {v : Int32} {w2 : AW} (d : decode M.code pc = .ok (.invokestatic idx, 3)) (hL : CS M.y.cls idx M2 3) (hh : M.hh = []) (hR : RM M M2 cs ss) (hcat : (st.map fun v => v.category).sum ≤ 8) (hc : HC b w q w2 q2) (h : CT M2 [.int a1, .int a2] q q2 v)
    (k : Gd X S M (pc + 3) ls (.int v :: st) w2 (cs + M2.mc) (ss + M2.ms)) : Gd X S M pc ls (.int a2 :: .int a1 :: .ref b :: st) w cs ss := g_cs C0 (As := [.int a1, .int a2]) d hL hh rfl rfl rfl hR hcat hc h k
/-- a method of the class without arguments -/
theorem g_cv (C0 : Ok X S M) {M2 : MT} {idx b : Nat} {q : XS} {v : Int32} (d : decode M.code pc = .ok (.invokevirtual idx, 3)) (hL : CV M.y.cls idx M2 9 0) (hh : M.hh = []) (hR : RM M M2 cs ss) (hcat : (st.map fun v => v.category).sum ≤ 8) (hc : HC b w q w q) (h : CT M2 [] q q v)
    (k : Gd X S M (pc + 3) ls (.int v :: st) w (cs + M2.mc) (ss + M2.ms)) : Gd X S M pc ls (.ref b :: st) w cs ss := by
  have hw : ∃ fs, w[b]? = some (.inr (9, fs)) := by
    obtain ⟨pre, post, rfl, rfl, -⟩ := hc
    have h1 := big_mid (pre := pre) (w := WX q) (post := post) (i := 0) (by rw [WX_len]; decide)
    rw [Nat.add_zero] at h1
    exact ⟨_, h1⟩
  obtain ⟨fs, hw⟩ := hw
  exact g_invV0 C0 d hL hh hw hR hcat (h.at hc rfl (Aft_v rfl k))
end GD
/-! the law's world: two houses, an array of one int -/
theorem vsh_0 (v : Value) : vsh 0 v = v := by
  cases v with
  | ref i => show Value.ref (0 + i) = .ref i; rw [Nat.zero_add]
  | _ => rfl
theorem esh_0 (x : va_E) : esh 0 x = x := by
  cases x with
  | inl a => rfl
  | inr o =>
    have h : o.2.map (vsh 0) = o.2 := by
      rw [show (vsh 0 : Value → Value) = id from funext vsh_0, List.map_id]
    show Sum.inr (o.1, o.2.map (vsh 0)) = _
    rw [h]
theorem big_0 (w post : AW) : big [] w post = w ++ post := by
  show [] ++ (w.map (esh 0) ++ post) = _
  rw [List.nil_append, show (esh 0 : va_E → va_E) = id from funext esh_0, List.map_id]
def W2 (x y : XS) (f : Nat → Int32) : AW := WX x ++ ((WX y).map (esh 84) ++ [.inl (0, 1, .inl f)])
set_option maxRecDepth 100000 in
theorem W2_len (x y : XS) (f : Nat → Int32) : (W2 x y f).length = 169 := rfl
set_option maxRecDepth 100000 in
theorem W2_arr (x y : XS) (f : Nat → Int32) : (W2 x y f)[168]? = some (.inl (0, 1, .inl f)) := rfl
set_option maxRecDepth 100000 in
theorem W2_set (x y : XS) (f g : Nat → Int32) : (W2 x y f).set 168 (.inl (0, 1, .inl g)) = W2 x y g := rfl
theorem HC.self (q q2 : XS) : HC 0 (WX q) q (WX q2) q2 := ⟨[], [], rfl, by rw [big_0, List.append_nil], by rw [big_0, List.append_nil]⟩
set_option maxRecDepth 100000 in
theorem HC.one (x x2 y : XS) (f : Nat → Int32) : HC 0 (W2 x y f) x (W2 x2 y f) x2 := ⟨[], (WX y).map (esh 84) ++ [.inl (0, 1, .inl f)], rfl, (big_0 _ _).symm, (big_0 _ _).symm⟩
set_option maxRecDepth 100000 in
theorem HC.two (x y y2 : XS) (f : Nat → Int32) : HC 84 (W2 x y f) y (W2 x y2 f) y2 := ⟨WX x, [.inl (0, 1, .inl f)], rfl, rfl, rfl⟩
theorem in01 : vp_in 0 1 := by rw [← nI_0]; exact vp_in_nI (by decide) (by decide)
/-- an end as the law's wrappers tell it -/
def cod : AO → Int32
  | .inl (some (.int v)) => v
  | .inl _ => 0
  | .inr 0 => -2000000001
  | .inr 1 => -2000000002
  | .inr _ => -2000000003

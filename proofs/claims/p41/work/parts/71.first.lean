/-! ===== the law's first steps, while its argument lies in local 0 ===== -/
section GE
variable {X : CX} {S : SX} {M : MT} {pc : Nat} {ls : List (Option Value)} {st : List Value} {w : AW} {cs ss : Nat} {b0 : Nat}
def Ge (b0 : Nat) (X : CX) (S : SX) (M : MT) (pc : Nat) (ls : List (Option Value)) (st : List Value) (w : AW) (cs ss : Nat) : Prop := match X, S with
  | (p, l, e, s, m, args, below, meth, c), (D, dA, w0, ad0, K) =>
    ∀ (ad : Nat → Nat) (H : Heap) (locs : List Loc) (lsA : Array Slot), AG w0.length ad0 w.length ad → WH D dA ad w (va_A (cw dA ad0 w0) s.heap.size) H → va_S (va_A (cw dA ad0 w0) s.heap.size) s.heap H locs → LH lsA M.nL ls ad → lsA[0]? = some (.val (.ref b0)) →
      W p l e M.rm s m args below meth c H locs cs ss (vx_MQ below (QcB D dA ad0 w0 s.heap.size K) (XcB D dA ad0 w0 s.heap.size K) args s M.mc M.ms (va_A (cw dA ad0 w0) s.heap.size)) (F0 m pc lsA (st.map (cv ad)))
def Afe (b0 : Nat) (X : CX) (S : SX) (M : MT) (pc : Nat) (ls : List (Option Value)) (st : List Value) (w : AW) (cs ss mc ms : Nat) : AO → AW → Prop := fun o w' => match o with
  | .inl v => (w'.length = w.length ∨ (st.all (vOk w.length) = true ∧ lsOk w.length ls = true)) ∧ Ge b0 X S M (pc + 3) ls (v.toList ++ st) w' (cs + mc) (ss + ms)
  | .inr k => SK S (.inr k) w'
theorem LH.setE {lsA : Array Slot} {nL : Nat} {ls : List (Option Value)} {ad : Nat → Nat} (h : LH lsA nL ls ad) {b n i : Nat} {v : Value} (hE : lsA[0]? = some (.val (.ref b))) (h0 : 0 < nL) (hok : lsOk n ls = true) (hv : vOk n v = true) (hi : i < nL) (hi0 : i ≠ 0) (hc : v.category = 1) : ∃ ls', storeLocals lsA i (cv ad v) = some ls' ∧ LH ls' nL (ls.set i (some v)) ad ∧ ls'[0]? = some (.val (.ref b)) := by
  have hag : ∀ j, j < n → adPush ad n b j = ad j := fun j hj => by simp only [adPush, if_neg (Nat.ne_of_lt hj)]
  have ec : cv (adPush ad n b) (.ref n) = .ref b := by simp only [cv, adPush, if_true]
  obtain ⟨ls', e1, e2⟩ := h.set (v := v) hi hc
  have h2 : LH lsA nL (ls.set 0 (some (.ref n))) (adPush ad n b) := by
    refine ⟨h.1, h.2.1, by rw [List.length_set]; exact h.2.2.1, fun j u hj => ?_⟩
    by_cases hj0 : j = 0
    · subst hj0
      have hlt : 0 < ls.length := by rw [h.2.2.1]; exact h0
      rw [List.getElem?_set, if_pos rfl, if_pos hlt] at hj
      cases hj
      rw [ec]
      exact ⟨hE, rfl⟩
    · rw [List.getElem?_set_ne (Ne.symm hj0)] at hj
      have := h.2.2.2 j u hj
      rw [cv_eq hag (List.all_eq_true.mp hok _ (List.mem_of_getElem? hj))]
      exact this
  obtain ⟨ls2, f1, f2⟩ := h2.set (v := v) hi hc
  rw [cv_eq hag hv, e1] at f1
  cases f1
  refine ⟨ls', e1, e2, ?_⟩
  have hlt : 0 < ls.length := by rw [h.2.2.1]; exact h0
  have := (f2.2.2.2 0 (.ref n) (by rw [List.getElem?_set_ne hi0, List.getElem?_set, if_pos rfl, if_pos hlt])).1
  rw [ec] at this
  exact this
theorem ge_new (C0 : Ok X S M) {idx ci N : Nat} {fs : List Value} (d : decode M.code pc = .ok (.new idx, 3)) (hN : NW M.y.cls idx ci N fs) (hw : wOk w = true) (hst : st.all (vOk w.length) = true) (hls : lsOk w.length ls = true) (hc : cs + 1 ≤ M.mc) (hs : ss + N ≤ M.ms)
    (k : Ge b0 X S M (pc + 3) ls (.ref w.length :: st) (w ++ [.inr (ci, fs)]) (cs + 1) (ss + N)) : Ge b0 X S M pc ls st w cs ss := by
  obtain ⟨p, l, e, s, m, args, below, meth, c⟩ := X
  obtain ⟨D, dA, w0, ad0, K⟩ := S
  obtain ⟨C, T, ty0, f1, f2, f3, f4, f5, f6, f7, f8⟩ := hN
  obtain ⟨c1, c2, c3, c4, c5, c6, c7, c8⟩ := C0
  intro ad H locs lsA h1 h2 h3 h4 h5
  refine va_new (ci := ci) c1 c2 c6 f2 ty0 f3 c5 (c6 _ f4) (c6 _ f5) (c6 _ f6) c7 h2.1 h2.2 h3 (fun q h => Or.inr h) f1 f7 hc hs d (fun q H1 hP hD hS => ?_)
  have e : ce dA ad (.inr (ci, fs)) = .inr (ci, fs) := by
    have : fs.map (cv ad) = fs := (List.map_congr_left fun v hv => vOk0 (List.all_eq_true.mp f8 v hv) ad).trans (List.map_id fs)
    simp only [ce, this]
  have hx : eOk w.length (.inr (ci, fs)) = true := List.all_eq_true.mpr fun v hv => vOk_mono (Nat.zero_le _) (List.all_eq_true.mp f8 v hv)
  have g := k (adPush ad w.length q) H1 locs lsA h1.push1 (WH.push hw hx (by rw [e]; exact hP) (by rw [e]; exact hD)) hS (h4.push hls) h5
  have e2 : List.map (cv (adPush ad w.length q)) (.ref w.length :: st) = .ref q :: st.map (cv ad) := by
    rw [List.map_cons, sts_push hst]
    simp only [cv, adPush, if_true]
  rw [e2] at g
  exact g
theorem ge_newarray (C0 : Ok X S M) {kd : Nat} {aty : ArrayType} {n : Nat} {i : Int32} {a0 : vp_A} (d : decode M.code pc = .ok (.newarray aty, 2)) (hK : KA kd aty n a0) (hn : i = nI n) (hb : n ≤ 1000) (hw : wOk w = true) (hst : st.all (vOk w.length) = true) (hls : lsOk w.length ls = true) (hc : cs + 1 ≤ M.mc) (hs : ss + n ≤ M.ms)
    (k : Ge b0 X S M (pc + 2) ls (.ref w.length :: st) (w ++ [.inl (kd, a0)]) (cs + 1) (ss + n)) : Ge b0 X S M pc ls (.int i :: st) w cs ss := by
  obtain ⟨p, l, e, s, m, args, below, meth, c⟩ := X
  obtain ⟨D, dA, w0, ad0, K⟩ := S
  obtain ⟨f0, f1, f2, f3⟩ := hK
  obtain ⟨c1, c2, c3, c4, c5, c6, c7, c8⟩ := C0
  intro ad H locs lsA h1 h2 h3 h4 h5
  subst hn
  have hbig : n < 2 ^ 31 := by omega
  refine va_newa (N' := n) (a0 := a0) (ty := kT kd) c1 c2 (by rw [f1]; exact c6 _ f3) f1 c7 h2.1 h2.2 h3 (fun q h => Or.inr h) f2 (nI_pos hbig) (nI_clamp hbig) ?_ hc hs d (fun q cA H1 hK1 hP hD hS => ?_)
  · obtain rfl : kd = 0 := by omega
    show n * 4 ≤ _; omega
  have hcA : cA = dA kd := by
    have q1 := (hK1.2 1 (cA, kT kd) rfl).2
    obtain rfl : kd = 0 := by omega
    have q2 := (hK1.2 0 (dA 0, kT 0) rfl).2
    exact Option.some.inj (q1.symm.trans q2)
  subst hcA
  have g := k (adPush ad w.length q) H1 locs lsA h1.push1 (WH.push hw rfl hP hD) hS (h4.push hls) h5
  have e2 : List.map (cv (adPush ad w.length q)) (.ref w.length :: st) = .ref q :: st.map (cv ad) := by
    rw [List.map_cons, sts_push hst]
    simp only [cv, adPush, if_true]
  rw [e2] at g
  exact g
theorem ge_dup (C0 : Ok X S M) {v : Value} (d : decode M.code pc = .ok (.dup, 1)) (hc : v.category = 1) (k : Ge b0 X S M (pc + 1) ls (v :: v :: st) w cs ss) : Ge b0 X S M pc ls (v :: st) w cs ss := by
  obtain ⟨p, l, e, s, m, args, below, meth, c⟩ := X
  obtain ⟨D, dA, w0, ad0, K⟩ := S
  intro ad H locs lsA h1 h2 h3 h4 h5
  exact lv_dup C0.1 C0.2.1 d (by rw [cv_cat]; exact hc) (k ad H locs lsA h1 h2 h3 h4 h5)
theorem ge_iconst (C0 : Ok X S M) {n : Int} {v : Int32} (d : decode M.code pc = .ok (.iconst n, 1)) (hv : Int32.ofInt n = v) (k : Ge b0 X S M (pc + 1) ls (.int v :: st) w cs ss) : Ge b0 X S M pc ls (st) w cs ss := by
  obtain ⟨p, l, e, s, m, args, below, meth, c⟩ := X
  obtain ⟨D, dA, w0, ad0, K⟩ := S
  intro ad H locs lsA h1 h2 h3 h4 h5
  exact lv_iconst C0.1 C0.2.1 d hv (k ad H locs lsA h1 h2 h3 h4 h5)
theorem ge_astore_n (C0 : Ok X S M) {k0 : Fin 4} {x : Nat} (d : decode M.code pc = .ok (.astore_n k0, 1)) (hi : (k0 : Nat) < M.nL) (hi0 : (k0 : Nat) ≠ 0) (hok : lsOk w.length ls = true) (hv : vOk w.length (.ref x) = true) (k : Ge b0 X S M (pc + 1) (ls.set (k0 : Nat) (some (.ref x))) st w cs ss) : Ge b0 X S M pc ls (.ref x :: st) w cs ss := by
  obtain ⟨p, l, e, s, m, args, below, meth, c⟩ := X
  obtain ⟨D, dA, w0, ad0, K⟩ := S
  intro ad H locs lsA h1 h2 h3 h4 h5
  obtain ⟨ls1, e1, e2, e5⟩ := h4.setE (v := .ref x) h5 (Nat.lt_of_le_of_lt (Nat.zero_le _) hi) hok hv hi hi0 rfl
  intro T hT X0
  obtain ⟨t, a, b⟩ := k ad H locs ls1 h1 h2 h3 e2 e5 T hT X0
  refine ⟨t, ?_, b⟩
  have hexec := C0.1
  have hb := C0.2.1
  have e1 : storeLocals lsA (k0 : Nat) (.ref (ad x)) = some ls1 := e1
  jvm_step X0.here [X0.here.top, hexec, hb, d, e1]
  exact ⟨Or.inl rfl, ls1, e1, a⟩
theorem ge_istore (C0 : Ok X S M) {i : Nat} {x : Int32} (d : decode M.code pc = .ok (.istore i, 2)) (hi : i < M.nL) (hi0 : i ≠ 0) (hok : lsOk w.length ls = true) (hv : vOk w.length (.int x) = true) (k : Ge b0 X S M (pc + 2) (ls.set i (some (.int x))) st w cs ss) : Ge b0 X S M pc ls (.int x :: st) w cs ss := by
  obtain ⟨p, l, e, s, m, args, below, meth, c⟩ := X
  obtain ⟨D, dA, w0, ad0, K⟩ := S
  intro ad H locs lsA h1 h2 h3 h4 h5
  obtain ⟨ls1, e1, e2, e5⟩ := h4.setE (v := .int x) h5 (Nat.lt_of_le_of_lt (Nat.zero_le _) hi) hok hv hi hi0 rfl
  intro T hT X0
  obtain ⟨t, a, b⟩ := k ad H locs ls1 h1 h2 h3 e2 e5 T hT X0
  refine ⟨t, ?_, b⟩
  have hexec := C0.1
  have hb := C0.2.1
  have e1 : storeLocals lsA i (.int x) = some ls1 := e1
  jvm_step X0.here [X0.here.top, hexec, hb, d, e1]
  exact ⟨_, _, ⟨rfl, rfl⟩, ls1, e1, a⟩
theorem ge_after {p : Program} {l : Launch} {e : Env} {s : State} {m : MethodId} {args : Array Value} {below : List Frame} {meth : Method} {c : Code} {D : va_G} {dA : Nat → ClassId} {w0 : AW} {ad0 ad : Nat → Nat} {K : AO → AW → Prop} (C0 : Ok (p, l, e, s, m, args, below, meth, c) (D, dA, w0, ad0, K) M) {H : Heap} {locs : List Loc} {lsA : Array Slot} {st0 : List Value} {mc ms : Nat} {a : Array Value} {K2 : AO → AW → Prop}
    (h1 : AG w0.length ad0 w.length ad) (h2 : WH D dA ad w (va_A (cw dA ad0 w0) s.heap.size) H) (h3 : va_S (va_A (cw dA ad0 w0) s.heap.size) s.heap H locs) (h4 : LH lsA M.nL ls ad) (h5 : lsA[0]? = some (.val (.ref b0)))
    (hr : vx_Run p l e M.rm s m args below meth c H locs cs ss mc ms (F0 m pc lsA st0) (st.map (cv ad)) (QcB D dA ad w H.size K2 a) (XcB D dA ad w H.size K2) (va_A (cw dA ad w) H.size))
    (kk : ∀ (v : Option Value) (w' : AW), K2 (.inl v) w' → (w'.length = w.length ∨ (st.all (vOk w.length) = true ∧ lsOk w.length ls = true)) ∧ Ge b0 (p, l, e, s, m, args, below, meth, c) (D, dA, w0, ad0, K) M (pc + 3) ls (v.toList ++ st) w' (cs + mc) (ss + ms))
    (kx : ∀ (k : Nat) (w' : AW) (ad' : Nat → Nat) (H1 : Heap) (locs1 : List Loc) (q : Addr) (ce : Cell), K2 (.inr k) w' → AG w0.length ad0 w'.length ad' → AG w.length ad w'.length ad' → WH D dA ad' w' (va_A (cw dA ad0 w0) s.heap.size) H1 → va_S (va_A (cw dA ad0 w0) s.heap.size) s.heap H1 locs1 → H1[q]? = some ce → ce.vm = .none → s.vm.findClass (EXN k) = some ce.cls →
      vx_W p l e M.rm s m args below meth c H1 locs1 (cs + mc) (ss + ms) (vx_MQ below (QcB D dA ad0 w0 s.heap.size K) (XcB D dA ad0 w0 s.heap.size K) args s M.mc M.ms (va_A (cw dA ad0 w0) s.heap.size)) (F0 m pc lsA (st.map (cv ad))) q) :
    W p l e M.rm s m args below meth c H locs cs ss (vx_MQ below (QcB D dA ad0 w0 s.heap.size K) (XcB D dA ad0 w0 s.heap.size K) args s M.mc M.ms (va_A (cw dA ad0 w0) s.heap.size)) (F0 m pc lsA st0) := by
  have hsub := A_sub h2 h3.1 (fun q h => Or.inr h)
  intro T hT X0
  rcases hr T hT X0 with ⟨v, st₀, t, T', L, h0, X', hL, e1, e2, ⟨v', w', ad', hv, hK, hAG, hWH, hF⟩, st1⟩ | ⟨q, st₀, t, T', L, E, ce, h0, X', hL, e1, e2, ⟨k, w', ad', rfl, hK, hAG, hWH, hF⟩, hce, hcv, hcl, st1⟩
  · cases hv
    obtain ⟨k1, k2, k3⟩ := vx_keep h0 e1 h3 (fun q _ h => hsub q h) hsub hL hF
    obtain ⟨hok, hG⟩ := kk v' w' hK
    have hcs : st.map (cv ad') = st.map (cv ad) ∧ LH lsA M.nL ls ad' := by
      rcases hok with hok | ⟨o1, o2⟩
      · rw [hAG.2.2 hok]; exact ⟨rfl, h4⟩
      · exact ⟨cvs_eq hAG.2.1 o1, h4.eq fun i v hv => cv_eq hAG.2.1 (by have := List.all_eq_true.mp o2 _ (List.mem_of_getElem? hv); exact this)⟩
    have g := hG ad' T'.heap (locs ++ L) lsA (h1.tr hAG) ⟨by rw [e1]; exact hWH.1, hWH.2.weaken fun _ _ _ h => hsub _ h⟩ k3 hcs.2 h5
    have e9 : (v'.toList ++ st).map (cv ad') = (v'.map (cv ad')).toList ++ st.map (cv ad) := by
      rw [List.map_append, hcs.1]; cases v' <;> rfl
    rw [e9] at g
    obtain ⟨t2, a1, b1⟩ := g T' rfl X'
    exact ⟨t2, st1 t2 a1, b1⟩
  · obtain ⟨k1, k2, k3⟩ := vx_keep h0 e1 h3 (fun q _ h => hsub q h) hsub hL hF
    obtain ⟨t2, a1, b1⟩ := kx k w' ad' T'.heap (locs ++ L) q ce hK (h1.tr hAG) hAG ⟨by rw [e1]; exact hWH.1, hWH.2.weaken fun _ _ _ h => hsub _ h⟩ k3 (by rw [e1]; exact hce) hcv hcl T' rfl X'
    exact ⟨t2, st1.trans a1, b1⟩
theorem ge_invI (C0 : Ok X S M) {M2 : MT} {idx n a : Nat} {As st0 : List Value} (d : decode M.code pc = .ok (.invokespecial idx, 3)) (hL : CI M.y.cls idx M2 n) (hst : st0 = As.reverse ++ .ref a :: st) (hn : As.length = n) (hR : RM M M2 cs ss) (hcat : (st.map fun v => v.category).sum ≤ 8)
    (hS : Snd M2 (.ref a :: As) w (fun o w' => match o with | .inl v => Afe b0 X S M pc ls st w cs ss M2.mc M2.ms (.inl v) w' | .inr _ => False)) : Ge b0 X S M pc ls st0 w cs ss := by
  obtain ⟨p, l, e, s, m, args, below, meth, c⟩ := X
  obtain ⟨D, dA, w0, ad0, K⟩ := S
  have D0 := C0
  obtain ⟨c1, c2, c3, c4, c5, c6, c7, c8, c9, c10, c11, c12, c13⟩ := D0
  obtain ⟨hB, hh2, hrt, hnm, hin⟩ := hL
  intro ad H locs lsA h1 h2 h3 h4 h5
  subst hst
  obtain ⟨K2, hK2⟩ : ∃ K2 : AO → AW → Prop, K2 = (fun o w' => match o with | .inl v => Afe b0 (p, l, e, s, m, args, below, meth, c) (D, dA, w0, ad0, K) M pc ls st w cs ss M2.mc M2.ms (.inl v) w' | .inr _ => False) := ⟨_, rfl⟩
  rw [← hK2] at hS
  have hM := Met_of (hS l c10 D dA ad H.size) (fun E st t ⟨k, w', ad', _, hk, _⟩ => by rw [hK2] at hk; exact hk)
  have hr : va_Run p l e M.rm s m args below meth c H locs cs ss M2.mc M2.ms (F0 m pc lsA ((As.reverse ++ .ref a :: st).map (cv ad))) (st.map (cv ad)) (QcB D dA ad w H.size K2 (Value.ref (ad a) :: As.map (cv ad)).toArray) (va_A (cw dA ad w) H.size) := va_runI (As := As.map (cv ad)) (rest := st.map (cv ad)) (g := F0 m pc lsA ((As.reverse ++ .ref a :: st).map (cv ad))) ⟨c1, c2, c4, c5, c6⟩ hM ⟨by have := callBx c6 hB hh2 hR; rw [hrt] at this; exact this, hnm, c6 _ hin⟩
    ⟨FB, fun U hU hW => ⟨rfl, PcB_at C0 h2 h3 U hU hW⟩⟩ rfl (by rw [List.length_map]; exact hn) h4.1 (by simp only [List.map_append, List.map_reverse, List.map_cons, cv]) (lv_room (by rw [cats_cv]; exact hcat)) d ⟨hR.2.2.1, hR.2.2.2⟩
  refine ge_after (K2 := K2) (mc := M2.mc) (ms := M2.ms) (a := (Value.ref (ad a) :: As.map (cv ad)).toArray) C0 h1 h2 h3 h4 h5 (fun T hT X0 => Or.inl (hr T hT X0)) (fun v w' h => by rw [hK2] at h; exact h) (fun k w' ad' H1 locs1 q ce hK => by rw [hK2] at hK; exact hK.elim)
theorem ge_w {w2 : AW} (h : w = w2) (k : Ge b0 X S M pc ls st w2 cs ss) : Ge b0 X S M pc ls st w cs ss := h ▸ k
theorem ge_widen {cs2 ss2 : Nat} (h1 : cs ≤ cs2) (h2 : ss ≤ ss2) (k : Ge b0 X S M pc ls st w cs2 ss2) : Ge b0 X S M pc ls st w cs ss := by
  obtain ⟨p, l, e, s, m, args, below, meth, c⟩ := X
  obtain ⟨D, dA, w0, ad0, K⟩ := S
  intro ad H locs lsA a1 a2 a3 a4 a5
  exact W.widen h1 h2 (k ad H locs lsA a1 a2 a3 a4 a5)
end GE

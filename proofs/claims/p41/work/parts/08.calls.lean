section GC
variable {X : CX} {S : SX} {M : MT} {pc : Nat} {ls : List (Option Value)} {st : List Value} {w : AW} {cs ss : Nat}
theorem MT.cwd_nil {M : MT} (h : M.hh = []) : M.cwd = .code M.y M.code M.nL M.ret := by
  unfold MT.cwd; rw [h]
theorem MT.cwd_cons {M : MT} {q : Nat × Nat × Nat × Nat} {t : List (Nat × Nat × Nat × Nat)} (h : M.hh = q :: t) : M.cwd = .codeWith M.y M.code M.nL M.ret M.hh := by
  unfold MT.cwd; rw [h]
/-- from the method's body to the method -/
theorem Snd.of {av : List Value} {K : AO → AW → Prop} (hy : plainName M.y.cls = true) (hl : av.length ≤ M.nL) (hc : av.all (fun v => decide (v.category = 1)) = true) (hh : M.hh = [])
    (body : ∀ (X : CX) (D : va_G) (dA : Nat → ClassId) (ad : Nat → Nat), Ok X (D, dA, w, ad, K) M → Gd X (D, dA, w, ad, K) M 0 (av.map some ++ List.replicate (M.nL - av.length) none) [] w 0 0) : Snd M av w K := by
  intro l hlt D dA ad sz
  refine vx_ofW (cc := M.code) (maxL := M.nL) (ret := M.ret) hy (ws' := WL) (by unfold MT.ws; rw [MT.cwd_nil hh]) ?_
  intro p e s m args below meth c s₁ B hml ht hv
  obtain ⟨rfl, rfl, hWH, hK, hSZ, hST⟩ := hv
  have hts := atoms_spec (ws := M.ws) B.pre
  have C0 : Ok (p, l, e, s, m, (av.map (cv ad)).toArray, below, meth, c) (D, dA, w, ad, K) M := by
    refine ⟨B.exec, B.bytes, B.returns, hml, findClass_of_methodNamed B.named, fun x hx => hts x (List.mem_cons_of_mem _ hx), hK, hSZ, hST, hlt, B.notSynchronized, (name_of_methodNamed B.named B.method).1, ?_⟩
    rw [hh]
    show c.exceptionTable.toList = []
    exact List.eq_nil_iff_forall_not_mem.mpr fun x hx => ht x hx
  have hcat : ∀ v ∈ av.map (cv ad), v.category = 1 := fun v hv => by
    obtain ⟨u, hu, rfl⟩ := List.mem_map.mp hv
    rw [cv_cat]
    exact of_decide_eq_true (List.all_eq_true.mp hc u hu)
  have hsl : ∀ l : List Value, (∀ v ∈ l, v.category = 1) → lg_sl l = l.map Slot.val := by
    intro l
    induction l with
    | nil => intro _; rfl
    | cons a t ih =>
      intro h
      have h1 := h a List.mem_cons_self
      simp only [lg_sl, List.flatMap_cons, h1, if_neg (by decide : ¬ 1 = 2)]
      have := ih fun v hv => h v (List.mem_cons_of_mem _ hv)
      simp only [lg_sl] at this
      rw [this]; rfl
  have e1 := hsl _ hcat
  have hl2 := lv_entry (av.map (cv ad)) (n := M.nL) (by rw [e1]; simpa using hl)
  rw [lg_entry_eq]
  have har : ∀ (l : List Value) (k : Nat), (∀ v ∈ l, v.category = 1) → ∀ (i : Nat) (v : Value), l[i]? = some v → (k + i, v) ∈ lv_args k l := by
    intro l
    induction l with
    | nil => intro k _ i v h; simp at h
    | cons a t ih =>
      intro k h i v hi
      have h1 := h a List.mem_cons_self
      unfold lv_args
      rw [h1]
      cases i with
      | zero => simp only [List.getElem?_cons_zero, Option.some.injEq] at hi; subst hi; exact List.mem_cons_self
      | succ i =>
        rw [List.getElem?_cons_succ] at hi
        have := ih (k + 1) (fun v hv => h v (List.mem_cons_of_mem _ hv)) i v hi
        refine List.mem_cons_of_mem _ ?_
        rw [show k + (i + 1) = k + 1 + i by omega]
        exact this
  refine body _ D dA ad C0 ad s.heap [] _ AG.rf ⟨hWH.1, hWH.2.self⟩ va_S.rf ⟨hl2.1, hl2.2.1, by simp; omega, fun i v hi => ?_⟩
  by_cases hi2 : i < av.length
  · rw [List.getElem?_append_left (by simpa using hi2), List.getElem?_map] at hi
    obtain ⟨u, hu, hv⟩ := Option.map_eq_some_iff.mp hi
    cases hv
    refine ⟨hl2.2.2 (i, cv ad v) ?_, of_decide_eq_true (List.all_eq_true.mp hc v (List.mem_of_getElem? hu))⟩
    have := har (av.map (cv ad)) 0 hcat i (cv ad v) (by rw [List.getElem?_map, hu]; rfl)
    rwa [Nat.zero_add] at this
  · rw [List.getElem?_append_right (by simpa using hi2)] at hi
    have := List.eq_of_mem_replicate (List.mem_of_getElem? hi)
    cases this
theorem FB {av : List Value} {D : va_G} {dA : Nat → ClassId} {ad : Nat → Nat} {sz : Nat} : FrameBlind (va_Pc av (PcB D dA ad w sz)) := by
  intro a U g mk h
  obtain ⟨h1, h2, h3, h4, h5, h6⟩ := h
  refine ⟨h1, h2, h3, va_K.moved (u := U) (U := U.calling g mk a) (Vm.Alike.refl U.vm) h4, SZ.moved (u := U) (Vm.Alike.refl U.vm) h5, ?_⟩
  exact ⟨fun q hq => (h6.1 q hq).elim fun x hx => ⟨x, vk_R.same (u := U) rfl hx⟩, fun x hx => va_Nw.same (u := U) (isBD_tabs (List.mem_filter.mp hx).2) rfl (h6.2.1 x hx), fun i j hi hj hij => h6.2.2 i j hi hj hij⟩
/-- what a frame's world gives to a callee -/
theorem PcB_at {p : Program} {l : Launch} {e : Env} {s : State} {m : MethodId} {args : Array Value} {below : List Frame} {meth : Method} {c : Code} {D : va_G} {dA : Nat → ClassId} {w0 : AW} {ad0 ad : Nat → Nat} {K : AO → AW → Prop} (C0 : Ok (p, l, e, s, m, args, below, meth, c) (D, dA, w0, ad0, K) M) {H : Heap} {locs : List Loc}
    (h2 : WH D dA ad w (va_A (cw dA ad0 w0) s.heap.size) H) (h3 : va_S (va_A (cw dA ad0 w0) s.heap.size) s.heap H locs) (U : State) (hU : U.heap = H) (hW : s.WarmedH U.vm) : PcB D dA ad w H.size U := by
  obtain ⟨c1, c2, c3, c4, c5, c6, c7, c8, c9, c10, c11, c12, c13⟩ := C0
  refine ⟨by rw [hU], by rw [hU]; exact ⟨h2.1, h2.2.weaken fun _ _ _ _ => trivial⟩, va_K.moved hW.alike c7, ?_, c9.warm hW⟩
  rw [hU]
  refine (SZ.moved hW.alike (c8.kept h3.2.1)).narrow fun q hq => ?_
  rcases hq with ⟨k, e9, hk⟩ | hq
  · exact h2.2.2 k _ hk
  · exact Or.inr (Nat.le_trans h3.1 hq)
theorem A_sub {D : va_G} {dA : Nat → ClassId} {ad : Nat → Nat} {A : Nat → Prop} {H H0 : Heap} (h2 : WH D dA ad w A H) (hz : H0.size ≤ H.size) (hA : ∀ q, H0.size ≤ q → A q) : ∀ q, va_A (cw dA ad w) H.size q → A q := by
  intro q hq
  rcases hq with ⟨k, e9, hk⟩ | hq
  · exact h2.2.2 k _ hk
  · exact hA q (Nat.le_trans hz hq)
/-- behind a call -/
theorem g_after {p : Program} {l : Launch} {e : Env} {s : State} {m : MethodId} {args : Array Value} {below : List Frame} {meth : Method} {c : Code} {D : va_G} {dA : Nat → ClassId} {w0 : AW} {ad0 ad : Nat → Nat} {K : AO → AW → Prop} (C0 : Ok (p, l, e, s, m, args, below, meth, c) (D, dA, w0, ad0, K) M) {H : Heap} {locs : List Loc} {lsA : Array Slot} {st0 : List Value} {mc ms : Nat} {a : Array Value} {K2 : AO → AW → Prop}
    (h1 : AG w0.length ad0 w.length ad) (h2 : WH D dA ad w (va_A (cw dA ad0 w0) s.heap.size) H) (h3 : va_S (va_A (cw dA ad0 w0) s.heap.size) s.heap H locs) (h4 : LH lsA M.nL ls ad)
    (hr : vx_Run p l e M.rm s m args below meth c H locs cs ss mc ms (F0 m pc lsA st0) (st.map (cv ad)) (QcB D dA ad w H.size K2 a) (XcB D dA ad w H.size K2) (va_A (cw dA ad w) H.size))
    (kk : ∀ (v : Option Value) (w' : AW), K2 (.inl v) w' → (w'.length = w.length ∨ (st.all (vOk w.length) = true ∧ lsOk w.length ls = true)) ∧ Gd (p, l, e, s, m, args, below, meth, c) (D, dA, w0, ad0, K) M (pc + 3) ls (v.toList ++ st) w' (cs + mc) (ss + ms))
    (kx : ∀ (k : Nat) (w' : AW) (ad' : Nat → Nat) (H1 : Heap) (locs1 : List Loc) (q : Addr) (ce : Cell), K2 (.inr k) w' → AG w0.length ad0 w'.length ad' → AG w.length ad w'.length ad' → WH D dA ad' w' (va_A (cw dA ad0 w0) s.heap.size) H1 → va_S (va_A (cw dA ad0 w0) s.heap.size) s.heap H1 locs1 → H1[q]? = some ce → ce.vm = .none → s.vm.findClass (EXN k) = some ce.cls →
      vx_W p l e M.rm s m args below meth c H1 locs1 (cs + mc) (ss + ms) (vx_MQ below (QcB D dA ad0 w0 s.heap.size K) (XcB D dA ad0 w0 s.heap.size K) args s M.mc M.ms (va_A (cw dA ad0 w0) s.heap.size)) (F0 m pc lsA (st.map (cv ad))) q) :
    W p l e M.rm s m args below meth c H locs cs ss (vx_MQ below (QcB D dA ad0 w0 s.heap.size K) (XcB D dA ad0 w0 s.heap.size K) args s M.mc M.ms (va_A (cw dA ad0 w0) s.heap.size)) (F0 m pc lsA st0) := by
  have hsub := A_sub h2 h3.1 (fun q h => Or.inr h)
  intro T hT X0
  rcases hr T hT X0 with ⟨v, st₀, t, T', L, h0, X', hL, e1, e2, ⟨v', w', ad', hv, hK, hAG, hWH, hF⟩, st1⟩ | ⟨q, st₀, t, T', L, E, ce, h0, X', hL, e1, e2, ⟨k, w', ad', rfl, hK, hAG, hWH, hF⟩, hce, hcv, hcl, st1⟩
  · cases hv
    obtain ⟨k1, k2, k3⟩ := vx_keep h0 e1 h3 (fun q _ h => hsub q h) hsub hL hF
    obtain ⟨hok, hG⟩ := kk v' w' hK
    have hcs : st.map (cv ad') = st.map (cv ad) ∧ LH lsA M.nL ls ad' := by
      rcases hok with hok | ⟨o1, o2⟩
      · rw [hAG.2.2 hok]; exact ⟨rfl, h4⟩
      · exact ⟨cvs_eq hAG.2.1 o1, h4.eq fun i v hv => cv_eq hAG.2.1 (by have := List.all_eq_true.mp o2 _ (List.mem_of_getElem? hv); exact this)⟩
    have g := hG ad' T'.heap (locs ++ L) lsA (h1.tr hAG) ⟨by rw [e1]; exact hWH.1, hWH.2.weaken fun _ _ _ h => hsub _ h⟩ k3 hcs.2
    have e9 : (v'.toList ++ st).map (cv ad') = (v'.map (cv ad')).toList ++ st.map (cv ad) := by
      rw [List.map_append, hcs.1]; cases v' <;> rfl
    rw [e9] at g
    obtain ⟨t2, a1, b1⟩ := g T' rfl X'
    exact ⟨t2, st1 t2 a1, b1⟩
  · obtain ⟨k1, k2, k3⟩ := vx_keep h0 e1 h3 (fun q _ h => hsub q h) hsub hL hF
    obtain ⟨t2, a1, b1⟩ := kx k w' ad' T'.heap (locs ++ L) q ce hK (h1.tr hAG) hAG ⟨by rw [e1]; exact hWH.1, hWH.2.weaken fun _ _ _ h => hsub _ h⟩ k3 (by rw [e1]; exact hce) hcv hcl T' rfl X'
    exact ⟨t2, st1.trans a1, b1⟩
/-- a throw that this method doesn't catch -/
theorem g_out {p : Program} {l : Launch} {e : Env} {s : State} {m : MethodId} {args : Array Value} {below : List Frame} {meth : Method} {c : Code} {D : va_G} {dA : Nat → ClassId} {w0 : AW} {ad0 ad : Nat → Nat} {K : AO → AW → Prop} (C0 : Ok (p, l, e, s, m, args, below, meth, c) (D, dA, w0, ad0, K) M) (hh : M.hh = []) {H : Heap} {locs : List Loc} {lsA : Array Slot} {st0 : List Value} {k : Nat} {q : Addr} {ce : Cell}
    (h1 : AG w0.length ad0 w.length ad) (h2 : WH D dA ad w (va_A (cw dA ad0 w0) s.heap.size) H) (h3 : va_S (va_A (cw dA ad0 w0) s.heap.size) s.heap H locs) (hK : K (.inr k) w) (hcell : H[q]? = some ce) (hv : ce.vm = .none) (hcl : s.vm.findClass (EXN k) = some ce.cls) (hc : cs ≤ M.mc) (hs : ss ≤ M.ms) :
    vx_W p l e M.rm s m args below meth c H locs cs ss (vx_MQ below (QcB D dA ad0 w0 s.heap.size K) (XcB D dA ad0 w0 s.heap.size K) args s M.mc M.ms (va_A (cw dA ad0 w0) s.heap.size)) (F0 m pc lsA st0) q := by
  have hno := noTable C0 hh
  exact vx_out (fun x hx => (hno x hx).elim) C0.2.2.2.2.2.2.2.2.2.2.1 hcell hv hcl (fun t ht hA => XcB_thrown h1 h2 h3 hK t (by rw [ht]; exact Nat.le_refl _) (fun q _ => by rw [ht])) h3.2.2 hc hs
/-- a call's words -/
def CB (own : String) (idx : Nat) (M2 : MT) (n : Nat) : Prop := Cond.methodLink own idx M2.y ∈ WL ∧ Cond.initialized M2.y.cls ∈ WL ∧ M2.cwd ∈ WL ∧ (M2.y.cls ≠ "java/lang/invoke/MethodHandle" ∧ M2.y.cls ≠ "java/lang/invoke/VarHandle") ∧ (parseMethodDescriptor M2.y.desc).map (fun d => d.parameters.length) = some n
def CV (own : String) (idx : Nat) (M2 : MT) (ci n : Nat) : Prop := CB own idx M2 n ∧ M2.hh = [] ∧ (CL[ci]?.map fun q => q.1) = some M2.y.cls ∧ Cond.instanceMethod M2.y ∈ WL ∧ Cond.selects M2.y.cls M2.y M2.y ∈ WL
def CS (own : String) (idx : Nat) (M2 : MT) (n : Nat) : Prop := CB own idx M2 n ∧ M2.hh = [] ∧ Cond.static M2.y ∈ WL
def CI (own : String) (idx : Nat) (M2 : MT) (n : Nat) : Prop := CB own idx M2 n ∧ M2.hh = [] ∧ M2.ret = none ∧ M2.y.name = "<init>" ∧ Cond.instanceMethod M2.y ∈ WL
/-- the room for a callee -/
def RM (M M2 : MT) (cs ss : Nat) : Prop := M2.fr + 1 ≤ M.fr ∧ 8 + (M2.nL + 11) + M2.lo ≤ M.lo ∧ cs + M2.mc ≤ M.mc ∧ ss + M2.ms ≤ M.ms
/-- what the frame goes on with behind a call -/
def Aft (X : CX) (S : SX) (M : MT) (pc : Nat) (ls : List (Option Value)) (st : List Value) (w : AW) (cs ss mc ms : Nat) : AO → AW → Prop := fun o w' => match o with
  | .inl v => (w'.length = w.length ∨ (st.all (vOk w.length) = true ∧ lsOk w.length ls = true)) ∧ Gd X S M (pc + 3) ls (v.toList ++ st) w' (cs + mc) (ss + ms)
  | .inr k => SK S (.inr k) w'
theorem callBx {own : String} {idx n : Nat} {M2 : MT} {s : State} {args : Array Value} (h6 : ∀ x ∈ WL, x.before args s = true) (hB : CB own idx M2 n) (hh : M2.hh = []) (hR : RM M M2 cs ss) : CallB M.rm s args own idx M2.y M2.code M2.nL M2.ret M2.ws M2.rm M2.mc M2.ms n := by
  obtain ⟨b1, b2, b3, b4, b5⟩ := hB
  have hG : GoodIn WL M2.ws := fun x hx => (List.mem_cons.mp hx).elim (fun e => by rw [e]; exact ⟨b3, WL_good b3⟩) (fun h => ⟨h, WL_good h⟩)
  have hcw := MT.cwd_nil hh
  refine ⟨rfl, rfl, hR.1, hR.2.1, pay_in h6 hG, by unfold MT.ws; rw [hcw]; exact List.mem_cons_self, by rw [← hcw]; exact h6 _ b3, h6 _ b2, b4, fun sig hs => ?_, h6 _ b1⟩
  rw [hs] at b5
  exact (Option.some.inj b5).symm
theorem g_invV (C0 : Ok X S M) {M2 : MT} {idx n a ci : Nat} {fs : List Value} {As st0 : List Value} (d : decode M.code pc = .ok (.invokevirtual idx, 3)) (hL : CV M.y.cls idx M2 ci n) (hh : M.hh = []) (hst : st0 = As.reverse ++ .ref a :: st) (hw : w[a]? = some (.inr (ci, fs))) (hn : As.length = n) (hR : RM M M2 cs ss) (hcat : (st.map fun v => v.category).sum ≤ 8)
    (hS : Snd M2 (.ref a :: As) w (Aft X S M pc ls st w cs ss M2.mc M2.ms)) : Gd X S M pc ls st0 w cs ss := by
  obtain ⟨p, l, e, s, m, args, below, meth, c⟩ := X
  obtain ⟨D, dA, w0, ad0, K⟩ := S
  have D0 := C0
  obtain ⟨c1, c2, c3, c4, c5, c6, c7, c8, c9, c10, c11, c12, c13⟩ := D0
  obtain ⟨hB, hh2, hci, hin, hse⟩ := hL
  intro ad H locs lsA h1 h2 h3 h4
  subst hst
  have hr : vx_Run p l e M.rm s m args below meth c H locs cs ss M2.mc M2.ms (F0 m pc lsA ((As.reverse ++ .ref a :: st).map (cv ad))) (st.map (cv ad)) (QcB D dA ad w H.size (Aft (p, l, e, s, m, args, below, meth, c) (D, dA, w0, ad0, K) M pc ls st w cs ss M2.mc M2.ms) (Value.ref (ad a) :: As.map (cv ad)).toArray) (XcB D dA ad w H.size (Aft (p, l, e, s, m, args, below, meth, c) (D, dA, w0, ad0, K) M pc ls st w cs ss M2.mc M2.ms)) (va_A (cw dA ad w) H.size) := vx_runV (As := As.map (cv ad)) (rest := st.map (cv ad)) (g := F0 m pc lsA ((As.reverse ++ .ref a :: st).map (cv ad))) ⟨c1, c2, c4, c5, c6⟩ (hS l c10 D dA ad H.size) ⟨callBx c6 hB hh2 hR, c6 _ hin, c6 _ hse⟩
    ⟨FB, (by
      obtain ⟨q, hq⟩ := Option.map_eq_some_iff.mp hci
      have := va_recv c7 h2.1 hq.1 (cw_get hw)
      rw [hq.2] at this
      exact this), fun U hU hW => ⟨rfl, PcB_at C0 h2 h3 U hU hW⟩⟩ rfl (by rw [List.length_map]; exact hn) h4.1 (by simp only [List.map_append, List.map_reverse, List.map_cons, cv]) (lv_room (by rw [cats_cv]; exact hcat)) d ⟨hR.2.2.1, hR.2.2.2⟩
  refine g_after C0 h1 h2 h3 h4 hr (fun v w' h => h) (fun k w' ad' H1 locs1 q ce hK hA _ hWH hS9 hq hv hcl => ?_)
  exact g_out C0 hh hA hWH hS9 hK hq hv hcl hR.2.2.1 hR.2.2.2
theorem g_invS (C0 : Ok X S M) {M2 : MT} {idx n : Nat} {As st0 : List Value} (d : decode M.code pc = .ok (.invokestatic idx, 3)) (hL : CS M.y.cls idx M2 n) (hh : M.hh = []) (hst : st0 = As.reverse ++ st) (hn : As.length = n) (hR : RM M M2 cs ss) (hcat : (st.map fun v => v.category).sum ≤ 8)
    (hS : Snd M2 As w (Aft X S M pc ls st w cs ss M2.mc M2.ms)) : Gd X S M pc ls st0 w cs ss := by
  obtain ⟨p, l, e, s, m, args, below, meth, c⟩ := X
  obtain ⟨D, dA, w0, ad0, K⟩ := S
  have D0 := C0
  obtain ⟨c1, c2, c3, c4, c5, c6, c7, c8, c9, c10, c11, c12, c13⟩ := D0
  obtain ⟨hB, hh2, hstt⟩ := hL
  intro ad H locs lsA h1 h2 h3 h4
  subst hst
  have hr : vx_Run p l e M.rm s m args below meth c H locs cs ss M2.mc M2.ms (F0 m pc lsA ((As.reverse ++ st).map (cv ad))) (st.map (cv ad)) (QcB D dA ad w H.size (Aft (p, l, e, s, m, args, below, meth, c) (D, dA, w0, ad0, K) M pc ls st w cs ss M2.mc M2.ms) (As.map (cv ad)).toArray) (XcB D dA ad w H.size (Aft (p, l, e, s, m, args, below, meth, c) (D, dA, w0, ad0, K) M pc ls st w cs ss M2.mc M2.ms)) (va_A (cw dA ad w) H.size) := vx_runS (As := As.map (cv ad)) (rest := st.map (cv ad)) (g := F0 m pc lsA ((As.reverse ++ st).map (cv ad))) ⟨c1, c2, c4, c5, c6⟩ (hS l c10 D dA ad H.size) ⟨callBx c6 hB hh2 hR, c6 _ hstt⟩
    ⟨FB, fun U hU hW => ⟨rfl, PcB_at C0 h2 h3 U hU hW⟩⟩ rfl (by rw [List.length_map]; exact hn) h4.1 (by simp only [List.map_append, List.map_reverse]) (lv_room (by rw [cats_cv]; exact hcat)) d ⟨hR.2.2.1, hR.2.2.2⟩
  refine g_after C0 h1 h2 h3 h4 hr (fun v w' h => h) (fun k w' ad' H1 locs1 q ce hK hA _ hWH hS9 hq hv hcl => ?_)
  exact g_out C0 hh hA hWH hS9 hK hq hv hcl hR.2.2.1 hR.2.2.2
/-- a method that never throws, as the kit has it -/
theorem Met_of {l : Launch} {y : MethodName} {ws : List Cond} {rm : Room} {Pc : Array Value → State → Prop} {Qc : Array Value → State → Outcome → State → Prop} {XC : String → State → State → Prop} {mc ms : Nat} {free : Addr → Prop} (h : vx_Met l y ws rm Pc Qc XC mc ms free) (hx : ∀ E st t, XC E st t → False) : Met l y ws rm Pc Qc mc ms free := by
  intro p e ha hc hk s m args below hf happ hP hK
  obtain ⟨n, o, h1, h2, h3, h4⟩ := h p e ha hc hk s m args below hf happ hP hK
  refine ⟨n, o, h1, h2, h3, ?_⟩
  rcases h4 with h4 | ⟨q, -, E, ce, L, h5, -⟩
  · exact h4
  · exact (hx _ _ _ h5).elim
theorem g_invI (C0 : Ok X S M) {M2 : MT} {idx n a : Nat} {As st0 : List Value} (d : decode M.code pc = .ok (.invokespecial idx, 3)) (hL : CI M.y.cls idx M2 n) (hst : st0 = As.reverse ++ .ref a :: st) (hn : As.length = n) (hR : RM M M2 cs ss) (hcat : (st.map fun v => v.category).sum ≤ 8)
    (hS : Snd M2 (.ref a :: As) w (fun o w' => match o with | .inl v => Aft X S M pc ls st w cs ss M2.mc M2.ms (.inl v) w' | .inr _ => False)) : Gd X S M pc ls st0 w cs ss := by
  obtain ⟨p, l, e, s, m, args, below, meth, c⟩ := X
  obtain ⟨D, dA, w0, ad0, K⟩ := S
  have D0 := C0
  obtain ⟨c1, c2, c3, c4, c5, c6, c7, c8, c9, c10, c11, c12, c13⟩ := D0
  obtain ⟨hB, hh2, hrt, hnm, hin⟩ := hL
  intro ad H locs lsA h1 h2 h3 h4
  subst hst
  obtain ⟨K2, hK2⟩ : ∃ K2 : AO → AW → Prop, K2 = (fun o w' => match o with | .inl v => Aft (p, l, e, s, m, args, below, meth, c) (D, dA, w0, ad0, K) M pc ls st w cs ss M2.mc M2.ms (.inl v) w' | .inr _ => False) := ⟨_, rfl⟩
  rw [← hK2] at hS
  have hM := Met_of (hS l c10 D dA ad H.size) (fun E st t ⟨k, w', ad', _, hk, _⟩ => by rw [hK2] at hk; exact hk)
  have hr : va_Run p l e M.rm s m args below meth c H locs cs ss M2.mc M2.ms (F0 m pc lsA ((As.reverse ++ .ref a :: st).map (cv ad))) (st.map (cv ad)) (QcB D dA ad w H.size K2 (Value.ref (ad a) :: As.map (cv ad)).toArray) (va_A (cw dA ad w) H.size) := va_runI (As := As.map (cv ad)) (rest := st.map (cv ad)) (g := F0 m pc lsA ((As.reverse ++ .ref a :: st).map (cv ad))) ⟨c1, c2, c4, c5, c6⟩ hM ⟨by have := callBx c6 hB hh2 hR; rw [hrt] at this; exact this, hnm, c6 _ hin⟩
    ⟨FB, fun U hU hW => ⟨rfl, PcB_at C0 h2 h3 U hU hW⟩⟩ rfl (by rw [List.length_map]; exact hn) h4.1 (by simp only [List.map_append, List.map_reverse, List.map_cons, cv]) (lv_room (by rw [cats_cv]; exact hcat)) d ⟨hR.2.2.1, hR.2.2.2⟩
  refine g_after (K2 := K2) (mc := M2.mc) (ms := M2.ms) (a := (Value.ref (ad a) :: As.map (cv ad)).toArray) C0 h1 h2 h3 h4 (fun T hT X0 => Or.inl (hr T hT X0)) (fun v w' h => by rw [hK2] at h; exact h) (fun k w' ad' H1 locs1 q ce hK => by rw [hK2] at hK; exact hK.elim)
end GC

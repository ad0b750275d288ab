section GR
variable {X : CX} {S : SX} {M : MT} {pc : Nat} {ls : List (Option Value)} {st : List Value} {w : AW} {cs ss : Nat}
theorem LH.set {lsA : Array Slot} {nL : Nat} {ls : List (Option Value)} {ad : Nat → Nat} (h : LH lsA nL ls ad) {i : Nat} {v : Value} (hi : i < nL) (hc : v.category = 1) : ∃ ls', storeLocals lsA i (cv ad v) = some ls' ∧ LH ls' nL (ls.set i (some v)) ad := by
  obtain ⟨h1, h2, h3, h4⟩ := h
  have hh : lv_has lsA nL ((List.range nL).filterMap fun j => match ls[j]? with | some (some u) => some (j, cv ad u) | _ => none) := by
    refine ⟨h1, h2, fun q hq => ?_⟩
    obtain ⟨j, -, hj⟩ := List.mem_filterMap.mp hq
    cases hx : ls[j]? with
    | none => rw [hx] at hj; cases hj
    | some o =>
      cases o with
      | none => rw [hx] at hj; cases hj
      | some u => rw [hx] at hj; cases hj; exact (h4 j u hx).1
  obtain ⟨ls', e1, e2, e3, e4⟩ := lv_store1 hh hi (v := cv ad v) (by rw [cv_cat]; exact hc)
  refine ⟨ls', e1, e2, e3, by simpa using h3, fun j u hu => ?_⟩
  by_cases hj : j = i
  · subst hj
    rw [List.getElem?_set_self (by omega)] at hu
    cases hu
    exact ⟨e4 _ List.mem_cons_self, hc⟩
  · rw [List.getElem?_set_ne (Ne.symm hj)] at hu
    have hk := h4 j u hu
    refine ⟨e4 (j, cv ad u) (List.mem_cons_of_mem _ (List.mem_filter.mpr ⟨List.mem_filterMap.mpr ⟨j, List.mem_range.mpr (by have := (List.getElem?_eq_some_iff.mp hu).1; omega), by rw [hu]⟩, ?_⟩)), hk.2⟩
    have hcu : ¬ (cv ad u).category = 2 := by rw [cv_cat]; omega
    simp [hj, hcu]
theorem LH.eq {lsA : Array Slot} {nL : Nat} {ls : List (Option Value)} {ad ad' : Nat → Nat} (h : LH lsA nL ls ad) (he : ∀ (i : Nat) (v : Value), ls[i]? = some (some v) → cv ad' v = cv ad v) : LH lsA nL ls ad' := ⟨h.1, h.2.1, h.2.2.1, fun i v hv => ⟨by rw [he i v hv]; exact (h.2.2.2 i v hv).1, (h.2.2.2 i v hv).2⟩⟩
theorem g_iconst (C0 : Ok X S M) {n : Int} {v : Int32} (d : decode M.code pc = .ok (.iconst n, 1)) (hv : Int32.ofInt n = v) (k : Gd X S M (pc + 1) ls (.int v :: st) w cs ss) : Gd X S M pc ls (st) w cs ss := by
  obtain ⟨p, l, e, s, m, args, below, meth, c⟩ := X
  obtain ⟨D, dA, w0, ad0, K⟩ := S
  intro ad H locs lsA h1 h2 h3 h4
  exact lv_iconst C0.1 C0.2.1 d hv (k ad H locs lsA h1 h2 h3 h4)
theorem g_bipush (C0 : Ok X S M) {n : Int} {v : Int32} (d : decode M.code pc = .ok (.bipush n, 2)) (hv : (Int8.ofInt n).toInt32 = v) (k : Gd X S M (pc + 2) ls (.int v :: st) w cs ss) : Gd X S M pc ls (st) w cs ss := by
  obtain ⟨p, l, e, s, m, args, below, meth, c⟩ := X
  obtain ⟨D, dA, w0, ad0, K⟩ := S
  intro ad H locs lsA h1 h2 h3 h4
  exact lv_bipush C0.1 C0.2.1 d hv (k ad H locs lsA h1 h2 h3 h4)
theorem g_sipush (C0 : Ok X S M) {n : Int} {v : Int32} (d : decode M.code pc = .ok (.sipush n, 3)) (hv : (Int16.ofInt n).toInt32 = v) (k : Gd X S M (pc + 3) ls (.int v :: st) w cs ss) : Gd X S M pc ls (st) w cs ss := by
  obtain ⟨p, l, e, s, m, args, below, meth, c⟩ := X
  obtain ⟨D, dA, w0, ad0, K⟩ := S
  intro ad H locs lsA h1 h2 h3 h4
  exact lv_sipush C0.1 C0.2.1 d hv (k ad H locs lsA h1 h2 h3 h4)
theorem g_lconst (C0 : Ok X S M) {n : Fin 2} {v : Int64} (d : decode M.code pc = .ok (.lconst n, 1)) (hv : Int64.ofNat (n : Nat) = v) (k : Gd X S M (pc + 1) ls (.long v :: st) w cs ss) : Gd X S M pc ls (st) w cs ss := by
  obtain ⟨p, l, e, s, m, args, below, meth, c⟩ := X
  obtain ⟨D, dA, w0, ad0, K⟩ := S
  intro ad H locs lsA h1 h2 h3 h4
  exact lv_lconst C0.1 C0.2.1 d hv (k ad H locs lsA h1 h2 h3 h4)
theorem g_iload_n (C0 : Ok X S M) {k0 : Fin 4} {x : Int32} (d : decode M.code pc = .ok (.iload_n k0, 1)) (hl : ls[(k0 : Nat)]? = some (some (.int x))) (k : Gd X S M (pc + 1) ls (.int x :: st) w cs ss) : Gd X S M pc ls (st) w cs ss := by
  obtain ⟨p, l, e, s, m, args, below, meth, c⟩ := X
  obtain ⟨D, dA, w0, ad0, K⟩ := S
  intro ad H locs lsA h1 h2 h3 h4
  exact lv_iload_n C0.1 C0.2.1 d rfl (h4.2.2.2 _ _ hl).1 (k ad H locs lsA h1 h2 h3 h4)
theorem g_iload (C0 : Ok X S M) {i : Nat} {x : Int32} (d : decode M.code pc = .ok (.iload i, 2)) (hl : ls[i]? = some (some (.int x))) (k : Gd X S M (pc + 2) ls (.int x :: st) w cs ss) : Gd X S M pc ls (st) w cs ss := by
  obtain ⟨p, l, e, s, m, args, below, meth, c⟩ := X
  obtain ⟨D, dA, w0, ad0, K⟩ := S
  intro ad H locs lsA h1 h2 h3 h4
  exact lv_iload C0.1 C0.2.1 d (h4.2.2.2 _ _ hl).1 (k ad H locs lsA h1 h2 h3 h4)
theorem g_aload_n (C0 : Ok X S M) {k0 : Fin 4} {x : Nat} (d : decode M.code pc = .ok (.aload_n k0, 1)) (hl : ls[(k0 : Nat)]? = some (some (.ref x))) (k : Gd X S M (pc + 1) ls (.ref x :: st) w cs ss) : Gd X S M pc ls (st) w cs ss := by
  obtain ⟨p, l, e, s, m, args, below, meth, c⟩ := X
  obtain ⟨D, dA, w0, ad0, K⟩ := S
  intro ad H locs lsA h1 h2 h3 h4
  exact lv_aload_n C0.1 C0.2.1 d rfl (h4.2.2.2 _ _ hl).1 (k ad H locs lsA h1 h2 h3 h4)
theorem g_aload (C0 : Ok X S M) {i : Nat} {x : Nat} (d : decode M.code pc = .ok (.aload i, 2)) (hl : ls[i]? = some (some (.ref x))) (k : Gd X S M (pc + 2) ls (.ref x :: st) w cs ss) : Gd X S M pc ls (st) w cs ss := by
  obtain ⟨p, l, e, s, m, args, below, meth, c⟩ := X
  obtain ⟨D, dA, w0, ad0, K⟩ := S
  intro ad H locs lsA h1 h2 h3 h4
  exact lv_aload C0.1 C0.2.1 d (h4.2.2.2 _ _ hl).1 (k ad H locs lsA h1 h2 h3 h4)
theorem g_iadd (C0 : Ok X S M) {x y : Int32} (d : decode M.code pc = .ok (.iadd, 1)) (k : Gd X S M (pc + 1) ls (.int (x + y) :: st) w cs ss) : Gd X S M pc ls (.int y :: .int x :: st) w cs ss := by
  obtain ⟨p, l, e, s, m, args, below, meth, c⟩ := X
  obtain ⟨D, dA, w0, ad0, K⟩ := S
  intro ad H locs lsA h1 h2 h3 h4
  exact lv_iadd C0.1 C0.2.1 d (k ad H locs lsA h1 h2 h3 h4)
theorem g_isub (C0 : Ok X S M) {x y : Int32} (d : decode M.code pc = .ok (.isub, 1)) (k : Gd X S M (pc + 1) ls (.int (x - y) :: st) w cs ss) : Gd X S M pc ls (.int y :: .int x :: st) w cs ss := by
  obtain ⟨p, l, e, s, m, args, below, meth, c⟩ := X
  obtain ⟨D, dA, w0, ad0, K⟩ := S
  intro ad H locs lsA h1 h2 h3 h4
  exact lv_isub C0.1 C0.2.1 d (k ad H locs lsA h1 h2 h3 h4)
theorem g_imul (C0 : Ok X S M) {x y : Int32} (d : decode M.code pc = .ok (.imul, 1)) (k : Gd X S M (pc + 1) ls (.int (x * y) :: st) w cs ss) : Gd X S M pc ls (.int y :: .int x :: st) w cs ss := by
  obtain ⟨p, l, e, s, m, args, below, meth, c⟩ := X
  obtain ⟨D, dA, w0, ad0, K⟩ := S
  intro ad H locs lsA h1 h2 h3 h4
  exact lv_imul C0.1 C0.2.1 d (k ad H locs lsA h1 h2 h3 h4)
theorem g_iand (C0 : Ok X S M) {x y : Int32} (d : decode M.code pc = .ok (.iand, 1)) (k : Gd X S M (pc + 1) ls (.int (x &&& y) :: st) w cs ss) : Gd X S M pc ls (.int y :: .int x :: st) w cs ss := by
  obtain ⟨p, l, e, s, m, args, below, meth, c⟩ := X
  obtain ⟨D, dA, w0, ad0, K⟩ := S
  intro ad H locs lsA h1 h2 h3 h4
  exact lv_iand C0.1 C0.2.1 d (k ad H locs lsA h1 h2 h3 h4)
theorem g_idiv (C0 : Ok X S M) {x y : Int32} (d : decode M.code pc = .ok (.idiv, 1)) (hne : ¬ y = 0) (k : Gd X S M (pc + 1) ls (.int (x / y) :: st) w cs ss) : Gd X S M pc ls (.int y :: .int x :: st) w cs ss := by
  obtain ⟨p, l, e, s, m, args, below, meth, c⟩ := X
  obtain ⟨D, dA, w0, ad0, K⟩ := S
  intro ad H locs lsA h1 h2 h3 h4
  exact lv_idiv C0.1 C0.2.1 d hne (k ad H locs lsA h1 h2 h3 h4)
theorem g_irem (C0 : Ok X S M) {x y : Int32} (d : decode M.code pc = .ok (.irem, 1)) (hne : ¬ y = 0) (k : Gd X S M (pc + 1) ls (.int (x - x / y * y) :: st) w cs ss) : Gd X S M pc ls (.int y :: .int x :: st) w cs ss := by
  obtain ⟨p, l, e, s, m, args, below, meth, c⟩ := X
  obtain ⟨D, dA, w0, ad0, K⟩ := S
  intro ad H locs lsA h1 h2 h3 h4
  exact lv_irem C0.1 C0.2.1 d hne (k ad H locs lsA h1 h2 h3 h4)
theorem g_ineg (C0 : Ok X S M) {x : Int32} (d : decode M.code pc = .ok (.ineg, 1)) (k : Gd X S M (pc + 1) ls (.int (-x) :: st) w cs ss) : Gd X S M pc ls (.int x :: st) w cs ss := by
  obtain ⟨p, l, e, s, m, args, below, meth, c⟩ := X
  obtain ⟨D, dA, w0, ad0, K⟩ := S
  intro ad H locs lsA h1 h2 h3 h4
  exact lv_ineg C0.1 C0.2.1 d (k ad H locs lsA h1 h2 h3 h4)
theorem g_i2l (C0 : Ok X S M) {x : Int32} (d : decode M.code pc = .ok (.i2l, 1)) (k : Gd X S M (pc + 1) ls (.long x.toInt64 :: st) w cs ss) : Gd X S M pc ls (.int x :: st) w cs ss := by
  obtain ⟨p, l, e, s, m, args, below, meth, c⟩ := X
  obtain ⟨D, dA, w0, ad0, K⟩ := S
  intro ad H locs lsA h1 h2 h3 h4
  exact lv_i2l C0.1 C0.2.1 d rfl (k ad H locs lsA h1 h2 h3 h4)
theorem g_lcmp (C0 : Ok X S M) {x y : Int64} (d : decode M.code pc = .ok (.lcmp, 1)) (k : Gd X S M (pc + 1) ls (.int (lg_cmp x y) :: st) w cs ss) : Gd X S M pc ls (.long y :: .long x :: st) w cs ss := by
  obtain ⟨p, l, e, s, m, args, below, meth, c⟩ := X
  obtain ⟨D, dA, w0, ad0, K⟩ := S
  intro ad H locs lsA h1 h2 h3 h4
  exact W.lcmp C0.1 C0.2.1 d (k ad H locs lsA h1 h2 h3 h4)
theorem g_dup (C0 : Ok X S M) {v : Value} (d : decode M.code pc = .ok (.dup, 1)) (hc : v.category = 1) (k : Gd X S M (pc + 1) ls (v :: v :: st) w cs ss) : Gd X S M pc ls (v :: st) w cs ss := by
  obtain ⟨p, l, e, s, m, args, below, meth, c⟩ := X
  obtain ⟨D, dA, w0, ad0, K⟩ := S
  intro ad H locs lsA h1 h2 h3 h4
  exact lv_dup C0.1 C0.2.1 d (by rw [cv_cat]; exact hc) (k ad H locs lsA h1 h2 h3 h4)
theorem g_dup2 (C0 : Ok X S M) {v u : Value} (d : decode M.code pc = .ok (.dup2, 1)) (hc : v.category = 1) (hd : u.category = 1) (k : Gd X S M (pc + 1) ls (v :: u :: v :: u :: st) w cs ss) : Gd X S M pc ls (v :: u :: st) w cs ss := by
  obtain ⟨p, l, e, s, m, args, below, meth, c⟩ := X
  obtain ⟨D, dA, w0, ad0, K⟩ := S
  intro ad H locs lsA h1 h2 h3 h4
  exact lv_dup2_11 C0.1 C0.2.1 d (by rw [cv_cat]; exact hc) (by rw [cv_cat]; exact hd) (k ad H locs lsA h1 h2 h3 h4)
theorem g_pop (C0 : Ok X S M) {v : Value} (d : decode M.code pc = .ok (.pop, 1)) (hc : v.category = 1) (k : Gd X S M (pc + 1) ls (st) w cs ss) : Gd X S M pc ls (v :: st) w cs ss := by
  obtain ⟨p, l, e, s, m, args, below, meth, c⟩ := X
  obtain ⟨D, dA, w0, ad0, K⟩ := S
  intro ad H locs lsA h1 h2 h3 h4
  exact lv_pop C0.1 C0.2.1 d (by rw [cv_cat]; exact hc) (k ad H locs lsA h1 h2 h3 h4)
theorem g_istore_n (C0 : Ok X S M) {k0 : Fin 4} {x : Int32} (d : decode M.code pc = .ok (.istore_n k0, 1)) (hi : (k0 : Nat) < M.nL) (k : Gd X S M (pc + 1) (ls.set (k0 : Nat) (some (.int x))) st w cs ss) : Gd X S M pc ls (.int x :: st) w cs ss := by
  obtain ⟨p, l, e, s, m, args, below, meth, c⟩ := X
  obtain ⟨D, dA, w0, ad0, K⟩ := S
  intro ad H locs lsA h1 h2 h3 h4
  obtain ⟨ls1, e1, e2⟩ := h4.set (v := .int x) hi rfl
  intro T hT X0
  obtain ⟨t, a, b⟩ := k ad H locs ls1 h1 h2 h3 e2 T hT X0
  refine ⟨t, ?_, b⟩
  have hexec := C0.1
  have hb := C0.2.1
  have e1 : storeLocals lsA (k0 : Nat) (.int x) = some ls1 := e1
  jvm_step X0.here [X0.here.top, hexec, hb, d, e1]
  exact ⟨_, _, ⟨rfl, rfl⟩, ls1, e1, a⟩
theorem g_istore (C0 : Ok X S M) {i : Nat} {x : Int32} (d : decode M.code pc = .ok (.istore i, 2)) (hi : i < M.nL) (k : Gd X S M (pc + 2) (ls.set i (some (.int x))) st w cs ss) : Gd X S M pc ls (.int x :: st) w cs ss := by
  obtain ⟨p, l, e, s, m, args, below, meth, c⟩ := X
  obtain ⟨D, dA, w0, ad0, K⟩ := S
  intro ad H locs lsA h1 h2 h3 h4
  obtain ⟨ls1, e1, e2⟩ := h4.set (v := .int x) hi rfl
  intro T hT X0
  obtain ⟨t, a, b⟩ := k ad H locs ls1 h1 h2 h3 e2 T hT X0
  refine ⟨t, ?_, b⟩
  have hexec := C0.1
  have hb := C0.2.1
  have e1 : storeLocals lsA i (.int x) = some ls1 := e1
  jvm_step X0.here [X0.here.top, hexec, hb, d, e1]
  exact ⟨_, _, ⟨rfl, rfl⟩, ls1, e1, a⟩
theorem g_astore_n (C0 : Ok X S M) {k0 : Fin 4} {x : Nat} (d : decode M.code pc = .ok (.astore_n k0, 1)) (hi : (k0 : Nat) < M.nL) (k : Gd X S M (pc + 1) (ls.set (k0 : Nat) (some (.ref x))) st w cs ss) : Gd X S M pc ls (.ref x :: st) w cs ss := by
  obtain ⟨p, l, e, s, m, args, below, meth, c⟩ := X
  obtain ⟨D, dA, w0, ad0, K⟩ := S
  intro ad H locs lsA h1 h2 h3 h4
  obtain ⟨ls1, e1, e2⟩ := h4.set (v := .ref x) hi rfl
  intro T hT X0
  obtain ⟨t, a, b⟩ := k ad H locs ls1 h1 h2 h3 e2 T hT X0
  refine ⟨t, ?_, b⟩
  have hexec := C0.1
  have hb := C0.2.1
  have e1 : storeLocals lsA (k0 : Nat) (.ref (ad x)) = some ls1 := e1
  jvm_step X0.here [X0.here.top, hexec, hb, d, e1]
  exact ⟨Or.inl rfl, ls1, e1, a⟩
theorem g_astore (C0 : Ok X S M) {i : Nat} {x : Nat} (d : decode M.code pc = .ok (.astore i, 2)) (hi : i < M.nL) (k : Gd X S M (pc + 2) (ls.set i (some (.ref x))) st w cs ss) : Gd X S M pc ls (.ref x :: st) w cs ss := by
  obtain ⟨p, l, e, s, m, args, below, meth, c⟩ := X
  obtain ⟨D, dA, w0, ad0, K⟩ := S
  intro ad H locs lsA h1 h2 h3 h4
  obtain ⟨ls1, e1, e2⟩ := h4.set (v := .ref x) hi rfl
  intro T hT X0
  obtain ⟨t, a, b⟩ := k ad H locs ls1 h1 h2 h3 e2 T hT X0
  refine ⟨t, ?_, b⟩
  have hexec := C0.1
  have hb := C0.2.1
  have e1 : storeLocals lsA i (.ref (ad x)) = some ls1 := e1
  jvm_step X0.here [X0.here.top, hexec, hb, d, e1]
  exact ⟨Or.inl rfl, ls1, e1, a⟩
theorem g_iinc (C0 : Ok X S M) {i : Nat} {n : Int} {x v : Int32} (d : decode M.code pc = .ok (.iinc i n, 3)) (hl : ls[i]? = some (some (.int x))) (hv : x + Int32.ofInt n = v) (hi : i < M.nL) (k : Gd X S M (pc + 3) (ls.set i (some (.int v))) st w cs ss) : Gd X S M pc ls st w cs ss := by
  obtain ⟨p, l, e, s, m, args, below, meth, c⟩ := X
  obtain ⟨D, dA, w0, ad0, K⟩ := S
  intro ad H locs lsA h1 h2 h3 h4
  have hg := (h4.2.2.2 _ _ hl).1
  obtain ⟨ls', e1, e2⟩ := h4.set (v := .int v) hi rfl
  have e1 : storeLocals lsA i (.int v) = some ls' := e1
  subst hv
  intro T hT X0
  obtain ⟨t, a, b⟩ := k ad H locs ls' h1 h2 h3 e2 T hT X0
  refine ⟨t, ?_, b⟩
  have hexec := C0.1
  have hb := C0.2.1
  have hg : lsA[i]? = some (.val (.int x)) := hg
  jvm_step X0.here [X0.here.top, hexec, hb, d, hg, e1]
  exact a
theorem g_if_eq (C0 : Ok X S M) {x : Int32} {off : Int} {tgt : Nat} (d : decode M.code pc = .ok (.ifCond .eq off, 3)) (ht : (pc : Int) + off = (tgt : Int)) (kt : x = 0 → Gd X S M tgt ls st w cs ss) (kf : ¬ x = 0 → Gd X S M (pc + 3) ls st w cs ss) : Gd X S M pc ls (.int x :: st) w cs ss := by
  obtain ⟨p, l, e, s, m, args, below, meth, c⟩ := X
  obtain ⟨D, dA, w0, ad0, K⟩ := S
  intro ad H locs lsA h1 h2 h3 h4
  exact lv_if_eq C0.1 C0.2.1 d ht (fun q => kt q ad H locs lsA h1 h2 h3 h4) (fun q => kf q ad H locs lsA h1 h2 h3 h4)
theorem g_icmp_eq (C0 : Ok X S M) {x y : Int32} {off : Int} {tgt : Nat} (d : decode M.code pc = .ok (.if_icmp .eq off, 3)) (ht : (pc : Int) + off = (tgt : Int)) (kt : x = y → Gd X S M tgt ls st w cs ss) (kf : ¬ x = y → Gd X S M (pc + 3) ls st w cs ss) : Gd X S M pc ls (.int y :: .int x :: st) w cs ss := by
  obtain ⟨p, l, e, s, m, args, below, meth, c⟩ := X
  obtain ⟨D, dA, w0, ad0, K⟩ := S
  intro ad H locs lsA h1 h2 h3 h4
  exact lv_icmp_eq C0.1 C0.2.1 d ht (fun q => kt q ad H locs lsA h1 h2 h3 h4) (fun q => kf q ad H locs lsA h1 h2 h3 h4)
theorem g_if_ne (C0 : Ok X S M) {x : Int32} {off : Int} {tgt : Nat} (d : decode M.code pc = .ok (.ifCond .ne off, 3)) (ht : (pc : Int) + off = (tgt : Int)) (kt : ¬ x = 0 → Gd X S M tgt ls st w cs ss) (kf : x = 0 → Gd X S M (pc + 3) ls st w cs ss) : Gd X S M pc ls (.int x :: st) w cs ss := by
  obtain ⟨p, l, e, s, m, args, below, meth, c⟩ := X
  obtain ⟨D, dA, w0, ad0, K⟩ := S
  intro ad H locs lsA h1 h2 h3 h4
  exact lv_if_ne C0.1 C0.2.1 d ht (fun q => kt q ad H locs lsA h1 h2 h3 h4) (fun q => kf q ad H locs lsA h1 h2 h3 h4)
theorem g_icmp_ne (C0 : Ok X S M) {x y : Int32} {off : Int} {tgt : Nat} (d : decode M.code pc = .ok (.if_icmp .ne off, 3)) (ht : (pc : Int) + off = (tgt : Int)) (kt : ¬ x = y → Gd X S M tgt ls st w cs ss) (kf : x = y → Gd X S M (pc + 3) ls st w cs ss) : Gd X S M pc ls (.int y :: .int x :: st) w cs ss := by
  obtain ⟨p, l, e, s, m, args, below, meth, c⟩ := X
  obtain ⟨D, dA, w0, ad0, K⟩ := S
  intro ad H locs lsA h1 h2 h3 h4
  exact lv_icmp_ne C0.1 C0.2.1 d ht (fun q => kt q ad H locs lsA h1 h2 h3 h4) (fun q => kf q ad H locs lsA h1 h2 h3 h4)
theorem g_if_lt (C0 : Ok X S M) {x : Int32} {off : Int} {tgt : Nat} (d : decode M.code pc = .ok (.ifCond .lt off, 3)) (ht : (pc : Int) + off = (tgt : Int)) (kt : x < 0 → Gd X S M tgt ls st w cs ss) (kf : ¬ x < 0 → Gd X S M (pc + 3) ls st w cs ss) : Gd X S M pc ls (.int x :: st) w cs ss := by
  obtain ⟨p, l, e, s, m, args, below, meth, c⟩ := X
  obtain ⟨D, dA, w0, ad0, K⟩ := S
  intro ad H locs lsA h1 h2 h3 h4
  exact lv_if_lt C0.1 C0.2.1 d ht (fun q => kt q ad H locs lsA h1 h2 h3 h4) (fun q => kf q ad H locs lsA h1 h2 h3 h4)
theorem g_icmp_lt (C0 : Ok X S M) {x y : Int32} {off : Int} {tgt : Nat} (d : decode M.code pc = .ok (.if_icmp .lt off, 3)) (ht : (pc : Int) + off = (tgt : Int)) (kt : x < y → Gd X S M tgt ls st w cs ss) (kf : ¬ x < y → Gd X S M (pc + 3) ls st w cs ss) : Gd X S M pc ls (.int y :: .int x :: st) w cs ss := by
  obtain ⟨p, l, e, s, m, args, below, meth, c⟩ := X
  obtain ⟨D, dA, w0, ad0, K⟩ := S
  intro ad H locs lsA h1 h2 h3 h4
  exact lv_icmp_lt C0.1 C0.2.1 d ht (fun q => kt q ad H locs lsA h1 h2 h3 h4) (fun q => kf q ad H locs lsA h1 h2 h3 h4)
theorem g_if_ge (C0 : Ok X S M) {x : Int32} {off : Int} {tgt : Nat} (d : decode M.code pc = .ok (.ifCond .ge off, 3)) (ht : (pc : Int) + off = (tgt : Int)) (kt : 0 ≤ x → Gd X S M tgt ls st w cs ss) (kf : ¬ 0 ≤ x → Gd X S M (pc + 3) ls st w cs ss) : Gd X S M pc ls (.int x :: st) w cs ss := by
  obtain ⟨p, l, e, s, m, args, below, meth, c⟩ := X
  obtain ⟨D, dA, w0, ad0, K⟩ := S
  intro ad H locs lsA h1 h2 h3 h4
  exact lv_if_ge C0.1 C0.2.1 d ht (fun q => kt q ad H locs lsA h1 h2 h3 h4) (fun q => kf q ad H locs lsA h1 h2 h3 h4)
theorem g_icmp_ge (C0 : Ok X S M) {x y : Int32} {off : Int} {tgt : Nat} (d : decode M.code pc = .ok (.if_icmp .ge off, 3)) (ht : (pc : Int) + off = (tgt : Int)) (kt : y ≤ x → Gd X S M tgt ls st w cs ss) (kf : ¬ y ≤ x → Gd X S M (pc + 3) ls st w cs ss) : Gd X S M pc ls (.int y :: .int x :: st) w cs ss := by
  obtain ⟨p, l, e, s, m, args, below, meth, c⟩ := X
  obtain ⟨D, dA, w0, ad0, K⟩ := S
  intro ad H locs lsA h1 h2 h3 h4
  exact lv_icmp_ge C0.1 C0.2.1 d ht (fun q => kt q ad H locs lsA h1 h2 h3 h4) (fun q => kf q ad H locs lsA h1 h2 h3 h4)
theorem g_if_gt (C0 : Ok X S M) {x : Int32} {off : Int} {tgt : Nat} (d : decode M.code pc = .ok (.ifCond .gt off, 3)) (ht : (pc : Int) + off = (tgt : Int)) (kt : 0 < x → Gd X S M tgt ls st w cs ss) (kf : ¬ 0 < x → Gd X S M (pc + 3) ls st w cs ss) : Gd X S M pc ls (.int x :: st) w cs ss := by
  obtain ⟨p, l, e, s, m, args, below, meth, c⟩ := X
  obtain ⟨D, dA, w0, ad0, K⟩ := S
  intro ad H locs lsA h1 h2 h3 h4
  exact lv_if_gt C0.1 C0.2.1 d ht (fun q => kt q ad H locs lsA h1 h2 h3 h4) (fun q => kf q ad H locs lsA h1 h2 h3 h4)
theorem g_icmp_gt (C0 : Ok X S M) {x y : Int32} {off : Int} {tgt : Nat} (d : decode M.code pc = .ok (.if_icmp .gt off, 3)) (ht : (pc : Int) + off = (tgt : Int)) (kt : y < x → Gd X S M tgt ls st w cs ss) (kf : ¬ y < x → Gd X S M (pc + 3) ls st w cs ss) : Gd X S M pc ls (.int y :: .int x :: st) w cs ss := by
  obtain ⟨p, l, e, s, m, args, below, meth, c⟩ := X
  obtain ⟨D, dA, w0, ad0, K⟩ := S
  intro ad H locs lsA h1 h2 h3 h4
  exact lv_icmp_gt C0.1 C0.2.1 d ht (fun q => kt q ad H locs lsA h1 h2 h3 h4) (fun q => kf q ad H locs lsA h1 h2 h3 h4)
theorem g_if_le (C0 : Ok X S M) {x : Int32} {off : Int} {tgt : Nat} (d : decode M.code pc = .ok (.ifCond .le off, 3)) (ht : (pc : Int) + off = (tgt : Int)) (kt : x ≤ 0 → Gd X S M tgt ls st w cs ss) (kf : ¬ x ≤ 0 → Gd X S M (pc + 3) ls st w cs ss) : Gd X S M pc ls (.int x :: st) w cs ss := by
  obtain ⟨p, l, e, s, m, args, below, meth, c⟩ := X
  obtain ⟨D, dA, w0, ad0, K⟩ := S
  intro ad H locs lsA h1 h2 h3 h4
  exact lv_if_le C0.1 C0.2.1 d ht (fun q => kt q ad H locs lsA h1 h2 h3 h4) (fun q => kf q ad H locs lsA h1 h2 h3 h4)
theorem g_icmp_le (C0 : Ok X S M) {x y : Int32} {off : Int} {tgt : Nat} (d : decode M.code pc = .ok (.if_icmp .le off, 3)) (ht : (pc : Int) + off = (tgt : Int)) (kt : x ≤ y → Gd X S M tgt ls st w cs ss) (kf : ¬ x ≤ y → Gd X S M (pc + 3) ls st w cs ss) : Gd X S M pc ls (.int y :: .int x :: st) w cs ss := by
  obtain ⟨p, l, e, s, m, args, below, meth, c⟩ := X
  obtain ⟨D, dA, w0, ad0, K⟩ := S
  intro ad H locs lsA h1 h2 h3 h4
  exact lv_icmp_le C0.1 C0.2.1 d ht (fun q => kt q ad H locs lsA h1 h2 h3 h4) (fun q => kf q ad H locs lsA h1 h2 h3 h4)
theorem g_goto (C0 : Ok X S M) {off : Int} {tgt : Nat} (d : decode M.code pc = .ok (.goto off, 3)) (ht : (pc : Int) + off = (tgt : Int)) (k : Gd X S M tgt ls st w cs ss) : Gd X S M pc ls st w cs ss := by
  obtain ⟨p, l, e, s, m, args, below, meth, c⟩ := X
  obtain ⟨D, dA, w0, ad0, K⟩ := S
  intro ad H locs lsA h1 h2 h3 h4
  exact lv_goto C0.1 C0.2.1 d ht (k ad H locs lsA h1 h2 h3 h4)
theorem g_topi {x : Int32} (k : ∀ y : Int32, y = x → Gd X S M pc ls (.int y :: st) w cs ss) : Gd X S M pc ls (.int x :: st) w cs ss := k x rfl
theorem g_ls {ls2 : List (Option Value)} (h : ls = ls2) (k : Gd X S M pc ls2 st w cs ss) : Gd X S M pc ls st w cs ss := h ▸ k
theorem g_st {st2 : List Value} (h : st = st2) (k : Gd X S M pc ls st2 w cs ss) : Gd X S M pc ls st w cs ss := h ▸ k
theorem g_w {w2 : AW} (h : w = w2) (k : Gd X S M pc ls st w2 cs ss) : Gd X S M pc ls st w cs ss := h ▸ k
theorem g_widen {cs2 ss2 : Nat} (h1 : cs ≤ cs2) (h2 : ss ≤ ss2) (k : Gd X S M pc ls st w cs2 ss2) : Gd X S M pc ls st w cs ss := by
  obtain ⟨p, l, e, s, m, args, below, meth, c⟩ := X
  obtain ⟨D, dA, w0, ad0, K⟩ := S
  intro ad H locs lsA a1 a2 a3 a4
  exact W.widen h1 h2 (k ad H locs lsA a1 a2 a3 a4)
def SK (S : SX) : AO → AW → Prop := S.2.2.2.2
theorem g_iret (C0 : Ok X S M) {v : Int32} (hr : M.ret = some .int) (d : decode M.code pc = .ok (.ireturn, 1)) (hc : cs ≤ M.mc) (hs : ss ≤ M.ms) (hK : SK S (.inl (some (.int v))) w) : Gd X S M pc ls [.int v] w cs ss := by
  obtain ⟨p, l, e, s, m, args, below, meth, c⟩ := X
  obtain ⟨D, dA, w0, ad0, K⟩ := S
  intro ad H locs lsA h1 h2 h3 h4
  refine vx_ret (W.widen hc hs ?_)
  exact W.iret (v := v) C0.1 C0.2.1 (C0.2.2.1.trans hr) (fun t ht hW => ⟨some (.int v), w, ad, rfl, hK, h1, by rw [ht]; exact h2, h3.F ht⟩) h3.2.2 d C0.2.2.2.2.2.2.2.2.2.2.1
theorem g_zret (C0 : Ok X S M) {v : Int32} (hr : M.ret = some .boolean) (hn : narrow .boolean (.int v) = .int v) (d : decode M.code pc = .ok (.ireturn, 1)) (hc : cs ≤ M.mc) (hs : ss ≤ M.ms) (hK : SK S (.inl (some (.int v))) w) : Gd X S M pc ls [.int v] w cs ss := by
  obtain ⟨p, l, e, s, m, args, below, meth, c⟩ := X
  obtain ⟨D, dA, w0, ad0, K⟩ := S
  intro ad H locs lsA h1 h2 h3 h4
  refine vx_ret (W.widen hc hs ?_)
  exact W.zret (v := v) C0.1 C0.2.1 (C0.2.2.1.trans hr) hn (fun t ht hW => ⟨some (.int v), w, ad, rfl, hK, h1, by rw [ht]; exact h2, h3.F ht⟩) h3.2.2 d C0.2.2.2.2.2.2.2.2.2.2.1
theorem g_vret (C0 : Ok X S M) (hr : M.ret = none) (d : decode M.code pc = .ok (.return_, 1)) (hc : cs ≤ M.mc) (hs : ss ≤ M.ms) (hK : SK S (.inl none) w) : Gd X S M pc ls [] w cs ss := by
  obtain ⟨p, l, e, s, m, args, below, meth, c⟩ := X
  obtain ⟨D, dA, w0, ad0, K⟩ := S
  intro ad H locs lsA h1 h2 h3 h4
  refine vx_ret (W.widen hc hs ?_)
  exact W.vret C0.1 C0.2.1 (C0.2.2.1.trans hr) (fun t ht hW => ⟨none, w, ad, rfl, hK, h1, by rw [ht]; exact h2, h3.F ht⟩) h3.2.2 d C0.2.2.2.2.2.2.2.2.2.2.1
end GR

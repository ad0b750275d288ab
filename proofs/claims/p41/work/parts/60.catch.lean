/-! ===== methods that catch ===== -/
section GH
variable {X : CX} {S : SX} {M : MT} {pc : Nat} {ls : List (Option Value)} {st : List Value} {w : AW} {cs ss : Nat}
/-- from the body of a method that catches to the method -/
theorem Snd.ofH {q9 : Nat × Nat × Nat × Nat} {t9 : List (Nat × Nat × Nat × Nat)} {av : List Value} {K : AO → AW → Prop} (hy : plainName M.y.cls = true) (hl : av.length ≤ M.nL) (hc : av.all (fun v => decide (v.category = 1)) = true) (hh : M.hh = q9 :: t9)
    (body : ∀ (X : CX) (D : va_G) (dA : Nat → ClassId) (ad : Nat → Nat), Ok X (D, dA, w, ad, K) M → Gd X (D, dA, w, ad, K) M 0 (av.map some ++ List.replicate (M.nL - av.length) none) [] w 0 0) : Snd M av w K := by
  intro l hlt D dA ad sz
  refine vx_ofWH (cc := M.code) (maxL := M.nL) (ret := M.ret) (hh := M.hh) hy (ws' := WL) (by unfold MT.ws; rw [MT.cwd_cons hh]) ?_
  intro p e s m args below meth c s₁ B hml hv
  obtain ⟨rfl, rfl, hWH, hK, hSZ, hST⟩ := hv
  have hts := atoms_spec (ws := M.ws) B.pre
  have C0 : Ok (p, l, e, s, m, (av.map (cv ad)).toArray, below, meth, c) (D, dA, w, ad, K) M := by
    refine ⟨B.exec, B.bytes, B.returns, hml, findClass_of_methodNamed B.named, fun x hx => hts x (List.mem_cons_of_mem _ hx), hK, hSZ, hST, hlt, B.notSynchronized, (name_of_methodNamed B.named B.method).1, ?_⟩
    exact vx_table (x := M.y) B (hts _ (by unfold MT.ws; rw [MT.cwd_cons hh]; exact List.mem_cons_self))
  have hcat : ∀ v ∈ av.map (cv ad), v.category = 1 := fun v hv => by
    obtain ⟨u, hu, rfl⟩ := List.mem_map.mp hv
    rw [cv_cat]
    exact of_decide_eq_true (List.all_eq_true.mp hc u hu)
  have hsl : ∀ l : List Value, (∀ v ∈ l, v.category = 1) → lg_sl l = l.map Slot.val := by
    intro l
    induction l with
    | nil => intro _; rfl
    | cons a t ih =>
      intro h
      have h1 := h a List.mem_cons_self
      simp only [lg_sl, List.flatMap_cons, h1, if_neg (by decide : ¬ 1 = 2)]
      have := ih fun v hv => h v (List.mem_cons_of_mem _ hv)
      simp only [lg_sl] at this
      rw [this]; rfl
  have e1 := hsl _ hcat
  have hl2 := lv_entry (av.map (cv ad)) (n := M.nL) (by rw [e1]; simpa using hl)
  rw [lg_entry_eq]
  have har : ∀ (l : List Value) (k : Nat), (∀ v ∈ l, v.category = 1) → ∀ (i : Nat) (v : Value), l[i]? = some v → (k + i, v) ∈ lv_args k l := by
    intro l
    induction l with
    | nil => intro k _ i v h; simp at h
    | cons a t ih =>
      intro k h i v hi
      have h1 := h a List.mem_cons_self
      unfold lv_args
      rw [h1]
      cases i with
      | zero => simp only [List.getElem?_cons_zero, Option.some.injEq] at hi; subst hi; exact List.mem_cons_self
      | succ i =>
        rw [List.getElem?_cons_succ] at hi
        have := ih (k + 1) (fun v hv => h v (List.mem_cons_of_mem _ hv)) i v hi
        refine List.mem_cons_of_mem _ ?_
        rw [show k + (i + 1) = k + 1 + i by omega]
        exact this
  refine body _ D dA ad C0 ad s.heap [] _ AG.rf ⟨hWH.1, hWH.2.self⟩ va_S.rf ⟨hl2.1, hl2.2.1, by simp; omega, fun i v hi => ?_⟩
  by_cases hi2 : i < av.length
  · rw [List.getElem?_append_left (by simpa using hi2), List.getElem?_map] at hi
    obtain ⟨u, hu, hv⟩ := Option.map_eq_some_iff.mp hi
    cases hv
    refine ⟨hl2.2.2 (i, cv ad v) ?_, of_decide_eq_true (List.all_eq_true.mp hc v (List.mem_of_getElem? hu))⟩
    have := har (av.map (cv ad)) 0 hcat i (cv ad v) (by rw [List.getElem?_map, hu]; rfl)
    rwa [Nat.zero_add] at this
  · rw [List.getElem?_append_right (by simpa using hi2)] at hi
    have := List.eq_of_mem_replicate (List.mem_of_getElem? hi)
    cases this
theorem LH.setx {lsA : Array Slot} {nL : Nat} {ls : List (Option Value)} {ad : Nat → Nat} (h : LH lsA nL ls ad) {i n : Nat} (hi : i < nL) (q : Nat) (hok : lsOk n ls = true) : ∃ ls', storeLocals lsA i (.ref q) = some ls' ∧ LH ls' nL (ls.set i none) ad := by
  have hag : ∀ j, j < n → adPush ad n q j = ad j := fun j hj => by simp only [adPush, if_neg (Nat.ne_of_lt hj)]
  have hv : ∀ (j : Nat) (v : Value), ls[j]? = some (some v) → vOk n v = true := fun j v hj => List.all_eq_true.mp hok _ (List.mem_of_getElem? hj)
  have h2 : LH lsA nL ls (adPush ad n q) := h.eq fun j v hj => cv_eq hag (hv j v hj)
  obtain ⟨ls', e1, e2⟩ := h2.set (v := .ref n) hi rfl
  have ec : cv (adPush ad n q) (.ref n) = .ref q := by simp only [cv, adPush, if_true]
  rw [ec] at e1
  refine ⟨ls', e1, e2.1, e2.2.1, ?_, fun j v hj => ?_⟩
  · have := e2.2.2.1
    rw [List.length_set] at this ⊢
    exact this
  · by_cases hij : i = j
    · subst hij
      rw [List.getElem?_set] at hj
      by_cases hlt : i < ls.length
      · rw [if_pos rfl, if_pos hlt] at hj; cases hj
      · rw [if_pos rfl, if_neg hlt] at hj; cases hj
    · rw [List.getElem?_set_ne hij] at hj
      have := e2.2.2.2 j v (by rw [List.getElem?_set_ne hij]; exact hj)
      rw [cv_eq hag (hv j v hj)] at this
      exact this
/-- the row of the table that takes the exception k thrown at pc, and its first instruction -/
def Cat (M : MT) (pc k hp i len : Nat) : Prop := k < 3 ∧ ∃ (pre : List ExceptionTableEntry) (x : ExceptionTableEntry) (suf : List ExceptionTableEntry), tableOf M.hh = pre ++ x :: suf ∧ x.handlerPc = hp ∧
  (∀ z ∈ pre, covers z pc = false ∨ (z.catchType ≠ 0 ∧ ∃ j, j < 3 ∧ j ≠ k ∧ Cond.classLink M.y.cls z.catchType (EXN j) ∈ WL)) ∧ covers x pc = true ∧ x.catchType ≠ 0 ∧ Cond.classLink M.y.cls x.catchType (EXN k) ∈ WL ∧ Cond.castable (EXN k) (EXN k) ∈ BD ∧
  i < M.nL ∧ (decode M.code hp = .ok (.astore i, 2) ∧ len = 2 ∨ ∃ j : Fin 4, (j : Nat) = i ∧ decode M.code hp = .ok (.astore_n j, 1) ∧ len = 1)
theorem g_invVc (C0 : Ok X S M) {M2 : MT} {idx n a ci : Nat} {fs : List Value} {As st0 : List Value} (d : decode M.code pc = .ok (.invokevirtual idx, 3)) (hL : CV M.y.cls idx M2 ci n) (hst : st0 = As.reverse ++ .ref a :: st) (hw : w[a]? = some (.inr (ci, fs))) (hn : As.length = n) (hR : RM M M2 cs ss) (hcat : (st.map fun v => v.category).sum ≤ 8) (hok : lsOk w.length ls = true) {K2 : AO → AW → Prop}
    (hS : Snd M2 (.ref a :: As) w K2)
    (kk : ∀ (v : Option Value) (w' : AW), K2 (.inl v) w' → w'.length = w.length ∧ Gd X S M (pc + 3) ls (v.toList ++ st) w' (cs + M2.mc) (ss + M2.ms))
    (kx : ∀ (k : Nat) (w' : AW), K2 (.inr k) w' → w'.length = w.length ∧ ∃ hp i len, Cat M pc k hp i len ∧ Gd X S M (hp + len) (ls.set i none) [] w' (cs + M2.mc) (ss + M2.ms)) : Gd X S M pc ls st0 w cs ss := by
  obtain ⟨p, l, e, s, m, args, below, meth, c⟩ := X
  obtain ⟨D, dA, w0, ad0, K⟩ := S
  have D0 := C0
  obtain ⟨c1, c2, c3, c4, c5, c6, c7, c8, c9, c10, c11, c12, c13⟩ := D0
  obtain ⟨hB, hh2, hci, hin, hse⟩ := hL
  intro ad H locs lsA h1 h2 h3 h4
  subst hst
  have hr : vx_Run p l e M.rm s m args below meth c H locs cs ss M2.mc M2.ms (F0 m pc lsA ((As.reverse ++ .ref a :: st).map (cv ad))) (st.map (cv ad)) (QcB D dA ad w H.size K2 (Value.ref (ad a) :: As.map (cv ad)).toArray) (XcB D dA ad w H.size K2) (va_A (cw dA ad w) H.size) := vx_runV (As := As.map (cv ad)) (rest := st.map (cv ad)) (g := F0 m pc lsA ((As.reverse ++ .ref a :: st).map (cv ad))) ⟨c1, c2, c4, c5, c6⟩ (hS l c10 D dA ad H.size) ⟨callBx c6 hB hh2 hR, c6 _ hin, c6 _ hse⟩
    ⟨FB, (by
      obtain ⟨q, hq⟩ := Option.map_eq_some_iff.mp hci
      have := va_recv c7 h2.1 hq.1 (cw_get hw)
      rw [hq.2] at this
      exact this), fun U hU hW => ⟨rfl, PcB_at C0 h2 h3 U hU hW⟩⟩ rfl (by rw [List.length_map]; exact hn) h4.1 (by simp only [List.map_append, List.map_reverse, List.map_cons, cv]) (lv_room (by rw [cats_cv]; exact hcat)) d ⟨hR.2.2.1, hR.2.2.2⟩
  refine g_after C0 h1 h2 h3 h4 hr (fun v w' h => ⟨Or.inl (kk v w' h).1, (kk v w' h).2⟩) (fun k w' ad' H1 locs1 q ce hK hA hA2 hWH hS9 hq hv hcl => ?_)
  obtain ⟨hlen, hp, i, len, ⟨hk3, pre, x, suf, t1, t2, t3, t4, t5, t6, t7, t8, t9⟩, hG⟩ := kx k w' hK
  have ead : ad' = ad := hA2.2.2 hlen
  subst ead
  obtain ⟨ls', e1, e2⟩ := h4.setx t8 q hok
  have hW9 := hG ad' H1 locs1 ls' hA hWH hS9 e2
  refine vx_catch (own := M.y.cls) (name := EXN k) (E := EXN k) c5 pre x suf (c13.trans t1) (fun z hz => ?_) t4 t5 (c6 _ t6) (va_Nw.use (A := args) rfl (c9.2.1 _ t7)) hq hv hcl ?_
  · rcases t3 z hz with h | ⟨z1, j, j1, j2, j3⟩
    · exact Or.inl h
    · exact Or.inr ⟨z1, EXN j, c6 _ j3, c9.2.2 k j hk3 j1 (Ne.symm j2)⟩
  · rw [t2]
    intro T hT X0
    obtain ⟨t, a9, b9⟩ := hW9 T hT X0
    refine ⟨t, ?_, b9⟩
    rcases t9 with ⟨d9, rfl⟩ | ⟨j, rfl, d9, rfl⟩
    · jvm_step X0.here [X0.here.top, c1, c2, d9, e1]
      exact ⟨rfl, a9⟩
    · jvm_step X0.here [X0.here.top, c1, c2, d9, e1]
      exact ⟨rfl, a9⟩
end GH

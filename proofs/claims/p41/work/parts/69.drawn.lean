/-! ===== the script, read by a method of the law ===== -/
section GT
variable {X : CX} {S : SX} {M : MT} {pc : Nat} {ls : List (Option Value)} {st : List Value} {w : AW} {cs ss : Nat}
def PcS (D : va_G) (dA : Nat → ClassId) (ad : Nat → Nat) (w : AW) (sz N L : Nat) (xs : Nat → Int32) (U : State) : Prop := PcB D dA ad w sz U ∧ va_X (ad N) L xs U U.heap ∧ ad N < sz ∧ ¬ va_A (cw dA ad w) sz (ad N)
def SndS (M : MT) (av : List Value) (w : AW) (N L : Nat) (xs : Nat → Int32) (K : AO → AW → Prop) : Prop :=
  ∀ (l : Launch), l.stackTraces = false → ∀ (D : va_G) (dA : Nat → ClassId) (ad : Nat → Nat) (sz : Nat),
    vx_Met l M.y M.ws M.rm (va_Pc (av.map (cv ad)) (PcS D dA ad w sz N L xs)) (QcB D dA ad w sz K) (XcB D dA ad w sz K) M.mc M.ms (va_A (cw dA ad w) sz)
theorem SndS.of {av : List Value} {K : AO → AW → Prop} {N L : Nat} {xs : Nat → Int32} (hy : plainName M.y.cls = true) (hl : av.length ≤ M.nL) (hc : av.all (fun v => decide (v.category = 1)) = true) (hh : M.hh = [])
    (body : ∀ (X : CX) (D : va_G) (dA : Nat → ClassId) (ad : Nat → Nat), Ok X (D, dA, w, ad, K) M → SCR X (D, dA, w, ad, K) N L xs → Gd X (D, dA, w, ad, K) M 0 (av.map some ++ List.replicate (M.nL - av.length) none) [] w 0 0) : SndS M av w N L xs K := by
  intro l hlt D dA ad sz
  refine vx_ofW (cc := M.code) (maxL := M.nL) (ret := M.ret) hy (ws' := WL) (by unfold MT.ws; rw [MT.cwd_nil hh]) ?_
  intro p e s m args below meth c s₁ B hml ht hv
  obtain ⟨rfl, ⟨rfl, hWH, hK, hSZ, hST⟩, hx1, hx2, hx3⟩ := hv
  have hts := atoms_spec (ws := M.ws) B.pre
  have C0 : Ok (p, l, e, s, m, (av.map (cv ad)).toArray, below, meth, c) (D, dA, w, ad, K) M := by
    refine ⟨B.exec, B.bytes, B.returns, hml, findClass_of_methodNamed B.named, fun x hx => hts x (List.mem_cons_of_mem _ hx), hK, hSZ, hST, hlt, B.notSynchronized, (name_of_methodNamed B.named B.method).1, ?_⟩
    rw [hh]
    show c.exceptionTable.toList = []
    exact List.eq_nil_iff_forall_not_mem.mpr fun x hx => ht x hx
  have hcat : ∀ v ∈ av.map (cv ad), v.category = 1 := fun v hv => by
    obtain ⟨u, hu, rfl⟩ := List.mem_map.mp hv
    rw [cv_cat]
    exact of_decide_eq_true (List.all_eq_true.mp hc u hu)
  have hsl : ∀ l : List Value, (∀ v ∈ l, v.category = 1) → lg_sl l = l.map Slot.val := by
    intro l
    induction l with
    | nil => intro _; rfl
    | cons a t ih =>
      intro h
      have h1 := h a List.mem_cons_self
      simp only [lg_sl, List.flatMap_cons, h1, if_neg (by decide : ¬ 1 = 2)]
      have := ih fun v hv => h v (List.mem_cons_of_mem _ hv)
      simp only [lg_sl] at this
      rw [this]; rfl
  have e1 := hsl _ hcat
  have hl2 := lv_entry (av.map (cv ad)) (n := M.nL) (by rw [e1]; simpa using hl)
  rw [lg_entry_eq]
  have har : ∀ (l : List Value) (k : Nat), (∀ v ∈ l, v.category = 1) → ∀ (i : Nat) (v : Value), l[i]? = some v → (k + i, v) ∈ lv_args k l := by
    intro l
    induction l with
    | nil => intro k _ i v h; simp at h
    | cons a t ih =>
      intro k h i v hi
      have h1 := h a List.mem_cons_self
      unfold lv_args
      rw [h1]
      cases i with
      | zero => simp only [List.getElem?_cons_zero, Option.some.injEq] at hi; subst hi; exact List.mem_cons_self
      | succ i =>
        rw [List.getElem?_cons_succ] at hi
        have := ih (k + 1) (fun v hv => h v (List.mem_cons_of_mem _ hv)) i v hi
        refine List.mem_cons_of_mem _ ?_
        rw [show k + (i + 1) = k + 1 + i by omega]
        exact this
  refine body _ D dA ad C0 ⟨hx1, hx2, hx3⟩ ad s.heap [] _ AG.rf ⟨hWH.1, hWH.2.self⟩ va_S.rf ⟨hl2.1, hl2.2.1, by simp; omega, fun i v hi => ?_⟩
  by_cases hi2 : i < av.length
  · rw [List.getElem?_append_left (by simpa using hi2), List.getElem?_map] at hi
    obtain ⟨u, hu, hv⟩ := Option.map_eq_some_iff.mp hi
    cases hv
    refine ⟨hl2.2.2 (i, cv ad v) ?_, of_decide_eq_true (List.all_eq_true.mp hc v (List.mem_of_getElem? hu))⟩
    have := har (av.map (cv ad)) 0 hcat i (cv ad v) (by rw [List.getElem?_map, hu]; rfl)
    rwa [Nat.zero_add] at this
  · rw [List.getElem?_append_right (by simpa using hi2)] at hi
    have := List.eq_of_mem_replicate (List.mem_of_getElem? hi)
    cases this
theorem FBS {av : List Value} {D : va_G} {dA : Nat → ClassId} {ad : Nat → Nat} {sz N L : Nat} {xs : Nat → Int32} : FrameBlind (va_Pc av (PcS D dA ad w sz N L xs)) := by
  intro a U g mk h
  obtain ⟨h1, h2, h3, h4, h5⟩ := h
  have h6 := FB (w := w) a U g mk ⟨h1, h2⟩
  exact ⟨h6.1, h6.2, va_X.moved (u := U) (U := U.calling g mk a) (Vm.Alike.refl U.vm) h3, h4, h5⟩
theorem g_invSS (C0 : Ok X S M) {M2 : MT} {idx n N L : Nat} {xs : Nat → Int32} {As st0 : List Value} (hs : SCR X S N L xs) (hl : w.length = S.2.2.1.length) (d : decode M.code pc = .ok (.invokestatic idx, 3)) (hL : CS M.y.cls idx M2 n) (hh : M.hh = []) (hst : st0 = As.reverse ++ st) (hn : As.length = n) (hR : RM M M2 cs ss) (hcat : (st.map fun v => v.category).sum ≤ 8)
    (hS : SndS M2 As w N L xs (Aft X S M pc ls st w cs ss M2.mc M2.ms)) : Gd X S M pc ls st0 w cs ss := by
  obtain ⟨p, l, e, s, m, args, below, meth, c⟩ := X
  obtain ⟨D, dA, w0, ad0, K⟩ := S
  have D0 := C0
  obtain ⟨c1, c2, c3, c4, c5, c6, c7, c8, c9, c10, c11, c12, c13⟩ := D0
  obtain ⟨hB, hh2, hstt⟩ := hL
  obtain ⟨x1, x2, x3⟩ := hs
  intro ad H locs lsA h1 h2 h3 h4
  subst hst
  have ead : ad = ad0 := h1.2.2 hl
  have hsub := A_sub h2 h3.1 (fun q h => Or.inr h)
  have hX : va_X (ad N) L xs s H := by rw [ead]; exact x1.kept (h3.2.1 _ x2 x3)
  have hX2 : ad N < H.size := by rw [ead]; exact Nat.lt_of_lt_of_le x2 h3.1
  have hX3 : ¬ va_A (cw dA ad w) H.size (ad N) := fun z => by
    have := hsub _ z
    rw [ead] at this
    exact x3 this
  have hr : vx_Run p l e M.rm s m args below meth c H locs cs ss M2.mc M2.ms (F0 m pc lsA ((As.reverse ++ st).map (cv ad))) (st.map (cv ad)) (QcB D dA ad w H.size (Aft (p, l, e, s, m, args, below, meth, c) (D, dA, w0, ad0, K) M pc ls st w cs ss M2.mc M2.ms) (As.map (cv ad)).toArray) (XcB D dA ad w H.size (Aft (p, l, e, s, m, args, below, meth, c) (D, dA, w0, ad0, K) M pc ls st w cs ss M2.mc M2.ms)) (va_A (cw dA ad w) H.size) := vx_runS (As := As.map (cv ad)) (rest := st.map (cv ad)) (g := F0 m pc lsA ((As.reverse ++ st).map (cv ad))) ⟨c1, c2, c4, c5, c6⟩ (hS l c10 D dA ad H.size) ⟨callBx c6 hB hh2 hR, c6 _ hstt⟩
    ⟨FBS, fun U hU hW => ⟨rfl, PcB_at C0 h2 h3 U hU hW, (by rw [hU]; exact va_X.moved hW.alike hX), hX2, hX3⟩⟩ rfl (by rw [List.length_map]; exact hn) h4.1 (by simp only [List.map_append, List.map_reverse]) (lv_room (by rw [cats_cv]; exact hcat)) d ⟨hR.2.2.1, hR.2.2.2⟩
  refine g_after C0 h1 h2 h3 h4 hr (fun v w' h => h) (fun k w' ad' H1 locs1 q ce hK hA _ hWH hS9 hq hv hcl => ?_)
  exact g_out C0 hh hA hWH hS9 hK hq hv hcl hR.2.2.1 hR.2.2.2
end GT
/-- the script's k-th number, or what is drawn behind its end -/
def dw (L : Nat) (xs : Nat → Int32) (k : Nat) : Int32 := (if k < L then xs k else 15526099 * (nI k + 3) + 14159) &&& 2147483647
theorem dw_n (L : Nat) (xs : Nat → Int32) (k : Nat) : ∃ m, m < 2 ^ 31 ∧ dw L xs k = nI m := by
  unfold dw
  exact ⟨_, Nat.mod_lt _ (by decide), pk_and _ 31 (by decide)⟩
set_option maxRecDepth 100000 in
set_option maxHeartbeats 4000000 in
theorem k_drawn {w : AW} {N L k : Nat} {xs : Nat → Int32} {K : AO → AW → Prop} (hL : L ≤ 260) (hk : k < 1000) (hK : K (.inl (some (.int (dw L xs k)))) w) : SndS ML_drawn [.ref N, .int (nI k)] w N L xs K := by
  refine SndS.of (by decide +kernel) (Nat.le_of_ble_eq_true rfl) rfl rfl ?_
  intro X D dA ad C0 SC
  show Gd X _ ML_drawn 0 [some (.ref N), some (.int (nI k))] [] _ 0 0
  refine g_iload_n C0 dL_drawn_0 rfl ?_
  refine g_aload_n C0 dL_drawn_1 rfl ?_
  refine g_slen C0 SC rfl dL_drawn_2 ?_
  refine g_icmp_ge (tgt := 12) C0 dL_drawn_3 (by decide) (fun h9 => ?_) (fun h9 => ?_)
  · have h : ¬ k < L := fun z => nI_ge z (by omega) h9
    refine g_ldc C0 KK3 dL_drawn_12 ?_
    refine g_iload_n C0 dL_drawn_14 rfl ?_
    refine g_iconst (v := 3) C0 dL_drawn_15 (by decide) ?_
    refine g_iadd C0 dL_drawn_16 ?_
    refine g_imul C0 dL_drawn_17 ?_
    refine g_sipush (v := 14159) C0 dL_drawn_18 (by decide +kernel) ?_
    refine g_iadd C0 dL_drawn_21 ?_
    refine g_ldc C0 KK4 dL_drawn_22 ?_
    refine g_iand C0 dL_drawn_24 ?_
    refine g_iret C0 rfl dL_drawn_25 (by decide) (by decide) ?_
    unfold dw at hK
    rw [if_neg h] at hK
    exact hK
  · have h : k < L := Nat.lt_of_not_le fun z => h9 (nI_le z (by omega))
    refine g_aload_n C0 dL_drawn_6 rfl ?_
    refine g_iload_n C0 dL_drawn_7 rfl ?_
    refine g_sld C0 SC rfl dL_drawn_8 (vp_in_nI h (by omega)) ?_
    rw [nI_clamp (by omega)]
    refine g_goto (tgt := 22) C0 dL_drawn_9 (by decide) ?_
    refine g_ldc C0 KK4 dL_drawn_22 ?_
    refine g_iand C0 dL_drawn_24 ?_
    refine g_iret C0 rfl dL_drawn_25 (by decide) (by decide) ?_
    unfold dw at hK
    rw [if_pos h] at hK
    exact hK

section GWd
variable {X : CX} {S : SX} {M : MT} {pc : Nat} {ls : List (Option Value)} {st : List Value} {w : AW} {cs ss : Nat}
/-- entry idx of the class own names the field j of the class ci -/
def FL (own : String) (idx ci j : Nat) (fin : Bool) (ty : FieldType) : Prop := ∃ (C : String) (T : u_T) (N : Nat) (ty0 : Nat → FieldType), CL[ci]? = some (C, T, N) ∧ j < N ∧ (∀ x ∈ u_ws C T N, x ∈ WL) ∧ Cond.fieldLink own idx (T j).1 (T j).2.1 (T j).2.2.1 ∈ WL ∧
  (∀ k, k < N → parseFieldDescriptor (T k).2.2.1 = some (ty0 k)) ∧ (∀ a, a < N → ∀ b, b < N → a ≠ b → (T a).2.1 ≠ (T b).2.1) ∧ (T j).2.2.2 = fin ∧ parseFieldDescriptor (T j).2.2.1 = some ty ∧ (T j).1 = C
theorem g_getfield (C0 : Ok X S M) {idx a ci j : Nat} {fs : List Value} {v : Value} {fin : Bool} {ty : FieldType} (d : decode M.code pc = .ok (.getfield idx, 3)) (hF : FL M.y.cls idx ci j fin ty) (hw : w[a]? = some (.inr (ci, fs))) (hv : fs[j]? = some v) (k : Gd X S M (pc + 3) ls (v :: st) w cs ss) : Gd X S M pc ls (.ref a :: st) w cs ss := by
  obtain ⟨p, l, e, s, m, args, below, meth, c⟩ := X
  obtain ⟨D, dA, w0, ad0, K⟩ := S
  obtain ⟨C, T, N, ty0, f1, f2, f3, f4, f5, f6, f7, f8, f9⟩ := hF
  obtain ⟨c1, c2, c3, c4, c5, c6, c7, c8⟩ := C0
  intro ad H locs lsA h1 h2 h3 h4
  exact va_get c1 c2 c6 f3 c5 c7 h2.1 a (cw_get hw) f1 j f2 (c6 _ f4) (fun _ h => h) (v := cv ad v) (by rw [List.getElem?_map, hv]; rfl) d (k ad H locs lsA h1 h2 h3 h4)
theorem AG.set {n : Nat} {ad0 ad : Nat → Nat} {i : Nat} {x : va_E} (h : AG n ad0 w.length ad) : AG n ad0 (w.set i x).length ad := by rw [List.length_set]; exact h
theorem g_putfield (C0 : Ok X S M) {idx a ci j : Nat} {fs : List Value} {v : Value} {ty : FieldType} (d : decode M.code pc = .ok (.putfield idx, 3)) (hF : FL M.y.cls idx ci j false ty) (hw : w[a]? = some (.inr (ci, fs))) (hj : j < fs.length) (hv : ∀ ad, narrow ty (cv ad v) = cv ad v ∧ fits ty (cv ad v) = true) (k : Gd X S M (pc + 3) ls st (w.set a (.inr (ci, fs.set j v))) cs ss) : Gd X S M pc ls (v :: .ref a :: st) w cs ss := by
  obtain ⟨p, l, e, s, m, args, below, meth, c⟩ := X
  obtain ⟨D, dA, w0, ad0, K⟩ := S
  obtain ⟨C, T, N, ty0, f1, f2, f3, f4, f5, f6, f7, f8, f9⟩ := hF
  obtain ⟨c1, c2, c3, c4, c5, c6, c7, c8⟩ := C0
  intro ad H locs lsA h1 h2 h3 h4
  refine va_put c1 c2 c6 f3 ty0 f5 f6 c5 c7 h2.1 h2.2 h3 a (cw_get hw) f1 j f2 (c6 _ f4) (fun _ h => h) f7 f8 (hv ad).1 (hv ad).2 (by rw [List.length_map]; exact hj) d (fun H1 locs1 hP hD hS => ?_)
  refine k ad H1 locs1 lsA h1.set ?_ hS h4
  have e : cw dA ad (w.set a (.inr (ci, fs.set j v))) = (cw dA ad w).set a (ad a, .inr (ci, (fs.map (cv ad)).set j (cv ad v))) := by
    rw [cw_set]; simp only [ce, List.map_set]
  exact ⟨by rw [e]; exact hP, by rw [e]; exact hD⟩
theorem g_putfinal (C0 : Ok X S M) {idx a ci j : Nat} {fs : List Value} {v : Value} {ty : FieldType} (d : decode M.code pc = .ok (.putfield idx, 3)) (hF : FL M.y.cls idx ci j true ty) (hn : M.y.name = "<init>") (ho : CL[ci]?.map (fun q => q.1) = some M.y.cls) (hw : w[a]? = some (.inr (ci, fs))) (hj : j < fs.length) (hv : ∀ ad, narrow ty (cv ad v) = cv ad v ∧ fits ty (cv ad v) = true) (k : Gd X S M (pc + 3) ls st (w.set a (.inr (ci, fs.set j v))) cs ss) : Gd X S M pc ls (v :: .ref a :: st) w cs ss := by
  obtain ⟨p, l, e, s, m, args, below, meth, c⟩ := X
  obtain ⟨D, dA, w0, ad0, K⟩ := S
  obtain ⟨C, T, N, ty0, f1, f2, f3, f4, f5, f6, f7, f8, f9⟩ := hF
  obtain ⟨c1, c2, c3, c4, c5, c6, c7, c8, c9, c10, c11, c12, c13⟩ := C0
  have hC : C = M.y.cls := by rw [f1] at ho; exact Option.some.inj ho
  intro ad H locs lsA h1 h2 h3 h4
  refine va_putF c1 c2 c6 f3 ty0 f5 f6 c5 c7 h2.1 h2.2 h3 a (cw_get hw) f1 j f2 (c6 _ f4) (fun _ h => h) f7 (c12.trans hn) (f9.trans hC) f8 (hv ad).1 (hv ad).2 (by rw [List.length_map]; exact hj) d (fun H1 locs1 hP hD hS => ?_)
  refine k ad H1 locs1 lsA h1.set ?_ hS h4
  have e : cw dA ad (w.set a (.inr (ci, fs.set j v))) = (cw dA ad w).set a (ad a, .inr (ci, (fs.map (cv ad)).set j (cv ad v))) := by
    rw [cw_set]; simp only [ce, List.map_set]
  exact ⟨by rw [e]; exact hP, by rw [e]; exact hD⟩
theorem g_iaload (C0 : Ok X S M) {a n : Nat} {f : Nat → Int32} {i : Int32} (d : decode M.code pc = .ok (.iaload, 1)) (hw : w[a]? = some (.inl (0, n, .inl f))) (hi : vp_in i n) (k : Gd X S M (pc + 1) ls (.int (f i.toNatClampNeg) :: st) w cs ss) : Gd X S M pc ls (.int i :: .ref a :: st) w cs ss := by
  obtain ⟨p, l, e, s, m, args, below, meth, c⟩ := X
  obtain ⟨D, dA, w0, ad0, K⟩ := S
  obtain ⟨c1, c2, c3, c4, c5, c6, c7, c8⟩ := C0
  intro ad H locs lsA h1 h2 h3 h4
  exact va_iald c1 c2 c7 h2.1 a 0 (cw_get hw) rfl hi d (k ad H locs lsA h1 h2 h3 h4)
theorem g_alen (C0 : Ok X S M) {a kd : Nat} {x : vp_A} (hk : kd < 1) (d : decode M.code pc = .ok (.arraylength, 1)) (hw : w[a]? = some (.inl (kd, x))) (k : Gd X S M (pc + 1) ls (.int (nI x.1) :: st) w cs ss) : Gd X S M pc ls (.ref a :: st) w cs ss := by
  obtain ⟨p, l, e, s, m, args, below, meth, c⟩ := X
  obtain ⟨D, dA, w0, ad0, K⟩ := S
  obtain ⟨c1, c2, c3, c4, c5, c6, c7, c8⟩ := C0
  intro ad H locs lsA h1 h2 h3 h4
  have ht : (tysOf dA)[kd]? = some (dA kd, kT kd) := by
    obtain rfl : kd = 0 := by omega
    rfl
  exact va_alen c1 c2 c7 h2.1 a kd (cw_get hw) ht rfl d (k ad H locs lsA h1 h2 h3 h4)
theorem g_iastore (C0 : Ok X S M) {a n : Nat} {f : Nat → Int32} {i x : Int32} (d : decode M.code pc = .ok (.iastore, 1)) (hw : w[a]? = some (.inl (0, n, .inl f))) (hi : vp_in i n) (k : Gd X S M (pc + 1) ls st (w.set a (.inl (0, n, .inl (upd f i.toNatClampNeg x)))) cs ss) : Gd X S M pc ls (.int x :: .int i :: .ref a :: st) w cs ss := by
  obtain ⟨p, l, e, s, m, args, below, meth, c⟩ := X
  obtain ⟨D, dA, w0, ad0, K⟩ := S
  obtain ⟨c1, c2, c3, c4, c5, c6, c7, c8⟩ := C0
  intro ad H locs lsA h1 h2 h3 h4
  refine va_iast c1 c2 c7 h2.1 h2.2 h3 a 0 (cw_get hw) rfl hi d (fun H1 locs1 hP hD hS => ?_)
  exact k ad H1 locs1 lsA h1.set ⟨by rw [cw_set]; exact hP, by rw [cw_set]; exact hD⟩ hS h4
theorem LH.push {lsA : Array Slot} {nL n q : Nat} {ad : Nat → Nat} (h : LH lsA nL ls ad) (hl : lsOk n ls = true) : LH lsA nL ls (adPush ad n q) :=
  h.eq fun i v hv => cv_eq (n := n) (fun j hj => by simp only [adPush, if_neg (Nat.ne_of_lt hj)]) (by have := List.all_eq_true.mp hl _ (List.mem_of_getElem? hv); exact this)
theorem sts_push {n q : Nat} {ad : Nat → Nat} (h : st.all (vOk n) = true) : st.map (cv (adPush ad n q)) = st.map (cv ad) := cvs_eq (n := n) (fun j hj => by simp only [adPush, if_neg (Nat.ne_of_lt hj)]) h
theorem WH.push {D : va_G} {dA : Nat → ClassId} {ad : Nat → Nat} {A : Nat → Prop} {H : Heap} {q : Nat} {x : va_E} (hw : wOk w = true) (hx : eOk w.length x = true) (h1 : va_P D CL (cw dA ad w ++ [(q, ce dA ad x)]) H) (h2 : va_D A (cw dA ad w ++ [(q, ce dA ad x)])) : WH D dA (adPush ad w.length q) (w ++ [x]) A H := ⟨by rw [cw_push hw hx]; exact h1, by rw [cw_push hw hx]; exact h2⟩
theorem AG.push1 {n : Nat} {ad0 ad : Nat → Nat} {q : Nat} {x : va_E} (h : AG n ad0 w.length ad) : AG n ad0 (w ++ [x]).length (adPush ad w.length q) := by
  rw [List.length_append]; exact h.tr AG.push
/-- entry idx of the class own names the class ci of N fields, whose new objects hold fs -/
def NW (own : String) (idx ci N : Nat) (fs : List Value) : Prop := ∃ (C : String) (T : u_T) (ty0 : Nat → FieldType), CL[ci]? = some (C, T, N) ∧ (∀ x ∈ u_ws C T N, x ∈ WL) ∧ (∀ k, k < N → parseFieldDescriptor (T k).2.2.1 = some (ty0 k)) ∧ Cond.classLink own idx C ∈ WL ∧ Cond.instantiable C N ∈ WL ∧ Cond.initialized C ∈ WL ∧ (∀ j, j < N → defaultValue (ty0 j) = vp_V fs j) ∧ fs.all (vOk 0) = true
theorem vOk_mono {n n' : Nat} (h : n ≤ n') {v : Value} (hv : vOk n v = true) : vOk n' v = true := by
  cases v with
  | ref i => exact decide_eq_true (Nat.lt_of_lt_of_le (of_decide_eq_true hv) h)
  | _ => rfl
theorem vOk0 {v : Value} (h : vOk 0 v = true) (ad : Nat → Nat) : cv ad v = v := by
  cases v with
  | ref i => simp [vOk] at h
  | _ => rfl
theorem g_new (C0 : Ok X S M) {idx ci N : Nat} {fs : List Value} (d : decode M.code pc = .ok (.new idx, 3)) (hN : NW M.y.cls idx ci N fs) (hw : wOk w = true) (hst : st.all (vOk w.length) = true) (hls : lsOk w.length ls = true) (hc : cs + 1 ≤ M.mc) (hs : ss + N ≤ M.ms)
    (k : Gd X S M (pc + 3) ls (.ref w.length :: st) (w ++ [.inr (ci, fs)]) (cs + 1) (ss + N)) : Gd X S M pc ls st w cs ss := by
  obtain ⟨p, l, e, s, m, args, below, meth, c⟩ := X
  obtain ⟨D, dA, w0, ad0, K⟩ := S
  obtain ⟨C, T, ty0, f1, f2, f3, f4, f5, f6, f7, f8⟩ := hN
  obtain ⟨c1, c2, c3, c4, c5, c6, c7, c8⟩ := C0
  intro ad H locs lsA h1 h2 h3 h4
  refine va_new (ci := ci) c1 c2 c6 f2 ty0 f3 c5 (c6 _ f4) (c6 _ f5) (c6 _ f6) c7 h2.1 h2.2 h3 (fun q h => Or.inr h) f1 f7 hc hs d (fun q H1 hP hD hS => ?_)
  have e : ce dA ad (.inr (ci, fs)) = .inr (ci, fs) := by
    have : fs.map (cv ad) = fs := (List.map_congr_left fun v hv => vOk0 (List.all_eq_true.mp f8 v hv) ad).trans (List.map_id fs)
    simp only [ce, this]
  have hx : eOk w.length (.inr (ci, fs)) = true := List.all_eq_true.mpr fun v hv => vOk_mono (Nat.zero_le _) (List.all_eq_true.mp f8 v hv)
  have g := k (adPush ad w.length q) H1 locs lsA h1.push1 (WH.push hw hx (by rw [e]; exact hP) (by rw [e]; exact hD)) hS (h4.push hls)
  have e2 : List.map (cv (adPush ad w.length q)) (.ref w.length :: st) = .ref q :: st.map (cv ad) := by
    rw [List.map_cons, sts_push hst]
    simp only [cv, adPush, if_true]
  rw [e2] at g
  exact g
/-- the type of an array by its kind, with what its cells hold at first -/
def KA (kd : Nat) (aty : ArrayType) (n : Nat) (a0 : vp_A) : Prop := kd < 1 ∧ newarray.typeOf aty = kT kd ∧ (∀ cA : ClassId, vp_cell cA a0 = arrV cA n (fun _ => defaultValue (kT kd))) ∧ Cond.arrayClass (kT kd) ∈ WL
theorem g_newarray (C0 : Ok X S M) {kd : Nat} {aty : ArrayType} {n : Nat} {i : Int32} {a0 : vp_A} (d : decode M.code pc = .ok (.newarray aty, 2)) (hK : KA kd aty n a0) (hn : i = nI n) (hb : n ≤ 1000) (hw : wOk w = true) (hst : st.all (vOk w.length) = true) (hls : lsOk w.length ls = true) (hc : cs + 1 ≤ M.mc) (hs : ss + n ≤ M.ms)
    (k : Gd X S M (pc + 2) ls (.ref w.length :: st) (w ++ [.inl (kd, a0)]) (cs + 1) (ss + n)) : Gd X S M pc ls (.int i :: st) w cs ss := by
  obtain ⟨p, l, e, s, m, args, below, meth, c⟩ := X
  obtain ⟨D, dA, w0, ad0, K⟩ := S
  obtain ⟨f0, f1, f2, f3⟩ := hK
  obtain ⟨c1, c2, c3, c4, c5, c6, c7, c8⟩ := C0
  intro ad H locs lsA h1 h2 h3 h4
  subst hn
  have hbig : n < 2 ^ 31 := by omega
  refine va_newa (N' := n) (a0 := a0) (ty := kT kd) c1 c2 (by rw [f1]; exact c6 _ f3) f1 c7 h2.1 h2.2 h3 (fun q h => Or.inr h) f2 (nI_pos hbig) (nI_clamp hbig) ?_ hc hs d (fun q cA H1 hK1 hP hD hS => ?_)
  · obtain rfl : kd = 0 := by omega
    show n * 4 ≤ _; omega
  have hcA : cA = dA kd := by
    have q1 := (hK1.2 1 (cA, kT kd) rfl).2
    obtain rfl : kd = 0 := by omega
    have q2 := (hK1.2 0 (dA 0, kT 0) rfl).2
    exact Option.some.inj (q1.symm.trans q2)
  subst hcA
  have g := k (adPush ad w.length q) H1 locs lsA h1.push1 (WH.push hw rfl hP hD) hS (h4.push hls)
  have e2 : List.map (cv (adPush ad w.length q)) (.ref w.length :: st) = .ref q :: st.map (cv ad) := by
    rw [List.map_cons, sts_push hst]
    simp only [cv, adPush, if_true]
  rw [e2] at g
  exact g
theorem cats_cv (ad : Nat → Nat) (st : List Value) : ((st.map (cv ad)).map fun v => v.category) = st.map fun v => v.category := by
  rw [List.map_map]
  exact List.map_congr_left fun v _ => cv_cat ad v
theorem g_objInit (C0 : Ok X S M) {idx a : Nat} (d : decode M.code pc = .ok (.invokespecial idx, 3)) (hL : Cond.methodLink M.y.cls idx objectInit ∈ WL ∧ Cond.instanceMethod objectInit ∈ WL ∧ Cond.code objectInit ⟨#[0xb1]⟩ 1 none ∈ WL) (hf : 1 ≤ M.fr) (hl : (st.map fun v => v.category).sum + 12 ≤ M.lo) (k : Gd X S M (pc + 3) ls st w cs ss) : Gd X S M pc ls (.ref a :: st) w cs ss := by
  obtain ⟨p, l, e, s, m, args, below, meth, c⟩ := X
  obtain ⟨D, dA, w0, ad0, K⟩ := S
  obtain ⟨c1, c2, c3, c4, c5, c6, c7, c8⟩ := C0
  intro ad H locs lsA h1 h2 h3 h4
  exact W.objInit c1 c2 c5 (c6 _ hL.1) (c6 _ hL.2.1) (c6 _ hL.2.2) rfl (h4.1.trans c4.symm) rfl d hf (by show 2 * 0 + (List.map (fun v => v.category) (st.map (cv ad))).sum + 12 ≤ M.lo; rw [cats_cv]; omega) (k ad H locs lsA h1 h2 h3 h4)
theorem g_max (C0 : Ok X S M) {idx : Nat} {x y : Int32} (d : decode M.code pc = .ok (.invokestatic idx, 3)) (hL : Cond.methodLink M.y.cls idx Lib.Math.max.name ∈ WL ∧ Cond.static Lib.Math.max.name ∈ WL ∧ Cond.initialized "java/lang/Math" ∈ WL ∧ Cond.code Lib.Math.max.name Lib.Math.max.code 2 (some .int) ∈ WL) (hf : 1 ≤ M.fr) (hl : (st.map fun v => v.category).sum + 13 ≤ M.lo) (hc : cs ≤ M.mc) (hs : ss ≤ M.ms) (k : Gd X S M (pc + 3) ls (.int (if x < y then y else x) :: st) w cs ss) : Gd X S M pc ls (.int y :: .int x :: st) w cs ss := by
  obtain ⟨p, l, e, s, m, args, below, meth, c⟩ := X
  obtain ⟨D, dA, w0, ad0, K⟩ := S
  obtain ⟨c1, c2, c3, c4, c5, c6, c7, c8⟩ := C0
  intro ad H locs lsA h1 h2 h3 h4
  exact va_mmax c1 c2 (c4.trans h4.1.symm) c5 (c6 _ hL.1) (c6 _ hL.2.1) (c6 _ hL.2.2.1) (c6 _ hL.2.2.2) hf (by rw [cats_cv]; exact hl) hc hs d (k ad H locs lsA h1 h2 h3 h4)
theorem g_min (C0 : Ok X S M) {idx : Nat} {x y : Int32} (d : decode M.code pc = .ok (.invokestatic idx, 3)) (hL : Cond.methodLink M.y.cls idx Lib.Math.min.name ∈ WL ∧ Cond.static Lib.Math.min.name ∈ WL ∧ Cond.initialized "java/lang/Math" ∈ WL ∧ Cond.code Lib.Math.min.name Lib.Math.min.code 2 (some .int) ∈ WL) (hf : 1 ≤ M.fr) (hl : (st.map fun v => v.category).sum + 13 ≤ M.lo) (hc : cs ≤ M.mc) (hs : ss ≤ M.ms) (k : Gd X S M (pc + 3) ls (.int (if y < x then y else x) :: st) w cs ss) : Gd X S M pc ls (.int y :: .int x :: st) w cs ss := by
  obtain ⟨p, l, e, s, m, args, below, meth, c⟩ := X
  obtain ⟨D, dA, w0, ad0, K⟩ := S
  obtain ⟨c1, c2, c3, c4, c5, c6, c7, c8⟩ := C0
  intro ad H locs lsA h1 h2 h3 h4
  exact va_mmin c1 c2 (c4.trans h4.1.symm) c5 (c6 _ hL.1) (c6 _ hL.2.1) (c6 _ hL.2.2.1) (c6 _ hL.2.2.2) hf (by rw [cats_cv]; exact hl) hc hs d (k ad H locs lsA h1 h2 h3 h4)
/-- a throw of exception k, its words -/
def THn : List String := ["java/lang/RuntimeException", "java/lang/Exception"]
def TH (own : String) (ik is ic k : Nat) (text : String) : Prop := Cond.classLink own ik (EXN k) ∈ WL ∧ Cond.initialized (EXN k) ∈ WL ∧ (own, is, text) ∈ TXs ∧ (∀ x ∈ vx_atS own ic (EXN k) THn, x ∈ WL ∨ x ∈ BD) ∧ (∀ x ∈ Cond.classLink own ik (EXN k) :: Cond.initialized (EXN k) :: vx_atS own ic (EXN k) THn, vx_ot x = true) ∧ Bundle.fit (EXN k) = true ∧ ∀ n ∈ THn, Bundle.fit n = true
theorem XcB_thrown {D : va_G} {dA : Nat → ClassId} {w0 : AW} {ad0 ad : Nat → Nat} {K : AO → AW → Prop} {s : State} {H : Heap} {locs : List Loc} {k : Nat} (h1 : AG w0.length ad0 w.length ad) (h2 : WH D dA ad w (va_A (cw dA ad0 w0) s.heap.size) H) (h3 : va_S (va_A (cw dA ad0 w0) s.heap.size) s.heap H locs) (hK : K (.inr k) w) (t : State) (hz : H.size ≤ t.heap.size) (hq : ∀ q : Nat, q < H.size → t.heap[q]? = H[q]?) : XcB D dA ad0 w0 s.heap.size K (EXN k) s t :=
  ⟨k, w, ad, rfl, hK, h1, ⟨h2.1.kept fun i q hi => hq q.1 ((h2.1 i q hi).lt), h2.2⟩, Nat.le_trans h3.1 hz, fun q hl hA => (hq q (Nat.lt_of_lt_of_le hl h3.1)).trans (h3.2.1 q hl hA)⟩
theorem noTable (C0 : Ok X S M) (hh : M.hh = []) (x : ExceptionTableEntry) : x ∈ X.2.2.2.2.2.2.2.2.exceptionTable.toList → False := by
  obtain ⟨p, l, e, s, m, args, below, meth, c⟩ := X
  obtain ⟨D, dA, w0, ad0, K⟩ := S
  obtain ⟨c1, c2, c3, c4, c5, c6, c7, c8, c9, c10, c11, c12, c13⟩ := C0
  rw [hh] at c13
  show x ∈ c.exceptionTable.toList → False
  rw [c13]
  exact fun h => nomatch h
theorem g_throw (C0 : Ok X S M) {ik is ic k : Nat} {text : String} (d0 : decode M.code pc = .ok (.new ik, 3)) (d3 : decode M.code (pc + 3) = .ok (.dup, 1)) (d4 : decode M.code (pc + 4) = .ok (.ldc is, 2)) (d6 : decode M.code (pc + 6) = .ok (.invokespecial ic, 3)) (d9 : decode M.code (pc + 9) = .ok (.athrow, 1))
    (hT : TH M.y.cls ik is ic k text) (hh : M.hh = []) (hf : 6 ≤ M.fr) (hl : (st.map fun v => v.category).sum + 82 ≤ M.lo) (hc : cs + 1 ≤ M.mc) (hs : ss + 6 ≤ M.ms) (hK : SK S (.inr k) w) : Gd X S M pc ls st w cs ss := by
  have hno := noTable C0 hh
  obtain ⟨p, l, e, s, m, args, below, meth, c⟩ := X
  obtain ⟨D, dA, w0, ad0, K⟩ := S
  obtain ⟨c1, c2, c3, c4, c5, c6, c7, c8, c9, c10, c11, c12, c13⟩ := C0
  obtain ⟨t1, t2, t3, t4, t5, t6, t7⟩ := hT
  obtain ⟨sa, hsa⟩ := c9.1 _ t3
  intro ad H locs lsA h1 h2 h3 h4
  exact vx_throwS (names := THn) c1 c2 c10 c5 t6 t7 (c6 _ t1) (c6 _ t2) hsa (fun x hx => (t4 x hx).elim (c6 x) fun hb => va_Nw.use (isBD_tabs (List.mem_filter.mp hb).2) (c9.2.1 x hb)) t5 c8.1 c8.2 h3 (h4.1.trans c4.symm) d0 d3 d4 d6 d9 (fun x hx => (hno x hx).elim) hf (by rw [cats_cv]; exact hl) hc hs c11
    (fun t _ hz hq => XcB_thrown h1 h2 h3 hK t hz hq) h3.2.2 hc hs
theorem g_throwW (C0 : Ok X S M) {ik is ic k : Nat} {text : String} (d0 : decode M.code pc = .ok (.new ik, 3)) (d3 : decode M.code (pc + 3) = .ok (.dup, 1)) (d4 : decode M.code (pc + 4) = .ok (.ldc_w is, 3)) (d7 : decode M.code (pc + 7) = .ok (.invokespecial ic, 3)) (d10 : decode M.code (pc + 10) = .ok (.athrow, 1))
    (hT : TH M.y.cls ik is ic k text) (hh : M.hh = []) (hf : 6 ≤ M.fr) (hl : (st.map fun v => v.category).sum + 82 ≤ M.lo) (hc : cs + 1 ≤ M.mc) (hs : ss + 6 ≤ M.ms) (hK : SK S (.inr k) w) : Gd X S M pc ls st w cs ss := by
  have hno := noTable C0 hh
  obtain ⟨p, l, e, s, m, args, below, meth, c⟩ := X
  obtain ⟨D, dA, w0, ad0, K⟩ := S
  obtain ⟨c1, c2, c3, c4, c5, c6, c7, c8, c9, c10, c11, c12, c13⟩ := C0
  obtain ⟨t1, t2, t3, t4, t5, t6, t7⟩ := hT
  obtain ⟨sa, hsa⟩ := c9.1 _ t3
  intro ad H locs lsA h1 h2 h3 h4
  exact vx_throwSW (names := THn) c1 c2 c10 c5 t6 t7 (c6 _ t1) (c6 _ t2) hsa (fun x hx => (t4 x hx).elim (c6 x) fun hb => va_Nw.use (isBD_tabs (List.mem_filter.mp hb).2) (c9.2.1 x hb)) t5 c8.1 c8.2 h3 (h4.1.trans c4.symm) d0 d3 d4 d7 d10 (fun x hx => (hno x hx).elim) hf (by rw [cats_cv]; exact hl) hc hs c11
    (fun t _ hz hq => XcB_thrown h1 h2 h3 hK t hz hq) h3.2.2 hc hs
end GWd

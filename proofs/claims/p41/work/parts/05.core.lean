/-! ===== the layer above the machine: a world of numbered things, one judgement for a frame over it, one for a method ===== -/
/-- the words of the tables that any state keeps -/
def WL : List Cond := lw_tbl.filter goodWord
theorem WL_in {w : Cond} (h : w ∈ lw_tbl) (g : goodWord w = true) : w ∈ WL := List.mem_filter.mpr ⟨h, g⟩
theorem WL_tb {w : Cond} (i : Nat) (h : tables_1[i]? = some w) (g : goodWord w = true) : w ∈ WL := WL_in (List.mem_append_right _ (List.mem_of_getElem? h)) g
theorem WL_sl {w : Cond} (i : Nat) (h : (k2_sels lw_privs)[i]? = some w) (g : goodWord w = true) : w ∈ WL := WL_in (List.mem_append_left _ (List.mem_of_getElem? h)) g
theorem WL_good {w : Cond} (h : w ∈ WL) : (w.onTables && w.keeps) = true ∨ ∃ ty, w = .arrayClass ty := good_of_word (List.mem_filter.mp h).2
/-- things are numbered; a reference in an abstract value is such a number -/
abbrev AW : Type := List va_E
/-- what a method ends with: a value (or none), or an exception by its number -/
abbrev AO : Type := (Option Value) ⊕ Nat
def cv (ad : Nat → Nat) : Value → Value
  | .ref i => .ref (ad i)
  | v => v
theorem cv_cat (ad : Nat → Nat) (v : Value) : (cv ad v).category = v.category := by cases v <;> rfl
def kT : Nat → FieldType
  | 0 => .int
  | 1 => .boolean
  | _ => .long
def ce (dA : Nat → ClassId) (ad : Nat → Nat) : va_E → va_E
  | .inl a => .inl (dA a.1, a.2)
  | .inr o => .inr (o.1, o.2.map (cv ad))
def cw (dA : Nat → ClassId) (ad : Nat → Nat) (w : AW) : va_W := w.mapIdx fun i e => (ad i, ce dA ad e)
theorem cw_get {dA : Nat → ClassId} {ad : Nat → Nat} {w : AW} {i : Nat} {e : va_E} (h : w[i]? = some e) : (cw dA ad w)[i]? = some (ad i, ce dA ad e) := by
  simp [cw, List.getElem?_mapIdx, h]
theorem cw_of {dA : Nat → ClassId} {ad : Nat → Nat} {w : AW} {i : Nat} {q : Nat × va_E} (h : (cw dA ad w)[i]? = some q) : ∃ e, w[i]? = some e ∧ q = (ad i, ce dA ad e) := by
  simp only [cw, List.getElem?_mapIdx, Option.map_eq_some_iff] at h
  obtain ⟨e, h1, h2⟩ := h
  exact ⟨e, h1, h2.symm⟩
theorem cw_set {dA : Nat → ClassId} {ad : Nat → Nat} {w : AW} {i : Nat} {e : va_E} : cw dA ad (w.set i e) = (cw dA ad w).set i (ad i, ce dA ad e) := by
  simp only [cw, List.mapIdx_set]
def adPush (ad : Nat → Nat) (n q : Nat) : Nat → Nat := fun i => if i = n then q else ad i
/-- no value speaks of a number from n on -/
def vOk (n : Nat) : Value → Bool
  | .ref i => decide (i < n)
  | _ => true
def eOk (n : Nat) : va_E → Bool
  | .inl _ => true
  | .inr o => o.2.all (vOk n)
def wOk (w : AW) : Bool := w.all (eOk w.length)
def lsOk (n : Nat) (ls : List (Option Value)) : Bool := ls.all fun o => match o with
  | some v => vOk n v
  | none => true
theorem cv_eq {n : Nat} {ad ad' : Nat → Nat} (h : ∀ i, i < n → ad' i = ad i) {v : Value} (hv : vOk n v = true) : cv ad' v = cv ad v := by
  cases v with
  | ref i => simp only [vOk, decide_eq_true_eq] at hv; simp only [cv, h i hv]
  | _ => rfl
theorem cvs_eq {n : Nat} {ad ad' : Nat → Nat} (h : ∀ i, i < n → ad' i = ad i) {l : List Value} (hl : l.all (vOk n) = true) : l.map (cv ad') = l.map (cv ad) := by
  apply List.map_congr_left
  intro v hv
  exact cv_eq h (List.all_eq_true.mp hl v hv)
theorem ce_eq {n : Nat} {dA : Nat → ClassId} {ad ad' : Nat → Nat} (h : ∀ i, i < n → ad' i = ad i) {x : va_E} (hx : eOk n x = true) : ce dA ad' x = ce dA ad x := by
  cases x with
  | inl a => rfl
  | inr o => simp only [ce, cvs_eq h hx]
theorem cw_eq {dA : Nat → ClassId} {ad ad' : Nat → Nat} {w : AW} (h : ∀ i, i < w.length → ad' i = ad i) (hw : wOk w = true) : cw dA ad' w = cw dA ad w := by
  apply List.ext_getElem?
  intro i
  simp only [cw, List.getElem?_mapIdx]
  cases hi : w[i]? with
  | none => rfl
  | some x =>
    have hl : i < w.length := (List.getElem?_eq_some_iff.mp hi).1
    simp only [Option.map_some, h i hl, ce_eq h (List.all_eq_true.mp hw x (List.mem_of_getElem? hi))]
theorem cw_push {dA : Nat → ClassId} {ad : Nat → Nat} {w : AW} {q : Nat} {x : va_E} (hw : wOk w = true) (hx : eOk w.length x = true) : cw dA (adPush ad w.length q) (w ++ [x]) = cw dA ad w ++ [(q, ce dA ad x)] := by
  have h : ∀ i, i < w.length → adPush ad w.length q i = ad i := fun i hi => by simp only [adPush, if_neg (Nat.ne_of_lt hi)]
  have h1 : cw dA (adPush ad w.length q) (w ++ [x]) = cw dA (adPush ad w.length q) w ++ [(adPush ad w.length q w.length, ce dA (adPush ad w.length q) x)] := by
    simp only [cw, List.mapIdx_append, List.mapIdx_cons, List.mapIdx_nil, Nat.zero_add]
  rw [h1, cw_eq h hw, ce_eq h hx]
  simp only [adPush, if_true]
/-- the naming of a world goes over to that of a later one -/
def AG (n : Nat) (ad : Nat → Nat) (n' : Nat) (ad' : Nat → Nat) : Prop := n ≤ n' ∧ (∀ i, i < n → ad' i = ad i) ∧ (n' = n → ad' = ad)
theorem AG.rf {n : Nat} {ad : Nat → Nat} : AG n ad n ad := ⟨Nat.le_refl _, fun _ _ => rfl, fun _ => rfl⟩
theorem AG.tr {n n1 n2 : Nat} {ad ad1 ad2 : Nat → Nat} (h : AG n ad n1 ad1) (k : AG n1 ad1 n2 ad2) : AG n ad n2 ad2 := by
  refine ⟨Nat.le_trans h.1 k.1, fun i hi => ?_, fun e => ?_⟩
  · rw [k.2.1 i (Nat.lt_of_lt_of_le hi h.1), h.2.1 i hi]
  · have e1 : n1 = n := Nat.le_antisymm (by rw [← e]; exact k.1) h.1
    have e2 : n2 = n1 := by omega
    rw [k.2.2 e2, h.2.2 e1]
theorem AG.push {n : Nat} {ad : Nat → Nat} {q : Nat} : AG n ad (n + 1) (adPush ad n q) := ⟨Nat.le_succ _, fun i hi => by simp only [adPush, if_neg (Nat.ne_of_lt hi)], fun e => absurd e (by omega)⟩
abbrev CL : List vw_C := [(RX0, TX0, 9), (RX1, TX1, 4), (RX2, TX2, 4), (RX3, TX3, 7), (RX4, TX4, 2), (RX5, TX5, 1), (RX6, TX6, 2), (RX7, TX7, 2), (RX8, TX8, 2), (RX9, TX9, 11)]
def tysOf (dA : Nat → ClassId) : List (ClassId × FieldType) := [(dA 0, .int)]
/-- the two statics that a throw reads -/
def SZ (A : Nat → Prop) (U : State) (H : Heap) : Prop := vx_Zq Bundle.tN "UNASSIGNED_STACK" Bundle.steD A U H ∧ vx_Zq Bundle.tN "SUPPRESSED_SENTINEL" Bundle.listD A U H
theorem SZ.moved {A : Nat → Prop} {u U : State} {H : Heap} (hvm : u.vm.Alike U.vm) (h : SZ A u H) : SZ A U H := ⟨vx_Zq.moved hvm h.1, vx_Zq.moved hvm h.2⟩
theorem SZ.kept {A : Nat → Prop} {U : State} {H H1 : Heap} (h : SZ A U H) (hq : ∀ a : Nat, a < H.size → ¬ A a → H1[a]? = H[a]?) : SZ A U H1 := ⟨h.1.kept hq, h.2.kept hq⟩
theorem SZ.narrow {A B : Nat → Prop} {U : State} {H : Heap} (h : SZ A U H) (hAB : ∀ q, B q → A q) : SZ B U H := ⟨h.1.narrow hAB, h.2.narrow hAB⟩
/-- the texts that the program's throws name: class, entry, text -/
def TXs : List (String × Nat × String) := tables_1.filterMap fun w => match w with
  | .stringRef o k t => some (o, k, t)
  | _ => none
def isBD : Cond → Bool
  | .castable _ _ => true
  | .declares _ => true
  | _ => false
def BD : List Cond := tables_1.filter isBD
theorem isBD_warm {w : Cond} (h : isBD w = true) {s U : State} (hW : s.WarmedH U.vm) (hZ : va_Nw w s) : va_Nw w U := by
  cases w with
  | castable a b => exact va_Nw.warmC hW hZ
  | declares x => exact va_Nw.warmD hW hZ
  | _ => exact absurd h (by simp [isBD])
theorem isBD_tabs {w : Cond} (h : isBD w = true) : w.onTables = true := by
  cases w with
  | castable a b => rfl
  | declares x => rfl
  | _ => exact absurd h (by simp [isBD])
/-- the exceptions by their numbers -/
def EXN : Nat → String
  | 0 => "java/lang/IndexOutOfBoundsException"
  | 1 => "java/lang/IllegalArgumentException"
  | _ => "java/lang/IllegalStateException"
/-- what is known of texts and classes, beside the words that every state keeps -/
def STR (U : State) : Prop := (∀ q ∈ TXs, ∃ a, vk_R q.1 q.2.1 q.2.2 a U) ∧ (∀ w ∈ BD, va_Nw w U) ∧ ∀ i j : Nat, i < 3 → j < 3 → i ≠ j → va_Nc (EXN i) (EXN j) U
theorem va_Nc.warm {C T : String} {s U : State} (hW : s.WarmedH U.vm) (h : va_Nc C T s) : va_Nc C T U := by
  obtain ⟨c, t, h1, h2, h3⟩ := h
  have hA := hW.alike
  exact ⟨c, t, by rw [hA.findClass]; exact h1, by rw [hA.findClass]; exact h2, by rw [hA.assignable]; exact h3⟩
theorem STR.warm {s U : State} (hW : s.WarmedH U.vm) (h : STR s) : STR U := ⟨fun q hq => by
  obtain ⟨a, ha⟩ := h.1 q hq
  exact ⟨a, vk_R.warm hW ha⟩, fun w hw => isBD_warm (List.mem_filter.mp hw).2 hW (h.2.1 w hw), fun i j hi hj hij => va_Nc.warm hW (h.2.2 i j hi hj hij)⟩
/-- a method: its name, code, locals, answer, handlers; frames and words of locals below it; cells and slots that it makes -/
abbrev MT : Type := MethodName × ByteArray × Nat × Option FieldType × List (Nat × Nat × Nat × Nat) × Nat × Nat × Nat × Nat
abbrev MT.y (M : MT) : MethodName := M.1
abbrev MT.code (M : MT) : ByteArray := M.2.1
abbrev MT.nL (M : MT) : Nat := M.2.2.1
abbrev MT.ret (M : MT) : Option FieldType := M.2.2.2.1
abbrev MT.hh (M : MT) : List (Nat × Nat × Nat × Nat) := M.2.2.2.2.1
abbrev MT.fr (M : MT) : Nat := M.2.2.2.2.2.1
abbrev MT.lo (M : MT) : Nat := M.2.2.2.2.2.2.1
abbrev MT.mc (M : MT) : Nat := M.2.2.2.2.2.2.2.1
abbrev MT.ms (M : MT) : Nat := M.2.2.2.2.2.2.2.2
def MT.cwd (M : MT) : Cond := match M.hh with
  | [] => .code M.y M.code M.nL M.ret
  | hh => .codeWith M.y M.code M.nL M.ret hh
def MT.ws (M : MT) : List Cond := M.cwd :: WL
def MT.rm (M : MT) : Room := { frames := M.fr, cells := M.mc, slots := M.ms, locals := M.lo }
/-- the world w lies in the heap, its cells in A -/
def WH (D : va_G) (dA : Nat → ClassId) (ad : Nat → Nat) (w : AW) (A : Nat → Prop) (H : Heap) : Prop := va_P D CL (cw dA ad w) H ∧ va_D A (cw dA ad w)
def PcB (D : va_G) (dA : Nat → ClassId) (ad : Nat → Nat) (w : AW) (sz : Nat) (U : State) : Prop :=
  U.heap.size = sz ∧ WH D dA ad w (fun _ => True) U.heap ∧ va_K D CL (tysOf dA) U ∧ SZ (va_A (cw dA ad w) sz) U U.heap ∧ STR U
def QcB (D : va_G) (dA : Nat → ClassId) (ad : Nat → Nat) (w : AW) (sz : Nat) (K : AO → AW → Prop) : Array Value → State → Outcome → State → Prop := fun _ st o t =>
  ∃ (v : Option Value) (w' : AW) (ad' : Nat → Nat), o = .returned (v.map (cv ad')) ∧ K (.inl v) w' ∧ AG w.length ad w'.length ad' ∧ WH D dA ad' w' (va_A (cw dA ad w) sz) t.heap ∧ va_F (va_A (cw dA ad w) sz) st t
def XcB (D : va_G) (dA : Nat → ClassId) (ad : Nat → Nat) (w : AW) (sz : Nat) (K : AO → AW → Prop) : String → State → State → Prop := fun E st t =>
  ∃ (k : Nat) (w' : AW) (ad' : Nat → Nat), E = EXN k ∧ K (.inr k) w' ∧ AG w.length ad w'.length ad' ∧ WH D dA ad' w' (va_A (cw dA ad w) sz) t.heap ∧ va_F (va_A (cw dA ad w) sz) st t
/-- THE METHOD M, called with av in the world w, comes to an end that K takes -/
def Snd (M : MT) (av : List Value) (w : AW) (K : AO → AW → Prop) : Prop :=
  ∀ (l : Launch), l.stackTraces = false → ∀ (D : va_G) (dA : Nat → ClassId) (ad : Nat → Nat) (sz : Nat),
    vx_Met l M.y M.ws M.rm (va_Pc (av.map (cv ad)) (PcB D dA ad w sz)) (QcB D dA ad w sz K) (XcB D dA ad w sz K) M.mc M.ms (va_A (cw dA ad w) sz)
/-- a frame's surroundings, and what its method owes: the world at its start and its naming, the end -/
abbrev CX : Type := Program × Launch × Env × State × MethodId × Array Value × List Frame × Method × Code
abbrev SX : Type := va_G × (Nat → ClassId) × AW × (Nat → Nat) × (AO → AW → Prop)
def LH (lsA : Array Slot) (nL : Nat) (ls : List (Option Value)) (ad : Nat → Nat) : Prop :=
  lsA.size = nL ∧ lv_wf lsA ∧ ls.length = nL ∧ ∀ (i : Nat) (v : Value), ls[i]? = some (some v) → lsA[i]? = some (.val (cv ad v)) ∧ v.category = 1
def Gd (X : CX) (S : SX) (M : MT) (pc : Nat) (ls : List (Option Value)) (st : List Value) (w : AW) (cs ss : Nat) : Prop := match X, S with
  | (p, l, e, s, m, args, below, meth, c), (D, dA, w0, ad0, K) =>
    ∀ (ad : Nat → Nat) (H : Heap) (locs : List Loc) (lsA : Array Slot), AG w0.length ad0 w.length ad → WH D dA ad w (va_A (cw dA ad0 w0) s.heap.size) H → va_S (va_A (cw dA ad0 w0) s.heap.size) s.heap H locs → LH lsA M.nL ls ad →
      W p l e M.rm s m args below meth c H locs cs ss (vx_MQ below (QcB D dA ad0 w0 s.heap.size K) (XcB D dA ad0 w0 s.heap.size K) args s M.mc M.ms (va_A (cw dA ad0 w0) s.heap.size)) (F0 m pc lsA (st.map (cv ad)))
/-- what is known of the surroundings -/
def Ok (X : CX) (S : SX) (M : MT) : Prop := match X, S with
  | (p, l, e, s, m, args, below, meth, c), (D, dA, w0, ad0, K) =>
    p.tables.exec = Jvm.exec ∧ c.code = M.code ∧ meth.sig.returnType = M.ret ∧ c.maxLocals = M.nL ∧ s.vm.findClass M.y.cls = some m.cls ∧ (∀ w ∈ WL, w.before args s = true) ∧ va_K D CL (tysOf dA) s ∧
    SZ (va_A (cw dA ad0 w0) s.heap.size) s s.heap ∧ STR s ∧ l.stackTraces = false ∧ meth.locks = false ∧ meth.name = M.y.name ∧ c.exceptionTable.toList = tableOf M.hh

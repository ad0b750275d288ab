/-! ===== a method in a part of a world ===== -/
def vsh (k : Nat) : Value → Value
  | .ref i => .ref (k + i)
  | v => v
def esh (k : Nat) : va_E → va_E
  | .inl a => .inl a
  | .inr o => .inr (o.1, o.2.map (vsh k))
def osh (k : Nat) : AO → AO
  | .inl v => .inl (v.map (vsh k))
  | .inr n => .inr n
theorem cv_vsh {ad ad1 : Nat → Nat} {k : Nat} (h : ∀ i, ad (k + i) = ad1 i) (v : Value) : cv ad (vsh k v) = cv ad1 v := by
  cases v with
  | ref i => show Value.ref (ad (k + i)) = Value.ref (ad1 i); rw [h]
  | _ => rfl
theorem cv_vshN {ad ad1 : Nat → Nat} {k n : Nat} (h : ∀ i, i < n → ad (k + i) = ad1 i) {v : Value} (hv : vOk n v = true) : cv ad (vsh k v) = cv ad1 v := by
  cases v with
  | ref i => show Value.ref (ad (k + i)) = Value.ref (ad1 i); rw [h i (of_decide_eq_true hv)]
  | _ => rfl
theorem ce_esh {dA : Nat → ClassId} {ad ad1 : Nat → Nat} {k : Nat} (h : ∀ i, ad (k + i) = ad1 i) (e : va_E) : ce dA ad (esh k e) = ce dA ad1 e := by
  cases e with
  | inl a => rfl
  | inr o =>
    show Sum.inr (o.1, (o.2.map (vsh k)).map (cv ad)) = Sum.inr (o.1, o.2.map (cv ad1))
    rw [List.map_map]
    exact congrArg (fun z => Sum.inr (o.1, z)) (List.map_congr_left (fun v _ => cv_vsh h v))
theorem ce_eshN {dA : Nat → ClassId} {ad ad1 : Nat → Nat} {k n : Nat} (h : ∀ i, i < n → ad (k + i) = ad1 i) {e : va_E} (he : eOk n e = true) : ce dA ad (esh k e) = ce dA ad1 e := by
  cases e with
  | inl a => rfl
  | inr o =>
    show Sum.inr (o.1, (o.2.map (vsh k)).map (cv ad)) = Sum.inr (o.1, o.2.map (cv ad1))
    rw [List.map_map]
    exact congrArg (fun z => Sum.inr (o.1, z)) (List.map_congr_left (fun v hv => cv_vshN h (List.all_eq_true.mp he v hv)))
def big (pre w post : AW) : AW := pre ++ (w.map (esh pre.length) ++ post)
theorem big_len (pre w post : AW) : (big pre w post).length = pre.length + (w.length + post.length) := by simp [big]
theorem big_pre {pre w post : AW} {j : Nat} (h : j < pre.length) : (big pre w post)[j]? = pre[j]? := List.getElem?_append_left h
theorem big_mid {pre w post : AW} {i : Nat} (h : i < w.length) : (big pre w post)[pre.length + i]? = (w[i]?).map (esh pre.length) := by
  unfold big
  rw [List.getElem?_append_right (by omega), Nat.add_sub_cancel_left, List.getElem?_append_left (by simpa using h), List.getElem?_map]
theorem big_post {pre w post : AW} {i : Nat} : (big pre w post)[pre.length + (w.length + i)]? = post[i]? := by
  unfold big
  rw [List.getElem?_append_right (by omega), Nat.add_sub_cancel_left, List.getElem?_append_right (by simp)]
  simp
/-- where a place of the big world lies -/
theorem big_of {pre w post : AW} {j : Nat} {e : va_E} (h : (big pre w post)[j]? = some e) : (j < pre.length ∧ pre[j]? = some e) ∨ (∃ i e0, j = pre.length + i ∧ w[i]? = some e0 ∧ e = esh pre.length e0) ∨ ∃ i, j = pre.length + (w.length + i) ∧ post[i]? = some e := by
  rcases Nat.lt_or_ge j pre.length with h1 | h1
  · rw [big_pre h1] at h
    exact Or.inl ⟨h1, h⟩
  · obtain ⟨i, rfl⟩ : ∃ i, j = pre.length + i := ⟨j - pre.length, by omega⟩
    rcases Nat.lt_or_ge i w.length with h2 | h2
    · rw [big_mid h2] at h
      obtain ⟨e0, h3, h4⟩ := Option.map_eq_some_iff.mp h
      exact Or.inr (Or.inl ⟨i, e0, rfl, h3, h4.symm⟩)
    · obtain ⟨k, rfl⟩ : ∃ k, i = w.length + k := ⟨i - w.length, by omega⟩
      rw [big_post] at h
      exact Or.inr (Or.inr ⟨k, rfl, h⟩)
theorem vx_Met.mono {l : Launch} {y : MethodName} {ws : List Cond} {rm : Room} {Pc Pc' : Array Value → State → Prop} {Qc Qc' : Array Value → State → Outcome → State → Prop} {XC XC' : String → State → State → Prop} {mc ms : Nat} {free free' : Addr → Prop} (h : vx_Met l y ws rm Pc Qc XC mc ms free)
    (hP : ∀ a U, Pc' a U → Pc a U) (hQ : ∀ a st o t, Pc' a st → Qc a st o t → Qc' a st o t) (hX : ∀ a E st t, Pc' a st → XC E st t → XC' E st t) (hf : ∀ q, free q → free' q) : vx_Met l y ws rm Pc' Qc' XC' mc ms free' := by
  intro p e ha hc hk s m args below hfr happ hPc hK
  obtain ⟨n, o, h1, h2, h3, h4⟩ := h p e ha hc hk s m args below hfr happ (hP _ _ hPc) hK
  refine ⟨n, o, h1, h2, h3, ?_⟩
  rcases h4 with ⟨h4, L, h5, h6⟩ | ⟨q, h5, E, ce, L, hx, g1, g2, g3, g4, g5, g6⟩
  · exact Or.inl ⟨hQ _ _ _ _ hPc h4, L, h5, fun z hz => hf _ (h6 z hz)⟩
  · exact Or.inr ⟨q, h5, E, ce, L, hX _ _ _ _ hPc hx, g1, g2, g3, g4, g5, fun z hz => hf _ (g6 z hz)⟩
/-- what the end of a method in a part makes of the whole -/
theorem big_end {D : va_G} {dA : Nat → ClassId} {ad ad' : Nat → Nat} {pre w post w' : AW} {sz : Nat} {st t : State} (hsz : st.heap.size = sz) (hW : WH D dA ad (big pre w post) (fun _ => True) st.heap) (hg : w'.length = w.length ∨ (post = [] ∧ wOk (big pre w post) = true ∧ wOk w' = true))
    (hA : AG w.length (fun i => ad (pre.length + i)) w'.length ad') (hW' : WH D dA ad' w' (va_A (cw dA (fun i => ad (pre.length + i)) w) sz) t.heap) (hF : va_F (va_A (cw dA (fun i => ad (pre.length + i)) w) sz) st t) :
    ∃ ad2 : Nat → Nat, AG (big pre w post).length ad (big pre w' post).length ad2 ∧ WH D dA ad2 (big pre w' post) (va_A (cw dA ad (big pre w post)) sz) t.heap ∧ va_F (va_A (cw dA ad (big pre w post)) sz) st t ∧ (w'.length = w.length → ∀ v, cv ad2 (vsh pre.length v) = cv ad' v) := by
  -- a cell of the part lies in the whole
  have hmid : ∀ {i : Nat} {e : va_E}, w[i]? = some e → (cw dA ad (big pre w post))[pre.length + i]? = some (ad (pre.length + i), ce dA (fun i => ad (pre.length + i)) e) := by
    intro i e he
    have h1 : (big pre w post)[pre.length + i]? = some (esh pre.length e) := by
      rw [big_mid (List.getElem?_eq_some_iff.mp he).1, he]; rfl
    rw [cw_get h1, ce_esh (ad1 := fun i => ad (pre.length + i)) (fun _ => rfl)]
  have hsub : ∀ q, va_A (cw dA (fun i => ad (pre.length + i)) w) sz q → va_A (cw dA ad (big pre w post)) sz q := by
    intro q hq
    rcases hq with ⟨i, e, hi⟩ | hq
    · obtain ⟨e0, h1, h2⟩ := cw_of hi
      cases h2
      exact Or.inl ⟨_, _, hmid h1⟩
    · exact Or.inr hq
  have hF2 : va_F (va_A (cw dA ad (big pre w post)) sz) st t := ⟨hF.1, fun q h1 h2 => hF.2 q h1 fun z => h2 (hsub q z)⟩
  -- a cell outside the part is as it was
  have hout : ∀ {j : Nat} {q : Nat × va_E}, (cw dA ad (big pre w post))[j]? = some q → (∀ i, i < w.length → j ≠ pre.length + i) → t.heap[q.1]? = st.heap[q.1]? ∧ ¬ va_A (cw dA (fun i => ad (pre.length + i)) w) sz q.1 := by
    intro j q hj hne
    have hlt := (hW.1 j q hj).lt
    have hn : ¬ va_A (cw dA (fun i => ad (pre.length + i)) w) sz q.1 := by
      intro z
      rcases z with ⟨i, e, hi⟩ | z
      · obtain ⟨e0, h1, h2⟩ := cw_of hi
        have h3 := hmid h1
        have h4 := hW.2.1 _ _ _ _ h3 hj (by rw [← (Prod.mk.inj h2).1])
        exact hne i (List.getElem?_eq_some_iff.mp h1).1 h4.symm
      · omega
    exact ⟨hF.2 q.1 hlt hn, hn⟩
  refine ⟨fun i => if pre.length ≤ i ∧ i < pre.length + w'.length then ad' (i - pre.length) else ad i, ?_⟩
  generalize had : (fun i => if pre.length ≤ i ∧ i < pre.length + w'.length then ad' (i - pre.length) else ad i) = ad2
  have e2 : ∀ i, ad2 i = if pre.length ≤ i ∧ i < pre.length + w'.length then ad' (i - pre.length) else ad i := fun i => by rw [← had]
  have emid : ∀ i, i < w'.length → ad2 (pre.length + i) = ad' i := fun i hi => by rw [e2, if_pos ⟨by omega, by omega⟩, Nat.add_sub_cancel_left]
  have esame : w'.length = w.length → ad2 = ad := by
    intro h
    have h3 := hA.2.2 h
    funext i
    rw [e2]
    split
    · next hc =>
      rw [h3]
      show ad (pre.length + (i - pre.length)) = ad i
      rw [show pre.length + (i - pre.length) = i by omega]
    · rfl
  have hAG : AG (big pre w post).length ad (big pre w' post).length ad2 := by
    rw [big_len, big_len]
    refine ⟨by have := hA.1; omega, fun i hi => ?_, fun h => esame (by omega)⟩
    rw [e2]
    split
    · next hc =>
      have hlt : i - pre.length < w.length := by
        rcases hg with hg | ⟨hg, -⟩
        · omega
        · rw [hg] at hi; simp at hi; omega
      rw [hA.2.1 _ hlt]
      show ad (pre.length + (i - pre.length)) = ad i
      rw [show pre.length + (i - pre.length) = i by omega]
    · rfl
  -- the places of the new whole
  have hplace : ∀ {j : Nat} {q : Nat × va_E}, (cw dA ad2 (big pre w' post))[j]? = some q → (∃ j0, (cw dA ad (big pre w post))[j0]? = some q ∧ (∀ i, i < w.length → j0 ≠ pre.length + i) ∧ (j < pre.length → j0 = j) ∧ (pre.length ≤ j → pre.length + w'.length ≤ j ∧ j0 + w'.length = j + w.length)) ∨ (∃ i, j = pre.length + i ∧ (cw dA ad' w')[i]? = some q) := by
    intro j q hj
    obtain ⟨e, he, hq⟩ := cw_of hj
    rcases big_of he with ⟨h1, h2⟩ | ⟨i, e0, rfl, h2, rfl⟩ | ⟨i, rfl, h2⟩
    · left
      refine ⟨j, ?_, fun i hi => by omega, fun _ => rfl, fun h => by omega⟩
      have h3 : (big pre w post)[j]? = some e := by rw [big_pre h1]; exact h2
      rw [cw_get h3, hq]
      rcases hg with hg | ⟨-, hg, -⟩
      · rw [esame hg]
      · have hlt : j < (big pre w post).length := (List.getElem?_eq_some_iff.mp h3).1
        rw [hAG.2.1 j hlt, ce_eq hAG.2.1 (List.all_eq_true.mp hg e (List.mem_of_getElem? h3))]
    · right
      refine ⟨i, rfl, ?_⟩
      have hlt : i < w'.length := (List.getElem?_eq_some_iff.mp h2).1
      rw [cw_get h2, hq, emid i hlt]
      rcases hg with hg | ⟨-, -, hg⟩
      · have h3 := hA.2.2 hg
        rw [ce_esh (ad1 := ad') (fun i => by rw [esame hg, h3])]
      · rw [ce_eshN (ad1 := ad') emid (List.all_eq_true.mp hg e0 (List.mem_of_getElem? h2))]
    · left
      have hg2 : w'.length = w.length := by
        rcases hg with hg | ⟨hg, -⟩
        · exact hg
        · rw [hg] at h2; simp at h2
      refine ⟨pre.length + (w.length + i), ?_, fun i hi => by omega, fun h => by omega, fun _ => by omega⟩
      have h3 : (big pre w post)[pre.length + (w.length + i)]? = some e := by rw [big_post]; exact h2
      rw [cw_get h3, hq, esame hg2, hg2]
  refine ⟨hAG, ⟨fun j q hj => ?_, fun i j p q hi hj hpq => ?_, fun j q hj => ?_⟩, hF2, fun h v => cv_vsh (fun i => by rw [esame h, hA.2.2 h]) v⟩
  · rcases hplace hj with ⟨j0, h1, h2, -, -⟩ | ⟨i, rfl, h1⟩
    · exact (hW.1 j0 q h1).kept (hout h1 h2).1
    · exact hW'.1 i q h1
  · rcases hplace hi with ⟨i0, a1, a2, a3, a4⟩ | ⟨i1, rfl, a1⟩ <;> rcases hplace hj with ⟨j0, b1, b2, b3, b4⟩ | ⟨j1, rfl, b1⟩
    · have h0 := hW.2.1 i0 j0 p q a1 b1 hpq
      rcases Nat.lt_or_ge i pre.length with c1 | c1 <;> rcases Nat.lt_or_ge j pre.length with c2 | c2
      · rw [← a3 c1, ← b3 c2, h0]
      · have := a3 c1; have := b4 c2; have := hA.1; omega
      · have := a4 c1; have := b3 c2; have := hA.1; omega
      · have := a4 c1; have := b4 c2; omega
    · exact absurd (hW'.2.2 j1 q b1) (by rw [← hpq]; exact (hout a1 a2).2)
    · exact absurd (hW'.2.2 i1 p a1) (by rw [hpq]; exact (hout b1 b2).2)
    · rw [hW'.2.1 i1 j1 p q a1 b1 hpq]
  · rcases hplace hj with ⟨j0, h1, -, -, -⟩ | ⟨i, rfl, h1⟩
    · exact Or.inl ⟨j0, q.2, h1⟩
    · exact hsub _ (hW'.2.2 i q h1)
/-- THE FRAME -/
theorem Snd.frame {M : MT} {av : List Value} {w : AW} {K : AO → AW → Prop} (pre post : AW)
    (h : Snd M av w (fun o w' => (w'.length = w.length ∨ (o = .inl none ∧ post = [] ∧ wOk (big pre w post) = true ∧ wOk w' = true)) ∧ K (osh pre.length o) (big pre w' post))) : Snd M (av.map (vsh pre.length)) (big pre w post) K := by
  intro l hl D dA ad sz
  have hav : (av.map (vsh pre.length)).map (cv ad) = av.map (cv (fun i => ad (pre.length + i))) := by
    rw [List.map_map]
    exact List.map_congr_left fun v _ => cv_vsh (fun _ => rfl) v
  rw [hav]
  have hmid : ∀ {i : Nat} {q : Nat × va_E}, (cw dA (fun i => ad (pre.length + i)) w)[i]? = some q → (cw dA ad (big pre w post))[pre.length + i]? = some q := by
    intro i q hq
    obtain ⟨e, he, rfl⟩ := cw_of hq
    have h1 : (big pre w post)[pre.length + i]? = some (esh pre.length e) := by
      rw [big_mid (List.getElem?_eq_some_iff.mp he).1, he]; rfl
    rw [cw_get h1, ce_esh (ad1 := fun i => ad (pre.length + i)) (fun _ => rfl)]
  have hsub : ∀ q, va_A (cw dA (fun i => ad (pre.length + i)) w) sz q → va_A (cw dA ad (big pre w post)) sz q := by
    intro q hq
    rcases hq with ⟨i, e, hi⟩ | hq
    · exact Or.inl ⟨_, e, hmid hi⟩
    · exact Or.inr hq
  refine (h l hl D dA (fun i => ad (pre.length + i)) sz).mono (fun a U hP => ?_) (fun a st o t hP hQ => ?_) (fun a E st t hP hX => ?_) hsub
  · obtain ⟨p1, p2, p3, p4, p5, p6⟩ := hP
    exact ⟨p1, p2, ⟨fun i q hq => p3.1 _ q (hmid hq), fun i j x y hi hj hxy => by have := p3.2.1 _ _ x y (hmid hi) (hmid hj) hxy; omega, fun _ _ _ => trivial⟩, p4, p5.narrow hsub, p6⟩
  · obtain ⟨p1, p2, p3, p4, p5, p6⟩ := hP
    obtain ⟨v, w', ad', e1, ⟨hg, hK⟩, hA, hW', hF⟩ := hQ
    obtain ⟨ad2, q1, q2, q3, q4⟩ := big_end p2 p3 (hg.imp id fun z => z.2) hA hW' hF
    refine ⟨v.map (vsh pre.length), big pre w' post, ad2, ?_, hK, q1, q2, q3⟩
    rw [e1]
    rcases hg with hg | hg
    · cases v with
      | none => rfl
      | some v => show Outcome.returned (some _) = Outcome.returned (some _); rw [q4 hg]
    · have : v = none := by have := hg.1; simpa using this
      rw [this]; rfl
  · obtain ⟨p1, p2, p3, p4, p5, p6⟩ := hP
    obtain ⟨k, w', ad', e1, ⟨hg, hK⟩, hA, hW', hF⟩ := hX
    have hg2 : w'.length = w.length := hg.elim id fun z => by cases z.1
    obtain ⟨ad2, q1, q2, q3, -⟩ := big_end p2 p3 (Or.inl hg2) hA hW' hF
    exact ⟨k, big pre w' post, ad2, e1, hK, q1, q2, q3⟩

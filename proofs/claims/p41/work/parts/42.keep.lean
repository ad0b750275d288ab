/-! ===== what keeps the histories, and what they tell of seconds gone by ===== -/
theorem hr_v {h : Nat} (hh : h < 4) : (h = 0 ∧ hr h = 14) ∨ (h = 1 ∧ hr h = 18) ∨ (h = 2 ∧ hr h = 21) ∨ (h = 3 ∧ hr h = 24) := by
  match h, hh with
  | 0, _ => exact Or.inl ⟨rfl, rfl⟩
  | 1, _ => exact Or.inr (Or.inl ⟨rfl, rfl⟩)
  | 2, _ => exact Or.inr (Or.inr (Or.inl ⟨rfl, rfl⟩))
  | 3, _ => exact Or.inr (Or.inr (Or.inr ⟨rfl, rfl⟩))
/-- a history over rows -/
def lastV (ks ss vs : Nat → Int32) (key s first : Int32) : Nat → Int32
  | 0 => first
  | n + 1 => if ks n = key ∧ ss n ≤ s then vs n else lastV ks ss vs key s first n
theorem lastV_congr {ks ss vs ks2 ss2 vs2 : Nat → Int32} {key s first : Int32} : ∀ n, (∀ i, i < n → ks i = ks2 i ∧ ss i = ss2 i ∧ vs i = vs2 i) → lastV ks ss vs key s first n = lastV ks2 ss2 vs2 key s first n
  | 0, _ => rfl
  | n + 1, h => by
    obtain ⟨a, b, c⟩ := h n (by omega)
    rw [lastV, lastV, lastV_congr n (fun i hi => h i (by omega)), a, b, c]
theorem hvF_last {q : XS} {h : Nat} (hh : h < 4) {key s first : Int32} : ∀ n, n ≤ 60 → hvF q h key s first n = lastV (q.1 (hr h + 0)) (q.1 (hr h + 1)) (q.1 (hr h + 2)) key s first n
  | 0, _ => rfl
  | n + 1, h0 => by rw [hvF, lastV, hvF_last hh n (by omega), xg_h hh (by decide) (by omega), xg_h hh (by decide) (by omega), xg_h hh (by decide) (by omega)]
theorem hval_last {q : XS} {h : Nat} (hh : h < 4) (hc : q.2 (2 + h) ≤ 60) {key s first : Int32} : hval q h key s first = lastV (q.1 (hr h + 0)) (q.1 (hr h + 1)) (q.1 (hr h + 2)) key s first (q.2 (2 + h)) := hvF_last hh _ hc
theorem piF_last {q : XS} {n s : Int32} : ∀ k, piF q n s k = lastV (q.1 12) (q.1 14) (q.1 13) n s (n - n / 5 * 5) k
  | 0 => rfl
  | k + 1 => by rw [piF, lastV, piF_last k]
/-- the state's histories are the same -/
def HE (q p : XS) : Prop := ∀ h, h < 4 → q.2 (2 + h) = p.2 (2 + h) ∧ ∀ j, j < 3 → q.1 (hr h + j) = p.1 (hr h + j)
theorem HE.val {q p : XS} (H : HE q p) {h : Nat} (hh : h < 4) (hc : q.2 (2 + h) ≤ 60) {key s first : Int32} : hval p h key s first = hval q h key s first := by
  obtain ⟨e, er⟩ := H h hh
  rw [hval_last hh hc, hval_last hh (by omega), e, er 0 (by decide), er 1 (by decide), er 2 (by decide)]
theorem HE.hi {q p : XS} (H : HE q p) {h now : Nat} (I : HI q h now) : HI p h now := by
  obtain ⟨e, er⟩ := H h I.hh
  have es : hst p h = hst q h := by funext i; unfold hst; rw [er 1 (by decide)]
  exact ⟨I.hh, by rw [← e]; exact I.cnt, I.top, by rw [← e, es, ← er 1 (by decide)]; exact I.lo, by rw [← e, es]; exact I.mono⟩
theorem HE.ha {q p : XS} (H : HE q p) {now : Nat} (I : HA q now) : HA p now := by
  have h4 : q.2 4 = p.2 4 := (H 2 (by decide)).1
  have h5 : q.2 5 = p.2 5 := (H 3 (by decide)).1
  have r0 : q.1 21 = p.1 21 := (H 2 (by decide)).2 0 (by decide)
  have r1 : q.1 22 = p.1 22 := (H 2 (by decide)).2 1 (by decide)
  have r2 : q.1 24 = p.1 24 := (H 3 (by decide)).2 0 (by decide)
  have r3 : q.1 25 = p.1 25 := (H 3 (by decide)).2 1 (by decide)
  exact ⟨H.hi I.h0, H.hi I.h1, H.hi I.h2, by rw [← h4, ← h5]; exact I.c, by rw [← r0, ← r1, ← r2, ← r3]; exact I.r⟩
theorem HI.later {q : XS} {h now n2 : Nat} (I : HI q h now) (h1 : now ≤ n2) (h2 : n2 ≤ 20000) : HI q h n2 := ⟨I.hh, I.cnt, h2, fun i hi => ⟨(I.lo i hi).1, by have := (I.lo i hi).2; omega⟩, I.mono⟩
theorem HA.later {q : XS} {now n2 : Nat} (I : HA q now) (h1 : now ≤ n2) (h2 : n2 ≤ 20000) : HA q n2 := ⟨I.h0.later h1 h2, I.h1.later h1 h2, I.h2.later h1 h2, I.c, I.r⟩
/-- what is told of seconds before now stays -/
def SE (q p : XS) (now : Nat) : Prop := ∀ h, h < 4 → ∀ (key first : Int32) (t : Nat), t < now → hval p h key (nI t) first = hval q h key (nI t) first
theorem HE.se {q p : XS} (H : HE q p) {now : Nat} (I : HA q now) : SE q p now := by
  intro h hh key first t _
  have c0 := I.h0.cnt
  have c1 := I.h1.cnt
  have c2 := I.h2.cnt
  have c3 := I.h3.cnt
  refine H.val hh ?_
  match h, hh with
  | 0, _ => exact c0
  | 1, _ => exact c1
  | 2, _ => exact c2
  | 3, _ => exact c3
theorem SE.trans {q p r : XS} {now : Nat} (a : SE q p now) (b : SE p r now) : SE q r now := fun h hh key first t ht => (b h hh key first t ht).trans (a h hh key first t ht)
theorem SE.fn {q p : XS} {now : Nat} (a : SE q p now) {n car per : Int32} {t : Nat} (ht : t < now) : Fn p n car per t = Fn q n car per t := by
  have e0 : placeAt p n (nI t) = placeAt q n (nI t) := a 0 (by decide) _ _ t ht
  unfold Fn Pn caT
  rw [e0, a 1 (by decide) _ _ t ht, a 2 (by decide) _ _ t ht, a 3 (by decide) _ _ t ht]
/-- an entry more, in rows -/
theorem hadd_n {q : XS} {h : Nat} (hh : h < 4) (hc : q.2 (2 + h) < 60) (key start v : Int32) : hadd q h key start v = setC (setR (setR (setR q (hr h + 0) (upd (q.1 (hr h + 0)) (q.2 (2 + h)) key)) (hr h + 1) (upd (q.1 (hr h + 1)) (q.2 (2 + h)) start)) (hr h + 2) (upd (q.1 (hr h + 2)) (q.2 (2 + h)) v)) (2 + h) (q.2 (2 + h) + 1) := by
  unfold hadd
  have hlt : nI (q.2 (2 + h)) < 60 := nI_lt (b := 60) hc (by decide)
  rw [if_pos hlt, xs_n (by rw [hr_rl hh (by decide)]; exact hc), xs_n (by rw [hr_rl hh (by decide)]; exact hc), xs_n (by rw [hr_rl hh (by decide)]; exact hc)]
  have e1 : (setR q (hr h + 0) (upd (q.1 (hr h + 0)) (q.2 (2 + h)) key)).1 (hr h + 1) = q.1 (hr h + 1) := if_neg (by omega)
  rw [e1]
  have e2 : (setR (setR q (hr h + 0) (upd (q.1 (hr h + 0)) (q.2 (2 + h)) key)) (hr h + 1) (upd (q.1 (hr h + 1)) (q.2 (2 + h)) start)).1 (hr h + 2) = q.1 (hr h + 2) := (if_neg (by omega)).trans (if_neg (by omega))
  rw [e2]
theorem hadd_own {q : XS} {h : Nat} (hh : h < 4) (hc : q.2 (2 + h) < 60) (key start v : Int32) :
    (hadd q h key start v).1 (hr h + 0) = upd (q.1 (hr h + 0)) (q.2 (2 + h)) key ∧ (hadd q h key start v).1 (hr h + 1) = upd (q.1 (hr h + 1)) (q.2 (2 + h)) start ∧ (hadd q h key start v).1 (hr h + 2) = upd (q.1 (hr h + 2)) (q.2 (2 + h)) v ∧ (hadd q h key start v).2 (2 + h) = q.2 (2 + h) + 1 := by
  rw [hadd_n hh hc]
  exact ⟨(if_neg (by omega)).trans ((if_neg (by omega)).trans (if_pos rfl)), (if_neg (by omega)).trans (if_pos rfl), if_pos rfl, if_pos rfl⟩
theorem hadd_r {q : XS} {h : Nat} (hh : h < 4) (hc : q.2 (2 + h) < 60) (key start v : Int32) {k : Nat} (h0 : k ≠ hr h + 0) (h1 : k ≠ hr h + 1) (h2 : k ≠ hr h + 2) : (hadd q h key start v).1 k = q.1 k := by
  rw [hadd_n hh hc]
  exact (if_neg h2).trans ((if_neg h1).trans (if_neg h0))
theorem hadd_c {q : XS} {h : Nat} (hh : h < 4) (hc : q.2 (2 + h) < 60) (key start v : Int32) {k : Nat} (h0 : k ≠ 2 + h) : (hadd q h key start v).2 k = q.2 k := by
  rw [hadd_n hh hc]
  exact if_neg h0
theorem hadd_else {q : XS} {h g : Nat} (hh : h < 4) (hg : g < 4) (hne : g ≠ h) (hc : q.2 (2 + h) < 60) (key start v : Int32) : (hadd q h key start v).2 (2 + g) = q.2 (2 + g) ∧ ∀ j, j < 3 → (hadd q h key start v).1 (hr g + j) = q.1 (hr g + j) := by
  refine ⟨hadd_c hh hc key start v (by omega), fun j hj => ?_⟩
  have a := hr_v hh
  have b := hr_v hg
  exact hadd_r hh hc key start v (by omega) (by omega) (by omega)
theorem hadd_hi {q : XS} {h now : Nat} (I : HI q h now) (hc : q.2 (2 + h) < 60) (key v : Int32) : HI (hadd q h key (nI now) v) h now := by
  obtain ⟨-, e1, -, e3⟩ := hadd_own I.hh hc key (nI now) v
  have hT := I.top
  have es : ∀ i, hst (hadd q h key (nI now) v) h i = if i = q.2 (2 + h) then now else hst q h i := fun i => by
    unfold hst
    rw [e1, upd_a]
    by_cases hi : i = q.2 (2 + h)
    · rw [if_pos hi, if_pos hi, nI_clamp (by omega)]
    · rw [if_neg hi, if_neg hi]
  refine ⟨I.hh, by rw [e3]; omega, hT, fun i hi => ?_, fun i j h1 h2 => ?_⟩
  · rw [es, e1, upd_a]
    by_cases h1 : i = q.2 (2 + h)
    · rw [if_pos h1, if_pos h1]; exact ⟨rfl, Nat.le_refl _⟩
    · rw [if_neg h1, if_neg h1]; exact I.lo i (by rw [e3] at hi; omega)
  · rw [es, es]
    rw [e3] at h2
    by_cases h4 : j = q.2 (2 + h)
    · rw [if_pos h4]
      by_cases h5 : i = q.2 (2 + h)
      · rw [if_pos h5]; exact Nat.le_refl _
      · rw [if_neg h5]; exact (I.lo i (by omega)).2
    · rw [if_neg h4, if_neg (by omega)]
      exact I.mono i j h1 (by omega)
theorem hadd_ho {q : XS} {h g now : Nat} (hh : h < 4) (I : HI q g now) (hne : g ≠ h) (hc : q.2 (2 + h) < 60) (key start v : Int32) : HI (hadd q h key start v) g now := by
  obtain ⟨e, er⟩ := hadd_else hh I.hh hne hc key start v
  have es : hst (hadd q h key start v) g = hst q g := by funext i; unfold hst; rw [er 1 (by decide)]
  exact ⟨I.hh, by rw [e]; exact I.cnt, I.top, by rw [e, es, er 1 (by decide)]; exact I.lo, by rw [e, es]; exact I.mono⟩
/-- the value of a key behind the entry -/
theorem hadd_val {q : XS} {h : Nat} (hh : h < 4) (hc : q.2 (2 + h) < 60) (key start v k2 s first : Int32) : hval (hadd q h key start v) h k2 s first = if key = k2 ∧ start ≤ s then v else hval q h k2 s first := by
  obtain ⟨e0, e1, e2, e3⟩ := hadd_own hh hc key start v
  rw [hval_last hh (by rw [e3]; omega), hval_last hh (by omega), e0, e1, e2, e3, lastV, pk_us, pk_us, pk_us]
  by_cases h1 : key = k2 ∧ start ≤ s
  · rw [if_pos h1, if_pos h1]
  · rw [if_neg h1, if_neg h1]
    exact lastV_congr _ (fun i hi => ⟨pk_un (by omega), pk_un (by omega), pk_un (by omega)⟩)
theorem hadd_vo {q : XS} {h g : Nat} (hh : h < 4) (hg : g < 4) (hne : g ≠ h) (hc : q.2 (2 + h) < 60) (hc2 : q.2 (2 + g) ≤ 60) (key start v k2 s first : Int32) : hval (hadd q h key start v) g k2 s first = hval q g k2 s first := by
  obtain ⟨e, er⟩ := hadd_else hh hg hne hc key start v
  rw [hval_last hg (by rw [e]; exact hc2), hval_last hg hc2, e, er 0 (by decide), er 1 (by decide), er 2 (by decide)]
theorem hadd_se {q : XS} {h now : Nat} (hh : h < 4) (hc : q.2 (2 + h) < 60) (hcs : ∀ g, g < 4 → q.2 (2 + g) ≤ 60) (hT : now ≤ 20000) (key v : Int32) : SE q (hadd q h key (nI now) v) now := by
  intro g hg k2 first t ht
  by_cases hne : g = h
  · subst hne
    rw [hadd_val hh hc, if_neg (fun z => absurd z.2 (nI_ge (by omega) (by omega)))]
  · exact hadd_vo hh hg hne hc (hcs g hg) _ _ _ _ _ _

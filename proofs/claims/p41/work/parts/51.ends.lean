/-! ===== a call ends; a loss is paid ===== -/
theorem setR_comm (q : XS) {j k : Nat} (h : j ≠ k) (f g : Nat → Int32) : setR (setR q j f) k g = setR (setR q k g) j f := by
  refine Prod.ext (funext fun i => ?_) rfl
  show (if i = k then g else if i = j then f else q.1 i) = if i = j then f else if i = k then g else q.1 i
  by_cases h1 : i = k
  · rw [if_pos h1, if_neg (fun z => h (z.symm.trans h1)), if_pos h1]
  · rw [if_neg h1, if_neg h1]
theorem setC_comm (q : XS) (j n : Nat) (k : Nat) (f : Nat → Int32) : setC (setR q k f) j n = setR (setC q j n) k f := rfl
theorem tkF_eq (q : XS) (c d : Int32) (n : Nat) : tkF q c d n = setR q 13 ((tkF q c d n).1 13) := by
  refine Prod.ext (funext fun j => ?_) (tkF_c q c d n)
  show _ = if j = 13 then _ else q.1 j
  by_cases h : j = 13
  · rw [if_pos h, h]
  · rw [if_neg h]; exact tkF_r q c d j h n
theorem tkF_13 {q : XS} {w : Nat → Int32} {k : Nat} (hk : k < 60) (h34 : ∀ i, i < 300 → q.1 34 i = w i) (hw : ∀ i, vp_in (w i) 5) (d : Int32) {a b : Nat} (hab : a < b) (hb : b < 5) : ∀ n, n ≤ 4 → (∀ i, i < n → ¬ w (5 * k + i) = w (5 * k + i + 1)) → (tkF q (nI k) d n).1 13 (5 * a + b) = q.1 13 (5 * a + b) + nI (pcR w k (nI a) (nI b) n) * d
  | 0, _, _ => by show q.1 13 (5 * a + b) = q.1 13 (5 * a + b) + nI 0 * d; rw [nI_0, Int32.zero_mul, Int32.add_zero]
  | n + 1, hn, hd => by
    have ih := tkF_13 hk h34 hw d hab hb n (by omega) (fun i hi => hd i (by omega))
    have h1 := hd n (by omega)
    obtain ⟨u, hu, eu⟩ := vp_in_of (hw (5 * k + n)) (by decide)
    obtain ⟨v, hv, ev⟩ := vp_in_of (hw (5 * k + n + 1)) (by decide)
    have s34 : ∀ i, i < 300 → (tkF q (nI k) d n).1 34 i = w i := fun i hi => by rw [tkF_r q _ d 34 (by decide) n]; exact h34 i hi
    have c1 : cstop (tkF q (nI k) d n) (nI k) (nI n) = nI u := by
      unfold cstop
      rw [show nI k * 5 = nI (k * 5) from pk_mul k 5, nI_add, xg_n (k := 34) (show k * 5 + n < 300 by omega), s34 _ (by omega), show k * 5 + n = 5 * k + n by omega, eu]
    have c2 : cstop (tkF q (nI k) d n) (nI k) (nI n + 1) = nI v := by
      unfold cstop
      rw [nI_1, show nI k * 5 = nI (k * 5) from pk_mul k 5, nI_add, xg_n (k := 34) (show k * 5 + (n + 1) < 300 by omega), s34 _ (by omega), show k * 5 + (n + 1) = 5 * k + n + 1 by omega, ev]
    have huv : ¬ u = v := fun z => h1 (by rw [eu, ev, z])
    have hT : tkR w k (nI a) (nI b) n ↔ (u = a ∧ v = b) ∨ (u = b ∧ v = a) := by
      unfold tkR
      rw [eu, ev, nI_eq (by omega) (by omega), nI_eq (by omega) (by omega), nI_eq (by omega) (by omega), nI_eq (by omega) (by omega)]
    have key : ∀ j, j = (if u < v then 5 * u + v else 5 * v + u) → (tkF q (nI k) d (n + 1)).1 13 (5 * a + b) = if 5 * a + b = j then (tkF q (nI k) d n).1 13 (5 * a + b) + d else (tkF q (nI k) d n).1 13 (5 * a + b) := fun j hj => by
      rw [tkF, c1, c2]
      unfold xtake
      have eb : btw (nI u) (nI v) = nI j := by
        by_cases hlt : u < v
        · rw [(btw_lt hlt hv).1, hj, if_pos hlt]
        · rw [(btw_lt (show v < u by omega) hu).2, hj, if_neg hlt]
      have hj2 : j < 25 := by split at hj <;> omega
      rw [eb, xad_n (k := 13) (show j < 25 from hj2)]
      show upd _ j _ _ = _
      rw [upd_a]
      by_cases hjj : 5 * a + b = j
      · rw [if_pos hjj, if_pos hjj, hjj]
      · rw [if_neg hjj, if_neg hjj]
    rw [key _ rfl, ih, pcR]
    by_cases ht : tkR w k (nI a) (nI b) n
    · have ht2 := hT.mp ht
      have e2 : 5 * a + b = (if u < v then 5 * u + v else 5 * v + u) := by
        rcases ht2 with ⟨r, s⟩ | ⟨r, s⟩
        · rw [if_pos (by omega)]; omega
        · rw [if_neg (by omega)]; omega
      rw [if_pos e2, if_pos ht, nI_succ]
      grind
    · have e2 : ¬ 5 * a + b = (if u < v then 5 * u + v else 5 * v + u) := fun z => ht (hT.mpr (by
        by_cases hlt : u < v
        · rw [if_pos hlt] at z; left; omega
        · rw [if_neg hlt] at z; right; omega))
      rw [if_neg e2, if_neg ht, Nat.add_zero]
theorem wiR_none {st a b : Nat → Int32} {n : Int32} : ∀ m, (∀ j, j < m → st j = 0 → ¬ (a j = n ∨ b j = n)) → wiR st a b n m = -1
  | 0, _ => rfl
  | m + 1, h => by rw [wiR, if_neg (fun z => h m (by omega) z.1 z.2), wiR_none m (fun j hj => h j (by omega))]
theorem wiR_e {st st2 a b a2 b2 : Nat → Int32} {n : Int32} : ∀ m, (∀ j, j < m → ((st j = 0 ∧ (a j = n ∨ b j = n)) ↔ (st2 j = 0 ∧ (a2 j = n ∨ b2 j = n)))) → wiR st a b n m = wiR st2 a2 b2 n m
  | 0, _ => rfl
  | m + 1, h => by
    rw [wiR, wiR, wiR_e m (fun j hj => h j (by omega))]
    by_cases hc : st m = 0 ∧ (a m = n ∨ b m = n)
    · rw [if_pos hc, if_pos ((h m (by omega)).mp hc)]
    · rw [if_neg hc, if_neg (fun z => hc ((h m (by omega)).mpr z))]
theorem ucR_e {w w2 st st2 : Nat → Int32} {lam lam2 : Nat → Nat} {a b : Int32} : ∀ m, (∀ j, j < m → st j = st2 j ∧ lam j = lam2 j ∧ pcR w j a b (lam j) = pcR w2 j a b (lam j)) → ucR w st lam a b m = ucR w2 st2 lam2 a b m
  | 0, _ => rfl
  | m + 1, h => by
    obtain ⟨h1, h2, h3⟩ := h m (by omega)
    rw [ucR, ucR, ucR_e m (fun j hj => h j (by omega)), h1, ← h2, h3]
theorem ucR_end {w st : Nat → Int32} {lam : Nat → Nat} {a b v : Int32} {k : Nat} (h0 : st k = 0) (hv : ¬ v = 0) : ∀ m, k < m → ucR w st lam a b m = ucR w (upd st k v) lam a b m + pcR w k a b (lam k)
  | 0, h => absurd h (by omega)
  | m + 1, h => by
    rw [ucR, ucR]
    by_cases hm : k = m
    · subst hm
      rw [if_pos h0, pk_us, if_neg hv, Nat.add_zero]
      refine congrArg (· + pcR w k a b (lam k)) (ucR_e k (fun j hj => ⟨(pk_un (by omega)).symm, rfl, rfl⟩))
    · rw [ucR_end h0 hv m (by omega), pk_un (by omega)]
      omega
theorem RX.cd {x t : XS} (h : RX x t) {k : Nat} (hk : k < x.2 6) : ∃ m, m < 12 ∧ x.1 28 k = nI m := by
  have := h.c60
  obtain ⟨m, hm, e⟩ := vp_in_of (h.g17 k) (by decide)
  exact ⟨m, hm, (h.r28 k (by omega)).trans e⟩
def endX (x : XS) (k : Nat) (v : Int32) (f : Nat → Int32) (c1 c2 : Nat) : XS := setR (setR (setR (setR (setR x 30 (upd (x.1 30) k (nI (x.2 0)))) 31 (upd (x.1 31) k v)) 13 f) 6 (upd (x.1 6) c1 (-1))) 6 (upd (upd (x.1 6) c1 (-1)) c2 (-1))
theorem xend_n {x t : XS} (h : RX x t) {k : Nat} (hk : k < x.2 6) {v : Int32} {c2 : Nat} (h2 : c2 < 12) (e2 : x.1 28 k = nI c2) : ∃ f, xend x (nI k) v (lm t k) = endX x k v f (cn x k) c2 ∧ ∀ a b, a < b → b < 5 → f (5 * a + b) = x.1 13 (5 * a + b) + nI (pcR (t.1 20) k (nI a) (nI b) (lm t k)) * (-1) := by
  have h6 := h.c60
  obtain ⟨h1, e1⟩ := h.cn hk
  have ef : cfin x (nI k) (nI (x.2 0)) v = setR (setR x 30 (upd (x.1 30) k (nI (x.2 0)))) 31 (upd (x.1 31) k v) := by
    unfold cfin
    rw [xs_n (k := 30) (show k < 60 by omega), xs_n (k := 31) (show k < 60 by omega), setR_o (k := 30) (j := 31) _ (by decide)]
  refine ⟨(tkF (cfin x (nI k) (nI (x.2 0)) v) (nI k) (-1) (lm t k)).1 13, ?_, fun a b hab hb => ?_⟩
  · unfold xend endX
    rw [tkF_eq]
    generalize (tkF (cfin x (nI k) (nI (x.2 0)) v) (nI k) (-1) (lm t k)).1 13 = f
    rw [ef]
    have a27 : xg (setR (setR (setR x 30 (upd (x.1 30) k (nI (x.2 0)))) 31 (upd (x.1 31) k v)) 13 f) 27 (nI k) = nI (cn x k) := by
      rw [xg_n (k := 27) (show k < 60 by omega), setR_o (k := 13) (j := 27) _ (by decide), setR_o (k := 31) (j := 27) _ (by decide), setR_o (k := 30) (j := 27) _ (by decide)]; exact e1
    rw [a27, xs_n (k := 6) (show _ < 12 from h1)]
    have a28 : ∀ g, xg (setR (setR (setR (setR x 30 (upd (x.1 30) k (nI (x.2 0)))) 31 (upd (x.1 31) k v)) 13 f) 6 g) 28 (nI k) = nI c2 := fun g => by
      rw [xg_n (k := 28) (show k < 60 by omega), setR_o (k := 6) (j := 28) _ (by decide), setR_o (k := 13) (j := 28) _ (by decide), setR_o (k := 31) (j := 28) _ (by decide), setR_o (k := 30) (j := 28) _ (by decide)]; exact e2
    rw [a28, xs_n (k := 6) (show _ < 12 from h2)]
    rfl
  · have hd : ∀ i, i < lm t k → ¬ t.1 20 (5 * k + i) = t.1 20 (5 * k + i + 1) := fun i hi => h.w20 k hk i (i + 1) (by omega) (by have : i < (t.1 19 k).toNatClampNeg := hi; omega)
    rw [tkF_13 (by omega) (w := t.1 20) (fun i hi => by rw [ef]; exact h.r34 i hi) h.g20 (-1) hab hb _ (h.g19 k).2 hd]
    rw [ef]
    rfl

theorem rx_ended {x t : XS} (h : RX x t) {k : Nat} (hk : k < x.2 6) (h0 : x.1 31 k = 0) {v : Int32} (hv : ¬ v = 0) {f : Nat → Int32} {c2 : Nat} (h2 : c2 < 12) (e2 : x.1 28 k = nI c2) (hf : ∀ a b, a < b → b < 5 → f (5 * a + b) = x.1 13 (5 * a + b) + nI (pcR (t.1 20) k (nI a) (nI b) (lm t k)) * (-1)) : RX (endX x k v f (cn x k) c2) (setR t 18 (upd (t.1 18) k v)) := by
  have h6 := h.c60
  have h20 := h.n20
  obtain ⟨h1, e1⟩ := h.cn hk
  have s0 : t.1 18 k = 0 := (h.r31 k (by omega)).symm.trans h0
  have he : HE x (endX x k v f (cn x k) c2) := HE.of (fun j h1 h2 => by unfold endX; rw [setR_o _ (by omega), setR_o _ (by omega), setR_o _ (by omega), setR_o _ (by omega), setR_o _ (by omega)]) (fun j h1 h2 => rfl)
  have eE : ∀ j, eN (endX x k v f (cn x k) c2) j = eN x j := fun j => by
    show (if upd (x.1 31) k v j = 0 then x.2 0 else (upd (x.1 30) k (nI (x.2 0)) j).toNatClampNeg) = if x.1 31 j = 0 then x.2 0 else (x.1 30 j).toNatClampNeg
    rw [upd_a, upd_a]
    by_cases hj : j = k
    · subst hj; rw [if_pos rfl, if_neg hv, if_pos rfl, if_pos h0, nI_clamp (by omega)]
    · rw [if_neg hj, if_neg hj]
  have eT : ∀ j, j < x.2 6 → t.1 21 j = nI (eN (endX x k v f (cn x k) c2) j - bN x j) := fun j hj => by rw [eE]; exact h.rT j hj
  have c28 : x.1 28 k = t.1 17 k := h.r28 k (by omega)
  have c27 : x.1 27 k = t.1 16 k := h.r27 k (by omega)
  have eW : ∀ n, n < 12 → upd (upd (x.1 6) (cn x k) (-1)) c2 (-1) n = wiR (upd (t.1 18) k v) (t.1 16) (t.1 17) (nI n) (t.2 5) := fun n hn => by
    rw [upd_a, upd_a]
    by_cases hin : n = cn x k ∨ n = c2
    · have hnone : ∀ j, j < t.2 5 → upd (t.1 18) k v j = 0 → ¬ (t.1 16 j = nI n ∨ t.1 17 j = nI n) := fun j hj hz => by
        rw [upd_a] at hz
        by_cases hjk : j = k
        · rw [if_pos hjk] at hz; exact absurd hz hv
        · rw [if_neg hjk] at hz
          obtain ⟨q1, q2, q3, q4⟩ := h.tl k j hk (by rw [h.cC]; exact hj) hjk s0 hz
          rw [← c27, e1] at q1 q2
          rw [← c28, e2] at q3 q4
          rintro (z | z) <;> rcases hin with r | r <;> subst r
          · exact q1 z.symm
          · exact q3 z.symm
          · exact q2 z.symm
          · exact q4 z.symm
      rw [wiR_none _ hnone]
      rcases hin with r | r
      · by_cases r2 : n = c2
        · rw [if_pos r2]
        · rw [if_neg r2, if_pos r]
      · rw [if_pos r]
    · rw [if_neg (fun z => hin (Or.inr z)), if_neg (fun z => hin (Or.inl z)), h.rW n hn]
      refine wiR_e _ (fun j hj => ?_)
      rw [upd_a]
      by_cases hjk : j = k
      · subst hjk
        rw [if_pos rfl]
        refine ⟨fun z => ?_, fun z => absurd z.1 hv⟩
        rw [← c27, ← c28, e1, e2, nI_eq (by omega) (by omega), nI_eq (by omega) (by omega)] at z
        exact absurd (z.2.imp Eq.symm Eq.symm) hin
      · rw [if_neg hjk]
  have eK : ∀ a b, a < b → b < 5 → f (5 * a + b) = nI (ucR (t.1 20) (upd (t.1 18) k v) (fun k => (t.1 19 k).toNatClampNeg) (nI a) (nI b) (t.2 5)) := fun a b hab hb => by
    rw [hf a b hab hb, h.rK a b hab hb, ucR_end s0 hv (t.2 5) (by rw [← h.cC]; exact hk), ← nI_add]
    grind
  have eTl : ∀ i j, i < x.2 6 → j < x.2 6 → ¬ j = i → upd (t.1 18) k v i = 0 → upd (t.1 18) k v j = 0 → ¬ t.1 16 i = t.1 16 j ∧ ¬ t.1 16 i = t.1 17 j ∧ ¬ t.1 17 i = t.1 16 j ∧ ¬ t.1 17 i = t.1 17 j := fun i j hi hj hij z1 z2 => by
    rw [upd_a] at z1 z2
    have n1 : ¬ i = k := fun z => by rw [if_pos z] at z1; exact hv z1
    have n2 : ¬ j = k := fun z => by rw [if_pos z] at z2; exact hv z2
    rw [if_neg n1] at z1
    rw [if_neg n2] at z2
    exact h.tl i j hi hj hij z1 z2
  have eTM : TM (endX x k v f (cn x k) c2) := ⟨h6, fun j hj => by
    obtain ⟨t1, t2, t3, t4⟩ := h.tm.2 j hj
    refine ⟨t1, fun hz => ?_, by rw [eE]; exact t3, by rw [eE]; exact t4⟩
    rw [eE]
    show upd (x.1 30) k (nI (x.2 0)) j = _
    have hz2 : ¬ upd (x.1 31) k v j = 0 := hz
    rw [upd_a] at hz2 ⊢
    by_cases hjk : j = k
    · subst hjk
      rw [if_pos rfl]
      unfold eN
      rw [if_pos h0]
    · rw [if_neg hjk] at hz2 ⊢
      exact t2 hz2⟩
  have eZ : ∀ j, x.2 6 ≤ j → j < 60 → upd (x.1 31) k v j = 0 ∧ x.1 32 j = 0 ∧ t.1 21 j = 0 := fun j h1 h2 => by
    rw [pk_un (by omega)]; exact h.z j h1 h2
  exact ⟨h.cN, h.cL, h.cP, h.cS, h.cD, h.cC, h.rO, h.rD, h.rB, h.rY, h.rE, h.rP, h.rA, h.rL, h.rS, h.r14, h.r15, h.r16, h.r17, h.r27, h.r28, (equ h.r31 rfl), h.r32, h.r34, h.r33, (eT), (eW), h.rC, h.rQ, h.rN, (eK), h.pD, h.pC, h.pR, h.g13, h.g16, h.g17, h.g8, h.g20, h.g19, h.gY, h.gD, h.gB, h.w20, (eZ), (eTl), (he.ha h.ha), (eTM), (BK.keep h.bk ⟨he.se h.ha, fun j _ => ⟨rfl, rfl, eE j⟩⟩ h.tm rfl rfl rfl rfl (fun _ _ => rfl))⟩
theorem s_hangUp {x t : XS} (h : RX x t) {c : Int32} {m : Nat} (hm : m = lm t c.toNatClampNeg) : Same (ka 1 0 2) (xHangUp x c m) (mHangUp t c) := by
  unfold xHangUp mHangUp
  by_cases hn : noL (t.2 5) c
  · rw [if_pos ((noK_L h c).mpr hn), if_pos hn]; exact Same.no h (by decide) rfl (by decide) (by decide)
  · rw [if_neg (fun z => hn ((noK_L h c).mp z)), if_neg hn]
    obtain ⟨k, hk, rfl⟩ := nK h hn
    have h6 := h.c60
    rw [nI_clamp (by omega)] at hm
    subst hm
    rw [xg_n (k := 31) (show k < 60 by omega), mg_n (by omega), ← h.r31 k (by omega)]
    by_cases h0 : x.1 31 k = 0
    · rw [if_pos h0, if_pos h0, mg_n (by omega), mw_n (by omega)]
      obtain ⟨c2, h2, e2⟩ := h.cd hk
      obtain ⟨f, e3, hf⟩ := xend_n h hk (v := 1) h2 e2
      rw [e3]
      have hr := rx_ended (h.z0 0) hk h0 (v := 1) (by decide) h2 e2 hf
      refine Same.yes hr rfl ?_
      exact lasted_n hr hk
    · rw [if_neg h0, if_neg h0]; exact Same.no h (by decide) rfl (by decide) (by decide)
theorem xpayLoss_n {q : XS} {a b : Nat} (ha : a < 5) (hb : b < 5) : xpayLoss q (nI a) (nI b) = setR (setR q 8 (upd (upd (q.1 8) a (q.1 8 a + -5)) b (upd (q.1 8) a (q.1 8 a + -5) b + 5))) 10 (upd (q.1 10) a (q.1 10 a + 5)) := by
  unfold xpayLoss
  rw [xgive_n ha hb, xad_n (k := 10) (show a < 5 from ha), setR_o (k := 8) (j := 10) _ (by decide)]
theorem mpay_n {q : XS} {a b : Nat} (ha : a < 5) (hb : b < 5) : mpay q (nI a) (nI b) = setR (setR q 4 (upd (upd (q.1 4) a (q.1 4 a - 5)) b (upd (q.1 4) a (q.1 4 a - 5) b + 5))) 6 (upd (q.1 6) a (q.1 6 a + 5)) := by
  unfold mpay
  rw [mw_n (i := a) (by omega), mg_n (i := a) (by omega), mw_n (i := b) (by omega), mg_n (i := b) (by omega), setR_setR, mw_n (i := a) (by omega), mg_n (i := a) (by omega), setR_o (k := 4) (j := 6) _ (by decide)]
  rfl
theorem RX.loss {x t : XS} (h : RX x t) {a b : Nat} (ha : a < 5) (hb : b < 5) : RX (xpayLoss x (nI a) (nI b)) (mpay t (nI a) (nI b)) := by
  rw [xpayLoss_n ha hb, mpay_n ha hb]
  have he : HE x (setR (setR x 8 (upd (upd (x.1 8) a (x.1 8 a + -5)) b (upd (x.1 8) a (x.1 8 a + -5) b + 5))) 10 (upd (x.1 10) a (x.1 10 a + 5))) := HE.of (fun k h1 h2 => by simp only [setR_1, setC_1]; repeat rw [if_neg (by omega)]) (fun k h1 h2 => by simp only [setR_2, setC_2]; repeat rw [if_neg (by omega)])
  have eP := equ2 h.rP ha hb (v := x.1 8 a + -5) (w := t.1 4 a - 5) (by rw [h.rP a ha, Int32.sub_eq_add_neg]) 5
  have eL : ∀ n, n < 5 → upd (x.1 10) a (x.1 10 a + 5) n = upd (t.1 6) a (t.1 6 a + 5) n := equ h.rL (by rw [h.rL a ha])
  exact ⟨h.cN, h.cL, h.cP, h.cS, h.cD, h.cC, h.rO, h.rD, h.rB, h.rY, h.rE, (eP), h.rA, (eL), h.rS, h.r14, h.r15, h.r16, h.r17, h.r27, h.r28, h.r31, h.r32, h.r34, h.r33, h.rT, h.rW, h.rC, h.rQ, h.rN, h.rK, h.pD, h.pC, h.pR, h.g13, h.g16, h.g17, h.g8, h.g20, h.g19, h.gY, h.gD, h.gB, h.w20, h.z, h.tl, (he.ha h.ha), h.tm, (BK.he h he ⟨rfl, rfl, rfl, rfl, rfl, rfl, rfl⟩ ⟨rfl, rfl⟩ (fun _ _ => rfl))⟩
theorem RX.lost {x t : XS} (h : RX x t) (g : Nat) : RX (setC x 1 (x.2 1 + g)) (setC t 6 (t.2 6 + g)) := by
  have he : HE x (setC x 1 (x.2 1 + g)) := HE.of (fun _ _ _ => rfl) (fun k h1 h2 => (if_neg (by omega)).symm)
  exact ⟨h.cN, (congrArg (· + g) h.cL), h.cP, h.cS, h.cD, h.cC, h.rO, h.rD, h.rB, h.rY, h.rE, h.rP, h.rA, h.rL, h.rS, h.r14, h.r15, h.r16, h.r17, h.r27, h.r28, h.r31, h.r32, h.r34, h.r33, h.rT, h.rW, h.rC, h.rQ, h.rN, h.rK, h.pD, h.pC, h.pR, h.g13, h.g16, h.g17, h.g8, h.g20, h.g19, h.gY, h.gD, h.gB, h.w20, h.z, h.tl, (he.ha h.ha), h.tm, (BK.he h he ⟨rfl, rfl, rfl, rfl, rfl, rfl, rfl⟩ ⟨rfl, rfl⟩ (fun _ _ => rfl))⟩

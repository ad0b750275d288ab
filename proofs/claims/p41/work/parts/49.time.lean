/-! ===== time goes by ===== -/
theorem setR_o {q : XS} {k j : Nat} (f : Nat → Int32) (h : j ≠ k) : (setR q k f).1 j = q.1 j := if_neg h
def rows4 (x : XS) (a b c d : Nat → Int32) : XS := (fun j => if j = 32 then a else if j = 2 then b else if j = 9 then c else if j = 11 then d else x.1 j, x.2)
theorem rows4_s (x : XS) (a b c d a2 b2 c2 d2 : Nat → Int32) : setR (setR (setR (setR (rows4 x a b c d) 32 a2) 2 b2) 9 c2) 11 d2 = rows4 x a2 b2 c2 d2 := by
  refine Prod.ext (funext fun j => ?_) rfl
  show (if j = 11 then d2 else if j = 9 then c2 else if j = 2 then b2 else if j = 32 then a2 else if j = 32 then a else if j = 2 then b else if j = 9 then c else if j = 11 then d else x.1 j) = if j = 32 then a2 else if j = 2 then b2 else if j = 9 then c2 else if j = 11 then d2 else x.1 j
  by_cases h1 : j = 11
  · subst h1; rfl
  · by_cases h2 : j = 9
    · subst h2; rfl
    · by_cases h3 : j = 2
      · subst h3; rfl
      · by_cases h4 : j = 32
        · subst h4; rfl
        · simp only [if_neg h1, if_neg h2, if_neg h3, if_neg h4]
theorem rows4_0 (x : XS) : rows4 x (x.1 32) (x.1 2) (x.1 9) (x.1 11) = x := by
  refine Prod.ext (funext fun j => ?_) rfl
  show (if j = 32 then x.1 32 else if j = 2 then x.1 2 else if j = 9 then x.1 9 else if j = 11 then x.1 11 else x.1 j) = x.1 j
  by_cases h1 : j = 11
  · subst h1; rfl
  · by_cases h2 : j = 9
    · subst h2; rfl
    · by_cases h3 : j = 2
      · subst h3; rfl
      · by_cases h4 : j = 32
        · subst h4; rfl
        · simp only [if_neg h1, if_neg h2, if_neg h3, if_neg h4]
theorem rows4_r32 (x : XS) (a b c d : Nat → Int32) : (rows4 x a b c d).1 32 = a := rfl
theorem rows4_r2 (x : XS) (a b c d : Nat → Int32) : (rows4 x a b c d).1 2 = b := rfl
theorem rows4_r9 (x : XS) (a b c d : Nat → Int32) : (rows4 x a b c d).1 9 = c := rfl
theorem rows4_r11 (x : XS) (a b c d : Nat → Int32) : (rows4 x a b c d).1 11 = d := rfl
def acc (st : Nat → Int32) (key : Nat → Nat) (v : Nat → Int32) (n j : Nat) : Int32 := sI (fun k => if st k = 0 ∧ key k = j then v k else 0) 0 n
theorem acc_p {st : Nat → Int32} {key : Nat → Nat} {v : Nat → Int32} {n : Nat} (h : st n = 0) (f : Nat → Int32) : upd (fun j => f j + acc st key v n j) (key n) (f (key n) + acc st key v n (key n) + v n) = fun j => f j + acc st key v (n + 1) j := by
  funext j
  rw [upd_a]
  unfold acc
  rw [sI, Nat.zero_add]
  by_cases hj : j = key n
  · subst hj
    rw [if_pos rfl, if_pos ⟨h, rfl⟩, Int32.add_assoc]
  · rw [if_neg hj, if_neg (fun z => hj z.2.symm), Int32.add_zero]
theorem acc_n {st : Nat → Int32} {key : Nat → Nat} {v : Nat → Int32} {n : Nat} (h : ¬ st n = 0) (f : Nat → Int32) : (fun j => f j + acc st key v (n + 1) j) = fun j => f j + acc st key v n j := by
  funext j
  unfold acc
  rw [sI, Nat.zero_add, if_neg (fun z => h z.1), Int32.add_zero]
theorem acc_0 {st : Nat → Int32} {key : Nat → Nat} {v : Nat → Int32} (f : Nat → Int32) : (fun j => f j + acc st key v 0 j) = f := funext fun j => Int32.add_zero _
def par (st v f : Nat → Int32) (n : Nat) : Nat → Int32 := fun k => if k < n ∧ st k = 0 then f k + v k else f k
theorem par_p {st v f : Nat → Int32} {n : Nat} (h : st n = 0) : upd (par st v f n) n (par st v f n n + v n) = par st v f (n + 1) := by
  funext k
  rw [upd_a]
  unfold par
  by_cases hk : k = n
  · subst hk
    rw [if_pos rfl, if_neg (show ¬ (k < k ∧ st k = 0) by omega), if_pos ⟨by omega, h⟩]
  · rw [if_neg hk]
    by_cases h2 : k < n ∧ st k = 0
    · rw [if_pos h2, if_pos ⟨by omega, h2.2⟩]
    · rw [if_neg h2, if_neg (fun z => h2 ⟨by omega, z.2⟩)]
theorem par_n {st v f : Nat → Int32} {n : Nat} (h : ¬ st n = 0) : par st v f (n + 1) = par st v f n := by
  funext k
  unfold par
  by_cases h2 : k < n ∧ st k = 0
  · rw [if_pos h2, if_pos ⟨by omega, h2.2⟩]
  · rw [if_neg h2, if_neg (fun z => h2 ⟨by have : ¬ k = n := fun e => h (e ▸ z.2); omega, z.2⟩)]
theorem par_0 {st v f : Nat → Int32} : par st v f 0 = f := funext fun k => if_neg (by omega)
theorem sI_p {st v : Nat → Int32} {n : Nat} : sI (fun k => if st k = 0 then v k else 0) 0 (n + 1) = sI (fun k => if st k = 0 then v k else 0) 0 n + if st n = 0 then v n else 0 := by
  rw [sI, Nat.zero_add]
def cn (x : XS) (k : Nat) : Nat := (x.1 27 k).toNatClampNeg
def cr (x : XS) (k : Nat) : Nat := (x.1 0 (cn x k)).toNatClampNeg
def ow (x : XS) (k : Nat) : Nat := (x.1 1 (cn x k)).toNatClampNeg
theorem RX.cn {x t : XS} (h : RX x t) {k : Nat} (hk : k < x.2 6) : cn x k < 12 ∧ x.1 27 k = nI (cn x k) := by
  have := h.c60
  obtain ⟨m, hm, e⟩ := vp_in_of (h.g16 k) (by decide)
  have e2 : x.1 27 k = nI m := (h.r27 k (by omega)).trans e
  have e3 : Jvm.Pilot.@@N@@.cn x k = m := by unfold Jvm.Pilot.@@N@@.cn; rw [e2, nI_clamp (by omega)]
  rw [e3]; exact ⟨hm, e2⟩
theorem RX.cr {x t : XS} (h : RX x t) {k : Nat} (hk : k < x.2 6) : cr x k < 5 ∧ x.1 0 (Jvm.Pilot.@@N@@.cn x k) = nI (cr x k) := by
  obtain ⟨c, hc, e⟩ := x0_in h (h.cn hk).1
  have e3 : Jvm.Pilot.@@N@@.cr x k = c := by unfold Jvm.Pilot.@@N@@.cr; rw [e, nI_clamp (by omega)]
  rw [e3]; exact ⟨hc, e⟩
theorem RX.ow {x t : XS} (h : RX x t) {k : Nat} (hk : k < x.2 6) : ow x k < 6 ∧ x.1 1 (Jvm.Pilot.@@N@@.cn x k) = nI (ow x k) := by
  obtain ⟨c, hc, e⟩ := vp_in_of (h.g8 (Jvm.Pilot.@@N@@.cn x k)) (by decide)
  have e2 : x.1 1 (Jvm.Pilot.@@N@@.cn x k) = nI c := (h.rO _ (h.cn hk).1).trans e
  have e3 : Jvm.Pilot.@@N@@.ow x k = c := by unfold Jvm.Pilot.@@N@@.ow; rw [e2, nI_clamp (by omega)]
  rw [e3]; exact ⟨hc, e2⟩
def cvX (x : XS) (u k : Nat) : Int32 := xcharge x (nI (cr x k)) (nI (x.2 0)) (nI u)
theorem HE.charge {q p : XS} (H : HE q p) {now : Nat} (I : HA q now) (c a b : Int32) : xcharge p c a b = xcharge q c a b := by
  unfold xcharge
  rw [H.val (by decide) I.h2.cnt, H.val (by decide) I.h3.cnt]
theorem rows4_he (x : XS) (a b c d : Nat → Int32) : HE x (rows4 x a b c d) := HE.of (fun k h1 h2 => by
  show x.1 k = if k = 32 then a else if k = 2 then b else if k = 9 then c else if k = 11 then d else x.1 k
  rw [if_neg (by omega), if_neg (by omega), if_neg (by omega), if_neg (by omega)]) (fun k h1 h2 => rfl)
theorem psF_n {x t : XS} (h : RX x t) (u : Nat) : ∀ n, n ≤ x.2 6 → psF x (nI u) n = (rows4 x (par (x.1 31) (cvX x u) (x.1 32) n) (fun j => x.1 2 j + acc (x.1 31) (cn x) (cvX x u) n j) (fun j => x.1 9 j + acc (x.1 31) (cr x) (cvX x u) n j) (fun j => x.1 11 j + acc (x.1 31) (ow x) (cvX x u) n j), sI (fun k => if x.1 31 k = 0 then cvX x u k else 0) 0 n) := by
  intro n
  induction n with
  | zero => intro _; rw [par_0, acc_0, acc_0, acc_0, rows4_0]; rfl
  | succ n ih =>
    intro hn
    have h6 := h.c60
    rw [psF, ih (by omega)]
    obtain ⟨c1, c2⟩ := h.cn (k := n) (by omega)
    obtain ⟨d1, d2⟩ := h.cr (k := n) (by omega)
    obtain ⟨f1, f2⟩ := h.ow (k := n) (by omega)
    generalize hS : rows4 x (par (x.1 31) (cvX x u) (x.1 32) n) (fun j => x.1 2 j + acc (x.1 31) (Jvm.Pilot.@@N@@.cn x) (cvX x u) n j) (fun j => x.1 9 j + acc (x.1 31) (Jvm.Pilot.@@N@@.cr x) (cvX x u) n j) (fun j => x.1 11 j + acc (x.1 31) (Jvm.Pilot.@@N@@.ow x) (cvX x u) n j) = S
    have a31 : S.1 31 = x.1 31 := by rw [← hS]; rfl
    have a27 : S.1 27 = x.1 27 := by rw [← hS]; rfl
    have a0 : S.1 0 = x.1 0 := by rw [← hS]; rfl
    have a1 : S.1 1 = x.1 1 := by rw [← hS]; rfl
    have aN : S.2 = x.2 := by rw [← hS]; rfl
    have he : HE x S := by rw [← hS]; exact rows4_he _ _ _ _ _
    show (if xg S 31 (nI n) = 0 then _ else _) = _
    rw [xg_n (k := 31) (show n < 60 by omega), a31]
    by_cases h0 : x.1 31 n = 0
    · rw [if_pos h0]
      have e27 : xg S 27 (nI n) = nI (Jvm.Pilot.@@N@@.cn x n) := by rw [xg_n (k := 27) (show n < 60 by omega), a27]; exact c2
      have e0 : xg S 0 (nI (Jvm.Pilot.@@N@@.cn x n)) = nI (Jvm.Pilot.@@N@@.cr x n) := by rw [xg_n (k := 0) (show _ < 12 from c1), a0]; exact d2
      have ev : xchv S (nI n) (nI u) = cvX x u n := by
        unfold xchv cvX
        rw [e27, e0, he.charge h.ha, aN]
      have e3 : xch3 S (nI n) (nI u) = setR (setR (setR S 32 (upd (S.1 32) n (S.1 32 n + cvX x u n))) 2 (upd (S.1 2) (Jvm.Pilot.@@N@@.cn x n) (S.1 2 (Jvm.Pilot.@@N@@.cn x n) + cvX x u n))) 9 (upd (S.1 9) (Jvm.Pilot.@@N@@.cr x n) (S.1 9 (Jvm.Pilot.@@N@@.cr x n) + cvX x u n)) := by
        unfold xch3
        rw [ev, e27, e0, xad_n (k := 32) (show n < 60 by omega), xad_n (k := 2) (show _ < 12 from c1), xad_n (k := 9) (show _ < 5 from d1), setR_o (k := 32) (j := 2) _ (by decide), setR_o (k := 2) (j := 9) _ (by decide), setR_o (k := 32) (j := 9) _ (by decide)]
      have e1 : xg (setR (setR (setR S 32 (upd (S.1 32) n (S.1 32 n + cvX x u n))) 2 (upd (S.1 2) (Jvm.Pilot.@@N@@.cn x n) (S.1 2 (Jvm.Pilot.@@N@@.cn x n) + cvX x u n))) 9 (upd (S.1 9) (Jvm.Pilot.@@N@@.cr x n) (S.1 9 (Jvm.Pilot.@@N@@.cr x n) + cvX x u n))) 1 (nI (Jvm.Pilot.@@N@@.cn x n)) = nI (Jvm.Pilot.@@N@@.ow x n) := by
        rw [xg_n (k := 1) (show _ < 12 from c1)]
        show S.1 1 _ = _
        rw [a1]; exact f2
      have eU : xchU S (nI n) (nI u) = setR (setR (setR (setR S 32 (upd (S.1 32) n (S.1 32 n + cvX x u n))) 2 (upd (S.1 2) (Jvm.Pilot.@@N@@.cn x n) (S.1 2 (Jvm.Pilot.@@N@@.cn x n) + cvX x u n))) 9 (upd (S.1 9) (Jvm.Pilot.@@N@@.cr x n) (S.1 9 (Jvm.Pilot.@@N@@.cr x n) + cvX x u n))) 11 (upd (S.1 11) (Jvm.Pilot.@@N@@.ow x n) (S.1 11 (Jvm.Pilot.@@N@@.ow x n) + cvX x u n)) := by
        unfold xchU
        rw [ev, e27, e3, e1, xad_n (k := 11) (show _ < 6 from f1)]
        rfl
      rw [eU, ev, ← hS, rows4_r32, rows4_r2, rows4_r9, rows4_r11, rows4_s]
      dsimp only
      rw [sI_p, if_pos h0, ← par_p h0, ← acc_p h0, ← acc_p h0, ← acc_p h0]
    · rw [if_neg h0, sI_p, if_neg h0, par_n h0, acc_n h0, acc_n h0, acc_n h0, Int32.add_zero, hS]
def W5 (t : XS) (a b c d f : Nat → Int32) (s : Nat) : XS := (fun j => if j = 9 then a else if j = 7 then b else if j = 5 then c else if j = 22 then d else if j = 21 then f else t.1 j, fun j => if j = 1 then s else t.2 j)
theorem W5_s (t : XS) (a b c d f a2 b2 c2 d2 f2 : Nat → Int32) (s : Nat) : setR (setR (setR (setR (setR (W5 t a b c d f s) 9 a2) 7 b2) 5 c2) 22 d2) 21 f2 = W5 t a2 b2 c2 d2 f2 s := by
  refine Prod.ext (funext fun j => ?_) rfl
  show (if j = 21 then f2 else if j = 22 then d2 else if j = 5 then c2 else if j = 7 then b2 else if j = 9 then a2 else if j = 9 then a else if j = 7 then b else if j = 5 then c else if j = 22 then d else if j = 21 then f else t.1 j) = if j = 9 then a2 else if j = 7 then b2 else if j = 5 then c2 else if j = 22 then d2 else if j = 21 then f2 else t.1 j
  by_cases h1 : j = 21
  · subst h1; rfl
  · by_cases h2 : j = 22
    · subst h2; rfl
    · by_cases h3 : j = 5
      · subst h3; rfl
      · by_cases h4 : j = 7
        · subst h4; rfl
        · by_cases h5 : j = 9
          · subst h5; rfl
          · simp only [if_neg h1, if_neg h2, if_neg h3, if_neg h4, if_neg h5]
theorem W5_c (t : XS) (a b c d f : Nat → Int32) (s s2 : Nat) : setC (W5 t a b c d f s) 1 s2 = W5 t a b c d f s2 := by
  refine Prod.ext rfl (funext fun j => ?_)
  show (if j = 1 then s2 else if j = 1 then s else t.2 j) = if j = 1 then s2 else t.2 j
  by_cases h : j = 1
  · rw [if_pos h, if_pos h]
  · rw [if_neg h, if_neg h, if_neg h]
theorem W5_0 (t : XS) : W5 t (t.1 9) (t.1 7) (t.1 5) (t.1 22) (t.1 21) (t.2 1) = t := by
  refine Prod.ext (funext fun j => ?_) (funext fun j => ?_)
  · show (if j = 9 then t.1 9 else if j = 7 then t.1 7 else if j = 5 then t.1 5 else if j = 22 then t.1 22 else if j = 21 then t.1 21 else t.1 j) = t.1 j
    by_cases h1 : j = 21
    · subst h1; rfl
    · by_cases h2 : j = 22
      · subst h2; rfl
      · by_cases h3 : j = 5
        · subst h3; rfl
        · by_cases h4 : j = 7
          · subst h4; rfl
          · by_cases h5 : j = 9
            · subst h5; rfl
            · simp only [if_neg h1, if_neg h2, if_neg h3, if_neg h4, if_neg h5]
  · show (if j = 1 then t.2 1 else t.2 j) = t.2 j
    by_cases h : j = 1
    · rw [if_pos h, h]
    · rw [if_neg h]
theorem W5_9 (t : XS) (a b c d f : Nat → Int32) (s : Nat) : (W5 t a b c d f s).1 9 = a := rfl
theorem W5_7 (t : XS) (a b c d f : Nat → Int32) (s : Nat) : (W5 t a b c d f s).1 7 = b := rfl
theorem W5_5 (t : XS) (a b c d f : Nat → Int32) (s : Nat) : (W5 t a b c d f s).1 5 = c := rfl
theorem W5_22 (t : XS) (a b c d f : Nat → Int32) (s : Nat) : (W5 t a b c d f s).1 22 = d := rfl
theorem W5_21 (t : XS) (a b c d f : Nat → Int32) (s : Nat) : (W5 t a b c d f s).1 21 = f := rfl
/-- the price of a call's second -/
def PT (x t : XS) (s k : Nat) : Int32 := if dearN s then t.1 0 (cr x k) else t.1 1 (cr x k)
theorem inF_n2 {x t : XS} (h : RX x t) {s : Nat} (hs : s < 2 ^ 30) (a b c d f : Nat → Int32) (s0 : Int32) : ∀ n, n ≤ x.2 6 → inF (W5 t a b c d f s) s0 n = (W5 t (fun j => a j + acc (t.1 18) (cn x) (PT x t s) n j) (fun j => b j + acc (t.1 18) (ow x) (PT x t s) n j) (fun j => c j + acc (t.1 18) (cr x) (PT x t s) n j) (par (t.1 18) (PT x t s) d n) (par (t.1 18) (fun _ => 1) f n) s, s0 + sI (fun k => if t.1 18 k = 0 then PT x t s k else 0) 0 n) := by
  intro n
  induction n with
  | zero => intro _; rw [par_0, par_0, acc_0, acc_0, acc_0, inF]; exact Prod.ext rfl (Int32.add_zero _).symm
  | succ n ih0 =>
    intro hn
    have h6 := h.c60
    have ih := ih0 (by omega)
    obtain ⟨c1, c2⟩ := h.cn (k := n) (by omega)
    obtain ⟨d1, d2⟩ := h.cr (k := n) (by omega)
    obtain ⟨f1, f2⟩ := h.ow (k := n) (by omega)
    generalize hS : W5 t (fun j => a j + acc (t.1 18) (cn x) (PT x t s) n j) (fun j => b j + acc (t.1 18) (ow x) (PT x t s) n j) (fun j => c j + acc (t.1 18) (cr x) (PT x t s) n j) (par (t.1 18) (PT x t s) d n) (par (t.1 18) (fun _ => 1) f n) s = S at ih
    have a18 : S.1 18 = t.1 18 := by rw [← hS]; rfl
    have a16 : S.1 16 = t.1 16 := by rw [← hS]; rfl
    have a8 : S.1 8 = t.1 8 := by rw [← hS]; rfl
    have aS : S.2 1 = s := by rw [← hS]; rfl
    have hpn : mpn S n = nI (cn x n) := by
      show mg S 16 (nI n) = _
      rw [mg_n (by omega), a16, ← h.r27 n (by omega)]; exact c2
    have hpp : mpp S n = nI (cr x n) := by
      show mplace S (mpn S n) 20000 = _
      rw [hpn, mplace_e (q := t) (p := S) (by rw [← hS]; rfl) (by rw [← hS]; rfl) (by rw [← hS]; rfl) (by rw [← hS]; rfl), mplace_n h c1]; exact d2
    have hpr : mprice S n = PT x t s n := by
      unfold mprice PT
      rw [aS, hpp, mg_n (by omega), mg_n (by omega)]
      have b0 : S.1 0 = t.1 0 := by rw [← hS]; rfl
      have b1 : S.1 1 = t.1 1 := by rw [← hS]; rfl
      rw [b0, b1]
      by_cases hd : dearN s
      · rw [if_pos hd, if_neg (fun z => (dear_m hs).mp z hd)]
      · rw [if_neg hd, if_pos ((dear_m hs).mpr hd)]
    by_cases h0 : t.1 18 n = 0
    · have hc : mg (inF (W5 t a b c d f s) s0 n).1 18 (nI n) = 0 := by rw [ih, mg_n (by omega), a18]; exact h0
      rw [inF_p hc, ih]
      show (mx5 S n (mpn S n) (mpp S n) (mprice S n), _ + mprice S n) = _
      rw [hpn, hpp, hpr]
      have e8 : mg (mx1 S (nI (cn x n)) (PT x t s n)) 8 (nI (cn x n)) = nI (ow x n) := by
        unfold mx1
        rw [mw_n (by omega), mg_n (by omega), setR_o (k := 9) (j := 8) _ (by decide), a8, ← h.rO _ c1]; exact f2
      have e5 : mx5 S n (nI (cn x n)) (nI (cr x n)) (PT x t s n) = setR (setR (setR (setR (setR S 9 (upd (S.1 9) (cn x n) (S.1 9 (cn x n) + PT x t s n))) 7 (upd (S.1 7) (ow x n) (S.1 7 (ow x n) + PT x t s n))) 5 (upd (S.1 5) (cr x n) (S.1 5 (cr x n) + PT x t s n))) 22 (upd (S.1 22) n (S.1 22 n + PT x t s n))) 21 (upd (S.1 21) n (S.1 21 n + 1)) := by
        unfold mx5 mx4 mx3 mx2
        rw [e8]
        unfold mx1
        rw [mw_n (i := cn x n) (by omega), mg_n (i := cn x n) (by omega), mw_n (i := ow x n) (by omega), mg_n (i := ow x n) (by omega), mw_n (i := cr x n) (by omega), mg_n (i := cr x n) (by omega), mw_n (i := n) (by omega), mg_n (i := n) (by omega), mw_n (i := n) (by omega), mg_n (i := n) (by omega), setR_o (k := 9) (j := 7) _ (by decide), setR_o (k := 7) (j := 5) _ (by decide), setR_o (k := 9) (j := 5) _ (by decide), setR_o (k := 5) (j := 22) _ (by decide), setR_o (k := 7) (j := 22) _ (by decide), setR_o (k := 9) (j := 22) _ (by decide), setR_o (k := 22) (j := 21) _ (by decide), setR_o (k := 5) (j := 21) _ (by decide), setR_o (k := 7) (j := 21) _ (by decide), setR_o (k := 9) (j := 21) _ (by decide)]
      rw [e5, ← hS, W5_9, W5_7, W5_5, W5_22, W5_21, W5_s]
      dsimp only
      rw [sI_p, if_pos h0, ← par_p h0, ← par_p (v := fun _ => 1) h0, ← acc_p h0, ← acc_p h0, ← acc_p h0, ← Int32.add_assoc]
    · have hc : ¬ mg (inF (W5 t a b c d f s) s0 n).1 18 (nI n) = 0 := by rw [ih, mg_n (by omega), a18]; exact h0
      rw [inF_n hc, ih, sI_p, if_neg h0, par_n h0, par_n h0, acc_n h0, acc_n h0, acc_n h0, Int32.add_zero, hS]


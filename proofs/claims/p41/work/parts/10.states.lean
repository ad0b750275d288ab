section GV
variable {X : CX} {S : SX} {M : MT} {pc : Nat} {ls : List (Option Value)} {st : List Value} {w : AW} {cs ss : Nat}
theorem Aft_v {w' : AW} {mc ms : Nat} {v : Value} (h : w'.length = w.length) (k : Gd X S M (pc + 3) ls (v :: st) w' (cs + mc) (ss + ms)) : Aft X S M pc ls st w cs ss mc ms (.inl (some v)) w' := ⟨Or.inl h, k⟩
theorem Aft_n {w' : AW} {mc ms : Nat} (h : w'.length = w.length) (k : Gd X S M (pc + 3) ls st w' (cs + mc) (ss + ms)) : Aft X S M pc ls st w cs ss mc ms (.inl none) w' := ⟨Or.inl h, k⟩
theorem Aft_g {w' : AW} {mc ms : Nat} (h1 : st.all (vOk w.length) = true) (h2 : lsOk w.length ls = true) (k : Gd X S M (pc + 3) ls st w' (cs + mc) (ss + ms)) : Aft X S M pc ls st w cs ss mc ms (.inl none) w' := ⟨Or.inr ⟨h1, h2⟩, k⟩
theorem Aft_x {w' : AW} {mc ms k : Nat} (h : SK S (.inr k) w') : Aft X S M pc ls st w cs ss mc ms (.inr k) w' := h
theorem g_invV0 (C0 : Ok X S M) {M2 : MT} {idx a ci : Nat} {fs : List Value} (d : decode M.code pc = .ok (.invokevirtual idx, 3)) (hL : CV M.y.cls idx M2 ci 0) (hh : M.hh = []) (hw : w[a]? = some (.inr (ci, fs))) (hR : RM M M2 cs ss) (hcat : (st.map fun v => v.category).sum ≤ 8) (hS : Snd M2 [.ref a] w (Aft X S M pc ls st w cs ss M2.mc M2.ms)) : Gd X S M pc ls (.ref a :: st) w cs ss := g_invV C0 (As := []) d hL hh rfl hw rfl hR hcat hS
theorem g_invI0 (C0 : Ok X S M) {M2 : MT} {idx a : Nat} (d : decode M.code pc = .ok (.invokespecial idx, 3)) (hL : CI M.y.cls idx M2 0) (hR : RM M M2 cs ss) (hcat : (st.map fun v => v.category).sum ≤ 8) (hS : Snd M2 [.ref a] w (fun o w2 => match o with | .inl v => Aft X S M pc ls st w cs ss M2.mc M2.ms (.inl v) w2 | .inr _ => False)) : Gd X S M pc ls (.ref a :: st) w cs ss := g_invI C0 (As := []) d hL rfl rfl hR hcat hS
theorem g_invV1 (C0 : Ok X S M) {M2 : MT} {idx a ci : Nat} {fs : List Value} {v1 : Value} (d : decode M.code pc = .ok (.invokevirtual idx, 3)) (hL : CV M.y.cls idx M2 ci 1) (hh : M.hh = []) (hw : w[a]? = some (.inr (ci, fs))) (hR : RM M M2 cs ss) (hcat : (st.map fun v => v.category).sum ≤ 8) (hS : Snd M2 [.ref a, v1] w (Aft X S M pc ls st w cs ss M2.mc M2.ms)) : Gd X S M pc ls (v1 :: .ref a :: st) w cs ss := g_invV C0 (As := [v1]) d hL hh rfl hw rfl hR hcat hS
theorem g_invS1 (C0 : Ok X S M) {M2 : MT} {idx : Nat} {v1 : Value} (d : decode M.code pc = .ok (.invokestatic idx, 3)) (hL : CS M.y.cls idx M2 1) (hh : M.hh = []) (hR : RM M M2 cs ss) (hcat : (st.map fun v => v.category).sum ≤ 8) (hS : Snd M2 [v1] w (Aft X S M pc ls st w cs ss M2.mc M2.ms)) : Gd X S M pc ls (v1 :: st) w cs ss := g_invS C0 (As := [v1]) d hL hh rfl rfl hR hcat hS
theorem g_invI1 (C0 : Ok X S M) {M2 : MT} {idx a : Nat} {v1 : Value} (d : decode M.code pc = .ok (.invokespecial idx, 3)) (hL : CI M.y.cls idx M2 1) (hR : RM M M2 cs ss) (hcat : (st.map fun v => v.category).sum ≤ 8) (hS : Snd M2 [.ref a, v1] w (fun o w2 => match o with | .inl v => Aft X S M pc ls st w cs ss M2.mc M2.ms (.inl v) w2 | .inr _ => False)) : Gd X S M pc ls (v1 :: .ref a :: st) w cs ss := g_invI C0 (As := [v1]) d hL rfl rfl hR hcat hS
theorem g_invV2 (C0 : Ok X S M) {M2 : MT} {idx a ci : Nat} {fs : List Value} {v1 v2 : Value} (d : decode M.code pc = .ok (.invokevirtual idx, 3)) (hL : CV M.y.cls idx M2 ci 2) (hh : M.hh = []) (hw : w[a]? = some (.inr (ci, fs))) (hR : RM M M2 cs ss) (hcat : (st.map fun v => v.category).sum ≤ 8) (hS : Snd M2 [.ref a, v1, v2] w (Aft X S M pc ls st w cs ss M2.mc M2.ms)) : Gd X S M pc ls (v2 :: v1 :: .ref a :: st) w cs ss := g_invV C0 (As := [v1, v2]) d hL hh rfl hw rfl hR hcat hS
theorem g_invS2 (C0 : Ok X S M) {M2 : MT} {idx : Nat} {v1 v2 : Value} (d : decode M.code pc = .ok (.invokestatic idx, 3)) (hL : CS M.y.cls idx M2 2) (hh : M.hh = []) (hR : RM M M2 cs ss) (hcat : (st.map fun v => v.category).sum ≤ 8) (hS : Snd M2 [v1, v2] w (Aft X S M pc ls st w cs ss M2.mc M2.ms)) : Gd X S M pc ls (v2 :: v1 :: st) w cs ss := g_invS C0 (As := [v1, v2]) d hL hh rfl rfl hR hcat hS
theorem g_invI2 (C0 : Ok X S M) {M2 : MT} {idx a : Nat} {v1 v2 : Value} (d : decode M.code pc = .ok (.invokespecial idx, 3)) (hL : CI M.y.cls idx M2 2) (hR : RM M M2 cs ss) (hcat : (st.map fun v => v.category).sum ≤ 8) (hS : Snd M2 [.ref a, v1, v2] w (fun o w2 => match o with | .inl v => Aft X S M pc ls st w cs ss M2.mc M2.ms (.inl v) w2 | .inr _ => False)) : Gd X S M pc ls (v2 :: v1 :: .ref a :: st) w cs ss := g_invI C0 (As := [v1, v2]) d hL rfl rfl hR hcat hS
theorem g_invV3 (C0 : Ok X S M) {M2 : MT} {idx a ci : Nat} {fs : List Value} {v1 v2 v3 : Value} (d : decode M.code pc = .ok (.invokevirtual idx, 3)) (hL : CV M.y.cls idx M2 ci 3) (hh : M.hh = []) (hw : w[a]? = some (.inr (ci, fs))) (hR : RM M M2 cs ss) (hcat : (st.map fun v => v.category).sum ≤ 8) (hS : Snd M2 [.ref a, v1, v2, v3] w (Aft X S M pc ls st w cs ss M2.mc M2.ms)) : Gd X S M pc ls (v3 :: v2 :: v1 :: .ref a :: st) w cs ss := g_invV C0 (As := [v1, v2, v3]) d hL hh rfl hw rfl hR hcat hS
theorem g_invS3 (C0 : Ok X S M) {M2 : MT} {idx : Nat} {v1 v2 v3 : Value} (d : decode M.code pc = .ok (.invokestatic idx, 3)) (hL : CS M.y.cls idx M2 3) (hh : M.hh = []) (hR : RM M M2 cs ss) (hcat : (st.map fun v => v.category).sum ≤ 8) (hS : Snd M2 [v1, v2, v3] w (Aft X S M pc ls st w cs ss M2.mc M2.ms)) : Gd X S M pc ls (v3 :: v2 :: v1 :: st) w cs ss := g_invS C0 (As := [v1, v2, v3]) d hL hh rfl rfl hR hcat hS
theorem g_invV4 (C0 : Ok X S M) {M2 : MT} {idx a ci : Nat} {fs : List Value} {v1 v2 v3 v4 : Value} (d : decode M.code pc = .ok (.invokevirtual idx, 3)) (hL : CV M.y.cls idx M2 ci 4) (hh : M.hh = []) (hw : w[a]? = some (.inr (ci, fs))) (hR : RM M M2 cs ss) (hcat : (st.map fun v => v.category).sum ≤ 8) (hS : Snd M2 [.ref a, v1, v2, v3, v4] w (Aft X S M pc ls st w cs ss M2.mc M2.ms)) : Gd X S M pc ls (v4 :: v3 :: v2 :: v1 :: .ref a :: st) w cs ss := g_invV C0 (As := [v1, v2, v3, v4]) d hL hh rfl hw rfl hR hcat hS
theorem g_invS4 (C0 : Ok X S M) {M2 : MT} {idx : Nat} {v1 v2 v3 v4 : Value} (d : decode M.code pc = .ok (.invokestatic idx, 3)) (hL : CS M.y.cls idx M2 4) (hh : M.hh = []) (hR : RM M M2 cs ss) (hcat : (st.map fun v => v.category).sum ≤ 8) (hS : Snd M2 [v1, v2, v3, v4] w (Aft X S M pc ls st w cs ss M2.mc M2.ms)) : Gd X S M pc ls (v4 :: v3 :: v2 :: v1 :: st) w cs ss := g_invS C0 (As := [v1, v2, v3, v4]) d hL hh rfl rfl hR hcat hS
theorem g_invV5 (C0 : Ok X S M) {M2 : MT} {idx a ci : Nat} {fs : List Value} {v1 v2 v3 v4 v5 : Value} (d : decode M.code pc = .ok (.invokevirtual idx, 3)) (hL : CV M.y.cls idx M2 ci 5) (hh : M.hh = []) (hw : w[a]? = some (.inr (ci, fs))) (hR : RM M M2 cs ss) (hcat : (st.map fun v => v.category).sum ≤ 8) (hS : Snd M2 [.ref a, v1, v2, v3, v4, v5] w (Aft X S M pc ls st w cs ss M2.mc M2.ms)) : Gd X S M pc ls (v5 :: v4 :: v3 :: v2 :: v1 :: .ref a :: st) w cs ss := g_invV C0 (As := [v1, v2, v3, v4, v5]) d hL hh rfl hw rfl hR hcat hS
theorem g_invS5 (C0 : Ok X S M) {M2 : MT} {idx : Nat} {v1 v2 v3 v4 v5 : Value} (d : decode M.code pc = .ok (.invokestatic idx, 3)) (hL : CS M.y.cls idx M2 5) (hh : M.hh = []) (hR : RM M M2 cs ss) (hcat : (st.map fun v => v.category).sum ≤ 8) (hS : Snd M2 [v1, v2, v3, v4, v5] w (Aft X S M pc ls st w cs ss M2.mc M2.ms)) : Gd X S M pc ls (v5 :: v4 :: v3 :: v2 :: v1 :: st) w cs ss := g_invS C0 (As := [v1, v2, v3, v4, v5]) d hL hh rfl rfl hR hcat hS
theorem g_invV6 (C0 : Ok X S M) {M2 : MT} {idx a ci : Nat} {fs : List Value} {v1 v2 v3 v4 v5 v6 : Value} (d : decode M.code pc = .ok (.invokevirtual idx, 3)) (hL : CV M.y.cls idx M2 ci 6) (hh : M.hh = []) (hw : w[a]? = some (.inr (ci, fs))) (hR : RM M M2 cs ss) (hcat : (st.map fun v => v.category).sum ≤ 8) (hS : Snd M2 [.ref a, v1, v2, v3, v4, v5, v6] w (Aft X S M pc ls st w cs ss M2.mc M2.ms)) : Gd X S M pc ls (v6 :: v5 :: v4 :: v3 :: v2 :: v1 :: .ref a :: st) w cs ss := g_invV C0 (As := [v1, v2, v3, v4, v5, v6]) d hL hh rfl hw rfl hR hcat hS
theorem g_invS6 (C0 : Ok X S M) {M2 : MT} {idx : Nat} {v1 v2 v3 v4 v5 v6 : Value} (d : decode M.code pc = .ok (.invokestatic idx, 3)) (hL : CS M.y.cls idx M2 6) (hh : M.hh = []) (hR : RM M M2 cs ss) (hcat : (st.map fun v => v.category).sum ≤ 8) (hS : Snd M2 [v1, v2, v3, v4, v5, v6] w (Aft X S M pc ls st w cs ss M2.mc M2.ms)) : Gd X S M pc ls (v6 :: v5 :: v4 :: v3 :: v2 :: v1 :: st) w cs ss := g_invS C0 (As := [v1, v2, v3, v4, v5, v6]) d hL hh rfl rfl hR hcat hS
end GV
/-! ===== the states of the class: rows by their numbers, counters by theirs =====
row 0: carriers (12), at 2
row 1: owners (12), at 4
row 2: debts (12), at 6
row 3: payments (12), at 8
row 4: bonds (12), at 10
row 5: bars (12), at 12
row 6: talks (12), at 14
row 7: delays (5), at 17
row 8: purses (5), at 19
row 9: earnings (5), at 21
row 10: losses (5), at 23
row 11: spendings (6), at 25
row 12: all (25), at 28
row 13: taken (25), at 30
row 14: pkeys (60), at 34
row 15: pstarts (60), at 36
row 16: pvalues (60), at 38
row 17: news (300), at 40
row 18: skeys (60), at 43
row 19: sstarts (60), at 45
row 20: svalues (60), at 47
row 21: dkeys (60), at 51
row 22: dstarts (60), at 53
row 23: dvalues (60), at 55
row 24: ckeys (60), at 58
row 25: cstarts (60), at 60
row 26: cvalues (60), at 62
row 27: callers (60), at 65
row 28: others (60), at 67
row 29: begins (60), at 69
row 30: ends (60), at 71
row 31: states (60), at 73
row 32: charges (60), at 75
row 33: lengths (60), at 77
row 34: stops (300), at 79
row 35: way (5), at 82
counters: 0 now, 1 losts, 2 ports, 3 sales, 4 dears, 5 cheaps, 6 calls, 7 the length of the way -/
abbrev XS : Type := (Nat → Nat → Int32) × (Nat → Nat)
def WX (q : XS) : AW := [.inr (9, [.ref 1, .ref 16, .ref 25, .ref 27, .ref 32, .ref 42, .ref 49, .ref 64, .ref 81, .int (nI (q.2 0)), .int (nI (q.2 1))]), .inr (3, [.ref 2, .ref 4, .ref 6, .ref 8, .ref 10, .ref 12, .ref 14]), .inr (5, [.ref 3]), .inl (0, 12, .inl (q.1 0)), .inr (5, [.ref 5]), .inl (0, 12, .inl (q.1 1)), .inr (5, [.ref 7]), .inl (0, 12, .inl (q.1 2)), .inr (5, [.ref 9]), .inl (0, 12, .inl (q.1 3)), .inr (5, [.ref 11]), .inl (0, 12, .inl (q.1 4)), .inr (5, [.ref 13]), .inl (0, 12, .inl (q.1 5)), .inr (5, [.ref 15]), .inl (0, 12, .inl (q.1 6)), .inr (1, [.ref 17, .ref 19, .ref 21, .ref 23]), .inr (5, [.ref 18]), .inl (0, 5, .inl (q.1 7)), .inr (5, [.ref 20]), .inl (0, 5, .inl (q.1 8)), .inr (5, [.ref 22]), .inl (0, 5, .inl (q.1 9)), .inr (5, [.ref 24]), .inl (0, 5, .inl (q.1 10)), .inr (5, [.ref 26]), .inl (0, 6, .inl (q.1 11)), .inr (7, [.ref 28, .ref 30]), .inr (5, [.ref 29]), .inl (0, 25, .inl (q.1 12)), .inr (5, [.ref 31]), .inl (0, 25, .inl (q.1 13)), .inr (4, [.ref 33, .ref 40]), .inr (2, [.ref 34, .ref 36, .ref 38, .int (nI (q.2 2))]), .inr (5, [.ref 35]), .inl (0, 60, .inl (q.1 14)), .inr (5, [.ref 37]), .inl (0, 60, .inl (q.1 15)), .inr (5, [.ref 39]), .inl (0, 60, .inl (q.1 16)), .inr (5, [.ref 41]), .inl (0, 300, .inl (q.1 17)), .inr (2, [.ref 43, .ref 45, .ref 47, .int (nI (q.2 3))]), .inr (5, [.ref 44]), .inl (0, 60, .inl (q.1 18)), .inr (5, [.ref 46]), .inl (0, 60, .inl (q.1 19)), .inr (5, [.ref 48]), .inl (0, 60, .inl (q.1 20)), .inr (6, [.ref 50, .ref 57]), .inr (2, [.ref 51, .ref 53, .ref 55, .int (nI (q.2 4))]), .inr (5, [.ref 52]), .inl (0, 60, .inl (q.1 21)), .inr (5, [.ref 54]), .inl (0, 60, .inl (q.1 22)), .inr (5, [.ref 56]), .inl (0, 60, .inl (q.1 23)), .inr (2, [.ref 58, .ref 60, .ref 62, .int (nI (q.2 5))]), .inr (5, [.ref 59]), .inl (0, 60, .inl (q.1 24)), .inr (5, [.ref 61]), .inl (0, 60, .inl (q.1 25)), .inr (5, [.ref 63]), .inl (0, 60, .inl (q.1 26)), .inr (0, [.ref 65, .ref 67, .ref 69, .ref 71, .ref 73, .ref 75, .ref 77, .ref 79, .int (nI (q.2 6))]), .inr (5, [.ref 66]), .inl (0, 60, .inl (q.1 27)), .inr (5, [.ref 68]), .inl (0, 60, .inl (q.1 28)), .inr (5, [.ref 70]), .inl (0, 60, .inl (q.1 29)), .inr (5, [.ref 72]), .inl (0, 60, .inl (q.1 30)), .inr (5, [.ref 74]), .inl (0, 60, .inl (q.1 31)), .inr (5, [.ref 76]), .inl (0, 60, .inl (q.1 32)), .inr (5, [.ref 78]), .inl (0, 60, .inl (q.1 33)), .inr (5, [.ref 80]), .inl (0, 300, .inl (q.1 34)), .inr (8, [.ref 82, .int (nI (q.2 7))]), .inr (5, [.ref 83]), .inl (0, 5, .inl (q.1 35))]
def ro : Nat → Nat
  | 0 => 2
  | 1 => 4
  | 2 => 6
  | 3 => 8
  | 4 => 10
  | 5 => 12
  | 6 => 14
  | 7 => 17
  | 8 => 19
  | 9 => 21
  | 10 => 23
  | 11 => 25
  | 12 => 28
  | 13 => 30
  | 14 => 34
  | 15 => 36
  | 16 => 38
  | 17 => 40
  | 18 => 43
  | 19 => 45
  | 20 => 47
  | 21 => 51
  | 22 => 53
  | 23 => 55
  | 24 => 58
  | 25 => 60
  | 26 => 62
  | 27 => 65
  | 28 => 67
  | 29 => 69
  | 30 => 71
  | 31 => 73
  | 32 => 75
  | 33 => 77
  | 34 => 79
  | _ => 82
def rl : Nat → Nat
  | 0 => 12
  | 1 => 12
  | 2 => 12
  | 3 => 12
  | 4 => 12
  | 5 => 12
  | 6 => 12
  | 7 => 5
  | 8 => 5
  | 9 => 5
  | 10 => 5
  | 11 => 6
  | 12 => 25
  | 13 => 25
  | 14 => 60
  | 15 => 60
  | 16 => 60
  | 17 => 300
  | 18 => 60
  | 19 => 60
  | 20 => 60
  | 21 => 60
  | 22 => 60
  | 23 => 60
  | 24 => 60
  | 25 => 60
  | 26 => 60
  | 27 => 60
  | 28 => 60
  | 29 => 60
  | 30 => 60
  | 31 => 60
  | 32 => 60
  | 33 => 60
  | 34 => 300
  | _ => 5
/-- what Row.get tells of a row of n cells f; what Row.set makes of it -/
def rg (n : Nat) (f : Nat → Int32) (i : Int32) : Int32 := if 0 ≤ i ∧ i < nI n then f i.toNatClampNeg else 0
def rs (n : Nat) (f : Nat → Int32) (i v : Int32) : Nat → Int32 := if 0 ≤ i ∧ i < nI n then upd f i.toNatClampNeg v else f
def rad (n : Nat) (f : Nat → Int32) (i v : Int32) : Nat → Int32 := if 0 ≤ i ∧ i < nI n then upd f i.toNatClampNeg (f i.toNatClampNeg + v) else f
def setR (q : XS) (k : Nat) (f : Nat → Int32) : XS := (fun j => if j = k then f else q.1 j, q.2)
def setC (q : XS) (k : Nat) (n : Nat) : XS := (q.1, fun j => if j = k then n else q.2 j)
def xg (q : XS) (k : Nat) (i : Int32) : Int32 := rg (rl k) (q.1 k) i
def xs (q : XS) (k : Nat) (i v : Int32) : XS := setR q k (rs (rl k) (q.1 k) i v)
def xad (q : XS) (k : Nat) (i v : Int32) : XS := setR q k (rad (rl k) (q.1 k) i v)
theorem WX_row (q : XS) (k : Nat) (hk : k < 36) : (WX q)[ro k]? = some (.inr (5, [.ref (ro k + 1)])) ∧ (WX q)[ro k + 1]? = some (.inl (0, rl k, .inl (q.1 k))) ∧ rl k < 1000 := by
  match k, hk with
  | 0, _ => exact ⟨rfl, rfl, by decide⟩
  | 1, _ => exact ⟨rfl, rfl, by decide⟩
  | 2, _ => exact ⟨rfl, rfl, by decide⟩
  | 3, _ => exact ⟨rfl, rfl, by decide⟩
  | 4, _ => exact ⟨rfl, rfl, by decide⟩
  | 5, _ => exact ⟨rfl, rfl, by decide⟩
  | 6, _ => exact ⟨rfl, rfl, by decide⟩
  | 7, _ => exact ⟨rfl, rfl, by decide⟩
  | 8, _ => exact ⟨rfl, rfl, by decide⟩
  | 9, _ => exact ⟨rfl, rfl, by decide⟩
  | 10, _ => exact ⟨rfl, rfl, by decide⟩
  | 11, _ => exact ⟨rfl, rfl, by decide⟩
  | 12, _ => exact ⟨rfl, rfl, by decide⟩
  | 13, _ => exact ⟨rfl, rfl, by decide⟩
  | 14, _ => exact ⟨rfl, rfl, by decide⟩
  | 15, _ => exact ⟨rfl, rfl, by decide⟩
  | 16, _ => exact ⟨rfl, rfl, by decide⟩
  | 17, _ => exact ⟨rfl, rfl, by decide⟩
  | 18, _ => exact ⟨rfl, rfl, by decide⟩
  | 19, _ => exact ⟨rfl, rfl, by decide⟩
  | 20, _ => exact ⟨rfl, rfl, by decide⟩
  | 21, _ => exact ⟨rfl, rfl, by decide⟩
  | 22, _ => exact ⟨rfl, rfl, by decide⟩
  | 23, _ => exact ⟨rfl, rfl, by decide⟩
  | 24, _ => exact ⟨rfl, rfl, by decide⟩
  | 25, _ => exact ⟨rfl, rfl, by decide⟩
  | 26, _ => exact ⟨rfl, rfl, by decide⟩
  | 27, _ => exact ⟨rfl, rfl, by decide⟩
  | 28, _ => exact ⟨rfl, rfl, by decide⟩
  | 29, _ => exact ⟨rfl, rfl, by decide⟩
  | 30, _ => exact ⟨rfl, rfl, by decide⟩
  | 31, _ => exact ⟨rfl, rfl, by decide⟩
  | 32, _ => exact ⟨rfl, rfl, by decide⟩
  | 33, _ => exact ⟨rfl, rfl, by decide⟩
  | 34, _ => exact ⟨rfl, rfl, by decide⟩
  | 35, _ => exact ⟨rfl, rfl, by decide⟩
  | k + 36, h => exact absurd h (by omega)
theorem WX_set (q : XS) (k : Nat) (hk : k < 36) (f : Nat → Int32) : (WX q).set (ro k + 1) (.inl (0, rl k, .inl f)) = WX (setR q k f) := by
  match k, hk with
  | 0, _ => rfl
  | 1, _ => rfl
  | 2, _ => rfl
  | 3, _ => rfl
  | 4, _ => rfl
  | 5, _ => rfl
  | 6, _ => rfl
  | 7, _ => rfl
  | 8, _ => rfl
  | 9, _ => rfl
  | 10, _ => rfl
  | 11, _ => rfl
  | 12, _ => rfl
  | 13, _ => rfl
  | 14, _ => rfl
  | 15, _ => rfl
  | 16, _ => rfl
  | 17, _ => rfl
  | 18, _ => rfl
  | 19, _ => rfl
  | 20, _ => rfl
  | 21, _ => rfl
  | 22, _ => rfl
  | 23, _ => rfl
  | 24, _ => rfl
  | 25, _ => rfl
  | 26, _ => rfl
  | 27, _ => rfl
  | 28, _ => rfl
  | 29, _ => rfl
  | 30, _ => rfl
  | 31, _ => rfl
  | 32, _ => rfl
  | 33, _ => rfl
  | 34, _ => rfl
  | 35, _ => rfl
  | k + 36, h => exact absurd h (by omega)
theorem WX_len (q : XS) : (WX q).length = 84 := rfl
theorem WX_len2 (q q2 : XS) : (WX q).length = (WX q2).length := (WX_len q).trans (WX_len q2).symm

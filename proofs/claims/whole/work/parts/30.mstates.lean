/-! ===== the states of the reference: rows and counters by their numbers =====
row 0: dear (5)
row 1: cheap (5)
row 2: delays (5)
row 3: lines (25)
row 4: coins (5)
row 5: earned (5)
row 6: losses (5)
row 7: spent (6)
row 8: owners (12)
row 9: debts (12)
row 10: bonds (12)
row 11: isBarred (12)
row 12: portNumber (60)
row 13: portCarrier (60)
row 14: portSecond (60)
row 15: knownFrom (300)
row 16: callers (60)
row 17: called (60)
row 18: states (60)
row 19: trunks (60)
row 20: ways (300)
row 21: lengths (60)
row 22: charges (60)
row 23: way (5)
counters: 0 refusal, 1 now, 2 settings, 3 sales, 4 ports, 5 calls, 6 lost, 7 found -/
def WM (q : XS) : AW := [.inr (10, [.int (nI (q.2 0)), .int (nI (q.2 1)), .ref 1, .ref 2, .ref 3, .ref 4, .ref 5, .ref 6, .ref 7, .int (nI (q.2 2)), .ref 8, .ref 9, .ref 10, .ref 11, .ref 12, .int (nI (q.2 3)), .int (nI (q.2 4)), .ref 13, .ref 14, .ref 15, .ref 16, .int (nI (q.2 5)), .int (nI (q.2 6)), .ref 17, .ref 18, .ref 19, .ref 20, .ref 21, .ref 22, .ref 23, .int (nI (q.2 7)), .ref 24]), .inl (0, 5, .inl (q.1 0)), .inl (0, 5, .inl (q.1 1)), .inl (0, 5, .inl (q.1 2)), .inl (0, 25, .inl (q.1 3)), .inl (0, 5, .inl (q.1 4)), .inl (0, 5, .inl (q.1 5)), .inl (0, 5, .inl (q.1 6)), .inl (0, 6, .inl (q.1 7)), .inl (0, 12, .inl (q.1 8)), .inl (0, 12, .inl (q.1 9)), .inl (0, 12, .inl (q.1 10)), .inl (1, 12, .inl (q.1 11)), .inl (0, 60, .inl (q.1 12)), .inl (0, 60, .inl (q.1 13)), .inl (0, 60, .inl (q.1 14)), .inl (0, 300, .inl (q.1 15)), .inl (0, 60, .inl (q.1 16)), .inl (0, 60, .inl (q.1 17)), .inl (0, 60, .inl (q.1 18)), .inl (0, 60, .inl (q.1 19)), .inl (0, 300, .inl (q.1 20)), .inl (0, 60, .inl (q.1 21)), .inl (0, 60, .inl (q.1 22)), .inl (0, 5, .inl (q.1 23))]
def ml : Nat → Nat
  | 0 => 5
  | 1 => 5
  | 2 => 5
  | 3 => 25
  | 4 => 5
  | 5 => 5
  | 6 => 5
  | 7 => 6
  | 8 => 12
  | 9 => 12
  | 10 => 12
  | 11 => 12
  | 12 => 60
  | 13 => 60
  | 14 => 60
  | 15 => 300
  | 16 => 60
  | 17 => 60
  | 18 => 60
  | 19 => 60
  | 20 => 300
  | 21 => 60
  | 22 => 60
  | _ => 5
theorem WM_len (q : XS) : (WM q).length = 25 := rfl
theorem WM_len2 (q q2 : XS) : (WM q).length = (WM q2).length := (WM_len q).trans (WM_len q2).symm
abbrev mg (q : XS) (k : Nat) (i : Int32) : Int32 := q.1 k i.toNatClampNeg
abbrev mw (q : XS) (k : Nat) (i v : Int32) : XS := setR q k (upd (q.1 k) i.toNatClampNeg v)
theorem WM_set (q : XS) (k : Nat) (hk : k < 24 ∧ k ≠ 11) (f : Nat → Int32) : (WM q).set (1 + k) (.inl (0, ml k, .inl f)) = WM (setR q k f) := by
  match k, hk with
  | 0, _ => rfl
  | 1, _ => rfl
  | 2, _ => rfl
  | 3, _ => rfl
  | 4, _ => rfl
  | 5, _ => rfl
  | 6, _ => rfl
  | 7, _ => rfl
  | 8, _ => rfl
  | 9, _ => rfl
  | 10, _ => rfl
  | 12, _ => rfl
  | 13, _ => rfl
  | 14, _ => rfl
  | 15, _ => rfl
  | 16, _ => rfl
  | 17, _ => rfl
  | 18, _ => rfl
  | 19, _ => rfl
  | 20, _ => rfl
  | 21, _ => rfl
  | 22, _ => rfl
  | 23, _ => rfl
  | 11, h => exact absurd rfl h.2
  | k + 24, h => exact absurd h.1 (by omega)
theorem WM_setz (q : XS) (f : Nat → Int32) : (WM q).set 12 (.inl (1, 12, .inl f)) = WM (setR q 11 f) := rfl
theorem nar0 : vp_nar .boolean 0 = 0 := rfl
theorem nar1 : vp_nar .boolean 1 = 1 := rfl
theorem WM_put0 (q : XS) (n : Nat) : (WM q).set 0 (.inr (10, [.int (nI (q.2 0)), .int (nI (q.2 1)), .ref 1, .ref 2, .ref 3, .ref 4, .ref 5, .ref 6, .ref 7, .int (nI (q.2 2)), .ref 8, .ref 9, .ref 10, .ref 11, .ref 12, .int (nI (q.2 3)), .int (nI (q.2 4)), .ref 13, .ref 14, .ref 15, .ref 16, .int (nI (q.2 5)), .int (nI (q.2 6)), .ref 17, .ref 18, .ref 19, .ref 20, .ref 21, .ref 22, .ref 23, .int (nI (q.2 7)), .ref 24].set 0 (.int (nI n)))) = WM (setC q 0 n) := rfl
theorem WM_inc0 (q : XS) : (WM q).set 0 (.inr (10, [.int (nI (q.2 0)), .int (nI (q.2 1)), .ref 1, .ref 2, .ref 3, .ref 4, .ref 5, .ref 6, .ref 7, .int (nI (q.2 2)), .ref 8, .ref 9, .ref 10, .ref 11, .ref 12, .int (nI (q.2 3)), .int (nI (q.2 4)), .ref 13, .ref 14, .ref 15, .ref 16, .int (nI (q.2 5)), .int (nI (q.2 6)), .ref 17, .ref 18, .ref 19, .ref 20, .ref 21, .ref 22, .ref 23, .int (nI (q.2 7)), .ref 24].set 0 (.int (nI (q.2 0) + 1)))) = WM (setC q 0 (q.2 0 + 1)) := by
  rw [nI_1]; rfl
theorem WM_put1 (q : XS) (n : Nat) : (WM q).set 0 (.inr (10, [.int (nI (q.2 0)), .int (nI (q.2 1)), .ref 1, .ref 2, .ref 3, .ref 4, .ref 5, .ref 6, .ref 7, .int (nI (q.2 2)), .ref 8, .ref 9, .ref 10, .ref 11, .ref 12, .int (nI (q.2 3)), .int (nI (q.2 4)), .ref 13, .ref 14, .ref 15, .ref 16, .int (nI (q.2 5)), .int (nI (q.2 6)), .ref 17, .ref 18, .ref 19, .ref 20, .ref 21, .ref 22, .ref 23, .int (nI (q.2 7)), .ref 24].set 1 (.int (nI n)))) = WM (setC q 1 n) := rfl
theorem WM_inc1 (q : XS) : (WM q).set 0 (.inr (10, [.int (nI (q.2 0)), .int (nI (q.2 1)), .ref 1, .ref 2, .ref 3, .ref 4, .ref 5, .ref 6, .ref 7, .int (nI (q.2 2)), .ref 8, .ref 9, .ref 10, .ref 11, .ref 12, .int (nI (q.2 3)), .int (nI (q.2 4)), .ref 13, .ref 14, .ref 15, .ref 16, .int (nI (q.2 5)), .int (nI (q.2 6)), .ref 17, .ref 18, .ref 19, .ref 20, .ref 21, .ref 22, .ref 23, .int (nI (q.2 7)), .ref 24].set 1 (.int (nI (q.2 1) + 1)))) = WM (setC q 1 (q.2 1 + 1)) := by
  rw [nI_1]; rfl
theorem WM_put2 (q : XS) (n : Nat) : (WM q).set 0 (.inr (10, [.int (nI (q.2 0)), .int (nI (q.2 1)), .ref 1, .ref 2, .ref 3, .ref 4, .ref 5, .ref 6, .ref 7, .int (nI (q.2 2)), .ref 8, .ref 9, .ref 10, .ref 11, .ref 12, .int (nI (q.2 3)), .int (nI (q.2 4)), .ref 13, .ref 14, .ref 15, .ref 16, .int (nI (q.2 5)), .int (nI (q.2 6)), .ref 17, .ref 18, .ref 19, .ref 20, .ref 21, .ref 22, .ref 23, .int (nI (q.2 7)), .ref 24].set 9 (.int (nI n)))) = WM (setC q 2 n) := rfl
theorem WM_inc2 (q : XS) : (WM q).set 0 (.inr (10, [.int (nI (q.2 0)), .int (nI (q.2 1)), .ref 1, .ref 2, .ref 3, .ref 4, .ref 5, .ref 6, .ref 7, .int (nI (q.2 2)), .ref 8, .ref 9, .ref 10, .ref 11, .ref 12, .int (nI (q.2 3)), .int (nI (q.2 4)), .ref 13, .ref 14, .ref 15, .ref 16, .int (nI (q.2 5)), .int (nI (q.2 6)), .ref 17, .ref 18, .ref 19, .ref 20, .ref 21, .ref 22, .ref 23, .int (nI (q.2 7)), .ref 24].set 9 (.int (nI (q.2 2) + 1)))) = WM (setC q 2 (q.2 2 + 1)) := by
  rw [nI_1]; rfl
theorem WM_put3 (q : XS) (n : Nat) : (WM q).set 0 (.inr (10, [.int (nI (q.2 0)), .int (nI (q.2 1)), .ref 1, .ref 2, .ref 3, .ref 4, .ref 5, .ref 6, .ref 7, .int (nI (q.2 2)), .ref 8, .ref 9, .ref 10, .ref 11, .ref 12, .int (nI (q.2 3)), .int (nI (q.2 4)), .ref 13, .ref 14, .ref 15, .ref 16, .int (nI (q.2 5)), .int (nI (q.2 6)), .ref 17, .ref 18, .ref 19, .ref 20, .ref 21, .ref 22, .ref 23, .int (nI (q.2 7)), .ref 24].set 15 (.int (nI n)))) = WM (setC q 3 n) := rfl
theorem WM_inc3 (q : XS) : (WM q).set 0 (.inr (10, [.int (nI (q.2 0)), .int (nI (q.2 1)), .ref 1, .ref 2, .ref 3, .ref 4, .ref 5, .ref 6, .ref 7, .int (nI (q.2 2)), .ref 8, .ref 9, .ref 10, .ref 11, .ref 12, .int (nI (q.2 3)), .int (nI (q.2 4)), .ref 13, .ref 14, .ref 15, .ref 16, .int (nI (q.2 5)), .int (nI (q.2 6)), .ref 17, .ref 18, .ref 19, .ref 20, .ref 21, .ref 22, .ref 23, .int (nI (q.2 7)), .ref 24].set 15 (.int (nI (q.2 3) + 1)))) = WM (setC q 3 (q.2 3 + 1)) := by
  rw [nI_1]; rfl
theorem WM_put4 (q : XS) (n : Nat) : (WM q).set 0 (.inr (10, [.int (nI (q.2 0)), .int (nI (q.2 1)), .ref 1, .ref 2, .ref 3, .ref 4, .ref 5, .ref 6, .ref 7, .int (nI (q.2 2)), .ref 8, .ref 9, .ref 10, .ref 11, .ref 12, .int (nI (q.2 3)), .int (nI (q.2 4)), .ref 13, .ref 14, .ref 15, .ref 16, .int (nI (q.2 5)), .int (nI (q.2 6)), .ref 17, .ref 18, .ref 19, .ref 20, .ref 21, .ref 22, .ref 23, .int (nI (q.2 7)), .ref 24].set 16 (.int (nI n)))) = WM (setC q 4 n) := rfl
theorem WM_inc4 (q : XS) : (WM q).set 0 (.inr (10, [.int (nI (q.2 0)), .int (nI (q.2 1)), .ref 1, .ref 2, .ref 3, .ref 4, .ref 5, .ref 6, .ref 7, .int (nI (q.2 2)), .ref 8, .ref 9, .ref 10, .ref 11, .ref 12, .int (nI (q.2 3)), .int (nI (q.2 4)), .ref 13, .ref 14, .ref 15, .ref 16, .int (nI (q.2 5)), .int (nI (q.2 6)), .ref 17, .ref 18, .ref 19, .ref 20, .ref 21, .ref 22, .ref 23, .int (nI (q.2 7)), .ref 24].set 16 (.int (nI (q.2 4) + 1)))) = WM (setC q 4 (q.2 4 + 1)) := by
  rw [nI_1]; rfl
theorem WM_put5 (q : XS) (n : Nat) : (WM q).set 0 (.inr (10, [.int (nI (q.2 0)), .int (nI (q.2 1)), .ref 1, .ref 2, .ref 3, .ref 4, .ref 5, .ref 6, .ref 7, .int (nI (q.2 2)), .ref 8, .ref 9, .ref 10, .ref 11, .ref 12, .int (nI (q.2 3)), .int (nI (q.2 4)), .ref 13, .ref 14, .ref 15, .ref 16, .int (nI (q.2 5)), .int (nI (q.2 6)), .ref 17, .ref 18, .ref 19, .ref 20, .ref 21, .ref 22, .ref 23, .int (nI (q.2 7)), .ref 24].set 21 (.int (nI n)))) = WM (setC q 5 n) := rfl
theorem WM_inc5 (q : XS) : (WM q).set 0 (.inr (10, [.int (nI (q.2 0)), .int (nI (q.2 1)), .ref 1, .ref 2, .ref 3, .ref 4, .ref 5, .ref 6, .ref 7, .int (nI (q.2 2)), .ref 8, .ref 9, .ref 10, .ref 11, .ref 12, .int (nI (q.2 3)), .int (nI (q.2 4)), .ref 13, .ref 14, .ref 15, .ref 16, .int (nI (q.2 5)), .int (nI (q.2 6)), .ref 17, .ref 18, .ref 19, .ref 20, .ref 21, .ref 22, .ref 23, .int (nI (q.2 7)), .ref 24].set 21 (.int (nI (q.2 5) + 1)))) = WM (setC q 5 (q.2 5 + 1)) := by
  rw [nI_1]; rfl
theorem WM_put6 (q : XS) (n : Nat) : (WM q).set 0 (.inr (10, [.int (nI (q.2 0)), .int (nI (q.2 1)), .ref 1, .ref 2, .ref 3, .ref 4, .ref 5, .ref 6, .ref 7, .int (nI (q.2 2)), .ref 8, .ref 9, .ref 10, .ref 11, .ref 12, .int (nI (q.2 3)), .int (nI (q.2 4)), .ref 13, .ref 14, .ref 15, .ref 16, .int (nI (q.2 5)), .int (nI (q.2 6)), .ref 17, .ref 18, .ref 19, .ref 20, .ref 21, .ref 22, .ref 23, .int (nI (q.2 7)), .ref 24].set 22 (.int (nI n)))) = WM (setC q 6 n) := rfl
theorem WM_inc6 (q : XS) : (WM q).set 0 (.inr (10, [.int (nI (q.2 0)), .int (nI (q.2 1)), .ref 1, .ref 2, .ref 3, .ref 4, .ref 5, .ref 6, .ref 7, .int (nI (q.2 2)), .ref 8, .ref 9, .ref 10, .ref 11, .ref 12, .int (nI (q.2 3)), .int (nI (q.2 4)), .ref 13, .ref 14, .ref 15, .ref 16, .int (nI (q.2 5)), .int (nI (q.2 6)), .ref 17, .ref 18, .ref 19, .ref 20, .ref 21, .ref 22, .ref 23, .int (nI (q.2 7)), .ref 24].set 22 (.int (nI (q.2 6) + 1)))) = WM (setC q 6 (q.2 6 + 1)) := by
  rw [nI_1]; rfl
theorem WM_put7 (q : XS) (n : Nat) : (WM q).set 0 (.inr (10, [.int (nI (q.2 0)), .int (nI (q.2 1)), .ref 1, .ref 2, .ref 3, .ref 4, .ref 5, .ref 6, .ref 7, .int (nI (q.2 2)), .ref 8, .ref 9, .ref 10, .ref 11, .ref 12, .int (nI (q.2 3)), .int (nI (q.2 4)), .ref 13, .ref 14, .ref 15, .ref 16, .int (nI (q.2 5)), .int (nI (q.2 6)), .ref 17, .ref 18, .ref 19, .ref 20, .ref 21, .ref 22, .ref 23, .int (nI (q.2 7)), .ref 24].set 30 (.int (nI n)))) = WM (setC q 7 n) := rfl
theorem WM_inc7 (q : XS) : (WM q).set 0 (.inr (10, [.int (nI (q.2 0)), .int (nI (q.2 1)), .ref 1, .ref 2, .ref 3, .ref 4, .ref 5, .ref 6, .ref 7, .int (nI (q.2 2)), .ref 8, .ref 9, .ref 10, .ref 11, .ref 12, .int (nI (q.2 3)), .int (nI (q.2 4)), .ref 13, .ref 14, .ref 15, .ref 16, .int (nI (q.2 5)), .int (nI (q.2 6)), .ref 17, .ref 18, .ref 19, .ref 20, .ref 21, .ref 22, .ref 23, .int (nI (q.2 7)), .ref 24].set 30 (.int (nI (q.2 7) + 1)))) = WM (setC q 7 (q.2 7 + 1)) := by
  rw [nI_1]; rfl

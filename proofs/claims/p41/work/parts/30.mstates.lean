def ml : Nat → Nat
  | 0 => 5
  | 1 => 5
  | 2 => 5
  | 3 => 25
  | 4 => 5
  | 5 => 5
  | 6 => 5
  | 7 => 6
  | 8 => 12
  | 9 => 12
  | 10 => 12
  | 11 => 12
  | 12 => 60
  | 13 => 60
  | 14 => 60
  | 15 => 300
  | 16 => 60
  | 17 => 60
  | 18 => 60
  | 19 => 60
  | 20 => 300
  | 21 => 60
  | 22 => 60
  | _ => 5
abbrev mg (q : XS) (k : Nat) (i : Int32) : Int32 := q.1 k i.toNatClampNeg
abbrev mw (q : XS) (k : Nat) (i v : Int32) : XS := setR q k (upd (q.1 k) i.toNatClampNeg v)
theorem nar0 : vp_nar .boolean 0 = 0 := rfl
theorem nar1 : vp_nar .boolean 1 = 1 := rfl

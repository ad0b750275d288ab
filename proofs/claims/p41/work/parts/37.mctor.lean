def mZ : XS := (fun _ _ => 0, fun _ => 0)
def m1 : Nat → XS
  | 0 => mZ
  | k + 1 => mw (mw (mw (m1 k) 0 (nI k) 2) 1 (nI k) 1) 2 (nI k) 100
def m2 : Nat → XS
  | 0 => m1 5
  | k + 1 => mw (m2 k) 3 (nI k) (if nI k / 5 = nI k - nI k / 5 * 5 then 0 else 2)
def m3 : Nat → XS
  | 0 => m2 25
  | k + 1 => mw (m3 k) 8 (nI k) (nI k - nI k / 6 * 6)
abbrev t0 : XS := m3 12

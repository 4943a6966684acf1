/-! the reference's days with something besides on the first -/
def kE (a : Nat → Int64) (f : Nat → Nat → Int64) : Nat → Nat → Int64
  | 0 => a
  | d + 1 => f (d + 1)
def kEl (a : Int64) (f : Nat → Int64) : Nat → Int64
  | 0 => a
  | d + 1 => f (d + 1)
theorem kE_pos {a : Nat → Int64} {f : Nat → Nat → Int64} : ∀ {d : Nat}, ¬ d = 0 → kE a f d = f d
  | 0, h => absurd rfl h
  | _ + 1, _ => rfl
theorem kEl_pos {a : Int64} {f : Nat → Int64} : ∀ {d : Nat}, ¬ d = 0 → kEl a f d = f d
  | 0, h => absurd rfl h
  | _ + 1, _ => rfl

/-- whether a kind is one of those that a number names -/
def kOne (k t : Int) : Bool := decide (t = 0 ∨ (t = 1 ∧ (k = 1 ∨ k = 3)) ∨ (t = 2 ∧ (k = 2 ∨ k = 4)) ∨ (¬ (0 ≤ t ∧ t ≤ 2) ∧ k = t))
def a_taken (S : SS) (w t : Int) : Int := match S with
  | (_, _, τ, _) => if ¬ (0 ≤ t ∧ t ≤ 6) then -2 else if ¬ (0 ≤ w ∧ w ≤ 13) then -12 else if 6 ≤ w then (if t = 6 then τ 0 (w - 6).toNat else -13) else if ¬ (0 ≤ w ∧ w < τ 8 0) then -11 else if kOne (τ 6 w.toNat) t = true then w else -13

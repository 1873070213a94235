def a_firsts (S : SS) (s p d : Int) : Int := match S with
  | (nT, X, τ, img, τi, tn, tp, ss, sz, cl) => if a_refT (nT, X, τ, img, τi, tn, tp, ss, sz, cl) s p ≠ 0 then a_refT (nT, X, τ, img, τi, tn, tp, ss, sz, cl) s p else if ¬ (0 ≤ d ∧ d < 8) then -7
    else bt (fun q => decide (q = 6 ∨ (q : Int) < τ 8 0) && tB X (st τ 1 d.toNat (if q = 6 then -1 else (q : Int))) (cl s.toNat) p.toNat (sz s.toNat).toNat) 7
/-- of 99, 98, .. k numbers: how many are so, the last that is so -/
def bk (P : Nat → Bool) : Nat → Int × Int
  | 0 => (0, -1)
  | k + 1 => if P (99 - k) = true then ((bk P k).1 + 1, ((99 - k : Nat) : Int)) else bk P k
def a_baskets (S : SS) (s p what : Int) : Int := match S with
  | (nT, X, τ, img, τi, tn, tp, ss, sz, cl) => if a_refT (nT, X, τ, img, τi, tn, tp, ss, sz, cl) s p ≠ 0 then a_refT (nT, X, τ, img, τi, tn, tp, ss, sz, cl) s p else if ¬ (0 ≤ what ∧ what ≤ 1) then -7
    else if what = 0 then (bk (fun v => tB X (st τ 4 p.toNat v) (cl s.toNat) p.toNat (sz s.toNat).toNat) 100).1 else (bk (fun v => tB X (st τ 4 p.toNat v) (cl s.toNat) p.toNat (sz s.toNat).toNat) 100).2
theorem bk_b (P : Nat → Bool) : ∀ k : Nat, k ≤ 100 → (0 ≤ (bk P k).1 ∧ (bk P k).1 ≤ k) ∧ (-1 ≤ (bk P k).2 ∧ (bk P k).2 ≤ 99)
  | 0, _ => by simp only [bk]; omega
  | k + 1, h => by
    have := bk_b P k (by omega)
    simp only [bk]
    split <;> omega
theorem bk_no {P : Nat → Bool} {k : Nat} (h : ¬ P (99 - k) = true) : bk P (k + 1) = bk P k := if_neg h
theorem bk_yes {P : Nat → Bool} {k : Nat} (h : P (99 - k) = true) : bk P (k + 1) = ((bk P k).1 + 1, ((99 - k : Nat) : Int)) := if_pos h

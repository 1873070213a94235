/-! what each call answers (a_), and the state behind it (t_): the same words for the class and for the reference -/
def upT (S : SS) (τ' : Tn) : SS := match S with | (nT, X, _, r) => (nT, X, τ', r)
def oneOf (τ : Tn) (p : Int) : Prop := 0 ≤ p ∧ p < τ 8 0
def a_town (S : SS) (what d v : Int) : Int := match S with
  | (_, _, τ, _) => if ¬ (0 ≤ what ∧ what ≤ 2) ∨ (what ≠ 0 ∧ ¬ (0 ≤ d ∧ d < 8)) then -5 else if what = 0 then (if 0 ≤ v ∧ v ≤ 9999 then τ 8 1 else -7) else if what = 1 then (if 0 ≤ v ∧ v ≤ 99 then τ 0 d.toNat else -7) else if v = -1 ∨ (0 ≤ v ∧ v < τ 8 0) then τ 1 d.toNat else -7
def t_town (S : SS) (what d v : Int) : SS := match S with
  | (nT, X, τ, r) => if ¬ (0 ≤ what ∧ what ≤ 2) ∨ (what ≠ 0 ∧ ¬ (0 ≤ d ∧ d < 8)) then (nT, X, τ, r) else if what = 0 then (if 0 ≤ v ∧ v ≤ 9999 then (nT, X, st τ 8 1 v, r) else (nT, X, τ, r)) else if what = 1 then (if 0 ≤ v ∧ v ≤ 99 then (nT, X, st τ 0 d.toNat v, r) else (nT, X, τ, r)) else if v = -1 ∨ (0 ≤ v ∧ v < τ 8 0) then (nT, X, st τ 1 d.toNat v, r) else (nT, X, τ, r)
def a_door (S : SS) (d what : Int) : Int := match S with
  | (_, _, τ, _) => if ¬ (0 ≤ d ∧ d < 8) then -5 else if what = 0 then τ 1 d.toNat else if what = 1 then τ 2 d.toNat else if what = 2 then τ 0 d.toNat else if what = 3 then sAt τ d else -7
def a_force (S : SS) (t : Int) : Int := match S with
  | (nT, _, τ, _) => if 0 ≤ t ∧ t ≤ (nT : Int) - 1 then τ 8 2 else -2
def t_force (S : SS) (t : Int) : SS := match S with
  | (nT, X, τ, r) => if 0 ≤ t ∧ t ≤ (nT : Int) - 1 then (nT, X, st τ 8 2 t, r) else (nT, X, τ, r)
def a_asks (S : SS) (part p : Int) : Int := match S with
  | (_, X, τ, _) => if (0 ≤ part ∧ part ≤ 2) ∧ (0 ≤ p ∧ p < τ 8 0) then sAsk X τ part.toNat p.toNat else -1000
def a_citizen (S : SS) (km de : Int) : Int := match S with | (_, _, τ, _) => sComeA τ km de
def t_citizen (S : SS) (km de : Int) : SS := match S with | (nT, X, τ, r) => (nT, X, sComeT τ km de, r)
def a_put (S : SS) (p what v : Int) : Int := match S with
  | (_, _, τ, _) => if ¬ (0 ≤ p ∧ p < τ 8 0) then -5 else if what = 0 ∧ (0 ≤ v ∧ v < 8) then τ 3 p.toNat else if what = 1 ∧ (0 ≤ v ∧ v ≤ 99) then τ 4 p.toNat else -7
def t_put (S : SS) (p what v : Int) : SS := match S with
  | (nT, X, τ, r) => if ¬ (0 ≤ p ∧ p < τ 8 0) then (nT, X, τ, r) else if what = 0 ∧ (0 ≤ v ∧ v < 8) then (nT, X, st τ 3 p.toNat v, r) else if what = 1 ∧ (0 ≤ v ∧ v ≤ 99) then (nT, X, st τ 4 p.toNat v, r) else (nT, X, τ, r)
def a_told (S : SS) (p what : Int) : Int := match S with
  | (_, X, τ, _) => if ¬ (0 ≤ p ∧ p < τ 8 0) then -5 else if what = 0 then τ 3 p.toNat else if what = 1 then τ 4 p.toNat else if what = 2 then τ 5 p.toNat else if what = 3 then τ 6 p.toNat else if what = 4 then τ 7 p.toNat
    else if what = 5 then bi (sTri X τ p.toNat) else if what = 6 then sPay X τ p.toNat else if what = 7 then sGo X τ p.toNat + 10 else if what = 8 then sOut τ p.toNat (τ 3 p.toNat).toNat else -7
def a_twist (S : SS) (p : Int) : Int := match S with
  | (_, _, τ, _) => if 0 ≤ p ∧ p < τ 8 0 then sOut τ p.toNat (τ 3 p.toNat).toNat else -5
def t_twist (S : SS) (p : Int) : SS := match S with
  | (nT, X, τ, r) => if 0 ≤ p ∧ p < τ 8 0 then (nT, X, sTry X τ p.toNat (τ 3 p.toNat).toNat, r) else (nT, X, τ, r)
def a_give (S : SS) (p q m : Int) : Int := match S with
  | (_, _, τ, _) => if ¬ ((0 ≤ p ∧ p < τ 8 0) ∧ (0 ≤ q ∧ q < τ 8 0) ∧ p ≠ q) then -5 else if ¬ (0 ≤ m ∧ m ≤ 99) then -7 else if τ 4 p.toNat < m ∨ 99 - τ 4 q.toNat < m then -3 else τ 4 q.toNat + m
def t_give (S : SS) (p q m : Int) : SS := match S with
  | (nT, X, τ, r) => if ¬ ((0 ≤ p ∧ p < τ 8 0) ∧ (0 ≤ q ∧ q < τ 8 0) ∧ p ≠ q) then (nT, X, τ, r) else if ¬ (0 ≤ m ∧ m ≤ 99) then (nT, X, τ, r) else if τ 4 p.toNat < m ∨ 99 - τ 4 q.toNat < m then (nT, X, τ, r)
    else (nT, X, st (st τ 4 p.toNat (τ 4 p.toNat - m)) 4 q.toNat (τ 4 q.toNat + m), r)
def a_minute (S : SS) : Int := match S with
  | (_, X, τ, _) => if 9999 ≤ τ 8 1 then -3 else (sMin X τ).1
def t_minute (S : SS) : SS := match S with
  | (nT, X, τ, r) => if 9999 ≤ τ 8 1 then (nT, X, τ, r) else (nT, X, (sMin X τ).2, r)

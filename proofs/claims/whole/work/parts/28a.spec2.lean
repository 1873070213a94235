theorem sEnd_wf {nT : Nat} {T : Tn} (h : WF nT T) : WF nT (sEnd T) := by
  obtain ⟨h1, h2, h3, h4, h5⟩ := h
  have e : ∀ f i, f ≠ 1 → f ≠ 2 → ¬ (f = 8 ∧ i = 1) → sEnd T f i = T f i := fun f i g1 g2 g3 => by
    unfold sEnd
    rw [if_neg g3, if_neg (by omega)]
  refine ⟨by rw [e _ _ (by decide) (by decide) (by decide)]; exact h1, by show 0 ≤ T 8 1 + 1; omega, by rw [e _ _ (by decide) (by decide) (by decide)]; exact h3, fun d hd => ?_, fun p hp => ?_⟩
  · have := h4 d hd
    refine ⟨by rw [e _ _ (by decide) (by decide) (by omega)]; exact this.1, ?_, ?_⟩
    · unfold sEnd; rw [if_neg (by omega)]; split <;> omega
    · unfold sEnd; rw [if_neg (by omega)]; split <;> omega
  · have := h5 p hp
    rw [e 3 p (by decide) (by decide) (by omega), e 4 p (by decide) (by decide) (by omega), e 5 p (by decide) (by decide) (by omega), e 6 p (by decide) (by decide) (by omega), e 7 p (by decide) (by decide) (by omega)]
    exact this
theorem sMin_wf {nT : Nat} {X : Nat → Tx} {τ : Tn} (h : WF nT τ) : WF nT (sMin X τ).2 := sEnd_wf (sAll_wf h _ (by have := h.1; omega))
theorem sMin_clk (X : Nat → Tx) (τ : Tn) : (sMin X τ).2 8 1 = τ 8 1 + 1 := by
  show (sAll X τ (τ 8 0).toNat).2 8 1 + 1 = _
  rw [sAll_8]
theorem sMin_80 (X : Nat → Tx) (τ : Tn) : (sMin X τ).2 8 0 = τ 8 0 := by
  show sEnd (sAll X τ (τ 8 0).toNat).2 8 0 = _
  unfold sEnd
  rw [if_neg (by decide), if_neg (by omega), sAll_8]
theorem sRun_wf {nT : Nat} {X : Nat → Tx} {τ : Tn} (h : WF nT τ) : ∀ n, WF nT (sRun X τ n)
  | 0 => h
  | n + 1 => sMin_wf (sRun_wf h n)
theorem sRun_clk (X : Nat → Tx) (τ : Tn) : ∀ n : Nat, sRun X τ n 8 1 = τ 8 1 + n
  | 0 => by show τ 8 1 = τ 8 1 + ((0 : Nat) : Int); omega
  | n + 1 => by
    show (sMin X (sRun X τ n)).2 8 1 = _
    rw [sMin_clk, sRun_clk X τ n]
    omega
theorem sRun_80 (X : Nat → Tx) (τ : Tn) : ∀ n : Nat, sRun X τ n 8 0 = τ 8 0
  | 0 => rfl
  | n + 1 => (sMin_80 X _).trans (sRun_80 X τ n)
/-- in which minute behind this one, of n, it is so; -1: in none -/
def sWhen (X : Nat → Tx) (τ : Tn) (w : Nat) : Nat → Nat → Int
  | 0, _ => -1
  | n + 1, i => if sSo (sRun X τ i) w = true then i else sWhen X τ w n (i + 1)
def sWait (X : Nat → Tx) (τ : Tn) (p : Nat) : Nat → Nat → Int
  | 0, _ => -1
  | n + 1, i => if sBit (sMin X (sRun X τ i)).1 p = true then (i : Int) + 1 else sWait X τ p n (i + 1)
/-- the first number told that is otherwise -/
def sOth (X : Nat → Tx) (τ : Tn) (c : Nat → Int) (p : Nat) : Nat → Nat → Int
  | 0, _ => -1
  | n + 1, i => if sRun X τ (i + 1) 4 p = c i then sOth X τ c p n (i + 1) else i
def a_run (S : SS) (n what : Int) : Int := match S with
  | (_, X, τ, _) => if ¬ ((0 ≤ n ∧ n ≤ 60) ∧ ((0 ≤ what ∧ what ≤ 2) ∨ ((10 ≤ what ∧ what ≤ 39) ∧ what % 10 < τ 8 0))) then -2
    else if what = 0 then sSnd (sRun X τ n.toNat) else if what = 1 then sFst (sRun X τ n.toNat) else if what = 2 then sm (sRun X τ n.toNat 0) 8
    else if what < 20 then sRun X τ n.toNat 3 (what % 10).toNat else if what < 30 then sRun X τ n.toNat 4 (what % 10).toNat else sRun X τ n.toNat 5 (what % 10).toNat
def a_when (S : SS) (what : Int) : Int := match S with
  | (_, X, τ, _) => if 0 ≤ what ∧ what ≤ 9 then sWhen X τ what.toNat 61 0 else -7
def a_waits (S : SS) (p : Int) : Int := match S with
  | (_, X, τ, _) => if 0 ≤ p ∧ p < τ 8 0 then sWait X τ p.toNat 60 0 else -5
def few (τ : Tn) : Nat → Int
  | 0 => 0
  | n + 1 => few τ n + (if τ 2 n = -1 then (if τ 1 n = -1 then 2 else 1) else 0)
def a_tries (S : SS) (what : Int) : Int := match S with
  | (_, _, τ, _) => if ¬ (0 ≤ what ∧ what ≤ 1) then -2 else if what = 1 then 8 - (pop8 (sSnd τ).toNat : Nat) else if 0 < 8 - ((pop8 (sSnd τ).toNat : Nat) : Int) ∧ τ 8 0 < 2 then -1 else few τ 8
/-- a part of above and below, in lowest terms -/
def lwst (a b : Nat) (part : Int) : Int := if part = 0 then ((a / Nat.gcd a b : Nat) : Int) else ((b / Nat.gcd a b : Nat) : Int)
def a_share (S : SS) (p part : Int) : Int := match S with
  | (_, _, τ, _) => if (0 ≤ p ∧ p < τ 8 0) ∧ (0 ≤ part ∧ part ≤ 1) ∧ 0 < sm (τ 4) (τ 8 0).toNat + sm (τ 0) 8 then lwst (τ 4 p.toNat).toNat (sm (τ 4) (τ 8 0).toNat + sm (τ 0) 8).toNat part else -4611686018427387904
theorem gcd_lt {a b : Nat} (h : a < b) (h0 : 0 < a) : Nat.gcd (b % a) a = Nat.gcd a b := (Nat.gcd_rec a b).symm
def a_ref (S : SS) (s : Int) : Int := match S with
  | (_, _, _, _, _, _, _, ss, sz, _) => if ¬ (0 ≤ s ∧ s < 4) then -2 else if ss s.toNat = -1 then -11 else if 20 < sz s.toNat then -2 else 0
def a_refT (S : SS) (s p : Int) : Int := match S with
  | (nT, X, τ, r) => if a_ref (nT, X, τ, r) s ≠ 0 then a_ref (nT, X, τ, r) s else if 0 ≤ p ∧ p < τ 8 0 then 0 else -5
/-- whether a sheet tells one's eggs of the minutes behind τ -/
def tB (X : Nat → Tx) (τ : Tn) (c : Nat → Int) (p n : Nat) : Bool := decide (sOth X τ c p n 0 = -1)
def a_judge (S : SS) (s p : Int) : Int := match S with
  | (nT, X, τ, img, τi, tn, tp, ss, sz, cl) => if a_refT (nT, X, τ, img, τi, tn, tp, ss, sz, cl) s p ≠ 0 then a_refT (nT, X, τ, img, τi, tn, tp, ss, sz, cl) s p else sOth X τ (cl s.toNat) p.toNat (sz s.toNat).toNat 0
def a_doors (S : SS) (s p : Int) : Int := match S with
  | (nT, X, τ, img, τi, tn, tp, ss, sz, cl) => if a_refT (nT, X, τ, img, τi, tn, tp, ss, sz, cl) s p ≠ 0 then a_refT (nT, X, τ, img, τi, tn, tp, ss, sz, cl) s p else bt (fun d => tB X (st τ 3 p.toNat d) (cl s.toNat) p.toNat (sz s.toNat).toNat) 8
def a_laws (S : SS) (s p : Int) : Int := match S with
  | (nT, X, τ, img, τi, tn, tp, ss, sz, cl) => if a_refT (nT, X, τ, img, τi, tn, tp, ss, sz, cl) s p ≠ 0 then a_refT (nT, X, τ, img, τi, tn, tp, ss, sz, cl) s p else bt (fun t => tB X (st τ 8 2 t) (cl s.toNat) p.toNat (sz s.toNat).toNat) nT
def a_whose (S : SS) (s : Int) : Int := match S with
  | (nT, X, τ, img, τi, tn, tp, ss, sz, cl) => if a_ref (nT, X, τ, img, τi, tn, tp, ss, sz, cl) s ≠ 0 then a_ref (nT, X, τ, img, τi, tn, tp, ss, sz, cl) s else bt (fun p => tB X τ (cl s.toNat) p (sz s.toNat).toNat) (τ 8 0).toNat
def a_kinds (S : SS) (s p sort : Int) : Int := match S with
  | (nT, X, τ, img, τi, tn, tp, ss, sz, cl) => if a_refT (nT, X, τ, img, τi, tn, tp, ss, sz, cl) s p ≠ 0 then a_refT (nT, X, τ, img, τi, tn, tp, ss, sz, cl) s p else if ¬ (0 ≤ sort ∧ sort ≤ 1) then -7
    else if sort = 0 then bt (fun v => tB X (st τ 6 p.toNat v) (cl s.toNat) p.toNat (sz s.toNat).toNat) 6 else bt (fun v => tB X (st τ 7 p.toNat v) (cl s.toNat) p.toNat (sz s.toNat).toNat) 10
theorem WF.law {nT : Nat} {τ : Tn} (h : WF nT τ) {t : Nat} (ht : t < nT) : WF nT (st τ 8 2 t) := by
  obtain ⟨w1, w2, w3, w4, w5⟩ := h
  refine ⟨by rw [st_ne (Or.inr (by decide))]; exact w1, by rw [st_ne (Or.inr (by decide))]; exact w2, by rw [st_self]; omega, fun d hd => ?_, fun p hp => ?_⟩
  · rw [st_ne (Or.inl (by decide)), st_ne (Or.inl (by decide)), st_ne (Or.inl (by decide))]; exact w4 d hd
  · rw [st_ne (f := 8) (g := 3) (Or.inl (by decide)), st_ne (f := 8) (g := 4) (Or.inl (by decide)), st_ne (f := 8) (g := 5) (Or.inl (by decide)), st_ne (f := 8) (g := 6) (Or.inl (by decide)), st_ne (f := 8) (g := 7) (Or.inl (by decide))]; exact w5 p hp
theorem shl_bit10 {p : Nat} (h : p < 10) : Int32.ofInt 1 <<< (Int32.ofInt (p : Int) &&& 31) = Int32.ofInt (2 ^ p) := by
  rcases (by omega : p = 0 ∨ p = 1 ∨ p = 2 ∨ p = 3 ∨ p = 4 ∨ p = 5 ∨ p = 6 ∨ p = 7 ∨ p = 8 ∨ p = 9) with rfl | rfl | rfl | rfl | rfl | rfl | rfl | rfl | rfl | rfl <;> decide
theorem sOth_in (X : Nat → Tx) (τ : Tn) (c : Nat → Int) (p : Nat) : ∀ n i : Nat, -1 ≤ sOth X τ c p n i ∧ sOth X τ c p n i ≤ (i : Int) + n
  | 0, i => by simp only [sOth]; omega
  | n + 1, i => by
    have := sOth_in X τ c p n (i + 1)
    simp only [sOth]
    split <;> omega

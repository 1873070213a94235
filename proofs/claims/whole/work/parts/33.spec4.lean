theorem RX.kept {M M2 : Mem} {nT tn : Nat} {X : Nat → Tx} {τ τ' τi : Tn} {img : Bool} {tp ss sz : Nat → Int} {cl : Nat → Nat → Int} (h : RX M (nT, X, τ, img, τi, tn, tp, ss, sz, cl)) (hF : Fr (scb 26) M M2) (hτ : TW M2 26 τ') : RX (upM M2 0 8 1) (nT, X, τ, true, τ', tn, tp, ss, sz, cl) := by
  obtain ⟨h1, h2, h3, h4, h5, h6, h7⟩ := h
  have hU : Fr (fun c => decide (c = 0)) M2 (upM M2 0 8 1) := Fr.refl.up rfl
  refine ⟨(h1.fr hF (fun c g1 g2 => scb_off (scr_tb tb6 g1 g2) (by omega))).fr hU (fun c g1 g2 => decide_eq_false (by omega)), (h2.scb tb26 hF).fr hU (fun t ht => ⟨decide_eq_false (by omega), decide_eq_false (by omega)⟩), (upM_ne (Or.inr (by decide))).trans ((hF _ _ rfl).trans h3), upM_self, fun _ => hτ.fr hU (fun c g1 g2 => decide_eq_false (by omega)), ⟨(upM_ne (Or.inl (by decide))).trans ((hF _ _ rfl).trans h6.1), fun i hi => (upM_ne (Or.inl (by decide))).trans ((hF _ _ rfl).trans (h6.2 i hi))⟩, fun s hs => ?_⟩
  have g := scr_sh hs
  exact ⟨(upM_ne (Or.inl (by omega))).trans ((hF _ _ (scb_off g.1 (by omega))).trans (h7 s hs).1), (upM_ne (Or.inl (by omega))).trans ((hF _ _ (scb_off g.1 (by omega))).trans (h7 s hs).2.1), fun i hi => (upM_ne (Or.inl (by omega))).trans ((hF _ _ (scb_off g.2 (by omega))).trans ((h7 s hs).2.2 i hi))⟩
def a_image (S : SS) : Int := match S with
  | (_, _, τ, _) => τ 8 0
def t_image (S : SS) : SS := match S with
  | (nT, X, τ, _, _, r) => (nT, X, τ, true, τ, r)
def a_back (S : SS) : Int := match S with
  | (_, _, _, img, τi, _) => if img = true then τi 8 0 else -3
def t_back (S : SS) : SS := match S with
  | (nT, X, τ, img, τi, r) => if img = true then (nT, X, τi, img, τi, r) else (nT, X, τ, img, τi, r)
theorem t_image_inv {S : SS} (h : INV S) : INV (t_image S) := by
  obtain ⟨nT, X, τ, img, τi, r⟩ := S
  obtain ⟨h1, h2, h3, h4⟩ := h
  exact ⟨h1, h2, fun _ => h2, h4⟩
theorem t_back_inv {S : SS} (h : INV S) : INV (t_back S) := by
  obtain ⟨nT, X, τ, img, τi, r⟩ := S
  obtain ⟨h1, h2, h3, h4⟩ := h
  unfold t_back
  simp only []
  split
  · rename_i hi
    exact ⟨h1, h3 hi, h3, h4⟩
  · exact ⟨h1, h2, h3, h4⟩
theorem few_b (τ : Tn) : ∀ n : Nat, 0 ≤ few τ n ∧ few τ n ≤ 2 * n
  | 0 => by simp only [few]; omega
  | n + 1 => by
    have := few_b τ n
    simp only [few]
    (repeat' split) <;> omega
theorem pop8_b (m : Nat) : pop8 m ≤ 8 := by unfold pop8; omega
/-- the first number with the highest value, and that value -/
def mxF (f : Nat → Int) : Nat → Int × Int
  | 0 => (-1, -1)
  | k + 1 => if (mxF f k).2 < f k then ((k : Int), f k) else mxF f k
theorem mxF_no {f : Nat → Int} {k : Nat} (h : ¬ (mxF f k).2 < f k) : mxF f (k + 1) = mxF f k := if_neg h
theorem mxF_yes {f : Nat → Int} {k : Nat} (h : (mxF f k).2 < f k) : mxF f (k + 1) = ((k : Int), f k) := if_pos h
theorem mxF_b {f : Nat → Int} : ∀ k : Nat, (∀ v, v < k → 0 ≤ f v ∧ f v ≤ 99) → (-1 ≤ (mxF f k).1 ∧ (mxF f k).1 ≤ k) ∧ (-1 ≤ (mxF f k).2 ∧ (mxF f k).2 ≤ 99)
  | 0, _ => by simp only [mxF]; omega
  | k + 1, h => by
    have h1 := mxF_b k (fun v hv => h v (by omega))
    have h2 := h k (by omega)
    simp only [mxF]
    split
    · exact ⟨⟨by omega, by omega⟩, by omega, by omega⟩
    · omega
def a_stand (S : SS) (p n what : Int) : Int := match S with
  | (_, X, τ, _) => if ¬ (0 ≤ p ∧ p < τ 8 0) then -5 else if ¬ ((0 ≤ n ∧ n ≤ 40) ∧ (0 ≤ what ∧ what ≤ 1)) then -7 else if what = 0 then (mxF (fun (v : Nat) => sRun X (st τ 3 p.toNat (v : Int)) n.toNat 4 p.toNat) 8).1 else (mxF (fun (v : Nat) => sRun X (st τ 3 p.toNat (v : Int)) n.toNat 4 p.toNat) 8).2
/-- the eggs of the second of two that try one door -/
def pE (X : Nat → Tx) (τ : Tn) (p q d : Nat) : Int := if p = q then -1 else sTry X (sTry X τ p d) q d 4 q
def pD (X : Nat → Tx) (τ : Tn) (p q : Nat) (a : Int × Int) : Nat → Int × Int
  | 0 => a
  | d + 1 => if (pD X τ p q a d).2 < pE X τ p q d then (100 * (p : Int) + 10 * (q : Int) + (d : Int), pE X τ p q d) else pD X τ p q a d
def pQ (X : Nat → Tx) (τ : Tn) (p : Nat) (a : Int × Int) : Nat → Int × Int
  | 0 => a
  | q + 1 => pD X τ p q (pQ X τ p a q) 8
def pP (X : Nat → Tx) (τ : Tn) (N : Nat) : Nat → Int × Int
  | 0 => (-1, -1)
  | p + 1 => pQ X τ p (pP X τ N p) N
theorem pD_no {X : Nat → Tx} {τ : Tn} {p q d : Nat} {a : Int × Int} (h : ¬ (pD X τ p q a d).2 < pE X τ p q d) : pD X τ p q a (d + 1) = pD X τ p q a d := if_neg h
theorem pD_yes {X : Nat → Tx} {τ : Tn} {p q d : Nat} {a : Int × Int} (h : (pD X τ p q a d).2 < pE X τ p q d) : pD X τ p q a (d + 1) = (100 * (p : Int) + 10 * (q : Int) + (d : Int), pE X τ p q d) := if_pos h
def a_pair (S : SS) (what : Int) : Int := match S with
  | (_, X, τ, _) => if ¬ (0 ≤ what ∧ what ≤ 1) then -2 else if what = 0 then (pP X τ (τ 8 0).toNat (τ 8 0).toNat).1 else (pP X τ (τ 8 0).toNat (τ 8 0).toNat).2
theorem snd_b (τ : Tn) : ∃ m : Nat, sSnd τ = m ∧ m < 256 ∧ (sSnd τ).toNat = m := by
  have sb := bt_b (fun d => decide (τ 2 d ≠ -1)) 8
  change 0 ≤ sSnd τ ∧ sSnd τ < 256 at sb
  exact ⟨(sSnd τ).toNat, by omega, by omega, rfl⟩
/-- one tries every door -/
def aT (X : Nat → Tx) (τ : Tn) (p : Nat) : Nat → Tn
  | 0 => τ
  | d + 1 => sTry X (aT X τ p d) p d
theorem aT_wf {nT : Nat} {X : Nat → Tx} {τ : Tn} {p : Nat} (h : WF nT τ) (hp : p < 6) : ∀ d : Nat, d ≤ 8 → WF nT (aT X τ p d)
  | 0, _ => h
  | d + 1, hd => sTry_wf (aT_wf h hp d (by omega)) hp (by omega)
theorem aT_8 (X : Nat → Tx) (τ : Tn) (p i : Nat) : ∀ d : Nat, aT X τ p d 8 i = τ 8 i
  | 0 => rfl
  | d + 1 => (sTry_8 X _ p d i).trans (aT_8 X τ p i d)
def rC (X : Nat → Tx) (τ : Tn) (p n : Nat) : Int := ((pop8 (sSnd (sRun X (aT X τ p 8) n)).toNat : Nat) : Int)
def mxG (f : Nat → Int) (b : Int) : Nat → Int × Int
  | 0 => (-1, b)
  | k + 1 => if (mxG f b k).2 < f k then ((k : Int), f k) else mxG f b k
theorem mxG_no {f : Nat → Int} {b : Int} {k : Nat} (h : ¬ (mxG f b k).2 < f k) : mxG f b (k + 1) = mxG f b k := if_neg h
theorem mxG_yes {f : Nat → Int} {b : Int} {k : Nat} (h : (mxG f b k).2 < f k) : mxG f b (k + 1) = ((k : Int), f k) := if_pos h
def a_rounds (S : SS) (n what : Int) : Int := match S with
  | (_, X, τ, _) => if ¬ ((0 ≤ n ∧ n ≤ 40) ∧ (0 ≤ what ∧ what ≤ 1)) then -2 else if what = 0 then (mxG (fun p => rC X τ p n.toNat) ((pop8 (sSnd (sRun X τ n.toNat)).toNat : Nat) : Int) (τ 8 0).toNat).1 else (mxG (fun p => rC X τ p n.toNat) ((pop8 (sSnd (sRun X τ n.toNat)).toNat : Nat) : Int) (τ 8 0).toNat).2

/-! the descent in the class's memory, whole -/
theorem gR_con {tp : Nat → Int} {tn t : Nat} {b : Bool} {N : Nat → Nat → List Int → RS} {k op d : Nat} (ht : t < 6) (hb : b = decide (0 < k)) (hop : op + k = 5) (hd : 8 ≤ d)
    (h5 : 0 < k → OC tp tn t (d - 1) (op + 1) (N 5) ∧ LO (N 5)) (h0 : 0 < k → SC tp tn t (d - 1) (op + 1) 0 (N 0)) (h2 : 0 < k → SC tp tn t (d + 3) (op + 1) 2 (N 2) ∧ LO (N 2)) (hLo : ∀ r, r ≤ 5 → LO (gR (tk tp tn) (vl tp tn) b N r)) :
    OC tp tn t d op (gR (tk tp tn) (vl tp tn) b N 5) ∧ ∀ r, r ≤ 5 → SC tp tn t (d + 6 - r) op r (gR (tk tp tn) (vl tp tn) b N r) := by
  have s6 : OC tp tn t d op (gR (tk tp tn) (vl tp tn) b N 5) := fun R M hG => x_one ht hb hop hd h5 h0 hG
  have s5 : SC tp tn t (d + 1) op 5 (gR (tk tp tn) (vl tp tn) b N 5) := fun R M hG => x_side5 (by omega) s6 hG
  have s4 : SC tp tn t (d + 2) op 4 (gR (tk tp tn) (vl tp tn) b N 4) := fun R M hG => x_sideL (d := d + 1) (r := 4) ht (by omega) (by omega) (by omega) s5 (hLo 5 (by decide)) hG
  have s3 : SC tp tn t (d + 3) op 3 (gR (tk tp tn) (vl tp tn) b N 3) := fun R M hG => x_sideL (d := d + 2) (r := 3) ht (by omega) (by omega) (by omega) s4 (hLo 4 (by decide)) hG
  have s2 : SC tp tn t (d + 4) op 2 (gR (tk tp tn) (vl tp tn) b N 2) := fun R M hG => x_side2 (d := d + 3) ht hb hop (by omega) s3 (hLo 3 (by decide)) h2 hG
  have s1 : SC tp tn t (d + 5) op 1 (gR (tk tp tn) (vl tp tn) b N 1) := fun R M hG => x_sideL (d := d + 4) (r := 1) ht (by omega) (by omega) (by omega) s2 (hLo 2 (by decide)) hG
  have s0 : SC tp tn t (d + 6) op 0 (gR (tk tp tn) (vl tp tn) b N 0) := fun R M hG => x_sideL (d := d + 5) (r := 0) ht (by omega) (by omega) (by omega) s1 (hLo 1 (by decide)) hG
  refine ⟨s6, fun r hr => ?_⟩
  rcases (by omega : r = 0 ∨ r = 1 ∨ r = 2 ∨ r = 3 ∨ r = 4 ∨ r = 5) with rfl | rfl | rfl | rfl | rfl | rfl
  · exact s0
  · exact s1
  · exact s2
  · exact s3
  · exact s4
  · exact s5
theorem gL_con {tp : Nat → Int} {tn t : Nat} (ht : t < 6) : ∀ k op d, op + k = 5 → 8 + 7 * k ≤ d → OC tp tn t d op (gL (tk tp tn) (vl tp tn) k 5) ∧ ∀ r, r ≤ 5 → SC tp tn t (d + 6 - r) op r (gL (tk tp tn) (vl tp tn) k r)
  | 0, op, d, hop, hd => gR_con (k := 0) ht rfl hop (by omega) (fun e => absurd e (by decide)) (fun e => absurd e (by decide)) (fun e => absurd e (by decide)) (fun r hr => (gL_ok (vl_in (tp := tp) (tn := tn)) 0 r (by decide) hr).lo)
  | k + 1, op, d, hop, hd => by
    have i1 := gL_con (tp := tp) (tn := tn) ht k (op + 1) (d - 1) (by omega) (by omega)
    have i2 := gL_con (tp := tp) (tn := tn) ht k (op + 1) (d - 7) (by omega) (by omega)
    have i0 := i2.2 0 (by decide)
    rw [show d - 7 + 6 - 0 = d - 1 by omega] at i0
    have i3 := i1.2 2 (by decide)
    rw [show d - 1 + 6 - 2 = d + 3 by omega] at i3
    exact gR_con (k := k + 1) (b := true) (N := gL (tk tp tn) (vl tp tn) k) ht (decide_eq_true (by omega)).symm hop (by omega) (fun _ => ⟨i1.1, (gL_ok (vl_in (tp := tp) (tn := tn)) k 5 (by omega) (by decide)).lo⟩) (fun _ => i0) (fun _ => ⟨i3, (gL_ok (vl_in (tp := tp) (tn := tn)) k 2 (by omega) (by decide)).lo⟩) (fun r hr => (gL_ok (vl_in (tp := tp) (tn := tn)) (k + 1) r (by omega) hr).lo)
theorem gL_con0 {tp : Nat → Int} {tn t : Nat} (ht : t < 6) : SC tp tn t 49 0 0 (gL (tk tp tn) (vl tp tn) 5 0) := (gL_con ht 5 0 43 rfl (by decide)).2 0 (by decide)
/-- the parts that ended so far -/
def EN (tp : Nat → Int) (tn t n : Nat) (M : Mem) : Prop := ∀ m, m < n → ∀ j w, pR (tk tp tn) (vl tp tn) (m + 1) = (j, some w) → M (36 + 4 * t + 2) m = (w.length : Int)
def flt (tp : Nat → Int) (tn : Nat) (R : RS) : Int := match R with
  | (j, none) => (pl tp tn j : Nat)
  | (_, some _) => -1
theorem GO.size {tp : Nat → Int} {tn t : Nat} {R : RS} {M : Mem} (h : GO tp tn t R M) : ∃ n : Nat, n ≤ 160 ∧ M (36 + 4 * t) 3 = (n : Int) ∧ ∀ j w, R = (j, some w) → n = w.length := by
  obtain ⟨j, x⟩ := R
  cases x with
  | none =>
    obtain ⟨n, h1, h2⟩ := h.2.2.2.2
    exact ⟨n, h1, h2, fun j w e => by cases e⟩
  | some o =>
    have h : GS tp tn t j o M := h
    have := h.2.1
    exact ⟨o.length, by omega, h.2.2.2.2.2.2.2.1, fun j w e => by cases e; rfl⟩
theorem GO.fault {tp : Nat → Int} {tn t : Nat} {R : RS} {M : Mem} (h : GO tp tn t R M) : M 5 1 = flt tp tn R := by
  obtain ⟨j, x⟩ := R
  cases x with
  | none => exact h.2.2.2.1
  | some o => exact h.2.2.2.2.2.2.1
/-- a part's end is laid -/
theorem GO.end {tp : Nat → Int} {tn t : Nat} {R : RS} {M : Mem} (h : GO tp tn t R M) {m : Nat} {v : Int} : GO tp tn t R (upM M (36 + 4 * t + 2) m v) := by
  have e : ∀ c k, c ≠ 36 + 4 * t + 2 → upM M (36 + 4 * t + 2) m v c k = M c k := fun c k hc => upM_ne (Or.inl hc)
  obtain ⟨j, x⟩ := R
  have hL : LT (upM M (36 + 4 * t + 2) m v) tp tn := ⟨h.tape.1, (e _ _ (by omega)).trans h.tape.2.1, fun i hi => (e _ _ (by omega)).trans (h.tape.2.2 i hi)⟩
  cases x with
  | none =>
    obtain ⟨n, g1, g2⟩ := h.2.2.2.2
    exact ⟨hL, h.2.1, (e _ _ (by omega)).trans h.2.2.1, (e _ _ (by omega)).trans h.2.2.2.1, n, g1, (e _ _ (by omega)).trans g2⟩
  | some o =>
    have h : GS tp tn t j o M := h
    obtain ⟨g1, g2, g3, g4, g5, g6, g7, g8⟩ := h
    exact ⟨hL, g2, (e _ _ (by omega)).trans g3, (e _ _ (by omega)).trans g4, (e _ _ (by omega)).trans g5, fun w => (e _ _ (by omega)).trans (g6 w), (e _ _ (by omega)).trans g7, g8.fr (e _ _ (by omega)) (fun i => e _ _ (by omega))⟩
theorem EN.fr {tp : Nat → Int} {tn t n : Nat} {M M2 : Mem} (h : EN tp tn t n M) (h2 : ∀ m, M2 (36 + 4 * t + 2) m = M (36 + 4 * t + 2) m) : EN tp tn t n M2 := fun m hm j w e => (h2 m).trans (h m hm j w e)
theorem pR_step {tp : Nat → Int} {tn n : Nat} : rbd (rbd (rbd (pR (tk tp tn) (vl tp tn) n) (fun j w => if tk tp tn j = 256 + (n : Int) then (j + 1, some w) else (j, none))) (gL (tk tp tn) (vl tp tn) 5 0)) (fun j w => if tk tp tn j = 59 then (j + 1, some w) else (j, none)) = pR (tk tp tn) (vl tp tn) (n + 1) := by
  rw [rbd_rbd, rbd_rbd]
  show _ = rbd (pR (tk tp tn) (vl tp tn) n) (pPart (tk tp tn) (vl tp tn) n)
  congr 1
  funext j w
  unfold pPart
  by_cases h : tk tp tn j = 256 + (n : Int)
  · rw [if_pos h, if_pos h, rbd_some]
  · rw [if_neg h, if_neg h]
    rfl

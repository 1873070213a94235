theorem bit_and {m : Int} {w : Nat} (hm : 0 ≤ m ∧ m < 256) (hw : w < 31) : Int32.ofInt m >>> (Int32.ofInt (w : Int) &&& 31) = Int32.ofInt (m / 2 ^ w) ∧ Int32.ofInt (m / 2 ^ w) &&& Int32.ofInt 1 = Int32.ofInt (m / 2 ^ w % 2) := by
  obtain ⟨n, rfl⟩ : ∃ n : Nat, m = n := ⟨m.toNat, by omega⟩
  have e2 : ((2 : Int) ^ w) = ((2 ^ w : Nat) : Int) := by rw [Int.natCast_pow]; rfl
  rw [e2, ← Int.natCast_ediv, show ((n / 2 ^ w : Nat) : Int) % 2 = ((n / 2 ^ w % 2 : Nat) : Int) from (Int.natCast_emod _ 2).symm, nIof, nIof, nIof, nIof]
  have hd : n / 2 ^ w < 2 ^ 32 := Nat.lt_of_le_of_lt (Nat.div_le_self _ _) (by omega)
  constructor
  · refine pk_shrN (by omega) _ w ?_
    rcases (by omega : w = 0 ∨ w = 1 ∨ w = 2 ∨ w = 3 ∨ w = 4 ∨ w = 5 ∨ w = 6 ∨ w = 7 ∨ w = 8 ∨ w = 9 ∨ w = 10 ∨ w = 11 ∨ w = 12 ∨ w = 13 ∨ w = 14 ∨ w = 15 ∨ w = 16 ∨ w = 17 ∨ w = 18 ∨ w = 19 ∨ w = 20 ∨ w = 21 ∨ w = 22 ∨ w = 23 ∨ w = 24 ∨ w = 25 ∨ w = 26 ∨ w = 27 ∨ w = 28 ∨ w = 29 ∨ w = 30) with rfl | rfl | rfl | rfl | rfl | rfl | rfl | rfl | rfl | rfl | rfl | rfl | rfl | rfl | rfl | rfl | rfl | rfl | rfl | rfl | rfl | rfl | rfl | rfl | rfl | rfl | rfl | rfl | rfl | rfl | rfl <;> decide
  · exact pk_andN hd (m := Int32.ofInt 1) 1 (by decide)
theorem sAt_b {nT : Nat} {τ : Tn} {d : Int} (hw : WF nT τ) : 0 ≤ sAt τ d ∧ sAt τ d < 64 := by
  have h0 := hw.1
  have h := bt_b (fun p => decide (τ 3 p = d)) (τ 8 0).toNat
  have h2 : (2 : Int) ^ (τ 8 0).toNat ≤ 64 := by
    rcases (by omega : (τ 8 0).toNat = 0 ∨ (τ 8 0).toNat = 1 ∨ (τ 8 0).toNat = 2 ∨ (τ 8 0).toNat = 3 ∨ (τ 8 0).toNat = 4 ∨ (τ 8 0).toNat = 5 ∨ (τ 8 0).toNat = 6) with q | q | q | q | q | q | q <;> rw [q] <;> decide
  unfold sAt
  omega
theorem sAlo_no {nT : Nat} {τ : Tn} (hw : WF nT τ) (h : ∀ d : Nat, d < 8 → ∀ p : Nat, p < 6 → sAt τ d ≠ 2 ^ p) : sAlo τ = false := by
  have h0 := hw.1
  unfold sAlo
  rw [List.any_eq_false]
  intro p hp
  rw [List.mem_range] at hp
  have w3 := (hw.p (show p < 6 by omega)).1
  have := h (τ 3 p).toNat (by omega) p (by omega)
  rw [show (((τ 3 p).toNat : Nat) : Int) = τ 3 p by omega] at this
  simpa using this
theorem sAlo_yes {nT : Nat} {τ : Tn} {d m : Nat} (hw : WF nT τ) (hm : sAt τ (d : Int) = m) (h : m = 1 ∨ m = 2 ∨ m = 4 ∨ m = 8 ∨ m = 16 ∨ m = 32) : sAlo τ = true := by
  obtain ⟨p, hp⟩ : ∃ p : Nat, sAt τ (d : Int) = 2 ^ p := by
    rw [hm]
    rcases h with rfl | rfl | rfl | rfl | rfl | rfl
    · exact ⟨0, rfl⟩
    · exact ⟨1, rfl⟩
    · exact ⟨2, rfl⟩
    · exact ⟨3, rfl⟩
    · exact ⟨4, rfl⟩
    · exact ⟨5, rfl⟩
  have h1 := bt_one hp
  have e : τ 3 p = d := by simpa using h1.2
  unfold sAlo
  rw [List.any_eq_true]
  exact ⟨p, List.mem_range.mpr h1.1, by rw [e]; simpa using hp⟩
def beM (M : Mem) (b1 b2 : Nat) : Mem := cpM (cpM (cpM (cpM (cpM (cpM (cpM (cpM (M) (b2 + 1) (Int.toNat 0) (b1 + 1) (Int.toNat 0) (Int.toNat 8)) (b2 + 2) (Int.toNat 0) (b1 + 2) (Int.toNat 0) (Int.toNat 8)) (b2 + 3) (Int.toNat 0) (b1 + 3) (Int.toNat 0) (Int.toNat 8)) (b2 + 4) (Int.toNat 0) (b1 + 4) (Int.toNat 0) (Int.toNat 6)) (b2 + 5) (Int.toNat 0) (b1 + 5) (Int.toNat 0) (Int.toNat 6)) (b2 + 6) (Int.toNat 0) (b1 + 6) (Int.toNat 0) (Int.toNat 6)) (b2 + 7) (Int.toNat 0) (b1 + 7) (Int.toNat 0) (Int.toNat 6)) (b2 + 8) (Int.toNat 0) (b1 + 8) (Int.toNat 0) (Int.toNat 6)
theorem be_copied {M M8 : Mem} {b1 b2 : Nat} (hb1 : tb b1) (hb2 : tb b2) (hne : b1 ≠ b2) (h : M8 = beM M b1 b2) : (∀ f, f < 8 → ∀ i, i < (if f < 3 then 8 else 6) → M8 (b1 + (f + 1)) i = M (b2 + (f + 1)) i) ∧ ∀ c i, twb b1 c = false → M8 c i = M c i := by
  subst h
  have z := fun (Mx : Mem) (a b : Nat) (n : Int) (c i : Nat) (hc : c ≠ b) => show cpM Mx a (Int.toNat 0) b (Int.toNat 0) (Int.toNat n) c i = Mx c i from if_neg (fun w => hc w.1)
  have y := fun (Mx : Mem) (a b : Nat) (n : Int) (i : Nat) (hi : (i : Int) < n) => show cpM Mx a (Int.toNat 0) b (Int.toNat 0) (Int.toNat n) b i = Mx a i from (if_pos ⟨rfl, Nat.zero_le _, (by show i < 0 + n.toNat; omega)⟩).trans (by show Mx a (0 + (i - 0)) = Mx a i; rw [Nat.zero_add, Nat.sub_zero])
  refine ⟨fun f hf i hi => ?_, fun c i hc => ?_⟩
  · unfold tb at hb1 hb2
    unfold beM
    rcases (by omega : f = 0 ∨ f = 1 ∨ f = 2 ∨ f = 3 ∨ f = 4 ∨ f = 5 ∨ f = 6 ∨ f = 7) with rfl | rfl | rfl | rfl | rfl | rfl | rfl | rfl <;> simp at hi <;> simp only [Nat.zero_add, Nat.reduceAdd] <;> (repeat first | rw [z _ _ _ _ _ _ (by omega)] | rw [y _ _ _ _ _ (by omega)])
  · have hc2 := of_decide_eq_false hc
    unfold beM
    (repeat rw [z _ _ _ _ _ _ (by omega)])

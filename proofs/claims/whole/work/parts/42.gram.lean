/-! the grammar over any tokens t with numbers v: the reference's machine, the class's descent, and that they agree -/
abbrev RS : Type := Nat × Option (List Int)
def rbd (x : RS) (f : Nat → List Int → RS) : RS := match x with
  | (j, none) => (j, none)
  | (j, some o) => f j o
/-- a sign's code; how tightly a code binds -/
def sg (t : Int) : Int := if t = 259 then 11 else if t = 260 then 12 else if t = 60 then 14 else if t = 61 then 15 else if t = 43 then 16 else if t = 45 then 17 else if t = 42 then 18 else -1
def mrk (s : Int) : Int := if s = 0 then 0 else if s = 11 then 1 else if s = 12 then 2 else if s = 13 then 3 else if s ≤ 15 then 4 else if s ≤ 17 then 5 else if s = 18 then 6 else 7
def uw (l : Int) : List Int → List Int → List Int × List Int
  | [], o => ([], o)
  | s :: H, o => if l ≤ mrk s then uw l H (o ++ [s]) else (s :: H, o)
def opn : List Int → Nat
  | [] => 0
  | s :: H => opn H + (if s = 0 ∨ s = 13 ∨ s = 19 then 1 else 0)
def top4 : List Int → Bool
  | [] => false
  | s :: _ => decide (mrk s = 4)
def lvl (t : Int) : Int := if rk t = 2 then 5 else mrk (sg t)
/-- the machine: it wants a side (b) or has one -/
def mrun (t v : Nat → Int) : Nat → Nat → Bool → Bool → List Int → List Int → RS
  | 0, j, _, _, _, _ => (j, none)
  | n + 1, j, true, mn, H, o =>
    if t j = 300 then mrun t v n (j + 1) false false (uw 7 H (o ++ [100000 + v j])).1 (uw 7 H (o ++ [100000 + v j])).2
    else if 262 ≤ t j ∧ t j < 268 then mrun t v n (j + 1) false false (uw 7 H (o ++ [t j - 262])).1 (uw 7 H (o ++ [t j - 262])).2
    else if t j = 261 ∧ mn = true then (if opn H = 5 then (j, none) else mrun t v n (j + 1) true mn (13 :: H) o)
    else if t j = 45 then (if opn H = 5 then (j, none) else mrun t v n (j + 1) true false (19 :: H) o)
    else if t j = 40 then (if opn H = 5 then (j, none) else mrun t v n (j + 1) true true (0 :: H) o)
    else (j, none)
  | n + 1, j, false, _, H, o =>
    if t j = 59 then (if (uw 1 H o).1 = [] then (j + 1, some (uw 1 H o).2) else (j, none))
    else if t j = 41 then (match (uw 1 H o).1 with
      | [] => (j, none)
      | _ :: H2 => mrun t v n (j + 1) false false (uw 7 H2 (uw 1 H o).2).1 (uw 7 H2 (uw 1 H o).2).2)
    else if rk (t j) < 0 then (j, none)
    else if rk (t j) = 2 ∧ top4 (uw (lvl (t j)) H o).1 = true then (j, none)
    else mrun t v n (j + 1) true (decide (rk (t j) ≤ 1)) (sg (t j) :: (uw (lvl (t j)) H o).1) (uw (lvl (t j)) H o).2
/-- the descent -/
def lpF (t : Nat → Int) (S : Nat → List Int → RS) (r : Int) : Nat → Nat → List Int → RS
  | 0, j, o => (j, some o)
  | f + 1, j, o => if rk (t j) = r then rbd (S (j + 1) o) (fun j1 o1 => lpF t S r f j1 (o1 ++ [sg (t j)])) else (j, some o)
def g5 (t v : Nat → Int) (b : Bool) (N : Nat → Nat → List Int → RS) (j : Nat) (o : List Int) : RS :=
  if t j = 300 then (j + 1, some (o ++ [100000 + v j]))
  else if 262 ≤ t j ∧ t j < 268 then (j + 1, some (o ++ [t j - 262]))
  else if t j = 45 ∧ b = true then rbd (N 5 (j + 1) o) (fun j1 o1 => (j1, some (o1 ++ [19])))
  else if t j = 40 ∧ b = true then rbd (N 0 (j + 1) o) (fun j1 o1 => if t j1 = 41 then (j1 + 1, some o1) else (j1, none))
  else (j, none)
def gX (t : Nat → Int) (S : Nat → List Int → RS) (r : Int) (f : Nat) (j : Nat) (o : List Int) : RS := rbd (S j o) (lpF t S r f)
def g2 (t : Nat → Int) (b : Bool) (N : Nat → Nat → List Int → RS) (S : Nat → List Int → RS) (j : Nat) (o : List Int) : RS :=
  if t j = 261 then (if b = true then rbd (N 2 (j + 1) o) (fun j1 o1 => (j1, some (o1 ++ [13]))) else (j, none)) else gX t S 2 1 j o
def gR (t v : Nat → Int) (b : Bool) (N : Nat → Nat → List Int → RS) : Nat → Nat → List Int → RS
  | 0 => gX t (gX t (g2 t b N (gX t (gX t (g5 t v b N) 4 160) 3 160)) 1 160) 0 160
  | 1 => gX t (g2 t b N (gX t (gX t (g5 t v b N) 4 160) 3 160)) 1 160
  | 2 => g2 t b N (gX t (gX t (g5 t v b N) 4 160) 3 160)
  | 3 => gX t (gX t (g5 t v b N) 4 160) 3 160
  | 4 => gX t (g5 t v b N) 4 160
  | _ => g5 t v b N
def gL (t v : Nat → Int) : Nat → Nat → Nat → List Int → RS
  | 0 => gR t v false (fun _ j _ => (j, none))
  | k + 1 => gR t v true (gL t v k)
theorem rk_in (t : Int) : -1 ≤ rk t ∧ rk t ≤ 4 := by
  unfold rk
  (repeat' split) <;> omega
theorem rk_sg {t : Int} {r : Int} (h : rk t = r) (h0 : 0 ≤ r) : (t ≠ 59 ∧ t ≠ 41) ∧ (11 ≤ sg t ∧ sg t ≤ 18 ∧ sg t ≠ 13) ∧ ((r = 0 ∧ mrk (sg t) = 1) ∨ (r = 1 ∧ mrk (sg t) = 2) ∨ (r = 2 ∧ mrk (sg t) = 4) ∨ (r = 3 ∧ mrk (sg t) = 5) ∨ (r = 4 ∧ mrk (sg t) = 6)) := by
  subst h
  have key : t = 259 ∨ t = 260 ∨ t = 60 ∨ t = 61 ∨ t = 43 ∨ t = 45 ∨ t = 42 := by
    unfold rk at h0
    (repeat' split at h0) <;> omega
  rcases key with rfl | rfl | rfl | rfl | rfl | rfl | rfl <;> decide
theorem mrk_in (s : Int) : mrk s ≤ 7 := by
  unfold mrk
  (repeat' split) <;> omega
theorem uw_stop {l s : Int} {H o : List Int} (h : mrk s < l) : uw l (s :: H) o = (s :: H, o) := by
  simp only [uw]
  rw [if_neg (by omega)]
theorem uw_go {l s : Int} {H o : List Int} (h : l ≤ mrk s) : uw l (s :: H) o = uw l H (o ++ [s]) := by
  simp only [uw]
  rw [if_pos h]
theorem uw_uw {l l2 : Int} (h : l ≤ l2) : ∀ (H o : List Int), uw l (uw l2 H o).1 (uw l2 H o).2 = uw l H o
  | [], o => rfl
  | s :: H, o => by
    by_cases q : l2 ≤ mrk s
    · rw [uw_go q, uw_go (show l ≤ mrk s by omega)]
      exact uw_uw h H (o ++ [s])
    · rw [uw_stop (show mrk s < l2 by omega)]
def mr : Nat → Int
  | 0 => 1
  | 1 => 2
  | 2 => 3
  | 3 => 5
  | 4 => 6
  | _ => 7
def pr : Nat → Int
  | 0 => 1
  | 1 => 2
  | 2 => 4
  | 3 => 5
  | 4 => 6
  | _ => 8
def prH : List Int → Nat → Prop
  | [], _ => True
  | s :: _, r => mrk s < pr r
theorem uw_pre {H o : List Int} {r : Nat} {l : Int} (h : prH H r) (hl : pr r ≤ l) : uw l H o = (H, o) := by
  cases H with
  | nil => rfl
  | cons s H => exact uw_stop (show mrk s < l by have : mrk s < pr r := h; omega)
/-- what the descent's function at a rank does, the machine does -/
def SimF (t v : Nat → Int) (k r : Nat) (F : Nat → List Int → RS) : Prop := ∀ (j : Nat) (o H : List Int), opn H + k = 5 → prH H r →
  (∀ j', F j o = (j', none) → j ≤ j' ∧ ∀ n, mrun t v (n + (j' - j) + 1) j true (decide (r ≤ 2)) H o = (j', none)) ∧
  (∀ j' o', F j o = (j', some o') → j < j' ∧ ∃ H1 o1, (∀ l, l ≤ mr r → uw l H1 o1 = uw l H o') ∧ (∀ n, mrun t v (n + (j' - j)) j true (decide (r ≤ 2)) H o = mrun t v n j' false false H1 o1) ∧
    (rk (t j') < r ∨ (r ≤ 2 ∧ rk (t j') = 2 ∧ ∀ n, mrun t v (n + 1) j' false false H1 o1 = (j', none))))
theorem mrun_sign {t v : Nat → Int} {n j : Nat} {H o H2 o2 : List Int} {b : Bool} (h0 : 0 ≤ rk (t j)) (hu : uw (lvl (t j)) H o = (H2, o2)) (h4 : rk (t j) = 2 → top4 H2 = false) : mrun t v (n + 1) j false b H o = mrun t v n (j + 1) true (decide (rk (t j) ≤ 1)) (sg (t j) :: H2) o2 := by
  have hs := rk_sg rfl h0
  simp only [mrun]
  rw [if_neg hs.1.1, if_neg hs.1.2, if_neg (by omega), hu, if_neg (fun w => by have := h4 w.1; rw [this] at w; exact absurd w.2 (by decide))]
theorem opn_sg {t : Int} {H : List Int} (h0 : 0 ≤ rk t) : opn (sg t :: H) = opn H := by
  have hs := (rk_sg rfl h0).2.1
  simp only [opn]
  rw [if_neg (by omega), Nat.add_zero]
/-- the loop behind the first side, of ranks 0, 1, 3, 4 -/
theorem lp_sim {t v : Nat → Int} {k r : Nat} {S : Nat → List Int → RS} (hr : r = 0 ∨ r = 1 ∨ r = 3 ∨ r = 4) (hT : ∀ j, 160 ≤ j → t j = -1) (hS : SimF t v k (r + 1) S) {H : List Int} (hk : opn H + k = 5) (hp : prH H r) :
    ∀ (f j : Nat) (o H1 o1 : List Int), 160 ≤ j + f → (∀ l, l ≤ mr r → uw l H1 o1 = uw l H o) → (rk (t j) < r + 1 ∨ (r ≤ 1 ∧ rk (t j) = 2 ∧ ∀ n, mrun t v (n + 1) j false false H1 o1 = (j, none))) →
      (∀ j', lpF t S r f j o = (j', none) → j ≤ j' ∧ ∀ n, mrun t v (n + (j' - j) + 1) j false false H1 o1 = (j', none)) ∧
      (∀ j' o', lpF t S r f j o = (j', some o') → j ≤ j' ∧ ∃ H2 o2, (∀ l, l ≤ mr r → uw l H2 o2 = uw l H o') ∧ (∀ n, mrun t v (n + (j' - j)) j false false H1 o1 = mrun t v n j' false false H2 o2) ∧
        (rk (t j') < r ∨ (r ≤ 2 ∧ rk (t j') = 2 ∧ ∀ n, mrun t v (n + 1) j' false false H2 o2 = (j', none)))) := by
  intro f
  induction f with
  | zero =>
    intro j o H1 o1 hf hrel hend
    have hj := hT j (by omega)
    refine ⟨fun j' h => by simp [lpF] at h, fun j' o' h => ?_⟩
    simp only [lpF, Prod.mk.injEq, Option.some.injEq] at h
    obtain ⟨rfl, rfl⟩ := h
    refine ⟨Nat.le_refl _, H1, o1, hrel, fun n => by rw [Nat.sub_self, Nat.add_zero], Or.inl ?_⟩
    rw [hj]
    show (-1 : Int) < r
    omega
  | succ f ih =>
    intro j o H1 o1 hf hrel hend
    by_cases hrk : rk (t j) = r
    · have h0 : 0 ≤ rk (t j) := by omega
      have hs := rk_sg hrk (by omega)
      have hmr : mrk (sg (t j)) = mr r ∧ pr r = mr r ∧ mr r < pr (r + 1) ∧ mr r ≤ mr (r + 1) := by
        rcases hr with rfl | rfl | rfl | rfl
        · exact ⟨by show mrk (sg (t j)) = 1; omega, rfl, by decide, by decide⟩
        · exact ⟨by show mrk (sg (t j)) = 2; omega, rfl, by decide, by decide⟩
        · exact ⟨by show mrk (sg (t j)) = 5; omega, rfl, by decide, by decide⟩
        · exact ⟨by show mrk (sg (t j)) = 6; omega, rfl, by decide, by decide⟩
      have hlv : lvl (t j) = mr r := by
        unfold lvl
        rw [if_neg (by omega)]
        exact hmr.1
      have hu : uw (lvl (t j)) H1 o1 = (H, o) := by
        rw [hlv, hrel _ (Int.le_refl _)]
        exact uw_pre hp (by omega)
      have hmn : decide (rk (t j) ≤ 1) = decide (r + 1 ≤ 2) := by
        by_cases q : r ≤ 1
        · rw [decide_eq_true (by omega), decide_eq_true (by omega)]
        · rw [decide_eq_false (by omega), decide_eq_false (by omega)]
      have hstep : ∀ n, mrun t v (n + 1) j false false H1 o1 = mrun t v n (j + 1) true (decide (r + 1 ≤ 2)) (sg (t j) :: H) o := fun n => by
        rw [mrun_sign h0 hu (fun w => by omega), hmn]
      have hS1 := hS (j + 1) o (sg (t j) :: H) (by rw [opn_sg h0]; exact hk) (by show mrk (sg (t j)) < pr (r + 1); omega)
      simp only [lpF]
      rw [if_pos hrk]
      cases hq : S (j + 1) o with
      | mk j1 x =>
        cases x with
        | none =>
          obtain ⟨h1, h2⟩ := hS1.1 j1 hq
          refine ⟨fun j' h => ?_, fun j' o' h => by simp [rbd] at h⟩
          simp only [rbd, Prod.mk.injEq, and_true] at h
          subst h
          refine ⟨by omega, fun n => ?_⟩
          rw [hstep, ← h2 n]
          congr 1
          omega
        | some q1 =>
          obtain ⟨h1, H3, o3, h2, h3, h4⟩ := hS1.2 j1 q1 hq
          have hrel2 : ∀ l, l ≤ mr r → uw l H3 o3 = uw l H (q1 ++ [sg (t j)]) := fun l hl => by
            rw [h2 l (by omega), uw_go (by omega)]
          have hrun : ∀ n, mrun t v (n + (j1 - j)) j false false H1 o1 = mrun t v n j1 false false H3 o3 := fun n => by
            rw [← h3 n, show n + (j1 - j) = (n + (j1 - (j + 1))) + 1 by omega, hstep]
          have hend2 : rk (t j1) < (r : Int) + 1 ∨ (r ≤ 1 ∧ rk (t j1) = 2 ∧ ∀ n, mrun t v (n + 1) j1 false false H3 o3 = (j1, none)) := by
            rcases h4 with h4 | ⟨h4, h5, h6⟩
            · exact Or.inl (by omega)
            · exact Or.inr ⟨by omega, h5, h6⟩
          have hi := ih j1 (q1 ++ [sg (t j)]) H3 o3 (by omega) hrel2 hend2
          simp only [rbd]
          refine ⟨fun j' h => ?_, fun j' o' h => ?_⟩
          · obtain ⟨g1, g2⟩ := hi.1 j' h
            refine ⟨by omega, fun n => ?_⟩
            rw [← g2 n, ← hrun]
            congr 1
            omega
          · obtain ⟨g1, H4, o4, g2, g3, g4⟩ := hi.2 j' o' h
            refine ⟨by omega, H4, o4, g2, fun n => ?_, g4⟩
            rw [← g3 n, ← hrun]
            congr 1
            omega
    · simp only [lpF]
      rw [if_neg hrk]
      refine ⟨fun j' h => by simp at h, fun j' o' h => ?_⟩
      simp only [Prod.mk.injEq, Option.some.injEq] at h
      obtain ⟨rfl, rfl⟩ := h
      refine ⟨Nat.le_refl _, H1, o1, hrel, fun n => by rw [Nat.sub_self, Nat.add_zero], ?_⟩
      rcases hend with h | ⟨h1, h2, h3⟩
      · exact Or.inl (by omega)
      · exact Or.inr ⟨by omega, h2, h3⟩
theorem gX_sim {t v : Nat → Int} {k r : Nat} {S : Nat → List Int → RS} (hr : r = 0 ∨ r = 1 ∨ r = 3 ∨ r = 4) (hT : ∀ j, 160 ≤ j → t j = -1) (hS : SimF t v k (r + 1) S) : SimF t v k r (gX t S r 160) := by
  intro j o H hk hp
  have hp2 : prH H (r + 1) := by
    cases H with
    | nil => trivial
    | cons s H =>
      have : mrk s < pr r := hp
      show mrk s < pr (r + 1)
      rcases hr with rfl | rfl | rfl | rfl <;> simp only [pr] at this ⊢ <;> omega
  have hmn : decide (r ≤ 2) = decide (r + 1 ≤ 2) := by rcases hr with rfl | rfl | rfl | rfl <;> rfl
  have hmr : mr r ≤ mr (r + 1) := by rcases hr with rfl | rfl | rfl | rfl <;> simp only [mr] <;> omega
  have hS1 := hS j o H hk hp2
  unfold gX
  cases hq : S j o with
  | mk j1 x =>
    cases x with
    | none =>
      obtain ⟨h1, h2⟩ := hS1.1 j1 hq
      refine ⟨fun j' h => ?_, fun j' o' h => by simp [rbd] at h⟩
      simp only [rbd, Prod.mk.injEq, and_true] at h
      subst h
      exact ⟨h1, fun n => by rw [hmn]; exact h2 n⟩
    | some q1 =>
      obtain ⟨h1, H3, o3, h2, h3, h4⟩ := hS1.2 j1 q1 hq
      have hend2 : rk (t j1) < (r : Int) + 1 ∨ (r ≤ 1 ∧ rk (t j1) = 2 ∧ ∀ n, mrun t v (n + 1) j1 false false H3 o3 = (j1, none)) := by
        rcases h4 with h4 | ⟨h4, h5, h6⟩
        · exact Or.inl (by omega)
        · exact Or.inr ⟨by omega, h5, h6⟩
      have hi := lp_sim hr hT hS hk hp 160 j1 q1 H3 o3 (by omega) (fun l hl => h2 l (by omega)) hend2
      simp only [rbd]
      refine ⟨fun j' h => ?_, fun j' o' h => ?_⟩
      · obtain ⟨g1, g2⟩ := hi.1 j' h
        refine ⟨by omega, fun n => ?_⟩
        rw [hmn, ← g2 n, ← h3]
        congr 1
        omega
      · obtain ⟨g1, H4, o4, g2, g3, g4⟩ := hi.2 j' o' h
        refine ⟨by omega, H4, o4, g2, fun n => ?_, g4⟩
        rw [hmn, ← g3 n, ← h3]
        congr 1
        omega
theorem mrun_mn {t v : Nat → Int} {n j : Nat} {H o : List Int} (h : ¬ t j = 261) : mrun t v n j true true H o = mrun t v n j true false H o := by
  cases n with
  | zero => rfl
  | succ n =>
    simp [mrun, h]
theorem g2_sim {t v : Nat → Int} {k : Nat} {b : Bool} {N : Nat → Nat → List Int → RS} {S : Nat → List Int → RS} (hb : b = decide (0 < k)) (hN : ∀ k', k = k' + 1 → SimF t v k' 2 (N 2)) (hS : SimF t v k 3 S) : SimF t v k 2 (g2 t b N S) := by
  intro j o H hk hp
  have hmn : decide (2 ≤ 2) = true := rfl
  unfold g2
  by_cases h261 : t j = 261
  · rw [if_pos h261]
    by_cases h0 : k = 0
    · subst h0
      rw [hb, if_neg (by decide)]
      refine ⟨fun j' h => ?_, fun j' o' h => by simp at h⟩
      simp only [Prod.mk.injEq, and_true] at h
      subst h
      refine ⟨Nat.le_refl _, fun n => ?_⟩
      rw [Nat.sub_self]
      simp only [mrun]
      rw [if_neg (by omega), if_neg (by omega), if_pos ⟨h261, rfl⟩, if_pos (by omega)]
    · obtain ⟨k', rfl⟩ : ∃ k', k = k' + 1 := ⟨k - 1, by omega⟩
      rw [hb, if_pos (by rw [decide_eq_true_eq]; omega)]
      have hstep : ∀ n, mrun t v (n + 1) j true true H o = mrun t v n (j + 1) true (decide (2 ≤ 2)) (13 :: H) o := fun n => by
        simp only [mrun]
        rw [if_neg (by omega), if_neg (by omega), if_pos ⟨h261, trivial⟩, if_neg (by omega)]
        rfl
      have hS1 := hN k' rfl (j + 1) o (13 :: H) (by show opn H + 1 + k' = 5; omega) (by show (3 : Int) < 4; decide)
      cases hq : N 2 (j + 1) o with
      | mk j1 x =>
        cases x with
        | none =>
          obtain ⟨h1, h2⟩ := hS1.1 j1 hq
          refine ⟨fun j' h => ?_, fun j' o' h => by simp [rbd] at h⟩
          simp only [rbd, Prod.mk.injEq, and_true] at h
          subst h
          refine ⟨by omega, fun n => ?_⟩
          rw [hmn, hstep, ← h2 n]
          congr 1
          omega
        | some q1 =>
          obtain ⟨h1, H3, o3, h2, h3, h4⟩ := hS1.2 j1 q1 hq
          refine ⟨fun j' h => by simp [rbd] at h, fun j' o' h => ?_⟩
          simp only [rbd, Prod.mk.injEq, Option.some.injEq] at h
          obtain ⟨rfl, rfl⟩ := h
          refine ⟨by omega, H3, o3, fun l hl => ?_, fun n => ?_, h4⟩
          · rw [h2 l hl, uw_go (by exact hl)]
          · rw [← h3 n, hmn, show n + (j1 - j) = (n + (j1 - (j + 1))) + 1 by omega, hstep]
            rfl
  · rw [if_neg h261]
    have hp3 : prH H 3 := by
      cases H with
      | nil => trivial
      | cons s H =>
        have : mrk s < 4 := hp
        show mrk s < 5
        omega
    have hS1 := hS j o H hk hp3
    unfold gX
    cases hq : S j o with
    | mk j1 x =>
      cases x with
      | none =>
        obtain ⟨h1, h2⟩ := hS1.1 j1 hq
        refine ⟨fun j' h => ?_, fun j' o' h => by simp [rbd] at h⟩
        simp only [rbd, Prod.mk.injEq, and_true] at h
        subst h
        exact ⟨h1, fun n => by rw [hmn, mrun_mn h261]; exact h2 n⟩
      | some q1 =>
        obtain ⟨h1, H3, o3, h2, h3, h4⟩ := hS1.2 j1 q1 hq
        have h4 : rk (t j1) < 3 := by
          rcases h4 with h4 | h4
          · exact h4
          · omega
        have h3 : ∀ n, mrun t v (n + (j1 - j)) j true (decide (2 ≤ 2)) H o = mrun t v n j1 false false H3 o3 := fun n => by
          rw [hmn, mrun_mn h261]; exact h3 n
        simp only [rbd]
        by_cases hrk : rk (t j1) = 2
        · have h0 : 0 ≤ rk (t j1) := by omega
          have hs := rk_sg hrk (by omega)
          have hm4 : mrk (sg (t j1)) = 4 := by omega
          have hlv : lvl (t j1) = 5 := by
            unfold lvl
            rw [if_pos hrk]
          have hu : uw (lvl (t j1)) H3 o3 = (H, q1) := by
            rw [hlv, h2 5 (by show (5 : Int) ≤ 5; decide)]
            exact uw_pre hp (by decide)
          have ht4 : top4 H = false := by
            cases H with
            | nil => rfl
            | cons s H =>
              have : mrk s < 4 := hp
              show decide (mrk s = 4) = false
              exact decide_eq_false (by omega)
          have hstep : ∀ n, mrun t v (n + 1) j1 false false H3 o3 = mrun t v n (j1 + 1) true (decide (3 ≤ 2)) (sg (t j1) :: H) q1 := fun n => by
            rw [mrun_sign h0 hu (fun _ => ht4), decide_eq_false (by omega)]
            rfl
          have hS2 := hS (j1 + 1) q1 (sg (t j1) :: H) (by rw [opn_sg h0]; exact hk) (by show mrk (sg (t j1)) < 5; omega)
          simp only [lpF]
          rw [if_pos (show rk (t j1) = 2 from hrk)]
          cases hq2 : S (j1 + 1) q1 with
          | mk j2 x =>
            cases x with
            | none =>
              obtain ⟨g1, g2⟩ := hS2.1 j2 hq2
              refine ⟨fun j' h => ?_, fun j' o' h => by simp [rbd] at h⟩
              simp only [rbd, Prod.mk.injEq, and_true] at h
              subst h
              refine ⟨by omega, fun n => ?_⟩
              rw [← g2 n, ← hstep, ← h3]
              congr 1
              omega
            | some q2 =>
              obtain ⟨g1, H4, o4, g2, g3, g4⟩ := hS2.2 j2 q2 hq2
              have g4 : rk (t j2) < 3 := by
                rcases g4 with g4 | g4
                · exact g4
                · omega
              refine ⟨fun j' h => by simp [rbd] at h, fun j' o' h => ?_⟩
              simp only [rbd, Prod.mk.injEq, Option.some.injEq] at h
              obtain ⟨rfl, rfl⟩ := h
              refine ⟨by omega, H4, o4, fun l hl => ?_, fun n => ?_, ?_⟩
              · have hl : l ≤ 3 := hl
                rw [g2 l (by show l ≤ 5; omega), uw_go (by omega)]
              · rw [← g3 n, ← hstep, ← h3]
                congr 1
                omega
              · by_cases hl2 : rk (t j2) = 2
                · refine Or.inr ⟨Nat.le_refl _, hl2, fun n => ?_⟩
                  have hs2 := rk_sg hl2 (by omega)
                  have hu2 : uw (lvl (t j2)) H4 o4 = (sg (t j1) :: H, q2) := by
                    rw [show lvl (t j2) = 5 by unfold lvl; rw [if_pos hl2], g2 5 (by show (5 : Int) ≤ 5; decide)]
                    exact uw_stop (by omega)
                  simp only [mrun]
                  rw [if_neg hs2.1.1, if_neg hs2.1.2, if_neg (by omega), hu2, if_pos ⟨hl2, by show decide (mrk (sg (t j1)) = 4) = true; exact decide_eq_true hm4⟩]
                · exact Or.inl (by show rk (t j2) < 2; omega)
        · simp only [lpF]
          rw [if_neg hrk]
          refine ⟨fun j' h => by simp at h, fun j' o' h => ?_⟩
          simp only [Prod.mk.injEq, Option.some.injEq] at h
          obtain ⟨rfl, rfl⟩ := h
          exact ⟨h1, H3, o3, fun l hl => h2 l (by have hl : l ≤ 3 := hl; show l ≤ 5; omega), h3, Or.inl (by show rk (t j1) < 2; omega)⟩
theorem g5_sim {t v : Nat → Int} {k : Nat} {b : Bool} {N : Nat → Nat → List Int → RS} (hb : b = decide (0 < k)) (hN : ∀ k', k = k' + 1 → SimF t v k' 5 (N 5) ∧ SimF t v k' 0 (N 0)) : SimF t v k 5 (g5 t v b N) := by
  intro j o H hk _
  have hmn : decide (5 ≤ 2) = false := rfl
  have r5 : ∀ x, rk x < (5 : Nat) := fun x => by have := (rk_in x).2; omega
  unfold g5
  by_cases h300 : t j = 300
  · rw [if_pos h300]
    refine ⟨fun j' h => by simp at h, fun j' o' h => ?_⟩
    simp only [Prod.mk.injEq, Option.some.injEq] at h
    obtain ⟨rfl, rfl⟩ := h
    refine ⟨by omega, _, _, fun l hl => uw_uw (show l ≤ 7 from hl) H _, fun n => ?_, Or.inl (r5 _)⟩
    rw [show n + (j + 1 - j) = n + 1 by omega]
    simp only [mrun]
    rw [if_pos h300]
  rw [if_neg h300]
  by_cases hnm : 262 ≤ t j ∧ t j < 268
  · rw [if_pos hnm]
    refine ⟨fun j' h => by simp at h, fun j' o' h => ?_⟩
    simp only [Prod.mk.injEq, Option.some.injEq] at h
    obtain ⟨rfl, rfl⟩ := h
    refine ⟨by omega, _, _, fun l hl => uw_uw (show l ≤ 7 from hl) H _, fun n => ?_, Or.inl (r5 _)⟩
    rw [show n + (j + 1 - j) = n + 1 by omega]
    simp only [mrun]
    rw [if_neg h300, if_pos hnm]
  rw [if_neg hnm]
  by_cases h0 : k = 0
  · subst h0
    rw [hb, if_neg (fun w => absurd w.2 (by decide)), if_neg (fun w => absurd w.2 (by decide))]
    refine ⟨fun j' h => ?_, fun j' o' h => by simp at h⟩
    simp only [Prod.mk.injEq, and_true] at h
    subst h
    refine ⟨Nat.le_refl _, fun n => ?_⟩
    rw [Nat.sub_self, hmn]
    simp only [mrun]
    rw [if_neg h300, if_neg hnm, if_neg (fun w => absurd w.2 (by decide)), if_pos (show opn H = 5 by omega)]
    split
    · rfl
    · split
      · rw [if_pos (show opn H = 5 by omega)]
      · rfl
  · obtain ⟨k', rfl⟩ : ∃ k', k = k' + 1 := ⟨k - 1, by omega⟩
    obtain ⟨hN5, hN0⟩ := hN k' rfl
    have hbt : b = true := by rw [hb]; exact decide_eq_true (by omega)
    have ho : ¬ opn H = 5 := by omega
    by_cases h45 : t j = 45
    · rw [if_pos ⟨h45, hbt⟩]
      have hstep : ∀ n, mrun t v (n + 1) j true false H o = mrun t v n (j + 1) true (decide (5 ≤ 2)) (19 :: H) o := fun n => by
        simp only [mrun]
        rw [if_neg h300, if_neg hnm, if_neg (fun w => absurd w.2 (by decide)), if_pos h45, if_neg ho]
        rfl
      have hS1 := hN5 (j + 1) o (19 :: H) (by show opn H + 1 + k' = 5; omega) (by show (7 : Int) < 8; decide)
      cases hq : N 5 (j + 1) o with
      | mk j1 x =>
        cases x with
        | none =>
          obtain ⟨h1, h2⟩ := hS1.1 j1 hq
          refine ⟨fun j' h => ?_, fun j' o' h => by simp [rbd] at h⟩
          simp only [rbd, Prod.mk.injEq, and_true] at h
          subst h
          refine ⟨by omega, fun n => ?_⟩
          rw [hmn, hstep, ← h2 n]
          congr 1
          omega
        | some q1 =>
          obtain ⟨h1, H3, o3, h2, h3, h4⟩ := hS1.2 j1 q1 hq
          refine ⟨fun j' h => by simp [rbd] at h, fun j' o' h => ?_⟩
          simp only [rbd, Prod.mk.injEq, Option.some.injEq] at h
          obtain ⟨rfl, rfl⟩ := h
          refine ⟨by omega, H3, o3, fun l hl => ?_, fun n => ?_, Or.inl (r5 _)⟩
          · rw [h2 l hl, uw_go (by exact hl)]
          · rw [← h3 n, hmn, show n + (j1 - j) = (n + (j1 - (j + 1))) + 1 by omega, hstep]
            rfl
    rw [if_neg (fun w => h45 w.1)]
    by_cases h40 : t j = 40
    · rw [if_pos ⟨h40, hbt⟩]
      have hstep : ∀ n, mrun t v (n + 1) j true false H o = mrun t v n (j + 1) true (decide (0 ≤ 2)) (0 :: H) o := fun n => by
        simp only [mrun]
        rw [if_neg h300, if_neg hnm, if_neg (fun w => absurd w.2 (by decide)), if_neg h45, if_pos h40, if_neg ho]
        rfl
      have hS1 := hN0 (j + 1) o (0 :: H) (by show opn H + 1 + k' = 5; omega) (by show (0 : Int) < 1; decide)
      cases hq : N 0 (j + 1) o with
      | mk j1 x =>
        cases x with
        | none =>
          obtain ⟨h1, h2⟩ := hS1.1 j1 hq
          refine ⟨fun j' h => ?_, fun j' o' h => by simp [rbd] at h⟩
          simp only [rbd, Prod.mk.injEq, and_true] at h
          subst h
          refine ⟨by omega, fun n => ?_⟩
          rw [hmn, hstep, ← h2 n]
          congr 1
          omega
        | some q1 =>
          obtain ⟨h1, H3, o3, h2, h3, h4⟩ := hS1.2 j1 q1 hq
          have hu : uw 1 H3 o3 = (0 :: H, q1) := by
            rw [h2 1 (by show (1 : Int) ≤ 1; decide)]
            exact uw_stop (by decide)
          simp only [rbd]
          by_cases h41 : t j1 = 41
          · rw [if_pos h41]
            refine ⟨fun j' h => by simp at h, fun j' o' h => ?_⟩
            simp only [Prod.mk.injEq, Option.some.injEq] at h
            obtain ⟨rfl, rfl⟩ := h
            refine ⟨by omega, _, _, fun l hl => uw_uw (show l ≤ 7 from hl) H _, fun n => ?_, Or.inl (r5 _)⟩
            rw [hmn, show n + (j1 + 1 - j) = (n + 1 + (j1 - (j + 1))) + 1 by omega, hstep, h3]
            simp only [mrun]
            rw [if_neg (by omega), if_pos h41, hu]
          · rw [if_neg h41]
            refine ⟨fun j' h => ?_, fun j' o' h => by simp at h⟩
            simp only [Prod.mk.injEq, and_true] at h
            subst h
            refine ⟨by omega, fun n => ?_⟩
            rw [hmn, show n + (j1 - j) + 1 = (n + 1 + (j1 - (j + 1))) + 1 by omega, hstep, h3]
            rcases h4 with h4 | ⟨-, -, h4⟩
            · simp only [mrun]
              rw [hu, if_neg h41]
              split
              · rw [if_neg (by simp)]
              · rw [if_pos (by have h4 : rk (t j1) < 0 := h4; exact h4)]
            · exact h4 n
    · rw [if_neg (fun w => h40 w.1)]
      refine ⟨fun j' h => ?_, fun j' o' h => by simp at h⟩
      simp only [Prod.mk.injEq, and_true] at h
      subst h
      refine ⟨Nat.le_refl _, fun n => ?_⟩
      rw [Nat.sub_self, hmn]
      simp only [mrun]
      rw [if_neg h300, if_neg hnm, if_neg (fun w => absurd w.2 (by decide)), if_neg h45, if_neg h40]
theorem gR_sim {t v : Nat → Int} {k : Nat} {b : Bool} {N : Nat → Nat → List Int → RS} (hT : ∀ j, 160 ≤ j → t j = -1) (hb : b = decide (0 < k)) (hN : ∀ k', k = k' + 1 → ∀ r, r ≤ 5 → SimF t v k' r (N r)) : ∀ r, r ≤ 5 → SimF t v k r (gR t v b N r) := by
  have s5 : SimF t v k 5 (g5 t v b N) := g5_sim hb (fun k' e => ⟨hN k' e 5 (by decide), hN k' e 0 (by decide)⟩)
  have s4 := gX_sim (r := 4) (by omega) hT s5
  have s3 := gX_sim (r := 3) (by omega) hT s4
  have s2 := g2_sim hb (fun k' e => hN k' e 2 (by decide)) s3
  have s1 := gX_sim (r := 1) (by omega) hT s2
  have s0 := gX_sim (r := 0) (by omega) hT s1
  intro r hr
  rcases (by omega : r = 0 ∨ r = 1 ∨ r = 2 ∨ r = 3 ∨ r = 4 ∨ r = 5) with rfl | rfl | rfl | rfl | rfl | rfl
  · exact s0
  · exact s1
  · exact s2
  · exact s3
  · exact s4
  · exact s5
theorem gL_sim {t v : Nat → Int} (hT : ∀ j, 160 ≤ j → t j = -1) : ∀ k r, r ≤ 5 → SimF t v k r (gL t v k r)
  | 0, r, hr => gR_sim hT rfl (fun k' e => by omega) r hr
  | k + 1, r, hr => gR_sim hT (by rw [decide_eq_true (by omega)]) (fun k' e => by
      obtain rfl : k = k' := by omega
      exact fun r hr => gL_sim hT k r hr) r hr

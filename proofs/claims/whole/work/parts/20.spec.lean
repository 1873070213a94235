/-! what a town is: numbers by field (0 behind, 1 first, 2 second, 3 at, 4 eggs, 5 came, 6 kind, 7 more, 8: people, minute, law) and place -/
abbrev Tn : Type := Nat → Nat → Int
def st (τ : Tn) (f i : Nat) (v : Int) : Tn := fun g j => if g = f ∧ j = i then v else τ g j
theorem st_self {τ : Tn} {f i : Nat} {v : Int} : st τ f i v f i = v := by simp [st]
theorem st_ne {τ : Tn} {f i g j : Nat} {v : Int} (h : g ≠ f ∨ j ≠ i) : st τ f i v g j = τ g j := by
  unfold st
  rw [if_neg]
  rintro ⟨h1, h2⟩
  rcases h with h | h
  · exact h h1
  · exact h h2
/-- a text: its codes, and where its parts begin and end -/
abbrev Tx : Type := (Nat → Int) × (Nat → Int)
def w32 (a : Int) : Int := (Int32.ofInt a).toInt
theorem w32_ib (a : Int) : ib (w32 a) := ⟨by have := Int32.le_toInt (Int32.ofInt a); exact this, by have := Int32.toInt_lt (Int32.ofInt a); exact this⟩
theorem w32_i3 (a : Int) : Int32.ofInt a = Int32.ofInt (w32 a) := (Int32.ofInt_toInt _).symm
theorem w32_id {a : Int} (h : ib a) : w32 a = a := i3_toInt h
def tw (c x y : Int) : Int :=
  if c = 11 then (if x ≠ 0 ∨ y ≠ 0 then 1 else 0) else if c = 12 then (if x ≠ 0 ∧ y ≠ 0 then 1 else 0) else if c = 14 then (if x < y then 1 else 0)
  else if c = 15 then (if x = y then 1 else 0) else if c = 16 then w32 (x + y) else if c = 17 then w32 (x - y) else w32 (x * y)
def ev1 (env : Nat → Int) (c : Int) (s : List Int) : List Int :=
  if 100000 ≤ c then (c - 100000) :: s else if c < 11 then env c.toNat :: s else match s with
    | [] => []
    | a :: r => if c = 13 then (if a = 0 then 1 else 0) :: r else if c = 19 then w32 (-a) :: r else match r with
      | [] => []
      | x :: q => tw c x a :: q
def evl (env : Nat → Int) (cs : Nat → Int) : Nat → Nat → List Int → List Int
  | 0, _, s => s
  | n + 1, i, s => evl env cs n (i + 1) (ev1 env (cs i) s)
def c_push (c : Int) : Prop := (100000 ≤ c ∧ c ≤ 109999) ∨ (0 ≤ c ∧ c ≤ 5)
def c_un (c : Int) : Prop := c = 13 ∨ c = 19
def c_bin (c : Int) : Prop := c = 11 ∨ c = 12 ∨ c = 14 ∨ c = 15 ∨ c = 16 ∨ c = 17 ∨ c = 18
/-- the codes from i on, n of them, on a stack of dep: they run without want, at most 31 high, and leave one -/
def okc (cs : Nat → Int) : Nat → Nat → Nat → Prop
  | 0, _, dep => dep = 1
  | n + 1, i, dep => (c_push (cs i) ∧ dep < 31 ∧ okc cs n (i + 1) (dep + 1)) ∨ (c_un (cs i) ∧ 1 ≤ dep ∧ okc cs n (i + 1) dep) ∨ (c_bin (cs i) ∧ 2 ≤ dep ∧ okc cs n (i + 1) (dep - 1))
def okT (T : Tx) : Prop := T.2 0 = 0 ∧ T.2 0 ≤ T.2 1 ∧ T.2 1 ≤ T.2 2 ∧ T.2 2 ≤ T.2 3 ∧ T.2 3 ≤ 160 ∧ ∀ part, part < 3 → okc T.1 (T.2 (part + 1) - T.2 part).toNat (T.2 part).toNat 0
def says (T : Tx) (part : Nat) (env : Nat → Int) : Int := (evl env T.1 (T.2 (part + 1) - T.2 part).toNat (T.2 part).toNat []).headD 0
def bnd (part : Nat) (v : Int) : Int := if 99 < v then 99 else if v < (if part = 2 then -99 else 0) then (if part = 2 then -99 else 0) else v
def env (τ : Tn) (p : Nat) : Nat → Int := fun j => match j with
  | 0 => τ 3 p
  | 1 => τ 4 p
  | 2 => (τ 8 1).tmod 20
  | 3 => if τ 1 (τ 3 p).toNat = -1 then 0 else 1
  | 4 => τ 5 p
  | _ => τ 7 p
def sAsk (X : Nat → Tx) (τ : Tn) (part p : Nat) : Int := bnd part (says (X (τ 8 2).toNat) part (env τ p))
def untr (τ : Tn) (p : Nat) : Bool := decide (τ 1 (τ 3 p).toNat = -1)
def sTri (X : Nat → Tx) (τ : Tn) (p : Nat) : Bool :=
  if τ 6 p = 1 then untr τ p || decide (sAsk X τ 0 p ≠ 0) else if τ 6 p = 2 then !untr τ p && decide (sAsk X τ 0 p ≠ 0) else if τ 6 p = 3 then untr τ p
  else if τ 6 p = 4 then (if (τ 8 1).tmod 2 = 0 then !untr τ p && decide (sAsk X τ 0 p ≠ 0) else untr τ p) else decide (sAsk X τ 0 p ≠ 0)
def sPay (X : Nat → Tx) (τ : Tn) (p : Nat) : Int :=
  if τ 6 p = 2 then sAsk X τ 1 p + τ 7 p else if τ 6 p = 4 then 0 else if τ 6 p = 5 then (sAsk X τ 1 p).tdiv 2 else sAsk X τ 1 p
def sgn (v : Int) : Int := if 0 < v then 1 else if v < 0 then -1 else 0
def sGo (X : Nat → Tx) (τ : Tn) (p : Nat) : Int :=
  if τ 6 p = 1 then 1 else if τ 6 p = 3 then (if (τ 8 1).tmod 20 < τ 7 p then 1 else -1) else if τ 6 p = 5 then 0 else sgn (sAsk X τ 2 p)
def sOut (τ : Tn) (p d : Nat) : Int := if τ 1 d = -1 then 0 else if τ 1 d = p then 1 else 2
def mn (a b : Int) : Int := if b < a then b else a
/-- a try of a door -/
def sTry (X : Nat → Tx) (τ : Tn) (p d : Nat) : Tn :=
  if sOut τ p d = 2 then
    let h := (τ 1 d).toNat
    let paid := mn (sPay X τ p) (mn (τ 4 p) (99 - τ 4 h))
    let t1 := st τ 4 p (τ 4 p - paid)
    let t2 := st t1 4 h (t1 4 h + paid)
    let found := mn (t2 0 d) (99 - t2 4 p)
    let t3 := st t2 4 p (t2 4 p + found)
    let t4 := st t3 0 d (t3 0 d - found)
    let t5 := st t4 5 p (mn 99 (t4 5 p + 1))
    let t6 := st t5 2 d p
    st t6 1 d p
  else st τ 1 d p
/-- one's part of a minute, and who came in so far -/
def sOne (X : Nat → Tx) (s : Int × Tn) (p : Nat) : Int × Tn :=
  let t1 := if sTri X s.2 p = true then sTry X s.2 p (s.2 3 p).toNat else s.2
  let b1 := if sTri X s.2 p = true ∧ sOut s.2 p (s.2 3 p).toNat = 2 then s.1 + 2 ^ p else s.1
  (b1, st t1 3 p ((t1 3 p + sGo X t1 p) % 8))
def sAll (X : Nat → Tx) (τ : Tn) : Nat → Int × Tn
  | 0 => (0, τ)
  | n + 1 => sOne X (sAll X τ n) n
def sEnd (τ : Tn) : Tn := fun f i => if f = 8 ∧ i = 1 then τ 8 1 + 1 else if (f = 1 ∨ f = 2) ∧ (τ 8 1 + 1).tmod 20 = 0 then -1 else τ f i
def sMin (X : Nat → Tx) (τ : Tn) : Int × Tn := ((sAll X τ (τ 8 0).toNat).1, sEnd (sAll X τ (τ 8 0).toNat).2)
def sRun (X : Nat → Tx) (τ : Tn) : Nat → Tn
  | 0 => τ
  | n + 1 => (sMin X (sRun X τ n)).2
/-- a town whose numbers are in their bounds; nT texts -/
def WF (nT : Nat) (τ : Tn) : Prop :=
  (0 ≤ τ 8 0 ∧ τ 8 0 ≤ 6) ∧ 0 ≤ τ 8 1 ∧ (0 ≤ τ 8 2 ∧ τ 8 2 < nT) ∧ (∀ d, d < 8 → (0 ≤ τ 0 d ∧ τ 0 d ≤ 99) ∧ (-1 ≤ τ 1 d ∧ τ 1 d < 6) ∧ (-1 ≤ τ 2 d ∧ τ 2 d < 6)) ∧
  ∀ p, p < 6 → (0 ≤ τ 3 p ∧ τ 3 p < 8) ∧ (0 ≤ τ 4 p ∧ τ 4 p ≤ 99) ∧ (0 ≤ τ 5 p ∧ τ 5 p ≤ 99) ∧ (0 ≤ τ 6 p ∧ τ 6 p ≤ 5) ∧ (0 ≤ τ 7 p ∧ τ 7 p ≤ 9)
theorem bnd_in (part : Nat) (v : Int) : (if part = 2 then -99 else 0) ≤ bnd part v ∧ bnd part v ≤ 99 := by
  unfold bnd
  split <;> split <;> (try split) <;> omega
theorem sAsk_in (X : Nat → Tx) (τ : Tn) (part p : Nat) : -99 ≤ sAsk X τ part p ∧ sAsk X τ part p ≤ 99 := by
  have := bnd_in part (says (X (τ 8 2).toNat) part (env τ p))
  unfold sAsk
  split at this <;> omega
theorem sAsk_in1 (X : Nat → Tx) (τ : Tn) (part p : Nat) (h : part ≠ 2) : 0 ≤ sAsk X τ part p ∧ sAsk X τ part p ≤ 99 := by
  have := bnd_in part (says (X (τ 8 2).toNat) part (env τ p))
  rw [if_neg h] at this
  exact this
theorem sPay_in (X : Nat → Tx) (τ : Tn) (p : Nat) (h : 0 ≤ τ 7 p ∧ τ 7 p ≤ 9) : 0 ≤ sPay X τ p ∧ sPay X τ p ≤ 108 := by
  have := sAsk_in1 X τ 1 p (by decide)
  unfold sPay
  split
  · omega
  · split
    · omega
    · split
      · rw [Int.tdiv_eq_ediv_of_nonneg this.1]
        omega
      · omega
theorem sGo_in (X : Nat → Tx) (τ : Tn) (p : Nat) : -1 ≤ sGo X τ p ∧ sGo X τ p ≤ 1 := by
  unfold sGo sgn
  split
  · omega
  · split
    · split <;> omega
    · split
      · omega
      · split
        · omega
        · split <;> omega
theorem WF.d {nT : Nat} {τ : Tn} (h : WF nT τ) {d : Nat} (hd : d < 8) : (0 ≤ τ 0 d ∧ τ 0 d ≤ 99) ∧ (-1 ≤ τ 1 d ∧ τ 1 d < 6) ∧ (-1 ≤ τ 2 d ∧ τ 2 d < 6) := h.2.2.2.1 d hd
theorem WF.p {nT : Nat} {τ : Tn} (h : WF nT τ) {p : Nat} (hp : p < 6) : (0 ≤ τ 3 p ∧ τ 3 p < 8) ∧ (0 ≤ τ 4 p ∧ τ 4 p ≤ 99) ∧ (0 ≤ τ 5 p ∧ τ 5 p ≤ 99) ∧ (0 ≤ τ 6 p ∧ τ 6 p ≤ 5) ∧ (0 ≤ τ 7 p ∧ τ 7 p ≤ 9) := h.2.2.2.2 p hp
/-- a number put in its bounds -/
theorem WF.put {nT : Nat} {τ : Tn} (h : WF nT τ) {f i : Nat} {v : Int} (hv : (f = 0 ∧ 0 ≤ v ∧ v ≤ 99) ∨ ((f = 1 ∨ f = 2) ∧ -1 ≤ v ∧ v < 6) ∨ (f = 3 ∧ 0 ≤ v ∧ v < 8) ∨ ((f = 4 ∨ f = 5) ∧ 0 ≤ v ∧ v ≤ 99) ∨ (f = 6 ∧ 0 ≤ v ∧ v ≤ 5) ∨ (f = 7 ∧ 0 ≤ v ∧ v ≤ 9)) : WF nT (st τ f i v) := by
  obtain ⟨h1, h2, h3, h4, h5⟩ := h
  refine ⟨?_, ?_, ?_, fun d hd => ?_, fun p hp => ?_⟩
  · rw [st_ne (by omega)]; exact h1
  · rw [st_ne (by omega)]; exact h2
  · rw [st_ne (by omega)]; exact h3
  · have := h4 d hd
    refine ⟨?_, ?_, ?_⟩
    · unfold st
      split <;> omega
    · unfold st
      split <;> omega
    · unfold st
      split <;> omega
  · have := h5 p hp
    refine ⟨?_, ?_, ?_, ?_, ?_⟩ <;> (unfold st; split <;> omega)
theorem sTry_wf {nT : Nat} {X : Nat → Tx} {τ : Tn} {p d : Nat} (h : WF nT τ) (hp : p < 6) (hd : d < 8) : WF nT (sTry X τ p d) := by
  have wp := h.p hp
  have wd := h.d hd
  have pay := sPay_in X τ p wp.2.2.2.2
  unfold sTry
  split
  · rename_i ho
    unfold sOut at ho
    split at ho
    · omega
    · split at ho
      · omega
      · rename_i h1 h2
        have hh : (τ 1 d).toNat < 6 := by omega
        have hne : p ≠ (τ 1 d).toNat := by omega
        have wh := h.p hh
        simp only []
        generalize hpaid : mn (sPay X τ p) (mn (τ 4 p) (99 - τ 4 (τ 1 d).toNat)) = paid
        have hpd : 0 ≤ paid ∧ paid ≤ τ 4 p ∧ paid ≤ 99 - τ 4 (τ 1 d).toNat := by
          rw [← hpaid]
          unfold mn
          split <;> split <;> omega
        rw [show st τ 4 p (τ 4 p - paid) 4 (τ 1 d).toNat = τ 4 (τ 1 d).toNat from st_ne (Or.inr (Ne.symm hne))]
        rw [show st (st τ 4 p (τ 4 p - paid)) 4 (τ 1 d).toNat (τ 4 (τ 1 d).toNat + paid) 4 p = τ 4 p - paid by rw [st_ne (Or.inr hne), st_self]]
        rw [show st (st τ 4 p (τ 4 p - paid)) 4 (τ 1 d).toNat (τ 4 (τ 1 d).toNat + paid) 0 d = τ 0 d by rw [st_ne (by omega), st_ne (by omega)]]
        generalize hfnd : mn (τ 0 d) (99 - (τ 4 p - paid)) = found
        have hf : 0 ≤ found ∧ found ≤ τ 0 d ∧ found ≤ 99 - (τ 4 p - paid) := by
          rw [← hfnd]
          unfold mn
          split <;> omega
        have e0 : ∀ x : Int, st (st (st τ 4 p (τ 4 p - paid)) 4 (τ 1 d).toNat (τ 4 (τ 1 d).toNat + paid)) 4 p x 0 d = τ 0 d := fun x => by
          rw [st_ne (by omega), st_ne (by omega), st_ne (by omega)]
        rw [e0]
        have e5 : ∀ x y : Int, st (st (st (st τ 4 p (τ 4 p - paid)) 4 (τ 1 d).toNat (τ 4 (τ 1 d).toNat + paid)) 4 p x) 0 d y 5 p = τ 5 p := fun x y => by
          rw [st_ne (by omega), st_ne (by omega), st_ne (by omega), st_ne (by omega)]
        rw [e5]
        have hc : 0 ≤ mn 99 (τ 5 p + 1) ∧ mn 99 (τ 5 p + 1) ≤ 99 := by
          unfold mn
          split <;> omega
        exact ((((((((h.put (by omega)).put (by omega)).put (by omega)).put (by omega)).put (by omega)).put (by omega)).put (by omega)))
  · exact h.put (by omega)
theorem sOne_wf {nT : Nat} {X : Nat → Tx} {s : Int × Tn} {p : Nat} (h : WF nT s.2) (hp : p < 6) : WF nT (sOne X s p).2 := by
  have hd : (s.2 3 p).toNat < 8 := by have := (h.p hp).1; omega
  unfold sOne
  simp only []
  refine WF.put ?_ (by omega)
  split
  · exact sTry_wf h hp hd
  · exact h

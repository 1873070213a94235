/-! what a town is: numbers by field (0 behind, 1 first, 2 second, 3 at, 4 eggs, 5 came, 6 kind, 7 more, 8: people, minute, law) and place -/
abbrev Tn : Type := Nat → Nat → Int
def st (τ : Tn) (f i : Nat) (v : Int) : Tn := fun g j => if g = f ∧ j = i then v else τ g j
theorem st_self {τ : Tn} {f i : Nat} {v : Int} : st τ f i v f i = v := by simp [st]
theorem st_ne {τ : Tn} {f i g j : Nat} {v : Int} (h : g ≠ f ∨ j ≠ i) : st τ f i v g j = τ g j := by
  unfold st
  rw [if_neg]
  rintro ⟨h1, h2⟩
  rcases h with h | h
  · exact h h1
  · exact h h2
/-- a text: its codes, and where its parts begin and end -/
abbrev Tx : Type := (Nat → Int) × (Nat → Int)
def w32 (a : Int) : Int := (Int32.ofInt a).toInt
theorem w32_ib (a : Int) : ib (w32 a) := ⟨by have := Int32.le_toInt (Int32.ofInt a); exact this, by have := Int32.toInt_lt (Int32.ofInt a); exact this⟩
theorem w32_i3 (a : Int) : Int32.ofInt a = Int32.ofInt (w32 a) := (Int32.ofInt_toInt _).symm
theorem w32_id {a : Int} (h : ib a) : w32 a = a := i3_toInt h
def tw (c x y : Int) : Int :=
  if c = 11 then (if x ≠ 0 ∨ y ≠ 0 then 1 else 0) else if c = 12 then (if x ≠ 0 ∧ y ≠ 0 then 1 else 0) else if c = 14 then (if x < y then 1 else 0)
  else if c = 15 then (if x = y then 1 else 0) else if c = 16 then w32 (x + y) else if c = 17 then w32 (x - y) else w32 (x * y)
def ev1 (env : Nat → Int) (c : Int) (s : List Int) : List Int :=
  if 100000 ≤ c then (c - 100000) :: s else if c < 11 then env c.toNat :: s else match s with
    | [] => []
    | a :: r => if c = 13 then (if a = 0 then 1 else 0) :: r else if c = 19 then w32 (-a) :: r else match r with
      | [] => []
      | x :: q => tw c x a :: q
def evl (env : Nat → Int) (cs : Nat → Int) : Nat → Nat → List Int → List Int
  | 0, _, s => s
  | n + 1, i, s => evl env cs n (i + 1) (ev1 env (cs i) s)
def c_push (c : Int) : Prop := (100000 ≤ c ∧ c ≤ 109999) ∨ (0 ≤ c ∧ c ≤ 5)
def c_un (c : Int) : Prop := c = 13 ∨ c = 19
def c_bin (c : Int) : Prop := c = 11 ∨ c = 12 ∨ c = 14 ∨ c = 15 ∨ c = 16 ∨ c = 17 ∨ c = 18
/-- the codes from i on, n of them, on a stack of dep: they run without want, at most 31 high, and leave one -/
def okc (cs : Nat → Int) : Nat → Nat → Nat → Prop
  | 0, _, dep => dep = 1
  | n + 1, i, dep => (c_push (cs i) ∧ dep < 31 ∧ okc cs n (i + 1) (dep + 1)) ∨ (c_un (cs i) ∧ 1 ≤ dep ∧ okc cs n (i + 1) dep) ∨ (c_bin (cs i) ∧ 2 ≤ dep ∧ okc cs n (i + 1) (dep - 1))
def okT (T : Tx) : Prop := T.2 0 = 0 ∧ T.2 0 ≤ T.2 1 ∧ T.2 1 ≤ T.2 2 ∧ T.2 2 ≤ T.2 3 ∧ T.2 3 ≤ 160 ∧ ∀ part, part < 3 → okc T.1 (T.2 (part + 1) - T.2 part).toNat (T.2 part).toNat 0
def says (T : Tx) (part : Nat) (env : Nat → Int) : Int := (evl env T.1 (T.2 (part + 1) - T.2 part).toNat (T.2 part).toNat []).headD 0
def bnd (part : Nat) (v : Int) : Int := if 99 < v then 99 else if v < (if part = 2 then -99 else 0) then (if part = 2 then -99 else 0) else v
def env (τ : Tn) (p : Nat) : Nat → Int := fun j => match j with
  | 0 => τ 3 p
  | 1 => τ 4 p
  | 2 => (τ 8 1).tmod 20
  | 3 => if τ 1 (τ 3 p).toNat = -1 then 0 else 1
  | 4 => τ 5 p
  | _ => τ 7 p
def sAsk (X : Nat → Tx) (τ : Tn) (part p : Nat) : Int := bnd part (says (X (τ 8 2).toNat) part (env τ p))
def untr (τ : Tn) (p : Nat) : Bool := decide (τ 1 (τ 3 p).toNat = -1)
def sTri (X : Nat → Tx) (τ : Tn) (p : Nat) : Bool :=
  if τ 6 p = 1 then untr τ p || decide (sAsk X τ 0 p ≠ 0) else if τ 6 p = 2 then !untr τ p && decide (sAsk X τ 0 p ≠ 0) else if τ 6 p = 3 then untr τ p
  else if τ 6 p = 4 then (if (τ 8 1).tmod 2 = 0 then !untr τ p && decide (sAsk X τ 0 p ≠ 0) else untr τ p) else decide (sAsk X τ 0 p ≠ 0)
def sPay (X : Nat → Tx) (τ : Tn) (p : Nat) : Int :=
  if τ 6 p = 2 then sAsk X τ 1 p + τ 7 p else if τ 6 p = 4 then 0 else if τ 6 p = 5 then (sAsk X τ 1 p).tdiv 2 else sAsk X τ 1 p
def sgn (v : Int) : Int := if 0 < v then 1 else if v < 0 then -1 else 0
def sGo (X : Nat → Tx) (τ : Tn) (p : Nat) : Int :=
  if τ 6 p = 1 then 1 else if τ 6 p = 3 then (if (τ 8 1).tmod 20 < τ 7 p then 1 else -1) else if τ 6 p = 5 then 0 else sgn (sAsk X τ 2 p)
def sOut (τ : Tn) (p d : Nat) : Int := if τ 1 d = -1 then 0 else if τ 1 d = p then 1 else 2
def mn (a b : Int) : Int := if b < a then b else a
/-- a try of a door -/
def sTry (X : Nat → Tx) (τ : Tn) (p d : Nat) : Tn :=
  if sOut τ p d = 2 then
    let h := (τ 1 d).toNat
    let paid := mn (sPay X τ p) (mn (τ 4 p) (99 - τ 4 h))
    let t1 := st τ 4 p (τ 4 p - paid)
    let t2 := st t1 4 h (t1 4 h + paid)
    let found := mn (t2 0 d) (99 - t2 4 p)
    let t3 := st t2 4 p (t2 4 p + found)
    let t4 := st t3 0 d (t3 0 d - found)
    let t5 := st t4 5 p (mn 99 (t4 5 p + 1))
    let t6 := st t5 2 d p
    st t6 1 d p
  else st τ 1 d p
/-- one's part of a minute, and who came in so far -/
def sOne (X : Nat → Tx) (s : Int × Tn) (p : Nat) : Int × Tn :=
  let t1 := if sTri X s.2 p = true then sTry X s.2 p (s.2 3 p).toNat else s.2
  let b1 := if sTri X s.2 p = true ∧ sOut s.2 p (s.2 3 p).toNat = 2 then s.1 + 2 ^ p else s.1
  (b1, st t1 3 p ((t1 3 p + sGo X t1 p) % 8))
def sAll (X : Nat → Tx) (τ : Tn) : Nat → Int × Tn
  | 0 => (0, τ)
  | n + 1 => sOne X (sAll X τ n) n
def sEnd (τ : Tn) : Tn := fun f i => if f = 8 ∧ i = 1 then τ 8 1 + 1 else if (f = 1 ∨ f = 2) ∧ (τ 8 1 + 1).tmod 20 = 0 then -1 else τ f i
def sMin (X : Nat → Tx) (τ : Tn) : Int × Tn := ((sAll X τ (τ 8 0).toNat).1, sEnd (sAll X τ (τ 8 0).toNat).2)
def sRun (X : Nat → Tx) (τ : Tn) : Nat → Tn
  | 0 => τ
  | n + 1 => (sMin X (sRun X τ n)).2
/-- a town whose numbers are in their bounds; nT texts -/
def WF (nT : Nat) (τ : Tn) : Prop :=
  (0 ≤ τ 8 0 ∧ τ 8 0 ≤ 6) ∧ 0 ≤ τ 8 1 ∧ (0 ≤ τ 8 2 ∧ τ 8 2 < nT) ∧ (∀ d, d < 8 → (0 ≤ τ 0 d ∧ τ 0 d ≤ 99) ∧ (-1 ≤ τ 1 d ∧ τ 1 d < 6) ∧ (-1 ≤ τ 2 d ∧ τ 2 d < 6)) ∧
  ∀ p, p < 6 → (0 ≤ τ 3 p ∧ τ 3 p < 8) ∧ (0 ≤ τ 4 p ∧ τ 4 p ≤ 99) ∧ (0 ≤ τ 5 p ∧ τ 5 p ≤ 99) ∧ (0 ≤ τ 6 p ∧ τ 6 p ≤ 5) ∧ (0 ≤ τ 7 p ∧ τ 7 p ≤ 9)
theorem bnd_in (part : Nat) (v : Int) : (if part = 2 then -99 else 0) ≤ bnd part v ∧ bnd part v ≤ 99 := by
  unfold bnd
  split <;> split <;> (try split) <;> omega
theorem sAsk_in (X : Nat → Tx) (τ : Tn) (part p : Nat) : -99 ≤ sAsk X τ part p ∧ sAsk X τ part p ≤ 99 := by
  have := bnd_in part (says (X (τ 8 2).toNat) part (env τ p))
  unfold sAsk
  split at this <;> omega
theorem sAsk_in1 (X : Nat → Tx) (τ : Tn) (part p : Nat) (h : part ≠ 2) : 0 ≤ sAsk X τ part p ∧ sAsk X τ part p ≤ 99 := by
  have := bnd_in part (says (X (τ 8 2).toNat) part (env τ p))
  rw [if_neg h] at this
  exact this
theorem sPay_in (X : Nat → Tx) (τ : Tn) (p : Nat) (h : 0 ≤ τ 7 p ∧ τ 7 p ≤ 9) : 0 ≤ sPay X τ p ∧ sPay X τ p ≤ 108 := by
  have := sAsk_in1 X τ 1 p (by decide)
  unfold sPay
  split
  · omega
  · split
    · omega
    · split
      · rw [Int.tdiv_eq_ediv_of_nonneg this.1]
        omega
      · omega
theorem sGo_in (X : Nat → Tx) (τ : Tn) (p : Nat) : -1 ≤ sGo X τ p ∧ sGo X τ p ≤ 1 := by
  unfold sGo sgn
  split
  · omega
  · split
    · split <;> omega
    · split
      · omega
      · split
        · omega
        · split <;> omega
theorem WF.d {nT : Nat} {τ : Tn} (h : WF nT τ) {d : Nat} (hd : d < 8) : (0 ≤ τ 0 d ∧ τ 0 d ≤ 99) ∧ (-1 ≤ τ 1 d ∧ τ 1 d < 6) ∧ (-1 ≤ τ 2 d ∧ τ 2 d < 6) := h.2.2.2.1 d hd
theorem WF.p {nT : Nat} {τ : Tn} (h : WF nT τ) {p : Nat} (hp : p < 6) : (0 ≤ τ 3 p ∧ τ 3 p < 8) ∧ (0 ≤ τ 4 p ∧ τ 4 p ≤ 99) ∧ (0 ≤ τ 5 p ∧ τ 5 p ≤ 99) ∧ (0 ≤ τ 6 p ∧ τ 6 p ≤ 5) ∧ (0 ≤ τ 7 p ∧ τ 7 p ≤ 9) := h.2.2.2.2 p hp
/-- a number put in its bounds -/
theorem WF.put {nT : Nat} {τ : Tn} (h : WF nT τ) {f i : Nat} {v : Int} (hv : (f = 0 ∧ 0 ≤ v ∧ v ≤ 99) ∨ ((f = 1 ∨ f = 2) ∧ -1 ≤ v ∧ v < 6) ∨ (f = 3 ∧ 0 ≤ v ∧ v < 8) ∨ ((f = 4 ∨ f = 5) ∧ 0 ≤ v ∧ v ≤ 99) ∨ (f = 6 ∧ 0 ≤ v ∧ v ≤ 5) ∨ (f = 7 ∧ 0 ≤ v ∧ v ≤ 9)) : WF nT (st τ f i v) := by
  obtain ⟨h1, h2, h3, h4, h5⟩ := h
  refine ⟨?_, ?_, ?_, fun d hd => ?_, fun p hp => ?_⟩
  · rw [st_ne (by omega)]; exact h1
  · rw [st_ne (by omega)]; exact h2
  · rw [st_ne (by omega)]; exact h3
  · have := h4 d hd
    refine ⟨?_, ?_, ?_⟩
    · unfold st
      split <;> omega
    · unfold st
      split <;> omega
    · unfold st
      split <;> omega
  · have := h5 p hp
    refine ⟨?_, ?_, ?_, ?_, ?_⟩ <;> (unfold st; split <;> omega)
theorem sTry_wf {nT : Nat} {X : Nat → Tx} {τ : Tn} {p d : Nat} (h : WF nT τ) (hp : p < 6) (hd : d < 8) : WF nT (sTry X τ p d) := by
  have wp := h.p hp
  have wd := h.d hd
  have pay := sPay_in X τ p wp.2.2.2.2
  unfold sTry
  split
  · rename_i ho
    unfold sOut at ho
    split at ho
    · omega
    · split at ho
      · omega
      · rename_i h1 h2
        have hh : (τ 1 d).toNat < 6 := by omega
        have hne : p ≠ (τ 1 d).toNat := by omega
        have wh := h.p hh
        simp only []
        generalize hpaid : mn (sPay X τ p) (mn (τ 4 p) (99 - τ 4 (τ 1 d).toNat)) = paid
        have hpd : 0 ≤ paid ∧ paid ≤ τ 4 p ∧ paid ≤ 99 - τ 4 (τ 1 d).toNat := by
          rw [← hpaid]
          unfold mn
          split <;> split <;> omega
        rw [show st τ 4 p (τ 4 p - paid) 4 (τ 1 d).toNat = τ 4 (τ 1 d).toNat from st_ne (Or.inr (Ne.symm hne))]
        rw [show st (st τ 4 p (τ 4 p - paid)) 4 (τ 1 d).toNat (τ 4 (τ 1 d).toNat + paid) 4 p = τ 4 p - paid by rw [st_ne (Or.inr hne), st_self]]
        rw [show st (st τ 4 p (τ 4 p - paid)) 4 (τ 1 d).toNat (τ 4 (τ 1 d).toNat + paid) 0 d = τ 0 d by rw [st_ne (by omega), st_ne (by omega)]]
        generalize hfnd : mn (τ 0 d) (99 - (τ 4 p - paid)) = found
        have hf : 0 ≤ found ∧ found ≤ τ 0 d ∧ found ≤ 99 - (τ 4 p - paid) := by
          rw [← hfnd]
          unfold mn
          split <;> omega
        have e0 : ∀ x : Int, st (st (st τ 4 p (τ 4 p - paid)) 4 (τ 1 d).toNat (τ 4 (τ 1 d).toNat + paid)) 4 p x 0 d = τ 0 d := fun x => by
          rw [st_ne (by omega), st_ne (by omega), st_ne (by omega)]
        rw [e0]
        have e5 : ∀ x y : Int, st (st (st (st τ 4 p (τ 4 p - paid)) 4 (τ 1 d).toNat (τ 4 (τ 1 d).toNat + paid)) 4 p x) 0 d y 5 p = τ 5 p := fun x y => by
          rw [st_ne (by omega), st_ne (by omega), st_ne (by omega), st_ne (by omega)]
        rw [e5]
        have hc : 0 ≤ mn 99 (τ 5 p + 1) ∧ mn 99 (τ 5 p + 1) ≤ 99 := by
          unfold mn
          split <;> omega
        exact ((((((((h.put (by omega)).put (by omega)).put (by omega)).put (by omega)).put (by omega)).put (by omega)).put (by omega)))
  · exact h.put (by omega)
theorem sOne_wf {nT : Nat} {X : Nat → Tx} {s : Int × Tn} {p : Nat} (h : WF nT s.2) (hp : p < 6) : WF nT (sOne X s p).2 := by
  have hd : (s.2 3 p).toNat < 8 := by have := (h.p hp).1; omega
  unfold sOne
  simp only []
  refine WF.put ?_ (by omega)
  split
  · exact sTry_wf h hp hd
  · exact h
theorem ev1_ib {e : Nat → Int} {c : Int} {s : List Int} (he : ∀ j, j < 6 → ib (e j)) (hc : c_push c ∨ c_un c ∨ c_bin c) (hs : ∀ a ∈ s, ib a) : ∀ a ∈ ev1 e c s, ib a := by
  have h1 := fun (x y : Int) => w32_ib (x + y)
  have h2 := fun (x y : Int) => w32_ib (x - y)
  have h3 := fun (x y : Int) => w32_ib (x * y)
  intro a ha
  unfold ev1 at ha
  split at ha
  · rcases List.mem_cons.mp ha with rfl | ha
    · rcases hc with (h | h) | h | h
      · omega
      · omega
      · unfold c_un at h; omega
      · unfold c_bin at h; omega
    · exact hs a ha
  · split at ha
    · rcases List.mem_cons.mp ha with rfl | ha
      · rcases hc with (h | h) | h | h
        · omega
        · exact he _ (by omega)
        · unfold c_un at h; omega
        · unfold c_bin at h; omega
      · exact hs a ha
    · split at ha
      · cases ha
      · rename_i b r
        split at ha
        · rcases List.mem_cons.mp ha with rfl | ha
          · split <;> omega
          · exact hs a (List.mem_cons_of_mem _ ha)
        · split at ha
          · rcases List.mem_cons.mp ha with rfl | ha
            · exact w32_ib _
            · exact hs a (List.mem_cons_of_mem _ ha)
          · split at ha
            · cases ha
            · rcases List.mem_cons.mp ha with rfl | ha
              · unfold tw
                split
                · split <;> omega
                · split
                  · split <;> omega
                  · split
                    · split <;> omega
                    · split
                      · split <;> omega
                      · split
                        · exact h1 _ _
                        · split
                          · exact h2 _ _
                          · exact h3 _ _
              · exact hs a (List.mem_cons_of_mem _ (List.mem_cons_of_mem _ ha))
theorem evl_ib {e : Nat → Int} {cs : Nat → Int} (he : ∀ j, j < 6 → ib (e j)) : ∀ (n i dep : Nat) (s : List Int), okc cs n i dep → (∀ a ∈ s, ib a) → ∀ a ∈ evl e cs n i s, ib a
  | 0, _, _, s, _, hs => hs
  | n + 1, i, dep, s, hok, hs => by
    simp only [evl]
    rcases hok with ⟨h1, _, h3⟩ | ⟨h1, _, h3⟩ | ⟨h1, _, h3⟩
    · exact evl_ib he n (i + 1) _ _ h3 (ev1_ib he (Or.inl h1) hs)
    · exact evl_ib he n (i + 1) _ _ h3 (ev1_ib he (Or.inr (Or.inl h1)) hs)
    · exact evl_ib he n (i + 1) _ _ h3 (ev1_ib he (Or.inr (Or.inr h1)) hs)
theorem says_ib {T : Tx} {part : Nat} (hok : okT T) (hp : part < 3) (e : Nat → Int) (he : ∀ j, j < 6 → ib (e j)) : ib (says T part e) := by
  have h := evl_ib he _ _ _ [] (hok.2.2.2.2.2 part hp) (by simp)
  unfold says
  generalize evl e T.1 (T.2 (part + 1) - T.2 part).toNat (T.2 part).toNat [] = s at h
  cases s with
  | nil => show ib 0; omega
  | cons a r => exact h a List.mem_cons_self
theorem env_ib {nT : Nat} {τ : Tn} {p : Nat} (hw : WF nT τ) (hc : τ 8 1 < 2147483648) (hp : p < 6) : ∀ j, j < 6 → ib (env τ p j) := by
  intro j hj
  have wp := hw.p hp
  have := Int.tmod_nonneg 20 hw.2.1
  have := Int.tmod_lt_of_pos (τ 8 1) (show (0 : Int) < 20 by decide)
  rcases (by omega : j = 0 ∨ j = 1 ∨ j = 2 ∨ j = 3 ∨ j = 4 ∨ j = 5) with rfl | rfl | rfl | rfl | rfl | rfl
  · show ib (τ 3 p); omega
  · show ib (τ 4 p); omega
  · show ib ((τ 8 1).tmod 20); omega
  · show ib (if τ 1 (τ 3 p).toNat = -1 then 0 else 1); split <;> omega
  · show ib (τ 5 p); omega
  · show ib (τ 7 p); omega
theorem sTry_8 (X : Nat → Tx) (τ : Tn) (p d i : Nat) : sTry X τ p d 8 i = τ 8 i := by
  unfold sTry
  split
  · simp only []
    rw [st_ne (Or.inl (by decide)), st_ne (Or.inl (by decide)), st_ne (Or.inl (by decide)), st_ne (Or.inl (by decide)), st_ne (Or.inl (by decide)), st_ne (Or.inl (by decide)), st_ne (Or.inl (by decide))]
  · exact st_ne (Or.inl (by decide))
theorem sOne_8 (X : Nat → Tx) (s : Int × Tn) (p i : Nat) : (sOne X s p).2 8 i = s.2 8 i := by
  unfold sOne
  simp only []
  rw [st_ne (Or.inl (by decide))]
  split
  · exact sTry_8 X s.2 p _ i
  · rfl
theorem sAll_8 (X : Nat → Tx) (τ : Tn) : ∀ n i, (sAll X τ n).2 8 i = τ 8 i
  | 0, _ => rfl
  | n + 1, i => (sOne_8 X _ n i).trans (sAll_8 X τ n i)
theorem sAll_wf {nT : Nat} {X : Nat → Tx} {τ : Tn} (h : WF nT τ) : ∀ n, n ≤ 6 → WF nT (sAll X τ n).2
  | 0, _ => h
  | n + 1, hn => sOne_wf (sAll_wf h n (by omega)) (by omega)
theorem sAll_b (X : Nat → Tx) (τ : Tn) : ∀ n, 0 ≤ (sAll X τ n).1 ∧ (sAll X τ n).1 < 2 ^ n
  | 0 => by show (0 : Int) ≤ 0 ∧ (0 : Int) < 2 ^ 0; decide
  | n + 1 => by
    have := sAll_b X τ n
    have h2 : (2 : Int) ^ (n + 1) = 2 ^ n + 2 ^ n := by rw [Int.pow_succ]; omega
    simp only [sAll, sOne]
    split <;> omega
theorem sEnd_no {T : Tn} (h : ¬ (T 8 1 + 1).tmod 20 = 0) : sEnd T = st T 8 1 (T 8 1 + 1) := by
  funext f i
  unfold sEnd st
  by_cases q : f = 8 ∧ i = 1
  · rw [if_pos q, if_pos q]
  · rw [if_neg q, if_neg q, if_neg (fun w => h w.2)]
theorem sEnd_yes {T : Tn} (h : (T 8 1 + 1).tmod 20 = 0) : sEnd T = (fun f i => if f = 2 then -1 else if f = 1 then -1 else st T 8 1 (T 8 1 + 1) f i) := by
  funext f i
  unfold sEnd st
  by_cases q : f = 8 ∧ i = 1
  · rw [if_pos q, if_neg (by omega), if_neg (by omega), if_pos q]
  · rw [if_neg q]
    by_cases q2 : f = 2
    · rw [if_pos ⟨Or.inr q2, h⟩, if_pos q2]
    · rw [if_neg q2]
      by_cases q1 : f = 1
      · rw [if_pos ⟨Or.inl q1, h⟩, if_pos q1]
      · rw [if_neg (by omega), if_neg q1, if_neg q]
theorem shl_bit {p : Nat} (h : p < 6) : Int32.ofInt 1 <<< (Int32.ofInt (p : Int) &&& 31) = Int32.ofInt (2 ^ p) := by
  rcases (by omega : p = 0 ∨ p = 1 ∨ p = 2 ∨ p = 3 ∨ p = 4 ∨ p = 5) with rfl | rfl | rfl | rfl | rfl | rfl <;> decide
theorem nIor (a b : Nat) : nI a ||| nI b = nI (a ||| b) := by
  apply Int32.toBitVec_inj.mp
  show (Int32.ofNat a ||| Int32.ofNat b).toBitVec = (Int32.ofNat (a ||| b)).toBitVec
  rw [Int32.toBitVec_or]
  show BitVec.ofNat 32 a ||| BitVec.ofNat 32 b = BitVec.ofNat 32 (a ||| b)
  rw [BitVec.ofNat_or]
theorem or_bit {p : Nat} {b : Int} (h : p < 30) (hb : 0 ≤ b ∧ b < 2 ^ p) : Int32.ofInt b ||| Int32.ofInt (2 ^ p) = Int32.ofInt (b + 2 ^ p) := by
  obtain ⟨n, rfl⟩ : ∃ n : Nat, b = n := ⟨b.toNat, by omega⟩
  have h2 : ((2 : Int) ^ p) = ((2 ^ p : Nat) : Int) := by rw [Int.natCast_pow]; rfl
  rw [h2] at hb ⊢
  have hn : n < 2 ^ p := by omega
  rw [nIof, nIof, nIor, ← Int.natCast_add, nIof]
  congr 1
  have := Nat.two_pow_add_eq_or_of_lt hn 1
  rw [Nat.mul_one] at this
  rw [Nat.or_comm, ← this, Nat.add_comm]
/-- the sum of 2^i for the i below n of which P is so -/
def bt (P : Nat → Bool) : Nat → Int
  | 0 => 0
  | n + 1 => bt P n + (if P n = true then 2 ^ n else 0)
theorem bt_b (P : Nat → Bool) : ∀ n, 0 ≤ bt P n ∧ bt P n < 2 ^ n
  | 0 => by show (0 : Int) ≤ 0 ∧ (0 : Int) < 2 ^ 0; decide
  | n + 1 => by
    have := bt_b P n
    have h2 : (2 : Int) ^ (n + 1) = 2 ^ n + 2 ^ n := by rw [Int.pow_succ]; omega
    simp only [bt]
    split <;> omega
theorem bt_congr {P Q : Nat → Bool} : ∀ {n : Nat}, (∀ i, i < n → P i = Q i) → bt P n = bt Q n
  | 0, _ => rfl
  | n + 1, h => by simp only [bt]; rw [bt_congr (fun i hi => h i (by omega)), h n (by omega)]
def sm (f : Nat → Int) : Nat → Int
  | 0 => 0
  | n + 1 => sm f n + f n
theorem sm_congr {f g : Nat → Int} : ∀ {n : Nat}, (∀ i, i < n → f i = g i) → sm f n = sm g n
  | 0, _ => rfl
  | n + 1, h => by simp only [sm]; rw [sm_congr (fun i hi => h i (by omega)), h n (by omega)]
theorem sm_b {f : Nat → Int} : ∀ {n : Nat}, (∀ i, i < n → 0 ≤ f i ∧ f i ≤ 99) → 0 ≤ sm f n ∧ sm f n ≤ 99 * n
  | 0, _ => by show (0 : Int) ≤ 0 ∧ (0 : Int) ≤ 99 * ((0 : Nat) : Int); decide
  | n + 1, h => by
    have h1 := sm_b (n := n) (fun i hi => h i (by omega))
    have h2 := h n (by omega)
    simp only [sm]
    omega
theorem or_0 (b : Int) : Int32.ofInt b ||| Int32.ofInt 0 = Int32.ofInt (b + 0) := by
  rw [Int.add_zero]
  apply Int32.toBitVec_inj.mp
  rw [Int32.toBitVec_or]
  show _ ||| (0 : BitVec 32) = _
  exact BitVec.or_zero
theorem shl_bit8 {p : Nat} (h : p < 8) : Int32.ofInt 1 <<< (Int32.ofInt (p : Int) &&& 31) = Int32.ofInt (2 ^ p) := by
  rcases (by omega : p = 0 ∨ p = 1 ∨ p = 2 ∨ p = 3 ∨ p = 4 ∨ p = 5 ∨ p = 6 ∨ p = 7) with rfl | rfl | rfl | rfl | rfl | rfl | rfl | rfl <;> decide
/-- who is at a door, which doors have a first, a second -/
def sAt (τ : Tn) (d : Int) : Int := bt (fun p => decide (τ 3 p = d)) (τ 8 0).toNat
def sFst (τ : Tn) : Int := bt (fun d => decide (τ 1 d ≠ -1)) 8
def sSnd (τ : Tn) : Int := bt (fun d => decide (τ 2 d ≠ -1)) 8
def sBit (m : Int) (w : Nat) : Bool := decide (m / 2 ^ w % 2 = 1)
def sAlo (τ : Tn) : Bool := (List.range (τ 8 0).toNat).any (fun p => decide (sAt τ (τ 3 p) = 2 ^ p))
def sSo (τ : Tn) (w : Nat) : Bool := if w = 8 then decide (sSnd τ = 255) else if 8 < w then !sAlo τ else sBit (sSnd τ) w
theorem pop_1 : ∀ m, m < 64 → (pop8 m = 1 ↔ m = 1 ∨ m = 2 ∨ m = 4 ∨ m = 8 ∨ m = 16 ∨ m = 32) := by decide +kernel
theorem bt_one {P : Nat → Bool} : ∀ {n p : Nat}, bt P n = 2 ^ p → p < n ∧ P p = true
  | 0, p, h => by
    have : (0 : Int) < 2 ^ p := Int.pow_pos (by decide)
    simp only [bt] at h
    omega
  | n + 1, p, h => by
    have hb := bt_b P n
    simp only [bt] at h
    split at h
    · rename_i hP
      have e : p = n := by
        rcases Nat.lt_trichotomy p n with q | q | q
        · have : (2 : Int) ^ p < 2 ^ n := by
            have := Nat.pow_lt_pow_right (a := 2) (by decide) q
            have e1 : ((2 : Int) ^ p) = ((2 ^ p : Nat) : Int) := by rw [Int.natCast_pow]; rfl
            have e2 : ((2 : Int) ^ n) = ((2 ^ n : Nat) : Int) := by rw [Int.natCast_pow]; rfl
            omega
          omega
        · exact q
        · have : (2 : Int) ^ (n + 1) ≤ 2 ^ p := by
            have := Nat.pow_le_pow_right (n := 2) (by decide) (show n + 1 ≤ p from q)
            have e1 : ((2 : Int) ^ p) = ((2 ^ p : Nat) : Int) := by rw [Int.natCast_pow]; rfl
            have e2 : ((2 : Int) ^ (n + 1)) = ((2 ^ (n + 1) : Nat) : Int) := by rw [Int.natCast_pow]; rfl
            omega
          have h2 : (2 : Int) ^ (n + 1) = 2 ^ n + 2 ^ n := by rw [Int.pow_succ]; omega
          omega
      subst e
      exact ⟨by omega, hP⟩
    · rw [Int.add_zero] at h
      have := bt_one h
      exact ⟨by omega, this.2⟩
/-- somebody comes -/
def sComeA (τ : Tn) (km de : Int) : Int := if (0 ≤ km ∧ km ≤ 59) ∧ (0 ≤ de ∧ de ≤ 799) then (if τ 8 0 < 6 then τ 8 0 else -4) else -2
def sComeT (τ : Tn) (km de : Int) : Tn := if ((0 ≤ km ∧ km ≤ 59) ∧ (0 ≤ de ∧ de ≤ 799)) ∧ τ 8 0 < 6 then
    st (st (st (st (st (st τ 6 (τ 8 0).toNat (km.tdiv 10)) 7 (τ 8 0).toNat (km.tmod 10)) 3 (τ 8 0).toNat (de.tdiv 100)) 4 (τ 8 0).toNat (de.tmod 100)) 5 (τ 8 0).toNat 0) 8 0 (τ 8 0 + 1)
  else τ
theorem sComeT_wf {nT : Nat} {τ : Tn} {km de : Int} (h : WF nT τ) : WF nT (sComeT τ km de) := by
  unfold sComeT
  split
  · rename_i hc
    have h0 := h.1
    rw [Int.tdiv_eq_ediv_of_nonneg (by omega), Int.tmod_eq_emod_of_nonneg (by omega), Int.tdiv_eq_ediv_of_nonneg (by omega), Int.tmod_eq_emod_of_nonneg (by omega)]
    have w : WF nT (st (st (st (st (st τ 6 (τ 8 0).toNat (km / 10)) 7 (τ 8 0).toNat (km % 10)) 3 (τ 8 0).toNat (de / 100)) 4 (τ 8 0).toNat (de % 100)) 5 (τ 8 0).toNat 0) := ((((h.put (by omega)).put (by omega)).put (by omega)).put (by omega)).put (by omega)
    obtain ⟨w1, w2, w3, w4, w5⟩ := w
    refine ⟨by rw [st_self]; omega, by rw [st_ne (Or.inr (by decide))]; exact w2, by rw [st_ne (Or.inr (by decide))]; exact w3, fun d hd => ?_, fun p hp => ?_⟩
    · rw [st_ne (Or.inl (by decide)), st_ne (Or.inl (by decide)), st_ne (Or.inl (by decide))]; exact w4 d hd
    · rw [st_ne (f := 8) (g := 3) (Or.inl (by decide)), st_ne (f := 8) (g := 4) (Or.inl (by decide)), st_ne (f := 8) (g := 5) (Or.inl (by decide)), st_ne (f := 8) (g := 6) (Or.inl (by decide)), st_ne (f := 8) (g := 7) (Or.inl (by decide))]; exact w5 p hp
  · exact h

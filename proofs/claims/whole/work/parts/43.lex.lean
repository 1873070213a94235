/-! what the descent lays: codes that run, no more than tokens; the three parts; the tokens of a tape -/
def okl : List Int → Nat → Nat → Prop
  | [], a, b => a = b
  | c :: l, a, b => (c_push c ∧ a < 31 ∧ okl l (a + 1) b) ∨ (c_un c ∧ 1 ≤ a ∧ okl l a b) ∨ (c_bin c ∧ 2 ≤ a ∧ okl l (a - 1) b)
theorem okl_app {l2 : List Int} {b d : Nat} (h2 : okl l2 b d) : ∀ {l : List Int} {a : Nat}, okl l a b → okl (l ++ l2) a d
  | [], a, h => by
    have h : a = b := h
    subst h
    exact h2
  | c :: l, a, h => by
    rcases h with ⟨h1, h3, h4⟩ | ⟨h1, h3, h4⟩ | ⟨h1, h3, h4⟩
    · exact Or.inl ⟨h1, h3, okl_app h2 h4⟩
    · exact Or.inr (Or.inl ⟨h1, h3, okl_app h2 h4⟩)
    · exact Or.inr (Or.inr ⟨h1, h3, okl_app h2 h4⟩)
theorem okl_okc {f : Nat → Int} : ∀ {l : List Int} {k a : Nat}, okl l a 1 → (∀ i, i < l.length → f (k + i) = l.getD i 0) → okc f l.length k a
  | [], k, a, h, _ => h
  | c :: l, k, a, h, hf => by
    have h0 : f k = c := hf 0 (by simp)
    have h1 : ∀ i, i < l.length → f (k + 1 + i) = l.getD i 0 := fun i hi => by
      have := hf (i + 1) (by simp; omega)
      rw [show k + 1 + i = k + (i + 1) by omega, this]
      simp
    rcases h with ⟨g1, g3, g4⟩ | ⟨g1, g3, g4⟩ | ⟨g1, g3, g4⟩
    · exact Or.inl ⟨by rw [h0]; exact g1, g3, okl_okc g4 h1⟩
    · exact Or.inr (Or.inl ⟨by rw [h0]; exact g1, g3, okl_okc g4 h1⟩)
    · exact Or.inr (Or.inr ⟨by rw [h0]; exact g1, g3, okl_okc g4 h1⟩)
def GOK (base : Nat) (F : Nat → List Int → RS) : Prop := ∀ j o j' o', F j o = (j', some o') → ∃ c, o' = o ++ c ∧ c.length + j ≤ j' ∧ ∀ dep, dep ≤ base → okl c dep (dep + 1)
theorem GOK.mono {b1 b2 : Nat} {F : Nat → List Int → RS} (h : GOK b2 F) (hb : b1 ≤ b2) : GOK b1 F := fun j o j' o' hq => by
  obtain ⟨c, h1, h2, h3⟩ := h j o j' o' hq
  exact ⟨c, h1, h2, fun dep hd => h3 dep (by omega)⟩
theorem sg_bin {t : Int} (h : 0 ≤ rk t) : c_bin (sg t) := by
  have hs := (rk_sg rfl h).2.1
  unfold c_bin
  omega
theorem lp_ok {t : Nat → Int} {S : Nat → List Int → RS} {r : Int} {base : Nat} (hr : 0 ≤ r) (hS : GOK (base + 1) S) : ∀ (f j : Nat) (o : List Int) (j' : Nat) (o' : List Int), lpF t S r f j o = (j', some o') → ∃ c, o' = o ++ c ∧ c.length + j ≤ j' ∧ ∀ dep, dep ≤ base → okl c (dep + 1) (dep + 1)
  | 0, j, o, j', o', h => by
    simp only [lpF, Prod.mk.injEq, Option.some.injEq] at h
    obtain ⟨rfl, rfl⟩ := h
    exact ⟨[], by simp, by simp, fun dep _ => rfl⟩
  | f + 1, j, o, j', o', h => by
    simp only [lpF] at h
    by_cases hrk : rk (t j) = r
    · rw [if_pos hrk] at h
      cases hq : S (j + 1) o with
      | mk j1 x =>
        cases x with
        | none => rw [hq] at h; simp [rbd] at h
        | some q1 =>
          rw [hq] at h
          obtain ⟨c1, rfl, h2, h3⟩ := hS _ _ _ _ hq
          obtain ⟨c2, rfl, h4, h5⟩ := lp_ok hr hS f j1 _ j' o' h
          refine ⟨c1 ++ [sg (t j)] ++ c2, by simp, by simp; omega, fun dep hd => ?_⟩
          refine okl_app (h5 dep hd) (okl_app (b := dep + 2) ?_ (h3 (dep + 1) (by omega)))
          exact Or.inr (Or.inr ⟨sg_bin (by omega), by omega, rfl⟩)
    · rw [if_neg hrk] at h
      simp only [Prod.mk.injEq, Option.some.injEq] at h
      obtain ⟨rfl, rfl⟩ := h
      exact ⟨[], by simp, by simp, fun dep _ => rfl⟩
theorem gX_ok {t : Nat → Int} {S : Nat → List Int → RS} {r : Int} {base f : Nat} (hr : 0 ≤ r) (hS : GOK (base + 1) S) : GOK base (gX t S r f) := fun j o j' o' h => by
  unfold gX at h
  cases hq : S j o with
  | mk j1 x =>
    cases x with
    | none => rw [hq] at h; simp [rbd] at h
    | some q1 =>
      rw [hq] at h
      obtain ⟨c1, rfl, h2, h3⟩ := hS _ _ _ _ hq
      obtain ⟨c2, rfl, h4, h5⟩ := lp_ok hr hS f j1 _ j' o' h
      exact ⟨c1 ++ c2, by simp, by simp; omega, fun dep hd => okl_app (h5 dep hd) (h3 dep (by omega))⟩
theorem g2_ok {t : Nat → Int} {b : Bool} {N : Nat → Nat → List Int → RS} {S : Nat → List Int → RS} {base : Nat} (hN : b = true → GOK base (N 2)) (hS : GOK (base + 1) S) : GOK base (g2 t b N S) := fun j o j' o' h => by
  unfold g2 at h
  by_cases h261 : t j = 261
  · rw [if_pos h261] at h
    by_cases hb : b = true
    · rw [if_pos hb] at h
      cases hq : N 2 (j + 1) o with
      | mk j1 x =>
        cases x with
        | none => rw [hq] at h; simp [rbd] at h
        | some q1 =>
          rw [hq] at h
          simp only [rbd, Prod.mk.injEq, Option.some.injEq] at h
          obtain ⟨rfl, rfl⟩ := h
          obtain ⟨c1, rfl, h2, h3⟩ := hN hb _ _ _ _ hq
          exact ⟨c1 ++ [13], by simp, by simp; omega, fun dep hd => okl_app (l2 := [13]) (b := dep + 1) (d := dep + 1) (Or.inr (Or.inl ⟨Or.inl rfl, by omega, rfl⟩)) (h3 dep hd)⟩
    · rw [if_neg hb] at h; simp at h
  · rw [if_neg h261] at h
    exact gX_ok (by decide) hS j o j' o' h
theorem g5_ok {t v : Nat → Int} {b : Bool} {N : Nat → Nat → List Int → RS} {base : Nat} (hv : ∀ j, t j = 300 → 0 ≤ v j ∧ v j ≤ 9999) (hb31 : base < 31) (hN : b = true → GOK base (N 5) ∧ GOK base (N 0)) : GOK base (g5 t v b N) := fun j o j' o' h => by
  unfold g5 at h
  by_cases h300 : t j = 300
  · rw [if_pos h300] at h
    simp only [Prod.mk.injEq, Option.some.injEq] at h
    obtain ⟨rfl, rfl⟩ := h
    have := hv j h300
    exact ⟨[100000 + v j], rfl, by simp; omega, fun dep hd => Or.inl ⟨Or.inl (by omega), by omega, rfl⟩⟩
  rw [if_neg h300] at h
  by_cases hnm : 262 ≤ t j ∧ t j < 268
  · rw [if_pos hnm] at h
    simp only [Prod.mk.injEq, Option.some.injEq] at h
    obtain ⟨rfl, rfl⟩ := h
    exact ⟨[t j - 262], rfl, by simp; omega, fun dep hd => Or.inl ⟨Or.inr (by omega), by omega, rfl⟩⟩
  rw [if_neg hnm] at h
  by_cases h45 : t j = 45 ∧ b = true
  · rw [if_pos h45] at h
    cases hq : N 5 (j + 1) o with
    | mk j1 x =>
      cases x with
      | none => rw [hq] at h; simp [rbd] at h
      | some q1 =>
        rw [hq] at h
        simp only [rbd, Prod.mk.injEq, Option.some.injEq] at h
        obtain ⟨rfl, rfl⟩ := h
        obtain ⟨c1, rfl, h2, h3⟩ := (hN h45.2).1 _ _ _ _ hq
        exact ⟨c1 ++ [19], by simp, by simp; omega, fun dep hd => okl_app (l2 := [19]) (b := dep + 1) (d := dep + 1) (Or.inr (Or.inl ⟨Or.inr rfl, by omega, rfl⟩)) (h3 dep hd)⟩
  rw [if_neg h45] at h
  by_cases h40 : t j = 40 ∧ b = true
  · rw [if_pos h40] at h
    cases hq : N 0 (j + 1) o with
    | mk j1 x =>
      cases x with
      | none => rw [hq] at h; simp [rbd] at h
      | some q1 =>
        rw [hq] at h
        simp only [rbd] at h
        by_cases h41 : t j1 = 41
        · rw [if_pos h41] at h
          simp only [Prod.mk.injEq, Option.some.injEq] at h
          obtain ⟨rfl, rfl⟩ := h
          obtain ⟨c1, rfl, h2, h3⟩ := (hN h40.2).2 _ _ _ _ hq
          exact ⟨c1, rfl, by omega, h3⟩
        · rw [if_neg h41] at h; simp at h
  · rw [if_neg h40] at h; simp at h
theorem gR_ok {t v : Nat → Int} {b : Bool} {N : Nat → Nat → List Int → RS} {base : Nat} (hv : ∀ j, t j = 300 → 0 ≤ v j ∧ v j ≤ 9999) (hb : base ≤ 25) (hN : b = true → ∀ r, r ≤ 5 → GOK (base + 5 + r) (N r)) : ∀ r, r ≤ 5 → GOK (base + r) (gR t v b N r) := by
  have s5 : GOK (base + 5) (g5 t v b N) := g5_ok hv (by omega) (fun e => ⟨(hN e 5 (by decide)).mono (by omega), hN e 0 (by decide)⟩)
  have s4 : GOK (base + 4) (gX t (g5 t v b N) 4 160) := gX_ok (by decide) s5
  have s3 : GOK (base + 3) (gX t (gX t (g5 t v b N) 4 160) 3 160) := gX_ok (by decide) s4
  have s2 : GOK (base + 2) (g2 t b N (gX t (gX t (g5 t v b N) 4 160) 3 160)) := g2_ok (fun e => (hN e 2 (by decide)).mono (by omega)) s3
  have s1 : GOK (base + 1) (gX t (g2 t b N (gX t (gX t (g5 t v b N) 4 160) 3 160)) 1 160) := gX_ok (by decide) s2
  have s0 : GOK base (gX t (gX t (g2 t b N (gX t (gX t (g5 t v b N) 4 160) 3 160)) 1 160) 0 160) := gX_ok (by decide) s1
  intro r hr
  rcases (by omega : r = 0 ∨ r = 1 ∨ r = 2 ∨ r = 3 ∨ r = 4 ∨ r = 5) with rfl | rfl | rfl | rfl | rfl | rfl
  · exact s0
  · exact s1
  · exact s2
  · exact s3
  · exact s4
  · exact s5
theorem gL_ok {t v : Nat → Int} (hv : ∀ j, t j = 300 → 0 ≤ v j ∧ v j ≤ 9999) : ∀ k r, k ≤ 5 → r ≤ 5 → GOK (5 * (5 - k) + r) (gL t v k r)
  | 0, r, hk, hr => gR_ok hv (by omega) (fun e => absurd e (by decide)) r hr
  | k + 1, r, hk, hr => gR_ok hv (by omega) (fun _ r hr => by
      have := gL_ok hv k r (by omega) hr
      rw [show 5 * (5 - (k + 1)) + 5 + r = 5 * (5 - k) + r by omega]
      exact this) r hr
/-- no place behind the last token -/
def GLE (F : Nat → List Int → RS) : Prop := ∀ j o, j ≤ 160 → j ≤ (F j o).1 ∧ (F j o).1 ≤ 160
theorem GLE.bd {F : Nat → List Int → RS} {g : Nat → List Int → RS} (hF : GLE F) (hg : ∀ j o, j ≤ 160 → j ≤ (g j o).1 ∧ (g j o).1 ≤ 160) {j : Nat} {o : List Int} (hj : j ≤ 160) : j ≤ (rbd (F j o) g).1 ∧ (rbd (F j o) g).1 ≤ 160 := by
  have h1 := hF j o hj
  cases hq : F j o with
  | mk j1 x =>
    rw [hq] at h1
    cases x with
    | none => exact h1
    | some q =>
      have h2 := hg j1 q h1.2
      have h1 : j ≤ j1 ∧ j1 ≤ 160 := h1
      show j ≤ (g j1 q).1 ∧ (g j1 q).1 ≤ 160
      omega
theorem adv_le {t : Nat → Int} (hT : ∀ j, 160 ≤ j → t j = -1) {j : Nat} (h : t j ≠ -1) : j + 1 ≤ 160 := by
  rcases Nat.lt_or_ge j 160 with q | q
  · omega
  · exact absurd (hT j q) h
theorem lp_le {t : Nat → Int} (hT : ∀ j, 160 ≤ j → t j = -1) {S : Nat → List Int → RS} {r : Int} (hr : 0 ≤ r) (hS : GLE S) : ∀ f j o, j ≤ 160 → j ≤ (lpF t S r f j o).1 ∧ (lpF t S r f j o).1 ≤ 160
  | 0, j, o, hj => ⟨Nat.le_refl _, hj⟩
  | f + 1, j, o, hj => by
    simp only [lpF]
    split
    · rename_i hrk
      have := adv_le hT (j := j) (fun e => by rw [e] at hrk; have : rk (-1) = -1 := rfl; omega)
      have h1 := hS.bd (g := fun j1 o1 => lpF t S r f j1 (o1 ++ [sg (t j)])) (fun j o hj => lp_le hT hr hS f j _ hj) (o := o) this
      exact ⟨by omega, h1.2⟩
    · exact ⟨Nat.le_refl _, hj⟩
theorem gX_le {t : Nat → Int} (hT : ∀ j, 160 ≤ j → t j = -1) {S : Nat → List Int → RS} {r : Int} {f : Nat} (hr : 0 ≤ r) (hS : GLE S) : GLE (gX t S r f) := fun j o hj => hS.bd (fun j o hj => lp_le hT hr hS f j o hj) hj
theorem g2_le {t : Nat → Int} (hT : ∀ j, 160 ≤ j → t j = -1) {b : Bool} {N : Nat → Nat → List Int → RS} {S : Nat → List Int → RS} (hN : GLE (N 2)) (hS : GLE S) : GLE (g2 t b N S) := fun j o hj => by
  unfold g2
  split
  · rename_i h
    have := adv_le hT (j := j) (by omega)
    split
    · have h1 := hN.bd (g := fun j1 o1 => (j1, some (o1 ++ [13]))) (fun j o hj => ⟨Nat.le_refl _, hj⟩) (o := o) this
      exact ⟨by omega, h1.2⟩
    · exact ⟨Nat.le_refl _, hj⟩
  · exact gX_le hT (by decide) hS j o hj
theorem g5_le {t v : Nat → Int} (hT : ∀ j, 160 ≤ j → t j = -1) {b : Bool} {N : Nat → Nat → List Int → RS} (hN5 : GLE (N 5)) (hN0 : GLE (N 0)) : GLE (g5 t v b N) := fun j o hj => by
  unfold g5
  split
  · have := adv_le hT (j := j) (by omega)
    exact ⟨by omega, this⟩
  split
  · have := adv_le hT (j := j) (by omega)
    exact ⟨by omega, this⟩
  split
  · have := adv_le hT (j := j) (by omega)
    have h1 := hN5.bd (g := fun j1 o1 => (j1, some (o1 ++ [19]))) (fun j o hj => ⟨Nat.le_refl _, hj⟩) (o := o) this
    exact ⟨by omega, h1.2⟩
  split
  · have := adv_le hT (j := j) (by omega)
    have h1 := hN0.bd (g := fun j1 o1 => if t j1 = 41 then (j1 + 1, some o1) else (j1, none)) (fun j o hj => by
      split
      · have := adv_le hT (j := j) (by omega)
        exact ⟨by omega, this⟩
      · exact ⟨Nat.le_refl _, hj⟩) (o := o) this
    exact ⟨by omega, h1.2⟩
  · exact ⟨Nat.le_refl _, hj⟩
theorem gR_le {t v : Nat → Int} (hT : ∀ j, 160 ≤ j → t j = -1) {b : Bool} {N : Nat → Nat → List Int → RS} (hN : ∀ r, GLE (N r)) : ∀ r, GLE (gR t v b N r) := by
  have s5 : GLE (g5 t v b N) := g5_le hT (hN 5) (hN 0)
  have s4 : GLE (gX t (g5 t v b N) 4 160) := gX_le hT (by decide) s5
  have s3 : GLE (gX t (gX t (g5 t v b N) 4 160) 3 160) := gX_le hT (by decide) s4
  have s2 : GLE (g2 t b N (gX t (gX t (g5 t v b N) 4 160) 3 160)) := g2_le hT (hN 2) s3
  have s1 : GLE (gX t (g2 t b N (gX t (gX t (g5 t v b N) 4 160) 3 160)) 1 160) := gX_le hT (by decide) s2
  have s0 : GLE (gX t (gX t (g2 t b N (gX t (gX t (g5 t v b N) 4 160) 3 160)) 1 160) 0 160) := gX_le hT (by decide) s1
  intro r
  match r with
  | 0 => exact s0
  | 1 => exact s1
  | 2 => exact s2
  | 3 => exact s3
  | 4 => exact s4
  | r + 5 => exact s5
theorem gL_le {t v : Nat → Int} (hT : ∀ j, 160 ≤ j → t j = -1) : ∀ k r, GLE (gL t v k r)
  | 0, r => gR_le hT (fun _ j o hj => ⟨Nat.le_refl _, hj⟩) r
  | k + 1, r => gR_le hT (gL_le hT k) r
/-! a part, and all three -/
def pPart (t v : Nat → Int) (part j : Nat) (o : List Int) : RS := if t j = 256 + part then rbd (gL t v 5 0 (j + 1) o) (fun j1 o1 => if t j1 = 59 then (j1 + 1, some o1) else (j1, none)) else (j, none)
theorem pPart_run {t v : Nat → Int} (hT : ∀ j, 160 ≤ j → t j = -1) {part j : Nat} {o : List Int} : pPart t v part j o = if t j = 256 + part then mrun t v 160 (j + 1) true true [] o else (j, none) := by
  unfold pPart
  by_cases h : t j = 256 + part
  · rw [if_pos h, if_pos h]
    have hj := adv_le hT (j := j) (by omega)
    have hle := gL_le (v := v) hT 5 0 (j + 1) o hj
    have hS := gL_sim (v := v) hT 5 0 (by decide) (j + 1) o [] rfl trivial
    cases hq : gL t v 5 0 (j + 1) o with
    | mk j1 x =>
      rw [hq] at hle
      have hle : j + 1 ≤ j1 ∧ j1 ≤ 160 := hle
      cases x with
      | none =>
        obtain ⟨h1, h2⟩ := hS.1 j1 hq
        have := h2 (160 - (j1 - (j + 1)) - 1)
        rw [show 160 - (j1 - (j + 1)) - 1 + (j1 - (j + 1)) + 1 = 160 by omega] at this
        exact this.symm
      | some q1 =>
        obtain ⟨h1, H3, o3, h2, h3, h4⟩ := hS.2 j1 q1 hq
        have hu : uw 1 H3 o3 = ([], q1) := h2 1 (by show (1 : Int) ≤ 1; decide)
        have e := h3 (160 - (j1 - (j + 1)))
        rw [show 160 - (j1 - (j + 1)) + (j1 - (j + 1)) = 160 by omega] at e
        have e : mrun t v 160 (j + 1) true true [] o = _ := e
        rw [e]
        obtain ⟨n, hn⟩ : ∃ n, 160 - (j1 - (j + 1)) = n + 1 := ⟨160 - (j1 - (j + 1)) - 1, by omega⟩
        rw [hn]
        simp only [rbd]
        by_cases h59 : t j1 = 59
        · rw [if_pos h59]
          simp only [mrun]
          rw [if_pos h59, hu, if_pos rfl]
        · rw [if_neg h59]
          rcases h4 with h4 | ⟨-, -, h4⟩
          · simp only [mrun]
            rw [hu, if_neg h59]
            split
            · rfl
            · rw [if_pos (by have h4 : rk (t j1) < 0 := h4; exact h4)]
          · exact (h4 n).symm
  · rw [if_neg h, if_neg h]
def pR (t v : Nat → Int) : Nat → RS
  | 0 => (0, some [])
  | n + 1 => rbd (pR t v n) (pPart t v n)
def pEx (t v : Nat → Int) : RS := rbd (pR t v 3) (fun j o => if t j = -1 then (j, some o) else (j, none))
/-- the text that the parts are -/
def pT (t v : Nat → Int) : Tx := (fun i => ((pR t v 3).2.getD []).getD i 0, fun part => ((((pR t v part).2.getD []).length : Nat) : Int))
theorem pPart_ok {t v : Nat → Int} (hT : ∀ j, 160 ≤ j → t j = -1) (hv : ∀ j, t j = 300 → 0 ≤ v j ∧ v j ≤ 9999) {part j j' : Nat} {o o' : List Int} (hj : o.length ≤ j) (h : pPart t v part j o = (j', some o')) : ∃ c, o' = o ++ c ∧ okl c 0 1 ∧ o'.length ≤ j' ∧ j' ≤ 160 := by
  unfold pPart at h
  by_cases q : t j = 256 + part
  · rw [if_pos q] at h
    have hj1 := adv_le hT (j := j) (by omega)
    have hle := gL_le (v := v) hT 5 0 (j + 1) o hj1
    cases hq : gL t v 5 0 (j + 1) o with
    | mk j1 x =>
      rw [hq] at h hle
      cases x with
      | none => simp [rbd] at h
      | some q1 =>
        simp only [rbd] at h
        have hle : j + 1 ≤ j1 ∧ j1 ≤ 160 := hle
        by_cases h59 : t j1 = 59
        · rw [if_pos h59] at h
          simp only [Prod.mk.injEq, Option.some.injEq] at h
          obtain ⟨rfl, rfl⟩ := h
          obtain ⟨c, rfl, h2, h3⟩ := gL_ok hv 5 0 (by decide) (by decide) _ _ _ _ hq
          have := adv_le hT (j := j1) (by omega)
          exact ⟨c, rfl, h3 0 (by decide), by rw [List.length_append]; omega, this⟩
        · rw [if_neg h59] at h; simp at h
  · rw [if_neg q] at h; simp at h
theorem pR_ok {t v : Nat → Int} (hT : ∀ j, 160 ≤ j → t j = -1) (hv : ∀ j, t j = 300 → 0 ≤ v j ∧ v j ≤ 9999) : ∀ (n j' : Nat) (o' : List Int), pR t v n = (j', some o') → o'.length ≤ j' ∧ j' ≤ 160 ∧ (∀ m, n = m + 1 → ∃ j1 o1 c, pR t v m = (j1, some o1) ∧ o' = o1 ++ c ∧ okl c 0 1)
  | 0, j', o', h => by
    simp only [pR, Prod.mk.injEq, Option.some.injEq] at h
    obtain ⟨rfl, rfl⟩ := h
    exact ⟨Nat.le_refl _, by decide, fun m e => by omega⟩
  | n + 1, j', o', h => by
    simp only [pR] at h
    cases hq : pR t v n with
    | mk j1 x =>
      rw [hq] at h
      cases x with
      | none => simp [rbd] at h
      | some o1 =>
        simp only [rbd] at h
        have h1 := pR_ok hT hv n j1 o1 hq
        obtain ⟨c, h2, h3, h4, h5⟩ := pPart_ok hT hv h1.1 h
        refine ⟨h4, h5, fun m e => ?_⟩
        obtain rfl : n = m := by omega
        exact ⟨j1, o1, c, hq, h2, h3⟩
theorem pT_ok {t v : Nat → Int} (hT : ∀ j, 160 ≤ j → t j = -1) (hv : ∀ j, t j = 300 → 0 ≤ v j ∧ v j ≤ 9999) {j : Nat} {o : List Int} (h : pEx t v = (j, some o)) : okT (pT t v) ∧ pR t v 3 = (j, some o) := by
  unfold pEx at h
  cases hq : pR t v 3 with
  | mk j3 x =>
    rw [hq] at h
    cases x with
    | none => simp [rbd] at h
    | some o3 =>
      simp only [rbd] at h
      by_cases he : t j3 = -1
      · rw [if_pos he] at h
        have h3 := pR_ok hT hv 3 j3 o3 hq
        obtain ⟨j2, o2, c3, q2, e3, k3⟩ := h3.2.2 2 rfl
        have h2 := pR_ok hT hv 2 j2 o2 q2
        obtain ⟨j1, o1, c2, q1, e2, k2⟩ := h2.2.2 1 rfl
        have h1 := pR_ok hT hv 1 j1 o1 q1
        obtain ⟨j0, o0, c1, q0, e1, k1⟩ := h1.2.2 0 rfl
        simp only [pR, Prod.mk.injEq, Option.some.injEq] at q0
        obtain ⟨rfl, rfl⟩ := q0
        have f0 : (pT t v).2 0 = 0 := rfl
        have f1 : (pT t v).2 1 = o1.length := by simp only [pT, q1, Option.getD_some]
        have f2 : (pT t v).2 2 = o2.length := by simp only [pT, q2, Option.getD_some]
        have f3 : (pT t v).2 3 = o3.length := by simp only [pT, hq, Option.getD_some]
        have g : ∀ i, (pT t v).1 i = o3.getD i 0 := fun i => by simp only [pT, hq, Option.getD_some]
        have l2 : o2.length = o1.length + c2.length := by rw [e2, List.length_append]
        have l3 : o3.length = o2.length + c3.length := by rw [e3, List.length_append]
        have l1 : o1.length = c1.length := by rw [e1]; simp
        refine ⟨⟨f0, by rw [f0, f1]; omega, by rw [f1, f2]; omega, by rw [f2, f3]; omega, by rw [f3]; omega, fun part hp => ?_⟩, h⟩
        rcases (by omega : part = 0 ∨ part = 1 ∨ part = 2) with rfl | rfl | rfl
        · rw [show (pT t v).2 (0 + 1) = o1.length from f1, f0, show ((o1.length : Int) - 0).toNat = c1.length by omega]
          refine okl_okc k1 (fun i hi => ?_)
          rw [g, e3, e2, e1]
          simp only [Int.toNat_zero, Nat.zero_add, List.nil_append, List.getD_eq_getElem?_getD]
          rw [List.getElem?_append_left (by rw [List.length_append]; omega), List.getElem?_append_left hi]
        · rw [show (pT t v).2 (1 + 1) = o2.length from f2, f1, show ((o2.length : Int) - o1.length).toNat = c2.length by omega]
          refine okl_okc k2 (fun i hi => ?_)
          rw [g, e3, e2, Int.toNat_natCast]
          simp only [List.getD_eq_getElem?_getD]
          rw [List.getElem?_append_left (by rw [List.length_append]; omega), List.getElem?_append_right (by omega), Nat.add_sub_cancel_left]
        · rw [show (pT t v).2 (2 + 1) = o3.length from f3, f2, show ((o3.length : Int) - o2.length).toNat = c3.length by omega]
          refine okl_okc k3 (fun i hi => ?_)
          rw [g, e3, Int.toNat_natCast]
          simp only [List.getD_eq_getElem?_getD]
          rw [List.getElem?_append_right (by omega), Nat.add_sub_cancel_left]
      · rw [if_neg he] at h; simp at h
/-! the tokens of a tape -/
def skp (tp : Nat → Int) (tn : Nat) : Nat → Nat → Nat
  | 0, a => a
  | f + 1, a => if a < tn ∧ (tp a = 32 ∨ tp a = 10) then skp tp tn f (a + 1) else a
def rnl (P : Int → Bool) (tp : Nat → Int) (tn : Nat) : Nat → Nat → Nat
  | 0, a => a
  | f + 1, a => if a < tn ∧ P (tp a) = true then rnl P tp tn f (a + 1) else a
def isL (c : Int) : Bool := decide (97 ≤ c ∧ c ≤ 122)
def isD (c : Int) : Bool := decide (48 ≤ c ∧ c ≤ 57)
def isS (c : Int) : Bool := decide (c = 40 ∨ c = 41 ∨ c = 59 ∨ c = 43 ∨ c = 45 ∨ c = 42 ∨ c = 60 ∨ c = 61)
def nvl (tp : Nat → Int) (b : Nat) : Nat → Int
  | 0 => 0
  | c + 1 => w32 (10 * nvl tp b c + tp (b + c) - 48)
def wl : List (List Int) := [[116, 114, 105, 101, 115], [112, 97, 121, 115], [103, 111, 101, 115], [111, 114], [97, 110, 100], [110, 111, 116], [100, 111, 111, 114], [101, 103, 103, 115], [109, 105, 110, 117, 116, 101], [116, 114, 105, 101, 100], [99, 97, 109, 101], [109, 111, 114, 101]]
/-- whether word i stands from b to e -/
def spl (tp : Nat → Int) (b e i : Nat) : Bool := decide (e = b + (wl.getD i []).length) && (List.range (wl.getD i []).length).all (fun c => decide (tp (b + c) = (wl.getD i []).getD c 0))
def wdc (tp : Nat → Int) (b e : Nat) : Int := if spl tp b e 0 = true then 256 else if spl tp b e 1 = true then 257 else if spl tp b e 2 = true then 258 else if spl tp b e 3 = true then 259 else if spl tp b e 4 = true then 260 else if spl tp b e 5 = true then 261 else if spl tp b e 6 = true then 262 else if spl tp b e 7 = true then 263 else if spl tp b e 8 = true then 264 else if spl tp b e 9 = true then 265 else if spl tp b e 10 = true then 266 else if spl tp b e 11 = true then 267 else -2
def lxP (tp : Nat → Int) (tn a : Nat) : Nat := skp tp tn (tn - a) a
def rnE (P : Int → Bool) (tp : Nat → Int) (tn b : Nat) : Nat := rnl P tp tn (tn - b) b
def lxT (tp : Nat → Int) (tn a : Nat) : Int := if tn ≤ lxP tp tn a then -1 else if isL (tp (lxP tp tn a)) = true then wdc tp (lxP tp tn a) (rnE isL tp tn (lxP tp tn a)) else if isD (tp (lxP tp tn a)) = true then (if rnE isD tp tn (lxP tp tn a) ≤ lxP tp tn a + 4 then 300 else -2) else if isS (tp (lxP tp tn a)) = true then tp (lxP tp tn a) else -2
def lxV (tp : Nat → Int) (tn a : Nat) : Int := nvl tp (lxP tp tn a) (rnE isD tp tn (lxP tp tn a) - lxP tp tn a)
def lxN (tp : Nat → Int) (tn a : Nat) : Nat := if tn ≤ lxP tp tn a then lxP tp tn a else if isL (tp (lxP tp tn a)) = true then rnE isL tp tn (lxP tp tn a) else if isD (tp (lxP tp tn a)) = true then rnE isD tp tn (lxP tp tn a) else lxP tp tn a + 1
def ps (tp : Nat → Int) (tn : Nat) : Nat → Nat
  | 0 => 0
  | i + 1 => lxN tp tn (ps tp tn i)
def tk (tp : Nat → Int) (tn i : Nat) : Int := lxT tp tn (ps tp tn i)
def vl (tp : Nat → Int) (tn i : Nat) : Int := lxV tp tn (ps tp tn i)
def pl (tp : Nat → Int) (tn i : Nat) : Nat := lxP tp tn (ps tp tn i)
theorem skp_in {tp : Nat → Int} {tn : Nat} : ∀ f a, a ≤ tn → a ≤ skp tp tn f a ∧ skp tp tn f a ≤ tn
  | 0, a, h => ⟨Nat.le_refl _, h⟩
  | f + 1, a, h => by
    simp only [skp]
    split
    · have := skp_in (tp := tp) (tn := tn) f (a + 1) (by omega)
      omega
    · omega
theorem rnl_in {P : Int → Bool} {tp : Nat → Int} {tn : Nat} : ∀ f a, a ≤ tn → a ≤ rnl P tp tn f a ∧ rnl P tp tn f a ≤ tn
  | 0, a, h => ⟨Nat.le_refl _, h⟩
  | f + 1, a, h => by
    simp only [rnl]
    split
    · have := rnl_in (P := P) (tp := tp) (tn := tn) f (a + 1) (by omega)
      omega
    · omega
theorem rnl_run {P : Int → Bool} {tp : Nat → Int} {tn : Nat} : ∀ f a c, a ≤ c → c < rnl P tp tn f a → P (tp c) = true
  | 0, a, c, h1, h2 => by simp only [rnl] at h2; omega
  | f + 1, a, c, h1, h2 => by
    simp only [rnl] at h2
    split at h2
    · rename_i h
      by_cases q : c = a
      · rw [q]; exact h.2
      · exact rnl_run f (a + 1) c (by omega) h2
    · omega
theorem rnE_in {P : Int → Bool} {tp : Nat → Int} {tn b : Nat} (h : b < tn) (hP : P (tp b) = true) : b < rnE P tp tn b ∧ rnE P tp tn b ≤ tn := by
  unfold rnE
  obtain ⟨f, hf⟩ : ∃ f, tn - b = f + 1 := ⟨tn - b - 1, by omega⟩
  rw [hf]
  simp only [rnl]
  rw [if_pos ⟨h, hP⟩]
  have := rnl_in (P := P) (tp := tp) (tn := tn) f (b + 1) (by omega)
  omega
theorem lxP_in {tp : Nat → Int} {tn a : Nat} (h : a ≤ tn) : a ≤ lxP tp tn a ∧ lxP tp tn a ≤ tn := skp_in _ a h
theorem lxN_in {tp : Nat → Int} {tn a : Nat} (h : a ≤ tn) : lxP tp tn a ≤ lxN tp tn a ∧ lxN tp tn a ≤ tn ∧ (lxP tp tn a < tn → lxP tp tn a < lxN tp tn a) := by
  have h1 := lxP_in (tp := tp) h
  unfold lxN
  split
  · omega
  · split
    · rename_i h2 h3
      have := rnE_in (P := isL) (show lxP tp tn a < tn by omega) h3
      omega
    · split
      · rename_i h2 h3 h4
        have := rnE_in (P := isD) (show lxP tp tn a < tn by omega) h4
        omega
      · omega
theorem ps_in {tp : Nat → Int} {tn : Nat} : ∀ i, ps tp tn i ≤ tn
  | 0 => Nat.zero_le _
  | i + 1 => (lxN_in (ps_in i)).2.1
theorem pl_in {tp : Nat → Int} {tn : Nat} (i : Nat) : ps tp tn i ≤ pl tp tn i ∧ pl tp tn i ≤ tn := lxP_in (ps_in i)
theorem lxT_end {tp : Nat → Int} {tn a : Nat} (h : lxT tp tn a ≠ -1) : lxP tp tn a < tn := by
  unfold lxT at h
  split at h
  · exact absurd rfl h
  · omega
theorem tk_ge {tp : Nat → Int} {tn : Nat} : ∀ i, tk tp tn i ≠ -1 → i ≤ ps tp tn i ∧ pl tp tn i < tn
  | 0, h => ⟨Nat.zero_le _, lxT_end h⟩
  | i + 1, h => by
    have h1 : pl tp tn (i + 1) < tn := lxT_end h
    have h2 := pl_in (tp := tp) (tn := tn) (i + 1)
    have h3 := pl_in (tp := tp) (tn := tn) i
    have h4 := lxN_in (tp := tp) (ps_in (tp := tp) (tn := tn) i)
    have e : ps tp tn (i + 1) = lxN tp tn (ps tp tn i) := rfl
    have e2 : pl tp tn i = lxP tp tn (ps tp tn i) := rfl
    have h5 : tk tp tn i ≠ -1 := by
      intro w
      have : tn ≤ lxP tp tn (ps tp tn i) := by
        rcases Nat.lt_or_ge (lxP tp tn (ps tp tn i)) tn with q | q
        · exfalso
          unfold tk lxT at w
          rw [if_neg (by omega)] at w
          split at w
          · unfold wdc at w
            (repeat' split at w) <;> omega
          · split at w
            · split at w <;> omega
            · split at w
              · rename_i h9
                unfold isS at h9
                rw [decide_eq_true_eq] at h9
                omega
              · omega
        · exact q
      omega
    have h6 := tk_ge i h5
    refine ⟨?_, h1⟩
    have := h4.2.2 (by omega)
    omega
theorem tk_end {tp : Nat → Int} {tn : Nat} (h : tn ≤ 160) : ∀ j, 160 ≤ j → tk tp tn j = -1 := fun j hj => by
  by_cases q : tk tp tn j = -1
  · exact q
  · have := tk_ge j q
    have := pl_in (tp := tp) (tn := tn) j
    omega
theorem nvl_in {tp : Nat → Int} {b : Nat} : ∀ c, c ≤ 4 → (∀ i, i < c → 48 ≤ tp (b + i) ∧ tp (b + i) ≤ 57) → 0 ≤ nvl tp b c ∧ nvl tp b c < 10 ^ c
  | 0, _, _ => by show (0 : Int) ≤ 0 ∧ (0 : Int) < 10 ^ 0; decide
  | c + 1, h, hd => by
    have h1 := nvl_in (tp := tp) (b := b) c (by omega) (fun i hi => hd i (by omega))
    have h2 := hd c (by omega)
    have h3 : (10 : Int) ^ (c + 1) = 10 * 10 ^ c := by rw [Int.pow_succ]; omega
    have h4 : (10 : Int) ^ c ≤ 1000 := by
      rcases (by omega : c = 0 ∨ c = 1 ∨ c = 2 ∨ c = 3) with rfl | rfl | rfl | rfl <;> decide
    simp only [nvl]
    rw [w32_id (by omega)]
    omega
theorem vl_in {tp : Nat → Int} {tn : Nat} (j : Nat) (h : tk tp tn j = 300) : 0 ≤ vl tp tn j ∧ vl tp tn j ≤ 9999 := by
  unfold tk lxT at h
  split at h
  · omega
  · rename_i h0
    split at h
    · unfold wdc at h
      (repeat' split at h) <;> omega
    · split at h
      · rename_i h1 h2
        split at h
        · rename_i h3
          have hr := rnE_in (P := isD) (show lxP tp tn (ps tp tn j) < tn by omega) h2
          have hd : ∀ i, i < rnE isD tp tn (lxP tp tn (ps tp tn j)) - lxP tp tn (ps tp tn j) → 48 ≤ tp (lxP tp tn (ps tp tn j) + i) ∧ tp (lxP tp tn (ps tp tn j) + i) ≤ 57 := fun i hi => by
            have := rnl_run (P := isD) (tp := tp) (tn := tn) _ _ (lxP tp tn (ps tp tn j) + i) (Nat.le_add_right _ _) (show _ < rnE isD tp tn (lxP tp tn (ps tp tn j)) by omega)
            unfold isD at this
            rw [decide_eq_true_eq] at this
            exact this
          have := nvl_in (tp := tp) _ (show rnE isD tp tn (lxP tp tn (ps tp tn j)) - lxP tp tn (ps tp tn j) ≤ 4 by omega) hd
          have h4 : (10 : Int) ^ (rnE isD tp tn (lxP tp tn (ps tp tn j)) - lxP tp tn (ps tp tn j)) ≤ 10000 := by
            rcases (by omega : rnE isD tp tn (lxP tp tn (ps tp tn j)) - lxP tp tn (ps tp tn j) = 1 ∨ rnE isD tp tn (lxP tp tn (ps tp tn j)) - lxP tp tn (ps tp tn j) = 2 ∨ rnE isD tp tn (lxP tp tn (ps tp tn j)) - lxP tp tn (ps tp tn j) = 3 ∨ rnE isD tp tn (lxP tp tn (ps tp tn j)) - lxP tp tn (ps tp tn j) = 4) with q | q | q | q <;> rw [q] <;> decide
          unfold vl lxV
          omega
        · omega
      · split at h
        · rename_i h9
          unfold isS at h9
          rw [decide_eq_true_eq] at h9
          omega
        · omega
/-- the answer and the state behind text() -/
def a_text (S : SS) : Int := match S with
  | (nT, _, _, _, _, tn, tp, _) => if nT = 6 then -4 else match pEx (tk tp tn) (vl tp tn) with
    | (j, none) => -100 - (pl tp tn j : Int)
    | (_, some _) => (nT : Int)
def upX (X : Nat → Tx) (n : Nat) (T : Tx) : Nat → Tx := fun t => if t = n then T else X t
def t_text (S : SS) : SS := match S with
  | (nT, X, τ, img, τi, tn, tp, r) => if nT = 6 then (nT, X, τ, img, τi, tn, tp, r) else match pEx (tk tp tn) (vl tp tn) with
    | (_, none) => (nT, X, τ, img, τi, 0, tp, r)
    | (_, some _) => (nT + 1, upX X nT (pT (tk tp tn) (vl tp tn)), τ, img, τi, 0, tp, r)

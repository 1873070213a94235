/-! the tape in the class's memory, as tokens are read -/
def FT (M M2 : Mem) : Prop := ∀ c i, ¬ (c = 3 ∧ 2 ≤ i) → M2 c i = M c i
theorem FT.refl {M : Mem} : FT M M := fun _ _ _ => rfl
theorem FT.trans {M M2 M3 : Mem} (h : FT M M2) (h2 : FT M2 M3) : FT M M3 := fun c i hc => (h2 c i hc).trans (h c i hc)
theorem FT.up {M M2 : Mem} {i : Nat} {v : Int} (h : FT M M2) (hi : 2 ≤ i) : FT M (upM M2 3 i v) := fun c j hc => by
  rw [upM_ne (by
    by_cases e : c = 3
    · exact Or.inr (fun e2 => hc ⟨e, by omega⟩)
    · exact Or.inl e)]
  exact h c j hc
/-- the tape's bytes -/
def LT (M : Mem) (tp : Nat → Int) (tn : Nat) : Prop := (tn ≤ 160 ∧ ∀ i, i < tn → 0 ≤ tp i ∧ tp i ≤ 255) ∧ M 3 1 = tn ∧ ∀ i, i < tn → M 4 i = tp i
theorem LT.ft {M M2 : Mem} {tp : Nat → Int} {tn : Nat} (h : LT M tp tn) (hF : FT M M2) : LT M2 tp tn :=
  ⟨h.1, (hF 3 1 (by omega)).trans h.2.1, fun i hi => (hF 4 i (by omega)).trans (h.2.2 i hi)⟩
theorem s_wl : ∀ j, j < 12 → s_len.getD j 0 = (wl.getD j []).length ∧ ∀ i, i < s_len.getD j 0 → s_ch j i = (wl.getD j []).getD i 0 := by decide +kernel
theorem spl_yes {tp : Nat → Int} {b e j : Nat} (h1 : e = b + (wl.getD j []).length) (h2 : ∀ c, c < (wl.getD j []).length → tp (b + c) = (wl.getD j []).getD c 0) : spl tp b e j = true := by
  unfold spl
  rw [Bool.and_eq_true, decide_eq_true_eq, List.all_eq_true]
  exact ⟨h1, fun c hc => decide_eq_true (h2 c (List.mem_range.mp hc))⟩
theorem spl_no1 {tp : Nat → Int} {b e j : Nat} (h1 : ¬ e = b + (wl.getD j []).length) : spl tp b e j = false := by
  unfold spl
  rw [decide_eq_false h1, Bool.false_and]
theorem spl_no2 {tp : Nat → Int} {b e j c : Nat} (hc : c < (wl.getD j []).length) (h : ¬ tp (b + c) = (wl.getD j []).getD c 0) : spl tp b e j = false := by
  unfold spl
  rw [Bool.and_eq_false_iff]
  right
  rw [List.all_eq_false]
  exact ⟨c, List.mem_range.mpr hc, by rw [decide_eq_true_eq]; exact h⟩
theorem rnl_go {P : Int → Bool} {tp : Nat → Int} {tn i : Nat} (h : i < tn) (hP : P (tp i) = true) : rnl P tp tn (tn - i) i = rnl P tp tn (tn - (i + 1)) (i + 1) := by
  obtain ⟨f, hf⟩ : ∃ f, tn - i = f + 1 := ⟨tn - i - 1, by omega⟩
  rw [hf, show tn - (i + 1) = f by omega]
  simp only [rnl]
  rw [if_pos ⟨h, hP⟩]
theorem rnl_no {P : Int → Bool} {tp : Nat → Int} {tn i f : Nat} (h : ¬ (i < tn ∧ P (tp i) = true)) : rnl P tp tn f i = i := by
  cases f with
  | zero => rfl
  | succ f => simp only [rnl]; rw [if_neg h]
theorem skp_go {tp : Nat → Int} {tn i : Nat} (h : i < tn) (hP : tp i = 32 ∨ tp i = 10) : skp tp tn (tn - i) i = skp tp tn (tn - (i + 1)) (i + 1) := by
  obtain ⟨f, hf⟩ : ∃ f, tn - i = f + 1 := ⟨tn - i - 1, by omega⟩
  rw [hf, show tn - (i + 1) = f by omega]
  simp only [skp]
  rw [if_pos ⟨h, hP⟩]
theorem skp_no {tp : Nat → Int} {tn i f : Nat} (h : ¬ (i < tn ∧ (tp i = 32 ∨ tp i = 10))) : skp tp tn f i = i := by
  cases f with
  | zero => rfl
  | succ f => simp only [skp]; rw [if_neg h]
theorem nvl_ib (tp : Nat → Int) (b : Nat) : ∀ c, ib (nvl tp b c)
  | 0 => by show ib 0; omega
  | c + 1 => w32_ib _
theorem wdc_in (tp : Nat → Int) (b e : Nat) : wdc tp b e = -2 ∨ (256 ≤ wdc tp b e ∧ wdc tp b e ≤ 267) := by
  unfold wdc
  (repeat' split) <;> omega
theorem lxT_in {tp : Nat → Int} {tn a : Nat} : -2 ≤ lxT tp tn a ∧ lxT tp tn a ≤ 300 := by
  have := wdc_in tp (lxP tp tn a) (rnE isL tp tn (lxP tp tn a))
  unfold lxT
  split
  · omega
  · split
    · omega
    · split
      · split <;> omega
      · split
        · rename_i h
          unfold isS at h
          rw [decide_eq_true_eq] at h
          omega
        · omega

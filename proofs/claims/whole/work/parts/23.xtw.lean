/-! towns in the class's memory -/
def scr (c : Nat) : Bool := c == 15 || c == 25 || c == 35 || c == 39 || c == 43 || c == 47 || c == 51 || c == 55 || c == 59
def tb (b : Nat) : Prop := b = 6 ∨ b = 16 ∨ b = 26
def twb (b c : Nat) : Bool := decide (b ≤ c ∧ c ≤ b + 8)
def scb (b c : Nat) : Bool := scr c || twb b c
theorem tb_lt {b : Nat} (h : tb b) : 6 ≤ b ∧ b ≤ 26 := by unfold tb at h; omega
theorem scr_tb {b c : Nat} (hb : tb b) (h1 : b ≤ c) (h2 : c ≤ b + 8) : scr c = false := by
  unfold tb at hb
  simp only [scr, Bool.or_eq_false_iff, beq_eq_false_iff_ne]
  omega
theorem twb_in {b c : Nat} (h1 : b ≤ c) (h2 : c ≤ b + 8) : twb b c = true := decide_eq_true ⟨h1, h2⟩
theorem twb_out {b c : Nat} (h : c < b ∨ b + 8 < c) : twb b c = false := decide_eq_false (by omega)
theorem scb_in {b c : Nat} (h1 : b ≤ c) (h2 : c ≤ b + 8) : scb b c = true := by unfold scb; rw [twb_in h1 h2]; exact Bool.or_true _
theorem scb_scr {b c : Nat} (h : scb b c = false) : scr c = false := by
  unfold scb at h
  exact (Bool.or_eq_false_iff.mp h).1
theorem gT {b : Nat} (h : tb b) : GX[b]? = some (.inl (4, [some 1, some (b + 1), some (b + 2), some (b + 3), some (b + 4), some (b + 5), some (b + 6), some (b + 7), some (b + 8), some (b + 9), none, none, none])) := by
  rcases h with rfl | rfl | rfl <;> rfl
theorem gA1 {b : Nat} (h : tb b) : GX[b + 1]? = some (.inr (.inl 8)) := by
  rcases h with rfl | rfl | rfl <;> rfl
theorem gA2 {b : Nat} (h : tb b) : GX[b + 2]? = some (.inr (.inl 8)) := by
  rcases h with rfl | rfl | rfl <;> rfl
theorem gA3 {b : Nat} (h : tb b) : GX[b + 3]? = some (.inr (.inl 8)) := by
  rcases h with rfl | rfl | rfl <;> rfl
theorem gA4 {b : Nat} (h : tb b) : GX[b + 4]? = some (.inr (.inl 6)) := by
  rcases h with rfl | rfl | rfl <;> rfl
theorem gA5 {b : Nat} (h : tb b) : GX[b + 5]? = some (.inr (.inl 6)) := by
  rcases h with rfl | rfl | rfl <;> rfl
theorem gA6 {b : Nat} (h : tb b) : GX[b + 6]? = some (.inr (.inl 6)) := by
  rcases h with rfl | rfl | rfl <;> rfl
theorem gA7 {b : Nat} (h : tb b) : GX[b + 7]? = some (.inr (.inl 6)) := by
  rcases h with rfl | rfl | rfl <;> rfl
theorem gA8 {b : Nat} (h : tb b) : GX[b + 8]? = some (.inr (.inl 6)) := by
  rcases h with rfl | rfl | rfl <;> rfl
theorem gA9 {b : Nat} (h : tb b) : GX[b + 9]? = some (.inr (.inl 6)) := by
  rcases h with rfl | rfl | rfl <;> rfl
def TW (M : Mem) (b : Nat) (τ : Tn) : Prop := (∀ d, d < 8 → M (b + 1) d = τ 0 d) ∧ (∀ d, d < 8 → M (b + 2) d = τ 1 d) ∧ (∀ d, d < 8 → M (b + 3) d = τ 2 d) ∧ (∀ p, p < 6 → M (b + 4) p = τ 3 p) ∧ (∀ p, p < 6 → M (b + 5) p = τ 4 p) ∧ (∀ p, p < 6 → M (b + 6) p = τ 5 p) ∧ (∀ p, p < 6 → M (b + 7) p = τ 6 p) ∧ (∀ p, p < 6 → M (b + 8) p = τ 7 p) ∧ M b 10 = τ 8 0 ∧ M b 11 = τ 8 1 ∧ M b 12 = τ 8 2
theorem TW.e0 {M : Mem} {b i : Nat} {τ : Tn} (h : TW M b τ) (hi : i < 8) : M (b + 1) i = τ 0 i := h.1 i hi
theorem TW.e1 {M : Mem} {b i : Nat} {τ : Tn} (h : TW M b τ) (hi : i < 8) : M (b + 2) i = τ 1 i := h.2.1 i hi
theorem TW.e2 {M : Mem} {b i : Nat} {τ : Tn} (h : TW M b τ) (hi : i < 8) : M (b + 3) i = τ 2 i := h.2.2.1 i hi
theorem TW.e3 {M : Mem} {b i : Nat} {τ : Tn} (h : TW M b τ) (hi : i < 6) : M (b + 4) i = τ 3 i := h.2.2.2.1 i hi
theorem TW.e4 {M : Mem} {b i : Nat} {τ : Tn} (h : TW M b τ) (hi : i < 6) : M (b + 5) i = τ 4 i := h.2.2.2.2.1 i hi
theorem TW.e5 {M : Mem} {b i : Nat} {τ : Tn} (h : TW M b τ) (hi : i < 6) : M (b + 6) i = τ 5 i := h.2.2.2.2.2.1 i hi
theorem TW.e6 {M : Mem} {b i : Nat} {τ : Tn} (h : TW M b τ) (hi : i < 6) : M (b + 7) i = τ 6 i := h.2.2.2.2.2.2.1 i hi
theorem TW.e7 {M : Mem} {b i : Nat} {τ : Tn} (h : TW M b τ) (hi : i < 6) : M (b + 8) i = τ 7 i := h.2.2.2.2.2.2.2.1 i hi
theorem TW.people {M : Mem} {b : Nat} {τ : Tn} (h : TW M b τ) : M b 10 = τ 8 0 := h.2.2.2.2.2.2.2.2.1
theorem TW.clock {M : Mem} {b : Nat} {τ : Tn} (h : TW M b τ) : M b 11 = τ 8 1 := h.2.2.2.2.2.2.2.2.2.1
theorem TW.law {M : Mem} {b : Nat} {τ : Tn} (h : TW M b τ) : M b 12 = τ 8 2 := h.2.2.2.2.2.2.2.2.2.2
theorem TW.fr {P : Nat → Bool} {M M2 : Mem} {b : Nat} {τ : Tn} (h : TW M b τ) (hF : Fr P M M2) (hP : ∀ c, b ≤ c → c ≤ b + 8 → P c = false) : TW M2 b τ :=
  ⟨fun i hi => (hF _ _ (hP _ (by omega) (by omega))).trans (h.e0 hi), fun i hi => (hF _ _ (hP _ (by omega) (by omega))).trans (h.e1 hi), fun i hi => (hF _ _ (hP _ (by omega) (by omega))).trans (h.e2 hi), fun i hi => (hF _ _ (hP _ (by omega) (by omega))).trans (h.e3 hi), fun i hi => (hF _ _ (hP _ (by omega) (by omega))).trans (h.e4 hi), fun i hi => (hF _ _ (hP _ (by omega) (by omega))).trans (h.e5 hi), fun i hi => (hF _ _ (hP _ (by omega) (by omega))).trans (h.e6 hi), fun i hi => (hF _ _ (hP _ (by omega) (by omega))).trans (h.e7 hi), (hF _ _ (hP _ (by omega) (by omega))).trans h.people, (hF _ _ (hP _ (by omega) (by omega))).trans h.clock, (hF _ _ (hP _ (by omega) (by omega))).trans h.law⟩
theorem TW.scr {M M2 : Mem} {b : Nat} {τ : Tn} (hb : tb b) (h : TW M b τ) (hF : Fr scr M M2) : TW M2 b τ := h.fr hF (fun c h1 h2 => scr_tb hb h1 h2)
theorem up_st {M : Mem} {q f i j : Nat} {τ : Tn} {v : Int} (h : M q j = τ f j) : upM M q i v q j = st τ f i v f j := by
  by_cases hji : j = i
  · subst hji; rw [upM_self, st_self]
  · rw [upM_ne (Or.inr hji), st_ne (Or.inr hji)]; exact h
theorem up_sn {M : Mem} {q q2 f f2 i j j2 : Nat} {τ : Tn} {v : Int} (h : M q2 j = τ f2 j2) (h1 : q2 ≠ q) (h2 : f2 ≠ f) : upM M q i v q2 j = st τ f i v f2 j2 := by
  rw [upM_ne (Or.inl h1), st_ne (Or.inl h2)]; exact h
theorem TW.up0 {M : Mem} {b i : Nat} {τ : Tn} {v : Int} (h : TW M b τ) : TW (upM M (b + 1) i v) b (st τ 0 i v) := ⟨fun _ hj => up_st (h.e0 hj), fun _ hj => up_sn (q := b + 1) (q2 := b + 2) (f := 0) (f2 := 1) (h.e1 hj) (by omega) (by decide), fun _ hj => up_sn (q := b + 1) (q2 := b + 3) (f := 0) (f2 := 2) (h.e2 hj) (by omega) (by decide), fun _ hj => up_sn (q := b + 1) (q2 := b + 4) (f := 0) (f2 := 3) (h.e3 hj) (by omega) (by decide), fun _ hj => up_sn (q := b + 1) (q2 := b + 5) (f := 0) (f2 := 4) (h.e4 hj) (by omega) (by decide), fun _ hj => up_sn (q := b + 1) (q2 := b + 6) (f := 0) (f2 := 5) (h.e5 hj) (by omega) (by decide), fun _ hj => up_sn (q := b + 1) (q2 := b + 7) (f := 0) (f2 := 6) (h.e6 hj) (by omega) (by decide), fun _ hj => up_sn (q := b + 1) (q2 := b + 8) (f := 0) (f2 := 7) (h.e7 hj) (by omega) (by decide), up_sn (q := b + 1) (q2 := b) (f := 0) (f2 := 8) h.people (by omega) (by decide), up_sn (q := b + 1) (q2 := b) (f := 0) (f2 := 8) h.clock (by omega) (by decide), up_sn (q := b + 1) (q2 := b) (f := 0) (f2 := 8) h.law (by omega) (by decide)⟩
theorem TW.up1 {M : Mem} {b i : Nat} {τ : Tn} {v : Int} (h : TW M b τ) : TW (upM M (b + 2) i v) b (st τ 1 i v) := ⟨fun _ hj => up_sn (q := b + 2) (q2 := b + 1) (f := 1) (f2 := 0) (h.e0 hj) (by omega) (by decide), fun _ hj => up_st (h.e1 hj), fun _ hj => up_sn (q := b + 2) (q2 := b + 3) (f := 1) (f2 := 2) (h.e2 hj) (by omega) (by decide), fun _ hj => up_sn (q := b + 2) (q2 := b + 4) (f := 1) (f2 := 3) (h.e3 hj) (by omega) (by decide), fun _ hj => up_sn (q := b + 2) (q2 := b + 5) (f := 1) (f2 := 4) (h.e4 hj) (by omega) (by decide), fun _ hj => up_sn (q := b + 2) (q2 := b + 6) (f := 1) (f2 := 5) (h.e5 hj) (by omega) (by decide), fun _ hj => up_sn (q := b + 2) (q2 := b + 7) (f := 1) (f2 := 6) (h.e6 hj) (by omega) (by decide), fun _ hj => up_sn (q := b + 2) (q2 := b + 8) (f := 1) (f2 := 7) (h.e7 hj) (by omega) (by decide), up_sn (q := b + 2) (q2 := b) (f := 1) (f2 := 8) h.people (by omega) (by decide), up_sn (q := b + 2) (q2 := b) (f := 1) (f2 := 8) h.clock (by omega) (by decide), up_sn (q := b + 2) (q2 := b) (f := 1) (f2 := 8) h.law (by omega) (by decide)⟩
theorem TW.up2 {M : Mem} {b i : Nat} {τ : Tn} {v : Int} (h : TW M b τ) : TW (upM M (b + 3) i v) b (st τ 2 i v) := ⟨fun _ hj => up_sn (q := b + 3) (q2 := b + 1) (f := 2) (f2 := 0) (h.e0 hj) (by omega) (by decide), fun _ hj => up_sn (q := b + 3) (q2 := b + 2) (f := 2) (f2 := 1) (h.e1 hj) (by omega) (by decide), fun _ hj => up_st (h.e2 hj), fun _ hj => up_sn (q := b + 3) (q2 := b + 4) (f := 2) (f2 := 3) (h.e3 hj) (by omega) (by decide), fun _ hj => up_sn (q := b + 3) (q2 := b + 5) (f := 2) (f2 := 4) (h.e4 hj) (by omega) (by decide), fun _ hj => up_sn (q := b + 3) (q2 := b + 6) (f := 2) (f2 := 5) (h.e5 hj) (by omega) (by decide), fun _ hj => up_sn (q := b + 3) (q2 := b + 7) (f := 2) (f2 := 6) (h.e6 hj) (by omega) (by decide), fun _ hj => up_sn (q := b + 3) (q2 := b + 8) (f := 2) (f2 := 7) (h.e7 hj) (by omega) (by decide), up_sn (q := b + 3) (q2 := b) (f := 2) (f2 := 8) h.people (by omega) (by decide), up_sn (q := b + 3) (q2 := b) (f := 2) (f2 := 8) h.clock (by omega) (by decide), up_sn (q := b + 3) (q2 := b) (f := 2) (f2 := 8) h.law (by omega) (by decide)⟩
theorem TW.up3 {M : Mem} {b i : Nat} {τ : Tn} {v : Int} (h : TW M b τ) : TW (upM M (b + 4) i v) b (st τ 3 i v) := ⟨fun _ hj => up_sn (q := b + 4) (q2 := b + 1) (f := 3) (f2 := 0) (h.e0 hj) (by omega) (by decide), fun _ hj => up_sn (q := b + 4) (q2 := b + 2) (f := 3) (f2 := 1) (h.e1 hj) (by omega) (by decide), fun _ hj => up_sn (q := b + 4) (q2 := b + 3) (f := 3) (f2 := 2) (h.e2 hj) (by omega) (by decide), fun _ hj => up_st (h.e3 hj), fun _ hj => up_sn (q := b + 4) (q2 := b + 5) (f := 3) (f2 := 4) (h.e4 hj) (by omega) (by decide), fun _ hj => up_sn (q := b + 4) (q2 := b + 6) (f := 3) (f2 := 5) (h.e5 hj) (by omega) (by decide), fun _ hj => up_sn (q := b + 4) (q2 := b + 7) (f := 3) (f2 := 6) (h.e6 hj) (by omega) (by decide), fun _ hj => up_sn (q := b + 4) (q2 := b + 8) (f := 3) (f2 := 7) (h.e7 hj) (by omega) (by decide), up_sn (q := b + 4) (q2 := b) (f := 3) (f2 := 8) h.people (by omega) (by decide), up_sn (q := b + 4) (q2 := b) (f := 3) (f2 := 8) h.clock (by omega) (by decide), up_sn (q := b + 4) (q2 := b) (f := 3) (f2 := 8) h.law (by omega) (by decide)⟩
theorem TW.up4 {M : Mem} {b i : Nat} {τ : Tn} {v : Int} (h : TW M b τ) : TW (upM M (b + 5) i v) b (st τ 4 i v) := ⟨fun _ hj => up_sn (q := b + 5) (q2 := b + 1) (f := 4) (f2 := 0) (h.e0 hj) (by omega) (by decide), fun _ hj => up_sn (q := b + 5) (q2 := b + 2) (f := 4) (f2 := 1) (h.e1 hj) (by omega) (by decide), fun _ hj => up_sn (q := b + 5) (q2 := b + 3) (f := 4) (f2 := 2) (h.e2 hj) (by omega) (by decide), fun _ hj => up_sn (q := b + 5) (q2 := b + 4) (f := 4) (f2 := 3) (h.e3 hj) (by omega) (by decide), fun _ hj => up_st (h.e4 hj), fun _ hj => up_sn (q := b + 5) (q2 := b + 6) (f := 4) (f2 := 5) (h.e5 hj) (by omega) (by decide), fun _ hj => up_sn (q := b + 5) (q2 := b + 7) (f := 4) (f2 := 6) (h.e6 hj) (by omega) (by decide), fun _ hj => up_sn (q := b + 5) (q2 := b + 8) (f := 4) (f2 := 7) (h.e7 hj) (by omega) (by decide), up_sn (q := b + 5) (q2 := b) (f := 4) (f2 := 8) h.people (by omega) (by decide), up_sn (q := b + 5) (q2 := b) (f := 4) (f2 := 8) h.clock (by omega) (by decide), up_sn (q := b + 5) (q2 := b) (f := 4) (f2 := 8) h.law (by omega) (by decide)⟩
theorem TW.up5 {M : Mem} {b i : Nat} {τ : Tn} {v : Int} (h : TW M b τ) : TW (upM M (b + 6) i v) b (st τ 5 i v) := ⟨fun _ hj => up_sn (q := b + 6) (q2 := b + 1) (f := 5) (f2 := 0) (h.e0 hj) (by omega) (by decide), fun _ hj => up_sn (q := b + 6) (q2 := b + 2) (f := 5) (f2 := 1) (h.e1 hj) (by omega) (by decide), fun _ hj => up_sn (q := b + 6) (q2 := b + 3) (f := 5) (f2 := 2) (h.e2 hj) (by omega) (by decide), fun _ hj => up_sn (q := b + 6) (q2 := b + 4) (f := 5) (f2 := 3) (h.e3 hj) (by omega) (by decide), fun _ hj => up_sn (q := b + 6) (q2 := b + 5) (f := 5) (f2 := 4) (h.e4 hj) (by omega) (by decide), fun _ hj => up_st (h.e5 hj), fun _ hj => up_sn (q := b + 6) (q2 := b + 7) (f := 5) (f2 := 6) (h.e6 hj) (by omega) (by decide), fun _ hj => up_sn (q := b + 6) (q2 := b + 8) (f := 5) (f2 := 7) (h.e7 hj) (by omega) (by decide), up_sn (q := b + 6) (q2 := b) (f := 5) (f2 := 8) h.people (by omega) (by decide), up_sn (q := b + 6) (q2 := b) (f := 5) (f2 := 8) h.clock (by omega) (by decide), up_sn (q := b + 6) (q2 := b) (f := 5) (f2 := 8) h.law (by omega) (by decide)⟩
theorem TW.up6 {M : Mem} {b i : Nat} {τ : Tn} {v : Int} (h : TW M b τ) : TW (upM M (b + 7) i v) b (st τ 6 i v) := ⟨fun _ hj => up_sn (q := b + 7) (q2 := b + 1) (f := 6) (f2 := 0) (h.e0 hj) (by omega) (by decide), fun _ hj => up_sn (q := b + 7) (q2 := b + 2) (f := 6) (f2 := 1) (h.e1 hj) (by omega) (by decide), fun _ hj => up_sn (q := b + 7) (q2 := b + 3) (f := 6) (f2 := 2) (h.e2 hj) (by omega) (by decide), fun _ hj => up_sn (q := b + 7) (q2 := b + 4) (f := 6) (f2 := 3) (h.e3 hj) (by omega) (by decide), fun _ hj => up_sn (q := b + 7) (q2 := b + 5) (f := 6) (f2 := 4) (h.e4 hj) (by omega) (by decide), fun _ hj => up_sn (q := b + 7) (q2 := b + 6) (f := 6) (f2 := 5) (h.e5 hj) (by omega) (by decide), fun _ hj => up_st (h.e6 hj), fun _ hj => up_sn (q := b + 7) (q2 := b + 8) (f := 6) (f2 := 7) (h.e7 hj) (by omega) (by decide), up_sn (q := b + 7) (q2 := b) (f := 6) (f2 := 8) h.people (by omega) (by decide), up_sn (q := b + 7) (q2 := b) (f := 6) (f2 := 8) h.clock (by omega) (by decide), up_sn (q := b + 7) (q2 := b) (f := 6) (f2 := 8) h.law (by omega) (by decide)⟩
theorem TW.up7 {M : Mem} {b i : Nat} {τ : Tn} {v : Int} (h : TW M b τ) : TW (upM M (b + 8) i v) b (st τ 7 i v) := ⟨fun _ hj => up_sn (q := b + 8) (q2 := b + 1) (f := 7) (f2 := 0) (h.e0 hj) (by omega) (by decide), fun _ hj => up_sn (q := b + 8) (q2 := b + 2) (f := 7) (f2 := 1) (h.e1 hj) (by omega) (by decide), fun _ hj => up_sn (q := b + 8) (q2 := b + 3) (f := 7) (f2 := 2) (h.e2 hj) (by omega) (by decide), fun _ hj => up_sn (q := b + 8) (q2 := b + 4) (f := 7) (f2 := 3) (h.e3 hj) (by omega) (by decide), fun _ hj => up_sn (q := b + 8) (q2 := b + 5) (f := 7) (f2 := 4) (h.e4 hj) (by omega) (by decide), fun _ hj => up_sn (q := b + 8) (q2 := b + 6) (f := 7) (f2 := 5) (h.e5 hj) (by omega) (by decide), fun _ hj => up_sn (q := b + 8) (q2 := b + 7) (f := 7) (f2 := 6) (h.e6 hj) (by omega) (by decide), fun _ hj => up_st (h.e7 hj), up_sn (q := b + 8) (q2 := b) (f := 7) (f2 := 8) h.people (by omega) (by decide), up_sn (q := b + 8) (q2 := b) (f := 7) (f2 := 8) h.clock (by omega) (by decide), up_sn (q := b + 8) (q2 := b) (f := 7) (f2 := 8) h.law (by omega) (by decide)⟩
theorem TW.upeople {M : Mem} {b : Nat} {τ : Tn} {v : Int} (h : TW M b τ) : TW (upM M b 10 v) b (st τ 8 0 v) :=
  ⟨fun i hi => by rw [upM_ne (Or.inl (by omega)), st_ne (Or.inl (by decide))]; exact h.e0 hi, fun i hi => by rw [upM_ne (Or.inl (by omega)), st_ne (Or.inl (by decide))]; exact h.e1 hi, fun i hi => by rw [upM_ne (Or.inl (by omega)), st_ne (Or.inl (by decide))]; exact h.e2 hi, fun i hi => by rw [upM_ne (Or.inl (by omega)), st_ne (Or.inl (by decide))]; exact h.e3 hi, fun i hi => by rw [upM_ne (Or.inl (by omega)), st_ne (Or.inl (by decide))]; exact h.e4 hi, fun i hi => by rw [upM_ne (Or.inl (by omega)), st_ne (Or.inl (by decide))]; exact h.e5 hi, fun i hi => by rw [upM_ne (Or.inl (by omega)), st_ne (Or.inl (by decide))]; exact h.e6 hi, fun i hi => by rw [upM_ne (Or.inl (by omega)), st_ne (Or.inl (by decide))]; exact h.e7 hi, by rw [upM_self, st_self], by rw [upM_ne (Or.inr (by decide)), st_ne (Or.inr (by decide))]; exact h.clock, by rw [upM_ne (Or.inr (by decide)), st_ne (Or.inr (by decide))]; exact h.law⟩
theorem TW.uclock {M : Mem} {b : Nat} {τ : Tn} {v : Int} (h : TW M b τ) : TW (upM M b 11 v) b (st τ 8 1 v) :=
  ⟨fun i hi => by rw [upM_ne (Or.inl (by omega)), st_ne (Or.inl (by decide))]; exact h.e0 hi, fun i hi => by rw [upM_ne (Or.inl (by omega)), st_ne (Or.inl (by decide))]; exact h.e1 hi, fun i hi => by rw [upM_ne (Or.inl (by omega)), st_ne (Or.inl (by decide))]; exact h.e2 hi, fun i hi => by rw [upM_ne (Or.inl (by omega)), st_ne (Or.inl (by decide))]; exact h.e3 hi, fun i hi => by rw [upM_ne (Or.inl (by omega)), st_ne (Or.inl (by decide))]; exact h.e4 hi, fun i hi => by rw [upM_ne (Or.inl (by omega)), st_ne (Or.inl (by decide))]; exact h.e5 hi, fun i hi => by rw [upM_ne (Or.inl (by omega)), st_ne (Or.inl (by decide))]; exact h.e6 hi, fun i hi => by rw [upM_ne (Or.inl (by omega)), st_ne (Or.inl (by decide))]; exact h.e7 hi, by rw [upM_ne (Or.inr (by decide)), st_ne (Or.inr (by decide))]; exact h.people, by rw [upM_self, st_self], by rw [upM_ne (Or.inr (by decide)), st_ne (Or.inr (by decide))]; exact h.law⟩
theorem TW.ulaw {M : Mem} {b : Nat} {τ : Tn} {v : Int} (h : TW M b τ) : TW (upM M b 12 v) b (st τ 8 2 v) :=
  ⟨fun i hi => by rw [upM_ne (Or.inl (by omega)), st_ne (Or.inl (by decide))]; exact h.e0 hi, fun i hi => by rw [upM_ne (Or.inl (by omega)), st_ne (Or.inl (by decide))]; exact h.e1 hi, fun i hi => by rw [upM_ne (Or.inl (by omega)), st_ne (Or.inl (by decide))]; exact h.e2 hi, fun i hi => by rw [upM_ne (Or.inl (by omega)), st_ne (Or.inl (by decide))]; exact h.e3 hi, fun i hi => by rw [upM_ne (Or.inl (by omega)), st_ne (Or.inl (by decide))]; exact h.e4 hi, fun i hi => by rw [upM_ne (Or.inl (by omega)), st_ne (Or.inl (by decide))]; exact h.e5 hi, fun i hi => by rw [upM_ne (Or.inl (by omega)), st_ne (Or.inl (by decide))]; exact h.e6 hi, fun i hi => by rw [upM_ne (Or.inl (by omega)), st_ne (Or.inl (by decide))]; exact h.e7 hi, by rw [upM_ne (Or.inr (by decide)), st_ne (Or.inr (by decide))]; exact h.people, by rw [upM_ne (Or.inr (by decide)), st_ne (Or.inr (by decide))]; exact h.clock, by rw [upM_self, st_self]⟩
theorem TW.fl1 {M : Mem} {b : Nat} {τ : Tn} (h : TW M b τ) : TW (fun c i => if c = b + 2 ∧ i < 8 then -1 else M c i) b (fun f i => if f = 1 then -1 else τ f i) :=
  ⟨(fun j hj => by
    have := h.e0 hj
    show (if b + 1 = b + 2 ∧ j < 8 then -1 else M (b + 1) j) = (if 0 = 1 then -1 else τ 0 j)
    rw [if_neg (by omega), if_neg (by decide)]; exact this), (fun j hj => by
    have := h.e1 hj
    show (if b + 2 = b + 2 ∧ j < 8 then -1 else M (b + 2) j) = (if 1 = 1 then -1 else τ 1 j)
    rw [if_pos ⟨rfl, hj⟩]; rfl), (fun j hj => by
    have := h.e2 hj
    show (if b + 3 = b + 2 ∧ j < 8 then -1 else M (b + 3) j) = (if 2 = 1 then -1 else τ 2 j)
    rw [if_neg (by omega), if_neg (by decide)]; exact this), (fun j hj => by
    have := h.e3 hj
    show (if b + 4 = b + 2 ∧ j < 8 then -1 else M (b + 4) j) = (if 3 = 1 then -1 else τ 3 j)
    rw [if_neg (by omega), if_neg (by decide)]; exact this), (fun j hj => by
    have := h.e4 hj
    show (if b + 5 = b + 2 ∧ j < 8 then -1 else M (b + 5) j) = (if 4 = 1 then -1 else τ 4 j)
    rw [if_neg (by omega), if_neg (by decide)]; exact this), (fun j hj => by
    have := h.e5 hj
    show (if b + 6 = b + 2 ∧ j < 8 then -1 else M (b + 6) j) = (if 5 = 1 then -1 else τ 5 j)
    rw [if_neg (by omega), if_neg (by decide)]; exact this), (fun j hj => by
    have := h.e6 hj
    show (if b + 7 = b + 2 ∧ j < 8 then -1 else M (b + 7) j) = (if 6 = 1 then -1 else τ 6 j)
    rw [if_neg (by omega), if_neg (by decide)]; exact this), (fun j hj => by
    have := h.e7 hj
    show (if b + 8 = b + 2 ∧ j < 8 then -1 else M (b + 8) j) = (if 7 = 1 then -1 else τ 7 j)
    rw [if_neg (by omega), if_neg (by decide)]; exact this), (by
    have := h.people
    show (if b = b + 2 ∧ 10 < 8 then -1 else M b 10) = (if 8 = 1 then -1 else τ 8 0)
    rw [if_neg (by omega), if_neg (by decide)]; exact this), (by
    have := h.clock
    show (if b = b + 2 ∧ 11 < 8 then -1 else M b 11) = (if 8 = 1 then -1 else τ 8 1)
    rw [if_neg (by omega), if_neg (by decide)]; exact this), (by
    have := h.law
    show (if b = b + 2 ∧ 12 < 8 then -1 else M b 12) = (if 8 = 1 then -1 else τ 8 2)
    rw [if_neg (by omega), if_neg (by decide)]; exact this)⟩
theorem TW.fl2 {M : Mem} {b : Nat} {τ : Tn} (h : TW M b τ) : TW (fun c i => if c = b + 3 ∧ i < 8 then -1 else M c i) b (fun f i => if f = 2 then -1 else τ f i) :=
  ⟨(fun j hj => by
    have := h.e0 hj
    show (if b + 1 = b + 3 ∧ j < 8 then -1 else M (b + 1) j) = (if 0 = 2 then -1 else τ 0 j)
    rw [if_neg (by omega), if_neg (by decide)]; exact this), (fun j hj => by
    have := h.e1 hj
    show (if b + 2 = b + 3 ∧ j < 8 then -1 else M (b + 2) j) = (if 1 = 2 then -1 else τ 1 j)
    rw [if_neg (by omega), if_neg (by decide)]; exact this), (fun j hj => by
    have := h.e2 hj
    show (if b + 3 = b + 3 ∧ j < 8 then -1 else M (b + 3) j) = (if 2 = 2 then -1 else τ 2 j)
    rw [if_pos ⟨rfl, hj⟩]; rfl), (fun j hj => by
    have := h.e3 hj
    show (if b + 4 = b + 3 ∧ j < 8 then -1 else M (b + 4) j) = (if 3 = 2 then -1 else τ 3 j)
    rw [if_neg (by omega), if_neg (by decide)]; exact this), (fun j hj => by
    have := h.e4 hj
    show (if b + 5 = b + 3 ∧ j < 8 then -1 else M (b + 5) j) = (if 4 = 2 then -1 else τ 4 j)
    rw [if_neg (by omega), if_neg (by decide)]; exact this), (fun j hj => by
    have := h.e5 hj
    show (if b + 6 = b + 3 ∧ j < 8 then -1 else M (b + 6) j) = (if 5 = 2 then -1 else τ 5 j)
    rw [if_neg (by omega), if_neg (by decide)]; exact this), (fun j hj => by
    have := h.e6 hj
    show (if b + 7 = b + 3 ∧ j < 8 then -1 else M (b + 7) j) = (if 6 = 2 then -1 else τ 6 j)
    rw [if_neg (by omega), if_neg (by decide)]; exact this), (fun j hj => by
    have := h.e7 hj
    show (if b + 8 = b + 3 ∧ j < 8 then -1 else M (b + 8) j) = (if 7 = 2 then -1 else τ 7 j)
    rw [if_neg (by omega), if_neg (by decide)]; exact this), (by
    have := h.people
    show (if b = b + 3 ∧ 10 < 8 then -1 else M b 10) = (if 8 = 2 then -1 else τ 8 0)
    rw [if_neg (by omega), if_neg (by decide)]; exact this), (by
    have := h.clock
    show (if b = b + 3 ∧ 11 < 8 then -1 else M b 11) = (if 8 = 2 then -1 else τ 8 1)
    rw [if_neg (by omega), if_neg (by decide)]; exact this), (by
    have := h.law
    show (if b = b + 3 ∧ 12 < 8 then -1 else M b 12) = (if 8 = 2 then -1 else τ 8 2)
    rw [if_neg (by omega), if_neg (by decide)]; exact this)⟩
theorem Fr.fil {P : Nat → Bool} {M M2 : Mem} {k N : Nat} {v : Int} (h : Fr P M M2) (hk : P k = true) : Fr P M (fun c i => if c = k ∧ i < N then v else M2 c i) := fun c j hc => by
  show (if c = k ∧ j < N then v else M2 c j) = M c j
  rw [if_neg (fun w => by rw [w.1, hk] at hc; cases hc)]
  exact h c j hc
/-- the texts in the class's memory -/
def XT (M : Mem) (nT : Nat) (X : Nat → Tx) : Prop := nT ≤ 6 ∧ ∀ t, t < nT → TextX M (36 + 4 * t) (X t) ∧ okT (X t)
theorem XT.fr {P : Nat → Bool} {M M2 : Mem} {nT : Nat} {X : Nat → Tx} (h : XT M nT X) (hF : Fr P M M2) (hP : ∀ t, t < 6 → P (36 + 4 * t + 1) = false ∧ P (36 + 4 * t + 2) = false) : XT M2 nT X :=
  ⟨h.1, fun t ht => ⟨(h.2 t ht).1.fr hF (hP t (by have := h.1; omega)).1 (hP t (by have := h.1; omega)).2, (h.2 t ht).2⟩⟩
theorem scr_tx {t : Nat} (ht : t < 6) : scr (36 + 4 * t + 1) = false ∧ scr (36 + 4 * t + 2) = false := by
  simp only [scr, Bool.or_eq_false_iff, beq_eq_false_iff_ne]
  omega
theorem XT.scr {M M2 : Mem} {nT : Nat} {X : Nat → Tx} (h : XT M nT X) (hF : Fr scr M M2) : XT M2 nT X := h.fr hF (fun _ ht => scr_tx ht)
theorem scb_tx {b t : Nat} (hb : tb b) (ht : t < 6) : scb b (36 + 4 * t + 1) = false ∧ scb b (36 + 4 * t + 2) = false := by
  have h1 := scr_tx ht
  have h2 := tb_lt hb
  unfold scb
  rw [h1.1, h1.2, twb_out (by omega), twb_out (by omega)]
  exact ⟨rfl, rfl⟩
theorem XT.scb {M M2 : Mem} {b nT : Nat} {X : Nat → Tx} (hb : tb b) (h : XT M nT X) (hF : Fr (scb b) M M2) : XT M2 nT X := h.fr hF (fun _ ht => scb_tx hb ht)
theorem Fr.scb {M M2 : Mem} {b : Nat} (h : Fr scr M M2) : Fr (scb b) M M2 := h.mono (fun _ hc => scb_scr hc)
theorem rsX {t : Nat} (h : t < 6) : [36, 40, 44, 48, 52, 56][t]? = some (36 + 4 * t) := by
  rcases (by omega : t = 0 ∨ t = 1 ∨ t = 2 ∨ t = 3 ∨ t = 4 ∨ t = 5) with rfl | rfl | rfl | rfl | rfl | rfl <;> rfl
theorem gN {b : Nat} (h : tb b) {t : Nat} (ht : t < 6) : b + 9 ≠ 36 + 4 * t + 3 := by unfold tb at h; omega
theorem scr_nm {b : Nat} (h : tb b) : scr (b + 9) = true := by rcases h with rfl | rfl | rfl <;> rfl
theorem scr_st {t : Nat} (h : t < 6) : scr (36 + 4 * t + 3) = true := by
  rcases (by omega : t = 0 ∨ t = 1 ∨ t = 2 ∨ t = 3 ∨ t = 4 ∨ t = 5) with rfl | rfl | rfl | rfl | rfl | rfl <;> rfl

/-! the reference's state: how it changes -/
abbrev mW (c i : Nat) : Prop := c = 1 ∨ c = 2 ∨ c = 3 ∨ c = 4 ∨ 15 ≤ c ∨ (c = 0 ∧ (i = 0 ∨ i = 5 ∨ i = 11 ∨ 19 ≤ i))
abbrev m8 (c _i : Nat) : Prop := c = 18
abbrev mL (c i : Nat) : Prop := c = 3 ∨ c = 4 ∨ (c = 0 ∧ i = 5)
theorem Fm.sW {M M2 : Mem} (h : Fm mS M M2) : Fm mW M M2 := h.mono (fun c i w => by omega)
theorem Fm.tW {M M2 : Mem} (h : Fm mT M M2) : Fm mW M M2 := h.mono (fun c i w => by omega)
theorem Fm.kW {M M2 : Mem} (h : Fm mK M M2) : Fm mW M M2 := h.mono (fun c i w => by omega)
theorem Fm.eK {M M2 : Mem} (h : Fm (fun c _ => c = 18) M M2) : Fm mK M M2 := h.mono (fun c i w => by have w : c = 18 := w; omega)
theorem Fm.lK {M M2 : Mem} (h : Fm (fun c i => c = 3 ∨ c = 4 ∨ (c = 0 ∧ i = 5)) M M2) : Fm mK M M2 := h.mono (fun c i w => by have w : c = 3 ∨ c = 4 ∨ (c = 0 ∧ i = 5) := w; omega)
theorem TM.k18 {M M2 : Mem} {τ : Tn} (h : TM M τ) (hF : Fm (fun c _ => c = 18) M M2) : TM M2 τ := h.fr hF (fun c i w => by have w : c = 18 := w; omega)
theorem XM.K {M M2 : Mem} {nT : Nat} {X : Nat → Tx} (h : XM M nT X) (hF : Fm mK M M2) : XM M2 nT X := h.fr hF (fun c i w => by omega)
theorem KP.lays {M M2 : Mem} {τ : Tn} (h : KP M τ) (hF : Fm (fun c i => c = 3 ∨ c = 4 ∨ (c = 0 ∧ i = 5)) M M2) : KP M2 τ := h.fr hF (fun i w => by have w : 18 = 3 ∨ 18 = 4 ∨ (18 = 0 ∧ i = 5) := w; omega)
theorem RM.now {M M2 : Mem} {nT tn : Nat} {X : Nat → Tx} {τ τ' τi : Tn} {img : Bool} {tp ss sz : Nat → Int} {cl : Nat → Nat → Int} (h : RM M (nT, X, τ, img, τi, tn, tp, ss, sz, cl)) (hT : TM M2 τ') (hF : Fm mW M M2) : RM M2 (nT, X, τ', img, τi, tn, tp, ss, sz, cl) :=
  ⟨hT, RR.fr (S := (nT, X, τ, img, τi, tn, tp, ss, sz, cl)) h.2 hF (fun c i w => by omega)⟩
theorem TM.upeople {M : Mem} {τ : Tn} {p : Nat} (h : TM M τ) (hp : τ 8 0 = p) (h6 : M 1 p = τ 6 p) (h7 : M 2 p = τ 7 p) : TM (upM M 0 0 ((p : Int) + 1)) (st τ 8 0 ((p : Int) + 1)) :=
  ⟨fun q hq k hk => by rw [upM_ne (by omega), st_ne (by omega)]; exact h.1 q hq k hk, fun e he k hk => by rw [upM_ne (by omega), st_ne (by omega)]; exact h.2.1 e he k hk, by rw [upM_self, st_self], by rw [upM_ne (by omega), st_ne (by omega)]; exact h.clock, by rw [upM_ne (by omega), st_ne (by omega)]; exact h.rule, fun q hq => by
    rw [st_self] at hq
    rw [upM_ne (by omega), st_ne (by omega), upM_ne (by omega), st_ne (by omega)]
    by_cases e : q = p
    · rw [e]; exact ⟨h6, h7⟩
    · exact ⟨h.e6 (by omega), h.e7 (by omega)⟩⟩
/-- kinds, mores, people and law stay -/
def SK8 (τ τ' : Tn) : Prop := SK678 τ τ' ∧ τ' 8 2 = τ 8 2
theorem SK8.refl {τ : Tn} : SK8 τ τ := ⟨SK678.refl, rfl⟩
theorem SK8.trans {a b c : Tn} (h : SK8 a b) (g : SK8 b c) : SK8 a c := ⟨h.1.trans g.1, g.2.trans h.2⟩
theorem SK8.st {τ : Tn} {f i : Nat} {v : Int} (hf : f ≤ 5) : SK8 τ (st τ f i v) := ⟨SK678.st (by omega) (by omega) (by omega), st_ne (by omega)⟩
theorem SK8.tr {X : Nat → Tx} {τ : Tn} {p d : Nat} : SK8 τ (sTry X τ p d) := ⟨SK678.tr, sTry_8 X τ p d 2⟩
theorem SK8.min {X : Nat → Tx} {τ : Tn} : SK8 τ (sMin X τ).2 := by
  refine ⟨SK678.min, ?_⟩
  show sEnd (sAll X τ (τ 8 0).toNat).2 8 2 = τ 8 2
  unfold sEnd
  rw [if_neg (by omega), if_neg (by omega), sAll_8]
theorem SK8.run {X : Nat → Tx} {τ : Tn} : ∀ n, SK8 τ (sRun X τ n)
  | 0 => SK8.refl
  | n + 1 => (SK8.run n).trans SK8.min
theorem SK8.aT {X : Nat → Tx} {τ : Tn} {p : Nat} : ∀ d, SK8 τ (aT X τ p d)
  | 0 => SK8.refl
  | d + 1 => (SK8.aT d).trans SK8.tr
theorem SK8.lot {X : Nat → Tx} {τ : Tn} {seed : Int} : ∀ k, SK8 τ (lD X τ seed k).2.1
  | 0 => SK8.refl
  | k + 1 => by
    simp only [lD]
    split
    · exact (SK8.lot k).trans SK8.tr
    · exact SK8.lot k
theorem RM.fed {M : Mem} {nT tn : Nat} {X : Nat → Tx} {τ τi : Tn} {img : Bool} {tp ss sz : Nat → Int} {cl : Nat → Nat → Int} {v : Int} (h : RM M (nT, X, τ, img, τi, tn, tp, ss, sz, cl)) : RM (upM (upM M 5 tn v) 0 7 ((tn : Int) + 1)) (nT, X, τ, img, τi, tn + 1, upS tp tn v, ss, sz, cl) := by
  have hF : Fm (fun c i => c = 5 ∨ (c = 0 ∧ i = 7)) M (upM (upM M 5 tn v) 0 7 ((tn : Int) + 1)) := (Fm.refl.up (Or.inl rfl)).up (Or.inr ⟨rfl, rfl⟩)
  have off : ∀ c i, ¬ (c = 5 ∨ (c = 0 ∧ i = 7)) → upM (upM M 5 tn v) 0 7 ((tn : Int) + 1) c i = M c i := hF
  obtain ⟨hT, h1, h2, h3, h4, h5, h6, h7⟩ := h
  refine ⟨hT.fr hF (fun c i w => by have w : c = 5 ∨ (c = 0 ∧ i = 7) := w; omega), h1.fr hF (fun c i w => by have w : c = 5 ∨ (c = 0 ∧ i = 7) := w; omega), (off _ _ (by omega)).trans h2, (off _ _ (by omega)).trans h3, fun hi => ?_, ⟨by rw [upM_self]; omega, fun i hi => ?_⟩, fun s hs => ⟨(off _ _ (by omega)).trans (h6 s hs).1, (off _ _ (by omega)).trans (h6 s hs).2.1, fun i hi => (off _ _ (by omega)).trans ((h6 s hs).2.2 i hi)⟩, fun i hi => (off _ _ (by omega)).trans (h7 i hi)⟩
  · have g := h4 hi
    exact ⟨fun p hp j hj => (off _ _ (by omega)).trans (g.1 p hp j hj), fun p hp j hj => (off _ _ (by omega)).trans (g.2.1 p hp j hj), (off _ _ (by omega)).trans g.2.2.1, (off _ _ (by omega)).trans g.2.2.2.1, (off _ _ (by omega)).trans g.2.2.2.2⟩
  · rw [upM_ne (by omega)]
    by_cases e : i = tn
    · subst e; rw [upM_self, upS_self]
    · rw [upM_ne (by omega), upS_ne e]; exact h5.2 i (by omega)
abbrev mC (s c i : Nat) : Prop := ((c = 10 ∨ c = 11) ∧ i = s) ∨ (c = 12 ∧ 40 * s ≤ i ∧ i < 40 * s + 40)
theorem RM.sheet {M M2 : Mem} {nT tn : Nat} {X : Nat → Tx} {τ τi : Tn} {img : Bool} {tp ss sz : Nat → Int} {cl : Nat → Nat → Int} {s : Nat} {a b : Int} {g : Nat → Int} (h : RM M (nT, X, τ, img, τi, tn, tp, ss, sz, cl)) (hF : Fm (mC s) M M2) (ha : M2 10 s = a) (hb : M2 11 s = b) (hg : ∀ i, i < 40 → M2 12 (40 * s + i) = g i) : RM M2 (nT, X, τ, img, τi, tn, tp, upS ss s a, upS sz s b, upC cl s g) := by
  obtain ⟨hT, h1, h2, h3, h4, h5, h6, h7⟩ := h
  refine ⟨hT.fr hF (fun c i w => by omega), h1.fr hF (fun c i w => by omega), (hF _ _ (by omega)).trans h2, (hF _ _ (by omega)).trans h3, fun hi => ?_, ⟨(hF _ _ (by omega)).trans h5.1, fun i hi => (hF _ _ (by omega)).trans (h5.2 i hi)⟩, fun t ht => ?_, fun i hi => (hF _ _ (by omega)).trans (h7 i hi)⟩
  · have q := h4 hi
    exact ⟨fun p hp j hj => (hF _ _ (by omega)).trans (q.1 p hp j hj), fun p hp j hj => (hF _ _ (by omega)).trans (q.2.1 p hp j hj), (hF _ _ (by omega)).trans q.2.2.1, (hF _ _ (by omega)).trans q.2.2.2.1, (hF _ _ (by omega)).trans q.2.2.2.2⟩
  · by_cases e : t = s
    · subst e
      rw [upS_self, upS_self, upC_self]
      exact ⟨ha, hb, hg⟩
    · rw [upS_ne e, upS_ne e, upC_ne e]
      exact ⟨(hF _ _ (by omega)).trans (h6 t ht).1, (hF _ _ (by omega)).trans (h6 t ht).2.1, fun i hi => (hF _ _ (by omega)).trans ((h6 t ht).2.2 i hi)⟩
theorem upS_id {f : Nat → Int} {s : Nat} : upS f s (f s) = f := funext fun t => by unfold upS; split <;> simp [*]
theorem RM.cell {M : Mem} {nT tn : Nat} {X : Nat → Tx} {τ τi : Tn} {img : Bool} {tp ss sz : Nat → Int} {cl : Nat → Nat → Int} {s i : Nat} {v : Int} (h : RM M (nT, X, τ, img, τi, tn, tp, ss, sz, cl)) (hs : s < 4) (hi : i < 40) : RM (upM M 12 (40 * s + i) v) (nT, X, τ, img, τi, tn, tp, ss, sz, upC cl s (upS (cl s) i v)) := by
  have h6 := h.2.2.2.2.2.2.1 s hs
  have := h.sheet (M2 := upM M 12 (40 * s + i) v) (s := s) (a := ss s) (b := sz s) (g := upS (cl s) i v) (Fm.refl.up (by omega)) ((upM_ne (by omega)).trans h6.1) ((upM_ne (by omega)).trans h6.2.1) (fun j hj => by
    by_cases e : j = i
    · subst e; rw [upM_self, upS_self]
    · rw [upM_ne (by omega), upS_ne e]; exact h6.2.2 j hj)
  rw [upS_id, upS_id] at this
  exact this
/-- image, back -/
theorem RM.imaged {M M2 : Mem} {nT tn : Nat} {X : Nat → Tx} {τ τi τj : Tn} {img : Bool} {tp ss sz : Nat → Int} {cl : Nat → Nat → Int} (h : RM M (nT, X, τ, img, τi, tn, tp, ss, sz, cl)) (hF : Fm (fun c i => c = 8 ∨ c = 9 ∨ (c = 0 ∧ i = 12)) M M2) (h12 : M2 0 12 = 1) (hI : IM M2 τj) : RM M2 (nT, X, τ, true, τj, tn, tp, ss, sz, cl) := by
  have off : ∀ c i, ¬ (c = 8 ∨ c = 9 ∨ (c = 0 ∧ i = 12)) → M2 c i = M c i := hF
  obtain ⟨hT, h1, h2, h3, h4, h5, h6, h7⟩ := h
  exact ⟨hT.fr hF (fun c i w => by have w : c = 8 ∨ c = 9 ∨ (c = 0 ∧ i = 12) := w; omega), h1.fr hF (fun c i w => by have w : c = 8 ∨ c = 9 ∨ (c = 0 ∧ i = 12) := w; omega), (off _ _ (by omega)).trans h2, h12, fun _ => hI, ⟨(off _ _ (by omega)).trans h5.1, fun i hi => (off _ _ (by omega)).trans (h5.2 i hi)⟩, fun s hs => ⟨(off _ _ (by omega)).trans (h6 s hs).1, (off _ _ (by omega)).trans (h6 s hs).2.1, fun i hi => (off _ _ (by omega)).trans ((h6 s hs).2.2 i hi)⟩, fun i hi => (off _ _ (by omega)).trans (h7 i hi)⟩
/-- ones of a number below 256, one by one -/
def pcs (m : Nat) : Nat → Int
  | 0 => 0
  | i + 1 => pcs m i + (m : Int) / 2 ^ i % 2
theorem pcs_8 : ∀ m : Nat, m < 256 → pcs m 8 = ((pop8 m : Nat) : Int) := by decide +kernel
theorem pcs_b (m : Nat) : ∀ i : Nat, 0 ≤ pcs m i ∧ pcs m i ≤ i
  | 0 => by simp only [pcs]; omega
  | i + 1 => by
    have := pcs_b m i
    simp only [pcs]
    generalize (m : Int) / 2 ^ i = q
    omega
/-- how many are not so -/
def lk (P : Nat → Bool) : Nat → Int
  | 0 => 0
  | n + 1 => lk P n + (if P n = true then 0 else 1)
theorem lk_b (P : Nat → Bool) : ∀ n : Nat, 0 ≤ lk P n ∧ lk P n ≤ n
  | 0 => by simp only [lk]; omega
  | n + 1 => by
    have := lk_b P n
    simp only [lk]
    split <;> omega
theorem lk_8 (P : Nat → Bool) : lk P 8 = 8 - ((pop8 (bt P 8).toNat : Nat) : Int) := by
  simp only [lk, bt]
  generalize P 0 = a0
  generalize P 1 = a1
  generalize P 2 = a2
  generalize P 3 = a3
  generalize P 4 = a4
  generalize P 5 = a5
  generalize P 6 = a6
  generalize P 7 = a7
  revert a0 a1 a2 a3 a4 a5 a6 a7
  decide +kernel

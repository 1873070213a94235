/-! what the class's memory holds: the state of the system (texts and how many, the town now, whether there is an image and what it keeps, the tape, the sheets) -/
abbrev SS : Type := Nat × (Nat → Tx) × Tn × Bool × Tn × Nat × (Nat → Int) × (Nat → Int) × (Nat → Int) × (Nat → Nat → Int)
def RX (M : Mem) : SS → Prop
  | (nT, X, τ, img, τi, tn, tp, ss, sz, cl) => TW M 6 τ ∧ XT M nT X ∧ M 0 7 = nT ∧ M 0 8 = bi img ∧ (img = true → TW M 26 τi) ∧ (M 3 1 = tn ∧ ∀ i, i < tn → M 4 i = tp i) ∧
    ∀ s, s < 4 → M (60 + 2 * s) 1 = ss s ∧ M (60 + 2 * s) 2 = sz s ∧ ∀ i, i < 40 → M (60 + 2 * s + 1) i = cl s i
def INV : SS → Prop
  | (nT, X, τ, img, τi, tn, tp, ss, sz, cl) => (1 ≤ nT ∧ nT ≤ 6) ∧ (WF nT τ ∧ τ 8 1 ≤ 9999) ∧ (img = true → WF nT τi ∧ τi 8 1 ≤ 9999) ∧ (tn ≤ 160 ∧ ∀ i, i < tn → 0 ≤ tp i ∧ tp i ≤ 255) ∧
    ∀ s, s < 4 → (-1 ≤ ss s ∧ ss s ≤ 2) ∧ (0 ≤ sz s ∧ sz s ≤ 40) ∧ (ss s = -1 → sz s = 0) ∧ ∀ i, i < 40 → ib (cl s i)
theorem gS0 {s : Nat} (h : s < 4) : GX[60 + 2 * s]? = some (.inl (1, [some (60 + 2 * s + 1), none, none])) := by
  rcases (by omega : s = 0 ∨ s = 1 ∨ s = 2 ∨ s = 3) with rfl | rfl | rfl | rfl <;> rfl
theorem gS1 {s : Nat} (h : s < 4) : GX[60 + 2 * s + 1]? = some (.inr (.inl 40)) := by
  rcases (by omega : s = 0 ∨ s = 1 ∨ s = 2 ∨ s = 3) with rfl | rfl | rfl | rfl <;> rfl
theorem rsS {s : Nat} (h : s < 4) : [60, 62, 64, 66][s]? = some (60 + 2 * s) := by
  rcases (by omega : s = 0 ∨ s = 1 ∨ s = 2 ∨ s = 3) with rfl | rfl | rfl | rfl <;> rfl
theorem tb6 : tb 6 := Or.inl rfl
theorem tb16 : tb 16 := Or.inr (Or.inl rfl)
theorem tb26 : tb 26 := Or.inr (Or.inr rfl)
theorem scb_off {b c : Nat} (h1 : scr c = false) (h2 : c < b ∨ b + 8 < c) : scb b c = false := by unfold scb; rw [h1, twb_out h2]; rfl
theorem scr_sh {s : Nat} (h : s < 4) : scr (60 + 2 * s) = false ∧ scr (60 + 2 * s + 1) = false := by
  rcases (by omega : s = 0 ∨ s = 1 ∨ s = 2 ∨ s = 3) with rfl | rfl | rfl | rfl <;> exact ⟨rfl, rfl⟩
/-- a change of thought and scratch leaves the state -/
theorem RX.th {M M2 : Mem} {S : SS} (h : RX M S) (hF : Fr (scb 16) M M2) : RX M2 S := by
  obtain ⟨nT, X, τ, img, τi, tn, tp, ss, sz, cl⟩ := S
  obtain ⟨h1, h2, h3, h4, h5, h6, h7⟩ := h
  refine ⟨h1.fr hF (fun c g1 g2 => scb_off (scr_tb tb6 g1 g2) (by omega)), h2.scb tb16 hF, (hF _ _ rfl).trans h3, (hF _ _ rfl).trans h4, fun hi => (h5 hi).fr hF (fun c g1 g2 => scb_off (scr_tb tb26 g1 g2) (by omega)), ⟨(hF _ _ rfl).trans h6.1, fun i hi => (hF _ _ rfl).trans (h6.2 i hi)⟩, fun s hs => ?_⟩
  have g := scr_sh hs
  exact ⟨(hF _ _ (scb_off g.1 (by omega))).trans (h7 s hs).1, (hF _ _ (scb_off g.1 (by omega))).trans (h7 s hs).2.1, fun i hi => (hF _ _ (scb_off g.2 (by omega))).trans ((h7 s hs).2.2 i hi)⟩
theorem RX.scr {M M2 : Mem} {S : SS} (h : RX M S) (hF : Fr scr M M2) : RX M2 S := h.th hF.scb
/-- a change of the town now -/
theorem RX.now {M M2 : Mem} {nT tn : Nat} {X : Nat → Tx} {τ τ' τi : Tn} {img : Bool} {tp ss sz : Nat → Int} {cl : Nat → Nat → Int} (h : RX M (nT, X, τ, img, τi, tn, tp, ss, sz, cl)) (hF : Fr (scb 6) M M2) (hτ : TW M2 6 τ') : RX M2 (nT, X, τ', img, τi, tn, tp, ss, sz, cl) := by
  obtain ⟨h1, h2, h3, h4, h5, h6, h7⟩ := h
  refine ⟨hτ, h2.scb tb6 hF, (hF _ _ rfl).trans h3, (hF _ _ rfl).trans h4, fun hi => (h5 hi).fr hF (fun c g1 g2 => scb_off (scr_tb tb26 g1 g2) (by omega)), ⟨(hF _ _ rfl).trans h6.1, fun i hi => (hF _ _ rfl).trans (h6.2 i hi)⟩, fun s hs => ?_⟩
  have g := scr_sh hs
  exact ⟨(hF _ _ (scb_off g.1 (by omega))).trans (h7 s hs).1, (hF _ _ (scb_off g.1 (by omega))).trans (h7 s hs).2.1, fun i hi => (hF _ _ (scb_off g.2 (by omega))).trans ((h7 s hs).2.2 i hi)⟩
theorem x_isP {d : Nat} {M : Mem} {τ : Tn} {v : Int} (hτ : TW M 6 τ) (h1 : ib v) : Con GX d kX5_isPerson [rv 0, iv v] M (pI (fun a M2 => M = M2 ∧ a = bi (decide (0 ≤ v ∧ v < τ 8 0)))) := by
  rw [← hτ.people]
  exact x_isPerson h1
/-! the answers -/
def a_count (S : SS) (what : Int) : Int := match S with
  | (nT, _, τ, _, _, tn, _, _, _, _) => if what = 0 then τ 8 0 else if what = 1 then τ 8 1 else if what = 2 then (pop8 (sSnd τ).toNat : Nat) else if what = 3 then nT else if what = 4 then τ 8 2 else if what = 5 then tn else -2

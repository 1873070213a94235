/-! the reference's reader of texts: what it holds, what it has put out -/
def HS (M : Mem) (nT : Nat) (H o : List Int) : Prop := M 0 10 = (nT : Int) ∧ M 0 25 = (H.length : Int) ∧ M 0 26 = (opn H : Int) ∧ M 0 27 = (o.length : Int) ∧ SK M 15 H ∧ (∀ i, i < o.length → M 6 (200 * nT + i) = o.getD i 0) ∧ H.length + o.length ≤ 160
abbrev mU (nT c i : Nat) : Prop := (c = 0 ∧ 25 ≤ i ∧ i ≤ 27) ∨ (c = 6 ∧ 200 * nT ≤ i ∧ i < 200 * nT + 200) ∨ c = 15
abbrev mE (nT c i : Nat) : Prop := (c = 0 ∧ 19 ≤ i ∧ i ≤ 27) ∨ (c = 6 ∧ 200 * nT ≤ i ∧ i < 200 * nT + 200) ∨ c = 15
abbrev mG (nT c i : Nat) : Prop := (c = 0 ∧ 19 ≤ i ∧ i ≤ 27) ∨ (c = 6 ∧ 200 * nT ≤ i ∧ i < 200 * nT + 200) ∨ c = 15 ∨ (c = 7 ∧ 4 * nT ≤ i ∧ i < 4 * nT + 4)
abbrev mH (nT c i : Nat) : Prop := (c = 0 ∧ (i = 7 ∨ i = 10 ∨ (19 ≤ i ∧ i ≤ 27))) ∨ (c = 6 ∧ 200 * nT ≤ i ∧ i < 200 * nT + 200) ∨ c = 15 ∨ (c = 7 ∧ 4 * nT ≤ i ∧ i < 4 * nT + 4)
theorem Fm.uE {nT : Nat} {M M2 : Mem} (h : Fm (mU nT) M M2) : Fm (mE nT) M M2 := h.mono (fun c i w => by omega)
theorem Fm.nE {nT : Nat} {M M2 : Mem} (h : Fm mN M M2) : Fm (mE nT) M M2 := h.mono (fun c i w => by omega)
theorem Fm.eG {nT : Nat} {M M2 : Mem} (h : Fm (mE nT) M M2) : Fm (mG nT) M M2 := h.mono (fun c i w => by omega)
theorem Fm.nG {nT : Nat} {M M2 : Mem} (h : Fm mN M M2) : Fm (mG nT) M M2 := h.mono (fun c i w => by omega)
theorem Fm.gH {nT : Nat} {M M2 : Mem} (h : Fm (mG nT) M M2) : Fm (mH nT) M M2 := h.mono (fun c i w => by omega)
theorem SK_fr {M M2 : Mem} {q : Nat} (h2 : ∀ i, M2 q i = M q i) : ∀ {r : List Int}, SK M q r → SK M2 q r
  | [], _ => trivial
  | a :: r, h => ⟨(h2 _).trans h.1, SK_fr h2 h.2⟩
theorem HS.nx {M M2 : Mem} {nT : Nat} {H o : List Int} (h : HS M nT H o) (hF : Fm mN M M2) : HS M2 nT H o := by
  obtain ⟨h1, h2, h3, h4, h5, h6, h7⟩ := h
  exact ⟨(hF _ _ (by omega)).trans h1, (hF _ _ (by omega)).trans h2, (hF _ _ (by omega)).trans h3, (hF _ _ (by omega)).trans h4, SK_fr (fun i => hF 15 i (by omega)) h5, fun i hi => (hF _ _ (by omega)).trans (h6 i hi), h7⟩
theorem HS.put {M : Mem} {nT : Nat} {H o : List Int} {c : Int} (h : HS M nT H o) (hl : H.length + o.length < 160) : HS (upM (upM M 6 (200 * nT + o.length) c) 0 27 ((o.length : Int) + 1)) nT H (o ++ [c]) := by
  obtain ⟨h1, h2, h3, h4, h5, h6, h7⟩ := h
  have e : ∀ q i, ¬ (q = 6 ∧ i = 200 * nT + o.length) → ¬ (q = 0 ∧ i = 27) → upM (upM M 6 (200 * nT + o.length) c) 0 27 ((o.length : Int) + 1) q i = M q i := fun q i g1 g2 => by
    rw [upM_ne (by omega), upM_ne (by omega)]
  refine ⟨(e _ _ (by omega) (by omega)).trans h1, (e _ _ (by omega) (by omega)).trans h2, (e _ _ (by omega) (by omega)).trans h3, by rw [upM_self, List.length_append]; simp, SK_fr (fun i => e 15 i (by omega) (by omega)) h5, fun i hi => ?_, by rw [List.length_append]; simp; omega⟩
  rw [List.length_append] at hi
  simp only [List.length_cons, List.length_nil] at hi
  rw [upM_ne (by omega), List.getD_eq_getElem?_getD]
  by_cases q : i = o.length
  · subst q
    rw [upM_self, List.getElem?_append_right (Nat.le_refl _)]
    simp
  · rw [upM_ne (by omega), List.getElem?_append_left (by omega), ← List.getD_eq_getElem?_getD]
    exact h6 i (by omega)
theorem opn_0 {s : Int} {H : List Int} (h : s = 0 ∨ s = 13 ∨ s = 19) : opn (s :: H) = opn H + 1 := by
  simp only [opn]
  rw [if_pos h]
theorem opn_1 {s : Int} {H : List Int} (h : ¬ (s = 0 ∨ s = 13 ∨ s = 19)) : opn (s :: H) = opn H := by
  simp only [opn]
  rw [if_neg h, Nat.add_zero]
theorem opn_le : ∀ H : List Int, opn H ≤ H.length
  | [] => Nat.le_refl _
  | s :: H => by
    have := opn_le H
    simp only [opn, List.length_cons]
    split <;> omega
/-- a sign more is held -/
theorem HS.hold {M : Mem} {nT : Nat} {H o : List Int} {s : Int} {k : Nat} (h : HS M nT H o) (hl : H.length + o.length < 160) (hk : opn (s :: H) = k) : HS (upM (upM (upM M 0 26 (k : Int)) 15 H.length s) 0 25 ((H.length : Int) + 1)) nT (s :: H) o := by
  obtain ⟨h1, h2, h3, h4, h5, h6, h7⟩ := h
  have e : ∀ q i, ¬ (q = 15) → ¬ (q = 0 ∧ (i = 25 ∨ i = 26)) → upM (upM (upM M 0 26 (k : Int)) 15 H.length s) 0 25 ((H.length : Int) + 1) q i = M q i := fun q i g1 g2 => by
    rw [upM_ne (by omega), upM_ne (by omega), upM_ne (by omega)]
  refine ⟨(e _ _ (by omega) (by omega)).trans h1, by rw [upM_self, List.length_cons]; simp, by rw [upM_ne (by omega), upM_ne (by omega), upM_self, hk], (e _ _ (by omega) (by omega)).trans h4, ?_, fun i hi => (e _ _ (by omega) (by omega)).trans (h6 i hi), by rw [List.length_cons]; omega⟩
  refine SK_fr (M := upM M 15 H.length s) (fun i => ?_) (SK_push h5 rfl)
  rw [upM_ne (by omega)]
  by_cases q : i = H.length
  · rw [q, upM_self, upM_self]
  · rw [upM_ne (by omega), upM_ne (by omega), upM_ne (by omega)]
theorem HS.hold1 {M : Mem} {nT : Nat} {H o : List Int} {s : Int} (h : HS M nT H o) (hl : H.length + o.length < 160) (hs : ¬ (s = 0 ∨ s = 13 ∨ s = 19)) : HS (upM (upM M 15 H.length s) 0 25 ((H.length : Int) + 1)) nT (s :: H) o := by
  have := h.hold (s := s) hl (opn_1 hs)
  have e : upM M 0 26 (opn H : Int) = M := by
    funext q i
    by_cases w : q = 0 ∧ i = 26
    · obtain ⟨rfl, rfl⟩ := w
      rw [upM_self]; exact h.2.2.1.symm
    · rw [upM_ne (by omega)]
  rw [e] at this
  exact this
/-- the top sign is taken off -/
theorem HS.pop {M : Mem} {nT : Nat} {H o : List Int} {s : Int} (h : HS M nT (s :: H) o) : HS (upM (upM M 0 25 (H.length : Int)) 0 26 (opn H : Int)) nT H o := by
  obtain ⟨h1, h2, h3, h4, h5, h6, h7⟩ := h
  rw [List.length_cons] at h7
  have e : ∀ q i, ¬ (q = 0 ∧ (i = 25 ∨ i = 26)) → upM (upM M 0 25 (H.length : Int)) 0 26 (opn H : Int) q i = M q i := fun q i g2 => by
    rw [upM_ne (by omega), upM_ne (by omega)]
  exact ⟨(e _ _ (by omega)).trans h1, by rw [upM_ne (by omega), upM_self], upM_self, (e _ _ (by omega)).trans h4, SK_fr (fun i => e 15 i (by omega)) h5.2, fun i hi => (e _ _ (by omega)).trans (h6 i hi), by omega⟩
theorem uw_len (l : Int) : ∀ H o : List Int, (uw l H o).1.length + (uw l H o).2.length = H.length + o.length
  | [], o => rfl
  | s :: H, o => by
    simp only [uw]
    split
    · rw [uw_len l H, List.length_append, List.length_cons]
      simp only [List.length_cons, List.length_nil]
      omega
    · rfl
theorem uw_top (l : Int) {s : Int} {H2 : List Int} : ∀ H o : List Int, (uw l H o).1 = s :: H2 → mrk s < l
  | [], o, h => by simp [uw] at h
  | a :: H, o, h => by
    simp only [uw] at h
    split at h
    · exact uw_top l H _ h
    · rename_i q
      simp only [List.cons.injEq] at h
      rw [← h.1]
      omega
theorem mrk_0 {s : Int} (h : mrk s < 1) : s = 0 := by
  unfold mrk at h
  (repeat' split at h) <;> omega
theorem mrk_1 {s : Int} (h : 1 ≤ mrk s) : s ≠ 0 := by
  intro e
  subst e
  have : mrk 0 = 0 := rfl
  omega
theorem mrk_in0 (s : Int) : 0 ≤ mrk s ∧ mrk s ≤ 7 := by
  unfold mrk
  (repeat' split) <;> omega
theorem mrun_f {t v : Nat → Int} {n j : Nat} {H o : List Int} {a b : Bool} : mrun t v n j false a H o = mrun t v n j false b H o := by cases n <;> rfl
/-- the tokens there are -/
def TS (T : Int) : Prop := T = -2 ∨ T = -1 ∨ (256 ≤ T ∧ T ≤ 267) ∨ T = 300 ∨ T = 40 ∨ T = 41 ∨ T = 59 ∨ T = 43 ∨ T = 45 ∨ T = 42 ∨ T = 60 ∨ T = 61
theorem TS_tk {tp : Nat → Int} {tn j : Nat} : TS (tk tp tn j) := lx_set
def TI (T : Int) : Prop := (mtk T = 1 ↔ T = 300) ∧ (mtk T = 2 ↔ 262 ≤ T ∧ T < 268) ∧ (mtk T = 6 ↔ T = 261) ∧ (mtk T = 45 ↔ T = 45) ∧ (mtk T = 40 ↔ T = 40) ∧ (mtk T = 59 ↔ T = 59) ∧ (mtk T = 41 ↔ T = 41) ∧ (mtk T = 3 ↔ 256 ≤ T ∧ T ≤ 258) ∧ (mtk T = 0 ↔ T = -1)
theorem TS.ti {T : Int} (h : TS T) : TI T := by
  unfold TS at h
  unfold TI
  rcases h with rfl | rfl | h | rfl | rfl | rfl | rfl | rfl | rfl | rfl | rfl | rfl
  · decide
  · decide
  · unfold mtk
    rw [if_neg (by omega), if_neg (by omega), if_neg (by omega)]
    by_cases q : 262 ≤ T
    · rw [if_pos q]; omega
    · rw [if_neg q]
      by_cases q2 : 259 ≤ T
      · rw [if_pos q2]; omega
      · rw [if_neg q2, if_pos (by omega)]; omega
  · decide
  · decide
  · decide
  · decide
  · decide
  · decide
  · decide
  · decide
  · decide
theorem TS.mi {T : Int} (h : TS T) : -1 ≤ mtk T ∧ mtk T ≤ 255 := mtk_in (by unfold TS at h; omega)
theorem TS.sg {T : Int} (h : TS T) : sg T = if mtk T = 4 then 11 else if mtk T = 5 then 12 else if mtk T = 60 then 14 else if mtk T = 61 then 15 else if mtk T = 43 then 16 else if mtk T = 45 then 17 else if mtk T = 42 then 18 else -1 := by
  unfold TS at h
  rcases h with rfl | rfl | h | rfl | rfl | rfl | rfl | rfl | rfl | rfl | rfl | rfl
  · decide
  · decide
  · rcases (by omega : T = 256 ∨ T = 257 ∨ T = 258 ∨ T = 259 ∨ T = 260 ∨ T = 261 ∨ T = 262 ∨ T = 263 ∨ T = 264 ∨ T = 265 ∨ T = 266 ∨ T = 267) with rfl | rfl | rfl | rfl | rfl | rfl | rfl | rfl | rfl | rfl | rfl | rfl <;> decide
  · decide
  · decide
  · decide
  · decide
  · decide
  · decide
  · decide
  · decide
  · decide
theorem sg_rk {T : Int} : (sg T = -1 → rk T < 0) ∧ (sg T ≠ -1 → 0 ≤ rk T) ∧ -1 ≤ sg T ∧ sg T ≤ 18 := by
  unfold sg rk
  (repeat' split) <;> omega

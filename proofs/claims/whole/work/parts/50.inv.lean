/-! the bounds of the state hold behind every call -/
def KI : SS → Prop
  | (_, _, τ, img, τi, _) => img = true → τi 8 0 ≤ τ 8 0 ∧ ∀ p : Nat, (p : Int) < τi 8 0 → τi 6 p = τ 6 p ∧ τi 7 p = τ 7 p
def JNV (S : SS) : Prop := INV S ∧ KI S
theorem WF.clk {nT : Nat} {τ : Tn} (h : WF nT τ) {v : Int} (hv : 0 ≤ v) : WF nT (st τ 8 1 v) := by
  obtain ⟨h1, h2, h3, h4, h5⟩ := h
  refine ⟨by rw [st_ne (Or.inr (by decide))]; exact h1, by rw [st_self]; exact hv, by rw [st_ne (Or.inr (by decide))]; exact h3, fun d hd => ?_, fun p hp => ?_⟩
  · rw [st_ne (Or.inl (by decide)), st_ne (Or.inl (by decide)), st_ne (Or.inl (by decide))]; exact h4 d hd
  · rw [st_ne (f := 8) (g := 3) (Or.inl (by decide)), st_ne (f := 8) (g := 4) (Or.inl (by decide)), st_ne (f := 8) (g := 5) (Or.inl (by decide)), st_ne (f := 8) (g := 6) (Or.inl (by decide)), st_ne (f := 8) (g := 7) (Or.inl (by decide))]; exact h5 p hp
theorem WF.mono {n m : Nat} {τ : Tn} (h : WF n τ) (hm : n ≤ m) : WF m τ := by
  obtain ⟨h1, h2, h3, h4, h5⟩ := h
  exact ⟨h1, h2, ⟨h3.1, by omega⟩, h4, h5⟩
/-- kinds, mores and people stay -/
def SK678 (τ τ' : Tn) : Prop := τ' 8 0 = τ 8 0 ∧ (∀ p, τ' 6 p = τ 6 p) ∧ ∀ p, τ' 7 p = τ 7 p
theorem SK678.refl {τ : Tn} : SK678 τ τ := ⟨rfl, fun _ => rfl, fun _ => rfl⟩
theorem SK678.trans {a b c : Tn} (h : SK678 a b) (g : SK678 b c) : SK678 a c := ⟨g.1.trans h.1, fun p => (g.2.1 p).trans (h.2.1 p), fun p => (g.2.2 p).trans (h.2.2 p)⟩
theorem SK678.st {τ : Tn} {f i : Nat} {v : Int} (h6 : f ≠ 6) (h7 : f ≠ 7) (h8 : f ≠ 8 ∨ i ≠ 0) : SK678 τ (st τ f i v) := ⟨st_ne (by omega), fun _ => st_ne (by omega), fun _ => st_ne (by omega)⟩
theorem SK678.tr {X : Nat → Tx} {τ : Tn} {p d : Nat} : SK678 τ (sTry X τ p d) := by
  unfold sTry
  split
  · simp only []
    exact ((((((SK678.st (by decide) (by decide) (by omega)).trans (SK678.st (by decide) (by decide) (by omega))).trans (SK678.st (by decide) (by decide) (by omega))).trans (SK678.st (by decide) (by decide) (by omega))).trans (SK678.st (by decide) (by decide) (by omega))).trans (SK678.st (by decide) (by decide) (by omega))).trans (SK678.st (by decide) (by decide) (by omega))
  · exact SK678.st (by decide) (by decide) (by omega)
theorem SK678.one {X : Nat → Tx} {s : Int × Tn} {p : Nat} : SK678 s.2 (sOne X s p).2 := by
  unfold sOne
  simp only []
  refine SK678.trans ?_ (SK678.st (by decide) (by decide) (by omega))
  split
  · exact SK678.tr
  · exact SK678.refl
theorem SK678.all {X : Nat → Tx} {τ : Tn} : ∀ n, SK678 τ (sAll X τ n).2
  | 0 => SK678.refl
  | n + 1 => (SK678.all n).trans SK678.one
theorem SK678.endd {τ : Tn} : SK678 τ (sEnd τ) := by
  refine ⟨?_, fun p => ?_, fun p => ?_⟩ <;> (unfold sEnd; rw [if_neg (by omega), if_neg (by omega)])
theorem SK678.min {X : Nat → Tx} {τ : Tn} : SK678 τ (sMin X τ).2 := (SK678.all _).trans SK678.endd
theorem JNV.now {nT tn : Nat} {X : Nat → Tx} {τ τ' τi : Tn} {img : Bool} {tp ss sz : Nat → Int} {cl : Nat → Nat → Int} (h : JNV (nT, X, τ, img, τi, tn, tp, ss, sz, cl)) (hw : WF nT τ') (hc : τ' 8 1 ≤ 9999) (hk : SK678 τ τ') : JNV (nT, X, τ', img, τi, tn, tp, ss, sz, cl) := by
  obtain ⟨⟨h1, h2, h3, h4, h5⟩, h6⟩ := h
  refine ⟨⟨h1, ⟨hw, hc⟩, h3, h4, h5⟩, fun hi => ?_⟩
  have := h6 hi
  exact ⟨by rw [hk.1]; exact this.1, fun p hp => ⟨(this.2 p hp).1.trans (hk.2.1 p).symm, (this.2 p hp).2.trans (hk.2.2 p).symm⟩⟩
theorem JNV.come {nT tn : Nat} {X : Nat → Tx} {τ τi : Tn} {img : Bool} {tp ss sz : Nat → Int} {cl : Nat → Nat → Int} {km de : Int} (h : JNV (nT, X, τ, img, τi, tn, tp, ss, sz, cl)) : JNV (nT, X, sComeT τ km de, img, τi, tn, tp, ss, sz, cl) := by
  obtain ⟨⟨h1, h2, h3, h4, h5⟩, h6⟩ := h
  refine ⟨⟨h1, ⟨sComeT_wf h2.1, by rw [sComeT_81 (by decide)]; exact h2.2⟩, h3, h4, h5⟩, fun hi => ?_⟩
  have := h6 hi
  have h0 := h2.1.1
  unfold sComeT
  split
  · rw [st_self]
    refine ⟨by omega, fun p hp => ?_⟩
    have hne : p ≠ (τ 8 0).toNat := by omega
    rw [st_ne (f := 8) (g := 6) (Or.inl (by decide)), st_ne (f := 5) (g := 6) (Or.inl (by decide)), st_ne (f := 4) (g := 6) (Or.inl (by decide)), st_ne (f := 3) (g := 6) (Or.inl (by decide)), st_ne (f := 7) (g := 6) (Or.inl (by decide)), st_ne (Or.inr hne),
      st_ne (f := 8) (g := 7) (Or.inl (by decide)), st_ne (f := 5) (g := 7) (Or.inl (by decide)), st_ne (f := 4) (g := 7) (Or.inl (by decide)), st_ne (f := 3) (g := 7) (Or.inl (by decide)), st_ne (f := 7) (g := 7) (Or.inr hne), st_ne (Or.inl (by decide))]
    exact this.2 p hp
  · exact this
theorem JNV.pb {nT tn : Nat} {X : Nat → Tx} {τi : Tn} {img : Bool} {tp ss sz : Nat → Int} {cl : Nat → Nat → Int} {g : Nat → Int} {z f : Int} : ∀ (m k : Nat) (c : Int) (τ : Tn), JNV (nT, X, τ, img, τi, tn, tp, ss, sz, cl) → JNV (nT, X, (pB g z f m k c τ).2, img, τi, tn, tp, ss, sz, cl)
  | 0, _, _, _, h => h
  | m + 1, k, c, τ, h => by
    simp only [pB]
    split
    · exact JNV.pb m (k + 1) _ _ h.come
    · exact h
theorem t_town_j {S : SS} (h : JNV S) {w d v : Int} : JNV (t_town S w d v) := by
  obtain ⟨nT, X, τ, img, τi, tn, tp, ss, sz, cl⟩ := S
  have hw := h.1.2.1
  unfold t_town
  simp only []
  (repeat' split)
  · exact h
  · exact h.now (hw.1.clk (by omega)) (by rw [st_self]; omega) (SK678.st (by decide) (by decide) (by omega))
  · exact h
  · exact h.now (hw.1.put (by omega)) (by rw [st_ne (Or.inl (by decide))]; exact hw.2) (SK678.st (by decide) (by decide) (by omega))
  · exact h
  · have := hw.1.1
    exact h.now (hw.1.put (by omega)) (by rw [st_ne (Or.inl (by decide))]; exact hw.2) (SK678.st (by decide) (by decide) (by omega))
  · exact h
theorem t_force_j {S : SS} (h : JNV S) {t : Int} : JNV (t_force S t) := by
  obtain ⟨nT, X, τ, img, τi, tn, tp, ss, sz, cl⟩ := S
  have hw := h.1.2.1
  unfold t_force
  simp only []
  split
  · obtain ⟨k, rfl⟩ : ∃ k : Nat, t = k := ⟨t.toNat, by omega⟩
    exact h.now (hw.1.law (by omega)) (by rw [st_ne (Or.inr (by decide))]; exact hw.2) (SK678.st (by decide) (by decide) (by omega))
  · exact h
theorem t_citizen_j {S : SS} (h : JNV S) {a b : Int} : JNV (t_citizen S a b) := by
  obtain ⟨nT, X, τ, img, τi, tn, tp, ss, sz, cl⟩ := S
  exact h.come
theorem t_put_j {S : SS} (h : JNV S) {p w v : Int} : JNV (t_put S p w v) := by
  obtain ⟨nT, X, τ, img, τi, tn, tp, ss, sz, cl⟩ := S
  have hw := h.1.2.1
  unfold t_put
  simp only []
  (repeat' split)
  · exact h
  · exact h.now (hw.1.put (by omega)) (by rw [st_ne (Or.inl (by decide))]; exact hw.2) (SK678.st (by decide) (by decide) (by omega))
  · exact h.now (hw.1.put (by omega)) (by rw [st_ne (Or.inl (by decide))]; exact hw.2) (SK678.st (by decide) (by decide) (by omega))
  · exact h
theorem t_twist_j {S : SS} (h : JNV S) {p : Int} : JNV (t_twist S p) := by
  obtain ⟨nT, X, τ, img, τi, tn, tp, ss, sz, cl⟩ := S
  have hw := h.1.2.1
  have h0 := hw.1.1
  unfold t_twist
  simp only []
  split
  · have hp := (hw.1.p (p := p.toNat) (by omega)).1
    exact h.now (sTry_wf hw.1 (by omega) (by omega)) (by rw [sTry_8]; exact hw.2) SK678.tr
  · exact h
theorem t_give_j {S : SS} (h : JNV S) {p q m : Int} : JNV (t_give S p q m) := by
  obtain ⟨nT, X, τ, img, τi, tn, tp, ss, sz, cl⟩ := S
  have hw := h.1.2.1
  have h0 := hw.1.1
  unfold t_give
  simp only []
  (repeat' split)
  · exact h
  · exact h
  · exact h
  · have hp := (hw.1.p (p := p.toNat) (by omega)).2.1
    have hq := (hw.1.p (p := q.toNat) (by omega)).2.1
    exact h.now ((hw.1.put (by omega)).put (by omega)) (by rw [st_ne (Or.inl (by decide)), st_ne (Or.inl (by decide))]; exact hw.2) ((SK678.st (by decide) (by decide) (by omega)).trans (SK678.st (by decide) (by decide) (by omega)))
theorem t_minute_j {S : SS} (h : JNV S) : JNV (t_minute S) := by
  obtain ⟨nT, X, τ, img, τi, tn, tp, ss, sz, cl⟩ := S
  have hw := h.1.2.1
  unfold t_minute
  simp only []
  split
  · exact h
  · exact h.now (sMin_wf hw.1) (by rw [sMin_clk]; omega) SK678.min
theorem t_text_j {S : SS} (h : JNV S) : JNV (t_text S) := by
  obtain ⟨nT, X, τ, img, τi, tn, tp, ss, sz, cl⟩ := S
  obtain ⟨⟨h1, h2, h3, h4, h5⟩, h6⟩ := h
  unfold t_text
  simp only []
  split
  · exact ⟨⟨h1, h2, h3, h4, h5⟩, h6⟩
  · split
    · exact ⟨⟨h1, h2, h3, ⟨Nat.zero_le _, fun i hi => absurd hi (Nat.not_lt_zero _)⟩, h5⟩, h6⟩
    · exact ⟨⟨by omega, ⟨h2.1.mono (by omega), h2.2⟩, fun hi => ⟨(h3 hi).1.mono (by omega), (h3 hi).2⟩, ⟨Nat.zero_le _, fun i hi => absurd hi (Nat.not_lt_zero _)⟩, h5⟩, h6⟩
theorem t_feed_j {S : SS} (h : JNV S) {n a b c d e : Int} : JNV (t_feed S n a b c d e) := by
  obtain ⟨nT, X, τ, img, τi, tn, tp, ss, sz, cl⟩ := S
  obtain ⟨⟨h1, h2, h3, h4, h5⟩, h6⟩ := h
  unfold t_feed
  simp only []
  split
  · exact ⟨⟨h1, h2, h3, h4, h5⟩, h6⟩
  · rename_i hc
    have hc1 : fd_ok n a b c d e := Classical.not_not.mp (fun w => hc (Or.inl w))
    have hc2 : ¬ 160 < (tn : Int) + n := fun w => hc (Or.inr w)
    have hn := hc1.1
    refine ⟨⟨h1, h2, h3, ⟨by omega, fun i hi => ?_⟩, h5⟩, h6⟩
    unfold fdt
    split
    · exact fdb_in hc1 _
    · exact h4.2 i (by omega)
theorem JNV.sheet {nT tn : Nat} {X : Nat → Tx} {τ τi : Tn} {img : Bool} {tp ss sz : Nat → Int} {cl : Nat → Nat → Int} (h : JNV (nT, X, τ, img, τi, tn, tp, ss, sz, cl)) {s : Nat} {a b : Int} {g : Nat → Int} (ha : -1 ≤ a ∧ a ≤ 2) (hb : 0 ≤ b ∧ b ≤ 40) (hab : a = -1 → b = 0) (hg : ∀ i, i < 40 → ib (g i)) : JNV (nT, X, τ, img, τi, tn, tp, upS ss s a, upS sz s b, upC cl s g) := by
  obtain ⟨⟨h1, h2, h3, h4, h5⟩, h6⟩ := h
  refine ⟨⟨h1, h2, h3, h4, fun k hk => ?_⟩, h6⟩
  by_cases e : k = s
  · subst e
    rw [upS_self, upS_self, upC_self]
    exact ⟨ha, hb, hab, hg⟩
  · rw [upS_ne e, upS_ne e, upC_ne e]
    exact h5 k hk
theorem JNV.cells {nT tn : Nat} {X : Nat → Tx} {τ τi : Tn} {img : Bool} {tp ss sz : Nat → Int} {cl : Nat → Nat → Int} (h : JNV (nT, X, τ, img, τi, tn, tp, ss, sz, cl)) {s : Nat} {g : Nat → Int} (hg : ∀ i, i < 40 → ib (g i)) : JNV (nT, X, τ, img, τi, tn, tp, ss, sz, upC cl s g) := by
  obtain ⟨⟨h1, h2, h3, h4, h5⟩, h6⟩ := h
  refine ⟨⟨h1, h2, h3, h4, fun k hk => ?_⟩, h6⟩
  by_cases e : k = s
  · subst e
    rw [upC_self]
    exact ⟨(h5 k hk).1, (h5 k hk).2.1, (h5 k hk).2.2.1, hg⟩
  · rw [upC_ne e]
    exact h5 k hk
theorem t_film_j {S : SS} (h : JNV S) {s p n : Int} : JNV (t_film S s p n) := by
  obtain ⟨nT, X, τ, img, τi, tn, tp, ss, sz, cl⟩ := S
  have hw := h.1.2.1
  have h0 := hw.1.1
  unfold t_film
  simp only []
  split
  · exact h
  · refine h.sheet (by omega) (by omega) (by omega) (fun i hi => ?_)
    unfold fl_c
    split
    · have := ((sRun_wf (X := X) hw.1 (i + 1)).p (p := p.toNat) (by omega)).2.1
      omega
    · omega
theorem t_sheet_j {S : SS} (h : JNV S) {s a n : Int} : JNV (t_sheet S s a n) := by
  obtain ⟨nT, X, τ, img, τi, tn, tp, ss, sz, cl⟩ := S
  unfold t_sheet
  simp only []
  split
  · exact h
  · refine h.sheet (by omega) (by split <;> omega) (fun e => if_pos e) (fun i hi => by omega)
theorem t_cell_j {S : SS} (h : JNV S) {s i v : Int} (hv : ib v) : JNV (t_cell S s i v) := by
  obtain ⟨nT, X, τ, img, τi, tn, tp, ss, sz, cl⟩ := S
  have h5 := h.1.2.2.2.2
  unfold t_cell
  simp only []
  split
  · exact h
  · refine h.cells (fun j hj => ?_)
    unfold upS
    split
    · exact wr_ib hv
    · exact (h5 s.toNat (by omega)).2.2.2 j hj
theorem t_copy_j {S : SS} (h : JNV S) {s i o j n : Int} : JNV (t_copy S s i o j n) := by
  obtain ⟨nT, X, τ, img, τi, tn, tp, ss, sz, cl⟩ := S
  have h5 := h.1.2.2.2.2
  unfold t_copy
  simp only []
  split
  · exact h
  · have hs := h5 s.toNat (by omega)
    have ho := h5 o.toNat (by omega)
    refine h.cells (fun k hk => ?_)
    split
    · exact hs.2.2.2 _ (by omega)
    · exact ho.2.2.2 k hk
theorem t_peopleBy_j {S : SS} (h : JNV S) {s a f n : Int} : JNV (t_peopleBy S s a f n) := by
  obtain ⟨nT, X, τ, img, τi, tn, tp, ss, sz, cl⟩ := S
  unfold t_peopleBy
  simp only []
  split
  · exact h
  · exact JNV.pb _ _ _ _ h
theorem t_image_j {S : SS} (h : JNV S) : JNV (t_image S) := by
  refine ⟨t_image_inv h.1, ?_⟩
  obtain ⟨nT, X, τ, img, τi, tn, tp, ss, sz, cl⟩ := S
  exact fun _ => ⟨Int.le_refl _, fun p hp => ⟨rfl, rfl⟩⟩
theorem t_back_j {S : SS} (h : JNV S) : JNV (t_back S) := by
  refine ⟨t_back_inv h.1, ?_⟩
  obtain ⟨nT, X, τ, img, τi, tn, tp, ss, sz, cl⟩ := S
  unfold t_back
  simp only []
  split
  · exact fun _ => ⟨Int.le_refl _, fun p hp => ⟨rfl, rfl⟩⟩
  · exact h.2

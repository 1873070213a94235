/-! the reference's memory -/
def Fm (P : Nat → Nat → Prop) (M M2 : Mem) : Prop := ∀ c i, ¬ P c i → M2 c i = M c i
theorem Fm.refl {P : Nat → Nat → Prop} {M : Mem} : Fm P M M := fun _ _ _ => rfl
theorem Fm.trans {P : Nat → Nat → Prop} {M M2 M3 : Mem} (h : Fm P M M2) (h2 : Fm P M2 M3) : Fm P M M3 := fun c i hc => (h2 c i hc).trans (h c i hc)
theorem Fm.mono {P Q : Nat → Nat → Prop} {M M2 : Mem} (h : Fm P M M2) (hPQ : ∀ c i, P c i → Q c i) : Fm Q M M2 := fun c i hc => h c i (fun w => hc (hPQ c i w))
theorem Fm.up {P : Nat → Nat → Prop} {M M2 : Mem} {k i : Nat} {v : Int} (h : Fm P M M2) (hk : P k i) : Fm P M (upM M2 k i v) := fun c j hc => by
  rw [upM_ne (by
    by_cases e : c = k
    · exact Or.inr (fun e2 => hc (by rw [e, e2]; exact hk))
    · exact Or.inl e)]
  exact h c j hc
/-- scratch of says; a town that goes on; and what was kept -/
abbrev mS (c _i : Nat) : Prop := c = 16 ∨ c = 17
abbrev mT (c i : Nat) : Prop := c = 16 ∨ c = 17 ∨ c = 3 ∨ c = 4 ∨ (c = 0 ∧ i = 5)
abbrev mK (c i : Nat) : Prop := c = 16 ∨ c = 17 ∨ c = 18 ∨ c = 3 ∨ c = 4 ∨ (c = 0 ∧ i = 5)
theorem Fm.sT {M M2 : Mem} (h : Fm mS M M2) : Fm mT M M2 := h.mono (fun c i w => by omega)
theorem Fm.sK {M M2 : Mem} (h : Fm mS M M2) : Fm mK M M2 := h.mono (fun c i w => by omega)
theorem Fm.tK {M M2 : Mem} (h : Fm mT M M2) : Fm mK M M2 := h.mono (fun c i w => by omega)
def TM (M : Mem) (τ : Tn) : Prop := (∀ p, p < 6 → ∀ j, j < 3 → M 3 (3 * p + j) = τ (3 + j) p) ∧ (∀ d, d < 8 → ∀ j, j < 3 → M 4 (3 * d + j) = τ j d) ∧ M 0 0 = τ 8 0 ∧ M 0 5 = τ 8 1 ∧ M 0 11 = τ 8 2 ∧ ∀ p : Nat, (p : Int) < τ 8 0 → M 1 p = τ 6 p ∧ M 2 p = τ 7 p
theorem TM.e3 {M : Mem} {τ : Tn} (h : TM M τ) {p : Nat} (hp : p < 6) : M 3 (3 * p) = τ 3 p := h.1 p hp 0 (by decide)
theorem TM.e4 {M : Mem} {τ : Tn} (h : TM M τ) {p : Nat} (hp : p < 6) : M 3 (3 * p + 1) = τ 4 p := h.1 p hp 1 (by decide)
theorem TM.e5 {M : Mem} {τ : Tn} (h : TM M τ) {p : Nat} (hp : p < 6) : M 3 (3 * p + 2) = τ 5 p := h.1 p hp 2 (by decide)
theorem TM.e0 {M : Mem} {τ : Tn} (h : TM M τ) {d : Nat} (hd : d < 8) : M 4 (3 * d) = τ 0 d := h.2.1 d hd 0 (by decide)
theorem TM.e1 {M : Mem} {τ : Tn} (h : TM M τ) {d : Nat} (hd : d < 8) : M 4 (3 * d + 1) = τ 1 d := h.2.1 d hd 1 (by decide)
theorem TM.e2 {M : Mem} {τ : Tn} (h : TM M τ) {d : Nat} (hd : d < 8) : M 4 (3 * d + 2) = τ 2 d := h.2.1 d hd 2 (by decide)
theorem TM.people {M : Mem} {τ : Tn} (h : TM M τ) : M 0 0 = τ 8 0 := h.2.2.1
theorem TM.clock {M : Mem} {τ : Tn} (h : TM M τ) : M 0 5 = τ 8 1 := h.2.2.2.1
theorem TM.rule {M : Mem} {τ : Tn} (h : TM M τ) : M 0 11 = τ 8 2 := h.2.2.2.2.1
theorem TM.e6 {M : Mem} {τ : Tn} (h : TM M τ) {p : Nat} (hp : (p : Int) < τ 8 0) : M 1 p = τ 6 p := (h.2.2.2.2.2 p hp).1
theorem TM.e7 {M : Mem} {τ : Tn} (h : TM M τ) {p : Nat} (hp : (p : Int) < τ 8 0) : M 2 p = τ 7 p := (h.2.2.2.2.2 p hp).2
theorem TM.fr {P : Nat → Nat → Prop} {M M2 : Mem} {τ : Tn} (h : TM M τ) (hF : Fm P M M2) (hP : ∀ c i, P c i → c ≠ 1 ∧ c ≠ 2 ∧ c ≠ 3 ∧ c ≠ 4 ∧ (c = 0 → i ≠ 0 ∧ i ≠ 5 ∧ i ≠ 11)) : TM M2 τ := by
  have off : ∀ c i, (c = 1 ∨ c = 2 ∨ c = 3 ∨ c = 4 ∨ (c = 0 ∧ (i = 0 ∨ i = 5 ∨ i = 11))) → M2 c i = M c i := fun c i hc => hF c i (fun w => by have := hP c i w; omega)
  exact ⟨fun p hp j hj => (off _ _ (by omega)).trans (h.1 p hp j hj), fun d hd j hj => (off _ _ (by omega)).trans (h.2.1 d hd j hj), (off _ _ (by omega)).trans h.people, (off _ _ (by omega)).trans h.clock, (off _ _ (by omega)).trans h.rule, fun p hp => ⟨(off _ _ (by omega)).trans (h.e6 hp), (off _ _ (by omega)).trans (h.e7 hp)⟩⟩
theorem TM.sc {M M2 : Mem} {τ : Tn} (h : TM M τ) (hF : Fm mS M M2) : TM M2 τ := h.fr hF (fun c i w => by omega)
theorem TM.uR {M : Mem} {τ : Tn} (h : TM M τ) {p j : Nat} {v : Int} (hj : j < 3) : TM (upM M 3 (3 * p + j) v) (st τ (3 + j) p v) := by
  refine ⟨fun q hq k hk => ?_, fun d hd k hk => ?_, ?_, ?_, ?_, fun q hq => ?_⟩
  · by_cases e : q = p ∧ k = j
    · obtain ⟨rfl, rfl⟩ := e
      rw [upM_self, st_self]
    · rw [upM_ne (by omega), st_ne (by omega)]; exact h.1 q hq k hk
  · rw [upM_ne (by omega), st_ne (by omega)]; exact h.2.1 d hd k hk
  · rw [upM_ne (by omega), st_ne (by omega)]; exact h.people
  · rw [upM_ne (by omega), st_ne (by omega)]; exact h.clock
  · rw [upM_ne (by omega), st_ne (by omega)]; exact h.rule
  · rw [st_ne (by omega)] at hq
    rw [upM_ne (by omega), st_ne (by omega), upM_ne (by omega), st_ne (by omega)]
    exact ⟨h.e6 hq, h.e7 hq⟩
theorem TM.uD {M : Mem} {τ : Tn} (h : TM M τ) {d j : Nat} {v : Int} (hj : j < 3) : TM (upM M 4 (3 * d + j) v) (st τ j d v) := by
  refine ⟨fun q hq k hk => ?_, fun e he k hk => ?_, ?_, ?_, ?_, fun q hq => ?_⟩
  · rw [upM_ne (by omega), st_ne (by omega)]; exact h.1 q hq k hk
  · by_cases w : e = d ∧ k = j
    · obtain ⟨rfl, rfl⟩ := w
      rw [upM_self, st_self]
    · rw [upM_ne (by omega), st_ne (by omega)]; exact h.2.1 e he k hk
  · rw [upM_ne (by omega), st_ne (by omega)]; exact h.people
  · rw [upM_ne (by omega), st_ne (by omega)]; exact h.clock
  · rw [upM_ne (by omega), st_ne (by omega)]; exact h.rule
  · rw [st_ne (by omega)] at hq
    rw [upM_ne (by omega), st_ne (by omega), upM_ne (by omega), st_ne (by omega)]
    exact ⟨h.e6 hq, h.e7 hq⟩
theorem TM.u3 {M : Mem} {τ : Tn} (h : TM M τ) {p : Nat} {v : Int} : TM (upM M 3 (3 * p) v) (st τ 3 p v) := h.uR (j := 0) (by decide)
theorem TM.u4 {M : Mem} {τ : Tn} (h : TM M τ) {p : Nat} {v : Int} : TM (upM M 3 (3 * p + 1) v) (st τ 4 p v) := h.uR (j := 1) (by decide)
theorem TM.u5 {M : Mem} {τ : Tn} (h : TM M τ) {p : Nat} {v : Int} : TM (upM M 3 (3 * p + 2) v) (st τ 5 p v) := h.uR (j := 2) (by decide)
theorem TM.u0 {M : Mem} {τ : Tn} (h : TM M τ) {d : Nat} {v : Int} : TM (upM M 4 (3 * d) v) (st τ 0 d v) := h.uD (j := 0) (by decide)
theorem TM.u1 {M : Mem} {τ : Tn} (h : TM M τ) {d : Nat} {v : Int} : TM (upM M 4 (3 * d + 1) v) (st τ 1 d v) := h.uD (j := 1) (by decide)
theorem TM.u2 {M : Mem} {τ : Tn} (h : TM M τ) {d : Nat} {v : Int} : TM (upM M 4 (3 * d + 2) v) (st τ 2 d v) := h.uD (j := 2) (by decide)
theorem TM.uclock {M : Mem} {τ : Tn} (h : TM M τ) {v : Int} : TM (upM M 0 5 v) (st τ 8 1 v) :=
  ⟨fun q hq k hk => by rw [upM_ne (by omega), st_ne (by omega)]; exact h.1 q hq k hk, fun e he k hk => by rw [upM_ne (by omega), st_ne (by omega)]; exact h.2.1 e he k hk, by rw [upM_ne (by omega), st_ne (by omega)]; exact h.people, by rw [upM_self, st_self], by rw [upM_ne (by omega), st_ne (by omega)]; exact h.rule, fun q hq => by
    rw [st_ne (by omega)] at hq
    rw [upM_ne (by omega), st_ne (by omega), upM_ne (by omega), st_ne (by omega)]
    exact ⟨h.e6 hq, h.e7 hq⟩⟩
theorem TM.urule {M : Mem} {τ : Tn} (h : TM M τ) {v : Int} : TM (upM M 0 11 v) (st τ 8 2 v) :=
  ⟨fun q hq k hk => by rw [upM_ne (by omega), st_ne (by omega)]; exact h.1 q hq k hk, fun e he k hk => by rw [upM_ne (by omega), st_ne (by omega)]; exact h.2.1 e he k hk, by rw [upM_ne (by omega), st_ne (by omega)]; exact h.people, by rw [upM_ne (by omega), st_ne (by omega)]; exact h.clock, by rw [upM_self, st_self], fun q hq => by
    rw [st_ne (by omega)] at hq
    rw [upM_ne (by omega), st_ne (by omega), upM_ne (by omega), st_ne (by omega)]
    exact ⟨h.e6 hq, h.e7 hq⟩⟩
theorem TM.u6 {M : Mem} {τ : Tn} (h : TM M τ) {p : Nat} {v : Int} : TM (upM M 1 p v) (st τ 6 p v) :=
  ⟨fun q hq k hk => by rw [upM_ne (by omega), st_ne (by omega)]; exact h.1 q hq k hk, fun e he k hk => by rw [upM_ne (by omega), st_ne (by omega)]; exact h.2.1 e he k hk, by rw [upM_ne (by omega), st_ne (by omega)]; exact h.people, by rw [upM_ne (by omega), st_ne (by omega)]; exact h.clock, by rw [upM_ne (by omega), st_ne (by omega)]; exact h.rule, fun q hq => by
    rw [st_ne (by omega)] at hq
    refine ⟨?_, by rw [upM_ne (by omega), st_ne (by omega)]; exact h.e7 hq⟩
    by_cases e : q = p
    · subst e; rw [upM_self, st_self]
    · rw [upM_ne (by omega), st_ne (by omega)]; exact h.e6 hq⟩
theorem TM.u7 {M : Mem} {τ : Tn} (h : TM M τ) {p : Nat} {v : Int} : TM (upM M 2 p v) (st τ 7 p v) :=
  ⟨fun q hq k hk => by rw [upM_ne (by omega), st_ne (by omega)]; exact h.1 q hq k hk, fun e he k hk => by rw [upM_ne (by omega), st_ne (by omega)]; exact h.2.1 e he k hk, by rw [upM_ne (by omega), st_ne (by omega)]; exact h.people, by rw [upM_ne (by omega), st_ne (by omega)]; exact h.clock, by rw [upM_ne (by omega), st_ne (by omega)]; exact h.rule, fun q hq => by
    rw [st_ne (by omega)] at hq
    refine ⟨by rw [upM_ne (by omega), st_ne (by omega)]; exact h.e6 hq, ?_⟩
    by_cases e : q = p
    · subst e; rw [upM_self, st_self]
    · rw [upM_ne (by omega), st_ne (by omega)]; exact h.e7 hq⟩
def XM (M : Mem) (nT : Nat) (X : Nat → Tx) : Prop := nT ≤ 6 ∧ ∀ t, t < nT → (∀ i, i < ((X t).2 3).toNat → M 6 (200 * t + i) = (X t).1 i) ∧ (∀ j, j < 4 → M 7 (4 * t + j) = (X t).2 j) ∧ okT (X t)
theorem XM.fr {P : Nat → Nat → Prop} {M M2 : Mem} {nT : Nat} {X : Nat → Tx} (h : XM M nT X) (hF : Fm P M M2) (hP : ∀ c i, P c i → c ≠ 6 ∧ c ≠ 7) : XM M2 nT X :=
  ⟨h.1, fun t ht => ⟨fun i hi => (hF _ _ (fun w => (hP _ _ w).1 rfl)).trans ((h.2 t ht).1 i hi), fun j hj => (hF _ _ (fun w => (hP _ _ w).2 rfl)).trans ((h.2 t ht).2.1 j hj), (h.2 t ht).2.2⟩⟩
theorem XM.sc {M M2 : Mem} {nT : Nat} {X : Nat → Tx} (h : XM M nT X) (hF : Fm mS M M2) : XM M2 nT X := h.fr hF (fun c i w => by omega)
theorem XM.tn {M M2 : Mem} {nT : Nat} {X : Nat → Tx} (h : XM M nT X) (hF : Fm mT M M2) : XM M2 nT X := h.fr hF (fun c i w => by omega)
def IM (M : Mem) (τi : Tn) : Prop := (∀ p, p < 6 → ∀ j, j < 3 → M 8 (3 * p + j) = τi (3 + j) p) ∧ (∀ d, d < 8 → ∀ j, j < 3 → M 8 (18 + (3 * d + j)) = τi j d) ∧ M 9 0 = τi 8 0 ∧ M 9 1 = τi 8 1 ∧ M 9 2 = τi 8 2
def KP (M : Mem) (τ : Tn) : Prop := (∀ p, p < 6 → ∀ j, j < 3 → M 18 (3 * p + j) = τ (3 + j) p) ∧ (∀ d, d < 8 → ∀ j, j < 3 → M 18 (18 + (3 * d + j)) = τ j d) ∧ M 18 42 = τ 8 1
theorem KP.fr {P : Nat → Nat → Prop} {M M2 : Mem} {τ : Tn} (h : KP M τ) (hF : Fm P M M2) (hP : ∀ i, ¬ P 18 i) : KP M2 τ :=
  ⟨fun p hp j hj => (hF _ _ (hP _)).trans (h.1 p hp j hj), fun p hp j hj => (hF _ _ (hP _)).trans (h.2.1 p hp j hj), (hF _ _ (hP _)).trans h.2.2⟩
theorem KP.tn {M M2 : Mem} {τ : Tn} (h : KP M τ) (hF : Fm mT M M2) : KP M2 τ := h.fr hF (fun i w => by omega)
def mwl : List (List Int) := [wl.getD 0 [], wl.getD 1 [], wl.getD 2 [], wl.getD 6 [], wl.getD 7 [], wl.getD 8 [], wl.getD 9 [], wl.getD 10 [], wl.getD 11 [], wl.getD 3 [], wl.getD 4 [], wl.getD 5 []]
def wc (i : Nat) : Int := (mwl.getD (i / 8) []).getD (i % 8) 32
/-- all but the town -/
def RR (M : Mem) : SS → Prop
  | (nT, X, _, img, τi, tn, tp, ss, sz, cl) => XM M nT X ∧ M 0 10 = nT ∧ M 0 12 = bi img ∧ (img = true → IM M τi) ∧ (M 0 7 = tn ∧ ∀ i, i < tn → M 5 i = tp i) ∧ (∀ s, s < 4 → M 10 s = ss s ∧ M 11 s = sz s ∧ ∀ i, i < 40 → M 12 (40 * s + i) = cl s i) ∧ ∀ i, i < 96 → M 14 i = wc i
def RM (M : Mem) (S : SS) : Prop := TM M S.2.2.1 ∧ RR M S
theorem RR.fr {P : Nat → Nat → Prop} {M M2 : Mem} {S : SS} (h : RR M S) (hF : Fm P M M2) (hP : ∀ c i, P c i → c ≠ 5 ∧ c ≠ 6 ∧ c ≠ 7 ∧ c ≠ 8 ∧ c ≠ 9 ∧ c ≠ 10 ∧ c ≠ 11 ∧ c ≠ 12 ∧ c ≠ 14 ∧ (c = 0 → i ≠ 7 ∧ i ≠ 10 ∧ i ≠ 12)) : RR M2 S := by
  obtain ⟨nT, X, τ, img, τi, tn, tp, ss, sz, cl⟩ := S
  have off : ∀ c i, (c = 5 ∨ c = 6 ∨ c = 7 ∨ c = 8 ∨ c = 9 ∨ c = 10 ∨ c = 11 ∨ c = 12 ∨ c = 14 ∨ (c = 0 ∧ (i = 7 ∨ i = 10 ∨ i = 12))) → M2 c i = M c i := fun c i hc => hF c i (fun w => by have := hP c i w; omega)
  obtain ⟨h1, h2, h3, h4, h5, h6, h7⟩ := h
  refine ⟨h1.fr hF (fun c i w => by have := hP c i w; omega), (off _ _ (by omega)).trans h2, (off _ _ (by omega)).trans h3, fun hi => ?_, ⟨(off _ _ (by omega)).trans h5.1, fun i hi => (off _ _ (by omega)).trans (h5.2 i hi)⟩, fun s hs => ⟨(off _ _ (by omega)).trans (h6 s hs).1, (off _ _ (by omega)).trans (h6 s hs).2.1, fun i hi => (off _ _ (by omega)).trans ((h6 s hs).2.2 i hi)⟩, fun i hi => (off _ _ (by omega)).trans (h7 i hi)⟩
  have g := h4 hi
  exact ⟨fun p hp j hj => (off _ _ (by omega)).trans (g.1 p hp j hj), fun p hp j hj => (off _ _ (by omega)).trans (g.2.1 p hp j hj), (off _ _ (by omega)).trans g.2.2.1, (off _ _ (by omega)).trans g.2.2.2.1, (off _ _ (by omega)).trans g.2.2.2.2⟩
theorem r_ialX {k : MD} {G : List GD} {n : Nat} {post : Option PV → Mem → Prop} {z : ZZ} {pc pc2 : Nat} {L : List (Option PV)} {S : List PV} {M : Mem} {q N i : Nat} {a v : Int} (hd : Dk k pc .iaload 1 pc2) (hg : G[q]? = some (.inr (.inl N))) (he : M q i = v) (ha : a = (i : Int)) (hi : i < N) (hN : N < 2147483648) (kk : WP k G n post z pc2 L (iv v :: S) M) : WP k G n post z pc L (iv a :: rv q :: S) M := by
  subst ha
  exact r_ialN hd hg hi hN he kk
theorem r_iasX {k : MD} {G : List GD} {n : Nat} {post : Option PV → Mem → Prop} {z : ZZ} {pc pc2 : Nat} {L : List (Option PV)} {S : List PV} {M : Mem} {q N : Nat} {a v : Int} (i : Nat) (hd : Dk k pc .iastore 1 pc2) (hg : G[q]? = some (.inr (.inl N))) (ha : a = (i : Int)) (hi : i < N) (hN : N < 2147483648) (hv : ib v) (kk : WP k G n post z pc2 L S (upM M q i v)) : WP k G n post z pc L (iv v :: iv a :: rv q :: S) M := by
  subst ha
  exact r_iasN hd hg hi hN hv kk
theorem r_eq {k : MD} {G : List GD} {n : Nat} {post : Option PV → Mem → Prop} {z : ZZ} {pc : Nat} {L : List (Option PV)} {S : List PV} {M : Mem} {a : Int} (b : Int) (h : a = b) (kk : WP k G n post z pc L (iv b :: S) M) : WP k G n post z pc L (iv a :: S) M := by
  subst h
  exact kk

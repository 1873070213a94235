/-! the class's memory: frames, towns, texts -/
def Fr (P : Nat → Bool) (M M2 : Mem) : Prop := ∀ c i, P c = false → M2 c i = M c i
theorem Fr.refl {P : Nat → Bool} {M : Mem} : Fr P M M := fun _ _ _ => rfl
theorem Fr.trans {P : Nat → Bool} {M M2 M3 : Mem} (h : Fr P M M2) (h2 : Fr P M2 M3) : Fr P M M3 := fun c i hc => (h2 c i hc).trans (h c i hc)
theorem Fr.mono {P Q : Nat → Bool} {M M2 : Mem} (h : Fr P M M2) (hPQ : ∀ c, Q c = false → P c = false) : Fr Q M M2 := fun c i hc => h c i (hPQ c hc)
theorem Fr.up {P : Nat → Bool} {M M2 : Mem} {k i : Nat} {v : Int} (h : Fr P M M2) (hk : P k = true) : Fr P M (upM M2 k i v) := fun c j hc => by
  rw [upM_ne (Or.inl (fun e => by rw [e, hk] at hc; cases hc))]
  exact h c j hc
def enc (c : Int) : Int := if 100000 ≤ c then c - 100000 else if c < 11 then -(262 + c) else if c = 11 then -259 else if c = 12 then -260 else if c = 13 then -261 else if c = 14 then -60 else if c = 15 then -61 else if c = 16 then -43 else if c = 17 then -45 else if c = 18 then -42 else -301
theorem enc_num {c : Int} (h : 100000 ≤ c) : enc c = c - 100000 := by unfold enc; rw [if_pos h]
theorem enc_name {c : Int} (h : c < 11) : enc c = -(262 + c) := by unfold enc; rw [if_neg (by omega), if_pos h]
def TextX (M : Mem) (c : Nat) (T : Tx) : Prop := (∀ i, i < (T.2 3).toNat → M (c + 1) i = enc (T.1 i)) ∧ M (c + 2) 0 = T.2 1 ∧ M (c + 2) 1 = T.2 2 ∧ M (c + 2) 2 = T.2 3
theorem TextX.at {M : Mem} {c : Nat} {T : Tx} (h : TextX M c T) {part : Nat} (hp : part < 3) : M (c + 2) part = T.2 (part + 1) := by
  rcases (by omega : part = 0 ∨ part = 1 ∨ part = 2) with rfl | rfl | rfl
  · exact h.2.1
  · exact h.2.2.1
  · exact h.2.2.2
theorem TextX.fr {P : Nat → Bool} {M M2 : Mem} {c : Nat} {T : Tx} (h : TextX M c T) (hF : Fr P M M2) (h1 : P (c + 1) = false) (h2 : P (c + 2) = false) : TextX M2 c T :=
  ⟨fun i hi => (hF _ _ h1).trans (h.1 i hi), (hF _ _ h2).trans h.2.1, (hF _ _ h2).trans h.2.2.1, (hF _ _ h2).trans h.2.2.2⟩
theorem gX0 {t : Nat} (h : t < 6) : GX[36 + 4 * t]? = some (.inl (3, [some (36 + 4 * t + 1), some (36 + 4 * t + 2), some (36 + 4 * t + 3), none])) := by
  rcases (by omega : t = 0 ∨ t = 1 ∨ t = 2 ∨ t = 3 ∨ t = 4 ∨ t = 5) with rfl | rfl | rfl | rfl | rfl | rfl <;> rfl
theorem gX1 {t : Nat} (h : t < 6) : GX[36 + 4 * t + 1]? = some (.inr (.inl 160)) := by
  rcases (by omega : t = 0 ∨ t = 1 ∨ t = 2 ∨ t = 3 ∨ t = 4 ∨ t = 5) with rfl | rfl | rfl | rfl | rfl | rfl <;> rfl
theorem gX2 {t : Nat} (h : t < 6) : GX[36 + 4 * t + 2]? = some (.inr (.inl 3)) := by
  rcases (by omega : t = 0 ∨ t = 1 ∨ t = 2 ∨ t = 3 ∨ t = 4 ∨ t = 5) with rfl | rfl | rfl | rfl | rfl | rfl <;> rfl
theorem gX3 {t : Nat} (h : t < 6) : GX[36 + 4 * t + 3]? = some (.inr (.inl 31)) := by
  rcases (by omega : t = 0 ∨ t = 1 ∨ t = 2 ∨ t = 3 ∨ t = 4 ∨ t = 5) with rfl | rfl | rfl | rfl | rfl | rfl <;> rfl
/-- the stack of a row of cells, its top first -/
def SK (M : Mem) (q : Nat) : List Int → Prop
  | [] => True
  | a :: r => M q r.length = a ∧ SK M q r
theorem SK_up {M : Mem} {q k : Nat} {v : Int} : ∀ {r : List Int}, SK M q r → r.length ≤ k → SK (upM M q k v) q r
  | [], _, _ => trivial
  | a :: r, h, hk => by
    rw [List.length_cons] at hk
    exact ⟨by rw [upM_ne (Or.inr (by omega))]; exact h.1, SK_up h.2 (by omega)⟩
theorem SK_push {M : Mem} {q k : Nat} {v : Int} {r : List Int} (h : SK M q r) (hk : k = r.length) : SK (upM M q k v) q (v :: r) := by
  subst hk
  exact ⟨upM_self, SK_up h (Nat.le_refl _)⟩
theorem ev1_num {e : Nat → Int} {c : Int} {s : List Int} (h : 100000 ≤ c) : ev1 e c s = (c - 100000) :: s := by simp [ev1, h]
theorem ev1_name {e : Nat → Int} {c : Int} {s : List Int} (h : c < 11) : ev1 e c s = e c.toNat :: s := by
  unfold ev1
  rw [if_neg (by omega), if_pos h]
theorem ev1_not {e : Nat → Int} {a : Int} {s : List Int} : ev1 e 13 (a :: s) = (if a = 0 then 1 else 0) :: s := by simp [ev1]
theorem ev1_neg {e : Nat → Int} {a : Int} {s : List Int} : ev1 e 19 (a :: s) = w32 (-a) :: s := by simp [ev1]
theorem ev1_bin {e : Nat → Int} {c y x : Int} {s : List Int} (h : c_bin c) : ev1 e c (y :: x :: s) = tw c x y :: s := by
  unfold c_bin at h
  unfold ev1
  rw [if_neg (by omega), if_neg (by omega)]
  show (if c = 13 then _ else if c = 19 then _ else tw c x y :: s) = _
  rw [if_neg (by omega), if_neg (by omega)]
def xjn (t x y : Int) : Int := if t = 43 then w32 (x + y) else if t = 45 then w32 (x - y) else if t = 60 then (if x < y then 1 else 0) else if t = 61 then (if x = y then 1 else 0) else if t = 259 then (if x ≠ 0 ∨ y ≠ 0 then 1 else 0) else if t = 260 then (if x ≠ 0 ∧ y ≠ 0 then 1 else 0) else w32 (x * y)
theorem xjn_tw {c x y : Int} (h : c_bin c) : xjn (-enc c) x y = tw c x y := by
  unfold c_bin at h
  rcases h with rfl | rfl | rfl | rfl | rfl | rfl | rfl <;> simp [xjn, tw, enc]
theorem xjn_ib (t : Int) {x y : Int} : ib (xjn t x y) := by
  have := w32_ib (x + y)
  have := w32_ib (x - y)
  have := w32_ib (x * y)
  unfold xjn
  split
  · assumption
  · split
    · assumption
    · split
      · split <;> omega
      · split
        · split <;> omega
        · split
          · split <;> omega
          · split
            · split <;> omega
            · assumption
theorem okc_num {cs : Nat → Int} {m i dep : Nat} (h : okc cs (m + 1) i dep) (hc : 0 ≤ enc (cs i)) : 100000 ≤ cs i ∧ enc (cs i) = cs i - 100000 ∧ dep < 31 ∧ okc cs m (i + 1) (dep + 1) := by
  rcases h with ⟨h1 | h1, h2, h3⟩ | ⟨h1, h2, h3⟩ | ⟨h1, h2, h3⟩
  · exact ⟨h1.1, enc_num h1.1, h2, h3⟩
  · rw [enc_name (by omega)] at hc; omega
  · exfalso
    rcases h1 with h1 | h1 <;> rw [h1] at hc <;> revert hc <;> decide
  · exfalso
    rcases h1 with h1 | h1 | h1 | h1 | h1 | h1 | h1 <;> rw [h1] at hc <;> revert hc <;> decide
theorem okc_name {cs : Nat → Int} {m i dep : Nat} (h : okc cs (m + 1) i dep) (hc : 262 ≤ -enc (cs i) ∧ -enc (cs i) < 268) : (0 ≤ cs i ∧ cs i ≤ 5) ∧ enc (cs i) = -(262 + cs i) ∧ dep < 31 ∧ okc cs m (i + 1) (dep + 1) := by
  rcases h with ⟨h1 | h1, h2, h3⟩ | ⟨h1, h2, h3⟩ | ⟨h1, h2, h3⟩
  · rw [enc_num h1.1] at hc; omega
  · exact ⟨h1, enc_name (by omega), h2, h3⟩
  · exfalso
    rcases h1 with h1 | h1 <;> rw [h1] at hc <;> revert hc <;> decide
  · exfalso
    rcases h1 with h1 | h1 | h1 | h1 | h1 | h1 | h1 <;> rw [h1] at hc <;> revert hc <;> decide
theorem okc_neg {cs : Nat → Int} {m i dep : Nat} (h : okc cs (m + 1) i dep) (hc : enc (cs i) = -301) : cs i = 19 ∧ 1 ≤ dep ∧ okc cs m (i + 1) dep := by
  rcases h with ⟨h1 | h1, h2, h3⟩ | ⟨h1, h2, h3⟩ | ⟨h1, h2, h3⟩
  · rw [enc_num h1.1] at hc; omega
  · rw [enc_name (by omega)] at hc; omega
  · rcases h1 with h1 | h1
    · exfalso; rw [h1] at hc; revert hc; decide
    · exact ⟨h1, h2, h3⟩
  · exfalso
    rcases h1 with h1 | h1 | h1 | h1 | h1 | h1 | h1 <;> rw [h1] at hc <;> revert hc <;> decide
theorem okc_not {cs : Nat → Int} {m i dep : Nat} (h : okc cs (m + 1) i dep) (hc : enc (cs i) = -261) : cs i = 13 ∧ 1 ≤ dep ∧ okc cs m (i + 1) dep := by
  rcases h with ⟨h1 | h1, h2, h3⟩ | ⟨h1, h2, h3⟩ | ⟨h1, h2, h3⟩
  · rw [enc_num h1.1] at hc; omega
  · rw [enc_name (by omega)] at hc; omega
  · rcases h1 with h1 | h1
    · exact ⟨h1, h2, h3⟩
    · exfalso; rw [h1] at hc; revert hc; decide
  · exfalso
    rcases h1 with h1 | h1 | h1 | h1 | h1 | h1 | h1 <;> rw [h1] at hc <;> revert hc <;> decide
theorem okc_bin {cs : Nat → Int} {m i dep : Nat} (h : okc cs (m + 1) i dep) (h0 : enc (cs i) < 0) (h1 : ¬ (262 ≤ -enc (cs i) ∧ -enc (cs i) < 268)) (h2 : ¬ enc (cs i) = -301) (h3 : ¬ enc (cs i) = -261) : c_bin (cs i) ∧ 2 ≤ dep ∧ okc cs m (i + 1) (dep - 1) := by
  rcases h with ⟨g1 | g1, g2, g3⟩ | ⟨g1, g2, g3⟩ | h
  · rw [enc_num g1.1] at h0; omega
  · rw [enc_name (by omega)] at h1; omega
  · exfalso
    rcases g1 with g1 | g1
    · exact h3 (by rw [g1]; decide)
    · exact h2 (by rw [g1]; decide)
  · exact h
theorem okc_lo {cs : Nat → Int} {m i dep : Nat} (h : okc cs (m + 1) i dep) : -301 ≤ enc (cs i) := by
  rcases h with ⟨h1 | h1, h2, h3⟩ | ⟨h1, h2, h3⟩ | ⟨h1, h2, h3⟩
  · rw [enc_num h1.1]; omega
  · rw [enc_name (by omega)]; omega
  · rcases h1 with h1 | h1 <;> rw [h1] <;> decide
  · rcases h1 with h1 | h1 | h1 | h1 | h1 | h1 | h1 <;> rw [h1] <;> decide

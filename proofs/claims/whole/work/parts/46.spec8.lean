/-! the reader of texts in the class's memory: text t's codes so far, the token at which it stands, or its fault -/
def gc (t c : Nat) : Bool := c == 3 || c == 5 || c == 36 + 4 * t || c == 36 + 4 * t + 1
theorem gc_off {t c : Nat} (h3 : c ≠ 3) (h5 : c ≠ 5) (h0 : c ≠ 36 + 4 * t) (h1 : c ≠ 36 + 4 * t + 1) : gc t c = false := by
  simp only [gc, Bool.or_eq_false_iff, beq_eq_false_iff_ne]
  exact ⟨⟨⟨h3, h5⟩, h0⟩, h1⟩
theorem FT.toG {M M2 : Mem} {t : Nat} (h : FT M M2) : Fr (gc t) M M2 := fun c i hc => h c i (fun w => by
  obtain ⟨rfl, -⟩ := w
  simp [gc] at hc)
/-- the codes laid so far -/
def CD (M : Mem) (t : Nat) (o : List Int) : Prop := M (36 + 4 * t) 3 = (o.length : Int) ∧ ∀ i, i < o.length → M (36 + 4 * t + 1) i = enc (o.getD i 0)
def GS (tp : Nat → Int) (tn t j : Nat) (o : List Int) (M : Mem) : Prop := LT M tp tn ∧ (o.length ≤ j ∧ j ≤ 160) ∧ M 3 2 = (ps tp tn (j + 1) : Nat) ∧ M 3 3 = (pl tp tn j : Nat) ∧ M 3 4 = tk tp tn j ∧ (tk tp tn j = 300 → M 3 5 = vl tp tn j) ∧ M 5 1 = -1 ∧ CD M t o
def GF (tp : Nat → Int) (tn t : Nat) (p : Int) (M : Mem) : Prop := LT M tp tn ∧ 0 ≤ p ∧ M 3 4 = -2 ∧ M 5 1 = p ∧ ∃ n : Nat, n ≤ 160 ∧ M (36 + 4 * t) 3 = (n : Int)
def GO (tp : Nat → Int) (tn t : Nat) (R : RS) (M : Mem) : Prop := match R with
  | (j, some o) => GS tp tn t j o M
  | (j, none) => GF tp tn t (pl tp tn j : Nat) M
theorem tk_in {tp : Nat → Int} {tn j : Nat} : -2 ≤ tk tp tn j ∧ tk tp tn j ≤ 300 := lxT_in
theorem GO.tape {tp : Nat → Int} {tn t : Nat} {R : RS} {M : Mem} (h : GO tp tn t R M) : LT M tp tn := by
  obtain ⟨j, x⟩ := R
  cases x with
  | none => exact h.1
  | some o => exact h.1
def tkR (tp : Nat → Int) (tn : Nat) (R : RS) : Int := match R with
  | (j, some _) => tk tp tn j
  | (_, none) => -2
theorem GO.tok {tp : Nat → Int} {tn t : Nat} {R : RS} {M : Mem} (h : GO tp tn t R M) : M 3 4 = tkR tp tn R := by
  obtain ⟨j, x⟩ := R
  cases x with
  | none => exact h.2.2.1
  | some o => exact h.2.2.2.2.1
theorem tkR_in {tp : Nat → Int} {tn : Nat} {R : RS} : -2 ≤ tkR tp tn R ∧ tkR tp tn R ≤ 300 := by
  obtain ⟨j, x⟩ := R
  cases x with
  | none => exact ⟨Int.le_refl _, by show (-2 : Int) ≤ 300; decide⟩
  | some o => exact tk_in
theorem rbd_none {j : Nat} {f : Nat → List Int → RS} : rbd (j, none) f = (j, none) := rfl
theorem rbd_some {j : Nat} {o : List Int} {f : Nat → List Int → RS} : rbd (j, some o) f = f j o := rfl
theorem rbd_rbd {R : RS} {f g : Nat → List Int → RS} : rbd (rbd R f) g = rbd R (fun j o => rbd (f j o) g) := by
  obtain ⟨j, x⟩ := R
  cases x <;> rfl
theorem enc_sg {t : Int} (h : 0 ≤ rk t) : enc (sg t) = -t := by
  have key : t = 259 ∨ t = 260 ∨ t = 60 ∨ t = 61 ∨ t = 43 ∨ t = 45 ∨ t = 42 := by
    unfold rk at h
    (repeat' split at h) <;> omega
  rcases key with rfl | rfl | rfl | rfl | rfl | rfl | rfl <;> decide
theorem enc_in {c : Int} (h : c_push c ∨ c_un c ∨ c_bin c) : -301 ≤ enc c ∧ enc c ≤ 9999 := by
  rcases h with (h | h) | h | h
  · rw [enc_num h.1]; omega
  · rw [enc_name (by omega)]; omega
  · rcases h with rfl | rfl <;> decide
  · rcases h with rfl | rfl | rfl | rfl | rfl | rfl | rfl <;> decide
/-- a code more -/
theorem CD.up {M : Mem} {t : Nat} {o : List Int} {c : Int} (h : CD M t o) : CD (upM (upM M (36 + 4 * t + 1) o.length (enc c)) (36 + 4 * t) 3 ((o.length : Int) + 1)) t (o ++ [c]) := by
  refine ⟨by rw [upM_self, List.length_append]; simp, fun i hi => ?_⟩
  rw [List.length_append] at hi
  simp only [List.length_cons, List.length_nil] at hi
  rw [upM_ne (Or.inl (by omega)), List.getD_eq_getElem?_getD]
  by_cases e : i = o.length
  · subst e
    rw [upM_self, List.getElem?_append_right (Nat.le_refl _)]
    simp
  · rw [upM_ne (Or.inr e), List.getElem?_append_left (by omega), ← List.getD_eq_getElem?_getD]
    exact h.2 i (by omega)
theorem CD.fr {M M2 : Mem} {t : Nat} {o : List Int} (h : CD M t o) (h0 : M2 (36 + 4 * t) 3 = M (36 + 4 * t) 3) (h1 : ∀ i, M2 (36 + 4 * t + 1) i = M (36 + 4 * t + 1) i) : CD M2 t o :=
  ⟨h0.trans h.1, fun i hi => (h1 i).trans (h.2 i hi)⟩
/-- the next token is read -/
theorem GS.next {tp : Nat → Int} {tn t j : Nat} {o : List Int} {M M2 : Mem} (h : GS tp tn t j o M) (hj : j + 1 ≤ 160) (hF : FT M M2) (r2 : M2 3 2 = (lxN tp tn (ps tp tn (j + 1)) : Nat)) (r3 : M2 3 3 = (lxP tp tn (ps tp tn (j + 1)) : Nat)) (r4 : M2 3 4 = lxT tp tn (ps tp tn (j + 1))) (r5 : lxT tp tn (ps tp tn (j + 1)) = 300 → M2 3 5 = lxV tp tn (ps tp tn (j + 1))) : GS tp tn t (j + 1) o M2 :=
  ⟨h.1.ft hF, ⟨by have := h.2.1; omega, hj⟩, r2, r3, r4, r5, (hF 5 1 (by omega)).trans h.2.2.2.2.2.2.1, h.2.2.2.2.2.2.2.fr (hF _ _ (by omega)) (fun i => hF _ _ (by omega))⟩
theorem GF.fr {tp : Nat → Int} {tn t : Nat} {p : Int} {M : Mem} (h : GF tp tn t p M) {n : Nat} (hn : n ≤ 160) {v : Int} (i : Nat) : GF tp tn t p (upM (upM M (36 + 4 * t + 1) i v) (36 + 4 * t) 3 (n : Int)) := by
  have e : ∀ c k, c ≠ 36 + 4 * t → c ≠ 36 + 4 * t + 1 → upM (upM M (36 + 4 * t + 1) i v) (36 + 4 * t) 3 (n : Int) c k = M c k := fun c k h1 h2 => by
    rw [upM_ne (Or.inl h1), upM_ne (Or.inl h2)]
  exact ⟨⟨h.1.1, (e _ _ (by omega) (by omega)).trans h.1.2.1, fun k hk => (e _ _ (by omega) (by omega)).trans (h.1.2.2 k hk)⟩, h.2.1, (e _ _ (by omega) (by omega)).trans h.2.2.1, (e _ _ (by omega) (by omega)).trans h.2.2.2.1, n, hn, upM_self⟩
theorem GS.add {tp : Nat → Int} {tn t j : Nat} {o : List Int} {M : Mem} {c : Int} (h : GS tp tn t j o M) (ho : o.length < j) : GS tp tn t j (o ++ [c]) (upM (upM M (36 + 4 * t + 1) o.length (enc c)) (36 + 4 * t) 3 ((o.length : Int) + 1)) := by
  have e : ∀ q k, q ≠ 36 + 4 * t → q ≠ 36 + 4 * t + 1 → upM (upM M (36 + 4 * t + 1) o.length (enc c)) (36 + 4 * t) 3 ((o.length : Int) + 1) q k = M q k := fun q k h1 h2 => by
    rw [upM_ne (Or.inl h1), upM_ne (Or.inl h2)]
  obtain ⟨h1, h2, h3, h4, h5, h6, h7, h8⟩ := h
  exact ⟨⟨h1.1, (e _ _ (by omega) (by omega)).trans h1.2.1, fun k hk => (e _ _ (by omega) (by omega)).trans (h1.2.2 k hk)⟩, ⟨by rw [List.length_append]; simp; omega, h2.2⟩, (e _ _ (by omega) (by omega)).trans h3, (e _ _ (by omega) (by omega)).trans h4, (e _ _ (by omega) (by omega)).trans h5, fun q => (e _ _ (by omega) (by omega)).trans (h6 q), (e _ _ (by omega) (by omega)).trans h7, h8.up⟩

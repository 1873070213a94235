/-! sheets, lots, people by a sheet, the tape: answers and states -/
def upS (f : Nat → Int) (s : Nat) (v : Int) : Nat → Int := fun i => if i = s then v else f i
def upC (cl : Nat → Nat → Int) (s : Nat) (g : Nat → Int) : Nat → Nat → Int := fun t => if t = s then g else cl t
theorem upS_self {f : Nat → Int} {s : Nat} {v : Int} : upS f s v s = v := if_pos rfl
theorem upS_ne {f : Nat → Int} {s i : Nat} {v : Int} (h : i ≠ s) : upS f s v i = f i := if_neg h
theorem upC_self {cl : Nat → Nat → Int} {s : Nat} {g : Nat → Int} : upC cl s g s = g := if_pos rfl
theorem upC_ne {cl : Nat → Nat → Int} {s i : Nat} {g : Nat → Int} (h : i ≠ s) : upC cl s g i = cl i := if_neg h
def wr (sort v : Int) : Int := if sort = 0 then Int.bmod v 256 else if sort = 1 then Int.bmod v 65536 else v
theorem wr_ib {sort v : Int} (h : ib v) : ib (wr sort v) := by
  unfold wr
  split
  · have := Int.le_bmod (x := v) (m := 256) (by decide)
    have := Int.bmod_lt (x := v) (m := 256) (by decide)
    omega
  · split
    · have := Int.le_bmod (x := v) (m := 65536) (by decide)
      have := Int.bmod_lt (x := v) (m := 65536) (by decide)
      omega
    · exact h
theorem wr_0 {v : Int} (h : 0 ≤ v ∧ v ≤ 99) : wr 0 v = v := by
  unfold wr
  rw [if_pos rfl]
  exact Int.bmod_eq_of_le (by omega) (by omega)
theorem i3_b {a : Int} (h : ib a) : (Int32.ofInt a).toInt8.toInt32 = Int32.ofInt (Int.bmod a 256) := by
  have h1 := Int.le_bmod (x := a) (m := 256) (by decide)
  have h2 := Int.bmod_lt (x := a) (m := 256) (by decide)
  apply Int32.toInt_inj.mp
  rw [Int8.toInt_toInt32, Int32.toInt_toInt8, i3_toInt h, i3_toInt ⟨by omega, by omega⟩]
theorem i3_s {a : Int} (h : ib a) : (Int32.ofInt a).toInt16.toInt32 = Int32.ofInt (Int.bmod a 65536) := by
  have h1 := Int.le_bmod (x := a) (m := 65536) (by decide)
  have h2 := Int.bmod_lt (x := a) (m := 65536) (by decide)
  apply Int32.toInt_inj.mp
  rw [Int16.toInt_toInt32, Int32.toInt_toInt16, i3_toInt h, i3_toInt ⟨by omega, by omega⟩]
/-- a sheet in the class's memory changes -/
def shc (s c : Nat) : Bool := c == 60 + 2 * s || c == 60 + 2 * s + 1
theorem RX.sheet {M M2 : Mem} {nT tn : Nat} {X : Nat → Tx} {τ τi : Tn} {img : Bool} {tp ss sz : Nat → Int} {cl : Nat → Nat → Int} {s : Nat} {a b : Int} {g : Nat → Int} (h : RX M (nT, X, τ, img, τi, tn, tp, ss, sz, cl)) (hs : s < 4) (hF : Fr (shc s) M M2) (ha : M2 (60 + 2 * s) 1 = a) (hb : M2 (60 + 2 * s) 2 = b) (hg : ∀ i, i < 40 → M2 (60 + 2 * s + 1) i = g i) : RX M2 (nT, X, τ, img, τi, tn, tp, upS ss s a, upS sz s b, upC cl s g) := by
  have off : ∀ c : Nat, c ≠ 60 + 2 * s → c ≠ 60 + 2 * s + 1 → shc s c = false := fun c h1 h2 => by
    simp only [shc, Bool.or_eq_false_iff, beq_eq_false_iff_ne]
    exact ⟨h1, h2⟩
  obtain ⟨h1, h2, h3, h4, h5, h6, h7⟩ := h
  refine ⟨h1.fr hF (fun c g1 g2 => off c (by omega) (by omega)), h2.fr hF (fun t ht => ⟨off _ (by omega) (by omega), off _ (by omega) (by omega)⟩), (hF _ _ (off _ (by omega) (by omega))).trans h3, (hF _ _ (off _ (by omega) (by omega))).trans h4, fun hi => (h5 hi).fr hF (fun c g1 g2 => off c (by omega) (by omega)), ⟨(hF _ _ (off _ (by omega) (by omega))).trans h6.1, fun i hi => (hF _ _ (off _ (by omega) (by omega))).trans (h6.2 i hi)⟩, fun t ht => ?_⟩
  by_cases e : t = s
  · subst e
    rw [upS_self, upS_self, upC_self]
    exact ⟨ha, hb, hg⟩
  · rw [upS_ne e, upS_ne e, upC_ne e]
    have h8 := h7 t ht
    exact ⟨(hF _ _ (off _ (by omega) (by omega))).trans h8.1, (hF _ _ (off _ (by omega) (by omega))).trans h8.2.1, fun i hi => (hF _ _ (off _ (by omega) (by omega))).trans (h8.2.2 i hi)⟩
theorem RX.cell {M : Mem} {nT tn : Nat} {X : Nat → Tx} {τ τi : Tn} {img : Bool} {tp ss sz : Nat → Int} {cl : Nat → Nat → Int} {s i : Nat} {v : Int} (h : RX M (nT, X, τ, img, τi, tn, tp, ss, sz, cl)) (hs : s < 4) : RX (upM M (60 + 2 * s + 1) i v) (nT, X, τ, img, τi, tn, tp, ss, sz, upC cl s (upS (cl s) i v)) := by
  have h7 := h.2.2.2.2.2.2 s hs
  have := h.sheet (M2 := upM M (60 + 2 * s + 1) i v) (s := s) (a := ss s) (b := sz s) (g := upS (cl s) i v) hs (Fr.refl.up (by simp [shc])) ((upM_ne (Or.inl (by omega))).trans h7.1) ((upM_ne (Or.inl (by omega))).trans h7.2.1) (fun j hj => by
    by_cases e : j = i
    · subst e; rw [upM_self, upS_self]
    · rw [upM_ne (Or.inr e), upS_ne e]; exact h7.2.2 j hj)
  rw [show upS ss s (ss s) = ss from funext fun t => by unfold upS; split <;> simp [*], show upS sz s (sz s) = sz from funext fun t => by unfold upS; split <;> simp [*]] at this
  exact this
theorem upC_upC {cl : Nat → Nat → Int} {s : Nat} {g g2 : Nat → Int} : upC (upC cl s g) s g2 = upC cl s g2 := by
  funext t
  unfold upC
  split <;> rfl
/-- what a film has told behind i minutes -/
def fl_c (X : Nat → Tx) (τ : Tn) (p i : Nat) : Nat → Int := fun j => if j < i then sRun X τ (j + 1) 4 p else 0
theorem fl_c_up {X : Nat → Tx} {τ : Tn} {p i : Nat} : upS (fl_c X τ p i) i (sRun X τ (i + 1) 4 p) = fl_c X τ p (i + 1) := by
  funext j
  unfold upS fl_c
  by_cases e : j = i
  · subst e
    rw [if_pos rfl, if_pos (by omega)]
  · rw [if_neg e]
    by_cases q : j < i
    · rw [if_pos q, if_pos (by omega)]
    · rw [if_neg q, if_neg (by omega)]
def a_film (S : SS) (s p n : Int) : Int := match S with
  | (_, _, τ, _) => if ¬ (0 ≤ s ∧ s < 4) then -2 else if ¬ (0 ≤ p ∧ p < τ 8 0) then -5 else if ¬ (0 ≤ n ∧ n ≤ 20) then -7 else n
def t_film (S : SS) (s p n : Int) : SS := match S with
  | (nT, X, τ, img, τi, tn, tp, ss, sz, cl) => if ¬ (0 ≤ s ∧ s < 4) ∨ ¬ (0 ≤ p ∧ p < τ 8 0) ∨ ¬ (0 ≤ n ∧ n ≤ 20) then (nT, X, τ, img, τi, tn, tp, ss, sz, cl) else (nT, X, τ, img, τi, tn, tp, upS ss s.toNat 0, upS sz s.toNat n, upC cl s.toNat (fl_c X τ p.toNat n.toNat))
def a_sheet (S : SS) (s sort n : Int) : Int := if ¬ (0 ≤ s ∧ s < 4) ∨ ¬ (-1 ≤ sort ∧ sort ≤ 2) then -2 else if sort = -1 then 1 else if 40 < n then -2 else if n < 0 then -14 else 1
def t_sheet (S : SS) (s sort n : Int) : SS := match S with
  | (nT, X, τ, img, τi, tn, tp, ss, sz, cl) => if ¬ (0 ≤ s ∧ s < 4) ∨ ¬ (-1 ≤ sort ∧ sort ≤ 2) ∨ (sort ≠ -1 ∧ (40 < n ∨ n < 0)) then (nT, X, τ, img, τi, tn, tp, ss, sz, cl) else (nT, X, τ, img, τi, tn, tp, upS ss s.toNat sort, upS sz s.toNat (if sort = -1 then 0 else n), upC cl s.toNat (fun _ => 0))
def a_cell (S : SS) (s i v : Int) : Int := match S with
  | (_, _, _, _, _, _, _, ss, sz, _) => if ¬ (0 ≤ s ∧ s < 4) then -2 else if ss s.toNat = -1 then -11 else if ¬ (0 ≤ i ∧ i < sz s.toNat) then -12 else 1
def t_cell (S : SS) (s i v : Int) : SS := match S with
  | (nT, X, τ, img, τi, tn, tp, ss, sz, cl) => if ¬ (0 ≤ s ∧ s < 4) ∨ ss s.toNat = -1 ∨ ¬ (0 ≤ i ∧ i < sz s.toNat) then (nT, X, τ, img, τi, tn, tp, ss, sz, cl) else (nT, X, τ, img, τi, tn, tp, ss, sz, upC cl s.toNat (upS (cl s.toNat) i.toNat (wr (ss s.toNat) v)))
def a_copy (S : SS) (s i o j n : Int) : Int := match S with
  | (_, _, _, _, _, _, _, ss, sz, _) => if ¬ (0 ≤ s ∧ s < 4) ∨ ¬ (0 ≤ o ∧ o < 4) then -2 else if ss s.toNat = -1 ∨ ss o.toNat = -1 then -11 else if ss s.toNat ≠ ss o.toNat then -13
    else if ¬ (0 ≤ i ∧ 0 ≤ n ∧ i ≤ sz s.toNat ∧ n ≤ sz s.toNat - i) ∨ ¬ (0 ≤ j ∧ 0 ≤ n ∧ j ≤ sz o.toNat ∧ n ≤ sz o.toNat - j) then -12 else n
def cpy (cl : Nat → Nat → Int) (s i o j n : Nat) : Nat → Nat → Int := upC cl o (fun k => if j ≤ k ∧ k < j + n then cl s (i + (k - j)) else cl o k)
def t_copy (S : SS) (s i o j n : Int) : SS := match S with
  | (nT, X, τ, img, τi, tn, tp, ss, sz, cl) => if (¬ (0 ≤ s ∧ s < 4) ∨ ¬ (0 ≤ o ∧ o < 4)) ∨ (ss s.toNat = -1 ∨ ss o.toNat = -1) ∨ ss s.toNat ≠ ss o.toNat ∨ ¬ (0 ≤ i ∧ 0 ≤ n ∧ i ≤ sz s.toNat ∧ n ≤ sz s.toNat - i) ∨ ¬ (0 ≤ j ∧ 0 ≤ n ∧ j ≤ sz o.toNat ∧ n ≤ sz o.toNat - j) then (nT, X, τ, img, τi, tn, tp, ss, sz, cl)
    else (nT, X, τ, img, τi, tn, tp, ss, sz, cpy cl s.toNat i.toNat o.toNat j.toNat n.toNat)
/-- people by a row of numbers: of m to come, from the place f + 2 k on; how many came so far -/
def pB (g : Nat → Int) (z f : Int) : Nat → Nat → Int → Tn → Int × Tn
  | 0, _, c, τ => (c, τ)
  | m + 1, k, c, τ => if 0 ≤ f ∧ f + 2 * k ≤ z - 2 then pB g z f m (k + 1) (if 0 ≤ sComeA τ (g (f + 2 * k).toNat) (g ((f + 2 * k).toNat + 1)) then c + 1 else c) (sComeT τ (g (f + 2 * k).toNat) (g ((f + 2 * k).toNat + 1))) else (-12, τ)
def a_peopleBy (S : SS) (s sort f n : Int) : Int := match S with
  | (_, _, τ, _, _, _, _, ss, sz, cl) => if ¬ (0 ≤ s ∧ s < 4) ∨ ¬ (0 ≤ sort ∧ sort ≤ 2) ∨ ¬ (0 ≤ n ∧ n ≤ 6) then -2 else if ss s.toNat = -1 then -11 else if ss s.toNat ≠ sort then -13 else (pB (cl s.toNat) (sz s.toNat) f n.toNat 0 0 τ).1
def t_peopleBy (S : SS) (s sort f n : Int) : SS := match S with
  | (nT, X, τ, img, τi, tn, tp, ss, sz, cl) => if (¬ (0 ≤ s ∧ s < 4) ∨ ¬ (0 ≤ sort ∧ sort ≤ 2) ∨ ¬ (0 ≤ n ∧ n ≤ 6)) ∨ ss s.toNat = -1 ∨ ss s.toNat ≠ sort then (nT, X, τ, img, τi, tn, tp, ss, sz, cl) else (nT, X, (pB (cl s.toNat) (sz s.toNat) f n.toNat 0 0 τ).2, img, τi, tn, tp, ss, sz, cl)
theorem pB_wf {nT : Nat} {g : Nat → Int} {z f : Int} : ∀ (m k : Nat) (c : Int) (τ : Tn), WF nT τ → WF nT (pB g z f m k c τ).2
  | 0, _, _, _, h => h
  | m + 1, k, c, τ, h => by
    simp only [pB]
    split
    · exact pB_wf m (k + 1) _ _ (sComeT_wf h)
    · exact h
theorem sComeT_81 {τ : Tn} {km de : Int} {i : Nat} (hi : i ≠ 0) : sComeT τ km de 8 i = τ 8 i := by
  unfold sComeT
  split
  · rw [st_ne (Or.inr hi), st_ne (Or.inl (by decide)), st_ne (Or.inl (by decide)), st_ne (Or.inl (by decide)), st_ne (Or.inl (by decide)), st_ne (Or.inl (by decide))]
  · rfl
theorem pB_81 {g : Nat → Int} {z f : Int} : ∀ (m k : Nat) (c : Int) (τ : Tn), (pB g z f m k c τ).2 8 1 = τ 8 1
  | 0, _, _, _ => rfl
  | m + 1, k, c, τ => by
    simp only [pB]
    split
    · rw [pB_81, sComeT_81 (by decide)]
    · rfl
/-- bytes behind the tape's -/
def fdb (a b c d e : Int) (i : Nat) : Int := if i = 0 then a else if i = 1 then b else if i = 2 then c else if i = 3 then d else e
def fdt (tp : Nat → Int) (tn : Nat) (a b c d e : Int) (k : Nat) : Nat → Int := fun i => if tn ≤ i ∧ i < tn + k then fdb a b c d e (i - tn) else tp i
abbrev fd_ok (n a b c d e : Int) : Prop := (1 ≤ n ∧ n ≤ 5) ∧ (0 ≤ a ∧ a ≤ 255) ∧ (0 ≤ b ∧ b ≤ 255) ∧ (0 ≤ c ∧ c ≤ 255) ∧ (0 ≤ d ∧ d ≤ 255) ∧ (0 ≤ e ∧ e ≤ 255)
theorem fdb_in {n a b c d e : Int} (h : fd_ok n a b c d e) (i : Nat) : 0 ≤ fdb a b c d e i ∧ fdb a b c d e i ≤ 255 := by
  unfold fdb
  (repeat' split) <;> omega
def a_feed (S : SS) (n a b c d e : Int) : Int := match S with
  | (_, _, _, _, _, tn, _) => if ¬ fd_ok n a b c d e then -2 else if 160 < (tn : Int) + n then -4 else (tn : Int) + n
def t_feed (S : SS) (n a b c d e : Int) : SS := match S with
  | (nT, X, τ, img, τi, tn, tp, r) => if ¬ fd_ok n a b c d e ∨ 160 < (tn : Int) + n then (nT, X, τ, img, τi, tn, tp, r) else (nT, X, τ, img, τi, tn + n.toNat, fdt tp tn a b c d e n.toNat, r)
/-- lots -/
def nxl (l : Int) : Int := l * 48271 % 2147483647
theorem nxl_in (l : Int) : 0 ≤ nxl l ∧ nxl l < 2147483647 := by unfold nxl; omega
def lD (X : Nat → Tx) (τ : Tn) (seed : Int) : Nat → Int × Tn × Int
  | 0 => (0, τ, seed + 1)
  | k + 1 => if nxl (lD X τ seed k).2.2 % 6 < (lD X τ seed k).2.1 8 0 then
      ((lD X τ seed k).1 + (if sOut (lD X τ seed k).2.1 (nxl (lD X τ seed k).2.2 % 6).toNat (nxl (nxl (lD X τ seed k).2.2) % 8).toNat = 2 then 1 else 0), sTry X (lD X τ seed k).2.1 (nxl (lD X τ seed k).2.2 % 6).toNat (nxl (nxl (lD X τ seed k).2.2) % 8).toNat, nxl (nxl (lD X τ seed k).2.2))
    else ((lD X τ seed k).1, (lD X τ seed k).2.1, nxl (nxl (lD X τ seed k).2.2))
theorem lD_lot {X : Nat → Tx} {τ : Tn} {seed : Int} (h : 0 ≤ seed ∧ seed < 1000000) : ∀ k, 0 ≤ (lD X τ seed k).2.2 ∧ (lD X τ seed k).2.2 < 2147483647
  | 0 => by show 0 ≤ seed + 1 ∧ seed + 1 < 2147483647; omega
  | k + 1 => by
    simp only [lD]
    split <;> exact nxl_in _
theorem lD_80 {X : Nat → Tx} {τ : Tn} {seed : Int} {i : Nat} : ∀ k, (lD X τ seed k).2.1 8 i = τ 8 i
  | 0 => rfl
  | k + 1 => by
    simp only [lD]
    split
    · exact (sTry_8 X _ _ _ i).trans (lD_80 k)
    · exact lD_80 k
theorem lD_wf {nT : Nat} {X : Nat → Tx} {τ : Tn} {seed : Int} (h : WF nT τ) : ∀ k, WF nT (lD X τ seed k).2.1
  | 0 => h
  | k + 1 => by
    simp only [lD]
    split
    · exact sTry_wf (lD_wf h k) (by omega) (by omega)
    · exact lD_wf h k
theorem lD_in {X : Nat → Tx} {τ : Tn} {seed : Int} : ∀ k : Nat, 0 ≤ (lD X τ seed k).1 ∧ (lD X τ seed k).1 ≤ k
  | 0 => by simp only [lD]; omega
  | k + 1 => by
    have := lD_in (X := X) (τ := τ) (seed := seed) k
    simp only [lD]
    split
    · simp only []
      split <;> omega
    · simp only []
      omega
def a_drawn (S : SS) (seed n what : Int) : Int := match S with
  | (_, X, τ, _) => if ¬ (0 ≤ seed ∧ seed ≤ 99999) ∨ ¬ (0 ≤ n ∧ n ≤ 60) ∨ ¬ (0 ≤ what ∧ what ≤ 1) then -2 else if what = 0 then sSnd (lD X τ seed n.toNat).2.1 else (lD X τ seed n.toNat).1
def oD (X : Nat → Tx) (τ : Tn) (seed least : Int) : Nat → Nat
  | 0 => 0
  | k + 1 => oD X τ seed least k + (if least ≤ ((pop8 (sSnd (lD X τ (seed + k) 16).2.1).toNat : Nat) : Int) then 1 else 0)
theorem oD_in {X : Nat → Tx} {τ : Tn} {seed least : Int} : ∀ k : Nat, oD X τ seed least k ≤ k
  | 0 => by simp only [oD]; omega
  | k + 1 => by
    have := oD_in (X := X) (τ := τ) (seed := seed) (least := least) k
    simp only [oD]
    split <;> omega
def a_odds (S : SS) (seed seeds least part : Int) : Int := match S with
  | (_, X, τ, _) => if ¬ ((0 ≤ seed ∧ seed ≤ 99999) ∧ (1 ≤ seeds ∧ seeds ≤ 40)) ∨ ¬ (0 ≤ least ∧ least ≤ 8) ∨ ¬ (0 ≤ part ∧ part ≤ 1) then -4611686018427387904 else lwst (oD X τ seed least seeds.toNat) seeds.toNat part
theorem i6_toInt {a : Int} (h : -9223372036854775808 ≤ a ∧ a < 9223372036854775808) : (Int64.ofInt a).toInt = a := Int64.toInt_ofInt_of_le (by omega) (by omega)
theorem i6_rem {a b : Int} (ha : 0 ≤ a ∧ a < 9223372036854775808) (hb : 0 < b ∧ b < 9223372036854775808) : ¬ Int64.ofInt b = 0 ∧ Int64.ofInt a - Int64.ofInt a / Int64.ofInt b * Int64.ofInt b = Int64.ofInt (a % b) := by
  have hr0 := Int.emod_nonneg a (show b ≠ 0 by omega)
  have hr1 := Int.emod_lt_of_pos a hb.1
  refine ⟨fun e => ?_, ?_⟩
  · have := congrArg Int64.toInt e
    rw [i6_toInt (by omega)] at this
    change b = 0 at this
    omega
  · apply Int64.toInt_inj.mp
    rw [Int64.toInt_sub, Int64.toInt_mul, Int64.toInt_div, Int.bmod_mul_bmod, Int.sub_bmod_bmod, Int.mul_comm ((Int64.ofInt a).toInt.tdiv (Int64.ofInt b).toInt), ← Int.tmod_def, i6_toInt (by omega), i6_toInt (by omega), i6_toInt (by omega), Int.tmod_eq_emod_of_nonneg ha.1]
    exact Int.bmod_eq_of_le_mul_two (by omega) (by omega)
def shM (M : Mem) (s : Nat) (a b : Int) : Mem := fun c i => if c = 60 + 2 * s + 1 ∧ i < 40 then 0 else upM (upM M (60 + 2 * s) 1 a) (60 + 2 * s) 2 b c i
theorem RX.shM {M : Mem} {nT tn : Nat} {X : Nat → Tx} {τ τi : Tn} {img : Bool} {tp ss sz : Nat → Int} {cl : Nat → Nat → Int} {s : Nat} {a b : Int} (h : RX M (nT, X, τ, img, τi, tn, tp, ss, sz, cl)) (hs : s < 4) : RX (shM M s a b) (nT, X, τ, img, τi, tn, tp, upS ss s a, upS sz s b, upC cl s (fun _ => 0)) := by
  refine h.sheet hs (fun c i hc => ?_) ?_ ?_ (fun i hi => if_pos ⟨rfl, hi⟩)
  · simp only [shc, Bool.or_eq_false_iff, beq_eq_false_iff_ne] at hc
    show (if c = 60 + 2 * s + 1 ∧ i < 40 then 0 else upM (upM M (60 + 2 * s) 1 a) (60 + 2 * s) 2 b c i) = M c i
    rw [if_neg (fun w => hc.2 w.1), upM_ne (Or.inl hc.1), upM_ne (Or.inl hc.1)]
  · show (if 60 + 2 * s = 60 + 2 * s + 1 ∧ 1 < 40 then 0 else upM (upM M (60 + 2 * s) 1 a) (60 + 2 * s) 2 b (60 + 2 * s) 1) = a
    rw [if_neg (by omega), upM_ne (Or.inr (by decide)), upM_self]
  · show (if 60 + 2 * s = 60 + 2 * s + 1 ∧ 2 < 40 then 0 else upM (upM M (60 + 2 * s) 1 a) (60 + 2 * s) 2 b (60 + 2 * s) 2) = b
    rw [if_neg (by omega), upM_self]
theorem RX.copied {M : Mem} {nT tn : Nat} {X : Nat → Tx} {τ τi : Tn} {img : Bool} {tp ss sz : Nat → Int} {cl : Nat → Nat → Int} {s i o j n : Nat} (h : RX M (nT, X, τ, img, τi, tn, tp, ss, sz, cl)) (hs : s < 4) (ho : o < 4) (hi : i + n ≤ 40) : RX (cpM M (60 + 2 * s + 1) i (60 + 2 * o + 1) j n) (nT, X, τ, img, τi, tn, tp, ss, sz, cpy cl s i o j n) := by
  have h7 := h.2.2.2.2.2.2 s hs
  have h8 := h.2.2.2.2.2.2 o ho
  have := h.sheet (M2 := cpM M (60 + 2 * s + 1) i (60 + 2 * o + 1) j n) (s := o) (a := ss o) (b := sz o) (g := fun k => if j ≤ k ∧ k < j + n then cl s (i + (k - j)) else cl o k) ho (fun c k hc => by
      simp only [shc, Bool.or_eq_false_iff, beq_eq_false_iff_ne] at hc
      exact if_neg (fun w => hc.2 w.1)) ((if_neg (by omega)).trans h8.1) ((if_neg (by omega)).trans h8.2.1) (fun k hk => by
    show (if 60 + 2 * o + 1 = 60 + 2 * o + 1 ∧ j ≤ k ∧ k < j + n then M (60 + 2 * s + 1) (i + (k - j)) else M (60 + 2 * o + 1) k) = _
    by_cases e : j ≤ k ∧ k < j + n
    · rw [if_pos ⟨rfl, e⟩, if_pos e]; exact h7.2.2 _ (by omega)
    · rw [if_neg (fun w => e w.2), if_neg e]; exact h8.2.2 k hk)
  rw [show upS ss o (ss o) = ss from funext fun t => by unfold upS; split <;> simp [*], show upS sz o (sz o) = sz from funext fun t => by unfold upS; split <;> simp [*]] at this
  exact this
theorem RX.add {M : Mem} {nT tn : Nat} {X : Nat → Tx} {τ τi : Tn} {img : Bool} {tp ss sz : Nat → Int} {cl : Nat → Nat → Int} {v : Int} (h : RX M (nT, X, τ, img, τi, tn, tp, ss, sz, cl)) : RX (upM (upM M 4 tn v) 3 1 ((tn : Int) + 1)) (nT, X, τ, img, τi, tn + 1, upS tp tn v, ss, sz, cl) := by
  have hF : Fr (fun c => c == 3 || c == 4) M (upM (upM M 4 tn v) 3 1 ((tn : Int) + 1)) := (Fr.refl.up rfl).up rfl
  have off : ∀ c : Nat, c ≠ 3 → c ≠ 4 → (fun c : Nat => c == 3 || c == 4) c = false := fun c h1 h2 => by
    simp only [Bool.or_eq_false_iff, beq_eq_false_iff_ne]
    exact ⟨h1, h2⟩
  obtain ⟨h1, h2, h3, h4, h5, h6, h7⟩ := h
  refine ⟨h1.fr hF (fun c g1 g2 => off c (by omega) (by omega)), h2.fr hF (fun t ht => ⟨off _ (by omega) (by omega), off _ (by omega) (by omega)⟩), (hF _ _ rfl).trans h3, (hF _ _ rfl).trans h4, fun hi => (h5 hi).fr hF (fun c g1 g2 => off c (by omega) (by omega)), ⟨by rw [upM_self]; omega, fun i hi => ?_⟩, fun t ht => ?_⟩
  · rw [upM_ne (Or.inl (by decide))]
    by_cases e : i = tn
    · subst e; rw [upM_self, upS_self]
    · rw [upM_ne (Or.inr e), upS_ne e]; exact h6.2 i (by omega)
  · have h8 := h7 t ht
    exact ⟨(hF _ _ (off _ (by omega) (by omega))).trans h8.1, (hF _ _ (off _ (by omega) (by omega))).trans h8.2.1, fun i hi => (hF _ _ (off _ (by omega) (by omega))).trans (h8.2.2 i hi)⟩
theorem fdt_up {tp : Nat → Int} {tn : Nat} {a b c d e : Int} {i : Nat} : upS (fdt tp tn a b c d e i) (tn + i) (fdb a b c d e i) = fdt tp tn a b c d e (i + 1) := by
  funext j
  unfold upS fdt
  by_cases q : j = tn + i
  · subst q
    rw [if_pos rfl, if_pos (by omega), Nat.add_sub_cancel_left]
  · rw [if_neg q]
    by_cases w : tn ≤ j ∧ j < tn + i
    · rw [if_pos w, if_pos (by omega)]
    · rw [if_neg w, if_neg (by omega)]
theorem fdt_0 {tp : Nat → Int} {tn : Nat} {a b c d e : Int} : fdt tp tn a b c d e 0 = tp := by
  funext j
  unfold fdt
  rw [if_neg (by omega)]
theorem w32_sm {a : Int} (h : -2147483648 ≤ a ∧ a < 2147484648) : (a < 2147483648 ∧ w32 a = a) ∨ (2147483648 ≤ a ∧ w32 a < 0) := by
  rcases Int.lt_or_le a 2147483648 with q | q
  · exact Or.inl ⟨q, w32_id ⟨h.1, q⟩⟩
  · refine Or.inr ⟨q, ?_⟩
    unfold w32
    rw [Int32.toInt_ofInt]
    have : Int.bmod a 4294967296 = a - 4294967296 := by rw [Int.bmod_def]; omega
    show Int.bmod a 4294967296 < 0
    omega
theorem sComeA_in {nT : Nat} {τ : Tn} {km de : Int} (h : WF nT τ) : -4 ≤ sComeA τ km de ∧ sComeA τ km de ≤ 6 := by
  have := h.1
  unfold sComeA
  (repeat' split) <;> omega

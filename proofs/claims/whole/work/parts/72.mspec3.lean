/-! the reference's reader of tokens: what a token is there -/
def mtk (t : Int) : Int := if t = -1 then 0 else if t = -2 then -1 else if t = 300 then 1 else if 262 ≤ t then 2 else if 259 ≤ t then t - 255 else if 256 ≤ t then 3 else t
theorem mtk_in {t : Int} (h : -2 ≤ t ∧ t ≤ 300) : -1 ≤ mtk t ∧ mtk t ≤ 255 := by
  unfold mtk
  (repeat' split) <;> omega
def LM (M : Mem) (tp : Nat → Int) (tn : Nat) : Prop := (tn ≤ 160 ∧ ∀ i, i < tn → 0 ≤ tp i ∧ tp i ≤ 255) ∧ M 0 7 = tn ∧ (∀ i, i < tn → M 5 i = tp i) ∧ ∀ i, i < 96 → M 14 i = wc i
abbrev mN (c i : Nat) : Prop := c = 0 ∧ 19 ≤ i ∧ i ≤ 22
theorem LM.fr {P : Nat → Nat → Prop} {M M2 : Mem} {tp : Nat → Int} {tn : Nat} (h : LM M tp tn) (hF : Fm P M M2) (hP : ∀ c i, P c i → c ≠ 5 ∧ c ≠ 14 ∧ (c = 0 → i ≠ 7)) : LM M2 tp tn :=
  ⟨h.1, (hF 0 7 (fun w => (hP _ _ w).2.2 rfl rfl)).trans h.2.1, fun i hi => (hF 5 i (fun w => (hP _ _ w).1 rfl)).trans (h.2.2.1 i hi), fun i hi => (hF 14 i (fun w => (hP _ _ w).2.1 rfl)).trans (h.2.2.2 i hi)⟩
theorem LM.nx {M M2 : Mem} {tp : Nat → Int} {tn : Nat} (h : LM M tp tn) (hF : Fm mN M M2) : LM M2 tp tn := h.fr hF (fun c i w => by omega)
/-- a word's letters, and blanks behind it -/
def ch8 (tp : Nat → Int) (b e x : Nat) : Int := if b + x < e then tp (b + x) else 32
def MW (tp : Nat → Int) (b e k : Nat) : Prop := e ≤ b + 8 ∧ ∀ x, x < 8 → wc (8 * k + x) = ch8 tp b e x
def wpm (k : Nat) : Nat := [0, 1, 2, 6, 7, 8, 9, 10, 11, 3, 4, 5].getD k 12
theorem wc_l : ∀ k, k < 12 → wpm k < 12 ∧ (0 < (wl.getD (wpm k) []).length ∧ (wl.getD (wpm k) []).length ≤ 6) ∧ ∀ x, x < 8 → (x < (wl.getD (wpm k) []).length → wc (8 * k + x) = (wl.getD (wpm k) []).getD x 0 ∧ 97 ≤ wc (8 * k + x)) ∧ (¬ x < (wl.getD (wpm k) []).length → wc (8 * k + x) = 32) := by decide +kernel
theorem wpm_all : ∀ i, i < 12 → ∃ k, k < 12 ∧ wpm k = i := by decide +kernel
theorem wpm_e : ∀ k, k < 12 → (k < 3 ∧ wpm k = k) ∨ (3 ≤ k ∧ k < 9 ∧ wpm k = k + 3) ∨ (9 ≤ k ∧ wpm k + 6 = k) := by decide +kernel
theorem wl_one : ∀ i, i < 12 → ∀ j, j < 12 → wl.getD i [] = wl.getD j [] → i = j := by decide +kernel
theorem spl_e {tp : Nat → Int} {b e i : Nat} (h : spl tp b e i = true) : e = b + (wl.getD i []).length ∧ ∀ c, c < (wl.getD i []).length → tp (b + c) = (wl.getD i []).getD c 0 := by
  unfold spl at h
  rw [Bool.and_eq_true, decide_eq_true_eq, List.all_eq_true] at h
  exact ⟨h.1, fun c hc => of_decide_eq_true (h.2 c (List.mem_range.mpr hc))⟩
theorem MW_spl {tp : Nat → Int} {b e k : Nat} (hL : ∀ x, b ≤ x → x < e → 97 ≤ tp x) (hk : k < 12) (h : MW tp b e k) : spl tp b e (wpm k) = true := by
  obtain ⟨-, ⟨n0, n6⟩, w⟩ := wc_l k hk
  obtain ⟨n, hn⟩ : ∃ n, n = (wl.getD (wpm k) []).length := ⟨_, rfl⟩
  rw [← hn] at n0 n6 w
  have h1 : b + (n - 1) < e := by
    rcases Nat.lt_or_ge (b + (n - 1)) e with q | q
    · exact q
    · have g := h.2 (n - 1) (by omega)
      have g2 := (w (n - 1) (by omega)).1 (by omega)
      unfold ch8 at g
      rw [if_neg (by omega)] at g
      omega
  have h2 : e ≤ b + n := by
    rcases Nat.lt_or_ge (b + n) e with q | q
    · have g := h.2 n (by omega)
      have g2 := (w n (by omega)).2 (by omega)
      have g3 := hL (b + n) (by omega) q
      unfold ch8 at g
      rw [if_pos q] at g
      omega
    · exact q
  refine spl_yes (by rw [← hn]; omega) (fun c hc => ?_)
  rw [← hn] at hc
  have g := h.2 c (by omega)
  have g2 := (w c (by omega)).1 hc
  unfold ch8 at g
  rw [if_pos (by omega)] at g
  exact g.symm.trans g2.1
theorem spl_MW {tp : Nat → Int} {b e k : Nat} (hk : k < 12) (h : spl tp b e (wpm k) = true) : MW tp b e k := by
  obtain ⟨-, ⟨n0, n6⟩, w⟩ := wc_l k hk
  obtain ⟨h1, h2⟩ := spl_e h
  refine ⟨by omega, fun x hx => ?_⟩
  unfold ch8
  by_cases q : x < (wl.getD (wpm k) []).length
  · rw [if_pos (by omega), h2 x q]
    exact ((w x hx).1 q).1
  · rw [if_neg (by omega)]
    exact (w x hx).2 q
theorem spl_one {tp : Nat → Int} {b e i j : Nat} (hi : i < 12) (hj : j < 12) (h1 : spl tp b e i = true) (h2 : spl tp b e j = true) : i = j := by
  obtain ⟨a1, a2⟩ := spl_e h1
  obtain ⟨b1, b2⟩ := spl_e h2
  refine wl_one i hi j hj (List.ext_getElem? (fun c => ?_))
  by_cases q : c < (wl.getD i []).length
  · have e1 := a2 c q
    have e2 := b2 c (by omega)
    rw [List.getD_eq_getElem?_getD, List.getElem?_eq_getElem q, Option.getD_some] at e1
    rw [List.getD_eq_getElem?_getD, List.getElem?_eq_getElem (by omega : c < (wl.getD j []).length), Option.getD_some] at e2
    rw [List.getElem?_eq_getElem q, List.getElem?_eq_getElem (by omega : c < (wl.getD j []).length), ← e1, ← e2]
  · rw [List.getElem?_eq_none (by omega), List.getElem?_eq_none (by omega)]
theorem wdc_of {tp : Nat → Int} {b e i : Nat} (hi : i < 12) (h : spl tp b e i = true) : wdc tp b e = 256 + (i : Int) := by
  have hf : ∀ j, j < 12 → j ≠ i → spl tp b e j = false := fun j hj hne => by
    cases q : spl tp b e j with
    | false => rfl
    | true => exact absurd (spl_one hj hi q h) hne
  unfold wdc
  rcases (by omega : i = 0 ∨ i = 1 ∨ i = 2 ∨ i = 3 ∨ i = 4 ∨ i = 5 ∨ i = 6 ∨ i = 7 ∨ i = 8 ∨ i = 9 ∨ i = 10 ∨ i = 11) with rfl | rfl | rfl | rfl | rfl | rfl | rfl | rfl | rfl | rfl | rfl | rfl <;>
    (repeat (first | (rw [if_pos h]; rfl) | rw [if_neg (by rw [hf _ (by decide) (by decide)]; decide)]))
theorem wdc_no {tp : Nat → Int} {b e : Nat} (h : ∀ i, i < 12 → ¬ spl tp b e i = true) : wdc tp b e = -2 := by
  unfold wdc
  rw [if_neg (h 0 (by decide)), if_neg (h 1 (by decide)), if_neg (h 2 (by decide)), if_neg (h 3 (by decide)), if_neg (h 4 (by decide)), if_neg (h 5 (by decide)), if_neg (h 6 (by decide)), if_neg (h 7 (by decide)), if_neg (h 8 (by decide)), if_neg (h 9 (by decide)), if_neg (h 10 (by decide)), if_neg (h 11 (by decide))]
/-- what wordFrom finds, as the class's word -/
theorem wf_tk {tp : Nat → Int} {b e k : Nat} (hL : ∀ x, b ≤ x → x < e → 97 ≤ tp x) (h : (k < 12 ∧ MW tp b e k) ∨ (k = 12 ∧ ∀ j, j < 12 → ¬ MW tp b e j)) : (k < 3 ∧ wdc tp b e = 256 + (k : Int)) ∨ (3 ≤ k ∧ k < 9 ∧ wdc tp b e = 259 + (k : Int)) ∨ (9 ≤ k ∧ k < 12 ∧ wdc tp b e = 250 + (k : Int)) ∨ (k = 12 ∧ wdc tp b e = -2) := by
  rcases h with ⟨h1, h2⟩ | ⟨h1, h2⟩
  · have g := wdc_of (wc_l k h1).1 (MW_spl hL h1 h2)
    have g2 := wpm_e k h1
    omega
  · refine Or.inr (Or.inr (Or.inr ⟨h1, wdc_no (fun i hi q => ?_)⟩))
    obtain ⟨j, h3, h4⟩ := wpm_all i hi
    exact h2 j h3 (spl_MW h3 (by rw [h4]; exact q))
theorem nvl_step {tp : Nat → Int} {b n : Nat} (hn : n < 4) (hd : ∀ x, x < n + 1 → 48 ≤ tp (b + x) ∧ tp (b + x) ≤ 57) : (0 ≤ nvl tp b n ∧ nvl tp b n ≤ 999) ∧ nvl tp b (n + 1) = 10 * nvl tp b n + tp (b + n) - 48 := by
  have h1 := nvl_in (tp := tp) (b := b) n (by omega) (fun i hi => hd i (by omega))
  have h2 := hd n (by omega)
  have h4 : (10 : Int) ^ n ≤ 1000 := by
    rcases (by omega : n = 0 ∨ n = 1 ∨ n = 2 ∨ n = 3) with rfl | rfl | rfl | rfl <;> decide
  refine ⟨by omega, ?_⟩
  simp only [nvl]
  rw [w32_id (by omega)]
/-- the next token is read -/
def NX (tp : Nat → Int) (tn a : Nat) (M : Mem) : Prop := M 0 19 = (lxN tp tn a : Nat) ∧ M 0 20 = (lxP tp tn a : Nat) ∧ M 0 21 = mtk (lxT tp tn a) ∧ (lxT tp tn a = 300 → M 0 22 = lxV tp tn a) ∧ (256 ≤ lxT tp tn a ∧ lxT tp tn a ≤ 258 → M 0 22 = lxT tp tn a - 256) ∧ (262 ≤ lxT tp tn a ∧ lxT tp tn a ≤ 267 → M 0 22 = lxT tp tn a - 262)
theorem lx_set {tp : Nat → Int} {tn a : Nat} : lxT tp tn a = -2 ∨ lxT tp tn a = -1 ∨ (256 ≤ lxT tp tn a ∧ lxT tp tn a ≤ 267) ∨ lxT tp tn a = 300 ∨ lxT tp tn a = 40 ∨ lxT tp tn a = 41 ∨ lxT tp tn a = 59 ∨ lxT tp tn a = 43 ∨ lxT tp tn a = 45 ∨ lxT tp tn a = 42 ∨ lxT tp tn a = 60 ∨ lxT tp tn a = 61 := by
  have := wdc_in tp (lxP tp tn a) (rnE isL tp tn (lxP tp tn a))
  unfold lxT
  split
  · omega
  · split
    · omega
    · split
      · split <;> omega
      · split
        · rename_i h
          unfold isS at h
          rw [decide_eq_true_eq] at h
          omega
        · omega

theorem i3_toInt {a : Int} (h : ib a) : (Int32.ofInt a).toInt = a := Int32.toInt_ofInt_of_le (by omega) (by omega)
theorem i3_lt {a b : Int} (ha : ib a) (hb : ib b) : Int32.ofInt a < Int32.ofInt b ↔ a < b := by rw [Int32.lt_iff_toInt_lt, i3_toInt ha, i3_toInt hb]
theorem i3_le {a b : Int} (ha : ib a) (hb : ib b) : Int32.ofInt a ≤ Int32.ofInt b ↔ a ≤ b := by rw [Int32.le_iff_toInt_le, i3_toInt ha, i3_toInt hb]
theorem i3_eq {a b : Int} (ha : ib a) (hb : ib b) : Int32.ofInt a = Int32.ofInt b ↔ a = b := by rw [← Int32.toInt_inj, i3_toInt ha, i3_toInt hb]
theorem i3_0 : Int32.ofInt 0 = 0 := rfl
theorem i3_lt0 {a : Int} (ha : ib a) : Int32.ofInt a < 0 ↔ a < 0 := by rw [← i3_0, i3_lt ha (by omega)]
theorem i3_gt0 {a : Int} (ha : ib a) : 0 < Int32.ofInt a ↔ 0 < a := by rw [← i3_0, i3_lt (by omega) ha]
theorem i3_ge0 {a : Int} (ha : ib a) : 0 ≤ Int32.ofInt a ↔ 0 ≤ a := by rw [← i3_0, i3_le (by omega) ha]
theorem i3_le0 {a : Int} (ha : ib a) : Int32.ofInt a ≤ 0 ↔ a ≤ 0 := by rw [← i3_0, i3_le ha (by omega)]
theorem i3_eq0 {a : Int} (ha : ib a) : Int32.ofInt a = 0 ↔ a = 0 := by rw [← i3_0, i3_eq ha (by omega)]
theorem i3_nat {a : Int} (ha : 0 ≤ a) (h : a < 2147483648) : (Int32.ofInt a).toNatClampNeg = a.toNat := Int32.toNatClampNeg_ofInt_of_le (by omega) (by omega)
theorem i3_in {a : Int} {N : Nat} (h0 : 0 ≤ a) (h1 : a < N) (hN : N < 2147483648) : vp_in (Int32.ofInt a) N := by
  rw [vp_in_iff, i3_toInt (by omega)]
  exact ⟨h0, h1⟩
theorem i3_div {a b : Int} (ha : ib a) (hb : ib b) (h : b ≠ -1) : Int32.ofInt a / Int32.ofInt b = Int32.ofInt (a.tdiv b) := by
  rw [← Int32.toInt_inj, Int32.toInt_div_of_ne_right _ _ (fun q => h ((i3_eq hb (by omega)).mp q)), i3_toInt ha, i3_toInt hb]
  refine (i3_toInt ?_).symm
  have h3 := Int.natAbs_tdiv_le_natAbs a b
  rcases Int.lt_trichotomy (a.tdiv b) 0 with q | q | q
  · constructor
    · omega
    · omega
  · omega
  · constructor
    · omega
    · rcases (by omega : a < 0 ∨ 0 ≤ a) with ha0 | ha0
      · rcases (by omega : a < -2147483647 ∨ -2147483647 ≤ a) with hm | hm
        · have e : a = -2147483648 := by omega
          subst e
          rcases (by omega : b < 0 ∨ 0 ≤ b) with hb0 | hb0
          · have hb2 : b ≤ -2 := by omega
            have h5 : ((-2147483648 : Int).tdiv b).natAbs ≤ 1073741824 := by
              rw [Int.natAbs_tdiv]
              exact Nat.le_trans (Nat.div_le_div_left (show 2 ≤ b.natAbs by omega) (by omega)) (by decide)
            omega
          · have : (-2147483648 : Int).tdiv b ≤ 0 := by
              rw [show (-2147483648 : Int) = -(2147483648) by rfl, Int.neg_tdiv]
              have := Int.tdiv_nonneg (a := 2147483648) (b := b) (by omega) (by omega)
              omega
            omega
        · omega
      · omega
theorem i3_rem {a b : Int} (ha : ib a) (hb : ib b) (hb0 : b ≠ 0) : Int32.ofInt a - Int32.ofInt a / Int32.ofInt b * Int32.ofInt b = Int32.ofInt (a.tmod b) := by
  rw [← Int32.toInt_inj, rem_toInt, i3_toInt ha, i3_toInt hb]
  refine (i3_toInt ?_).symm
  have h1 : (a.tmod b).natAbs ≤ a.natAbs := by
    rw [Int.natAbs_tmod]
    exact Nat.mod_le _ _
  rcases (by omega : a < 0 ∨ 0 ≤ a) with h | h
  · have : a.tmod b ≤ 0 := by
      have := Int.tmod_nonneg (a := -a) b (by omega)
      rw [Int.neg_tmod] at this
      omega
    omega
  · have := Int.tmod_nonneg (a := a) b h
    omega
theorem lh_at {ad : Nat → Nat} {k : MD} {ls : Array Slot} {L : List (Option PV)} {i : Nat} {v : PV} (h : lh ad k ls L) (hi : L[i]? = some (some v)) : ls[i]? = some (Slot.val (tv ad v)) := h.2.2.2 i v hi
def nj : Option PV → Bool
  | some (.inr (.inl _)) => false
  | _ => true
def la (ad : Nat → Nat) (L : List (Option PV)) : List (Nat × Value) := L.zipIdx.filterMap (fun q => q.1.map (fun v => (q.2, tv ad v)))
theorem la_mem {ad : Nat → Nat} {L : List (Option PV)} {q : Nat × Value} : q ∈ la ad L ↔ ∃ v, L[q.1]? = some (some v) ∧ q.2 = tv ad v := by
  unfold la
  rw [List.mem_filterMap]
  constructor
  · rintro ⟨⟨a, i⟩, hm, h⟩
    rw [List.mem_zipIdx_iff_getElem?] at hm
    cases a with
    | none => cases h
    | some v => cases h; exact ⟨v, hm, rfl⟩
  · rintro ⟨v, h1, h2⟩
    refine ⟨(some v, q.1), ?_, ?_⟩
    · rw [List.mem_zipIdx_iff_getElem?]
      exact h1
    · rw [← show (q.1, tv ad v) = q by rw [← h2]]
      rfl
theorem lh_has {ad : Nat → Nat} {k : MD} {ls : Array Slot} {L : List (Option PV)} (h : lh ad k ls L) : lv_has ls k.2.2.1 (la ad L) :=
  ⟨h.1, h.2.2.1, fun q hq => by
    obtain ⟨v, h1, h2⟩ := la_mem.mp hq
    rw [h2]
    exact h.2.2.2 _ _ h1⟩
theorem lh_set1 {ad : Nat → Nat} {k : MD} {ls ls2 : Array Slot} {L : List (Option PV)} {i : Nat} {v : PV} (h : lh ad k ls L) (hi : i < k.2.2.1) (hj : ∀ w, L[i - 1]? = some w → nj w = true)
    (h2 : lv_has ls2 k.2.2.1 ((i, tv ad v) :: (la ad L).filter (fun q => !(q.1 == i) && !(q.1 + 1 == i && q.2.category == 2)))) : lh ad k ls2 (L.set i (some v)) := by
  refine ⟨h2.1, by rw [List.length_set]; exact h.2.1, h2.2.1, fun j w hw => ?_⟩
  by_cases hji : j = i
  · subst hji
    rw [List.getElem?_set_self (by rw [h.2.1]; exact hi)] at hw
    cases hw
    exact h2.2.2 (j, tv ad v) List.mem_cons_self
  · rw [List.getElem?_set_ne (Ne.symm hji)] at hw
    refine h2.2.2 (j, tv ad w) (List.mem_cons_of_mem _ (List.mem_filter.mpr ⟨la_mem.mpr ⟨w, hw, rfl⟩, ?_⟩))
    simp only [Bool.and_eq_true, Bool.not_eq_true', beq_eq_false_iff_ne, ne_eq, hji, not_false_eq_true, true_and]
    by_cases hq : j + 1 = i
    · subst hq
      have := hj (some w) (by simpa using hw)
      rcases w with a | a | a
      · simp [tv, Value.category]
      · simp [nj] at this
      · simp [tv, Value.category]
    · simp [hq]
theorem lh_set2 {ad : Nat → Nat} {k : MD} {ls ls2 : Array Slot} {L : List (Option PV)} {i : Nat} {v : PV} (h : lh ad k ls L) (hi : i + 1 < k.2.2.1) (hj : ∀ w, L[i - 1]? = some w → nj w = true)
    (h2 : lv_has ls2 k.2.2.1 ((i, tv ad v) :: (la ad L).filter (fun q => !(q.1 == i) && (!(q.1 == i + 1) && !(q.1 + 1 == i && q.2.category == 2))))) : lh ad k ls2 ((L.set i (some v)).set (i + 1) none) := by
  refine ⟨h2.1, by rw [List.length_set, List.length_set]; exact h.2.1, h2.2.1, fun j w hw => ?_⟩
  by_cases hj1 : j = i + 1
  · subst hj1
    rw [List.getElem?_set_self (by rw [List.length_set, h.2.1]; exact hi)] at hw
    cases hw
  rw [List.getElem?_set_ne (Ne.symm hj1)] at hw
  by_cases hji : j = i
  · subst hji
    rw [List.getElem?_set_self (by rw [h.2.1]; omega)] at hw
    cases hw
    exact h2.2.2 (j, tv ad v) List.mem_cons_self
  · rw [List.getElem?_set_ne (Ne.symm hji)] at hw
    refine h2.2.2 (j, tv ad w) (List.mem_cons_of_mem _ (List.mem_filter.mpr ⟨la_mem.mpr ⟨w, hw, rfl⟩, ?_⟩))
    simp only [Bool.and_eq_true, Bool.not_eq_true', beq_eq_false_iff_ne, ne_eq, hji, hj1, not_false_eq_true, true_and]
    by_cases hq : j + 1 = i
    · subst hq
      have := hj (some w) (by simpa using hw)
      rcases w with a | a | a
      · simp [tv, Value.category]
      · simp [nj] at this
      · simp [tv, Value.category]
    · simp [hq]

theorem r_iconst {k : MD} {G : List GD} {n : Nat} {post : Option PV → Mem → Prop} {z : ZZ} {pc pc2 : Nat} {L : List (Option PV)} {S : List PV} {M : Mem} {a : Int} (hd : Dk k pc (.iconst a) 1 pc2) (kk : WP k G n post z pc2 L (iv a :: S) M) : WP k G n post z pc L (S) M := by
  obtain ⟨p, l, e, s, m, args, below, meth, c, D, dA, adK, adV, ad⟩ := z
  obtain ⟨hd, rfl⟩ := hd
  intro C H locs ls B
  exact lv_iconst C.1 C.2.1 hd rfl (kk C H locs ls B)
theorem r_bipush {k : MD} {G : List GD} {n : Nat} {post : Option PV → Mem → Prop} {z : ZZ} {pc pc2 : Nat} {L : List (Option PV)} {S : List PV} {M : Mem} {a : Int} (hd : Dk k pc (.bipush a) 2 pc2) (h : -128 ≤ a ∧ a < 128) (kk : WP k G n post z pc2 L (iv a :: S) M) : WP k G n post z pc L (S) M := by
  obtain ⟨p, l, e, s, m, args, below, meth, c, D, dA, adK, adV, ad⟩ := z
  obtain ⟨hd, rfl⟩ := hd
  intro C H locs ls B
  refine lv_bipush C.1 C.2.1 hd ?_ (kk C H locs ls B)
  rw [← Int32.toInt_inj, i3_toInt (by omega), Int8.toInt_toInt32, Int8.toInt_ofInt_of_le (by omega) (by omega)]
theorem r_sipush {k : MD} {G : List GD} {n : Nat} {post : Option PV → Mem → Prop} {z : ZZ} {pc pc2 : Nat} {L : List (Option PV)} {S : List PV} {M : Mem} {a : Int} (hd : Dk k pc (.sipush a) 3 pc2) (h : -32768 ≤ a ∧ a < 32768) (kk : WP k G n post z pc2 L (iv a :: S) M) : WP k G n post z pc L (S) M := by
  obtain ⟨p, l, e, s, m, args, below, meth, c, D, dA, adK, adV, ad⟩ := z
  obtain ⟨hd, rfl⟩ := hd
  intro C H locs ls B
  refine lv_sipush C.1 C.2.1 hd ?_ (kk C H locs ls B)
  rw [← Int32.toInt_inj, i3_toInt (by omega), Int16.toInt_toInt32, Int16.toInt_ofInt_of_le (by omega) (by omega)]
theorem r_lconst0 {k : MD} {G : List GD} {n : Nat} {post : Option PV → Mem → Prop} {z : ZZ} {pc pc2 : Nat} {L : List (Option PV)} {S : List PV} {M : Mem}  (hd : Dk k pc (.lconst 0) 1 pc2) (kk : WP k G n post z pc2 L (jv 0 :: S) M) : WP k G n post z pc L (S) M := by
  obtain ⟨p, l, e, s, m, args, below, meth, c, D, dA, adK, adV, ad⟩ := z
  obtain ⟨hd, rfl⟩ := hd
  intro C H locs ls B
  exact lv_lconst C.1 C.2.1 hd rfl (kk C H locs ls B)
theorem r_lconst1 {k : MD} {G : List GD} {n : Nat} {post : Option PV → Mem → Prop} {z : ZZ} {pc pc2 : Nat} {L : List (Option PV)} {S : List PV} {M : Mem}  (hd : Dk k pc (.lconst 1) 1 pc2) (kk : WP k G n post z pc2 L (jv 1 :: S) M) : WP k G n post z pc L (S) M := by
  obtain ⟨p, l, e, s, m, args, below, meth, c, D, dA, adK, adV, ad⟩ := z
  obtain ⟨hd, rfl⟩ := hd
  intro C H locs ls B
  exact lv_lconst C.1 C.2.1 hd rfl (kk C H locs ls B)
theorem r_ldc {k : MD} {G : List GD} {n : Nat} {post : Option PV → Mem → Prop} {z : ZZ} {pc pc2 : Nat} {L : List (Option PV)} {S : List PV} {M : Mem} {a : Int} {i : Nat} (hd : Dk k pc (.ldc i) 2 pc2) (hq : Cond.constant k.1.cls i (Int32.ofInt a) ∈ q_tbl) (kk : WP k G n post z pc2 L (iv a :: S) M) : WP k G n post z pc L (S) M := by
  obtain ⟨p, l, e, s, m, args, below, meth, c, D, dA, adK, adV, ad⟩ := z
  obtain ⟨hd, rfl⟩ := hd
  intro C H locs ls B
  exact lv_ldc C.1 C.2.1 C.2.2.2.1 (C.2.2.2.2.1 _ hq) hd (kk C H locs ls B)
theorem r_ldcw {k : MD} {G : List GD} {n : Nat} {post : Option PV → Mem → Prop} {z : ZZ} {pc pc2 : Nat} {L : List (Option PV)} {S : List PV} {M : Mem} {a : Int} {i : Nat} (hd : Dk k pc (.ldc_w i) 3 pc2) (hq : Cond.constant k.1.cls i (Int32.ofInt a) ∈ q_tbl) (kk : WP k G n post z pc2 L (iv a :: S) M) : WP k G n post z pc L (S) M := by
  obtain ⟨p, l, e, s, m, args, below, meth, c, D, dA, adK, adV, ad⟩ := z
  obtain ⟨hd, rfl⟩ := hd
  intro C H locs ls B
  exact lv_ldcw C.1 C.2.1 C.2.2.2.1 (C.2.2.2.2.1 _ hq) hd (kk C H locs ls B)
theorem r_ldc2 {k : MD} {G : List GD} {n : Nat} {post : Option PV → Mem → Prop} {z : ZZ} {pc pc2 : Nat} {L : List (Option PV)} {S : List PV} {M : Mem} {a : Int} {i : Nat} (hd : Dk k pc (.ldc2_w i) 3 pc2) (hq : Cond.constantLong k.1.cls i (Int64.ofInt a) ∈ q_tbl) (kk : WP k G n post z pc2 L (jv a :: S) M) : WP k G n post z pc L (S) M := by
  obtain ⟨p, l, e, s, m, args, below, meth, c, D, dA, adK, adV, ad⟩ := z
  obtain ⟨hd, rfl⟩ := hd
  intro C H locs ls B
  exact lv_ldc2 C.1 C.2.1 C.2.2.2.1 (C.2.2.2.2.1 _ hq) hd (kk C H locs ls B)
theorem r_iadd {k : MD} {G : List GD} {n : Nat} {post : Option PV → Mem → Prop} {z : ZZ} {pc pc2 : Nat} {L : List (Option PV)} {S : List PV} {M : Mem} {a b : Int} (hd : Dk k pc (.iadd) 1 pc2) (kk : WP k G n post z pc2 L (iv (a + b) :: S) M) : WP k G n post z pc L (iv b :: iv a :: S) M := by
  obtain ⟨p, l, e, s, m, args, below, meth, c, D, dA, adK, adV, ad⟩ := z
  obtain ⟨hd, rfl⟩ := hd
  intro C H locs ls B
  exact lv_iadd C.1 C.2.1 hd (by rw [← Int32.ofInt_add]; exact kk C H locs ls B)
theorem r_isub {k : MD} {G : List GD} {n : Nat} {post : Option PV → Mem → Prop} {z : ZZ} {pc pc2 : Nat} {L : List (Option PV)} {S : List PV} {M : Mem} {a b : Int} (hd : Dk k pc (.isub) 1 pc2) (kk : WP k G n post z pc2 L (iv (a - b) :: S) M) : WP k G n post z pc L (iv b :: iv a :: S) M := by
  obtain ⟨p, l, e, s, m, args, below, meth, c, D, dA, adK, adV, ad⟩ := z
  obtain ⟨hd, rfl⟩ := hd
  intro C H locs ls B
  exact lv_isub C.1 C.2.1 hd (by rw [← Int32.ofInt_sub]; exact kk C H locs ls B)
theorem r_imul {k : MD} {G : List GD} {n : Nat} {post : Option PV → Mem → Prop} {z : ZZ} {pc pc2 : Nat} {L : List (Option PV)} {S : List PV} {M : Mem} {a b : Int} (hd : Dk k pc (.imul) 1 pc2) (kk : WP k G n post z pc2 L (iv (a * b) :: S) M) : WP k G n post z pc L (iv b :: iv a :: S) M := by
  obtain ⟨p, l, e, s, m, args, below, meth, c, D, dA, adK, adV, ad⟩ := z
  obtain ⟨hd, rfl⟩ := hd
  intro C H locs ls B
  exact lv_imul C.1 C.2.1 hd (by rw [← Int32.ofInt_mul]; exact kk C H locs ls B)
theorem r_ineg {k : MD} {G : List GD} {n : Nat} {post : Option PV → Mem → Prop} {z : ZZ} {pc pc2 : Nat} {L : List (Option PV)} {S : List PV} {M : Mem} {a : Int} (hd : Dk k pc (.ineg) 1 pc2) (kk : WP k G n post z pc2 L (iv (-a) :: S) M) : WP k G n post z pc L (iv a :: S) M := by
  obtain ⟨p, l, e, s, m, args, below, meth, c, D, dA, adK, adV, ad⟩ := z
  obtain ⟨hd, rfl⟩ := hd
  intro C H locs ls B
  exact lv_ineg C.1 C.2.1 hd (by rw [← Int32.ofInt_neg]; exact kk C H locs ls B)
theorem r_ladd {k : MD} {G : List GD} {n : Nat} {post : Option PV → Mem → Prop} {z : ZZ} {pc pc2 : Nat} {L : List (Option PV)} {S : List PV} {M : Mem} {a b : Int} (hd : Dk k pc (.ladd) 1 pc2) (kk : WP k G n post z pc2 L (jv (a + b) :: S) M) : WP k G n post z pc L (jv b :: jv a :: S) M := by
  obtain ⟨p, l, e, s, m, args, below, meth, c, D, dA, adK, adV, ad⟩ := z
  obtain ⟨hd, rfl⟩ := hd
  intro C H locs ls B
  exact lv_ladd C.1 C.2.1 hd (by rw [← Int64.ofInt_add]; exact kk C H locs ls B)
theorem r_lmul {k : MD} {G : List GD} {n : Nat} {post : Option PV → Mem → Prop} {z : ZZ} {pc pc2 : Nat} {L : List (Option PV)} {S : List PV} {M : Mem} {a b : Int} (hd : Dk k pc (.lmul) 1 pc2) (kk : WP k G n post z pc2 L (jv (a * b) :: S) M) : WP k G n post z pc L (jv b :: jv a :: S) M := by
  obtain ⟨p, l, e, s, m, args, below, meth, c, D, dA, adK, adV, ad⟩ := z
  obtain ⟨hd, rfl⟩ := hd
  intro C H locs ls B
  exact lv_lmul C.1 C.2.1 hd (by rw [← Int64.ofInt_mul]; exact kk C H locs ls B)
theorem r_idiv {k : MD} {G : List GD} {n : Nat} {post : Option PV → Mem → Prop} {z : ZZ} {pc pc2 : Nat} {L : List (Option PV)} {S : List PV} {M : Mem} {a b : Int} (hd : Dk k pc (.idiv) 1 pc2) (ha : ib a) (hb : ib b) (h0 : b ≠ 0) (h1 : b ≠ -1) (kk : WP k G n post z pc2 L (iv (a.tdiv b) :: S) M) : WP k G n post z pc L (iv b :: iv a :: S) M := by
  obtain ⟨p, l, e, s, m, args, below, meth, c, D, dA, adK, adV, ad⟩ := z
  obtain ⟨hd, rfl⟩ := hd
  intro C H locs ls B
  exact lv_idiv C.1 C.2.1 hd (fun q => h0 ((i3_eq0 hb).mp q)) (by rw [i3_div ha hb h1]; exact kk C H locs ls B)
theorem r_irem {k : MD} {G : List GD} {n : Nat} {post : Option PV → Mem → Prop} {z : ZZ} {pc pc2 : Nat} {L : List (Option PV)} {S : List PV} {M : Mem} {a b : Int} (hd : Dk k pc (.irem) 1 pc2) (ha : ib a) (hb : ib b) (h0 : b ≠ 0) (kk : WP k G n post z pc2 L (iv (a.tmod b) :: S) M) : WP k G n post z pc L (iv b :: iv a :: S) M := by
  obtain ⟨p, l, e, s, m, args, below, meth, c, D, dA, adK, adV, ad⟩ := z
  obtain ⟨hd, rfl⟩ := hd
  intro C H locs ls B
  exact lv_irem C.1 C.2.1 hd (fun q => h0 ((i3_eq0 hb).mp q)) (by rw [i3_rem ha hb h0]; exact kk C H locs ls B)
theorem r_as {k : MD} {G : List GD} {n : Nat} {post : Option PV → Mem → Prop} {z : ZZ} {pc : Nat} {L : List (Option PV)} {S : List PV} {M : Mem} {a b : Int} (h : Int32.ofInt a = Int32.ofInt b) (kk : WP k G n post z pc L (iv b :: S) M) : WP k G n post z pc L (iv a :: S) M := by
  obtain ⟨p, l, e, s, m, args, below, meth, c, D, dA, adK, adV, ad⟩ := z
  intro C H locs ls B
  have := kk C H locs ls B
  show W _ _ _ _ _ _ _ _ _ _ _ _ _ _ _ (F0 m pc ls (tv ad (iv a) :: _))
  rw [show tv ad (iv a) = tv ad (iv b) by simp only [tv]; rw [h]]
  exact this
theorem r_asj {k : MD} {G : List GD} {n : Nat} {post : Option PV → Mem → Prop} {z : ZZ} {pc : Nat} {L : List (Option PV)} {S : List PV} {M : Mem} {a b : Int} (h : Int64.ofInt a = Int64.ofInt b) (kk : WP k G n post z pc L (jv b :: S) M) : WP k G n post z pc L (jv a :: S) M := by
  obtain ⟨p, l, e, s, m, args, below, meth, c, D, dA, adK, adV, ad⟩ := z
  intro C H locs ls B
  have := kk C H locs ls B
  show W _ _ _ _ _ _ _ _ _ _ _ _ _ _ _ (F0 m pc ls (tv ad (jv a) :: _))
  rw [show tv ad (jv a) = tv ad (jv b) by simp only [tv]; rw [h]]
  exact this
theorem r_mb {k : MD} {G : List GD} {n : Nat} {post : Option PV → Mem → Prop} {z : ZZ} {pc : Nat} {L : List (Option PV)} {S : List PV} {M : Mem} (kk : (∀ c i, ib (M c i)) → WP k G n post z pc L S M) : WP k G n post z pc L S M := by
  obtain ⟨p, l, e, s, m, args, below, meth, c, D, dA, adK, adV, ad⟩ := z
  intro C H locs ls B
  exact kk B.2.1 C H locs ls B
theorem r_ishl {k : MD} {G : List GD} {n : Nat} {post : Option PV → Mem → Prop} {z : ZZ} {pc pc2 : Nat} {L : List (Option PV)} {S : List PV} {M : Mem} {a b r : Int} (hd : Dk k pc (.ishl) 1 pc2) (h : Int32.ofInt a <<< (Int32.ofInt b &&& 31) = Int32.ofInt r) (kk : WP k G n post z pc2 L (iv r :: S) M) : WP k G n post z pc L (iv b :: iv a :: S) M := by
  obtain ⟨p, l, e, s, m, args, below, meth, c, D, dA, adK, adV, ad⟩ := z
  obtain ⟨hd, rfl⟩ := hd
  intro C H locs ls B
  exact lv_ishl C.1 C.2.1 hd (by rw [h]; exact kk C H locs ls B)
theorem r_ishr {k : MD} {G : List GD} {n : Nat} {post : Option PV → Mem → Prop} {z : ZZ} {pc pc2 : Nat} {L : List (Option PV)} {S : List PV} {M : Mem} {a b r : Int} (hd : Dk k pc (.ishr) 1 pc2) (h : Int32.ofInt a >>> (Int32.ofInt b &&& 31) = Int32.ofInt r) (kk : WP k G n post z pc2 L (iv r :: S) M) : WP k G n post z pc L (iv b :: iv a :: S) M := by
  obtain ⟨p, l, e, s, m, args, below, meth, c, D, dA, adK, adV, ad⟩ := z
  obtain ⟨hd, rfl⟩ := hd
  intro C H locs ls B
  exact lv_ishr C.1 C.2.1 hd (by rw [h]; exact kk C H locs ls B)
theorem r_ior {k : MD} {G : List GD} {n : Nat} {post : Option PV → Mem → Prop} {z : ZZ} {pc pc2 : Nat} {L : List (Option PV)} {S : List PV} {M : Mem} {a b r : Int} (hd : Dk k pc (.ior) 1 pc2) (h : Int32.ofInt a ||| Int32.ofInt b = Int32.ofInt r) (kk : WP k G n post z pc2 L (iv r :: S) M) : WP k G n post z pc L (iv b :: iv a :: S) M := by
  obtain ⟨p, l, e, s, m, args, below, meth, c, D, dA, adK, adV, ad⟩ := z
  obtain ⟨hd, rfl⟩ := hd
  intro C H locs ls B
  exact lv_ior C.1 C.2.1 hd (by rw [h]; exact kk C H locs ls B)
theorem r_iand {k : MD} {G : List GD} {n : Nat} {post : Option PV → Mem → Prop} {z : ZZ} {pc pc2 : Nat} {L : List (Option PV)} {S : List PV} {M : Mem} {a b r : Int} (hd : Dk k pc (.iand) 1 pc2) (h : Int32.ofInt a &&& Int32.ofInt b = Int32.ofInt r) (kk : WP k G n post z pc2 L (iv r :: S) M) : WP k G n post z pc L (iv b :: iv a :: S) M := by
  obtain ⟨p, l, e, s, m, args, below, meth, c, D, dA, adK, adV, ad⟩ := z
  obtain ⟨hd, rfl⟩ := hd
  intro C H locs ls B
  exact lv_iand C.1 C.2.1 hd (by rw [h]; exact kk C H locs ls B)
theorem r_ixor {k : MD} {G : List GD} {n : Nat} {post : Option PV → Mem → Prop} {z : ZZ} {pc pc2 : Nat} {L : List (Option PV)} {S : List PV} {M : Mem} {a b r : Int} (hd : Dk k pc (.ixor) 1 pc2) (h : Int32.ofInt a ^^^ Int32.ofInt b = Int32.ofInt r) (kk : WP k G n post z pc2 L (iv r :: S) M) : WP k G n post z pc L (iv b :: iv a :: S) M := by
  obtain ⟨p, l, e, s, m, args, below, meth, c, D, dA, adK, adV, ad⟩ := z
  obtain ⟨hd, rfl⟩ := hd
  intro C H locs ls B
  exact lv_ixor C.1 C.2.1 hd (by rw [h]; exact kk C H locs ls B)
theorem r_iushr {k : MD} {G : List GD} {n : Nat} {post : Option PV → Mem → Prop} {z : ZZ} {pc pc2 : Nat} {L : List (Option PV)} {S : List PV} {M : Mem} {a b r : Int} (hd : Dk k pc (.iushr) 1 pc2) (h : ((Int32.ofInt a).toUInt32 >>> ((Int32.ofInt b).toUInt32 &&& Int32.toUInt32 31)).toInt32 = Int32.ofInt r) (kk : WP k G n post z pc2 L (iv r :: S) M) : WP k G n post z pc L (iv b :: iv a :: S) M := by
  obtain ⟨p, l, e, s, m, args, below, meth, c, D, dA, adK, adV, ad⟩ := z
  obtain ⟨hd, rfl⟩ := hd
  intro C H locs ls B
  exact lv_iushr C.1 C.2.1 hd h (kk C H locs ls B)
theorem r_i2b {k : MD} {G : List GD} {n : Nat} {post : Option PV → Mem → Prop} {z : ZZ} {pc pc2 : Nat} {L : List (Option PV)} {S : List PV} {M : Mem} {a r : Int} (hd : Dk k pc (.i2b) 1 pc2) (h : (Int32.ofInt a).toInt8.toInt32 = Int32.ofInt r) (kk : WP k G n post z pc2 L (iv r :: S) M) : WP k G n post z pc L (iv a :: S) M := by
  obtain ⟨p, l, e, s, m, args, below, meth, c, D, dA, adK, adV, ad⟩ := z
  obtain ⟨hd, rfl⟩ := hd
  intro C H locs ls B
  exact lv_i2b C.1 C.2.1 hd h (kk C H locs ls B)
theorem r_i2s {k : MD} {G : List GD} {n : Nat} {post : Option PV → Mem → Prop} {z : ZZ} {pc pc2 : Nat} {L : List (Option PV)} {S : List PV} {M : Mem} {a r : Int} (hd : Dk k pc (.i2s) 1 pc2) (h : (Int32.ofInt a).toInt16.toInt32 = Int32.ofInt r) (kk : WP k G n post z pc2 L (iv r :: S) M) : WP k G n post z pc L (iv a :: S) M := by
  obtain ⟨p, l, e, s, m, args, below, meth, c, D, dA, adK, adV, ad⟩ := z
  obtain ⟨hd, rfl⟩ := hd
  intro C H locs ls B
  exact lv_i2s C.1 C.2.1 hd h (kk C H locs ls B)
theorem r_i2l {k : MD} {G : List GD} {n : Nat} {post : Option PV → Mem → Prop} {z : ZZ} {pc pc2 : Nat} {L : List (Option PV)} {S : List PV} {M : Mem} {a : Int} (hd : Dk k pc (.i2l) 1 pc2) (h : ib a) (kk : WP k G n post z pc2 L (jv a :: S) M) : WP k G n post z pc L (iv a :: S) M := by
  obtain ⟨p, l, e, s, m, args, below, meth, c, D, dA, adK, adV, ad⟩ := z
  obtain ⟨hd, rfl⟩ := hd
  intro C H locs ls B
  exact lv_i2l C.1 C.2.1 hd (Int64.toInt_inj.mp (by rw [Int32.toInt_toInt64, i3_toInt h, Int64.toInt_ofInt_of_le (by omega) (by omega)])) (kk C H locs ls B)
theorem r_l2i {k : MD} {G : List GD} {n : Nat} {post : Option PV → Mem → Prop} {z : ZZ} {pc pc2 : Nat} {L : List (Option PV)} {S : List PV} {M : Mem} {a : Int} (hd : Dk k pc (.l2i) 1 pc2) (kk : WP k G n post z pc2 L (iv a :: S) M) : WP k G n post z pc L (jv a :: S) M := by
  obtain ⟨p, l, e, s, m, args, below, meth, c, D, dA, adK, adV, ad⟩ := z
  obtain ⟨hd, rfl⟩ := hd
  intro C H locs ls B
  exact lv_l2i C.1 C.2.1 hd (by rw [Int64.toInt32_ofInt]) (kk C H locs ls B)
theorem r_ldiv {k : MD} {G : List GD} {n : Nat} {post : Option PV → Mem → Prop} {z : ZZ} {pc pc2 : Nat} {L : List (Option PV)} {S : List PV} {M : Mem} {a b r : Int} (hd : Dk k pc (.ldiv) 1 pc2) (h0 : ¬ Int64.ofInt b = 0) (h : Int64.ofInt a / Int64.ofInt b = Int64.ofInt r) (kk : WP k G n post z pc2 L (jv r :: S) M) : WP k G n post z pc L (jv b :: jv a :: S) M := by
  obtain ⟨p, l, e, s, m, args, below, meth, c, D, dA, adK, adV, ad⟩ := z
  obtain ⟨hd, rfl⟩ := hd
  intro C H locs ls B
  exact lv_ldiv C.1 C.2.1 hd h0 (by rw [h]; exact kk C H locs ls B)
theorem r_lrem {k : MD} {G : List GD} {n : Nat} {post : Option PV → Mem → Prop} {z : ZZ} {pc pc2 : Nat} {L : List (Option PV)} {S : List PV} {M : Mem} {a b r : Int} (hd : Dk k pc (.lrem) 1 pc2) (h0 : ¬ Int64.ofInt b = 0) (h : Int64.ofInt a - Int64.ofInt a / Int64.ofInt b * Int64.ofInt b = Int64.ofInt r) (kk : WP k G n post z pc2 L (jv r :: S) M) : WP k G n post z pc L (jv b :: jv a :: S) M := by
  obtain ⟨p, l, e, s, m, args, below, meth, c, D, dA, adK, adV, ad⟩ := z
  obtain ⟨hd, rfl⟩ := hd
  intro C H locs ls B
  exact lv_lrem C.1 C.2.1 hd h0 (by rw [h]; exact kk C H locs ls B)
theorem r_lcmp {k : MD} {G : List GD} {n : Nat} {post : Option PV → Mem → Prop} {z : ZZ} {pc pc2 : Nat} {L : List (Option PV)} {S : List PV} {M : Mem} {a b r : Int} (hd : Dk k pc (.lcmp) 1 pc2) (h : lg_cmp (Int64.ofInt a) (Int64.ofInt b) = Int32.ofInt r) (kk : WP k G n post z pc2 L (iv r :: S) M) : WP k G n post z pc L (jv b :: jv a :: S) M := by
  obtain ⟨p, l, e, s, m, args, below, meth, c, D, dA, adK, adV, ad⟩ := z
  obtain ⟨hd, rfl⟩ := hd
  intro C H locs ls B
  exact W.lcmp C.1 C.2.1 hd (by rw [h]; exact kk C H locs ls B)
theorem r_dup_i {k : MD} {G : List GD} {n : Nat} {post : Option PV → Mem → Prop} {z : ZZ} {pc pc2 : Nat} {L : List (Option PV)} {S : List PV} {M : Mem} {a : Int} (hd : Dk k pc (.dup) 1 pc2) (kk : WP k G n post z pc2 L (iv a :: iv a :: S) M) : WP k G n post z pc L (iv a :: S) M := by
  obtain ⟨p, l, e, s, m, args, below, meth, c, D, dA, adK, adV, ad⟩ := z
  obtain ⟨hd, rfl⟩ := hd
  intro C H locs ls B
  exact lv_dup C.1 C.2.1 hd rfl (kk C H locs ls B)
theorem r_dup_r {k : MD} {G : List GD} {n : Nat} {post : Option PV → Mem → Prop} {z : ZZ} {pc pc2 : Nat} {L : List (Option PV)} {S : List PV} {M : Mem} {a : Nat} (hd : Dk k pc (.dup) 1 pc2) (kk : WP k G n post z pc2 L (rv a :: rv a :: S) M) : WP k G n post z pc L (rv a :: S) M := by
  obtain ⟨p, l, e, s, m, args, below, meth, c, D, dA, adK, adV, ad⟩ := z
  obtain ⟨hd, rfl⟩ := hd
  intro C H locs ls B
  exact lv_dup C.1 C.2.1 hd rfl (kk C H locs ls B)
theorem r_pop_i {k : MD} {G : List GD} {n : Nat} {post : Option PV → Mem → Prop} {z : ZZ} {pc pc2 : Nat} {L : List (Option PV)} {S : List PV} {M : Mem} {a : Int} (hd : Dk k pc (.pop) 1 pc2) (kk : WP k G n post z pc2 L (S) M) : WP k G n post z pc L (iv a :: S) M := by
  obtain ⟨p, l, e, s, m, args, below, meth, c, D, dA, adK, adV, ad⟩ := z
  obtain ⟨hd, rfl⟩ := hd
  intro C H locs ls B
  exact lv_pop C.1 C.2.1 hd rfl (kk C H locs ls B)
theorem r_pop_r {k : MD} {G : List GD} {n : Nat} {post : Option PV → Mem → Prop} {z : ZZ} {pc pc2 : Nat} {L : List (Option PV)} {S : List PV} {M : Mem} {a : Nat} (hd : Dk k pc (.pop) 1 pc2) (kk : WP k G n post z pc2 L (S) M) : WP k G n post z pc L (rv a :: S) M := by
  obtain ⟨p, l, e, s, m, args, below, meth, c, D, dA, adK, adV, ad⟩ := z
  obtain ⟨hd, rfl⟩ := hd
  intro C H locs ls B
  exact lv_pop C.1 C.2.1 hd rfl (kk C H locs ls B)
theorem r_dup2 {k : MD} {G : List GD} {n : Nat} {post : Option PV → Mem → Prop} {z : ZZ} {pc pc2 : Nat} {L : List (Option PV)} {S : List PV} {M : Mem} {a : Int} {b : Nat} (hd : Dk k pc (.dup2) 1 pc2) (kk : WP k G n post z pc2 L (iv a :: rv b :: iv a :: rv b :: S) M) : WP k G n post z pc L (iv a :: rv b :: S) M := by
  obtain ⟨p, l, e, s, m, args, below, meth, c, D, dA, adK, adV, ad⟩ := z
  obtain ⟨hd, rfl⟩ := hd
  intro C H locs ls B
  exact lv_dup2_11 C.1 C.2.1 hd rfl rfl (kk C H locs ls B)
theorem r_icmp_eq {k : MD} {G : List GD} {n : Nat} {post : Option PV → Mem → Prop} {z : ZZ} {pc pc2 : Nat} {L : List (Option PV)} {S : List PV} {M : Mem} {tgt : Nat} {a b : Int} (hd : Dj k pc (fun o => .if_icmp .eq o) 3 pc2 tgt) (ha : ib a) (hb : ib b) (kt : a = b → WP k G n post z tgt L S M) (kf : ¬ a = b → WP k G n post z pc2 L S M) : WP k G n post z pc L (iv b :: iv a :: S) M := by
  obtain ⟨p, l, e, s, m, args, below, meth, c, D, dA, adK, adV, ad⟩ := z
  obtain ⟨off, hd, rfl, ht⟩ := hd
  intro C H locs ls B
  exact lv_icmp_eq C.1 C.2.1 hd ht (fun q => kt ((i3_eq ha hb).mp q) C H locs ls B) (fun q => kf (fun w => q ((i3_eq ha hb).mpr w)) C H locs ls B)
theorem r_if_eq {k : MD} {G : List GD} {n : Nat} {post : Option PV → Mem → Prop} {z : ZZ} {pc pc2 : Nat} {L : List (Option PV)} {S : List PV} {M : Mem} {tgt : Nat} {a : Int} (hd : Dj k pc (fun o => .ifCond .eq o) 3 pc2 tgt) (ha : ib a) (kt : a = 0 → WP k G n post z tgt L S M) (kf : ¬ a = 0 → WP k G n post z pc2 L S M) : WP k G n post z pc L (iv a :: S) M := by
  obtain ⟨p, l, e, s, m, args, below, meth, c, D, dA, adK, adV, ad⟩ := z
  obtain ⟨off, hd, rfl, ht⟩ := hd
  intro C H locs ls B
  exact lv_if_eq C.1 C.2.1 hd ht (fun q => kt ((i3_eq0 ha).mp q) C H locs ls B) (fun q => kf (fun w => q ((i3_eq0 ha).mpr w)) C H locs ls B)
theorem r_icmp_ne {k : MD} {G : List GD} {n : Nat} {post : Option PV → Mem → Prop} {z : ZZ} {pc pc2 : Nat} {L : List (Option PV)} {S : List PV} {M : Mem} {tgt : Nat} {a b : Int} (hd : Dj k pc (fun o => .if_icmp .ne o) 3 pc2 tgt) (ha : ib a) (hb : ib b) (kt : ¬ a = b → WP k G n post z tgt L S M) (kf : a = b → WP k G n post z pc2 L S M) : WP k G n post z pc L (iv b :: iv a :: S) M := by
  obtain ⟨p, l, e, s, m, args, below, meth, c, D, dA, adK, adV, ad⟩ := z
  obtain ⟨off, hd, rfl, ht⟩ := hd
  intro C H locs ls B
  exact lv_icmp_ne C.1 C.2.1 hd ht (fun q => kt (fun w => q ((i3_eq ha hb).mpr w)) C H locs ls B) (fun q => kf ((i3_eq ha hb).mp q) C H locs ls B)
theorem r_if_ne {k : MD} {G : List GD} {n : Nat} {post : Option PV → Mem → Prop} {z : ZZ} {pc pc2 : Nat} {L : List (Option PV)} {S : List PV} {M : Mem} {tgt : Nat} {a : Int} (hd : Dj k pc (fun o => .ifCond .ne o) 3 pc2 tgt) (ha : ib a) (kt : ¬ a = 0 → WP k G n post z tgt L S M) (kf : a = 0 → WP k G n post z pc2 L S M) : WP k G n post z pc L (iv a :: S) M := by
  obtain ⟨p, l, e, s, m, args, below, meth, c, D, dA, adK, adV, ad⟩ := z
  obtain ⟨off, hd, rfl, ht⟩ := hd
  intro C H locs ls B
  exact lv_if_ne C.1 C.2.1 hd ht (fun q => kt (fun w => q ((i3_eq0 ha).mpr w)) C H locs ls B) (fun q => kf ((i3_eq0 ha).mp q) C H locs ls B)
theorem r_icmp_lt {k : MD} {G : List GD} {n : Nat} {post : Option PV → Mem → Prop} {z : ZZ} {pc pc2 : Nat} {L : List (Option PV)} {S : List PV} {M : Mem} {tgt : Nat} {a b : Int} (hd : Dj k pc (fun o => .if_icmp .lt o) 3 pc2 tgt) (ha : ib a) (hb : ib b) (kt : a < b → WP k G n post z tgt L S M) (kf : b ≤ a → WP k G n post z pc2 L S M) : WP k G n post z pc L (iv b :: iv a :: S) M := by
  obtain ⟨p, l, e, s, m, args, below, meth, c, D, dA, adK, adV, ad⟩ := z
  obtain ⟨off, hd, rfl, ht⟩ := hd
  intro C H locs ls B
  exact lv_icmp_lt C.1 C.2.1 hd ht (fun q => kt ((i3_lt ha hb).mp q) C H locs ls B) (fun q => kf (by have w := mt (i3_lt ha hb).mpr q; omega) C H locs ls B)
theorem r_if_lt {k : MD} {G : List GD} {n : Nat} {post : Option PV → Mem → Prop} {z : ZZ} {pc pc2 : Nat} {L : List (Option PV)} {S : List PV} {M : Mem} {tgt : Nat} {a : Int} (hd : Dj k pc (fun o => .ifCond .lt o) 3 pc2 tgt) (ha : ib a) (kt : a < 0 → WP k G n post z tgt L S M) (kf : 0 ≤ a → WP k G n post z pc2 L S M) : WP k G n post z pc L (iv a :: S) M := by
  obtain ⟨p, l, e, s, m, args, below, meth, c, D, dA, adK, adV, ad⟩ := z
  obtain ⟨off, hd, rfl, ht⟩ := hd
  intro C H locs ls B
  exact lv_if_lt C.1 C.2.1 hd ht (fun q => kt ((i3_lt0 ha).mp q) C H locs ls B) (fun q => kf (by have w := mt (i3_lt0 ha).mpr q; omega) C H locs ls B)
theorem r_icmp_ge {k : MD} {G : List GD} {n : Nat} {post : Option PV → Mem → Prop} {z : ZZ} {pc pc2 : Nat} {L : List (Option PV)} {S : List PV} {M : Mem} {tgt : Nat} {a b : Int} (hd : Dj k pc (fun o => .if_icmp .ge o) 3 pc2 tgt) (ha : ib a) (hb : ib b) (kt : b ≤ a → WP k G n post z tgt L S M) (kf : a < b → WP k G n post z pc2 L S M) : WP k G n post z pc L (iv b :: iv a :: S) M := by
  obtain ⟨p, l, e, s, m, args, below, meth, c, D, dA, adK, adV, ad⟩ := z
  obtain ⟨off, hd, rfl, ht⟩ := hd
  intro C H locs ls B
  exact lv_icmp_ge C.1 C.2.1 hd ht (fun q => kt ((i3_le hb ha).mp q) C H locs ls B) (fun q => kf (by have w := mt (i3_le hb ha).mpr q; omega) C H locs ls B)
theorem r_if_ge {k : MD} {G : List GD} {n : Nat} {post : Option PV → Mem → Prop} {z : ZZ} {pc pc2 : Nat} {L : List (Option PV)} {S : List PV} {M : Mem} {tgt : Nat} {a : Int} (hd : Dj k pc (fun o => .ifCond .ge o) 3 pc2 tgt) (ha : ib a) (kt : 0 ≤ a → WP k G n post z tgt L S M) (kf : a < 0 → WP k G n post z pc2 L S M) : WP k G n post z pc L (iv a :: S) M := by
  obtain ⟨p, l, e, s, m, args, below, meth, c, D, dA, adK, adV, ad⟩ := z
  obtain ⟨off, hd, rfl, ht⟩ := hd
  intro C H locs ls B
  exact lv_if_ge C.1 C.2.1 hd ht (fun q => kt ((i3_ge0 ha).mp q) C H locs ls B) (fun q => kf (by have w := mt (i3_ge0 ha).mpr q; omega) C H locs ls B)
theorem r_icmp_gt {k : MD} {G : List GD} {n : Nat} {post : Option PV → Mem → Prop} {z : ZZ} {pc pc2 : Nat} {L : List (Option PV)} {S : List PV} {M : Mem} {tgt : Nat} {a b : Int} (hd : Dj k pc (fun o => .if_icmp .gt o) 3 pc2 tgt) (ha : ib a) (hb : ib b) (kt : b < a → WP k G n post z tgt L S M) (kf : a ≤ b → WP k G n post z pc2 L S M) : WP k G n post z pc L (iv b :: iv a :: S) M := by
  obtain ⟨p, l, e, s, m, args, below, meth, c, D, dA, adK, adV, ad⟩ := z
  obtain ⟨off, hd, rfl, ht⟩ := hd
  intro C H locs ls B
  exact lv_icmp_gt C.1 C.2.1 hd ht (fun q => kt ((i3_lt hb ha).mp q) C H locs ls B) (fun q => kf (by have w := mt (i3_lt hb ha).mpr q; omega) C H locs ls B)
theorem r_if_gt {k : MD} {G : List GD} {n : Nat} {post : Option PV → Mem → Prop} {z : ZZ} {pc pc2 : Nat} {L : List (Option PV)} {S : List PV} {M : Mem} {tgt : Nat} {a : Int} (hd : Dj k pc (fun o => .ifCond .gt o) 3 pc2 tgt) (ha : ib a) (kt : 0 < a → WP k G n post z tgt L S M) (kf : a ≤ 0 → WP k G n post z pc2 L S M) : WP k G n post z pc L (iv a :: S) M := by
  obtain ⟨p, l, e, s, m, args, below, meth, c, D, dA, adK, adV, ad⟩ := z
  obtain ⟨off, hd, rfl, ht⟩ := hd
  intro C H locs ls B
  exact lv_if_gt C.1 C.2.1 hd ht (fun q => kt ((i3_gt0 ha).mp q) C H locs ls B) (fun q => kf (by have w := mt (i3_gt0 ha).mpr q; omega) C H locs ls B)
theorem r_icmp_le {k : MD} {G : List GD} {n : Nat} {post : Option PV → Mem → Prop} {z : ZZ} {pc pc2 : Nat} {L : List (Option PV)} {S : List PV} {M : Mem} {tgt : Nat} {a b : Int} (hd : Dj k pc (fun o => .if_icmp .le o) 3 pc2 tgt) (ha : ib a) (hb : ib b) (kt : a ≤ b → WP k G n post z tgt L S M) (kf : b < a → WP k G n post z pc2 L S M) : WP k G n post z pc L (iv b :: iv a :: S) M := by
  obtain ⟨p, l, e, s, m, args, below, meth, c, D, dA, adK, adV, ad⟩ := z
  obtain ⟨off, hd, rfl, ht⟩ := hd
  intro C H locs ls B
  exact lv_icmp_le C.1 C.2.1 hd ht (fun q => kt ((i3_le ha hb).mp q) C H locs ls B) (fun q => kf (by have w := mt (i3_le ha hb).mpr q; omega) C H locs ls B)
theorem r_if_le {k : MD} {G : List GD} {n : Nat} {post : Option PV → Mem → Prop} {z : ZZ} {pc pc2 : Nat} {L : List (Option PV)} {S : List PV} {M : Mem} {tgt : Nat} {a : Int} (hd : Dj k pc (fun o => .ifCond .le o) 3 pc2 tgt) (ha : ib a) (kt : a ≤ 0 → WP k G n post z tgt L S M) (kf : 0 < a → WP k G n post z pc2 L S M) : WP k G n post z pc L (iv a :: S) M := by
  obtain ⟨p, l, e, s, m, args, below, meth, c, D, dA, adK, adV, ad⟩ := z
  obtain ⟨off, hd, rfl, ht⟩ := hd
  intro C H locs ls B
  exact lv_if_le C.1 C.2.1 hd ht (fun q => kt ((i3_le0 ha).mp q) C H locs ls B) (fun q => kf (by have w := mt (i3_le0 ha).mpr q; omega) C H locs ls B)
def bi (b : Bool) : Int := if b then 1 else 0
theorem bi_ib (b : Bool) : ib (bi b) := by cases b <;> decide
theorem bi_01 (b : Bool) : bi b = 0 ∨ bi b = 1 := by cases b <;> decide
theorem bi_0 {b : Bool} : bi b = 0 ↔ b = false := by cases b <;> decide
theorem r_ifb_eq {k : MD} {G : List GD} {n : Nat} {post : Option PV → Mem → Prop} {z : ZZ} {pc pc2 : Nat} {L : List (Option PV)} {S : List PV} {M : Mem} {tgt : Nat} {b : Bool} (hd : Dj k pc (fun o => .ifCond .eq o) 3 pc2 tgt) (kt : b = false → WP k G n post z tgt L S M) (kf : b = true → WP k G n post z pc2 L S M) : WP k G n post z pc L (iv (bi b) :: S) M :=
  r_if_eq hd (bi_ib b) (fun q => kt (bi_0.mp q)) (fun q => kf (by cases b with | true => rfl | false => exact absurd rfl q))
theorem r_ifd_eq {k : MD} {G : List GD} {n : Nat} {post : Option PV → Mem → Prop} {z : ZZ} {pc pc2 : Nat} {L : List (Option PV)} {S : List PV} {M : Mem} {tgt : Nat} {p0 : Prop} [Decidable p0] (hd : Dj k pc (fun o => .ifCond .eq o) 3 pc2 tgt) (kt : ¬ p0 → WP k G n post z tgt L S M) (kf : p0 → WP k G n post z pc2 L S M) : WP k G n post z pc L (iv (bi (decide p0)) :: S) M :=
  r_ifb_eq hd (fun q => kt (of_decide_eq_false q)) (fun q => kf (of_decide_eq_true q))
theorem r_ifb_ne {k : MD} {G : List GD} {n : Nat} {post : Option PV → Mem → Prop} {z : ZZ} {pc pc2 : Nat} {L : List (Option PV)} {S : List PV} {M : Mem} {tgt : Nat} {b : Bool} (hd : Dj k pc (fun o => .ifCond .ne o) 3 pc2 tgt) (kt : b = true → WP k G n post z tgt L S M) (kf : b = false → WP k G n post z pc2 L S M) : WP k G n post z pc L (iv (bi b) :: S) M :=
  r_if_ne hd (bi_ib b) (fun q => kt (by cases b with | true => rfl | false => exact absurd rfl q)) (fun q => kf (bi_0.mp q))
theorem r_ifd_ne {k : MD} {G : List GD} {n : Nat} {post : Option PV → Mem → Prop} {z : ZZ} {pc pc2 : Nat} {L : List (Option PV)} {S : List PV} {M : Mem} {tgt : Nat} {p0 : Prop} [Decidable p0] (hd : Dj k pc (fun o => .ifCond .ne o) 3 pc2 tgt) (kt : p0 → WP k G n post z tgt L S M) (kf : ¬ p0 → WP k G n post z pc2 L S M) : WP k G n post z pc L (iv (bi (decide p0)) :: S) M :=
  r_ifb_ne hd (fun q => kt (of_decide_eq_true q)) (fun q => kf (of_decide_eq_false q))
theorem r_goto {k : MD} {G : List GD} {n : Nat} {post : Option PV → Mem → Prop} {z : ZZ} {pc pc2 : Nat} {L : List (Option PV)} {S : List PV} {M : Mem} {tgt : Nat} (hd : Dj k pc (fun o => .goto o) 3 pc2 tgt) (kk : WP k G n post z tgt L S M) : WP k G n post z pc L S M := by
  obtain ⟨p, l, e, s, m, args, below, meth, c, D, dA, adK, adV, ad⟩ := z
  obtain ⟨off, hd, rfl, ht⟩ := hd
  intro C H locs ls B
  exact lv_goto C.1 C.2.1 hd ht (kk C H locs ls B)
theorem r_iload_0 {k : MD} {G : List GD} {n : Nat} {post : Option PV → Mem → Prop} {z : ZZ} {pc pc2 : Nat} {S : List PV} {M : Mem}  {R : List (Option PV)} {x : Int} (hd : Dk k pc (.iload_n 0) 1 pc2) (kk : WP k G n post z pc2 (some (iv x) :: R) (iv x :: S) M) : WP k G n post z pc (some (iv x) :: R) S M := by
  obtain ⟨p, l, e, s, m, args, below, meth, c, D, dA, adK, adV, ad⟩ := z
  obtain ⟨hd, rfl⟩ := hd
  intro C H locs ls B
  exact lv_iload_n C.1 C.2.1 hd rfl (lh_at B.2.2.2 (i := 0) rfl) (kk C H locs ls B)
theorem r_aload_0 {k : MD} {G : List GD} {n : Nat} {post : Option PV → Mem → Prop} {z : ZZ} {pc pc2 : Nat} {S : List PV} {M : Mem}  {R : List (Option PV)} {x : Nat} (hd : Dk k pc (.aload_n 0) 1 pc2) (kk : WP k G n post z pc2 (some (rv x) :: R) (rv x :: S) M) : WP k G n post z pc (some (rv x) :: R) S M := by
  obtain ⟨p, l, e, s, m, args, below, meth, c, D, dA, adK, adV, ad⟩ := z
  obtain ⟨hd, rfl⟩ := hd
  intro C H locs ls B
  exact lv_aload_n C.1 C.2.1 hd rfl (lh_at B.2.2.2 (i := 0) rfl) (kk C H locs ls B)
theorem r_lload_0 {k : MD} {G : List GD} {n : Nat} {post : Option PV → Mem → Prop} {z : ZZ} {pc pc2 : Nat} {S : List PV} {M : Mem}  {R : List (Option PV)} {x : Int} (hd : Dk k pc (.lload_n 0) 1 pc2) (kk : WP k G n post z pc2 (some (jv x) :: R) (jv x :: S) M) : WP k G n post z pc (some (jv x) :: R) S M := by
  obtain ⟨p, l, e, s, m, args, below, meth, c, D, dA, adK, adV, ad⟩ := z
  obtain ⟨hd, rfl⟩ := hd
  intro C H locs ls B
  exact lv_lload_n C.1 C.2.1 hd rfl (lh_at B.2.2.2 (i := 0) rfl) (kk C H locs ls B)
theorem r_istore_0 {k : MD} {G : List GD} {n : Nat} {post : Option PV → Mem → Prop} {z : ZZ} {pc pc2 : Nat} {S : List PV} {M : Mem}  {R : List (Option PV)} {o : Option PV} {x : Int} (hd : Dk k pc (.istore_n 0) 1 pc2) (hj : nj o = true) (kk : WP k G n post z pc2 (some (iv x) :: R) S M) : WP k G n post z pc (o :: R) (iv x :: S) M := by
  obtain ⟨p, l, e, s, m, args, below, meth, c, D, dA, adK, adV, ad⟩ := z
  obtain ⟨hd, rfl⟩ := hd
  intro C H locs ls B
  have hn : 0 < k.2.2.1 := by have := B.2.2.2.2.1; simp at this; omega
  refine lv_istore_n C.1 C.2.1 hd rfl (lh_has B.2.2.2) hn rfl (fun ls2 h2 => kk C H locs ls2 ⟨B.1, B.2.1, B.2.2.1, lh_set1 (i := 0) (v := iv x) B.2.2.2 hn (fun w hw => ?_) h2⟩)
  cases hw; exact hj
theorem r_astore_0 {k : MD} {G : List GD} {n : Nat} {post : Option PV → Mem → Prop} {z : ZZ} {pc pc2 : Nat} {S : List PV} {M : Mem}  {R : List (Option PV)} {o : Option PV} {x : Nat} (hd : Dk k pc (.astore_n 0) 1 pc2) (hj : nj o = true) (kk : WP k G n post z pc2 (some (rv x) :: R) S M) : WP k G n post z pc (o :: R) (rv x :: S) M := by
  obtain ⟨p, l, e, s, m, args, below, meth, c, D, dA, adK, adV, ad⟩ := z
  obtain ⟨hd, rfl⟩ := hd
  intro C H locs ls B
  have hn : 0 < k.2.2.1 := by have := B.2.2.2.2.1; simp at this; omega
  refine lv_astore_n C.1 C.2.1 hd rfl (lh_has B.2.2.2) hn rfl (fun ls2 h2 => kk C H locs ls2 ⟨B.1, B.2.1, B.2.2.1, lh_set1 (i := 0) (v := rv x) B.2.2.2 hn (fun w hw => ?_) h2⟩)
  cases hw; exact hj
theorem r_lstore_0 {k : MD} {G : List GD} {n : Nat} {post : Option PV → Mem → Prop} {z : ZZ} {pc pc2 : Nat} {S : List PV} {M : Mem}  {R : List (Option PV)} {o1 o2 : Option PV} {x : Int} (hd : Dk k pc (.lstore_n 0) 1 pc2) (hj : nj o1 = true) (kk : WP k G n post z pc2 (some (jv x) :: none :: R) S M) : WP k G n post z pc (o1 :: o2 :: R) (jv x :: S) M := by
  obtain ⟨p, l, e, s, m, args, below, meth, c, D, dA, adK, adV, ad⟩ := z
  obtain ⟨hd, rfl⟩ := hd
  intro C H locs ls B
  have hn : 0 + 1 < k.2.2.1 := by have := B.2.2.2.2.1; simp at this; omega
  refine lv_lstore_n C.1 C.2.1 hd rfl (lh_has B.2.2.2) hn rfl (fun ls2 h2 => kk C H locs ls2 ⟨B.1, B.2.1, B.2.2.1, lh_set2 (i := 0) (v := jv x) B.2.2.2 hn (fun w hw => ?_) h2⟩)
  cases hw; exact hj
theorem r_iinc_0 {k : MD} {G : List GD} {n : Nat} {post : Option PV → Mem → Prop} {z : ZZ} {pc pc2 : Nat} {S : List PV} {M : Mem}  {R : List (Option PV)} {x d : Int} (hd : Dk k pc (.iinc 0 d) 3 pc2) (kk : WP k G n post z pc2 (some (iv (x + d)) :: R) S M) : WP k G n post z pc (some (iv x) :: R) S M := by
  obtain ⟨p, l, e, s, m, args, below, meth, c, D, dA, adK, adV, ad⟩ := z
  obtain ⟨hd, rfl⟩ := hd
  intro C H locs ls B
  have hn : 0 < k.2.2.1 := by have := B.2.2.2.2.1; simp at this; omega
  obtain ⟨kq, hq⟩ := List.getElem?_of_mem (la_mem (ad := ad) (L := some (iv x) :: R) (q := (0, tv ad (iv x))).mpr ⟨iv x, rfl, rfl⟩)
  refine lv_iinc C.1 C.2.1 hd (lh_has B.2.2.2) hq (v := Int32.ofInt (x + d)) (by rw [Int32.ofInt_add]) hn rfl (fun ls2 h2 => kk C H locs ls2 ⟨B.1, B.2.1, B.2.2.1, lh_set1 (i := 0) (v := iv (x + d)) B.2.2.2 hn (fun w hw => ?_) h2⟩)
  cases hw; rfl
theorem r_iload_1 {k : MD} {G : List GD} {n : Nat} {post : Option PV → Mem → Prop} {z : ZZ} {pc pc2 : Nat} {S : List PV} {M : Mem} {a0 : Option PV} {R : List (Option PV)} {x : Int} (hd : Dk k pc (.iload_n 1) 1 pc2) (kk : WP k G n post z pc2 (a0 :: some (iv x) :: R) (iv x :: S) M) : WP k G n post z pc (a0 :: some (iv x) :: R) S M := by
  obtain ⟨p, l, e, s, m, args, below, meth, c, D, dA, adK, adV, ad⟩ := z
  obtain ⟨hd, rfl⟩ := hd
  intro C H locs ls B
  exact lv_iload_n C.1 C.2.1 hd rfl (lh_at B.2.2.2 (i := 1) rfl) (kk C H locs ls B)
theorem r_aload_1 {k : MD} {G : List GD} {n : Nat} {post : Option PV → Mem → Prop} {z : ZZ} {pc pc2 : Nat} {S : List PV} {M : Mem} {a0 : Option PV} {R : List (Option PV)} {x : Nat} (hd : Dk k pc (.aload_n 1) 1 pc2) (kk : WP k G n post z pc2 (a0 :: some (rv x) :: R) (rv x :: S) M) : WP k G n post z pc (a0 :: some (rv x) :: R) S M := by
  obtain ⟨p, l, e, s, m, args, below, meth, c, D, dA, adK, adV, ad⟩ := z
  obtain ⟨hd, rfl⟩ := hd
  intro C H locs ls B
  exact lv_aload_n C.1 C.2.1 hd rfl (lh_at B.2.2.2 (i := 1) rfl) (kk C H locs ls B)
theorem r_lload_1 {k : MD} {G : List GD} {n : Nat} {post : Option PV → Mem → Prop} {z : ZZ} {pc pc2 : Nat} {S : List PV} {M : Mem} {a0 : Option PV} {R : List (Option PV)} {x : Int} (hd : Dk k pc (.lload_n 1) 1 pc2) (kk : WP k G n post z pc2 (a0 :: some (jv x) :: R) (jv x :: S) M) : WP k G n post z pc (a0 :: some (jv x) :: R) S M := by
  obtain ⟨p, l, e, s, m, args, below, meth, c, D, dA, adK, adV, ad⟩ := z
  obtain ⟨hd, rfl⟩ := hd
  intro C H locs ls B
  exact lv_lload_n C.1 C.2.1 hd rfl (lh_at B.2.2.2 (i := 1) rfl) (kk C H locs ls B)
theorem r_istore_1 {k : MD} {G : List GD} {n : Nat} {post : Option PV → Mem → Prop} {z : ZZ} {pc pc2 : Nat} {S : List PV} {M : Mem} {a0 : Option PV} {R : List (Option PV)} {o : Option PV} {x : Int} (hd : Dk k pc (.istore_n 1) 1 pc2) (hj : nj a0 = true) (kk : WP k G n post z pc2 (a0 :: some (iv x) :: R) S M) : WP k G n post z pc (a0 :: o :: R) (iv x :: S) M := by
  obtain ⟨p, l, e, s, m, args, below, meth, c, D, dA, adK, adV, ad⟩ := z
  obtain ⟨hd, rfl⟩ := hd
  intro C H locs ls B
  have hn : 1 < k.2.2.1 := by have := B.2.2.2.2.1; simp at this; omega
  refine lv_istore_n C.1 C.2.1 hd rfl (lh_has B.2.2.2) hn rfl (fun ls2 h2 => kk C H locs ls2 ⟨B.1, B.2.1, B.2.2.1, lh_set1 (i := 1) (v := iv x) B.2.2.2 hn (fun w hw => ?_) h2⟩)
  cases hw; exact hj
theorem r_astore_1 {k : MD} {G : List GD} {n : Nat} {post : Option PV → Mem → Prop} {z : ZZ} {pc pc2 : Nat} {S : List PV} {M : Mem} {a0 : Option PV} {R : List (Option PV)} {o : Option PV} {x : Nat} (hd : Dk k pc (.astore_n 1) 1 pc2) (hj : nj a0 = true) (kk : WP k G n post z pc2 (a0 :: some (rv x) :: R) S M) : WP k G n post z pc (a0 :: o :: R) (rv x :: S) M := by
  obtain ⟨p, l, e, s, m, args, below, meth, c, D, dA, adK, adV, ad⟩ := z
  obtain ⟨hd, rfl⟩ := hd
  intro C H locs ls B
  have hn : 1 < k.2.2.1 := by have := B.2.2.2.2.1; simp at this; omega
  refine lv_astore_n C.1 C.2.1 hd rfl (lh_has B.2.2.2) hn rfl (fun ls2 h2 => kk C H locs ls2 ⟨B.1, B.2.1, B.2.2.1, lh_set1 (i := 1) (v := rv x) B.2.2.2 hn (fun w hw => ?_) h2⟩)
  cases hw; exact hj
theorem r_lstore_1 {k : MD} {G : List GD} {n : Nat} {post : Option PV → Mem → Prop} {z : ZZ} {pc pc2 : Nat} {S : List PV} {M : Mem} {a0 : Option PV} {R : List (Option PV)} {o1 o2 : Option PV} {x : Int} (hd : Dk k pc (.lstore_n 1) 1 pc2) (hj : nj a0 = true) (kk : WP k G n post z pc2 (a0 :: some (jv x) :: none :: R) S M) : WP k G n post z pc (a0 :: o1 :: o2 :: R) (jv x :: S) M := by
  obtain ⟨p, l, e, s, m, args, below, meth, c, D, dA, adK, adV, ad⟩ := z
  obtain ⟨hd, rfl⟩ := hd
  intro C H locs ls B
  have hn : 1 + 1 < k.2.2.1 := by have := B.2.2.2.2.1; simp at this; omega
  refine lv_lstore_n C.1 C.2.1 hd rfl (lh_has B.2.2.2) hn rfl (fun ls2 h2 => kk C H locs ls2 ⟨B.1, B.2.1, B.2.2.1, lh_set2 (i := 1) (v := jv x) B.2.2.2 hn (fun w hw => ?_) h2⟩)
  cases hw; exact hj
theorem r_iinc_1 {k : MD} {G : List GD} {n : Nat} {post : Option PV → Mem → Prop} {z : ZZ} {pc pc2 : Nat} {S : List PV} {M : Mem} {a0 : Option PV} {R : List (Option PV)} {x d : Int} (hd : Dk k pc (.iinc 1 d) 3 pc2) (hj : nj a0 = true) (kk : WP k G n post z pc2 (a0 :: some (iv (x + d)) :: R) S M) : WP k G n post z pc (a0 :: some (iv x) :: R) S M := by
  obtain ⟨p, l, e, s, m, args, below, meth, c, D, dA, adK, adV, ad⟩ := z
  obtain ⟨hd, rfl⟩ := hd
  intro C H locs ls B
  have hn : 1 < k.2.2.1 := by have := B.2.2.2.2.1; simp at this; omega
  obtain ⟨kq, hq⟩ := List.getElem?_of_mem (la_mem (ad := ad) (L := a0 :: some (iv x) :: R) (q := (1, tv ad (iv x))).mpr ⟨iv x, rfl, rfl⟩)
  refine lv_iinc C.1 C.2.1 hd (lh_has B.2.2.2) hq (v := Int32.ofInt (x + d)) (by rw [Int32.ofInt_add]) hn rfl (fun ls2 h2 => kk C H locs ls2 ⟨B.1, B.2.1, B.2.2.1, lh_set1 (i := 1) (v := iv (x + d)) B.2.2.2 hn (fun w hw => ?_) h2⟩)
  cases hw; exact hj
theorem r_iload_2 {k : MD} {G : List GD} {n : Nat} {post : Option PV → Mem → Prop} {z : ZZ} {pc pc2 : Nat} {S : List PV} {M : Mem} {a0 a1 : Option PV} {R : List (Option PV)} {x : Int} (hd : Dk k pc (.iload_n 2) 1 pc2) (kk : WP k G n post z pc2 (a0 :: a1 :: some (iv x) :: R) (iv x :: S) M) : WP k G n post z pc (a0 :: a1 :: some (iv x) :: R) S M := by
  obtain ⟨p, l, e, s, m, args, below, meth, c, D, dA, adK, adV, ad⟩ := z
  obtain ⟨hd, rfl⟩ := hd
  intro C H locs ls B
  exact lv_iload_n C.1 C.2.1 hd rfl (lh_at B.2.2.2 (i := 2) rfl) (kk C H locs ls B)
theorem r_aload_2 {k : MD} {G : List GD} {n : Nat} {post : Option PV → Mem → Prop} {z : ZZ} {pc pc2 : Nat} {S : List PV} {M : Mem} {a0 a1 : Option PV} {R : List (Option PV)} {x : Nat} (hd : Dk k pc (.aload_n 2) 1 pc2) (kk : WP k G n post z pc2 (a0 :: a1 :: some (rv x) :: R) (rv x :: S) M) : WP k G n post z pc (a0 :: a1 :: some (rv x) :: R) S M := by
  obtain ⟨p, l, e, s, m, args, below, meth, c, D, dA, adK, adV, ad⟩ := z
  obtain ⟨hd, rfl⟩ := hd
  intro C H locs ls B
  exact lv_aload_n C.1 C.2.1 hd rfl (lh_at B.2.2.2 (i := 2) rfl) (kk C H locs ls B)
theorem r_lload_2 {k : MD} {G : List GD} {n : Nat} {post : Option PV → Mem → Prop} {z : ZZ} {pc pc2 : Nat} {S : List PV} {M : Mem} {a0 a1 : Option PV} {R : List (Option PV)} {x : Int} (hd : Dk k pc (.lload_n 2) 1 pc2) (kk : WP k G n post z pc2 (a0 :: a1 :: some (jv x) :: R) (jv x :: S) M) : WP k G n post z pc (a0 :: a1 :: some (jv x) :: R) S M := by
  obtain ⟨p, l, e, s, m, args, below, meth, c, D, dA, adK, adV, ad⟩ := z
  obtain ⟨hd, rfl⟩ := hd
  intro C H locs ls B
  exact lv_lload_n C.1 C.2.1 hd rfl (lh_at B.2.2.2 (i := 2) rfl) (kk C H locs ls B)
theorem r_istore_2 {k : MD} {G : List GD} {n : Nat} {post : Option PV → Mem → Prop} {z : ZZ} {pc pc2 : Nat} {S : List PV} {M : Mem} {a0 a1 : Option PV} {R : List (Option PV)} {o : Option PV} {x : Int} (hd : Dk k pc (.istore_n 2) 1 pc2) (hj : nj a1 = true) (kk : WP k G n post z pc2 (a0 :: a1 :: some (iv x) :: R) S M) : WP k G n post z pc (a0 :: a1 :: o :: R) (iv x :: S) M := by
  obtain ⟨p, l, e, s, m, args, below, meth, c, D, dA, adK, adV, ad⟩ := z
  obtain ⟨hd, rfl⟩ := hd
  intro C H locs ls B
  have hn : 2 < k.2.2.1 := by have := B.2.2.2.2.1; simp at this; omega
  refine lv_istore_n C.1 C.2.1 hd rfl (lh_has B.2.2.2) hn rfl (fun ls2 h2 => kk C H locs ls2 ⟨B.1, B.2.1, B.2.2.1, lh_set1 (i := 2) (v := iv x) B.2.2.2 hn (fun w hw => ?_) h2⟩)
  cases hw; exact hj
theorem r_astore_2 {k : MD} {G : List GD} {n : Nat} {post : Option PV → Mem → Prop} {z : ZZ} {pc pc2 : Nat} {S : List PV} {M : Mem} {a0 a1 : Option PV} {R : List (Option PV)} {o : Option PV} {x : Nat} (hd : Dk k pc (.astore_n 2) 1 pc2) (hj : nj a1 = true) (kk : WP k G n post z pc2 (a0 :: a1 :: some (rv x) :: R) S M) : WP k G n post z pc (a0 :: a1 :: o :: R) (rv x :: S) M := by
  obtain ⟨p, l, e, s, m, args, below, meth, c, D, dA, adK, adV, ad⟩ := z
  obtain ⟨hd, rfl⟩ := hd
  intro C H locs ls B
  have hn : 2 < k.2.2.1 := by have := B.2.2.2.2.1; simp at this; omega
  refine lv_astore_n C.1 C.2.1 hd rfl (lh_has B.2.2.2) hn rfl (fun ls2 h2 => kk C H locs ls2 ⟨B.1, B.2.1, B.2.2.1, lh_set1 (i := 2) (v := rv x) B.2.2.2 hn (fun w hw => ?_) h2⟩)
  cases hw; exact hj
theorem r_lstore_2 {k : MD} {G : List GD} {n : Nat} {post : Option PV → Mem → Prop} {z : ZZ} {pc pc2 : Nat} {S : List PV} {M : Mem} {a0 a1 : Option PV} {R : List (Option PV)} {o1 o2 : Option PV} {x : Int} (hd : Dk k pc (.lstore_n 2) 1 pc2) (hj : nj a1 = true) (kk : WP k G n post z pc2 (a0 :: a1 :: some (jv x) :: none :: R) S M) : WP k G n post z pc (a0 :: a1 :: o1 :: o2 :: R) (jv x :: S) M := by
  obtain ⟨p, l, e, s, m, args, below, meth, c, D, dA, adK, adV, ad⟩ := z
  obtain ⟨hd, rfl⟩ := hd
  intro C H locs ls B
  have hn : 2 + 1 < k.2.2.1 := by have := B.2.2.2.2.1; simp at this; omega
  refine lv_lstore_n C.1 C.2.1 hd rfl (lh_has B.2.2.2) hn rfl (fun ls2 h2 => kk C H locs ls2 ⟨B.1, B.2.1, B.2.2.1, lh_set2 (i := 2) (v := jv x) B.2.2.2 hn (fun w hw => ?_) h2⟩)
  cases hw; exact hj
theorem r_iinc_2 {k : MD} {G : List GD} {n : Nat} {post : Option PV → Mem → Prop} {z : ZZ} {pc pc2 : Nat} {S : List PV} {M : Mem} {a0 a1 : Option PV} {R : List (Option PV)} {x d : Int} (hd : Dk k pc (.iinc 2 d) 3 pc2) (hj : nj a1 = true) (kk : WP k G n post z pc2 (a0 :: a1 :: some (iv (x + d)) :: R) S M) : WP k G n post z pc (a0 :: a1 :: some (iv x) :: R) S M := by
  obtain ⟨p, l, e, s, m, args, below, meth, c, D, dA, adK, adV, ad⟩ := z
  obtain ⟨hd, rfl⟩ := hd
  intro C H locs ls B
  have hn : 2 < k.2.2.1 := by have := B.2.2.2.2.1; simp at this; omega
  obtain ⟨kq, hq⟩ := List.getElem?_of_mem (la_mem (ad := ad) (L := a0 :: a1 :: some (iv x) :: R) (q := (2, tv ad (iv x))).mpr ⟨iv x, rfl, rfl⟩)
  refine lv_iinc C.1 C.2.1 hd (lh_has B.2.2.2) hq (v := Int32.ofInt (x + d)) (by rw [Int32.ofInt_add]) hn rfl (fun ls2 h2 => kk C H locs ls2 ⟨B.1, B.2.1, B.2.2.1, lh_set1 (i := 2) (v := iv (x + d)) B.2.2.2 hn (fun w hw => ?_) h2⟩)
  cases hw; exact hj
theorem r_iload_3 {k : MD} {G : List GD} {n : Nat} {post : Option PV → Mem → Prop} {z : ZZ} {pc pc2 : Nat} {S : List PV} {M : Mem} {a0 a1 a2 : Option PV} {R : List (Option PV)} {x : Int} (hd : Dk k pc (.iload_n 3) 1 pc2) (kk : WP k G n post z pc2 (a0 :: a1 :: a2 :: some (iv x) :: R) (iv x :: S) M) : WP k G n post z pc (a0 :: a1 :: a2 :: some (iv x) :: R) S M := by
  obtain ⟨p, l, e, s, m, args, below, meth, c, D, dA, adK, adV, ad⟩ := z
  obtain ⟨hd, rfl⟩ := hd
  intro C H locs ls B
  exact lv_iload_n C.1 C.2.1 hd rfl (lh_at B.2.2.2 (i := 3) rfl) (kk C H locs ls B)
theorem r_aload_3 {k : MD} {G : List GD} {n : Nat} {post : Option PV → Mem → Prop} {z : ZZ} {pc pc2 : Nat} {S : List PV} {M : Mem} {a0 a1 a2 : Option PV} {R : List (Option PV)} {x : Nat} (hd : Dk k pc (.aload_n 3) 1 pc2) (kk : WP k G n post z pc2 (a0 :: a1 :: a2 :: some (rv x) :: R) (rv x :: S) M) : WP k G n post z pc (a0 :: a1 :: a2 :: some (rv x) :: R) S M := by
  obtain ⟨p, l, e, s, m, args, below, meth, c, D, dA, adK, adV, ad⟩ := z
  obtain ⟨hd, rfl⟩ := hd
  intro C H locs ls B
  exact lv_aload_n C.1 C.2.1 hd rfl (lh_at B.2.2.2 (i := 3) rfl) (kk C H locs ls B)
theorem r_lload_3 {k : MD} {G : List GD} {n : Nat} {post : Option PV → Mem → Prop} {z : ZZ} {pc pc2 : Nat} {S : List PV} {M : Mem} {a0 a1 a2 : Option PV} {R : List (Option PV)} {x : Int} (hd : Dk k pc (.lload_n 3) 1 pc2) (kk : WP k G n post z pc2 (a0 :: a1 :: a2 :: some (jv x) :: R) (jv x :: S) M) : WP k G n post z pc (a0 :: a1 :: a2 :: some (jv x) :: R) S M := by
  obtain ⟨p, l, e, s, m, args, below, meth, c, D, dA, adK, adV, ad⟩ := z
  obtain ⟨hd, rfl⟩ := hd
  intro C H locs ls B
  exact lv_lload_n C.1 C.2.1 hd rfl (lh_at B.2.2.2 (i := 3) rfl) (kk C H locs ls B)
theorem r_istore_3 {k : MD} {G : List GD} {n : Nat} {post : Option PV → Mem → Prop} {z : ZZ} {pc pc2 : Nat} {S : List PV} {M : Mem} {a0 a1 a2 : Option PV} {R : List (Option PV)} {o : Option PV} {x : Int} (hd : Dk k pc (.istore_n 3) 1 pc2) (hj : nj a2 = true) (kk : WP k G n post z pc2 (a0 :: a1 :: a2 :: some (iv x) :: R) S M) : WP k G n post z pc (a0 :: a1 :: a2 :: o :: R) (iv x :: S) M := by
  obtain ⟨p, l, e, s, m, args, below, meth, c, D, dA, adK, adV, ad⟩ := z
  obtain ⟨hd, rfl⟩ := hd
  intro C H locs ls B
  have hn : 3 < k.2.2.1 := by have := B.2.2.2.2.1; simp at this; omega
  refine lv_istore_n C.1 C.2.1 hd rfl (lh_has B.2.2.2) hn rfl (fun ls2 h2 => kk C H locs ls2 ⟨B.1, B.2.1, B.2.2.1, lh_set1 (i := 3) (v := iv x) B.2.2.2 hn (fun w hw => ?_) h2⟩)
  cases hw; exact hj
theorem r_astore_3 {k : MD} {G : List GD} {n : Nat} {post : Option PV → Mem → Prop} {z : ZZ} {pc pc2 : Nat} {S : List PV} {M : Mem} {a0 a1 a2 : Option PV} {R : List (Option PV)} {o : Option PV} {x : Nat} (hd : Dk k pc (.astore_n 3) 1 pc2) (hj : nj a2 = true) (kk : WP k G n post z pc2 (a0 :: a1 :: a2 :: some (rv x) :: R) S M) : WP k G n post z pc (a0 :: a1 :: a2 :: o :: R) (rv x :: S) M := by
  obtain ⟨p, l, e, s, m, args, below, meth, c, D, dA, adK, adV, ad⟩ := z
  obtain ⟨hd, rfl⟩ := hd
  intro C H locs ls B
  have hn : 3 < k.2.2.1 := by have := B.2.2.2.2.1; simp at this; omega
  refine lv_astore_n C.1 C.2.1 hd rfl (lh_has B.2.2.2) hn rfl (fun ls2 h2 => kk C H locs ls2 ⟨B.1, B.2.1, B.2.2.1, lh_set1 (i := 3) (v := rv x) B.2.2.2 hn (fun w hw => ?_) h2⟩)
  cases hw; exact hj
theorem r_lstore_3 {k : MD} {G : List GD} {n : Nat} {post : Option PV → Mem → Prop} {z : ZZ} {pc pc2 : Nat} {S : List PV} {M : Mem} {a0 a1 a2 : Option PV} {R : List (Option PV)} {o1 o2 : Option PV} {x : Int} (hd : Dk k pc (.lstore_n 3) 1 pc2) (hj : nj a2 = true) (kk : WP k G n post z pc2 (a0 :: a1 :: a2 :: some (jv x) :: none :: R) S M) : WP k G n post z pc (a0 :: a1 :: a2 :: o1 :: o2 :: R) (jv x :: S) M := by
  obtain ⟨p, l, e, s, m, args, below, meth, c, D, dA, adK, adV, ad⟩ := z
  obtain ⟨hd, rfl⟩ := hd
  intro C H locs ls B
  have hn : 3 + 1 < k.2.2.1 := by have := B.2.2.2.2.1; simp at this; omega
  refine lv_lstore_n C.1 C.2.1 hd rfl (lh_has B.2.2.2) hn rfl (fun ls2 h2 => kk C H locs ls2 ⟨B.1, B.2.1, B.2.2.1, lh_set2 (i := 3) (v := jv x) B.2.2.2 hn (fun w hw => ?_) h2⟩)
  cases hw; exact hj
theorem r_iinc_3 {k : MD} {G : List GD} {n : Nat} {post : Option PV → Mem → Prop} {z : ZZ} {pc pc2 : Nat} {S : List PV} {M : Mem} {a0 a1 a2 : Option PV} {R : List (Option PV)} {x d : Int} (hd : Dk k pc (.iinc 3 d) 3 pc2) (hj : nj a2 = true) (kk : WP k G n post z pc2 (a0 :: a1 :: a2 :: some (iv (x + d)) :: R) S M) : WP k G n post z pc (a0 :: a1 :: a2 :: some (iv x) :: R) S M := by
  obtain ⟨p, l, e, s, m, args, below, meth, c, D, dA, adK, adV, ad⟩ := z
  obtain ⟨hd, rfl⟩ := hd
  intro C H locs ls B
  have hn : 3 < k.2.2.1 := by have := B.2.2.2.2.1; simp at this; omega
  obtain ⟨kq, hq⟩ := List.getElem?_of_mem (la_mem (ad := ad) (L := a0 :: a1 :: a2 :: some (iv x) :: R) (q := (3, tv ad (iv x))).mpr ⟨iv x, rfl, rfl⟩)
  refine lv_iinc C.1 C.2.1 hd (lh_has B.2.2.2) hq (v := Int32.ofInt (x + d)) (by rw [Int32.ofInt_add]) hn rfl (fun ls2 h2 => kk C H locs ls2 ⟨B.1, B.2.1, B.2.2.1, lh_set1 (i := 3) (v := iv (x + d)) B.2.2.2 hn (fun w hw => ?_) h2⟩)
  cases hw; exact hj
theorem r_iload_4 {k : MD} {G : List GD} {n : Nat} {post : Option PV → Mem → Prop} {z : ZZ} {pc pc2 : Nat} {S : List PV} {M : Mem} {a0 a1 a2 a3 : Option PV} {R : List (Option PV)} {x : Int} (hd : Dk k pc (.iload 4) 2 pc2) (kk : WP k G n post z pc2 (a0 :: a1 :: a2 :: a3 :: some (iv x) :: R) (iv x :: S) M) : WP k G n post z pc (a0 :: a1 :: a2 :: a3 :: some (iv x) :: R) S M := by
  obtain ⟨p, l, e, s, m, args, below, meth, c, D, dA, adK, adV, ad⟩ := z
  obtain ⟨hd, rfl⟩ := hd
  intro C H locs ls B
  exact lv_iload C.1 C.2.1 hd (lh_at B.2.2.2 (i := 4) rfl) (kk C H locs ls B)
theorem r_aload_4 {k : MD} {G : List GD} {n : Nat} {post : Option PV → Mem → Prop} {z : ZZ} {pc pc2 : Nat} {S : List PV} {M : Mem} {a0 a1 a2 a3 : Option PV} {R : List (Option PV)} {x : Nat} (hd : Dk k pc (.aload 4) 2 pc2) (kk : WP k G n post z pc2 (a0 :: a1 :: a2 :: a3 :: some (rv x) :: R) (rv x :: S) M) : WP k G n post z pc (a0 :: a1 :: a2 :: a3 :: some (rv x) :: R) S M := by
  obtain ⟨p, l, e, s, m, args, below, meth, c, D, dA, adK, adV, ad⟩ := z
  obtain ⟨hd, rfl⟩ := hd
  intro C H locs ls B
  exact lv_aload C.1 C.2.1 hd (lh_at B.2.2.2 (i := 4) rfl) (kk C H locs ls B)
theorem r_lload_4 {k : MD} {G : List GD} {n : Nat} {post : Option PV → Mem → Prop} {z : ZZ} {pc pc2 : Nat} {S : List PV} {M : Mem} {a0 a1 a2 a3 : Option PV} {R : List (Option PV)} {x : Int} (hd : Dk k pc (.lload 4) 2 pc2) (kk : WP k G n post z pc2 (a0 :: a1 :: a2 :: a3 :: some (jv x) :: R) (jv x :: S) M) : WP k G n post z pc (a0 :: a1 :: a2 :: a3 :: some (jv x) :: R) S M := by
  obtain ⟨p, l, e, s, m, args, below, meth, c, D, dA, adK, adV, ad⟩ := z
  obtain ⟨hd, rfl⟩ := hd
  intro C H locs ls B
  exact lv_lload C.1 C.2.1 hd (lh_at B.2.2.2 (i := 4) rfl) (kk C H locs ls B)
theorem r_istore_4 {k : MD} {G : List GD} {n : Nat} {post : Option PV → Mem → Prop} {z : ZZ} {pc pc2 : Nat} {S : List PV} {M : Mem} {a0 a1 a2 a3 : Option PV} {R : List (Option PV)} {o : Option PV} {x : Int} (hd : Dk k pc (.istore 4) 2 pc2) (hj : nj a3 = true) (kk : WP k G n post z pc2 (a0 :: a1 :: a2 :: a3 :: some (iv x) :: R) S M) : WP k G n post z pc (a0 :: a1 :: a2 :: a3 :: o :: R) (iv x :: S) M := by
  obtain ⟨p, l, e, s, m, args, below, meth, c, D, dA, adK, adV, ad⟩ := z
  obtain ⟨hd, rfl⟩ := hd
  intro C H locs ls B
  have hn : 4 < k.2.2.1 := by have := B.2.2.2.2.1; simp at this; omega
  refine lv_istore C.1 C.2.1 hd (lh_has B.2.2.2) hn rfl (fun ls2 h2 => kk C H locs ls2 ⟨B.1, B.2.1, B.2.2.1, lh_set1 (i := 4) (v := iv x) B.2.2.2 hn (fun w hw => ?_) h2⟩)
  cases hw; exact hj
theorem r_astore_4 {k : MD} {G : List GD} {n : Nat} {post : Option PV → Mem → Prop} {z : ZZ} {pc pc2 : Nat} {S : List PV} {M : Mem} {a0 a1 a2 a3 : Option PV} {R : List (Option PV)} {o : Option PV} {x : Nat} (hd : Dk k pc (.astore 4) 2 pc2) (hj : nj a3 = true) (kk : WP k G n post z pc2 (a0 :: a1 :: a2 :: a3 :: some (rv x) :: R) S M) : WP k G n post z pc (a0 :: a1 :: a2 :: a3 :: o :: R) (rv x :: S) M := by
  obtain ⟨p, l, e, s, m, args, below, meth, c, D, dA, adK, adV, ad⟩ := z
  obtain ⟨hd, rfl⟩ := hd
  intro C H locs ls B
  have hn : 4 < k.2.2.1 := by have := B.2.2.2.2.1; simp at this; omega
  refine lv_astore C.1 C.2.1 hd (lh_has B.2.2.2) hn rfl (fun ls2 h2 => kk C H locs ls2 ⟨B.1, B.2.1, B.2.2.1, lh_set1 (i := 4) (v := rv x) B.2.2.2 hn (fun w hw => ?_) h2⟩)
  cases hw; exact hj
theorem r_lstore_4 {k : MD} {G : List GD} {n : Nat} {post : Option PV → Mem → Prop} {z : ZZ} {pc pc2 : Nat} {S : List PV} {M : Mem} {a0 a1 a2 a3 : Option PV} {R : List (Option PV)} {o1 o2 : Option PV} {x : Int} (hd : Dk k pc (.lstore 4) 2 pc2) (hj : nj a3 = true) (kk : WP k G n post z pc2 (a0 :: a1 :: a2 :: a3 :: some (jv x) :: none :: R) S M) : WP k G n post z pc (a0 :: a1 :: a2 :: a3 :: o1 :: o2 :: R) (jv x :: S) M := by
  obtain ⟨p, l, e, s, m, args, below, meth, c, D, dA, adK, adV, ad⟩ := z
  obtain ⟨hd, rfl⟩ := hd
  intro C H locs ls B
  have hn : 4 + 1 < k.2.2.1 := by have := B.2.2.2.2.1; simp at this; omega
  refine lv_lstore C.1 C.2.1 hd (lh_has B.2.2.2) hn rfl (fun ls2 h2 => kk C H locs ls2 ⟨B.1, B.2.1, B.2.2.1, lh_set2 (i := 4) (v := jv x) B.2.2.2 hn (fun w hw => ?_) h2⟩)
  cases hw; exact hj
theorem r_iinc_4 {k : MD} {G : List GD} {n : Nat} {post : Option PV → Mem → Prop} {z : ZZ} {pc pc2 : Nat} {S : List PV} {M : Mem} {a0 a1 a2 a3 : Option PV} {R : List (Option PV)} {x d : Int} (hd : Dk k pc (.iinc 4 d) 3 pc2) (hj : nj a3 = true) (kk : WP k G n post z pc2 (a0 :: a1 :: a2 :: a3 :: some (iv (x + d)) :: R) S M) : WP k G n post z pc (a0 :: a1 :: a2 :: a3 :: some (iv x) :: R) S M := by
  obtain ⟨p, l, e, s, m, args, below, meth, c, D, dA, adK, adV, ad⟩ := z
  obtain ⟨hd, rfl⟩ := hd
  intro C H locs ls B
  have hn : 4 < k.2.2.1 := by have := B.2.2.2.2.1; simp at this; omega
  obtain ⟨kq, hq⟩ := List.getElem?_of_mem (la_mem (ad := ad) (L := a0 :: a1 :: a2 :: a3 :: some (iv x) :: R) (q := (4, tv ad (iv x))).mpr ⟨iv x, rfl, rfl⟩)
  refine lv_iinc C.1 C.2.1 hd (lh_has B.2.2.2) hq (v := Int32.ofInt (x + d)) (by rw [Int32.ofInt_add]) hn rfl (fun ls2 h2 => kk C H locs ls2 ⟨B.1, B.2.1, B.2.2.1, lh_set1 (i := 4) (v := iv (x + d)) B.2.2.2 hn (fun w hw => ?_) h2⟩)
  cases hw; exact hj
theorem r_iload_5 {k : MD} {G : List GD} {n : Nat} {post : Option PV → Mem → Prop} {z : ZZ} {pc pc2 : Nat} {S : List PV} {M : Mem} {a0 a1 a2 a3 a4 : Option PV} {R : List (Option PV)} {x : Int} (hd : Dk k pc (.iload 5) 2 pc2) (kk : WP k G n post z pc2 (a0 :: a1 :: a2 :: a3 :: a4 :: some (iv x) :: R) (iv x :: S) M) : WP k G n post z pc (a0 :: a1 :: a2 :: a3 :: a4 :: some (iv x) :: R) S M := by
  obtain ⟨p, l, e, s, m, args, below, meth, c, D, dA, adK, adV, ad⟩ := z
  obtain ⟨hd, rfl⟩ := hd
  intro C H locs ls B
  exact lv_iload C.1 C.2.1 hd (lh_at B.2.2.2 (i := 5) rfl) (kk C H locs ls B)
theorem r_aload_5 {k : MD} {G : List GD} {n : Nat} {post : Option PV → Mem → Prop} {z : ZZ} {pc pc2 : Nat} {S : List PV} {M : Mem} {a0 a1 a2 a3 a4 : Option PV} {R : List (Option PV)} {x : Nat} (hd : Dk k pc (.aload 5) 2 pc2) (kk : WP k G n post z pc2 (a0 :: a1 :: a2 :: a3 :: a4 :: some (rv x) :: R) (rv x :: S) M) : WP k G n post z pc (a0 :: a1 :: a2 :: a3 :: a4 :: some (rv x) :: R) S M := by
  obtain ⟨p, l, e, s, m, args, below, meth, c, D, dA, adK, adV, ad⟩ := z
  obtain ⟨hd, rfl⟩ := hd
  intro C H locs ls B
  exact lv_aload C.1 C.2.1 hd (lh_at B.2.2.2 (i := 5) rfl) (kk C H locs ls B)
theorem r_lload_5 {k : MD} {G : List GD} {n : Nat} {post : Option PV → Mem → Prop} {z : ZZ} {pc pc2 : Nat} {S : List PV} {M : Mem} {a0 a1 a2 a3 a4 : Option PV} {R : List (Option PV)} {x : Int} (hd : Dk k pc (.lload 5) 2 pc2) (kk : WP k G n post z pc2 (a0 :: a1 :: a2 :: a3 :: a4 :: some (jv x) :: R) (jv x :: S) M) : WP k G n post z pc (a0 :: a1 :: a2 :: a3 :: a4 :: some (jv x) :: R) S M := by
  obtain ⟨p, l, e, s, m, args, below, meth, c, D, dA, adK, adV, ad⟩ := z
  obtain ⟨hd, rfl⟩ := hd
  intro C H locs ls B
  exact lv_lload C.1 C.2.1 hd (lh_at B.2.2.2 (i := 5) rfl) (kk C H locs ls B)
theorem r_istore_5 {k : MD} {G : List GD} {n : Nat} {post : Option PV → Mem → Prop} {z : ZZ} {pc pc2 : Nat} {S : List PV} {M : Mem} {a0 a1 a2 a3 a4 : Option PV} {R : List (Option PV)} {o : Option PV} {x : Int} (hd : Dk k pc (.istore 5) 2 pc2) (hj : nj a4 = true) (kk : WP k G n post z pc2 (a0 :: a1 :: a2 :: a3 :: a4 :: some (iv x) :: R) S M) : WP k G n post z pc (a0 :: a1 :: a2 :: a3 :: a4 :: o :: R) (iv x :: S) M := by
  obtain ⟨p, l, e, s, m, args, below, meth, c, D, dA, adK, adV, ad⟩ := z
  obtain ⟨hd, rfl⟩ := hd
  intro C H locs ls B
  have hn : 5 < k.2.2.1 := by have := B.2.2.2.2.1; simp at this; omega
  refine lv_istore C.1 C.2.1 hd (lh_has B.2.2.2) hn rfl (fun ls2 h2 => kk C H locs ls2 ⟨B.1, B.2.1, B.2.2.1, lh_set1 (i := 5) (v := iv x) B.2.2.2 hn (fun w hw => ?_) h2⟩)
  cases hw; exact hj
theorem r_astore_5 {k : MD} {G : List GD} {n : Nat} {post : Option PV → Mem → Prop} {z : ZZ} {pc pc2 : Nat} {S : List PV} {M : Mem} {a0 a1 a2 a3 a4 : Option PV} {R : List (Option PV)} {o : Option PV} {x : Nat} (hd : Dk k pc (.astore 5) 2 pc2) (hj : nj a4 = true) (kk : WP k G n post z pc2 (a0 :: a1 :: a2 :: a3 :: a4 :: some (rv x) :: R) S M) : WP k G n post z pc (a0 :: a1 :: a2 :: a3 :: a4 :: o :: R) (rv x :: S) M := by
  obtain ⟨p, l, e, s, m, args, below, meth, c, D, dA, adK, adV, ad⟩ := z
  obtain ⟨hd, rfl⟩ := hd
  intro C H locs ls B
  have hn : 5 < k.2.2.1 := by have := B.2.2.2.2.1; simp at this; omega
  refine lv_astore C.1 C.2.1 hd (lh_has B.2.2.2) hn rfl (fun ls2 h2 => kk C H locs ls2 ⟨B.1, B.2.1, B.2.2.1, lh_set1 (i := 5) (v := rv x) B.2.2.2 hn (fun w hw => ?_) h2⟩)
  cases hw; exact hj
theorem r_lstore_5 {k : MD} {G : List GD} {n : Nat} {post : Option PV → Mem → Prop} {z : ZZ} {pc pc2 : Nat} {S : List PV} {M : Mem} {a0 a1 a2 a3 a4 : Option PV} {R : List (Option PV)} {o1 o2 : Option PV} {x : Int} (hd : Dk k pc (.lstore 5) 2 pc2) (hj : nj a4 = true) (kk : WP k G n post z pc2 (a0 :: a1 :: a2 :: a3 :: a4 :: some (jv x) :: none :: R) S M) : WP k G n post z pc (a0 :: a1 :: a2 :: a3 :: a4 :: o1 :: o2 :: R) (jv x :: S) M := by
  obtain ⟨p, l, e, s, m, args, below, meth, c, D, dA, adK, adV, ad⟩ := z
  obtain ⟨hd, rfl⟩ := hd
  intro C H locs ls B
  have hn : 5 + 1 < k.2.2.1 := by have := B.2.2.2.2.1; simp at this; omega
  refine lv_lstore C.1 C.2.1 hd (lh_has B.2.2.2) hn rfl (fun ls2 h2 => kk C H locs ls2 ⟨B.1, B.2.1, B.2.2.1, lh_set2 (i := 5) (v := jv x) B.2.2.2 hn (fun w hw => ?_) h2⟩)
  cases hw; exact hj
theorem r_iinc_5 {k : MD} {G : List GD} {n : Nat} {post : Option PV → Mem → Prop} {z : ZZ} {pc pc2 : Nat} {S : List PV} {M : Mem} {a0 a1 a2 a3 a4 : Option PV} {R : List (Option PV)} {x d : Int} (hd : Dk k pc (.iinc 5 d) 3 pc2) (hj : nj a4 = true) (kk : WP k G n post z pc2 (a0 :: a1 :: a2 :: a3 :: a4 :: some (iv (x + d)) :: R) S M) : WP k G n post z pc (a0 :: a1 :: a2 :: a3 :: a4 :: some (iv x) :: R) S M := by
  obtain ⟨p, l, e, s, m, args, below, meth, c, D, dA, adK, adV, ad⟩ := z
  obtain ⟨hd, rfl⟩ := hd
  intro C H locs ls B
  have hn : 5 < k.2.2.1 := by have := B.2.2.2.2.1; simp at this; omega
  obtain ⟨kq, hq⟩ := List.getElem?_of_mem (la_mem (ad := ad) (L := a0 :: a1 :: a2 :: a3 :: a4 :: some (iv x) :: R) (q := (5, tv ad (iv x))).mpr ⟨iv x, rfl, rfl⟩)
  refine lv_iinc C.1 C.2.1 hd (lh_has B.2.2.2) hq (v := Int32.ofInt (x + d)) (by rw [Int32.ofInt_add]) hn rfl (fun ls2 h2 => kk C H locs ls2 ⟨B.1, B.2.1, B.2.2.1, lh_set1 (i := 5) (v := iv (x + d)) B.2.2.2 hn (fun w hw => ?_) h2⟩)
  cases hw; exact hj
theorem r_iload_6 {k : MD} {G : List GD} {n : Nat} {post : Option PV → Mem → Prop} {z : ZZ} {pc pc2 : Nat} {S : List PV} {M : Mem} {a0 a1 a2 a3 a4 a5 : Option PV} {R : List (Option PV)} {x : Int} (hd : Dk k pc (.iload 6) 2 pc2) (kk : WP k G n post z pc2 (a0 :: a1 :: a2 :: a3 :: a4 :: a5 :: some (iv x) :: R) (iv x :: S) M) : WP k G n post z pc (a0 :: a1 :: a2 :: a3 :: a4 :: a5 :: some (iv x) :: R) S M := by
  obtain ⟨p, l, e, s, m, args, below, meth, c, D, dA, adK, adV, ad⟩ := z
  obtain ⟨hd, rfl⟩ := hd
  intro C H locs ls B
  exact lv_iload C.1 C.2.1 hd (lh_at B.2.2.2 (i := 6) rfl) (kk C H locs ls B)
theorem r_aload_6 {k : MD} {G : List GD} {n : Nat} {post : Option PV → Mem → Prop} {z : ZZ} {pc pc2 : Nat} {S : List PV} {M : Mem} {a0 a1 a2 a3 a4 a5 : Option PV} {R : List (Option PV)} {x : Nat} (hd : Dk k pc (.aload 6) 2 pc2) (kk : WP k G n post z pc2 (a0 :: a1 :: a2 :: a3 :: a4 :: a5 :: some (rv x) :: R) (rv x :: S) M) : WP k G n post z pc (a0 :: a1 :: a2 :: a3 :: a4 :: a5 :: some (rv x) :: R) S M := by
  obtain ⟨p, l, e, s, m, args, below, meth, c, D, dA, adK, adV, ad⟩ := z
  obtain ⟨hd, rfl⟩ := hd
  intro C H locs ls B
  exact lv_aload C.1 C.2.1 hd (lh_at B.2.2.2 (i := 6) rfl) (kk C H locs ls B)
theorem r_lload_6 {k : MD} {G : List GD} {n : Nat} {post : Option PV → Mem → Prop} {z : ZZ} {pc pc2 : Nat} {S : List PV} {M : Mem} {a0 a1 a2 a3 a4 a5 : Option PV} {R : List (Option PV)} {x : Int} (hd : Dk k pc (.lload 6) 2 pc2) (kk : WP k G n post z pc2 (a0 :: a1 :: a2 :: a3 :: a4 :: a5 :: some (jv x) :: R) (jv x :: S) M) : WP k G n post z pc (a0 :: a1 :: a2 :: a3 :: a4 :: a5 :: some (jv x) :: R) S M := by
  obtain ⟨p, l, e, s, m, args, below, meth, c, D, dA, adK, adV, ad⟩ := z
  obtain ⟨hd, rfl⟩ := hd
  intro C H locs ls B
  exact lv_lload C.1 C.2.1 hd (lh_at B.2.2.2 (i := 6) rfl) (kk C H locs ls B)
theorem r_istore_6 {k : MD} {G : List GD} {n : Nat} {post : Option PV → Mem → Prop} {z : ZZ} {pc pc2 : Nat} {S : List PV} {M : Mem} {a0 a1 a2 a3 a4 a5 : Option PV} {R : List (Option PV)} {o : Option PV} {x : Int} (hd : Dk k pc (.istore 6) 2 pc2) (hj : nj a5 = true) (kk : WP k G n post z pc2 (a0 :: a1 :: a2 :: a3 :: a4 :: a5 :: some (iv x) :: R) S M) : WP k G n post z pc (a0 :: a1 :: a2 :: a3 :: a4 :: a5 :: o :: R) (iv x :: S) M := by
  obtain ⟨p, l, e, s, m, args, below, meth, c, D, dA, adK, adV, ad⟩ := z
  obtain ⟨hd, rfl⟩ := hd
  intro C H locs ls B
  have hn : 6 < k.2.2.1 := by have := B.2.2.2.2.1; simp at this; omega
  refine lv_istore C.1 C.2.1 hd (lh_has B.2.2.2) hn rfl (fun ls2 h2 => kk C H locs ls2 ⟨B.1, B.2.1, B.2.2.1, lh_set1 (i := 6) (v := iv x) B.2.2.2 hn (fun w hw => ?_) h2⟩)
  cases hw; exact hj
theorem r_astore_6 {k : MD} {G : List GD} {n : Nat} {post : Option PV → Mem → Prop} {z : ZZ} {pc pc2 : Nat} {S : List PV} {M : Mem} {a0 a1 a2 a3 a4 a5 : Option PV} {R : List (Option PV)} {o : Option PV} {x : Nat} (hd : Dk k pc (.astore 6) 2 pc2) (hj : nj a5 = true) (kk : WP k G n post z pc2 (a0 :: a1 :: a2 :: a3 :: a4 :: a5 :: some (rv x) :: R) S M) : WP k G n post z pc (a0 :: a1 :: a2 :: a3 :: a4 :: a5 :: o :: R) (rv x :: S) M := by
  obtain ⟨p, l, e, s, m, args, below, meth, c, D, dA, adK, adV, ad⟩ := z
  obtain ⟨hd, rfl⟩ := hd
  intro C H locs ls B
  have hn : 6 < k.2.2.1 := by have := B.2.2.2.2.1; simp at this; omega
  refine lv_astore C.1 C.2.1 hd (lh_has B.2.2.2) hn rfl (fun ls2 h2 => kk C H locs ls2 ⟨B.1, B.2.1, B.2.2.1, lh_set1 (i := 6) (v := rv x) B.2.2.2 hn (fun w hw => ?_) h2⟩)
  cases hw; exact hj
theorem r_lstore_6 {k : MD} {G : List GD} {n : Nat} {post : Option PV → Mem → Prop} {z : ZZ} {pc pc2 : Nat} {S : List PV} {M : Mem} {a0 a1 a2 a3 a4 a5 : Option PV} {R : List (Option PV)} {o1 o2 : Option PV} {x : Int} (hd : Dk k pc (.lstore 6) 2 pc2) (hj : nj a5 = true) (kk : WP k G n post z pc2 (a0 :: a1 :: a2 :: a3 :: a4 :: a5 :: some (jv x) :: none :: R) S M) : WP k G n post z pc (a0 :: a1 :: a2 :: a3 :: a4 :: a5 :: o1 :: o2 :: R) (jv x :: S) M := by
  obtain ⟨p, l, e, s, m, args, below, meth, c, D, dA, adK, adV, ad⟩ := z
  obtain ⟨hd, rfl⟩ := hd
  intro C H locs ls B
  have hn : 6 + 1 < k.2.2.1 := by have := B.2.2.2.2.1; simp at this; omega
  refine lv_lstore C.1 C.2.1 hd (lh_has B.2.2.2) hn rfl (fun ls2 h2 => kk C H locs ls2 ⟨B.1, B.2.1, B.2.2.1, lh_set2 (i := 6) (v := jv x) B.2.2.2 hn (fun w hw => ?_) h2⟩)
  cases hw; exact hj
theorem r_iinc_6 {k : MD} {G : List GD} {n : Nat} {post : Option PV → Mem → Prop} {z : ZZ} {pc pc2 : Nat} {S : List PV} {M : Mem} {a0 a1 a2 a3 a4 a5 : Option PV} {R : List (Option PV)} {x d : Int} (hd : Dk k pc (.iinc 6 d) 3 pc2) (hj : nj a5 = true) (kk : WP k G n post z pc2 (a0 :: a1 :: a2 :: a3 :: a4 :: a5 :: some (iv (x + d)) :: R) S M) : WP k G n post z pc (a0 :: a1 :: a2 :: a3 :: a4 :: a5 :: some (iv x) :: R) S M := by
  obtain ⟨p, l, e, s, m, args, below, meth, c, D, dA, adK, adV, ad⟩ := z
  obtain ⟨hd, rfl⟩ := hd
  intro C H locs ls B
  have hn : 6 < k.2.2.1 := by have := B.2.2.2.2.1; simp at this; omega
  obtain ⟨kq, hq⟩ := List.getElem?_of_mem (la_mem (ad := ad) (L := a0 :: a1 :: a2 :: a3 :: a4 :: a5 :: some (iv x) :: R) (q := (6, tv ad (iv x))).mpr ⟨iv x, rfl, rfl⟩)
  refine lv_iinc C.1 C.2.1 hd (lh_has B.2.2.2) hq (v := Int32.ofInt (x + d)) (by rw [Int32.ofInt_add]) hn rfl (fun ls2 h2 => kk C H locs ls2 ⟨B.1, B.2.1, B.2.2.1, lh_set1 (i := 6) (v := iv (x + d)) B.2.2.2 hn (fun w hw => ?_) h2⟩)
  cases hw; exact hj
theorem r_iload_7 {k : MD} {G : List GD} {n : Nat} {post : Option PV → Mem → Prop} {z : ZZ} {pc pc2 : Nat} {S : List PV} {M : Mem} {a0 a1 a2 a3 a4 a5 a6 : Option PV} {R : List (Option PV)} {x : Int} (hd : Dk k pc (.iload 7) 2 pc2) (kk : WP k G n post z pc2 (a0 :: a1 :: a2 :: a3 :: a4 :: a5 :: a6 :: some (iv x) :: R) (iv x :: S) M) : WP k G n post z pc (a0 :: a1 :: a2 :: a3 :: a4 :: a5 :: a6 :: some (iv x) :: R) S M := by
  obtain ⟨p, l, e, s, m, args, below, meth, c, D, dA, adK, adV, ad⟩ := z
  obtain ⟨hd, rfl⟩ := hd
  intro C H locs ls B
  exact lv_iload C.1 C.2.1 hd (lh_at B.2.2.2 (i := 7) rfl) (kk C H locs ls B)
theorem r_aload_7 {k : MD} {G : List GD} {n : Nat} {post : Option PV → Mem → Prop} {z : ZZ} {pc pc2 : Nat} {S : List PV} {M : Mem} {a0 a1 a2 a3 a4 a5 a6 : Option PV} {R : List (Option PV)} {x : Nat} (hd : Dk k pc (.aload 7) 2 pc2) (kk : WP k G n post z pc2 (a0 :: a1 :: a2 :: a3 :: a4 :: a5 :: a6 :: some (rv x) :: R) (rv x :: S) M) : WP k G n post z pc (a0 :: a1 :: a2 :: a3 :: a4 :: a5 :: a6 :: some (rv x) :: R) S M := by
  obtain ⟨p, l, e, s, m, args, below, meth, c, D, dA, adK, adV, ad⟩ := z
  obtain ⟨hd, rfl⟩ := hd
  intro C H locs ls B
  exact lv_aload C.1 C.2.1 hd (lh_at B.2.2.2 (i := 7) rfl) (kk C H locs ls B)
theorem r_lload_7 {k : MD} {G : List GD} {n : Nat} {post : Option PV → Mem → Prop} {z : ZZ} {pc pc2 : Nat} {S : List PV} {M : Mem} {a0 a1 a2 a3 a4 a5 a6 : Option PV} {R : List (Option PV)} {x : Int} (hd : Dk k pc (.lload 7) 2 pc2) (kk : WP k G n post z pc2 (a0 :: a1 :: a2 :: a3 :: a4 :: a5 :: a6 :: some (jv x) :: R) (jv x :: S) M) : WP k G n post z pc (a0 :: a1 :: a2 :: a3 :: a4 :: a5 :: a6 :: some (jv x) :: R) S M := by
  obtain ⟨p, l, e, s, m, args, below, meth, c, D, dA, adK, adV, ad⟩ := z
  obtain ⟨hd, rfl⟩ := hd
  intro C H locs ls B
  exact lv_lload C.1 C.2.1 hd (lh_at B.2.2.2 (i := 7) rfl) (kk C H locs ls B)
theorem r_istore_7 {k : MD} {G : List GD} {n : Nat} {post : Option PV → Mem → Prop} {z : ZZ} {pc pc2 : Nat} {S : List PV} {M : Mem} {a0 a1 a2 a3 a4 a5 a6 : Option PV} {R : List (Option PV)} {o : Option PV} {x : Int} (hd : Dk k pc (.istore 7) 2 pc2) (hj : nj a6 = true) (kk : WP k G n post z pc2 (a0 :: a1 :: a2 :: a3 :: a4 :: a5 :: a6 :: some (iv x) :: R) S M) : WP k G n post z pc (a0 :: a1 :: a2 :: a3 :: a4 :: a5 :: a6 :: o :: R) (iv x :: S) M := by
  obtain ⟨p, l, e, s, m, args, below, meth, c, D, dA, adK, adV, ad⟩ := z
  obtain ⟨hd, rfl⟩ := hd
  intro C H locs ls B
  have hn : 7 < k.2.2.1 := by have := B.2.2.2.2.1; simp at this; omega
  refine lv_istore C.1 C.2.1 hd (lh_has B.2.2.2) hn rfl (fun ls2 h2 => kk C H locs ls2 ⟨B.1, B.2.1, B.2.2.1, lh_set1 (i := 7) (v := iv x) B.2.2.2 hn (fun w hw => ?_) h2⟩)
  cases hw; exact hj
theorem r_astore_7 {k : MD} {G : List GD} {n : Nat} {post : Option PV → Mem → Prop} {z : ZZ} {pc pc2 : Nat} {S : List PV} {M : Mem} {a0 a1 a2 a3 a4 a5 a6 : Option PV} {R : List (Option PV)} {o : Option PV} {x : Nat} (hd : Dk k pc (.astore 7) 2 pc2) (hj : nj a6 = true) (kk : WP k G n post z pc2 (a0 :: a1 :: a2 :: a3 :: a4 :: a5 :: a6 :: some (rv x) :: R) S M) : WP k G n post z pc (a0 :: a1 :: a2 :: a3 :: a4 :: a5 :: a6 :: o :: R) (rv x :: S) M := by
  obtain ⟨p, l, e, s, m, args, below, meth, c, D, dA, adK, adV, ad⟩ := z
  obtain ⟨hd, rfl⟩ := hd
  intro C H locs ls B
  have hn : 7 < k.2.2.1 := by have := B.2.2.2.2.1; simp at this; omega
  refine lv_astore C.1 C.2.1 hd (lh_has B.2.2.2) hn rfl (fun ls2 h2 => kk C H locs ls2 ⟨B.1, B.2.1, B.2.2.1, lh_set1 (i := 7) (v := rv x) B.2.2.2 hn (fun w hw => ?_) h2⟩)
  cases hw; exact hj
theorem r_lstore_7 {k : MD} {G : List GD} {n : Nat} {post : Option PV → Mem → Prop} {z : ZZ} {pc pc2 : Nat} {S : List PV} {M : Mem} {a0 a1 a2 a3 a4 a5 a6 : Option PV} {R : List (Option PV)} {o1 o2 : Option PV} {x : Int} (hd : Dk k pc (.lstore 7) 2 pc2) (hj : nj a6 = true) (kk : WP k G n post z pc2 (a0 :: a1 :: a2 :: a3 :: a4 :: a5 :: a6 :: some (jv x) :: none :: R) S M) : WP k G n post z pc (a0 :: a1 :: a2 :: a3 :: a4 :: a5 :: a6 :: o1 :: o2 :: R) (jv x :: S) M := by
  obtain ⟨p, l, e, s, m, args, below, meth, c, D, dA, adK, adV, ad⟩ := z
  obtain ⟨hd, rfl⟩ := hd
  intro C H locs ls B
  have hn : 7 + 1 < k.2.2.1 := by have := B.2.2.2.2.1; simp at this; omega
  refine lv_lstore C.1 C.2.1 hd (lh_has B.2.2.2) hn rfl (fun ls2 h2 => kk C H locs ls2 ⟨B.1, B.2.1, B.2.2.1, lh_set2 (i := 7) (v := jv x) B.2.2.2 hn (fun w hw => ?_) h2⟩)
  cases hw; exact hj
theorem r_iinc_7 {k : MD} {G : List GD} {n : Nat} {post : Option PV → Mem → Prop} {z : ZZ} {pc pc2 : Nat} {S : List PV} {M : Mem} {a0 a1 a2 a3 a4 a5 a6 : Option PV} {R : List (Option PV)} {x d : Int} (hd : Dk k pc (.iinc 7 d) 3 pc2) (hj : nj a6 = true) (kk : WP k G n post z pc2 (a0 :: a1 :: a2 :: a3 :: a4 :: a5 :: a6 :: some (iv (x + d)) :: R) S M) : WP k G n post z pc (a0 :: a1 :: a2 :: a3 :: a4 :: a5 :: a6 :: some (iv x) :: R) S M := by
  obtain ⟨p, l, e, s, m, args, below, meth, c, D, dA, adK, adV, ad⟩ := z
  obtain ⟨hd, rfl⟩ := hd
  intro C H locs ls B
  have hn : 7 < k.2.2.1 := by have := B.2.2.2.2.1; simp at this; omega
  obtain ⟨kq, hq⟩ := List.getElem?_of_mem (la_mem (ad := ad) (L := a0 :: a1 :: a2 :: a3 :: a4 :: a5 :: a6 :: some (iv x) :: R) (q := (7, tv ad (iv x))).mpr ⟨iv x, rfl, rfl⟩)
  refine lv_iinc C.1 C.2.1 hd (lh_has B.2.2.2) hq (v := Int32.ofInt (x + d)) (by rw [Int32.ofInt_add]) hn rfl (fun ls2 h2 => kk C H locs ls2 ⟨B.1, B.2.1, B.2.2.1, lh_set1 (i := 7) (v := iv (x + d)) B.2.2.2 hn (fun w hw => ?_) h2⟩)
  cases hw; exact hj
theorem r_iload_8 {k : MD} {G : List GD} {n : Nat} {post : Option PV → Mem → Prop} {z : ZZ} {pc pc2 : Nat} {S : List PV} {M : Mem} {a0 a1 a2 a3 a4 a5 a6 a7 : Option PV} {R : List (Option PV)} {x : Int} (hd : Dk k pc (.iload 8) 2 pc2) (kk : WP k G n post z pc2 (a0 :: a1 :: a2 :: a3 :: a4 :: a5 :: a6 :: a7 :: some (iv x) :: R) (iv x :: S) M) : WP k G n post z pc (a0 :: a1 :: a2 :: a3 :: a4 :: a5 :: a6 :: a7 :: some (iv x) :: R) S M := by
  obtain ⟨p, l, e, s, m, args, below, meth, c, D, dA, adK, adV, ad⟩ := z
  obtain ⟨hd, rfl⟩ := hd
  intro C H locs ls B
  exact lv_iload C.1 C.2.1 hd (lh_at B.2.2.2 (i := 8) rfl) (kk C H locs ls B)
theorem r_aload_8 {k : MD} {G : List GD} {n : Nat} {post : Option PV → Mem → Prop} {z : ZZ} {pc pc2 : Nat} {S : List PV} {M : Mem} {a0 a1 a2 a3 a4 a5 a6 a7 : Option PV} {R : List (Option PV)} {x : Nat} (hd : Dk k pc (.aload 8) 2 pc2) (kk : WP k G n post z pc2 (a0 :: a1 :: a2 :: a3 :: a4 :: a5 :: a6 :: a7 :: some (rv x) :: R) (rv x :: S) M) : WP k G n post z pc (a0 :: a1 :: a2 :: a3 :: a4 :: a5 :: a6 :: a7 :: some (rv x) :: R) S M := by
  obtain ⟨p, l, e, s, m, args, below, meth, c, D, dA, adK, adV, ad⟩ := z
  obtain ⟨hd, rfl⟩ := hd
  intro C H locs ls B
  exact lv_aload C.1 C.2.1 hd (lh_at B.2.2.2 (i := 8) rfl) (kk C H locs ls B)
theorem r_lload_8 {k : MD} {G : List GD} {n : Nat} {post : Option PV → Mem → Prop} {z : ZZ} {pc pc2 : Nat} {S : List PV} {M : Mem} {a0 a1 a2 a3 a4 a5 a6 a7 : Option PV} {R : List (Option PV)} {x : Int} (hd : Dk k pc (.lload 8) 2 pc2) (kk : WP k G n post z pc2 (a0 :: a1 :: a2 :: a3 :: a4 :: a5 :: a6 :: a7 :: some (jv x) :: R) (jv x :: S) M) : WP k G n post z pc (a0 :: a1 :: a2 :: a3 :: a4 :: a5 :: a6 :: a7 :: some (jv x) :: R) S M := by
  obtain ⟨p, l, e, s, m, args, below, meth, c, D, dA, adK, adV, ad⟩ := z
  obtain ⟨hd, rfl⟩ := hd
  intro C H locs ls B
  exact lv_lload C.1 C.2.1 hd (lh_at B.2.2.2 (i := 8) rfl) (kk C H locs ls B)
theorem r_istore_8 {k : MD} {G : List GD} {n : Nat} {post : Option PV → Mem → Prop} {z : ZZ} {pc pc2 : Nat} {S : List PV} {M : Mem} {a0 a1 a2 a3 a4 a5 a6 a7 : Option PV} {R : List (Option PV)} {o : Option PV} {x : Int} (hd : Dk k pc (.istore 8) 2 pc2) (hj : nj a7 = true) (kk : WP k G n post z pc2 (a0 :: a1 :: a2 :: a3 :: a4 :: a5 :: a6 :: a7 :: some (iv x) :: R) S M) : WP k G n post z pc (a0 :: a1 :: a2 :: a3 :: a4 :: a5 :: a6 :: a7 :: o :: R) (iv x :: S) M := by
  obtain ⟨p, l, e, s, m, args, below, meth, c, D, dA, adK, adV, ad⟩ := z
  obtain ⟨hd, rfl⟩ := hd
  intro C H locs ls B
  have hn : 8 < k.2.2.1 := by have := B.2.2.2.2.1; simp at this; omega
  refine lv_istore C.1 C.2.1 hd (lh_has B.2.2.2) hn rfl (fun ls2 h2 => kk C H locs ls2 ⟨B.1, B.2.1, B.2.2.1, lh_set1 (i := 8) (v := iv x) B.2.2.2 hn (fun w hw => ?_) h2⟩)
  cases hw; exact hj
theorem r_astore_8 {k : MD} {G : List GD} {n : Nat} {post : Option PV → Mem → Prop} {z : ZZ} {pc pc2 : Nat} {S : List PV} {M : Mem} {a0 a1 a2 a3 a4 a5 a6 a7 : Option PV} {R : List (Option PV)} {o : Option PV} {x : Nat} (hd : Dk k pc (.astore 8) 2 pc2) (hj : nj a7 = true) (kk : WP k G n post z pc2 (a0 :: a1 :: a2 :: a3 :: a4 :: a5 :: a6 :: a7 :: some (rv x) :: R) S M) : WP k G n post z pc (a0 :: a1 :: a2 :: a3 :: a4 :: a5 :: a6 :: a7 :: o :: R) (rv x :: S) M := by
  obtain ⟨p, l, e, s, m, args, below, meth, c, D, dA, adK, adV, ad⟩ := z
  obtain ⟨hd, rfl⟩ := hd
  intro C H locs ls B
  have hn : 8 < k.2.2.1 := by have := B.2.2.2.2.1; simp at this; omega
  refine lv_astore C.1 C.2.1 hd (lh_has B.2.2.2) hn rfl (fun ls2 h2 => kk C H locs ls2 ⟨B.1, B.2.1, B.2.2.1, lh_set1 (i := 8) (v := rv x) B.2.2.2 hn (fun w hw => ?_) h2⟩)
  cases hw; exact hj
theorem r_lstore_8 {k : MD} {G : List GD} {n : Nat} {post : Option PV → Mem → Prop} {z : ZZ} {pc pc2 : Nat} {S : List PV} {M : Mem} {a0 a1 a2 a3 a4 a5 a6 a7 : Option PV} {R : List (Option PV)} {o1 o2 : Option PV} {x : Int} (hd : Dk k pc (.lstore 8) 2 pc2) (hj : nj a7 = true) (kk : WP k G n post z pc2 (a0 :: a1 :: a2 :: a3 :: a4 :: a5 :: a6 :: a7 :: some (jv x) :: none :: R) S M) : WP k G n post z pc (a0 :: a1 :: a2 :: a3 :: a4 :: a5 :: a6 :: a7 :: o1 :: o2 :: R) (jv x :: S) M := by
  obtain ⟨p, l, e, s, m, args, below, meth, c, D, dA, adK, adV, ad⟩ := z
  obtain ⟨hd, rfl⟩ := hd
  intro C H locs ls B
  have hn : 8 + 1 < k.2.2.1 := by have := B.2.2.2.2.1; simp at this; omega
  refine lv_lstore C.1 C.2.1 hd (lh_has B.2.2.2) hn rfl (fun ls2 h2 => kk C H locs ls2 ⟨B.1, B.2.1, B.2.2.1, lh_set2 (i := 8) (v := jv x) B.2.2.2 hn (fun w hw => ?_) h2⟩)
  cases hw; exact hj
theorem r_iinc_8 {k : MD} {G : List GD} {n : Nat} {post : Option PV → Mem → Prop} {z : ZZ} {pc pc2 : Nat} {S : List PV} {M : Mem} {a0 a1 a2 a3 a4 a5 a6 a7 : Option PV} {R : List (Option PV)} {x d : Int} (hd : Dk k pc (.iinc 8 d) 3 pc2) (hj : nj a7 = true) (kk : WP k G n post z pc2 (a0 :: a1 :: a2 :: a3 :: a4 :: a5 :: a6 :: a7 :: some (iv (x + d)) :: R) S M) : WP k G n post z pc (a0 :: a1 :: a2 :: a3 :: a4 :: a5 :: a6 :: a7 :: some (iv x) :: R) S M := by
  obtain ⟨p, l, e, s, m, args, below, meth, c, D, dA, adK, adV, ad⟩ := z
  obtain ⟨hd, rfl⟩ := hd
  intro C H locs ls B
  have hn : 8 < k.2.2.1 := by have := B.2.2.2.2.1; simp at this; omega
  obtain ⟨kq, hq⟩ := List.getElem?_of_mem (la_mem (ad := ad) (L := a0 :: a1 :: a2 :: a3 :: a4 :: a5 :: a6 :: a7 :: some (iv x) :: R) (q := (8, tv ad (iv x))).mpr ⟨iv x, rfl, rfl⟩)
  refine lv_iinc C.1 C.2.1 hd (lh_has B.2.2.2) hq (v := Int32.ofInt (x + d)) (by rw [Int32.ofInt_add]) hn rfl (fun ls2 h2 => kk C H locs ls2 ⟨B.1, B.2.1, B.2.2.1, lh_set1 (i := 8) (v := iv (x + d)) B.2.2.2 hn (fun w hw => ?_) h2⟩)
  cases hw; exact hj
theorem r_iload_9 {k : MD} {G : List GD} {n : Nat} {post : Option PV → Mem → Prop} {z : ZZ} {pc pc2 : Nat} {S : List PV} {M : Mem} {a0 a1 a2 a3 a4 a5 a6 a7 a8 : Option PV} {R : List (Option PV)} {x : Int} (hd : Dk k pc (.iload 9) 2 pc2) (kk : WP k G n post z pc2 (a0 :: a1 :: a2 :: a3 :: a4 :: a5 :: a6 :: a7 :: a8 :: some (iv x) :: R) (iv x :: S) M) : WP k G n post z pc (a0 :: a1 :: a2 :: a3 :: a4 :: a5 :: a6 :: a7 :: a8 :: some (iv x) :: R) S M := by
  obtain ⟨p, l, e, s, m, args, below, meth, c, D, dA, adK, adV, ad⟩ := z
  obtain ⟨hd, rfl⟩ := hd
  intro C H locs ls B
  exact lv_iload C.1 C.2.1 hd (lh_at B.2.2.2 (i := 9) rfl) (kk C H locs ls B)
theorem r_aload_9 {k : MD} {G : List GD} {n : Nat} {post : Option PV → Mem → Prop} {z : ZZ} {pc pc2 : Nat} {S : List PV} {M : Mem} {a0 a1 a2 a3 a4 a5 a6 a7 a8 : Option PV} {R : List (Option PV)} {x : Nat} (hd : Dk k pc (.aload 9) 2 pc2) (kk : WP k G n post z pc2 (a0 :: a1 :: a2 :: a3 :: a4 :: a5 :: a6 :: a7 :: a8 :: some (rv x) :: R) (rv x :: S) M) : WP k G n post z pc (a0 :: a1 :: a2 :: a3 :: a4 :: a5 :: a6 :: a7 :: a8 :: some (rv x) :: R) S M := by
  obtain ⟨p, l, e, s, m, args, below, meth, c, D, dA, adK, adV, ad⟩ := z
  obtain ⟨hd, rfl⟩ := hd
  intro C H locs ls B
  exact lv_aload C.1 C.2.1 hd (lh_at B.2.2.2 (i := 9) rfl) (kk C H locs ls B)
theorem r_lload_9 {k : MD} {G : List GD} {n : Nat} {post : Option PV → Mem → Prop} {z : ZZ} {pc pc2 : Nat} {S : List PV} {M : Mem} {a0 a1 a2 a3 a4 a5 a6 a7 a8 : Option PV} {R : List (Option PV)} {x : Int} (hd : Dk k pc (.lload 9) 2 pc2) (kk : WP k G n post z pc2 (a0 :: a1 :: a2 :: a3 :: a4 :: a5 :: a6 :: a7 :: a8 :: some (jv x) :: R) (jv x :: S) M) : WP k G n post z pc (a0 :: a1 :: a2 :: a3 :: a4 :: a5 :: a6 :: a7 :: a8 :: some (jv x) :: R) S M := by
  obtain ⟨p, l, e, s, m, args, below, meth, c, D, dA, adK, adV, ad⟩ := z
  obtain ⟨hd, rfl⟩ := hd
  intro C H locs ls B
  exact lv_lload C.1 C.2.1 hd (lh_at B.2.2.2 (i := 9) rfl) (kk C H locs ls B)
theorem r_istore_9 {k : MD} {G : List GD} {n : Nat} {post : Option PV → Mem → Prop} {z : ZZ} {pc pc2 : Nat} {S : List PV} {M : Mem} {a0 a1 a2 a3 a4 a5 a6 a7 a8 : Option PV} {R : List (Option PV)} {o : Option PV} {x : Int} (hd : Dk k pc (.istore 9) 2 pc2) (hj : nj a8 = true) (kk : WP k G n post z pc2 (a0 :: a1 :: a2 :: a3 :: a4 :: a5 :: a6 :: a7 :: a8 :: some (iv x) :: R) S M) : WP k G n post z pc (a0 :: a1 :: a2 :: a3 :: a4 :: a5 :: a6 :: a7 :: a8 :: o :: R) (iv x :: S) M := by
  obtain ⟨p, l, e, s, m, args, below, meth, c, D, dA, adK, adV, ad⟩ := z
  obtain ⟨hd, rfl⟩ := hd
  intro C H locs ls B
  have hn : 9 < k.2.2.1 := by have := B.2.2.2.2.1; simp at this; omega
  refine lv_istore C.1 C.2.1 hd (lh_has B.2.2.2) hn rfl (fun ls2 h2 => kk C H locs ls2 ⟨B.1, B.2.1, B.2.2.1, lh_set1 (i := 9) (v := iv x) B.2.2.2 hn (fun w hw => ?_) h2⟩)
  cases hw; exact hj
theorem r_astore_9 {k : MD} {G : List GD} {n : Nat} {post : Option PV → Mem → Prop} {z : ZZ} {pc pc2 : Nat} {S : List PV} {M : Mem} {a0 a1 a2 a3 a4 a5 a6 a7 a8 : Option PV} {R : List (Option PV)} {o : Option PV} {x : Nat} (hd : Dk k pc (.astore 9) 2 pc2) (hj : nj a8 = true) (kk : WP k G n post z pc2 (a0 :: a1 :: a2 :: a3 :: a4 :: a5 :: a6 :: a7 :: a8 :: some (rv x) :: R) S M) : WP k G n post z pc (a0 :: a1 :: a2 :: a3 :: a4 :: a5 :: a6 :: a7 :: a8 :: o :: R) (rv x :: S) M := by
  obtain ⟨p, l, e, s, m, args, below, meth, c, D, dA, adK, adV, ad⟩ := z
  obtain ⟨hd, rfl⟩ := hd
  intro C H locs ls B
  have hn : 9 < k.2.2.1 := by have := B.2.2.2.2.1; simp at this; omega
  refine lv_astore C.1 C.2.1 hd (lh_has B.2.2.2) hn rfl (fun ls2 h2 => kk C H locs ls2 ⟨B.1, B.2.1, B.2.2.1, lh_set1 (i := 9) (v := rv x) B.2.2.2 hn (fun w hw => ?_) h2⟩)
  cases hw; exact hj
theorem r_lstore_9 {k : MD} {G : List GD} {n : Nat} {post : Option PV → Mem → Prop} {z : ZZ} {pc pc2 : Nat} {S : List PV} {M : Mem} {a0 a1 a2 a3 a4 a5 a6 a7 a8 : Option PV} {R : List (Option PV)} {o1 o2 : Option PV} {x : Int} (hd : Dk k pc (.lstore 9) 2 pc2) (hj : nj a8 = true) (kk : WP k G n post z pc2 (a0 :: a1 :: a2 :: a3 :: a4 :: a5 :: a6 :: a7 :: a8 :: some (jv x) :: none :: R) S M) : WP k G n post z pc (a0 :: a1 :: a2 :: a3 :: a4 :: a5 :: a6 :: a7 :: a8 :: o1 :: o2 :: R) (jv x :: S) M := by
  obtain ⟨p, l, e, s, m, args, below, meth, c, D, dA, adK, adV, ad⟩ := z
  obtain ⟨hd, rfl⟩ := hd
  intro C H locs ls B
  have hn : 9 + 1 < k.2.2.1 := by have := B.2.2.2.2.1; simp at this; omega
  refine lv_lstore C.1 C.2.1 hd (lh_has B.2.2.2) hn rfl (fun ls2 h2 => kk C H locs ls2 ⟨B.1, B.2.1, B.2.2.1, lh_set2 (i := 9) (v := jv x) B.2.2.2 hn (fun w hw => ?_) h2⟩)
  cases hw; exact hj
theorem r_iinc_9 {k : MD} {G : List GD} {n : Nat} {post : Option PV → Mem → Prop} {z : ZZ} {pc pc2 : Nat} {S : List PV} {M : Mem} {a0 a1 a2 a3 a4 a5 a6 a7 a8 : Option PV} {R : List (Option PV)} {x d : Int} (hd : Dk k pc (.iinc 9 d) 3 pc2) (hj : nj a8 = true) (kk : WP k G n post z pc2 (a0 :: a1 :: a2 :: a3 :: a4 :: a5 :: a6 :: a7 :: a8 :: some (iv (x + d)) :: R) S M) : WP k G n post z pc (a0 :: a1 :: a2 :: a3 :: a4 :: a5 :: a6 :: a7 :: a8 :: some (iv x) :: R) S M := by
  obtain ⟨p, l, e, s, m, args, below, meth, c, D, dA, adK, adV, ad⟩ := z
  obtain ⟨hd, rfl⟩ := hd
  intro C H locs ls B
  have hn : 9 < k.2.2.1 := by have := B.2.2.2.2.1; simp at this; omega
  obtain ⟨kq, hq⟩ := List.getElem?_of_mem (la_mem (ad := ad) (L := a0 :: a1 :: a2 :: a3 :: a4 :: a5 :: a6 :: a7 :: a8 :: some (iv x) :: R) (q := (9, tv ad (iv x))).mpr ⟨iv x, rfl, rfl⟩)
  refine lv_iinc C.1 C.2.1 hd (lh_has B.2.2.2) hq (v := Int32.ofInt (x + d)) (by rw [Int32.ofInt_add]) hn rfl (fun ls2 h2 => kk C H locs ls2 ⟨B.1, B.2.1, B.2.2.1, lh_set1 (i := 9) (v := iv (x + d)) B.2.2.2 hn (fun w hw => ?_) h2⟩)
  cases hw; exact hj
theorem r_iload_10 {k : MD} {G : List GD} {n : Nat} {post : Option PV → Mem → Prop} {z : ZZ} {pc pc2 : Nat} {S : List PV} {M : Mem} {a0 a1 a2 a3 a4 a5 a6 a7 a8 a9 : Option PV} {R : List (Option PV)} {x : Int} (hd : Dk k pc (.iload 10) 2 pc2) (kk : WP k G n post z pc2 (a0 :: a1 :: a2 :: a3 :: a4 :: a5 :: a6 :: a7 :: a8 :: a9 :: some (iv x) :: R) (iv x :: S) M) : WP k G n post z pc (a0 :: a1 :: a2 :: a3 :: a4 :: a5 :: a6 :: a7 :: a8 :: a9 :: some (iv x) :: R) S M := by
  obtain ⟨p, l, e, s, m, args, below, meth, c, D, dA, adK, adV, ad⟩ := z
  obtain ⟨hd, rfl⟩ := hd
  intro C H locs ls B
  exact lv_iload C.1 C.2.1 hd (lh_at B.2.2.2 (i := 10) rfl) (kk C H locs ls B)
theorem r_aload_10 {k : MD} {G : List GD} {n : Nat} {post : Option PV → Mem → Prop} {z : ZZ} {pc pc2 : Nat} {S : List PV} {M : Mem} {a0 a1 a2 a3 a4 a5 a6 a7 a8 a9 : Option PV} {R : List (Option PV)} {x : Nat} (hd : Dk k pc (.aload 10) 2 pc2) (kk : WP k G n post z pc2 (a0 :: a1 :: a2 :: a3 :: a4 :: a5 :: a6 :: a7 :: a8 :: a9 :: some (rv x) :: R) (rv x :: S) M) : WP k G n post z pc (a0 :: a1 :: a2 :: a3 :: a4 :: a5 :: a6 :: a7 :: a8 :: a9 :: some (rv x) :: R) S M := by
  obtain ⟨p, l, e, s, m, args, below, meth, c, D, dA, adK, adV, ad⟩ := z
  obtain ⟨hd, rfl⟩ := hd
  intro C H locs ls B
  exact lv_aload C.1 C.2.1 hd (lh_at B.2.2.2 (i := 10) rfl) (kk C H locs ls B)
theorem r_lload_10 {k : MD} {G : List GD} {n : Nat} {post : Option PV → Mem → Prop} {z : ZZ} {pc pc2 : Nat} {S : List PV} {M : Mem} {a0 a1 a2 a3 a4 a5 a6 a7 a8 a9 : Option PV} {R : List (Option PV)} {x : Int} (hd : Dk k pc (.lload 10) 2 pc2) (kk : WP k G n post z pc2 (a0 :: a1 :: a2 :: a3 :: a4 :: a5 :: a6 :: a7 :: a8 :: a9 :: some (jv x) :: R) (jv x :: S) M) : WP k G n post z pc (a0 :: a1 :: a2 :: a3 :: a4 :: a5 :: a6 :: a7 :: a8 :: a9 :: some (jv x) :: R) S M := by
  obtain ⟨p, l, e, s, m, args, below, meth, c, D, dA, adK, adV, ad⟩ := z
  obtain ⟨hd, rfl⟩ := hd
  intro C H locs ls B
  exact lv_lload C.1 C.2.1 hd (lh_at B.2.2.2 (i := 10) rfl) (kk C H locs ls B)
theorem r_istore_10 {k : MD} {G : List GD} {n : Nat} {post : Option PV → Mem → Prop} {z : ZZ} {pc pc2 : Nat} {S : List PV} {M : Mem} {a0 a1 a2 a3 a4 a5 a6 a7 a8 a9 : Option PV} {R : List (Option PV)} {o : Option PV} {x : Int} (hd : Dk k pc (.istore 10) 2 pc2) (hj : nj a9 = true) (kk : WP k G n post z pc2 (a0 :: a1 :: a2 :: a3 :: a4 :: a5 :: a6 :: a7 :: a8 :: a9 :: some (iv x) :: R) S M) : WP k G n post z pc (a0 :: a1 :: a2 :: a3 :: a4 :: a5 :: a6 :: a7 :: a8 :: a9 :: o :: R) (iv x :: S) M := by
  obtain ⟨p, l, e, s, m, args, below, meth, c, D, dA, adK, adV, ad⟩ := z
  obtain ⟨hd, rfl⟩ := hd
  intro C H locs ls B
  have hn : 10 < k.2.2.1 := by have := B.2.2.2.2.1; simp at this; omega
  refine lv_istore C.1 C.2.1 hd (lh_has B.2.2.2) hn rfl (fun ls2 h2 => kk C H locs ls2 ⟨B.1, B.2.1, B.2.2.1, lh_set1 (i := 10) (v := iv x) B.2.2.2 hn (fun w hw => ?_) h2⟩)
  cases hw; exact hj
theorem r_astore_10 {k : MD} {G : List GD} {n : Nat} {post : Option PV → Mem → Prop} {z : ZZ} {pc pc2 : Nat} {S : List PV} {M : Mem} {a0 a1 a2 a3 a4 a5 a6 a7 a8 a9 : Option PV} {R : List (Option PV)} {o : Option PV} {x : Nat} (hd : Dk k pc (.astore 10) 2 pc2) (hj : nj a9 = true) (kk : WP k G n post z pc2 (a0 :: a1 :: a2 :: a3 :: a4 :: a5 :: a6 :: a7 :: a8 :: a9 :: some (rv x) :: R) S M) : WP k G n post z pc (a0 :: a1 :: a2 :: a3 :: a4 :: a5 :: a6 :: a7 :: a8 :: a9 :: o :: R) (rv x :: S) M := by
  obtain ⟨p, l, e, s, m, args, below, meth, c, D, dA, adK, adV, ad⟩ := z
  obtain ⟨hd, rfl⟩ := hd
  intro C H locs ls B
  have hn : 10 < k.2.2.1 := by have := B.2.2.2.2.1; simp at this; omega
  refine lv_astore C.1 C.2.1 hd (lh_has B.2.2.2) hn rfl (fun ls2 h2 => kk C H locs ls2 ⟨B.1, B.2.1, B.2.2.1, lh_set1 (i := 10) (v := rv x) B.2.2.2 hn (fun w hw => ?_) h2⟩)
  cases hw; exact hj
theorem r_lstore_10 {k : MD} {G : List GD} {n : Nat} {post : Option PV → Mem → Prop} {z : ZZ} {pc pc2 : Nat} {S : List PV} {M : Mem} {a0 a1 a2 a3 a4 a5 a6 a7 a8 a9 : Option PV} {R : List (Option PV)} {o1 o2 : Option PV} {x : Int} (hd : Dk k pc (.lstore 10) 2 pc2) (hj : nj a9 = true) (kk : WP k G n post z pc2 (a0 :: a1 :: a2 :: a3 :: a4 :: a5 :: a6 :: a7 :: a8 :: a9 :: some (jv x) :: none :: R) S M) : WP k G n post z pc (a0 :: a1 :: a2 :: a3 :: a4 :: a5 :: a6 :: a7 :: a8 :: a9 :: o1 :: o2 :: R) (jv x :: S) M := by
  obtain ⟨p, l, e, s, m, args, below, meth, c, D, dA, adK, adV, ad⟩ := z
  obtain ⟨hd, rfl⟩ := hd
  intro C H locs ls B
  have hn : 10 + 1 < k.2.2.1 := by have := B.2.2.2.2.1; simp at this; omega
  refine lv_lstore C.1 C.2.1 hd (lh_has B.2.2.2) hn rfl (fun ls2 h2 => kk C H locs ls2 ⟨B.1, B.2.1, B.2.2.1, lh_set2 (i := 10) (v := jv x) B.2.2.2 hn (fun w hw => ?_) h2⟩)
  cases hw; exact hj
theorem r_iinc_10 {k : MD} {G : List GD} {n : Nat} {post : Option PV → Mem → Prop} {z : ZZ} {pc pc2 : Nat} {S : List PV} {M : Mem} {a0 a1 a2 a3 a4 a5 a6 a7 a8 a9 : Option PV} {R : List (Option PV)} {x d : Int} (hd : Dk k pc (.iinc 10 d) 3 pc2) (hj : nj a9 = true) (kk : WP k G n post z pc2 (a0 :: a1 :: a2 :: a3 :: a4 :: a5 :: a6 :: a7 :: a8 :: a9 :: some (iv (x + d)) :: R) S M) : WP k G n post z pc (a0 :: a1 :: a2 :: a3 :: a4 :: a5 :: a6 :: a7 :: a8 :: a9 :: some (iv x) :: R) S M := by
  obtain ⟨p, l, e, s, m, args, below, meth, c, D, dA, adK, adV, ad⟩ := z
  obtain ⟨hd, rfl⟩ := hd
  intro C H locs ls B
  have hn : 10 < k.2.2.1 := by have := B.2.2.2.2.1; simp at this; omega
  obtain ⟨kq, hq⟩ := List.getElem?_of_mem (la_mem (ad := ad) (L := a0 :: a1 :: a2 :: a3 :: a4 :: a5 :: a6 :: a7 :: a8 :: a9 :: some (iv x) :: R) (q := (10, tv ad (iv x))).mpr ⟨iv x, rfl, rfl⟩)
  refine lv_iinc C.1 C.2.1 hd (lh_has B.2.2.2) hq (v := Int32.ofInt (x + d)) (by rw [Int32.ofInt_add]) hn rfl (fun ls2 h2 => kk C H locs ls2 ⟨B.1, B.2.1, B.2.2.1, lh_set1 (i := 10) (v := iv (x + d)) B.2.2.2 hn (fun w hw => ?_) h2⟩)
  cases hw; exact hj
theorem r_iload_11 {k : MD} {G : List GD} {n : Nat} {post : Option PV → Mem → Prop} {z : ZZ} {pc pc2 : Nat} {S : List PV} {M : Mem} {a0 a1 a2 a3 a4 a5 a6 a7 a8 a9 a10 : Option PV} {R : List (Option PV)} {x : Int} (hd : Dk k pc (.iload 11) 2 pc2) (kk : WP k G n post z pc2 (a0 :: a1 :: a2 :: a3 :: a4 :: a5 :: a6 :: a7 :: a8 :: a9 :: a10 :: some (iv x) :: R) (iv x :: S) M) : WP k G n post z pc (a0 :: a1 :: a2 :: a3 :: a4 :: a5 :: a6 :: a7 :: a8 :: a9 :: a10 :: some (iv x) :: R) S M := by
  obtain ⟨p, l, e, s, m, args, below, meth, c, D, dA, adK, adV, ad⟩ := z
  obtain ⟨hd, rfl⟩ := hd
  intro C H locs ls B
  exact lv_iload C.1 C.2.1 hd (lh_at B.2.2.2 (i := 11) rfl) (kk C H locs ls B)
theorem r_aload_11 {k : MD} {G : List GD} {n : Nat} {post : Option PV → Mem → Prop} {z : ZZ} {pc pc2 : Nat} {S : List PV} {M : Mem} {a0 a1 a2 a3 a4 a5 a6 a7 a8 a9 a10 : Option PV} {R : List (Option PV)} {x : Nat} (hd : Dk k pc (.aload 11) 2 pc2) (kk : WP k G n post z pc2 (a0 :: a1 :: a2 :: a3 :: a4 :: a5 :: a6 :: a7 :: a8 :: a9 :: a10 :: some (rv x) :: R) (rv x :: S) M) : WP k G n post z pc (a0 :: a1 :: a2 :: a3 :: a4 :: a5 :: a6 :: a7 :: a8 :: a9 :: a10 :: some (rv x) :: R) S M := by
  obtain ⟨p, l, e, s, m, args, below, meth, c, D, dA, adK, adV, ad⟩ := z
  obtain ⟨hd, rfl⟩ := hd
  intro C H locs ls B
  exact lv_aload C.1 C.2.1 hd (lh_at B.2.2.2 (i := 11) rfl) (kk C H locs ls B)
theorem r_lload_11 {k : MD} {G : List GD} {n : Nat} {post : Option PV → Mem → Prop} {z : ZZ} {pc pc2 : Nat} {S : List PV} {M : Mem} {a0 a1 a2 a3 a4 a5 a6 a7 a8 a9 a10 : Option PV} {R : List (Option PV)} {x : Int} (hd : Dk k pc (.lload 11) 2 pc2) (kk : WP k G n post z pc2 (a0 :: a1 :: a2 :: a3 :: a4 :: a5 :: a6 :: a7 :: a8 :: a9 :: a10 :: some (jv x) :: R) (jv x :: S) M) : WP k G n post z pc (a0 :: a1 :: a2 :: a3 :: a4 :: a5 :: a6 :: a7 :: a8 :: a9 :: a10 :: some (jv x) :: R) S M := by
  obtain ⟨p, l, e, s, m, args, below, meth, c, D, dA, adK, adV, ad⟩ := z
  obtain ⟨hd, rfl⟩ := hd
  intro C H locs ls B
  exact lv_lload C.1 C.2.1 hd (lh_at B.2.2.2 (i := 11) rfl) (kk C H locs ls B)
theorem r_istore_11 {k : MD} {G : List GD} {n : Nat} {post : Option PV → Mem → Prop} {z : ZZ} {pc pc2 : Nat} {S : List PV} {M : Mem} {a0 a1 a2 a3 a4 a5 a6 a7 a8 a9 a10 : Option PV} {R : List (Option PV)} {o : Option PV} {x : Int} (hd : Dk k pc (.istore 11) 2 pc2) (hj : nj a10 = true) (kk : WP k G n post z pc2 (a0 :: a1 :: a2 :: a3 :: a4 :: a5 :: a6 :: a7 :: a8 :: a9 :: a10 :: some (iv x) :: R) S M) : WP k G n post z pc (a0 :: a1 :: a2 :: a3 :: a4 :: a5 :: a6 :: a7 :: a8 :: a9 :: a10 :: o :: R) (iv x :: S) M := by
  obtain ⟨p, l, e, s, m, args, below, meth, c, D, dA, adK, adV, ad⟩ := z
  obtain ⟨hd, rfl⟩ := hd
  intro C H locs ls B
  have hn : 11 < k.2.2.1 := by have := B.2.2.2.2.1; simp at this; omega
  refine lv_istore C.1 C.2.1 hd (lh_has B.2.2.2) hn rfl (fun ls2 h2 => kk C H locs ls2 ⟨B.1, B.2.1, B.2.2.1, lh_set1 (i := 11) (v := iv x) B.2.2.2 hn (fun w hw => ?_) h2⟩)
  cases hw; exact hj
theorem r_astore_11 {k : MD} {G : List GD} {n : Nat} {post : Option PV → Mem → Prop} {z : ZZ} {pc pc2 : Nat} {S : List PV} {M : Mem} {a0 a1 a2 a3 a4 a5 a6 a7 a8 a9 a10 : Option PV} {R : List (Option PV)} {o : Option PV} {x : Nat} (hd : Dk k pc (.astore 11) 2 pc2) (hj : nj a10 = true) (kk : WP k G n post z pc2 (a0 :: a1 :: a2 :: a3 :: a4 :: a5 :: a6 :: a7 :: a8 :: a9 :: a10 :: some (rv x) :: R) S M) : WP k G n post z pc (a0 :: a1 :: a2 :: a3 :: a4 :: a5 :: a6 :: a7 :: a8 :: a9 :: a10 :: o :: R) (rv x :: S) M := by
  obtain ⟨p, l, e, s, m, args, below, meth, c, D, dA, adK, adV, ad⟩ := z
  obtain ⟨hd, rfl⟩ := hd
  intro C H locs ls B
  have hn : 11 < k.2.2.1 := by have := B.2.2.2.2.1; simp at this; omega
  refine lv_astore C.1 C.2.1 hd (lh_has B.2.2.2) hn rfl (fun ls2 h2 => kk C H locs ls2 ⟨B.1, B.2.1, B.2.2.1, lh_set1 (i := 11) (v := rv x) B.2.2.2 hn (fun w hw => ?_) h2⟩)
  cases hw; exact hj
theorem r_lstore_11 {k : MD} {G : List GD} {n : Nat} {post : Option PV → Mem → Prop} {z : ZZ} {pc pc2 : Nat} {S : List PV} {M : Mem} {a0 a1 a2 a3 a4 a5 a6 a7 a8 a9 a10 : Option PV} {R : List (Option PV)} {o1 o2 : Option PV} {x : Int} (hd : Dk k pc (.lstore 11) 2 pc2) (hj : nj a10 = true) (kk : WP k G n post z pc2 (a0 :: a1 :: a2 :: a3 :: a4 :: a5 :: a6 :: a7 :: a8 :: a9 :: a10 :: some (jv x) :: none :: R) S M) : WP k G n post z pc (a0 :: a1 :: a2 :: a3 :: a4 :: a5 :: a6 :: a7 :: a8 :: a9 :: a10 :: o1 :: o2 :: R) (jv x :: S) M := by
  obtain ⟨p, l, e, s, m, args, below, meth, c, D, dA, adK, adV, ad⟩ := z
  obtain ⟨hd, rfl⟩ := hd
  intro C H locs ls B
  have hn : 11 + 1 < k.2.2.1 := by have := B.2.2.2.2.1; simp at this; omega
  refine lv_lstore C.1 C.2.1 hd (lh_has B.2.2.2) hn rfl (fun ls2 h2 => kk C H locs ls2 ⟨B.1, B.2.1, B.2.2.1, lh_set2 (i := 11) (v := jv x) B.2.2.2 hn (fun w hw => ?_) h2⟩)
  cases hw; exact hj
theorem r_iinc_11 {k : MD} {G : List GD} {n : Nat} {post : Option PV → Mem → Prop} {z : ZZ} {pc pc2 : Nat} {S : List PV} {M : Mem} {a0 a1 a2 a3 a4 a5 a6 a7 a8 a9 a10 : Option PV} {R : List (Option PV)} {x d : Int} (hd : Dk k pc (.iinc 11 d) 3 pc2) (hj : nj a10 = true) (kk : WP k G n post z pc2 (a0 :: a1 :: a2 :: a3 :: a4 :: a5 :: a6 :: a7 :: a8 :: a9 :: a10 :: some (iv (x + d)) :: R) S M) : WP k G n post z pc (a0 :: a1 :: a2 :: a3 :: a4 :: a5 :: a6 :: a7 :: a8 :: a9 :: a10 :: some (iv x) :: R) S M := by
  obtain ⟨p, l, e, s, m, args, below, meth, c, D, dA, adK, adV, ad⟩ := z
  obtain ⟨hd, rfl⟩ := hd
  intro C H locs ls B
  have hn : 11 < k.2.2.1 := by have := B.2.2.2.2.1; simp at this; omega
  obtain ⟨kq, hq⟩ := List.getElem?_of_mem (la_mem (ad := ad) (L := a0 :: a1 :: a2 :: a3 :: a4 :: a5 :: a6 :: a7 :: a8 :: a9 :: a10 :: some (iv x) :: R) (q := (11, tv ad (iv x))).mpr ⟨iv x, rfl, rfl⟩)
  refine lv_iinc C.1 C.2.1 hd (lh_has B.2.2.2) hq (v := Int32.ofInt (x + d)) (by rw [Int32.ofInt_add]) hn rfl (fun ls2 h2 => kk C H locs ls2 ⟨B.1, B.2.1, B.2.2.1, lh_set1 (i := 11) (v := iv (x + d)) B.2.2.2 hn (fun w hw => ?_) h2⟩)
  cases hw; exact hj
theorem r_iload_12 {k : MD} {G : List GD} {n : Nat} {post : Option PV → Mem → Prop} {z : ZZ} {pc pc2 : Nat} {S : List PV} {M : Mem} {a0 a1 a2 a3 a4 a5 a6 a7 a8 a9 a10 a11 : Option PV} {R : List (Option PV)} {x : Int} (hd : Dk k pc (.iload 12) 2 pc2) (kk : WP k G n post z pc2 (a0 :: a1 :: a2 :: a3 :: a4 :: a5 :: a6 :: a7 :: a8 :: a9 :: a10 :: a11 :: some (iv x) :: R) (iv x :: S) M) : WP k G n post z pc (a0 :: a1 :: a2 :: a3 :: a4 :: a5 :: a6 :: a7 :: a8 :: a9 :: a10 :: a11 :: some (iv x) :: R) S M := by
  obtain ⟨p, l, e, s, m, args, below, meth, c, D, dA, adK, adV, ad⟩ := z
  obtain ⟨hd, rfl⟩ := hd
  intro C H locs ls B
  exact lv_iload C.1 C.2.1 hd (lh_at B.2.2.2 (i := 12) rfl) (kk C H locs ls B)
theorem r_aload_12 {k : MD} {G : List GD} {n : Nat} {post : Option PV → Mem → Prop} {z : ZZ} {pc pc2 : Nat} {S : List PV} {M : Mem} {a0 a1 a2 a3 a4 a5 a6 a7 a8 a9 a10 a11 : Option PV} {R : List (Option PV)} {x : Nat} (hd : Dk k pc (.aload 12) 2 pc2) (kk : WP k G n post z pc2 (a0 :: a1 :: a2 :: a3 :: a4 :: a5 :: a6 :: a7 :: a8 :: a9 :: a10 :: a11 :: some (rv x) :: R) (rv x :: S) M) : WP k G n post z pc (a0 :: a1 :: a2 :: a3 :: a4 :: a5 :: a6 :: a7 :: a8 :: a9 :: a10 :: a11 :: some (rv x) :: R) S M := by
  obtain ⟨p, l, e, s, m, args, below, meth, c, D, dA, adK, adV, ad⟩ := z
  obtain ⟨hd, rfl⟩ := hd
  intro C H locs ls B
  exact lv_aload C.1 C.2.1 hd (lh_at B.2.2.2 (i := 12) rfl) (kk C H locs ls B)
theorem r_lload_12 {k : MD} {G : List GD} {n : Nat} {post : Option PV → Mem → Prop} {z : ZZ} {pc pc2 : Nat} {S : List PV} {M : Mem} {a0 a1 a2 a3 a4 a5 a6 a7 a8 a9 a10 a11 : Option PV} {R : List (Option PV)} {x : Int} (hd : Dk k pc (.lload 12) 2 pc2) (kk : WP k G n post z pc2 (a0 :: a1 :: a2 :: a3 :: a4 :: a5 :: a6 :: a7 :: a8 :: a9 :: a10 :: a11 :: some (jv x) :: R) (jv x :: S) M) : WP k G n post z pc (a0 :: a1 :: a2 :: a3 :: a4 :: a5 :: a6 :: a7 :: a8 :: a9 :: a10 :: a11 :: some (jv x) :: R) S M := by
  obtain ⟨p, l, e, s, m, args, below, meth, c, D, dA, adK, adV, ad⟩ := z
  obtain ⟨hd, rfl⟩ := hd
  intro C H locs ls B
  exact lv_lload C.1 C.2.1 hd (lh_at B.2.2.2 (i := 12) rfl) (kk C H locs ls B)
theorem r_istore_12 {k : MD} {G : List GD} {n : Nat} {post : Option PV → Mem → Prop} {z : ZZ} {pc pc2 : Nat} {S : List PV} {M : Mem} {a0 a1 a2 a3 a4 a5 a6 a7 a8 a9 a10 a11 : Option PV} {R : List (Option PV)} {o : Option PV} {x : Int} (hd : Dk k pc (.istore 12) 2 pc2) (hj : nj a11 = true) (kk : WP k G n post z pc2 (a0 :: a1 :: a2 :: a3 :: a4 :: a5 :: a6 :: a7 :: a8 :: a9 :: a10 :: a11 :: some (iv x) :: R) S M) : WP k G n post z pc (a0 :: a1 :: a2 :: a3 :: a4 :: a5 :: a6 :: a7 :: a8 :: a9 :: a10 :: a11 :: o :: R) (iv x :: S) M := by
  obtain ⟨p, l, e, s, m, args, below, meth, c, D, dA, adK, adV, ad⟩ := z
  obtain ⟨hd, rfl⟩ := hd
  intro C H locs ls B
  have hn : 12 < k.2.2.1 := by have := B.2.2.2.2.1; simp at this; omega
  refine lv_istore C.1 C.2.1 hd (lh_has B.2.2.2) hn rfl (fun ls2 h2 => kk C H locs ls2 ⟨B.1, B.2.1, B.2.2.1, lh_set1 (i := 12) (v := iv x) B.2.2.2 hn (fun w hw => ?_) h2⟩)
  cases hw; exact hj
theorem r_astore_12 {k : MD} {G : List GD} {n : Nat} {post : Option PV → Mem → Prop} {z : ZZ} {pc pc2 : Nat} {S : List PV} {M : Mem} {a0 a1 a2 a3 a4 a5 a6 a7 a8 a9 a10 a11 : Option PV} {R : List (Option PV)} {o : Option PV} {x : Nat} (hd : Dk k pc (.astore 12) 2 pc2) (hj : nj a11 = true) (kk : WP k G n post z pc2 (a0 :: a1 :: a2 :: a3 :: a4 :: a5 :: a6 :: a7 :: a8 :: a9 :: a10 :: a11 :: some (rv x) :: R) S M) : WP k G n post z pc (a0 :: a1 :: a2 :: a3 :: a4 :: a5 :: a6 :: a7 :: a8 :: a9 :: a10 :: a11 :: o :: R) (rv x :: S) M := by
  obtain ⟨p, l, e, s, m, args, below, meth, c, D, dA, adK, adV, ad⟩ := z
  obtain ⟨hd, rfl⟩ := hd
  intro C H locs ls B
  have hn : 12 < k.2.2.1 := by have := B.2.2.2.2.1; simp at this; omega
  refine lv_astore C.1 C.2.1 hd (lh_has B.2.2.2) hn rfl (fun ls2 h2 => kk C H locs ls2 ⟨B.1, B.2.1, B.2.2.1, lh_set1 (i := 12) (v := rv x) B.2.2.2 hn (fun w hw => ?_) h2⟩)
  cases hw; exact hj
theorem r_lstore_12 {k : MD} {G : List GD} {n : Nat} {post : Option PV → Mem → Prop} {z : ZZ} {pc pc2 : Nat} {S : List PV} {M : Mem} {a0 a1 a2 a3 a4 a5 a6 a7 a8 a9 a10 a11 : Option PV} {R : List (Option PV)} {o1 o2 : Option PV} {x : Int} (hd : Dk k pc (.lstore 12) 2 pc2) (hj : nj a11 = true) (kk : WP k G n post z pc2 (a0 :: a1 :: a2 :: a3 :: a4 :: a5 :: a6 :: a7 :: a8 :: a9 :: a10 :: a11 :: some (jv x) :: none :: R) S M) : WP k G n post z pc (a0 :: a1 :: a2 :: a3 :: a4 :: a5 :: a6 :: a7 :: a8 :: a9 :: a10 :: a11 :: o1 :: o2 :: R) (jv x :: S) M := by
  obtain ⟨p, l, e, s, m, args, below, meth, c, D, dA, adK, adV, ad⟩ := z
  obtain ⟨hd, rfl⟩ := hd
  intro C H locs ls B
  have hn : 12 + 1 < k.2.2.1 := by have := B.2.2.2.2.1; simp at this; omega
  refine lv_lstore C.1 C.2.1 hd (lh_has B.2.2.2) hn rfl (fun ls2 h2 => kk C H locs ls2 ⟨B.1, B.2.1, B.2.2.1, lh_set2 (i := 12) (v := jv x) B.2.2.2 hn (fun w hw => ?_) h2⟩)
  cases hw; exact hj
theorem r_iinc_12 {k : MD} {G : List GD} {n : Nat} {post : Option PV → Mem → Prop} {z : ZZ} {pc pc2 : Nat} {S : List PV} {M : Mem} {a0 a1 a2 a3 a4 a5 a6 a7 a8 a9 a10 a11 : Option PV} {R : List (Option PV)} {x d : Int} (hd : Dk k pc (.iinc 12 d) 3 pc2) (hj : nj a11 = true) (kk : WP k G n post z pc2 (a0 :: a1 :: a2 :: a3 :: a4 :: a5 :: a6 :: a7 :: a8 :: a9 :: a10 :: a11 :: some (iv (x + d)) :: R) S M) : WP k G n post z pc (a0 :: a1 :: a2 :: a3 :: a4 :: a5 :: a6 :: a7 :: a8 :: a9 :: a10 :: a11 :: some (iv x) :: R) S M := by
  obtain ⟨p, l, e, s, m, args, below, meth, c, D, dA, adK, adV, ad⟩ := z
  obtain ⟨hd, rfl⟩ := hd
  intro C H locs ls B
  have hn : 12 < k.2.2.1 := by have := B.2.2.2.2.1; simp at this; omega
  obtain ⟨kq, hq⟩ := List.getElem?_of_mem (la_mem (ad := ad) (L := a0 :: a1 :: a2 :: a3 :: a4 :: a5 :: a6 :: a7 :: a8 :: a9 :: a10 :: a11 :: some (iv x) :: R) (q := (12, tv ad (iv x))).mpr ⟨iv x, rfl, rfl⟩)
  refine lv_iinc C.1 C.2.1 hd (lh_has B.2.2.2) hq (v := Int32.ofInt (x + d)) (by rw [Int32.ofInt_add]) hn rfl (fun ls2 h2 => kk C H locs ls2 ⟨B.1, B.2.1, B.2.2.1, lh_set1 (i := 12) (v := iv (x + d)) B.2.2.2 hn (fun w hw => ?_) h2⟩)
  cases hw; exact hj
theorem r_iload_13 {k : MD} {G : List GD} {n : Nat} {post : Option PV → Mem → Prop} {z : ZZ} {pc pc2 : Nat} {S : List PV} {M : Mem} {a0 a1 a2 a3 a4 a5 a6 a7 a8 a9 a10 a11 a12 : Option PV} {R : List (Option PV)} {x : Int} (hd : Dk k pc (.iload 13) 2 pc2) (kk : WP k G n post z pc2 (a0 :: a1 :: a2 :: a3 :: a4 :: a5 :: a6 :: a7 :: a8 :: a9 :: a10 :: a11 :: a12 :: some (iv x) :: R) (iv x :: S) M) : WP k G n post z pc (a0 :: a1 :: a2 :: a3 :: a4 :: a5 :: a6 :: a7 :: a8 :: a9 :: a10 :: a11 :: a12 :: some (iv x) :: R) S M := by
  obtain ⟨p, l, e, s, m, args, below, meth, c, D, dA, adK, adV, ad⟩ := z
  obtain ⟨hd, rfl⟩ := hd
  intro C H locs ls B
  exact lv_iload C.1 C.2.1 hd (lh_at B.2.2.2 (i := 13) rfl) (kk C H locs ls B)
theorem r_aload_13 {k : MD} {G : List GD} {n : Nat} {post : Option PV → Mem → Prop} {z : ZZ} {pc pc2 : Nat} {S : List PV} {M : Mem} {a0 a1 a2 a3 a4 a5 a6 a7 a8 a9 a10 a11 a12 : Option PV} {R : List (Option PV)} {x : Nat} (hd : Dk k pc (.aload 13) 2 pc2) (kk : WP k G n post z pc2 (a0 :: a1 :: a2 :: a3 :: a4 :: a5 :: a6 :: a7 :: a8 :: a9 :: a10 :: a11 :: a12 :: some (rv x) :: R) (rv x :: S) M) : WP k G n post z pc (a0 :: a1 :: a2 :: a3 :: a4 :: a5 :: a6 :: a7 :: a8 :: a9 :: a10 :: a11 :: a12 :: some (rv x) :: R) S M := by
  obtain ⟨p, l, e, s, m, args, below, meth, c, D, dA, adK, adV, ad⟩ := z
  obtain ⟨hd, rfl⟩ := hd
  intro C H locs ls B
  exact lv_aload C.1 C.2.1 hd (lh_at B.2.2.2 (i := 13) rfl) (kk C H locs ls B)
theorem r_lload_13 {k : MD} {G : List GD} {n : Nat} {post : Option PV → Mem → Prop} {z : ZZ} {pc pc2 : Nat} {S : List PV} {M : Mem} {a0 a1 a2 a3 a4 a5 a6 a7 a8 a9 a10 a11 a12 : Option PV} {R : List (Option PV)} {x : Int} (hd : Dk k pc (.lload 13) 2 pc2) (kk : WP k G n post z pc2 (a0 :: a1 :: a2 :: a3 :: a4 :: a5 :: a6 :: a7 :: a8 :: a9 :: a10 :: a11 :: a12 :: some (jv x) :: R) (jv x :: S) M) : WP k G n post z pc (a0 :: a1 :: a2 :: a3 :: a4 :: a5 :: a6 :: a7 :: a8 :: a9 :: a10 :: a11 :: a12 :: some (jv x) :: R) S M := by
  obtain ⟨p, l, e, s, m, args, below, meth, c, D, dA, adK, adV, ad⟩ := z
  obtain ⟨hd, rfl⟩ := hd
  intro C H locs ls B
  exact lv_lload C.1 C.2.1 hd (lh_at B.2.2.2 (i := 13) rfl) (kk C H locs ls B)
theorem r_istore_13 {k : MD} {G : List GD} {n : Nat} {post : Option PV → Mem → Prop} {z : ZZ} {pc pc2 : Nat} {S : List PV} {M : Mem} {a0 a1 a2 a3 a4 a5 a6 a7 a8 a9 a10 a11 a12 : Option PV} {R : List (Option PV)} {o : Option PV} {x : Int} (hd : Dk k pc (.istore 13) 2 pc2) (hj : nj a12 = true) (kk : WP k G n post z pc2 (a0 :: a1 :: a2 :: a3 :: a4 :: a5 :: a6 :: a7 :: a8 :: a9 :: a10 :: a11 :: a12 :: some (iv x) :: R) S M) : WP k G n post z pc (a0 :: a1 :: a2 :: a3 :: a4 :: a5 :: a6 :: a7 :: a8 :: a9 :: a10 :: a11 :: a12 :: o :: R) (iv x :: S) M := by
  obtain ⟨p, l, e, s, m, args, below, meth, c, D, dA, adK, adV, ad⟩ := z
  obtain ⟨hd, rfl⟩ := hd
  intro C H locs ls B
  have hn : 13 < k.2.2.1 := by have := B.2.2.2.2.1; simp at this; omega
  refine lv_istore C.1 C.2.1 hd (lh_has B.2.2.2) hn rfl (fun ls2 h2 => kk C H locs ls2 ⟨B.1, B.2.1, B.2.2.1, lh_set1 (i := 13) (v := iv x) B.2.2.2 hn (fun w hw => ?_) h2⟩)
  cases hw; exact hj
theorem r_astore_13 {k : MD} {G : List GD} {n : Nat} {post : Option PV → Mem → Prop} {z : ZZ} {pc pc2 : Nat} {S : List PV} {M : Mem} {a0 a1 a2 a3 a4 a5 a6 a7 a8 a9 a10 a11 a12 : Option PV} {R : List (Option PV)} {o : Option PV} {x : Nat} (hd : Dk k pc (.astore 13) 2 pc2) (hj : nj a12 = true) (kk : WP k G n post z pc2 (a0 :: a1 :: a2 :: a3 :: a4 :: a5 :: a6 :: a7 :: a8 :: a9 :: a10 :: a11 :: a12 :: some (rv x) :: R) S M) : WP k G n post z pc (a0 :: a1 :: a2 :: a3 :: a4 :: a5 :: a6 :: a7 :: a8 :: a9 :: a10 :: a11 :: a12 :: o :: R) (rv x :: S) M := by
  obtain ⟨p, l, e, s, m, args, below, meth, c, D, dA, adK, adV, ad⟩ := z
  obtain ⟨hd, rfl⟩ := hd
  intro C H locs ls B
  have hn : 13 < k.2.2.1 := by have := B.2.2.2.2.1; simp at this; omega
  refine lv_astore C.1 C.2.1 hd (lh_has B.2.2.2) hn rfl (fun ls2 h2 => kk C H locs ls2 ⟨B.1, B.2.1, B.2.2.1, lh_set1 (i := 13) (v := rv x) B.2.2.2 hn (fun w hw => ?_) h2⟩)
  cases hw; exact hj
theorem r_lstore_13 {k : MD} {G : List GD} {n : Nat} {post : Option PV → Mem → Prop} {z : ZZ} {pc pc2 : Nat} {S : List PV} {M : Mem} {a0 a1 a2 a3 a4 a5 a6 a7 a8 a9 a10 a11 a12 : Option PV} {R : List (Option PV)} {o1 o2 : Option PV} {x : Int} (hd : Dk k pc (.lstore 13) 2 pc2) (hj : nj a12 = true) (kk : WP k G n post z pc2 (a0 :: a1 :: a2 :: a3 :: a4 :: a5 :: a6 :: a7 :: a8 :: a9 :: a10 :: a11 :: a12 :: some (jv x) :: none :: R) S M) : WP k G n post z pc (a0 :: a1 :: a2 :: a3 :: a4 :: a5 :: a6 :: a7 :: a8 :: a9 :: a10 :: a11 :: a12 :: o1 :: o2 :: R) (jv x :: S) M := by
  obtain ⟨p, l, e, s, m, args, below, meth, c, D, dA, adK, adV, ad⟩ := z
  obtain ⟨hd, rfl⟩ := hd
  intro C H locs ls B
  have hn : 13 + 1 < k.2.2.1 := by have := B.2.2.2.2.1; simp at this; omega
  refine lv_lstore C.1 C.2.1 hd (lh_has B.2.2.2) hn rfl (fun ls2 h2 => kk C H locs ls2 ⟨B.1, B.2.1, B.2.2.1, lh_set2 (i := 13) (v := jv x) B.2.2.2 hn (fun w hw => ?_) h2⟩)
  cases hw; exact hj
theorem r_iinc_13 {k : MD} {G : List GD} {n : Nat} {post : Option PV → Mem → Prop} {z : ZZ} {pc pc2 : Nat} {S : List PV} {M : Mem} {a0 a1 a2 a3 a4 a5 a6 a7 a8 a9 a10 a11 a12 : Option PV} {R : List (Option PV)} {x d : Int} (hd : Dk k pc (.iinc 13 d) 3 pc2) (hj : nj a12 = true) (kk : WP k G n post z pc2 (a0 :: a1 :: a2 :: a3 :: a4 :: a5 :: a6 :: a7 :: a8 :: a9 :: a10 :: a11 :: a12 :: some (iv (x + d)) :: R) S M) : WP k G n post z pc (a0 :: a1 :: a2 :: a3 :: a4 :: a5 :: a6 :: a7 :: a8 :: a9 :: a10 :: a11 :: a12 :: some (iv x) :: R) S M := by
  obtain ⟨p, l, e, s, m, args, below, meth, c, D, dA, adK, adV, ad⟩ := z
  obtain ⟨hd, rfl⟩ := hd
  intro C H locs ls B
  have hn : 13 < k.2.2.1 := by have := B.2.2.2.2.1; simp at this; omega
  obtain ⟨kq, hq⟩ := List.getElem?_of_mem (la_mem (ad := ad) (L := a0 :: a1 :: a2 :: a3 :: a4 :: a5 :: a6 :: a7 :: a8 :: a9 :: a10 :: a11 :: a12 :: some (iv x) :: R) (q := (13, tv ad (iv x))).mpr ⟨iv x, rfl, rfl⟩)
  refine lv_iinc C.1 C.2.1 hd (lh_has B.2.2.2) hq (v := Int32.ofInt (x + d)) (by rw [Int32.ofInt_add]) hn rfl (fun ls2 h2 => kk C H locs ls2 ⟨B.1, B.2.1, B.2.2.1, lh_set1 (i := 13) (v := iv (x + d)) B.2.2.2 hn (fun w hw => ?_) h2⟩)
  cases hw; exact hj
theorem r_iload_14 {k : MD} {G : List GD} {n : Nat} {post : Option PV → Mem → Prop} {z : ZZ} {pc pc2 : Nat} {S : List PV} {M : Mem} {a0 a1 a2 a3 a4 a5 a6 a7 a8 a9 a10 a11 a12 a13 : Option PV} {R : List (Option PV)} {x : Int} (hd : Dk k pc (.iload 14) 2 pc2) (kk : WP k G n post z pc2 (a0 :: a1 :: a2 :: a3 :: a4 :: a5 :: a6 :: a7 :: a8 :: a9 :: a10 :: a11 :: a12 :: a13 :: some (iv x) :: R) (iv x :: S) M) : WP k G n post z pc (a0 :: a1 :: a2 :: a3 :: a4 :: a5 :: a6 :: a7 :: a8 :: a9 :: a10 :: a11 :: a12 :: a13 :: some (iv x) :: R) S M := by
  obtain ⟨p, l, e, s, m, args, below, meth, c, D, dA, adK, adV, ad⟩ := z
  obtain ⟨hd, rfl⟩ := hd
  intro C H locs ls B
  exact lv_iload C.1 C.2.1 hd (lh_at B.2.2.2 (i := 14) rfl) (kk C H locs ls B)
theorem r_aload_14 {k : MD} {G : List GD} {n : Nat} {post : Option PV → Mem → Prop} {z : ZZ} {pc pc2 : Nat} {S : List PV} {M : Mem} {a0 a1 a2 a3 a4 a5 a6 a7 a8 a9 a10 a11 a12 a13 : Option PV} {R : List (Option PV)} {x : Nat} (hd : Dk k pc (.aload 14) 2 pc2) (kk : WP k G n post z pc2 (a0 :: a1 :: a2 :: a3 :: a4 :: a5 :: a6 :: a7 :: a8 :: a9 :: a10 :: a11 :: a12 :: a13 :: some (rv x) :: R) (rv x :: S) M) : WP k G n post z pc (a0 :: a1 :: a2 :: a3 :: a4 :: a5 :: a6 :: a7 :: a8 :: a9 :: a10 :: a11 :: a12 :: a13 :: some (rv x) :: R) S M := by
  obtain ⟨p, l, e, s, m, args, below, meth, c, D, dA, adK, adV, ad⟩ := z
  obtain ⟨hd, rfl⟩ := hd
  intro C H locs ls B
  exact lv_aload C.1 C.2.1 hd (lh_at B.2.2.2 (i := 14) rfl) (kk C H locs ls B)
theorem r_lload_14 {k : MD} {G : List GD} {n : Nat} {post : Option PV → Mem → Prop} {z : ZZ} {pc pc2 : Nat} {S : List PV} {M : Mem} {a0 a1 a2 a3 a4 a5 a6 a7 a8 a9 a10 a11 a12 a13 : Option PV} {R : List (Option PV)} {x : Int} (hd : Dk k pc (.lload 14) 2 pc2) (kk : WP k G n post z pc2 (a0 :: a1 :: a2 :: a3 :: a4 :: a5 :: a6 :: a7 :: a8 :: a9 :: a10 :: a11 :: a12 :: a13 :: some (jv x) :: R) (jv x :: S) M) : WP k G n post z pc (a0 :: a1 :: a2 :: a3 :: a4 :: a5 :: a6 :: a7 :: a8 :: a9 :: a10 :: a11 :: a12 :: a13 :: some (jv x) :: R) S M := by
  obtain ⟨p, l, e, s, m, args, below, meth, c, D, dA, adK, adV, ad⟩ := z
  obtain ⟨hd, rfl⟩ := hd
  intro C H locs ls B
  exact lv_lload C.1 C.2.1 hd (lh_at B.2.2.2 (i := 14) rfl) (kk C H locs ls B)
theorem r_istore_14 {k : MD} {G : List GD} {n : Nat} {post : Option PV → Mem → Prop} {z : ZZ} {pc pc2 : Nat} {S : List PV} {M : Mem} {a0 a1 a2 a3 a4 a5 a6 a7 a8 a9 a10 a11 a12 a13 : Option PV} {R : List (Option PV)} {o : Option PV} {x : Int} (hd : Dk k pc (.istore 14) 2 pc2) (hj : nj a13 = true) (kk : WP k G n post z pc2 (a0 :: a1 :: a2 :: a3 :: a4 :: a5 :: a6 :: a7 :: a8 :: a9 :: a10 :: a11 :: a12 :: a13 :: some (iv x) :: R) S M) : WP k G n post z pc (a0 :: a1 :: a2 :: a3 :: a4 :: a5 :: a6 :: a7 :: a8 :: a9 :: a10 :: a11 :: a12 :: a13 :: o :: R) (iv x :: S) M := by
  obtain ⟨p, l, e, s, m, args, below, meth, c, D, dA, adK, adV, ad⟩ := z
  obtain ⟨hd, rfl⟩ := hd
  intro C H locs ls B
  have hn : 14 < k.2.2.1 := by have := B.2.2.2.2.1; simp at this; omega
  refine lv_istore C.1 C.2.1 hd (lh_has B.2.2.2) hn rfl (fun ls2 h2 => kk C H locs ls2 ⟨B.1, B.2.1, B.2.2.1, lh_set1 (i := 14) (v := iv x) B.2.2.2 hn (fun w hw => ?_) h2⟩)
  cases hw; exact hj
theorem r_astore_14 {k : MD} {G : List GD} {n : Nat} {post : Option PV → Mem → Prop} {z : ZZ} {pc pc2 : Nat} {S : List PV} {M : Mem} {a0 a1 a2 a3 a4 a5 a6 a7 a8 a9 a10 a11 a12 a13 : Option PV} {R : List (Option PV)} {o : Option PV} {x : Nat} (hd : Dk k pc (.astore 14) 2 pc2) (hj : nj a13 = true) (kk : WP k G n post z pc2 (a0 :: a1 :: a2 :: a3 :: a4 :: a5 :: a6 :: a7 :: a8 :: a9 :: a10 :: a11 :: a12 :: a13 :: some (rv x) :: R) S M) : WP k G n post z pc (a0 :: a1 :: a2 :: a3 :: a4 :: a5 :: a6 :: a7 :: a8 :: a9 :: a10 :: a11 :: a12 :: a13 :: o :: R) (rv x :: S) M := by
  obtain ⟨p, l, e, s, m, args, below, meth, c, D, dA, adK, adV, ad⟩ := z
  obtain ⟨hd, rfl⟩ := hd
  intro C H locs ls B
  have hn : 14 < k.2.2.1 := by have := B.2.2.2.2.1; simp at this; omega
  refine lv_astore C.1 C.2.1 hd (lh_has B.2.2.2) hn rfl (fun ls2 h2 => kk C H locs ls2 ⟨B.1, B.2.1, B.2.2.1, lh_set1 (i := 14) (v := rv x) B.2.2.2 hn (fun w hw => ?_) h2⟩)
  cases hw; exact hj
theorem r_lstore_14 {k : MD} {G : List GD} {n : Nat} {post : Option PV → Mem → Prop} {z : ZZ} {pc pc2 : Nat} {S : List PV} {M : Mem} {a0 a1 a2 a3 a4 a5 a6 a7 a8 a9 a10 a11 a12 a13 : Option PV} {R : List (Option PV)} {o1 o2 : Option PV} {x : Int} (hd : Dk k pc (.lstore 14) 2 pc2) (hj : nj a13 = true) (kk : WP k G n post z pc2 (a0 :: a1 :: a2 :: a3 :: a4 :: a5 :: a6 :: a7 :: a8 :: a9 :: a10 :: a11 :: a12 :: a13 :: some (jv x) :: none :: R) S M) : WP k G n post z pc (a0 :: a1 :: a2 :: a3 :: a4 :: a5 :: a6 :: a7 :: a8 :: a9 :: a10 :: a11 :: a12 :: a13 :: o1 :: o2 :: R) (jv x :: S) M := by
  obtain ⟨p, l, e, s, m, args, below, meth, c, D, dA, adK, adV, ad⟩ := z
  obtain ⟨hd, rfl⟩ := hd
  intro C H locs ls B
  have hn : 14 + 1 < k.2.2.1 := by have := B.2.2.2.2.1; simp at this; omega
  refine lv_lstore C.1 C.2.1 hd (lh_has B.2.2.2) hn rfl (fun ls2 h2 => kk C H locs ls2 ⟨B.1, B.2.1, B.2.2.1, lh_set2 (i := 14) (v := jv x) B.2.2.2 hn (fun w hw => ?_) h2⟩)
  cases hw; exact hj
theorem r_iinc_14 {k : MD} {G : List GD} {n : Nat} {post : Option PV → Mem → Prop} {z : ZZ} {pc pc2 : Nat} {S : List PV} {M : Mem} {a0 a1 a2 a3 a4 a5 a6 a7 a8 a9 a10 a11 a12 a13 : Option PV} {R : List (Option PV)} {x d : Int} (hd : Dk k pc (.iinc 14 d) 3 pc2) (hj : nj a13 = true) (kk : WP k G n post z pc2 (a0 :: a1 :: a2 :: a3 :: a4 :: a5 :: a6 :: a7 :: a8 :: a9 :: a10 :: a11 :: a12 :: a13 :: some (iv (x + d)) :: R) S M) : WP k G n post z pc (a0 :: a1 :: a2 :: a3 :: a4 :: a5 :: a6 :: a7 :: a8 :: a9 :: a10 :: a11 :: a12 :: a13 :: some (iv x) :: R) S M := by
  obtain ⟨p, l, e, s, m, args, below, meth, c, D, dA, adK, adV, ad⟩ := z
  obtain ⟨hd, rfl⟩ := hd
  intro C H locs ls B
  have hn : 14 < k.2.2.1 := by have := B.2.2.2.2.1; simp at this; omega
  obtain ⟨kq, hq⟩ := List.getElem?_of_mem (la_mem (ad := ad) (L := a0 :: a1 :: a2 :: a3 :: a4 :: a5 :: a6 :: a7 :: a8 :: a9 :: a10 :: a11 :: a12 :: a13 :: some (iv x) :: R) (q := (14, tv ad (iv x))).mpr ⟨iv x, rfl, rfl⟩)
  refine lv_iinc C.1 C.2.1 hd (lh_has B.2.2.2) hq (v := Int32.ofInt (x + d)) (by rw [Int32.ofInt_add]) hn rfl (fun ls2 h2 => kk C H locs ls2 ⟨B.1, B.2.1, B.2.2.1, lh_set1 (i := 14) (v := iv (x + d)) B.2.2.2 hn (fun w hw => ?_) h2⟩)
  cases hw; exact hj
theorem r_iload_15 {k : MD} {G : List GD} {n : Nat} {post : Option PV → Mem → Prop} {z : ZZ} {pc pc2 : Nat} {S : List PV} {M : Mem} {a0 a1 a2 a3 a4 a5 a6 a7 a8 a9 a10 a11 a12 a13 a14 : Option PV} {R : List (Option PV)} {x : Int} (hd : Dk k pc (.iload 15) 2 pc2) (kk : WP k G n post z pc2 (a0 :: a1 :: a2 :: a3 :: a4 :: a5 :: a6 :: a7 :: a8 :: a9 :: a10 :: a11 :: a12 :: a13 :: a14 :: some (iv x) :: R) (iv x :: S) M) : WP k G n post z pc (a0 :: a1 :: a2 :: a3 :: a4 :: a5 :: a6 :: a7 :: a8 :: a9 :: a10 :: a11 :: a12 :: a13 :: a14 :: some (iv x) :: R) S M := by
  obtain ⟨p, l, e, s, m, args, below, meth, c, D, dA, adK, adV, ad⟩ := z
  obtain ⟨hd, rfl⟩ := hd
  intro C H locs ls B
  exact lv_iload C.1 C.2.1 hd (lh_at B.2.2.2 (i := 15) rfl) (kk C H locs ls B)
theorem r_aload_15 {k : MD} {G : List GD} {n : Nat} {post : Option PV → Mem → Prop} {z : ZZ} {pc pc2 : Nat} {S : List PV} {M : Mem} {a0 a1 a2 a3 a4 a5 a6 a7 a8 a9 a10 a11 a12 a13 a14 : Option PV} {R : List (Option PV)} {x : Nat} (hd : Dk k pc (.aload 15) 2 pc2) (kk : WP k G n post z pc2 (a0 :: a1 :: a2 :: a3 :: a4 :: a5 :: a6 :: a7 :: a8 :: a9 :: a10 :: a11 :: a12 :: a13 :: a14 :: some (rv x) :: R) (rv x :: S) M) : WP k G n post z pc (a0 :: a1 :: a2 :: a3 :: a4 :: a5 :: a6 :: a7 :: a8 :: a9 :: a10 :: a11 :: a12 :: a13 :: a14 :: some (rv x) :: R) S M := by
  obtain ⟨p, l, e, s, m, args, below, meth, c, D, dA, adK, adV, ad⟩ := z
  obtain ⟨hd, rfl⟩ := hd
  intro C H locs ls B
  exact lv_aload C.1 C.2.1 hd (lh_at B.2.2.2 (i := 15) rfl) (kk C H locs ls B)
theorem r_lload_15 {k : MD} {G : List GD} {n : Nat} {post : Option PV → Mem → Prop} {z : ZZ} {pc pc2 : Nat} {S : List PV} {M : Mem} {a0 a1 a2 a3 a4 a5 a6 a7 a8 a9 a10 a11 a12 a13 a14 : Option PV} {R : List (Option PV)} {x : Int} (hd : Dk k pc (.lload 15) 2 pc2) (kk : WP k G n post z pc2 (a0 :: a1 :: a2 :: a3 :: a4 :: a5 :: a6 :: a7 :: a8 :: a9 :: a10 :: a11 :: a12 :: a13 :: a14 :: some (jv x) :: R) (jv x :: S) M) : WP k G n post z pc (a0 :: a1 :: a2 :: a3 :: a4 :: a5 :: a6 :: a7 :: a8 :: a9 :: a10 :: a11 :: a12 :: a13 :: a14 :: some (jv x) :: R) S M := by
  obtain ⟨p, l, e, s, m, args, below, meth, c, D, dA, adK, adV, ad⟩ := z
  obtain ⟨hd, rfl⟩ := hd
  intro C H locs ls B
  exact lv_lload C.1 C.2.1 hd (lh_at B.2.2.2 (i := 15) rfl) (kk C H locs ls B)
theorem r_istore_15 {k : MD} {G : List GD} {n : Nat} {post : Option PV → Mem → Prop} {z : ZZ} {pc pc2 : Nat} {S : List PV} {M : Mem} {a0 a1 a2 a3 a4 a5 a6 a7 a8 a9 a10 a11 a12 a13 a14 : Option PV} {R : List (Option PV)} {o : Option PV} {x : Int} (hd : Dk k pc (.istore 15) 2 pc2) (hj : nj a14 = true) (kk : WP k G n post z pc2 (a0 :: a1 :: a2 :: a3 :: a4 :: a5 :: a6 :: a7 :: a8 :: a9 :: a10 :: a11 :: a12 :: a13 :: a14 :: some (iv x) :: R) S M) : WP k G n post z pc (a0 :: a1 :: a2 :: a3 :: a4 :: a5 :: a6 :: a7 :: a8 :: a9 :: a10 :: a11 :: a12 :: a13 :: a14 :: o :: R) (iv x :: S) M := by
  obtain ⟨p, l, e, s, m, args, below, meth, c, D, dA, adK, adV, ad⟩ := z
  obtain ⟨hd, rfl⟩ := hd
  intro C H locs ls B
  have hn : 15 < k.2.2.1 := by have := B.2.2.2.2.1; simp at this; omega
  refine lv_istore C.1 C.2.1 hd (lh_has B.2.2.2) hn rfl (fun ls2 h2 => kk C H locs ls2 ⟨B.1, B.2.1, B.2.2.1, lh_set1 (i := 15) (v := iv x) B.2.2.2 hn (fun w hw => ?_) h2⟩)
  cases hw; exact hj
theorem r_astore_15 {k : MD} {G : List GD} {n : Nat} {post : Option PV → Mem → Prop} {z : ZZ} {pc pc2 : Nat} {S : List PV} {M : Mem} {a0 a1 a2 a3 a4 a5 a6 a7 a8 a9 a10 a11 a12 a13 a14 : Option PV} {R : List (Option PV)} {o : Option PV} {x : Nat} (hd : Dk k pc (.astore 15) 2 pc2) (hj : nj a14 = true) (kk : WP k G n post z pc2 (a0 :: a1 :: a2 :: a3 :: a4 :: a5 :: a6 :: a7 :: a8 :: a9 :: a10 :: a11 :: a12 :: a13 :: a14 :: some (rv x) :: R) S M) : WP k G n post z pc (a0 :: a1 :: a2 :: a3 :: a4 :: a5 :: a6 :: a7 :: a8 :: a9 :: a10 :: a11 :: a12 :: a13 :: a14 :: o :: R) (rv x :: S) M := by
  obtain ⟨p, l, e, s, m, args, below, meth, c, D, dA, adK, adV, ad⟩ := z
  obtain ⟨hd, rfl⟩ := hd
  intro C H locs ls B
  have hn : 15 < k.2.2.1 := by have := B.2.2.2.2.1; simp at this; omega
  refine lv_astore C.1 C.2.1 hd (lh_has B.2.2.2) hn rfl (fun ls2 h2 => kk C H locs ls2 ⟨B.1, B.2.1, B.2.2.1, lh_set1 (i := 15) (v := rv x) B.2.2.2 hn (fun w hw => ?_) h2⟩)
  cases hw; exact hj
theorem r_lstore_15 {k : MD} {G : List GD} {n : Nat} {post : Option PV → Mem → Prop} {z : ZZ} {pc pc2 : Nat} {S : List PV} {M : Mem} {a0 a1 a2 a3 a4 a5 a6 a7 a8 a9 a10 a11 a12 a13 a14 : Option PV} {R : List (Option PV)} {o1 o2 : Option PV} {x : Int} (hd : Dk k pc (.lstore 15) 2 pc2) (hj : nj a14 = true) (kk : WP k G n post z pc2 (a0 :: a1 :: a2 :: a3 :: a4 :: a5 :: a6 :: a7 :: a8 :: a9 :: a10 :: a11 :: a12 :: a13 :: a14 :: some (jv x) :: none :: R) S M) : WP k G n post z pc (a0 :: a1 :: a2 :: a3 :: a4 :: a5 :: a6 :: a7 :: a8 :: a9 :: a10 :: a11 :: a12 :: a13 :: a14 :: o1 :: o2 :: R) (jv x :: S) M := by
  obtain ⟨p, l, e, s, m, args, below, meth, c, D, dA, adK, adV, ad⟩ := z
  obtain ⟨hd, rfl⟩ := hd
  intro C H locs ls B
  have hn : 15 + 1 < k.2.2.1 := by have := B.2.2.2.2.1; simp at this; omega
  refine lv_lstore C.1 C.2.1 hd (lh_has B.2.2.2) hn rfl (fun ls2 h2 => kk C H locs ls2 ⟨B.1, B.2.1, B.2.2.1, lh_set2 (i := 15) (v := jv x) B.2.2.2 hn (fun w hw => ?_) h2⟩)
  cases hw; exact hj
theorem r_iinc_15 {k : MD} {G : List GD} {n : Nat} {post : Option PV → Mem → Prop} {z : ZZ} {pc pc2 : Nat} {S : List PV} {M : Mem} {a0 a1 a2 a3 a4 a5 a6 a7 a8 a9 a10 a11 a12 a13 a14 : Option PV} {R : List (Option PV)} {x d : Int} (hd : Dk k pc (.iinc 15 d) 3 pc2) (hj : nj a14 = true) (kk : WP k G n post z pc2 (a0 :: a1 :: a2 :: a3 :: a4 :: a5 :: a6 :: a7 :: a8 :: a9 :: a10 :: a11 :: a12 :: a13 :: a14 :: some (iv (x + d)) :: R) S M) : WP k G n post z pc (a0 :: a1 :: a2 :: a3 :: a4 :: a5 :: a6 :: a7 :: a8 :: a9 :: a10 :: a11 :: a12 :: a13 :: a14 :: some (iv x) :: R) S M := by
  obtain ⟨p, l, e, s, m, args, below, meth, c, D, dA, adK, adV, ad⟩ := z
  obtain ⟨hd, rfl⟩ := hd
  intro C H locs ls B
  have hn : 15 < k.2.2.1 := by have := B.2.2.2.2.1; simp at this; omega
  obtain ⟨kq, hq⟩ := List.getElem?_of_mem (la_mem (ad := ad) (L := a0 :: a1 :: a2 :: a3 :: a4 :: a5 :: a6 :: a7 :: a8 :: a9 :: a10 :: a11 :: a12 :: a13 :: a14 :: some (iv x) :: R) (q := (15, tv ad (iv x))).mpr ⟨iv x, rfl, rfl⟩)
  refine lv_iinc C.1 C.2.1 hd (lh_has B.2.2.2) hq (v := Int32.ofInt (x + d)) (by rw [Int32.ofInt_add]) hn rfl (fun ls2 h2 => kk C H locs ls2 ⟨B.1, B.2.1, B.2.2.1, lh_set1 (i := 15) (v := iv (x + d)) B.2.2.2 hn (fun w hw => ?_) h2⟩)
  cases hw; exact hj

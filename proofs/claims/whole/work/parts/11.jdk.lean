theorem xor_neg {a m : Int} (ha : ib a) (hm : 0 ≤ m ∧ m < 2147483648) : (Int32.ofInt a ^^^ Int32.ofInt m).toInt < 0 ↔ a < 0 := by
  have h1 : ∀ x : Int32, x.toInt < 0 ↔ x.toBitVec.msb = true := fun x => by
    have := @BitVec.msb_eq_toInt 32 x.toBitVec
    rw [this]
    exact decide_eq_true_iff.symm
  have h2 : (Int32.ofInt m).toBitVec.msb = false := by
    have := (h1 (Int32.ofInt m)).mpr
    cases hq : (Int32.ofInt m).toBitVec.msb with
    | false => rfl
    | true => have := this hq; rw [i3_toInt (by omega)] at this; omega
  rw [h1, Int32.toBitVec_xor, BitVec.msb_xor, h2, Bool.xor_false, ← h1, i3_toInt ha]
def pop8 (n : Nat) : Nat := n % 2 + n / 2 % 2 + n / 4 % 2 + n / 8 % 2 + n / 16 % 2 + n / 32 % 2 + n / 64 % 2 + n / 128 % 2
def ushr (x y : Int32) : Int32 := (x.toUInt32 >>> (y.toUInt32 &&& Int32.toUInt32 31)).toInt32
def bcn (x : Int32) : Int32 :=
  let a := x - (ushr x 1 &&& 1431655765)
  let b := (a &&& 858993459) + (ushr a 2 &&& 858993459)
  let c := (b + ushr b 4) &&& 252645135
  let d := c + ushr c 8
  let e := d + ushr d 16
  e &&& 63
theorem nIand (a b : Nat) : nI a &&& nI b = nI (a &&& b) := by
  apply Int32.toBitVec_inj.mp
  show (Int32.ofNat a &&& Int32.ofNat b).toBitVec = (Int32.ofNat (a &&& b)).toBitVec
  rw [Int32.toBitVec_and]
  show BitVec.ofNat 32 a &&& BitVec.ofNat 32 b = BitVec.ofNat 32 (a &&& b)
  rw [BitVec.ofNat_and]
theorem nIof (n : Nat) : Int32.ofInt (n : Int) = nI n := rfl
def bcN (n : Nat) : Nat :=
  let a := n - (n / 2 &&& 1431655765)
  let b := (a &&& 858993459) + (a / 4 &&& 858993459)
  let c := (b + b / 16) &&& 252645135
  let d := c + c / 256
  let e := d + d / 65536
  e &&& 63
theorem bcN_ok : ∀ n, n < 256 → bcN n = pop8 n := by decide +kernel
theorem bcn_ok (n : Nat) (h : n < 256) : bcn (Int32.ofInt (n : Int)) = Int32.ofInt ((pop8 n : Nat) : Int) := by
  rw [nIof, nIof, ← bcN_ok n h]
  have l1 := Nat.and_le_left (n := n / 2 ^ 1) (m := 1431655765)
  unfold bcn ushr bcN
  rw [pk_ushrN (n := n) (by omega) 1 1 (by decide), show (1431655765 : Int32) = nI 1431655765 from rfl, nIand, pk_sub (by omega)]
  generalize ha : n - (n / 2 ^ 1 &&& 1431655765) = a
  have h2 : a < 256 := by omega
  have l2 := Nat.and_le_left (n := a) (m := 858993459)
  have l3 := Nat.and_le_left (n := a / 4) (m := 858993459)
  simp only []
  rw [pk_ushrN (n := a) (by omega) 2 2 (by decide), show (858993459 : Int32) = nI 858993459 from rfl, nIand, nIand, nI_add]
  rw [show a / 2 ^ 2 = a / 4 from rfl]
  generalize hb : (a &&& 858993459) + (a / 4 &&& 858993459) = b
  have h3 : b < 512 := by omega
  rw [pk_ushrN (n := b) (by omega) 4 4 (by decide), nI_add, show (252645135 : Int32) = nI 252645135 from rfl, nIand]
  rw [show b / 2 ^ 4 = b / 16 from rfl]
  have l4 := Nat.and_le_left (n := b + b / 16) (m := 252645135)
  generalize hc : (b + b / 16) &&& 252645135 = c
  rw [hc] at l4
  rw [pk_ushrN (n := c) (by omega) 8 8 (by decide), nI_add, show c / 2 ^ 8 = c / 256 from rfl]
  generalize hd : c + c / 256 = d
  rw [pk_ushrN (n := d) (by omega) 16 16 (by decide), nI_add, show d / 2 ^ 16 = d / 65536 from rfl, show (63 : Int32) = nI 63 from rfl, nIand]
set_option maxRecDepth 10000 in
set_option maxHeartbeats 4000000 in
theorem j_floorMod {G : List GD} {d : Nat} {M : Mem} {x m : Int} (h1 : ib x) (h2 : 0 < m ∧ m < 2147483648) : Con G d kJ9_floorMod_7cf53 [iv x, iv m] M (pI (fun a M2 => M = M2 ∧ a = x % m)) := by
  refine con_of [some (iv x), some (iv m), none] (plJ9) rfl (Nat.le_of_ble_eq_true rfl) (fun z => ?_)
  have hx := xor_neg (a := x) (m := m) h1 ⟨by omega, h2.2⟩
  have hrb : ib (Int32.ofInt x ^^^ Int32.ofInt m).toInt := ⟨by have := Int32.le_toInt (Int32.ofInt x ^^^ Int32.ofInt m); exact this, by have := Int32.toInt_lt (Int32.ofInt x ^^^ Int32.ofInt m); exact this⟩
  have e1 := Int.tmod_eq_emod (a := x) (b := m)
  have b1 := Int.emod_nonneg x (show m ≠ 0 by omega)
  have b2 := Int.emod_lt_of_pos x h2.1
  have ht : (x.tmod m = x % m ∧ (0 ≤ x ∨ x % m = 0)) ∨ (x < 0 ∧ x.tmod m = x % m - m ∧ x % m ≠ 0) := by
    by_cases q : 0 ≤ x
    · exact Or.inl ⟨Int.tmod_eq_emod_of_nonneg q, Or.inl q⟩
    · rw [e1]
      split
      · left
        rename_i hq
        rcases hq with hq | hq
        · omega
        · have := Int.emod_eq_zero_of_dvd hq
          omega
      · right
        rename_i hq
        refine ⟨by omega, by omega, fun w => hq (Or.inr (Int.dvd_of_emod_eq_zero w))⟩
  refine r_iload_0 dJ9_floorMod_7cf53_0 (r_iload_1 dJ9_floorMod_7cf53_1 ?_)
  refine r_irem dJ9_floorMod_7cf53_2 (by omega) (by omega) (by omega) ?_
  refine r_istore_2 dJ9_floorMod_7cf53_3 rfl (r_iload_0 dJ9_floorMod_7cf53_4 (r_iload_1 dJ9_floorMod_7cf53_5 ?_))
  refine r_ixor (r := (Int32.ofInt x ^^^ Int32.ofInt m).toInt) dJ9_floorMod_7cf53_6 ((Int32.ofInt_toInt _).symm) ?_
  refine r_if_ge dJ9_floorMod_7cf53_7 (by exact hrb) (fun c_7 => ?_) (fun c_7 => ?_)
  · skip
    refine r_iload_2 dJ9_floorMod_7cf53_18 ?_
    refine r_ireturn dJ9_floorMod_7cf53_19 rfl ?_
    exact ⟨_, rfl, rfl, by omega⟩
  · skip
    refine r_iload_2 dJ9_floorMod_7cf53_10 ?_
    refine r_if_eq dJ9_floorMod_7cf53_11 (by omega) (fun c_11 => ?_) (fun c_11 => ?_)
    · skip
      refine r_iload_2 dJ9_floorMod_7cf53_18 ?_
      refine r_ireturn dJ9_floorMod_7cf53_19 rfl ?_
      exact ⟨_, rfl, rfl, by omega⟩
    · skip
      refine r_iload_2 dJ9_floorMod_7cf53_14 (r_iload_1 dJ9_floorMod_7cf53_15 (r_iadd dJ9_floorMod_7cf53_16 ?_))
      refine r_ireturn dJ9_floorMod_7cf53_17 rfl ?_
      exact ⟨_, rfl, rfl, by omega⟩
set_option maxRecDepth 10000 in
set_option maxHeartbeats 4000000 in
theorem j_bitCount {G : List GD} {d : Nat} {M : Mem} {x : Nat} (h1 : x < 256) : Con G d kJ6_bitCount_0f7a4 [iv (x : Int)] M (pI (fun a M2 => M = M2 ∧ a = (pop8 x : Nat))) := by
  refine con_of [some (iv (x : Int))] (plJ6) rfl (Nat.le_of_ble_eq_true rfl) (fun z => ?_)
  refine r_iload_0 dJ6_bitCount_0f7a4_0 (r_iload_0 dJ6_bitCount_0f7a4_1 (r_iconst dJ6_bitCount_0f7a4_2 ?_))
  refine r_iushr (r := (ushr (Int32.ofInt x) 1).toInt) dJ6_bitCount_0f7a4_3 ((Int32.ofInt_toInt _).symm) ?_
  refine r_ldcw (a := 1431655765) dJ6_bitCount_0f7a4_4 qJ6_265 ?_
  refine r_iand (r := (ushr (Int32.ofInt x) 1 &&& 1431655765).toInt) dJ6_bitCount_0f7a4_7 (by rw [Int32.ofInt_toInt, Int32.ofInt_toInt]; rfl) ?_
  refine r_isub dJ6_bitCount_0f7a4_8 ?_
  refine r_as (b := (Int32.ofInt x - (ushr (Int32.ofInt x) 1 &&& 1431655765)).toInt) (by rw [Int32.ofInt_sub, Int32.ofInt_toInt, Int32.ofInt_toInt]) ?_
  generalize ha : (Int32.ofInt x - (ushr (Int32.ofInt x) 1 &&& 1431655765)) = a
  refine r_istore_0 dJ6_bitCount_0f7a4_9 rfl (r_iload_0 dJ6_bitCount_0f7a4_10 (r_ldcw (a := 858993459) dJ6_bitCount_0f7a4_11 qJ6_266 ?_))
  refine r_iand (r := (a &&& 858993459).toInt) dJ6_bitCount_0f7a4_14 (by rw [Int32.ofInt_toInt, Int32.ofInt_toInt]; rfl) ?_
  refine r_iload_0 dJ6_bitCount_0f7a4_15 (r_iconst dJ6_bitCount_0f7a4_16 ?_)
  refine r_iushr (r := (ushr a 2).toInt) dJ6_bitCount_0f7a4_17 (by rw [Int32.ofInt_toInt, Int32.ofInt_toInt]; rfl) ?_
  refine r_ldcw (a := 858993459) dJ6_bitCount_0f7a4_18 qJ6_266 ?_
  refine r_iand (r := (ushr a 2 &&& 858993459).toInt) dJ6_bitCount_0f7a4_21 (by rw [Int32.ofInt_toInt, Int32.ofInt_toInt]; rfl) ?_
  refine r_iadd dJ6_bitCount_0f7a4_22 ?_
  refine r_as (b := ((a &&& 858993459) + (ushr a 2 &&& 858993459)).toInt) (by rw [Int32.ofInt_add, Int32.ofInt_toInt, Int32.ofInt_toInt, Int32.ofInt_toInt]) ?_
  generalize hb : ((a &&& 858993459) + (ushr a 2 &&& 858993459)) = b
  refine r_istore_0 dJ6_bitCount_0f7a4_23 rfl (r_iload_0 dJ6_bitCount_0f7a4_24 (r_iload_0 dJ6_bitCount_0f7a4_25 (r_iconst dJ6_bitCount_0f7a4_26 ?_)))
  refine r_iushr (r := (ushr b 4).toInt) dJ6_bitCount_0f7a4_27 (by rw [Int32.ofInt_toInt, Int32.ofInt_toInt]; rfl) ?_
  refine r_iadd dJ6_bitCount_0f7a4_28 ?_
  refine r_as (b := (b + ushr b 4).toInt) (by rw [Int32.ofInt_add, Int32.ofInt_toInt, Int32.ofInt_toInt, Int32.ofInt_toInt]) ?_
  refine r_ldcw (a := 252645135) dJ6_bitCount_0f7a4_29 qJ6_267 ?_
  refine r_iand (r := ((b + ushr b 4) &&& 252645135).toInt) dJ6_bitCount_0f7a4_32 (by rw [Int32.ofInt_toInt, Int32.ofInt_toInt]; rfl) ?_
  generalize hc : ((b + ushr b 4) &&& 252645135) = c
  refine r_istore_0 dJ6_bitCount_0f7a4_33 rfl (r_iload_0 dJ6_bitCount_0f7a4_34 (r_iload_0 dJ6_bitCount_0f7a4_35 (r_bipush dJ6_bitCount_0f7a4_36 (by decide) ?_)))
  refine r_iushr (r := (ushr c 8).toInt) dJ6_bitCount_0f7a4_38 (by rw [Int32.ofInt_toInt, Int32.ofInt_toInt]; rfl) ?_
  refine r_iadd dJ6_bitCount_0f7a4_39 ?_
  refine r_as (b := (c + ushr c 8).toInt) (by rw [Int32.ofInt_add, Int32.ofInt_toInt, Int32.ofInt_toInt, Int32.ofInt_toInt]) ?_
  generalize he : (c + ushr c 8) = e
  refine r_istore_0 dJ6_bitCount_0f7a4_40 rfl (r_iload_0 dJ6_bitCount_0f7a4_41 (r_iload_0 dJ6_bitCount_0f7a4_42 (r_bipush dJ6_bitCount_0f7a4_43 (by decide) ?_)))
  refine r_iushr (r := (ushr e 16).toInt) dJ6_bitCount_0f7a4_45 (by rw [Int32.ofInt_toInt, Int32.ofInt_toInt]; rfl) ?_
  refine r_iadd dJ6_bitCount_0f7a4_46 ?_
  refine r_as (b := (e + ushr e 16).toInt) (by rw [Int32.ofInt_add, Int32.ofInt_toInt, Int32.ofInt_toInt, Int32.ofInt_toInt]) ?_
  refine r_istore_0 dJ6_bitCount_0f7a4_47 rfl (r_iload_0 dJ6_bitCount_0f7a4_48 (r_bipush dJ6_bitCount_0f7a4_49 (by decide) ?_))
  refine r_iand (r := ((pop8 x : Nat) : Int)) dJ6_bitCount_0f7a4_51 (by rw [Int32.ofInt_toInt, ← bcn_ok x h1]; subst ha; subst hb; subst hc; subst he; rfl) ?_
  refine r_ireturn dJ6_bitCount_0f7a4_52 rfl ?_
  exact ⟨_, rfl, rfl, rfl⟩
set_option maxRecDepth 10000 in
set_option maxHeartbeats 4000000 in
theorem x_fill {d : Nat} {M : Mem} {q N : Nat} {v : Int} (hg : GX[q]? = some (.inr (.inl N))) (hN : N < 1000) (hv : ib v) : Con GX d kJ7_fill_53178 [rv q, iv v] M (pV (fun M2 => M2 = (fun c i => if c = q ∧ i < N then v else M c i))) := by
  refine con_of [some (rv q), some (iv v), none, none] (plJ7) rfl (Nat.le_of_ble_eq_true rfl) (fun z => ?_)
  refine r_iconst dJ7_fill_53178_0 (r_istore_2 dJ7_fill_53178_1 rfl (r_aload_0 dJ7_fill_53178_2 ?_))
  refine r_alen dJ7_fill_53178_3 (hg) ?_
  refine r_istore_3 dJ7_fill_53178_4 rfl ?_
  have lp_5 : ∀ (NN : Nat) (i : Nat) (Mv : Mem) (hi : i ≤ N) (hM : Mv = (fun c j => if c = q ∧ j < i then v else M c j)), N - i < NN → WP kJ7_fill_53178 GX d (pV (fun M2 => M2 = (fun c i => if c = q ∧ i < N then v else M c i))) z 5 [some (rv q), some (iv v), some (iv (i : Int)), some (iv (N : Int))] [] Mv := by
    intro NN
    induction NN with
    | zero => intros; omega
    | succ NN ih =>
      intro i Mv hi hM hm
      refine r_iload_2 dJ7_fill_53178_5 ?_
      refine r_iload_3 dJ7_fill_53178_6 ?_
      refine r_icmp_ge dJ7_fill_53178_7 (by omega) (by omega) (fun c_7 => ?_) (fun c_7 => ?_)
      · skip
        have hiN : i = N := by omega
        refine r_vreturn dJ7_fill_53178_20 rfl ?_
        exact ⟨rfl, by rw [hM, hiN]⟩
      · skip
        refine r_aload_0 dJ7_fill_53178_10 (r_iload_2 dJ7_fill_53178_11 (r_iload_1 dJ7_fill_53178_12 ?_))
        refine r_iasN dJ7_fill_53178_13 (hg) (by omega) (by omega) (by omega) ?_
        refine r_iinc_2 dJ7_fill_53178_14 rfl (r_goto dJ7_fill_53178_17 ?_)
        exact ih (i + 1) _ (by omega) (by
          subst hM
          funext c j
          unfold upM
          by_cases h1 : c = q ∧ j = i
          · rw [if_pos h1, if_pos ⟨h1.1, by omega⟩]
          · rw [if_neg h1]
            show (if c = q ∧ j < i then v else M c j) = _
            by_cases h2 : c = q ∧ j < i
            · rw [if_pos h2, if_pos ⟨h2.1, by omega⟩]
            · rw [if_neg h2, if_neg (by omega)]) (by omega)
  exact lp_5 _ 0 M (by omega) (by funext c j; rw [if_neg (by omega)]) (Nat.lt_succ_self _)

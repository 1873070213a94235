theorem w_len : Cw RX2 78 kJ0_length_8abf5 0 := ⟨bJ0_length_8abf5, q_t2 53 rfl rfl, q_t2 54 rfl rfl, q_t2 55 rfl rfl, rfl⟩
theorem w_chr : Cw RX2 84 kJ0_charAt_5068e 1 := ⟨bJ0_charAt_5068e, q_t2 63 rfl rfl, q_t2 64 rfl rfl, q_t2 65 rfl rfl, rfl⟩
theorem w_cod : Cw RJ0 335 kJ0_coder_7d493 0 := ⟨bJ0_coder_7d493, q_t2 57 rfl rfl, q_t2 58 rfl rfl, q_t2 59 rfl rfl, rfl⟩
theorem w_lat : Cw RJ0 492 kJ0_isLatin1_aae02 0 := ⟨bJ0_isLatin1_aae02, q_t2 67 rfl rfl, q_t2 68 rfl rfl, q_t2 69 rfl rfl, rfl⟩
theorem s_shr : ∀ j, j < 12 → Int32.ofInt ((s_len.getD j 0 : Nat) : Int) >>> (Int32.ofInt 0 &&& 31) = Int32.ofInt ((s_len.getD j 0 : Nat) : Int) := by decide +kernel
theorem j_cod {G : List GD} {n j : Nat} {M : Mem} (hj : j < 12) : Con G n kJ0_coder_7d493 [rv (1000 + j)] M (pI (fun a M2 => M = M2 ∧ a = 0)) := by
  refine con_of [some (rv (1000 + j))] plJ0 rfl (Nat.le_of_ble_eq_true rfl) (fun z => ?_)
  refine r_gsC dJ0_coder_7d493_0 (q_t2 61 rfl rfl) ?_
  refine r_if_eq dJ0_coder_7d493_3 (by omega) (fun c => absurd c (by decide)) (fun _ => ?_)
  refine r_aload_0 dJ0_coder_7d493_6 (r_scod dJ0_coder_7d493_7 (q_t5 126 rfl rfl) hj (r_goto dJ0_coder_7d493_10 ?_))
  exact r_breturn dJ0_coder_7d493_14 rfl ⟨0, rfl, rfl, rfl⟩
theorem j_lat {G : List GD} {n j : Nat} {M : Mem} (hj : j < 12) : Con G n kJ0_isLatin1_aae02 [rv (1000 + j)] M (pI (fun a M2 => M = M2 ∧ a = 1)) := by
  refine con_of [some (rv (1000 + j))] plJ0 rfl (Nat.le_of_ble_eq_true rfl) (fun z => ?_)
  refine r_gsC dJ0_isLatin1_aae02_0 (q_t2 61 rfl rfl) ?_
  refine r_if_eq dJ0_isLatin1_aae02_3 (by omega) (fun c => absurd c (by decide)) (fun _ => ?_)
  refine r_aload_0 dJ0_isLatin1_aae02_6 (r_scod dJ0_isLatin1_aae02_7 (q_t5 126 rfl rfl) hj ?_)
  refine r_if_ne dJ0_isLatin1_aae02_10 (by omega) (fun c => absurd rfl c) (fun _ => ?_)
  refine r_iconst dJ0_isLatin1_aae02_13 (r_goto dJ0_isLatin1_aae02_14 ?_)
  exact r_zreturn dJ0_isLatin1_aae02_18 rfl (Or.inr rfl) ⟨1, rfl, rfl, rfl⟩
theorem j_len {G : List GD} {n j : Nat} {M : Mem} (hj : j < 12) : Con G (n + 1) kJ0_length_8abf5 [rv (1000 + j)] M (pI (fun a M2 => M = M2 ∧ a = ((s_len.getD j 0 : Nat) : Int))) := by
  refine con_of [some (rv (1000 + j))] plJ0 rfl (Nat.le_of_ble_eq_true rfl) (fun z => ?_)
  refine r_aload_0 dJ0_length_8abf5_0 (r_sval dJ0_length_8abf5_1 (q_t5 125 rfl rfl) hj (r_slen dJ0_length_8abf5_4 hj (r_aload_0 dJ0_length_8abf5_5 ?_)))
  refine r_cWI0 dJ0_length_8abf5_6 w_cod hj (j_cod (n := n) hj) (Nat.lt_succ_self n) (Nat.le_of_ble_eq_true rfl) (fun b M2 h => ?_)
  obtain ⟨rfl, rfl⟩ := h
  refine r_ishr (r := ((s_len.getD j 0 : Nat) : Int)) dJ0_length_8abf5_9 (s_shr j hj) ?_
  exact r_ireturn dJ0_length_8abf5_10 rfl ⟨_, rfl, rfl, rfl⟩
theorem j_chkV {G : List GD} {n : Nat} {i m : Int} {M : Mem} {v : Value} (hv : v = .null ∨ ∃ t, v = .ref t) (hi : 0 ≤ i ∧ i < m) (hm : ib m) (l : Launch) (D : va_G) (dA : Nat → ClassId) (adK adV ad : Nat → Nat) : Met l kJ3_checkIndex_8e157.1 (Cond.code kJ3_checkIndex_8e157.1 kJ3_checkIndex_8e157.2.1 kJ3_checkIndex_8e157.2.2.1 kJ3_checkIndex_8e157.2.2.2 :: q_tbl) (rmd n) (va_Pc [.int (Int32.ofInt i), .int (Int32.ofInt m), v] (fun U => wo G D dA adK adV ad M U)) (qq G D dA adK adV ad (pI (fun a M2 => M = M2 ∧ a = i))) 0 0 (AA G ad) := by
  have h : ∀ z, WP kJ3_checkIndex_8e157 G n (pI (fun a M2 => M = M2 ∧ a = i)) z 0 [some (iv i), some (iv m), none] [] M := fun z => by
    refine r_iload_0 dJ3_checkIndex_8e157_0 ?_
    refine r_if_lt dJ3_checkIndex_8e157_1 (by omega) (fun c => by omega) (fun _ => ?_)
    refine r_iload_0 dJ3_checkIndex_8e157_4 (r_iload_1 dJ3_checkIndex_8e157_5 ?_)
    refine r_icmp_lt dJ3_checkIndex_8e157_6 (by omega) (by omega) (fun _ => ?_) (fun c => by omega)
    refine r_iload_0 dJ3_checkIndex_8e157_16 ?_
    exact r_ireturn dJ3_checkIndex_8e157_17 rfl ⟨_, rfl, rfl, rfl⟩
  refine met_ofF (cc := kJ3_checkIndex_8e157.2.1) (maxL := kJ3_checkIndex_8e157.2.2.1) (ret := kJ3_checkIndex_8e157.2.2.2) plJ3 rfl ?_
  intro p e s m' args below meth c s₁ B hml hw
  obtain ⟨rfl, hP, hM, hK, hA, hS⟩ := hw
  have hts := atoms_spec (ws := Cond.code kJ3_checkIndex_8e157.1 kJ3_checkIndex_8e157.2.1 kJ3_checkIndex_8e157.2.2.1 kJ3_checkIndex_8e157.2.2.2 :: q_tbl) B.pre
  have hl := lv_entry [.int (Int32.ofInt i), .int (Int32.ofInt m), v] (n := kJ3_checkIndex_8e157.2.2.1) (by rcases hv with rfl | ⟨t, rfl⟩ <;> exact Nat.le_of_ble_eq_true rfl)
  rw [lg_entry_eq]
  refine h (p, l, e, s, m', _, below, meth, c, D, dA, adK, adV, ad) ⟨B.exec, B.bytes, hml, findClass_of_methodNamed B.named, fun w hw => hts w (List.mem_cons_of_mem _ hw), B.notSynchronized, B.returns, hK, hA, hS⟩ s.heap [] _ ⟨hP, hM, va_S.rf, hl.1, rfl, hl.2.1, fun k w hk => ?_⟩
  rcases k with _ | _ | _ | k
  · cases hk
    exact hl.2.2 (0, .int (Int32.ofInt i)) List.mem_cons_self
  · cases hk
    exact hl.2.2 (1, .int (Int32.ofInt m)) (List.mem_cons_of_mem _ List.mem_cons_self)
  · cases hk
  · cases hk
theorem j_gsc {G : List GD} {n : Nat} {i m : Int} {M : Mem} {v : Value} (hi : 0 ≤ i ∧ i < m) (hm : ib m) (hv : v = .null ∨ ∃ t, v = .ref t) {p : Program} {l : Launch} {e : Env} {s : State} {m' : MethodId} {args : Array Value} {below : List Frame} {meth : Method} {c : Code} {D : va_G} {dA : Nat → ClassId} {adK adV ad : Nat → Nat} {L : List (Option PV)} {H : Heap} {locs : List Loc} {ls : Array Slot} (hZ : va_Z "jdk/internal/util/Preconditions" "SIOOBE_FORMATTER" "Ljava/util/function/BiFunction;" v (AA G ad) s s.heap) (C : Cx kJ0_checkIndex_df160 G (p, l, e, s, m', args, below, meth, c, D, dA, adK, adV, ad)) (B : Bx kJ0_checkIndex_df160 G (p, l, e, s, m', args, below, meth, c, D, dA, adK, adV, ad) L M H locs ls) :
    W p l e (rmd (n + 1)) s m' args below meth c H locs 0 0 (MQ below (qq G D dA adK adV ad (pV (fun M2 => M = M2))) args s 0 0 (AA G ad)) (F0 m' 2 ls [.int (Int32.ofInt m), .int (Int32.ofInt i)]) := by
  refine va_gets C.1 C.2.1 (C := "jdk/internal/util/Preconditions") (n := "SIOOBE_FORMATTER") (d := "Ljava/util/function/BiFunction;") (own := kJ0_checkIndex_df160.1.cls) (ref := "jdk/internal/util/Preconditions") hZ B.2.2.1 C.2.2.2.1 (C.hts _ (q_t2 77 rfl rfl)) (fun _ h => h) dJ0_checkIndex_df160_2.1 ?_
  have hs := sJ0_1059
  refine wp_back (k := kJ0_checkIndex_df160) (S := []) C B (va_runS (As := [.int (Int32.ofInt i), .int (Int32.ofInt m), v]) (n := 3) ⟨C.1, C.2.1, C.2.2.1, C.2.2.2.1, C.hts⟩ (j_chkV (n := n) hv hi hm l D dA adK adV ad) ⟨callB_of 3 C.hts (q_gin kJ3_checkIndex_8e157 hs.1.2.1) rfl rfl rfl (C.hts _ hs.1.1) (C.hts _ hs.2.1) hs.1.2.2.1 (rmd_fit (Nat.lt_succ_self n) hs.1.2.2.2), C.hts _ hs.2.2⟩ ⟨blind_wo, fun U hU hW2 => ⟨rfl, wo_pre B.1 B.2.1 B.2.2.1 C.K C.inj C.str hU hW2⟩⟩ rfl rfl B.2.2.2.1 rfl (lv_room (Nat.le_of_ble_eq_true rfl)) dJ0_checkIndex_df160_5.1 ⟨Nat.zero_le _, Nat.zero_le _⟩) (fun r M2 h => ?_)
  obtain ⟨b, rfl, rfl, rfl⟩ := h
  exact r_pop_i dJ0_checkIndex_df160_8 (r_vreturn dJ0_checkIndex_df160_9 rfl ⟨rfl, rfl⟩)
theorem j_chk {G : List GD} {n : Nat} {i m : Int} {M : Mem} (hi : 0 ≤ i ∧ i < m) (hm : ib m) : Con G (n + 1) kJ0_checkIndex_df160 [iv i, iv m] M (pV (fun M2 => M = M2)) := by
  refine con_of [some (iv i), some (iv m)] plJ0 rfl (Nat.le_of_ble_eq_true rfl) (fun z => ?_)
  refine r_iload_0 dJ0_checkIndex_df160_0 (r_iload_1 dJ0_checkIndex_df160_1 ?_)
  obtain ⟨p, l, e, s, m', args, below, meth, c, D, dA, adK, adV, ad⟩ := z
  intro C H locs ls B
  rcases C.str.2.2.2.2 with h | ⟨t, h⟩
  · exact j_gsc hi hm (Or.inl rfl) h C B
  · exact j_gsc hi hm (Or.inr ⟨t, rfl⟩) h C B
theorem j_chr1 {G : List GD} {n i j : Nat} {M : Mem} (hj : j < 12) (hi : i < s_len.getD j 0) : Con G (n + 2) kJ1_charAt_3b067 [rv (2000 + j), iv (i : Int)] M (pI (fun a M2 => M = M2 ∧ a = s_ch j i)) := by
  have hl := s_len_lt j hj
  have ha := s_all j hj i hi
  refine con_of [some (rv (2000 + j)), some (iv (i : Int))] plJ1 rfl (Nat.le_of_ble_eq_true rfl) (fun z => ?_)
  refine r_iload_1 dJ1_charAt_3b067_0 (r_aload_0 dJ1_charAt_3b067_1 (r_slen dJ1_charAt_3b067_2 hj ?_))
  refine r_cSV2 dJ1_charAt_3b067_3 sJ1_9 (j_chk (n := n) (by omega) (by omega)) (Nat.lt_succ_self (n + 1)) (Nat.le_of_ble_eq_true rfl) (fun M2 h => ?_)
  subst h
  refine r_aload_0 dJ1_charAt_3b067_6 (r_iload_1 dJ1_charAt_3b067_7 (r_sbal dJ1_charAt_3b067_8 hj hi (r_sipush dJ1_charAt_3b067_9 (by decide) ?_)))
  refine r_iand (r := s_ch j i) dJ1_charAt_3b067_12 ha.2.1 ?_
  refine r_i2c (r := s_ch j i) dJ1_charAt_3b067_13 ha.2.2.1 ?_
  exact r_creturn dJ1_charAt_3b067_14 rfl ha.2.2.2 ⟨_, rfl, rfl, rfl⟩
theorem j_chr {G : List GD} {n i j : Nat} {M : Mem} (hj : j < 12) (hi : i < s_len.getD j 0) : Con G (n + 3) kJ0_charAt_5068e [rv (1000 + j), iv (i : Int)] M (pI (fun a M2 => M = M2 ∧ a = s_ch j i)) := by
  have ha := s_all j hj i hi
  refine con_of [some (rv (1000 + j)), some (iv (i : Int))] plJ0 rfl (Nat.le_of_ble_eq_true rfl) (fun z => ?_)
  refine r_aload_0 dJ0_charAt_5068e_0 ?_
  refine r_cWI0 dJ0_charAt_5068e_1 w_lat hj (j_lat (n := n) hj) (by omega) (Nat.le_of_ble_eq_true rfl) (fun b M2 h => ?_)
  obtain ⟨rfl, rfl⟩ := h
  refine r_if_eq dJ0_charAt_5068e_4 (by omega) (fun c => absurd c (by decide)) (fun _ => ?_)
  refine r_aload_0 dJ0_charAt_5068e_7 (r_sval dJ0_charAt_5068e_8 (q_t5 125 rfl rfl) hj (r_iload_1 dJ0_charAt_5068e_11 ?_))
  refine r_cSI2 dJ0_charAt_5068e_12 sJ0_495 (j_chr1 (n := n) hj hi) (Nat.lt_succ_self (n + 2)) (Nat.le_of_ble_eq_true rfl) (fun b M2 h => ?_)
  obtain ⟨rfl, rfl⟩ := h
  exact r_creturn dJ0_charAt_5068e_15 rfl ha.2.2.2 ⟨_, rfl, rfl, rfl⟩

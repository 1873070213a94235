theorem w_len : Cw RX2 78 kJ0_length_8abf5 0 := ⟨bJ0_length_8abf5, q_t2 53 rfl rfl, q_t2 54 rfl rfl, q_t2 55 rfl rfl, rfl⟩
theorem w_chr : Cw RX2 84 kJ0_charAt_5068e 1 := ⟨bJ0_charAt_5068e, q_t2 63 rfl rfl, q_t2 64 rfl rfl, q_t2 65 rfl rfl, rfl⟩
theorem w_cod : Cw RJ0 335 kJ0_coder_7d493 0 := ⟨bJ0_coder_7d493, q_t2 57 rfl rfl, q_t2 58 rfl rfl, q_t2 59 rfl rfl, rfl⟩
theorem w_lat : Cw RJ0 492 kJ0_isLatin1_aae02 0 := ⟨bJ0_isLatin1_aae02, q_t2 67 rfl rfl, q_t2 68 rfl rfl, q_t2 69 rfl rfl, rfl⟩
theorem s_shr : ∀ j, j < 12 → Int32.ofInt ((s_len.getD j 0 : Nat) : Int) >>> (Int32.ofInt 0 &&& 31) = Int32.ofInt ((s_len.getD j 0 : Nat) : Int) := by decide +kernel
theorem j_cod {G : List GD} {n j : Nat} {M : Mem} (hj : j < 12) : Con G n kJ0_coder_7d493 [rv (1000 + j)] M (pI (fun a M2 => M = M2 ∧ a = 0)) := by
  refine con_of [some (rv (1000 + j))] plJ0 rfl (Nat.le_of_ble_eq_true rfl) (fun z => ?_)
  refine r_gsC dJ0_coder_7d493_0 (q_t2 61 rfl rfl) ?_
  refine r_if_eq dJ0_coder_7d493_3 (by omega) (fun c => absurd c (by decide)) (fun _ => ?_)
  refine r_aload_0 dJ0_coder_7d493_6 (r_scod dJ0_coder_7d493_7 (q_t5 126 rfl rfl) hj (r_goto dJ0_coder_7d493_10 ?_))
  exact r_breturn dJ0_coder_7d493_14 rfl ⟨0, rfl, rfl, rfl⟩
theorem j_lat {G : List GD} {n j : Nat} {M : Mem} (hj : j < 12) : Con G n kJ0_isLatin1_aae02 [rv (1000 + j)] M (pI (fun a M2 => M = M2 ∧ a = 1)) := by
  refine con_of [some (rv (1000 + j))] plJ0 rfl (Nat.le_of_ble_eq_true rfl) (fun z => ?_)
  refine r_gsC dJ0_isLatin1_aae02_0 (q_t2 61 rfl rfl) ?_
  refine r_if_eq dJ0_isLatin1_aae02_3 (by omega) (fun c => absurd c (by decide)) (fun _ => ?_)
  refine r_aload_0 dJ0_isLatin1_aae02_6 (r_scod dJ0_isLatin1_aae02_7 (q_t5 126 rfl rfl) hj ?_)
  refine r_if_ne dJ0_isLatin1_aae02_10 (by omega) (fun c => absurd rfl c) (fun _ => ?_)
  refine r_iconst dJ0_isLatin1_aae02_13 (r_goto dJ0_isLatin1_aae02_14 ?_)
  exact r_zreturn dJ0_isLatin1_aae02_18 rfl (Or.inr rfl) ⟨1, rfl, rfl, rfl⟩
theorem j_len {G : List GD} {n j : Nat} {M : Mem} (hj : j < 12) : Con G (n + 1) kJ0_length_8abf5 [rv (1000 + j)] M (pI (fun a M2 => M = M2 ∧ a = ((s_len.getD j 0 : Nat) : Int))) := by
  refine con_of [some (rv (1000 + j))] plJ0 rfl (Nat.le_of_ble_eq_true rfl) (fun z => ?_)
  refine r_aload_0 dJ0_length_8abf5_0 (r_sval dJ0_length_8abf5_1 (q_t5 125 rfl rfl) hj (r_slen dJ0_length_8abf5_4 hj (r_aload_0 dJ0_length_8abf5_5 ?_)))
  refine r_cWI0 dJ0_length_8abf5_6 w_cod hj (j_cod (n := n) hj) (Nat.lt_succ_self n) (Nat.le_of_ble_eq_true rfl) (fun b M2 h => ?_)
  obtain ⟨rfl, rfl⟩ := h
  refine r_ishr (r := ((s_len.getD j 0 : Nat) : Int)) dJ0_length_8abf5_9 (s_shr j hj) ?_
  exact r_ireturn dJ0_length_8abf5_10 rfl ⟨_, rfl, rfl, rfl⟩
theorem j_chk3 {G : List GD} {n : Nat} {i m : Int} {M : Mem} (hi : 0 ≤ i ∧ i < m) (hm : ib m) : Con G n kJ3_checkIndex_8e157 [iv i, iv m, rv 1012] M (pI (fun a M2 => M = M2 ∧ a = i)) := by
  refine con_of [some (iv i), some (iv m), some (rv 1012)] plJ3 rfl (Nat.le_of_ble_eq_true rfl) (fun z => ?_)
  refine r_iload_0 dJ3_checkIndex_8e157_0 ?_
  refine r_if_lt dJ3_checkIndex_8e157_1 (by omega) (fun c => by omega) (fun _ => ?_)
  refine r_iload_0 dJ3_checkIndex_8e157_4 (r_iload_1 dJ3_checkIndex_8e157_5 ?_)
  refine r_icmp_lt dJ3_checkIndex_8e157_6 (by omega) (by omega) (fun _ => ?_) (fun c => by omega)
  refine r_iload_0 dJ3_checkIndex_8e157_16 ?_
  exact r_ireturn dJ3_checkIndex_8e157_17 rfl ⟨_, rfl, rfl, rfl⟩
theorem j_chk {G : List GD} {n : Nat} {i m : Int} {M : Mem} (hi : 0 ≤ i ∧ i < m) (hm : ib m) : Con G (n + 1) kJ0_checkIndex_df160 [iv i, iv m] M (pV (fun M2 => M = M2)) := by
  refine con_of [some (iv i), some (iv m)] plJ0 rfl (Nat.le_of_ble_eq_true rfl) (fun z => ?_)
  refine r_iload_0 dJ0_checkIndex_df160_0 (r_iload_1 dJ0_checkIndex_df160_1 (r_gsF dJ0_checkIndex_df160_2 (q_t2 77 rfl rfl) ?_))
  refine r_cSI3 dJ0_checkIndex_df160_5 sJ0_1059 (j_chk3 (n := n) hi hm) (Nat.lt_succ_self n) (Nat.le_of_ble_eq_true rfl) (fun b M2 h => ?_)
  obtain ⟨rfl, rfl⟩ := h
  refine r_pop_i dJ0_checkIndex_df160_8 ?_
  exact r_vreturn dJ0_checkIndex_df160_9 rfl ⟨rfl, rfl⟩
theorem j_chr1 {G : List GD} {n i j : Nat} {M : Mem} (hj : j < 12) (hi : i < s_len.getD j 0) : Con G (n + 2) kJ1_charAt_3b067 [rv (2000 + j), iv (i : Int)] M (pI (fun a M2 => M = M2 ∧ a = s_ch j i)) := by
  have hl := s_len_lt j hj
  have ha := s_all j hj i hi
  refine con_of [some (rv (2000 + j)), some (iv (i : Int))] plJ1 rfl (Nat.le_of_ble_eq_true rfl) (fun z => ?_)
  refine r_iload_1 dJ1_charAt_3b067_0 (r_aload_0 dJ1_charAt_3b067_1 (r_slen dJ1_charAt_3b067_2 hj ?_))
  refine r_cSV2 dJ1_charAt_3b067_3 sJ1_9 (j_chk (n := n) (by omega) (by omega)) (Nat.lt_succ_self (n + 1)) (Nat.le_of_ble_eq_true rfl) (fun M2 h => ?_)
  subst h
  refine r_aload_0 dJ1_charAt_3b067_6 (r_iload_1 dJ1_charAt_3b067_7 (r_sbal dJ1_charAt_3b067_8 hj hi (r_sipush dJ1_charAt_3b067_9 (by decide) ?_)))
  refine r_iand (r := s_ch j i) dJ1_charAt_3b067_12 ha.2.1 ?_
  refine r_i2c (r := s_ch j i) dJ1_charAt_3b067_13 ha.2.2.1 ?_
  exact r_creturn dJ1_charAt_3b067_14 rfl ha.2.2.2 ⟨_, rfl, rfl, rfl⟩
theorem j_chr {G : List GD} {n i j : Nat} {M : Mem} (hj : j < 12) (hi : i < s_len.getD j 0) : Con G (n + 3) kJ0_charAt_5068e [rv (1000 + j), iv (i : Int)] M (pI (fun a M2 => M = M2 ∧ a = s_ch j i)) := by
  have ha := s_all j hj i hi
  refine con_of [some (rv (1000 + j)), some (iv (i : Int))] plJ0 rfl (Nat.le_of_ble_eq_true rfl) (fun z => ?_)
  refine r_aload_0 dJ0_charAt_5068e_0 ?_
  refine r_cWI0 dJ0_charAt_5068e_1 w_lat hj (j_lat (n := n) hj) (by omega) (Nat.le_of_ble_eq_true rfl) (fun b M2 h => ?_)
  obtain ⟨rfl, rfl⟩ := h
  refine r_if_eq dJ0_charAt_5068e_4 (by omega) (fun c => absurd c (by decide)) (fun _ => ?_)
  refine r_aload_0 dJ0_charAt_5068e_7 (r_sval dJ0_charAt_5068e_8 (q_t5 125 rfl rfl) hj (r_iload_1 dJ0_charAt_5068e_11 ?_))
  refine r_cSI2 dJ0_charAt_5068e_12 sJ0_495 (j_chr1 (n := n) hj hi) (Nat.lt_succ_self (n + 2)) (Nat.le_of_ble_eq_true rfl) (fun b M2 h => ?_)
  obtain ⟨rfl, rfl⟩ := h
  exact r_creturn dJ0_charAt_5068e_15 rfl ha.2.2.2 ⟨_, rfl, rfl, rfl⟩

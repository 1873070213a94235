set_option maxRecDepth 10000 in
set_option maxHeartbeats 4000000 in
theorem x_fillG {G : List GD} {d : Nat} {M : Mem} {q N : Nat} {v : Int} (hg : G[q]? = some (.inr (.inl N))) (hN : N < 1000) (hv : ib v) : Con G d kJ7_fill_53178 [rv q, iv v] M (pV (fun M2 => M2 = (fun c i => if c = q ∧ i < N then v else M c i))) := by
  refine con_of [some (rv q), some (iv v), none, none] (plJ7) rfl (Nat.le_of_ble_eq_true rfl) (fun z => ?_)
  refine r_iconst dJ7_fill_53178_0 (r_istore_2 dJ7_fill_53178_1 rfl (r_aload_0 dJ7_fill_53178_2 ?_))
  refine r_alen dJ7_fill_53178_3 (hg) ?_
  refine r_istore_3 dJ7_fill_53178_4 rfl ?_
  have lp_5 : ∀ (NN : Nat) (i : Nat) (Mv : Mem) (hi : i ≤ N) (hM : Mv = (fun c j => if c = q ∧ j < i then v else M c j)), N - i < NN → WP kJ7_fill_53178 G d (pV (fun M2 => M2 = (fun c i => if c = q ∧ i < N then v else M c i))) z 5 [some (rv q), some (iv v), some (iv (i : Int)), some (iv (N : Int))] [] Mv := by
    intro NN
    induction NN with
    | zero => intros; omega
    | succ NN ih =>
      intro i Mv hi hM hm
      refine r_iload_2 dJ7_fill_53178_5 ?_
      refine r_iload_3 dJ7_fill_53178_6 ?_
      refine r_icmp_ge dJ7_fill_53178_7 (by omega) (by omega) (fun c_7 => ?_) (fun c_7 => ?_)
      · skip
        have hiN : i = N := by omega
        refine r_vreturn dJ7_fill_53178_20 rfl ?_
        exact ⟨rfl, by rw [hM, hiN]⟩
      · skip
        refine r_aload_0 dJ7_fill_53178_10 (r_iload_2 dJ7_fill_53178_11 (r_iload_1 dJ7_fill_53178_12 ?_))
        refine r_iasN dJ7_fill_53178_13 (hg) (by omega) (by omega) (by omega) ?_
        refine r_iinc_2 dJ7_fill_53178_14 rfl (r_goto dJ7_fill_53178_17 ?_)
        exact ih (i + 1) _ (by omega) (by
          subst hM
          funext c j
          unfold upM
          by_cases h1 : c = q ∧ j = i
          · rw [if_pos h1, if_pos ⟨h1.1, by omega⟩]
          · rw [if_neg h1]
            show (if c = q ∧ j < i then v else M c j) = _
            by_cases h2 : c = q ∧ j < i
            · rw [if_pos h2, if_pos ⟨h2.1, by omega⟩]
            · rw [if_neg h2, if_neg (by omega)]) (by omega)
  exact lp_5 _ 0 M (by omega) (by funext c j; rw [if_neg (by omega)]) (Nat.lt_succ_self _)
set_option maxRecDepth 10000 in
set_option maxHeartbeats 4000000 in
theorem x_addP {M : Mem} {n : Nat} {y : Int} (hn : M 36 3 = (n : Int)) (hn2 : n < 160) (hy : ib y) : Con GX 0 kX3_add [rv 36, iv y] M (pV (fun M2 => M2 = upM (upM M 37 n y) 36 3 ((n : Int) + 1))) := by
  refine con_of [some (rv 36), some (iv y)] (plX3) rfl (Nat.le_of_ble_eq_true rfl) (fun z => ?_)
  refine r_aload_0 dX3_add_0 (r_getE dX3_add_1 fX3_21 (rfl) (rfl) (hn) (r_aload_0 dX3_add_4 (r_getR dX3_add_5 fX3_9 (rfl) (rfl) ?_)))
  refine r_alen dX3_add_8 (rfl) ?_
  refine r_icmp_ge dX3_add_9 (by omega) (by omega) (fun c_9 => ?_) (fun c_9 => ?_)
  · omega
  · skip
    refine r_aload_0 dX3_add_12 (r_getR dX3_add_13 fX3_9 (rfl) (rfl) (r_aload_0 dX3_add_16 (r_getE dX3_add_17 fX3_21 (rfl) (rfl) (hn) (r_iload_1 dX3_add_20 ?_))))
    refine r_iasN dX3_add_21 (rfl) (by omega) (by omega) (by omega) ?_
    refine r_aload_0 dX3_add_22 (r_dup_r dX3_add_23 (r_getE dX3_add_24 fX3_21 (rfl) (rfl) ((upM_ne (by omega)).trans hn) (r_iconst dX3_add_27 (r_iadd dX3_add_28 ?_))))
    refine r_put dX3_add_29 pX3_21 (rfl) (rfl) (by omega) ?_
    refine r_vreturn dX3_add_32 rfl ?_
    exact ⟨rfl, rfl⟩
def plM (M : Mem) : Mem := upM (upM (upM (upM (upM (upM (upM (upM (upM (upM M 36 3 0) 37 0 1) 36 3 1) 38 0 1) 37 1 2) 36 3 2) 38 1 2) 37 2 1) 36 3 3) 38 2 3
set_option maxRecDepth 10000 in
set_option maxHeartbeats 4000000 in
theorem x_plain {M : Mem} : Con GX 2 kX3_becomePlain [rv 36, iv 1, iv 2, iv 1] M (pV (fun M2 => M2 = plM M)) := by
  refine con_of [some (rv 36), some (iv 1), some (iv 2), some (iv 1)] (plX3) rfl (Nat.le_of_ble_eq_true rfl) (fun z => ?_)
  refine r_aload_0 dX3_becomePlain_0 (r_iconst dX3_becomePlain_1 ?_)
  refine r_put dX3_becomePlain_2 pX3_21 (rfl) (rfl) (by omega) ?_
  have hs : upM M 36 3 0 36 3 = ((0 : Nat) : Int) := upM_self
  refine r_aload_0 dX3_becomePlain_5 (r_iload_1 dX3_becomePlain_6 ?_)
  refine r_cVV1 dX3_becomePlain_7 vX3_25 (rfl) (x_addP (n := 0) hs (by omega) (by omega)) (by decide) (Nat.le_of_ble_eq_true rfl) (fun M_7 h_7 => ?_)
  have hs : M_7 36 3 = ((1 : Nat) : Int) := by rw [h_7, upM_self]; rfl
  refine r_aload_0 dX3_becomePlain_10 (r_iconst dX3_becomePlain_11 ?_)
  refine r_cVV1 dX3_becomePlain_12 vX3_29 (rfl) (x_endPart (t := 0) (m := 0) (n := 1) (by decide) (by decide) hs (by decide)) (by decide) (Nat.le_of_ble_eq_true rfl) (fun M_12 h_12 => ?_)
  have hs : M_12 36 3 = ((1 : Nat) : Int) := by rw [h_12, upM_ne (by decide)]; exact hs
  refine r_aload_0 dX3_becomePlain_15 (r_iload_2 dX3_becomePlain_16 ?_)
  refine r_cVV1 dX3_becomePlain_17 vX3_25 (rfl) (x_addP (n := 1) hs (by omega) (by omega)) (by decide) (Nat.le_of_ble_eq_true rfl) (fun M_17 h_17 => ?_)
  have hs : M_17 36 3 = ((2 : Nat) : Int) := by rw [h_17, upM_self]; rfl
  refine r_aload_0 dX3_becomePlain_20 (r_iconst dX3_becomePlain_21 ?_)
  refine r_cVV1 dX3_becomePlain_22 vX3_29 (rfl) (x_endPart (t := 0) (m := 1) (n := 2) (by decide) (by decide) hs (by decide)) (by decide) (Nat.le_of_ble_eq_true rfl) (fun M_22 h_22 => ?_)
  have hs : M_22 36 3 = ((2 : Nat) : Int) := by rw [h_22, upM_ne (by decide)]; exact hs
  refine r_aload_0 dX3_becomePlain_25 (r_iload_3 dX3_becomePlain_26 ?_)
  refine r_cVV1 dX3_becomePlain_27 vX3_25 (rfl) (x_addP (n := 2) hs (by omega) (by omega)) (by decide) (Nat.le_of_ble_eq_true rfl) (fun M_27 h_27 => ?_)
  have hs : M_27 36 3 = ((3 : Nat) : Int) := by rw [h_27, upM_self]; rfl
  refine r_aload_0 dX3_becomePlain_30 (r_iconst dX3_becomePlain_31 ?_)
  refine r_cVV1 dX3_becomePlain_32 vX3_29 (rfl) (x_endPart (t := 0) (m := 2) (n := 3) (by decide) (by decide) hs (by decide)) (by decide) (Nat.le_of_ble_eq_true rfl) (fun M_32 h_32 => ?_)
  have hs : M_32 36 3 = ((3 : Nat) : Int) := by rw [h_32, upM_ne (by decide)]; exact hs
  refine r_vreturn dX3_becomePlain_35 rfl ?_
  exact ⟨rfl, by rw [h_32, h_27, h_22, h_17, h_12, h_7]; rfl⟩
theorem oi_i : Cond.instanceMethod Lib.objectInit ∈ q_tbl := q_t1 22 rfl rfl
theorem oi_c : Cond.code Lib.objectInit ⟨#[0xb1]⟩ 1 none ∈ q_tbl := q_t1 23 rfl rfl
theorem q_arr : Cond.arrayClass .int ∈ q_tbl := q_t1 57 rfl rfl
theorem oiX0 : Cond.methodLink RX0 3 Lib.objectInit ∈ q_tbl := q_t1 63 rfl rfl
theorem oiX1 : Cond.methodLink RX1 3 Lib.objectInit ∈ q_tbl := q_t1 154 rfl rfl
theorem oiX2 : Cond.methodLink RX2 3 Lib.objectInit ∈ q_tbl := q_t1 33 rfl rfl
theorem oiX3 : Cond.methodLink RX3 3 Lib.objectInit ∈ q_tbl := q_t1 135 rfl rfl
theorem oiX4 : Cond.methodLink RX4 3 Lib.objectInit ∈ q_tbl := q_t1 76 rfl rfl
theorem oiX5 : Cond.methodLink RX5 1 Lib.objectInit ∈ q_tbl := q_t1 21 rfl rfl
theorem oiX6 : Cond.methodLink RX6 1 Lib.objectInit ∈ q_tbl := q_t3 196 rfl rfl
theorem ffX2_9 : Ff RX2 9 2 0 := ⟨RX2, TX2, 6, tyX2, .array .int, rfl, by decide, rfl, q_t1 34 rfl rfl, uX2, tyX2_ok, nmX2, rfl, rfl, by decide +kernel, Or.inr ⟨_, rfl⟩⟩
theorem ffX0_15 : Ff RX0 15 0 0 := ⟨RX0, TX0, 2, tyX0, .object "KeysForSecond$Tape", rfl, by decide, rfl, q_t1 64 rfl rfl, uX0, tyX0_ok, nmX0, rfl, rfl, by decide +kernel, Or.inl ⟨_, rfl⟩⟩
theorem ffX4_49 : Ff RX4 49 4 0 := ⟨RX4, TX4, 13, tyX4, .array (.object "KeysForSecond$Text"), rfl, by decide, rfl, q_t1 80 rfl rfl, uX4, tyX4_ok, nmX4, rfl, rfl, by decide +kernel, Or.inr ⟨_, rfl⟩⟩
theorem ffX4_9 : Ff RX4 9 4 1 := ⟨RX4, TX4, 13, tyX4, .array .int, rfl, by decide, rfl, q_t1 81 rfl rfl, uX4, tyX4_ok, nmX4, rfl, rfl, by decide +kernel, Or.inr ⟨_, rfl⟩⟩
theorem ffX4_15 : Ff RX4 15 4 2 := ⟨RX4, TX4, 13, tyX4, .array .int, rfl, by decide, rfl, q_t1 83 rfl rfl, uX4, tyX4_ok, nmX4, rfl, rfl, by decide +kernel, Or.inr ⟨_, rfl⟩⟩
theorem ffX4_18 : Ff RX4 18 4 3 := ⟨RX4, TX4, 13, tyX4, .array .int, rfl, by decide, rfl, q_t1 85 rfl rfl, uX4, tyX4_ok, nmX4, rfl, rfl, by decide +kernel, Or.inr ⟨_, rfl⟩⟩
theorem ffX4_21 : Ff RX4 21 4 4 := ⟨RX4, TX4, 13, tyX4, .array .int, rfl, by decide, rfl, q_t1 87 rfl rfl, uX4, tyX4_ok, nmX4, rfl, rfl, by decide +kernel, Or.inr ⟨_, rfl⟩⟩
theorem ffX4_24 : Ff RX4 24 4 5 := ⟨RX4, TX4, 13, tyX4, .array .int, rfl, by decide, rfl, q_t1 89 rfl rfl, uX4, tyX4_ok, nmX4, rfl, rfl, by decide +kernel, Or.inr ⟨_, rfl⟩⟩
theorem ffX4_27 : Ff RX4 27 4 6 := ⟨RX4, TX4, 13, tyX4, .array .int, rfl, by decide, rfl, q_t1 91 rfl rfl, uX4, tyX4_ok, nmX4, rfl, rfl, by decide +kernel, Or.inr ⟨_, rfl⟩⟩
theorem ffX4_30 : Ff RX4 30 4 7 := ⟨RX4, TX4, 13, tyX4, .array .int, rfl, by decide, rfl, q_t1 93 rfl rfl, uX4, tyX4_ok, nmX4, rfl, rfl, by decide +kernel, Or.inr ⟨_, rfl⟩⟩
theorem ffX4_33 : Ff RX4 33 4 8 := ⟨RX4, TX4, 13, tyX4, .array .int, rfl, by decide, rfl, q_t1 95 rfl rfl, uX4, tyX4_ok, nmX4, rfl, rfl, by decide +kernel, Or.inr ⟨_, rfl⟩⟩
theorem ffX4_36 : Ff RX4 36 4 9 := ⟨RX4, TX4, 13, tyX4, .array .int, rfl, by decide, rfl, q_t1 97 rfl rfl, uX4, tyX4_ok, nmX4, rfl, rfl, by decide +kernel, Or.inr ⟨_, rfl⟩⟩
theorem ffX3_9 : Ff RX3 9 3 0 := ⟨RX3, TX3, 4, tyX3, .array .int, rfl, by decide, rfl, q_t1 136 rfl rfl, uX3, tyX3_ok, nmX3, rfl, rfl, by decide +kernel, Or.inr ⟨_, rfl⟩⟩
theorem ffX3_15 : Ff RX3 15 3 1 := ⟨RX3, TX3, 4, tyX3, .array .int, rfl, by decide, rfl, q_t1 137 rfl rfl, uX3, tyX3_ok, nmX3, rfl, rfl, by decide +kernel, Or.inr ⟨_, rfl⟩⟩
theorem ffX3_18 : Ff RX3 18 3 2 := ⟨RX3, TX3, 4, tyX3, .array .int, rfl, by decide, rfl, q_t1 138 rfl rfl, uX3, tyX3_ok, nmX3, rfl, rfl, by decide +kernel, Or.inr ⟨_, rfl⟩⟩
theorem ffX1_9 : Ff RX1 9 1 0 := ⟨RX1, TX1, 3, tyX1, .array .int, rfl, by decide, rfl, q_t1 155 rfl rfl, uX1, tyX1_ok, nmX1, rfl, rfl, by decide +kernel, Or.inr ⟨_, rfl⟩⟩
theorem ffX5_11 : Ff RX5 11 5 0 := ⟨RX5, TX5, 9, tyX5, .array (.object "KeysForSecond$Text"), rfl, by decide, rfl, q_t1 180 rfl rfl, uX5, tyX5_ok, nmX5, rfl, rfl, by decide +kernel, Or.inr ⟨_, rfl⟩⟩
theorem ffX5_17 : Ff RX5 17 5 1 := ⟨RX5, TX5, 9, tyX5, .array (.object "KeysForSecond$Sheet"), rfl, by decide, rfl, q_t1 181 rfl rfl, uX5, tyX5_ok, nmX5, rfl, rfl, by decide +kernel, Or.inr ⟨_, rfl⟩⟩
theorem ffX5_24 : Ff RX5 24 5 2 := ⟨RX5, TX5, 9, tyX5, .object "KeysForSecond$Tape", rfl, by decide, rfl, q_t1 182 rfl rfl, uX5, tyX5_ok, nmX5, rfl, rfl, by decide +kernel, Or.inl ⟨_, rfl⟩⟩
theorem ffX5_33 : Ff RX5 33 5 3 := ⟨RX5, TX5, 9, tyX5, .object "KeysForSecond$Grammar", rfl, by decide, rfl, q_t1 183 rfl rfl, uX5, tyX5_ok, nmX5, rfl, rfl, by decide +kernel, Or.inl ⟨_, rfl⟩⟩
theorem ffX5_42 : Ff RX5 42 5 4 := ⟨RX5, TX5, 9, tyX5, .object "KeysForSecond$Town", rfl, by decide, rfl, q_t1 184 rfl rfl, uX5, tyX5_ok, nmX5, rfl, rfl, by decide +kernel, Or.inl ⟨_, rfl⟩⟩
theorem ffX5_46 : Ff RX5 46 5 5 := ⟨RX5, TX5, 9, tyX5, .object "KeysForSecond$Town", rfl, by decide, rfl, q_t1 185 rfl rfl, uX5, tyX5_ok, nmX5, rfl, rfl, by decide +kernel, Or.inl ⟨_, rfl⟩⟩
theorem ffX5_49 : Ff RX5 49 5 6 := ⟨RX5, TX5, 9, tyX5, .object "KeysForSecond$Town", rfl, by decide, rfl, q_t1 186 rfl rfl, uX5, tyX5_ok, nmX5, rfl, rfl, by decide +kernel, Or.inl ⟨_, rfl⟩⟩
theorem ffX6_7 : Ff RX6 7 6 1 := ⟨RX6, TX6, 32, tyX6, .array .int, rfl, by decide, rfl, q_t4 5 rfl rfl, uX6, tyX6_ok, nmX6, rfl, rfl, by decide +kernel, Or.inr ⟨_, rfl⟩⟩
theorem ffX6_13 : Ff RX6 13 6 2 := ⟨RX6, TX6, 32, tyX6, .array .int, rfl, by decide, rfl, q_t4 6 rfl rfl, uX6, tyX6_ok, nmX6, rfl, rfl, by decide +kernel, Or.inr ⟨_, rfl⟩⟩
theorem ffX6_16 : Ff RX6 16 6 3 := ⟨RX6, TX6, 32, tyX6, .array .int, rfl, by decide, rfl, q_t4 7 rfl rfl, uX6, tyX6_ok, nmX6, rfl, rfl, by decide +kernel, Or.inr ⟨_, rfl⟩⟩
theorem ffX6_19 : Ff RX6 19 6 4 := ⟨RX6, TX6, 32, tyX6, .array .int, rfl, by decide, rfl, q_t4 8 rfl rfl, uX6, tyX6_ok, nmX6, rfl, rfl, by decide +kernel, Or.inr ⟨_, rfl⟩⟩
theorem ffX6_22 : Ff RX6 22 6 6 := ⟨RX6, TX6, 32, tyX6, .array .int, rfl, by decide, rfl, q_t4 10 rfl rfl, uX6, tyX6_ok, nmX6, rfl, rfl, by decide +kernel, Or.inr ⟨_, rfl⟩⟩
theorem ffX6_25 : Ff RX6 25 6 8 := ⟨RX6, TX6, 32, tyX6, .array .int, rfl, by decide, rfl, q_t4 12 rfl rfl, uX6, tyX6_ok, nmX6, rfl, rfl, by decide +kernel, Or.inr ⟨_, rfl⟩⟩
theorem ffX6_28 : Ff RX6 28 6 9 := ⟨RX6, TX6, 32, tyX6, .array .int, rfl, by decide, rfl, q_t4 13 rfl rfl, uX6, tyX6_ok, nmX6, rfl, rfl, by decide +kernel, Or.inr ⟨_, rfl⟩⟩
theorem ffX6_31 : Ff RX6 31 6 13 := ⟨RX6, TX6, 32, tyX6, .array .int, rfl, by decide, rfl, q_t4 17 rfl rfl, uX6, tyX6_ok, nmX6, rfl, rfl, by decide +kernel, Or.inr ⟨_, rfl⟩⟩
theorem ffX6_34 : Ff RX6 34 6 14 := ⟨RX6, TX6, 32, tyX6, .array .int, rfl, by decide, rfl, q_t4 18 rfl rfl, uX6, tyX6_ok, nmX6, rfl, rfl, by decide +kernel, Or.inr ⟨_, rfl⟩⟩
theorem ffX6_37 : Ff RX6 37 6 15 := ⟨RX6, TX6, 32, tyX6, .array .int, rfl, by decide, rfl, q_t4 19 rfl rfl, uX6, tyX6_ok, nmX6, rfl, rfl, by decide +kernel, Or.inr ⟨_, rfl⟩⟩
theorem ffX6_40 : Ff RX6 40 6 16 := ⟨RX6, TX6, 32, tyX6, .array .int, rfl, by decide, rfl, q_t4 20 rfl rfl, uX6, tyX6_ok, nmX6, rfl, rfl, by decide +kernel, Or.inr ⟨_, rfl⟩⟩
theorem ffX6_43 : Ff RX6 43 6 17 := ⟨RX6, TX6, 32, tyX6, .array .int, rfl, by decide, rfl, q_t4 21 rfl rfl, uX6, tyX6_ok, nmX6, rfl, rfl, by decide +kernel, Or.inr ⟨_, rfl⟩⟩
theorem ffX6_46 : Ff RX6 46 6 18 := ⟨RX6, TX6, 32, tyX6, .array .int, rfl, by decide, rfl, q_t4 22 rfl rfl, uX6, tyX6_ok, nmX6, rfl, rfl, by decide +kernel, Or.inr ⟨_, rfl⟩⟩
theorem ffX6_49 : Ff RX6 49 6 23 := ⟨RX6, TX6, 32, tyX6, .array .int, rfl, by decide, rfl, q_t4 27 rfl rfl, uX6, tyX6_ok, nmX6, rfl, rfl, by decide +kernel, Or.inr ⟨_, rfl⟩⟩
theorem ffX6_52 : Ff RX6 52 6 24 := ⟨RX6, TX6, 32, tyX6, .array .int, rfl, by decide, rfl, q_t4 28 rfl rfl, uX6, tyX6_ok, nmX6, rfl, rfl, by decide +kernel, Or.inr ⟨_, rfl⟩⟩
theorem ffX6_55 : Ff RX6 55 6 28 := ⟨RX6, TX6, 32, tyX6, .array .int, rfl, by decide, rfl, q_t4 32 rfl rfl, uX6, tyX6_ok, nmX6, rfl, rfl, by decide +kernel, Or.inr ⟨_, rfl⟩⟩
theorem ffX6_58 : Ff RX6 58 6 29 := ⟨RX6, TX6, 32, tyX6, .array .int, rfl, by decide, rfl, q_t4 33 rfl rfl, uX6, tyX6_ok, nmX6, rfl, rfl, by decide +kernel, Or.inr ⟨_, rfl⟩⟩
theorem ffX6_61 : Ff RX6 61 6 30 := ⟨RX6, TX6, 32, tyX6, .array .int, rfl, by decide, rfl, q_t4 34 rfl rfl, uX6, tyX6_ok, nmX6, rfl, rfl, by decide +kernel, Or.inr ⟨_, rfl⟩⟩
theorem nwX5_21 : Nw RX5 21 2 6 [some none, none, none, none, none, none] := ⟨RX2, TX2, tyX2, rfl, q_t1 28 rfl rfl, q_t1 29 rfl rfl, q_t1 2 rfl rfl, uX2, tyX2_ok, fun j hj => by
  rcases (by omega : j = 0 ∨ j = 1 ∨ j = 2 ∨ j = 3 ∨ j = 4 ∨ j = 5) with rfl | rfl | rfl | rfl | rfl | rfl <;> first | exact Or.inl ⟨rfl, rfl⟩ | exact Or.inr ⟨rfl, rfl⟩⟩
theorem nwX5_28 : Nw RX5 28 0 2 [some none, none] := ⟨RX0, TX0, tyX0, rfl, q_t1 58 rfl rfl, q_t1 59 rfl rfl, q_t1 3 rfl rfl, uX0, tyX0_ok, fun j hj => by
  rcases (by omega : j = 0 ∨ j = 1) with rfl | rfl <;> first | exact Or.inl ⟨rfl, rfl⟩ | exact Or.inr ⟨rfl, rfl⟩⟩
theorem nwX5_37 : Nw RX5 37 4 13 [some none, some none, some none, some none, some none, some none, some none, some none, some none, some none, none, none, none] := ⟨RX4, TX4, tyX4, rfl, q_t1 71 rfl rfl, q_t1 72 rfl rfl, q_t1 4 rfl rfl, uX4, tyX4_ok, fun j hj => by
  rcases (by omega : j = 0 ∨ j = 1 ∨ j = 2 ∨ j = 3 ∨ j = 4 ∨ j = 5 ∨ j = 6 ∨ j = 7 ∨ j = 8 ∨ j = 9 ∨ j = 10 ∨ j = 11 ∨ j = 12) with rfl | rfl | rfl | rfl | rfl | rfl | rfl | rfl | rfl | rfl | rfl | rfl | rfl <;> first | exact Or.inl ⟨rfl, rfl⟩ | exact Or.inr ⟨rfl, rfl⟩⟩
theorem nwX5_9 : Nw RX5 9 3 4 [some none, some none, some none, none] := ⟨RX3, TX3, tyX3, rfl, q_t1 24 rfl rfl, q_t1 131 rfl rfl, q_t1 6 rfl rfl, uX3, tyX3_ok, fun j hj => by
  rcases (by omega : j = 0 ∨ j = 1 ∨ j = 2 ∨ j = 3) with rfl | rfl | rfl | rfl <;> first | exact Or.inl ⟨rfl, rfl⟩ | exact Or.inr ⟨rfl, rfl⟩⟩
theorem nwX5_15 : Nw RX5 15 1 3 [some none, none, none] := ⟨RX1, TX1, tyX1, rfl, q_t1 26 rfl rfl, q_t1 150 rfl rfl, q_t1 7 rfl rfl, uX1, tyX1_ok, fun j hj => by
  rcases (by omega : j = 0 ∨ j = 1 ∨ j = 2) with rfl | rfl | rfl <;> first | exact Or.inl ⟨rfl, rfl⟩ | exact Or.inr ⟨rfl, rfl⟩⟩
theorem nwL_7 : Nw RL 7 5 9 [some none, some none, some none, some none, some none, some none, some none, none, none] := ⟨RX5, TX5, tyX5, rfl, q_t1 16 rfl rfl, q_t1 17 rfl rfl, q_t1 1 rfl rfl, uX5, tyX5_ok, fun j hj => by
  rcases (by omega : j = 0 ∨ j = 1 ∨ j = 2 ∨ j = 3 ∨ j = 4 ∨ j = 5 ∨ j = 6 ∨ j = 7 ∨ j = 8) with rfl | rfl | rfl | rfl | rfl | rfl | rfl | rfl | rfl <;> first | exact Or.inl ⟨rfl, rfl⟩ | exact Or.inr ⟨rfl, rfl⟩⟩
theorem nwL_10 : Nw RL 10 6 32 [none, some none, some none, some none, some none, none, some none, none, some none, some none, none, none, none, some none, some none, some none, some none, some none, some none, none, none, none, none, some none, some none, none, none, none, some none, some none, some none, none] := ⟨RX6, TX6, tyX6, rfl, q_t3 191 rfl rfl, q_t3 192 rfl rfl, q_t1 8 rfl rfl, uX6, tyX6_ok, fun j hj => by
  rcases (by omega : j = 0 ∨ j = 1 ∨ j = 2 ∨ j = 3 ∨ j = 4 ∨ j = 5 ∨ j = 6 ∨ j = 7 ∨ j = 8 ∨ j = 9 ∨ j = 10 ∨ j = 11 ∨ j = 12 ∨ j = 13 ∨ j = 14 ∨ j = 15 ∨ j = 16 ∨ j = 17 ∨ j = 18 ∨ j = 19 ∨ j = 20 ∨ j = 21 ∨ j = 22 ∨ j = 23 ∨ j = 24 ∨ j = 25 ∨ j = 26 ∨ j = 27 ∨ j = 28 ∨ j = 29 ∨ j = 30 ∨ j = 31) with rfl | rfl | rfl | rfl | rfl | rfl | rfl | rfl | rfl | rfl | rfl | rfl | rfl | rfl | rfl | rfl | rfl | rfl | rfl | rfl | rfl | rfl | rfl | rfl | rfl | rfl | rfl | rfl | rfl | rfl | rfl | rfl <;> first | exact Or.inl ⟨rfl, rfl⟩ | exact Or.inr ⟨rfl, rfl⟩⟩
theorem clX5_9 : Cond.classLink RX5 9 "KeysForSecond$Text" ∈ q_tbl := q_t1 24 rfl rfl
theorem clX5_15 : Cond.classLink RX5 15 "KeysForSecond$Sheet" ∈ q_tbl := q_t1 26 rfl rfl
section
variable {k : MD} {d mc ms : Nat} {G1 : List GE} {M1 : Mem → Prop} {z : ZZ} {pc pc2 : Nat} {L : List (Option PV)} {S : List PV} {G : List GE} {M : Mem} {cells slots : Nat}
theorem n_ctor0 {idx d2 mc2 ms2 ci q : Nat} {fs : List (Option (Option Nat))} {y : MD} {G2 : List GE} {P2 : Mem → Prop} (hd : Dk k pc (.invokespecial idx) 3 pc2) (hb : Cb y 0) (hy : y.2.2.2 = none ∧ y.1.name = "<init>") (hl : Cond.methodLink k.1.cls idx y.1 ∈ q_tbl ∧ Cond.instanceMethod y.1 ∈ q_tbl) (hg : G[q]? = some (.inl (ci, fs))) (hnr : fs.all (fun f => match f with | some (some _) => false | _ => true) = true) (hC : CT y d2 mc2 ms2 (.inl (ci, fs)) [] G2 P2) (hdn : d2 < d) (hW : (S.map cat).sum ≤ 8) (hcl : cells + 1 = G.length) (hlen : G.length + G2.length ≤ 900 ∧ 1 ≤ G2.length ∧ G2.all (okR G2.length) = true) (hc : cells + mc2 ≤ mc ∧ slots + ms2 ≤ ms) (hz : ∀ i, M q i = 0) (kk : ∀ M2, P2 M2 → WN k d mc ms G1 M1 z pc2 L S (gjn G G2 G.length q 0) (mrg M M2 G.length q) (cells + mc2) (slots + ms2)) : WN k d mc ms G1 M1 z pc L (rv q :: S) G M cells slots :=
  n_ctor (xs := []) (a := 0) (np := 0) hd hb hy hl hg hnr hC (fun _ h => absurd h List.not_mem_nil) rfl hdn hW hcl hlen hc hz kk
theorem n_ctor1 {idx d2 mc2 ms2 ci q a : Nat} {fs : List (Option (Option Nat))} {y : MD} {G2 : List GE} {P2 : Mem → Prop} (hd : Dk k pc (.invokespecial idx) 3 pc2) (hb : Cb y 1) (hy : y.2.2.2 = none ∧ y.1.name = "<init>") (hl : Cond.methodLink k.1.cls idx y.1 ∈ q_tbl ∧ Cond.instanceMethod y.1 ∈ q_tbl) (hg : G[q]? = some (.inl (ci, fs))) (hnr : fs.all (fun f => match f with | some (some _) => false | _ => true) = true) (hC : CT y d2 mc2 ms2 (.inl (ci, fs)) [900] G2 P2) (hdn : d2 < d) (hW : (S.map cat).sum ≤ 8) (hcl : cells + 1 = G.length) (hlen : G.length + G2.length ≤ 900 ∧ 1 ≤ G2.length ∧ G2.all (okR G2.length) = true) (hc : cells + mc2 ≤ mc ∧ slots + ms2 ≤ ms) (hz : ∀ i, M q i = 0) (kk : ∀ M2, P2 M2 → WN k d mc ms G1 M1 z pc2 L S (gjn G G2 G.length q a) (mrg M M2 G.length q) (cells + mc2) (slots + ms2)) : WN k d mc ms G1 M1 z pc L (rv a :: rv q :: S) G M cells slots :=
  n_ctor (xs := [900]) (np := 1) hd hb hy hl hg hnr hC (fun x h => List.mem_singleton.mp h) rfl hdn hW hcl hlen hc hz kk
theorem n_ctorN0 {idx d2 mc2 ms2 ci q : Nat} {host : String} {fs : List (Option (Option Nat))} {y : MD} {G2 : List GE} {P2 : Mem → Prop} (hd : Dk k pc (.invokespecial idx) 3 pc2) (hb : Cb y 0) (hy : y.2.2.2 = none ∧ y.1.name = "<init>") (hl : (k.1.cls, idx, y.1, host) ∈ q_nct ∧ Cond.instanceMethod y.1 ∈ q_tbl) (hg : G[q]? = some (.inl (ci, fs))) (hnr : fs.all (fun f => match f with | some (some _) => false | _ => true) = true) (hC : CT y d2 mc2 ms2 (.inl (ci, fs)) [] G2 P2) (hdn : d2 < d) (hW : (S.map cat).sum ≤ 8) (hcl : cells + 1 = G.length) (hlen : G.length + G2.length ≤ 900 ∧ 1 ≤ G2.length ∧ G2.all (okR G2.length) = true) (hc : cells + mc2 ≤ mc ∧ slots + ms2 ≤ ms) (hz : ∀ i, M q i = 0) (kk : ∀ M2, P2 M2 → WN k d mc ms G1 M1 z pc2 L S (gjn G G2 G.length q 0) (mrg M M2 G.length q) (cells + mc2) (slots + ms2)) : WN k d mc ms G1 M1 z pc L (rv q :: S) G M cells slots :=
  n_ctorN (xs := []) (a := 0) (np := 0) hd hb hy hl hg hnr hC (fun _ h => absurd h List.not_mem_nil) rfl hdn hW hcl hlen hc hz kk
theorem n_fill {q n : Nat} {v : Int} {Gd : List GD} (hd : Dk k pc (.invokestatic 53) 3 pc2) (hk : k.1.cls = RX4) (hG : Gd.map em = G) (hGl : Gd.length < 900) (hg : Gd[q]? = some (.inr (.inl n))) (hn : n < 1000) (hv : ib v) (hdn : 0 < d) (hW : (S.map cat).sum ≤ 8) (hc : cells ≤ mc ∧ slots ≤ ms) (kk : WN k d mc ms G1 M1 z pc2 L S G (fun c i => if c = q ∧ i < n then v else M c i) cells slots) : WN k d mc ms G1 M1 z pc L (iv v :: rv q :: S) G M cells slots :=
  n_conS (As := [rv q, iv v]) hd (by rw [hk]; exact sX4_53) hG hGl (x_fillG (d := 0) hg hn hv) rfl hdn hW hc (fun r M2 h => by
    obtain ⟨rfl, rfl⟩ := h
    exact kk)
theorem n_plain {Gd : List GD} (hd : Dk k pc (.invokevirtual 62) 3 pc2) (hk : k.1.cls = RX5) (hG : Gd.map em = G) (hGd : Gd = GX) (hdn : 2 < d) (hc : cells ≤ mc ∧ slots ≤ ms) (kk : WN k d mc ms G1 M1 z pc2 L [] G (plM M) cells slots) : WN k d mc ms G1 M1 z pc L [iv 1, iv 2, iv 1, rv 36] G M cells slots := by
  subst hGd
  exact n_conV (q := 36) (S := []) (As := [iv 1, iv 2, iv 1]) hd (by rw [hk]; exact vX5_62) hG (by decide) rfl x_plain rfl hdn (by decide) hc (fun r M2 h => by
    obtain ⟨rfl, rfl⟩ := h
    exact kk)
theorem n_text {nT tn : Nat} {X : Nat → Tx} {τ τi : Tn} {img : Bool} {tp ss sz : Nat → Int} {cl : Nat → Nat → Int} (hd : Dk k pc (.invokevirtual 68) 3 pc2) (hk : k.1.cls = RX6) (hG : GM.map em = G) (hR : RM M (nT, X, τ, img, τi, tn, tp, ss, sz, cl)) (iT6 : nT ≤ 6) (itn : tn ≤ 160) (itp : ∀ i, i < tn → 0 ≤ tp i ∧ tp i ≤ 255) (hdn : 9 < d) (hc : cells ≤ mc ∧ slots ≤ ms) (kk : ∀ a M2, RM M2 (t_text (nT, X, τ, img, τi, tn, tp, ss, sz, cl)) → WN k d mc ms G1 M1 z pc2 L [iv a] G M2 cells slots) : WN k d mc ms G1 M1 z pc L [rv 0] G M cells slots :=
  n_conV (q := 0) (S := []) (As := []) hd (by rw [hk]; exact vX6_68) hG (by decide) rfl (m_text hR iT6 itn itp) rfl hdn (by decide) hc (fun r M2 h => by
    obtain ⟨a, rfl, -, h2⟩ := h
    exact kk a M2 h2)
end

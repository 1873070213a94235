set_option maxRecDepth 10000 in
set_option maxHeartbeats 4000000 in
theorem x_has {n : Nat} {M : Mem} {s : Nat} {i y : Int} (hs : s < 4) (hz : M (60 + 2 * s) 2 = y) (hy : ib y) (hi : ib i) : Con GX n kX1_has [rv (60 + 2 * s), iv i] M (pI (fun a M2 => M = M2 ∧ a = bi (decide (0 ≤ i ∧ i < y)))) := by
  refine con_of [some (rv (60 + 2 * s)), some (iv i)] (plX1) rfl (Nat.le_of_ble_eq_true rfl) (fun z => ?_)
  refine r_iload_1 dX1_has_0 ?_
  refine r_if_lt dX1_has_1 (by omega) (fun c_1 => ?_) (fun c_1 => ?_)
  · skip
    refine r_iconst dX1_has_16 ?_
    refine r_zreturn dX1_has_17 rfl (by first | exact bi_01 _ | omega | decide) ?_
    refine ⟨_, rfl, rfl, ?_⟩
    first | exact bi_t (by omega) | exact bi_f (by omega)
  · skip
    refine r_iload_1 dX1_has_4 (r_aload_0 dX1_has_5 (r_getE dX1_has_6 fX1_19 (gS0 hs) (rfl) (hz) ?_))
    refine r_icmp_ge dX1_has_9 (by omega) (by omega) (fun c_9 => ?_) (fun c_9 => ?_)
    · skip
      refine r_iconst dX1_has_16 ?_
      refine r_zreturn dX1_has_17 rfl (by first | exact bi_01 _ | omega | decide) ?_
      refine ⟨_, rfl, rfl, ?_⟩
      first | exact bi_t (by omega) | exact bi_f (by omega)
    · skip
      refine r_iconst dX1_has_12 (r_goto dX1_has_13 ?_)
      refine r_zreturn dX1_has_17 rfl (by first | exact bi_01 _ | omega | decide) ?_
      refine ⟨_, rfl, rfl, ?_⟩
      first | exact bi_t (by omega) | exact bi_f (by omega)
set_option maxRecDepth 10000 in
set_option maxHeartbeats 4000000 in
theorem x_hasRow {n : Nat} {M : Mem} {s : Nat} {i m y : Int} (hs : s < 4) (hz : M (60 + 2 * s) 2 = y) (hy : 0 ≤ y ∧ y ≤ 40) (hi : ib i) (hm : ib m) : Con GX n kX1_hasRow [rv (60 + 2 * s), iv i, iv m] M (pI (fun a M2 => M = M2 ∧ a = bi (decide (0 ≤ i ∧ 0 ≤ m ∧ i ≤ y ∧ m ≤ y - i)))) := by
  refine con_of [some (rv (60 + 2 * s)), some (iv i), some (iv m)] (plX1) rfl (Nat.le_of_ble_eq_true rfl) (fun z => ?_)
  refine r_iload_1 dX1_hasRow_0 ?_
  refine r_if_lt dX1_hasRow_1 (by omega) (fun c_1 => ?_) (fun c_1 => ?_)
  · skip
    refine r_iconst dX1_hasRow_30 ?_
    refine r_zreturn dX1_hasRow_31 rfl (by first | exact bi_01 _ | omega | decide) ?_
    refine ⟨_, rfl, rfl, ?_⟩
    first | exact bi_t (by omega) | exact bi_f (by omega)
  · skip
    refine r_iload_2 dX1_hasRow_4 ?_
    refine r_if_lt dX1_hasRow_5 (by omega) (fun c_5 => ?_) (fun c_5 => ?_)
    · skip
      refine r_iconst dX1_hasRow_30 ?_
      refine r_zreturn dX1_hasRow_31 rfl (by first | exact bi_01 _ | omega | decide) ?_
      refine ⟨_, rfl, rfl, ?_⟩
      first | exact bi_t (by omega) | exact bi_f (by omega)
    · skip
      refine r_iload_1 dX1_hasRow_8 (r_aload_0 dX1_hasRow_9 (r_getE dX1_hasRow_10 fX1_19 (gS0 hs) (rfl) (hz) ?_))
      refine r_icmp_gt dX1_hasRow_13 (by omega) (by omega) (fun c_13 => ?_) (fun c_13 => ?_)
      · skip
        refine r_iconst dX1_hasRow_30 ?_
        refine r_zreturn dX1_hasRow_31 rfl (by first | exact bi_01 _ | omega | decide) ?_
        refine ⟨_, rfl, rfl, ?_⟩
        first | exact bi_t (by omega) | exact bi_f (by omega)
      · skip
        refine r_iload_2 dX1_hasRow_16 (r_aload_0 dX1_hasRow_17 (r_getE dX1_hasRow_18 fX1_19 (gS0 hs) (rfl) (hz) (r_iload_1 dX1_hasRow_21 (r_isub dX1_hasRow_22 ?_))))
        refine r_icmp_gt dX1_hasRow_23 (by omega) (by omega) (fun c_23 => ?_) (fun c_23 => ?_)
        · skip
          refine r_iconst dX1_hasRow_30 ?_
          refine r_zreturn dX1_hasRow_31 rfl (by first | exact bi_01 _ | omega | decide) ?_
          refine ⟨_, rfl, rfl, ?_⟩
          first | exact bi_t (by omega) | exact bi_f (by omega)
        · skip
          refine r_iconst dX1_hasRow_26 (r_goto dX1_hasRow_27 ?_)
          refine r_zreturn dX1_hasRow_31 rfl (by first | exact bi_01 _ | omega | decide) ?_
          refine ⟨_, rfl, rfl, ?_⟩
          first | exact bi_t (by omega) | exact bi_f (by omega)

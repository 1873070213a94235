theorem bi_t {p : Prop} [Decidable p] (h : p) : (1 : Int) = bi (decide p) := by simp [bi, h]
theorem bi_f {p : Prop} [Decidable p] (h : ¬ p) : (0 : Int) = bi (decide p) := by simp [bi, h]
def rk (t : Int) : Int := if t = 259 then 0 else if t = 260 then 1 else if t = 60 ∨ t = 61 then 2 else if t = 43 ∨ t = 45 then 3 else if t = 42 then 4 else -1
set_option maxRecDepth 10000 in
set_option maxHeartbeats 4000000 in
theorem x_within {d : Nat} {M : Mem} {v lo hi : Int} (h1 : ib v) (h2 : ib lo) (h3 : ib hi) : Con GX d kX5_within [iv v, iv lo, iv hi] M (pI (fun a M2 => M = M2 ∧ a = bi (decide (lo ≤ v ∧ v ≤ hi)))) := by
  refine con_of [some (iv v), some (iv lo), some (iv hi)] (plX5) rfl (Nat.le_of_ble_eq_true rfl) (fun z => ?_)
  refine r_iload_0 dX5_within_0 (r_iload_1 dX5_within_1 ?_)
  refine r_icmp_lt dX5_within_2 (by omega) (by omega) (fun c_2 => ?_) (fun c_2 => ?_)
  · skip
    refine r_iconst dX5_within_14 ?_
    refine r_zreturn dX5_within_15 rfl (by first | exact bi_01 _ | omega | decide) ?_
    first | exact ⟨_, rfl, rfl, bi_t (by omega)⟩ | exact ⟨_, rfl, rfl, bi_f (by omega)⟩
  · skip
    refine r_iload_0 dX5_within_5 (r_iload_2 dX5_within_6 ?_)
    refine r_icmp_gt dX5_within_7 (by omega) (by omega) (fun c_7 => ?_) (fun c_7 => ?_)
    · skip
      refine r_iconst dX5_within_14 ?_
      refine r_zreturn dX5_within_15 rfl (by first | exact bi_01 _ | omega | decide) ?_
      first | exact ⟨_, rfl, rfl, bi_t (by omega)⟩ | exact ⟨_, rfl, rfl, bi_f (by omega)⟩
    · skip
      refine r_iconst dX5_within_10 (r_goto dX5_within_11 ?_)
      refine r_zreturn dX5_within_15 rfl (by first | exact bi_01 _ | omega | decide) ?_
      first | exact ⟨_, rfl, rfl, bi_t (by omega)⟩ | exact ⟨_, rfl, rfl, bi_f (by omega)⟩
set_option maxRecDepth 10000 in
set_option maxHeartbeats 4000000 in
theorem x_isDoor {d : Nat} {M : Mem} {v : Int} (h1 : ib v) : Con GX d kX5_isDoor [iv v] M (pI (fun a M2 => M = M2 ∧ a = bi (decide (0 ≤ v ∧ v < 8)))) := by
  refine con_of [some (iv v)] (plX5) rfl (Nat.le_of_ble_eq_true rfl) (fun z => ?_)
  refine r_iload_0 dX5_isDoor_0 ?_
  refine r_if_lt dX5_isDoor_1 (by omega) (fun c_1 => ?_) (fun c_1 => ?_)
  · skip
    refine r_iconst dX5_isDoor_14 ?_
    refine r_zreturn dX5_isDoor_15 rfl (by first | exact bi_01 _ | omega | decide) ?_
    first | exact ⟨_, rfl, rfl, bi_t (by omega)⟩ | exact ⟨_, rfl, rfl, bi_f (by omega)⟩
  · skip
    refine r_iload_0 dX5_isDoor_4 (r_bipush dX5_isDoor_5 (by decide) ?_)
    refine r_icmp_ge dX5_isDoor_7 (by omega) (by omega) (fun c_7 => ?_) (fun c_7 => ?_)
    · skip
      refine r_iconst dX5_isDoor_14 ?_
      refine r_zreturn dX5_isDoor_15 rfl (by first | exact bi_01 _ | omega | decide) ?_
      first | exact ⟨_, rfl, rfl, bi_t (by omega)⟩ | exact ⟨_, rfl, rfl, bi_f (by omega)⟩
    · skip
      refine r_iconst dX5_isDoor_10 (r_goto dX5_isDoor_11 ?_)
      refine r_zreturn dX5_isDoor_15 rfl (by first | exact bi_01 _ | omega | decide) ?_
      first | exact ⟨_, rfl, rfl, bi_t (by omega)⟩ | exact ⟨_, rfl, rfl, bi_f (by omega)⟩
set_option maxRecDepth 10000 in
set_option maxHeartbeats 4000000 in
theorem x_isSheet {d : Nat} {M : Mem} {v : Int} (h1 : ib v) : Con GX d kX5_isSheet [iv v] M (pI (fun a M2 => M = M2 ∧ a = bi (decide (0 ≤ v ∧ v < 4)))) := by
  refine con_of [some (iv v)] (plX5) rfl (Nat.le_of_ble_eq_true rfl) (fun z => ?_)
  refine r_iload_0 dX5_isSheet_0 ?_
  refine r_if_lt dX5_isSheet_1 (by omega) (fun c_1 => ?_) (fun c_1 => ?_)
  · skip
    refine r_iconst dX5_isSheet_13 ?_
    refine r_zreturn dX5_isSheet_14 rfl (by first | exact bi_01 _ | omega | decide) ?_
    first | exact ⟨_, rfl, rfl, bi_t (by omega)⟩ | exact ⟨_, rfl, rfl, bi_f (by omega)⟩
  · skip
    refine r_iload_0 dX5_isSheet_4 (r_iconst dX5_isSheet_5 ?_)
    refine r_icmp_ge dX5_isSheet_6 (by omega) (by omega) (fun c_6 => ?_) (fun c_6 => ?_)
    · skip
      refine r_iconst dX5_isSheet_13 ?_
      refine r_zreturn dX5_isSheet_14 rfl (by first | exact bi_01 _ | omega | decide) ?_
      first | exact ⟨_, rfl, rfl, bi_t (by omega)⟩ | exact ⟨_, rfl, rfl, bi_f (by omega)⟩
    · skip
      refine r_iconst dX5_isSheet_9 (r_goto dX5_isSheet_10 ?_)
      refine r_zreturn dX5_isSheet_14 rfl (by first | exact bi_01 _ | omega | decide) ?_
      first | exact ⟨_, rfl, rfl, bi_t (by omega)⟩ | exact ⟨_, rfl, rfl, bi_f (by omega)⟩
set_option maxRecDepth 10000 in
set_option maxHeartbeats 4000000 in
theorem x_isByte {d : Nat} {M : Mem} {v : Int} (h1 : ib v) : Con GX d kX5_isByte [iv v] M (pI (fun a M2 => M = M2 ∧ a = bi (decide (0 ≤ v ∧ v ≤ 255)))) := by
  refine con_of [some (iv v)] (plX5) rfl (Nat.le_of_ble_eq_true rfl) (fun z => ?_)
  refine r_iload_0 dX5_isByte_0 ?_
  refine r_if_lt dX5_isByte_1 (by omega) (fun c_1 => ?_) (fun c_1 => ?_)
  · skip
    refine r_iconst dX5_isByte_15 ?_
    refine r_zreturn dX5_isByte_16 rfl (by first | exact bi_01 _ | omega | decide) ?_
    first | exact ⟨_, rfl, rfl, bi_t (by omega)⟩ | exact ⟨_, rfl, rfl, bi_f (by omega)⟩
  · skip
    refine r_iload_0 dX5_isByte_4 (r_sipush dX5_isByte_5 (by decide) ?_)
    refine r_icmp_gt dX5_isByte_8 (by omega) (by omega) (fun c_8 => ?_) (fun c_8 => ?_)
    · skip
      refine r_iconst dX5_isByte_15 ?_
      refine r_zreturn dX5_isByte_16 rfl (by first | exact bi_01 _ | omega | decide) ?_
      first | exact ⟨_, rfl, rfl, bi_t (by omega)⟩ | exact ⟨_, rfl, rfl, bi_f (by omega)⟩
    · skip
      refine r_iconst dX5_isByte_11 (r_goto dX5_isByte_12 ?_)
      refine r_zreturn dX5_isByte_16 rfl (by first | exact bi_01 _ | omega | decide) ?_
      first | exact ⟨_, rfl, rfl, bi_t (by omega)⟩ | exact ⟨_, rfl, rfl, bi_f (by omega)⟩
set_option maxRecDepth 10000 in
set_option maxHeartbeats 4000000 in
theorem x_isPerson {d : Nat} {M : Mem} {v : Int} (h1 : ib v) : Con GX d kX5_isPerson [rv 0, iv v] M (pI (fun a M2 => M = M2 ∧ a = bi (decide (0 ≤ v ∧ v < M 6 10)))) := by
  refine con_of [some (rv 0), some (iv v)] (plX5) rfl (Nat.le_of_ble_eq_true rfl) (fun z => ?_)
  refine r_mb (fun hMB => ?_)
  have hm := hMB 6 10
  refine r_iload_1 dX5_isPerson_0 ?_
  refine r_if_lt dX5_isPerson_1 (by omega) (fun c_1 => ?_) (fun c_1 => ?_)
  · skip
    refine r_iconst dX5_isPerson_19 ?_
    refine r_zreturn dX5_isPerson_20 rfl (by first | exact bi_01 _ | omega | decide) ?_
    first | exact ⟨_, rfl, rfl, bi_t (by omega)⟩ | exact ⟨_, rfl, rfl, bi_f (by omega)⟩
  · skip
    refine r_iload_1 dX5_isPerson_4 (r_aload_0 dX5_isPerson_5 (r_getR dX5_isPerson_6 fX5_42 (rfl) (rfl) (r_getI dX5_isPerson_9 fX5_66 (rfl) (rfl) ?_)))
    refine r_icmp_ge dX5_isPerson_12 (by omega) (by omega) (fun c_12 => ?_) (fun c_12 => ?_)
    · skip
      refine r_iconst dX5_isPerson_19 ?_
      refine r_zreturn dX5_isPerson_20 rfl (by first | exact bi_01 _ | omega | decide) ?_
      first | exact ⟨_, rfl, rfl, bi_t (by omega)⟩ | exact ⟨_, rfl, rfl, bi_f (by omega)⟩
    · skip
      refine r_iconst dX5_isPerson_15 (r_goto dX5_isPerson_16 ?_)
      refine r_zreturn dX5_isPerson_20 rfl (by first | exact bi_01 _ | omega | decide) ?_
      first | exact ⟨_, rfl, rfl, bi_t (by omega)⟩ | exact ⟨_, rfl, rfl, bi_f (by omega)⟩
set_option maxRecDepth 10000 in
set_option maxHeartbeats 4000000 in
theorem x_isLetter {d : Nat} {M : Mem} {v : Int} (h1 : ib v) : Con GX d kX2_isLetter [iv v] M (pI (fun a M2 => M = M2 ∧ a = bi (decide (97 ≤ v ∧ v ≤ 122)))) := by
  refine con_of [some (iv v)] (plX2) rfl (Nat.le_of_ble_eq_true rfl) (fun z => ?_)
  refine r_iload_0 dX2_isLetter_0 (r_bipush dX2_isLetter_1 (by decide) ?_)
  refine r_icmp_lt dX2_isLetter_3 (by omega) (by omega) (fun c_3 => ?_) (fun c_3 => ?_)
  · skip
    refine r_iconst dX2_isLetter_16 ?_
    refine r_zreturn dX2_isLetter_17 rfl (by first | exact bi_01 _ | omega | decide) ?_
    first | exact ⟨_, rfl, rfl, bi_t (by omega)⟩ | exact ⟨_, rfl, rfl, bi_f (by omega)⟩
  · skip
    refine r_iload_0 dX2_isLetter_6 (r_bipush dX2_isLetter_7 (by decide) ?_)
    refine r_icmp_gt dX2_isLetter_9 (by omega) (by omega) (fun c_9 => ?_) (fun c_9 => ?_)
    · skip
      refine r_iconst dX2_isLetter_16 ?_
      refine r_zreturn dX2_isLetter_17 rfl (by first | exact bi_01 _ | omega | decide) ?_
      first | exact ⟨_, rfl, rfl, bi_t (by omega)⟩ | exact ⟨_, rfl, rfl, bi_f (by omega)⟩
    · skip
      refine r_iconst dX2_isLetter_12 (r_goto dX2_isLetter_13 ?_)
      refine r_zreturn dX2_isLetter_17 rfl (by first | exact bi_01 _ | omega | decide) ?_
      first | exact ⟨_, rfl, rfl, bi_t (by omega)⟩ | exact ⟨_, rfl, rfl, bi_f (by omega)⟩
set_option maxRecDepth 10000 in
set_option maxHeartbeats 4000000 in
theorem x_isDigit {d : Nat} {M : Mem} {v : Int} (h1 : ib v) : Con GX d kX2_isDigit [iv v] M (pI (fun a M2 => M = M2 ∧ a = bi (decide (48 ≤ v ∧ v ≤ 57)))) := by
  refine con_of [some (iv v)] (plX2) rfl (Nat.le_of_ble_eq_true rfl) (fun z => ?_)
  refine r_iload_0 dX2_isDigit_0 (r_bipush dX2_isDigit_1 (by decide) ?_)
  refine r_icmp_lt dX2_isDigit_3 (by omega) (by omega) (fun c_3 => ?_) (fun c_3 => ?_)
  · skip
    refine r_iconst dX2_isDigit_16 ?_
    refine r_zreturn dX2_isDigit_17 rfl (by first | exact bi_01 _ | omega | decide) ?_
    first | exact ⟨_, rfl, rfl, bi_t (by omega)⟩ | exact ⟨_, rfl, rfl, bi_f (by omega)⟩
  · skip
    refine r_iload_0 dX2_isDigit_6 (r_bipush dX2_isDigit_7 (by decide) ?_)
    refine r_icmp_gt dX2_isDigit_9 (by omega) (by omega) (fun c_9 => ?_) (fun c_9 => ?_)
    · skip
      refine r_iconst dX2_isDigit_16 ?_
      refine r_zreturn dX2_isDigit_17 rfl (by first | exact bi_01 _ | omega | decide) ?_
      first | exact ⟨_, rfl, rfl, bi_t (by omega)⟩ | exact ⟨_, rfl, rfl, bi_f (by omega)⟩
    · skip
      refine r_iconst dX2_isDigit_12 (r_goto dX2_isDigit_13 ?_)
      refine r_zreturn dX2_isDigit_17 rfl (by first | exact bi_01 _ | omega | decide) ?_
      first | exact ⟨_, rfl, rfl, bi_t (by omega)⟩ | exact ⟨_, rfl, rfl, bi_f (by omega)⟩
set_option maxRecDepth 10000 in
set_option maxHeartbeats 4000000 in
theorem x_isSign {d : Nat} {M : Mem} {v : Int} (h1 : ib v) : Con GX d kX2_isSign [iv v] M (pI (fun a M2 => M = M2 ∧ a = bi (decide (v = 40 ∨ v = 41 ∨ v = 59 ∨ v = 43 ∨ v = 45 ∨ v = 42 ∨ v = 60 ∨ v = 61)))) := by
  refine con_of [some (iv v)] (plX2) rfl (Nat.le_of_ble_eq_true rfl) (fun z => ?_)
  refine r_iload_0 dX2_isSign_0 (r_bipush dX2_isSign_1 (by decide) ?_)
  refine r_icmp_eq dX2_isSign_3 (by omega) (by omega) (fun c_3 => ?_) (fun c_3 => ?_)
  · skip
    refine r_iconst dX2_isSign_48 (r_goto dX2_isSign_49 ?_)
    refine r_zreturn dX2_isSign_53 rfl (by first | exact bi_01 _ | omega | decide) ?_
    first | exact ⟨_, rfl, rfl, bi_t (by omega)⟩ | exact ⟨_, rfl, rfl, bi_f (by omega)⟩
  · skip
    refine r_iload_0 dX2_isSign_6 (r_bipush dX2_isSign_7 (by decide) ?_)
    refine r_icmp_eq dX2_isSign_9 (by omega) (by omega) (fun c_9 => ?_) (fun c_9 => ?_)
    · skip
      refine r_iconst dX2_isSign_48 (r_goto dX2_isSign_49 ?_)
      refine r_zreturn dX2_isSign_53 rfl (by first | exact bi_01 _ | omega | decide) ?_
      first | exact ⟨_, rfl, rfl, bi_t (by omega)⟩ | exact ⟨_, rfl, rfl, bi_f (by omega)⟩
    · skip
      refine r_iload_0 dX2_isSign_12 (r_bipush dX2_isSign_13 (by decide) ?_)
      refine r_icmp_eq dX2_isSign_15 (by omega) (by omega) (fun c_15 => ?_) (fun c_15 => ?_)
      · skip
        refine r_iconst dX2_isSign_48 (r_goto dX2_isSign_49 ?_)
        refine r_zreturn dX2_isSign_53 rfl (by first | exact bi_01 _ | omega | decide) ?_
        first | exact ⟨_, rfl, rfl, bi_t (by omega)⟩ | exact ⟨_, rfl, rfl, bi_f (by omega)⟩
      · skip
        refine r_iload_0 dX2_isSign_18 (r_bipush dX2_isSign_19 (by decide) ?_)
        refine r_icmp_eq dX2_isSign_21 (by omega) (by omega) (fun c_21 => ?_) (fun c_21 => ?_)
        · skip
          refine r_iconst dX2_isSign_48 (r_goto dX2_isSign_49 ?_)
          refine r_zreturn dX2_isSign_53 rfl (by first | exact bi_01 _ | omega | decide) ?_
          first | exact ⟨_, rfl, rfl, bi_t (by omega)⟩ | exact ⟨_, rfl, rfl, bi_f (by omega)⟩
        · skip
          refine r_iload_0 dX2_isSign_24 (r_bipush dX2_isSign_25 (by decide) ?_)
          refine r_icmp_eq dX2_isSign_27 (by omega) (by omega) (fun c_27 => ?_) (fun c_27 => ?_)
          · skip
            refine r_iconst dX2_isSign_48 (r_goto dX2_isSign_49 ?_)
            refine r_zreturn dX2_isSign_53 rfl (by first | exact bi_01 _ | omega | decide) ?_
            first | exact ⟨_, rfl, rfl, bi_t (by omega)⟩ | exact ⟨_, rfl, rfl, bi_f (by omega)⟩
          · skip
            refine r_iload_0 dX2_isSign_30 (r_bipush dX2_isSign_31 (by decide) ?_)
            refine r_icmp_eq dX2_isSign_33 (by omega) (by omega) (fun c_33 => ?_) (fun c_33 => ?_)
            · skip
              refine r_iconst dX2_isSign_48 (r_goto dX2_isSign_49 ?_)
              refine r_zreturn dX2_isSign_53 rfl (by first | exact bi_01 _ | omega | decide) ?_
              first | exact ⟨_, rfl, rfl, bi_t (by omega)⟩ | exact ⟨_, rfl, rfl, bi_f (by omega)⟩
            · skip
              refine r_iload_0 dX2_isSign_36 (r_bipush dX2_isSign_37 (by decide) ?_)
              refine r_icmp_eq dX2_isSign_39 (by omega) (by omega) (fun c_39 => ?_) (fun c_39 => ?_)
              · skip
                refine r_iconst dX2_isSign_48 (r_goto dX2_isSign_49 ?_)
                refine r_zreturn dX2_isSign_53 rfl (by first | exact bi_01 _ | omega | decide) ?_
                first | exact ⟨_, rfl, rfl, bi_t (by omega)⟩ | exact ⟨_, rfl, rfl, bi_f (by omega)⟩
              · skip
                refine r_iload_0 dX2_isSign_42 (r_bipush dX2_isSign_43 (by decide) ?_)
                refine r_icmp_ne dX2_isSign_45 (by omega) (by omega) (fun c_45 => ?_) (fun c_45 => ?_)
                · skip
                  refine r_iconst dX2_isSign_52 ?_
                  refine r_zreturn dX2_isSign_53 rfl (by first | exact bi_01 _ | omega | decide) ?_
                  first | exact ⟨_, rfl, rfl, bi_t (by omega)⟩ | exact ⟨_, rfl, rfl, bi_f (by omega)⟩
                · skip
                  refine r_iconst dX2_isSign_48 (r_goto dX2_isSign_49 ?_)
                  refine r_zreturn dX2_isSign_53 rfl (by first | exact bi_01 _ | omega | decide) ?_
                  first | exact ⟨_, rfl, rfl, bi_t (by omega)⟩ | exact ⟨_, rfl, rfl, bi_f (by omega)⟩
set_option maxRecDepth 10000 in
set_option maxHeartbeats 4000000 in
theorem x_isName {d : Nat} {M : Mem} {v : Int} (h1 : ib v) : Con GX d kX3_isName [iv v] M (pI (fun a M2 => M = M2 ∧ a = bi (decide (262 ≤ v ∧ v < 268)))) := by
  refine con_of [some (iv v)] (plX3) rfl (Nat.le_of_ble_eq_true rfl) (fun z => ?_)
  refine r_iload_0 dX3_isName_0 (r_sipush dX3_isName_1 (by decide) ?_)
  refine r_icmp_lt dX3_isName_4 (by omega) (by omega) (fun c_4 => ?_) (fun c_4 => ?_)
  · skip
    refine r_iconst dX3_isName_18 ?_
    refine r_zreturn dX3_isName_19 rfl (by first | exact bi_01 _ | omega | decide) ?_
    first | exact ⟨_, rfl, rfl, bi_t (by omega)⟩ | exact ⟨_, rfl, rfl, bi_f (by omega)⟩
  · skip
    refine r_iload_0 dX3_isName_7 (r_sipush dX3_isName_8 (by decide) ?_)
    refine r_icmp_ge dX3_isName_11 (by omega) (by omega) (fun c_11 => ?_) (fun c_11 => ?_)
    · skip
      refine r_iconst dX3_isName_18 ?_
      refine r_zreturn dX3_isName_19 rfl (by first | exact bi_01 _ | omega | decide) ?_
      first | exact ⟨_, rfl, rfl, bi_t (by omega)⟩ | exact ⟨_, rfl, rfl, bi_f (by omega)⟩
    · skip
      refine r_iconst dX3_isName_14 (r_goto dX3_isName_15 ?_)
      refine r_zreturn dX3_isName_19 rfl (by first | exact bi_01 _ | omega | decide) ?_
      first | exact ⟨_, rfl, rfl, bi_t (by omega)⟩ | exact ⟨_, rfl, rfl, bi_f (by omega)⟩
set_option maxRecDepth 10000 in
set_option maxHeartbeats 4000000 in
theorem x_rankOf {d : Nat} {M : Mem} {v : Int} (h1 : ib v) : Con GX d kX0_rankOf [iv v] M (pI (fun a M2 => M = M2 ∧ a = rk v)) := by
  refine con_of [some (iv v)] (plX0) rfl (Nat.le_of_ble_eq_true rfl) (fun z => ?_)
  refine r_iload_0 dX0_rankOf_0 ?_
  refine r_lsw7 (t0 := 76) (t1 := 74) (t2 := 74) (t3 := 72) (t4 := 72) (t5 := 68) (t6 := 70) (td := 78) dX0_rankOf_1 (by decide) (by omega) (by decide) (by decide) (by decide) (by decide) (by decide) (by decide) (by decide) (by decide) (fun c_1 => ?_) (fun c_1 => ?_) (fun c_1 => ?_) (fun c_1 => ?_) (fun c_1 => ?_) (fun c_1 => ?_) (fun c_1 => ?_) (fun c_1_0 c_1_1 c_1_2 c_1_3 c_1_4 c_1_5 c_1_6 => ?_)
  · skip
    skip
    refine r_iconst dX0_rankOf_76 ?_
    refine r_ireturn dX0_rankOf_77 rfl ?_
    exact ⟨_, rfl, rfl, by simp [rk, *]⟩
  · skip
    skip
    refine r_iconst dX0_rankOf_74 ?_
    refine r_ireturn dX0_rankOf_75 rfl ?_
    exact ⟨_, rfl, rfl, by simp [rk, *]⟩
  · skip
    skip
    refine r_iconst dX0_rankOf_74 ?_
    refine r_ireturn dX0_rankOf_75 rfl ?_
    exact ⟨_, rfl, rfl, by simp [rk, *]⟩
  · skip
    skip
    refine r_iconst dX0_rankOf_72 ?_
    refine r_ireturn dX0_rankOf_73 rfl ?_
    exact ⟨_, rfl, rfl, by simp [rk, *]⟩
  · skip
    skip
    refine r_iconst dX0_rankOf_72 ?_
    refine r_ireturn dX0_rankOf_73 rfl ?_
    exact ⟨_, rfl, rfl, by simp [rk, *]⟩
  · skip
    skip
    refine r_iconst dX0_rankOf_68 ?_
    refine r_ireturn dX0_rankOf_69 rfl ?_
    exact ⟨_, rfl, rfl, by simp [rk, *]⟩
  · skip
    skip
    refine r_iconst dX0_rankOf_70 ?_
    refine r_ireturn dX0_rankOf_71 rfl ?_
    exact ⟨_, rfl, rfl, by simp [rk, *]⟩
  · skip
    skip
    refine r_iconst dX0_rankOf_78 ?_
    refine r_ireturn dX0_rankOf_79 rfl ?_
    exact ⟨_, rfl, rfl, by simp [rk, *]⟩
set_option maxRecDepth 10000 in
set_option maxHeartbeats 4000000 in
theorem x_swapped {d : Nat} {M : Mem} {q n : Nat} {i v : Int} (hg : GX[q]? = some (.inr (.inl n))) (hn : n < 2147483648) (h1 : ib i) (h2 : ib v) (h3 : 0 ≤ i) (h4 : i < n) : Con GX d kX5_swapped [rv q, iv i, iv v] M (pI (fun a M2 => M2 = upM M q i.toNat v ∧ a = M q i.toNat)) := by
  refine con_of [some (rv q), some (iv i), some (iv v), none] (plX5) rfl (Nat.le_of_ble_eq_true rfl) (fun z => ?_)
  refine r_iload_1 dX5_swapped_0 ?_
  refine r_if_lt dX5_swapped_1 (by omega) (fun c_1 => ?_) (fun c_1 => ?_)
  · skip
    refine r_iconst dX5_swapped_10 ?_
    refine r_ireturn dX5_swapped_11 rfl ?_
    first | exact ⟨_, rfl, rfl, rfl⟩ | (exfalso; omega)
  · skip
    refine r_iload_1 dX5_swapped_4 (r_aload_0 dX5_swapped_5 ?_)
    refine r_alen dX5_swapped_6 (hg) ?_
    refine r_icmp_lt dX5_swapped_7 (by omega) (by omega) (fun c_7 => ?_) (fun c_7 => ?_)
    · skip
      refine r_aload_0 dX5_swapped_12 (r_iload_1 dX5_swapped_13 (r_ialE dX5_swapped_14 (hg) (by omega) (by omega) (rfl) (r_istore_3 dX5_swapped_15 rfl (r_aload_0 dX5_swapped_16 (r_iload_1 dX5_swapped_17 (r_iload_2 dX5_swapped_18 ?_))))))
      refine r_iastore dX5_swapped_19 (hg) (by omega) (by omega) (by omega) ?_
      refine r_iload_3 dX5_swapped_20 ?_
      refine r_ireturn dX5_swapped_21 rfl ?_
      first | exact ⟨_, rfl, rfl, rfl⟩ | (exfalso; omega)
    · skip
      refine r_iconst dX5_swapped_10 ?_
      refine r_ireturn dX5_swapped_11 rfl ?_
      first | exact ⟨_, rfl, rfl, rfl⟩ | (exfalso; omega)

set_option maxRecDepth 10000 in
set_option maxHeartbeats 4000000 in
theorem m_in {d : Nat} {M : Mem} {v lo hi : Int} (h1 : ib v) (h2 : ib lo) (h3 : ib hi) : Con GM d kX6_in [iv v, iv lo, iv hi] M (pI (fun a M2 => M = M2 ∧ a = bi (decide (lo ≤ v ∧ v ≤ hi)))) := by
  refine con_of [some (iv v), some (iv lo), some (iv hi)] (plX6) rfl (Nat.le_of_ble_eq_true rfl) (fun z => ?_)
  refine r_iload_0 dX6_in_0 (r_iload_1 dX6_in_1 ?_)
  refine r_icmp_lt dX6_in_2 (by omega) (by omega) (fun c_2 => ?_) (fun c_2 => ?_)
  · skip
    refine r_iconst dX6_in_14 ?_
    refine r_zreturn dX6_in_15 rfl (by first | exact bi_01 _ | omega | decide) ?_
    first | exact ⟨_, rfl, rfl, bi_t (by omega)⟩ | exact ⟨_, rfl, rfl, bi_f (by omega)⟩
  · skip
    refine r_iload_0 dX6_in_5 (r_iload_2 dX6_in_6 ?_)
    refine r_icmp_gt dX6_in_7 (by omega) (by omega) (fun c_7 => ?_) (fun c_7 => ?_)
    · skip
      refine r_iconst dX6_in_14 ?_
      refine r_zreturn dX6_in_15 rfl (by first | exact bi_01 _ | omega | decide) ?_
      first | exact ⟨_, rfl, rfl, bi_t (by omega)⟩ | exact ⟨_, rfl, rfl, bi_f (by omega)⟩
    · skip
      refine r_iconst dX6_in_10 (r_goto dX6_in_11 ?_)
      refine r_zreturn dX6_in_15 rfl (by first | exact bi_01 _ | omega | decide) ?_
      first | exact ⟨_, rfl, rfl, bi_t (by omega)⟩ | exact ⟨_, rfl, rfl, bi_f (by omega)⟩
set_option maxRecDepth 10000 in
set_option maxHeartbeats 4000000 in
theorem m_within {d : Nat} {M : Mem} {v lo hi : Int} (h1 : ib v) (h2 : ib lo) (h3 : ib hi) : Con GM d kX6_within [iv v, iv lo, iv hi] M (pI (fun a M2 => M = M2 ∧ a = if v < lo then lo else if hi < v then hi else v)) := by
  refine con_of [some (iv v), some (iv lo), some (iv hi)] (plX6) rfl (Nat.le_of_ble_eq_true rfl) (fun z => ?_)
  refine r_iload_0 dX6_within_0 (r_iload_1 dX6_within_1 ?_)
  refine r_icmp_ge dX6_within_2 (by omega) (by omega) (fun c_2 => ?_) (fun c_2 => ?_)
  · skip
    refine r_iload_0 dX6_within_9 (r_iload_2 dX6_within_10 ?_)
    refine r_icmp_le dX6_within_11 (by omega) (by omega) (fun c_11 => ?_) (fun c_11 => ?_)
    · skip
      refine r_iload_0 dX6_within_18 ?_
      refine r_ireturn dX6_within_19 rfl ?_
      exact ⟨_, rfl, rfl, by (repeat' split) <;> omega⟩
    · skip
      refine r_iload_2 dX6_within_14 (r_goto dX6_within_15 ?_)
      refine r_ireturn dX6_within_19 rfl ?_
      exact ⟨_, rfl, rfl, by (repeat' split) <;> omega⟩
  · skip
    refine r_iload_1 dX6_within_5 (r_goto dX6_within_6 ?_)
    refine r_ireturn dX6_within_19 rfl ?_
    exact ⟨_, rfl, rfl, by (repeat' split) <;> omega⟩
set_option maxRecDepth 10000 in
set_option maxHeartbeats 4000000 in
theorem m_isOne {d : Nat} {v : Int} {M : Mem} {nT : Nat} {τ : Tn} (hT : TM M τ) (hw : WF nT τ) (h1 : ib v) : Con GM (d + 1) kX6_isOne [rv 0, iv v] M (pI (fun a M2 => M = M2 ∧ a = bi (decide (0 ≤ v ∧ v < τ 8 0)))) := by
  refine con_of [some (rv 0), some (iv v)] (plX6) rfl (Nat.le_of_ble_eq_true rfl) (fun z => ?_)
  obtain ⟨⟨wn, wn2⟩, wcl, ⟨wl, wl2⟩, -, -⟩ := id hw
  refine r_iload_1 dX6_isOne_0 (r_iconst dX6_isOne_1 (r_aload_0 dX6_isOne_2 (r_getE dX6_isOne_3 fX6_72 (rfl) (rfl) (hT.people) (r_iconst dX6_isOne_6 (r_isub dX6_isOne_7 ?_)))))
  refine r_cSI3 dX6_isOne_8 sX6_75 (m_in (d := d) (by omega) (by omega) (by omega)) (by omega) (Nat.le_of_ble_eq_true rfl) (fun b_8 M_8 h_8 => ?_)
  obtain ⟨rfl, rfl⟩ := h_8
  refine r_zreturn dX6_isOne_11 rfl (by first | exact bi_01 _ | omega | decide) ?_
  exact ⟨_, rfl, rfl, congrArg bi (decide_eq_decide.mpr (by omega))⟩
set_option maxRecDepth 10000 in
set_option maxHeartbeats 4000000 in
theorem m_isDoor {d : Nat} {M : Mem} {v : Int} (h1 : ib v) : Con GM (d + 1) kX6_isDoor [iv v] M (pI (fun a M2 => M = M2 ∧ a = bi (decide (0 ≤ v ∧ v < 8)))) := by
  refine con_of [some (iv v)] (plX6) rfl (Nat.le_of_ble_eq_true rfl) (fun z => ?_)
  refine r_iload_0 dX6_isDoor_0 (r_iconst dX6_isDoor_1 (r_bipush dX6_isDoor_2 (by decide) ?_))
  refine r_cSI3 dX6_isDoor_4 sX6_75 (m_in (d := d) (by omega) (by omega) (by omega)) (by omega) (Nat.le_of_ble_eq_true rfl) (fun b_4 M_4 h_4 => ?_)
  obtain ⟨rfl, rfl⟩ := h_4
  refine r_zreturn dX6_isDoor_7 rfl (by first | exact bi_01 _ | omega | decide) ?_
  exact ⟨_, rfl, rfl, congrArg bi (decide_eq_decide.mpr (by omega))⟩
set_option maxRecDepth 10000 in
set_option maxHeartbeats 4000000 in
theorem m_isByte {d : Nat} {M : Mem} {v : Int} (h1 : ib v) : Con GM (d + 1) kX6_isByte [iv v] M (pI (fun a M2 => M = M2 ∧ a = bi (decide (0 ≤ v ∧ v ≤ 255)))) := by
  refine con_of [some (iv v)] (plX6) rfl (Nat.le_of_ble_eq_true rfl) (fun z => ?_)
  refine r_iload_0 dX6_isByte_0 (r_iconst dX6_isByte_1 (r_sipush dX6_isByte_2 (by decide) ?_))
  refine r_cSI3 dX6_isByte_5 sX6_75 (m_in (d := d) (by omega) (by omega) (by omega)) (by omega) (Nat.le_of_ble_eq_true rfl) (fun b_5 M_5 h_5 => ?_)
  obtain ⟨rfl, rfl⟩ := h_5
  refine r_zreturn dX6_isByte_8 rfl (by first | exact bi_01 _ | omega | decide) ?_
  exact ⟨_, rfl, rfl, congrArg bi (decide_eq_decide.mpr (by omega))⟩
set_option maxRecDepth 10000 in
set_option maxHeartbeats 4000000 in
theorem m_having {n j : Nat} {M : Mem} {nT : Nat} {τ : Tn} (hT : TM M τ) (hw : WF nT τ) (hj : j < 3) : Con GM n kX6_having [rv 0, iv (j : Int)] M (pI (fun a M2 => M = M2 ∧ a = bt (fun d => decide (τ j d ≠ -1)) 8)) := by
  refine con_of [some (rv 0), some (iv (j : Int)), none, none] (plX6) rfl (Nat.le_of_ble_eq_true rfl) (fun z => ?_)
  refine r_mb (fun hMB => ?_)
  refine r_iconst dX6_having_0 (r_istore_2 dX6_having_1 rfl (r_iconst dX6_having_2 (r_istore_3 dX6_having_3 rfl ?_)))
  have lp_4 : ∀ (NN : Nat) (i : Nat) (b : Int) (hi : i ≤ 8) (hb : b = bt (fun d => decide (τ j d ≠ -1)) i), 8 - i < NN → WP kX6_having GM n (pI (fun a M2 => M = M2 ∧ a = bt (fun d => decide (τ j d ≠ -1)) 8)) z 4 [some (rv 0), some (iv (j : Int)), some (iv b), some (iv (i : Int))] [] M := by
    intro NN
    induction NN with
    | zero => intros; omega
    | succ NN ih =>
      intro i b hi hb hm
      have hbb := bt_b (fun d => decide (τ j d ≠ -1)) i
      refine r_iload_3 dX6_having_4 ?_
      refine r_bipush dX6_having_5 (by decide) ?_
      refine r_icmp_ge dX6_having_7 (by omega) (by omega) (fun c_7 => ?_) (fun c_7 => ?_)
      · skip
        have h8 : i = 8 := by omega
        subst h8
        refine r_iload_2 dX6_having_40 ?_
        refine r_ireturn dX6_having_41 rfl ?_
        exact ⟨_, rfl, rfl, hb⟩
      · skip
        have hq := hT.2.1 i (by omega) j hj
        have hqb := hMB 4 (3 * i + j)
        rw [hq] at hqb
        have jn_32 : ∀ (v : Int) (hv : v = if decide (τ j i ≠ -1) = true then 2 ^ i else 0), WP kX6_having GM n (pI (fun a M2 => M = M2 ∧ a = bt (fun d => decide (τ j d ≠ -1)) 8)) z 32 [some (rv 0), some (iv (j : Int)), some (iv b), some (iv (i : Int))] [iv v, iv b] M := by
          intro v hv
          refine r_ior (r := b + v) dX6_having_32 (by rw [hv]; split; exact or_bit (by omega) (by omega); exact or_0 _) ?_
          refine r_istore_2 dX6_having_33 rfl (r_iinc_3 dX6_having_34 rfl (r_goto dX6_having_37 ?_))
          exact ih (i + 1) _ (by omega) (by simp only [bt]; rw [← hb, ← hv]) (by omega)
        refine r_iload_2 dX6_having_10 (r_aload_0 dX6_having_11 (r_getR dX6_having_12 fX6_19 (rfl) (rfl) (r_iconst dX6_having_15 (r_iload_3 dX6_having_16 (r_imul dX6_having_17 (r_iload_1 dX6_having_18 (r_iadd dX6_having_19 (r_ialX dX6_having_20 (rfl) (hq) (by omega) (by omega) (by omega) (r_iconst dX6_having_21 ?_)))))))))
        refine r_icmp_ne dX6_having_22 (by omega) (by omega) (fun c_22 => ?_) (fun c_22 => ?_)
        · skip
          refine r_iconst dX6_having_29 (r_iload_3 dX6_having_30 ?_)
          refine r_ishl (r := 2 ^ i) dX6_having_31 (shl_bit8 (by omega)) ?_
          exact jn_32 _ (by rw [if_pos (by simpa using c_22)])
        · skip
          refine r_iconst dX6_having_25 (r_goto dX6_having_26 ?_)
          exact jn_32 _ (by rw [if_neg (by simpa using c_22)])
  exact lp_4 _ 0 0 (by omega) rfl (Nat.lt_succ_self _)
set_option maxRecDepth 10000 in
set_option maxHeartbeats 4000000 in
theorem m_at {n : Nat} {d : Int} {M : Mem} {nT : Nat} {τ : Tn} (hT : TM M τ) (hw : WF nT τ) (hd : ib d) : Con GM n kX6_whoAt [rv 0, iv d] M (pI (fun a M2 => M = M2 ∧ a = sAt τ d)) := by
  refine con_of [some (rv 0), some (iv d), none, none] (plX6) rfl (Nat.le_of_ble_eq_true rfl) (fun z => ?_)
  have h0 := hw.1
  refine r_iconst dX6_whoAt_0 (r_istore_2 dX6_whoAt_1 rfl (r_iconst dX6_whoAt_2 (r_istore_3 dX6_whoAt_3 rfl ?_)))
  have lp_4 : ∀ (NN : Nat) (i : Nat) (s : Int) (hi : (i : Int) ≤ τ 8 0) (hs : s = bt (fun p => decide (τ 3 p = d)) i), 6 - i < NN → WP kX6_whoAt GM n (pI (fun a M2 => M = M2 ∧ a = sAt τ d)) z 4 [some (rv 0), some (iv d), some (iv s), some (iv (i : Int))] [] M := by
    intro NN
    induction NN with
    | zero => intros; omega
    | succ NN ih =>
      intro i s hi hs hm
      have hbb := bt_b (fun p => decide (τ 3 p = d)) i
      refine r_iload_3 dX6_whoAt_4 ?_
      refine r_aload_0 dX6_whoAt_5 (r_getE dX6_whoAt_6 fX6_72 (rfl) (rfl) (hT.people) ?_)
      refine r_icmp_ge dX6_whoAt_9 (by omega) (by omega) (fun c_9 => ?_) (fun c_9 => ?_)
      · skip
        have h8 : i = (τ 8 0).toNat := by omega
        subst h8
        refine r_iload_2 dX6_whoAt_40 ?_
        refine r_ireturn dX6_whoAt_41 rfl ?_
        exact ⟨_, rfl, rfl, hs⟩
      · skip
        have hi6 : i < 6 := by omega
        have w3 := (hw.p hi6).1
        have jn_32 : ∀ (v : Int) (hv : v = if decide (τ 3 i = d) = true then 2 ^ i else 0), WP kX6_whoAt GM n (pI (fun a M2 => M = M2 ∧ a = sAt τ d)) z 32 [some (rv 0), some (iv d), some (iv s), some (iv (i : Int))] [iv v, iv s] M := by
          intro v hv
          refine r_ior (r := s + v) dX6_whoAt_32 (by rw [hv]; split; exact or_bit (by omega) (by omega); exact or_0 _) ?_
          refine r_istore_2 dX6_whoAt_33 rfl (r_iinc_3 dX6_whoAt_34 rfl (r_goto dX6_whoAt_37 ?_))
          exact ih (i + 1) _ (by omega) (by simp only [bt]; rw [← hs, ← hv]) (by omega)
        refine r_iload_2 dX6_whoAt_12 (r_aload_0 dX6_whoAt_13 (r_getR dX6_whoAt_14 fX6_16 (rfl) (rfl) (r_iconst dX6_whoAt_17 (r_iload_3 dX6_whoAt_18 (r_imul dX6_whoAt_19 (r_ialX dX6_whoAt_20 (rfl) (hT.e3 hi6) (by omega) (by omega) (by omega) (r_iload_1 dX6_whoAt_21 ?_)))))))
        refine r_icmp_ne dX6_whoAt_22 (by omega) (by omega) (fun c_22 => ?_) (fun c_22 => ?_)
        · skip
          refine r_iconst dX6_whoAt_31 ?_
          exact jn_32 _ (by rw [if_neg (by simpa using c_22)])
        · skip
          refine r_iconst dX6_whoAt_25 (r_iload_3 dX6_whoAt_26 ?_)
          refine r_ishl (r := 2 ^ i) dX6_whoAt_27 (shl_bit8 (by omega)) ?_
          refine r_goto dX6_whoAt_28 ?_
          exact jn_32 _ (by rw [if_pos (by simpa using c_22)])
  exact lp_4 _ 0 0 (by omega) rfl (Nat.lt_succ_self _)
set_option maxRecDepth 10000 in
set_option maxHeartbeats 4000000 in
theorem m_hasFirst {n p : Nat} {M : Mem} {nT : Nat} {τ : Tn} (hT : TM M τ) (hw : WF nT τ) (hp : p < 6) : Con GM n kX6_hasFirst [rv 0, iv (p : Int)] M (pI (fun a M2 => M = M2 ∧ a = bi (!untr τ p))) := by
  refine con_of [some (rv 0), some (iv (p : Int))] (plX6) rfl (Nat.le_of_ble_eq_true rfl) (fun z => ?_)
  have wp := hw.p hp
  have wd := hw.d (d := (τ 3 p).toNat) (by omega)
  refine r_aload_0 dX6_hasFirst_0 (r_getR dX6_hasFirst_1 fX6_19 (rfl) (rfl) (r_iconst dX6_hasFirst_4 (r_aload_0 dX6_hasFirst_5 (r_getR dX6_hasFirst_6 fX6_16 (rfl) (rfl) (r_iconst dX6_hasFirst_9 (r_iload_1 dX6_hasFirst_10 (r_imul dX6_hasFirst_11 (r_ialX dX6_hasFirst_12 (rfl) (hT.e3 hp) (by omega) (by omega) (by omega) (r_imul dX6_hasFirst_13 (r_iconst dX6_hasFirst_14 (r_iadd dX6_hasFirst_15 (r_ialX dX6_hasFirst_16 (rfl) (hT.e1 (d := (τ 3 p).toNat) (by omega)) (by omega) (by omega) (by omega) (r_iconst dX6_hasFirst_17 ?_)))))))))))))
  refine r_icmp_eq dX6_hasFirst_18 (by omega) (by omega) (fun c_18 => ?_) (fun c_18 => ?_)
  · skip
    refine r_iconst dX6_hasFirst_25 ?_
    refine r_zreturn dX6_hasFirst_26 rfl (by first | exact bi_01 _ | omega | decide) ?_
    exact ⟨_, rfl, rfl, by simp [untr, bi, *]⟩
  · skip
    refine r_iconst dX6_hasFirst_21 (r_goto dX6_hasFirst_22 ?_)
    refine r_zreturn dX6_hasFirst_26 rfl (by first | exact bi_01 _ | omega | decide) ?_
    exact ⟨_, rfl, rfl, by simp [untr, bi, *]⟩
set_option maxRecDepth 10000 in
set_option maxHeartbeats 4000000 in
theorem m_two {d : Nat} {M : Mem} {t x y : Int} (h0 : c_bin t) (h2 : ib x) (h3 : ib y) : Con GM d kX6_two [iv t, iv x, iv y] M (pI (fun a M2 => M = M2 ∧ a = tw t x y)) := by
  refine con_of [some (iv t), some (iv x), some (iv y)] (plX6) rfl (Nat.le_of_ble_eq_true rfl) (fun z => ?_)
  have h0 := id h0
  unfold c_bin at h0
  refine r_iload_0 dX6_two_0 ?_
  refine r_tsw7 (t0 := 44) (t1 := 58) (t2 := 102) (t3 := 72) (t4 := 83) (t5 := 94) (t6 := 98) (td := 102) dX6_two_1 (by decide) (by omega) (by decide) (by decide) (by decide) (by decide) (by decide) (by decide) (by decide) (by decide) (fun c_1 => ?_) (fun c_1 => ?_) (fun c_1 => ?_) (fun c_1 => ?_) (fun c_1 => ?_) (fun c_1 => ?_) (fun c_1 => ?_) (fun c_1 => ?_)
  · skip
    skip
    refine r_iload_1 dX6_two_44 ?_
    refine r_if_ne dX6_two_45 (by omega) (fun c_45 => ?_) (fun c_45 => ?_)
    · skip
      refine r_iconst dX6_two_52 (r_goto dX6_two_53 ?_)
      refine r_ireturn dX6_two_57 rfl ?_
      exact ⟨_, rfl, rfl, by simp [tw, *]⟩
    · skip
      refine r_iload_2 dX6_two_48 ?_
      refine r_if_eq dX6_two_49 (by omega) (fun c_49 => ?_) (fun c_49 => ?_)
      · skip
        refine r_iconst dX6_two_56 ?_
        refine r_ireturn dX6_two_57 rfl ?_
        exact ⟨_, rfl, rfl, by simp [tw, *]⟩
      · skip
        refine r_iconst dX6_two_52 (r_goto dX6_two_53 ?_)
        refine r_ireturn dX6_two_57 rfl ?_
        exact ⟨_, rfl, rfl, by simp [tw, *]⟩
  · skip
    skip
    refine r_iload_1 dX6_two_58 ?_
    refine r_if_eq dX6_two_59 (by omega) (fun c_59 => ?_) (fun c_59 => ?_)
    · skip
      refine r_iconst dX6_two_70 ?_
      refine r_ireturn dX6_two_71 rfl ?_
      exact ⟨_, rfl, rfl, by simp [tw, *]⟩
    · skip
      refine r_iload_2 dX6_two_62 ?_
      refine r_if_eq dX6_two_63 (by omega) (fun c_63 => ?_) (fun c_63 => ?_)
      · skip
        refine r_iconst dX6_two_70 ?_
        refine r_ireturn dX6_two_71 rfl ?_
        exact ⟨_, rfl, rfl, by simp [tw, *]⟩
      · skip
        refine r_iconst dX6_two_66 (r_goto dX6_two_67 ?_)
        refine r_ireturn dX6_two_71 rfl ?_
        exact ⟨_, rfl, rfl, by simp [tw, *]⟩
  · exfalso; omega
  · skip
    skip
    refine r_iload_1 dX6_two_72 (r_iload_2 dX6_two_73 ?_)
    refine r_icmp_ge dX6_two_74 (by omega) (by omega) (fun c_74 => ?_) (fun c_74 => ?_)
    · skip
      refine r_iconst dX6_two_81 ?_
      refine r_ireturn dX6_two_82 rfl ?_
      exact ⟨_, rfl, rfl, by simp [tw, *]⟩
    · skip
      refine r_iconst dX6_two_77 (r_goto dX6_two_78 ?_)
      refine r_ireturn dX6_two_82 rfl ?_
      exact ⟨_, rfl, rfl, by simp [tw, *]⟩
  · skip
    skip
    refine r_iload_1 dX6_two_83 (r_iload_2 dX6_two_84 ?_)
    refine r_icmp_ne dX6_two_85 (by omega) (by omega) (fun c_85 => ?_) (fun c_85 => ?_)
    · skip
      refine r_iconst dX6_two_92 ?_
      refine r_ireturn dX6_two_93 rfl ?_
      exact ⟨_, rfl, rfl, by simp [tw, *]⟩
    · skip
      refine r_iconst dX6_two_88 (r_goto dX6_two_89 ?_)
      refine r_ireturn dX6_two_93 rfl ?_
      exact ⟨_, rfl, rfl, by simp [tw, *]⟩
  · skip
    skip
    refine r_iload_1 dX6_two_94 (r_iload_2 dX6_two_95 (r_iadd dX6_two_96 ?_))
    refine r_as (w32_i3 _) ?_
    refine r_ireturn dX6_two_97 rfl ?_
    exact ⟨_, rfl, rfl, by simp [tw, *]⟩
  · skip
    skip
    refine r_iload_1 dX6_two_98 (r_iload_2 dX6_two_99 (r_isub dX6_two_100 ?_))
    refine r_as (w32_i3 _) ?_
    refine r_ireturn dX6_two_101 rfl ?_
    exact ⟨_, rfl, rfl, by simp [tw, *]⟩
  · skip
    skip
    refine r_iload_1 dX6_two_102 (r_iload_2 dX6_two_103 (r_imul dX6_two_104 ?_))
    have e18 : t = 18 := by omega
    refine r_as (w32_i3 _) ?_
    refine r_ireturn dX6_two_105 rfl ?_
    exact ⟨_, rfl, rfl, by simp [tw, *]⟩

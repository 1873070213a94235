set_option maxRecDepth 10000 in
set_option maxHeartbeats 4000000 in
theorem m_paysOf {p : Nat} {M : Mem} {nT : Nat} {τ : Tn} {X : Nat → Tx} (hT : TM M τ) (hw : WF nT τ) (hX : XM M nT X) (hcl : τ 8 1 < 2147483648) (hp : (p : Int) < τ 8 0) : Con GM 3 kX6_paysOf [rv 0, iv (p : Int)] M (pI (fun a M2 => a = sPay X τ p ∧ Fm mS M M2)) := by
  refine con_of [some (rv 0), some (iv (p : Int)), none] (plX6) rfl (Nat.le_of_ble_eq_true rfl) (fun z => ?_)
  obtain ⟨⟨wn, wn2⟩, wcl, ⟨wl, wl2⟩, -, -⟩ := id hw
  have hp6 : p < 6 := by omega
  have wp := hw.p hp6
  obtain ⟨⟨wa, wa2⟩, ⟨we, we2⟩, ⟨wc, wc2⟩, ⟨wk, wk2⟩, wm, wm2⟩ := wp
  refine r_aload_0 dX6_paysOf_0 (r_getR dX6_paysOf_1 fX6_7 (rfl) (rfl) (r_iload_1 dX6_paysOf_4 (r_ialX dX6_paysOf_5 (rfl) (hT.e6 hp) (by omega) (by omega) (by omega) (r_iconst dX6_paysOf_6 ?_))))
  refine r_icmp_ne dX6_paysOf_7 (by omega) (by omega) (fun c_7 => ?_) (fun c_7 => ?_)
  · skip
    refine r_aload_0 dX6_paysOf_12 (r_iconst dX6_paysOf_13 (r_iload_1 dX6_paysOf_14 ?_))
    refine r_cVI2 dX6_paysOf_15 vX6_176 (rfl) (m_asksOf (part := 1) hT hw hX hcl hp (by decide)) (by decide) (Nat.le_of_ble_eq_true rfl) (fun b_15 M_15 h_15 => ?_)
    obtain ⟨rfl, hF_15⟩ := h_15
    have ha := sAsk_in1 X τ 1 p (by decide)
    have hT2 := hT.sc hF_15
    refine r_istore_2 dX6_paysOf_18 rfl (r_aload_0 dX6_paysOf_19 (r_getR dX6_paysOf_20 fX6_7 (rfl) (rfl) (r_iload_1 dX6_paysOf_23 (r_ialX dX6_paysOf_24 (rfl) (hT2.e6 hp) (by omega) (by omega) (by omega) (r_iconst dX6_paysOf_25 ?_)))))
    refine r_icmp_ne dX6_paysOf_26 (by omega) (by omega) (fun c_26 => ?_) (fun c_26 => ?_)
    · skip
      refine r_aload_0 dX6_paysOf_40 (r_getR dX6_paysOf_41 fX6_7 (rfl) (rfl) (r_iload_1 dX6_paysOf_44 (r_ialX dX6_paysOf_45 (rfl) (hT2.e6 hp) (by omega) (by omega) (by omega) (r_iconst dX6_paysOf_46 ?_))))
      refine r_icmp_ne dX6_paysOf_47 (by omega) (by omega) (fun c_47 => ?_) (fun c_47 => ?_)
      · skip
        refine r_iload_2 dX6_paysOf_56 ?_
        refine r_ireturn dX6_paysOf_57 rfl ?_
        refine ⟨_, rfl, ?_, ?_⟩
        · unfold sPay
          (repeat' split) <;> omega
        · first | exact Fm.refl | assumption
      · skip
        refine r_iload_2 dX6_paysOf_50 (r_iconst dX6_paysOf_51 ?_)
        refine r_idiv dX6_paysOf_52 (by omega) (by omega) (by omega) (by omega) ?_
        refine r_goto dX6_paysOf_53 ?_
        refine r_ireturn dX6_paysOf_57 rfl ?_
        refine ⟨_, rfl, ?_, ?_⟩
        · unfold sPay
          (repeat' split) <;> omega
        · first | exact Fm.refl | assumption
    · skip
      refine r_iload_2 dX6_paysOf_29 (r_aload_0 dX6_paysOf_30 (r_getR dX6_paysOf_31 fX6_13 (rfl) (rfl) (r_iload_1 dX6_paysOf_34 (r_ialX dX6_paysOf_35 (rfl) (hT2.e7 hp) (by omega) (by omega) (by omega) (r_iadd dX6_paysOf_36 (r_goto dX6_paysOf_37 ?_))))))
      refine r_ireturn dX6_paysOf_57 rfl ?_
      refine ⟨_, rfl, ?_, ?_⟩
      · unfold sPay
        (repeat' split) <;> omega
      · first | exact Fm.refl | assumption
  · skip
    refine r_iconst dX6_paysOf_10 ?_
    refine r_ireturn dX6_paysOf_11 rfl ?_
    refine ⟨_, rfl, ?_, ?_⟩
    · unfold sPay
      (repeat' split) <;> omega
    · first | exact Fm.refl | assumption
set_option maxRecDepth 10000 in
set_option maxHeartbeats 4000000 in
theorem m_goesOf {p : Nat} {M : Mem} {nT : Nat} {τ : Tn} {X : Nat → Tx} (hT : TM M τ) (hw : WF nT τ) (hX : XM M nT X) (hcl : τ 8 1 < 2147483648) (hp : (p : Int) < τ 8 0) : Con GM 3 kX6_goesOf [rv 0, iv (p : Int)] M (pI (fun a M2 => a = sGo X τ p ∧ Fm mS M M2)) := by
  refine con_of [some (rv 0), some (iv (p : Int))] (plX6) rfl (Nat.le_of_ble_eq_true rfl) (fun z => ?_)
  obtain ⟨⟨wn, wn2⟩, wcl, ⟨wl, wl2⟩, -, -⟩ := id hw
  have hp6 : p < 6 := by omega
  have wp := hw.p hp6
  obtain ⟨⟨wa, wa2⟩, ⟨we, we2⟩, ⟨wc, wc2⟩, ⟨wk, wk2⟩, wm, wm2⟩ := wp
  refine r_aload_0 dX6_goesOf_0 (r_getR dX6_goesOf_1 fX6_7 (rfl) (rfl) (r_iload_1 dX6_goesOf_4 (r_ialX dX6_goesOf_5 (rfl) (hT.e6 hp) (by omega) (by omega) (by omega) ?_)))
  refine r_tsw5 (t0 := 40) (t1 := 66) (t2 := 42) (t3 := 66) (t4 := 64) (td := 66) dX6_goesOf_6 (by decide) (by omega) (by decide) (by decide) (by decide) (by decide) (by decide) (by decide) (fun c_6 => ?_) (fun c_6 => ?_) (fun c_6 => ?_) (fun c_6 => ?_) (fun c_6 => ?_) (fun c_6 => ?_)
  · skip
    skip
    refine r_iconst dX6_goesOf_40 ?_
    refine r_ireturn dX6_goesOf_41 rfl ?_
    refine ⟨_, rfl, ?_, ?_⟩
    · unfold sGo
      (repeat' split) <;> first | rfl | omega
    · first | exact Fm.refl | assumption
  · skip
    skip
    refine r_aload_0 dX6_goesOf_66 (r_iconst dX6_goesOf_67 (r_iload_1 dX6_goesOf_68 ?_))
    refine r_cVI2 dX6_goesOf_69 vX6_176 (rfl) (m_asksOf (part := 2) hT hw hX hcl hp (by decide)) (by decide) (Nat.le_of_ble_eq_true rfl) (fun b_69 M_69 h_69 => ?_)
    obtain ⟨rfl, hF_69⟩ := h_69
    have ha := sAsk_in X τ 2 p
    have hT2 := hT.sc hF_69
    refine r_cSI1 dX6_goesOf_72 sX6_179 (m_sgn (d := 0) (by omega)) (by decide) (Nat.le_of_ble_eq_true rfl) (fun b_72 M_72 h_72 => ?_)
    obtain ⟨rfl, rfl⟩ := h_72
    refine r_ireturn dX6_goesOf_75 rfl ?_
    refine ⟨_, rfl, ?_, ?_⟩
    · unfold sGo
      (repeat' split) <;> first | rfl | omega
    · first | exact Fm.refl | assumption
  · skip
    skip
    refine r_aload_0 dX6_goesOf_42 (r_getE dX6_goesOf_43 fX6_79 (rfl) (rfl) (hT.clock) (r_bipush dX6_goesOf_46 (by decide) ?_))
    refine r_irem dX6_goesOf_48 (by omega) (by omega) (by omega) ?_
    refine r_aload_0 dX6_goesOf_49 (r_getR dX6_goesOf_50 fX6_13 (rfl) (rfl) (r_iload_1 dX6_goesOf_53 (r_ialX dX6_goesOf_54 (rfl) (hT.e7 hp) (by omega) (by omega) (by omega) ?_)))
    refine r_icmp_ge dX6_goesOf_55 (by have := Int.tmod_nonneg 20 wcl; have := Int.tmod_lt_of_pos (τ 8 1) (show (0 : Int) < 20 by decide); omega) (by have := Int.tmod_nonneg 20 wcl; have := Int.tmod_lt_of_pos (τ 8 1) (show (0 : Int) < 20 by decide); omega) (fun c_55 => ?_) (fun c_55 => ?_)
    · skip
      refine r_iconst dX6_goesOf_62 ?_
      refine r_ireturn dX6_goesOf_63 rfl ?_
      refine ⟨_, rfl, ?_, ?_⟩
      · unfold sGo
        (repeat' split) <;> first | rfl | omega
      · first | exact Fm.refl | assumption
    · skip
      refine r_iconst dX6_goesOf_58 (r_goto dX6_goesOf_59 ?_)
      refine r_ireturn dX6_goesOf_63 rfl ?_
      refine ⟨_, rfl, ?_, ?_⟩
      · unfold sGo
        (repeat' split) <;> first | rfl | omega
      · first | exact Fm.refl | assumption
  · skip
    skip
    refine r_aload_0 dX6_goesOf_66 (r_iconst dX6_goesOf_67 (r_iload_1 dX6_goesOf_68 ?_))
    refine r_cVI2 dX6_goesOf_69 vX6_176 (rfl) (m_asksOf (part := 2) hT hw hX hcl hp (by decide)) (by decide) (Nat.le_of_ble_eq_true rfl) (fun b_69 M_69 h_69 => ?_)
    obtain ⟨rfl, hF_69⟩ := h_69
    have ha := sAsk_in X τ 2 p
    have hT2 := hT.sc hF_69
    refine r_cSI1 dX6_goesOf_72 sX6_179 (m_sgn (d := 0) (by omega)) (by decide) (Nat.le_of_ble_eq_true rfl) (fun b_72 M_72 h_72 => ?_)
    obtain ⟨rfl, rfl⟩ := h_72
    refine r_ireturn dX6_goesOf_75 rfl ?_
    refine ⟨_, rfl, ?_, ?_⟩
    · unfold sGo
      (repeat' split) <;> first | rfl | omega
    · first | exact Fm.refl | assumption
  · skip
    skip
    refine r_iconst dX6_goesOf_64 ?_
    refine r_ireturn dX6_goesOf_65 rfl ?_
    refine ⟨_, rfl, ?_, ?_⟩
    · unfold sGo
      (repeat' split) <;> first | rfl | omega
    · first | exact Fm.refl | assumption
  · skip
    skip
    refine r_aload_0 dX6_goesOf_66 (r_iconst dX6_goesOf_67 (r_iload_1 dX6_goesOf_68 ?_))
    refine r_cVI2 dX6_goesOf_69 vX6_176 (rfl) (m_asksOf (part := 2) hT hw hX hcl hp (by decide)) (by decide) (Nat.le_of_ble_eq_true rfl) (fun b_69 M_69 h_69 => ?_)
    obtain ⟨rfl, hF_69⟩ := h_69
    have ha := sAsk_in X τ 2 p
    have hT2 := hT.sc hF_69
    refine r_cSI1 dX6_goesOf_72 sX6_179 (m_sgn (d := 0) (by omega)) (by decide) (Nat.le_of_ble_eq_true rfl) (fun b_72 M_72 h_72 => ?_)
    obtain ⟨rfl, rfl⟩ := h_72
    refine r_ireturn dX6_goesOf_75 rfl ?_
    refine ⟨_, rfl, ?_, ?_⟩
    · unfold sGo
      (repeat' split) <;> first | rfl | omega
    · first | exact Fm.refl | assumption
set_option maxRecDepth 10000 in
set_option maxHeartbeats 4000000 in
theorem m_tryNow {n p : Nat} {M : Mem} {nT : Nat} {τ : Tn} (hT : TM M τ) (hw : WF nT τ) (hp : p < 6) : Con GM n kX6_tryNow [rv 0, iv (p : Int)] M (pI (fun a M2 => M = M2 ∧ a = sOut τ p (τ 3 p).toNat)) := by
  refine con_of [some (rv 0), some (iv (p : Int)), none] (plX6) rfl (Nat.le_of_ble_eq_true rfl) (fun z => ?_)
  have wp := hw.p hp
  have wd := hw.d (d := (τ 3 p).toNat) (by omega)
  refine r_aload_0 dX6_tryNow_0 (r_getR dX6_tryNow_1 fX6_19 (rfl) (rfl) (r_iconst dX6_tryNow_4 (r_aload_0 dX6_tryNow_5 (r_getR dX6_tryNow_6 fX6_16 (rfl) (rfl) (r_iconst dX6_tryNow_9 (r_iload_1 dX6_tryNow_10 (r_imul dX6_tryNow_11 (r_ialX dX6_tryNow_12 (rfl) (hT.e3 hp) (by omega) (by omega) (by omega) (r_imul dX6_tryNow_13 (r_iconst dX6_tryNow_14 (r_iadd dX6_tryNow_15 (r_ialX dX6_tryNow_16 (rfl) (hT.e1 (d := (τ 3 p).toNat) (by omega)) (by omega) (by omega) (by omega) (r_istore_2 dX6_tryNow_17 rfl (r_iload_2 dX6_tryNow_18 (r_iconst dX6_tryNow_19 ?_)))))))))))))))
  refine r_icmp_ne dX6_tryNow_20 (by omega) (by omega) (fun c_20 => ?_) (fun c_20 => ?_)
  · skip
    refine r_iload_2 dX6_tryNow_27 (r_iload_1 dX6_tryNow_28 ?_)
    refine r_icmp_ne dX6_tryNow_29 (by omega) (by omega) (fun c_29 => ?_) (fun c_29 => ?_)
    · skip
      refine r_iconst dX6_tryNow_36 ?_
      refine r_ireturn dX6_tryNow_37 rfl ?_
      refine ⟨_, rfl, rfl, ?_⟩
      unfold sOut
      (repeat' split) <;> omega
    · skip
      refine r_iconst dX6_tryNow_32 (r_goto dX6_tryNow_33 ?_)
      refine r_ireturn dX6_tryNow_37 rfl ?_
      refine ⟨_, rfl, rfl, ?_⟩
      unfold sOut
      (repeat' split) <;> omega
  · skip
    refine r_iconst dX6_tryNow_23 (r_goto dX6_tryNow_24 ?_)
    refine r_ireturn dX6_tryNow_37 rfl ?_
    refine ⟨_, rfl, rfl, ?_⟩
    unfold sOut
    (repeat' split) <;> omega
theorem st_id {τ : Tn} {f i : Nat} {v : Int} (h : τ f i = v) : st τ f i v = τ := by
  funext g j
  unfold st
  split
  · rename_i w
    rw [w.1, w.2, h]
  · rfl
theorem st_comm {τ : Tn} {f g i j : Nat} {v w : Int} (h : f ≠ g) : st (st τ f i v) g j w = st (st τ g j w) f i v := by
  funext a b
  unfold st
  by_cases h1 : a = f ∧ b = i
  · by_cases h2 : a = g ∧ b = j
    · exact absurd (h1.1.symm.trans h2.1) h
    · rw [if_neg h2, if_pos h1, if_pos h1]
  · by_cases h2 : a = g ∧ b = j
    · rw [if_pos h2, if_neg h1, if_pos h2]
    · rw [if_neg h2, if_neg h1, if_neg h1, if_neg h2]
theorem TM.cong {M : Mem} {τ τ' : Tn} (h : TM M τ) (hc : ∀ f i, (f ≤ 2 → i < 8) → τ' f i = τ f i) : TM M τ' := by
  refine ⟨fun p hp j hj => (h.1 p hp j hj).trans (hc _ _ (by omega)).symm, fun d hd j hj => (h.2.1 d hd j hj).trans (hc _ _ (by omega)).symm, h.people.trans (hc _ _ (by omega)).symm, h.clock.trans (hc _ _ (by omega)).symm, h.rule.trans (hc _ _ (by omega)).symm, fun p hp => ?_⟩
  rw [hc 8 0 (by omega)] at hp
  exact ⟨(h.e6 hp).trans (hc _ _ (by omega)).symm, (h.e7 hp).trans (hc _ _ (by omega)).symm⟩
set_option maxRecDepth 10000 in
set_option maxHeartbeats 4000000 in
theorem m_tryOf {d : Nat} {p : Nat} {M : Mem} {nT : Nat} {τ : Tn} {X : Nat → Tx} (hT : TM M τ) (hw : WF nT τ) (hX : XM M nT X) (hcl : τ 8 1 < 2147483648) (hp : (p : Int) < τ 8 0) (hd : d < 8) : Con GM 4 kX6_tryOf [rv 0, iv (p : Int), iv (d : Int)] M (pI (fun a M2 => a = sOut τ p d ∧ TM M2 (sTry X τ p d) ∧ Fm mT M M2)) := by
  refine con_of [some (rv 0), some (iv (p : Int)), some (iv (d : Int)), none, none, none] (plX6) rfl (Nat.le_of_ble_eq_true rfl) (fun z => ?_)
  obtain ⟨⟨wn, wn2⟩, wcl, ⟨wl, wl2⟩, -, -⟩ := id hw
  have hp6 : p < 6 := by omega
  have wp := hw.p hp6
  obtain ⟨⟨wa, wa2⟩, ⟨we, we2⟩, ⟨wc, wc2⟩, ⟨wk, wk2⟩, wm, wm2⟩ := wp
  have wd := hw.d hd
  have so := sOut_in τ p d
  refine r_aload_0 dX6_tryOf_0 (r_getR dX6_tryOf_1 fX6_19 (rfl) (rfl) (r_iconst dX6_tryOf_4 (r_iload_2 dX6_tryOf_5 (r_imul dX6_tryOf_6 (r_iconst dX6_tryOf_7 (r_iadd dX6_tryOf_8 (r_ialX dX6_tryOf_9 (rfl) (hT.e1 hd) (by omega) (by omega) (by omega) (r_istore_3 dX6_tryOf_10 rfl (r_iload_3 dX6_tryOf_11 (r_iconst dX6_tryOf_12 ?_))))))))))
  refine r_icmp_ne dX6_tryOf_13 (by omega) (by omega) (fun c_13 => ?_) (fun c_13 => ?_)
  · skip
    refine r_iload_3 dX6_tryOf_29 (r_iload_1 dX6_tryOf_30 ?_)
    refine r_icmp_ne dX6_tryOf_31 (by omega) (by omega) (fun c_31 => ?_) (fun c_31 => ?_)
    · skip
      have ho : sOut τ p d = 2 := by unfold sOut; rw [if_neg (by omega), if_neg (by omega)]
      obtain ⟨h, hh⟩ : ∃ h : Nat, τ 1 d = h := ⟨(τ 1 d).toNat, by omega⟩
      rw [hh]
      have hh6 : h < 6 := by omega
      have hph : h ≠ p := by omega
      have hz : (τ 1 d).toNat = h := by omega
      have wh := (hw.p hh6).2.1
      have pay := sPay_in X τ p ⟨wm, wm2⟩
      refine r_aload_0 dX6_tryOf_36 (r_iload_1 dX6_tryOf_37 ?_)
      refine r_cVI1 dX6_tryOf_38 vX6_184 (rfl) (m_paysOf hT hw hX hcl hp) (by decide) (Nat.le_of_ble_eq_true rfl) (fun b_38 M_38 h_38 => ?_)
      obtain ⟨rfl, hF1⟩ := h_38
      have wM_38 := hT.sc hF1
      have fM_38 : Fm mT M M_38 := hF1.sT
      refine r_istore_4 dX6_tryOf_41 rfl ?_
      have jn_73 : ∀ (v1 : Int) (hv1 : v1 = mn (sPay X τ p) (τ 4 p)), WP kX6_tryOf GM 4 (pI (fun a M2 => a = sOut τ p d ∧ TM M2 (sTry X τ p d) ∧ Fm mT M M2)) z 73 [some (rv 0), some (iv (p : Int)), some (iv (d : Int)), some (iv (h : Int)), some (iv (sPay X τ p)), none] [iv v1] M_38 := by
        intro v1 hv1
        unfold mn at hv1
        have hv1b : 0 ≤ v1 ∧ v1 ≤ 108 := by split at hv1 <;> omega
        refine r_istore_4 dX6_tryOf_73 rfl ?_
        have jn_111 : ∀ (paid : Int) (hpaid : paid = mn (sPay X τ p) (mn (τ 4 p) (99 - τ 4 h))), WP kX6_tryOf GM 4 (pI (fun a M2 => a = sOut τ p d ∧ TM M2 (sTry X τ p d) ∧ Fm mT M M2)) z 111 [some (rv 0), some (iv (p : Int)), some (iv (d : Int)), some (iv (h : Int)), some (iv v1), none] [iv paid] M_38 := by
          intro paid hpaid
          have hpd : 0 ≤ paid ∧ paid ≤ τ 4 p ∧ paid ≤ 99 - τ 4 h := by
            rw [hpaid]
            unfold mn
            split <;> split <;> omega
          refine r_istore_4 dX6_tryOf_111 rfl ?_
          refine r_aload_0 dX6_tryOf_113 (r_getR dX6_tryOf_114 fX6_16 (rfl) (rfl) (r_iconst dX6_tryOf_117 (r_iload_1 dX6_tryOf_118 (r_imul dX6_tryOf_119 (r_iconst dX6_tryOf_120 (r_iadd dX6_tryOf_121 (r_dup2 dX6_tryOf_122 (r_ialX dX6_tryOf_123 (rfl) (wM_38.e4 hp6) (by omega) (by omega) (by omega) (r_iload_4 dX6_tryOf_124 (r_isub dX6_tryOf_126 ?_))))))))))
          refine r_iasX (3 * p + 1) dX6_tryOf_127 (rfl) (by omega) (by omega) (by omega) (by omega) ?_
          obtain ⟨A, hA⟩ : ∃ x, x = upM M_38 3 (3 * p + 1) (τ 4 p - paid) := ⟨_, rfl⟩
          rw [← hA]
          obtain ⟨tA, htA⟩ : ∃ x, x = st τ 4 p (τ 4 p - paid) := ⟨_, rfl⟩
          have wA : TM A tA := by rw [hA, htA]; exact wM_38.u4
          have fA : Fm mT M A := by rw [hA]; exact fM_38.up (by omega)
          have qA : tA 4 h = τ 4 h := by rw [htA, st_ne (Or.inr hph)]
          refine r_aload_0 dX6_tryOf_128 (r_getR dX6_tryOf_129 fX6_16 (rfl) (rfl) (r_iconst dX6_tryOf_132 (r_iload_3 dX6_tryOf_133 (r_imul dX6_tryOf_134 (r_iconst dX6_tryOf_135 (r_iadd dX6_tryOf_136 (r_dup2 dX6_tryOf_137 (r_ialX dX6_tryOf_138 (rfl) (wA.e4 hh6) (by omega) (by omega) (by omega) (r_iload_4 dX6_tryOf_139 (r_iadd dX6_tryOf_141 ?_))))))))))
          refine r_iasX (3 * h + 1) dX6_tryOf_142 (rfl) (by omega) (by omega) (by omega) (by omega) ?_
          obtain ⟨B, hB⟩ : ∃ x, x = upM A 3 (3 * h + 1) (tA 4 h + paid) := ⟨_, rfl⟩
          rw [← hB]
          obtain ⟨tB, htB⟩ : ∃ x, x = st tA 4 h (tA 4 h + paid) := ⟨_, rfl⟩
          have wB : TM B tB := by rw [hB, htB]; exact wA.u4
          have fB : Fm mT M B := by rw [hB]; exact fA.up (by omega)
          have qB0 : tB 0 d = τ 0 d := by rw [htB, htA, st_ne (Or.inl (by decide)), st_ne (Or.inl (by decide))]
          have qB4 : tB 4 p = τ 4 p - paid := by rw [htB, htA, st_ne (Or.inr (Ne.symm hph)), st_self]
          have qB5 : tB 5 p = τ 5 p := by rw [htB, htA, st_ne (Or.inl (by decide)), st_ne (Or.inl (by decide))]
          have jn_191 : ∀ (found : Int) (hfnd : found = mn (tB 0 d) (99 - tB 4 p)), WP kX6_tryOf GM 4 (pI (fun a M2 => a = sOut τ p d ∧ TM M2 (sTry X τ p d) ∧ Fm mT M M2)) z 191 [some (rv 0), some (iv (p : Int)), some (iv (d : Int)), some (iv (h : Int)), some (iv paid), none] [iv found] B := by
            intro found hfnd
            have hf : 0 ≤ found ∧ found ≤ tB 0 d ∧ found ≤ 99 - tB 4 p := by
              rw [hfnd]
              unfold mn
              split <;> omega
            refine r_istore_5 dX6_tryOf_191 rfl ?_
            refine r_aload_0 dX6_tryOf_193 (r_getR dX6_tryOf_194 fX6_16 (rfl) (rfl) (r_iconst dX6_tryOf_197 (r_iload_1 dX6_tryOf_198 (r_imul dX6_tryOf_199 (r_iconst dX6_tryOf_200 (r_iadd dX6_tryOf_201 (r_dup2 dX6_tryOf_202 (r_ialX dX6_tryOf_203 (rfl) (wB.e4 hp6) (by omega) (by omega) (by omega) (r_iload_5 dX6_tryOf_204 (r_iadd dX6_tryOf_206 ?_))))))))))
            refine r_iasX (3 * p + 1) dX6_tryOf_207 (rfl) (by omega) (by omega) (by omega) (by omega) ?_
            obtain ⟨C, hC⟩ : ∃ x, x = upM B 3 (3 * p + 1) (tB 4 p + found) := ⟨_, rfl⟩
            rw [← hC]
            obtain ⟨tC, htC⟩ : ∃ x, x = st tB 4 p (tB 4 p + found) := ⟨_, rfl⟩
            have wC : TM C tC := by rw [hC, htC]; exact wB.u4
            have fC : Fm mT M C := by rw [hC]; exact fB.up (by omega)
            have qC0 : tC 0 d = tB 0 d := by rw [htC, st_ne (Or.inl (by decide))]
            have qC5 : tC 5 p = tB 5 p := by rw [htC, st_ne (Or.inl (by decide))]
            refine r_aload_0 dX6_tryOf_208 (r_getR dX6_tryOf_209 fX6_19 (rfl) (rfl) (r_iconst dX6_tryOf_212 (r_iload_2 dX6_tryOf_213 (r_imul dX6_tryOf_214 (r_dup2 dX6_tryOf_215 (r_ialX dX6_tryOf_216 (rfl) (wC.e0 hd) (by omega) (by omega) (by omega) (r_iload_5 dX6_tryOf_217 (r_isub dX6_tryOf_219 ?_))))))))
            refine r_iasX (3 * d) dX6_tryOf_220 (rfl) (by omega) (by omega) (by omega) (by omega) ?_
            obtain ⟨D, hD⟩ : ∃ x, x = upM C 4 (3 * d) (tC 0 d - found) := ⟨_, rfl⟩
            rw [← hD]
            obtain ⟨tD, htD⟩ : ∃ x, x = st tC 0 d (tC 0 d - found) := ⟨_, rfl⟩
            have wD : TM D tD := by rw [hD, htD]; exact wC.u0
            have fD : Fm mT M D := by rw [hD]; exact fC.up (by omega)
            have qD5 : tD 5 p = tC 5 p := by rw [htD, st_ne (Or.inl (by decide))]
            refine r_aload_0 dX6_tryOf_221 (r_getR dX6_tryOf_222 fX6_16 (rfl) (rfl) (r_iconst dX6_tryOf_225 (r_iload_1 dX6_tryOf_226 (r_imul dX6_tryOf_227 (r_iconst dX6_tryOf_228 (r_iadd dX6_tryOf_229 (r_aload_0 dX6_tryOf_230 (r_getR dX6_tryOf_231 fX6_16 (rfl) (rfl) (r_iconst dX6_tryOf_234 (r_iload_1 dX6_tryOf_235 (r_imul dX6_tryOf_236 (r_iconst dX6_tryOf_237 (r_iadd dX6_tryOf_238 (r_ialX dX6_tryOf_239 (rfl) (wD.e5 hp6) (by omega) (by omega) (by omega) (r_iconst dX6_tryOf_240 (r_iadd dX6_tryOf_241 (r_iconst dX6_tryOf_242 (r_bipush dX6_tryOf_243 (by decide) ?_))))))))))))))))))
            refine r_cSI3 dX6_tryOf_245 sX6_173 (m_within (d := 0) (by omega) (by omega) (by omega)) (by decide) (Nat.le_of_ble_eq_true rfl) (fun b_245 M_245 h_245 => ?_)
            obtain ⟨rfl, rfl⟩ := h_245
            refine r_eq (mn 99 (tD 5 p + 1)) (by unfold mn; (repeat' split) <;> omega) ?_
            refine r_iasX (3 * p + 2) dX6_tryOf_248 (rfl) (by omega) (by omega) (by omega) (by unfold mn; split <;> omega) ?_
            obtain ⟨E, hE⟩ : ∃ x, x = upM D 3 (3 * p + 2) (mn 99 (tD 5 p + 1)) := ⟨_, rfl⟩
            rw [← hE]
            obtain ⟨tE, htE⟩ : ∃ x, x = st tD 5 p (mn 99 (tD 5 p + 1)) := ⟨_, rfl⟩
            have wE : TM E tE := by rw [hE, htE]; exact wD.u5
            have fE : Fm mT M E := by rw [hE]; exact fD.up (by omega)
            refine r_aload_0 dX6_tryOf_249 (r_getR dX6_tryOf_250 fX6_19 (rfl) (rfl) (r_iconst dX6_tryOf_253 (r_iload_2 dX6_tryOf_254 (r_imul dX6_tryOf_255 (r_iconst dX6_tryOf_256 (r_iadd dX6_tryOf_257 (r_iload_1 dX6_tryOf_258 ?_)))))))
            refine r_iasX (3 * d + 1) dX6_tryOf_259 (rfl) (by omega) (by omega) (by omega) (by omega) ?_
            obtain ⟨F, hF⟩ : ∃ x, x = upM E 4 (3 * d + 1) ((p : Int)) := ⟨_, rfl⟩
            rw [← hF]
            obtain ⟨tF, htF⟩ : ∃ x, x = st tE 1 d ((p : Int)) := ⟨_, rfl⟩
            have wF : TM F tF := by rw [hF, htF]; exact wE.u1
            have fF : Fm mT M F := by rw [hF]; exact fE.up (by omega)
            refine r_aload_0 dX6_tryOf_260 (r_getR dX6_tryOf_261 fX6_19 (rfl) (rfl) (r_iconst dX6_tryOf_264 (r_iload_2 dX6_tryOf_265 (r_imul dX6_tryOf_266 (r_iconst dX6_tryOf_267 (r_iadd dX6_tryOf_268 (r_iload_1 dX6_tryOf_269 ?_)))))))
            refine r_iasX (3 * d + 2) dX6_tryOf_270 (rfl) (by omega) (by omega) (by omega) (by omega) ?_
            refine r_iconst dX6_tryOf_271 ?_
            refine r_ireturn dX6_tryOf_272 rfl ?_
            refine ⟨_, rfl, ho.symm, ?_, fF.up (by omega)⟩
            have e : sTry X τ p d = st tF 2 d p := by
              unfold sTry
              rw [if_pos ho, hz]
              subst htF htE htD htC hfnd htB htA hpaid
              exact st_comm (by decide)
            rw [e]
            exact wF.u2
          refine r_aload_0 dX6_tryOf_143 (r_getR dX6_tryOf_144 fX6_19 (rfl) (rfl) (r_iconst dX6_tryOf_147 (r_iload_2 dX6_tryOf_148 (r_imul dX6_tryOf_149 (r_ialX dX6_tryOf_150 (rfl) (wB.e0 hd) (by omega) (by omega) (by omega) (r_bipush dX6_tryOf_151 (by decide) (r_aload_0 dX6_tryOf_153 (r_getR dX6_tryOf_154 fX6_16 (rfl) (rfl) (r_iconst dX6_tryOf_157 (r_iload_1 dX6_tryOf_158 (r_imul dX6_tryOf_159 (r_iconst dX6_tryOf_160 (r_iadd dX6_tryOf_161 (r_ialX dX6_tryOf_162 (rfl) (wB.e4 hp6) (by omega) (by omega) (by omega) (r_isub dX6_tryOf_163 ?_)))))))))))))))
          refine r_icmp_ge dX6_tryOf_164 (by omega) (by omega) (fun c_164 => ?_) (fun c_164 => ?_)
          · skip
            refine r_bipush dX6_tryOf_178 (by decide) (r_aload_0 dX6_tryOf_180 (r_getR dX6_tryOf_181 fX6_16 (rfl) (rfl) (r_iconst dX6_tryOf_184 (r_iload_1 dX6_tryOf_185 (r_imul dX6_tryOf_186 (r_iconst dX6_tryOf_187 (r_iadd dX6_tryOf_188 (r_ialX dX6_tryOf_189 (rfl) (wB.e4 hp6) (by omega) (by omega) (by omega) (r_isub dX6_tryOf_190 ?_)))))))))
            exact jn_191 _ (by unfold mn; (repeat' split) <;> omega)
          · skip
            refine r_aload_0 dX6_tryOf_167 (r_getR dX6_tryOf_168 fX6_19 (rfl) (rfl) (r_iconst dX6_tryOf_171 (r_iload_2 dX6_tryOf_172 (r_imul dX6_tryOf_173 (r_ialX dX6_tryOf_174 (rfl) (wB.e0 hd) (by omega) (by omega) (by omega) (r_goto dX6_tryOf_175 ?_))))))
            exact jn_191 _ (by unfold mn; (repeat' split) <;> omega)
        refine r_bipush dX6_tryOf_75 (by decide) (r_aload_0 dX6_tryOf_77 (r_getR dX6_tryOf_78 fX6_16 (rfl) (rfl) (r_iconst dX6_tryOf_81 (r_iload_3 dX6_tryOf_82 (r_imul dX6_tryOf_83 (r_iconst dX6_tryOf_84 (r_iadd dX6_tryOf_85 (r_ialX dX6_tryOf_86 (rfl) (wM_38.e4 hh6) (by omega) (by omega) (by omega) (r_isub dX6_tryOf_87 (r_iload_4 dX6_tryOf_88 ?_))))))))))
        refine r_icmp_ge dX6_tryOf_90 (by omega) (by omega) (fun c_90 => ?_) (fun c_90 => ?_)
        · skip
          refine r_iload_4 dX6_tryOf_109 ?_
          exact jn_111 _ (by unfold mn; split at hv1 <;> (repeat' split) <;> omega)
        · skip
          refine r_bipush dX6_tryOf_93 (by decide) (r_aload_0 dX6_tryOf_95 (r_getR dX6_tryOf_96 fX6_16 (rfl) (rfl) (r_iconst dX6_tryOf_99 (r_iload_3 dX6_tryOf_100 (r_imul dX6_tryOf_101 (r_iconst dX6_tryOf_102 (r_iadd dX6_tryOf_103 (r_ialX dX6_tryOf_104 (rfl) (wM_38.e4 hh6) (by omega) (by omega) (by omega) (r_isub dX6_tryOf_105 (r_goto dX6_tryOf_106 ?_))))))))))
          exact jn_111 _ (by unfold mn; split at hv1 <;> (repeat' split) <;> omega)
      refine r_aload_0 dX6_tryOf_43 (r_getR dX6_tryOf_44 fX6_16 (rfl) (rfl) (r_iconst dX6_tryOf_47 (r_iload_1 dX6_tryOf_48 (r_imul dX6_tryOf_49 (r_iconst dX6_tryOf_50 (r_iadd dX6_tryOf_51 (r_ialX dX6_tryOf_52 (rfl) (wM_38.e4 hp6) (by omega) (by omega) (by omega) (r_iload_4 dX6_tryOf_53 ?_))))))))
      refine r_icmp_ge dX6_tryOf_55 (by omega) (by omega) (fun c_55 => ?_) (fun c_55 => ?_)
      · skip
        refine r_iload_4 dX6_tryOf_71 ?_
        exact jn_73 _ (by unfold mn; (repeat' split) <;> omega)
      · skip
        refine r_aload_0 dX6_tryOf_58 (r_getR dX6_tryOf_59 fX6_16 (rfl) (rfl) (r_iconst dX6_tryOf_62 (r_iload_1 dX6_tryOf_63 (r_imul dX6_tryOf_64 (r_iconst dX6_tryOf_65 (r_iadd dX6_tryOf_66 (r_ialX dX6_tryOf_67 (rfl) (wM_38.e4 hp6) (by omega) (by omega) (by omega) (r_goto dX6_tryOf_68 ?_))))))))
        exact jn_73 _ (by unfold mn; (repeat' split) <;> omega)
    · skip
      have ho : ¬ sOut τ p d = 2 := by unfold sOut; rw [if_neg (by omega), if_pos (by omega)]; decide
      refine r_iconst dX6_tryOf_34 ?_
      refine r_ireturn dX6_tryOf_35 rfl ?_
      refine ⟨_, rfl, by unfold sOut; rw [if_neg (by omega), if_pos (by omega)], ?_, Fm.refl⟩
      rw [show sTry X τ p d = st τ 1 d p by unfold sTry; rw [if_neg ho], st_id (by omega)]
      exact hT
  · skip
    have ho : ¬ sOut τ p d = 2 := by unfold sOut; rw [if_pos (by omega)]; decide
    refine r_aload_0 dX6_tryOf_16 (r_getR dX6_tryOf_17 fX6_19 (rfl) (rfl) (r_iconst dX6_tryOf_20 (r_iload_2 dX6_tryOf_21 (r_imul dX6_tryOf_22 (r_iconst dX6_tryOf_23 (r_iadd dX6_tryOf_24 (r_iload_1 dX6_tryOf_25 ?_)))))))
    refine r_iasX (3 * d + 1) dX6_tryOf_26 (rfl) (by omega) (by omega) (by omega) (by omega) ?_
    refine r_iconst dX6_tryOf_27 ?_
    refine r_ireturn dX6_tryOf_28 rfl ?_
    refine ⟨_, rfl, by unfold sOut; rw [if_pos (by omega)], ?_, Fm.refl.up (by omega)⟩
    rw [show sTry X τ p d = st τ 1 d p by unfold sTry; rw [if_neg ho]]
    exact hT.u1
set_option maxRecDepth 10000 in
set_option maxHeartbeats 4000000 in
theorem m_minuteOf {M : Mem} {nT : Nat} {τ : Tn} {X : Nat → Tx} (hT : TM M τ) (hw : WF nT τ) (hX : XM M nT X) (hcl : τ 8 1 < 2147483647) : Con GM 5 kX6_minuteOf [rv 0] M (pI (fun a M2 => a = (sMin X τ).1 ∧ TM M2 (sMin X τ).2 ∧ Fm mT M M2)) := by
  refine con_of [some (rv 0), none, none, none, none] (plX6) rfl (Nat.le_of_ble_eq_true rfl) (fun z => ?_)
  obtain ⟨⟨wn, wn2⟩, wcl, ⟨wl, wl2⟩, -, -⟩ := id hw
  refine r_iconst dX6_minuteOf_0 (r_istore_1 dX6_minuteOf_1 rfl (r_iconst dX6_minuteOf_2 (r_istore_2 dX6_minuteOf_3 rfl ?_)))
  have lp_4 : ∀ (NN : Nat) (p : Nat) (bits : Int) (T : Tn) (Mv : Mem) (o3 o4 : Option PV) (hpn : (p : Int) ≤ τ 8 0) (hTT : T = (sAll X τ p).2) (hbits : bits = (sAll X τ p).1) (wv : TM Mv T) (fv : Fm mT M Mv), 6 - p < NN → WP kX6_minuteOf GM 5 (pI (fun a M2 => a = (sMin X τ).1 ∧ TM M2 (sMin X τ).2 ∧ Fm mT M M2)) z 4 [some (rv 0), some (iv bits), some (iv (p : Int)), o3, o4] [] Mv := by
    intro NN
    induction NN with
    | zero => intros; omega
    | succ NN ih =>
      intro p bits T Mv o3 o4 hpn hTT hbits wv fv hm
      have wT : WF nT T := by rw [hTT]; exact sAll_wf hw p (by omega)
      have hT8 : ∀ i, T 8 i = τ 8 i := fun i => by rw [hTT]; exact sAll_8 X τ p i
      have hbb : 0 ≤ bits ∧ bits < 2 ^ p := by rw [hbits]; exact sAll_b X τ p
      have h2p : (2 : Int) ^ p ≤ 64 := by
        rcases (by omega : p = 0 ∨ p = 1 ∨ p = 2 ∨ p = 3 ∨ p = 4 ∨ p = 5 ∨ p = 6) with rfl | rfl | rfl | rfl | rfl | rfl | rfl <;> decide
      have xv := hX.tn fv
      have h81 := hT8 1
      have h80 := hT8 0
      have hclT : T 8 1 < 2147483648 := by omega
      refine r_iload_2 dX6_minuteOf_4 ?_
      refine r_aload_0 dX6_minuteOf_5 (r_getE dX6_minuteOf_6 fX6_72 (rfl) (rfl) (wv.people) ?_)
      refine r_icmp_ge dX6_minuteOf_9 (by omega) (by omega) (fun c_9 => ?_) (fun c_9 => ?_)
      · skip
        have hpe : p = (τ 8 0).toNat := by omega
        refine r_aload_0 dX6_minuteOf_91 (r_dup_r dX6_minuteOf_92 (r_getE dX6_minuteOf_93 fX6_79 (rfl) (rfl) (wv.clock) (r_iconst dX6_minuteOf_96 (r_iadd dX6_minuteOf_97 ?_))))
        refine r_put dX6_minuteOf_98 pX6_79 (rfl) (rfl) (by omega) ?_
        have w6 : TM _ (st T 8 1 (T 8 1 + 1)) := wv.uclock (v := T 8 1 + 1)
        have f6 : Fm mT M _ := fv.up (k := 0) (i := 5) (v := T 8 1 + 1) (by omega)
        refine r_iconst dX6_minuteOf_101 (r_istore_2 dX6_minuteOf_102 rfl ?_)
        have lp_103 : ∀ (NN : Nat) (i : Nat) (Mx : Mem) (hi : i ≤ 8) (wx : TM Mx (fun f j => if (T 8 1 + 1).tmod 20 = 0 ∧ (f = 1 ∨ f = 2) ∧ j < i then -1 else st T 8 1 (T 8 1 + 1) f j)) (fx : Fm mT M Mx), 8 - i < NN → WP kX6_minuteOf GM 5 (pI (fun a M2 => a = (sMin X τ).1 ∧ TM M2 (sMin X τ).2 ∧ Fm mT M M2)) z 103 [some (rv 0), some (iv bits), some (iv (i : Int)), o3, o4] [] Mx := by
          intro NN
          induction NN with
          | zero => intros; omega
          | succ NN ih =>
            intro i Mx hi wx fx hm
            refine r_iload_2 dX6_minuteOf_103 ?_
            refine r_bipush dX6_minuteOf_104 (by decide) ?_
            refine r_icmp_ge dX6_minuteOf_106 (by omega) (by omega) (fun c_106 => ?_) (fun c_106 => ?_)
            · skip
              refine r_iload_1 dX6_minuteOf_147 ?_
              refine r_ireturn dX6_minuteOf_148 rfl ?_
              refine ⟨_, rfl, by rw [hbits, hpe]; rfl, ?_, fx⟩
              show TM Mx (sEnd (sAll X τ (τ 8 0).toNat).2)
              rw [← hpe, ← hTT]
              refine wx.cong (fun f j hj => ?_)
              unfold sEnd st
              split
              · rename_i e; rw [if_neg (by omega)]
              · split
                · rename_i e; rw [if_pos ⟨e.2, e.1, by have := hj (by omega); omega⟩]
                · rename_i e; rw [if_neg (fun w => e ⟨w.2.1, w.1⟩)]
            · skip
              refine r_aload_0 dX6_minuteOf_109 (r_getE (v := T 8 1 + 1) dX6_minuteOf_110 fX6_79 (rfl) (rfl) (by rw [wx.clock, if_neg (by omega), st_self]) (r_bipush dX6_minuteOf_113 (by decide) ?_))
              refine r_irem dX6_minuteOf_115 (by omega) (by omega) (by omega) ?_
              refine r_if_ne dX6_minuteOf_116 (by have := Int.tmod_nonneg (a := T 8 1 + 1) 20 (by omega); have := Int.tmod_lt_of_pos (T 8 1 + 1) (show (0 : Int) < 20 by decide); omega) (fun c_116 => ?_) (fun c_116 => ?_)
              · skip
                refine r_iload_1 dX6_minuteOf_147 ?_
                refine r_ireturn dX6_minuteOf_148 rfl ?_
                refine ⟨_, rfl, by rw [hbits, hpe]; rfl, ?_, fx⟩
                show TM Mx (sEnd (sAll X τ (τ 8 0).toNat).2)
                rw [← hpe, ← hTT]
                refine wx.cong (fun f j hj => ?_)
                rw [sEnd_no c_116, if_neg (fun w => c_116 w.1)]
              · skip
                refine r_aload_0 dX6_minuteOf_119 (r_getR dX6_minuteOf_120 fX6_19 (rfl) (rfl) (r_iconst dX6_minuteOf_123 (r_iload_2 dX6_minuteOf_124 (r_imul dX6_minuteOf_125 (r_iconst dX6_minuteOf_126 (r_iadd dX6_minuteOf_127 (r_iconst dX6_minuteOf_128 ?_)))))))
                refine r_iasX (3 * i + 1) dX6_minuteOf_129 (rfl) (by omega) (by omega) (by omega) (by omega) ?_
                refine r_aload_0 dX6_minuteOf_130 (r_getR dX6_minuteOf_131 fX6_19 (rfl) (rfl) (r_iconst dX6_minuteOf_134 (r_iload_2 dX6_minuteOf_135 (r_imul dX6_minuteOf_136 (r_iconst dX6_minuteOf_137 (r_iadd dX6_minuteOf_138 (r_iconst dX6_minuteOf_139 ?_)))))))
                refine r_iasX (3 * i + 2) dX6_minuteOf_140 (rfl) (by omega) (by omega) (by omega) (by omega) ?_
                refine r_iinc_2 dX6_minuteOf_141 rfl (r_goto dX6_minuteOf_144 ?_)
                exact ih (i + 1) _ (by omega) ((wx.u1.u2).cong (fun f j _ => by
                  have hz : (T 8 1 + 1).tmod 20 = 0 := by omega
                  unfold st
                  by_cases e2 : f = 2 ∧ j = i
                  · rw [if_pos e2, if_pos ⟨hz, Or.inr e2.1, by omega⟩]
                  · rw [if_neg e2]
                    by_cases e1 : f = 1 ∧ j = i
                    · rw [if_pos e1, if_pos ⟨hz, Or.inl e1.1, by omega⟩]
                    · rw [if_neg e1]
                      show _ = (if (T 8 1 + 1).tmod 20 = 0 ∧ (f = 1 ∨ f = 2) ∧ j < i then -1 else (if f = 8 ∧ j = 1 then T 8 1 + 1 else T f j))
                      by_cases q : (T 8 1 + 1).tmod 20 = 0 ∧ (f = 1 ∨ f = 2) ∧ j < i
                      · rw [if_pos q, if_pos ⟨q.1, q.2.1, by omega⟩]
                      · rw [if_neg q, if_neg (fun w => q ⟨w.1, w.2.1, by omega⟩)])) ((fx.up (by omega)).up (by omega)) (by omega)
        exact lp_103 _ 0 _ (by omega) (w6.cong (fun f j _ => if_neg (fun w => Nat.not_lt_zero _ w.2.2))) f6 (Nat.lt_succ_self _)
      · skip
        have hp6 : p < 6 := by omega
        have wTp := wT.p hp6
        have hpT : (p : Int) < T 8 0 := by omega
        have jn_39 : ∀ (v : Int) (T1 : Tn) (M1 : Mem) (q1 : v = if sTri X T p = true then sOut T p (T 3 p).toNat else 0) (q2 : T1 = (if sTri X T p = true then sTry X T p (T 3 p).toNat else T)) (w1 : TM M1 T1) (f1 : Fm mT M M1), WP kX6_minuteOf GM 5 (pI (fun a M2 => a = (sMin X τ).1 ∧ TM M2 (sMin X τ).2 ∧ Fm mT M M2)) z 39 [some (rv 0), some (iv bits), some (iv (p : Int)), some (iv (bi (sTri X T p))), o4] [iv v] M1 := by
          intro v T1 M1 q1 q2 w1 f1
          have so := sOut_in T p (T 3 p).toNat
          have hvb : 0 ≤ v ∧ v ≤ 2 := by split at q1 <;> omega
          have hvv : v = 2 ↔ (sTri X T p = true ∧ sOut T p (T 3 p).toNat = 2) := by
            rw [q1]
            split
            · rename_i w; exact ⟨fun e => ⟨w, e⟩, fun e => e.2⟩
            · rename_i w; exact ⟨fun e => absurd e (by decide), fun e => absurd e.1 w⟩
          have wT1 : WF nT T1 := by
            rw [q2]
            split
            · exact sTry_wf wT hp6 (by omega)
            · exact wT
          have hT18 : ∀ i, T1 8 i = τ 8 i := fun i => by
            rw [q2]
            split
            · rw [sTry_8]; exact hT8 i
            · exact hT8 i
          have h181 := hT18 1
          have h180 := hT18 0
          have hclT1 : T1 8 1 < 2147483648 := by omega
          have wT1p := wT1.p hp6
          have x1 := hX.tn f1
          refine r_istore_4 dX6_minuteOf_39 rfl ?_
          have jn_55 : ∀ (w : Int) (hw2 : w = if sTri X T p = true ∧ sOut T p (T 3 p).toNat = 2 then 2 ^ p else 0), WP kX6_minuteOf GM 5 (pI (fun a M2 => a = (sMin X τ).1 ∧ TM M2 (sMin X τ).2 ∧ Fm mT M M2)) z 55 [some (rv 0), some (iv bits), some (iv (p : Int)), some (iv (bi (sTri X T p))), some (iv v)] [iv w, iv bits] M1 := by
            intro w hw2
            refine r_ior (r := bits + w) dX6_minuteOf_55 (by rw [hw2]; split; exact or_bit (by omega) hbb; exact or_0 _) ?_
            refine r_istore_1 dX6_minuteOf_56 rfl (r_aload_0 dX6_minuteOf_57 (r_getR dX6_minuteOf_58 fX6_16 (rfl) (rfl) (r_iconst dX6_minuteOf_61 (r_iload_2 dX6_minuteOf_62 (r_imul dX6_minuteOf_63 (r_aload_0 dX6_minuteOf_64 (r_getR dX6_minuteOf_65 fX6_16 (rfl) (rfl) (r_iconst dX6_minuteOf_68 (r_iload_2 dX6_minuteOf_69 (r_imul dX6_minuteOf_70 (r_ialX dX6_minuteOf_71 (rfl) (w1.e3 hp6) (by omega) (by omega) (by omega) (r_aload_0 dX6_minuteOf_72 (r_iload_2 dX6_minuteOf_73 ?_)))))))))))))
            refine r_cVI1 dX6_minuteOf_74 vX6_187 (rfl) (m_goesOf w1 wT1 x1 hclT1 (by omega)) (by decide) (Nat.le_of_ble_eq_true rfl) (fun b_74 M_74 h_74 => ?_)
            obtain ⟨rfl, hF4⟩ := h_74
            have w4 := w1.sc hF4
            have go := sGo_in X T1 p
            refine r_iadd dX6_minuteOf_77 (r_bipush dX6_minuteOf_78 (by decide) (r_iadd dX6_minuteOf_80 (r_bipush dX6_minuteOf_81 (by decide) ?_)))
            refine r_irem dX6_minuteOf_83 (by omega) (by omega) (by omega) ?_
            refine r_eq ((T1 3 p + sGo X T1 p) % 8) (by rw [Int.tmod_eq_emod_of_nonneg (by omega)]; omega) ?_
            refine r_iasX (3 * p) dX6_minuteOf_84 (rfl) (by omega) (by omega) (by omega) (by omega) ?_
            have w5 : TM _ (st T1 3 p ((T1 3 p + sGo X T1 p) % 8)) := w4.u3 (p := p) (v := (T1 3 p + sGo X T1 p) % 8)
            have f5 : Fm mT M _ := (f1.trans hF4.sT).up (k := 3) (i := 3 * p) (v := (T1 3 p + sGo X T1 p) % 8) (by omega)
            refine r_iinc_2 dX6_minuteOf_85 rfl (r_goto dX6_minuteOf_88 ?_)
            exact ih (p + 1) _ _ _ _ _ (by omega) (by simp only [sAll, sOne]; rw [← hTT, ← q2]) (by simp only [sAll, sOne]; rw [← hTT, ← hbits, hw2]; split <;> omega) w5 f5 (by omega)
          refine r_iload_1 dX6_minuteOf_41 (r_iload_4 dX6_minuteOf_42 (r_iconst dX6_minuteOf_44 ?_))
          refine r_icmp_ne dX6_minuteOf_45 (by omega) (by omega) (fun c_45 => ?_) (fun c_45 => ?_)
          · skip
            refine r_iconst dX6_minuteOf_54 ?_
            exact jn_55 _ (by rw [if_neg (fun w => c_45 (hvv.mpr w))])
          · skip
            refine r_iconst dX6_minuteOf_48 (r_iload_2 dX6_minuteOf_49 ?_)
            refine r_ishl (r := 2 ^ p) dX6_minuteOf_50 (shl_bit hp6) ?_
            refine r_goto dX6_minuteOf_51 ?_
            exact jn_55 _ (by rw [if_pos (hvv.mp (by omega))])
        refine r_aload_0 dX6_minuteOf_12 (r_iload_2 dX6_minuteOf_13 ?_)
        refine r_cVI1 dX6_minuteOf_14 vX6_181 (rfl) (m_doesTry wv wT xv hclT hpT) (by decide) (Nat.le_of_ble_eq_true rfl) (fun b_14 M_14 h_14 => ?_)
        obtain ⟨rfl, hF2⟩ := h_14
        have w2 := wv.sc hF2
        have f2 := fv.trans hF2.sT
        have x2 := xv.sc hF2
        refine r_istore_3 dX6_minuteOf_17 rfl (r_iload_3 dX6_minuteOf_18 ?_)
        refine r_ifb_eq dX6_minuteOf_19 (fun c_19 => ?_) (fun c_19 => ?_)
        · skip
          refine r_iconst dX6_minuteOf_38 ?_
          exact jn_39 _ _ _ (by rw [if_neg (by rw [c_19]; decide)]) (by rw [if_neg (by rw [c_19]; decide)]) w2 f2
        · skip
          refine r_aload_0 dX6_minuteOf_22 (r_iload_2 dX6_minuteOf_23 (r_aload_0 dX6_minuteOf_24 (r_getR dX6_minuteOf_25 fX6_16 (rfl) (rfl) (r_iconst dX6_minuteOf_28 (r_iload_2 dX6_minuteOf_29 (r_imul dX6_minuteOf_30 (r_ialX dX6_minuteOf_31 (rfl) ((w2.e3 hp6).trans (show T 3 p = (((T 3 p).toNat : Nat) : Int) by omega)) (by omega) (by omega) (by omega) ?_)))))))
          refine r_cVI2 dX6_minuteOf_32 vX6_193 (rfl) (m_tryOf (d := (T 3 p).toNat) w2 wT x2 hclT hpT (by omega)) (by decide) (Nat.le_of_ble_eq_true rfl) (fun b_32 M_32 h_32 => ?_)
          obtain ⟨rfl, w3, f3⟩ := h_32
          refine r_goto dX6_minuteOf_35 ?_
          exact jn_39 _ _ _ (by rw [if_pos c_19]) (by rw [if_pos c_19]) w3 (f2.trans f3)
  exact lp_4 _ 0 0 τ M none none (by omega) rfl rfl hT Fm.refl (Nat.lt_succ_self _)
set_option maxRecDepth 10000 in
set_option maxHeartbeats 4000000 in
theorem m_goes {n : Nat} {M : Mem} {nT : Nat} {τ : Tn} {X : Nat → Tx} (hT : TM M τ) (hw : WF nT τ) (hX : XM M nT X) (hcl : τ 8 1 + n < 2147483647) : Con GM 6 kX6_goes [rv 0, iv (n : Int)] M (pV (fun M2 => TM M2 (sRun X τ n) ∧ Fm mT M M2)) := by
  refine con_of [some (rv 0), some (iv (n : Int)), none] (plX6) rfl (Nat.le_of_ble_eq_true rfl) (fun z => ?_)
  obtain ⟨⟨wn, wn2⟩, wcl, ⟨wl, wl2⟩, -, -⟩ := id hw
  refine r_iconst dX6_goes_0 (r_istore_2 dX6_goes_1 rfl ?_)
  have lp_2 : ∀ (NN : Nat) (i : Nat) (Mv : Mem) (hi : i ≤ n) (wv : TM Mv (sRun X τ i)) (fv : Fm mT M Mv), n - i < NN → WP kX6_goes GM 6 (pV (fun M2 => TM M2 (sRun X τ n) ∧ Fm mT M M2)) z 2 [some (rv 0), some (iv (n : Int)), some (iv (i : Int))] [] Mv := by
    intro NN
    induction NN with
    | zero => intros; omega
    | succ NN ih =>
      intro i Mv hi wv fv hm
      have hck := sRun_clk X τ i
      refine r_iload_2 dX6_goes_2 ?_
      refine r_iload_1 dX6_goes_3 ?_
      refine r_icmp_ge dX6_goes_4 (by omega) (by omega) (fun c_4 => ?_) (fun c_4 => ?_)
      · skip
        obtain rfl : i = n := by omega
        refine r_vreturn dX6_goes_18 rfl ?_
        exact ⟨rfl, wv, fv⟩
      · skip
        refine r_aload_0 dX6_goes_7 ?_
        refine r_cVI0 dX6_goes_8 vX6_196 (rfl) (m_minuteOf wv (sRun_wf hw i) (hX.tn fv) (by omega)) (by decide) (Nat.le_of_ble_eq_true rfl) (fun b_8 M_8 h_8 => ?_)
        obtain ⟨rfl, w1, f1⟩ := h_8
        refine r_pop_i dX6_goes_11 (r_iinc_2 dX6_goes_12 rfl (r_goto dX6_goes_15 ?_))
        exact ih (i + 1) _ (by omega) w1 (fv.trans f1) (by omega)
  exact lp_2 _ 0 M (by omega) hT Fm.refl (Nat.lt_succ_self _)
set_option maxRecDepth 10000 in
set_option maxHeartbeats 4000000 in
theorem m_keeps {M : Mem} {τ : Tn} (hT : TM M τ) : Con GM 0 kX6_keeps [rv 0] M (pV (fun M2 => KP M2 τ ∧ Fm (fun c _ => c = 18) M M2)) := by
  refine con_of [some (rv 0), none] (plX6) rfl (Nat.le_of_ble_eq_true rfl) (fun z => ?_)
  refine r_iconst dX6_keeps_0 (r_istore_1 dX6_keeps_1 rfl ?_)
  have lp_2 : ∀ (NN : Nat) (i : Nat) (Mv : Mem) (hi : i ≤ 18) (hv : ∀ k, k < i → Mv 18 k = M 3 k) (fv : Fm (fun c _ => c = 18) M Mv), 18 - i < NN → WP kX6_keeps GM 0 (pV (fun M2 => KP M2 τ ∧ Fm (fun c _ => c = 18) M M2)) z 2 [some (rv 0), some (iv (i : Int))] [] Mv := by
    intro NN
    induction NN with
    | zero => intros; omega
    | succ NN ih =>
      intro i Mv hi hv fv hm
      refine r_mb (fun hMv => ?_)
      have hb := hMv 3 i
      refine r_iload_1 dX6_keeps_2 ?_
      refine r_bipush dX6_keeps_3 (by decide) ?_
      refine r_icmp_ge dX6_keeps_5 (by omega) (by omega) (fun c_5 => ?_) (fun c_5 => ?_)
      · skip
        obtain rfl : i = 18 := by omega
        refine r_iconst dX6_keeps_26 (r_istore_1 dX6_keeps_27 rfl ?_)
        have lp_28 : ∀ (NN : Nat) (j : Nat) (Mw : Mem) (hj : j ≤ 24) (hv2 : ∀ k, k < 18 → Mw 18 k = M 3 k) (hw2 : ∀ k, k < j → Mw 18 (18 + k) = M 4 k) (fw : Fm (fun c _ => c = 18) M Mw), 24 - j < NN → WP kX6_keeps GM 0 (pV (fun M2 => KP M2 τ ∧ Fm (fun c _ => c = 18) M M2)) z 28 [some (rv 0), some (iv (j : Int))] [] Mw := by
          intro NN
          induction NN with
          | zero => intros; omega
          | succ NN ih =>
            intro j Mw hj hv2 hw2 fw hm
            refine r_mb (fun hMv => ?_)
            have hb := hMv 4 j
            have hb2 := hMv 0 5
            refine r_iload_1 dX6_keeps_28 ?_
            refine r_bipush dX6_keeps_29 (by decide) ?_
            refine r_icmp_ge dX6_keeps_31 (by omega) (by omega) (fun c_31 => ?_) (fun c_31 => ?_)
            · skip
              obtain rfl : j = 24 := by omega
              refine r_aload_0 dX6_keeps_55 (r_getR dX6_keeps_56 fX6_61 (rfl) (rfl) (r_bipush dX6_keeps_59 (by decide) (r_aload_0 dX6_keeps_61 (r_getE dX6_keeps_62 fX6_79 (rfl) (rfl) ((fw 0 5 (by omega)).trans hT.clock) ?_))))
              refine r_iasX (42) dX6_keeps_65 (rfl) (by omega) (by omega) (by omega) (by have := (fw 0 5 (by omega)).trans hT.clock; omega) ?_
              refine r_vreturn dX6_keeps_66 rfl ?_
              refine ⟨rfl, ⟨fun p hp j hj => ?_, fun d hd j hj => ?_, upM_self⟩, fw.up rfl⟩
              · rw [upM_ne (by omega), hv2 _ (by omega)]; exact hT.1 p hp j hj
              · rw [upM_ne (by omega), hw2 _ (by omega)]; exact hT.2.1 d hd j hj
            · skip
              refine r_aload_0 dX6_keeps_34 (r_getR dX6_keeps_35 fX6_61 (rfl) (rfl) (r_bipush dX6_keeps_38 (by decide) (r_iload_1 dX6_keeps_40 (r_iadd dX6_keeps_41 (r_aload_0 dX6_keeps_42 (r_getR dX6_keeps_43 fX6_19 (rfl) (rfl) (r_iload_1 dX6_keeps_46 (r_ialX dX6_keeps_47 (rfl) (fw 4 j (by omega)) (by omega) (by omega) (by omega) ?_))))))))
              refine r_iasX (18 + j) dX6_keeps_48 (rfl) (by omega) (by omega) (by omega) (by have := fw 4 j (by omega); omega) ?_
              refine r_iinc_1 dX6_keeps_49 rfl (r_goto dX6_keeps_52 ?_)
              exact ih (j + 1) _ (by omega) (fun k hk => by rw [upM_ne (by omega)]; exact hv2 k hk) (fun k hk => by
                by_cases e : k = j
                · rw [e, upM_self]
                · rw [upM_ne (by omega)]; exact hw2 k (by omega)) (fw.up rfl) (by omega)
        exact lp_28 _ 0 Mv (by omega) hv (fun k hk => absurd hk (Nat.not_lt_zero _)) fv (Nat.lt_succ_self _)
      · skip
        refine r_aload_0 dX6_keeps_8 (r_getR dX6_keeps_9 fX6_61 (rfl) (rfl) (r_iload_1 dX6_keeps_12 (r_aload_0 dX6_keeps_13 (r_getR dX6_keeps_14 fX6_16 (rfl) (rfl) (r_iload_1 dX6_keeps_17 (r_ialX dX6_keeps_18 (rfl) (fv 3 i (by omega)) (by omega) (by omega) (by omega) ?_))))))
        refine r_iasX (i) dX6_keeps_19 (rfl) (by omega) (by omega) (by omega) (by have := fv 3 i (by omega); omega) ?_
        refine r_iinc_1 dX6_keeps_20 rfl (r_goto dX6_keeps_23 ?_)
        exact ih (i + 1) _ (by omega) (fun k hk => by
          by_cases e : k = i
          · rw [e, upM_self]
          · rw [upM_ne (by omega)]; exact hv k (by omega)) (fv.up rfl) (by omega)
  exact lp_2 _ 0 M (by omega) (fun k hk => absurd hk (Nat.not_lt_zero _)) Fm.refl (Nat.lt_succ_self _)
set_option maxRecDepth 10000 in
set_option maxHeartbeats 4000000 in
theorem m_lays {M : Mem} {τ τ' : Tn} (hT : TM M τ') (hk : KP M τ) (h8 : SK678 τ τ') (h82 : τ' 8 2 = τ 8 2) : Con GM 0 kX6_lays [rv 0] M (pV (fun M2 => TM M2 τ ∧ Fm (fun c i => c = 3 ∨ c = 4 ∨ (c = 0 ∧ i = 5)) M M2)) := by
  refine con_of [some (rv 0), none] (plX6) rfl (Nat.le_of_ble_eq_true rfl) (fun z => ?_)
  refine r_iconst dX6_lays_0 (r_istore_1 dX6_lays_1 rfl ?_)
  have lp_2 : ∀ (NN : Nat) (i : Nat) (Mv : Mem) (hi : i ≤ 18) (hv : ∀ k, k < i → Mv 3 k = M 18 k) (fv : Fm (fun c i => c = 3 ∨ c = 4 ∨ (c = 0 ∧ i = 5)) M Mv), 18 - i < NN → WP kX6_lays GM 0 (pV (fun M2 => TM M2 τ ∧ Fm (fun c i => c = 3 ∨ c = 4 ∨ (c = 0 ∧ i = 5)) M M2)) z 2 [some (rv 0), some (iv (i : Int))] [] Mv := by
    intro NN
    induction NN with
    | zero => intros; omega
    | succ NN ih =>
      intro i Mv hi hv fv hm
      refine r_mb (fun hMv => ?_)
      have hb := hMv 18 i
      refine r_iload_1 dX6_lays_2 ?_
      refine r_bipush dX6_lays_3 (by decide) ?_
      refine r_icmp_ge dX6_lays_5 (by omega) (by omega) (fun c_5 => ?_) (fun c_5 => ?_)
      · skip
        obtain rfl : i = 18 := by omega
        refine r_iconst dX6_lays_26 (r_istore_1 dX6_lays_27 rfl ?_)
        have lp_28 : ∀ (NN : Nat) (j : Nat) (Mw : Mem) (hj : j ≤ 24) (hv2 : ∀ k, k < 18 → Mw 3 k = M 18 k) (hw2 : ∀ k, k < j → Mw 4 k = M 18 (18 + k)) (fw : Fm (fun c i => c = 3 ∨ c = 4 ∨ (c = 0 ∧ i = 5)) M Mw), 24 - j < NN → WP kX6_lays GM 0 (pV (fun M2 => TM M2 τ ∧ Fm (fun c i => c = 3 ∨ c = 4 ∨ (c = 0 ∧ i = 5)) M M2)) z 28 [some (rv 0), some (iv (j : Int))] [] Mw := by
          intro NN
          induction NN with
          | zero => intros; omega
          | succ NN ih =>
            intro j Mw hj hv2 hw2 fw hm
            refine r_mb (fun hMv => ?_)
            have hb := hMv 18 (18 + j)
            have hb2 := hMv 18 42
            refine r_iload_1 dX6_lays_28 ?_
            refine r_bipush dX6_lays_29 (by decide) ?_
            refine r_icmp_ge dX6_lays_31 (by omega) (by omega) (fun c_31 => ?_) (fun c_31 => ?_)
            · skip
              obtain rfl : j = 24 := by omega
              refine r_aload_0 dX6_lays_55 (r_aload_0 dX6_lays_56 (r_getR dX6_lays_57 fX6_61 (rfl) (rfl) (r_bipush dX6_lays_60 (by decide) (r_ialX dX6_lays_62 (rfl) ((fw 18 42 (by omega)).trans hk.2.2) (by omega) (by omega) (by omega) ?_))))
              refine r_put dX6_lays_63 pX6_79 (rfl) (rfl) (by have := (fw 18 42 (by omega)).trans hk.2.2; omega) ?_
              refine r_vreturn dX6_lays_66 rfl ?_
              have fz : Fm (fun c i => c = 3 ∨ c = 4 ∨ (c = 0 ∧ i = 5)) M (upM Mw 0 5 (τ 8 1)) := fw.up (by omega)
              refine ⟨rfl, ⟨fun p hp j hj => ?_, fun d hd j hj => ?_, ?_, upM_self, ?_, fun p hp => ?_⟩, fz⟩
              · rw [upM_ne (by omega), hv2 _ (by omega)]; exact hk.1 p hp j hj
              · rw [upM_ne (by omega), hw2 _ (by omega)]; exact hk.2.1 d hd j hj
              · exact (fz _ _ (by omega)).trans (hT.people.trans h8.1)
              · exact (fz _ _ (by omega)).trans (hT.rule.trans h82)
              · rw [← h8.1] at hp
                exact ⟨(fz _ _ (by omega)).trans ((hT.e6 hp).trans (h8.2.1 p)), (fz _ _ (by omega)).trans ((hT.e7 hp).trans (h8.2.2 p))⟩
            · skip
              refine r_aload_0 dX6_lays_34 (r_getR dX6_lays_35 fX6_19 (rfl) (rfl) (r_iload_1 dX6_lays_38 (r_aload_0 dX6_lays_39 (r_getR dX6_lays_40 fX6_61 (rfl) (rfl) (r_bipush dX6_lays_43 (by decide) (r_iload_1 dX6_lays_45 (r_iadd dX6_lays_46 (r_ialX dX6_lays_47 (rfl) (fw 18 (18 + j) (by omega)) (by omega) (by omega) (by omega) ?_))))))))
              refine r_iasX (j) dX6_lays_48 (rfl) (by omega) (by omega) (by omega) (by have := fw 18 (18 + j) (by omega); omega) ?_
              refine r_iinc_1 dX6_lays_49 rfl (r_goto dX6_lays_52 ?_)
              exact ih (j + 1) _ (by omega) (fun k hk => by rw [upM_ne (by omega)]; exact hv2 k hk) (fun k hk => by
                by_cases e : k = j
                · rw [e, upM_self]
                · rw [upM_ne (by omega)]; exact hw2 k (by omega)) (fw.up (Or.inr (Or.inl rfl))) (by omega)
        exact lp_28 _ 0 Mv (by omega) hv (fun k hk => absurd hk (Nat.not_lt_zero _)) fv (Nat.lt_succ_self _)
      · skip
        refine r_aload_0 dX6_lays_8 (r_getR dX6_lays_9 fX6_16 (rfl) (rfl) (r_iload_1 dX6_lays_12 (r_aload_0 dX6_lays_13 (r_getR dX6_lays_14 fX6_61 (rfl) (rfl) (r_iload_1 dX6_lays_17 (r_ialX dX6_lays_18 (rfl) (fv 18 i (by omega)) (by omega) (by omega) (by omega) ?_))))))
        refine r_iasX (i) dX6_lays_19 (rfl) (by omega) (by omega) (by omega) (by have := fv 18 i (by omega); omega) ?_
        refine r_iinc_1 dX6_lays_20 rfl (r_goto dX6_lays_23 ?_)
        exact ih (i + 1) _ (by omega) (fun k hk => by
          by_cases e : k = i
          · rw [e, upM_self]
          · rw [upM_ne (by omega)]; exact hv k (by omega)) (fv.up (Or.inl rfl)) (by omega)
  exact lp_2 _ 0 M (by omega) (fun k hk => absurd hk (Nat.not_lt_zero _)) Fm.refl (Nat.lt_succ_self _)

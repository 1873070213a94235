set_option maxRecDepth 10000 in
set_option maxHeartbeats 4000000 in
theorem x_says {M : Mem} {part p : Nat} {b nT : Nat} {τ : Tn} {X : Nat → Tx} (hb : tb b) (hτ : TW M b τ) (hw : WF nT τ) (hX : XT M nT X) (hcl : τ 8 1 < 2147483648) (hpt : part < 3) (hp : p < 6) : Con GX 2 kX4_says [rv b, iv (part : Int), iv (p : Int)] M (pI (fun a M2 => a = sAsk X τ part p ∧ Fr scr M M2)) := by
  refine con_of [some (rv b), some (iv (part : Int)), some (iv (p : Int)), none] (plX4) rfl (Nat.le_of_ble_eq_true rfl) (fun z => ?_)
  have wp := hw.p hp
  obtain ⟨⟨wa, wa2⟩, ⟨we, we2⟩, ⟨wc, wc2⟩, ⟨wk, wk2⟩, wm, wm2⟩ := wp
  obtain ⟨⟨wn, wn2⟩, wcl, ⟨wl, wl2⟩, -, -⟩ := id hw
  refine r_aload_0 dX4_says_0 (r_getR dX4_says_1 fX4_36 (gT hb) (rfl) (r_iconst dX4_says_4 (r_aload_0 dX4_says_5 (r_getR dX4_says_6 fX4_21 (gT hb) (rfl) (r_iload_2 dX4_says_9 (r_ialN dX4_says_10 (gA4 hb) (by omega) (by omega) (hτ.e3 hp) ?_))))))
  refine r_iastore dX4_says_11 (gA9 hb) (by omega) (by omega) (by omega) ?_
  refine r_aload_0 dX4_says_12 (r_getR dX4_says_13 fX4_36 (gT hb) (rfl) (r_iconst dX4_says_16 (r_aload_0 dX4_says_17 (r_getR dX4_says_18 fX4_24 (gT hb) (rfl) (r_iload_2 dX4_says_21 (r_ialN (v := τ 4 p) dX4_says_22 (gA5 hb) (by omega) (by omega) (by (repeat rw [upM_ne (Or.inl (by omega))]); exact hτ.e4 hp) ?_))))))
  refine r_iastore dX4_says_23 (gA9 hb) (by omega) (by omega) (by omega) ?_
  refine r_aload_0 dX4_says_24 (r_getR dX4_says_25 fX4_36 (gT hb) (rfl) (r_iconst dX4_says_28 (r_aload_0 dX4_says_29 (r_getE (v := τ 8 1) dX4_says_30 fX4_43 (gT hb) (rfl) (by (repeat rw [upM_ne (Or.inl (by omega))]); exact hτ.clock) (r_bipush dX4_says_33 (by decide) ?_)))))
  refine r_irem dX4_says_35 (by omega) (by omega) (by omega) ?_
  refine r_iastore dX4_says_36 (gA9 hb) (by omega) (by omega) (by have := Int.tmod_nonneg 20 wcl; have := Int.tmod_lt_of_pos (τ 8 1) (show (0 : Int) < 20 by decide); omega) ?_
  obtain ⟨M3, hM3⟩ : ∃ x, x = upM (upM (upM M (b + 9) (Int.toNat 0) (τ 3 p)) (b + 9) (Int.toNat 1) (τ 4 p)) (b + 9) (Int.toNat 2) ((τ 8 1).tmod 20) := ⟨_, rfl⟩
  rw [← hM3]
  have hF3 : Fr (fun c => c == b + 9) M M3 := by rw [hM3]; exact ((Fr.refl.up (by simp)).up (by simp)).up (by simp)
  have hτ3 := hτ.fr hF3 (fun c h1 h2 => by simp; omega)
  have jn_62 : WP kX4_says GX 2 (pI (fun a M2 => a = sAsk X τ part p ∧ Fr scr M M2)) z 62 [some (rv b), some (iv (part : Int)), some (iv (p : Int)), none] [iv (env τ p 3), iv 3, rv (b + 9)] M3 := by
    skip
    refine r_iastore dX4_says_62 (gA9 hb) (by omega) (by omega) (by show ib (env τ p 3); unfold env; simp only []; split <;> omega) ?_
    refine r_aload_0 dX4_says_63 (r_getR dX4_says_64 fX4_36 (gT hb) (rfl) (r_iconst dX4_says_67 (r_aload_0 dX4_says_68 (r_getR dX4_says_69 fX4_27 (gT hb) (rfl) (r_iload_2 dX4_says_72 (r_ialN (v := τ 5 p) dX4_says_73 (gA6 hb) (by omega) (by omega) (by (repeat rw [upM_ne (Or.inl (by omega))]); exact hτ3.e5 hp) ?_))))))
    refine r_iastore dX4_says_74 (gA9 hb) (by omega) (by omega) (by omega) ?_
    refine r_aload_0 dX4_says_75 (r_getR dX4_says_76 fX4_36 (gT hb) (rfl) (r_iconst dX4_says_79 (r_aload_0 dX4_says_80 (r_getR dX4_says_81 fX4_33 (gT hb) (rfl) (r_iload_2 dX4_says_84 (r_ialN (v := τ 7 p) dX4_says_85 (gA8 hb) (by omega) (by omega) (by (repeat rw [upM_ne (Or.inl (by omega))]); exact hτ3.e7 hp) ?_))))))
    refine r_iastore dX4_says_86 (gA9 hb) (by omega) (by omega) (by omega) ?_
    obtain ⟨M6, hM6⟩ : ∃ x, x = upM (upM (upM M3 (b + 9) (Int.toNat 3) (env τ p 3)) (b + 9) (Int.toNat 4) (τ 5 p)) (b + 9) (Int.toNat 5) (τ 7 p) := ⟨_, rfl⟩
    rw [← hM6]
    have hF6 : Fr (fun c => c == b + 9) M M6 := by rw [hM6]; exact hF3.trans (((Fr.refl.up (by simp)).up (by simp)).up (by simp))
    have hτ6 := hτ.fr hF6 (fun c h1 h2 => by simp; omega)
    have hnm : ∀ j, j < 6 → M6 (b + 9) j = env τ p j := by
      intro j hj
      rw [hM6, hM3]
      rcases (by omega : j = 0 ∨ j = 1 ∨ j = 2 ∨ j = 3 ∨ j = 4 ∨ j = 5) with rfl | rfl | rfl | rfl | rfl | rfl <;> simp [upM, env]
    have htl : (τ 8 2).toNat < nT := by omega
    have ht6 : (τ 8 2).toNat < 6 := by have := hX.1; omega
    have hTX := (hX.2 _ htl).1.fr hF6 (by have := tb_lt hb; simp; omega) (by have := tb_lt hb; simp; omega)
    have hok := (hX.2 _ htl).2
    have jn_98 : WP kX4_says GX 2 (pI (fun a M2 => a = sAsk X τ part p ∧ Fr scr M M2)) z 98 [some (rv b), some (iv (part : Int)), some (iv (p : Int)), none] [iv (if part = 2 then -99 else 0)] M6 := by
      refine r_istore_3 dX4_says_98 rfl ?_
      refine r_iload_3 dX4_says_99 (r_bipush dX4_says_100 (by decide) (r_aload_0 dX4_says_102 (r_getR dX4_says_103 fX4_49 (gT hb) (rfl) (r_aload_0 dX4_says_106 (r_getE dX4_says_107 fX4_46 (gT hb) (rfl) (hτ6.law) ?_)))))
      refine r_aaload dX4_says_110 (rfl) (by decide) (by omega) (rsX ht6) ?_
      refine r_iload_1 dX4_says_111 (r_aload_0 dX4_says_112 (r_getR dX4_says_113 fX4_36 (gT hb) (rfl) ?_))
      refine r_cVI2 dX4_says_116 vX4_69 (gX0 ht6) (x_worth ht6 (gA9 hb) (gN hb ht6) hTX hok hpt hnm) (by decide) (Nat.le_of_ble_eq_true rfl) (fun b_116 M_116 h_116 => ?_)
      obtain ⟨rfl, hF7⟩ := h_116
      have hsy := says_ib hok hpt (env τ p) (env_ib hw hcl hp)
      refine r_mmin dX4_says_119 sX4_75 (by omega) (by exact hsy) (by decide) (Nat.le_of_ble_eq_true rfl) ?_
      refine r_mmax dX4_says_122 sX4_81 (by split <;> omega) (by split <;> omega) (by decide) (Nat.le_of_ble_eq_true rfl) ?_
      refine r_ireturn dX4_says_125 rfl ?_
      refine ⟨_, rfl, ?_, ?_⟩
      · unfold sAsk bnd says
        generalize (evl (env τ p) (X (τ 8 2).toNat).1 ((X (τ 8 2).toNat).2 (part + 1) - (X (τ 8 2).toNat).2 part).toNat ((X (τ 8 2).toNat).2 part).toNat []).headD 0 = v
        split <;> split <;> split <;> omega
      · exact (hF6.mono (fun c hc => by simp; intro e; rw [e, scr_nm hb] at hc; cases hc)).trans (hF7.mono (fun c hc => by simp; intro e; rw [e, scr_st ht6] at hc; cases hc))
    refine r_iload_1 dX4_says_87 (r_iconst dX4_says_88 ?_)
    refine r_icmp_ne dX4_says_89 (by omega) (by omega) (fun c_89 => ?_) (fun c_89 => ?_)
    · skip
      refine r_iconst dX4_says_97 ?_
      rw [if_neg (by omega)] at jn_98
      exact jn_98
    · skip
      refine r_bipush dX4_says_92 (by decide) (r_goto dX4_says_94 ?_)
      rw [if_pos (by omega)] at jn_98
      exact jn_98
  refine r_aload_0 dX4_says_37 (r_getR dX4_says_38 fX4_36 (gT hb) (rfl) (r_iconst dX4_says_41 (r_aload_0 dX4_says_42 (r_getR dX4_says_43 fX4_15 (gT hb) (rfl) (r_aload_0 dX4_says_46 (r_getR dX4_says_47 fX4_21 (gT hb) (rfl) (r_iload_2 dX4_says_50 (r_ialN dX4_says_51 (gA4 hb) (by omega) (by omega) (hτ3.e3 hp) (r_ialE dX4_says_52 (gA2 hb) (by omega) (by omega) (hτ3.e1 (i := (τ 3 p).toNat) (by omega)) (r_iconst dX4_says_53 ?_))))))))))
  refine r_icmp_ne dX4_says_54 (by have := hw.d (d := (τ 3 p).toNat) (by omega); omega) (by have := hw.d (d := (τ 3 p).toNat) (by omega); omega) (fun c_54 => ?_) (fun c_54 => ?_)
  · skip
    refine r_iconst dX4_says_61 ?_
    rw [show env τ p 3 = 1 from if_neg c_54] at jn_62
    exact jn_62
  · skip
    refine r_iconst dX4_says_57 (r_goto dX4_says_58 ?_)
    rw [show env τ p 3 = 0 from if_pos c_54] at jn_62
    exact jn_62
set_option maxRecDepth 10000 in
set_option maxHeartbeats 4000000 in
theorem x_outcome {M : Mem} {n p d b : Nat} {τ : Tn} (hb : tb b) (hτ : TW M b τ) (hfd : -1 ≤ τ 1 d ∧ τ 1 d < 6) (hd : d < 8) (hp : p < 6) : Con GX n kX4_outcome [rv b, iv (p : Int), iv (d : Int)] M (pI (fun a M2 => M = M2 ∧ a = sOut τ p d)) := by
  refine con_of [some (rv b), some (iv (p : Int)), some (iv (d : Int))] (plX4) rfl (Nat.le_of_ble_eq_true rfl) (fun z => ?_)
  refine r_aload_0 dX4_outcome_0 (r_getR dX4_outcome_1 fX4_15 (gT hb) (rfl) (r_iload_2 dX4_outcome_4 (r_ialN dX4_outcome_5 (gA2 hb) (by omega) (by omega) (hτ.e1 hd) (r_iconst dX4_outcome_6 ?_))))
  refine r_icmp_ne dX4_outcome_7 (by omega) (by omega) (fun c_7 => ?_) (fun c_7 => ?_)
  · skip
    refine r_aload_0 dX4_outcome_14 (r_getR dX4_outcome_15 fX4_15 (gT hb) (rfl) (r_iload_2 dX4_outcome_18 (r_ialN dX4_outcome_19 (gA2 hb) (by omega) (by omega) (hτ.e1 hd) (r_iload_1 dX4_outcome_20 ?_))))
    refine r_icmp_ne dX4_outcome_21 (by omega) (by omega) (fun c_21 => ?_) (fun c_21 => ?_)
    · skip
      refine r_iconst dX4_outcome_28 ?_
      refine r_ireturn dX4_outcome_29 rfl ?_
      refine ⟨_, rfl, rfl, ?_⟩
      unfold sOut
      split <;> (try split) <;> omega
    · skip
      refine r_iconst dX4_outcome_24 (r_goto dX4_outcome_25 ?_)
      refine r_ireturn dX4_outcome_29 rfl ?_
      refine ⟨_, rfl, rfl, ?_⟩
      unfold sOut
      split <;> (try split) <;> omega
  · skip
    refine r_iconst dX4_outcome_10 (r_goto dX4_outcome_11 ?_)
    refine r_ireturn dX4_outcome_29 rfl ?_
    refine ⟨_, rfl, rfl, ?_⟩
    unfold sOut
    split <;> (try split) <;> omega
set_option maxRecDepth 10000 in
set_option maxHeartbeats 4000000 in
theorem x_wouldPay {M : Mem} {p : Nat} {b nT : Nat} {τ : Tn} {X : Nat → Tx} (hb : tb b) (hτ : TW M b τ) (hw : WF nT τ) (hX : XT M nT X) (hcl : τ 8 1 < 2147483648) (hp : p < 6) : Con GX 3 kX4_wouldPay [rv b, iv (p : Int)] M (pI (fun a M2 => a = sPay X τ p ∧ Fr scr M M2)) := by
  refine con_of [some (rv b), some (iv (p : Int))] (plX4) rfl (Nat.le_of_ble_eq_true rfl) (fun z => ?_)
  have wp := hw.p hp
  obtain ⟨⟨wa, wa2⟩, ⟨we, we2⟩, ⟨wc, wc2⟩, ⟨wk, wk2⟩, wm, wm2⟩ := wp
  obtain ⟨⟨wn, wn2⟩, wcl, ⟨wl, wl2⟩, -, -⟩ := id hw
  refine r_aload_0 dX4_wouldPay_0 (r_getR dX4_wouldPay_1 fX4_30 (gT hb) (rfl) (r_iload_1 dX4_wouldPay_4 (r_ialN dX4_wouldPay_5 (gA7 hb) (by omega) (by omega) (hτ.e6 hp) ?_)))
  refine r_tsw4 (t0 := 36) (t1 := 61) (t2 := 50) (t3 := 52) (td := 61) dX4_wouldPay_6 (by decide) (by omega) (by decide) (by decide) (by decide) (by decide) (by decide) (fun c_6 => ?_) (fun c_6 => ?_) (fun c_6 => ?_) (fun c_6 => ?_) (fun c_6 => ?_)
  · skip
    skip
    refine r_aload_0 dX4_wouldPay_36 (r_iconst dX4_wouldPay_37 (r_iload_1 dX4_wouldPay_38 ?_))
    refine r_cVI2 dX4_wouldPay_39 vX4_84 (gT hb) (x_says (part := 1) hb hτ hw hX hcl (by decide) hp) (by decide) (Nat.le_of_ble_eq_true rfl) (fun b_39 M_39 h_39 => ?_)
    obtain ⟨rfl, hF_39⟩ := h_39
    have ha := sAsk_in1 X τ 1 p (by decide)
    refine r_aload_0 dX4_wouldPay_42 (r_getR dX4_wouldPay_43 fX4_33 (gT hb) (rfl) (r_iload_1 dX4_wouldPay_46 (r_ialN dX4_wouldPay_47 (gA8 hb) (by omega) (by omega) ((hτ.scr hb hF_39).e7 hp) (r_iadd dX4_wouldPay_48 ?_))))
    refine r_ireturn dX4_wouldPay_49 rfl ?_
    refine ⟨_, rfl, ?_, ?_⟩
    · unfold sPay
      split <;> (try split) <;> (try split) <;> omega
    · first | exact Fr.refl | assumption
  · skip
    skip
    refine r_aload_0 dX4_wouldPay_61 (r_iconst dX4_wouldPay_62 (r_iload_1 dX4_wouldPay_63 ?_))
    refine r_cVI2 dX4_wouldPay_64 vX4_84 (gT hb) (x_says (part := 1) hb hτ hw hX hcl (by decide) hp) (by decide) (Nat.le_of_ble_eq_true rfl) (fun b_64 M_64 h_64 => ?_)
    obtain ⟨rfl, hF_64⟩ := h_64
    have ha := sAsk_in1 X τ 1 p (by decide)
    refine r_ireturn dX4_wouldPay_67 rfl ?_
    refine ⟨_, rfl, ?_, ?_⟩
    · unfold sPay
      split <;> (try split) <;> (try split) <;> omega
    · first | exact Fr.refl | assumption
  · skip
    skip
    refine r_iconst dX4_wouldPay_50 ?_
    refine r_ireturn dX4_wouldPay_51 rfl ?_
    refine ⟨_, rfl, ?_, ?_⟩
    · unfold sPay
      split <;> (try split) <;> (try split) <;> omega
    · first | exact Fr.refl | assumption
  · skip
    skip
    refine r_aload_0 dX4_wouldPay_52 (r_iconst dX4_wouldPay_53 (r_iload_1 dX4_wouldPay_54 ?_))
    refine r_cVI2 dX4_wouldPay_55 vX4_84 (gT hb) (x_says (part := 1) hb hτ hw hX hcl (by decide) hp) (by decide) (Nat.le_of_ble_eq_true rfl) (fun b_55 M_55 h_55 => ?_)
    obtain ⟨rfl, hF_55⟩ := h_55
    have ha := sAsk_in1 X τ 1 p (by decide)
    refine r_iconst dX4_wouldPay_58 ?_
    refine r_idiv dX4_wouldPay_59 (by omega) (by omega) (by omega) (by omega) ?_
    refine r_ireturn dX4_wouldPay_60 rfl ?_
    refine ⟨_, rfl, ?_, ?_⟩
    · unfold sPay
      split <;> (try split) <;> (try split) <;> omega
    · first | exact Fr.refl | assumption
  · skip
    skip
    refine r_aload_0 dX4_wouldPay_61 (r_iconst dX4_wouldPay_62 (r_iload_1 dX4_wouldPay_63 ?_))
    refine r_cVI2 dX4_wouldPay_64 vX4_84 (gT hb) (x_says (part := 1) hb hτ hw hX hcl (by decide) hp) (by decide) (Nat.le_of_ble_eq_true rfl) (fun b_64 M_64 h_64 => ?_)
    obtain ⟨rfl, hF_64⟩ := h_64
    have ha := sAsk_in1 X τ 1 p (by decide)
    refine r_ireturn dX4_wouldPay_67 rfl ?_
    refine ⟨_, rfl, ?_, ?_⟩
    · unfold sPay
      split <;> (try split) <;> (try split) <;> omega
    · first | exact Fr.refl | assumption
set_option maxRecDepth 10000 in
set_option maxHeartbeats 4000000 in
theorem x_wouldGo {M : Mem} {p : Nat} {b nT : Nat} {τ : Tn} {X : Nat → Tx} (hb : tb b) (hτ : TW M b τ) (hw : WF nT τ) (hX : XT M nT X) (hcl : τ 8 1 < 2147483648) (hp : p < 6) : Con GX 3 kX4_wouldGo [rv b, iv (p : Int)] M (pI (fun a M2 => a = sGo X τ p ∧ Fr scr M M2)) := by
  refine con_of [some (rv b), some (iv (p : Int))] (plX4) rfl (Nat.le_of_ble_eq_true rfl) (fun z => ?_)
  have wp := hw.p hp
  obtain ⟨⟨wa, wa2⟩, ⟨we, we2⟩, ⟨wc, wc2⟩, ⟨wk, wk2⟩, wm, wm2⟩ := wp
  obtain ⟨⟨wn, wn2⟩, wcl, ⟨wl, wl2⟩, -, -⟩ := id hw
  refine r_aload_0 dX4_wouldGo_0 (r_getR dX4_wouldGo_1 fX4_30 (gT hb) (rfl) (r_iload_1 dX4_wouldGo_4 (r_ialN dX4_wouldGo_5 (gA7 hb) (by omega) (by omega) (hτ.e6 hp) ?_)))
  refine r_tsw5 (t0 := 40) (t1 := 66) (t2 := 42) (t3 := 66) (t4 := 64) (td := 66) dX4_wouldGo_6 (by decide) (by omega) (by decide) (by decide) (by decide) (by decide) (by decide) (by decide) (fun c_6 => ?_) (fun c_6 => ?_) (fun c_6 => ?_) (fun c_6 => ?_) (fun c_6 => ?_) (fun c_6 => ?_)
  · skip
    skip
    refine r_iconst dX4_wouldGo_40 ?_
    refine r_ireturn dX4_wouldGo_41 rfl ?_
    refine ⟨_, rfl, ?_, ?_⟩
    · unfold sGo sgn
      split <;> (try split) <;> (try split) <;> (try split) <;> omega
    · first | exact Fr.refl | assumption
  · skip
    skip
    refine r_iconst dX4_wouldGo_66 (r_iconst dX4_wouldGo_67 (r_aload_0 dX4_wouldGo_68 (r_iconst dX4_wouldGo_69 (r_iload_1 dX4_wouldGo_70 ?_))))
    refine r_cVI2 dX4_wouldGo_71 vX4_84 (gT hb) (x_says (part := 2) hb hτ hw hX hcl (by decide) hp) (by decide) (Nat.le_of_ble_eq_true rfl) (fun b_71 M_71 h_71 => ?_)
    obtain ⟨rfl, hF_71⟩ := h_71
    have ha := sAsk_in X τ 2 p
    refine r_mmin dX4_wouldGo_74 sX4_75 (by omega) (by omega) (by decide) (Nat.le_of_ble_eq_true rfl) ?_
    refine r_mmax dX4_wouldGo_77 sX4_81 (by omega) (by split <;> omega) (by decide) (Nat.le_of_ble_eq_true rfl) ?_
    refine r_ireturn dX4_wouldGo_80 rfl ?_
    refine ⟨_, rfl, ?_, ?_⟩
    · unfold sGo sgn
      split <;> (try split) <;> (try split) <;> (try split) <;> omega
    · first | exact Fr.refl | assumption
  · skip
    skip
    refine r_aload_0 dX4_wouldGo_42 (r_getE dX4_wouldGo_43 fX4_43 (gT hb) (rfl) (hτ.clock) (r_bipush dX4_wouldGo_46 (by decide) ?_))
    refine r_irem dX4_wouldGo_48 (by omega) (by omega) (by omega) ?_
    refine r_aload_0 dX4_wouldGo_49 (r_getR dX4_wouldGo_50 fX4_33 (gT hb) (rfl) (r_iload_1 dX4_wouldGo_53 (r_ialN dX4_wouldGo_54 (gA8 hb) (by omega) (by omega) (hτ.e7 hp) ?_)))
    refine r_icmp_ge dX4_wouldGo_55 (by have := Int.tmod_nonneg 20 wcl; have := Int.tmod_lt_of_pos (τ 8 1) (show (0 : Int) < 20 by decide); omega) (by have := Int.tmod_nonneg 20 wcl; have := Int.tmod_lt_of_pos (τ 8 1) (show (0 : Int) < 20 by decide); omega) (fun c_55 => ?_) (fun c_55 => ?_)
    · skip
      refine r_iconst dX4_wouldGo_62 ?_
      refine r_ireturn dX4_wouldGo_63 rfl ?_
      refine ⟨_, rfl, ?_, ?_⟩
      · unfold sGo sgn
        split <;> (try split) <;> (try split) <;> (try split) <;> omega
      · first | exact Fr.refl | assumption
    · skip
      refine r_iconst dX4_wouldGo_58 (r_goto dX4_wouldGo_59 ?_)
      refine r_ireturn dX4_wouldGo_63 rfl ?_
      refine ⟨_, rfl, ?_, ?_⟩
      · unfold sGo sgn
        split <;> (try split) <;> (try split) <;> (try split) <;> omega
      · first | exact Fr.refl | assumption
  · skip
    skip
    refine r_iconst dX4_wouldGo_66 (r_iconst dX4_wouldGo_67 (r_aload_0 dX4_wouldGo_68 (r_iconst dX4_wouldGo_69 (r_iload_1 dX4_wouldGo_70 ?_))))
    refine r_cVI2 dX4_wouldGo_71 vX4_84 (gT hb) (x_says (part := 2) hb hτ hw hX hcl (by decide) hp) (by decide) (Nat.le_of_ble_eq_true rfl) (fun b_71 M_71 h_71 => ?_)
    obtain ⟨rfl, hF_71⟩ := h_71
    have ha := sAsk_in X τ 2 p
    refine r_mmin dX4_wouldGo_74 sX4_75 (by omega) (by omega) (by decide) (Nat.le_of_ble_eq_true rfl) ?_
    refine r_mmax dX4_wouldGo_77 sX4_81 (by omega) (by split <;> omega) (by decide) (Nat.le_of_ble_eq_true rfl) ?_
    refine r_ireturn dX4_wouldGo_80 rfl ?_
    refine ⟨_, rfl, ?_, ?_⟩
    · unfold sGo sgn
      split <;> (try split) <;> (try split) <;> (try split) <;> omega
    · first | exact Fr.refl | assumption
  · skip
    skip
    refine r_iconst dX4_wouldGo_64 ?_
    refine r_ireturn dX4_wouldGo_65 rfl ?_
    refine ⟨_, rfl, ?_, ?_⟩
    · unfold sGo sgn
      split <;> (try split) <;> (try split) <;> (try split) <;> omega
    · first | exact Fr.refl | assumption
  · skip
    skip
    refine r_iconst dX4_wouldGo_66 (r_iconst dX4_wouldGo_67 (r_aload_0 dX4_wouldGo_68 (r_iconst dX4_wouldGo_69 (r_iload_1 dX4_wouldGo_70 ?_))))
    refine r_cVI2 dX4_wouldGo_71 vX4_84 (gT hb) (x_says (part := 2) hb hτ hw hX hcl (by decide) hp) (by decide) (Nat.le_of_ble_eq_true rfl) (fun b_71 M_71 h_71 => ?_)
    obtain ⟨rfl, hF_71⟩ := h_71
    have ha := sAsk_in X τ 2 p
    refine r_mmin dX4_wouldGo_74 sX4_75 (by omega) (by omega) (by decide) (Nat.le_of_ble_eq_true rfl) ?_
    refine r_mmax dX4_wouldGo_77 sX4_81 (by omega) (by split <;> omega) (by decide) (Nat.le_of_ble_eq_true rfl) ?_
    refine r_ireturn dX4_wouldGo_80 rfl ?_
    refine ⟨_, rfl, ?_, ?_⟩
    · unfold sGo sgn
      split <;> (try split) <;> (try split) <;> (try split) <;> omega
    · first | exact Fr.refl | assumption
set_option maxRecDepth 10000 in
set_option maxHeartbeats 4000000 in
theorem x_wouldTry {M : Mem} {p : Nat} {b nT : Nat} {τ : Tn} {X : Nat → Tx} (hb : tb b) (hτ : TW M b τ) (hw : WF nT τ) (hX : XT M nT X) (hcl : τ 8 1 < 2147483648) (hp : p < 6) : Con GX 3 kX4_wouldTry [rv b, iv (p : Int)] M (pI (fun a M2 => a = bi (sTri X τ p) ∧ Fr scr M M2)) := by
  refine con_of [some (rv b), some (iv (p : Int)), none] (plX4) rfl (Nat.le_of_ble_eq_true rfl) (fun z => ?_)
  have wp := hw.p hp
  obtain ⟨⟨wa, wa2⟩, ⟨we, we2⟩, ⟨wc, wc2⟩, ⟨wk, wk2⟩, wm, wm2⟩ := wp
  obtain ⟨⟨wn, wn2⟩, wcl, ⟨wl, wl2⟩, -, -⟩ := id hw
  have jn_20 : WP kX4_wouldTry GX 3 (pI (fun a M2 => a = bi (sTri X τ p) ∧ Fr scr M M2)) z 20 [some (rv b), some (iv (p : Int)), none] [iv (bi (untr τ p))] M := by
    refine r_istore_2 dX4_wouldTry_20 rfl ?_
    refine r_aload_0 dX4_wouldTry_21 (r_getR dX4_wouldTry_22 fX4_30 (gT hb) (rfl) (r_iload_1 dX4_wouldTry_25 (r_ialN dX4_wouldTry_26 (gA7 hb) (by omega) (by omega) (hτ.e6 hp) ?_)))
    refine r_tsw4 (t0 := 56) (t1 := 75) (t2 := 94) (t3 := 96) (td := 128) dX4_wouldTry_27 (by decide) (by omega) (by decide) (by decide) (by decide) (by decide) (by decide) (fun c_27 => ?_) (fun c_27 => ?_) (fun c_27 => ?_) (fun c_27 => ?_) (fun c_27 => ?_)
    · skip
      skip
      refine r_iload_2 dX4_wouldTry_56 ?_
      refine r_ifb_ne dX4_wouldTry_57 (fun c_57 => ?_) (fun c_57 => ?_)
      · skip
        refine r_iconst dX4_wouldTry_69 (r_goto dX4_wouldTry_70 ?_)
        refine r_zreturn dX4_wouldTry_74 rfl (by first | exact bi_01 _ | omega | decide) ?_
        refine ⟨_, rfl, ?_, ?_⟩
        · simp [sTri, bi, *]
        · first | exact Fr.refl | assumption
      · skip
        refine r_aload_0 dX4_wouldTry_60 (r_iconst dX4_wouldTry_61 (r_iload_1 dX4_wouldTry_62 ?_))
        refine r_cVI2 dX4_wouldTry_63 vX4_84 (gT hb) (x_says (part := 0) hb hτ hw hX hcl (by decide) hp) (by decide) (Nat.le_of_ble_eq_true rfl) (fun b_63 M_63 h_63 => ?_)
        obtain ⟨rfl, hF_63⟩ := h_63
        have ha := sAsk_in1 X τ 0 p (by decide)
        refine r_if_eq dX4_wouldTry_66 (by omega) (fun c_66 => ?_) (fun c_66 => ?_)
        · skip
          refine r_iconst dX4_wouldTry_73 ?_
          refine r_zreturn dX4_wouldTry_74 rfl (by first | exact bi_01 _ | omega | decide) ?_
          refine ⟨_, rfl, ?_, ?_⟩
          · simp [sTri, bi, *]
          · first | exact Fr.refl | assumption
        · skip
          refine r_iconst dX4_wouldTry_69 (r_goto dX4_wouldTry_70 ?_)
          refine r_zreturn dX4_wouldTry_74 rfl (by first | exact bi_01 _ | omega | decide) ?_
          refine ⟨_, rfl, ?_, ?_⟩
          · simp [sTri, bi, *]
          · first | exact Fr.refl | assumption
    · skip
      skip
      refine r_iload_2 dX4_wouldTry_75 ?_
      refine r_ifb_ne dX4_wouldTry_76 (fun c_76 => ?_) (fun c_76 => ?_)
      · skip
        refine r_iconst dX4_wouldTry_92 ?_
        refine r_zreturn dX4_wouldTry_93 rfl (by first | exact bi_01 _ | omega | decide) ?_
        refine ⟨_, rfl, ?_, ?_⟩
        · simp [sTri, bi, *]
        · first | exact Fr.refl | assumption
      · skip
        refine r_aload_0 dX4_wouldTry_79 (r_iconst dX4_wouldTry_80 (r_iload_1 dX4_wouldTry_81 ?_))
        refine r_cVI2 dX4_wouldTry_82 vX4_84 (gT hb) (x_says (part := 0) hb hτ hw hX hcl (by decide) hp) (by decide) (Nat.le_of_ble_eq_true rfl) (fun b_82 M_82 h_82 => ?_)
        obtain ⟨rfl, hF_82⟩ := h_82
        have ha := sAsk_in1 X τ 0 p (by decide)
        refine r_if_eq dX4_wouldTry_85 (by omega) (fun c_85 => ?_) (fun c_85 => ?_)
        · skip
          refine r_iconst dX4_wouldTry_92 ?_
          refine r_zreturn dX4_wouldTry_93 rfl (by first | exact bi_01 _ | omega | decide) ?_
          refine ⟨_, rfl, ?_, ?_⟩
          · simp [sTri, bi, *]
          · first | exact Fr.refl | assumption
        · skip
          refine r_iconst dX4_wouldTry_88 (r_goto dX4_wouldTry_89 ?_)
          refine r_zreturn dX4_wouldTry_93 rfl (by first | exact bi_01 _ | omega | decide) ?_
          refine ⟨_, rfl, ?_, ?_⟩
          · simp [sTri, bi, *]
          · first | exact Fr.refl | assumption
    · skip
      skip
      refine r_iload_2 dX4_wouldTry_94 ?_
      refine r_zreturn dX4_wouldTry_95 rfl (by first | exact bi_01 _ | omega | decide) ?_
      refine ⟨_, rfl, ?_, ?_⟩
      · simp [sTri, bi, *]
      · first | exact Fr.refl | assumption
    · skip
      skip
      refine r_aload_0 dX4_wouldTry_96 (r_getE dX4_wouldTry_97 fX4_43 (gT hb) (rfl) (hτ.clock) (r_iconst dX4_wouldTry_100 ?_))
      refine r_irem dX4_wouldTry_101 (by omega) (by omega) (by omega) ?_
      refine r_if_ne dX4_wouldTry_102 (by have := Int.tmod_nonneg 2 wcl; have := Int.tmod_lt_of_pos (τ 8 1) (show (0 : Int) < 2 by decide); omega) (fun c_102 => ?_) (fun c_102 => ?_)
      · skip
        refine r_iload_2 dX4_wouldTry_126 ?_
        refine r_zreturn dX4_wouldTry_127 rfl (by first | exact bi_01 _ | omega | decide) ?_
        refine ⟨_, rfl, ?_, ?_⟩
        · simp [sTri, bi, *]
        · first | exact Fr.refl | assumption
      · skip
        refine r_iload_2 dX4_wouldTry_105 ?_
        refine r_ifb_ne dX4_wouldTry_106 (fun c_106 => ?_) (fun c_106 => ?_)
        · skip
          refine r_iconst dX4_wouldTry_122 (r_goto dX4_wouldTry_123 ?_)
          refine r_zreturn dX4_wouldTry_127 rfl (by first | exact bi_01 _ | omega | decide) ?_
          refine ⟨_, rfl, ?_, ?_⟩
          · simp [sTri, bi, *]
          · first | exact Fr.refl | assumption
        · skip
          refine r_aload_0 dX4_wouldTry_109 (r_iconst dX4_wouldTry_110 (r_iload_1 dX4_wouldTry_111 ?_))
          refine r_cVI2 dX4_wouldTry_112 vX4_84 (gT hb) (x_says (part := 0) hb hτ hw hX hcl (by decide) hp) (by decide) (Nat.le_of_ble_eq_true rfl) (fun b_112 M_112 h_112 => ?_)
          obtain ⟨rfl, hF_112⟩ := h_112
          have ha := sAsk_in1 X τ 0 p (by decide)
          refine r_if_eq dX4_wouldTry_115 (by omega) (fun c_115 => ?_) (fun c_115 => ?_)
          · skip
            refine r_iconst dX4_wouldTry_122 (r_goto dX4_wouldTry_123 ?_)
            refine r_zreturn dX4_wouldTry_127 rfl (by first | exact bi_01 _ | omega | decide) ?_
            refine ⟨_, rfl, ?_, ?_⟩
            · simp [sTri, bi, *]
            · first | exact Fr.refl | assumption
          · skip
            refine r_iconst dX4_wouldTry_118 (r_goto dX4_wouldTry_119 ?_)
            refine r_zreturn dX4_wouldTry_127 rfl (by first | exact bi_01 _ | omega | decide) ?_
            refine ⟨_, rfl, ?_, ?_⟩
            · simp [sTri, bi, *]
            · first | exact Fr.refl | assumption
    · skip
      have k1 : ¬ τ 6 p = 1 := by omega
      have k2 : ¬ τ 6 p = 2 := by omega
      have k3 : ¬ τ 6 p = 3 := by omega
      have k4 : ¬ τ 6 p = 4 := by omega
      refine r_aload_0 dX4_wouldTry_128 (r_iconst dX4_wouldTry_129 (r_iload_1 dX4_wouldTry_130 ?_))
      refine r_cVI2 dX4_wouldTry_131 vX4_84 (gT hb) (x_says (part := 0) hb hτ hw hX hcl (by decide) hp) (by decide) (Nat.le_of_ble_eq_true rfl) (fun b_131 M_131 h_131 => ?_)
      obtain ⟨rfl, hF_131⟩ := h_131
      have ha := sAsk_in1 X τ 0 p (by decide)
      refine r_if_eq dX4_wouldTry_134 (by omega) (fun c_134 => ?_) (fun c_134 => ?_)
      · skip
        refine r_iconst dX4_wouldTry_141 ?_
        refine r_zreturn dX4_wouldTry_142 rfl (by first | exact bi_01 _ | omega | decide) ?_
        refine ⟨_, rfl, ?_, ?_⟩
        · simp [sTri, bi, *]
        · first | exact Fr.refl | assumption
      · skip
        refine r_iconst dX4_wouldTry_137 (r_goto dX4_wouldTry_138 ?_)
        refine r_zreturn dX4_wouldTry_142 rfl (by first | exact bi_01 _ | omega | decide) ?_
        refine ⟨_, rfl, ?_, ?_⟩
        · simp [sTri, bi, *]
        · first | exact Fr.refl | assumption
  refine r_aload_0 dX4_wouldTry_0 (r_getR dX4_wouldTry_1 fX4_15 (gT hb) (rfl) (r_aload_0 dX4_wouldTry_4 (r_getR dX4_wouldTry_5 fX4_21 (gT hb) (rfl) (r_iload_1 dX4_wouldTry_8 (r_ialN dX4_wouldTry_9 (gA4 hb) (by omega) (by omega) (hτ.e3 hp) (r_ialE dX4_wouldTry_10 (gA2 hb) (by omega) (by omega) (hτ.e1 (i := (τ 3 p).toNat) (by omega)) (r_iconst dX4_wouldTry_11 ?_)))))))
  refine r_icmp_ne dX4_wouldTry_12 (by have := hw.d (d := (τ 3 p).toNat) (by omega); omega) (by have := hw.d (d := (τ 3 p).toNat) (by omega); omega) (fun c_12 => ?_) (fun c_12 => ?_)
  · skip
    refine r_iconst dX4_wouldTry_19 ?_
    rw [show bi (untr τ p) = 0 by simp [untr, bi, c_12]] at jn_20
    exact jn_20
  · skip
    refine r_iconst dX4_wouldTry_15 (r_goto dX4_wouldTry_16 ?_)
    rw [show bi (untr τ p) = 1 by simp [untr, bi, c_12]] at jn_20
    exact jn_20
theorem sOut_in (τ : Tn) (p d : Nat) : 0 ≤ sOut τ p d ∧ sOut τ p d ≤ 2 := by unfold sOut; split <;> (try split) <;> omega
set_option maxRecDepth 10000 in
set_option maxHeartbeats 4000000 in
theorem x_attempt {M : Mem} {p d : Nat} {b nT : Nat} {τ : Tn} {X : Nat → Tx} (hb : tb b) (hτ : TW M b τ) (hw : WF nT τ) (hX : XT M nT X) (hcl : τ 8 1 < 2147483648) (hp : p < 6) (hd : d < 8) : Con GX 4 kX4_attempt [rv b, iv (p : Int), iv (d : Int)] M (pI (fun a M2 => a = sOut τ p d ∧ TW M2 b (sTry X τ p d) ∧ Fr (scb b) M M2)) := by
  refine con_of [some (rv b), some (iv (p : Int)), some (iv (d : Int)), none, none, none, none] (plX4) rfl (Nat.le_of_ble_eq_true rfl) (fun z => ?_)
  have wp := hw.p hp
  obtain ⟨⟨wa, wa2⟩, ⟨we, we2⟩, ⟨wc, wc2⟩, ⟨wk, wk2⟩, wm, wm2⟩ := wp
  obtain ⟨⟨wn, wn2⟩, wcl, ⟨wl, wl2⟩, -, -⟩ := id hw
  have wd := hw.d hd
  have so := sOut_in τ p d
  refine r_aload_0 dX4_attempt_0 (r_iload_1 dX4_attempt_1 (r_iload_2 dX4_attempt_2 ?_))
  refine r_cVI2 dX4_attempt_3 vX4_87 (gT hb) (x_outcome (n := 0) hb hτ wd.2.1 hd hp) (by decide) (Nat.le_of_ble_eq_true rfl) (fun b_3 M_3 h_3 => ?_)
  obtain ⟨rfl, rfl⟩ := h_3
  refine r_istore_3 dX4_attempt_6 rfl (r_iload_3 dX4_attempt_7 (r_iconst dX4_attempt_8 ?_))
  refine r_icmp_ne dX4_attempt_9 (by omega) (by omega) (fun c_9 => ?_) (fun c_9 => ?_)
  · skip
    refine r_aload_0 dX4_attempt_140 (r_getR dX4_attempt_141 fX4_15 (gT hb) (rfl) (r_iload_2 dX4_attempt_144 (r_iload_1 dX4_attempt_145 ?_)))
    refine r_iasN dX4_attempt_146 (gA2 hb) (by omega) (by omega) (by omega) ?_
    refine r_iload_3 dX4_attempt_147 ?_
    refine r_ireturn dX4_attempt_148 rfl ?_
    refine ⟨_, rfl, rfl, ?_, Fr.refl.up (scb_in (by omega) (by omega))⟩
    rw [show sTry X τ p d = st τ 1 d p by unfold sTry; rw [if_neg c_9]]
    exact hτ.up1
  · skip
    have ho : sOut τ p d = 2 := c_9
    have ho2 := ho
    unfold sOut at ho2
    have hnn : τ 1 d ≠ -1 := by intro e; rw [if_pos e] at ho2; omega
    rw [if_neg hnn] at ho2
    have hnp : τ 1 d ≠ p := by intro e; rw [if_pos e] at ho2; omega
    obtain ⟨h, hh⟩ : ∃ h : Nat, τ 1 d = h := ⟨(τ 1 d).toNat, by omega⟩
    have hh6 : h < 6 := by omega
    have hph : h ≠ p := by omega
    have hz : (τ 1 d).toNat = h := by omega
    have wh := (hw.p hh6).2.1
    have pay := sPay_in X τ p ⟨wm, wm2⟩
    refine r_aload_0 dX4_attempt_12 (r_getR dX4_attempt_13 fX4_15 (gT hb) (rfl) (r_iload_2 dX4_attempt_16 (r_ialN dX4_attempt_17 (gA2 hb) (by omega) (by omega) ((hτ.e1 hd).trans hh) (r_istore_4 dX4_attempt_18 rfl (r_aload_0 dX4_attempt_20 (r_iload_1 dX4_attempt_21 ?_))))))
    refine r_cVI1 dX4_attempt_22 vX4_90 (gT hb) (x_wouldPay hb hτ hw hX hcl hp) (by decide) (Nat.le_of_ble_eq_true rfl) (fun b_22 M_22 h_22 => ?_)
    obtain ⟨rfl, hF1⟩ := h_22
    have wM_22 := hτ.scr hb hF1
    have fM_22 : Fr (scb b) M M_22 := hF1.scb
    refine r_aload_0 dX4_attempt_25 (r_getR dX4_attempt_26 fX4_24 (gT hb) (rfl) (r_iload_1 dX4_attempt_29 (r_ialN dX4_attempt_30 (gA5 hb) (by omega) (by omega) (wM_22.e4 hp) (r_bipush dX4_attempt_31 (by decide) (r_aload_0 dX4_attempt_33 (r_getR dX4_attempt_34 fX4_24 (gT hb) (rfl) (r_iload_4 dX4_attempt_37 (r_ialN dX4_attempt_39 (gA5 hb) (by omega) (by omega) (wM_22.e4 hh6) (r_isub dX4_attempt_40 ?_)))))))))
    refine r_mmin dX4_attempt_41 sX4_75 (by omega) (by omega) (by decide) (Nat.le_of_ble_eq_true rfl) ?_
    refine r_mmin dX4_attempt_44 sX4_75 (by omega) (by split <;> omega) (by decide) (Nat.le_of_ble_eq_true rfl) ?_
    refine r_as (b := mn (sPay X τ p) (mn (τ 4 p) (99 - τ 4 h))) rfl ?_
    obtain ⟨paid, hpaid⟩ : ∃ x, x = mn (sPay X τ p) (mn (τ 4 p) (99 - τ 4 h)) := ⟨_, rfl⟩
    rw [← hpaid]
    have hpd : 0 ≤ paid ∧ paid ≤ τ 4 p ∧ paid ≤ 99 - τ 4 h := by
      rw [hpaid]
      unfold mn
      split <;> split <;> omega
    refine r_istore_5 dX4_attempt_47 rfl (r_aload_0 dX4_attempt_49 (r_getR dX4_attempt_50 fX4_24 (gT hb) (rfl) (r_iload_1 dX4_attempt_53 (r_dup2 dX4_attempt_54 (r_ialN dX4_attempt_55 (gA5 hb) (by omega) (by omega) (wM_22.e4 hp) (r_iload_5 dX4_attempt_56 (r_isub dX4_attempt_58 ?_)))))))
    refine r_iasN dX4_attempt_59 (gA5 hb) (by omega) (by omega) (by omega) ?_
    obtain ⟨A, hA⟩ : ∃ x, x = upM M_22 (b + 5) p (τ 4 p - paid) := ⟨_, rfl⟩
    rw [← hA]
    obtain ⟨tA, htA⟩ : ∃ x, x = st τ 4 p (τ 4 p - paid) := ⟨_, rfl⟩
    have wA : TW A b tA := by rw [hA, htA]; exact wM_22.up4
    have fA : Fr (scb b) M A := by rw [hA]; exact fM_22.up (scb_in (by omega) (by omega))
    have qA : tA 4 h = τ 4 h := by rw [htA, st_ne (Or.inr hph)]
    refine r_aload_0 dX4_attempt_60 (r_getR dX4_attempt_61 fX4_24 (gT hb) (rfl) (r_iload_4 dX4_attempt_64 (r_dup2 dX4_attempt_66 (r_ialN dX4_attempt_67 (gA5 hb) (by omega) (by omega) (wA.e4 hh6) (r_iload_5 dX4_attempt_68 (r_iadd dX4_attempt_70 ?_))))))
    refine r_iasN dX4_attempt_71 (gA5 hb) (by omega) (by omega) (by omega) ?_
    obtain ⟨B, hB⟩ : ∃ x, x = upM A (b + 5) h (tA 4 h + paid) := ⟨_, rfl⟩
    rw [← hB]
    obtain ⟨tB, htB⟩ : ∃ x, x = st tA 4 h (tA 4 h + paid) := ⟨_, rfl⟩
    have wB : TW B b tB := by rw [hB, htB]; exact wA.up4
    have fB : Fr (scb b) M B := by rw [hB]; exact fA.up (scb_in (by omega) (by omega))
    have qB0 : tB 0 d = τ 0 d := by rw [htB, htA, st_ne (Or.inl (by decide)), st_ne (Or.inl (by decide))]
    have qB4 : tB 4 p = τ 4 p - paid := by rw [htB, htA, st_ne (Or.inr (Ne.symm hph)), st_self]
    have qB5 : tB 5 p = τ 5 p := by rw [htB, htA, st_ne (Or.inl (by decide)), st_ne (Or.inl (by decide))]
    refine r_aload_0 dX4_attempt_72 (r_getR dX4_attempt_73 fX4_9 (gT hb) (rfl) (r_iload_2 dX4_attempt_76 (r_ialN dX4_attempt_77 (gA1 hb) (by omega) (by omega) (wB.e0 hd) (r_bipush dX4_attempt_78 (by decide) (r_aload_0 dX4_attempt_80 (r_getR dX4_attempt_81 fX4_24 (gT hb) (rfl) (r_iload_1 dX4_attempt_84 (r_ialN dX4_attempt_85 (gA5 hb) (by omega) (by omega) (wB.e4 hp) (r_isub dX4_attempt_86 ?_)))))))))
    refine r_mmin dX4_attempt_87 sX4_75 (by omega) (by omega) (by decide) (Nat.le_of_ble_eq_true rfl) ?_
    refine r_as (b := mn (tB 0 d) (99 - tB 4 p)) rfl ?_
    obtain ⟨found, hfnd⟩ : ∃ x, x = mn (tB 0 d) (99 - tB 4 p) := ⟨_, rfl⟩
    rw [← hfnd]
    have hf : 0 ≤ found ∧ found ≤ tB 0 d ∧ found ≤ 99 - tB 4 p := by
      rw [hfnd]
      unfold mn
      split <;> omega
    refine r_istore_6 dX4_attempt_90 rfl (r_aload_0 dX4_attempt_92 (r_getR dX4_attempt_93 fX4_24 (gT hb) (rfl) (r_iload_1 dX4_attempt_96 (r_dup2 dX4_attempt_97 (r_ialN dX4_attempt_98 (gA5 hb) (by omega) (by omega) (wB.e4 hp) (r_iload_6 dX4_attempt_99 (r_iadd dX4_attempt_101 ?_)))))))
    refine r_iasN dX4_attempt_102 (gA5 hb) (by omega) (by omega) (by omega) ?_
    obtain ⟨C, hC⟩ : ∃ x, x = upM B (b + 5) p (tB 4 p + found) := ⟨_, rfl⟩
    rw [← hC]
    obtain ⟨tC, htC⟩ : ∃ x, x = st tB 4 p (tB 4 p + found) := ⟨_, rfl⟩
    have wC : TW C b tC := by rw [hC, htC]; exact wB.up4
    have fC : Fr (scb b) M C := by rw [hC]; exact fB.up (scb_in (by omega) (by omega))
    have qC0 : tC 0 d = tB 0 d := by rw [htC, st_ne (Or.inl (by decide))]
    have qC5 : tC 5 p = tB 5 p := by rw [htC, st_ne (Or.inl (by decide))]
    refine r_aload_0 dX4_attempt_103 (r_getR dX4_attempt_104 fX4_9 (gT hb) (rfl) (r_iload_2 dX4_attempt_107 (r_dup2 dX4_attempt_108 (r_ialN dX4_attempt_109 (gA1 hb) (by omega) (by omega) (wC.e0 hd) (r_iload_6 dX4_attempt_110 (r_isub dX4_attempt_112 ?_))))))
    refine r_iasN dX4_attempt_113 (gA1 hb) (by omega) (by omega) (by omega) ?_
    obtain ⟨D, hD⟩ : ∃ x, x = upM C (b + 1) d (tC 0 d - found) := ⟨_, rfl⟩
    rw [← hD]
    obtain ⟨tD, htD⟩ : ∃ x, x = st tC 0 d (tC 0 d - found) := ⟨_, rfl⟩
    have wD : TW D b tD := by rw [hD, htD]; exact wC.up0
    have fD : Fr (scb b) M D := by rw [hD]; exact fC.up (scb_in (by omega) (by omega))
    have qD5 : tD 5 p = tC 5 p := by rw [htD, st_ne (Or.inl (by decide))]
    refine r_aload_0 dX4_attempt_114 (r_getR dX4_attempt_115 fX4_27 (gT hb) (rfl) (r_iload_1 dX4_attempt_118 (r_bipush dX4_attempt_119 (by decide) (r_aload_0 dX4_attempt_121 (r_getR dX4_attempt_122 fX4_27 (gT hb) (rfl) (r_iload_1 dX4_attempt_125 (r_ialN dX4_attempt_126 (gA6 hb) (by omega) (by omega) (wD.e5 hp) (r_iconst dX4_attempt_127 (r_iadd dX4_attempt_128 ?_)))))))))
    refine r_mmin dX4_attempt_129 sX4_75 (by omega) (by omega) (by decide) (Nat.le_of_ble_eq_true rfl) ?_
    refine r_as (b := mn 99 (tD 5 p + 1)) rfl ?_
    refine r_iasN dX4_attempt_132 (gA6 hb) (by omega) (by omega) (by unfold mn; split <;> omega) ?_
    obtain ⟨E, hE⟩ : ∃ x, x = upM D (b + 6) p (mn 99 (tD 5 p + 1)) := ⟨_, rfl⟩
    rw [← hE]
    obtain ⟨tE, htE⟩ : ∃ x, x = st tD 5 p (mn 99 (tD 5 p + 1)) := ⟨_, rfl⟩
    have wE : TW E b tE := by rw [hE, htE]; exact wD.up5
    have fE : Fr (scb b) M E := by rw [hE]; exact fD.up (scb_in (by omega) (by omega))
    refine r_aload_0 dX4_attempt_133 (r_getR dX4_attempt_134 fX4_18 (gT hb) (rfl) (r_iload_2 dX4_attempt_137 (r_iload_1 dX4_attempt_138 ?_)))
    refine r_iasN dX4_attempt_139 (gA3 hb) (by omega) (by omega) (by omega) ?_
    obtain ⟨F, hF⟩ : ∃ x, x = upM E (b + 3) d ((p : Int)) := ⟨_, rfl⟩
    rw [← hF]
    obtain ⟨tF, htF⟩ : ∃ x, x = st tE 2 d ((p : Int)) := ⟨_, rfl⟩
    have wF : TW F b tF := by rw [hF, htF]; exact wE.up2
    have fF : Fr (scb b) M F := by rw [hF]; exact fE.up (scb_in (by omega) (by omega))
    refine r_aload_0 dX4_attempt_140 (r_getR dX4_attempt_141 fX4_15 (gT hb) (rfl) (r_iload_2 dX4_attempt_144 (r_iload_1 dX4_attempt_145 ?_)))
    refine r_iasN dX4_attempt_146 (gA2 hb) (by omega) (by omega) (by omega) ?_
    refine r_iload_3 dX4_attempt_147 ?_
    refine r_ireturn dX4_attempt_148 rfl ?_
    refine ⟨_, rfl, rfl, ?_, fF.up (scb_in (by omega) (by omega))⟩
    have e : sTry X τ p d = st tF 1 d p := by
      unfold sTry
      rw [if_pos ho, hz]
      subst htF htE htD htC hfnd htB htA hpaid
      rfl
    rw [e]
    exact wF.up1
set_option maxRecDepth 10000 in
set_option maxHeartbeats 4000000 in
theorem x_pass {M : Mem} {b nT : Nat} {τ : Tn} {X : Nat → Tx} (hb : tb b) (hτ : TW M b τ) (hw : WF nT τ) (hX : XT M nT X) (hcl : τ 8 1 < 2147483647) : Con GX 5 kX4_pass [rv b] M (pI (fun a M2 => a = (sMin X τ).1 ∧ TW M2 b (sMin X τ).2 ∧ Fr (scb b) M M2)) := by
  refine con_of [some (rv b), none, none] (plX4) rfl (Nat.le_of_ble_eq_true rfl) (fun z => ?_)
  obtain ⟨⟨wn, wn2⟩, wcl, ⟨wl, wl2⟩, -, -⟩ := id hw
  refine r_iconst dX4_pass_0 (r_istore_1 dX4_pass_1 rfl (r_iconst dX4_pass_2 (r_istore_2 dX4_pass_3 rfl ?_)))
  have lp_4 : ∀ (NN : Nat) (p : Nat) (bits : Int) (T : Tn) (Mv : Mem) (hpn : (p : Int) ≤ τ 8 0) (hT : T = (sAll X τ p).2) (hbits : bits = (sAll X τ p).1) (wv : TW Mv b T) (fv : Fr (scb b) M Mv), 6 - p < NN → WP kX4_pass GX 5 (pI (fun a M2 => a = (sMin X τ).1 ∧ TW M2 b (sMin X τ).2 ∧ Fr (scb b) M M2)) z 4 [some (rv b), some (iv bits), some (iv (p : Int))] [] Mv := by
    intro NN
    induction NN with
    | zero => intros; omega
    | succ NN ih =>
      intro p bits T Mv hpn hT hbits wv fv hm
      have wT : WF nT T := by rw [hT]; exact sAll_wf hw p (by omega)
      have hT8 : ∀ i, T 8 i = τ 8 i := fun i => by rw [hT]; exact sAll_8 X τ p i
      have hbb : 0 ≤ bits ∧ bits < 2 ^ p := by rw [hbits]; exact sAll_b X τ p
      have h2p : (2 : Int) ^ p ≤ 64 := by
        rcases (by omega : p = 0 ∨ p = 1 ∨ p = 2 ∨ p = 3 ∨ p = 4 ∨ p = 5 ∨ p = 6) with rfl | rfl | rfl | rfl | rfl | rfl | rfl <;> decide
      have xv := hX.scb hb fv
      have h81 := hT8 1
      have h80 := hT8 0
      have hclT : T 8 1 < 2147483648 := by omega
      refine r_iload_2 dX4_pass_4 ?_
      refine r_aload_0 dX4_pass_5 (r_getE dX4_pass_6 fX4_39 (gT hb) (rfl) (wv.people) ?_)
      refine r_icmp_ge dX4_pass_9 (by omega) (by omega) (fun c_9 => ?_) (fun c_9 => ?_)
      · skip
        have hpe : p = (τ 8 0).toNat := by omega
        refine r_aload_0 dX4_pass_70 (r_dup_r dX4_pass_71 (r_getE dX4_pass_72 fX4_43 (gT hb) (rfl) (wv.clock) (r_iconst dX4_pass_75 (r_iadd dX4_pass_76 ?_))))
        refine r_put dX4_pass_77 pX4_43 (gT hb) (rfl) (by omega) ?_
        have w6 : TW _ b (st T 8 1 (T 8 1 + 1)) := wv.uclock (v := T 8 1 + 1)
        have f6 : Fr (scb b) M _ := fv.up (k := b) (i := 11) (v := T 8 1 + 1) (scb_in (by omega) (by omega))
        refine r_aload_0 dX4_pass_80 (r_getE dX4_pass_81 fX4_43 (gT hb) (rfl) (w6.clock.trans st_self) (r_bipush dX4_pass_84 (by decide) ?_))
        refine r_irem dX4_pass_86 (by omega) (by omega) (by omega) ?_
        refine r_if_ne dX4_pass_87 (by have := Int.tmod_nonneg (a := T 8 1 + 1) 20 (by omega); have := Int.tmod_lt_of_pos (T 8 1 + 1) (show (0 : Int) < 20 by decide); omega) (fun c_87 => ?_) (fun c_87 => ?_)
        · skip
          refine r_iload_1 dX4_pass_106 ?_
          refine r_ireturn dX4_pass_107 rfl ?_
          refine ⟨_, rfl, by rw [hbits, hpe]; rfl, ?_, f6⟩
          have e : (sMin X τ).2 = st T 8 1 (T 8 1 + 1) := by
            show sEnd (sAll X τ (τ 8 0).toNat).2 = _
            rw [← hpe, ← hT]
            exact sEnd_no c_87
          rw [e]
          exact w6
        · skip
          refine r_aload_0 dX4_pass_90 (r_getR dX4_pass_91 fX4_15 (gT hb) (rfl) (r_iconst dX4_pass_94 ?_))
          refine r_cSV2 dX4_pass_95 sX4_53 (x_fill (d := 0) (gA2 hb) (by omega) (by omega)) (by decide) (Nat.le_of_ble_eq_true rfl) (fun M_95 h_95 => ?_)
          subst h_95
          refine r_aload_0 dX4_pass_98 (r_getR dX4_pass_99 fX4_18 (gT hb) (rfl) (r_iconst dX4_pass_102 ?_))
          refine r_cSV2 dX4_pass_103 sX4_53 (x_fill (d := 0) (gA3 hb) (by omega) (by omega)) (by decide) (Nat.le_of_ble_eq_true rfl) (fun M_103 h_103 => ?_)
          subst h_103
          refine r_iload_1 dX4_pass_106 ?_
          refine r_ireturn dX4_pass_107 rfl ?_
          refine ⟨_, rfl, by rw [hbits, hpe]; rfl, ?_, ?_⟩
          · have e : (sMin X τ).2 = (fun f i => if f = 2 then -1 else if f = 1 then -1 else st T 8 1 (T 8 1 + 1) f i) := by
              show sEnd (sAll X τ (τ 8 0).toNat).2 = _
              rw [← hpe, ← hT]
              exact sEnd_yes c_87
            rw [e]
            exact (w6.fl1).fl2
          · exact (f6.fil (scb_in (by omega) (by omega))).fil (scb_in (by omega) (by omega))
      · skip
        have hp : p < 6 := by omega
        have wTp := wT.p hp
        have jn_41 : ∀ (bit2 : Int) (T1 : Tn) (M1 : Mem) (q1 : bit2 = (if sTri X T p = true ∧ sOut T p (T 3 p).toNat = 2 then bits + 2 ^ p else bits)) (q2 : T1 = (if sTri X T p = true then sTry X T p (T 3 p).toNat else T)) (w1 : TW M1 b T1) (f1 : Fr (scb b) M M1), WP kX4_pass GX 5 (pI (fun a M2 => a = (sMin X τ).1 ∧ TW M2 b (sMin X τ).2 ∧ Fr (scb b) M M2)) z 41 [some (rv b), some (iv bit2), some (iv (p : Int))] [] M1 := by
          intro bit2 T1 M1 q1 q2 w1 f1
          have wT1 : WF nT T1 := by
            rw [q2]
            split
            · exact sTry_wf wT hp (by omega)
            · exact wT
          have hT18 : ∀ i, T1 8 i = τ 8 i := fun i => by
            rw [q2]
            split
            · rw [sTry_8]; exact hT8 i
            · exact hT8 i
          have h181 := hT18 1
          have hclT1 : T1 8 1 < 2147483648 := by omega
          have wT1p := wT1.p hp
          have x1 := hX.scb hb f1
          refine r_aload_0 dX4_pass_41 ?_
          refine r_getR dX4_pass_42 fX4_21 (gT hb) (rfl) (r_iload_2 dX4_pass_45 (r_aload_0 dX4_pass_46 (r_getR dX4_pass_47 fX4_21 (gT hb) (rfl) (r_iload_2 dX4_pass_50 (r_ialN dX4_pass_51 (gA4 hb) (by omega) (by omega) (w1.e3 hp) (r_aload_0 dX4_pass_52 (r_iload_2 dX4_pass_53 ?_)))))))
          refine r_cVI1 dX4_pass_54 vX4_101 (gT hb) (x_wouldGo hb w1 wT1 x1 hclT1 hp) (by decide) (Nat.le_of_ble_eq_true rfl) (fun b_54 M_54 h_54 => ?_)
          obtain ⟨rfl, hF4⟩ := h_54
          have w4 := w1.scr hb hF4
          have go := sGo_in X T1 p
          refine r_iadd dX4_pass_57 (r_bipush dX4_pass_58 (by decide) ?_)
          refine r_cSI2 dX4_pass_60 sX4_104 (j_floorMod (d := 0) (by omega) (by omega)) (by decide) (Nat.le_of_ble_eq_true rfl) (fun b_60 M_60 h_60 => ?_)
          obtain ⟨rfl, rfl⟩ := h_60
          refine r_iasN dX4_pass_63 (gA4 hb) (by omega) (by omega) (by omega) ?_
          have w5 : TW _ b (st T1 3 p ((T1 3 p + sGo X T1 p) % 8)) := w4.up3 (i := p) (v := (T1 3 p + sGo X T1 p) % 8)
          have f5 : Fr (scb b) M _ := (f1.trans hF4.scb).up (k := b + 4) (i := p) (v := (T1 3 p + sGo X T1 p) % 8) (scb_in (by omega) (by omega))
          refine r_iinc_2 dX4_pass_64 rfl (r_goto dX4_pass_67 ?_)
          exact ih (p + 1) bit2 _ _ (by omega) (by simp only [sAll, sOne]; rw [← hT, ← q2]) (by simp only [sAll, sOne]; rw [← hT, ← hbits]; exact q1) w5 f5 (by omega)
        refine r_aload_0 dX4_pass_12 (r_iload_2 dX4_pass_13 ?_)
        refine r_cVI1 dX4_pass_14 vX4_94 (gT hb) (x_wouldTry hb wv wT xv hclT hp) (by decide) (Nat.le_of_ble_eq_true rfl) (fun b_14 M_14 h_14 => ?_)
        obtain ⟨rfl, hF2⟩ := h_14
        have w2 := wv.scr hb hF2
        have f2 := fv.trans hF2.scb
        have x2 := xv.scr hF2
        refine r_ifb_eq dX4_pass_17 (fun c_17 => ?_) (fun c_17 => ?_)
        · skip
          exact jn_41 _ _ _ (by rw [if_neg (by rw [c_17]; simp)]) rfl (by rw [c_17]; exact w2) f2
        · skip
          refine r_aload_0 dX4_pass_20 (r_iload_2 dX4_pass_21 (r_aload_0 dX4_pass_22 (r_getR dX4_pass_23 fX4_21 (gT hb) (rfl) (r_iload_2 dX4_pass_26 (r_ialN dX4_pass_27 (gA4 hb) (by omega) (by omega) ((w2.e3 hp).trans (show T 3 p = (((T 3 p).toNat : Nat) : Int) by omega)) ?_)))))
          refine r_cVI2 dX4_pass_28 vX4_98 (gT hb) (x_attempt hb w2 wT x2 hclT hp (d := (T 3 p).toNat) (by omega)) (by decide) (Nat.le_of_ble_eq_true rfl) (fun b_28 M_28 h_28 => ?_)
          obtain ⟨rfl, w3, f3⟩ := h_28
          have so := sOut_in T p (T 3 p).toNat
          refine r_iconst dX4_pass_31 ?_
          refine r_icmp_ne dX4_pass_32 (by omega) (by omega) (fun c_32 => ?_) (fun c_32 => ?_)
          · skip
            exact jn_41 _ _ _ (by rw [if_neg (fun w => c_32 w.2)]) rfl (by rw [if_pos c_17]; exact w3) (f2.trans f3)
          · skip
            refine r_iload_1 dX4_pass_35 (r_iconst dX4_pass_36 (r_iload_2 dX4_pass_37 ?_))
            refine r_ishl (r := 2 ^ p) dX4_pass_38 (shl_bit hp) ?_
            refine r_ior (r := bits + 2 ^ p) dX4_pass_39 (or_bit (by omega) hbb) ?_
            refine r_istore_1 dX4_pass_40 rfl ?_
            exact jn_41 _ _ _ (by rw [if_pos ⟨c_17, c_32⟩]) rfl (by rw [if_pos c_17]; exact w3) (f2.trans f3)
  exact lp_4 _ 0 0 τ M (by omega) rfl rfl hτ Fr.refl (Nat.lt_succ_self _)

set_option maxRecDepth 10000 in
set_option maxHeartbeats 4000000 in
theorem m_ones {d : Nat} {M : Mem} {m : Nat} (hm9 : m < 256) : Con GM d kX6_onesOf [iv (m : Int)] M (pI (fun a M2 => M = M2 ∧ a = ((pop8 m : Nat) : Int))) := by
  refine con_of [some (iv (m : Int)), none, none] (plX6) rfl (Nat.le_of_ble_eq_true rfl) (fun z => ?_)
  refine r_iconst dX6_onesOf_0 (r_istore_1 dX6_onesOf_1 rfl (r_iconst dX6_onesOf_2 (r_istore_2 dX6_onesOf_3 rfl ?_)))
  have lp_4 : ∀ (NN : Nat) (i : Nat) (s : Int) (hi : i ≤ 8) (hs : s = pcs m i), 8 - i < NN → WP kX6_onesOf GM d (pI (fun a M2 => M = M2 ∧ a = ((pop8 m : Nat) : Int))) z 4 [some (iv (m : Int)), some (iv s), some (iv (i : Int))] [] M := by
    intro NN
    induction NN with
    | zero => intros; omega
    | succ NN ih =>
      intro i s hi hs hm
      have hq := bit_and (m := (m : Int)) (w := i) (by omega) (by omega)
      refine r_iload_2 dX6_onesOf_4 ?_
      refine r_bipush dX6_onesOf_5 (by decide) ?_
      refine r_icmp_ge dX6_onesOf_7 (by omega) (by omega) (fun c_7 => ?_) (fun c_7 => ?_)
      · skip
        obtain rfl : i = 8 := by omega
        refine r_iload_1 dX6_onesOf_24 ?_
        refine r_ireturn dX6_onesOf_25 rfl ?_
        exact ⟨_, rfl, rfl, hs.trans (pcs_8 m hm9)⟩
      · skip
        refine r_iload_1 dX6_onesOf_10 (r_iload_0 dX6_onesOf_11 (r_iload_2 dX6_onesOf_12 ?_))
        refine r_ishr (r := (m : Int) / 2 ^ i) dX6_onesOf_13 (hq.1) ?_
        refine r_iconst dX6_onesOf_14 ?_
        refine r_iand (r := (m : Int) / 2 ^ i % 2) dX6_onesOf_15 (hq.2) ?_
        refine r_iadd dX6_onesOf_16 (r_istore_1 dX6_onesOf_17 rfl (r_iinc_2 dX6_onesOf_18 rfl (r_goto dX6_onesOf_21 ?_)))
        exact ih (i + 1) _ (by omega) (by simp only [pcs]; rw [hs]) (by omega)
  exact lp_4 _ 0 0 (by omega) rfl (Nat.lt_succ_self _)
set_option maxRecDepth 10000 in
set_option maxHeartbeats 4000000 in
theorem m_behind {M : Mem} {nT : Nat} {τ : Tn} (hT : TM M τ) (hw : WF nT τ) : Con GM 0 kX6_behindAll [rv 0] M (pI (fun a M2 => M = M2 ∧ a = sm (τ 0) 8)) := by
  refine con_of [some (rv 0), none, none] (plX6) rfl (Nat.le_of_ble_eq_true rfl) (fun z => ?_)
  refine r_iconst dX6_behindAll_0 (r_istore_1 dX6_behindAll_1 rfl (r_iconst dX6_behindAll_2 (r_istore_2 dX6_behindAll_3 rfl ?_)))
  have lp_4 : ∀ (NN : Nat) (i : Nat) (s : Int) (hi : i ≤ 8) (hs : s = sm (τ 0) i), 8 - i < NN → WP kX6_behindAll GM 0 (pI (fun a M2 => M = M2 ∧ a = sm (τ 0) 8)) z 4 [some (rv 0), some (iv s), some (iv (i : Int))] [] M := by
    intro NN
    induction NN with
    | zero => intros; omega
    | succ NN ih =>
      intro i s hi hs hm
      refine r_iload_2 dX6_behindAll_4 ?_
      refine r_bipush dX6_behindAll_5 (by decide) ?_
      refine r_icmp_ge dX6_behindAll_7 (by omega) (by omega) (fun c_7 => ?_) (fun c_7 => ?_)
      · skip
        have h8 : i = 8 := by omega
        subst h8
        refine r_iload_1 dX6_behindAll_27 ?_
        refine r_ireturn dX6_behindAll_28 rfl ?_
        exact ⟨_, rfl, rfl, hs⟩
      · skip
        have hi8 : i < 8 := by omega
        refine r_iload_1 dX6_behindAll_10 (r_aload_0 dX6_behindAll_11 (r_getR dX6_behindAll_12 fX6_19 (rfl) (rfl) (r_iconst dX6_behindAll_15 (r_iload_2 dX6_behindAll_16 (r_imul dX6_behindAll_17 (r_ialX dX6_behindAll_18 (rfl) (hT.e0 hi8) (by omega) (by omega) (by omega) (r_iadd dX6_behindAll_19 (r_istore_1 dX6_behindAll_20 rfl (r_iinc_2 dX6_behindAll_21 rfl (r_goto dX6_behindAll_24 ?_))))))))))
        exact ih (i + 1) _ (by omega) (by simp only [sm]; rw [← hs]) (by omega)
  exact lp_4 _ 0 0 (by omega) rfl (Nat.lt_succ_self _)
set_option maxRecDepth 10000 in
set_option maxHeartbeats 4000000 in
theorem m6_count {M : Mem} {nT tn : Nat} {X : Nat → Tx} {τ τi : Tn} {img : Bool} {tp ss sz : Nat → Int} {cl : Nat → Nat → Int} (hR : RM M (nT, X, τ, img, τi, tn, tp, ss, sz, cl)) (hJ : JNV (nT, X, τ, img, τi, tn, tp, ss, sz, cl)) {what : Int} (h_what : ib what) : Con GM 9 kX6_count [rv 0, iv what] M (pI (fun a M2 => a = a_count (nT, X, τ, img, τi, tn, tp, ss, sz, cl) what ∧ RM M2 (nT, X, τ, img, τi, tn, tp, ss, sz, cl))) := by
  refine con_of [some (rv 0), some (iv what)] (plX6) rfl (Nat.le_of_ble_eq_true rfl) (fun z => ?_)
  have hR0 := hR
  obtain ⟨hT, hX, hnT, himg, hIM, ⟨htn, htp⟩, hsh, hwc⟩ := hR0
  have hT : TM M τ := hT
  have hJ0 := hJ
  obtain ⟨⟨⟨iT1, iT6⟩, ⟨hw, icl⟩, iim, ⟨itn, itp⟩, ish⟩, hki⟩ := hJ0
  obtain ⟨⟨wn, wn2⟩, wcl, ⟨wl, wl2⟩, -, -⟩ := id hw
  have hcl : τ 8 1 < 2147483648 := by omega
  refine r_mb (fun hMB => ?_)
  refine r_iload_1 dX6_count_0 ?_
  refine r_tsw6 (t0 := 40) (t1 := 45) (t2 := 50) (t3 := 59) (t4 := 64) (t5 := 69) (td := 74) dX6_count_1 (by decide) (by omega) (by decide) (by decide) (by decide) (by decide) (by decide) (by decide) (by decide) (fun c_1 => ?_) (fun c_1 => ?_) (fun c_1 => ?_) (fun c_1 => ?_) (fun c_1 => ?_) (fun c_1 => ?_) (fun c_1 => ?_)
  · skip
    skip
    refine r_aload_0 dX6_count_40 (r_getE dX6_count_41 fX6_72 (rfl) (rfl) (hT.people) ?_)
    refine r_ireturn dX6_count_44 rfl ?_
    refine ⟨_, rfl, ?_, hR⟩
    unfold a_count
    simp only [Int.toNat_natCast]
    (repeat (first | rw [if_pos (by omega)] | rw [if_neg (by omega)])) <;> first | with_reducible rfl | omega | rw [hmt_52]
  · skip
    skip
    refine r_aload_0 dX6_count_45 (r_getE dX6_count_46 fX6_79 (rfl) (rfl) (hT.clock) ?_)
    refine r_ireturn dX6_count_49 rfl ?_
    refine ⟨_, rfl, ?_, hR⟩
    unfold a_count
    simp only [Int.toNat_natCast]
    (repeat (first | rw [if_pos (by omega)] | rw [if_neg (by omega)])) <;> first | with_reducible rfl | omega | rw [hmt_52]
  · skip
    skip
    refine r_aload_0 dX6_count_50 (r_iconst dX6_count_51 ?_)
    refine r_cVI1 dX6_count_52 vX6_82 (rfl) (m_having (n := 0) (j := 2) hT hw (by decide)) (by decide) (Nat.le_of_ble_eq_true rfl) (fun b_52 M_52 h_52 => ?_)
    obtain ⟨rfl, hb_52⟩ := h_52
    obtain ⟨m_52, hm_52, hm256_52, hmt_52⟩ := snd_b τ
    rw [hb_52, show bt (fun d => decide (τ 2 d ≠ -1)) 8 = (m_52 : Int) from hm_52]
    refine r_cSI1 dX6_count_55 sX6_86 (m_ones (d := 0) hm256_52) (by decide) (Nat.le_of_ble_eq_true rfl) (fun b_55 M_55 h_55 => ?_)
    obtain ⟨rfl, rfl⟩ := h_55
    refine r_ireturn dX6_count_58 rfl ?_
    refine ⟨_, rfl, ?_, hR⟩
    unfold a_count
    simp only [Int.toNat_natCast]
    (repeat (first | rw [if_pos (by omega)] | rw [if_neg (by omega)])) <;> first | with_reducible rfl | omega | rw [hmt_52]
  · skip
    skip
    refine r_aload_0 dX6_count_59 (r_getE dX6_count_60 fX6_89 (rfl) (rfl) (hnT) ?_)
    refine r_ireturn dX6_count_63 rfl ?_
    refine ⟨_, rfl, ?_, hR⟩
    unfold a_count
    simp only [Int.toNat_natCast]
    (repeat (first | rw [if_pos (by omega)] | rw [if_neg (by omega)])) <;> first | with_reducible rfl | omega | rw [hmt_52]
  · skip
    skip
    refine r_aload_0 dX6_count_64 (r_getE dX6_count_65 fX6_92 (rfl) (rfl) (hT.rule) ?_)
    refine r_ireturn dX6_count_68 rfl ?_
    refine ⟨_, rfl, ?_, hR⟩
    unfold a_count
    simp only [Int.toNat_natCast]
    (repeat (first | rw [if_pos (by omega)] | rw [if_neg (by omega)])) <;> first | with_reducible rfl | omega | rw [hmt_52]
  · skip
    skip
    refine r_aload_0 dX6_count_69 (r_getE dX6_count_70 fX6_64 (rfl) (rfl) (htn) ?_)
    refine r_ireturn dX6_count_73 rfl ?_
    refine ⟨_, rfl, ?_, hR⟩
    unfold a_count
    simp only [Int.toNat_natCast]
    (repeat (first | rw [if_pos (by omega)] | rw [if_neg (by omega)])) <;> first | with_reducible rfl | omega | rw [hmt_52]
  · skip
    skip
    refine r_bipush dX6_count_74 (by decide) ?_
    refine r_ireturn dX6_count_76 rfl ?_
    refine ⟨_, rfl, ?_, hR⟩
    unfold a_count
    simp only [Int.toNat_natCast]
    (repeat (first | rw [if_pos (by omega)] | rw [if_neg (by omega)])) <;> first | with_reducible rfl | omega | rw [hmt_52]
set_option maxRecDepth 10000 in
set_option maxHeartbeats 4000000 in
theorem m6_town {M : Mem} {nT tn : Nat} {X : Nat → Tx} {τ τi : Tn} {img : Bool} {tp ss sz : Nat → Int} {cl : Nat → Nat → Int} (hR : RM M (nT, X, τ, img, τi, tn, tp, ss, sz, cl)) (hJ : JNV (nT, X, τ, img, τi, tn, tp, ss, sz, cl)) {what : Int} (h_what : ib what) {d : Int} (h_d : ib d) {v : Int} (h_v : ib v) : Con GM 9 kX6_town [rv 0, iv what, iv d, iv v] M (pI (fun a M2 => a = a_town (nT, X, τ, img, τi, tn, tp, ss, sz, cl) what d v ∧ RM M2 (t_town (nT, X, τ, img, τi, tn, tp, ss, sz, cl) what d v))) := by
  refine con_of [some (rv 0), some (iv what), some (iv d), some (iv v), none, none] (plX6) rfl (Nat.le_of_ble_eq_true rfl) (fun z => ?_)
  have hR0 := hR
  obtain ⟨hT, hX, hnT, himg, hIM, ⟨htn, htp⟩, hsh, hwc⟩ := hR0
  have hT : TM M τ := hT
  have hJ0 := hJ
  obtain ⟨⟨⟨iT1, iT6⟩, ⟨hw, icl⟩, iim, ⟨itn, itp⟩, ish⟩, hki⟩ := hJ0
  obtain ⟨⟨wn, wn2⟩, wcl, ⟨wl, wl2⟩, -, -⟩ := id hw
  have hcl : τ 8 1 < 2147483648 := by omega
  refine r_mb (fun hMB => ?_)
  refine r_iload_1 dX6_town_0 (r_iconst dX6_town_1 (r_iconst dX6_town_2 ?_))
  refine r_cSI3 dX6_town_3 sX6_75 (m_in (d := 0) (by omega) (by omega) (by omega)) (by decide) (Nat.le_of_ble_eq_true rfl) (fun b_3 M_3 h_3 => ?_)
  obtain ⟨rfl, rfl⟩ := h_3
  first | refine r_ifd_eq dX6_town_6 (fun c_6 => ?_) (fun c_6 => ?_) | refine r_ifb_eq dX6_town_6 (fun c_6 => ?_) (fun c_6 => ?_)
  · skip
    refine r_bipush dX6_town_20 (by decide) ?_
    refine r_ireturn dX6_town_22 rfl ?_
    refine ⟨_, rfl, ?_, ?_⟩
    · unfold a_town
      simp only [Int.toNat_natCast]
      (repeat' split) <;> first | with_reducible rfl | omega
    · unfold t_town
      simp only [Int.toNat_natCast]
      (repeat' split) <;> first | exact hR | (exfalso; omega)
  · skip
    refine r_iload_1 dX6_town_9 ?_
    refine r_if_le dX6_town_10 (by omega) (fun c_10 => ?_) (fun c_10 => ?_)
    · skip
      have jn_71 : ∀ (g : Bool) (hg : g = decide ((what = 0 ∧ 0 ≤ v ∧ v ≤ 9999) ∨ (what = 1 ∧ 0 ≤ v ∧ v ≤ 99) ∨ (what = 2 ∧ (v = -1 ∨ (0 ≤ v ∧ v < τ 8 0))))), WP kX6_town GM 9 (pI (fun a M2 => a = a_town (nT, X, τ, img, τi, tn, tp, ss, sz, cl) what d v ∧ RM M2 (t_town (nT, X, τ, img, τi, tn, tp, ss, sz, cl) what d v))) z 71 [some (rv 0), some (iv what), some (iv d), some (iv v), none, none] [iv (bi g)] M := by
        intro g hg
        refine r_istore_4 dX6_town_71 rfl ?_
        refine r_iload_4 dX6_town_73 ?_
        refine r_ifb_ne dX6_town_75 (fun c_75 => ?_) (fun c_75 => ?_)
        · skip
          have hP := of_decide_eq_true (hg.symm.trans c_75)
          refine r_aload_0 dX6_town_81 (r_getE dX6_town_82 fX6_79 (rfl) (rfl) (hT.clock) (r_istore_5 dX6_town_85 rfl (r_iload_1 dX6_town_87 ?_)))
          refine r_if_ne dX6_town_88 (by omega) (fun c_88 => ?_) (fun c_88 => ?_)
          · skip
            obtain ⟨e, rfl⟩ : ∃ e : Nat, d = e := ⟨d.toNat, by omega⟩
            have he8 : e < 8 := by omega
            have wd := hw.d he8
            obtain ⟨w, rfl⟩ : ∃ w : Nat, what = w := ⟨what.toNat, by omega⟩
            refine r_aload_0 dX6_town_99 (r_getR dX6_town_100 fX6_19 (rfl) (rfl) (r_iconst dX6_town_103 (r_iload_2 dX6_town_104 (r_imul dX6_town_105 (r_iload_1 dX6_town_106 (r_iadd dX6_town_107 (r_iconst dX6_town_108 (r_isub dX6_town_109 (r_ialX dX6_town_110 (rfl) (hT.2.1 e he8 (w - 1) (by omega)) (by omega) (by omega) (by omega) (r_istore_5 dX6_town_111 rfl (r_aload_0 dX6_town_113 (r_getR dX6_town_114 fX6_19 (rfl) (rfl) (r_iconst dX6_town_117 (r_iload_2 dX6_town_118 (r_imul dX6_town_119 (r_iload_1 dX6_town_120 (r_iadd dX6_town_121 (r_iconst dX6_town_122 (r_isub dX6_town_123 (r_iload_3 dX6_town_124 ?_))))))))))))))))))))
            refine r_iasX (3 * e + (w - 1)) dX6_town_125 (rfl) (by omega) (by omega) (by omega) (by omega) ?_
            have w1 : TM (upM M 4 (3 * e + (w - 1)) v) (st τ (w - 1) e v) := hT.uD (by omega)
            refine r_iload_5 dX6_town_126 ?_
            refine r_ireturn dX6_town_128 rfl ?_
            rcases (by omega : w = 1 ∨ w = 2) with rfl | rfl
            · refine ⟨_, rfl, ?_, ?_⟩
              · unfold a_town
                simp only [Int.toNat_natCast]
                (repeat' split) <;> first | with_reducible rfl | omega
              · unfold t_town
                simp only [Int.toNat_natCast]
                (repeat' split) <;> first | exact hR.now w1 (Fm.refl.up (by omega)) | (exfalso; omega)
            · refine ⟨_, rfl, ?_, ?_⟩
              · unfold a_town
                simp only [Int.toNat_natCast]
                (repeat' split) <;> first | with_reducible rfl | omega
              · unfold t_town
                simp only [Int.toNat_natCast]
                (repeat' split) <;> first | exact hR.now w1 (Fm.refl.up (by omega)) | (exfalso; omega)
          · skip
            refine r_aload_0 dX6_town_91 (r_iload_3 dX6_town_92 ?_)
            refine r_put dX6_town_93 pX6_79 (rfl) (rfl) (by omega) ?_
            have w1 := hT.uclock (v := v)
            refine r_goto dX6_town_96 (r_iload_5 dX6_town_126 ?_)
            refine r_ireturn dX6_town_128 rfl ?_
            refine ⟨_, rfl, ?_, ?_⟩
            · unfold a_town
              simp only [Int.toNat_natCast]
              (repeat' split) <;> first | with_reducible rfl | omega
            · unfold t_town
              simp only [Int.toNat_natCast]
              (repeat' split) <;> first | exact hR.now w1 (Fm.refl.up (by omega)) | (exfalso; omega)
        · skip
          have hP := of_decide_eq_false (hg.symm.trans c_75)
          refine r_bipush dX6_town_78 (by decide) ?_
          refine r_ireturn dX6_town_80 rfl ?_
          refine ⟨_, rfl, ?_, ?_⟩
          · unfold a_town
            simp only [Int.toNat_natCast]
            (repeat' split) <;> first | with_reducible rfl | omega
          · unfold t_town
            simp only [Int.toNat_natCast]
            (repeat' split) <;> first | exact hR | (exfalso; omega)
      refine r_iload_1 dX6_town_23 ?_
      refine r_if_ne dX6_town_24 (by omega) (fun c_24 => ?_) (fun c_24 => ?_)
      · skip
        refine r_iload_1 dX6_town_38 (r_iconst dX6_town_39 ?_)
        refine r_icmp_ne dX6_town_40 (by omega) (by omega) (fun c_40 => ?_) (fun c_40 => ?_)
        · skip
          refine r_iload_3 dX6_town_53 (r_iconst dX6_town_54 ?_)
          refine r_icmp_eq dX6_town_55 (by omega) (by omega) (fun c_55 => ?_) (fun c_55 => ?_)
          · skip
            refine r_iconst dX6_town_66 (r_goto dX6_town_67 ?_)
            exact jn_71 true (decide_eq_true (by omega)).symm
          · skip
            refine r_aload_0 dX6_town_58 (r_iload_3 dX6_town_59 ?_)
            refine r_cVI1 dX6_town_60 vX6_99 (rfl) (m_isOne (d := 0) hT hw (by omega)) (by decide) (Nat.le_of_ble_eq_true rfl) (fun b_60 M_60 h_60 => ?_)
            obtain ⟨rfl, rfl⟩ := h_60
            first | refine r_ifd_eq dX6_town_63 (fun c_63 => ?_) (fun c_63 => ?_) | refine r_ifb_eq dX6_town_63 (fun c_63 => ?_) (fun c_63 => ?_)
            · skip
              refine r_iconst dX6_town_70 ?_
              exact jn_71 false (decide_eq_false (by omega)).symm
            · skip
              refine r_iconst dX6_town_66 (r_goto dX6_town_67 ?_)
              exact jn_71 true (decide_eq_true (by omega)).symm
        · skip
          refine r_iload_3 dX6_town_43 (r_iconst dX6_town_44 (r_bipush dX6_town_45 (by decide) ?_))
          refine r_cSI3 dX6_town_47 sX6_75 (m_in (d := 0) (by omega) (by omega) (by omega)) (by decide) (Nat.le_of_ble_eq_true rfl) (fun b_47 M_47 h_47 => ?_)
          obtain ⟨rfl, rfl⟩ := h_47
          refine r_goto dX6_town_50 ?_
          exact jn_71 _ (decide_eq_decide.mpr (by omega))
      · skip
        refine r_iload_3 dX6_town_27 (r_iconst dX6_town_28 (r_sipush dX6_town_29 (by decide) ?_))
        refine r_cSI3 dX6_town_32 sX6_75 (m_in (d := 0) (by omega) (by omega) (by omega)) (by decide) (Nat.le_of_ble_eq_true rfl) (fun b_32 M_32 h_32 => ?_)
        obtain ⟨rfl, rfl⟩ := h_32
        refine r_goto dX6_town_35 ?_
        exact jn_71 _ (decide_eq_decide.mpr (by omega))
    · skip
      refine r_iload_2 dX6_town_13 ?_
      refine r_cSI1 dX6_town_14 sX6_95 (m_isDoor (d := 0) (by omega)) (by decide) (Nat.le_of_ble_eq_true rfl) (fun b_14 M_14 h_14 => ?_)
      obtain ⟨rfl, rfl⟩ := h_14
      first | refine r_ifd_ne dX6_town_17 (fun c_17 => ?_) (fun c_17 => ?_) | refine r_ifb_ne dX6_town_17 (fun c_17 => ?_) (fun c_17 => ?_)
      · skip
        have jn_71 : ∀ (g : Bool) (hg : g = decide ((what = 0 ∧ 0 ≤ v ∧ v ≤ 9999) ∨ (what = 1 ∧ 0 ≤ v ∧ v ≤ 99) ∨ (what = 2 ∧ (v = -1 ∨ (0 ≤ v ∧ v < τ 8 0))))), WP kX6_town GM 9 (pI (fun a M2 => a = a_town (nT, X, τ, img, τi, tn, tp, ss, sz, cl) what d v ∧ RM M2 (t_town (nT, X, τ, img, τi, tn, tp, ss, sz, cl) what d v))) z 71 [some (rv 0), some (iv what), some (iv d), some (iv v), none, none] [iv (bi g)] M := by
          intro g hg
          refine r_istore_4 dX6_town_71 rfl ?_
          refine r_iload_4 dX6_town_73 ?_
          refine r_ifb_ne dX6_town_75 (fun c_75 => ?_) (fun c_75 => ?_)
          · skip
            have hP := of_decide_eq_true (hg.symm.trans c_75)
            refine r_aload_0 dX6_town_81 (r_getE dX6_town_82 fX6_79 (rfl) (rfl) (hT.clock) (r_istore_5 dX6_town_85 rfl (r_iload_1 dX6_town_87 ?_)))
            refine r_if_ne dX6_town_88 (by omega) (fun c_88 => ?_) (fun c_88 => ?_)
            · skip
              obtain ⟨e, rfl⟩ : ∃ e : Nat, d = e := ⟨d.toNat, by omega⟩
              have he8 : e < 8 := by omega
              have wd := hw.d he8
              obtain ⟨w, rfl⟩ : ∃ w : Nat, what = w := ⟨what.toNat, by omega⟩
              refine r_aload_0 dX6_town_99 (r_getR dX6_town_100 fX6_19 (rfl) (rfl) (r_iconst dX6_town_103 (r_iload_2 dX6_town_104 (r_imul dX6_town_105 (r_iload_1 dX6_town_106 (r_iadd dX6_town_107 (r_iconst dX6_town_108 (r_isub dX6_town_109 (r_ialX dX6_town_110 (rfl) (hT.2.1 e he8 (w - 1) (by omega)) (by omega) (by omega) (by omega) (r_istore_5 dX6_town_111 rfl (r_aload_0 dX6_town_113 (r_getR dX6_town_114 fX6_19 (rfl) (rfl) (r_iconst dX6_town_117 (r_iload_2 dX6_town_118 (r_imul dX6_town_119 (r_iload_1 dX6_town_120 (r_iadd dX6_town_121 (r_iconst dX6_town_122 (r_isub dX6_town_123 (r_iload_3 dX6_town_124 ?_))))))))))))))))))))
              refine r_iasX (3 * e + (w - 1)) dX6_town_125 (rfl) (by omega) (by omega) (by omega) (by omega) ?_
              have w1 : TM (upM M 4 (3 * e + (w - 1)) v) (st τ (w - 1) e v) := hT.uD (by omega)
              refine r_iload_5 dX6_town_126 ?_
              refine r_ireturn dX6_town_128 rfl ?_
              rcases (by omega : w = 1 ∨ w = 2) with rfl | rfl
              · refine ⟨_, rfl, ?_, ?_⟩
                · unfold a_town
                  simp only [Int.toNat_natCast]
                  (repeat' split) <;> first | with_reducible rfl | omega
                · unfold t_town
                  simp only [Int.toNat_natCast]
                  (repeat' split) <;> first | exact hR.now w1 (Fm.refl.up (by omega)) | (exfalso; omega)
              · refine ⟨_, rfl, ?_, ?_⟩
                · unfold a_town
                  simp only [Int.toNat_natCast]
                  (repeat' split) <;> first | with_reducible rfl | omega
                · unfold t_town
                  simp only [Int.toNat_natCast]
                  (repeat' split) <;> first | exact hR.now w1 (Fm.refl.up (by omega)) | (exfalso; omega)
            · skip
              refine r_aload_0 dX6_town_91 (r_iload_3 dX6_town_92 ?_)
              refine r_put dX6_town_93 pX6_79 (rfl) (rfl) (by omega) ?_
              have w1 := hT.uclock (v := v)
              refine r_goto dX6_town_96 (r_iload_5 dX6_town_126 ?_)
              refine r_ireturn dX6_town_128 rfl ?_
              refine ⟨_, rfl, ?_, ?_⟩
              · unfold a_town
                simp only [Int.toNat_natCast]
                (repeat' split) <;> first | with_reducible rfl | omega
              · unfold t_town
                simp only [Int.toNat_natCast]
                (repeat' split) <;> first | exact hR.now w1 (Fm.refl.up (by omega)) | (exfalso; omega)
          · skip
            have hP := of_decide_eq_false (hg.symm.trans c_75)
            refine r_bipush dX6_town_78 (by decide) ?_
            refine r_ireturn dX6_town_80 rfl ?_
            refine ⟨_, rfl, ?_, ?_⟩
            · unfold a_town
              simp only [Int.toNat_natCast]
              (repeat' split) <;> first | with_reducible rfl | omega
            · unfold t_town
              simp only [Int.toNat_natCast]
              (repeat' split) <;> first | exact hR | (exfalso; omega)
        refine r_iload_1 dX6_town_23 ?_
        refine r_if_ne dX6_town_24 (by omega) (fun c_24 => ?_) (fun c_24 => ?_)
        · skip
          refine r_iload_1 dX6_town_38 (r_iconst dX6_town_39 ?_)
          refine r_icmp_ne dX6_town_40 (by omega) (by omega) (fun c_40 => ?_) (fun c_40 => ?_)
          · skip
            refine r_iload_3 dX6_town_53 (r_iconst dX6_town_54 ?_)
            refine r_icmp_eq dX6_town_55 (by omega) (by omega) (fun c_55 => ?_) (fun c_55 => ?_)
            · skip
              refine r_iconst dX6_town_66 (r_goto dX6_town_67 ?_)
              exact jn_71 true (decide_eq_true (by omega)).symm
            · skip
              refine r_aload_0 dX6_town_58 (r_iload_3 dX6_town_59 ?_)
              refine r_cVI1 dX6_town_60 vX6_99 (rfl) (m_isOne (d := 0) hT hw (by omega)) (by decide) (Nat.le_of_ble_eq_true rfl) (fun b_60 M_60 h_60 => ?_)
              obtain ⟨rfl, rfl⟩ := h_60
              first | refine r_ifd_eq dX6_town_63 (fun c_63 => ?_) (fun c_63 => ?_) | refine r_ifb_eq dX6_town_63 (fun c_63 => ?_) (fun c_63 => ?_)
              · skip
                refine r_iconst dX6_town_70 ?_
                exact jn_71 false (decide_eq_false (by omega)).symm
              · skip
                refine r_iconst dX6_town_66 (r_goto dX6_town_67 ?_)
                exact jn_71 true (decide_eq_true (by omega)).symm
          · skip
            refine r_iload_3 dX6_town_43 (r_iconst dX6_town_44 (r_bipush dX6_town_45 (by decide) ?_))
            refine r_cSI3 dX6_town_47 sX6_75 (m_in (d := 0) (by omega) (by omega) (by omega)) (by decide) (Nat.le_of_ble_eq_true rfl) (fun b_47 M_47 h_47 => ?_)
            obtain ⟨rfl, rfl⟩ := h_47
            refine r_goto dX6_town_50 ?_
            exact jn_71 _ (decide_eq_decide.mpr (by omega))
        · skip
          refine r_iload_3 dX6_town_27 (r_iconst dX6_town_28 (r_sipush dX6_town_29 (by decide) ?_))
          refine r_cSI3 dX6_town_32 sX6_75 (m_in (d := 0) (by omega) (by omega) (by omega)) (by decide) (Nat.le_of_ble_eq_true rfl) (fun b_32 M_32 h_32 => ?_)
          obtain ⟨rfl, rfl⟩ := h_32
          refine r_goto dX6_town_35 ?_
          exact jn_71 _ (decide_eq_decide.mpr (by omega))
      · skip
        refine r_bipush dX6_town_20 (by decide) ?_
        refine r_ireturn dX6_town_22 rfl ?_
        refine ⟨_, rfl, ?_, ?_⟩
        · unfold a_town
          simp only [Int.toNat_natCast]
          (repeat' split) <;> first | with_reducible rfl | omega
        · unfold t_town
          simp only [Int.toNat_natCast]
          (repeat' split) <;> first | exact hR | (exfalso; omega)
set_option maxRecDepth 10000 in
set_option maxHeartbeats 4000000 in
theorem m6_door {M : Mem} {nT tn : Nat} {X : Nat → Tx} {τ τi : Tn} {img : Bool} {tp ss sz : Nat → Int} {cl : Nat → Nat → Int} (hR : RM M (nT, X, τ, img, τi, tn, tp, ss, sz, cl)) (hJ : JNV (nT, X, τ, img, τi, tn, tp, ss, sz, cl)) {d : Int} (h_d : ib d) {what : Int} (h_what : ib what) : Con GM 9 kX6_door [rv 0, iv d, iv what] M (pI (fun a M2 => a = a_door (nT, X, τ, img, τi, tn, tp, ss, sz, cl) d what ∧ RM M2 (nT, X, τ, img, τi, tn, tp, ss, sz, cl))) := by
  refine con_of [some (rv 0), some (iv d), some (iv what)] (plX6) rfl (Nat.le_of_ble_eq_true rfl) (fun z => ?_)
  have hR0 := hR
  obtain ⟨hT, hX, hnT, himg, hIM, ⟨htn, htp⟩, hsh, hwc⟩ := hR0
  have hT : TM M τ := hT
  have hJ0 := hJ
  obtain ⟨⟨⟨iT1, iT6⟩, ⟨hw, icl⟩, iim, ⟨itn, itp⟩, ish⟩, hki⟩ := hJ0
  obtain ⟨⟨wn, wn2⟩, wcl, ⟨wl, wl2⟩, -, -⟩ := id hw
  have hcl : τ 8 1 < 2147483648 := by omega
  refine r_mb (fun hMB => ?_)
  refine r_iload_1 dX6_door_0 ?_
  refine r_cSI1 dX6_door_1 sX6_95 (m_isDoor (d := 0) (by omega)) (by decide) (Nat.le_of_ble_eq_true rfl) (fun b_1 M_1 h_1 => ?_)
  obtain ⟨rfl, rfl⟩ := h_1
  first | refine r_ifd_ne dX6_door_4 (fun c_4 => ?_) (fun c_4 => ?_) | refine r_ifb_ne dX6_door_4 (fun c_4 => ?_) (fun c_4 => ?_)
  · skip
    obtain ⟨e, rfl⟩ : ∃ e : Nat, d = e := ⟨d.toNat, by omega⟩
    have he8 : e < 8 := by omega
    have wd := hw.d he8
    refine r_iload_2 dX6_door_10 ?_
    refine r_tsw4 (t0 := 40) (t1 := 51) (t2 := 62) (t3 := 71) (td := 77) dX6_door_11 (by decide) (by omega) (by decide) (by decide) (by decide) (by decide) (by decide) (fun c_11 => ?_) (fun c_11 => ?_) (fun c_11 => ?_) (fun c_11 => ?_) (fun c_11 => ?_)
    · skip
      skip
      refine r_aload_0 dX6_door_40 (r_getR dX6_door_41 fX6_19 (rfl) (rfl) (r_iconst dX6_door_44 (r_iload_1 dX6_door_45 (r_imul dX6_door_46 (r_iconst dX6_door_47 (r_iadd dX6_door_48 (r_ialX dX6_door_49 (rfl) (hT.e1 he8) (by omega) (by omega) (by omega) ?_)))))))
      refine r_ireturn dX6_door_50 rfl ?_
      refine ⟨_, rfl, ?_, ?_⟩
      · unfold a_door
        simp only [Int.toNat_natCast]
        (repeat (first | rw [if_pos (by omega)] | rw [if_neg (by omega)])) <;> first | with_reducible rfl | omega
      · exact hR
    · skip
      skip
      refine r_aload_0 dX6_door_51 (r_getR dX6_door_52 fX6_19 (rfl) (rfl) (r_iconst dX6_door_55 (r_iload_1 dX6_door_56 (r_imul dX6_door_57 (r_iconst dX6_door_58 (r_iadd dX6_door_59 (r_ialX dX6_door_60 (rfl) (hT.e2 he8) (by omega) (by omega) (by omega) ?_)))))))
      refine r_ireturn dX6_door_61 rfl ?_
      refine ⟨_, rfl, ?_, ?_⟩
      · unfold a_door
        simp only [Int.toNat_natCast]
        (repeat (first | rw [if_pos (by omega)] | rw [if_neg (by omega)])) <;> first | with_reducible rfl | omega
      · exact hR
    · skip
      skip
      refine r_aload_0 dX6_door_62 (r_getR dX6_door_63 fX6_19 (rfl) (rfl) (r_iconst dX6_door_66 (r_iload_1 dX6_door_67 (r_imul dX6_door_68 (r_ialX dX6_door_69 (rfl) (hT.e0 he8) (by omega) (by omega) (by omega) ?_)))))
      refine r_ireturn dX6_door_70 rfl ?_
      refine ⟨_, rfl, ?_, ?_⟩
      · unfold a_door
        simp only [Int.toNat_natCast]
        (repeat (first | rw [if_pos (by omega)] | rw [if_neg (by omega)])) <;> first | with_reducible rfl | omega
      · exact hR
    · skip
      skip
      refine r_aload_0 dX6_door_71 (r_iload_1 dX6_door_72 ?_)
      refine r_cVI1 dX6_door_73 vX6_102 (rfl) (m_at (n := 0) hT hw (by omega)) (by decide) (Nat.le_of_ble_eq_true rfl) (fun b_73 M_73 h_73 => ?_)
      obtain ⟨rfl, rfl⟩ := h_73
      refine r_ireturn dX6_door_76 rfl ?_
      refine ⟨_, rfl, ?_, ?_⟩
      · unfold a_door
        simp only [Int.toNat_natCast]
        (repeat (first | rw [if_pos (by omega)] | rw [if_neg (by omega)])) <;> first | with_reducible rfl | omega
      · exact hR
    · skip
      skip
      refine r_bipush dX6_door_77 (by decide) ?_
      refine r_ireturn dX6_door_79 rfl ?_
      refine ⟨_, rfl, ?_, ?_⟩
      · unfold a_door
        simp only [Int.toNat_natCast]
        (repeat (first | rw [if_pos (by omega)] | rw [if_neg (by omega)])) <;> first | with_reducible rfl | omega
      · exact hR
  · skip
    skip
    refine r_bipush dX6_door_7 (by decide) ?_
    refine r_ireturn dX6_door_9 rfl ?_
    refine ⟨_, rfl, ?_, ?_⟩
    · unfold a_door
      simp only [Int.toNat_natCast]
      (repeat (first | rw [if_pos (by omega)] | rw [if_neg (by omega)])) <;> first | with_reducible rfl | omega
    · exact hR
set_option maxRecDepth 10000 in
set_option maxHeartbeats 4000000 in
theorem m6_force {M : Mem} {nT tn : Nat} {X : Nat → Tx} {τ τi : Tn} {img : Bool} {tp ss sz : Nat → Int} {cl : Nat → Nat → Int} (hR : RM M (nT, X, τ, img, τi, tn, tp, ss, sz, cl)) (hJ : JNV (nT, X, τ, img, τi, tn, tp, ss, sz, cl)) {t : Int} (h_t : ib t) : Con GM 9 kX6_force [rv 0, iv t] M (pI (fun a M2 => a = a_force (nT, X, τ, img, τi, tn, tp, ss, sz, cl) t ∧ RM M2 (t_force (nT, X, τ, img, τi, tn, tp, ss, sz, cl) t))) := by
  refine con_of [some (rv 0), some (iv t), none] (plX6) rfl (Nat.le_of_ble_eq_true rfl) (fun z => ?_)
  have hR0 := hR
  obtain ⟨hT, hX, hnT, himg, hIM, ⟨htn, htp⟩, hsh, hwc⟩ := hR0
  have hT : TM M τ := hT
  have hJ0 := hJ
  obtain ⟨⟨⟨iT1, iT6⟩, ⟨hw, icl⟩, iim, ⟨itn, itp⟩, ish⟩, hki⟩ := hJ0
  obtain ⟨⟨wn, wn2⟩, wcl, ⟨wl, wl2⟩, -, -⟩ := id hw
  have hcl : τ 8 1 < 2147483648 := by omega
  refine r_mb (fun hMB => ?_)
  refine r_iload_1 dX6_force_0 (r_iconst dX6_force_1 (r_aload_0 dX6_force_2 (r_getE dX6_force_3 fX6_89 (rfl) (rfl) (hnT) (r_iconst dX6_force_6 (r_isub dX6_force_7 ?_)))))
  refine r_cSI3 dX6_force_8 sX6_75 (m_in (d := 0) (by omega) (by omega) (by omega)) (by decide) (Nat.le_of_ble_eq_true rfl) (fun b_8 M_8 h_8 => ?_)
  obtain ⟨rfl, rfl⟩ := h_8
  first | refine r_ifd_ne dX6_force_11 (fun c_11 => ?_) (fun c_11 => ?_) | refine r_ifb_ne dX6_force_11 (fun c_11 => ?_) (fun c_11 => ?_)
  · skip
    refine r_aload_0 dX6_force_17 (r_getE dX6_force_18 fX6_92 (rfl) (rfl) (hT.rule) (r_istore_2 dX6_force_21 rfl (r_aload_0 dX6_force_22 (r_iload_1 dX6_force_23 ?_))))
    refine r_put dX6_force_24 pX6_92 (rfl) (rfl) (by omega) ?_
    have w1 := hT.urule (v := t)
    refine r_iload_2 dX6_force_27 ?_
    refine r_ireturn dX6_force_28 rfl ?_
    refine ⟨_, rfl, ?_, ?_⟩
    · unfold a_force
      simp only [Int.toNat_natCast]
      (repeat (first | rw [if_pos (by omega)] | rw [if_neg (by omega)])) <;> first | with_reducible rfl | omega
    · unfold t_force
      simp only [Int.toNat_natCast]
      (repeat (first | rw [if_pos (by omega)] | rw [if_neg (by omega)])) <;> first | exact hR | exact hR.now w1 (Fm.refl.up (by omega))
  · skip
    refine r_bipush dX6_force_14 (by decide) ?_
    refine r_ireturn dX6_force_16 rfl ?_
    refine ⟨_, rfl, ?_, ?_⟩
    · unfold a_force
      simp only [Int.toNat_natCast]
      (repeat (first | rw [if_pos (by omega)] | rw [if_neg (by omega)])) <;> first | with_reducible rfl | omega
    · unfold t_force
      simp only [Int.toNat_natCast]
      (repeat (first | rw [if_pos (by omega)] | rw [if_neg (by omega)])) <;> first | exact hR | exact hR.now w1 (Fm.refl.up (by omega))
set_option maxRecDepth 10000 in
set_option maxHeartbeats 4000000 in
theorem m6_asks {M : Mem} {nT tn : Nat} {X : Nat → Tx} {τ τi : Tn} {img : Bool} {tp ss sz : Nat → Int} {cl : Nat → Nat → Int} (hR : RM M (nT, X, τ, img, τi, tn, tp, ss, sz, cl)) (hJ : JNV (nT, X, τ, img, τi, tn, tp, ss, sz, cl)) {part : Int} (h_part : ib part) {p : Int} (h_p : ib p) : Con GM 9 kX6_asks [rv 0, iv part, iv p] M (pI (fun a M2 => a = a_asks (nT, X, τ, img, τi, tn, tp, ss, sz, cl) part p ∧ RM M2 (nT, X, τ, img, τi, tn, tp, ss, sz, cl))) := by
  refine con_of [some (rv 0), some (iv part), some (iv p)] (plX6) rfl (Nat.le_of_ble_eq_true rfl) (fun z => ?_)
  have hR0 := hR
  obtain ⟨hT, hX, hnT, himg, hIM, ⟨htn, htp⟩, hsh, hwc⟩ := hR0
  have hT : TM M τ := hT
  have hJ0 := hJ
  obtain ⟨⟨⟨iT1, iT6⟩, ⟨hw, icl⟩, iim, ⟨itn, itp⟩, ish⟩, hki⟩ := hJ0
  obtain ⟨⟨wn, wn2⟩, wcl, ⟨wl, wl2⟩, -, -⟩ := id hw
  have hcl : τ 8 1 < 2147483648 := by omega
  refine r_mb (fun hMB => ?_)
  refine r_iload_1 dX6_asks_0 (r_iconst dX6_asks_1 (r_iconst dX6_asks_2 ?_))
  refine r_cSI3 dX6_asks_3 sX6_75 (m_in (d := 0) (by omega) (by omega) (by omega)) (by decide) (Nat.le_of_ble_eq_true rfl) (fun b_3 M_3 h_3 => ?_)
  obtain ⟨rfl, rfl⟩ := h_3
  first | refine r_ifd_eq dX6_asks_6 (fun c_6 => ?_) (fun c_6 => ?_) | refine r_ifb_eq dX6_asks_6 (fun c_6 => ?_) (fun c_6 => ?_)
  · skip
    refine r_sipush dX6_asks_26 (by decide) ?_
    refine r_ireturn dX6_asks_29 rfl ?_
    refine ⟨_, rfl, ?_, ?_⟩
    · unfold a_asks
      simp only [Int.toNat_natCast]
      (repeat (first | rw [if_pos (by omega)] | rw [if_neg (by omega)])) <;> first | with_reducible rfl | omega
    · first | exact hR.now (hT.sc f1) f1.sW | with_reducible exact hR
  · skip
    refine r_aload_0 dX6_asks_9 (r_iload_2 dX6_asks_10 ?_)
    refine r_cVI1 dX6_asks_11 vX6_99 (rfl) (m_isOne (d := 0) hT hw (by omega)) (by decide) (Nat.le_of_ble_eq_true rfl) (fun b_11 M_11 h_11 => ?_)
    obtain ⟨rfl, rfl⟩ := h_11
    first | refine r_ifd_eq dX6_asks_14 (fun c_14 => ?_) (fun c_14 => ?_) | refine r_ifb_eq dX6_asks_14 (fun c_14 => ?_) (fun c_14 => ?_)
    · skip
      refine r_sipush dX6_asks_26 (by decide) ?_
      refine r_ireturn dX6_asks_29 rfl ?_
      refine ⟨_, rfl, ?_, ?_⟩
      · unfold a_asks
        simp only [Int.toNat_natCast]
        (repeat (first | rw [if_pos (by omega)] | rw [if_neg (by omega)])) <;> first | with_reducible rfl | omega
      · first | exact hR.now (hT.sc f1) f1.sW | with_reducible exact hR
    · skip
      obtain ⟨q, rfl⟩ : ∃ q : Nat, p = q := ⟨p.toNat, by omega⟩
      have hq6 : q < 6 := by omega
      have wq := hw.p hq6
      have hqn : (q : Int) < τ 8 0 := by omega
      obtain ⟨pt, rfl⟩ : ∃ pt : Nat, part = pt := ⟨part.toNat, by omega⟩
      refine r_aload_0 dX6_asks_17 (r_iload_1 dX6_asks_18 (r_iload_2 dX6_asks_19 ?_))
      refine r_cVI2 dX6_asks_20 vX6_176 (rfl) (m_asksOf hT hw hX hcl hqn (by omega)) (by decide) (Nat.le_of_ble_eq_true rfl) (fun b_20 M_20 h_20 => ?_)
      obtain ⟨rfl, f1⟩ := h_20
      refine r_goto dX6_asks_23 ?_
      refine r_ireturn dX6_asks_29 rfl ?_
      refine ⟨_, rfl, ?_, ?_⟩
      · unfold a_asks
        simp only [Int.toNat_natCast]
        (repeat (first | rw [if_pos (by omega)] | rw [if_neg (by omega)])) <;> first | with_reducible rfl | omega
      · first | exact hR.now (hT.sc f1) f1.sW | with_reducible exact hR
set_option maxRecDepth 10000 in
set_option maxHeartbeats 4000000 in
theorem m_come {km de : Int} {M : Mem} {nT : Nat} {τ : Tn} (hT : TM M τ) (hw : WF nT τ) (h1 : ib km) (h2 : ib de) : Con GM 1 kX6_citizen [rv 0, iv km, iv de] M (pI (fun a M2 => a = sComeA τ km de ∧ TM M2 (sComeT τ km de) ∧ Fm mW M M2)) := by
  refine con_of [some (rv 0), some (iv km), some (iv de)] (plX6) rfl (Nat.le_of_ble_eq_true rfl) (fun z => ?_)
  have h0 := hw.1
  refine r_iload_1 dX6_citizen_0 (r_iconst dX6_citizen_1 (r_bipush dX6_citizen_2 (by decide) ?_))
  refine r_cSI3 dX6_citizen_4 sX6_75 (m_in (d := 0) (by omega) (by omega) (by omega)) (by decide) (Nat.le_of_ble_eq_true rfl) (fun b_4 M_4 h_4 => ?_)
  obtain ⟨rfl, rfl⟩ := h_4
  first | refine r_ifd_eq dX6_citizen_7 (fun c_7 => ?_) (fun c_7 => ?_) | refine r_ifb_eq dX6_citizen_7 (fun c_7 => ?_) (fun c_7 => ?_)
  · skip
    refine r_bipush dX6_citizen_21 (by decide) ?_
    refine r_ireturn dX6_citizen_23 rfl ?_
    refine ⟨_, rfl, ?_, ?_, Fm.refl⟩
    · unfold sComeA; rw [if_neg (by omega)]
    · unfold sComeT; rw [if_neg (by omega)]; exact hT
  · skip
    refine r_iload_2 dX6_citizen_10 (r_iconst dX6_citizen_11 (r_sipush dX6_citizen_12 (by decide) ?_))
    refine r_cSI3 dX6_citizen_15 sX6_75 (m_in (d := 0) (by omega) (by omega) (by omega)) (by decide) (Nat.le_of_ble_eq_true rfl) (fun b_15 M_15 h_15 => ?_)
    obtain ⟨rfl, rfl⟩ := h_15
    first | refine r_ifd_ne dX6_citizen_18 (fun c_18 => ?_) (fun c_18 => ?_) | refine r_ifb_ne dX6_citizen_18 (fun c_18 => ?_) (fun c_18 => ?_)
    · skip
      refine r_aload_0 dX6_citizen_24 (r_getE dX6_citizen_25 fX6_72 (rfl) (rfl) (hT.people) (r_bipush dX6_citizen_28 (by decide) ?_))
      refine r_icmp_ne dX6_citizen_30 (by omega) (by omega) (fun c_30 => ?_) (fun c_30 => ?_)
      · skip
        obtain ⟨p, hp⟩ : ∃ p : Nat, τ 8 0 = p := ⟨(τ 8 0).toNat, by omega⟩
        have hp6 : p < 6 := by omega
        have hpn : (τ 8 0).toNat = p := by omega
        have d1 := Int.tdiv_eq_ediv_of_nonneg (a := km) (b := 10) (by omega)
        have d2 := Int.tmod_eq_emod_of_nonneg (a := km) (b := 10) (by omega)
        have d3 := Int.tdiv_eq_ediv_of_nonneg (a := de) (b := 100) (by omega)
        have d4 := Int.tmod_eq_emod_of_nonneg (a := de) (b := 100) (by omega)
        refine r_aload_0 dX6_citizen_36 (r_getR dX6_citizen_37 fX6_7 (rfl) (rfl) (r_aload_0 dX6_citizen_40 (r_getE (v := (p : Int)) dX6_citizen_41 fX6_72 (rfl) (rfl) ((hT.people.trans hp)) (r_iload_1 dX6_citizen_44 (r_bipush dX6_citizen_45 (by decide) ?_)))))
        refine r_idiv dX6_citizen_47 (by omega) (by omega) (by omega) (by omega) ?_
        refine r_iasX (p) dX6_citizen_48 (rfl) (by omega) (by omega) (by omega) (by omega) ?_
        have w1 := hT.u6 (p := p) (v := km.tdiv 10)
        refine r_aload_0 dX6_citizen_49 (r_getR dX6_citizen_50 fX6_13 (rfl) (rfl) (r_aload_0 dX6_citizen_53 (r_getE (v := (p : Int)) dX6_citizen_54 fX6_72 (rfl) (rfl) (((upM_ne (by omega)).trans (hT.people.trans hp))) (r_iload_1 dX6_citizen_57 (r_bipush dX6_citizen_58 (by decide) ?_)))))
        refine r_irem dX6_citizen_60 (by omega) (by omega) (by omega) ?_
        refine r_iasX (p) dX6_citizen_61 (rfl) (by omega) (by omega) (by omega) (by omega) ?_
        have w2 := w1.u7 (p := p) (v := km.tmod 10)
        refine r_aload_0 dX6_citizen_62 (r_getR dX6_citizen_63 fX6_16 (rfl) (rfl) (r_iconst dX6_citizen_66 (r_aload_0 dX6_citizen_67 (r_getE (v := (p : Int)) dX6_citizen_68 fX6_72 (rfl) (rfl) (((upM_ne (by omega)).trans ((upM_ne (by omega)).trans (hT.people.trans hp)))) (r_imul dX6_citizen_71 (r_iload_2 dX6_citizen_72 (r_bipush dX6_citizen_73 (by decide) ?_)))))))
        refine r_idiv dX6_citizen_75 (by omega) (by omega) (by omega) (by omega) ?_
        refine r_iasX (3 * p) dX6_citizen_76 (rfl) (by omega) (by omega) (by omega) (by omega) ?_
        have w3 := w2.u3 (p := p) (v := de.tdiv 100)
        refine r_aload_0 dX6_citizen_77 (r_getR dX6_citizen_78 fX6_16 (rfl) (rfl) (r_iconst dX6_citizen_81 (r_aload_0 dX6_citizen_82 (r_getE (v := (p : Int)) dX6_citizen_83 fX6_72 (rfl) (rfl) (((upM_ne (by omega)).trans ((upM_ne (by omega)).trans ((upM_ne (by omega)).trans (hT.people.trans hp))))) (r_imul dX6_citizen_86 (r_iconst dX6_citizen_87 (r_iadd dX6_citizen_88 (r_iload_2 dX6_citizen_89 (r_bipush dX6_citizen_90 (by decide) ?_)))))))))
        refine r_irem dX6_citizen_92 (by omega) (by omega) (by omega) ?_
        refine r_iasX (3 * p + 1) dX6_citizen_93 (rfl) (by omega) (by omega) (by omega) (by omega) ?_
        have w4 := w3.u4 (p := p) (v := de.tmod 100)
        refine r_aload_0 dX6_citizen_94 (r_getR dX6_citizen_95 fX6_16 (rfl) (rfl) (r_iconst dX6_citizen_98 (r_aload_0 dX6_citizen_99 (r_getE (v := (p : Int)) dX6_citizen_100 fX6_72 (rfl) (rfl) (((upM_ne (by omega)).trans ((upM_ne (by omega)).trans ((upM_ne (by omega)).trans ((upM_ne (by omega)).trans (hT.people.trans hp)))))) (r_imul dX6_citizen_103 (r_iconst dX6_citizen_104 (r_iadd dX6_citizen_105 (r_iconst dX6_citizen_106 ?_))))))))
        refine r_iasX (3 * p + 2) dX6_citizen_107 (rfl) (by omega) (by omega) (by omega) (by omega) ?_
        have w5 := w4.u5 (p := p) (v := 0)
        refine r_aload_0 dX6_citizen_108 (r_dup_r dX6_citizen_109 (r_getE (v := (p : Int)) dX6_citizen_110 fX6_72 (rfl) (rfl) (((upM_ne (by omega)).trans ((upM_ne (by omega)).trans ((upM_ne (by omega)).trans ((upM_ne (by omega)).trans ((upM_ne (by omega)).trans (hT.people.trans hp))))))) (r_iconst dX6_citizen_113 (r_iadd dX6_citizen_114 ?_))))
        refine r_put dX6_citizen_115 pX6_72 (rfl) (rfl) (by omega) ?_
        have w6 := w5.upeople (p := p) (by rw [st_ne (by omega), st_ne (by omega), st_ne (by omega), st_ne (by omega), st_ne (by omega)]; exact hp) (by rw [upM_ne (by omega), upM_ne (by omega), upM_ne (by omega), upM_ne (by omega), upM_self, st_ne (by omega), st_ne (by omega), st_ne (by omega), st_ne (by omega), st_self]) (by rw [upM_ne (by omega), upM_ne (by omega), upM_ne (by omega), upM_self, st_ne (by omega), st_ne (by omega), st_ne (by omega), st_self])
        refine r_aload_0 dX6_citizen_118 (r_getE (v := (p : Int) + 1) dX6_citizen_119 fX6_72 (rfl) (rfl) (upM_self) (r_iconst dX6_citizen_122 (r_isub dX6_citizen_123 ?_)))
        refine r_ireturn dX6_citizen_124 rfl ?_
        refine ⟨_, rfl, ?_, ?_, ?_⟩
        · unfold sComeA; rw [if_pos (by omega), if_pos (by omega)]; omega
        · unfold sComeT; rw [if_pos (by omega), hpn, hp]; exact w6
        · exact (((((Fm.refl.up (by omega)).up (by omega)).up (by omega)).up (by omega)).up (by omega)).up (by omega)
      · skip
        refine r_bipush dX6_citizen_33 (by decide) ?_
        refine r_ireturn dX6_citizen_35 rfl ?_
        refine ⟨_, rfl, ?_, ?_, Fm.refl⟩
        · unfold sComeA; rw [if_pos (by omega), if_neg (by omega)]
        · unfold sComeT; rw [if_neg (by omega)]; exact hT
    · skip
      refine r_bipush dX6_citizen_21 (by decide) ?_
      refine r_ireturn dX6_citizen_23 rfl ?_
      refine ⟨_, rfl, ?_, ?_, Fm.refl⟩
      · unfold sComeA; rw [if_neg (by omega)]
      · unfold sComeT; rw [if_neg (by omega)]; exact hT
theorem m6_citizen {M : Mem} {nT tn : Nat} {X : Nat → Tx} {τ τi : Tn} {img : Bool} {tp ss sz : Nat → Int} {cl : Nat → Nat → Int} (hR : RM M (nT, X, τ, img, τi, tn, tp, ss, sz, cl)) (hJ : JNV (nT, X, τ, img, τi, tn, tp, ss, sz, cl)) {km de : Int} (h1 : ib km) (h2 : ib de) : Con GM 1 kX6_citizen [rv 0, iv km, iv de] M (pI (fun a M2 => a = a_citizen (nT, X, τ, img, τi, tn, tp, ss, sz, cl) km de ∧ RM M2 (t_citizen (nT, X, τ, img, τi, tn, tp, ss, sz, cl) km de))) :=
  (m_come hR.1 hJ.1.2.1.1 h1 h2).mono (fun r M2 h => by
    obtain ⟨a, e, h3, h4, h5⟩ := h
    exact ⟨a, e, h3, hR.now h4 h5⟩)
set_option maxRecDepth 10000 in
set_option maxHeartbeats 4000000 in
theorem m6_put {M : Mem} {nT tn : Nat} {X : Nat → Tx} {τ τi : Tn} {img : Bool} {tp ss sz : Nat → Int} {cl : Nat → Nat → Int} (hR : RM M (nT, X, τ, img, τi, tn, tp, ss, sz, cl)) (hJ : JNV (nT, X, τ, img, τi, tn, tp, ss, sz, cl)) {p : Int} (h_p : ib p) {what : Int} (h_what : ib what) {v : Int} (h_v : ib v) : Con GM 9 kX6_put [rv 0, iv p, iv what, iv v] M (pI (fun a M2 => a = a_put (nT, X, τ, img, τi, tn, tp, ss, sz, cl) p what v ∧ RM M2 (t_put (nT, X, τ, img, τi, tn, tp, ss, sz, cl) p what v))) := by
  refine con_of [some (rv 0), some (iv p), some (iv what), some (iv v), none] (plX6) rfl (Nat.le_of_ble_eq_true rfl) (fun z => ?_)
  have hR0 := hR
  obtain ⟨hT, hX, hnT, himg, hIM, ⟨htn, htp⟩, hsh, hwc⟩ := hR0
  have hT : TM M τ := hT
  have hJ0 := hJ
  obtain ⟨⟨⟨iT1, iT6⟩, ⟨hw, icl⟩, iim, ⟨itn, itp⟩, ish⟩, hki⟩ := hJ0
  obtain ⟨⟨wn, wn2⟩, wcl, ⟨wl, wl2⟩, -, -⟩ := id hw
  have hcl : τ 8 1 < 2147483648 := by omega
  refine r_mb (fun hMB => ?_)
  refine r_aload_0 dX6_put_0 (r_iload_1 dX6_put_1 ?_)
  refine r_cVI1 dX6_put_2 vX6_99 (rfl) (m_isOne (d := 0) hT hw (by omega)) (by decide) (Nat.le_of_ble_eq_true rfl) (fun b_2 M_2 h_2 => ?_)
  obtain ⟨rfl, rfl⟩ := h_2
  first | refine r_ifd_ne dX6_put_5 (fun c_5 => ?_) (fun c_5 => ?_) | refine r_ifb_ne dX6_put_5 (fun c_5 => ?_) (fun c_5 => ?_)
  · skip
    obtain ⟨q, rfl⟩ : ∃ q : Nat, p = q := ⟨p.toNat, by omega⟩
    have hq6 : q < 6 := by omega
    have wq := hw.p hq6
    have hqn : (q : Int) < τ 8 0 := by omega
    refine r_iload_2 dX6_put_11 (r_iconst dX6_put_12 (r_iconst dX6_put_13 ?_))
    refine r_cSI3 dX6_put_14 sX6_75 (m_in (d := 0) (by omega) (by omega) (by omega)) (by decide) (Nat.le_of_ble_eq_true rfl) (fun b_14 M_14 h_14 => ?_)
    obtain ⟨rfl, rfl⟩ := h_14
    first | refine r_ifd_eq dX6_put_17 (fun c_17 => ?_) (fun c_17 => ?_) | refine r_ifb_eq dX6_put_17 (fun c_17 => ?_) (fun c_17 => ?_)
    · skip
      refine r_bipush dX6_put_39 (by decide) ?_
      refine r_ireturn dX6_put_41 rfl ?_
      refine ⟨_, rfl, ?_, ?_⟩
      · unfold a_put
        simp only [Int.toNat_natCast]
        (repeat (first | rw [if_pos (by omega)] | rw [if_neg (by omega)])) <;> first | with_reducible rfl | omega
      · unfold t_put
        simp only [Int.toNat_natCast]
        (repeat (first | rw [if_pos (by omega)] | rw [if_neg (by omega)])) <;> first | exact hR
    · skip
      refine r_iload_3 dX6_put_20 (r_iconst dX6_put_21 (r_iload_2 dX6_put_22 ?_))
      refine r_if_ne dX6_put_23 (by omega) (fun c_23 => ?_) (fun c_23 => ?_)
      · skip
        refine r_bipush dX6_put_31 (by decide) ?_
        refine r_cSI3 dX6_put_33 sX6_75 (m_in (d := 0) (by omega) (by omega) (by omega)) (by decide) (Nat.le_of_ble_eq_true rfl) (fun b_33 M_33 h_33 => ?_)
        obtain ⟨rfl, rfl⟩ := h_33
        first | refine r_ifd_ne dX6_put_36 (fun c_36 => ?_) (fun c_36 => ?_) | refine r_ifb_ne dX6_put_36 (fun c_36 => ?_) (fun c_36 => ?_)
        · skip
          obtain ⟨w, rfl⟩ : ∃ w : Nat, what = w := ⟨what.toNat, by omega⟩
          refine r_aload_0 dX6_put_42 (r_getR dX6_put_43 fX6_16 (rfl) (rfl) (r_iconst dX6_put_46 (r_iload_1 dX6_put_47 (r_imul dX6_put_48 (r_iload_2 dX6_put_49 (r_iadd dX6_put_50 (r_ialX dX6_put_51 (rfl) (hT.1 q hq6 w (by omega)) (by omega) (by omega) (by omega) (r_istore_4 dX6_put_52 rfl (r_aload_0 dX6_put_54 (r_getR dX6_put_55 fX6_16 (rfl) (rfl) (r_iconst dX6_put_58 (r_iload_1 dX6_put_59 (r_imul dX6_put_60 (r_iload_2 dX6_put_61 (r_iadd dX6_put_62 (r_iload_3 dX6_put_63 ?_))))))))))))))))
          refine r_iasX (3 * q + w) dX6_put_64 (rfl) (by omega) (by omega) (by omega) (by omega) ?_
          have w1 : TM (upM M 3 (3 * q + w) v) (st τ (3 + w) q v) := hT.uR (by omega)
          refine r_iload_4 dX6_put_65 ?_
          refine r_ireturn dX6_put_67 rfl ?_
          obtain rfl : w = 1 := by omega
          refine ⟨_, rfl, ?_, ?_⟩
          · unfold a_put
            simp only [Int.toNat_natCast]
            (repeat (first | rw [if_pos (by omega)] | rw [if_neg (by omega)])) <;> first | with_reducible rfl | omega
          · unfold t_put
            simp only [Int.toNat_natCast]
            (repeat (first | rw [if_pos (by omega)] | rw [if_neg (by omega)])) <;> first | exact hR.now w1 (Fm.refl.up (by omega))
        · skip
          refine r_bipush dX6_put_39 (by decide) ?_
          refine r_ireturn dX6_put_41 rfl ?_
          refine ⟨_, rfl, ?_, ?_⟩
          · unfold a_put
            simp only [Int.toNat_natCast]
            (repeat (first | rw [if_pos (by omega)] | rw [if_neg (by omega)])) <;> first | with_reducible rfl | omega
          · unfold t_put
            simp only [Int.toNat_natCast]
            (repeat (first | rw [if_pos (by omega)] | rw [if_neg (by omega)])) <;> first | exact hR
      · skip
        refine r_bipush dX6_put_26 (by decide) (r_goto dX6_put_28 ?_)
        refine r_cSI3 dX6_put_33 sX6_75 (m_in (d := 0) (by omega) (by omega) (by omega)) (by decide) (Nat.le_of_ble_eq_true rfl) (fun b_33 M_33 h_33 => ?_)
        obtain ⟨rfl, rfl⟩ := h_33
        first | refine r_ifd_ne dX6_put_36 (fun c_36 => ?_) (fun c_36 => ?_) | refine r_ifb_ne dX6_put_36 (fun c_36 => ?_) (fun c_36 => ?_)
        · skip
          obtain ⟨w, rfl⟩ : ∃ w : Nat, what = w := ⟨what.toNat, by omega⟩
          refine r_aload_0 dX6_put_42 (r_getR dX6_put_43 fX6_16 (rfl) (rfl) (r_iconst dX6_put_46 (r_iload_1 dX6_put_47 (r_imul dX6_put_48 (r_iload_2 dX6_put_49 (r_iadd dX6_put_50 (r_ialX dX6_put_51 (rfl) (hT.1 q hq6 w (by omega)) (by omega) (by omega) (by omega) (r_istore_4 dX6_put_52 rfl (r_aload_0 dX6_put_54 (r_getR dX6_put_55 fX6_16 (rfl) (rfl) (r_iconst dX6_put_58 (r_iload_1 dX6_put_59 (r_imul dX6_put_60 (r_iload_2 dX6_put_61 (r_iadd dX6_put_62 (r_iload_3 dX6_put_63 ?_))))))))))))))))
          refine r_iasX (3 * q + w) dX6_put_64 (rfl) (by omega) (by omega) (by omega) (by omega) ?_
          have w1 : TM (upM M 3 (3 * q + w) v) (st τ (3 + w) q v) := hT.uR (by omega)
          refine r_iload_4 dX6_put_65 ?_
          refine r_ireturn dX6_put_67 rfl ?_
          obtain rfl : w = 0 := by omega
          refine ⟨_, rfl, ?_, ?_⟩
          · unfold a_put
            simp only [Int.toNat_natCast]
            (repeat (first | rw [if_pos (by omega)] | rw [if_neg (by omega)])) <;> first | with_reducible rfl | omega
          · unfold t_put
            simp only [Int.toNat_natCast]
            (repeat (first | rw [if_pos (by omega)] | rw [if_neg (by omega)])) <;> first | exact hR.now w1 (Fm.refl.up (by omega))
        · skip
          refine r_bipush dX6_put_39 (by decide) ?_
          refine r_ireturn dX6_put_41 rfl ?_
          refine ⟨_, rfl, ?_, ?_⟩
          · unfold a_put
            simp only [Int.toNat_natCast]
            (repeat (first | rw [if_pos (by omega)] | rw [if_neg (by omega)])) <;> first | with_reducible rfl | omega
          · unfold t_put
            simp only [Int.toNat_natCast]
            (repeat (first | rw [if_pos (by omega)] | rw [if_neg (by omega)])) <;> first | exact hR
  · skip
    skip
    refine r_bipush dX6_put_8 (by decide) ?_
    refine r_ireturn dX6_put_10 rfl ?_
    refine ⟨_, rfl, ?_, ?_⟩
    · unfold a_put
      simp only [Int.toNat_natCast]
      (repeat (first | rw [if_pos (by omega)] | rw [if_neg (by omega)])) <;> first | with_reducible rfl | omega
    · unfold t_put
      simp only [Int.toNat_natCast]
      (repeat (first | rw [if_pos (by omega)] | rw [if_neg (by omega)])) <;> first | exact hR
set_option maxRecDepth 10000 in
set_option maxHeartbeats 4000000 in
theorem m6_told {M : Mem} {nT tn : Nat} {X : Nat → Tx} {τ τi : Tn} {img : Bool} {tp ss sz : Nat → Int} {cl : Nat → Nat → Int} (hR : RM M (nT, X, τ, img, τi, tn, tp, ss, sz, cl)) (hJ : JNV (nT, X, τ, img, τi, tn, tp, ss, sz, cl)) {p : Int} (h_p : ib p) {what : Int} (h_what : ib what) : Con GM 9 kX6_told [rv 0, iv p, iv what] M (pI (fun a M2 => a = a_told (nT, X, τ, img, τi, tn, tp, ss, sz, cl) p what ∧ RM M2 (nT, X, τ, img, τi, tn, tp, ss, sz, cl))) := by
  refine con_of [some (rv 0), some (iv p), some (iv what)] (plX6) rfl (Nat.le_of_ble_eq_true rfl) (fun z => ?_)
  have hR0 := hR
  obtain ⟨hT, hX, hnT, himg, hIM, ⟨htn, htp⟩, hsh, hwc⟩ := hR0
  have hT : TM M τ := hT
  have hJ0 := hJ
  obtain ⟨⟨⟨iT1, iT6⟩, ⟨hw, icl⟩, iim, ⟨itn, itp⟩, ish⟩, hki⟩ := hJ0
  obtain ⟨⟨wn, wn2⟩, wcl, ⟨wl, wl2⟩, -, -⟩ := id hw
  have hcl : τ 8 1 < 2147483648 := by omega
  refine r_mb (fun hMB => ?_)
  refine r_aload_0 dX6_told_0 (r_iload_1 dX6_told_1 ?_)
  refine r_cVI1 dX6_told_2 vX6_99 (rfl) (m_isOne (d := 0) hT hw (by omega)) (by decide) (Nat.le_of_ble_eq_true rfl) (fun b_2 M_2 h_2 => ?_)
  obtain ⟨rfl, rfl⟩ := h_2
  first | refine r_ifd_ne dX6_told_5 (fun c_5 => ?_) (fun c_5 => ?_) | refine r_ifb_ne dX6_told_5 (fun c_5 => ?_) (fun c_5 => ?_)
  · skip
    obtain ⟨q, rfl⟩ : ∃ q : Nat, p = q := ⟨p.toNat, by omega⟩
    have hq6 : q < 6 := by omega
    have wq := hw.p hq6
    have hqn : (q : Int) < τ 8 0 := by omega
    refine r_iload_2 dX6_told_11 ?_
    refine r_tsw9 (t0 := 64) (t1 := 64) (t2 := 64) (t3 := 75) (t4 := 82) (t5 := 89) (t6 := 103) (t7 := 109) (t8 := 118) (td := 124) dX6_told_12 (by decide) (by omega) (by decide) (by decide) (by decide) (by decide) (by decide) (by decide) (by decide) (by decide) (by decide) (by decide) (fun c_12 => ?_) (fun c_12 => ?_) (fun c_12 => ?_) (fun c_12 => ?_) (fun c_12 => ?_) (fun c_12 => ?_) (fun c_12 => ?_) (fun c_12 => ?_) (fun c_12 => ?_) (fun c_12 => ?_)
    · skip
      skip
      refine r_aload_0 dX6_told_64 (r_getR dX6_told_65 fX6_16 (rfl) (rfl) (r_iconst dX6_told_68 (r_iload_1 dX6_told_69 (r_imul dX6_told_70 (r_iload_2 dX6_told_71 (r_iadd dX6_told_72 (r_ialX dX6_told_73 (rfl) (hT.e3 hq6) (by omega) (by omega) (by omega) ?_)))))))
      refine r_ireturn dX6_told_74 rfl ?_
      refine ⟨_, rfl, ?_, ?_⟩
      · unfold a_told
        simp only [Int.toNat_natCast]
        (repeat (first | rw [if_pos (by omega)] | rw [if_neg (by omega)])) <;> first | with_reducible rfl | omega | (rw [c_94]; rfl)
      · first | exact hR.now (hT.sc f1) f1.sW | with_reducible exact hR
    · skip
      skip
      refine r_aload_0 dX6_told_64 (r_getR dX6_told_65 fX6_16 (rfl) (rfl) (r_iconst dX6_told_68 (r_iload_1 dX6_told_69 (r_imul dX6_told_70 (r_iload_2 dX6_told_71 (r_iadd dX6_told_72 (r_ialX dX6_told_73 (rfl) (hT.e4 hq6) (by omega) (by omega) (by omega) ?_)))))))
      refine r_ireturn dX6_told_74 rfl ?_
      refine ⟨_, rfl, ?_, ?_⟩
      · unfold a_told
        simp only [Int.toNat_natCast]
        (repeat (first | rw [if_pos (by omega)] | rw [if_neg (by omega)])) <;> first | with_reducible rfl | omega | (rw [c_94]; rfl)
      · first | exact hR.now (hT.sc f1) f1.sW | with_reducible exact hR
    · skip
      skip
      refine r_aload_0 dX6_told_64 (r_getR dX6_told_65 fX6_16 (rfl) (rfl) (r_iconst dX6_told_68 (r_iload_1 dX6_told_69 (r_imul dX6_told_70 (r_iload_2 dX6_told_71 (r_iadd dX6_told_72 (r_ialX dX6_told_73 (rfl) (hT.e5 hq6) (by omega) (by omega) (by omega) ?_)))))))
      refine r_ireturn dX6_told_74 rfl ?_
      refine ⟨_, rfl, ?_, ?_⟩
      · unfold a_told
        simp only [Int.toNat_natCast]
        (repeat (first | rw [if_pos (by omega)] | rw [if_neg (by omega)])) <;> first | with_reducible rfl | omega | (rw [c_94]; rfl)
      · first | exact hR.now (hT.sc f1) f1.sW | with_reducible exact hR
    · skip
      skip
      refine r_aload_0 dX6_told_75 (r_getR dX6_told_76 fX6_7 (rfl) (rfl) (r_iload_1 dX6_told_79 (r_ialX dX6_told_80 (rfl) (hT.e6 hqn) (by omega) (by omega) (by omega) ?_)))
      refine r_ireturn dX6_told_81 rfl ?_
      refine ⟨_, rfl, ?_, ?_⟩
      · unfold a_told
        simp only [Int.toNat_natCast]
        (repeat (first | rw [if_pos (by omega)] | rw [if_neg (by omega)])) <;> first | with_reducible rfl | omega | (rw [c_94]; rfl)
      · first | exact hR.now (hT.sc f1) f1.sW | with_reducible exact hR
    · skip
      skip
      refine r_aload_0 dX6_told_82 (r_getR dX6_told_83 fX6_13 (rfl) (rfl) (r_iload_1 dX6_told_86 (r_ialX dX6_told_87 (rfl) (hT.e7 hqn) (by omega) (by omega) (by omega) ?_)))
      refine r_ireturn dX6_told_88 rfl ?_
      refine ⟨_, rfl, ?_, ?_⟩
      · unfold a_told
        simp only [Int.toNat_natCast]
        (repeat (first | rw [if_pos (by omega)] | rw [if_neg (by omega)])) <;> first | with_reducible rfl | omega | (rw [c_94]; rfl)
      · first | exact hR.now (hT.sc f1) f1.sW | with_reducible exact hR
    · skip
      skip
      refine r_aload_0 dX6_told_89 (r_iload_1 dX6_told_90 ?_)
      refine r_cVI1 dX6_told_91 vX6_181 (rfl) (m_doesTry hT hw hX hcl hqn) (by decide) (Nat.le_of_ble_eq_true rfl) (fun b_91 M_91 h_91 => ?_)
      obtain ⟨rfl, f1⟩ := h_91
      refine r_ifb_eq dX6_told_94 (fun c_94 => ?_) (fun c_94 => ?_)
      · skip
        refine r_iconst dX6_told_101 ?_
        refine r_ireturn dX6_told_102 rfl ?_
        refine ⟨_, rfl, ?_, ?_⟩
        · unfold a_told
          simp only [Int.toNat_natCast]
          (repeat (first | rw [if_pos (by omega)] | rw [if_neg (by omega)])) <;> first | with_reducible rfl | omega | (rw [c_94]; rfl)
        · first | exact hR.now (hT.sc f1) f1.sW | with_reducible exact hR
      · skip
        refine r_iconst dX6_told_97 (r_goto dX6_told_98 ?_)
        refine r_ireturn dX6_told_102 rfl ?_
        refine ⟨_, rfl, ?_, ?_⟩
        · unfold a_told
          simp only [Int.toNat_natCast]
          (repeat (first | rw [if_pos (by omega)] | rw [if_neg (by omega)])) <;> first | with_reducible rfl | omega | (rw [c_94]; rfl)
        · first | exact hR.now (hT.sc f1) f1.sW | with_reducible exact hR
    · skip
      skip
      refine r_aload_0 dX6_told_103 (r_iload_1 dX6_told_104 ?_)
      refine r_cVI1 dX6_told_105 vX6_184 (rfl) (m_paysOf hT hw hX hcl hqn) (by decide) (Nat.le_of_ble_eq_true rfl) (fun b_105 M_105 h_105 => ?_)
      obtain ⟨rfl, f1⟩ := h_105
      refine r_ireturn dX6_told_108 rfl ?_
      refine ⟨_, rfl, ?_, ?_⟩
      · unfold a_told
        simp only [Int.toNat_natCast]
        (repeat (first | rw [if_pos (by omega)] | rw [if_neg (by omega)])) <;> first | with_reducible rfl | omega | (rw [c_94]; rfl)
      · first | exact hR.now (hT.sc f1) f1.sW | with_reducible exact hR
    · skip
      skip
      refine r_bipush dX6_told_109 (by decide) (r_aload_0 dX6_told_111 (r_iload_1 dX6_told_112 ?_))
      refine r_cVI1 dX6_told_113 vX6_187 (rfl) (m_goesOf hT hw hX hcl hqn) (by decide) (Nat.le_of_ble_eq_true rfl) (fun b_113 M_113 h_113 => ?_)
      obtain ⟨rfl, f1⟩ := h_113
      refine r_iadd dX6_told_116 ?_
      refine r_ireturn dX6_told_117 rfl ?_
      refine ⟨_, rfl, ?_, ?_⟩
      · unfold a_told
        simp only [Int.toNat_natCast]
        (repeat (first | rw [if_pos (by omega)] | rw [if_neg (by omega)])) <;> first | with_reducible rfl | omega | (rw [c_94]; rfl)
      · first | exact hR.now (hT.sc f1) f1.sW | with_reducible exact hR
    · skip
      skip
      refine r_aload_0 dX6_told_118 (r_iload_1 dX6_told_119 ?_)
      refine r_cVI1 dX6_told_120 vX6_190 (rfl) (m_tryNow (n := 0) hT hw hq6) (by decide) (Nat.le_of_ble_eq_true rfl) (fun b_120 M_120 h_120 => ?_)
      obtain ⟨rfl, rfl⟩ := h_120
      refine r_ireturn dX6_told_123 rfl ?_
      refine ⟨_, rfl, ?_, ?_⟩
      · unfold a_told
        simp only [Int.toNat_natCast]
        (repeat (first | rw [if_pos (by omega)] | rw [if_neg (by omega)])) <;> first | with_reducible rfl | omega | (rw [c_94]; rfl)
      · first | exact hR.now (hT.sc f1) f1.sW | with_reducible exact hR
    · skip
      skip
      refine r_bipush dX6_told_124 (by decide) ?_
      refine r_ireturn dX6_told_126 rfl ?_
      refine ⟨_, rfl, ?_, ?_⟩
      · unfold a_told
        simp only [Int.toNat_natCast]
        (repeat (first | rw [if_pos (by omega)] | rw [if_neg (by omega)])) <;> first | with_reducible rfl | omega | (rw [c_94]; rfl)
      · first | exact hR.now (hT.sc f1) f1.sW | with_reducible exact hR
  · skip
    skip
    refine r_bipush dX6_told_8 (by decide) ?_
    refine r_ireturn dX6_told_10 rfl ?_
    refine ⟨_, rfl, ?_, ?_⟩
    · unfold a_told
      simp only [Int.toNat_natCast]
      (repeat (first | rw [if_pos (by omega)] | rw [if_neg (by omega)])) <;> first | with_reducible rfl | omega | (rw [c_94]; rfl)
    · first | exact hR.now (hT.sc f1) f1.sW | with_reducible exact hR
set_option maxRecDepth 10000 in
set_option maxHeartbeats 4000000 in
theorem m6_twist {M : Mem} {nT tn : Nat} {X : Nat → Tx} {τ τi : Tn} {img : Bool} {tp ss sz : Nat → Int} {cl : Nat → Nat → Int} (hR : RM M (nT, X, τ, img, τi, tn, tp, ss, sz, cl)) (hJ : JNV (nT, X, τ, img, τi, tn, tp, ss, sz, cl)) {p : Int} (h_p : ib p) : Con GM 9 kX6_twist [rv 0, iv p] M (pI (fun a M2 => a = a_twist (nT, X, τ, img, τi, tn, tp, ss, sz, cl) p ∧ RM M2 (t_twist (nT, X, τ, img, τi, tn, tp, ss, sz, cl) p))) := by
  refine con_of [some (rv 0), some (iv p)] (plX6) rfl (Nat.le_of_ble_eq_true rfl) (fun z => ?_)
  have hR0 := hR
  obtain ⟨hT, hX, hnT, himg, hIM, ⟨htn, htp⟩, hsh, hwc⟩ := hR0
  have hT : TM M τ := hT
  have hJ0 := hJ
  obtain ⟨⟨⟨iT1, iT6⟩, ⟨hw, icl⟩, iim, ⟨itn, itp⟩, ish⟩, hki⟩ := hJ0
  obtain ⟨⟨wn, wn2⟩, wcl, ⟨wl, wl2⟩, -, -⟩ := id hw
  have hcl : τ 8 1 < 2147483648 := by omega
  refine r_mb (fun hMB => ?_)
  refine r_aload_0 dX6_twist_0 (r_iload_1 dX6_twist_1 ?_)
  refine r_cVI1 dX6_twist_2 vX6_99 (rfl) (m_isOne (d := 0) hT hw (by omega)) (by decide) (Nat.le_of_ble_eq_true rfl) (fun b_2 M_2 h_2 => ?_)
  obtain ⟨rfl, rfl⟩ := h_2
  first | refine r_ifd_eq dX6_twist_5 (fun c_5 => ?_) (fun c_5 => ?_) | refine r_ifb_eq dX6_twist_5 (fun c_5 => ?_) (fun c_5 => ?_)
  · skip
    refine r_bipush dX6_twist_24 (by decide) ?_
    refine r_ireturn dX6_twist_26 rfl ?_
    refine ⟨_, rfl, ?_, ?_⟩
    · unfold a_twist
      simp only [Int.toNat_natCast]
      (repeat (first | rw [if_pos (by omega)] | rw [if_neg (by omega)])) <;> first | with_reducible rfl | omega
    · unfold t_twist
      simp only [Int.toNat_natCast]
      (repeat (first | rw [if_pos (by omega)] | rw [if_neg (by omega)])) <;> first | exact hR | exact hR.now w1 f1.tW
  · skip
    obtain ⟨q, rfl⟩ : ∃ q : Nat, p = q := ⟨p.toNat, by omega⟩
    have hq6 : q < 6 := by omega
    have wq := hw.p hq6
    have hqn : (q : Int) < τ 8 0 := by omega
    refine r_aload_0 dX6_twist_8 (r_iload_1 dX6_twist_9 (r_aload_0 dX6_twist_10 (r_getR dX6_twist_11 fX6_16 (rfl) (rfl) (r_iconst dX6_twist_14 (r_iload_1 dX6_twist_15 (r_imul dX6_twist_16 (r_ialX dX6_twist_17 (rfl) ((hT.e3 hq6).trans (show τ 3 q = (((τ 3 q).toNat : Nat) : Int) by omega)) (by omega) (by omega) (by omega) ?_)))))))
    refine r_cVI2 dX6_twist_18 vX6_193 (rfl) (m_tryOf (d := (τ 3 q).toNat) hT hw hX hcl hqn (by omega)) (by decide) (Nat.le_of_ble_eq_true rfl) (fun b_18 M_18 h_18 => ?_)
    obtain ⟨rfl, w1, f1⟩ := h_18
    refine r_goto dX6_twist_21 ?_
    refine r_ireturn dX6_twist_26 rfl ?_
    refine ⟨_, rfl, ?_, ?_⟩
    · unfold a_twist
      simp only [Int.toNat_natCast]
      (repeat (first | rw [if_pos (by omega)] | rw [if_neg (by omega)])) <;> first | with_reducible rfl | omega
    · unfold t_twist
      simp only [Int.toNat_natCast]
      (repeat (first | rw [if_pos (by omega)] | rw [if_neg (by omega)])) <;> first | exact hR | exact hR.now w1 f1.tW
set_option maxRecDepth 10000 in
set_option maxHeartbeats 4000000 in
theorem m6_give {M : Mem} {nT tn : Nat} {X : Nat → Tx} {τ τi : Tn} {img : Bool} {tp ss sz : Nat → Int} {cl : Nat → Nat → Int} (hR : RM M (nT, X, τ, img, τi, tn, tp, ss, sz, cl)) (hJ : JNV (nT, X, τ, img, τi, tn, tp, ss, sz, cl)) {p : Int} (h_p : ib p) {q : Int} (h_q : ib q) {m : Int} (h_m : ib m) : Con GM 9 kX6_give [rv 0, iv p, iv q, iv m] M (pI (fun a M2 => a = a_give (nT, X, τ, img, τi, tn, tp, ss, sz, cl) p q m ∧ RM M2 (t_give (nT, X, τ, img, τi, tn, tp, ss, sz, cl) p q m))) := by
  refine con_of [some (rv 0), some (iv p), some (iv q), some (iv m)] (plX6) rfl (Nat.le_of_ble_eq_true rfl) (fun z => ?_)
  have hR0 := hR
  obtain ⟨hT, hX, hnT, himg, hIM, ⟨htn, htp⟩, hsh, hwc⟩ := hR0
  have hT : TM M τ := hT
  have hJ0 := hJ
  obtain ⟨⟨⟨iT1, iT6⟩, ⟨hw, icl⟩, iim, ⟨itn, itp⟩, ish⟩, hki⟩ := hJ0
  obtain ⟨⟨wn, wn2⟩, wcl, ⟨wl, wl2⟩, -, -⟩ := id hw
  have hcl : τ 8 1 < 2147483648 := by omega
  refine r_mb (fun hMB => ?_)
  refine r_aload_0 dX6_give_0 (r_iload_1 dX6_give_1 ?_)
  refine r_cVI1 dX6_give_2 vX6_99 (rfl) (m_isOne (d := 0) hT hw (by omega)) (by decide) (Nat.le_of_ble_eq_true rfl) (fun b_2 M_2 h_2 => ?_)
  obtain ⟨rfl, rfl⟩ := h_2
  first | refine r_ifd_eq dX6_give_5 (fun c_5 => ?_) (fun c_5 => ?_) | refine r_ifb_eq dX6_give_5 (fun c_5 => ?_) (fun c_5 => ?_)
  · skip
    refine r_bipush dX6_give_21 (by decide) ?_
    refine r_ireturn dX6_give_23 rfl ?_
    refine ⟨_, rfl, ?_, ?_⟩
    · unfold a_give
      simp only [Int.toNat_natCast]
      (repeat (first | rw [if_pos (by omega)] | rw [if_neg (by omega)])) <;> first | with_reducible rfl | omega
    · unfold t_give
      simp only [Int.toNat_natCast]
      (repeat (first | rw [if_pos (by omega)] | rw [if_neg (by omega)])) <;> first | exact hR | exact hR.now w2 ((Fm.refl.up (by omega)).up (by omega))
  · skip
    refine r_aload_0 dX6_give_8 (r_iload_2 dX6_give_9 ?_)
    refine r_cVI1 dX6_give_10 vX6_99 (rfl) (m_isOne (d := 0) hT hw (by omega)) (by decide) (Nat.le_of_ble_eq_true rfl) (fun b_10 M_10 h_10 => ?_)
    obtain ⟨rfl, rfl⟩ := h_10
    first | refine r_ifd_eq dX6_give_13 (fun c_13 => ?_) (fun c_13 => ?_) | refine r_ifb_eq dX6_give_13 (fun c_13 => ?_) (fun c_13 => ?_)
    · skip
      refine r_bipush dX6_give_21 (by decide) ?_
      refine r_ireturn dX6_give_23 rfl ?_
      refine ⟨_, rfl, ?_, ?_⟩
      · unfold a_give
        simp only [Int.toNat_natCast]
        (repeat (first | rw [if_pos (by omega)] | rw [if_neg (by omega)])) <;> first | with_reducible rfl | omega
      · unfold t_give
        simp only [Int.toNat_natCast]
        (repeat (first | rw [if_pos (by omega)] | rw [if_neg (by omega)])) <;> first | exact hR | exact hR.now w2 ((Fm.refl.up (by omega)).up (by omega))
    · skip
      refine r_iload_1 dX6_give_16 (r_iload_2 dX6_give_17 ?_)
      refine r_icmp_ne dX6_give_18 (by omega) (by omega) (fun c_18 => ?_) (fun c_18 => ?_)
      · skip
        obtain ⟨a, rfl⟩ : ∃ a : Nat, p = a := ⟨p.toNat, by omega⟩
        have ha6 : a < 6 := by omega
        have wa := hw.p ha6
        have han : (a : Int) < τ 8 0 := by omega
        obtain ⟨b, rfl⟩ : ∃ b : Nat, q = b := ⟨q.toNat, by omega⟩
        have hb6 : b < 6 := by omega
        have wb := hw.p hb6
        have hbn : (b : Int) < τ 8 0 := by omega
        have hab : b ≠ a := by omega
        refine r_iload_3 dX6_give_24 (r_iconst dX6_give_25 (r_bipush dX6_give_26 (by decide) ?_))
        refine r_cSI3 dX6_give_28 sX6_75 (m_in (d := 0) (by omega) (by omega) (by omega)) (by decide) (Nat.le_of_ble_eq_true rfl) (fun b_28 M_28 h_28 => ?_)
        obtain ⟨rfl, rfl⟩ := h_28
        first | refine r_ifd_ne dX6_give_31 (fun c_31 => ?_) (fun c_31 => ?_) | refine r_ifb_ne dX6_give_31 (fun c_31 => ?_) (fun c_31 => ?_)
        · skip
          refine r_aload_0 dX6_give_37 (r_getR dX6_give_38 fX6_16 (rfl) (rfl) (r_iconst dX6_give_41 (r_iload_1 dX6_give_42 (r_imul dX6_give_43 (r_iconst dX6_give_44 (r_iadd dX6_give_45 (r_ialX dX6_give_46 (rfl) (hT.e4 ha6) (by omega) (by omega) (by omega) (r_iload_3 dX6_give_47 ?_))))))))
          refine r_icmp_lt dX6_give_48 (by omega) (by omega) (fun c_48 => ?_) (fun c_48 => ?_)
          · skip
            refine r_bipush dX6_give_68 (by decide) ?_
            refine r_ireturn dX6_give_70 rfl ?_
            refine ⟨_, rfl, ?_, ?_⟩
            · unfold a_give
              simp only [Int.toNat_natCast]
              (repeat (first | rw [if_pos (by omega)] | rw [if_neg (by omega)])) <;> first | with_reducible rfl | omega
            · unfold t_give
              simp only [Int.toNat_natCast]
              (repeat (first | rw [if_pos (by omega)] | rw [if_neg (by omega)])) <;> first | exact hR | exact hR.now w2 ((Fm.refl.up (by omega)).up (by omega))
          · skip
            refine r_aload_0 dX6_give_51 (r_getR dX6_give_52 fX6_16 (rfl) (rfl) (r_iconst dX6_give_55 (r_iload_2 dX6_give_56 (r_imul dX6_give_57 (r_iconst dX6_give_58 (r_iadd dX6_give_59 (r_ialX dX6_give_60 (rfl) (hT.e4 hb6) (by omega) (by omega) (by omega) (r_iload_3 dX6_give_61 (r_iadd dX6_give_62 (r_bipush dX6_give_63 (by decide) ?_))))))))))
            refine r_icmp_le dX6_give_65 (by omega) (by omega) (fun c_65 => ?_) (fun c_65 => ?_)
            · skip
              refine r_aload_0 dX6_give_71 (r_getR dX6_give_72 fX6_16 (rfl) (rfl) (r_iconst dX6_give_75 (r_iload_1 dX6_give_76 (r_imul dX6_give_77 (r_iconst dX6_give_78 (r_iadd dX6_give_79 (r_dup2 dX6_give_80 (r_ialX dX6_give_81 (rfl) (hT.e4 ha6) (by omega) (by omega) (by omega) (r_iload_3 dX6_give_82 (r_isub dX6_give_83 ?_))))))))))
              refine r_iasX (3 * a + 1) dX6_give_84 (rfl) (by omega) (by omega) (by omega) (by omega) ?_
              have w1 := hT.u4 (p := a) (v := τ 4 a - m)
              refine r_aload_0 dX6_give_85 (r_getR dX6_give_86 fX6_16 (rfl) (rfl) (r_iconst dX6_give_89 (r_iload_2 dX6_give_90 (r_imul dX6_give_91 (r_iconst dX6_give_92 (r_iadd dX6_give_93 (r_dup2 dX6_give_94 (r_ialX (v := τ 4 b) dX6_give_95 (rfl) ((w1.e4 hb6).trans (st_ne (by omega))) (by omega) (by omega) (by omega) (r_iload_3 dX6_give_96 (r_iadd dX6_give_97 ?_))))))))))
              refine r_iasX (3 * b + 1) dX6_give_98 (rfl) (by omega) (by omega) (by omega) (by omega) ?_
              have w2 := w1.u4 (p := b) (v := τ 4 b + m)
              refine r_aload_0 dX6_give_99 (r_getR dX6_give_100 fX6_16 (rfl) (rfl) (r_iconst dX6_give_103 (r_iload_2 dX6_give_104 (r_imul dX6_give_105 (r_iconst dX6_give_106 (r_iadd dX6_give_107 (r_ialX (v := τ 4 b + m) dX6_give_108 (rfl) (upM_self) (by omega) (by omega) (by omega) ?_)))))))
              refine r_ireturn dX6_give_109 rfl ?_
              refine ⟨_, rfl, ?_, ?_⟩
              · unfold a_give
                simp only [Int.toNat_natCast]
                (repeat (first | rw [if_pos (by omega)] | rw [if_neg (by omega)])) <;> first | with_reducible rfl | omega
              · unfold t_give
                simp only [Int.toNat_natCast]
                (repeat (first | rw [if_pos (by omega)] | rw [if_neg (by omega)])) <;> first | exact hR | exact hR.now w2 ((Fm.refl.up (by omega)).up (by omega))
            · skip
              refine r_bipush dX6_give_68 (by decide) ?_
              refine r_ireturn dX6_give_70 rfl ?_
              refine ⟨_, rfl, ?_, ?_⟩
              · unfold a_give
                simp only [Int.toNat_natCast]
                (repeat (first | rw [if_pos (by omega)] | rw [if_neg (by omega)])) <;> first | with_reducible rfl | omega
              · unfold t_give
                simp only [Int.toNat_natCast]
                (repeat (first | rw [if_pos (by omega)] | rw [if_neg (by omega)])) <;> first | exact hR | exact hR.now w2 ((Fm.refl.up (by omega)).up (by omega))
        · skip
          refine r_bipush dX6_give_34 (by decide) ?_
          refine r_ireturn dX6_give_36 rfl ?_
          refine ⟨_, rfl, ?_, ?_⟩
          · unfold a_give
            simp only [Int.toNat_natCast]
            (repeat (first | rw [if_pos (by omega)] | rw [if_neg (by omega)])) <;> first | with_reducible rfl | omega
          · unfold t_give
            simp only [Int.toNat_natCast]
            (repeat (first | rw [if_pos (by omega)] | rw [if_neg (by omega)])) <;> first | exact hR | exact hR.now w2 ((Fm.refl.up (by omega)).up (by omega))
      · skip
        skip
        refine r_bipush dX6_give_21 (by decide) ?_
        refine r_ireturn dX6_give_23 rfl ?_
        refine ⟨_, rfl, ?_, ?_⟩
        · unfold a_give
          simp only [Int.toNat_natCast]
          (repeat (first | rw [if_pos (by omega)] | rw [if_neg (by omega)])) <;> first | with_reducible rfl | omega
        · unfold t_give
          simp only [Int.toNat_natCast]
          (repeat (first | rw [if_pos (by omega)] | rw [if_neg (by omega)])) <;> first | exact hR | exact hR.now w2 ((Fm.refl.up (by omega)).up (by omega))
set_option maxRecDepth 10000 in
set_option maxHeartbeats 4000000 in
theorem m6_minute {M : Mem} {nT tn : Nat} {X : Nat → Tx} {τ τi : Tn} {img : Bool} {tp ss sz : Nat → Int} {cl : Nat → Nat → Int} (hR : RM M (nT, X, τ, img, τi, tn, tp, ss, sz, cl)) (hJ : JNV (nT, X, τ, img, τi, tn, tp, ss, sz, cl))  : Con GM 9 kX6_minute [rv 0] M (pI (fun a M2 => a = a_minute (nT, X, τ, img, τi, tn, tp, ss, sz, cl)  ∧ RM M2 (t_minute (nT, X, τ, img, τi, tn, tp, ss, sz, cl) ))) := by
  refine con_of [some (rv 0)] (plX6) rfl (Nat.le_of_ble_eq_true rfl) (fun z => ?_)
  have hR0 := hR
  obtain ⟨hT, hX, hnT, himg, hIM, ⟨htn, htp⟩, hsh, hwc⟩ := hR0
  have hT : TM M τ := hT
  have hJ0 := hJ
  obtain ⟨⟨⟨iT1, iT6⟩, ⟨hw, icl⟩, iim, ⟨itn, itp⟩, ish⟩, hki⟩ := hJ0
  obtain ⟨⟨wn, wn2⟩, wcl, ⟨wl, wl2⟩, -, -⟩ := id hw
  have hcl : τ 8 1 < 2147483648 := by omega
  refine r_mb (fun hMB => ?_)
  refine r_aload_0 dX6_minute_0 (r_getE dX6_minute_1 fX6_79 (rfl) (rfl) (hT.clock) (r_sipush dX6_minute_4 (by decide) ?_))
  refine r_icmp_ne dX6_minute_7 (by omega) (by omega) (fun c_7 => ?_) (fun c_7 => ?_)
  · skip
    refine r_aload_0 dX6_minute_15 ?_
    refine r_cVI0 dX6_minute_16 vX6_196 (rfl) (m_minuteOf hT hw hX (by omega)) (by decide) (Nat.le_of_ble_eq_true rfl) (fun b_16 M_16 h_16 => ?_)
    obtain ⟨rfl, w1, f1⟩ := h_16
    refine r_ireturn dX6_minute_19 rfl ?_
    refine ⟨_, rfl, ?_, ?_⟩
    · unfold a_minute
      simp only [Int.toNat_natCast]
      (repeat (first | rw [if_pos (by omega)] | rw [if_neg (by omega)])) <;> first | with_reducible rfl | omega
    · unfold t_minute
      simp only [Int.toNat_natCast]
      (repeat (first | rw [if_pos (by omega)] | rw [if_neg (by omega)])) <;> first | exact hR | exact hR.now w1 f1.tW
  · skip
    refine r_bipush dX6_minute_10 (by decide) (r_goto dX6_minute_12 ?_)
    refine r_ireturn dX6_minute_19 rfl ?_
    refine ⟨_, rfl, ?_, ?_⟩
    · unfold a_minute
      simp only [Int.toNat_natCast]
      (repeat (first | rw [if_pos (by omega)] | rw [if_neg (by omega)])) <;> first | with_reducible rfl | omega
    · unfold t_minute
      simp only [Int.toNat_natCast]
      (repeat (first | rw [if_pos (by omega)] | rw [if_neg (by omega)])) <;> first | exact hR | exact hR.now w1 f1.tW

set_option maxRecDepth 10000 in
set_option maxHeartbeats 4000000 in
theorem m_rank {d : Nat} {M : Mem} {s : Int} (h1 : ib s) : Con GM d kX6_rank [iv s] M (pI (fun a M2 => M = M2 ∧ a = mrk s)) := by
  refine con_of [some (iv s)] (plX6) rfl (Nat.le_of_ble_eq_true rfl) (fun z => ?_)
  refine r_iload_0 dX6_rank_0 ?_
  refine r_if_ne dX6_rank_1 (by omega) (fun c_1 => ?_) (fun c_1 => ?_)
  · skip
    refine r_iload_0 dX6_rank_8 (r_bipush dX6_rank_9 (by decide) ?_)
    refine r_icmp_ne dX6_rank_11 (by omega) (by omega) (fun c_11 => ?_) (fun c_11 => ?_)
    · skip
      refine r_iload_0 dX6_rank_18 (r_bipush dX6_rank_19 (by decide) ?_)
      refine r_icmp_ne dX6_rank_21 (by omega) (by omega) (fun c_21 => ?_) (fun c_21 => ?_)
      · skip
        refine r_iload_0 dX6_rank_28 (r_bipush dX6_rank_29 (by decide) ?_)
        refine r_icmp_ne dX6_rank_31 (by omega) (by omega) (fun c_31 => ?_) (fun c_31 => ?_)
        · skip
          refine r_iload_0 dX6_rank_38 (r_bipush dX6_rank_39 (by decide) ?_)
          refine r_icmp_gt dX6_rank_41 (by omega) (by omega) (fun c_41 => ?_) (fun c_41 => ?_)
          · skip
            refine r_iload_0 dX6_rank_48 (r_bipush dX6_rank_49 (by decide) ?_)
            refine r_icmp_gt dX6_rank_51 (by omega) (by omega) (fun c_51 => ?_) (fun c_51 => ?_)
            · skip
              refine r_iload_0 dX6_rank_58 (r_bipush dX6_rank_59 (by decide) ?_)
              refine r_icmp_ne dX6_rank_61 (by omega) (by omega) (fun c_61 => ?_) (fun c_61 => ?_)
              · skip
                refine r_bipush dX6_rank_69 (by decide) ?_
                refine r_ireturn dX6_rank_71 rfl ?_
                exact ⟨_, rfl, rfl, by unfold mrk; (repeat (first | rw [if_pos (by omega)] | rw [if_neg (by omega)]))⟩
              · skip
                refine r_bipush dX6_rank_64 (by decide) (r_goto dX6_rank_66 ?_)
                refine r_ireturn dX6_rank_71 rfl ?_
                exact ⟨_, rfl, rfl, by unfold mrk; (repeat (first | rw [if_pos (by omega)] | rw [if_neg (by omega)]))⟩
            · skip
              refine r_iconst dX6_rank_54 (r_goto dX6_rank_55 ?_)
              refine r_ireturn dX6_rank_71 rfl ?_
              exact ⟨_, rfl, rfl, by unfold mrk; (repeat (first | rw [if_pos (by omega)] | rw [if_neg (by omega)]))⟩
          · skip
            refine r_iconst dX6_rank_44 (r_goto dX6_rank_45 ?_)
            refine r_ireturn dX6_rank_71 rfl ?_
            exact ⟨_, rfl, rfl, by unfold mrk; (repeat (first | rw [if_pos (by omega)] | rw [if_neg (by omega)]))⟩
        · skip
          refine r_iconst dX6_rank_34 (r_goto dX6_rank_35 ?_)
          refine r_ireturn dX6_rank_71 rfl ?_
          exact ⟨_, rfl, rfl, by unfold mrk; (repeat (first | rw [if_pos (by omega)] | rw [if_neg (by omega)]))⟩
      · skip
        refine r_iconst dX6_rank_24 (r_goto dX6_rank_25 ?_)
        refine r_ireturn dX6_rank_71 rfl ?_
        exact ⟨_, rfl, rfl, by unfold mrk; (repeat (first | rw [if_pos (by omega)] | rw [if_neg (by omega)]))⟩
    · skip
      refine r_iconst dX6_rank_14 (r_goto dX6_rank_15 ?_)
      refine r_ireturn dX6_rank_71 rfl ?_
      exact ⟨_, rfl, rfl, by unfold mrk; (repeat (first | rw [if_pos (by omega)] | rw [if_neg (by omega)]))⟩
  · skip
    refine r_iconst dX6_rank_4 (r_goto dX6_rank_5 ?_)
    refine r_ireturn dX6_rank_71 rfl ?_
    exact ⟨_, rfl, rfl, by unfold mrk; (repeat (first | rw [if_pos (by omega)] | rw [if_neg (by omega)]))⟩
set_option maxRecDepth 10000 in
set_option maxHeartbeats 4000000 in
theorem m_puts {d : Nat} {M : Mem} {nT : Nat} {H o : List Int} (hs : HS M nT H o) (hn : nT < 6) {c : Int} (hr : H.length + o.length < 160) (hc : ib c) : Con GM d kX6_puts [rv 0, iv c] M (pV (fun M2 => HS M2 nT H (o ++ [c]) ∧ Fm (mU nT) M M2)) := by
  refine con_of [some (rv 0), some (iv c)] (plX6) rfl (Nat.le_of_ble_eq_true rfl) (fun z => ?_)
  obtain ⟨h10, h25, h26, h27, hsk, hco, hl⟩ := id hs
  refine r_aload_0 dX6_puts_0 (r_getR dX6_puts_1 fX6_25 (rfl) (rfl) (r_sipush dX6_puts_4 (by decide) (r_aload_0 dX6_puts_7 (r_getE dX6_puts_8 fX6_89 (rfl) (rfl) (h10) (r_imul dX6_puts_11 (r_aload_0 dX6_puts_12 (r_getE dX6_puts_13 fX6_124 (rfl) (rfl) (h27) (r_iadd dX6_puts_16 (r_iload_1 dX6_puts_17 ?_)))))))))
  refine r_iasX (200 * nT + o.length) dX6_puts_18 (rfl) (by omega) (by omega) (by omega) (by omega) ?_
  refine r_aload_0 dX6_puts_19 (r_dup_r dX6_puts_20 (r_getE dX6_puts_21 fX6_124 (rfl) (rfl) ((upM_ne (by omega)).trans h27) (r_iconst dX6_puts_24 (r_iadd dX6_puts_25 ?_))))
  refine r_put dX6_puts_26 pX6_124 (rfl) (rfl) (by omega) ?_
  refine r_vreturn dX6_puts_29 rfl ?_
  exact ⟨rfl, hs.put hr, (Fm.refl.up (by omega)).up (by omega)⟩
set_option maxRecDepth 10000 in
set_option maxHeartbeats 4000000 in
theorem m_holds {d k : Nat} {M : Mem} {s : Int} (h25 : M 0 25 = (k : Int)) (hk : k < 200) (hc : ib s) : Con GM d kX6_holds [rv 0, iv s] M (pV (fun M2 => M2 = upM (upM M 15 k s) 0 25 ((k : Int) + 1))) := by
  refine con_of [some (rv 0), some (iv s)] (plX6) rfl (Nat.le_of_ble_eq_true rfl) (fun z => ?_)
  refine r_aload_0 dX6_holds_0 (r_getR dX6_holds_1 fX6_52 (rfl) (rfl) (r_aload_0 dX6_holds_4 (r_getE dX6_holds_5 fX6_127 (rfl) (rfl) (h25) (r_iload_1 dX6_holds_8 ?_))))
  refine r_iasX (k) dX6_holds_9 (rfl) (by omega) (by omega) (by omega) (by omega) ?_
  refine r_aload_0 dX6_holds_10 (r_dup_r dX6_holds_11 (r_getE dX6_holds_12 fX6_127 (rfl) (rfl) ((upM_ne (by omega)).trans h25) (r_iconst dX6_holds_15 (r_iadd dX6_holds_16 ?_))))
  refine r_put dX6_holds_17 pX6_127 (rfl) (rfl) (by omega) ?_
  refine r_vreturn dX6_holds_20 rfl ?_
  exact ⟨rfl, rfl⟩
set_option maxRecDepth 10000 in
set_option maxHeartbeats 4000000 in
theorem m_opens {M : Mem} {nT : Nat} {H o : List Int} (hs : HS M nT H o) (hn : nT < 6) {s : Int} (hr : H.length + o.length < 160) (hc : s = 0 ∨ s = 13 ∨ s = 19) : Con GM 1 kX6_opensOne [rv 0, iv s] M (pI (fun a M2 => a = bi (decide (opn H ≠ 5)) ∧ (opn H ≠ 5 → HS M2 nT (s :: H) o) ∧ Fm (mU nT) M M2)) := by
  refine con_of [some (rv 0), some (iv s)] (plX6) rfl (Nat.le_of_ble_eq_true rfl) (fun z => ?_)
  obtain ⟨h10, h25, h26, h27, hsk, hco, hl⟩ := id hs
  have hol := opn_le H
  refine r_aload_0 dX6_opensOne_0 (r_getE dX6_opensOne_1 fX6_133 (rfl) (rfl) (h26) (r_iconst dX6_opensOne_4 ?_))
  refine r_icmp_ne dX6_opensOne_5 (by omega) (by omega) (fun c_5 => ?_) (fun c_5 => ?_)
  · skip
    refine r_aload_0 dX6_opensOne_10 (r_dup_r dX6_opensOne_11 (r_getE dX6_opensOne_12 fX6_133 (rfl) (rfl) (h26) (r_iconst dX6_opensOne_15 (r_iadd dX6_opensOne_16 ?_))))
    refine r_eq ((opn H + 1 : Nat) : Int) (by omega) ?_
    refine r_put dX6_opensOne_17 pX6_133 (rfl) (rfl) (by omega) ?_
    refine r_aload_0 dX6_opensOne_20 (r_iload_1 dX6_opensOne_21 ?_)
    refine r_cVV1 dX6_opensOne_22 vX6_140 (rfl) (m_holds (d := 0) ((upM_ne (by omega)).trans h25) (by omega) (by omega)) (by decide) (Nat.le_of_ble_eq_true rfl) (fun M_22 h_22 => ?_)
    subst h_22
    refine r_iconst dX6_opensOne_25 ?_
    refine r_zreturn dX6_opensOne_26 rfl (by first | exact bi_01 _ | omega | decide) ?_
    exact ⟨_, rfl, by rw [decide_eq_true (by omega)]; rfl, fun w => hs.hold hr (opn_0 hc), ((Fm.refl.up (by omega)).up (by omega)).up (by omega)⟩
  · skip
    refine r_iconst dX6_opensOne_8 ?_
    refine r_zreturn dX6_opensOne_9 rfl (by first | exact bi_01 _ | omega | decide) ?_
    exact ⟨_, rfl, by rw [decide_eq_false (by omega)]; rfl, fun w => by omega, Fm.refl⟩
set_option maxRecDepth 10000 in
set_option maxHeartbeats 4000000 in
theorem m_unw {M : Mem} {nT : Nat} {H o : List Int} (hs : HS M nT H o) (hn : nT < 6) {l : Int} (hl1 : 1 ≤ l) (hlb : ib l) : Con GM 1 kX6_unwinds [rv 0, iv l] M (pV (fun M2 => HS M2 nT (uw l H o).1 (uw l H o).2 ∧ Fm (mU nT) M M2)) := by
  refine con_of [some (rv 0), some (iv l), none] (plX6) rfl (Nat.le_of_ble_eq_true rfl) (fun z => ?_)
  have lp_0 : ∀ (NN : Nat) (G p : List Int) (u2 : Option PV) (Mv : Mem) (hv : HS Mv nT G p) (hu : uw l G p = uw l H o) (fv : Fm (mU nT) M Mv), G.length < NN → WP kX6_unwinds GM 1 (pV (fun M2 => HS M2 nT (uw l H o).1 (uw l H o).2 ∧ Fm (mU nT) M M2)) z 0 [some (rv 0), some (iv l), u2] [] Mv := by
    intro NN
    induction NN with
    | zero => intros; omega
    | succ NN ih =>
      intro G p u2 Mv hv hu fv hm
      refine r_mb (fun hMv => ?_)
      obtain ⟨h10, h25, h26, h27, hsk, hco, hl⟩ := id hv
      refine r_aload_0 dX6_unwinds_0 ?_
      refine r_getE dX6_unwinds_1 fX6_127 (rfl) (rfl) (h25) ?_
      refine r_if_le dX6_unwinds_4 (by omega) (fun c_4 => ?_) (fun c_4 => ?_)
      · skip
        obtain rfl : G = [] := List.eq_nil_of_length_eq_zero (by omega)
        rw [← hu]
        refine r_vreturn dX6_unwinds_79 rfl ?_
        exact ⟨rfl, hv, fv⟩
      · skip
        obtain ⟨s, T2, rfl⟩ : ∃ s T2, G = s :: T2 := by
          cases G with
          | nil => exact absurd c_4 (by simp)
          | cons s T2 => exact ⟨s, T2, rfl⟩
        obtain ⟨hk1, hk2⟩ := hsk
        have hsb := hMv 15 T2.length
        rw [hk1] at hsb
        have mk := mrk_in0 s
        have hll : (s :: T2).length = T2.length + 1 := List.length_cons
        refine r_aload_0 dX6_unwinds_7 (r_getR dX6_unwinds_8 fX6_52 (rfl) (rfl) (r_aload_0 dX6_unwinds_11 (r_getE dX6_unwinds_12 fX6_127 (rfl) (rfl) (h25) (r_iconst dX6_unwinds_15 (r_isub dX6_unwinds_16 (r_ialX dX6_unwinds_17 (rfl) (hk1) (by omega) (by omega) (by omega) ?_))))))
        refine r_cSI1 dX6_unwinds_18 sX6_130 (m_rank (d := 0) hsb) (by decide) (Nat.le_of_ble_eq_true rfl) (fun b_18 M_18 h_18 => ?_)
        obtain ⟨rfl, rfl⟩ := h_18
        refine r_iload_1 dX6_unwinds_21 ?_
        refine r_icmp_lt dX6_unwinds_22 (by omega) (by omega) (fun c_22 => ?_) (fun c_22 => ?_)
        · skip
          refine r_vreturn dX6_unwinds_79 rfl ?_
          exact ⟨rfl, by rw [← hu, uw_stop (by omega)]; exact hv, fv⟩
        · skip
          refine r_aload_0 dX6_unwinds_25 (r_dup_r dX6_unwinds_26 (r_getE dX6_unwinds_27 fX6_127 (rfl) (rfl) (h25) (r_iconst dX6_unwinds_30 (r_isub dX6_unwinds_31 ?_))))
          refine r_eq (T2.length : Int) (by omega) ?_
          refine r_put dX6_unwinds_32 pX6_127 (rfl) (rfl) (by omega) ?_
          refine r_aload_0 dX6_unwinds_35 (r_getR dX6_unwinds_36 fX6_52 (rfl) (rfl) (r_aload_0 dX6_unwinds_39 (r_getE (v := (T2.length : Int)) dX6_unwinds_40 fX6_127 (rfl) (rfl) (upM_self) (r_ialX dX6_unwinds_43 (rfl) ((upM_ne (by omega)).trans hk1) (by omega) (by omega) (by omega) (r_istore_2 dX6_unwinds_44 rfl (r_aload_0 dX6_unwinds_45 (r_dup_r dX6_unwinds_46 (r_getE dX6_unwinds_47 fX6_133 (rfl) (rfl) ((upM_ne (by omega)).trans h26) ?_))))))))
          have jn_67 : ∀ (x : Int) (hx : x = if s = 13 ∨ s = 19 then 1 else 0), WP kX6_unwinds GM 1 (pV (fun M2 => HS M2 nT (uw l H o).1 (uw l H o).2 ∧ Fm (mU nT) M M2)) z 67 [some (rv 0), some (iv l), some (iv s)] [iv x, iv ((opn (s :: T2) : Nat) : Int), rv 0] (upM Mv 0 25 (T2.length : Int)) := by
            intro x hx
            have ho : ((opn (s :: T2) : Nat) : Int) - x = ((opn T2 : Nat) : Int) := by
              have hs0 := mrk_1 (s := s) (by omega)
              by_cases q : s = 13 ∨ s = 19
              · rw [opn_0 (Or.inr q), hx, if_pos q]; omega
              · rw [opn_1 (by omega), hx, if_neg q]; omega
            have hol := opn_le T2
            refine r_isub dX6_unwinds_67 ?_
            rw [ho]
            refine r_put dX6_unwinds_68 pX6_133 (rfl) (rfl) (by omega) ?_
            refine r_aload_0 dX6_unwinds_71 (r_iload_2 dX6_unwinds_72 ?_)
            refine r_cVV1 dX6_unwinds_73 vX6_136 (rfl) (m_puts (d := 0) hv.pop hn (by omega) hsb) (by decide) (Nat.le_of_ble_eq_true rfl) (fun M_73 h_73 => ?_)
            obtain ⟨h3, f3⟩ := h_73
            refine r_goto dX6_unwinds_76 ?_
            exact ih T2 (p ++ [s]) _ _ h3 ((uw_go (by omega)).symm.trans hu) (((fv.up (by omega)).up (by omega)).trans f3) (by rw [List.length_cons] at hm; omega)
          refine r_iload_2 dX6_unwinds_50 (r_bipush dX6_unwinds_51 (by decide) ?_)
          refine r_icmp_eq dX6_unwinds_53 (by omega) (by omega) (fun c_53 => ?_) (fun c_53 => ?_)
          · skip
            refine r_iconst dX6_unwinds_62 (r_goto dX6_unwinds_63 ?_)
            exact jn_67 _ (by rw [if_pos (by omega)])
          · skip
            refine r_iload_2 dX6_unwinds_56 (r_bipush dX6_unwinds_57 (by decide) ?_)
            refine r_icmp_ne dX6_unwinds_59 (by omega) (by omega) (fun c_59 => ?_) (fun c_59 => ?_)
            · skip
              refine r_iconst dX6_unwinds_66 ?_
              exact jn_67 _ (by rw [if_neg (by omega)])
            · skip
              refine r_iconst dX6_unwinds_62 (r_goto dX6_unwinds_63 ?_)
              exact jn_67 _ (by rw [if_pos (by omega)])
  exact lp_0 _ H o _ M hs rfl Fm.refl (Nat.lt_succ_self _)
set_option maxRecDepth 10000 in
set_option maxHeartbeats 4000000 in
theorem m_betw {M : Mem} {nT : Nat} {H o : List Int} (hs : HS M nT H o) (hn : nT < 6) {s : Int} (hr : H.length + o.length < 160) (hc : 11 ≤ s ∧ s ≤ 18 ∧ s ≠ 13) : Con GM 2 kX6_between [rv 0, iv s] M (pI (fun a M2 => a = bi (decide (¬ (mrk s = 4 ∧ top4 (uw (if mrk s = 4 then 5 else mrk s) H o).1 = true))) ∧ (¬ (mrk s = 4 ∧ top4 (uw (if mrk s = 4 then 5 else mrk s) H o).1 = true) → HS M2 nT (s :: (uw (if mrk s = 4 then 5 else mrk s) H o).1) (uw (if mrk s = 4 then 5 else mrk s) H o).2) ∧ Fm (mU nT) M M2)) := by
  refine con_of [some (rv 0), some (iv s)] (plX6) rfl (Nat.le_of_ble_eq_true rfl) (fun z => ?_)
  have mk := mrk_in0 s
  have mk1 : 1 ≤ mrk s := by
    have := fun (h : mrk s < 1) => mrk_0 h
    omega
  obtain ⟨l, hl⟩ : ∃ l, l = if mrk s = 4 then 5 else mrk s := ⟨_, rfl⟩
  rw [← hl]
  have jn_17 : ∀ (x : Int) (hx : x = l), WP kX6_between GM 2 (pI (fun a M2 => a = bi (decide (¬ (mrk s = 4 ∧ top4 (uw (l) H o).1 = true))) ∧ (¬ (mrk s = 4 ∧ top4 (uw (l) H o).1 = true) → HS M2 nT (s :: (uw (l) H o).1) (uw (l) H o).2) ∧ Fm (mU nT) M M2)) z 17 [some (rv 0), some (iv s)] [iv x, rv 0] M := by
    intro x hx
    have hl17 : 1 ≤ l ∧ l ≤ 7 := by split at hl <;> omega
    subst hx
    refine r_cVV1 dX6_between_17 vX6_143 (rfl) (m_unw hs hn (by omega) (by omega)) (by decide) (Nat.le_of_ble_eq_true rfl) (fun M_17 h_17 => ?_)
    obtain ⟨h1, f1⟩ := h_17
    have hul := uw_len x H o
    obtain ⟨G, p, hu⟩ : ∃ G p, uw x H o = (G, p) := ⟨_, _, rfl⟩
    rw [hu] at h1 hul ⊢
    have hul : G.length + p.length = H.length + o.length := hul
    have h1 : HS M_17 nT G p := h1
    refine r_mb (fun hMv => ?_)
    obtain ⟨g10, g25, g26, g27, gsk, gco, gl⟩ := id h1
    have jn_55 : ∀ (hg : ¬ (mrk s = 4 ∧ top4 G = true)), WP kX6_between GM 2 (pI (fun a M2 => a = bi (decide (¬ (mrk s = 4 ∧ top4 (G, p).1 = true))) ∧ (¬ (mrk s = 4 ∧ top4 (G, p).1 = true) → HS M2 nT (s :: (G, p).1) (G, p).2) ∧ Fm (mU nT) M M2)) z 55 [some (rv 0), some (iv s)] [] M_17 := by
      intro hg
      refine r_aload_0 dX6_between_55 ?_
      refine r_iload_1 dX6_between_56 ?_
      refine r_cVV1 dX6_between_57 vX6_140 (rfl) (m_holds (d := 0) g25 (by omega) (by omega)) (by decide) (Nat.le_of_ble_eq_true rfl) (fun M_57 h_57 => ?_)
      subst h_57
      refine r_iconst dX6_between_60 ?_
      refine r_zreturn dX6_between_61 rfl (by first | exact bi_01 _ | omega | decide) ?_
      exact ⟨_, rfl, by rw [decide_eq_true hg]; rfl, fun w => h1.hold1 (by omega) (by omega), (f1.up (by omega)).up (by omega)⟩
    refine r_iload_1 dX6_between_20 ?_
    refine r_cSI1 dX6_between_21 sX6_130 (m_rank (d := 0) (by omega)) (by decide) (Nat.le_of_ble_eq_true rfl) (fun b_21 M_21 h_21 => ?_)
    obtain ⟨rfl, rfl⟩ := h_21
    refine r_iconst dX6_between_24 ?_
    refine r_icmp_ne dX6_between_25 (by omega) (by omega) (fun c_25 => ?_) (fun c_25 => ?_)
    · skip
      exact jn_55 (fun w => c_25 w.1)
    · skip
      refine r_aload_0 dX6_between_28 (r_getE dX6_between_29 fX6_127 (rfl) (rfl) (g25) ?_)
      refine r_if_le dX6_between_32 (by omega) (fun c_32 => ?_) (fun c_32 => ?_)
      · skip
        obtain rfl : G = [] := List.eq_nil_of_length_eq_zero (by omega)
        exact jn_55 (fun w => absurd w.2 (by decide))
      · skip
        obtain ⟨a, T2, rfl⟩ : ∃ a T2, G = a :: T2 := by
          cases G with
          | nil => exact absurd c_32 (by simp)
          | cons a T2 => exact ⟨a, T2, rfl⟩
        obtain ⟨hk1, hk2⟩ := gsk
        have hsb := hMv 15 T2.length
        rw [hk1] at hsb
        have mka := mrk_in0 a
        have hll : (a :: T2).length = T2.length + 1 := List.length_cons
        refine r_aload_0 dX6_between_35 (r_getR dX6_between_36 fX6_52 (rfl) (rfl) (r_aload_0 dX6_between_39 (r_getE dX6_between_40 fX6_127 (rfl) (rfl) (g25) (r_iconst dX6_between_43 (r_isub dX6_between_44 (r_ialX dX6_between_45 (rfl) (hk1) (by omega) (by omega) (by omega) ?_))))))
        refine r_cSI1 dX6_between_46 sX6_130 (m_rank (d := 0) hsb) (by decide) (Nat.le_of_ble_eq_true rfl) (fun b_46 M_46 h_46 => ?_)
        obtain ⟨rfl, rfl⟩ := h_46
        refine r_iconst dX6_between_49 ?_
        refine r_icmp_ne dX6_between_50 (by omega) (by omega) (fun c_50 => ?_) (fun c_50 => ?_)
        · skip
          exact jn_55 (fun w => c_50 (of_decide_eq_true w.2))
        · skip
          refine r_iconst dX6_between_53 ?_
          refine r_zreturn dX6_between_54 rfl (by first | exact bi_01 _ | omega | decide) ?_
          exact ⟨_, rfl, by rw [decide_eq_false (fun w => w ⟨c_25, decide_eq_true c_50⟩)]; rfl, fun w => absurd (⟨c_25, decide_eq_true c_50⟩ : mrk s = 4 ∧ top4 (a :: T2) = true) w, f1⟩
  refine r_aload_0 dX6_between_0 (r_iload_1 dX6_between_1 ?_)
  refine r_cSI1 dX6_between_2 sX6_130 (m_rank (d := 0) (by omega)) (by decide) (Nat.le_of_ble_eq_true rfl) (fun b_2 M_2 h_2 => ?_)
  obtain ⟨rfl, rfl⟩ := h_2
  refine r_iconst dX6_between_5 ?_
  refine r_icmp_ne dX6_between_6 (by omega) (by omega) (fun c_6 => ?_) (fun c_6 => ?_)
  · skip
    refine r_iload_1 dX6_between_13 ?_
    refine r_cSI1 dX6_between_14 sX6_130 (m_rank (d := 0) (by omega)) (by decide) (Nat.le_of_ble_eq_true rfl) (fun b_14 M_14 h_14 => ?_)
    obtain ⟨rfl, rfl⟩ := h_14
    exact jn_17 _ (by rw [hl, if_neg (by omega)])
  · skip
    refine r_iconst dX6_between_9 (r_goto dX6_between_10 ?_)
    exact jn_17 _ (by rw [hl, if_pos (by omega)])
set_option maxRecDepth 10000 in
set_option maxHeartbeats 4000000 in
theorem m_sgt {d : Nat} {M : Mem} {T : Int} (h21 : M 0 21 = mtk T) (hT : TS T) : Con GM d kX6_signOf [rv 0] M (pI (fun a M2 => M = M2 ∧ a = sg T)) := by
  refine con_of [some (rv 0)] (plX6) rfl (Nat.le_of_ble_eq_true rfl) (fun z => ?_)
  have hmi := hT.mi
  have hsg := hT.sg
  refine r_aload_0 dX6_signOf_0 (r_getE dX6_signOf_1 fX6_114 (rfl) (rfl) (h21) (r_iconst dX6_signOf_4 ?_))
  refine r_icmp_ne dX6_signOf_5 (by omega) (by omega) (fun c_5 => ?_) (fun c_5 => ?_)
  · skip
    refine r_aload_0 dX6_signOf_13 (r_getE dX6_signOf_14 fX6_114 (rfl) (rfl) (h21) (r_iconst dX6_signOf_17 ?_))
    refine r_icmp_ne dX6_signOf_18 (by omega) (by omega) (fun c_18 => ?_) (fun c_18 => ?_)
    · skip
      refine r_aload_0 dX6_signOf_26 (r_getE dX6_signOf_27 fX6_114 (rfl) (rfl) (h21) (r_bipush dX6_signOf_30 (by decide) ?_))
      refine r_icmp_ne dX6_signOf_32 (by omega) (by omega) (fun c_32 => ?_) (fun c_32 => ?_)
      · skip
        refine r_aload_0 dX6_signOf_40 (r_getE dX6_signOf_41 fX6_114 (rfl) (rfl) (h21) (r_bipush dX6_signOf_44 (by decide) ?_))
        refine r_icmp_ne dX6_signOf_46 (by omega) (by omega) (fun c_46 => ?_) (fun c_46 => ?_)
        · skip
          refine r_aload_0 dX6_signOf_54 (r_getE dX6_signOf_55 fX6_114 (rfl) (rfl) (h21) (r_bipush dX6_signOf_58 (by decide) ?_))
          refine r_icmp_ne dX6_signOf_60 (by omega) (by omega) (fun c_60 => ?_) (fun c_60 => ?_)
          · skip
            refine r_aload_0 dX6_signOf_68 (r_getE dX6_signOf_69 fX6_114 (rfl) (rfl) (h21) (r_bipush dX6_signOf_72 (by decide) ?_))
            refine r_icmp_ne dX6_signOf_74 (by omega) (by omega) (fun c_74 => ?_) (fun c_74 => ?_)
            · skip
              refine r_aload_0 dX6_signOf_82 (r_getE dX6_signOf_83 fX6_114 (rfl) (rfl) (h21) (r_bipush dX6_signOf_86 (by decide) ?_))
              refine r_icmp_ne dX6_signOf_88 (by omega) (by omega) (fun c_88 => ?_) (fun c_88 => ?_)
              · skip
                refine r_iconst dX6_signOf_96 ?_
                refine r_ireturn dX6_signOf_97 rfl ?_
                exact ⟨_, rfl, rfl, by rw [hsg]; (repeat (first | rw [if_pos (by omega)] | rw [if_neg (by omega)]))⟩
              · skip
                refine r_bipush dX6_signOf_91 (by decide) (r_goto dX6_signOf_93 ?_)
                refine r_ireturn dX6_signOf_97 rfl ?_
                exact ⟨_, rfl, rfl, by rw [hsg]; (repeat (first | rw [if_pos (by omega)] | rw [if_neg (by omega)]))⟩
            · skip
              refine r_bipush dX6_signOf_77 (by decide) (r_goto dX6_signOf_79 ?_)
              refine r_ireturn dX6_signOf_97 rfl ?_
              exact ⟨_, rfl, rfl, by rw [hsg]; (repeat (first | rw [if_pos (by omega)] | rw [if_neg (by omega)]))⟩
          · skip
            refine r_bipush dX6_signOf_63 (by decide) (r_goto dX6_signOf_65 ?_)
            refine r_ireturn dX6_signOf_97 rfl ?_
            exact ⟨_, rfl, rfl, by rw [hsg]; (repeat (first | rw [if_pos (by omega)] | rw [if_neg (by omega)]))⟩
        · skip
          refine r_bipush dX6_signOf_49 (by decide) (r_goto dX6_signOf_51 ?_)
          refine r_ireturn dX6_signOf_97 rfl ?_
          exact ⟨_, rfl, rfl, by rw [hsg]; (repeat (first | rw [if_pos (by omega)] | rw [if_neg (by omega)]))⟩
      · skip
        refine r_bipush dX6_signOf_35 (by decide) (r_goto dX6_signOf_37 ?_)
        refine r_ireturn dX6_signOf_97 rfl ?_
        exact ⟨_, rfl, rfl, by rw [hsg]; (repeat (first | rw [if_pos (by omega)] | rw [if_neg (by omega)]))⟩
    · skip
      refine r_bipush dX6_signOf_21 (by decide) (r_goto dX6_signOf_23 ?_)
      refine r_ireturn dX6_signOf_97 rfl ?_
      exact ⟨_, rfl, rfl, by rw [hsg]; (repeat (first | rw [if_pos (by omega)] | rw [if_neg (by omega)]))⟩
  · skip
    refine r_bipush dX6_signOf_8 (by decide) (r_goto dX6_signOf_10 ?_)
    refine r_ireturn dX6_signOf_97 rfl ?_
    exact ⟨_, rfl, rfl, by rw [hsg]; (repeat (first | rw [if_pos (by omega)] | rw [if_neg (by omega)]))⟩

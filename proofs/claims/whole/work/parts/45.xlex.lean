set_option maxRecDepth 10000 in
set_option maxHeartbeats 4000000 in
theorem x_spl {M : Mem} {j : Nat} {tp : Nat → Int} {tn b e : Nat} (hL : LT M tp tn) (hj : j < 12) (hp : M 3 3 = (b : Int)) (hn : M 3 2 = (e : Int)) (hbe : b ≤ e) (he : e ≤ tn) : Con GX 4 kX2_spells [rv 3, rv (1000 + j)] M (pI (fun a M2 => M = M2 ∧ a = bi (spl tp b e j))) := by
  refine con_of [some (rv 3), some (rv (1000 + j)), none] (plX2) rfl (Nat.le_of_ble_eq_true rfl) (fun z => ?_)
  refine r_mb (fun hMB => ?_)
  have hL0 := hL
  obtain ⟨⟨ht160, htb⟩, hsz, hby⟩ := hL0
  have hl := s_len_lt j hj
  obtain ⟨hw1, hw2⟩ := s_wl j hj
  refine r_aload_0 dX2_spells_0 (r_getE dX2_spells_1 fX2_19 (rfl) (rfl) (hn) (r_aload_0 dX2_spells_4 (r_getE dX2_spells_5 fX2_22 (rfl) (rfl) (hp) (r_isub dX2_spells_8 (r_aload_1 dX2_spells_9 ?_)))))
  refine r_cWI0 dX2_spells_10 w_len (hj) (j_len (n := 2) hj) (by decide) (Nat.le_of_ble_eq_true rfl) (fun b_10 M_10 h_10 => ?_)
  obtain ⟨rfl, rfl⟩ := h_10
  refine r_icmp_eq dX2_spells_13 (by omega) (by omega) (fun c_13 => ?_) (fun c_13 => ?_)
  · skip
    refine r_iconst dX2_spells_18 (r_istore_2 dX2_spells_19 rfl ?_)
    have lp_20 : ∀ (NN : Nat) (i : Nat) (hi : i ≤ s_len.getD j 0) (hc : ∀ c, c < i → tp (b + c) = (wl.getD j []).getD c 0), 20 - i < NN → WP kX2_spells GX 4 (pI (fun a M2 => M = M2 ∧ a = bi (spl tp b e j))) z 20 [some (rv 3), some (rv (1000 + j)), some (iv (i : Int))] [] M := by
      intro NN
      induction NN with
      | zero => intros; omega
      | succ NN ih =>
        intro i hi hc hm
        refine r_iload_2 dX2_spells_20 ?_
        refine r_aload_1 dX2_spells_21 ?_
        refine r_cWI0 dX2_spells_22 w_len (hj) (j_len (n := 2) hj) (by decide) (Nat.le_of_ble_eq_true rfl) (fun b_22 M_22 h_22 => ?_)
        obtain ⟨rfl, rfl⟩ := h_22
        refine r_icmp_ge dX2_spells_25 (by omega) (by omega) (fun c_25 => ?_) (fun c_25 => ?_)
        · skip
          refine r_iconst dX2_spells_55 ?_
          refine r_zreturn dX2_spells_56 rfl (by first | exact bi_01 _ | omega | decide) ?_
          exact ⟨_, rfl, rfl, by rw [spl_yes (by omega) (fun c h => hc c (by omega))]; rfl⟩
        · skip
          have hta := htb (b + i) (by omega)
          have hsa := (s_all j hj i (by omega)).1
          refine r_aload_0 dX2_spells_28 (r_getR dX2_spells_29 fX2_9 (rfl) (rfl) (r_aload_0 dX2_spells_32 (r_getE dX2_spells_33 fX2_22 (rfl) (rfl) (hp) (r_iload_2 dX2_spells_36 (r_iadd dX2_spells_37 ?_)))))
          rw [show (b : Int) + (i : Int) = ((b + i : Nat) : Int) by omega]
          refine r_ialN dX2_spells_38 (rfl) (by omega) (by omega) (hby (b + i) (by omega)) (r_aload_1 dX2_spells_39 (r_iload_2 dX2_spells_40 ?_))
          refine r_cWI1 dX2_spells_41 w_chr (hj) (j_chr (n := 0) hj (by omega)) (by decide) (Nat.le_of_ble_eq_true rfl) (fun b_41 M_41 h_41 => ?_)
          obtain ⟨rfl, rfl⟩ := h_41
          refine r_icmp_eq dX2_spells_44 (by omega) (by omega) (fun c_44 => ?_) (fun c_44 => ?_)
          · skip
            refine r_iinc_2 dX2_spells_49 rfl (r_goto dX2_spells_52 ?_)
            exact ih (i + 1) (by omega) (fun c h => by
              by_cases q : c < i
              · exact hc c q
              · obtain rfl : c = i := by omega
                rw [← hw2 c (by omega)]; exact c_44) (by omega)
          · skip
            refine r_iconst dX2_spells_47 ?_
            refine r_zreturn dX2_spells_48 rfl (by first | exact bi_01 _ | omega | decide) ?_
            exact ⟨_, rfl, rfl, by rw [spl_no2 (c := i) (by omega) (by rw [← hw2 i (by omega)]; exact c_44)]; rfl⟩
    exact lp_20 _ 0 (by omega) (fun c hc => by omega) (Nat.lt_succ_self _)
  · skip
    refine r_iconst dX2_spells_16 ?_
    refine r_zreturn dX2_spells_17 rfl (by first | exact bi_01 _ | omega | decide) ?_
    exact ⟨_, rfl, rfl, by rw [spl_no1 (by omega)]; rfl⟩
set_option maxRecDepth 10000 in
set_option maxHeartbeats 4000000 in
theorem x_readWord {M : Mem} {tp : Nat → Int} {tn b : Nat} (hL : LT M tp tn) (hp : M 3 3 = (b : Int)) (hn : M 3 2 = (b : Int)) (hb : b < tn) : Con GX 5 kX2_readWord [rv 3] M (pV (fun M2 => FT M M2 ∧ M2 3 3 = (b : Int) ∧ M2 3 2 = (rnE isL tp tn b : Nat) ∧ M2 3 4 = wdc tp b (rnE isL tp tn b))) := by
  refine con_of [some (rv 3)] (plX2) rfl (Nat.le_of_ble_eq_true rfl) (fun z => ?_)
  refine r_mb (fun hMB => ?_)
  have hL0 := hL
  obtain ⟨⟨ht160, htb⟩, hsz, hby⟩ := hL0
  have jn_39 : ∀ (i : Nat) (Mv : Mem) (hbi : b ≤ i) (hi : i ≤ tn) (fv : FT M Mv) (h2 : Mv 3 2 = (i : Int)) (h3 : Mv 3 3 = (b : Int)) (he : i = rnE isL tp tn b), WP kX2_readWord GX 5 (pV (fun M2 => FT M M2 ∧ M2 3 3 = (b : Int) ∧ M2 3 2 = (rnE isL tp tn b : Nat) ∧ M2 3 4 = wdc tp b (rnE isL tp tn b))) z 39 [some (rv 3)] [] Mv := by
    intro i Mv hbi hi fv h2 h3 he
    have hLv := hL.ft fv
    refine r_aload_0 dX2_readWord_39 ?_
    have jn_222 : ∀ (v : Int) (hv : v = wdc tp b (rnE isL tp tn b)), WP kX2_readWord GX 5 (pV (fun M2 => FT M M2 ∧ M2 3 3 = (b : Int) ∧ M2 3 2 = (rnE isL tp tn b : Nat) ∧ M2 3 4 = wdc tp b (rnE isL tp tn b))) z 222 [some (rv 3)] [iv v, rv 3] Mv := by
      intro v hv
      have hwi := wdc_in tp b (rnE isL tp tn b)
      refine r_put dX2_readWord_222 pX2_25 (rfl) (rfl) (by omega) ?_
      refine r_vreturn dX2_readWord_225 rfl ?_
      exact ⟨rfl, fv.up (by decide), (upM_ne (Or.inr (by decide))).trans h3, (upM_ne (Or.inr (by decide))).trans (by rw [h2, he]), by rw [upM_self]; exact hv⟩
    refine r_aload_0 dX2_readWord_40 ?_
    refine r_ldcS 0 dX2_readWord_41 rfl rfl (by decide) ?_
    refine r_cVI1 dX2_readWord_43 vX2_52 (rfl) (x_spl hLv (j := 0) (by decide) h3 h2 hbi hi) (by decide) (Nat.le_of_ble_eq_true rfl) (fun b_43 M_43 h_43 => ?_)
    obtain ⟨rfl, rfl⟩ := h_43
    refine r_ifb_eq dX2_readWord_46 (fun c_46 => ?_) (fun c_46 => ?_)
    · skip
      refine r_aload_0 dX2_readWord_55 ?_
      refine r_ldcS 1 dX2_readWord_56 rfl rfl (by decide) ?_
      refine r_cVI1 dX2_readWord_58 vX2_52 (rfl) (x_spl hLv (j := 1) (by decide) h3 h2 hbi hi) (by decide) (Nat.le_of_ble_eq_true rfl) (fun b_58 M_58 h_58 => ?_)
      obtain ⟨rfl, rfl⟩ := h_58
      refine r_ifb_eq dX2_readWord_61 (fun c_61 => ?_) (fun c_61 => ?_)
      · skip
        refine r_aload_0 dX2_readWord_70 ?_
        refine r_ldcS 2 dX2_readWord_71 rfl rfl (by decide) ?_
        refine r_cVI1 dX2_readWord_73 vX2_52 (rfl) (x_spl hLv (j := 2) (by decide) h3 h2 hbi hi) (by decide) (Nat.le_of_ble_eq_true rfl) (fun b_73 M_73 h_73 => ?_)
        obtain ⟨rfl, rfl⟩ := h_73
        refine r_ifb_eq dX2_readWord_76 (fun c_76 => ?_) (fun c_76 => ?_)
        · skip
          refine r_aload_0 dX2_readWord_85 ?_
          refine r_ldcS 3 dX2_readWord_86 rfl rfl (by decide) ?_
          refine r_cVI1 dX2_readWord_88 vX2_52 (rfl) (x_spl hLv (j := 3) (by decide) h3 h2 hbi hi) (by decide) (Nat.le_of_ble_eq_true rfl) (fun b_88 M_88 h_88 => ?_)
          obtain ⟨rfl, rfl⟩ := h_88
          refine r_ifb_eq dX2_readWord_91 (fun c_91 => ?_) (fun c_91 => ?_)
          · skip
            refine r_aload_0 dX2_readWord_100 ?_
            refine r_ldcS 4 dX2_readWord_101 rfl rfl (by decide) ?_
            refine r_cVI1 dX2_readWord_103 vX2_52 (rfl) (x_spl hLv (j := 4) (by decide) h3 h2 hbi hi) (by decide) (Nat.le_of_ble_eq_true rfl) (fun b_103 M_103 h_103 => ?_)
            obtain ⟨rfl, rfl⟩ := h_103
            refine r_ifb_eq dX2_readWord_106 (fun c_106 => ?_) (fun c_106 => ?_)
            · skip
              refine r_aload_0 dX2_readWord_115 ?_
              refine r_ldcS 5 dX2_readWord_116 rfl rfl (by decide) ?_
              refine r_cVI1 dX2_readWord_118 vX2_52 (rfl) (x_spl hLv (j := 5) (by decide) h3 h2 hbi hi) (by decide) (Nat.le_of_ble_eq_true rfl) (fun b_118 M_118 h_118 => ?_)
              obtain ⟨rfl, rfl⟩ := h_118
              refine r_ifb_eq dX2_readWord_121 (fun c_121 => ?_) (fun c_121 => ?_)
              · skip
                refine r_aload_0 dX2_readWord_130 ?_
                refine r_ldcS 6 dX2_readWord_131 rfl rfl (by decide) ?_
                refine r_cVI1 dX2_readWord_133 vX2_52 (rfl) (x_spl hLv (j := 6) (by decide) h3 h2 hbi hi) (by decide) (Nat.le_of_ble_eq_true rfl) (fun b_133 M_133 h_133 => ?_)
                obtain ⟨rfl, rfl⟩ := h_133
                refine r_ifb_eq dX2_readWord_136 (fun c_136 => ?_) (fun c_136 => ?_)
                · skip
                  refine r_aload_0 dX2_readWord_145 ?_
                  refine r_ldcS 7 dX2_readWord_146 rfl rfl (by decide) ?_
                  refine r_cVI1 dX2_readWord_148 vX2_52 (rfl) (x_spl hLv (j := 7) (by decide) h3 h2 hbi hi) (by decide) (Nat.le_of_ble_eq_true rfl) (fun b_148 M_148 h_148 => ?_)
                  obtain ⟨rfl, rfl⟩ := h_148
                  refine r_ifb_eq dX2_readWord_151 (fun c_151 => ?_) (fun c_151 => ?_)
                  · skip
                    refine r_aload_0 dX2_readWord_160 ?_
                    refine r_ldcS 8 dX2_readWord_161 rfl rfl (by decide) ?_
                    refine r_cVI1 dX2_readWord_163 vX2_52 (rfl) (x_spl hLv (j := 8) (by decide) h3 h2 hbi hi) (by decide) (Nat.le_of_ble_eq_true rfl) (fun b_163 M_163 h_163 => ?_)
                    obtain ⟨rfl, rfl⟩ := h_163
                    refine r_ifb_eq dX2_readWord_166 (fun c_166 => ?_) (fun c_166 => ?_)
                    · skip
                      refine r_aload_0 dX2_readWord_175 ?_
                      refine r_ldcS 9 dX2_readWord_176 rfl rfl (by decide) ?_
                      refine r_cVI1 dX2_readWord_178 vX2_52 (rfl) (x_spl hLv (j := 9) (by decide) h3 h2 hbi hi) (by decide) (Nat.le_of_ble_eq_true rfl) (fun b_178 M_178 h_178 => ?_)
                      obtain ⟨rfl, rfl⟩ := h_178
                      refine r_ifb_eq dX2_readWord_181 (fun c_181 => ?_) (fun c_181 => ?_)
                      · skip
                        refine r_aload_0 dX2_readWord_190 ?_
                        refine r_ldcS 10 dX2_readWord_191 rfl rfl (by decide) ?_
                        refine r_cVI1 dX2_readWord_193 vX2_52 (rfl) (x_spl hLv (j := 10) (by decide) h3 h2 hbi hi) (by decide) (Nat.le_of_ble_eq_true rfl) (fun b_193 M_193 h_193 => ?_)
                        obtain ⟨rfl, rfl⟩ := h_193
                        refine r_ifb_eq dX2_readWord_196 (fun c_196 => ?_) (fun c_196 => ?_)
                        · skip
                          refine r_aload_0 dX2_readWord_205 ?_
                          refine r_ldcS 11 dX2_readWord_206 rfl rfl (by decide) ?_
                          refine r_cVI1 dX2_readWord_208 vX2_52 (rfl) (x_spl hLv (j := 11) (by decide) h3 h2 hbi hi) (by decide) (Nat.le_of_ble_eq_true rfl) (fun b_208 M_208 h_208 => ?_)
                          obtain ⟨rfl, rfl⟩ := h_208
                          refine r_ifb_eq dX2_readWord_211 (fun c_211 => ?_) (fun c_211 => ?_)
                          · skip
                            refine r_bipush dX2_readWord_220 (by decide) ?_
                            exact jn_222 _ (by unfold wdc; rw [← he]; simp [c_46, c_61, c_76, c_91, c_106, c_121, c_136, c_151, c_166, c_181, c_196, c_211])
                          · skip
                            refine r_sipush dX2_readWord_214 (by decide) (r_goto dX2_readWord_217 ?_)
                            exact jn_222 _ (by unfold wdc; rw [← he]; simp [c_46, c_61, c_76, c_91, c_106, c_121, c_136, c_151, c_166, c_181, c_196, c_211])
                        · skip
                          refine r_sipush dX2_readWord_199 (by decide) (r_goto dX2_readWord_202 ?_)
                          exact jn_222 _ (by unfold wdc; rw [← he]; simp [c_46, c_61, c_76, c_91, c_106, c_121, c_136, c_151, c_166, c_181, c_196])
                      · skip
                        refine r_sipush dX2_readWord_184 (by decide) (r_goto dX2_readWord_187 ?_)
                        exact jn_222 _ (by unfold wdc; rw [← he]; simp [c_46, c_61, c_76, c_91, c_106, c_121, c_136, c_151, c_166, c_181])
                    · skip
                      refine r_sipush dX2_readWord_169 (by decide) (r_goto dX2_readWord_172 ?_)
                      exact jn_222 _ (by unfold wdc; rw [← he]; simp [c_46, c_61, c_76, c_91, c_106, c_121, c_136, c_151, c_166])
                  · skip
                    refine r_sipush dX2_readWord_154 (by decide) (r_goto dX2_readWord_157 ?_)
                    exact jn_222 _ (by unfold wdc; rw [← he]; simp [c_46, c_61, c_76, c_91, c_106, c_121, c_136, c_151])
                · skip
                  refine r_sipush dX2_readWord_139 (by decide) (r_goto dX2_readWord_142 ?_)
                  exact jn_222 _ (by unfold wdc; rw [← he]; simp [c_46, c_61, c_76, c_91, c_106, c_121, c_136])
              · skip
                refine r_sipush dX2_readWord_124 (by decide) (r_goto dX2_readWord_127 ?_)
                exact jn_222 _ (by unfold wdc; rw [← he]; simp [c_46, c_61, c_76, c_91, c_106, c_121])
            · skip
              refine r_sipush dX2_readWord_109 (by decide) (r_goto dX2_readWord_112 ?_)
              exact jn_222 _ (by unfold wdc; rw [← he]; simp [c_46, c_61, c_76, c_91, c_106])
          · skip
            refine r_sipush dX2_readWord_94 (by decide) (r_goto dX2_readWord_97 ?_)
            exact jn_222 _ (by unfold wdc; rw [← he]; simp [c_46, c_61, c_76, c_91])
        · skip
          refine r_sipush dX2_readWord_79 (by decide) (r_goto dX2_readWord_82 ?_)
          exact jn_222 _ (by unfold wdc; rw [← he]; simp [c_46, c_61, c_76])
      · skip
        refine r_sipush dX2_readWord_64 (by decide) (r_goto dX2_readWord_67 ?_)
        exact jn_222 _ (by unfold wdc; rw [← he]; simp [c_46, c_61])
    · skip
      refine r_sipush dX2_readWord_49 (by decide) (r_goto dX2_readWord_52 ?_)
      exact jn_222 _ (by unfold wdc; rw [← he]; simp [c_46])
  have lp_0 : ∀ (NN : Nat) (i : Nat) (Mv : Mem) (hbi : b ≤ i) (hi : i ≤ tn) (fv : FT M Mv) (h2 : Mv 3 2 = (i : Int)) (h3 : Mv 3 3 = (b : Int)) (hr : rnl isL tp tn (tn - i) i = rnE isL tp tn b), tn - i < NN → WP kX2_readWord GX 5 (pV (fun M2 => FT M M2 ∧ M2 3 3 = (b : Int) ∧ M2 3 2 = (rnE isL tp tn b : Nat) ∧ M2 3 4 = wdc tp b (rnE isL tp tn b))) z 0 [some (rv 3)] [] Mv := by
    intro NN
    induction NN with
    | zero => intros; omega
    | succ NN ih =>
      intro i Mv hbi hi fv h2 h3 hr hm
      have hLv := hL.ft fv
      refine r_aload_0 dX2_readWord_0 ?_
      refine r_getE dX2_readWord_1 fX2_19 (rfl) (rfl) (h2) (r_aload_0 dX2_readWord_4 (r_getE dX2_readWord_5 fX2_15 (rfl) (rfl) (hLv.2.1) ?_))
      refine r_icmp_ge dX2_readWord_8 (by omega) (by omega) (fun c_8 => ?_) (fun c_8 => ?_)
      · skip
        exact jn_39 i Mv hbi hi fv h2 h3 (by rw [← hr, rnl_no (by omega)])
      · skip
        have hta := htb i (by omega)
        refine r_aload_0 dX2_readWord_11 (r_getR dX2_readWord_12 fX2_9 (rfl) (rfl) (r_aload_0 dX2_readWord_15 (r_getE dX2_readWord_16 fX2_19 (rfl) (rfl) (h2) (r_ialN dX2_readWord_19 (rfl) (by omega) (by omega) (hLv.2.2 i (by omega)) ?_))))
        refine r_cSI1 dX2_readWord_20 sX2_34 (x_isLetter (d := 0) (by omega)) (by decide) (Nat.le_of_ble_eq_true rfl) (fun b_20 M_20 h_20 => ?_)
        obtain ⟨rfl, rfl⟩ := h_20
        first | refine r_ifd_eq dX2_readWord_23 (fun c_23 => ?_) (fun c_23 => ?_) | refine r_ifb_eq dX2_readWord_23 (fun c_23 => ?_) (fun c_23 => ?_)
        · skip
          exact jn_39 i Mv hbi hi fv h2 h3 (by rw [← hr, rnl_no (fun w => c_23 (by have := w.2; unfold isL at this; exact of_decide_eq_true this))])
        · skip
          refine r_aload_0 dX2_readWord_26 (r_dup_r dX2_readWord_27 (r_getE dX2_readWord_28 fX2_19 (rfl) (rfl) (h2) (r_iconst dX2_readWord_31 (r_iadd dX2_readWord_32 ?_))))
          refine r_put dX2_readWord_33 pX2_19 (rfl) (rfl) (by omega) ?_
          refine r_goto dX2_readWord_36 ?_
          exact ih (i + 1) _ (by omega) (by omega) (fv.up (by decide)) (by rw [upM_self]; omega) ((upM_ne (Or.inr (by decide))).trans h3) ((rnl_go (by omega) (by unfold isL; exact decide_eq_true c_23)).symm.trans hr) (by omega)
  exact lp_0 _ b M (Nat.le_refl _) (by omega) FT.refl hn hp rfl (Nat.lt_succ_self _)
set_option maxRecDepth 10000 in
set_option maxHeartbeats 4000000 in
theorem x_readNumber {M : Mem} {tp : Nat → Int} {tn b : Nat} (hL : LT M tp tn) (hp : M 3 3 = (b : Int)) (hn : M 3 2 = (b : Int)) (hb : b < tn) : Con GX 1 kX2_readNumber [rv 3] M (pV (fun M2 => FT M M2 ∧ M2 3 3 = (b : Int) ∧ M2 3 2 = (rnE isD tp tn b : Nat) ∧ M2 3 4 = (if rnE isD tp tn b ≤ b + 4 then 300 else -2) ∧ M2 3 5 = nvl tp b (rnE isD tp tn b - b))) := by
  refine con_of [some (rv 3)] (plX2) rfl (Nat.le_of_ble_eq_true rfl) (fun z => ?_)
  refine r_mb (fun hMB => ?_)
  have hL0 := hL
  obtain ⟨⟨ht160, htb⟩, hsz, hby⟩ := hL0
  refine r_aload_0 dX2_readNumber_0 (r_iconst dX2_readNumber_1 ?_)
  refine r_put dX2_readNumber_2 pX2_28 (rfl) (rfl) (by omega) ?_
  have jn_68 : ∀ (i : Nat) (Mv : Mem) (hbi : b ≤ i) (hi : i ≤ tn) (fv : FT M Mv) (h2 : Mv 3 2 = (i : Int)) (h3 : Mv 3 3 = (b : Int)) (h5 : Mv 3 5 = nvl tp b (i - b)) (he : i = rnE isD tp tn b), WP kX2_readNumber GX 1 (pV (fun M2 => FT M M2 ∧ M2 3 3 = (b : Int) ∧ M2 3 2 = (rnE isD tp tn b : Nat) ∧ M2 3 4 = (if rnE isD tp tn b ≤ b + 4 then 300 else -2) ∧ M2 3 5 = nvl tp b (rnE isD tp tn b - b))) z 68 [some (rv 3)] [] Mv := by
    intro i Mv hbi hi fv h2 h3 h5 he
    refine r_aload_0 dX2_readNumber_68 ?_
    have jn_90 : ∀ (v : Int) (hv : v = if rnE isD tp tn b ≤ b + 4 then 300 else -2), WP kX2_readNumber GX 1 (pV (fun M2 => FT M M2 ∧ M2 3 3 = (b : Int) ∧ M2 3 2 = (rnE isD tp tn b : Nat) ∧ M2 3 4 = (if rnE isD tp tn b ≤ b + 4 then 300 else -2) ∧ M2 3 5 = nvl tp b (rnE isD tp tn b - b))) z 90 [some (rv 3)] [iv v, rv 3] Mv := by
      intro v hv
      refine r_put dX2_readNumber_90 pX2_25 (rfl) (rfl) (by rw [hv]; split <;> omega) ?_
      refine r_vreturn dX2_readNumber_93 rfl ?_
      exact ⟨rfl, fv.up (by decide), (upM_ne (Or.inr (by decide))).trans h3, (upM_ne (Or.inr (by decide))).trans (by rw [h2, he]), by rw [upM_self]; exact hv, (upM_ne (Or.inr (by decide))).trans (by rw [h5, he])⟩
    refine r_aload_0 dX2_readNumber_69 (r_getE dX2_readNumber_70 fX2_19 (rfl) (rfl) (h2) (r_aload_0 dX2_readNumber_73 (r_getE dX2_readNumber_74 fX2_22 (rfl) (rfl) (h3) (r_isub dX2_readNumber_77 (r_iconst dX2_readNumber_78 ?_)))))
    refine r_icmp_gt dX2_readNumber_79 (by omega) (by omega) (fun c_79 => ?_) (fun c_79 => ?_)
    · skip
      refine r_bipush dX2_readNumber_88 (by decide) ?_
      exact jn_90 _ (by rw [if_neg (by omega)])
    · skip
      refine r_sipush dX2_readNumber_82 (by decide) (r_goto dX2_readNumber_85 ?_)
      exact jn_90 _ (by rw [if_pos (by omega)])
  have lp_5 : ∀ (NN : Nat) (i : Nat) (Mv : Mem) (hbi : b ≤ i) (hi : i ≤ tn) (fv : FT M Mv) (h2 : Mv 3 2 = (i : Int)) (h3 : Mv 3 3 = (b : Int)) (h5 : Mv 3 5 = nvl tp b (i - b)) (hr : rnl isD tp tn (tn - i) i = rnE isD tp tn b), tn - i < NN → WP kX2_readNumber GX 1 (pV (fun M2 => FT M M2 ∧ M2 3 3 = (b : Int) ∧ M2 3 2 = (rnE isD tp tn b : Nat) ∧ M2 3 4 = (if rnE isD tp tn b ≤ b + 4 then 300 else -2) ∧ M2 3 5 = nvl tp b (rnE isD tp tn b - b))) z 5 [some (rv 3)] [] Mv := by
    intro NN
    induction NN with
    | zero => intros; omega
    | succ NN ih =>
      intro i Mv hbi hi fv h2 h3 h5 hr hm
      have hLv := hL.ft fv
      have hnb := nvl_ib tp b (i - b)
      refine r_aload_0 dX2_readNumber_5 ?_
      refine r_getE dX2_readNumber_6 fX2_19 (rfl) (rfl) (h2) (r_aload_0 dX2_readNumber_9 (r_getE dX2_readNumber_10 fX2_15 (rfl) (rfl) (hLv.2.1) ?_))
      refine r_icmp_ge dX2_readNumber_13 (by omega) (by omega) (fun c_13 => ?_) (fun c_13 => ?_)
      · skip
        exact jn_68 i Mv hbi hi fv h2 h3 h5 (by rw [← hr, rnl_no (by omega)])
      · skip
        have hta := htb i (by omega)
        refine r_aload_0 dX2_readNumber_16 (r_getR dX2_readNumber_17 fX2_9 (rfl) (rfl) (r_aload_0 dX2_readNumber_20 (r_getE dX2_readNumber_21 fX2_19 (rfl) (rfl) (h2) (r_ialN dX2_readNumber_24 (rfl) (by omega) (by omega) (hLv.2.2 i (by omega)) ?_))))
        refine r_cSI1 dX2_readNumber_25 sX2_41 (x_isDigit (d := 0) (by omega)) (by decide) (Nat.le_of_ble_eq_true rfl) (fun b_25 M_25 h_25 => ?_)
        obtain ⟨rfl, rfl⟩ := h_25
        first | refine r_ifd_eq dX2_readNumber_28 (fun c_28 => ?_) (fun c_28 => ?_) | refine r_ifb_eq dX2_readNumber_28 (fun c_28 => ?_) (fun c_28 => ?_)
        · skip
          exact jn_68 i Mv hbi hi fv h2 h3 h5 (by rw [← hr, rnl_no (fun w => c_28 (by have := w.2; unfold isD at this; exact of_decide_eq_true this))])
        · skip
          refine r_aload_0 dX2_readNumber_31 (r_bipush dX2_readNumber_32 (by decide) (r_aload_0 dX2_readNumber_34 (r_getE dX2_readNumber_35 fX2_28 (rfl) (rfl) (h5) (r_imul dX2_readNumber_38 (r_aload_0 dX2_readNumber_39 (r_getR dX2_readNumber_40 fX2_9 (rfl) (rfl) (r_aload_0 dX2_readNumber_43 (r_getE dX2_readNumber_44 fX2_19 (rfl) (rfl) (h2) (r_ialN dX2_readNumber_47 (rfl) (by omega) (by omega) (hLv.2.2 i (by omega)) (r_iadd dX2_readNumber_48 (r_bipush dX2_readNumber_49 (by decide) (r_isub dX2_readNumber_51 ?_))))))))))))
          refine r_as (w32_i3 _) ?_
          refine r_put dX2_readNumber_52 pX2_28 (rfl) (rfl) (by exact w32_ib _) ?_
          refine r_aload_0 dX2_readNumber_55 (r_dup_r dX2_readNumber_56 (r_getE (v := (i : Int)) dX2_readNumber_57 fX2_19 (rfl) (rfl) ((upM_ne (Or.inr (by decide))).trans h2) (r_iconst dX2_readNumber_60 (r_iadd dX2_readNumber_61 ?_))))
          refine r_put dX2_readNumber_62 pX2_19 (rfl) (rfl) (by omega) ?_
          refine r_goto dX2_readNumber_65 ?_
          exact ih (i + 1) _ (by omega) (by omega) ((fv.up (by decide)).up (by decide)) (by rw [upM_self]; omega) ((upM_ne (Or.inr (by decide))).trans ((upM_ne (Or.inr (by decide))).trans h3)) (by rw [upM_ne (Or.inr (by decide)), upM_self, show i + 1 - b = (i - b) + 1 by omega]; simp only [nvl]; rw [show b + (i - b) = i by omega]) ((rnl_go (by omega) (by unfold isD; exact decide_eq_true c_28)).symm.trans hr) (by omega)
  exact lp_5 _ b _ (Nat.le_refl _) (by omega) (FT.refl.up (by decide)) ((upM_ne (Or.inr (by decide))).trans hn) ((upM_ne (Or.inr (by decide))).trans hp) (by rw [upM_self, Nat.sub_self]; rfl) rfl (Nat.lt_succ_self _)
set_option maxRecDepth 10000 in
set_option maxHeartbeats 4000000 in
theorem x_adv {M : Mem} {tp : Nat → Int} {tn a : Nat} (hL : LT M tp tn) (hn : M 3 2 = (a : Int)) (ha : a ≤ tn) : Con GX 6 kX2_advance [rv 3] M (pV (fun M2 => FT M M2 ∧ M2 3 2 = (lxN tp tn a : Nat) ∧ M2 3 3 = (lxP tp tn a : Nat) ∧ M2 3 4 = lxT tp tn a ∧ (lxT tp tn a = 300 → M2 3 5 = lxV tp tn a))) := by
  refine con_of [some (rv 3)] (plX2) rfl (Nat.le_of_ble_eq_true rfl) (fun z => ?_)
  refine r_mb (fun hMB => ?_)
  have hL0 := hL
  obtain ⟨⟨ht160, htb⟩, hsz, hby⟩ := hL0
  have jn_52 : ∀ (i : Nat) (Mv : Mem) (hai : a ≤ i) (hi : i ≤ tn) (fv : FT M Mv) (h2 : Mv 3 2 = (i : Int)) (he : i = lxP tp tn a), WP kX2_advance GX 6 (pV (fun M2 => FT M M2 ∧ M2 3 2 = (lxN tp tn a : Nat) ∧ M2 3 3 = (lxP tp tn a : Nat) ∧ M2 3 4 = lxT tp tn a ∧ (lxT tp tn a = 300 → M2 3 5 = lxV tp tn a))) z 52 [some (rv 3)] [] Mv := by
    intro i Mv hai hi fv h2 he
    refine r_aload_0 dX2_advance_52 ?_
    refine r_aload_0 dX2_advance_53 (r_getE dX2_advance_54 fX2_19 (rfl) (rfl) (h2) ?_)
    refine r_put dX2_advance_57 pX2_22 (rfl) (rfl) (by omega) ?_
    obtain ⟨Mw, hMw⟩ : ∃ x, x = upM Mv 3 3 (i : Int) := ⟨_, rfl⟩
    rw [← hMw]
    have fw : FT M Mw := by rw [hMw]; exact fv.up (by decide)
    have hLw := hL.ft fw
    have w2 : Mw 3 2 = (i : Int) := by rw [hMw]; exact (upM_ne (Or.inr (by decide))).trans h2
    have w3 : Mw 3 3 = (i : Int) := by rw [hMw]; exact upM_self
    refine r_aload_0 dX2_advance_60 (r_getE dX2_advance_61 fX2_19 (rfl) (rfl) (w2) (r_aload_0 dX2_advance_64 (r_getE dX2_advance_65 fX2_15 (rfl) (rfl) (hLw.2.1) ?_)))
    refine r_icmp_lt dX2_advance_68 (by omega) (by omega) (fun c_68 => ?_) (fun c_68 => ?_)
    · skip
      have hta := htb i (by omega)
      refine r_aload_0 dX2_advance_79 (r_getR dX2_advance_80 fX2_9 (rfl) (rfl) (r_aload_0 dX2_advance_83 (r_getE dX2_advance_84 fX2_19 (rfl) (rfl) (w2) (r_ialN dX2_advance_87 (rfl) (by omega) (by omega) (hLw.2.2 i (by omega)) ?_))))
      refine r_cSI1 dX2_advance_88 sX2_34 (x_isLetter (d := 0) (by omega)) (by decide) (Nat.le_of_ble_eq_true rfl) (fun b_88 M_88 h_88 => ?_)
      obtain ⟨rfl, rfl⟩ := h_88
      first | refine r_ifd_eq dX2_advance_91 (fun c_91 => ?_) (fun c_91 => ?_) | refine r_ifb_eq dX2_advance_91 (fun c_91 => ?_) (fun c_91 => ?_)
      · skip
        refine r_aload_0 dX2_advance_101 (r_getR dX2_advance_102 fX2_9 (rfl) (rfl) (r_aload_0 dX2_advance_105 (r_getE dX2_advance_106 fX2_19 (rfl) (rfl) (w2) (r_ialN dX2_advance_109 (rfl) (by omega) (by omega) (hLw.2.2 i (by omega)) ?_))))
        refine r_cSI1 dX2_advance_110 sX2_41 (x_isDigit (d := 0) (by omega)) (by decide) (Nat.le_of_ble_eq_true rfl) (fun b_110 M_110 h_110 => ?_)
        obtain ⟨rfl, rfl⟩ := h_110
        first | refine r_ifd_eq dX2_advance_113 (fun c_113 => ?_) (fun c_113 => ?_) | refine r_ifb_eq dX2_advance_113 (fun c_113 => ?_) (fun c_113 => ?_)
        · skip
          have jn_153 : ∀ (v : Int) (hv : v = if isS (tp i) = true then tp i else -2), WP kX2_advance GX 6 (pV (fun M2 => FT M M2 ∧ M2 3 2 = (lxN tp tn a : Nat) ∧ M2 3 3 = (lxP tp tn a : Nat) ∧ M2 3 4 = lxT tp tn a ∧ (lxT tp tn a = 300 → M2 3 5 = lxV tp tn a))) z 153 [some (rv 3)] [iv v, rv 3] Mw := by
            intro v hv
            refine r_put dX2_advance_153 pX2_25 (rfl) (rfl) (by rw [hv]; split <;> omega) ?_
            refine r_aload_0 dX2_advance_156 (r_dup_r dX2_advance_157 (r_getE (v := (i : Int)) dX2_advance_158 fX2_19 (rfl) (rfl) ((upM_ne (Or.inr (by decide))).trans w2) (r_iconst dX2_advance_161 (r_iadd dX2_advance_162 ?_))))
            refine r_put dX2_advance_163 pX2_19 (rfl) (rfl) (by omega) ?_
            refine r_vreturn dX2_advance_166 rfl ?_
            refine ⟨rfl, ((fw.up (by decide)).up (by decide)), ?_, ?_, ?_, fun hq => ?_⟩
            · unfold lxN
              rw [← he]
              rw [if_neg (by omega)]
              rw [if_neg (show ¬ isL (tp i) = true by unfold isL; rw [decide_eq_true_eq]; exact c_91)]
              rw [if_neg (show ¬ isD (tp i) = true by unfold isD; rw [decide_eq_true_eq]; exact c_113)]
              rw [upM_self]
              omega
            · exact (upM_ne (Or.inr (by decide))).trans ((upM_ne (Or.inr (by decide))).trans (by rw [w3, he]))
            · unfold lxT
              rw [← he]
              rw [if_neg (by omega)]
              rw [if_neg (show ¬ isL (tp i) = true by unfold isL; rw [decide_eq_true_eq]; exact c_91)]
              rw [if_neg (show ¬ isD (tp i) = true by unfold isD; rw [decide_eq_true_eq]; exact c_113)]
              rw [upM_ne (Or.inr (by decide)), upM_self]
              exact hv
            · unfold lxV
              unfold lxT at hq
              rw [← he] at hq ⊢
              rw [if_neg (by omega)] at hq
              rw [if_neg (show ¬ isL (tp i) = true by unfold isL; rw [decide_eq_true_eq]; exact c_91)] at hq
              rw [if_neg (show ¬ isD (tp i) = true by unfold isD; rw [decide_eq_true_eq]; exact c_113)] at hq
              split at hq <;> omega
          refine r_aload_0 dX2_advance_123 (r_aload_0 dX2_advance_124 (r_getR dX2_advance_125 fX2_9 (rfl) (rfl) (r_aload_0 dX2_advance_128 (r_getE dX2_advance_129 fX2_19 (rfl) (rfl) (w2) (r_ialN dX2_advance_132 (rfl) (by omega) (by omega) (hLw.2.2 i (by omega)) ?_)))))
          refine r_cSI1 dX2_advance_133 sX2_47 (x_isSign (d := 0) (by omega)) (by decide) (Nat.le_of_ble_eq_true rfl) (fun b_133 M_133 h_133 => ?_)
          obtain ⟨rfl, rfl⟩ := h_133
          first | refine r_ifd_eq dX2_advance_136 (fun c_136 => ?_) (fun c_136 => ?_) | refine r_ifb_eq dX2_advance_136 (fun c_136 => ?_) (fun c_136 => ?_)
          · skip
            refine r_bipush dX2_advance_151 (by decide) ?_
            exact jn_153 _ (by rw [if_neg (by unfold isS; rw [decide_eq_true_eq]; exact c_136)])
          · skip
            refine r_aload_0 dX2_advance_139 (r_getR dX2_advance_140 fX2_9 (rfl) (rfl) (r_aload_0 dX2_advance_143 (r_getE dX2_advance_144 fX2_19 (rfl) (rfl) (w2) (r_ialN dX2_advance_147 (rfl) (by omega) (by omega) (hLw.2.2 i (by omega)) (r_goto dX2_advance_148 ?_)))))
            exact jn_153 _ (by rw [if_pos (by unfold isS; rw [decide_eq_true_eq]; exact c_136)])
        · skip
          refine r_aload_0 dX2_advance_116 ?_
          refine r_cVV0 dX2_advance_117 vX2_44 (rfl) (x_readNumber hLw w3 w2 (by omega)) (by decide) (Nat.le_of_ble_eq_true rfl) (fun M_117 h_117 => ?_)
          obtain ⟨r1, r2, r3, r4, r5⟩ := h_117
          refine r_goto dX2_advance_120 ?_
          refine r_vreturn dX2_advance_166 rfl ?_
          refine ⟨rfl, fw.trans r1, ?_, ?_, ?_, fun hq => ?_⟩
          · unfold lxN
            rw [← he]
            rw [if_neg (by omega)]
            rw [if_neg (show ¬ isL (tp i) = true by unfold isL; rw [decide_eq_true_eq]; exact c_91)]
            rw [if_pos (show isD (tp i) = true by unfold isD; rw [decide_eq_true_eq]; exact c_113)]
            exact r3
          · rw [r2, he]
          · unfold lxT
            rw [← he]
            rw [if_neg (by omega)]
            rw [if_neg (show ¬ isL (tp i) = true by unfold isL; rw [decide_eq_true_eq]; exact c_91)]
            rw [if_pos (show isD (tp i) = true by unfold isD; rw [decide_eq_true_eq]; exact c_113)]
            exact r4
          · unfold lxV
            unfold lxT at hq
            rw [← he] at hq ⊢
            exact r5
      · skip
        refine r_aload_0 dX2_advance_94 ?_
        refine r_cVV0 dX2_advance_95 vX2_38 (rfl) (x_readWord hLw w3 w2 (by omega)) (by decide) (Nat.le_of_ble_eq_true rfl) (fun M_95 h_95 => ?_)
        obtain ⟨r1, r2, r3, r4⟩ := h_95
        refine r_goto dX2_advance_98 ?_
        refine r_vreturn dX2_advance_166 rfl ?_
        refine ⟨rfl, fw.trans r1, ?_, ?_, ?_, fun hq => ?_⟩
        · unfold lxN
          rw [← he]
          rw [if_neg (by omega)]
          rw [if_pos (show isL (tp i) = true by unfold isL; rw [decide_eq_true_eq]; exact c_91)]
          exact r3
        · rw [r2, he]
        · unfold lxT
          rw [← he]
          rw [if_neg (by omega)]
          rw [if_pos (show isL (tp i) = true by unfold isL; rw [decide_eq_true_eq]; exact c_91)]
          exact r4
        · unfold lxV
          unfold lxT at hq
          rw [← he] at hq ⊢
          rw [if_neg (by omega)] at hq
          rw [if_pos (show isL (tp i) = true by unfold isL; rw [decide_eq_true_eq]; exact c_91)] at hq
          have := wdc_in tp i (rnE isL tp tn i)
          omega
    · skip
      refine r_aload_0 dX2_advance_71 (r_iconst dX2_advance_72 ?_)
      refine r_put dX2_advance_73 pX2_25 (rfl) (rfl) (by omega) ?_
      refine r_goto dX2_advance_76 ?_
      refine r_vreturn dX2_advance_166 rfl ?_
      refine ⟨rfl, fw.up (by decide), ?_, ?_, ?_, fun hq => ?_⟩
      · unfold lxN
        rw [← he]
        rw [if_pos (by omega)]
        exact (upM_ne (Or.inr (by decide))).trans w2
      · exact (upM_ne (Or.inr (by decide))).trans (by rw [w3, he])
      · unfold lxT
        rw [← he]
        rw [if_pos (by omega), upM_self]
      · unfold lxV
        unfold lxT at hq
        rw [← he] at hq ⊢
        rw [if_pos (by omega)] at hq
        omega
  have lp_0 : ∀ (NN : Nat) (i : Nat) (Mv : Mem) (hai : a ≤ i) (hi : i ≤ tn) (fv : FT M Mv) (h2 : Mv 3 2 = (i : Int)) (hr : skp tp tn (tn - i) i = lxP tp tn a), tn - i < NN → WP kX2_advance GX 6 (pV (fun M2 => FT M M2 ∧ M2 3 2 = (lxN tp tn a : Nat) ∧ M2 3 3 = (lxP tp tn a : Nat) ∧ M2 3 4 = lxT tp tn a ∧ (lxT tp tn a = 300 → M2 3 5 = lxV tp tn a))) z 0 [some (rv 3)] [] Mv := by
    intro NN
    induction NN with
    | zero => intros; omega
    | succ NN ih =>
      intro i Mv hai hi fv h2 hr hm
      have hLv := hL.ft fv
      refine r_aload_0 dX2_advance_0 ?_
      refine r_getE dX2_advance_1 fX2_19 (rfl) (rfl) (h2) (r_aload_0 dX2_advance_4 (r_getE dX2_advance_5 fX2_15 (rfl) (rfl) (hLv.2.1) ?_))
      refine r_icmp_ge dX2_advance_8 (by omega) (by omega) (fun c_8 => ?_) (fun c_8 => ?_)
      · skip
        exact jn_52 i Mv hai hi fv h2 (by rw [← hr, skp_no (by omega)])
      · skip
        have hta := htb i (by omega)
        refine r_aload_0 dX2_advance_11 (r_getR dX2_advance_12 fX2_9 (rfl) (rfl) (r_aload_0 dX2_advance_15 (r_getE dX2_advance_16 fX2_19 (rfl) (rfl) (h2) (r_ialN dX2_advance_19 (rfl) (by omega) (by omega) (hLv.2.2 i (by omega)) (r_bipush dX2_advance_20 (by decide) ?_)))))
        refine r_icmp_eq dX2_advance_22 (by omega) (by omega) (fun c_22 => ?_) (fun c_22 => ?_)
        · skip
          refine r_aload_0 dX2_advance_39 (r_dup_r dX2_advance_40 (r_getE dX2_advance_41 fX2_19 (rfl) (rfl) (h2) (r_iconst dX2_advance_44 (r_iadd dX2_advance_45 ?_))))
          refine r_put dX2_advance_46 pX2_19 (rfl) (rfl) (by omega) ?_
          refine r_goto dX2_advance_49 ?_
          exact ih (i + 1) _ (by omega) (by omega) (fv.up (by decide)) (by rw [upM_self]; omega) ((skp_go (by omega) (by omega)).symm.trans hr) (by omega)
        · skip
          refine r_aload_0 dX2_advance_25 (r_getR dX2_advance_26 fX2_9 (rfl) (rfl) (r_aload_0 dX2_advance_29 (r_getE dX2_advance_30 fX2_19 (rfl) (rfl) (h2) (r_ialN dX2_advance_33 (rfl) (by omega) (by omega) (hLv.2.2 i (by omega)) (r_bipush dX2_advance_34 (by decide) ?_)))))
          refine r_icmp_ne dX2_advance_36 (by omega) (by omega) (fun c_36 => ?_) (fun c_36 => ?_)
          · skip
            exact jn_52 i Mv hai hi fv h2 (by rw [← hr, skp_no (by omega)])
          · skip
            refine r_aload_0 dX2_advance_39 (r_dup_r dX2_advance_40 (r_getE dX2_advance_41 fX2_19 (rfl) (rfl) (h2) (r_iconst dX2_advance_44 (r_iadd dX2_advance_45 ?_))))
            refine r_put dX2_advance_46 pX2_19 (rfl) (rfl) (by omega) ?_
            refine r_goto dX2_advance_49 ?_
            exact ih (i + 1) _ (by omega) (by omega) (fv.up (by decide)) (by rw [upM_self]; omega) ((skp_go (by omega) (by omega)).symm.trans hr) (by omega)
  exact lp_0 _ a M (Nat.le_refl _) (by omega) FT.refl hn rfl (Nat.lt_succ_self _)
set_option maxRecDepth 10000 in
set_option maxHeartbeats 4000000 in
theorem x_rewind {M : Mem} {tp : Nat → Int} {tn : Nat} (hL : LT M tp tn) : Con GX 7 kX2_rewind [rv 3] M (pV (fun M2 => FT M M2 ∧ M2 3 2 = (lxN tp tn 0 : Nat) ∧ M2 3 3 = (lxP tp tn 0 : Nat) ∧ M2 3 4 = lxT tp tn 0 ∧ (lxT tp tn 0 = 300 → M2 3 5 = lxV tp tn 0))) := by
  refine con_of [some (rv 3)] (plX2) rfl (Nat.le_of_ble_eq_true rfl) (fun z => ?_)
  refine r_aload_0 dX2_rewind_0 (r_iconst dX2_rewind_1 ?_)
  refine r_put dX2_rewind_2 pX2_19 (rfl) (rfl) (by omega) ?_
  refine r_aload_0 dX2_rewind_5 ?_
  refine r_cVV0 dX2_rewind_6 vX2_31 (rfl) (x_adv (hL.ft (FT.refl.up (by decide))) (a := 0) upM_self (Nat.zero_le _)) (by decide) (Nat.le_of_ble_eq_true rfl) (fun M_6 h_6 => ?_)
  obtain ⟨r1, r2⟩ := h_6
  refine r_vreturn dX2_rewind_9 rfl ?_
  exact ⟨rfl, (FT.refl.up (by decide)).trans r1, r2⟩

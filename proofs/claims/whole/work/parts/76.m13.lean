theorem sg_12 {T : Int} (h : 0 ≤ rk T) : sg T ≤ 12 ↔ rk T ≤ 1 := by
  unfold sg
  unfold rk at h ⊢
  (repeat' split) <;> (repeat' split at h) <;> omega
theorem lvl_e {T : Int} (h : 0 ≤ rk T) : (if mrk (sg T) = 4 then 5 else mrk (sg T)) = lvl T ∧ (mrk (sg T) = 4 ↔ rk T = 2) := by
  have hs := (rk_sg rfl h).2.2
  have h2 : mrk (sg T) = 4 ↔ rk T = 2 := by omega
  refine ⟨?_, h2⟩
  unfold lvl
  by_cases q : rk T = 2
  · rw [if_pos (h2.mpr q), if_pos q]
  · rw [if_neg (fun w => q (h2.mp w)), if_neg q]
set_option maxRecDepth 10000 in
set_option maxHeartbeats 4000000 in
theorem m_eRead {nT tn j : Nat} {M : Mem} {tp : Nat → Int} {o : List Int} {R : RS} (hL : LM M tp tn) (hn : nT < 6) (h10 : M 0 10 = (nT : Int)) (h19 : M 0 19 = (ps tp tn j : Nat)) (h27 : M 0 27 = (o.length : Int)) (hco : ∀ i, i < o.length → M 6 (200 * nT + i) = o.getD i 0) (ho : o.length ≤ j) (hj : 1 ≤ j ∧ j ≤ 160) (hR0 : mrun (tk tp tn) (vl tp tn) 160 j true true [] o = R) : Con GM 3 kX6_eRead [rv 0] M (pI (fun a M2 => a = bi R.2.isSome ∧ (∀ j2 p, R = (j2, some p) → M2 0 19 = (ps tp tn j2 : Nat) ∧ M2 0 27 = (p.length : Int) ∧ ∀ i, i < p.length → M2 6 (200 * nT + i) = p.getD i 0) ∧ (∀ j2, R = (j2, none) → M2 0 20 = (pl tp tn j2 : Nat)) ∧ Fm (mE nT) M M2)) := by
  refine con_of [some (rv 0), none, none, none] (plX6) rfl (Nat.le_of_ble_eq_true rfl) (fun z => ?_)
  refine r_aload_0 dX6_eRead_0 (r_iconst dX6_eRead_1 ?_)
  refine r_put dX6_eRead_2 pX6_127 (rfl) (rfl) (by omega) ?_
  refine r_aload_0 dX6_eRead_5 (r_iconst dX6_eRead_6 ?_)
  refine r_put dX6_eRead_7 pX6_133 (rfl) (rfl) (by omega) ?_
  obtain ⟨Ma, hMa⟩ : ∃ x, x = upM (upM M 0 25 0) 0 26 0 := ⟨_, rfl⟩
  rw [← hMa]
  have fa : Fm (mE nT) M Ma := by rw [hMa]; exact (Fm.refl.up (by omega)).up (by omega)
  have ea : ∀ c i, ¬ (c = 0 ∧ (i = 25 ∨ i = 26)) → Ma c i = M c i := fun c i w => by rw [hMa, upM_ne (by omega), upM_ne (by omega)]
  have hsa : HS Ma nT [] o := ⟨(ea _ _ (by omega)).trans h10, by rw [hMa, upM_ne (by omega), upM_self]; rfl, by rw [hMa, upM_self]; rfl, (ea _ _ (by omega)).trans h27, trivial, fun i hi => (ea _ _ (by omega)).trans (hco i hi), by rw [List.length_nil]; omega⟩
  have a19 := (ea 0 19 (by omega)).trans h19
  refine r_iconst dX6_eRead_10 (r_istore_1 dX6_eRead_11 rfl (r_iconst dX6_eRead_12 (r_istore_2 dX6_eRead_13 rfl ?_)))
  have lp_14 : ∀ (NN : Nat) (n j : Nat) (w mn : Bool) (H o : List Int) (u3 : Option PV) (Mv : Mem) (hf : 161 ≤ j + n) (hj2 : j ≤ 160) (hlo : H.length + o.length ≤ j) (hR_ : mrun (tk tp tn) (vl tp tn) n j w mn H o = R) (hv : HS Mv nT H o) (v19 : Mv 0 19 = (ps tp tn j : Nat)) (fv : Fm (mE nT) M Mv), n < NN → WP kX6_eRead GM 3 (pI (fun a M2 => a = bi R.2.isSome ∧ (∀ j2 p, R = (j2, some p) → M2 0 19 = (ps tp tn j2 : Nat) ∧ M2 0 27 = (p.length : Int) ∧ ∀ i, i < p.length → M2 6 (200 * nT + i) = p.getD i 0) ∧ (∀ j2, R = (j2, none) → M2 0 20 = (pl tp tn j2 : Nat)) ∧ Fm (mE nT) M M2)) z 14 [some (rv 0), some (iv (bi w)), some (iv (bi mn)), u3] [] Mv := by
    intro NN
    induction NN with
    | zero => intros; omega
    | succ NN ih =>
      intro n j w mn H o u3 Mv hf hj2 hlo hR_ hv v19 fv hm
      have hLv : LM Mv tp tn := hL.fr fv (fun c i w => by omega)
      obtain ⟨m, rfl⟩ : ∃ m, n = m + 1 := ⟨n - 1, by omega⟩
      have hTS := TS_tk (tp := tp) (tn := tn) (j := j)
      have hTI := hTS.ti
      have hmi := hTS.mi
      have hadv := fun h => adv_le (t := tk tp tn) (tk_end hL.1.1) (j := j) h
      refine r_aload_0 dX6_eRead_14 ?_
      refine r_cVV0 dX6_eRead_15 vX6_146 (rfl) (m_next (a := ps tp tn j) hLv v19 (ps_in j)) (by decide) (Nat.le_of_ble_eq_true rfl) (fun M_15 h_15 => ?_)
      obtain ⟨nx, f1⟩ := h_15
      have hs1 := hv.nx f1
      obtain ⟨n19, n20, n21, nx1, nx2, nx3⟩ := nx
      have n19 : M_15 0 19 = (ps tp tn (j + 1) : Nat) := n19
      have n20 : M_15 0 20 = (pl tp tn j : Nat) := n20
      have n21 : M_15 0 21 = mtk (tk tp tn j) := n21
      have nx1 : tk tp tn j = 300 → M_15 0 22 = vl tp tn j := nx1
      have nx3 : 262 ≤ tk tp tn j ∧ tk tp tn j ≤ 267 → M_15 0 22 = tk tp tn j - 262 := nx3
      clear nx2
      have f2 : Fm (mE nT) M M_15 := fv.trans f1.nE
      refine r_iload_1 dX6_eRead_18 ?_
      refine r_ifb_eq dX6_eRead_19 (fun c_19 => ?_) (fun c_19 => ?_)
      · skip
        subst c_19
        simp only [mrun] at hR_
        refine r_aload_0 dX6_eRead_150 (r_getE dX6_eRead_151 fX6_114 (rfl) (rfl) (n21) (r_bipush dX6_eRead_154 (by decide) ?_))
        refine r_icmp_ne dX6_eRead_156 (by omega) (by omega) (fun c_156 => ?_) (fun c_156 => ?_)
        · skip
          rw [if_neg (fun e => c_156 (hTI.2.2.2.2.2.1.mpr e))] at hR_
          refine r_aload_0 dX6_eRead_177 (r_getE dX6_eRead_178 fX6_114 (rfl) (rfl) (n21) (r_bipush dX6_eRead_181 (by decide) ?_))
          refine r_icmp_ne dX6_eRead_183 (by omega) (by omega) (fun c_183 => ?_) (fun c_183 => ?_)
          · skip
            rw [if_neg (fun e => c_183 (hTI.2.2.2.2.2.2.1.mpr e))] at hR_
            refine r_aload_0 dX6_eRead_229 ?_
            refine r_cVI0 dX6_eRead_230 vX6_153 (rfl) (m_sgt (d := 0) n21 hTS) (by decide) (Nat.le_of_ble_eq_true rfl) (fun b_230 M_230 h_230 => ?_)
            obtain ⟨rfl, rfl⟩ := h_230
            refine r_istore_3 dX6_eRead_233 rfl (r_iload_3 dX6_eRead_234 (r_iconst dX6_eRead_235 ?_))
            refine r_icmp_eq dX6_eRead_236 (by have := sg_rk (T := tk tp tn j); omega) (by have := sg_rk (T := tk tp tn j); omega) (fun c_236 => ?_) (fun c_236 => ?_)
            · skip
              rw [if_pos (sg_rk.1 c_236)] at hR_
              refine r_iconst dX6_eRead_247 ?_
              refine r_zreturn dX6_eRead_248 rfl (by first | exact bi_01 _ | omega | decide) ?_
              exact ⟨_, rfl, by rw [← hR_]; rfl, fun j2 p w => by rw [← hR_] at w; simp at w, fun j2 w => by rw [← hR_] at w; simp only [Prod.mk.injEq, and_true] at w; rw [← w]; exact n20, f2⟩
            · skip
              have hrk := sg_rk.2.1 c_236
              rw [if_neg (by omega)] at hR_
              have hrs := rk_sg rfl hrk
              have hlv := lvl_e hrk
              have had := hadv (fun e => by rw [e] at hrk; revert hrk; decide)
              refine r_aload_0 dX6_eRead_239 (r_iload_3 dX6_eRead_240 ?_)
              refine r_cVI1 dX6_eRead_241 vX6_156 (rfl) (m_betw hs1 hn (by omega) hrs.2.1) (by decide) (Nat.le_of_ble_eq_true rfl) (fun b_241 M_241 h_241 => ?_)
              obtain ⟨rfl, hs2, f3⟩ := h_241
              rw [hlv.1] at hs2
              rw [hlv.1]
              first | refine r_ifd_ne dX6_eRead_244 (fun c_244 => ?_) (fun c_244 => ?_) | refine r_ifb_ne dX6_eRead_244 (fun c_244 => ?_) (fun c_244 => ?_)
              · skip
                rw [if_neg (fun w => c_244 ⟨hlv.2.mpr w.1, w.2⟩)] at hR_
                have hul := uw_len (lvl (tk tp tn j)) H o
                refine r_iconst dX6_eRead_249 (r_istore_1 dX6_eRead_250 rfl (r_iload_3 dX6_eRead_251 (r_bipush dX6_eRead_252 (by decide) ?_)))
                refine r_icmp_gt dX6_eRead_254 (by have := hrs.2.1; omega) (by have := hrs.2.1; omega) (fun c_254 => ?_) (fun c_254 => ?_)
                · skip
                  refine r_iconst dX6_eRead_261 (r_istore_2 dX6_eRead_262 rfl (r_goto dX6_eRead_263 ?_))
                  rw [decide_eq_false (fun w => by have := (sg_12 hrk).mpr w; omega)] at hR_
                  exact ih m (j + 1) true false _ _ _ M_241 (by omega) had (by rw [List.length_cons]; omega) (hR_) (hs2 c_244) ((f3 0 19 (by omega)).trans n19) (f2.trans f3.uE) (by omega)
                · skip
                  refine r_iconst dX6_eRead_257 (r_goto dX6_eRead_258 (r_istore_2 dX6_eRead_262 rfl (r_goto dX6_eRead_263 ?_)))
                  rw [decide_eq_true ((sg_12 hrk).mp (by omega))] at hR_
                  exact ih m (j + 1) true true _ _ _ M_241 (by omega) had (by rw [List.length_cons]; omega) (hR_) (hs2 c_244) ((f3 0 19 (by omega)).trans n19) (f2.trans f3.uE) (by omega)
              · skip
                rw [if_pos (by have := Decidable.of_not_not c_244; exact ⟨hlv.2.mp this.1, this.2⟩)] at hR_
                refine r_iconst dX6_eRead_247 ?_
                refine r_zreturn dX6_eRead_248 rfl (by first | exact bi_01 _ | omega | decide) ?_
                exact ⟨_, rfl, by rw [← hR_]; rfl, fun j2 p w => by rw [← hR_] at w; simp at w, fun j2 w => by rw [← hR_] at w; simp only [Prod.mk.injEq, and_true] at w; rw [← w]; exact (f3 0 20 (by omega)).trans n20, f2.trans f3.uE⟩
          · skip
            have hT5 := hTI.2.2.2.2.2.2.1.mp c_183
            rw [if_pos hT5] at hR_
            have had := hadv (by omega)
            refine r_aload_0 dX6_eRead_186 (r_iconst dX6_eRead_187 ?_)
            refine r_cVV1 dX6_eRead_188 vX6_143 (rfl) (m_unw hs1 hn (by omega) (by omega)) (by decide) (Nat.le_of_ble_eq_true rfl) (fun M_188 h_188 => ?_)
            obtain ⟨hs2, f3⟩ := h_188
            have hul := uw_len 1 H o
            have hut := fun (s : Int) (T2 : List Int) => uw_top 1 (s := s) (H2 := T2) H o
            obtain ⟨G, p, hu⟩ : ∃ G p, uw 1 H o = (G, p) := ⟨_, _, rfl⟩
            rw [hu] at hs2 hR_ hul hut
            have hs2 : HS M_188 nT G p := hs2
            have hul : G.length + p.length = H.length + o.length := hul
            have hut : ∀ (s : Int) (T2 : List Int), G = s :: T2 → mrk s < 1 := hut
            dsimp only at hR_
            refine r_aload_0 dX6_eRead_191 (r_getE dX6_eRead_192 fX6_127 (rfl) (rfl) (hs2.2.1) ?_)
            refine r_if_ne dX6_eRead_195 (by have := hs2.2.2.2.2.2.2; omega) (fun c_195 => ?_) (fun c_195 => ?_)
            · skip
              obtain ⟨s, T2, rfl⟩ : ∃ s T2, G = s :: T2 := by
                cases G with
                | nil => exact absurd rfl c_195
                | cons s T2 => exact ⟨s, T2, rfl⟩
              have hos := opn_0 (H := T2) (Or.inl (mrk_0 (hut s T2 rfl)))
              have hol := opn_le T2
              have hll : (s :: T2).length = T2.length + 1 := List.length_cons
              dsimp only at hR_
              refine r_aload_0 dX6_eRead_200 (r_dup_r dX6_eRead_201 (r_getE dX6_eRead_202 fX6_127 (rfl) (rfl) (hs2.2.1) (r_iconst dX6_eRead_205 (r_isub dX6_eRead_206 ?_))))
              refine r_eq (T2.length : Int) (by omega) ?_
              refine r_put dX6_eRead_207 pX6_127 (rfl) (rfl) (by omega) ?_
              refine r_aload_0 dX6_eRead_210 (r_dup_r dX6_eRead_211 (r_getE dX6_eRead_212 fX6_133 (rfl) (rfl) ((upM_ne (by omega)).trans hs2.2.2.1) (r_iconst dX6_eRead_215 (r_isub dX6_eRead_216 ?_))))
              refine r_eq ((opn T2 : Nat) : Int) (by omega) ?_
              refine r_put dX6_eRead_217 pX6_133 (rfl) (rfl) (by omega) ?_
              refine r_aload_0 dX6_eRead_220 (r_bipush dX6_eRead_221 (by decide) ?_)
              refine r_cVV1 dX6_eRead_223 vX6_143 (rfl) (m_unw hs2.pop hn (by omega) (by omega)) (by decide) (Nat.le_of_ble_eq_true rfl) (fun M_223 h_223 => ?_)
              obtain ⟨hs3, f4⟩ := h_223
              refine r_goto dX6_eRead_226 ?_
              exact ih m (j + 1) false mn _ _ _ M_223 (by omega) had (by rw [uw_len]; omega) ((mrun_f (b := false)).trans hR_) hs3 ((f4 0 19 (by omega)).trans ((upM_ne (by omega)).trans ((upM_ne (by omega)).trans ((f3 0 19 (by omega)).trans n19)))) (f2.trans (((f3.uE.up (by omega)).up (by omega)).trans f4.uE)) (by omega)
            · skip
              obtain rfl : G = [] := List.eq_nil_of_length_eq_zero (by omega)
              dsimp only at hR_
              refine r_iconst dX6_eRead_198 ?_
              refine r_zreturn dX6_eRead_199 rfl (by first | exact bi_01 _ | omega | decide) ?_
              exact ⟨_, rfl, by rw [← hR_]; rfl, fun j2 p w => by rw [← hR_] at w; simp at w, fun j2 w => by rw [← hR_] at w; simp only [Prod.mk.injEq, and_true] at w; rw [← w]; exact (f3 0 20 (by omega)).trans n20, f2.trans f3.uE⟩
        · skip
          have hT5 := hTI.2.2.2.2.2.1.mp c_156
          rw [if_pos hT5] at hR_
          have had := hadv (by omega)
          refine r_aload_0 dX6_eRead_159 (r_iconst dX6_eRead_160 ?_)
          refine r_cVV1 dX6_eRead_161 vX6_143 (rfl) (m_unw hs1 hn (by omega) (by omega)) (by decide) (Nat.le_of_ble_eq_true rfl) (fun M_161 h_161 => ?_)
          obtain ⟨hs2, f3⟩ := h_161
          have hul := uw_len 1 H o
          have hut := fun (s : Int) (T2 : List Int) => uw_top 1 (s := s) (H2 := T2) H o
          obtain ⟨G, p, hu⟩ : ∃ G p, uw 1 H o = (G, p) := ⟨_, _, rfl⟩
          rw [hu] at hs2 hR_ hul hut
          have hs2 : HS M_161 nT G p := hs2
          have hul : G.length + p.length = H.length + o.length := hul
          have hut : ∀ (s : Int) (T2 : List Int), G = s :: T2 → mrk s < 1 := hut
          dsimp only at hR_
          refine r_aload_0 dX6_eRead_164 (r_getE dX6_eRead_165 fX6_127 (rfl) (rfl) (hs2.2.1) ?_)
          refine r_if_ne dX6_eRead_168 (by have := hs2.2.2.2.2.2.2; omega) (fun c_168 => ?_) (fun c_168 => ?_)
          · skip
            rw [if_neg (fun e => by subst e; exact c_168 rfl)] at hR_
            refine r_iconst dX6_eRead_175 ?_
            refine r_zreturn dX6_eRead_176 rfl (by first | exact bi_01 _ | omega | decide) ?_
            exact ⟨_, rfl, by rw [← hR_]; rfl, fun j2 p w => by rw [← hR_] at w; simp at w, fun j2 w => by rw [← hR_] at w; simp only [Prod.mk.injEq, and_true] at w; rw [← w]; exact (f3 0 20 (by omega)).trans n20, f2.trans f3.uE⟩
          · skip
            rw [if_pos (List.eq_nil_of_length_eq_zero (by omega))] at hR_
            refine r_iconst dX6_eRead_171 (r_goto dX6_eRead_172 ?_)
            refine r_zreturn dX6_eRead_176 rfl (by first | exact bi_01 _ | omega | decide) ?_
            exact ⟨_, rfl, by rw [← hR_]; rfl, fun j2 q w => by rw [← hR_] at w; simp only [Prod.mk.injEq, Option.some.injEq] at w; obtain ⟨rfl, rfl⟩ := w; exact ⟨(f3 0 19 (by omega)).trans n19, hs2.2.2.2.1, hs2.2.2.2.2.2.1⟩, fun j2 w => by rw [← hR_] at w; simp at w, f2.trans f3.uE⟩
      · skip
        subst c_19
        simp only [mrun] at hR_
        refine r_aload_0 dX6_eRead_22 (r_getE dX6_eRead_23 fX6_114 (rfl) (rfl) (n21) (r_iconst dX6_eRead_26 ?_))
        refine r_icmp_eq dX6_eRead_27 (by omega) (by omega) (fun c_27 => ?_) (fun c_27 => ?_)
        · skip
          have hT3 := hTI.1.mp c_27
          rw [if_pos hT3] at hR_
          have hv3 := vl_in j hT3
          have had := hadv (by omega)
          refine r_aload_0 dX6_eRead_38 (r_aload_0 dX6_eRead_39 (r_getE dX6_eRead_40 fX6_114 (rfl) (rfl) (n21) (r_iconst dX6_eRead_43 ?_)))
          refine r_icmp_ne dX6_eRead_44 (by omega) (by omega) (fun c_44 => ?_) (fun c_44 => ?_)
          · exfalso; omega
          · skip
            skip
            refine r_ldc (a := 100000) dX6_eRead_47 qX6_149 (r_aload_0 dX6_eRead_49 (r_getE dX6_eRead_50 fX6_117 (rfl) (rfl) (nx1 hT3) (r_iadd dX6_eRead_53 (r_goto dX6_eRead_54 ?_))))
            refine r_cVV1 dX6_eRead_61 vX6_136 (rfl) (m_puts (d := 0) hs1 hn (by omega) (by omega)) (by decide) (Nat.le_of_ble_eq_true rfl) (fun M_61 h_61 => ?_)
            obtain ⟨hs2, f3⟩ := h_61
            refine r_aload_0 dX6_eRead_64 (r_bipush dX6_eRead_65 (by decide) ?_)
            refine r_cVV1 dX6_eRead_67 vX6_143 (rfl) (m_unw hs2 hn (by omega) (by omega)) (by decide) (Nat.le_of_ble_eq_true rfl) (fun M_67 h_67 => ?_)
            obtain ⟨hs3, f4⟩ := h_67
            refine r_iconst dX6_eRead_70 (r_istore_1 dX6_eRead_71 rfl (r_goto dX6_eRead_72 ?_))
            exact ih m (j + 1) false mn _ _ _ M_67 (by omega) had (by rw [uw_len, List.length_append, List.length_singleton]; omega) ((mrun_f (b := false)).trans hR_) hs3 ((f4 0 19 (by omega)).trans ((f3 0 19 (by omega)).trans n19)) (f2.trans (f3.uE.trans f4.uE)) (by omega)
        · skip
          have hT3 := fun e => c_27 (hTI.1.mpr e)
          rw [if_neg hT3] at hR_
          refine r_aload_0 dX6_eRead_30 (r_getE dX6_eRead_31 fX6_114 (rfl) (rfl) (n21) (r_iconst dX6_eRead_34 ?_))
          refine r_icmp_ne dX6_eRead_35 (by omega) (by omega) (fun c_35 => ?_) (fun c_35 => ?_)
          · skip
            have hT2 := fun e => c_35 (hTI.2.1.mpr e)
            rw [if_neg hT2] at hR_
            have jn_99 : ∀ (hng : ¬ (tk tp tn j = 261 ∧ mn = true)), WP kX6_eRead GM 3 (pI (fun a M2 => a = bi R.2.isSome ∧ (∀ j2 p, R = (j2, some p) → M2 0 19 = (ps tp tn j2 : Nat) ∧ M2 0 27 = (p.length : Int) ∧ ∀ i, i < p.length → M2 6 (200 * nT + i) = p.getD i 0) ∧ (∀ j2, R = (j2, none) → M2 0 20 = (pl tp tn j2 : Nat)) ∧ Fm (mE nT) M M2)) z 99 [some (rv 0), some (iv (bi true)), some (iv (bi mn)), u3] [] M_15 := by
              intro hng
              rw [if_neg hng] at hR_
              refine r_aload_0 dX6_eRead_99 ?_
              refine r_getE dX6_eRead_100 fX6_114 (rfl) (rfl) (n21) (r_bipush dX6_eRead_103 (by decide) ?_)
              refine r_icmp_ne dX6_eRead_105 (by omega) (by omega) (fun c_105 => ?_) (fun c_105 => ?_)
              · skip
                rw [if_neg (fun e => c_105 (hTI.2.2.2.1.mpr e))] at hR_
                refine r_aload_0 dX6_eRead_124 (r_getE dX6_eRead_125 fX6_114 (rfl) (rfl) (n21) (r_bipush dX6_eRead_128 (by decide) ?_))
                refine r_icmp_ne dX6_eRead_130 (by omega) (by omega) (fun c_130 => ?_) (fun c_130 => ?_)
                · skip
                  rw [if_neg (fun e => c_130 (hTI.2.2.2.2.1.mpr e))] at hR_
                  refine r_iconst dX6_eRead_148 ?_
                  refine r_zreturn dX6_eRead_149 rfl (by first | exact bi_01 _ | omega | decide) ?_
                  exact ⟨_, rfl, by rw [← hR_]; rfl, fun j2 p w => by rw [← hR_] at w; simp at w, fun j2 w => by rw [← hR_] at w; simp only [Prod.mk.injEq, and_true] at w; rw [← w]; exact n20, f2⟩
                · skip
                  have hT4 := hTI.2.2.2.2.1.mp c_130
                  rw [if_pos hT4] at hR_
                  have had := hadv (by omega)
                  refine r_aload_0 dX6_eRead_133 (r_iconst dX6_eRead_134 ?_)
                  refine r_cVI1 dX6_eRead_135 vX6_150 (rfl) (m_opens hs1 hn (by omega) (Or.inl rfl)) (by decide) (Nat.le_of_ble_eq_true rfl) (fun b_135 M_135 h_135 => ?_)
                  obtain ⟨rfl, hs2, f3⟩ := h_135
                  first | refine r_ifd_ne dX6_eRead_138 (fun c_138 => ?_) (fun c_138 => ?_) | refine r_ifb_ne dX6_eRead_138 (fun c_138 => ?_) (fun c_138 => ?_)
                  · skip
                    rw [if_neg c_138] at hR_
                    refine r_iconst dX6_eRead_143 (r_istore_2 dX6_eRead_144 rfl (r_goto dX6_eRead_145 ?_))
                    exact ih m (j + 1) true true _ _ _ M_135 (by omega) had (by rw [List.length_cons]; omega) (hR_) (hs2 c_138) ((f3 0 19 (by omega)).trans n19) (f2.trans f3.uE) (by omega)
                  · skip
                    rw [if_pos (Decidable.of_not_not c_138)] at hR_
                    refine r_iconst dX6_eRead_141 ?_
                    refine r_zreturn dX6_eRead_142 rfl (by first | exact bi_01 _ | omega | decide) ?_
                    exact ⟨_, rfl, by rw [← hR_]; rfl, fun j2 p w => by rw [← hR_] at w; simp at w, fun j2 w => by rw [← hR_] at w; simp only [Prod.mk.injEq, and_true] at w; rw [← w]; exact (f3 0 20 (by omega)).trans n20, f2.trans f3.uE⟩
              · skip
                have hT4 := hTI.2.2.2.1.mp c_105
                rw [if_pos hT4] at hR_
                have had := hadv (by omega)
                refine r_aload_0 dX6_eRead_108 (r_bipush dX6_eRead_109 (by decide) ?_)
                refine r_cVI1 dX6_eRead_111 vX6_150 (rfl) (m_opens hs1 hn (by omega) (Or.inr (Or.inr rfl))) (by decide) (Nat.le_of_ble_eq_true rfl) (fun b_111 M_111 h_111 => ?_)
                obtain ⟨rfl, hs2, f3⟩ := h_111
                first | refine r_ifd_ne dX6_eRead_114 (fun c_114 => ?_) (fun c_114 => ?_) | refine r_ifb_ne dX6_eRead_114 (fun c_114 => ?_) (fun c_114 => ?_)
                · skip
                  rw [if_neg c_114] at hR_
                  refine r_iconst dX6_eRead_119 (r_istore_2 dX6_eRead_120 rfl (r_goto dX6_eRead_121 ?_))
                  exact ih m (j + 1) true false _ _ _ M_111 (by omega) had (by rw [List.length_cons]; omega) (hR_) (hs2 c_114) ((f3 0 19 (by omega)).trans n19) (f2.trans f3.uE) (by omega)
                · skip
                  rw [if_pos (Decidable.of_not_not c_114)] at hR_
                  refine r_iconst dX6_eRead_117 ?_
                  refine r_zreturn dX6_eRead_118 rfl (by first | exact bi_01 _ | omega | decide) ?_
                  exact ⟨_, rfl, by rw [← hR_]; rfl, fun j2 p w => by rw [← hR_] at w; simp at w, fun j2 w => by rw [← hR_] at w; simp only [Prod.mk.injEq, and_true] at w; rw [← w]; exact (f3 0 20 (by omega)).trans n20, f2.trans f3.uE⟩
            refine r_aload_0 dX6_eRead_75 (r_getE dX6_eRead_76 fX6_114 (rfl) (rfl) (n21) (r_bipush dX6_eRead_79 (by decide) ?_))
            refine r_icmp_ne dX6_eRead_81 (by omega) (by omega) (fun c_81 => ?_) (fun c_81 => ?_)
            · skip
              exact jn_99 (fun w => c_81 (hTI.2.2.1.mpr w.1))
            · skip
              refine r_iload_2 dX6_eRead_84 ?_
              refine r_ifb_eq dX6_eRead_85 (fun c_85 => ?_) (fun c_85 => ?_)
              · skip
                exact jn_99 (fun w => absurd (c_85.symm.trans w.2) (by decide))
              · skip
                have hT6 := hTI.2.2.1.mp c_81
                rw [if_pos ⟨hT6, c_85⟩] at hR_
                have had := hadv (by omega)
                refine r_aload_0 dX6_eRead_88 (r_bipush dX6_eRead_89 (by decide) ?_)
                refine r_cVI1 dX6_eRead_91 vX6_150 (rfl) (m_opens hs1 hn (by omega) (Or.inr (Or.inl rfl))) (by decide) (Nat.le_of_ble_eq_true rfl) (fun b_91 M_91 h_91 => ?_)
                obtain ⟨rfl, hs2, f3⟩ := h_91
                first | refine r_ifd_ne dX6_eRead_94 (fun c_94 => ?_) (fun c_94 => ?_) | refine r_ifb_ne dX6_eRead_94 (fun c_94 => ?_) (fun c_94 => ?_)
                · skip
                  rw [if_neg c_94] at hR_
                  exact ih m (j + 1) true mn _ _ _ M_91 (by omega) had (by rw [List.length_cons]; omega) (hR_) (hs2 c_94) ((f3 0 19 (by omega)).trans n19) (f2.trans f3.uE) (by omega)
                · skip
                  rw [if_pos (Decidable.of_not_not c_94)] at hR_
                  refine r_iconst dX6_eRead_97 ?_
                  refine r_zreturn dX6_eRead_98 rfl (by first | exact bi_01 _ | omega | decide) ?_
                  exact ⟨_, rfl, by rw [← hR_]; rfl, fun j2 p w => by rw [← hR_] at w; simp at w, fun j2 w => by rw [← hR_] at w; simp only [Prod.mk.injEq, and_true] at w; rw [← w]; exact (f3 0 20 (by omega)).trans n20, f2.trans f3.uE⟩
          · skip
            have hT2 := hTI.2.1.mp c_35
            rw [if_pos hT2] at hR_
            have had := hadv (by omega)
            refine r_aload_0 dX6_eRead_38 (r_aload_0 dX6_eRead_39 (r_getE dX6_eRead_40 fX6_114 (rfl) (rfl) (n21) (r_iconst dX6_eRead_43 ?_)))
            refine r_icmp_ne dX6_eRead_44 (by omega) (by omega) (fun c_44 => ?_) (fun c_44 => ?_)
            · skip
              skip
              refine r_aload_0 dX6_eRead_57 (r_getE dX6_eRead_58 fX6_117 (rfl) (rfl) (nx3 (by omega)) ?_)
              refine r_cVV1 dX6_eRead_61 vX6_136 (rfl) (m_puts (d := 0) hs1 hn (by omega) (by omega)) (by decide) (Nat.le_of_ble_eq_true rfl) (fun M_61 h_61 => ?_)
              obtain ⟨hs2, f3⟩ := h_61
              refine r_aload_0 dX6_eRead_64 (r_bipush dX6_eRead_65 (by decide) ?_)
              refine r_cVV1 dX6_eRead_67 vX6_143 (rfl) (m_unw hs2 hn (by omega) (by omega)) (by decide) (Nat.le_of_ble_eq_true rfl) (fun M_67 h_67 => ?_)
              obtain ⟨hs3, f4⟩ := h_67
              refine r_iconst dX6_eRead_70 (r_istore_1 dX6_eRead_71 rfl (r_goto dX6_eRead_72 ?_))
              exact ih m (j + 1) false mn _ _ _ M_67 (by omega) had (by rw [uw_len, List.length_append, List.length_singleton]; omega) ((mrun_f (b := false)).trans hR_) hs3 ((f4 0 19 (by omega)).trans ((f3 0 19 (by omega)).trans n19)) (f2.trans (f3.uE.trans f4.uE)) (by omega)
            · exfalso; omega
  exact lp_14 _ 160 j true true [] o none Ma (by omega) hj.2 (by rw [List.length_nil]; omega) hR0 hsa a19 fa (Nat.lt_succ_self _)

theorem okc_p {cs : Nat → Int} {m i dep : Nat} (h : okc cs (m + 1) i dep) (hc : 100000 ≤ cs i ∨ cs i < 11) : c_push (cs i) ∧ dep < 31 ∧ okc cs m (i + 1) (dep + 1) := by
  rcases h with h | ⟨h1, _⟩ | ⟨h1, _⟩
  · exact h
  · exfalso; unfold c_un at h1; omega
  · exfalso; unfold c_bin at h1; omega
theorem okc_u {cs : Nat → Int} {m i dep : Nat} (h : okc cs (m + 1) i dep) (hc : cs i = 13 ∨ cs i = 19) : 1 ≤ dep ∧ okc cs m (i + 1) dep := by
  rcases h with ⟨h1, _⟩ | h | ⟨h1, _⟩
  · exfalso; unfold c_push at h1; omega
  · exact h.2
  · exfalso; unfold c_bin at h1; omega
theorem okc_b {cs : Nat → Int} {m i dep : Nat} (h : okc cs (m + 1) i dep) (h1 : ¬ 100000 ≤ cs i) (h2 : ¬ cs i < 11) (h3 : ¬ cs i = 13) (h4 : ¬ cs i = 19) : c_bin (cs i) ∧ 2 ≤ dep ∧ okc cs m (i + 1) (dep - 1) := by
  rcases h with ⟨g, _⟩ | ⟨g, _⟩ | h
  · exfalso; unfold c_push at g; omega
  · exfalso; unfold c_un at g; omega
  · exact h
theorem tw_ib {c x y : Int} (h : c_bin c) : ib (tw c x y) := by
  rw [← xjn_tw h]
  exact xjn_ib _
abbrev m6 (c _i : Nat) : Prop := c = 16
set_option maxRecDepth 10000 in
set_option maxHeartbeats 4000000 in
theorem m_saysT {M : Mem} {nT part rl : Nat} {X : Nat → Tx} {e : Nat → Int} (hX : XM M nT X) (hrl : rl < nT) (hr : M 0 11 = (rl : Int)) (hpart : part < 3) (hnm : ∀ j, j < 6 → M 17 j = e j) : Con GM 1 kX6_says [rv 0, iv (part : Int)] M (pI (fun a M2 => a = says (X rl) part e ∧ Fm m6 M M2)) := by
  refine con_of [some (rv 0), some (iv (part : Int)), none, none, none] (plX6) rfl (Nat.le_of_ble_eq_true rfl) (fun z => ?_)
  refine r_mb (fun hMB => ?_)
  have hn6 := hX.1
  obtain ⟨q1, q2, hok⟩ := hX.2 rl hrl
  obtain ⟨T, hTX⟩ : ∃ T, T = X rl := ⟨_, rfl⟩
  rw [← hTX] at q1 q2 hok
  obtain ⟨k0, k1, k2, k3, k4, k5⟩ := hok
  have k6 := k5 part hpart
  have kb : 0 ≤ T.2 part ∧ T.2 part ≤ T.2 (part + 1) ∧ T.2 (part + 1) ≤ T.2 3 := by
    rcases (by omega : part = 0 ∨ part = 1 ∨ part = 2) with rfl | rfl | rfl <;> simp only [Nat.zero_add, Nat.reduceAdd] <;> omega
  have nbF : ∀ Mv : Mem, Fm m6 M Mv → (∀ j, j < 6 → Mv 17 j = e j) ∧ (∀ i, i < (T.2 3).toNat → Mv 6 (200 * rl + i) = T.1 i) ∧ Mv 7 (4 * rl + (part + 1)) = T.2 (part + 1) ∧ Mv 0 11 = (rl : Int) := by
    intro Mv hF
    exact ⟨fun j hj => (hF _ _ (by omega)).trans (hnm j hj), fun i hi => (hF _ _ (by omega)).trans (q1 i hi), (hF _ _ (by omega)).trans (q2 (part + 1) (by omega)), (hF _ _ (by omega)).trans hr⟩
  refine r_iconst dX6_says_0 (r_istore_2 dX6_says_1 rfl (r_aload_0 dX6_says_2 (r_getR dX6_says_3 fX6_28 (rfl) (rfl) (r_iconst dX6_says_6 (r_aload_0 dX6_says_7 (r_getE dX6_says_8 fX6_92 (rfl) (rfl) (hr) (r_imul dX6_says_11 (r_iload_1 dX6_says_12 (r_iadd dX6_says_13 (r_ialX dX6_says_14 (rfl) (q2 part (by omega)) (by omega) (by omega) (by omega) (r_istore_3 dX6_says_15 rfl ?_)))))))))))
  have lp_16 : ∀ (NN : Nat) (n i dep : Nat) (x y : Int) (o4 : Option PV) (Mv : Mem) (stk : List Int) (hx : x = i) (hy : y = dep) (hlen : stk.length = dep) (hdep : dep ≤ 31) (hi : (i : Int) + n = T.2 (part + 1)) (hoc : okc T.1 n i dep) (hsk : SK Mv 16 stk) (hev : (evl e T.1 n i stk).headD 0 = says T part e) (hF : Fm m6 M Mv), n < NN → WP kX6_says GM 1 (pI (fun a M2 => a = says (X rl) part e ∧ Fm m6 M M2)) z 16 [some (rv 0), some (iv (part : Int)), some (iv y), some (iv x), o4] [] Mv := by
    intro NN
    induction NN with
    | zero => intros; omega
    | succ NN ih =>
      intro n i dep x y o4 Mv stk hx hy hlen hdep hi hoc hsk hev hF hm
      obtain ⟨f1, f2, f3, f4⟩ := nbF Mv hF
      refine r_mb (fun hMv => ?_)
      refine r_iload_3 dX6_says_16 ?_
      refine r_aload_0 dX6_says_17 (r_getR dX6_says_18 fX6_28 (rfl) (rfl) (r_iconst dX6_says_21 (r_aload_0 dX6_says_22 (r_getE dX6_says_23 fX6_92 (rfl) (rfl) (f4) (r_imul dX6_says_26 (r_iload_1 dX6_says_27 (r_iadd dX6_says_28 (r_iconst dX6_says_29 (r_iadd dX6_says_30 (r_ialX dX6_says_31 (rfl) (f3) (by omega) (by omega) (by omega) ?_))))))))))
      refine r_icmp_ge dX6_says_32 (by omega) (by omega) (fun c_32 => ?_) (fun c_32 => ?_)
      · skip
        obtain rfl : n = 0 := by omega
        have hoc : dep = 1 := hoc
        obtain ⟨a0, r0, rfl⟩ : ∃ a r, stk = a :: r := by
          cases stk with
          | nil => simp at hlen; omega
          | cons a r => exact ⟨a, r, rfl⟩
        have hr0 : r0 = [] := by
          cases r0 with
          | nil => rfl
          | cons b q => simp at hlen; omega
        subst hr0
        refine r_aload_0 dX6_says_197 (r_getR dX6_says_198 fX6_55 (rfl) (rfl) (r_iconst dX6_says_201 (r_ialX dX6_says_202 (rfl) ((show Mv 16 0 = a0 from hsk.1)) (by omega) (by omega) (by omega) ?_)))
        refine r_ireturn dX6_says_203 rfl ?_
        refine ⟨_, rfl, ?_, hF⟩
        rw [← hTX]
        simpa [evl] using hev
      · skip
        obtain ⟨m, rfl⟩ : ∃ m, n = m + 1 := ⟨n - 1, by omega⟩
        simp only [evl] at hev
        have hsi := f2 i (by omega)
        have hsb := hMv 6 (200 * rl + i)
        rw [hsi] at hsb
        refine r_aload_0 dX6_says_35 (r_getR dX6_says_36 fX6_25 (rfl) (rfl) (r_sipush dX6_says_39 (by decide) (r_aload_0 dX6_says_42 (r_getE dX6_says_43 fX6_92 (rfl) (rfl) (f4) (r_imul dX6_says_46 (r_iload_3 dX6_says_47 (r_iadd dX6_says_48 (r_ialX dX6_says_49 (rfl) (hsi) (by omega) (by omega) (by omega) (r_istore_4 dX6_says_50 rfl (r_iload_4 dX6_says_52 (r_ldc (a := 100000) dX6_says_54 qX6_149 ?_)))))))))))
        refine r_icmp_ge dX6_says_56 (by omega) (by omega) (fun c_56 => ?_) (fun c_56 => ?_)
        · skip
          refine r_aload_0 dX6_says_66 (r_getR dX6_says_67 fX6_55 (rfl) (rfl) (r_iload_2 dX6_says_70 (r_iload_4 dX6_says_71 (r_bipush dX6_says_73 (by decide) ?_))))
          refine r_icmp_ge dX6_says_75 (by omega) (by omega) (fun c_75 => ?_) (fun c_75 => ?_)
          · skip
            have hpd := okc_p hoc (Or.inl (by omega))
            have g5 := hpd.1
            unfold c_push at g5
            refine r_iload_4 dX6_says_88 (r_ldc (a := 100000) dX6_says_90 qX6_149 (r_isub dX6_says_92 ?_))
            refine r_iasX (dep) dX6_says_93 (rfl) (by omega) (by omega) (by omega) (by omega) ?_
            refine r_iinc_2 dX6_says_94 rfl (r_goto dX6_says_97 (r_iinc_3 dX6_says_191 rfl (r_goto dX6_says_194 ?_)))
            obtain ⟨g1, g3, g4⟩ := okc_p hoc (Or.inl (by omega))
            exact ih m (i + 1) (dep + 1) (x + 1) (y + 1) _ _ ((T.1 i - 100000) :: stk) (by omega) (by omega) (by rw [List.length_cons]; omega) (by omega) (by omega) g4 (SK_push hsk (by omega)) (by rw [ev1_num (by omega)] at hev; exact hev) (hF.up rfl) (by omega)
          · exfalso; omega
        · skip
          refine r_iload_4 dX6_says_59 (r_bipush dX6_says_61 (by decide) ?_)
          refine r_icmp_ge dX6_says_63 (by omega) (by omega) (fun c_63 => ?_) (fun c_63 => ?_)
          · skip
            refine r_iload_4 dX6_says_100 (r_bipush dX6_says_102 (by decide) ?_)
            refine r_icmp_ne dX6_says_104 (by omega) (by omega) (fun c_104 => ?_) (fun c_104 => ?_)
            · skip
              refine r_iload_4 dX6_says_134 (r_bipush dX6_says_136 (by decide) ?_)
              refine r_icmp_ne dX6_says_138 (by omega) (by omega) (fun c_138 => ?_) (fun c_138 => ?_)
              · skip
                obtain ⟨hbin, g3, g4⟩ := okc_b hoc (by omega) (by omega) (by omega) (by omega)
                obtain ⟨y0, x0, r0, rfl⟩ : ∃ y x r, stk = y :: x :: r := by
                  match stk, hlen with
                  | [], hlen => simp at hlen; omega
                  | [a], hlen => simp at hlen; omega
                  | y :: x :: r, hlen => exact ⟨y, x, r, rfl⟩
                obtain ⟨hk1, hk2, hk3⟩ := hsk
                rw [List.length_cons, List.length_cons] at hlen
                rw [List.length_cons] at hk1
                have hb1 := hMv 16 (r0.length + 1)
                rw [hk1] at hb1
                have hb2 := hMv 16 r0.length
                rw [hk2] at hb2
                refine r_iinc_2 dX6_says_161 rfl (r_aload_0 dX6_says_164 (r_getR dX6_says_165 fX6_55 (rfl) (rfl) (r_iload_2 dX6_says_168 (r_iconst dX6_says_169 (r_isub dX6_says_170 (r_iload_4 dX6_says_171 (r_aload_0 dX6_says_173 (r_getR dX6_says_174 fX6_55 (rfl) (rfl) (r_iload_2 dX6_says_177 (r_iconst dX6_says_178 (r_isub dX6_says_179 (r_ialX dX6_says_180 (rfl) (hk2) (by omega) (by omega) (by omega) (r_aload_0 dX6_says_181 (r_getR dX6_says_182 fX6_55 (rfl) (rfl) (r_iload_2 dX6_says_185 (r_ialX dX6_says_186 (rfl) (hk1) (by omega) (by omega) (by omega) ?_))))))))))))))))
                refine r_cSI3 dX6_says_187 sX6_163 (m_two (d := 0) hbin (by omega) (by omega)) (by decide) (Nat.le_of_ble_eq_true rfl) (fun b_187 M_187 h_187 => ?_)
                obtain ⟨rfl, rfl⟩ := h_187
                refine r_iasX (r0.length) dX6_says_190 (rfl) (by omega) (by omega) (by omega) (by exact tw_ib hbin) ?_
                refine r_iinc_3 dX6_says_191 rfl (r_goto dX6_says_194 ?_)
                exact ih m (i + 1) (dep - 1) (x + 1) (y + -1) _ _ (tw (T.1 i) x0 y0 :: r0) (by omega) (by omega) (by rw [List.length_cons]; omega) (by omega) (by omega) g4 (SK_push hk3 (by omega)) (by rw [ev1_bin hbin] at hev; exact hev) (hF.up rfl) (by omega)
              · skip
                obtain ⟨g3, g4⟩ := okc_u hoc (by omega)
                obtain ⟨a0, r0, rfl⟩ : ∃ a r, stk = a :: r := by
                  cases stk with
                  | nil => simp at hlen; omega
                  | cons a r => exact ⟨a, r, rfl⟩
                obtain ⟨hk1, hk2⟩ := hsk
                rw [List.length_cons] at hlen
                have hab := hMv 16 r0.length
                rw [hk1] at hab
                refine r_aload_0 dX6_says_141 (r_getR dX6_says_142 fX6_55 (rfl) (rfl) (r_iload_2 dX6_says_145 (r_iconst dX6_says_146 (r_isub dX6_says_147 (r_aload_0 dX6_says_148 (r_getR dX6_says_149 fX6_55 (rfl) (rfl) (r_iload_2 dX6_says_152 (r_iconst dX6_says_153 (r_isub dX6_says_154 (r_ialX dX6_says_155 (rfl) (hk1) (by omega) (by omega) (by omega) (r_ineg dX6_says_156 ?_)))))))))))
                refine r_as (w32_i3 _) ?_
                refine r_iasX (r0.length) dX6_says_157 (rfl) (by omega) (by omega) (by omega) (by exact w32_ib _) ?_
                refine r_goto dX6_says_158 (r_iinc_3 dX6_says_191 rfl (r_goto dX6_says_194 ?_))
                rw [show T.1 i = 19 by omega, ev1_neg] at hev
                exact ih m (i + 1) dep (x + 1) y _ _ (w32 (-a0) :: r0) (by omega) (by omega) (by rw [List.length_cons]; omega) (by omega) (by omega) g4 (SK_push hk2 (by omega)) hev (hF.up rfl) (by omega)
            · skip
              obtain ⟨g3, g4⟩ := okc_u hoc (by omega)
              obtain ⟨a0, r0, rfl⟩ : ∃ a r, stk = a :: r := by
                cases stk with
                | nil => simp at hlen; omega
                | cons a r => exact ⟨a, r, rfl⟩
              obtain ⟨hk1, hk2⟩ := hsk
              rw [List.length_cons] at hlen
              have hab := hMv 16 r0.length
              rw [hk1] at hab
              refine r_aload_0 dX6_says_107 (r_getR dX6_says_108 fX6_55 (rfl) (rfl) (r_iload_2 dX6_says_111 (r_iconst dX6_says_112 (r_isub dX6_says_113 (r_aload_0 dX6_says_114 (r_getR dX6_says_115 fX6_55 (rfl) (rfl) (r_iload_2 dX6_says_118 (r_iconst dX6_says_119 (r_isub dX6_says_120 (r_ialX dX6_says_121 (rfl) (hk1) (by omega) (by omega) (by omega) ?_))))))))))
              refine r_if_ne dX6_says_122 (by omega) (fun c_122 => ?_) (fun c_122 => ?_)
              · skip
                refine r_iconst dX6_says_129 ?_
                refine r_iasX (r0.length) dX6_says_130 (rfl) (by omega) (by omega) (by omega) (by omega) ?_
                refine r_goto dX6_says_131 (r_iinc_3 dX6_says_191 rfl (r_goto dX6_says_194 ?_))
                rw [show T.1 i = 13 by omega, ev1_not, if_neg c_122] at hev
                exact ih m (i + 1) dep (x + 1) y _ _ (0 :: r0) (by omega) (by omega) (by rw [List.length_cons]; omega) (by omega) (by omega) g4 (SK_push hk2 (by omega)) hev (hF.up rfl) (by omega)
              · skip
                refine r_iconst dX6_says_125 (r_goto dX6_says_126 ?_)
                refine r_iasX (r0.length) dX6_says_130 (rfl) (by omega) (by omega) (by omega) (by omega) ?_
                refine r_goto dX6_says_131 (r_iinc_3 dX6_says_191 rfl (r_goto dX6_says_194 ?_))
                rw [show T.1 i = 13 by omega, ev1_not, if_pos (by omega)] at hev
                exact ih m (i + 1) dep (x + 1) y _ _ (1 :: r0) (by omega) (by omega) (by rw [List.length_cons]; omega) (by omega) (by omega) g4 (SK_push hk2 (by omega)) hev (hF.up rfl) (by omega)
          · skip
            obtain ⟨g0, g3, g4⟩ := okc_p hoc (Or.inr (by omega))
            have g1 : 0 ≤ T.1 i ∧ T.1 i ≤ 5 := by unfold c_push at g0; omega
            have g2 := f1 (T.1 i).toNat (by omega)
            have g2b := hMv 17 (T.1 i).toNat
            rw [g2] at g2b
            refine r_aload_0 dX6_says_66 (r_getR dX6_says_67 fX6_55 (rfl) (rfl) (r_iload_2 dX6_says_70 (r_iload_4 dX6_says_71 (r_bipush dX6_says_73 (by decide) ?_))))
            refine r_icmp_ge dX6_says_75 (by omega) (by omega) (fun c_75 => ?_) (fun c_75 => ?_)
            · exfalso; omega
            · skip
              skip
              refine r_aload_0 dX6_says_78 (r_getR dX6_says_79 fX6_58 (rfl) (rfl) (r_iload_4 dX6_says_82 (r_ialX dX6_says_84 (rfl) (g2) (by omega) (by omega) (by omega) (r_goto dX6_says_85 ?_))))
              refine r_iasX (dep) dX6_says_93 (rfl) (by omega) (by omega) (by omega) (by omega) ?_
              refine r_iinc_2 dX6_says_94 rfl (r_goto dX6_says_97 (r_iinc_3 dX6_says_191 rfl (r_goto dX6_says_194 ?_)))
              exact ih m (i + 1) (dep + 1) (x + 1) (y + 1) _ _ (e (T.1 i).toNat :: stk) (by omega) (by omega) (by rw [List.length_cons]; omega) (by omega) (by omega) g4 (SK_push hsk (by omega)) (by rw [ev1_name (by omega)] at hev; exact hev) (hF.up rfl) (by omega)
  exact lp_16 _ (T.2 (part + 1) - T.2 part).toNat (T.2 part).toNat 0 (T.2 part) 0 none M [] (by omega) rfl rfl (by omega) (by omega) k6 trivial rfl Fm.refl (Nat.lt_succ_self _)
set_option maxRecDepth 10000 in
set_option maxHeartbeats 4000000 in
theorem m_asksOf {part : Nat} {p : Nat} {M : Mem} {nT : Nat} {τ : Tn} {X : Nat → Tx} (hT : TM M τ) (hw : WF nT τ) (hX : XM M nT X) (hcl : τ 8 1 < 2147483648) (hp : (p : Int) < τ 8 0) (hpt : part < 3) : Con GM 2 kX6_asksOf [rv 0, iv (part : Int), iv (p : Int)] M (pI (fun a M2 => a = sAsk X τ part p ∧ Fm mS M M2)) := by
  refine con_of [some (rv 0), some (iv (part : Int)), some (iv (p : Int))] (plX6) rfl (Nat.le_of_ble_eq_true rfl) (fun z => ?_)
  obtain ⟨⟨wn, wn2⟩, wcl, ⟨wl, wl2⟩, -, -⟩ := id hw
  have hp6 : p < 6 := by omega
  have wp := hw.p hp6
  obtain ⟨⟨wa, wa2⟩, ⟨we, we2⟩, ⟨wc, wc2⟩, ⟨wk, wk2⟩, wm, wm2⟩ := wp
  refine r_aload_0 dX6_asksOf_0 (r_getR dX6_asksOf_1 fX6_58 (rfl) (rfl) (r_iconst dX6_asksOf_4 (r_aload_0 dX6_asksOf_5 (r_getR dX6_asksOf_6 fX6_16 (rfl) (rfl) (r_iconst dX6_asksOf_9 (r_iload_2 dX6_asksOf_10 (r_imul dX6_asksOf_11 (r_ialX dX6_asksOf_12 (rfl) (hT.e3 hp6) (by omega) (by omega) (by omega) ?_))))))))
  refine r_iasX (0) dX6_asksOf_13 (rfl) (by omega) (by omega) (by omega) (by omega) ?_
  refine r_aload_0 dX6_asksOf_14 (r_getR dX6_asksOf_15 fX6_58 (rfl) (rfl) (r_iconst dX6_asksOf_18 (r_aload_0 dX6_asksOf_19 (r_getR dX6_asksOf_20 fX6_16 (rfl) (rfl) (r_iconst dX6_asksOf_23 (r_iload_2 dX6_asksOf_24 (r_imul dX6_asksOf_25 (r_iconst dX6_asksOf_26 (r_iadd dX6_asksOf_27 (r_ialX (v := τ 4 p) dX6_asksOf_28 (rfl) (show _ = _ from (upM_ne (by omega)).trans (hT.e4 hp6)) (by omega) (by omega) (by omega) ?_))))))))))
  refine r_iasX (1) dX6_asksOf_29 (rfl) (by omega) (by omega) (by omega) (by omega) ?_
  refine r_aload_0 dX6_asksOf_30 (r_getR dX6_asksOf_31 fX6_58 (rfl) (rfl) (r_iconst dX6_asksOf_34 (r_aload_0 dX6_asksOf_35 (r_getE (v := τ 8 1) dX6_asksOf_36 fX6_79 (rfl) (rfl) ((upM_ne (by omega)).trans ((upM_ne (by omega)).trans hT.clock)) (r_bipush dX6_asksOf_39 (by decide) ?_)))))
  refine r_irem dX6_asksOf_41 (by omega) (by omega) (by omega) ?_
  refine r_iasX (2) dX6_asksOf_42 (rfl) (by omega) (by omega) (by omega) (by have := Int.tmod_nonneg 20 wcl; have := Int.tmod_lt_of_pos (τ 8 1) (show (0 : Int) < 20 by decide); omega) ?_
  obtain ⟨M3, hM3⟩ : ∃ x, x = upM (upM (upM M 17 0 (τ 3 p)) 17 1 (τ 4 p)) 17 2 ((τ 8 1).tmod 20) := ⟨_, rfl⟩
  rw [← hM3]
  have hF3 : Fm mS M M3 := by rw [hM3]; exact ((Fm.refl.up (Or.inr rfl)).up (Or.inr rfl)).up (Or.inr rfl)
  have hT3 := hT.sc hF3
  refine r_aload_0 dX6_asksOf_43 (r_getR dX6_asksOf_44 fX6_58 (rfl) (rfl) (r_iconst dX6_asksOf_47 ?_))
  have jn_61 : WP kX6_asksOf GM 2 (pI (fun a M2 => a = sAsk X τ part p ∧ Fm mS M M2)) z 61 [some (rv 0), some (iv (part : Int)), some (iv (p : Int))] [iv (env τ p 3), iv 3, rv 17] M3 := by
    refine r_iasX (3) dX6_asksOf_61 (rfl) (by omega) (by omega) (by omega) (by show ib (env τ p 3); unfold env; simp only []; split <;> omega) ?_
    refine r_aload_0 dX6_asksOf_62 (r_getR dX6_asksOf_63 fX6_58 (rfl) (rfl) (r_iconst dX6_asksOf_66 (r_aload_0 dX6_asksOf_67 (r_getR dX6_asksOf_68 fX6_16 (rfl) (rfl) (r_iconst dX6_asksOf_71 (r_iload_2 dX6_asksOf_72 (r_imul dX6_asksOf_73 (r_iconst dX6_asksOf_74 (r_iadd dX6_asksOf_75 (r_ialX (v := τ 5 p) dX6_asksOf_76 (rfl) ((upM_ne (by omega)).trans (hT3.e5 hp6)) (by omega) (by omega) (by omega) ?_))))))))))
    refine r_iasX (4) dX6_asksOf_77 (rfl) (by omega) (by omega) (by omega) (by omega) ?_
    refine r_aload_0 dX6_asksOf_78 (r_getR dX6_asksOf_79 fX6_58 (rfl) (rfl) (r_iconst dX6_asksOf_82 (r_aload_0 dX6_asksOf_83 (r_getR dX6_asksOf_84 fX6_13 (rfl) (rfl) (r_iload_2 dX6_asksOf_87 (r_ialX (v := τ 7 p) dX6_asksOf_88 (rfl) ((upM_ne (by omega)).trans ((upM_ne (by omega)).trans (hT3.e7 hp))) (by omega) (by omega) (by omega) ?_))))))
    refine r_iasX (5) dX6_asksOf_89 (rfl) (by omega) (by omega) (by omega) (by omega) ?_
    obtain ⟨M6, hM6⟩ : ∃ x, x = upM (upM (upM M3 17 3 (env τ p 3)) 17 4 (τ 5 p)) 17 5 (τ 7 p) := ⟨_, rfl⟩
    rw [← hM6]
    have hF6 : Fm mS M M6 := by rw [hM6]; exact hF3.trans (((Fm.refl.up (Or.inr rfl)).up (Or.inr rfl)).up (Or.inr rfl))
    have hT6 := hT.sc hF6
    have hnm : ∀ j, j < 6 → M6 17 j = env τ p j := by
      intro j hj
      rw [hM6, hM3]
      rcases (by omega : j = 0 ∨ j = 1 ∨ j = 2 ∨ j = 3 ∨ j = 4 ∨ j = 5) with rfl | rfl | rfl | rfl | rfl | rfl <;> simp [upM, env]
    have hX6 := hX.sc hF6
    refine r_aload_0 dX6_asksOf_90 (r_iload_1 dX6_asksOf_91 ?_)
    refine r_cVI1 dX6_asksOf_92 vX6_170 (rfl) (m_saysT (rl := (τ 8 2).toNat) (e := env τ p) hX6 (by omega) (hT6.rule.trans (by omega)) hpt hnm) (by omega) (Nat.le_of_ble_eq_true rfl) (fun b_92 M_92 h_92 => ?_)
    obtain ⟨rfl, hF7⟩ := h_92
    have hsy := says_ib (hX.2 (τ 8 2).toNat (by omega)).2.2 hpt (env τ p) (env_ib hw hcl hp6)
    have hF8 : Fm mS M M_92 := hF6.trans (hF7.mono (fun c i w => Or.inl w))
    refine r_iload_1 dX6_asksOf_95 (r_iconst dX6_asksOf_96 ?_)
    refine r_icmp_ne dX6_asksOf_97 (by omega) (by omega) (fun c_97 => ?_) (fun c_97 => ?_)
    · skip
      refine r_iconst dX6_asksOf_105 (r_bipush dX6_asksOf_106 (by decide) ?_)
      refine r_cSI3 dX6_asksOf_108 sX6_173 (m_within (d := 0) hsy (by omega) (by omega)) (by decide) (Nat.le_of_ble_eq_true rfl) (fun b_108 M_108 h_108 => ?_)
      obtain ⟨rfl, rfl⟩ := h_108
      refine r_ireturn dX6_asksOf_111 rfl ?_
      refine ⟨_, rfl, ?_, hF8⟩
      unfold sAsk bnd
      generalize says (X (τ 8 2).toNat) part (env τ p) = v
      (repeat' split) <;> omega
    · skip
      refine r_bipush dX6_asksOf_100 (by decide) (r_goto dX6_asksOf_102 (r_bipush dX6_asksOf_106 (by decide) ?_))
      refine r_cSI3 dX6_asksOf_108 sX6_173 (m_within (d := 0) hsy (by omega) (by omega)) (by decide) (Nat.le_of_ble_eq_true rfl) (fun b_108 M_108 h_108 => ?_)
      obtain ⟨rfl, rfl⟩ := h_108
      refine r_ireturn dX6_asksOf_111 rfl ?_
      refine ⟨_, rfl, ?_, hF8⟩
      unfold sAsk bnd
      generalize says (X (τ 8 2).toNat) part (env τ p) = v
      (repeat' split) <;> omega
  refine r_aload_0 dX6_asksOf_48 (r_iload_2 dX6_asksOf_49 ?_)
  refine r_cVI1 dX6_asksOf_50 vX6_167 (rfl) (m_hasFirst (n := 0) hT3 hw hp6) (by decide) (Nat.le_of_ble_eq_true rfl) (fun b_50 M_50 h_50 => ?_)
  obtain ⟨rfl, rfl⟩ := h_50
  skip
  refine r_ifb_eq dX6_asksOf_53 (fun c_53 => ?_) (fun c_53 => ?_)
  · skip
    refine r_iconst dX6_asksOf_60 ?_
    rw [show env τ p 3 = 0 by simpa [env, untr] using c_53] at jn_61
    exact jn_61
  · skip
    refine r_iconst dX6_asksOf_56 (r_goto dX6_asksOf_57 ?_)
    rw [show env τ p 3 = 1 by simpa [env, untr] using c_53] at jn_61
    exact jn_61
set_option maxRecDepth 10000 in
set_option maxHeartbeats 4000000 in
theorem m_sgn {d : Nat} {M : Mem} {v : Int} (h1 : ib v) : Con GM d kX6_signOf_ [iv v] M (pI (fun a M2 => M = M2 ∧ a = sgn v)) := by
  refine con_of [some (iv v)] (plX6) rfl (Nat.le_of_ble_eq_true rfl) (fun z => ?_)
  refine r_iload_0 dX6_signOf__0 ?_
  refine r_if_le dX6_signOf__1 (by omega) (fun c_1 => ?_) (fun c_1 => ?_)
  · skip
    refine r_iload_0 dX6_signOf__8 ?_
    refine r_if_ge dX6_signOf__9 (by omega) (fun c_9 => ?_) (fun c_9 => ?_)
    · skip
      refine r_iconst dX6_signOf__16 ?_
      refine r_ireturn dX6_signOf__17 rfl ?_
      exact ⟨_, rfl, rfl, by unfold sgn; (repeat' split) <;> omega⟩
    · skip
      refine r_iconst dX6_signOf__12 (r_goto dX6_signOf__13 ?_)
      refine r_ireturn dX6_signOf__17 rfl ?_
      exact ⟨_, rfl, rfl, by unfold sgn; (repeat' split) <;> omega⟩
  · skip
    refine r_iconst dX6_signOf__4 (r_goto dX6_signOf__5 ?_)
    refine r_ireturn dX6_signOf__17 rfl ?_
    exact ⟨_, rfl, rfl, by unfold sgn; (repeat' split) <;> omega⟩
set_option maxRecDepth 10000 in
set_option maxHeartbeats 4000000 in
theorem m_doesTry {p : Nat} {M : Mem} {nT : Nat} {τ : Tn} {X : Nat → Tx} (hT : TM M τ) (hw : WF nT τ) (hX : XM M nT X) (hcl : τ 8 1 < 2147483648) (hp : (p : Int) < τ 8 0) : Con GM 3 kX6_doesTry [rv 0, iv (p : Int)] M (pI (fun a M2 => a = bi (sTri X τ p) ∧ Fm mS M M2)) := by
  refine con_of [some (rv 0), some (iv (p : Int)), none, none] (plX6) rfl (Nat.le_of_ble_eq_true rfl) (fun z => ?_)
  obtain ⟨⟨wn, wn2⟩, wcl, ⟨wl, wl2⟩, -, -⟩ := id hw
  have hp6 : p < 6 := by omega
  have wp := hw.p hp6
  obtain ⟨⟨wa, wa2⟩, ⟨we, we2⟩, ⟨wc, wc2⟩, ⟨wk, wk2⟩, wm, wm2⟩ := wp
  refine r_aload_0 dX6_doesTry_0 (r_iload_1 dX6_doesTry_1 ?_)
  refine r_cVI1 dX6_doesTry_2 vX6_167 (rfl) (m_hasFirst (n := 0) hT hw hp6) (by decide) (Nat.le_of_ble_eq_true rfl) (fun b_2 M_2 h_2 => ?_)
  obtain ⟨rfl, rfl⟩ := h_2
  refine r_istore_2 dX6_doesTry_5 rfl (r_aload_0 dX6_doesTry_6 (r_getR dX6_doesTry_7 fX6_7 (rfl) (rfl) (r_iload_1 dX6_doesTry_10 (r_ialX dX6_doesTry_11 (rfl) (hT.e6 hp) (by omega) (by omega) (by omega) (r_iconst dX6_doesTry_12 ?_)))))
  refine r_icmp_ne dX6_doesTry_13 (by omega) (by omega) (fun c_13 => ?_) (fun c_13 => ?_)
  · skip
    skip
    refine r_aload_0 dX6_doesTry_26 ?_
    have jn_40 : ∀ (so : Bool) (hso : so = decide (sAsk X τ 0 p ≠ 0)) (M5 : Mem) (hF5 : Fm mS M M5), WP kX6_doesTry GM 3 (pI (fun a M2 => a = bi (sTri X τ p) ∧ Fm mS M M2)) z 40 [some (rv 0), some (iv (p : Int)), some (iv (bi (!untr τ p))), none] [iv (bi so)] M5 := by
      intro so hso M5 hF5
      have hT5 := hT.sc hF5
      refine r_istore_3 dX6_doesTry_40 rfl ?_
      refine r_aload_0 dX6_doesTry_41 (r_getR dX6_doesTry_42 fX6_7 (rfl) (rfl) (r_iload_1 dX6_doesTry_45 (r_ialX dX6_doesTry_46 (rfl) (hT5.e6 hp) (by omega) (by omega) (by omega) ?_)))
      refine r_tsw4 (t0 := 76) (t1 := 90) (t2 := 139) (t3 := 104) (td := 139) dX6_doesTry_47 (by decide) (by omega) (by decide) (by decide) (by decide) (by decide) (by decide) (fun c_47 => ?_) (fun c_47 => ?_) (fun c_47 => ?_) (fun c_47 => ?_) (fun c_47 => ?_)
      · skip
        skip
        refine r_iload_3 dX6_doesTry_76 ?_
        refine r_ifb_ne dX6_doesTry_77 (fun c_77 => ?_) (fun c_77 => ?_)
        · skip
          refine r_iconst dX6_doesTry_84 (r_goto dX6_doesTry_85 ?_)
          refine r_zreturn dX6_doesTry_89 rfl (by first | exact bi_01 _ | omega | decide) ?_
          refine ⟨_, rfl, ?_, hF5⟩
          simp_all [sTri, bi]
        · skip
          refine r_iload_2 dX6_doesTry_80 ?_
          refine r_ifb_ne dX6_doesTry_81 (fun c_81 => ?_) (fun c_81 => ?_)
          · skip
            refine r_iconst dX6_doesTry_88 ?_
            refine r_zreturn dX6_doesTry_89 rfl (by first | exact bi_01 _ | omega | decide) ?_
            refine ⟨_, rfl, ?_, hF5⟩
            simp_all [sTri, bi]
          · skip
            refine r_iconst dX6_doesTry_84 (r_goto dX6_doesTry_85 ?_)
            refine r_zreturn dX6_doesTry_89 rfl (by first | exact bi_01 _ | omega | decide) ?_
            refine ⟨_, rfl, ?_, hF5⟩
            simp_all [sTri, bi]
      · skip
        skip
        refine r_iload_3 dX6_doesTry_90 ?_
        refine r_ifb_eq dX6_doesTry_91 (fun c_91 => ?_) (fun c_91 => ?_)
        · skip
          refine r_iconst dX6_doesTry_102 ?_
          refine r_zreturn dX6_doesTry_103 rfl (by first | exact bi_01 _ | omega | decide) ?_
          refine ⟨_, rfl, ?_, hF5⟩
          simp_all [sTri, bi]
        · skip
          refine r_iload_2 dX6_doesTry_94 ?_
          refine r_ifb_eq dX6_doesTry_95 (fun c_95 => ?_) (fun c_95 => ?_)
          · skip
            refine r_iconst dX6_doesTry_102 ?_
            refine r_zreturn dX6_doesTry_103 rfl (by first | exact bi_01 _ | omega | decide) ?_
            refine ⟨_, rfl, ?_, hF5⟩
            simp_all [sTri, bi]
          · skip
            refine r_iconst dX6_doesTry_98 (r_goto dX6_doesTry_99 ?_)
            refine r_zreturn dX6_doesTry_103 rfl (by first | exact bi_01 _ | omega | decide) ?_
            refine ⟨_, rfl, ?_, hF5⟩
            simp_all [sTri, bi]
      · exfalso; omega
      · skip
        skip
        refine r_aload_0 dX6_doesTry_104 (r_getE dX6_doesTry_105 fX6_79 (rfl) (rfl) (hT5.clock) (r_iconst dX6_doesTry_108 ?_))
        refine r_irem dX6_doesTry_109 (by omega) (by omega) (by omega) ?_
        refine r_if_ne dX6_doesTry_110 (by have := Int.tmod_nonneg 2 wcl; have := Int.tmod_lt_of_pos (τ 8 1) (show (0 : Int) < 2 by decide); omega) (fun c_110 => ?_) (fun c_110 => ?_)
        · skip
          refine r_iload_2 dX6_doesTry_129 ?_
          refine r_ifb_ne dX6_doesTry_130 (fun c_130 => ?_) (fun c_130 => ?_)
          · skip
            refine r_iconst dX6_doesTry_137 ?_
            refine r_zreturn dX6_doesTry_138 rfl (by first | exact bi_01 _ | omega | decide) ?_
            refine ⟨_, rfl, ?_, hF5⟩
            simp_all [sTri, bi]
          · skip
            refine r_iconst dX6_doesTry_133 (r_goto dX6_doesTry_134 ?_)
            refine r_zreturn dX6_doesTry_138 rfl (by first | exact bi_01 _ | omega | decide) ?_
            refine ⟨_, rfl, ?_, hF5⟩
            simp_all [sTri, bi]
        · skip
          refine r_iload_3 dX6_doesTry_113 ?_
          refine r_ifb_eq dX6_doesTry_114 (fun c_114 => ?_) (fun c_114 => ?_)
          · skip
            refine r_iconst dX6_doesTry_125 (r_goto dX6_doesTry_126 ?_)
            refine r_zreturn dX6_doesTry_138 rfl (by first | exact bi_01 _ | omega | decide) ?_
            refine ⟨_, rfl, ?_, hF5⟩
            simp_all [sTri, bi]
          · skip
            refine r_iload_2 dX6_doesTry_117 ?_
            refine r_ifb_eq dX6_doesTry_118 (fun c_118 => ?_) (fun c_118 => ?_)
            · skip
              refine r_iconst dX6_doesTry_125 (r_goto dX6_doesTry_126 ?_)
              refine r_zreturn dX6_doesTry_138 rfl (by first | exact bi_01 _ | omega | decide) ?_
              refine ⟨_, rfl, ?_, hF5⟩
              simp_all [sTri, bi]
            · skip
              refine r_iconst dX6_doesTry_121 (r_goto dX6_doesTry_122 ?_)
              refine r_zreturn dX6_doesTry_138 rfl (by first | exact bi_01 _ | omega | decide) ?_
              refine ⟨_, rfl, ?_, hF5⟩
              simp_all [sTri, bi]
      · skip
        have k1 : ¬ τ 6 p = 1 := by omega
        have k2 : ¬ τ 6 p = 2 := by omega
        have k4 : ¬ τ 6 p = 4 := by omega
        refine r_iload_3 dX6_doesTry_139 ?_
        refine r_zreturn dX6_doesTry_140 rfl (by first | exact bi_01 _ | omega | decide) ?_
        refine ⟨_, rfl, ?_, hF5⟩
        simp_all [sTri, bi]
    refine r_iconst dX6_doesTry_27 (r_iload_1 dX6_doesTry_28 ?_)
    refine r_cVI2 dX6_doesTry_29 vX6_176 (rfl) (m_asksOf (part := 0) hT hw hX hcl hp (by decide)) (by decide) (Nat.le_of_ble_eq_true rfl) (fun b_29 M_29 h_29 => ?_)
    obtain ⟨rfl, hF_29⟩ := h_29
    have ha := sAsk_in1 X τ 0 p (by decide)
    have hT2 := hT.sc hF_29
    refine r_if_eq dX6_doesTry_32 (by omega) (fun c_32 => ?_) (fun c_32 => ?_)
    · skip
      refine r_iconst dX6_doesTry_39 ?_
      exact jn_40 false (by simp [c_32]) _ hF_29
    · skip
      refine r_iconst dX6_doesTry_35 (r_goto dX6_doesTry_36 ?_)
      exact jn_40 true (by simp [c_32]) _ hF_29
  · skip
    refine r_iload_2 dX6_doesTry_16 ?_
    refine r_ifb_ne dX6_doesTry_17 (fun c_17 => ?_) (fun c_17 => ?_)
    · skip
      refine r_iconst dX6_doesTry_24 ?_
      refine r_zreturn dX6_doesTry_25 rfl (by first | exact bi_01 _ | omega | decide) ?_
      refine ⟨_, rfl, ?_, Fm.refl⟩
      rw [show bi (sTri X τ p) = bi (untr τ p) by simp [sTri, show τ 6 p = 3 by omega]]
      simp [bi, show untr τ p = false by simpa using c_17]
    · skip
      refine r_iconst dX6_doesTry_20 (r_goto dX6_doesTry_21 ?_)
      refine r_zreturn dX6_doesTry_25 rfl (by first | exact bi_01 _ | omega | decide) ?_
      refine ⟨_, rfl, ?_, Fm.refl⟩
      rw [show bi (sTri X τ p) = bi (untr τ p) by simp [sTri, show τ 6 p = 3 by omega]]
      simp [bi, show untr τ p = true by simpa using c_17]

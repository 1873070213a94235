set_option maxRecDepth 10000 in
set_option maxHeartbeats 4000000 in
theorem x_joined {d : Nat} {M : Mem} {t x y : Int} (h1 : ib t) (h2 : ib x) (h3 : ib y) : Con GX d kX3_joined [iv t, iv x, iv y] M (pI (fun a M2 => M = M2 ∧ a = xjn t x y)) := by
  refine con_of [some (iv t), some (iv x), some (iv y)] (plX3) rfl (Nat.le_of_ble_eq_true rfl) (fun z => ?_)
  refine r_iload_0 dX3_joined_0 ?_
  refine r_lsw6 (t0 := 110) (t1 := 114) (t2 := 88) (t3 := 99) (t4 := 60) (t5 := 74) (td := 118) dX3_joined_1 (by decide) (by omega) (by decide) (by decide) (by decide) (by decide) (by decide) (by decide) (by decide) (fun c_1 => ?_) (fun c_1 => ?_) (fun c_1 => ?_) (fun c_1 => ?_) (fun c_1 => ?_) (fun c_1 => ?_) (fun c_1_0 c_1_1 c_1_2 c_1_3 c_1_4 c_1_5 => ?_)
  · skip
    skip
    refine r_iload_1 dX3_joined_110 (r_iload_2 dX3_joined_111 (r_iadd dX3_joined_112 ?_))
    refine r_as (w32_i3 _) ?_
    refine r_ireturn dX3_joined_113 rfl ?_
    exact ⟨_, rfl, rfl, by simp [xjn, *]⟩
  · skip
    skip
    refine r_iload_1 dX3_joined_114 (r_iload_2 dX3_joined_115 (r_isub dX3_joined_116 ?_))
    refine r_as (w32_i3 _) ?_
    refine r_ireturn dX3_joined_117 rfl ?_
    exact ⟨_, rfl, rfl, by simp [xjn, *]⟩
  · skip
    skip
    refine r_iload_1 dX3_joined_88 (r_iload_2 dX3_joined_89 ?_)
    refine r_icmp_ge dX3_joined_90 (by omega) (by omega) (fun c_90 => ?_) (fun c_90 => ?_)
    · skip
      refine r_iconst dX3_joined_97 ?_
      refine r_ireturn dX3_joined_98 rfl ?_
      exact ⟨_, rfl, rfl, by simp [xjn, *]⟩
    · skip
      refine r_iconst dX3_joined_93 (r_goto dX3_joined_94 ?_)
      refine r_ireturn dX3_joined_98 rfl ?_
      exact ⟨_, rfl, rfl, by simp [xjn, *]⟩
  · skip
    skip
    refine r_iload_1 dX3_joined_99 (r_iload_2 dX3_joined_100 ?_)
    refine r_icmp_ne dX3_joined_101 (by omega) (by omega) (fun c_101 => ?_) (fun c_101 => ?_)
    · skip
      refine r_iconst dX3_joined_108 ?_
      refine r_ireturn dX3_joined_109 rfl ?_
      exact ⟨_, rfl, rfl, by simp [xjn, *]⟩
    · skip
      refine r_iconst dX3_joined_104 (r_goto dX3_joined_105 ?_)
      refine r_ireturn dX3_joined_109 rfl ?_
      exact ⟨_, rfl, rfl, by simp [xjn, *]⟩
  · skip
    skip
    refine r_iload_1 dX3_joined_60 ?_
    refine r_if_ne dX3_joined_61 (by omega) (fun c_61 => ?_) (fun c_61 => ?_)
    · skip
      refine r_iconst dX3_joined_68 (r_goto dX3_joined_69 ?_)
      refine r_ireturn dX3_joined_73 rfl ?_
      exact ⟨_, rfl, rfl, by simp [xjn, *]⟩
    · skip
      refine r_iload_2 dX3_joined_64 ?_
      refine r_if_eq dX3_joined_65 (by omega) (fun c_65 => ?_) (fun c_65 => ?_)
      · skip
        refine r_iconst dX3_joined_72 ?_
        refine r_ireturn dX3_joined_73 rfl ?_
        exact ⟨_, rfl, rfl, by simp [xjn, *]⟩
      · skip
        refine r_iconst dX3_joined_68 (r_goto dX3_joined_69 ?_)
        refine r_ireturn dX3_joined_73 rfl ?_
        exact ⟨_, rfl, rfl, by simp [xjn, *]⟩
  · skip
    skip
    refine r_iload_1 dX3_joined_74 ?_
    refine r_if_eq dX3_joined_75 (by omega) (fun c_75 => ?_) (fun c_75 => ?_)
    · skip
      refine r_iconst dX3_joined_86 ?_
      refine r_ireturn dX3_joined_87 rfl ?_
      exact ⟨_, rfl, rfl, by simp [xjn, *]⟩
    · skip
      refine r_iload_2 dX3_joined_78 ?_
      refine r_if_eq dX3_joined_79 (by omega) (fun c_79 => ?_) (fun c_79 => ?_)
      · skip
        refine r_iconst dX3_joined_86 ?_
        refine r_ireturn dX3_joined_87 rfl ?_
        exact ⟨_, rfl, rfl, by simp [xjn, *]⟩
      · skip
        refine r_iconst dX3_joined_82 (r_goto dX3_joined_83 ?_)
        refine r_ireturn dX3_joined_87 rfl ?_
        exact ⟨_, rfl, rfl, by simp [xjn, *]⟩
  · skip
    skip
    refine r_iload_1 dX3_joined_118 (r_iload_2 dX3_joined_119 (r_imul dX3_joined_120 ?_))
    refine r_as (w32_i3 _) ?_
    refine r_ireturn dX3_joined_121 rfl ?_
    exact ⟨_, rfl, rfl, by simp [xjn, *]⟩
set_option maxRecDepth 10000 in
set_option maxHeartbeats 4000000 in
theorem x_worth {M : Mem} {t nb : Nat} {T : Tx} {part : Nat} {e : Nat → Int} (ht : t < 6) (hn : GX[nb]? = some (.inr (.inl 6))) (hnb : nb ≠ 36 + 4 * t + 3) (hT : TextX M (36 + 4 * t) T) (hok : okT T) (hpart : part < 3) (hnm : ∀ j, j < 6 → M nb j = e j) : Con GX 1 kX3_worth [rv (36 + 4 * t), iv (part : Int), rv nb] M (pI (fun a M2 => a = says T part e ∧ Fr (fun c => c == 36 + 4 * t + 3) M M2)) := by
  refine con_of [some (rv (36 + 4 * t)), some (iv (part : Int)), some (rv nb), none, none, none] (plX3) rfl (Nat.le_of_ble_eq_true rfl) (fun z => ?_)
  refine r_mb (fun hMB => ?_)
  obtain ⟨k0, k1, k2, k3, k4, k5⟩ := hok
  have k6 := k5 part hpart
  have kb : 0 ≤ T.2 part ∧ T.2 part ≤ T.2 (part + 1) ∧ T.2 (part + 1) ≤ T.2 3 := by
    rcases (by omega : part = 0 ∨ part = 1 ∨ part = 2) with rfl | rfl | rfl <;> simp only [Nat.zero_add, Nat.reduceAdd] <;> omega
  have kend := hT.at hpart
  have nbF : ∀ Mv : Mem, Fr (fun c => c == 36 + 4 * t + 3) M Mv → (∀ j, j < 6 → Mv nb j = e j) ∧ (∀ i, i < (T.2 3).toNat → Mv (36 + 4 * t + 1) i = enc (T.1 i)) ∧ Mv (36 + 4 * t + 2) part = T.2 (part + 1) := by
    intro Mv hF
    refine ⟨fun j hj => (hF _ _ (by simp [hnb])).trans (hnm j hj), fun i hi => (hF _ _ (by simp)).trans (hT.1 i hi), (hF _ _ (by simp)).trans kend⟩
  refine r_iconst dX3_worth_0 (r_istore_3 dX3_worth_1 rfl ?_)
  have jn_18 : WP kX3_worth GX 1 (pI (fun a M2 => a = says T part e ∧ Fr (fun c => c == 36 + 4 * t + 3) M M2)) z 18 [some (rv (36 + 4 * t)), some (iv (part : Int)), some (rv nb), some (iv (-1)), none, none] [iv (T.2 part)] M := by
    refine r_istore_4 dX3_worth_18 rfl ?_
    have lp_20 : ∀ (NN : Nat) (n i dep : Nat) (top x : Int) (o5 : Option PV) (Mv : Mem) (stk : List Int) (hx : x = i) (htop : top = dep - 1) (hlen : stk.length = dep) (hdep : dep ≤ 31) (hi : (i : Int) + n = T.2 (part + 1)) (hoc : okc T.1 n i dep) (hsk : SK Mv (36 + 4 * t + 3) stk) (hev : (evl e T.1 n i stk).headD 0 = says T part e) (hF : Fr (fun c => c == 36 + 4 * t + 3) M Mv), n < NN → WP kX3_worth GX 1 (pI (fun a M2 => a = says T part e ∧ Fr (fun c => c == 36 + 4 * t + 3) M M2)) z 20 [some (rv (36 + 4 * t)), some (iv (part : Int)), some (rv nb), some (iv top), some (iv x), o5] [] Mv := by
      intro NN
      induction NN with
      | zero => intros; omega
      | succ NN ih =>
        intro n i dep top x o5 Mv stk hx htop hlen hdep hi hoc hsk hev hF hm
        obtain ⟨f1, f2, f3⟩ := nbF Mv hF
        refine r_mb (fun hMv => ?_)
        refine r_iload_4 dX3_worth_20 ?_
        refine r_aload_0 dX3_worth_22 (r_getR dX3_worth_23 fX3_15 (gX0 ht) (rfl) (r_iload_1 dX3_worth_26 (r_ialN dX3_worth_27 (gX2 ht) (by omega) (by omega) (f3) ?_)))
        refine r_icmp_ge dX3_worth_28 (by omega) (by omega) (fun c_28 => ?_) (fun c_28 => ?_)
        · skip
          obtain rfl : n = 0 := by omega
          have hoc : dep = 1 := hoc
          obtain ⟨a0, r0, rfl⟩ : ∃ a r, stk = a :: r := by
            cases stk with
            | nil => simp at hlen; omega
            | cons a r => exact ⟨a, r, rfl⟩
          have hr0 : r0 = [] := by
            cases r0 with
            | nil => rfl
            | cons b q => simp at hlen; omega
          subst hr0
          refine r_iload_3 dX3_worth_197 ?_
          refine r_if_lt dX3_worth_198 (by omega) (fun c_198 => ?_) (fun c_198 => ?_)
          · exfalso; omega
          · skip
            refine r_aload_0 dX3_worth_201 (r_getR dX3_worth_202 fX3_18 (gX0 ht) (rfl) (r_iload_3 dX3_worth_205 (r_ialE dX3_worth_206 (gX3 ht) (by omega) (by omega) ((show _ = a0 by rw [show top.toNat = ([] : List Int).length by simp at hlen; simp; omega]; exact hsk.1)) (r_goto dX3_worth_207 ?_))))
            refine r_ireturn dX3_worth_211 rfl ?_
            refine ⟨_, rfl, ?_, hF⟩
            simpa [evl] using hev
        · skip
          obtain ⟨m, rfl⟩ : ∃ m, n = m + 1 := ⟨n - 1, by omega⟩
          simp only [evl] at hev
          have hsi := f2 i (by omega)
          have hlo := okc_lo hoc
          have hsb := hMv (36 + 4 * t + 1) i
          rw [hsi] at hsb
          have hxi : x.toNat = i := by omega
          refine r_aload_0 dX3_worth_31 (r_getR dX3_worth_32 fX3_9 (gX0 ht) (rfl) (r_iload_4 dX3_worth_35 (r_ialE dX3_worth_37 (gX1 ht) (by omega) (by omega) ((by rw [hxi, hsi])) (r_istore_5 dX3_worth_38 rfl (r_iload_5 dX3_worth_40 ?_)))))
          refine r_if_ge dX3_worth_42 (by omega) (fun c_42 => ?_) (fun c_42 => ?_)
          · skip
            obtain ⟨g1, g2, g3, g4⟩ := okc_num hoc c_42
            refine r_iload_3 dX3_worth_54 (r_iconst dX3_worth_55 (r_iadd dX3_worth_56 (r_aload_0 dX3_worth_57 (r_getR dX3_worth_58 fX3_18 (gX0 ht) (rfl) ?_))))
            refine r_alen dX3_worth_61 (gX3 ht) ?_
            refine r_icmp_ge dX3_worth_62 (by omega) (by omega) (fun c_62 => ?_) (fun c_62 => ?_)
            · exfalso; omega
            · skip
              refine r_iinc_3 dX3_worth_65 rfl (r_aload_0 dX3_worth_68 (r_getR dX3_worth_69 fX3_18 (gX0 ht) (rfl) (r_iload_3 dX3_worth_72 (r_iload_5 dX3_worth_73 ?_))))
              refine r_if_lt dX3_worth_75 (by omega) (fun c_75 => ?_) (fun c_75 => ?_)
              · exfalso; omega
              · skip
                skip
                refine r_iload_5 dX3_worth_78 (r_goto dX3_worth_80 ?_)
                refine r_iastore dX3_worth_92 (gX3 ht) (by omega) (by omega) (by omega) ?_
                refine r_goto dX3_worth_93 (r_iinc_4 dX3_worth_191 rfl (r_goto dX3_worth_194 ?_))
                exact ih m (i + 1) (dep + 1) (top + 1) (x + 1) _ _ ((T.1 i - 100000) :: stk) (by omega) (by omega) (by rw [List.length_cons]; omega) (by omega) (by omega) g4 (by rw [g2]; exact SK_push hsk (by omega)) (by rw [ev1_num (by omega)] at hev; exact hev) (hF.up (by simp)) (by omega)
          · skip
            refine r_iload_5 dX3_worth_45 (r_ineg dX3_worth_47 ?_)
            refine r_cSI1 dX3_worth_48 sX3_32 (x_isName (d := 0) (by omega)) (by decide) (Nat.le_of_ble_eq_true rfl) (fun b_48 M_48 h_48 => ?_)
            obtain ⟨rfl, rfl⟩ := h_48
            refine r_ifd_eq dX3_worth_51 (fun c_51 => ?_) (fun c_51 => ?_)
            · skip
              refine r_iload_5 dX3_worth_96 (r_sipush dX3_worth_98 (by decide) ?_)
              refine r_icmp_eq dX3_worth_101 (by omega) (by omega) (fun c_101 => ?_) (fun c_101 => ?_)
              · skip
                obtain ⟨g1, g3, g4⟩ := okc_neg hoc c_101
                refine r_iload_3 dX3_worth_112 ?_
                refine r_if_lt dX3_worth_113 (by omega) (fun c_113 => ?_) (fun c_113 => ?_)
                · exfalso; omega
                · skip
                  obtain ⟨a0, r0, rfl⟩ : ∃ a r, stk = a :: r := by
                    cases stk with
                    | nil => simp at hlen; omega
                    | cons a r => exact ⟨a, r, rfl⟩
                  obtain ⟨hk1, hk2⟩ := hsk
                  rw [List.length_cons] at hlen
                  refine r_aload_0 dX3_worth_116 (r_getR dX3_worth_117 fX3_18 (gX0 ht) (rfl) (r_iload_3 dX3_worth_120 (r_iload_5 dX3_worth_121 (r_sipush dX3_worth_123 (by decide) ?_))))
                  refine r_icmp_ne dX3_worth_126 (by omega) (by omega) (fun c_126 => ?_) (fun c_126 => ?_)
                  · exfalso; omega
                  · skip
                    skip
                    refine r_aload_0 dX3_worth_129 (r_getR dX3_worth_130 fX3_18 (gX0 ht) (rfl) (r_iload_3 dX3_worth_133 (r_ialE dX3_worth_134 (gX3 ht) (by omega) (by omega) ((show _ = a0 by rw [show top.toNat = r0.length by omega]; exact hk1)) (r_ineg dX3_worth_135 ?_))))
                    refine r_as (w32_i3 _) ?_
                    refine r_goto dX3_worth_136 ?_
                    refine r_iastore dX3_worth_153 (gX3 ht) (by omega) (by omega) (by exact w32_ib _) ?_
                    refine r_goto dX3_worth_154 (r_iinc_4 dX3_worth_191 rfl (r_goto dX3_worth_194 ?_))
                    rw [g1, ev1_neg] at hev
                    exact ih m (i + 1) dep top (x + 1) _ _ (w32 (-a0) :: r0) (by omega) (by omega) (by rw [List.length_cons]; omega) (by omega) (by omega) g4 (SK_push hk2 (by omega)) hev (hF.up (by simp)) (by omega)
              · skip
                refine r_iload_5 dX3_worth_104 (r_sipush dX3_worth_106 (by decide) ?_)
                refine r_icmp_ne dX3_worth_109 (by omega) (by omega) (fun c_109 => ?_) (fun c_109 => ?_)
                · skip
                  obtain ⟨hbin, g3, g4⟩ := okc_bin hoc c_42 c_51 c_101 c_109
                  refine r_iload_3 dX3_worth_157 (r_iconst dX3_worth_158 ?_)
                  refine r_icmp_lt dX3_worth_159 (by omega) (by omega) (fun c_159 => ?_) (fun c_159 => ?_)
                  · exfalso; omega
                  · skip
                    obtain ⟨y0, x0, r0, rfl⟩ : ∃ y x r, stk = y :: x :: r := by
                      match stk, hlen with
                      | [], hlen => simp at hlen; omega
                      | [a], hlen => simp at hlen; omega
                      | y :: x :: r, hlen => exact ⟨y, x, r, rfl⟩
                    obtain ⟨hk1, hk2, hk3⟩ := hsk
                    rw [List.length_cons, List.length_cons] at hlen
                    rw [List.length_cons] at hk1
                    refine r_iinc_3 dX3_worth_162 rfl (r_aload_0 dX3_worth_165 (r_getR dX3_worth_166 fX3_18 (gX0 ht) (rfl) (r_iload_3 dX3_worth_169 (r_iload_5 dX3_worth_170 (r_ineg dX3_worth_172 (r_aload_0 dX3_worth_173 (r_getR dX3_worth_174 fX3_18 (gX0 ht) (rfl) (r_iload_3 dX3_worth_177 (r_ialE dX3_worth_178 (gX3 ht) (by omega) (by omega) ((show _ = x0 by rw [show (top + -1).toNat = r0.length by omega]; exact hk2)) (r_aload_0 dX3_worth_179 (r_getR dX3_worth_180 fX3_18 (gX0 ht) (rfl) (r_iload_3 dX3_worth_183 (r_iconst dX3_worth_184 (r_iadd dX3_worth_185 (r_ialE dX3_worth_186 (gX3 ht) (by omega) (by omega) ((show _ = y0 by rw [show (top + -1 + 1).toNat = r0.length + 1 by omega]; exact hk1)) ?_)))))))))))))))
                    refine r_cSI3 dX3_worth_187 sX3_36 (x_joined (d := 0) (by omega) (by have := hMv (36 + 4 * t + 3) r0.length; omega) (by have := hMv (36 + 4 * t + 3) (r0.length + 1); omega)) (by decide) (Nat.le_of_ble_eq_true rfl) (fun b_187 M_187 h_187 => ?_)
                    obtain ⟨rfl, rfl⟩ := h_187
                    refine r_iastore dX3_worth_190 (gX3 ht) (by omega) (by omega) (by exact xjn_ib _) ?_
                    refine r_iinc_4 dX3_worth_191 rfl (r_goto dX3_worth_194 ?_)
                    exact ih m (i + 1) (dep - 1) (top + -1) (x + 1) _ _ (tw (T.1 i) x0 y0 :: r0) (by omega) (by omega) (by rw [List.length_cons]; omega) (by omega) (by omega) g4 (by rw [xjn_tw hbin]; exact SK_push hk3 (by omega)) (by rw [ev1_bin hbin] at hev; exact hev) (hF.up (by simp)) (by omega)
                · skip
                  obtain ⟨g1, g3, g4⟩ := okc_not hoc c_109
                  refine r_iload_3 dX3_worth_112 ?_
                  refine r_if_lt dX3_worth_113 (by omega) (fun c_113 => ?_) (fun c_113 => ?_)
                  · exfalso; omega
                  · skip
                    obtain ⟨a0, r0, rfl⟩ : ∃ a r, stk = a :: r := by
                      cases stk with
                      | nil => simp at hlen; omega
                      | cons a r => exact ⟨a, r, rfl⟩
                    obtain ⟨hk1, hk2⟩ := hsk
                    rw [List.length_cons] at hlen
                    refine r_aload_0 dX3_worth_116 (r_getR dX3_worth_117 fX3_18 (gX0 ht) (rfl) (r_iload_3 dX3_worth_120 (r_iload_5 dX3_worth_121 (r_sipush dX3_worth_123 (by decide) ?_))))
                    refine r_icmp_ne dX3_worth_126 (by omega) (by omega) (fun c_126 => ?_) (fun c_126 => ?_)
                    · skip
                      skip
                      refine r_aload_0 dX3_worth_139 (r_getR dX3_worth_140 fX3_18 (gX0 ht) (rfl) (r_iload_3 dX3_worth_143 (r_ialE dX3_worth_144 (gX3 ht) (by omega) (by omega) ((show _ = a0 by rw [show top.toNat = r0.length by omega]; exact hk1)) ?_)))
                      refine r_if_ne dX3_worth_145 (by have q2 := hMv (36 + 4 * t + 3) r0.length; omega) (fun c_145 => ?_) (fun c_145 => ?_)
                      · skip
                        refine r_iconst dX3_worth_152 ?_
                        refine r_iastore dX3_worth_153 (gX3 ht) (by omega) (by omega) (by omega) ?_
                        refine r_goto dX3_worth_154 (r_iinc_4 dX3_worth_191 rfl (r_goto dX3_worth_194 ?_))
                        rw [g1, ev1_not, if_neg c_145] at hev
                        exact ih m (i + 1) dep top (x + 1) _ _ (0 :: r0) (by omega) (by omega) (by rw [List.length_cons]; omega) (by omega) (by omega) g4 (SK_push hk2 (by omega)) hev (hF.up (by simp)) (by omega)
                      · skip
                        refine r_iconst dX3_worth_148 (r_goto dX3_worth_149 ?_)
                        refine r_iastore dX3_worth_153 (gX3 ht) (by omega) (by omega) (by omega) ?_
                        refine r_goto dX3_worth_154 (r_iinc_4 dX3_worth_191 rfl (r_goto dX3_worth_194 ?_))
                        rw [g1, ev1_not, if_pos c_145] at hev
                        exact ih m (i + 1) dep top (x + 1) _ _ (1 :: r0) (by omega) (by omega) (by rw [List.length_cons]; omega) (by omega) (by omega) g4 (SK_push hk2 (by omega)) hev (hF.up (by simp)) (by omega)
                    · exfalso; omega
            · skip
              obtain ⟨⟨g0, g1⟩, g2, g3, g4⟩ := okc_name hoc c_51
              refine r_iload_3 dX3_worth_54 (r_iconst dX3_worth_55 (r_iadd dX3_worth_56 (r_aload_0 dX3_worth_57 (r_getR dX3_worth_58 fX3_18 (gX0 ht) (rfl) ?_))))
              refine r_alen dX3_worth_61 (gX3 ht) ?_
              refine r_icmp_ge dX3_worth_62 (by omega) (by omega) (fun c_62 => ?_) (fun c_62 => ?_)
              · exfalso; omega
              · skip
                refine r_iinc_3 dX3_worth_65 rfl (r_aload_0 dX3_worth_68 (r_getR dX3_worth_69 fX3_18 (gX0 ht) (rfl) (r_iload_3 dX3_worth_72 (r_iload_5 dX3_worth_73 ?_))))
                refine r_if_lt dX3_worth_75 (by omega) (fun c_75 => ?_) (fun c_75 => ?_)
                · skip
                  skip
                  refine r_aload_2 dX3_worth_83 (r_iload_5 dX3_worth_84 (r_ineg dX3_worth_86 (r_sipush dX3_worth_87 (by decide) (r_isub dX3_worth_90 (r_ialE dX3_worth_91 (hn) (by omega) (by omega) ((show Mv nb (-enc (T.1 i) - 262).toNat = e (T.1 i).toNat by rw [show (-enc (T.1 i) - 262).toNat = (T.1 i).toNat by omega]; exact f1 _ (by omega))) ?_)))))
                  refine r_iastore dX3_worth_92 (gX3 ht) (by omega) (by omega) (by have q1 := f1 (T.1 i).toNat (by omega); have q2 := hMv nb (T.1 i).toNat; omega) ?_
                  refine r_goto dX3_worth_93 (r_iinc_4 dX3_worth_191 rfl (r_goto dX3_worth_194 ?_))
                  exact ih m (i + 1) (dep + 1) (top + 1) (x + 1) _ _ (e (T.1 i).toNat :: stk) (by omega) (by omega) (by rw [List.length_cons]; omega) (by omega) (by omega) g4 (SK_push hsk (by omega)) (by rw [ev1_name (by omega)] at hev; exact hev) (hF.up (by simp)) (by omega)
                · exfalso; omega
    exact lp_20 _ (T.2 (part + 1) - T.2 part).toNat (T.2 part).toNat 0 (-1) _ none M [] (by omega) rfl rfl (by omega) (by omega) k6 trivial rfl Fr.refl (Nat.lt_succ_self _)
  refine r_iload_1 dX3_worth_2 ?_
  refine r_if_ne dX3_worth_3 (by omega) (fun c_3 => ?_) (fun c_3 => ?_)
  · skip
    refine r_aload_0 dX3_worth_10 (r_getR dX3_worth_11 fX3_15 (gX0 ht) (rfl) (r_iload_1 dX3_worth_14 (r_iconst dX3_worth_15 (r_isub dX3_worth_16 (r_ialE dX3_worth_17 (gX2 ht) (by omega) (by omega) ((by rw [show ((part : Int) - 1).toNat = part - 1 by omega, hT.at (part := part - 1) (by omega), show part - 1 + 1 = part by omega])) ?_)))))
    exact jn_18
  · skip
    obtain rfl : part = 0 := by omega
    rw [k0] at jn_18
    refine r_iconst dX3_worth_6 ?_
    skip
    refine r_goto dX3_worth_7 ?_
    exact jn_18

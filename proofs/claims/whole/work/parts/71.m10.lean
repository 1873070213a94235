abbrev mY (a b n k c i : Nat) : Prop := c = 12 ∧ b ≤ i ∧ i < b + n ∧ (b ≤ a ∨ b + n ≤ i + k) ∧ (a < b ∨ i < b + k)
set_option maxRecDepth 10000 in
set_option maxHeartbeats 4000000 in
theorem m6_copy {M : Mem} {nT tn : Nat} {X : Nat → Tx} {τ τi : Tn} {img : Bool} {tp ss sz : Nat → Int} {cl : Nat → Nat → Int} (hR : RM M (nT, X, τ, img, τi, tn, tp, ss, sz, cl)) (hJ : JNV (nT, X, τ, img, τi, tn, tp, ss, sz, cl)) {s : Int} (h_s : ib s) {i : Int} (h_i : ib i) {o : Int} (h_o : ib o) {j : Int} (h_j : ib j) {n : Int} (h_n : ib n) : Con GM 9 kX6_copy [rv 0, iv s, iv i, iv o, iv j, iv n] M (pI (fun a M2 => a = a_copy (nT, X, τ, img, τi, tn, tp, ss, sz, cl) s i o j n ∧ RM M2 (t_copy (nT, X, τ, img, τi, tn, tp, ss, sz, cl) s i o j n))) := by
  refine con_of [some (rv 0), some (iv s), some (iv i), some (iv o), some (iv j), some (iv n), none, none, none, none] (plX6) rfl (Nat.le_of_ble_eq_true rfl) (fun z => ?_)
  have hR0 := hR
  obtain ⟨hT, hX, hnT, himg, hIM, ⟨htn, htp⟩, hsh, hwc⟩ := hR0
  have hT : TM M τ := hT
  have hJ0 := hJ
  obtain ⟨⟨⟨iT1, iT6⟩, ⟨hw, icl⟩, iim, ⟨itn, itp⟩, ish⟩, hki⟩ := hJ0
  obtain ⟨⟨wn, wn2⟩, wcl, ⟨wl, wl2⟩, -, -⟩ := id hw
  have hcl : τ 8 1 < 2147483648 := by omega
  refine r_mb (fun hMB => ?_)
  refine r_iload_1 dX6_copy_0 (r_iconst dX6_copy_1 (r_iconst dX6_copy_2 ?_))
  refine r_cSI3 dX6_copy_3 sX6_75 (m_in (d := 0) (by omega) (by omega) (by omega)) (by decide) (Nat.le_of_ble_eq_true rfl) (fun b_3 M_3 h_3 => ?_)
  obtain ⟨rfl, rfl⟩ := h_3
  first | refine r_ifd_eq dX6_copy_6 (fun c_6 => ?_) (fun c_6 => ?_) | refine r_ifb_eq dX6_copy_6 (fun c_6 => ?_) (fun c_6 => ?_)
  · skip
    refine r_bipush dX6_copy_18 (by decide) ?_
    refine r_ireturn dX6_copy_20 rfl ?_
    refine ⟨_, rfl, ?_, ?_⟩
    · unfold a_copy
      simp only [Int.toNat_natCast]
      (repeat (first | rw [if_pos (by omega)] | rw [if_neg (by omega)])) <;> first | with_reducible rfl | omega
    · unfold t_copy
      simp only [Int.toNat_natCast]
      (repeat (first | rw [if_pos (by omega)] | rw [if_neg (by omega)])) <;> first | exact hR
  · skip
    refine r_iload_3 dX6_copy_9 (r_iconst dX6_copy_10 (r_iconst dX6_copy_11 ?_))
    refine r_cSI3 dX6_copy_12 sX6_75 (m_in (d := 0) (by omega) (by omega) (by omega)) (by decide) (Nat.le_of_ble_eq_true rfl) (fun b_12 M_12 h_12 => ?_)
    obtain ⟨rfl, rfl⟩ := h_12
    first | refine r_ifd_ne dX6_copy_15 (fun c_15 => ?_) (fun c_15 => ?_) | refine r_ifb_ne dX6_copy_15 (fun c_15 => ?_) (fun c_15 => ?_)
    · skip
      obtain ⟨e, rfl⟩ : ∃ e : Nat, s = e := ⟨s.toNat, by omega⟩
      have he4 : e < 4 := by omega
      have hs := hsh e he4
      have is := ish e he4
      obtain ⟨f, rfl⟩ : ∃ f : Nat, o = f := ⟨o.toNat, by omega⟩
      have hf4 : f < 4 := by omega
      have hs2 := hsh f hf4
      have is2 := ish f hf4
      refine r_aload_0 dX6_copy_21 (r_getR dX6_copy_22 fX6_37 (rfl) (rfl) (r_iload_1 dX6_copy_25 (r_ialX dX6_copy_26 (rfl) (hs.1) (by omega) (by omega) (by omega) (r_iconst dX6_copy_27 ?_))))
      refine r_icmp_eq dX6_copy_28 (by omega) (by omega) (fun c_28 => ?_) (fun c_28 => ?_)
      · skip
        refine r_bipush dX6_copy_41 (by decide) ?_
        refine r_ireturn dX6_copy_43 rfl ?_
        refine ⟨_, rfl, ?_, ?_⟩
        · unfold a_copy
          simp only [Int.toNat_natCast]
          (repeat (first | rw [if_pos (by omega)] | rw [if_neg (by omega)])) <;> first | with_reducible rfl | omega
        · unfold t_copy
          simp only [Int.toNat_natCast]
          (repeat (first | rw [if_pos (by omega)] | rw [if_neg (by omega)])) <;> first | exact hR
      · skip
        refine r_aload_0 dX6_copy_31 (r_getR dX6_copy_32 fX6_37 (rfl) (rfl) (r_iload_3 dX6_copy_35 (r_ialX dX6_copy_36 (rfl) (hs2.1) (by omega) (by omega) (by omega) (r_iconst dX6_copy_37 ?_))))
        refine r_icmp_ne dX6_copy_38 (by omega) (by omega) (fun c_38 => ?_) (fun c_38 => ?_)
        · skip
          refine r_aload_0 dX6_copy_44 (r_getR dX6_copy_45 fX6_37 (rfl) (rfl) (r_iload_1 dX6_copy_48 (r_ialX dX6_copy_49 (rfl) (hs.1) (by omega) (by omega) (by omega) (r_aload_0 dX6_copy_50 (r_getR dX6_copy_51 fX6_37 (rfl) (rfl) (r_iload_3 dX6_copy_54 (r_ialX dX6_copy_55 (rfl) (hs2.1) (by omega) (by omega) (by omega) ?_)))))))
          refine r_icmp_eq dX6_copy_56 (by omega) (by omega) (fun c_56 => ?_) (fun c_56 => ?_)
          · skip
            refine r_iload_5 dX6_copy_62 ?_
            refine r_if_lt dX6_copy_64 (by omega) (fun c_64 => ?_) (fun c_64 => ?_)
            · skip
              refine r_bipush dX6_copy_124 (by decide) ?_
              refine r_ireturn dX6_copy_126 rfl ?_
              refine ⟨_, rfl, ?_, ?_⟩
              · unfold a_copy
                simp only [Int.toNat_natCast]
                (repeat (first | rw [if_pos (by omega)] | rw [if_neg (by omega)])) <;> first | with_reducible rfl | omega
              · unfold t_copy
                simp only [Int.toNat_natCast]
                (repeat (first | rw [if_pos (by omega)] | rw [if_neg (by omega)])) <;> first | exact hR
            · skip
              refine r_iload_2 dX6_copy_67 ?_
              refine r_if_lt dX6_copy_68 (by omega) (fun c_68 => ?_) (fun c_68 => ?_)
              · skip
                refine r_bipush dX6_copy_124 (by decide) ?_
                refine r_ireturn dX6_copy_126 rfl ?_
                refine ⟨_, rfl, ?_, ?_⟩
                · unfold a_copy
                  simp only [Int.toNat_natCast]
                  (repeat (first | rw [if_pos (by omega)] | rw [if_neg (by omega)])) <;> first | with_reducible rfl | omega
                · unfold t_copy
                  simp only [Int.toNat_natCast]
                  (repeat (first | rw [if_pos (by omega)] | rw [if_neg (by omega)])) <;> first | exact hR
              · skip
                refine r_iload_4 dX6_copy_71 ?_
                refine r_if_lt dX6_copy_73 (by omega) (fun c_73 => ?_) (fun c_73 => ?_)
                · skip
                  refine r_bipush dX6_copy_124 (by decide) ?_
                  refine r_ireturn dX6_copy_126 rfl ?_
                  refine ⟨_, rfl, ?_, ?_⟩
                  · unfold a_copy
                    simp only [Int.toNat_natCast]
                    (repeat (first | rw [if_pos (by omega)] | rw [if_neg (by omega)])) <;> first | with_reducible rfl | omega
                  · unfold t_copy
                    simp only [Int.toNat_natCast]
                    (repeat (first | rw [if_pos (by omega)] | rw [if_neg (by omega)])) <;> first | exact hR
                · skip
                  refine r_iload_2 dX6_copy_76 (r_aload_0 dX6_copy_77 (r_getR dX6_copy_78 fX6_40 (rfl) (rfl) (r_iload_1 dX6_copy_81 (r_ialX dX6_copy_82 (rfl) (hs.2.1) (by omega) (by omega) (by omega) ?_))))
                  refine r_icmp_gt dX6_copy_83 (by omega) (by omega) (fun c_83 => ?_) (fun c_83 => ?_)
                  · skip
                    refine r_bipush dX6_copy_124 (by decide) ?_
                    refine r_ireturn dX6_copy_126 rfl ?_
                    refine ⟨_, rfl, ?_, ?_⟩
                    · unfold a_copy
                      simp only [Int.toNat_natCast]
                      (repeat (first | rw [if_pos (by omega)] | rw [if_neg (by omega)])) <;> first | with_reducible rfl | omega
                    · unfold t_copy
                      simp only [Int.toNat_natCast]
                      (repeat (first | rw [if_pos (by omega)] | rw [if_neg (by omega)])) <;> first | exact hR
                  · skip
                    refine r_iload_4 dX6_copy_86 (r_aload_0 dX6_copy_88 (r_getR dX6_copy_89 fX6_40 (rfl) (rfl) (r_iload_3 dX6_copy_92 (r_ialX dX6_copy_93 (rfl) (hs2.2.1) (by omega) (by omega) (by omega) ?_))))
                    refine r_icmp_gt dX6_copy_94 (by omega) (by omega) (fun c_94 => ?_) (fun c_94 => ?_)
                    · skip
                      refine r_bipush dX6_copy_124 (by decide) ?_
                      refine r_ireturn dX6_copy_126 rfl ?_
                      refine ⟨_, rfl, ?_, ?_⟩
                      · unfold a_copy
                        simp only [Int.toNat_natCast]
                        (repeat (first | rw [if_pos (by omega)] | rw [if_neg (by omega)])) <;> first | with_reducible rfl | omega
                      · unfold t_copy
                        simp only [Int.toNat_natCast]
                        (repeat (first | rw [if_pos (by omega)] | rw [if_neg (by omega)])) <;> first | exact hR
                    · skip
                      refine r_iload_5 dX6_copy_97 (r_aload_0 dX6_copy_99 (r_getR dX6_copy_100 fX6_40 (rfl) (rfl) (r_iload_1 dX6_copy_103 (r_ialX dX6_copy_104 (rfl) (hs.2.1) (by omega) (by omega) (by omega) (r_iload_2 dX6_copy_105 (r_isub dX6_copy_106 ?_))))))
                      refine r_icmp_gt dX6_copy_107 (by omega) (by omega) (fun c_107 => ?_) (fun c_107 => ?_)
                      · skip
                        refine r_bipush dX6_copy_124 (by decide) ?_
                        refine r_ireturn dX6_copy_126 rfl ?_
                        refine ⟨_, rfl, ?_, ?_⟩
                        · unfold a_copy
                          simp only [Int.toNat_natCast]
                          (repeat (first | rw [if_pos (by omega)] | rw [if_neg (by omega)])) <;> first | with_reducible rfl | omega
                        · unfold t_copy
                          simp only [Int.toNat_natCast]
                          (repeat (first | rw [if_pos (by omega)] | rw [if_neg (by omega)])) <;> first | exact hR
                      · skip
                        refine r_iload_5 dX6_copy_110 (r_aload_0 dX6_copy_112 (r_getR dX6_copy_113 fX6_40 (rfl) (rfl) (r_iload_3 dX6_copy_116 (r_ialX dX6_copy_117 (rfl) (hs2.2.1) (by omega) (by omega) (by omega) (r_iload_4 dX6_copy_118 (r_isub dX6_copy_120 ?_))))))
                        refine r_icmp_le dX6_copy_121 (by omega) (by omega) (fun c_121 => ?_) (fun c_121 => ?_)
                        · skip
                          obtain ⟨I, rfl⟩ : ∃ I : Nat, i = I := ⟨i.toNat, by omega⟩
                          obtain ⟨J, rfl⟩ : ∃ J : Nat, j = J := ⟨j.toNat, by omega⟩
                          obtain ⟨N, rfl⟩ : ∃ N : Nat, n = N := ⟨n.toNat, by omega⟩
                          obtain ⟨a0, ha0⟩ : ∃ a0 : Nat, a0 = 40 * e + I := ⟨_, rfl⟩
                          obtain ⟨b0, hb0⟩ : ∃ b0 : Nat, b0 = 40 * f + J := ⟨_, rfl⟩
                          refine r_bipush dX6_copy_127 (by decide) (r_iload_1 dX6_copy_129 (r_imul dX6_copy_130 (r_iload_2 dX6_copy_131 (r_iadd dX6_copy_132 ?_))))
                          refine r_eq (a0 : Int) (by omega) ?_
                          refine r_istore_6 dX6_copy_133 rfl (r_bipush dX6_copy_135 (by decide) (r_iload_3 dX6_copy_137 (r_imul dX6_copy_138 (r_iload_4 dX6_copy_139 (r_iadd dX6_copy_141 ?_)))))
                          refine r_eq (b0 : Int) (by omega) ?_
                          refine r_istore_7 dX6_copy_142 rfl (r_iconst dX6_copy_144 (r_istore_8 dX6_copy_145 rfl ?_))
                          have lp_147 : ∀ (NN : Nat) (k : Nat) (u9 : Option PV) (Mv : Mem) (hk : k ≤ N) (fv : Fm (mY a0 b0 N k) M Mv) (hd : ∀ x, x < N → (b0 ≤ a0 ∨ N ≤ x + k) → (a0 < b0 ∨ x < k) → Mv 12 (b0 + x) = M 12 (a0 + x)), 100 - k < NN → WP kX6_copy GM 9 (pI (fun a M2 => a = a_copy (nT, X, τ, img, τi, tn, tp, ss, sz, cl) (e : Int) (I : Int) (f : Int) (J : Int) (N : Int) ∧ RM M2 (t_copy (nT, X, τ, img, τi, tn, tp, ss, sz, cl) (e : Int) (I : Int) (f : Int) (J : Int) (N : Int)))) z 147 [some (rv 0), some (iv (e : Int)), some (iv (I : Int)), some (iv (f : Int)), some (iv (J : Int)), some (iv (N : Int)), some (iv (a0 : Int)), some (iv (b0 : Int)), some (iv (k : Int)), u9] [] Mv := by
                            intro NN
                            induction NN with
                            | zero => intros; omega
                            | succ NN ih =>
                              intro k u9 Mv hk fv hd hm
                              refine r_iload_8 dX6_copy_147 ?_
                              refine r_iload_5 dX6_copy_149 ?_
                              refine r_icmp_ge dX6_copy_151 (by omega) (by omega) (fun c_151 => ?_) (fun c_151 => ?_)
                              · skip
                                obtain rfl : k = N := by omega
                                refine r_iload_5 dX6_copy_201 ?_
                                refine r_ireturn dX6_copy_203 rfl ?_
                                refine ⟨_, rfl, ?_, ?_⟩
                                · unfold a_copy
                                  simp only [Int.toNat_natCast]
                                  rw [if_neg (by omega), if_neg (by omega), if_neg (by omega), if_neg (by omega)]
                                · unfold t_copy
                                  simp only [Int.toNat_natCast]
                                  rw [if_neg (by omega)]
                                  have hz := hR.sheet (M2 := Mv) (s := f) (a := ss f) (b := sz f) (g := fun t => if J ≤ t ∧ t < J + k then cl e (I + (t - J)) else cl f t) (fv.mono (fun c i w => by omega)) ((fv 10 f (by omega)).trans hs2.1) ((fv 11 f (by omega)).trans hs2.2.1) (fun t ht => by
                                    show _ = if J ≤ t ∧ t < J + k then cl e (I + (t - J)) else cl f t
                                    by_cases q : J ≤ t ∧ t < J + k
                                    · rw [if_pos q, show 40 * f + t = b0 + (t - J) by omega, hd (t - J) (by omega) (by omega) (by omega), show a0 + (t - J) = 40 * e + (I + (t - J)) by omega]
                                      exact hs.2.2 _ (by omega)
                                    · rw [if_neg q]
                                      exact (fv 12 (40 * f + t) (by omega)).trans (hs2.2.2 t ht))
                                  rw [upS_id, upS_id] at hz
                                  exact hz
                              · skip
                                skip
                                have jn_173 : ∀ (x : Nat) (hx : x < N ∧ ((a0 < b0 ∧ x + 1 + k = N) ∨ (b0 ≤ a0 ∧ x = k))), WP kX6_copy GM 9 (pI (fun a M2 => a = a_copy (nT, X, τ, img, τi, tn, tp, ss, sz, cl) (e : Int) (I : Int) (f : Int) (J : Int) (N : Int) ∧ RM M2 (t_copy (nT, X, τ, img, τi, tn, tp, ss, sz, cl) (e : Int) (I : Int) (f : Int) (J : Int) (N : Int)))) z 173 [some (rv 0), some (iv (e : Int)), some (iv (I : Int)), some (iv (f : Int)), some (iv (J : Int)), some (iv (N : Int)), some (iv (a0 : Int)), some (iv (b0 : Int)), some (iv (k : Int)), u9] [iv (x : Int)] Mv := by
                                  intro x hx
                                  have hmb := hMB 12 (a0 + x)
                                  refine r_istore_9 dX6_copy_173 rfl ?_
                                  refine r_aload_0 dX6_copy_175 (r_getR dX6_copy_176 fX6_43 (rfl) (rfl) (r_iload_7 dX6_copy_179 (r_iload_9 dX6_copy_181 (r_iadd dX6_copy_183 (r_aload_0 dX6_copy_184 (r_getR dX6_copy_185 fX6_43 (rfl) (rfl) (r_iload_6 dX6_copy_188 (r_iload_9 dX6_copy_190 (r_iadd dX6_copy_192 (r_ialX dX6_copy_193 (rfl) (fv 12 (a0 + x) (by omega)) (by omega) (by omega) (by omega) ?_))))))))))
                                  refine r_iasX (b0 + x) dX6_copy_194 (rfl) (by omega) (by omega) (by omega) (by omega) ?_
                                  refine r_iinc_8 dX6_copy_195 rfl (r_goto dX6_copy_198 ?_)
                                  exact ih (k + 1) _ _ (by omega) ((fv.mono (fun c i w => by omega)).up (by omega)) (fun y h1 h2 h3 => by
                                    by_cases e1 : y = x
                                    · rw [e1, upM_self]
                                    · rw [upM_ne (by omega)]; exact hd y h1 (by omega) (by omega)) (by omega)
                                refine r_iload_6 dX6_copy_154 (r_iload_7 dX6_copy_156 ?_)
                                refine r_icmp_ge dX6_copy_158 (by omega) (by omega) (fun c_158 => ?_) (fun c_158 => ?_)
                                · skip
                                  refine r_iload_8 dX6_copy_171 ?_
                                  exact jn_173 k (by omega)
                                · skip
                                  refine r_iload_5 dX6_copy_161 (r_iconst dX6_copy_163 (r_isub dX6_copy_164 (r_iload_8 dX6_copy_165 (r_isub dX6_copy_167 (r_goto dX6_copy_168 ?_)))))
                                  rw [show (N : Int) - 1 - (k : Int) = ((N - 1 - k : Nat) : Int) by omega]
                                  exact jn_173 _ (by omega)
                          exact lp_147 _ 0 none M (by omega) Fm.refl (fun x h1 h2 h3 => by omega) (Nat.lt_succ_self _)
                        · skip
                          refine r_bipush dX6_copy_124 (by decide) ?_
                          refine r_ireturn dX6_copy_126 rfl ?_
                          refine ⟨_, rfl, ?_, ?_⟩
                          · unfold a_copy
                            simp only [Int.toNat_natCast]
                            (repeat (first | rw [if_pos (by omega)] | rw [if_neg (by omega)])) <;> first | with_reducible rfl | omega
                          · unfold t_copy
                            simp only [Int.toNat_natCast]
                            (repeat (first | rw [if_pos (by omega)] | rw [if_neg (by omega)])) <;> first | exact hR
          · skip
            refine r_bipush dX6_copy_59 (by decide) ?_
            refine r_ireturn dX6_copy_61 rfl ?_
            refine ⟨_, rfl, ?_, ?_⟩
            · unfold a_copy
              simp only [Int.toNat_natCast]
              (repeat (first | rw [if_pos (by omega)] | rw [if_neg (by omega)])) <;> first | with_reducible rfl | omega
            · unfold t_copy
              simp only [Int.toNat_natCast]
              (repeat (first | rw [if_pos (by omega)] | rw [if_neg (by omega)])) <;> first | exact hR
        · skip
          refine r_bipush dX6_copy_41 (by decide) ?_
          refine r_ireturn dX6_copy_43 rfl ?_
          refine ⟨_, rfl, ?_, ?_⟩
          · unfold a_copy
            simp only [Int.toNat_natCast]
            (repeat (first | rw [if_pos (by omega)] | rw [if_neg (by omega)])) <;> first | with_reducible rfl | omega
          · unfold t_copy
            simp only [Int.toNat_natCast]
            (repeat (first | rw [if_pos (by omega)] | rw [if_neg (by omega)])) <;> first | exact hR
    · skip
      refine r_bipush dX6_copy_18 (by decide) ?_
      refine r_ireturn dX6_copy_20 rfl ?_
      refine ⟨_, rfl, ?_, ?_⟩
      · unfold a_copy
        simp only [Int.toNat_natCast]
        (repeat (first | rw [if_pos (by omega)] | rw [if_neg (by omega)])) <;> first | with_reducible rfl | omega
      · unfold t_copy
        simp only [Int.toNat_natCast]
        (repeat (first | rw [if_pos (by omega)] | rw [if_neg (by omega)])) <;> first | exact hR
set_option maxRecDepth 10000 in
set_option maxHeartbeats 4000000 in
theorem m6_peopleBy {M : Mem} {nT tn : Nat} {X : Nat → Tx} {τ τi : Tn} {img : Bool} {tp ss sz : Nat → Int} {cl : Nat → Nat → Int} (hR : RM M (nT, X, τ, img, τi, tn, tp, ss, sz, cl)) (hJ : JNV (nT, X, τ, img, τi, tn, tp, ss, sz, cl)) {s : Int} (h_s : ib s) {sort : Int} (h_sort : ib sort) {g : Int} (h_g : ib g) {n : Int} (h_n : ib n) : Con GM 9 kX6_peopleBy [rv 0, iv s, iv sort, iv g, iv n] M (pI (fun a M2 => a = a_peopleBy (nT, X, τ, img, τi, tn, tp, ss, sz, cl) s sort g n ∧ RM M2 (t_peopleBy (nT, X, τ, img, τi, tn, tp, ss, sz, cl) s sort g n))) := by
  refine con_of [some (rv 0), some (iv s), some (iv sort), some (iv g), some (iv n), none, none, none, none] (plX6) rfl (Nat.le_of_ble_eq_true rfl) (fun z => ?_)
  have hR0 := hR
  obtain ⟨hT, hX, hnT, himg, hIM, ⟨htn, htp⟩, hsh, hwc⟩ := hR0
  have hT : TM M τ := hT
  have hJ0 := hJ
  obtain ⟨⟨⟨iT1, iT6⟩, ⟨hw, icl⟩, iim, ⟨itn, itp⟩, ish⟩, hki⟩ := hJ0
  obtain ⟨⟨wn, wn2⟩, wcl, ⟨wl, wl2⟩, -, -⟩ := id hw
  have hcl : τ 8 1 < 2147483648 := by omega
  refine r_mb (fun hMB => ?_)
  refine r_iload_1 dX6_peopleBy_0 (r_iconst dX6_peopleBy_1 (r_iconst dX6_peopleBy_2 ?_))
  refine r_cSI3 dX6_peopleBy_3 sX6_75 (m_in (d := 0) (by omega) (by omega) (by omega)) (by decide) (Nat.le_of_ble_eq_true rfl) (fun b_3 M_3 h_3 => ?_)
  obtain ⟨rfl, rfl⟩ := h_3
  first | refine r_ifd_eq dX6_peopleBy_6 (fun c_6 => ?_) (fun c_6 => ?_) | refine r_ifb_eq dX6_peopleBy_6 (fun c_6 => ?_) (fun c_6 => ?_)
  · skip
    refine r_bipush dX6_peopleBy_29 (by decide) ?_
    refine r_ireturn dX6_peopleBy_31 rfl ?_
    refine ⟨_, rfl, ?_, ?_⟩
    · unfold a_peopleBy
      simp only [Int.toNat_natCast]
      (repeat (first | rw [if_pos (by omega)] | rw [if_neg (by omega)])) <;> first | with_reducible rfl | omega
    · unfold t_peopleBy
      simp only [Int.toNat_natCast]
      (repeat (first | rw [if_pos (by omega)] | rw [if_neg (by omega)])) <;> first | exact hR
  · skip
    refine r_iload_2 dX6_peopleBy_9 (r_iconst dX6_peopleBy_10 (r_iconst dX6_peopleBy_11 ?_))
    refine r_cSI3 dX6_peopleBy_12 sX6_75 (m_in (d := 0) (by omega) (by omega) (by omega)) (by decide) (Nat.le_of_ble_eq_true rfl) (fun b_12 M_12 h_12 => ?_)
    obtain ⟨rfl, rfl⟩ := h_12
    first | refine r_ifd_eq dX6_peopleBy_15 (fun c_15 => ?_) (fun c_15 => ?_) | refine r_ifb_eq dX6_peopleBy_15 (fun c_15 => ?_) (fun c_15 => ?_)
    · skip
      refine r_bipush dX6_peopleBy_29 (by decide) ?_
      refine r_ireturn dX6_peopleBy_31 rfl ?_
      refine ⟨_, rfl, ?_, ?_⟩
      · unfold a_peopleBy
        simp only [Int.toNat_natCast]
        (repeat (first | rw [if_pos (by omega)] | rw [if_neg (by omega)])) <;> first | with_reducible rfl | omega
      · unfold t_peopleBy
        simp only [Int.toNat_natCast]
        (repeat (first | rw [if_pos (by omega)] | rw [if_neg (by omega)])) <;> first | exact hR
    · skip
      refine r_iload_4 dX6_peopleBy_18 (r_iconst dX6_peopleBy_20 (r_bipush dX6_peopleBy_21 (by decide) ?_))
      refine r_cSI3 dX6_peopleBy_23 sX6_75 (m_in (d := 0) (by omega) (by omega) (by omega)) (by decide) (Nat.le_of_ble_eq_true rfl) (fun b_23 M_23 h_23 => ?_)
      obtain ⟨rfl, rfl⟩ := h_23
      first | refine r_ifd_ne dX6_peopleBy_26 (fun c_26 => ?_) (fun c_26 => ?_) | refine r_ifb_ne dX6_peopleBy_26 (fun c_26 => ?_) (fun c_26 => ?_)
      · skip
        obtain ⟨e, rfl⟩ : ∃ e : Nat, s = e := ⟨s.toNat, by omega⟩
        have he4 : e < 4 := by omega
        have hs := hsh e he4
        have is := ish e he4
        obtain ⟨N, rfl⟩ : ∃ N : Nat, n = N := ⟨n.toNat, by omega⟩
        refine r_aload_0 dX6_peopleBy_32 (r_getR dX6_peopleBy_33 fX6_37 (rfl) (rfl) (r_iload_1 dX6_peopleBy_36 (r_ialX dX6_peopleBy_37 (rfl) (hs.1) (by omega) (by omega) (by omega) (r_iconst dX6_peopleBy_38 ?_))))
        refine r_icmp_ne dX6_peopleBy_39 (by omega) (by omega) (fun c_39 => ?_) (fun c_39 => ?_)
        · skip
          refine r_aload_0 dX6_peopleBy_45 (r_getR dX6_peopleBy_46 fX6_37 (rfl) (rfl) (r_iload_1 dX6_peopleBy_49 (r_ialX dX6_peopleBy_50 (rfl) (hs.1) (by omega) (by omega) (by omega) (r_iload_2 dX6_peopleBy_51 ?_))))
          refine r_icmp_eq dX6_peopleBy_52 (by omega) (by omega) (fun c_52 => ?_) (fun c_52 => ?_)
          · skip
            refine r_iconst dX6_peopleBy_58 (r_istore_5 dX6_peopleBy_59 rfl (r_iconst dX6_peopleBy_61 (r_istore_6 dX6_peopleBy_62 rfl ?_)))
            have lp_64 : ∀ (NN : Nat) (k : Nat) (c : Int) (T : Tn) (u7 u8 : Option PV) (Mv : Mem) (hk : k ≤ N) (hc : 0 ≤ c ∧ c ≤ k) (hp : pB (cl e) (sz e) g (N - k) k c T = pB (cl e) (sz e) g N 0 0 τ) (wv : TM Mv T) (wT : WF nT T) (fv : Fm mW M Mv), 100 - k < NN → WP kX6_peopleBy GM 9 (pI (fun a M2 => a = a_peopleBy (nT, X, τ, img, τi, tn, tp, ss, sz, cl) (e : Int) sort g (N : Int) ∧ RM M2 (t_peopleBy (nT, X, τ, img, τi, tn, tp, ss, sz, cl) (e : Int) sort g (N : Int)))) z 64 [some (rv 0), some (iv (e : Int)), some (iv sort), some (iv g), some (iv (N : Int)), some (iv c), some (iv (k : Int)), u7, u8] [] Mv := by
              intro NN
              induction NN with
              | zero => intros; omega
              | succ NN ih =>
                intro k c T u7 u8 Mv hk hc hp wv wT fv hm
                refine r_iload_6 dX6_peopleBy_64 ?_
                refine r_iload_4 dX6_peopleBy_66 ?_
                refine r_icmp_ge dX6_peopleBy_68 (by omega) (by omega) (fun c_68 => ?_) (fun c_68 => ?_)
                · skip
                  obtain rfl : k = N := by omega
                  rw [Nat.sub_self] at hp
                  have hp : (c, T) = pB (cl e) (sz e) g k 0 0 τ := hp
                  refine r_iload_5 dX6_peopleBy_153 ?_
                  refine r_ireturn dX6_peopleBy_155 rfl ?_
                  refine ⟨_, rfl, ?_, ?_⟩
                  · unfold a_peopleBy
                    simp only [Int.toNat_natCast]
                    rw [if_neg (by omega), if_neg (by omega), if_neg (by omega), ← hp]
                  · unfold t_peopleBy
                    simp only [Int.toNat_natCast]
                    rw [if_neg (by omega), ← hp]
                    exact hR.now wv fv
                · skip
                  have hst : pB (cl e) (sz e) g (N - k) k c T = (if 0 ≤ g ∧ g + 2 * (k : Int) ≤ sz e - 2 then pB (cl e) (sz e) g (N - (k + 1)) (k + 1) (if 0 ≤ sComeA T (cl e (g + 2 * (k : Int)).toNat) (cl e ((g + 2 * (k : Int)).toNat + 1)) then c + 1 else c) (sComeT T (cl e (g + 2 * (k : Int)).toNat) (cl e ((g + 2 * (k : Int)).toNat + 1))) else (-12, T)) := by
                    rw [show N - k = (N - (k + 1)) + 1 by omega]
                    rfl
                  obtain ⟨w, hw0⟩ : ∃ w, w = w32 (g + 2 * (k : Int)) := ⟨_, rfl⟩
                  have hwb : ib w := by rw [hw0]; exact w32_ib _
                  have hww : (g + 2 * (k : Int) < 2147483648 ∧ w = g + 2 * (k : Int)) ∨ (2147483648 ≤ g + 2 * (k : Int) ∧ w = g + 2 * (k : Int) - 4294967296) := by
                    by_cases q : g + 2 * (k : Int) < 2147483648
                    · exact Or.inl ⟨q, by rw [hw0]; exact w32_id ⟨by omega, q⟩⟩
                    · refine Or.inr ⟨by omega, ?_⟩
                      rw [hw0]
                      unfold w32
                      rw [Int32.toInt_ofInt]
                      show Int.bmod _ 4294967296 = _
                      rw [Int.bmod_def]
                      (repeat' split) <;> omega
                  refine r_iload_3 dX6_peopleBy_71 (r_iconst dX6_peopleBy_72 (r_iload_6 dX6_peopleBy_73 (r_imul dX6_peopleBy_75 (r_iadd dX6_peopleBy_76 ?_))))
                  refine r_as (w32_i3 _) ?_
                  rw [← hw0]
                  refine r_istore_7 dX6_peopleBy_77 rfl (r_iload_3 dX6_peopleBy_79 ?_)
                  refine r_if_lt dX6_peopleBy_80 (by omega) (fun c_80 => ?_) (fun c_80 => ?_)
                  · skip
                    refine r_bipush dX6_peopleBy_102 (by decide) ?_
                    refine r_ireturn dX6_peopleBy_104 rfl ?_
                    refine ⟨_, rfl, ?_, ?_⟩
                    · unfold a_peopleBy
                      simp only [Int.toNat_natCast]
                      rw [if_neg (by omega), if_neg (by omega), if_neg (by omega), ← hp, hst, if_neg (by omega)]
                    · unfold t_peopleBy
                      simp only [Int.toNat_natCast]
                      rw [if_neg (by omega), ← hp, hst, if_neg (by omega)]
                      exact hR.now wv fv
                  · skip
                    refine r_iload_7 dX6_peopleBy_83 (r_iload_3 dX6_peopleBy_85 ?_)
                    refine r_icmp_lt dX6_peopleBy_86 (by omega) (by omega) (fun c_86 => ?_) (fun c_86 => ?_)
                    · skip
                      refine r_bipush dX6_peopleBy_102 (by decide) ?_
                      refine r_ireturn dX6_peopleBy_104 rfl ?_
                      refine ⟨_, rfl, ?_, ?_⟩
                      · unfold a_peopleBy
                        simp only [Int.toNat_natCast]
                        rw [if_neg (by omega), if_neg (by omega), if_neg (by omega), ← hp, hst, if_neg (by omega)]
                      · unfold t_peopleBy
                        simp only [Int.toNat_natCast]
                        rw [if_neg (by omega), ← hp, hst, if_neg (by omega)]
                        exact hR.now wv fv
                    · skip
                      refine r_iload_7 dX6_peopleBy_89 (r_aload_0 dX6_peopleBy_91 (r_getR dX6_peopleBy_92 fX6_40 (rfl) (rfl) (r_iload_1 dX6_peopleBy_95 (r_ialX dX6_peopleBy_96 (rfl) ((fv 11 e (by omega)).trans hs.2.1) (by omega) (by omega) (by omega) (r_iconst dX6_peopleBy_97 (r_isub dX6_peopleBy_98 ?_))))))
                      refine r_icmp_le dX6_peopleBy_99 (by omega) (by omega) (fun c_99 => ?_) (fun c_99 => ?_)
                      · skip
                        obtain ⟨x, hx⟩ : ∃ x : Nat, g + 2 * (k : Int) = x := ⟨(g + 2 * (k : Int)).toNat, by omega⟩
                        have hwx : w = x := by omega
                        rw [hwx]
                        rw [hx, Int.toNat_natCast] at hst
                        have hcx := hs.2.2 x (by omega)
                        have hcx1 := hs.2.2 (x + 1) (by omega)
                        have ibx := is.2.2.2 x (by omega)
                        have ibx1 := is.2.2.2 (x + 1) (by omega)
                        refine r_bipush dX6_peopleBy_105 (by decide) (r_iload_1 dX6_peopleBy_107 (r_imul dX6_peopleBy_108 (r_iload_7 dX6_peopleBy_109 (r_iadd dX6_peopleBy_111 (r_istore_8 dX6_peopleBy_112 rfl (r_iload_5 dX6_peopleBy_114 (r_aload_0 dX6_peopleBy_116 (r_aload_0 dX6_peopleBy_117 (r_getR dX6_peopleBy_118 fX6_43 (rfl) (rfl) (r_iload_8 dX6_peopleBy_121 (r_ialX dX6_peopleBy_123 (rfl) ((fv 12 (40 * e + x) (by omega)).trans hcx) (by omega) (by omega) (by omega) (r_aload_0 dX6_peopleBy_124 (r_getR dX6_peopleBy_125 fX6_43 (rfl) (rfl) (r_iload_8 dX6_peopleBy_128 (r_iconst dX6_peopleBy_130 (r_iadd dX6_peopleBy_131 (r_ialX dX6_peopleBy_132 (rfl) ((fv 12 (40 * e + (x + 1)) (by omega)).trans hcx1) (by omega) (by omega) (by omega) ?_)))))))))))))))))
                        refine r_cVI2 dX6_peopleBy_133 vX6_248 (rfl) (m_come wv wT (by omega) (by omega)) (by decide) (Nat.le_of_ble_eq_true rfl) (fun b_133 M_133 h_133 => ?_)
                        obtain ⟨rfl, w1, f1⟩ := h_133
                        have hsc : -4 ≤ sComeA T (cl e x) (cl e (x + 1)) ∧ sComeA T (cl e x) (cl e (x + 1)) ≤ 6 := by
                          have := wT.1
                          unfold sComeA
                          (repeat' split) <;> omega
                        refine r_if_lt dX6_peopleBy_136 (by omega) (fun c_136 => ?_) (fun c_136 => ?_)
                        · skip
                          refine r_iconst dX6_peopleBy_143 (r_iadd dX6_peopleBy_144 (r_istore_5 dX6_peopleBy_145 rfl (r_iinc_6 dX6_peopleBy_147 rfl (r_goto dX6_peopleBy_150 ?_))))
                          exact ih (k + 1) _ _ _ _ _ (by omega) (by omega) (by rw [← hp, hst, if_pos (by omega), if_neg (by omega)]; congr 1; omega) w1 (sComeT_wf wT) (fv.trans f1) (by omega)
                        · skip
                          refine r_iconst dX6_peopleBy_139 (r_goto dX6_peopleBy_140 (r_iadd dX6_peopleBy_144 (r_istore_5 dX6_peopleBy_145 rfl (r_iinc_6 dX6_peopleBy_147 rfl (r_goto dX6_peopleBy_150 ?_)))))
                          exact ih (k + 1) _ _ _ _ _ (by omega) (by omega) (by rw [← hp, hst, if_pos (by omega), if_pos (by omega)]) w1 (sComeT_wf wT) (fv.trans f1) (by omega)
                      · skip
                        refine r_bipush dX6_peopleBy_102 (by decide) ?_
                        refine r_ireturn dX6_peopleBy_104 rfl ?_
                        refine ⟨_, rfl, ?_, ?_⟩
                        · unfold a_peopleBy
                          simp only [Int.toNat_natCast]
                          rw [if_neg (by omega), if_neg (by omega), if_neg (by omega), ← hp, hst, if_neg (by omega)]
                        · unfold t_peopleBy
                          simp only [Int.toNat_natCast]
                          rw [if_neg (by omega), ← hp, hst, if_neg (by omega)]
                          exact hR.now wv fv
            exact lp_64 _ 0 0 τ none none M (by omega) (by omega) rfl hT hw Fm.refl (Nat.lt_succ_self _)
          · skip
            refine r_bipush dX6_peopleBy_55 (by decide) ?_
            refine r_ireturn dX6_peopleBy_57 rfl ?_
            refine ⟨_, rfl, ?_, ?_⟩
            · unfold a_peopleBy
              simp only [Int.toNat_natCast]
              (repeat (first | rw [if_pos (by omega)] | rw [if_neg (by omega)])) <;> first | with_reducible rfl | omega
            · unfold t_peopleBy
              simp only [Int.toNat_natCast]
              (repeat (first | rw [if_pos (by omega)] | rw [if_neg (by omega)])) <;> first | exact hR
        · skip
          refine r_bipush dX6_peopleBy_42 (by decide) ?_
          refine r_ireturn dX6_peopleBy_44 rfl ?_
          refine ⟨_, rfl, ?_, ?_⟩
          · unfold a_peopleBy
            simp only [Int.toNat_natCast]
            (repeat (first | rw [if_pos (by omega)] | rw [if_neg (by omega)])) <;> first | with_reducible rfl | omega
          · unfold t_peopleBy
            simp only [Int.toNat_natCast]
            (repeat (first | rw [if_pos (by omega)] | rw [if_neg (by omega)])) <;> first | exact hR
      · skip
        skip
        refine r_bipush dX6_peopleBy_29 (by decide) ?_
        refine r_ireturn dX6_peopleBy_31 rfl ?_
        refine ⟨_, rfl, ?_, ?_⟩
        · unfold a_peopleBy
          simp only [Int.toNat_natCast]
          (repeat (first | rw [if_pos (by omega)] | rw [if_neg (by omega)])) <;> first | with_reducible rfl | omega
        · unfold t_peopleBy
          simp only [Int.toNat_natCast]
          (repeat (first | rw [if_pos (by omega)] | rw [if_neg (by omega)])) <;> first | exact hR
set_option maxRecDepth 10000 in
set_option maxHeartbeats 4000000 in
theorem m6_feed {M : Mem} {nT tn : Nat} {X : Nat → Tx} {τ τi : Tn} {img : Bool} {tp ss sz : Nat → Int} {cl : Nat → Nat → Int} (hR : RM M (nT, X, τ, img, τi, tn, tp, ss, sz, cl)) (hJ : JNV (nT, X, τ, img, τi, tn, tp, ss, sz, cl)) {n : Int} (h_n : ib n) {y1 : Int} (h_y1 : ib y1) {y2 : Int} (h_y2 : ib y2) {y3 : Int} (h_y3 : ib y3) {y4 : Int} (h_y4 : ib y4) {y5 : Int} (h_y5 : ib y5) : Con GM 9 kX6_feed [rv 0, iv n, iv y1, iv y2, iv y3, iv y4, iv y5] M (pI (fun a M2 => a = a_feed (nT, X, τ, img, τi, tn, tp, ss, sz, cl) n y1 y2 y3 y4 y5 ∧ RM M2 (t_feed (nT, X, τ, img, τi, tn, tp, ss, sz, cl) n y1 y2 y3 y4 y5))) := by
  refine con_of [some (rv 0), some (iv n), some (iv y1), some (iv y2), some (iv y3), some (iv y4), some (iv y5), none] (plX6) rfl (Nat.le_of_ble_eq_true rfl) (fun z => ?_)
  have hR0 := hR
  obtain ⟨hT, hX, hnT, himg, hIM, ⟨htn, htp⟩, hsh, hwc⟩ := hR0
  have hT : TM M τ := hT
  have hJ0 := hJ
  obtain ⟨⟨⟨iT1, iT6⟩, ⟨hw, icl⟩, iim, ⟨itn, itp⟩, ish⟩, hki⟩ := hJ0
  obtain ⟨⟨wn, wn2⟩, wcl, ⟨wl, wl2⟩, -, -⟩ := id hw
  have hcl : τ 8 1 < 2147483648 := by omega
  refine r_mb (fun hMB => ?_)
  refine r_iload_1 dX6_feed_0 (r_iconst dX6_feed_1 (r_iconst dX6_feed_2 ?_))
  refine r_cSI3 dX6_feed_3 sX6_75 (m_in (d := 0) (by omega) (by omega) (by omega)) (by decide) (Nat.le_of_ble_eq_true rfl) (fun b_3 M_3 h_3 => ?_)
  obtain ⟨rfl, rfl⟩ := h_3
  first | refine r_ifd_eq dX6_feed_6 (fun c_6 => ?_) (fun c_6 => ?_) | refine r_ifb_eq dX6_feed_6 (fun c_6 => ?_) (fun c_6 => ?_)
  · skip
    refine r_bipush dX6_feed_47 (by decide) ?_
    refine r_ireturn dX6_feed_49 rfl ?_
    refine ⟨_, rfl, ?_, ?_⟩
    · unfold a_feed
      simp only [Int.toNat_natCast]
      (repeat (first | rw [if_pos (by unfold fd_ok; omega)] | rw [if_neg (by omega)])) <;> first | with_reducible rfl | omega
    · unfold t_feed
      simp only [Int.toNat_natCast]
      (repeat (first | rw [if_pos (by unfold fd_ok; omega)] | rw [if_neg (by omega)])) <;> first | exact hR
  · skip
    refine r_iload_2 dX6_feed_9 ?_
    refine r_cSI1 dX6_feed_10 sX6_105 (m_isByte (d := 0) (by omega)) (by decide) (Nat.le_of_ble_eq_true rfl) (fun b_10 M_10 h_10 => ?_)
    obtain ⟨rfl, rfl⟩ := h_10
    first | refine r_ifd_eq dX6_feed_13 (fun c_13 => ?_) (fun c_13 => ?_) | refine r_ifb_eq dX6_feed_13 (fun c_13 => ?_) (fun c_13 => ?_)
    · skip
      refine r_bipush dX6_feed_47 (by decide) ?_
      refine r_ireturn dX6_feed_49 rfl ?_
      refine ⟨_, rfl, ?_, ?_⟩
      · unfold a_feed
        simp only [Int.toNat_natCast]
        (repeat (first | rw [if_pos (by unfold fd_ok; omega)] | rw [if_neg (by omega)])) <;> first | with_reducible rfl | omega
      · unfold t_feed
        simp only [Int.toNat_natCast]
        (repeat (first | rw [if_pos (by unfold fd_ok; omega)] | rw [if_neg (by omega)])) <;> first | exact hR
    · skip
      refine r_iload_3 dX6_feed_16 ?_
      refine r_cSI1 dX6_feed_17 sX6_105 (m_isByte (d := 0) (by omega)) (by decide) (Nat.le_of_ble_eq_true rfl) (fun b_17 M_17 h_17 => ?_)
      obtain ⟨rfl, rfl⟩ := h_17
      first | refine r_ifd_eq dX6_feed_20 (fun c_20 => ?_) (fun c_20 => ?_) | refine r_ifb_eq dX6_feed_20 (fun c_20 => ?_) (fun c_20 => ?_)
      · skip
        refine r_bipush dX6_feed_47 (by decide) ?_
        refine r_ireturn dX6_feed_49 rfl ?_
        refine ⟨_, rfl, ?_, ?_⟩
        · unfold a_feed
          simp only [Int.toNat_natCast]
          (repeat (first | rw [if_pos (by unfold fd_ok; omega)] | rw [if_neg (by omega)])) <;> first | with_reducible rfl | omega
        · unfold t_feed
          simp only [Int.toNat_natCast]
          (repeat (first | rw [if_pos (by unfold fd_ok; omega)] | rw [if_neg (by omega)])) <;> first | exact hR
      · skip
        refine r_iload_4 dX6_feed_23 ?_
        refine r_cSI1 dX6_feed_25 sX6_105 (m_isByte (d := 0) (by omega)) (by decide) (Nat.le_of_ble_eq_true rfl) (fun b_25 M_25 h_25 => ?_)
        obtain ⟨rfl, rfl⟩ := h_25
        first | refine r_ifd_eq dX6_feed_28 (fun c_28 => ?_) (fun c_28 => ?_) | refine r_ifb_eq dX6_feed_28 (fun c_28 => ?_) (fun c_28 => ?_)
        · skip
          refine r_bipush dX6_feed_47 (by decide) ?_
          refine r_ireturn dX6_feed_49 rfl ?_
          refine ⟨_, rfl, ?_, ?_⟩
          · unfold a_feed
            simp only [Int.toNat_natCast]
            (repeat (first | rw [if_pos (by unfold fd_ok; omega)] | rw [if_neg (by omega)])) <;> first | with_reducible rfl | omega
          · unfold t_feed
            simp only [Int.toNat_natCast]
            (repeat (first | rw [if_pos (by unfold fd_ok; omega)] | rw [if_neg (by omega)])) <;> first | exact hR
        · skip
          refine r_iload_5 dX6_feed_31 ?_
          refine r_cSI1 dX6_feed_33 sX6_105 (m_isByte (d := 0) (by omega)) (by decide) (Nat.le_of_ble_eq_true rfl) (fun b_33 M_33 h_33 => ?_)
          obtain ⟨rfl, rfl⟩ := h_33
          first | refine r_ifd_eq dX6_feed_36 (fun c_36 => ?_) (fun c_36 => ?_) | refine r_ifb_eq dX6_feed_36 (fun c_36 => ?_) (fun c_36 => ?_)
          · skip
            refine r_bipush dX6_feed_47 (by decide) ?_
            refine r_ireturn dX6_feed_49 rfl ?_
            refine ⟨_, rfl, ?_, ?_⟩
            · unfold a_feed
              simp only [Int.toNat_natCast]
              (repeat (first | rw [if_pos (by unfold fd_ok; omega)] | rw [if_neg (by omega)])) <;> first | with_reducible rfl | omega
            · unfold t_feed
              simp only [Int.toNat_natCast]
              (repeat (first | rw [if_pos (by unfold fd_ok; omega)] | rw [if_neg (by omega)])) <;> first | exact hR
          · skip
            refine r_iload_6 dX6_feed_39 ?_
            refine r_cSI1 dX6_feed_41 sX6_105 (m_isByte (d := 0) (by omega)) (by decide) (Nat.le_of_ble_eq_true rfl) (fun b_41 M_41 h_41 => ?_)
            obtain ⟨rfl, rfl⟩ := h_41
            first | refine r_ifd_ne dX6_feed_44 (fun c_44 => ?_) (fun c_44 => ?_) | refine r_ifb_ne dX6_feed_44 (fun c_44 => ?_) (fun c_44 => ?_)
            · skip
              refine r_aload_0 dX6_feed_50 (r_getE dX6_feed_51 fX6_64 (rfl) (rfl) (htn) (r_iload_1 dX6_feed_54 (r_iadd dX6_feed_55 (r_sipush dX6_feed_56 (by decide) ?_))))
              refine r_icmp_le dX6_feed_59 (by omega) (by omega) (fun c_59 => ?_) (fun c_59 => ?_)
              · skip
                obtain ⟨m, rfl⟩ : ∃ m : Nat, n = m := ⟨n.toNat, by omega⟩
                refine r_iconst dX6_feed_65 (r_istore_7 dX6_feed_66 rfl ?_)
                have lp_68 : ∀ (NN : Nat) (i : Nat) (Mv : Mem) (hi : i ≤ m) (Rv : RM Mv (nT, X, τ, img, τi, tn + i, fdt tp tn y1 y2 y3 y4 y5 i, ss, sz, cl)), 100 - i < NN → WP kX6_feed GM 9 (pI (fun a M2 => a = a_feed (nT, X, τ, img, τi, tn, tp, ss, sz, cl) (m : Int) y1 y2 y3 y4 y5 ∧ RM M2 (t_feed (nT, X, τ, img, τi, tn, tp, ss, sz, cl) (m : Int) y1 y2 y3 y4 y5))) z 68 [some (rv 0), some (iv (m : Int)), some (iv y1), some (iv y2), some (iv y3), some (iv y4), some (iv y5), some (iv (i : Int))] [] Mv := by
                  intro NN
                  induction NN with
                  | zero => intros; omega
                  | succ NN ih =>
                    intro i Mv hi Rv hm
                    have hv7 : Mv 0 7 = ((tn + i : Nat) : Int) := Rv.2.2.2.2.2.1.1
                    refine r_iload_7 dX6_feed_68 ?_
                    refine r_iload_1 dX6_feed_70 ?_
                    refine r_icmp_ge dX6_feed_71 (by omega) (by omega) (fun c_71 => ?_) (fun c_71 => ?_)
                    · skip
                      obtain rfl : i = m := by omega
                      refine r_aload_0 dX6_feed_142 (r_getE dX6_feed_143 fX6_64 (rfl) (rfl) (hv7) ?_)
                      refine r_ireturn dX6_feed_146 rfl ?_
                      refine ⟨_, rfl, ?_, ?_⟩
                      · unfold a_feed
                        simp only []
                        rw [if_neg (by omega), if_neg (by omega)]
                        omega
                      · unfold t_feed
                        simp only [Int.toNat_natCast]
                        rw [if_neg (by omega)]
                        exact Rv
                    · skip
                      skip
                      refine r_aload_0 dX6_feed_74 (r_getR dX6_feed_75 fX6_22 (rfl) (rfl) (r_aload_0 dX6_feed_78 (r_getE dX6_feed_79 fX6_64 (rfl) (rfl) (hv7) ?_)))
                      have jn_125 : ∀ (v : Int) (hv : v = fdb y1 y2 y3 y4 y5 i), WP kX6_feed GM 9 (pI (fun a M2 => a = a_feed (nT, X, τ, img, τi, tn, tp, ss, sz, cl) (m : Int) y1 y2 y3 y4 y5 ∧ RM M2 (t_feed (nT, X, τ, img, τi, tn, tp, ss, sz, cl) (m : Int) y1 y2 y3 y4 y5))) z 125 [some (rv 0), some (iv (m : Int)), some (iv y1), some (iv y2), some (iv y3), some (iv y4), some (iv y5), some (iv (i : Int))] [iv v, iv ((tn + i : Nat) : Int), rv 5] Mv := by
                        intro v hv
                        have hvb : 0 ≤ v ∧ v ≤ 255 := by rw [hv]; exact fdb_in (n := (m : Int)) ⟨by omega, by omega, by omega, by omega, by omega, by omega⟩ i
                        refine r_iasX (tn + i) dX6_feed_125 (rfl) (by omega) (by omega) (by omega) (by omega) ?_
                        have R1 := Rv.fed (v := v)
                        rw [hv, fdt_up] at R1
                        rw [← hv] at R1
                        refine r_aload_0 dX6_feed_126 (r_dup_r dX6_feed_127 (r_getE dX6_feed_128 fX6_64 (rfl) (rfl) ((upM_ne (by omega)).trans hv7) (r_iconst dX6_feed_131 (r_iadd dX6_feed_132 ?_))))
                        refine r_put dX6_feed_133 pX6_64 (rfl) (rfl) (by omega) ?_
                        refine r_iinc_7 dX6_feed_136 rfl (r_goto dX6_feed_139 ?_)
                        exact ih (i + 1) _ (by omega) R1 (by omega)
                      refine r_iload_7 dX6_feed_82 ?_
                      refine r_if_ne dX6_feed_84 (by omega) (fun c_84 => ?_) (fun c_84 => ?_)
                      · skip
                        refine r_iload_7 dX6_feed_91 (r_iconst dX6_feed_93 ?_)
                        refine r_icmp_ne dX6_feed_94 (by omega) (by omega) (fun c_94 => ?_) (fun c_94 => ?_)
                        · skip
                          refine r_iload_7 dX6_feed_101 (r_iconst dX6_feed_103 ?_)
                          refine r_icmp_ne dX6_feed_104 (by omega) (by omega) (fun c_104 => ?_) (fun c_104 => ?_)
                          · skip
                            refine r_iload_7 dX6_feed_112 (r_iconst dX6_feed_114 ?_)
                            refine r_icmp_ne dX6_feed_115 (by omega) (by omega) (fun c_115 => ?_) (fun c_115 => ?_)
                            · skip
                              refine r_iload_6 dX6_feed_123 ?_
                              exact jn_125 _ (by unfold fdb; (repeat (first | rw [if_pos (by omega)] | rw [if_neg (by omega)])))
                            · skip
                              refine r_iload_5 dX6_feed_118 (r_goto dX6_feed_120 ?_)
                              exact jn_125 _ (by unfold fdb; (repeat (first | rw [if_pos (by omega)] | rw [if_neg (by omega)])))
                          · skip
                            refine r_iload_4 dX6_feed_107 (r_goto dX6_feed_109 ?_)
                            exact jn_125 _ (by unfold fdb; (repeat (first | rw [if_pos (by omega)] | rw [if_neg (by omega)])))
                        · skip
                          refine r_iload_3 dX6_feed_97 (r_goto dX6_feed_98 ?_)
                          exact jn_125 _ (by unfold fdb; (repeat (first | rw [if_pos (by omega)] | rw [if_neg (by omega)])))
                      · skip
                        refine r_iload_2 dX6_feed_87 (r_goto dX6_feed_88 ?_)
                        exact jn_125 _ (by unfold fdb; (repeat (first | rw [if_pos (by omega)] | rw [if_neg (by omega)])))
                exact lp_68 _ 0 M (by omega) (by rw [fdt_0]; exact hR) (Nat.lt_succ_self _)
              · skip
                skip
                refine r_bipush dX6_feed_62 (by decide) ?_
                refine r_ireturn dX6_feed_64 rfl ?_
                refine ⟨_, rfl, ?_, ?_⟩
                · unfold a_feed
                  simp only [Int.toNat_natCast]
                  (repeat (first | rw [if_pos (by omega)] | rw [if_neg (by omega)])) <;> first | with_reducible rfl | omega
                · unfold t_feed
                  simp only [Int.toNat_natCast]
                  (repeat (first | rw [if_pos (by omega)] | rw [if_neg (by omega)])) <;> first | exact hR
            · skip
              refine r_bipush dX6_feed_47 (by decide) ?_
              refine r_ireturn dX6_feed_49 rfl ?_
              refine ⟨_, rfl, ?_, ?_⟩
              · unfold a_feed
                simp only [Int.toNat_natCast]
                (repeat (first | rw [if_pos (by unfold fd_ok; omega)] | rw [if_neg (by omega)])) <;> first | with_reducible rfl | omega
              · unfold t_feed
                simp only [Int.toNat_natCast]
                (repeat (first | rw [if_pos (by unfold fd_ok; omega)] | rw [if_neg (by omega)])) <;> first | exact hR

theorem pD_same {X : Nat → Tx} {τ : Tn} {p q : Nat} {a : Int × Int} (hpq : p = q) (h : -1 ≤ a.2) : ∀ d, pD X τ p q a d = a
  | 0 => rfl
  | d + 1 => by
    rw [pD_no (by rw [pD_same hpq h d]; unfold pE; rw [if_pos hpq]; omega), pD_same hpq h d]
set_option maxRecDepth 10000 in
set_option maxHeartbeats 4000000 in
theorem m6_pair {M : Mem} {nT tn : Nat} {X : Nat → Tx} {τ τi : Tn} {img : Bool} {tp ss sz : Nat → Int} {cl : Nat → Nat → Int} (hR : RM M (nT, X, τ, img, τi, tn, tp, ss, sz, cl)) (hJ : JNV (nT, X, τ, img, τi, tn, tp, ss, sz, cl)) {what : Int} (h_what : ib what) : Con GM 9 kX6_pair [rv 0, iv what] M (pI (fun a M2 => a = a_pair (nT, X, τ, img, τi, tn, tp, ss, sz, cl) what ∧ RM M2 (nT, X, τ, img, τi, tn, tp, ss, sz, cl))) := by
  refine con_of [some (rv 0), some (iv what), none, none, none, none, none, none] (plX6) rfl (Nat.le_of_ble_eq_true rfl) (fun z => ?_)
  have hR0 := hR
  obtain ⟨hT, hX, hnT, himg, hIM, ⟨htn, htp⟩, hsh, hwc⟩ := hR0
  have hT : TM M τ := hT
  have hJ0 := hJ
  obtain ⟨⟨⟨iT1, iT6⟩, ⟨hw, icl⟩, iim, ⟨itn, itp⟩, ish⟩, hki⟩ := hJ0
  obtain ⟨⟨wn, wn2⟩, wcl, ⟨wl, wl2⟩, -, -⟩ := id hw
  have hcl : τ 8 1 < 2147483648 := by omega
  refine r_mb (fun hMB => ?_)
  refine r_iload_1 dX6_pair_0 (r_iconst dX6_pair_1 (r_iconst dX6_pair_2 ?_))
  refine r_cSI3 dX6_pair_3 sX6_75 (m_in (d := 0) (by omega) (by omega) (by omega)) (by decide) (Nat.le_of_ble_eq_true rfl) (fun b_3 M_3 h_3 => ?_)
  obtain ⟨rfl, rfl⟩ := h_3
  first | refine r_ifd_ne dX6_pair_6 (fun c_6 => ?_) (fun c_6 => ?_) | refine r_ifb_ne dX6_pair_6 (fun c_6 => ?_) (fun c_6 => ?_)
  · skip
    obtain ⟨N, hN⟩ : ∃ N : Nat, τ 8 0 = N := ⟨(τ 8 0).toNat, by omega⟩
    have hNt : (τ 8 0).toNat = N := by omega
    refine r_iconst dX6_pair_12 (r_istore_2 dX6_pair_13 rfl (r_iconst dX6_pair_14 (r_istore_3 dX6_pair_15 rfl (r_aload_0 dX6_pair_16 ?_))))
    refine r_cVV0 dX6_pair_17 vX6_199 (rfl) (m_keeps hT) (by decide) (Nat.le_of_ble_eq_true rfl) (fun M_17 h_17 => ?_)
    obtain ⟨hk_17, fk_17⟩ := h_17
    have th0 : TH M τ M_17 τ := TH.beg hT hk_17 fk_17
    refine r_iconst dX6_pair_20 (r_istore_4 dX6_pair_21 rfl ?_)
    have lp_23 : ∀ (NN : Nat) (p : Nat) (u5 u6 u7 : Option PV) (b_ e_ : Int) (Mv : Mem) (hp : p ≤ N) (hb_ : b_ = (pP X τ N p).1) (he_ : e_ = (pP X τ N p).2) (hbe : -1 ≤ e_ ∧ e_ ≤ 99) (th : TH M τ Mv τ), 100 - p < NN → WP kX6_pair GM 9 (pI (fun a M2 => a = a_pair (nT, X, τ, img, τi, tn, tp, ss, sz, cl) what ∧ RM M2 (nT, X, τ, img, τi, tn, tp, ss, sz, cl))) z 23 [some (rv 0), some (iv what), some (iv b_), some (iv e_), some (iv (p : Int)), u5, u6, u7] [] Mv := by
      intro NN
      induction NN with
      | zero => intros; omega
      | succ NN ih =>
        intro p u5 u6 u7 b_ e_ Mv hp hb_ he_ hbe th hm
        have ihp := ih
        have hA : True := trivial
        refine r_iload_4 dX6_pair_23 ?_
        refine r_aload_0 dX6_pair_25 (r_getE dX6_pair_26 fX6_72 (rfl) (rfl) (th.1.people) ?_)
        refine r_icmp_ge dX6_pair_29 (by omega) (by omega) (fun c_29 => ?_) (fun c_29 => ?_)
        · skip
          obtain rfl : p = N := by omega
          have th4 := th
          refine r_iload_1 dX6_pair_152 ?_
          refine r_if_ne dX6_pair_153 (by omega) (fun c_153 => ?_) (fun c_153 => ?_)
          · skip
            refine r_iload_3 dX6_pair_160 ?_
            refine r_ireturn dX6_pair_161 rfl ?_
            refine ⟨_, rfl, ?_, hR.now th4.1 th4.2.2.kW⟩
            unfold a_pair
            simp only []
            rw [hNt, if_neg (by omega), if_neg (by omega)]
            exact he_
          · skip
            refine r_iload_2 dX6_pair_156 (r_goto dX6_pair_157 ?_)
            refine r_ireturn dX6_pair_161 rfl ?_
            refine ⟨_, rfl, ?_, hR.now th4.1 th4.2.2.kW⟩
            unfold a_pair
            simp only []
            rw [hNt, if_neg (by omega), if_pos (by omega)]
            exact hb_
        · skip
          have hp6 : p < 6 := by omega
          refine r_iconst dX6_pair_32 (r_istore_5 dX6_pair_33 rfl ?_)
          have lp_35 : ∀ (NN : Nat) (q : Nat) (u6 u7 : Option PV) (b_ e_ : Int) (Mv : Mem) (hq : q ≤ N) (hb_ : b_ = (pQ X τ p (pP X τ N p) q).1) (he_ : e_ = (pQ X τ p (pP X τ N p) q).2) (hbe : -1 ≤ e_ ∧ e_ ≤ 99) (th : TH M τ Mv τ), 100 - q < NN → WP kX6_pair GM 9 (pI (fun a M2 => a = a_pair (nT, X, τ, img, τi, tn, tp, ss, sz, cl) what ∧ RM M2 (nT, X, τ, img, τi, tn, tp, ss, sz, cl))) z 35 [some (rv 0), some (iv what), some (iv b_), some (iv e_), some (iv (p : Int)), some (iv (q : Int)), u6, u7] [] Mv := by
            intro NN
            induction NN with
            | zero => intros; omega
            | succ NN ih =>
              intro q u6 u7 b_ e_ Mv hq hb_ he_ hbe th hm
              have ihq := ih
              have hA : -1 ≤ (pQ X τ p (pP X τ N p) q).2 := by rw [← he_]; exact hbe.1
              refine r_iload_5 dX6_pair_35 ?_
              refine r_aload_0 dX6_pair_37 (r_getE dX6_pair_38 fX6_72 (rfl) (rfl) (th.1.people) ?_)
              refine r_icmp_ge dX6_pair_41 (by omega) (by omega) (fun c_41 => ?_) (fun c_41 => ?_)
              · skip
                obtain rfl : q = N := by omega
                refine r_iinc_4 dX6_pair_146 rfl (r_goto dX6_pair_149 ?_)
                exact ihp (p + 1) _ _ _ _ _ _ (by omega) hb_ he_ hbe th (by omega)
              · skip
                have hq6 : q < 6 := by omega
                refine r_iconst dX6_pair_44 (r_istore_6 dX6_pair_45 rfl ?_)
                have lp_47 : ∀ (NN : Nat) (d : Nat) (u7 : Option PV) (b_ e_ : Int) (Mv : Mem) (hd : d ≤ 8) (hb_ : b_ = (pD X τ p q (pQ X τ p (pP X τ N p) q) d).1) (he_ : e_ = (pD X τ p q (pQ X τ p (pP X τ N p) q) d).2) (hbe : -1 ≤ e_ ∧ e_ ≤ 99) (th : TH M τ Mv τ), 100 - d < NN → WP kX6_pair GM 9 (pI (fun a M2 => a = a_pair (nT, X, τ, img, τi, tn, tp, ss, sz, cl) what ∧ RM M2 (nT, X, τ, img, τi, tn, tp, ss, sz, cl))) z 47 [some (rv 0), some (iv what), some (iv b_), some (iv e_), some (iv (p : Int)), some (iv (q : Int)), some (iv (d : Int)), u7] [] Mv := by
                  intro NN
                  induction NN with
                  | zero => intros; omega
                  | succ NN ih =>
                    intro d u7 b_ e_ Mv hd hb_ he_ hbe th hm
                    refine r_iload_6 dX6_pair_47 ?_
                    refine r_bipush dX6_pair_49 (by decide) ?_
                    refine r_icmp_ge dX6_pair_51 (by omega) (by omega) (fun c_51 => ?_) (fun c_51 => ?_)
                    · skip
                      obtain rfl : d = 8 := by omega
                      refine r_iinc_5 dX6_pair_140 rfl (r_goto dX6_pair_143 ?_)
                      exact ihq (q + 1) _ _ _ _ _ (by omega) hb_ he_ hbe th (by omega)
                    · skip
                      have hd8 : d < 8 := by omega
                      refine r_iload_4 dX6_pair_54 (r_iload_5 dX6_pair_56 ?_)
                      refine r_icmp_eq dX6_pair_58 (by omega) (by omega) (fun c_58 => ?_) (fun c_58 => ?_)
                      · skip
                        have hpq : p = q := by omega
                        refine r_iinc_5 dX6_pair_140 rfl (r_goto dX6_pair_143 ?_)
                        exact ihq (q + 1) _ _ _ _ _ (by omega) ((hb_.trans (congrArg Prod.fst (pD_same (X := X) (τ := τ) hpq hA d))).trans (congrArg Prod.fst (pD_same (X := X) (τ := τ) hpq hA 8)).symm) ((he_.trans (congrArg Prod.snd (pD_same (X := X) (τ := τ) hpq hA d))).trans (congrArg Prod.snd (pD_same (X := X) (τ := τ) hpq hA 8)).symm) hbe th (by omega)
                      · skip
                        skip
                        refine r_aload_0 dX6_pair_61 (r_iload_4 dX6_pair_62 (r_iload_6 dX6_pair_64 ?_))
                        refine r_cVI2 dX6_pair_66 vX6_193 (rfl) (m_tryOf (p := p) (d := d) th.1 hw (hX.K th.2.2) hcl (by omega) hd8) (by decide) (Nat.le_of_ble_eq_true rfl) (fun b_66 M_66 h_66 => ?_)
                        obtain ⟨rfl, w1, f1⟩ := h_66
                        have th1 := th.go w1 f1
                        have wf1 := sTry_wf (X := X) hw hp6 hd8
                        have e80 := sTry_8 X τ p d 0
                        have e81 := sTry_8 X τ p d 1
                        have so1 := sOut_in τ p d
                        refine r_pop_i dX6_pair_69 (r_aload_0 dX6_pair_70 (r_iload_5 dX6_pair_71 (r_iload_6 dX6_pair_73 ?_)))
                        refine r_cVI2 dX6_pair_75 vX6_193 (rfl) (m_tryOf (p := q) (d := d) th1.1 wf1 (hX.K th1.2.2) (by omega) (by omega) hd8) (by decide) (Nat.le_of_ble_eq_true rfl) (fun b_75 M_75 h_75 => ?_)
                        obtain ⟨rfl, w2, f2⟩ := h_75
                        have th2 := th1.go w2 f2
                        have wf2 := sTry_wf (X := X) wf1 hq6 hd8
                        have x9 := (wf2.p hq6).2.1
                        refine r_pop_i dX6_pair_78 (r_aload_0 dX6_pair_79 (r_getR dX6_pair_80 fX6_16 (rfl) (rfl) (r_iconst dX6_pair_83 (r_iload_5 dX6_pair_84 (r_imul dX6_pair_86 (r_iconst dX6_pair_87 (r_iadd dX6_pair_88 (r_ialX dX6_pair_89 (rfl) (th2.1.e4 hq6) (by omega) (by omega) (by omega) ?_))))))))
                        obtain ⟨x, hx⟩ : ∃ x, x = sTry X (sTry X τ p d) q d 4 q := ⟨_, rfl⟩
                        rw [← hx] at x9 ⊢
                        have hx : x = pE X τ p q d := by unfold pE; rw [if_neg (by omega)]; exact hx
                        refine r_istore_7 dX6_pair_90 rfl (r_aload_0 dX6_pair_92 ?_)
                        refine r_cVV0 dX6_pair_93 vX6_208 (rfl) (m_lays th2.1 th2.2.1 (SK8.tr.trans SK8.tr).1 (SK8.tr.trans SK8.tr).2) (by decide) (Nat.le_of_ble_eq_true rfl) (fun M_93 h_93 => ?_)
                        obtain ⟨w3, f3⟩ := h_93
                        have th3 := th2.laid w3 f3
                        refine r_iload_7 dX6_pair_96 (r_iload_3 dX6_pair_98 ?_)
                        refine r_icmp_le dX6_pair_99 (by omega) (by omega) (fun c_99 => ?_) (fun c_99 => ?_)
                        · skip
                          refine r_iload_2 dX6_pair_119 (r_istore_2 dX6_pair_120 rfl (r_iload_7 dX6_pair_121 (r_iload_3 dX6_pair_123 ?_)))
                          refine r_icmp_le dX6_pair_124 (by omega) (by omega) (fun c_124 => ?_) (fun c_124 => ?_)
                          · skip
                            skip
                            refine r_iload_3 dX6_pair_132 (r_istore_3 dX6_pair_133 rfl (r_iinc_6 dX6_pair_134 rfl (r_goto dX6_pair_137 ?_)))
                            exact ih (d + 1) _ b_ e_ _ (by omega) (by rw [pD_no (by rw [← hx, ← he_]; omega)]; exact hb_) (by rw [pD_no (by rw [← hx, ← he_]; omega)]; exact he_) hbe th3 (by omega)
                          · exfalso; omega
                        · skip
                          refine r_bipush dX6_pair_102 (by decide) (r_iload_4 dX6_pair_104 (r_imul dX6_pair_106 (r_bipush dX6_pair_107 (by decide) (r_iload_5 dX6_pair_109 (r_imul dX6_pair_111 (r_iadd dX6_pair_112 (r_iload_6 dX6_pair_113 (r_iadd dX6_pair_115 (r_goto dX6_pair_116 (r_istore_2 dX6_pair_120 rfl (r_iload_7 dX6_pair_121 (r_iload_3 dX6_pair_123 ?_))))))))))))
                          refine r_icmp_le dX6_pair_124 (by omega) (by omega) (fun c_124 => ?_) (fun c_124 => ?_)
                          · exfalso; omega
                          · skip
                            skip
                            refine r_iload_7 dX6_pair_127 (r_goto dX6_pair_129 (r_istore_3 dX6_pair_133 rfl (r_iinc_6 dX6_pair_134 rfl (r_goto dX6_pair_137 ?_))))
                            exact ih (d + 1) _ _ x _ (by omega) (by rw [pD_yes (by rw [← hx, ← he_]; omega)]) (by rw [pD_yes (by rw [← hx, ← he_]; omega)]; exact hx) (by omega) th3 (by omega)
                exact lp_47 _ 0 _ _ _ _ (by omega) hb_ he_ hbe th (Nat.lt_succ_self _)
          exact lp_35 _ 0 _ _ _ _ _ (by omega) hb_ he_ hbe th (Nat.lt_succ_self _)
    exact lp_23 _ 0 none none none (-1) (-1) M_17 (by omega) rfl rfl (by omega) th0 (Nat.lt_succ_self _)
  · skip
    refine r_bipush dX6_pair_9 (by decide) ?_
    refine r_ireturn dX6_pair_11 rfl ?_
    refine ⟨_, rfl, ?_, hR⟩
    unfold a_pair
    simp only []
    rw [if_pos (by omega)]
set_option maxRecDepth 10000 in
set_option maxHeartbeats 4000000 in
theorem m6_stand {M : Mem} {nT tn : Nat} {X : Nat → Tx} {τ τi : Tn} {img : Bool} {tp ss sz : Nat → Int} {cl : Nat → Nat → Int} (hR : RM M (nT, X, τ, img, τi, tn, tp, ss, sz, cl)) (hJ : JNV (nT, X, τ, img, τi, tn, tp, ss, sz, cl)) {p : Int} (h_p : ib p) {n : Int} (h_n : ib n) {what : Int} (h_what : ib what) : Con GM 9 kX6_stand [rv 0, iv p, iv n, iv what] M (pI (fun a M2 => a = a_stand (nT, X, τ, img, τi, tn, tp, ss, sz, cl) p n what ∧ RM M2 (nT, X, τ, img, τi, tn, tp, ss, sz, cl))) := by
  refine con_of [some (rv 0), some (iv p), some (iv n), some (iv what), none, none, none, none] (plX6) rfl (Nat.le_of_ble_eq_true rfl) (fun z => ?_)
  have hR0 := hR
  obtain ⟨hT, hX, hnT, himg, hIM, ⟨htn, htp⟩, hsh, hwc⟩ := hR0
  have hT : TM M τ := hT
  have hJ0 := hJ
  obtain ⟨⟨⟨iT1, iT6⟩, ⟨hw, icl⟩, iim, ⟨itn, itp⟩, ish⟩, hki⟩ := hJ0
  obtain ⟨⟨wn, wn2⟩, wcl, ⟨wl, wl2⟩, -, -⟩ := id hw
  have hcl : τ 8 1 < 2147483648 := by omega
  refine r_mb (fun hMB => ?_)
  refine r_aload_0 dX6_stand_0 (r_iload_1 dX6_stand_1 ?_)
  refine r_cVI1 dX6_stand_2 vX6_99 (rfl) (m_isOne (d := 0) hT hw (by omega)) (by decide) (Nat.le_of_ble_eq_true rfl) (fun b_2 M_2 h_2 => ?_)
  obtain ⟨rfl, rfl⟩ := h_2
  first | refine r_ifd_ne dX6_stand_5 (fun c_5 => ?_) (fun c_5 => ?_) | refine r_ifb_ne dX6_stand_5 (fun c_5 => ?_) (fun c_5 => ?_)
  · skip
    obtain ⟨q, rfl⟩ : ∃ q : Nat, p = q := ⟨p.toNat, by omega⟩
    have hq6 : q < 6 := by omega
    have wq := hw.p hq6
    have hqn : (q : Int) < τ 8 0 := by omega
    refine r_iload_2 dX6_stand_11 (r_iconst dX6_stand_12 (r_bipush dX6_stand_13 (by decide) ?_))
    refine r_cSI3 dX6_stand_15 sX6_75 (m_in (d := 0) (by omega) (by omega) (by omega)) (by decide) (Nat.le_of_ble_eq_true rfl) (fun b_15 M_15 h_15 => ?_)
    obtain ⟨rfl, rfl⟩ := h_15
    first | refine r_ifd_eq dX6_stand_18 (fun c_18 => ?_) (fun c_18 => ?_) | refine r_ifb_eq dX6_stand_18 (fun c_18 => ?_) (fun c_18 => ?_)
    · skip
      refine r_bipush dX6_stand_30 (by decide) ?_
      refine r_ireturn dX6_stand_32 rfl ?_
      refine ⟨_, rfl, ?_, hR⟩
      unfold a_stand
      simp only []
      rw [if_neg (by omega), if_pos (by omega)]
    · skip
      refine r_iload_3 dX6_stand_21 (r_iconst dX6_stand_22 (r_iconst dX6_stand_23 ?_))
      refine r_cSI3 dX6_stand_24 sX6_75 (m_in (d := 0) (by omega) (by omega) (by omega)) (by decide) (Nat.le_of_ble_eq_true rfl) (fun b_24 M_24 h_24 => ?_)
      obtain ⟨rfl, rfl⟩ := h_24
      first | refine r_ifd_ne dX6_stand_27 (fun c_27 => ?_) (fun c_27 => ?_) | refine r_ifb_ne dX6_stand_27 (fun c_27 => ?_) (fun c_27 => ?_)
      · skip
        obtain ⟨k, rfl⟩ : ∃ k : Nat, n = k := ⟨n.toNat, by omega⟩
        refine r_iconst dX6_stand_33 (r_istore_4 dX6_stand_34 rfl (r_iconst dX6_stand_36 (r_istore_5 dX6_stand_37 rfl (r_aload_0 dX6_stand_39 ?_))))
        refine r_cVV0 dX6_stand_40 vX6_199 (rfl) (m_keeps hT) (by decide) (Nat.le_of_ble_eq_true rfl) (fun M_40 h_40 => ?_)
        obtain ⟨hk_40, fk_40⟩ := h_40
        have th0 : TH M τ M_40 τ := TH.beg hT hk_40 fk_40
        refine r_iconst dX6_stand_43 (r_istore_6 dX6_stand_44 rfl ?_)
        have lp_46 : ∀ (NN : Nat) (v : Nat) (u7 : Option PV) (b_ e_ : Int) (Mv : Mem) (hv : v ≤ 8) (hb_ : b_ = (mxF (fun (v : Nat) => sRun X (st τ 3 q (v : Int)) k 4 q) v).1) (he_ : e_ = (mxF (fun (v : Nat) => sRun X (st τ 3 q (v : Int)) k 4 q) v).2) (hbe : -1 ≤ e_ ∧ e_ ≤ 99) (th : TH M τ Mv τ), 100 - v < NN → WP kX6_stand GM 9 (pI (fun a M2 => a = a_stand (nT, X, τ, img, τi, tn, tp, ss, sz, cl) (q : Int) (k : Int) what ∧ RM M2 (nT, X, τ, img, τi, tn, tp, ss, sz, cl))) z 46 [some (rv 0), some (iv (q : Int)), some (iv (k : Int)), some (iv what), some (iv b_), some (iv e_), some (iv (v : Int)), u7] [] Mv := by
          intro NN
          induction NN with
          | zero => intros; omega
          | succ NN ih =>
            intro v u7 b_ e_ Mv hv hb_ he_ hbe th hm
            refine r_iload_6 dX6_stand_46 ?_
            refine r_bipush dX6_stand_48 (by decide) ?_
            refine r_icmp_ge dX6_stand_50 (by omega) (by omega) (fun c_50 => ?_) (fun c_50 => ?_)
            · skip
              obtain rfl : v = 8 := by omega
              refine r_iload_3 dX6_stand_122 ?_
              refine r_if_ne dX6_stand_123 (by omega) (fun c_123 => ?_) (fun c_123 => ?_)
              · skip
                refine r_iload_5 dX6_stand_131 ?_
                refine r_ireturn dX6_stand_133 rfl ?_
                refine ⟨_, rfl, ?_, hR.now th.1 th.2.2.kW⟩
                unfold a_stand
                simp only [Int.toNat_natCast]
                rw [if_neg (by omega), if_neg (by omega), if_neg (by omega)]
                exact he_
              · skip
                refine r_iload_4 dX6_stand_126 (r_goto dX6_stand_128 ?_)
                refine r_ireturn dX6_stand_133 rfl ?_
                refine ⟨_, rfl, ?_, hR.now th.1 th.2.2.kW⟩
                unfold a_stand
                simp only [Int.toNat_natCast]
                rw [if_neg (by omega), if_neg (by omega), if_pos (by omega)]
                exact hb_
            · skip
              have wS : WF nT (st τ 3 q (v : Int)) := hw.put (by omega)
              have e81 : st τ 3 q (v : Int) 8 1 = τ 8 1 := st_ne (by omega)
              have wR := (sRun_wf (X := X) wS k).p hq6
              refine r_aload_0 dX6_stand_53 (r_getR dX6_stand_54 fX6_16 (rfl) (rfl) (r_iconst dX6_stand_57 (r_iload_1 dX6_stand_58 (r_imul dX6_stand_59 (r_iload_6 dX6_stand_60 ?_)))))
              refine r_iasX (3 * q) dX6_stand_62 (rfl) (by omega) (by omega) (by omega) (by omega) ?_
              have w1 := th.1.u3 (p := q) (v := (v : Int))
              have th1 := th.go w1 (Fm.refl.up (by omega))
              refine r_aload_0 dX6_stand_63 (r_iload_2 dX6_stand_64 ?_)
              refine r_cVV1 dX6_stand_65 vX6_202 (rfl) (m_goes (n := k) th1.1 wS (hX.K th1.2.2) (by omega)) (by decide) (Nat.le_of_ble_eq_true rfl) (fun M_65 h_65 => ?_)
              obtain ⟨w2, f2⟩ := h_65
              have th2 := th1.go w2 f2
              refine r_aload_0 dX6_stand_68 (r_getR dX6_stand_69 fX6_16 (rfl) (rfl) (r_iconst dX6_stand_72 (r_iload_1 dX6_stand_73 (r_imul dX6_stand_74 (r_iconst dX6_stand_75 (r_iadd dX6_stand_76 (r_ialX dX6_stand_77 (rfl) (th2.1.e4 hq6) (by omega) (by omega) (by omega) ?_)))))))
              obtain ⟨x, hx⟩ : ∃ x, x = sRun X (st τ 3 q (v : Int)) k 4 q := ⟨_, rfl⟩
              rw [← hx] at wR ⊢
              refine r_istore_7 dX6_stand_78 rfl (r_aload_0 dX6_stand_80 ?_)
              refine r_cVV0 dX6_stand_81 vX6_208 (rfl) (m_lays th2.1 th2.2.1 ((SK8.st (by decide)).trans (SK8.run k)).1 ((SK8.st (by decide)).trans (SK8.run k)).2) (by decide) (Nat.le_of_ble_eq_true rfl) (fun M_81 h_81 => ?_)
              obtain ⟨w3, f3⟩ := h_81
              have th3 := th2.laid w3 f3
              refine r_iload_7 dX6_stand_84 (r_iload_5 dX6_stand_86 ?_)
              refine r_icmp_le dX6_stand_88 (by omega) (by omega) (fun c_88 => ?_) (fun c_88 => ?_)
              · skip
                refine r_iload_4 dX6_stand_96 (r_istore_4 dX6_stand_98 rfl (r_iload_7 dX6_stand_100 (r_iload_5 dX6_stand_102 ?_)))
                refine r_icmp_le dX6_stand_104 (by omega) (by omega) (fun c_104 => ?_) (fun c_104 => ?_)
                · skip
                  skip
                  refine r_iload_5 dX6_stand_112 (r_istore_5 dX6_stand_114 rfl (r_iinc_6 dX6_stand_116 rfl (r_goto dX6_stand_119 ?_)))
                  exact ih (v + 1) _ b_ e_ _ (by omega) (by rw [mxF_no (by rw [← he_]; show ¬ e_ < sRun X (st τ 3 q (v : Int)) k 4 q; rw [← hx]; omega)]; exact hb_) (by rw [mxF_no (by rw [← he_]; show ¬ e_ < sRun X (st τ 3 q (v : Int)) k 4 q; rw [← hx]; omega)]; exact he_) hbe th3 (by omega)
                · exfalso; omega
              · skip
                refine r_iload_6 dX6_stand_91 (r_goto dX6_stand_93 (r_istore_4 dX6_stand_98 rfl (r_iload_7 dX6_stand_100 (r_iload_5 dX6_stand_102 ?_))))
                refine r_icmp_le dX6_stand_104 (by omega) (by omega) (fun c_104 => ?_) (fun c_104 => ?_)
                · exfalso; omega
                · skip
                  skip
                  refine r_iload_7 dX6_stand_107 (r_goto dX6_stand_109 (r_istore_5 dX6_stand_114 rfl (r_iinc_6 dX6_stand_116 rfl (r_goto dX6_stand_119 ?_))))
                  exact ih (v + 1) _ _ x _ (by omega) (by rw [mxF_yes (by rw [← he_]; show e_ < sRun X (st τ 3 q (v : Int)) k 4 q; rw [← hx]; omega)]) (by rw [mxF_yes (by rw [← he_]; show e_ < sRun X (st τ 3 q (v : Int)) k 4 q; rw [← hx]; omega)]; exact hx) (by omega) th3 (by omega)
        exact lp_46 _ 0 _ (-1) (-1) M_40 (by omega) rfl rfl (by omega) th0 (Nat.lt_succ_self _)
      · skip
        refine r_bipush dX6_stand_30 (by decide) ?_
        refine r_ireturn dX6_stand_32 rfl ?_
        refine ⟨_, rfl, ?_, hR⟩
        unfold a_stand
        simp only []
        rw [if_neg (by omega), if_pos (by omega)]
  · skip
    skip
    refine r_bipush dX6_stand_8 (by decide) ?_
    refine r_ireturn dX6_stand_10 rfl ?_
    refine ⟨_, rfl, ?_, hR⟩
    unfold a_stand
    simp only []
    rw [if_pos (by omega)]
set_option maxRecDepth 10000 in
set_option maxHeartbeats 4000000 in
theorem m6_rounds {M : Mem} {nT tn : Nat} {X : Nat → Tx} {τ τi : Tn} {img : Bool} {tp ss sz : Nat → Int} {cl : Nat → Nat → Int} (hR : RM M (nT, X, τ, img, τi, tn, tp, ss, sz, cl)) (hJ : JNV (nT, X, τ, img, τi, tn, tp, ss, sz, cl)) {n : Int} (h_n : ib n) {what : Int} (h_what : ib what) : Con GM 9 kX6_rounds [rv 0, iv n, iv what] M (pI (fun a M2 => a = a_rounds (nT, X, τ, img, τi, tn, tp, ss, sz, cl) n what ∧ RM M2 (nT, X, τ, img, τi, tn, tp, ss, sz, cl))) := by
  refine con_of [some (rv 0), some (iv n), some (iv what), none, none, none, none] (plX6) rfl (Nat.le_of_ble_eq_true rfl) (fun z => ?_)
  have hR0 := hR
  obtain ⟨hT, hX, hnT, himg, hIM, ⟨htn, htp⟩, hsh, hwc⟩ := hR0
  have hT : TM M τ := hT
  have hJ0 := hJ
  obtain ⟨⟨⟨iT1, iT6⟩, ⟨hw, icl⟩, iim, ⟨itn, itp⟩, ish⟩, hki⟩ := hJ0
  obtain ⟨⟨wn, wn2⟩, wcl, ⟨wl, wl2⟩, -, -⟩ := id hw
  have hcl : τ 8 1 < 2147483648 := by omega
  refine r_mb (fun hMB => ?_)
  refine r_iload_1 dX6_rounds_0 (r_iconst dX6_rounds_1 (r_bipush dX6_rounds_2 (by decide) ?_))
  refine r_cSI3 dX6_rounds_4 sX6_75 (m_in (d := 0) (by omega) (by omega) (by omega)) (by decide) (Nat.le_of_ble_eq_true rfl) (fun b_4 M_4 h_4 => ?_)
  obtain ⟨rfl, rfl⟩ := h_4
  first | refine r_ifd_eq dX6_rounds_7 (fun c_7 => ?_) (fun c_7 => ?_) | refine r_ifb_eq dX6_rounds_7 (fun c_7 => ?_) (fun c_7 => ?_)
  · skip
    refine r_bipush dX6_rounds_19 (by decide) ?_
    refine r_ireturn dX6_rounds_21 rfl ?_
    refine ⟨_, rfl, ?_, hR⟩
    unfold a_rounds
    simp only []
    rw [if_pos (by omega)]
  · skip
    refine r_iload_2 dX6_rounds_10 (r_iconst dX6_rounds_11 (r_iconst dX6_rounds_12 ?_))
    refine r_cSI3 dX6_rounds_13 sX6_75 (m_in (d := 0) (by omega) (by omega) (by omega)) (by decide) (Nat.le_of_ble_eq_true rfl) (fun b_13 M_13 h_13 => ?_)
    obtain ⟨rfl, rfl⟩ := h_13
    first | refine r_ifd_ne dX6_rounds_16 (fun c_16 => ?_) (fun c_16 => ?_) | refine r_ifb_ne dX6_rounds_16 (fun c_16 => ?_) (fun c_16 => ?_)
    · skip
      obtain ⟨k, rfl⟩ : ∃ k : Nat, n = k := ⟨n.toNat, by omega⟩
      obtain ⟨N, hN⟩ : ∃ N : Nat, τ 8 0 = N := ⟨(τ 8 0).toNat, by omega⟩
      have hNt : (τ 8 0).toNat = N := by omega
      refine r_iconst dX6_rounds_22 (r_istore_3 dX6_rounds_23 rfl (r_aload_0 dX6_rounds_24 ?_))
      refine r_cVV0 dX6_rounds_25 vX6_199 (rfl) (m_keeps hT) (by decide) (Nat.le_of_ble_eq_true rfl) (fun M_25 h_25 => ?_)
      obtain ⟨hk_25, fk_25⟩ := h_25
      have th0 : TH M τ M_25 τ := TH.beg hT hk_25 fk_25
      refine r_aload_0 dX6_rounds_28 (r_iload_1 dX6_rounds_29 ?_)
      refine r_cVV1 dX6_rounds_30 vX6_202 (rfl) (m_goes (n := k) th0.1 hw (hX.K th0.2.2) (by omega)) (by decide) (Nat.le_of_ble_eq_true rfl) (fun M_30 h_30 => ?_)
      obtain ⟨w1, f1⟩ := h_30
      have th1 := th0.go w1 f1
      have wk := sRun_wf (X := X) hw k
      refine r_aload_0 dX6_rounds_33 (r_iconst dX6_rounds_34 ?_)
      refine r_cVI1 dX6_rounds_35 vX6_82 (rfl) (m_having (n := 0) (j := 2) th1.1 wk (by decide)) (by decide) (Nat.le_of_ble_eq_true rfl) (fun b_35 M_35 h_35 => ?_)
      obtain ⟨rfl, hb_35⟩ := h_35
      obtain ⟨m_35, hm_35, hm256_35, hmt_35⟩ := snd_b (sRun X τ k)
      rw [hb_35, show bt (fun d => decide (((sRun X τ k)) 2 d ≠ -1)) 8 = (m_35 : Int) from hm_35]
      refine r_cSI1 dX6_rounds_38 sX6_86 (m_ones (d := 0) hm256_35) (by decide) (Nat.le_of_ble_eq_true rfl) (fun b_38 M_38 h_38 => ?_)
      obtain ⟨rfl, rfl⟩ := h_38
      have hpm0 := pop8_b m_35
      refine r_istore_4 dX6_rounds_41 rfl (r_aload_0 dX6_rounds_43 ?_)
      refine r_cVV0 dX6_rounds_44 vX6_208 (rfl) (m_lays th1.1 th1.2.1 (SK8.run k).1 (SK8.run k).2) (by decide) (Nat.le_of_ble_eq_true rfl) (fun M_44 h_44 => ?_)
      obtain ⟨w2, f2⟩ := h_44
      have th2 := th1.laid w2 f2
      refine r_iconst dX6_rounds_47 (r_istore_5 dX6_rounds_48 rfl ?_)
      have lp_50 : ∀ (NN : Nat) (p : Nat) (u6 : Option PV) (b_ e_ : Int) (Mv : Mem) (hp : p ≤ N) (hb_ : b_ = (mxG (fun p => rC X τ p k) ((pop8 m_35 : Nat) : Int) p).1) (he_ : e_ = (mxG (fun p => rC X τ p k) ((pop8 m_35 : Nat) : Int) p).2) (hbe : 0 ≤ e_ ∧ e_ ≤ 8) (th : TH M τ Mv τ), 100 - p < NN → WP kX6_rounds GM 9 (pI (fun a M2 => a = a_rounds (nT, X, τ, img, τi, tn, tp, ss, sz, cl) (k : Int) what ∧ RM M2 (nT, X, τ, img, τi, tn, tp, ss, sz, cl))) z 50 [some (rv 0), some (iv (k : Int)), some (iv what), some (iv b_), some (iv e_), some (iv (p : Int)), u6] [] Mv := by
        intro NN
        induction NN with
        | zero => intros; omega
        | succ NN ih =>
          intro p u6 b_ e_ Mv hp hb_ he_ hbe th hm
          have ihp := ih
          refine r_iload_5 dX6_rounds_50 ?_
          refine r_aload_0 dX6_rounds_52 (r_getE dX6_rounds_53 fX6_72 (rfl) (rfl) (th.1.people) ?_)
          refine r_icmp_ge dX6_rounds_56 (by omega) (by omega) (fun c_56 => ?_) (fun c_56 => ?_)
          · skip
            obtain rfl : p = N := by omega
            refine r_iload_2 dX6_rounds_139 ?_
            refine r_if_ne dX6_rounds_140 (by omega) (fun c_140 => ?_) (fun c_140 => ?_)
            · skip
              refine r_iload_4 dX6_rounds_147 ?_
              refine r_ireturn dX6_rounds_149 rfl ?_
              refine ⟨_, rfl, ?_, hR.now th.1 th.2.2.kW⟩
              unfold a_rounds
              simp only [Int.toNat_natCast]
              rw [hNt, hmt_35, if_neg (by omega), if_neg (by omega)]
              exact he_
            · skip
              refine r_iload_3 dX6_rounds_143 (r_goto dX6_rounds_144 ?_)
              refine r_ireturn dX6_rounds_149 rfl ?_
              refine ⟨_, rfl, ?_, hR.now th.1 th.2.2.kW⟩
              unfold a_rounds
              simp only [Int.toNat_natCast]
              rw [hNt, hmt_35, if_neg (by omega), if_pos (by omega)]
              exact hb_
          · skip
            have hp6 : p < 6 := by omega
            refine r_iconst dX6_rounds_59 (r_istore_6 dX6_rounds_60 rfl ?_)
            have lp_62 : ∀ (NN : Nat) (d : Nat) (Mw : Mem) (hd : d ≤ 8) (tw : TH M τ Mw (aT X τ p d)), 100 - d < NN → WP kX6_rounds GM 9 (pI (fun a M2 => a = a_rounds (nT, X, τ, img, τi, tn, tp, ss, sz, cl) (k : Int) what ∧ RM M2 (nT, X, τ, img, τi, tn, tp, ss, sz, cl))) z 62 [some (rv 0), some (iv (k : Int)), some (iv what), some (iv b_), some (iv e_), some (iv (p : Int)), some (iv (d : Int))] [] Mw := by
              intro NN
              induction NN with
              | zero => intros; omega
              | succ NN ih =>
                intro d Mw hd tw hm
                have wfa := aT_wf (X := X) hw hp6 d hd
                have c8 := aT_8 X τ p 1 d
                have c80 := aT_8 X τ p 0 d
                refine r_iload_6 dX6_rounds_62 ?_
                refine r_bipush dX6_rounds_64 (by decide) ?_
                refine r_icmp_ge dX6_rounds_66 (by omega) (by omega) (fun c_66 => ?_) (fun c_66 => ?_)
                · skip
                  obtain rfl : d = 8 := by omega
                  refine r_aload_0 dX6_rounds_84 (r_iload_1 dX6_rounds_85 ?_)
                  refine r_cVV1 dX6_rounds_86 vX6_202 (rfl) (m_goes (n := k) tw.1 wfa (hX.K tw.2.2) (by omega)) (by decide) (Nat.le_of_ble_eq_true rfl) (fun M_86 h_86 => ?_)
                  obtain ⟨w4, f4⟩ := h_86
                  have th4 := tw.go w4 f4
                  have wk4 := sRun_wf (X := X) wfa k
                  refine r_aload_0 dX6_rounds_89 (r_iconst dX6_rounds_90 ?_)
                  refine r_cVI1 dX6_rounds_91 vX6_82 (rfl) (m_having (n := 0) (j := 2) th4.1 wk4 (by decide)) (by decide) (Nat.le_of_ble_eq_true rfl) (fun b_91 M_91 h_91 => ?_)
                  obtain ⟨rfl, hb_91⟩ := h_91
                  obtain ⟨m_91, hm_91, hm256_91, hmt_91⟩ := snd_b (sRun X (aT X τ p 8) k)
                  rw [hb_91, show bt (fun d => decide (((sRun X (aT X τ p 8) k)) 2 d ≠ -1)) 8 = (m_91 : Int) from hm_91]
                  refine r_cSI1 dX6_rounds_94 sX6_86 (m_ones (d := 0) hm256_91) (by decide) (Nat.le_of_ble_eq_true rfl) (fun b_94 M_94 h_94 => ?_)
                  obtain ⟨rfl, rfl⟩ := h_94
                  have hpm := pop8_b m_91
                  have hrc : rC X τ p k = ((pop8 m_91 : Nat) : Int) := by unfold rC; rw [hmt_91]
                  refine r_istore_6 dX6_rounds_97 rfl (r_aload_0 dX6_rounds_99 ?_)
                  refine r_cVV0 dX6_rounds_100 vX6_208 (rfl) (m_lays th4.1 th4.2.1 ((SK8.aT 8).trans (SK8.run k)).1 ((SK8.aT 8).trans (SK8.run k)).2) (by decide) (Nat.le_of_ble_eq_true rfl) (fun M_100 h_100 => ?_)
                  obtain ⟨w5, f5⟩ := h_100
                  have th5 := th4.laid w5 f5
                  refine r_iload_6 dX6_rounds_103 (r_iload_4 dX6_rounds_105 ?_)
                  refine r_icmp_le dX6_rounds_107 (by omega) (by omega) (fun c_107 => ?_) (fun c_107 => ?_)
                  · skip
                    refine r_iload_3 dX6_rounds_115 (r_istore_3 dX6_rounds_116 rfl (r_iload_6 dX6_rounds_117 (r_iload_4 dX6_rounds_119 ?_)))
                    refine r_icmp_le dX6_rounds_121 (by omega) (by omega) (fun c_121 => ?_) (fun c_121 => ?_)
                    · skip
                      skip
                      refine r_iload_4 dX6_rounds_129 (r_istore_4 dX6_rounds_131 rfl (r_iinc_5 dX6_rounds_133 rfl (r_goto dX6_rounds_136 ?_)))
                      exact ihp (p + 1) _ b_ e_ _ (by omega) (by rw [mxG_no (by show ¬ _ < rC X τ p k; rw [hrc, ← he_]; omega)]; exact hb_) (by rw [mxG_no (by show ¬ _ < rC X τ p k; rw [hrc, ← he_]; omega)]; exact he_) hbe th5 (by omega)
                    · exfalso; omega
                  · skip
                    refine r_iload_5 dX6_rounds_110 (r_goto dX6_rounds_112 (r_istore_3 dX6_rounds_116 rfl (r_iload_6 dX6_rounds_117 (r_iload_4 dX6_rounds_119 ?_))))
                    refine r_icmp_le dX6_rounds_121 (by omega) (by omega) (fun c_121 => ?_) (fun c_121 => ?_)
                    · exfalso; omega
                    · skip
                      skip
                      refine r_iload_6 dX6_rounds_124 (r_goto dX6_rounds_126 (r_istore_4 dX6_rounds_131 rfl (r_iinc_5 dX6_rounds_133 rfl (r_goto dX6_rounds_136 ?_))))
                      exact ihp (p + 1) _ _ _ _ (by omega) (by rw [mxG_yes (by show _ < rC X τ p k; rw [hrc, ← he_]; omega)]) (by rw [mxG_yes (by show _ < rC X τ p k; rw [hrc, ← he_]; omega)]; exact hrc.symm) (by omega) th5 (by omega)
                · skip
                  have hd8 : d < 8 := by omega
                  refine r_aload_0 dX6_rounds_69 (r_iload_5 dX6_rounds_70 (r_iload_6 dX6_rounds_72 ?_))
                  refine r_cVI2 dX6_rounds_74 vX6_193 (rfl) (m_tryOf (p := p) (d := d) tw.1 wfa (hX.K tw.2.2) (by omega) (by omega) hd8) (by decide) (Nat.le_of_ble_eq_true rfl) (fun b_74 M_74 h_74 => ?_)
                  obtain ⟨rfl, w3, f3⟩ := h_74
                  have tw1 : TH M τ M_74 (aT X τ p (d + 1)) := tw.go w3 f3
                  refine r_pop_i dX6_rounds_77 (r_iinc_6 dX6_rounds_78 rfl (r_goto dX6_rounds_81 ?_))
                  exact ih (d + 1) _ (by omega) tw1 (by omega)
            exact lp_62 _ 0 Mv (by omega) th (Nat.lt_succ_self _)
      exact lp_50 _ 0 _ (-1) _ M_44 (by omega) rfl rfl (by omega) th2 (Nat.lt_succ_self _)
    · skip
      refine r_bipush dX6_rounds_19 (by decide) ?_
      refine r_ireturn dX6_rounds_21 rfl ?_
      refine ⟨_, rfl, ?_, hR⟩
      unfold a_rounds
      simp only []
      rw [if_pos (by omega)]
set_option maxRecDepth 10000 in
set_option maxHeartbeats 4000000 in
theorem m_refS {M : Mem} {nT tn : Nat} {X : Nat → Tx} {τ τi : Tn} {img : Bool} {tp ss sz : Nat → Int} {cl : Nat → Nat → Int} (hR : RM M (nT, X, τ, img, τi, tn, tp, ss, sz, cl)) (hJ : JNV (nT, X, τ, img, τi, tn, tp, ss, sz, cl)) {s : Int} (h_s : ib s) : Con GM 1 kX6_sheetWrong [rv 0, iv s] M (pI (fun a M2 => M = M2 ∧ a = a_ref (nT, X, τ, img, τi, tn, tp, ss, sz, cl) s)) := by
  refine con_of [some (rv 0), some (iv s)] (plX6) rfl (Nat.le_of_ble_eq_true rfl) (fun z => ?_)
  have hR0 := hR
  obtain ⟨hT, hX, hnT, himg, hIM, ⟨htn, htp⟩, hsh, hwc⟩ := hR0
  have hT : TM M τ := hT
  have hJ0 := hJ
  obtain ⟨⟨⟨iT1, iT6⟩, ⟨hw, icl⟩, iim, ⟨itn, itp⟩, ish⟩, hki⟩ := hJ0
  obtain ⟨⟨wn, wn2⟩, wcl, ⟨wl, wl2⟩, -, -⟩ := id hw
  have hcl : τ 8 1 < 2147483648 := by omega
  refine r_mb (fun hMB => ?_)
  refine r_iload_1 dX6_sheetWrong_0 (r_iconst dX6_sheetWrong_1 (r_iconst dX6_sheetWrong_2 ?_))
  refine r_cSI3 dX6_sheetWrong_3 sX6_75 (m_in (d := 0) (by omega) (by omega) (by omega)) (by decide) (Nat.le_of_ble_eq_true rfl) (fun b_3 M_3 h_3 => ?_)
  obtain ⟨rfl, rfl⟩ := h_3
  first | refine r_ifd_ne dX6_sheetWrong_6 (fun c_6 => ?_) (fun c_6 => ?_) | refine r_ifb_ne dX6_sheetWrong_6 (fun c_6 => ?_) (fun c_6 => ?_)
  · skip
    obtain ⟨e, rfl⟩ : ∃ e : Nat, s = e := ⟨s.toNat, by omega⟩
    have he4 : e < 4 := by omega
    have hs := hsh e he4
    have is := ish e he4
    refine r_aload_0 dX6_sheetWrong_12 (r_getR dX6_sheetWrong_13 fX6_37 (rfl) (rfl) (r_iload_1 dX6_sheetWrong_16 (r_ialX dX6_sheetWrong_17 (rfl) (hs.1) (by omega) (by omega) (by omega) (r_iconst dX6_sheetWrong_18 ?_))))
    refine r_icmp_ne dX6_sheetWrong_19 (by omega) (by omega) (fun c_19 => ?_) (fun c_19 => ?_)
    · skip
      refine r_aload_0 dX6_sheetWrong_25 (r_getR dX6_sheetWrong_26 fX6_40 (rfl) (rfl) (r_iload_1 dX6_sheetWrong_29 (r_ialX dX6_sheetWrong_30 (rfl) (hs.2.1) (by omega) (by omega) (by omega) (r_bipush dX6_sheetWrong_31 (by decide) ?_))))
      refine r_icmp_le dX6_sheetWrong_33 (by omega) (by omega) (fun c_33 => ?_) (fun c_33 => ?_)
      · skip
        refine r_iconst dX6_sheetWrong_41 ?_
        refine r_ireturn dX6_sheetWrong_42 rfl ?_
        refine ⟨_, rfl, rfl, ?_⟩
        unfold a_ref
        simp only [Int.toNat_natCast]
        (repeat (first | rw [if_pos (by omega)] | rw [if_neg (by omega)])) <;> first | with_reducible rfl | omega
      · skip
        refine r_bipush dX6_sheetWrong_36 (by decide) (r_goto dX6_sheetWrong_38 ?_)
        refine r_ireturn dX6_sheetWrong_42 rfl ?_
        refine ⟨_, rfl, rfl, ?_⟩
        unfold a_ref
        simp only [Int.toNat_natCast]
        (repeat (first | rw [if_pos (by omega)] | rw [if_neg (by omega)])) <;> first | with_reducible rfl | omega
    · skip
      refine r_bipush dX6_sheetWrong_22 (by decide) ?_
      refine r_ireturn dX6_sheetWrong_24 rfl ?_
      refine ⟨_, rfl, rfl, ?_⟩
      unfold a_ref
      simp only [Int.toNat_natCast]
      (repeat (first | rw [if_pos (by omega)] | rw [if_neg (by omega)])) <;> first | with_reducible rfl | omega
  · skip
    refine r_bipush dX6_sheetWrong_9 (by decide) ?_
    refine r_ireturn dX6_sheetWrong_11 rfl ?_
    refine ⟨_, rfl, rfl, ?_⟩
    unfold a_ref
    simp only [Int.toNat_natCast]
    (repeat (first | rw [if_pos (by omega)] | rw [if_neg (by omega)])) <;> first | with_reducible rfl | omega
set_option maxRecDepth 10000 in
set_option maxHeartbeats 4000000 in
theorem m_refT {M : Mem} {nT tn : Nat} {X : Nat → Tx} {τ τi : Tn} {img : Bool} {tp ss sz : Nat → Int} {cl : Nat → Nat → Int} (hR : RM M (nT, X, τ, img, τi, tn, tp, ss, sz, cl)) (hJ : JNV (nT, X, τ, img, τi, tn, tp, ss, sz, cl)) {s p : Int} (h_s : ib s) (h_p : ib p) : Con GM 2 kX6_toldWrong [rv 0, iv s, iv p] M (pI (fun a M2 => M = M2 ∧ a = a_refT (nT, X, τ, img, τi, tn, tp, ss, sz, cl) s p)) := by
  refine con_of [some (rv 0), some (iv s), some (iv p), none] (plX6) rfl (Nat.le_of_ble_eq_true rfl) (fun z => ?_)
  have hR0 := hR
  obtain ⟨hT, hX, hnT, himg, hIM, ⟨htn, htp⟩, hsh, hwc⟩ := hR0
  have hT : TM M τ := hT
  have hJ0 := hJ
  obtain ⟨⟨⟨iT1, iT6⟩, ⟨hw, icl⟩, iim, ⟨itn, itp⟩, ish⟩, hki⟩ := hJ0
  obtain ⟨⟨wn, wn2⟩, wcl, ⟨wl, wl2⟩, -, -⟩ := id hw
  have hcl : τ 8 1 < 2147483648 := by omega
  refine r_mb (fun hMB => ?_)
  refine r_aload_0 dX6_toldWrong_0 (r_iload_1 dX6_toldWrong_1 ?_)
  refine r_cVI1 dX6_toldWrong_2 vX6_220 (rfl) (m_refS hR hJ (by omega)) (by decide) (Nat.le_of_ble_eq_true rfl) (fun b_2 M_2 h_2 => ?_)
  obtain ⟨rfl, rfl⟩ := h_2
  have rb := a_ref_in (nT, X, τ, img, τi, tn, tp, ss, sz, cl) s
  refine r_istore_3 dX6_toldWrong_5 rfl (r_iload_3 dX6_toldWrong_6 ?_)
  refine r_if_eq dX6_toldWrong_7 (by omega) (fun c_7 => ?_) (fun c_7 => ?_)
  · skip
    refine r_aload_0 dX6_toldWrong_14 (r_iload_2 dX6_toldWrong_15 ?_)
    refine r_cVI1 dX6_toldWrong_16 vX6_99 (rfl) (m_isOne (d := 0) hT hw (by omega)) (by decide) (Nat.le_of_ble_eq_true rfl) (fun b_16 M_16 h_16 => ?_)
    obtain ⟨rfl, rfl⟩ := h_16
    first | refine r_ifd_eq dX6_toldWrong_19 (fun c_19 => ?_) (fun c_19 => ?_) | refine r_ifb_eq dX6_toldWrong_19 (fun c_19 => ?_) (fun c_19 => ?_)
    · skip
      refine r_bipush dX6_toldWrong_26 (by decide) ?_
      refine r_ireturn dX6_toldWrong_28 rfl ?_
      refine ⟨_, rfl, rfl, ?_⟩
      unfold a_refT
      simp only []
      (repeat (first | rw [if_pos (by omega)] | rw [if_neg (by omega)])) <;> first | with_reducible rfl | omega
    · skip
      refine r_iconst dX6_toldWrong_22 (r_goto dX6_toldWrong_23 ?_)
      refine r_ireturn dX6_toldWrong_28 rfl ?_
      refine ⟨_, rfl, rfl, ?_⟩
      unfold a_refT
      simp only []
      (repeat (first | rw [if_pos (by omega)] | rw [if_neg (by omega)])) <;> first | with_reducible rfl | omega
  · skip
    refine r_iload_3 dX6_toldWrong_10 (r_goto dX6_toldWrong_11 ?_)
    refine r_ireturn dX6_toldWrong_28 rfl ?_
    refine ⟨_, rfl, rfl, ?_⟩
    unfold a_refT
    simp only []
    (repeat (first | rw [if_pos (by omega)] | rw [if_neg (by omega)])) <;> first | with_reducible rfl | omega
set_option maxRecDepth 10000 in
set_option maxHeartbeats 4000000 in
theorem m_unlike {e q zn : Nat} {c : Nat → Int} {M : Mem} {nT : Nat} {τ : Tn} {X : Nat → Tx} (hT : TM M τ) (hw : WF nT τ) (hX : XM M nT X) (hcl : τ 8 1 + 60 < 2147483647) (hq : (q : Int) < τ 8 0) (he : e < 4) (hz : M 11 e = (zn : Int)) (hz2 : zn ≤ 40) (hc : ∀ i, i < 40 → M 12 (40 * e + i) = c i) : Con GM 6 kX6_unlike [rv 0, iv (e : Int), iv (q : Int)] M (pI (fun a M2 => a = sOth X τ c q zn 0 ∧ TM M2 τ ∧ Fm mK M M2)) := by
  refine con_of [some (rv 0), some (iv (e : Int)), some (iv (q : Int)), none, none] (plX6) rfl (Nat.le_of_ble_eq_true rfl) (fun z => ?_)
  obtain ⟨⟨wn, wn2⟩, wcl, ⟨wl, wl2⟩, -, -⟩ := id hw
  have hq6 : q < 6 := by omega
  refine r_mb (fun hMB => ?_)
  refine r_iconst dX6_unlike_0 (r_istore_3 dX6_unlike_1 rfl (r_aload_0 dX6_unlike_2 ?_))
  refine r_cVV0 dX6_unlike_3 vX6_199 (rfl) (m_keeps hT) (by decide) (Nat.le_of_ble_eq_true rfl) (fun M_3 h_3 => ?_)
  obtain ⟨hk_3, fk_3⟩ := h_3
  have th0 : TH M τ M_3 τ := TH.beg hT hk_3 fk_3
  refine r_iconst dX6_unlike_6 (r_istore_4 dX6_unlike_7 rfl ?_)
  have lp_9 : ∀ (NN : Nat) (i : Nat) (f : Int) (Mv : Mem) (hi : i ≤ zn) (hf : (f = -1 ∧ sOth X τ c q zn 0 = sOth X τ c q (zn - i) i) ∨ ((0 ≤ f ∧ f ≤ 60) ∧ f = sOth X τ c q zn 0)) (th : TH M τ Mv (sRun X τ i)), 100 - i < NN → WP kX6_unlike GM 6 (pI (fun a M2 => a = sOth X τ c q zn 0 ∧ TM M2 τ ∧ Fm mK M M2)) z 9 [some (rv 0), some (iv (e : Int)), some (iv (q : Int)), some (iv f), some (iv (i : Int))] [] Mv := by
    intro NN
    induction NN with
    | zero => intros; omega
    | succ NN ih =>
      intro i f Mv hi hf th hm
      have hck := sRun_clk X τ i
      have wi := sRun_wf (X := X) hw i
      have wi1 := (sRun_wf (X := X) hw (i + 1)).p hq6
      refine r_iload_4 dX6_unlike_9 ?_
      refine r_aload_0 dX6_unlike_11 (r_getR dX6_unlike_12 fX6_40 (rfl) (rfl) (r_iload_1 dX6_unlike_15 (r_ialX dX6_unlike_16 (rfl) ((th.2.2 11 e (by omega)).trans hz) (by omega) (by omega) (by omega) ?_)))
      refine r_icmp_ge dX6_unlike_17 (by omega) (by omega) (fun c_17 => ?_) (fun c_17 => ?_)
      · skip
        obtain rfl : i = zn := by omega
        have hff : f = sOth X τ c q i 0 := by
          rcases hf with h | h
          · rw [h.1, h.2, Nat.sub_self]; rfl
          · exact h.2
        refine r_aload_0 dX6_unlike_68 ?_
        refine r_cVV0 dX6_unlike_69 vX6_208 (rfl) (m_lays th.1 th.2.1 (SK8.run _).1 (SK8.run _).2) (by decide) (Nat.le_of_ble_eq_true rfl) (fun M_69 h_69 => ?_)
        obtain ⟨w2, f2⟩ := h_69
        have th2 := th.laid w2 f2
        refine r_iload_3 dX6_unlike_72 ?_
        refine r_ireturn dX6_unlike_73 rfl ?_
        exact ⟨_, rfl, hff, th2.1, th2.2.2⟩
      · skip
        refine r_iload_3 dX6_unlike_20 (r_iconst dX6_unlike_21 ?_)
        refine r_icmp_ne dX6_unlike_22 (by omega) (by omega) (fun c_22 => ?_) (fun c_22 => ?_)
        · skip
          have hff : f = sOth X τ c q zn 0 := by omega
          refine r_aload_0 dX6_unlike_68 ?_
          refine r_cVV0 dX6_unlike_69 vX6_208 (rfl) (m_lays th.1 th.2.1 (SK8.run _).1 (SK8.run _).2) (by decide) (Nat.le_of_ble_eq_true rfl) (fun M_69 h_69 => ?_)
          obtain ⟨w2, f2⟩ := h_69
          have th2 := th.laid w2 f2
          refine r_iload_3 dX6_unlike_72 ?_
          refine r_ireturn dX6_unlike_73 rfl ?_
          exact ⟨_, rfl, hff, th2.1, th2.2.2⟩
        · skip
          have hf := hf.resolve_right (by omega)
          have hst : sOth X τ c q (zn - i) i = if sRun X τ (i + 1) 4 q = c i then sOth X τ c q (zn - (i + 1)) (i + 1) else (i : Int) := by
            rw [show zn - i = (zn - (i + 1)) + 1 by omega]
            rfl
          have hci := hc i (by omega)
          have hcb := hMB 12 (40 * e + i)
          rw [hci] at hcb
          refine r_aload_0 dX6_unlike_25 ?_
          refine r_cVI0 dX6_unlike_26 vX6_196 (rfl) (m_minuteOf th.1 wi (hX.K th.2.2) (by omega)) (by decide) (Nat.le_of_ble_eq_true rfl) (fun b_26 M_26 h_26 => ?_)
          obtain ⟨rfl, w1, f1⟩ := h_26
          have th1 : TH M τ M_26 (sRun X τ (i + 1)) := th.go w1 f1
          refine r_pop_i dX6_unlike_29 (r_aload_0 dX6_unlike_30 (r_getR dX6_unlike_31 fX6_43 (rfl) (rfl) (r_bipush dX6_unlike_34 (by decide) (r_iload_1 dX6_unlike_36 (r_imul dX6_unlike_37 (r_iload_4 dX6_unlike_38 (r_iadd dX6_unlike_40 (r_ialX dX6_unlike_41 (rfl) ((th1.2.2 12 (40 * e + i) (by omega)).trans hci) (by omega) (by omega) (by omega) (r_aload_0 dX6_unlike_42 (r_getR dX6_unlike_43 fX6_16 (rfl) (rfl) (r_iconst dX6_unlike_46 (r_iload_2 dX6_unlike_47 (r_imul dX6_unlike_48 (r_iconst dX6_unlike_49 (r_iadd dX6_unlike_50 (r_ialX dX6_unlike_51 (rfl) (th1.1.e4 hq6) (by omega) (by omega) (by omega) ?_))))))))))))))))
          refine r_icmp_ne dX6_unlike_52 (by omega) (by omega) (fun c_52 => ?_) (fun c_52 => ?_)
          · skip
            refine r_iload_4 dX6_unlike_59 (r_istore_3 dX6_unlike_61 rfl (r_iinc_4 dX6_unlike_62 rfl (r_goto dX6_unlike_65 ?_)))
            exact ih (i + 1) _ _ (by omega) (Or.inr ⟨by omega, by rw [hf.2, hst, if_neg (by omega)]⟩) th1 (by omega)
          · skip
            refine r_iconst dX6_unlike_55 (r_goto dX6_unlike_56 (r_istore_3 dX6_unlike_61 rfl (r_iinc_4 dX6_unlike_62 rfl (r_goto dX6_unlike_65 ?_))))
            exact ih (i + 1) _ _ (by omega) (Or.inl ⟨rfl, by rw [hf.2, hst, if_pos (by omega)]⟩) th1 (by omega)
  exact lp_9 _ 0 (-1) M_3 (by omega) (Or.inl ⟨rfl, rfl⟩) th0 (Nat.lt_succ_self _)

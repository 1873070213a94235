/-! thought: the town goes on, what is kept is laid back -/
def TH (M : Mem) (τ : Tn) (Mv : Mem) (τ' : Tn) : Prop := TM Mv τ' ∧ KP Mv τ ∧ Fm mK M Mv
theorem TH.beg {M M1 : Mem} {τ : Tn} (hT : TM M τ) (hk : KP M1 τ) (fk : Fm (fun c _ => c = 18) M M1) : TH M τ M1 τ := ⟨hT.k18 fk, hk, fk.eK⟩
theorem TH.go {M Mv Mw : Mem} {τ τ' τ'' : Tn} (h : TH M τ Mv τ') (hT : TM Mw τ'') (hF : Fm mT Mv Mw) : TH M τ Mw τ'' := ⟨hT, h.2.1.tn hF, h.2.2.trans hF.tK⟩
theorem TH.laid {M Mv Mw : Mem} {τ τ' : Tn} (h : TH M τ Mv τ') (hT : TM Mw τ) (hF : Fm (fun c i => c = 3 ∨ c = 4 ∨ (c = 0 ∧ i = 5)) Mv Mw) : TH M τ Mw τ := ⟨hT, h.2.1.lays hF, h.2.2.trans hF.lK⟩
theorem sAlo_t {τ : Tn} {i : Nat} (hi : (i : Int) < τ 8 0) (h : sAt τ (τ 3 i) = 2 ^ i) : sAlo τ = true := by
  unfold sAlo
  rw [List.any_eq_true]
  exact ⟨i, List.mem_range.mpr (by omega), decide_eq_true h⟩
theorem sAlo_f {τ : Tn} (h : ∀ i : Nat, (i : Int) < τ 8 0 → ¬ sAt τ (τ 3 i) = 2 ^ i) : sAlo τ = false := by
  unfold sAlo
  rw [List.any_eq_false]
  intro p hp
  rw [List.mem_range] at hp
  rw [decide_eq_true_eq]
  exact h p (by omega)
theorem two_b {i : Nat} (h : i < 6) : (1 : Int) ≤ 2 ^ i ∧ (2 : Int) ^ i ≤ 32 := by
  rcases (by omega : i = 0 ∨ i = 1 ∨ i = 2 ∨ i = 3 ∨ i = 4 ∨ i = 5) with rfl | rfl | rfl | rfl | rfl | rfl <;> decide
set_option maxRecDepth 10000 in
set_option maxHeartbeats 4000000 in
theorem m6_run {M : Mem} {nT tn : Nat} {X : Nat → Tx} {τ τi : Tn} {img : Bool} {tp ss sz : Nat → Int} {cl : Nat → Nat → Int} (hR : RM M (nT, X, τ, img, τi, tn, tp, ss, sz, cl)) (hJ : JNV (nT, X, τ, img, τi, tn, tp, ss, sz, cl)) {n : Int} (h_n : ib n) {what : Int} (h_what : ib what) : Con GM 9 kX6_run [rv 0, iv n, iv what] M (pI (fun a M2 => a = a_run (nT, X, τ, img, τi, tn, tp, ss, sz, cl) n what ∧ RM M2 (nT, X, τ, img, τi, tn, tp, ss, sz, cl))) := by
  refine con_of [some (rv 0), some (iv n), some (iv what), none, none] (plX6) rfl (Nat.le_of_ble_eq_true rfl) (fun z => ?_)
  have hR0 := hR
  obtain ⟨hT, hX, hnT, himg, hIM, ⟨htn, htp⟩, hsh, hwc⟩ := hR0
  have hT : TM M τ := hT
  have hJ0 := hJ
  obtain ⟨⟨⟨iT1, iT6⟩, ⟨hw, icl⟩, iim, ⟨itn, itp⟩, ish⟩, hki⟩ := hJ0
  obtain ⟨⟨wn, wn2⟩, wcl, ⟨wl, wl2⟩, -, -⟩ := id hw
  have hcl : τ 8 1 < 2147483648 := by omega
  refine r_mb (fun hMB => ?_)
  refine r_iload_2 dX6_run_0 (r_bipush dX6_run_1 (by decide) ?_)
  refine r_irem dX6_run_3 (by omega) (by omega) (by omega) ?_
  obtain ⟨o, ho⟩ : ∃ o, what.tmod 10 = o := ⟨_, rfl⟩
  have hob1 := Int.lt_tmod_of_pos what (show (0 : Int) < 10 by decide)
  have hob2 := Int.tmod_lt_of_pos what (show (0 : Int) < 10 by decide)
  have hob3 : 0 ≤ what → o = what % 10 := fun h => ho.symm.trans (Int.tmod_eq_emod_of_nonneg h)
  rw [ho] at hob1 hob2 ⊢
  refine r_istore_3 dX6_run_4 rfl ?_
  have jn_46 : ∀ (hg : (0 ≤ n ∧ n ≤ 60) ∧ ((0 ≤ what ∧ what ≤ 2) ∨ ((10 ≤ what ∧ what ≤ 39) ∧ 0 ≤ o ∧ o < τ 8 0))), WP kX6_run GM 9 (pI (fun a M2 => a = a_run (nT, X, τ, img, τi, tn, tp, ss, sz, cl) n what ∧ RM M2 (nT, X, τ, img, τi, tn, tp, ss, sz, cl))) z 46 [some (rv 0), some (iv n), some (iv what), some (iv o), none] [] M := by
    intro hg
    have hwh : 0 ≤ what := by omega
    have how := hob3 hwh
    have htd : what.tdiv 10 = what / 10 := Int.tdiv_eq_ediv_of_nonneg hwh
    obtain ⟨N, rfl⟩ : ∃ N : Nat, n = N := ⟨n.toNat, by omega⟩
    have hck := sRun_clk X τ N
    have wN := sRun_wf (X := X) hw N
    refine r_aload_0 dX6_run_46 ?_
    refine r_cVV0 dX6_run_47 vX6_199 (rfl) (m_keeps hT) (by decide) (Nat.le_of_ble_eq_true rfl) (fun M_47 h_47 => ?_)
    obtain ⟨hk_47, fk_47⟩ := h_47
    have th0 : TH M τ M_47 τ := TH.beg hT hk_47 fk_47
    refine r_aload_0 dX6_run_50 (r_iload_1 dX6_run_51 ?_)
    refine r_cVV1 dX6_run_52 vX6_202 (rfl) (m_goes (n := N) th0.1 hw (hX.K th0.2.2) (by omega)) (by decide) (Nat.le_of_ble_eq_true rfl) (fun M_52 h_52 => ?_)
    obtain ⟨w1, f1⟩ := h_52
    have th1 := th0.go w1 f1
    have jn_131 : ∀ (v : Int) (hv : v = a_run (nT, X, τ, img, τi, tn, tp, ss, sz, cl) (N : Int) what), WP kX6_run GM 9 (pI (fun a M2 => a = a_run (nT, X, τ, img, τi, tn, tp, ss, sz, cl) (N : Int) what ∧ RM M2 (nT, X, τ, img, τi, tn, tp, ss, sz, cl))) z 131 [some (rv 0), some (iv (N : Int)), some (iv what), some (iv o), some (iv v)] [] M_52 := by
      intro v hv
      refine r_aload_0 dX6_run_131 ?_
      refine r_cVV0 dX6_run_132 vX6_208 (rfl) (m_lays th1.1 th1.2.1 (SK8.run N).1 (SK8.run N).2) (by decide) (Nat.le_of_ble_eq_true rfl) (fun M_132 h_132 => ?_)
      obtain ⟨w2, f2⟩ := h_132
      have th2 := th1.laid w2 f2
      refine r_iload_4 dX6_run_135 ?_
      refine r_ireturn dX6_run_137 rfl ?_
      exact ⟨_, rfl, hv, hR.now th2.1 th2.2.2.kW⟩
    refine r_iconst dX6_run_55 (r_istore_4 dX6_run_56 rfl (r_iload_2 dX6_run_58 (r_bipush dX6_run_59 (by decide) ?_)))
    refine r_idiv dX6_run_61 (by omega) (by omega) (by omega) (by omega) ?_
    rw [htd]
    refine r_lsw1 (t0 := 80) (td := 114) dX6_run_62 (by decide) (by omega) (by decide) (by decide) (fun c_62 => ?_) (fun c_62_0 => ?_)
    · skip
      skip
      refine r_iload_2 dX6_run_80 ?_
      refine r_if_ne dX6_run_81 (by omega) (fun c_81 => ?_) (fun c_81 => ?_)
      · skip
        refine r_iload_2 dX6_run_92 (r_iconst dX6_run_93 ?_)
        refine r_icmp_ne dX6_run_94 (by omega) (by omega) (fun c_94 => ?_) (fun c_94 => ?_)
        · skip
          refine r_aload_0 dX6_run_105 ?_
          refine r_cVI0 dX6_run_106 vX6_205 (rfl) (m_behind th1.1 wN) (by decide) (Nat.le_of_ble_eq_true rfl) (fun b_106 M_106 h_106 => ?_)
          obtain ⟨rfl, rfl⟩ := h_106
          refine r_istore_4 dX6_run_109 rfl (r_goto dX6_run_111 ?_)
          exact jn_131 _ (by unfold a_run; simp only [Int.toNat_natCast]; rw [if_neg (by omega)]; (repeat (first | rw [if_pos (by omega)] | rw [if_neg (by omega)])))
        · skip
          refine r_aload_0 dX6_run_97 (r_iconst dX6_run_98 ?_)
          refine r_cVI1 dX6_run_99 vX6_82 (rfl) (m_having (n := 0) (j := 1) th1.1 wN (by decide)) (by decide) (Nat.le_of_ble_eq_true rfl) (fun b_99 M_99 h_99 => ?_)
          obtain ⟨rfl, rfl⟩ := h_99
          refine r_goto dX6_run_102 (r_istore_4 dX6_run_109 rfl (r_goto dX6_run_111 ?_))
          exact jn_131 _ (by unfold a_run; simp only [Int.toNat_natCast]; rw [if_neg (by omega)]; (repeat (first | rw [if_pos (by omega)] | rw [if_neg (by omega)])); rfl)
      · skip
        refine r_aload_0 dX6_run_84 (r_iconst dX6_run_85 ?_)
        refine r_cVI1 dX6_run_86 vX6_82 (rfl) (m_having (n := 0) (j := 2) th1.1 wN (by decide)) (by decide) (Nat.le_of_ble_eq_true rfl) (fun b_86 M_86 h_86 => ?_)
        obtain ⟨rfl, rfl⟩ := h_86
        refine r_goto dX6_run_89 (r_istore_4 dX6_run_109 rfl (r_goto dX6_run_111 ?_))
        exact jn_131 _ (by unfold a_run; simp only [Int.toNat_natCast]; rw [if_neg (by omega)]; (repeat (first | rw [if_pos (by omega)] | rw [if_neg (by omega)])); rfl)
    · skip
      obtain ⟨q, rfl⟩ : ∃ q : Nat, o = q := ⟨o.toNat, by omega⟩
      obtain ⟨j, hj⟩ : ∃ j : Nat, what / 10 = j + 1 := ⟨(what / 10 - 1).toNat, by omega⟩
      have hj3 : j < 3 := by omega
      have hq6 : q < 6 := by omega
      have hqn : (what % 10).toNat = q := by omega
      refine r_aload_0 dX6_run_114 (r_getR dX6_run_115 fX6_16 (rfl) (rfl) (r_iconst dX6_run_118 (r_iload_3 dX6_run_119 (r_imul dX6_run_120 (r_iload_2 dX6_run_121 (r_bipush dX6_run_122 (by decide) ?_))))))
      refine r_idiv dX6_run_124 (by omega) (by omega) (by omega) (by omega) ?_
      rw [htd]
      refine r_iadd dX6_run_125 (r_iconst dX6_run_126 (r_isub dX6_run_127 (r_ialX dX6_run_128 (rfl) (th1.1.1 q hq6 j hj3) (by omega) (by omega) (by omega) (r_istore_4 dX6_run_129 rfl ?_))))
      exact jn_131 _ (by unfold a_run; simp only [Int.toNat_natCast]; rw [if_neg (by omega), if_neg (by omega), if_neg (by omega), if_neg (by omega), hqn]; rcases (by omega : j = 0 ∨ j = 1 ∨ j = 2) with rfl | rfl | rfl <;> (repeat (first | rw [if_pos (by omega)] | rw [if_neg (by omega)])))
  refine r_iload_1 dX6_run_5 (r_iconst dX6_run_6 (r_bipush dX6_run_7 (by decide) ?_))
  refine r_cSI3 dX6_run_9 sX6_75 (m_in (d := 0) (by omega) (by omega) (by omega)) (by decide) (Nat.le_of_ble_eq_true rfl) (fun b_9 M_9 h_9 => ?_)
  obtain ⟨rfl, rfl⟩ := h_9
  first | refine r_ifd_eq dX6_run_12 (fun c_12 => ?_) (fun c_12 => ?_) | refine r_ifb_eq dX6_run_12 (fun c_12 => ?_) (fun c_12 => ?_)
  · skip
    refine r_bipush dX6_run_43 (by decide) ?_
    refine r_ireturn dX6_run_45 rfl ?_
    refine ⟨_, rfl, ?_, hR⟩
    unfold a_run
    simp only []
    rw [if_pos (by omega)]
  · skip
    refine r_iload_2 dX6_run_15 (r_iconst dX6_run_16 (r_iconst dX6_run_17 ?_))
    refine r_cSI3 dX6_run_18 sX6_75 (m_in (d := 0) (by omega) (by omega) (by omega)) (by decide) (Nat.le_of_ble_eq_true rfl) (fun b_18 M_18 h_18 => ?_)
    obtain ⟨rfl, rfl⟩ := h_18
    first | refine r_ifd_ne dX6_run_21 (fun c_21 => ?_) (fun c_21 => ?_) | refine r_ifb_ne dX6_run_21 (fun c_21 => ?_) (fun c_21 => ?_)
    · skip
      exact jn_46 (by omega)
    · skip
      refine r_iload_2 dX6_run_24 (r_bipush dX6_run_25 (by decide) (r_bipush dX6_run_27 (by decide) ?_))
      refine r_cSI3 dX6_run_29 sX6_75 (m_in (d := 0) (by omega) (by omega) (by omega)) (by decide) (Nat.le_of_ble_eq_true rfl) (fun b_29 M_29 h_29 => ?_)
      obtain ⟨rfl, rfl⟩ := h_29
      first | refine r_ifd_eq dX6_run_32 (fun c_32 => ?_) (fun c_32 => ?_) | refine r_ifb_eq dX6_run_32 (fun c_32 => ?_) (fun c_32 => ?_)
      · skip
        refine r_bipush dX6_run_43 (by decide) ?_
        refine r_ireturn dX6_run_45 rfl ?_
        refine ⟨_, rfl, ?_, hR⟩
        unfold a_run
        simp only []
        rw [if_pos (by omega)]
      · skip
        refine r_aload_0 dX6_run_35 (r_iload_3 dX6_run_36 ?_)
        refine r_cVI1 dX6_run_37 vX6_99 (rfl) (m_isOne (d := 0) hT hw (by omega)) (by decide) (Nat.le_of_ble_eq_true rfl) (fun b_37 M_37 h_37 => ?_)
        obtain ⟨rfl, rfl⟩ := h_37
        first | refine r_ifd_ne dX6_run_40 (fun c_40 => ?_) (fun c_40 => ?_) | refine r_ifb_ne dX6_run_40 (fun c_40 => ?_) (fun c_40 => ?_)
        · skip
          exact jn_46 (by omega)
        · skip
          refine r_bipush dX6_run_43 (by decide) ?_
          refine r_ireturn dX6_run_45 rfl ?_
          refine ⟨_, rfl, ?_, hR⟩
          unfold a_run
          simp only []
          rw [if_pos (by omega)]
set_option maxRecDepth 10000 in
set_option maxHeartbeats 4000000 in
theorem m_alone {M : Mem} {nT : Nat} {τ : Tn} (hT : TM M τ) (hw : WF nT τ) : Con GM 1 kX6_isAnyAlone [rv 0] M (pI (fun a M2 => M = M2 ∧ a = bi (sAlo τ))) := by
  refine con_of [some (rv 0), none] (plX6) rfl (Nat.le_of_ble_eq_true rfl) (fun z => ?_)
  have h0 := hw.1
  refine r_iconst dX6_isAnyAlone_0 (r_istore_1 dX6_isAnyAlone_1 rfl ?_)
  have lp_2 : ∀ (NN : Nat) (i : Nat) (hi : (i : Int) ≤ τ 8 0) (hn : ∀ k : Nat, k < i → ¬ sAt τ (τ 3 k) = 2 ^ k), 8 - i < NN → WP kX6_isAnyAlone GM 1 (pI (fun a M2 => M = M2 ∧ a = bi (sAlo τ))) z 2 [some (rv 0), some (iv (i : Int))] [] M := by
    intro NN
    induction NN with
    | zero => intros; omega
    | succ NN ih =>
      intro i hi hn hm
      refine r_iload_1 dX6_isAnyAlone_2 ?_
      refine r_aload_0 dX6_isAnyAlone_3 (r_getE dX6_isAnyAlone_4 fX6_72 (rfl) (rfl) (hT.people) ?_)
      refine r_icmp_ge dX6_isAnyAlone_7 (by omega) (by omega) (fun c_7 => ?_) (fun c_7 => ?_)
      · skip
        skip
        refine r_iconst dX6_isAnyAlone_36 ?_
        refine r_zreturn dX6_isAnyAlone_37 rfl (by first | exact bi_01 _ | omega | decide) ?_
        exact ⟨_, rfl, rfl, by rw [sAlo_f (fun k hk => hn k (by omega))]; rfl⟩
      · skip
        have hi6 : i < 6 := by omega
        have wp := hw.p hi6
        have sb := sAt_b (d := τ 3 i) hw
        have tb2 := two_b hi6
        refine r_aload_0 dX6_isAnyAlone_10 (r_aload_0 dX6_isAnyAlone_11 (r_getR dX6_isAnyAlone_12 fX6_16 (rfl) (rfl) (r_iconst dX6_isAnyAlone_15 (r_iload_1 dX6_isAnyAlone_16 (r_imul dX6_isAnyAlone_17 (r_ialX dX6_isAnyAlone_18 (rfl) (hT.e3 hi6) (by omega) (by omega) (by omega) ?_))))))
        refine r_cVI1 dX6_isAnyAlone_19 vX6_102 (rfl) (m_at (n := 0) hT hw (by omega)) (by decide) (Nat.le_of_ble_eq_true rfl) (fun b_19 M_19 h_19 => ?_)
        obtain ⟨rfl, rfl⟩ := h_19
        refine r_iconst dX6_isAnyAlone_22 (r_iload_1 dX6_isAnyAlone_23 ?_)
        refine r_ishl (r := 2 ^ i) dX6_isAnyAlone_24 (shl_bit hi6) ?_
        refine r_icmp_ne dX6_isAnyAlone_25 (by omega) (by omega) (fun c_25 => ?_) (fun c_25 => ?_)
        · skip
          refine r_iinc_1 dX6_isAnyAlone_30 rfl (r_goto dX6_isAnyAlone_33 ?_)
          exact ih (i + 1) (by omega) (fun k hk => by
            by_cases e : k = i
            · rw [e]; exact c_25
            · exact hn k (by omega)) (by omega)
        · skip
          refine r_iconst dX6_isAnyAlone_28 ?_
          refine r_zreturn dX6_isAnyAlone_29 rfl (by first | exact bi_01 _ | omega | decide) ?_
          exact ⟨_, rfl, rfl, by rw [sAlo_t (by omega) (by first | exact c_25 | omega)]; rfl⟩
  exact lp_2 _ 0 (by omega) (fun k hk => absurd hk (Nat.not_lt_zero _)) (Nat.lt_succ_self _)
set_option maxRecDepth 10000 in
set_option maxHeartbeats 4000000 in
theorem m6_when {M : Mem} {nT tn : Nat} {X : Nat → Tx} {τ τi : Tn} {img : Bool} {tp ss sz : Nat → Int} {cl : Nat → Nat → Int} (hR : RM M (nT, X, τ, img, τi, tn, tp, ss, sz, cl)) (hJ : JNV (nT, X, τ, img, τi, tn, tp, ss, sz, cl)) {what : Int} (h_what : ib what) : Con GM 9 kX6_when [rv 0, iv what] M (pI (fun a M2 => a = a_when (nT, X, τ, img, τi, tn, tp, ss, sz, cl) what ∧ RM M2 (nT, X, τ, img, τi, tn, tp, ss, sz, cl))) := by
  refine con_of [some (rv 0), some (iv what), none, none, none] (plX6) rfl (Nat.le_of_ble_eq_true rfl) (fun z => ?_)
  have hR0 := hR
  obtain ⟨hT, hX, hnT, himg, hIM, ⟨htn, htp⟩, hsh, hwc⟩ := hR0
  have hT : TM M τ := hT
  have hJ0 := hJ
  obtain ⟨⟨⟨iT1, iT6⟩, ⟨hw, icl⟩, iim, ⟨itn, itp⟩, ish⟩, hki⟩ := hJ0
  obtain ⟨⟨wn, wn2⟩, wcl, ⟨wl, wl2⟩, -, -⟩ := id hw
  have hcl : τ 8 1 < 2147483648 := by omega
  refine r_mb (fun hMB => ?_)
  refine r_iload_1 dX6_when_0 (r_iconst dX6_when_1 (r_bipush dX6_when_2 (by decide) ?_))
  refine r_cSI3 dX6_when_4 sX6_75 (m_in (d := 0) (by omega) (by omega) (by omega)) (by decide) (Nat.le_of_ble_eq_true rfl) (fun b_4 M_4 h_4 => ?_)
  obtain ⟨rfl, rfl⟩ := h_4
  first | refine r_ifd_ne dX6_when_7 (fun c_7 => ?_) (fun c_7 => ?_) | refine r_ifb_ne dX6_when_7 (fun c_7 => ?_) (fun c_7 => ?_)
  · skip
    obtain ⟨w, rfl⟩ : ∃ w : Nat, what = w := ⟨what.toNat, by omega⟩
    refine r_iconst dX6_when_13 (r_istore_2 dX6_when_14 rfl (r_aload_0 dX6_when_15 ?_))
    refine r_cVV0 dX6_when_16 vX6_199 (rfl) (m_keeps hT) (by decide) (Nat.le_of_ble_eq_true rfl) (fun M_16 h_16 => ?_)
    obtain ⟨hk_16, fk_16⟩ := h_16
    have th0 : TH M τ M_16 τ := TH.beg hT hk_16 fk_16
    refine r_iconst dX6_when_19 (r_istore_3 dX6_when_20 rfl ?_)
    have lp_21 : ∀ (NN : Nat) (i : Nat) (f : Int) (Mv : Mem) (o4 : Option PV) (hi : i ≤ 61) (hf : (f = -1 ∧ sWhen X τ w 61 0 = sWhen X τ w (61 - i) i) ∨ ((0 ≤ f ∧ f ≤ 60) ∧ f = sWhen X τ w 61 0)) (th : TH M τ Mv (sRun X τ i)), 61 - i < NN → WP kX6_when GM 9 (pI (fun a M2 => a = a_when (nT, X, τ, img, τi, tn, tp, ss, sz, cl) (w : Int) ∧ RM M2 (nT, X, τ, img, τi, tn, tp, ss, sz, cl))) z 21 [some (rv 0), some (iv (w : Int)), some (iv f), some (iv (i : Int)), o4] [] Mv := by
      intro NN
      induction NN with
      | zero => intros; omega
      | succ NN ih =>
        intro i f Mv o4 hi hf th hm
        have hck := sRun_clk X τ i
        have wi := sRun_wf (X := X) hw i
        refine r_iload_3 dX6_when_21 ?_
        refine r_bipush dX6_when_22 (by decide) ?_
        refine r_icmp_gt dX6_when_24 (by omega) (by omega) (fun c_24 => ?_) (fun c_24 => ?_)
        · skip
          obtain rfl : i = 61 := by omega
          have hff : f = sWhen X τ w 61 0 := by
            rcases hf with h | h
            · rw [h.1, h.2]; rfl
            · exact h.2
          refine r_aload_0 dX6_when_120 ?_
          refine r_cVV0 dX6_when_121 vX6_208 (rfl) (m_lays th.1 th.2.1 (SK8.run _).1 (SK8.run _).2) (by decide) (Nat.le_of_ble_eq_true rfl) (fun M_121 h_121 => ?_)
          obtain ⟨w2, f2⟩ := h_121
          have th2 := th.laid w2 f2
          refine r_iload_2 dX6_when_124 ?_
          refine r_ireturn dX6_when_125 rfl ?_
          refine ⟨_, rfl, ?_, hR.now th2.1 th2.2.2.kW⟩
          unfold a_when
          simp only [Int.toNat_natCast]
          rw [if_pos (by omega)]
          exact hff
        · skip
          refine r_iload_2 dX6_when_27 (r_iconst dX6_when_28 ?_)
          refine r_icmp_ne dX6_when_29 (by omega) (by omega) (fun c_29 => ?_) (fun c_29 => ?_)
          · skip
            have hff : f = sWhen X τ w 61 0 := by omega
            refine r_aload_0 dX6_when_120 ?_
            refine r_cVV0 dX6_when_121 vX6_208 (rfl) (m_lays th.1 th.2.1 (SK8.run _).1 (SK8.run _).2) (by decide) (Nat.le_of_ble_eq_true rfl) (fun M_121 h_121 => ?_)
            obtain ⟨w2, f2⟩ := h_121
            have th2 := th.laid w2 f2
            refine r_iload_2 dX6_when_124 ?_
            refine r_ireturn dX6_when_125 rfl ?_
            refine ⟨_, rfl, ?_, hR.now th2.1 th2.2.2.kW⟩
            unfold a_when
            simp only [Int.toNat_natCast]
            rw [if_pos (by omega)]
            exact hff
          · skip
            have hf := hf.resolve_right (by omega)
            have hst : sWhen X τ w (61 - i) i = if sSo (sRun X τ i) w = true then (i : Int) else sWhen X τ w (61 - (i + 1)) (i + 1) := by
              rw [show 61 - i = (61 - (i + 1)) + 1 by omega]
              rfl
            have jn_96 : ∀ (b : Bool) (hb : b = sSo (sRun X τ i) w), WP kX6_when GM 9 (pI (fun a M2 => a = a_when (nT, X, τ, img, τi, tn, tp, ss, sz, cl) (w : Int) ∧ RM M2 (nT, X, τ, img, τi, tn, tp, ss, sz, cl))) z 96 [some (rv 0), some (iv (w : Int)), some (iv f), some (iv (i : Int)), o4] [iv (bi b)] Mv := by
              intro b hb
              rw [← hb] at hst
              refine r_istore_4 dX6_when_96 rfl ?_
              refine r_iload_4 dX6_when_98 ?_
              refine r_ifb_eq dX6_when_100 (fun c_100 => ?_) (fun c_100 => ?_)
              · skip
                refine r_iconst dX6_when_107 (r_istore_2 dX6_when_108 rfl (r_aload_0 dX6_when_109 ?_))
                refine r_cVI0 dX6_when_110 vX6_196 (rfl) (m_minuteOf th.1 wi (hX.K th.2.2) (by omega)) (by decide) (Nat.le_of_ble_eq_true rfl) (fun b_110 M_110 h_110 => ?_)
                obtain ⟨rfl, w1, f1⟩ := h_110
                have th1 : TH M τ M_110 (sRun X τ (i + 1)) := th.go w1 f1
                refine r_pop_i dX6_when_113 (r_iinc_3 dX6_when_114 rfl (r_goto dX6_when_117 ?_))
                exact ih (i + 1) _ _ _ (by omega) (Or.inl ⟨rfl, by rw [hf.2, hst, if_neg (by rw [c_100]; decide)]⟩) th1 (by omega)
              · skip
                refine r_iload_3 dX6_when_103 (r_goto dX6_when_104 (r_istore_2 dX6_when_108 rfl (r_aload_0 dX6_when_109 ?_)))
                refine r_cVI0 dX6_when_110 vX6_196 (rfl) (m_minuteOf th.1 wi (hX.K th.2.2) (by omega)) (by decide) (Nat.le_of_ble_eq_true rfl) (fun b_110 M_110 h_110 => ?_)
                obtain ⟨rfl, w1, f1⟩ := h_110
                have th1 : TH M τ M_110 (sRun X τ (i + 1)) := th.go w1 f1
                refine r_pop_i dX6_when_113 (r_iinc_3 dX6_when_114 rfl (r_goto dX6_when_117 ?_))
                exact ih (i + 1) _ _ _ (by omega) (Or.inr ⟨by omega, by rw [hf.2, hst, if_pos c_100]⟩) th1 (by omega)
            refine r_iload_1 dX6_when_32 (r_bipush dX6_when_33 (by decide) ?_)
            refine r_icmp_ne dX6_when_35 (by omega) (by omega) (fun c_35 => ?_) (fun c_35 => ?_)
            · skip
              refine r_iload_1 dX6_when_53 (r_bipush dX6_when_54 (by decide) ?_)
              refine r_icmp_ne dX6_when_56 (by omega) (by omega) (fun c_56 => ?_) (fun c_56 => ?_)
              · skip
                refine r_aload_0 dX6_when_78 (r_iconst dX6_when_79 ?_)
                refine r_cVI1 dX6_when_80 vX6_82 (rfl) (m_having (n := 0) (j := 2) th.1 wi (by decide)) (by decide) (Nat.le_of_ble_eq_true rfl) (fun b_80 M_80 h_80 => ?_)
                obtain ⟨rfl, rfl⟩ := h_80
                have sb := bt_b (fun d => decide (sRun X τ i 2 d ≠ -1)) 8
                have sb2 : (2 : Int) ^ 8 = 256 := by decide
                have hq := bit_and (m := bt (fun d => decide (sRun X τ i 2 d ≠ -1)) 8) (w := w) (by omega) (by omega)
                refine r_iload_1 dX6_when_83 ?_
                refine r_ishr (r := bt (fun d => decide (sRun X τ i 2 d ≠ -1)) 8 / 2 ^ w) dX6_when_84 (hq.1) ?_
                refine r_iconst dX6_when_85 ?_
                refine r_iand (r := bt (fun d => decide (sRun X τ i 2 d ≠ -1)) 8 / 2 ^ w % 2) dX6_when_86 (hq.2) ?_
                refine r_iconst dX6_when_87 ?_
                refine r_icmp_ne dX6_when_88 (by have := Int.emod_nonneg (bt (fun d => decide (sRun X τ i 2 d ≠ -1)) 8 / 2 ^ w) (show (2 : Int) ≠ 0 by decide); have := Int.emod_lt_of_pos (bt (fun d => decide (sRun X τ i 2 d ≠ -1)) 8 / 2 ^ w) (show (0 : Int) < 2 by decide); omega) (by omega) (fun c_88 => ?_) (fun c_88 => ?_)
                · skip
                  refine r_iconst dX6_when_95 ?_
                  exact jn_96 false (by unfold sSo; rw [if_neg (by omega), if_neg (by omega)]; exact (decide_eq_false c_88).symm)
                · skip
                  refine r_iconst dX6_when_91 (r_goto dX6_when_92 ?_)
                  exact jn_96 true (by unfold sSo; rw [if_neg (by omega), if_neg (by omega)]; exact (decide_eq_true (by first | exact c_88 | exact Decidable.of_not_not c_88)).symm)
              · skip
                refine r_aload_0 dX6_when_59 (r_iconst dX6_when_60 ?_)
                refine r_cVI1 dX6_when_61 vX6_82 (rfl) (m_having (n := 0) (j := 2) th.1 wi (by decide)) (by decide) (Nat.le_of_ble_eq_true rfl) (fun b_61 M_61 h_61 => ?_)
                obtain ⟨rfl, rfl⟩ := h_61
                have sb := bt_b (fun d => decide (sRun X τ i 2 d ≠ -1)) 8
                have sb2 : (2 : Int) ^ 8 = 256 := by decide
                refine r_sipush dX6_when_64 (by decide) ?_
                refine r_icmp_ne dX6_when_67 (by omega) (by omega) (fun c_67 => ?_) (fun c_67 => ?_)
                · skip
                  refine r_iconst dX6_when_74 (r_goto dX6_when_75 ?_)
                  exact jn_96 false (by unfold sSo; rw [if_pos (by omega)]; exact (decide_eq_false c_67).symm)
                · skip
                  refine r_iconst dX6_when_70 (r_goto dX6_when_71 ?_)
                  exact jn_96 true (by unfold sSo; rw [if_pos (by omega)]; exact (decide_eq_true (by first | exact c_67 | exact Decidable.of_not_not c_67)).symm)
            · skip
              refine r_aload_0 dX6_when_38 ?_
              refine r_cVI0 dX6_when_39 vX6_211 (rfl) (m_alone th.1 wi) (by decide) (Nat.le_of_ble_eq_true rfl) (fun b_39 M_39 h_39 => ?_)
              obtain ⟨rfl, rfl⟩ := h_39
              refine r_ifb_ne dX6_when_42 (fun c_42 => ?_) (fun c_42 => ?_)
              · skip
                refine r_iconst dX6_when_49 (r_goto dX6_when_50 ?_)
                exact jn_96 false (by unfold sSo; rw [if_neg (by omega), if_pos (by omega), c_42]; rfl)
              · skip
                refine r_iconst dX6_when_45 (r_goto dX6_when_46 ?_)
                exact jn_96 true (by unfold sSo; rw [if_neg (by omega), if_pos (by omega), c_42]; rfl)
    exact lp_21 _ 0 (-1) M_16 none (by omega) (Or.inl ⟨rfl, rfl⟩) th0 (Nat.lt_succ_self _)
  · skip
    refine r_bipush dX6_when_10 (by decide) ?_
    refine r_ireturn dX6_when_12 rfl ?_
    refine ⟨_, rfl, ?_, hR⟩
    unfold a_when
    simp only []
    rw [if_neg (by omega)]
set_option maxRecDepth 10000 in
set_option maxHeartbeats 4000000 in
theorem m6_waits {M : Mem} {nT tn : Nat} {X : Nat → Tx} {τ τi : Tn} {img : Bool} {tp ss sz : Nat → Int} {cl : Nat → Nat → Int} (hR : RM M (nT, X, τ, img, τi, tn, tp, ss, sz, cl)) (hJ : JNV (nT, X, τ, img, τi, tn, tp, ss, sz, cl)) {p : Int} (h_p : ib p) : Con GM 9 kX6_waits [rv 0, iv p] M (pI (fun a M2 => a = a_waits (nT, X, τ, img, τi, tn, tp, ss, sz, cl) p ∧ RM M2 (nT, X, τ, img, τi, tn, tp, ss, sz, cl))) := by
  refine con_of [some (rv 0), some (iv p), none, none] (plX6) rfl (Nat.le_of_ble_eq_true rfl) (fun z => ?_)
  have hR0 := hR
  obtain ⟨hT, hX, hnT, himg, hIM, ⟨htn, htp⟩, hsh, hwc⟩ := hR0
  have hT : TM M τ := hT
  have hJ0 := hJ
  obtain ⟨⟨⟨iT1, iT6⟩, ⟨hw, icl⟩, iim, ⟨itn, itp⟩, ish⟩, hki⟩ := hJ0
  obtain ⟨⟨wn, wn2⟩, wcl, ⟨wl, wl2⟩, -, -⟩ := id hw
  have hcl : τ 8 1 < 2147483648 := by omega
  refine r_mb (fun hMB => ?_)
  refine r_aload_0 dX6_waits_0 (r_iload_1 dX6_waits_1 ?_)
  refine r_cVI1 dX6_waits_2 vX6_99 (rfl) (m_isOne (d := 0) hT hw (by omega)) (by decide) (Nat.le_of_ble_eq_true rfl) (fun b_2 M_2 h_2 => ?_)
  obtain ⟨rfl, rfl⟩ := h_2
  first | refine r_ifd_ne dX6_waits_5 (fun c_5 => ?_) (fun c_5 => ?_) | refine r_ifb_ne dX6_waits_5 (fun c_5 => ?_) (fun c_5 => ?_)
  · skip
    obtain ⟨q, rfl⟩ : ∃ q : Nat, p = q := ⟨p.toNat, by omega⟩
    have hq6 : q < 6 := by omega
    have wq := hw.p hq6
    have hqn : (q : Int) < τ 8 0 := by omega
    refine r_iconst dX6_waits_11 (r_istore_2 dX6_waits_12 rfl (r_aload_0 dX6_waits_13 ?_))
    refine r_cVV0 dX6_waits_14 vX6_199 (rfl) (m_keeps hT) (by decide) (Nat.le_of_ble_eq_true rfl) (fun M_14 h_14 => ?_)
    obtain ⟨hk_14, fk_14⟩ := h_14
    have th0 : TH M τ M_14 τ := TH.beg hT hk_14 fk_14
    refine r_iconst dX6_waits_17 (r_istore_3 dX6_waits_18 rfl ?_)
    have lp_19 : ∀ (NN : Nat) (i : Nat) (f : Int) (Mv : Mem) (hi : i ≤ 60) (hf : (f = -1 ∧ sWait X τ q 60 0 = sWait X τ q (60 - i) i) ∨ ((0 ≤ f ∧ f ≤ 60) ∧ f = sWait X τ q 60 0)) (th : TH M τ Mv (sRun X τ i)), 60 - i < NN → WP kX6_waits GM 9 (pI (fun a M2 => a = a_waits (nT, X, τ, img, τi, tn, tp, ss, sz, cl) (q : Int) ∧ RM M2 (nT, X, τ, img, τi, tn, tp, ss, sz, cl))) z 19 [some (rv 0), some (iv (q : Int)), some (iv f), some (iv ((i : Int) + 1))] [] Mv := by
      intro NN
      induction NN with
      | zero => intros; omega
      | succ NN ih =>
        intro i f Mv hi hf th hm
        have hck := sRun_clk X τ i
        have wi := sRun_wf (X := X) hw i
        refine r_iload_3 dX6_waits_19 ?_
        refine r_bipush dX6_waits_20 (by decide) ?_
        refine r_icmp_gt dX6_waits_22 (by omega) (by omega) (fun c_22 => ?_) (fun c_22 => ?_)
        · skip
          obtain rfl : i = 60 := by omega
          have hff : f = sWait X τ q 60 0 := by
            rcases hf with h | h
            · rw [h.1, h.2]; rfl
            · exact h.2
          refine r_aload_0 dX6_waits_54 ?_
          refine r_cVV0 dX6_waits_55 vX6_208 (rfl) (m_lays th.1 th.2.1 (SK8.run _).1 (SK8.run _).2) (by decide) (Nat.le_of_ble_eq_true rfl) (fun M_55 h_55 => ?_)
          obtain ⟨w2, f2⟩ := h_55
          have th2 := th.laid w2 f2
          refine r_iload_2 dX6_waits_58 ?_
          refine r_ireturn dX6_waits_59 rfl ?_
          refine ⟨_, rfl, ?_, hR.now th2.1 th2.2.2.kW⟩
          unfold a_waits
          simp only [Int.toNat_natCast]
          rw [if_pos (by omega)]
          exact hff
        · skip
          refine r_iload_2 dX6_waits_25 (r_iconst dX6_waits_26 ?_)
          refine r_icmp_ne dX6_waits_27 (by omega) (by omega) (fun c_27 => ?_) (fun c_27 => ?_)
          · skip
            have hff : f = sWait X τ q 60 0 := by omega
            refine r_aload_0 dX6_waits_54 ?_
            refine r_cVV0 dX6_waits_55 vX6_208 (rfl) (m_lays th.1 th.2.1 (SK8.run _).1 (SK8.run _).2) (by decide) (Nat.le_of_ble_eq_true rfl) (fun M_55 h_55 => ?_)
            obtain ⟨w2, f2⟩ := h_55
            have th2 := th.laid w2 f2
            refine r_iload_2 dX6_waits_58 ?_
            refine r_ireturn dX6_waits_59 rfl ?_
            refine ⟨_, rfl, ?_, hR.now th2.1 th2.2.2.kW⟩
            unfold a_waits
            simp only [Int.toNat_natCast]
            rw [if_pos (by omega)]
            exact hff
          · skip
            have hf := hf.resolve_right (by omega)
            have hst : sWait X τ q (60 - i) i = if sBit (sMin X (sRun X τ i)).1 q = true then (i : Int) + 1 else sWait X τ q (60 - (i + 1)) (i + 1) := by
              rw [show 60 - i = (60 - (i + 1)) + 1 by omega]
              rfl
            refine r_aload_0 dX6_waits_30 ?_
            refine r_cVI0 dX6_waits_31 vX6_196 (rfl) (m_minuteOf th.1 wi (hX.K th.2.2) (by omega)) (by decide) (Nat.le_of_ble_eq_true rfl) (fun b_31 M_31 h_31 => ?_)
            obtain ⟨rfl, w1, f1⟩ := h_31
            have th1 : TH M τ M_31 (sRun X τ (i + 1)) := th.go w1 f1
            have sb := sMin_b (X := X) wi
            have hq := bit_and (m := (sMin X (sRun X τ i)).1) (w := q) (by omega) (by omega)
            refine r_iload_1 dX6_waits_34 ?_
            refine r_ishr (r := (sMin X (sRun X τ i)).1 / 2 ^ q) dX6_waits_35 (hq.1) ?_
            refine r_iconst dX6_waits_36 ?_
            refine r_iand (r := (sMin X (sRun X τ i)).1 / 2 ^ q % 2) dX6_waits_37 (hq.2) ?_
            refine r_iconst dX6_waits_38 ?_
            refine r_icmp_ne dX6_waits_39 (by have := Int.emod_nonneg ((sMin X (sRun X τ i)).1 / 2 ^ q) (show (2 : Int) ≠ 0 by decide); have := Int.emod_lt_of_pos ((sMin X (sRun X τ i)).1 / 2 ^ q) (show (0 : Int) < 2 by decide); omega) (by omega) (fun c_39 => ?_) (fun c_39 => ?_)
            · skip
              refine r_iconst dX6_waits_46 (r_istore_2 dX6_waits_47 rfl (r_iinc_3 dX6_waits_48 rfl (r_goto dX6_waits_51 ?_)))
              exact ih (i + 1) _ _ (by omega) (Or.inl ⟨rfl, by rw [hf.2, hst, if_neg (by unfold sBit; rw [decide_eq_true_eq]; exact c_39)]⟩) th1 (by omega)
            · skip
              refine r_iload_3 dX6_waits_42 (r_goto dX6_waits_43 (r_istore_2 dX6_waits_47 rfl (r_iinc_3 dX6_waits_48 rfl (r_goto dX6_waits_51 ?_))))
              exact ih (i + 1) _ _ (by omega) (Or.inr ⟨by omega, by rw [hf.2, hst, if_pos (by unfold sBit; rw [decide_eq_true_eq]; first | exact c_39 | exact Decidable.of_not_not c_39)]⟩) th1 (by omega)
    exact lp_19 _ 0 (-1) M_14 (by omega) (Or.inl ⟨rfl, rfl⟩) th0 (Nat.lt_succ_self _)
  · skip
    skip
    refine r_bipush dX6_waits_8 (by decide) ?_
    refine r_ireturn dX6_waits_10 rfl ?_
    refine ⟨_, rfl, ?_, hR⟩
    unfold a_waits
    simp only []
    rw [if_neg (by omega)]

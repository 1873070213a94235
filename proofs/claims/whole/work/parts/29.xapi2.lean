theorem sMin_b (X : Nat → Tx) {nT : Nat} {τ : Tn} (h : WF nT τ) : 0 ≤ (sMin X τ).1 ∧ (sMin X τ).1 < 64 := by
  have h0 := h.1
  have hb := sAll_b X τ (τ 8 0).toNat
  have h2 : (2 : Int) ^ (τ 8 0).toNat ≤ 64 := by
    rcases (by omega : (τ 8 0).toNat = 0 ∨ (τ 8 0).toNat = 1 ∨ (τ 8 0).toNat = 2 ∨ (τ 8 0).toNat = 3 ∨ (τ 8 0).toNat = 4 ∨ (τ 8 0).toNat = 5 ∨ (τ 8 0).toNat = 6) with q | q | q | q | q | q | q <;> rw [q] <;> decide
  show 0 ≤ (sAll X τ (τ 8 0).toNat).1 ∧ (sAll X τ (τ 8 0).toNat).1 < 64
  omega
set_option maxRecDepth 10000 in
set_option maxHeartbeats 4000000 in
theorem x_passT {M : Mem} {n nT : Nat} {τ : Tn} {X : Nat → Tx} (hτ : TW M 16 τ) (hw : WF nT τ) (hX : XT M nT X) (hn : n < 1000) (hcl : τ 8 1 < 1000000) : Con GX 6 kX5_passThought [rv 0, iv (n : Int)] M (pV (fun M2 => TW M2 16 (sRun X τ n) ∧ Fr (scb 16) M M2)) := by
  refine con_of [some (rv 0), some (iv (n : Int)), none] (plX5) rfl (Nat.le_of_ble_eq_true rfl) (fun z => ?_)
  refine r_iconst dX5_passThought_0 (r_istore_2 dX5_passThought_1 rfl ?_)
  have lp_2 : ∀ (NN : Nat) (i : Nat) (Mv : Mem) (hi : i ≤ n) (wv : TW Mv 16 (sRun X τ i)) (fv : Fr (scb 16) M Mv), n - i < NN → WP kX5_passThought GX 6 (pV (fun M2 => TW M2 16 (sRun X τ n) ∧ Fr (scb 16) M M2)) z 2 [some (rv 0), some (iv (n : Int)), some (iv (i : Int))] [] Mv := by
    intro NN
    induction NN with
    | zero => intros; omega
    | succ NN ih =>
      intro i Mv hi wv fv hm
      have hc := sRun_clk X τ i
      refine r_iload_2 dX5_passThought_2 ?_
      refine r_iload_1 dX5_passThought_3 ?_
      refine r_icmp_ge dX5_passThought_4 (by omega) (by omega) (fun c_4 => ?_) (fun c_4 => ?_)
      · skip
        obtain rfl : i = n := by omega
        refine r_vreturn dX5_passThought_21 rfl ?_
        exact ⟨rfl, wv, fv⟩
      · skip
        refine r_aload_0 dX5_passThought_7 (r_getR dX5_passThought_8 fX5_46 (rfl) (rfl) ?_)
        refine r_cVI0 dX5_passThought_11 vX5_167 (rfl) (x_pass (b := 16) tb16 wv (sRun_wf hw i) (hX.scb tb16 fv) (by omega)) (by decide) (Nat.le_of_ble_eq_true rfl) (fun b_11 M_11 h_11 => ?_)
        obtain ⟨rfl, w2, f2⟩ := h_11
        refine r_pop_i dX5_passThought_14 (r_iinc_2 dX5_passThought_15 rfl (r_goto dX5_passThought_18 ?_))
        exact ih (i + 1) M_11 (by omega) w2 (fv.trans f2) (by omega)
  exact lp_2 _ 0 M (by omega) hτ Fr.refl (Nat.lt_succ_self _)
set_option maxRecDepth 10000 in
set_option maxHeartbeats 4000000 in
theorem x5_run {M : Mem} {nT tn : Nat} {X : Nat → Tx} {τ τi : Tn} {img : Bool} {tp ss sz : Nat → Int} {cl : Nat → Nat → Int} (hR : RX M (nT, X, τ, img, τi, tn, tp, ss, sz, cl)) (hI : INV (nT, X, τ, img, τi, tn, tp, ss, sz, cl)) {n : Int} (h_n : ib n) {what : Int} (h_what : ib what) : Con GX 9 kX5_run [rv 0, iv n, iv what] M (pI (fun a M2 => a = a_run (nT, X, τ, img, τi, tn, tp, ss, sz, cl) n what ∧ RX M2 (nT, X, τ, img, τi, tn, tp, ss, sz, cl))) := by
  refine con_of [some (rv 0), some (iv n), some (iv what), none, none, none] (plX5) rfl (Nat.le_of_ble_eq_true rfl) (fun z => ?_)
  have hR0 := hR
  obtain ⟨hτ, hX, hnT, himg, hτi, ⟨htn, htp⟩, hsh⟩ := hR0
  obtain ⟨⟨iT1, iT6⟩, ⟨hw, icl⟩, iim, ⟨itn, itp⟩, ish⟩ := hI
  obtain ⟨⟨wn, wn2⟩, wcl, ⟨wl, wl2⟩, -, -⟩ := id hw
  have hcl : τ 8 1 < 2147483648 := by omega
  refine r_mb (fun hMB => ?_)
  refine r_iload_2 dX5_run_0 (r_iconst dX5_run_1 (r_iconst dX5_run_2 ?_))
  refine r_cSI3 dX5_run_3 sX5_88 (x_within (d := 0) (by omega) (by omega) (by omega)) (by decide) (Nat.le_of_ble_eq_true rfl) (fun b_3 M_3 h_3 => ?_)
  obtain ⟨rfl, rfl⟩ := h_3
  refine r_istore_3 dX5_run_6 rfl (r_iload_2 dX5_run_7 (r_bipush dX5_run_8 (by decide) ?_))
  refine r_cSI2 dX5_run_10 sX5_170 (j_floorMod (d := 0) (by omega) (by omega)) (by decide) (Nat.le_of_ble_eq_true rfl) (fun b_10 M_10 h_10 => ?_)
  obtain ⟨rfl, rfl⟩ := h_10
  refine r_istore_4 dX5_run_13 rfl ?_
  have jn_40 : WP kX5_run GX 9 (pI (fun a M2 => a = a_run (nT, X, τ, img, τi, tn, tp, ss, sz, cl) n what ∧ RX M2 (nT, X, τ, img, τi, tn, tp, ss, sz, cl))) z 40 [some (rv 0), some (iv n), some (iv what), some (iv (bi (decide (0 ≤ what ∧ what ≤ 2)))), some (iv (what % 10)), none] [iv (bi (decide ((10 ≤ what ∧ what ≤ 39) ∧ what % 10 < τ 8 0)))] M := by
    refine r_istore_5 dX5_run_40 rfl ?_
    refine r_iload_1 dX5_run_42 (r_iconst dX5_run_43 (r_bipush dX5_run_44 (by decide) ?_))
    refine r_cSI3 dX5_run_46 sX5_88 (x_within (d := 0) (by omega) (by omega) (by omega)) (by decide) (Nat.le_of_ble_eq_true rfl) (fun b_46 M_46 h_46 => ?_)
    obtain ⟨rfl, rfl⟩ := h_46
    first | refine r_ifd_eq dX5_run_49 (fun c_49 => ?_) (fun c_49 => ?_) | refine r_ifb_eq dX5_run_49 (fun c_49 => ?_) (fun c_49 => ?_)
    · skip
      refine r_bipush dX5_run_61 (by decide) ?_
      refine r_ireturn dX5_run_63 rfl ?_
      refine ⟨_, rfl, ?_, ?_⟩
      · unfold a_run
        simp only [Int.toNat_natCast]
        (repeat' split) <;> first | with_reducible rfl | omega
      · first | exact hR | exact R1
    · skip
      refine r_iload_3 dX5_run_52 ?_
      refine r_ifd_ne dX5_run_53 (fun c_53 => ?_) (fun c_53 => ?_)
      · skip
        refine r_aload_0 dX5_run_64 (r_getR dX5_run_65 fX5_46 (rfl) (rfl) (r_aload_0 dX5_run_68 (r_getR dX5_run_69 fX5_42 (rfl) (rfl) ?_)))
        refine r_cVV1 dX5_run_72 vX5_175 (rfl) (x_become tb16 tb6 (by decide) hτ) (by decide) (Nat.le_of_ble_eq_true rfl) (fun M_72 h_72 => ?_)
        obtain ⟨w0, f0⟩ := h_72
        have x0 := hX.scb tb16 f0
        have R0 := hR.th f0
        have hτ0 := R0.1
        obtain ⟨k, rfl⟩ : ∃ k : Nat, n = k := ⟨n.toNat, by omega⟩
        refine r_aload_0 dX5_run_75 (r_iload_1 dX5_run_76 ?_)
        refine r_cVV1 dX5_run_77 vX5_179 (rfl) (x_passT w0 hw x0 (by omega) (by omega)) (by decide) (Nat.le_of_ble_eq_true rfl) (fun M_77 h_77 => ?_)
        obtain ⟨w1, f1⟩ := h_77
        have R1 := R0.th f1
        have wr := sRun_wf (X := X) hw k
        have r80 := sRun_80 X τ k
        refine r_iload_3 dX5_run_80 ?_
        refine r_ifd_eq dX5_run_81 (fun c_81 => ?_) (fun c_81 => ?_)
        · skip
          refine r_iload_2 dX5_run_121 (r_bipush dX5_run_122 (by decide) ?_)
          refine r_icmp_ge dX5_run_124 (by omega) (by omega) (fun c_124 => ?_) (fun c_124 => ?_)
          · skip
            refine r_iload_2 dX5_run_140 (r_bipush dX5_run_141 (by decide) ?_)
            refine r_icmp_ge dX5_run_143 (by omega) (by omega) (fun c_143 => ?_) (fun c_143 => ?_)
            · skip
              refine r_aload_0 dX5_run_159 (r_getR dX5_run_160 fX5_46 (rfl) (rfl) (r_getR dX5_run_163 fX5_143 (rfl) (rfl) (r_iload_4 dX5_run_166 (r_ialE dX5_run_168 (rfl) (by omega) (by omega) (w1.e5 (i := (what % 10).toNat) (by omega)) ?_))))
              refine r_ireturn dX5_run_169 rfl ?_
              refine ⟨_, rfl, ?_, ?_⟩
              · unfold a_run
                simp only [Int.toNat_natCast]
                (repeat' split) <;> first | with_reducible rfl | omega
              · first | exact hR | exact R1
            · skip
              refine r_aload_0 dX5_run_146 (r_getR dX5_run_147 fX5_46 (rfl) (rfl) (r_getR dX5_run_150 fX5_140 (rfl) (rfl) (r_iload_4 dX5_run_153 (r_ialE dX5_run_155 (rfl) (by omega) (by omega) (w1.e4 (i := (what % 10).toNat) (by omega)) (r_goto dX5_run_156 ?_)))))
              refine r_ireturn dX5_run_169 rfl ?_
              refine ⟨_, rfl, ?_, ?_⟩
              · unfold a_run
                simp only [Int.toNat_natCast]
                (repeat' split) <;> first | with_reducible rfl | omega
              · first | exact hR | exact R1
          · skip
            refine r_aload_0 dX5_run_127 (r_getR dX5_run_128 fX5_46 (rfl) (rfl) (r_getR dX5_run_131 fX5_137 (rfl) (rfl) (r_iload_4 dX5_run_134 (r_ialE dX5_run_136 (rfl) (by omega) (by omega) (w1.e3 (i := (what % 10).toNat) (by omega)) (r_goto dX5_run_137 ?_)))))
            refine r_ireturn dX5_run_169 rfl ?_
            refine ⟨_, rfl, ?_, ?_⟩
            · unfold a_run
              simp only [Int.toNat_natCast]
              (repeat' split) <;> first | with_reducible rfl | omega
            · first | exact hR | exact R1
        · skip
          refine r_iload_2 dX5_run_84 ?_
          refine r_if_ne dX5_run_85 (by omega) (fun c_85 => ?_) (fun c_85 => ?_)
          · skip
            refine r_iload_2 dX5_run_98 (r_iconst dX5_run_99 ?_)
            refine r_icmp_ne dX5_run_100 (by omega) (by omega) (fun c_100 => ?_) (fun c_100 => ?_)
            · skip
              refine r_aload_0 dX5_run_113 (r_getR dX5_run_114 fX5_46 (rfl) (rfl) ?_)
              refine r_cVI0 dX5_run_117 vX5_185 (rfl) (x_allBehind (n := 0) tb16 w1 wr) (by decide) (Nat.le_of_ble_eq_true rfl) (fun b_117 M_117 h_117 => ?_)
              obtain ⟨rfl, rfl⟩ := h_117
              refine r_ireturn dX5_run_120 rfl ?_
              refine ⟨_, rfl, ?_, ?_⟩
              · unfold a_run
                simp only [Int.toNat_natCast]
                (repeat' split) <;> first | with_reducible rfl | omega
              · first | exact hR | exact R1
            · skip
              refine r_aload_0 dX5_run_103 (r_getR dX5_run_104 fX5_46 (rfl) (rfl) ?_)
              refine r_cVI0 dX5_run_107 vX5_182 (rfl) (x_fst (n := 0) tb16 w1) (by decide) (Nat.le_of_ble_eq_true rfl) (fun b_107 M_107 h_107 => ?_)
              obtain ⟨rfl, rfl⟩ := h_107
              refine r_goto dX5_run_110 ?_
              refine r_ireturn dX5_run_120 rfl ?_
              refine ⟨_, rfl, ?_, ?_⟩
              · unfold a_run
                simp only [Int.toNat_natCast]
                (repeat' split) <;> first | with_reducible rfl | omega
              · first | exact hR | exact R1
          · skip
            refine r_aload_0 dX5_run_88 (r_getR dX5_run_89 fX5_46 (rfl) (rfl) ?_)
            refine r_cVI0 dX5_run_92 vX5_72 (rfl) (x_snd (n := 0) tb16 w1) (by decide) (Nat.le_of_ble_eq_true rfl) (fun b_92 M_92 h_92 => ?_)
            obtain ⟨rfl, rfl⟩ := h_92
            refine r_goto dX5_run_95 ?_
            refine r_ireturn dX5_run_120 rfl ?_
            refine ⟨_, rfl, ?_, ?_⟩
            · unfold a_run
              simp only [Int.toNat_natCast]
              (repeat' split) <;> first | with_reducible rfl | omega
            · first | exact hR | exact R1
      · skip
        refine r_iload_5 dX5_run_56 ?_
        refine r_ifd_ne dX5_run_58 (fun c_58 => ?_) (fun c_58 => ?_)
        · skip
          refine r_aload_0 dX5_run_64 (r_getR dX5_run_65 fX5_46 (rfl) (rfl) (r_aload_0 dX5_run_68 (r_getR dX5_run_69 fX5_42 (rfl) (rfl) ?_)))
          refine r_cVV1 dX5_run_72 vX5_175 (rfl) (x_become tb16 tb6 (by decide) hτ) (by decide) (Nat.le_of_ble_eq_true rfl) (fun M_72 h_72 => ?_)
          obtain ⟨w0, f0⟩ := h_72
          have x0 := hX.scb tb16 f0
          have R0 := hR.th f0
          have hτ0 := R0.1
          obtain ⟨k, rfl⟩ : ∃ k : Nat, n = k := ⟨n.toNat, by omega⟩
          refine r_aload_0 dX5_run_75 (r_iload_1 dX5_run_76 ?_)
          refine r_cVV1 dX5_run_77 vX5_179 (rfl) (x_passT w0 hw x0 (by omega) (by omega)) (by decide) (Nat.le_of_ble_eq_true rfl) (fun M_77 h_77 => ?_)
          obtain ⟨w1, f1⟩ := h_77
          have R1 := R0.th f1
          have wr := sRun_wf (X := X) hw k
          have r80 := sRun_80 X τ k
          refine r_iload_3 dX5_run_80 ?_
          refine r_ifd_eq dX5_run_81 (fun c_81 => ?_) (fun c_81 => ?_)
          · skip
            refine r_iload_2 dX5_run_121 (r_bipush dX5_run_122 (by decide) ?_)
            refine r_icmp_ge dX5_run_124 (by omega) (by omega) (fun c_124 => ?_) (fun c_124 => ?_)
            · skip
              refine r_iload_2 dX5_run_140 (r_bipush dX5_run_141 (by decide) ?_)
              refine r_icmp_ge dX5_run_143 (by omega) (by omega) (fun c_143 => ?_) (fun c_143 => ?_)
              · skip
                refine r_aload_0 dX5_run_159 (r_getR dX5_run_160 fX5_46 (rfl) (rfl) (r_getR dX5_run_163 fX5_143 (rfl) (rfl) (r_iload_4 dX5_run_166 (r_ialE dX5_run_168 (rfl) (by omega) (by omega) (w1.e5 (i := (what % 10).toNat) (by omega)) ?_))))
                refine r_ireturn dX5_run_169 rfl ?_
                refine ⟨_, rfl, ?_, ?_⟩
                · unfold a_run
                  simp only [Int.toNat_natCast]
                  (repeat' split) <;> first | with_reducible rfl | omega
                · first | exact hR | exact R1
              · skip
                refine r_aload_0 dX5_run_146 (r_getR dX5_run_147 fX5_46 (rfl) (rfl) (r_getR dX5_run_150 fX5_140 (rfl) (rfl) (r_iload_4 dX5_run_153 (r_ialE dX5_run_155 (rfl) (by omega) (by omega) (w1.e4 (i := (what % 10).toNat) (by omega)) (r_goto dX5_run_156 ?_)))))
                refine r_ireturn dX5_run_169 rfl ?_
                refine ⟨_, rfl, ?_, ?_⟩
                · unfold a_run
                  simp only [Int.toNat_natCast]
                  (repeat' split) <;> first | with_reducible rfl | omega
                · first | exact hR | exact R1
            · skip
              refine r_aload_0 dX5_run_127 (r_getR dX5_run_128 fX5_46 (rfl) (rfl) (r_getR dX5_run_131 fX5_137 (rfl) (rfl) (r_iload_4 dX5_run_134 (r_ialE dX5_run_136 (rfl) (by omega) (by omega) (w1.e3 (i := (what % 10).toNat) (by omega)) (r_goto dX5_run_137 ?_)))))
              refine r_ireturn dX5_run_169 rfl ?_
              refine ⟨_, rfl, ?_, ?_⟩
              · unfold a_run
                simp only [Int.toNat_natCast]
                (repeat' split) <;> first | with_reducible rfl | omega
              · first | exact hR | exact R1
          · skip
            refine r_iload_2 dX5_run_84 ?_
            refine r_if_ne dX5_run_85 (by omega) (fun c_85 => ?_) (fun c_85 => ?_)
            · skip
              refine r_iload_2 dX5_run_98 (r_iconst dX5_run_99 ?_)
              refine r_icmp_ne dX5_run_100 (by omega) (by omega) (fun c_100 => ?_) (fun c_100 => ?_)
              · skip
                refine r_aload_0 dX5_run_113 (r_getR dX5_run_114 fX5_46 (rfl) (rfl) ?_)
                refine r_cVI0 dX5_run_117 vX5_185 (rfl) (x_allBehind (n := 0) tb16 w1 wr) (by decide) (Nat.le_of_ble_eq_true rfl) (fun b_117 M_117 h_117 => ?_)
                obtain ⟨rfl, rfl⟩ := h_117
                refine r_ireturn dX5_run_120 rfl ?_
                refine ⟨_, rfl, ?_, ?_⟩
                · unfold a_run
                  simp only [Int.toNat_natCast]
                  (repeat' split) <;> first | with_reducible rfl | omega
                · first | exact hR | exact R1
              · skip
                refine r_aload_0 dX5_run_103 (r_getR dX5_run_104 fX5_46 (rfl) (rfl) ?_)
                refine r_cVI0 dX5_run_107 vX5_182 (rfl) (x_fst (n := 0) tb16 w1) (by decide) (Nat.le_of_ble_eq_true rfl) (fun b_107 M_107 h_107 => ?_)
                obtain ⟨rfl, rfl⟩ := h_107
                refine r_goto dX5_run_110 ?_
                refine r_ireturn dX5_run_120 rfl ?_
                refine ⟨_, rfl, ?_, ?_⟩
                · unfold a_run
                  simp only [Int.toNat_natCast]
                  (repeat' split) <;> first | with_reducible rfl | omega
                · first | exact hR | exact R1
            · skip
              refine r_aload_0 dX5_run_88 (r_getR dX5_run_89 fX5_46 (rfl) (rfl) ?_)
              refine r_cVI0 dX5_run_92 vX5_72 (rfl) (x_snd (n := 0) tb16 w1) (by decide) (Nat.le_of_ble_eq_true rfl) (fun b_92 M_92 h_92 => ?_)
              obtain ⟨rfl, rfl⟩ := h_92
              refine r_goto dX5_run_95 ?_
              refine r_ireturn dX5_run_120 rfl ?_
              refine ⟨_, rfl, ?_, ?_⟩
              · unfold a_run
                simp only [Int.toNat_natCast]
                (repeat' split) <;> first | with_reducible rfl | omega
              · first | exact hR | exact R1
        · skip
          refine r_bipush dX5_run_61 (by decide) ?_
          refine r_ireturn dX5_run_63 rfl ?_
          refine ⟨_, rfl, ?_, ?_⟩
          · unfold a_run
            simp only [Int.toNat_natCast]
            (repeat' split) <;> first | with_reducible rfl | omega
          · first | exact hR | exact R1
  refine r_iload_2 dX5_run_15 (r_bipush dX5_run_16 (by decide) (r_bipush dX5_run_18 (by decide) ?_))
  refine r_cSI3 dX5_run_20 sX5_88 (x_within (d := 0) (by omega) (by omega) (by omega)) (by decide) (Nat.le_of_ble_eq_true rfl) (fun b_20 M_20 h_20 => ?_)
  obtain ⟨rfl, rfl⟩ := h_20
  first | refine r_ifd_eq dX5_run_23 (fun c_23 => ?_) (fun c_23 => ?_) | refine r_ifb_eq dX5_run_23 (fun c_23 => ?_) (fun c_23 => ?_)
  · skip
    refine r_iconst dX5_run_39 ?_
    rw [show bi (decide ((10 ≤ what ∧ what ≤ 39) ∧ what % 10 < τ 8 0)) = 0 from (bi_f (by omega)).symm] at jn_40
    exact jn_40
  · skip
    refine r_aload_0 dX5_run_26 (r_iload_4 dX5_run_27 ?_)
    refine r_cVI1 dX5_run_29 vX5_107 (rfl) (x_isP (d := 0) hτ (by omega)) (by decide) (Nat.le_of_ble_eq_true rfl) (fun b_29 M_29 h_29 => ?_)
    obtain ⟨rfl, rfl⟩ := h_29
    first | refine r_ifd_eq dX5_run_32 (fun c_32 => ?_) (fun c_32 => ?_) | refine r_ifb_eq dX5_run_32 (fun c_32 => ?_) (fun c_32 => ?_)
    · skip
      refine r_iconst dX5_run_39 ?_
      rw [show bi (decide ((10 ≤ what ∧ what ≤ 39) ∧ what % 10 < τ 8 0)) = 0 from (bi_f (by omega)).symm] at jn_40
      exact jn_40
    · skip
      refine r_iconst dX5_run_35 (r_goto dX5_run_36 ?_)
      rw [show bi (decide ((10 ≤ what ∧ what ≤ 39) ∧ what % 10 < τ 8 0)) = 1 from (bi_t (by omega)).symm] at jn_40
      exact jn_40
set_option maxRecDepth 10000 in
set_option maxHeartbeats 4000000 in
theorem x5_when {M : Mem} {nT tn : Nat} {X : Nat → Tx} {τ τi : Tn} {img : Bool} {tp ss sz : Nat → Int} {cl : Nat → Nat → Int} (hR : RX M (nT, X, τ, img, τi, tn, tp, ss, sz, cl)) (hI : INV (nT, X, τ, img, τi, tn, tp, ss, sz, cl)) {what : Int} (h_what : ib what) : Con GX 9 kX5_when [rv 0, iv what] M (pI (fun a M2 => a = a_when (nT, X, τ, img, τi, tn, tp, ss, sz, cl) what ∧ RX M2 (nT, X, τ, img, τi, tn, tp, ss, sz, cl))) := by
  refine con_of [some (rv 0), some (iv what), none] (plX5) rfl (Nat.le_of_ble_eq_true rfl) (fun z => ?_)
  have hR0 := hR
  obtain ⟨hτ, hX, hnT, himg, hτi, ⟨htn, htp⟩, hsh⟩ := hR0
  obtain ⟨⟨iT1, iT6⟩, ⟨hw, icl⟩, iim, ⟨itn, itp⟩, ish⟩ := hI
  obtain ⟨⟨wn, wn2⟩, wcl, ⟨wl, wl2⟩, -, -⟩ := id hw
  have hcl : τ 8 1 < 2147483648 := by omega
  refine r_mb (fun hMB => ?_)
  refine r_iload_1 dX5_when_0 (r_iconst dX5_when_1 (r_bipush dX5_when_2 (by decide) ?_))
  refine r_cSI3 dX5_when_4 sX5_88 (x_within (d := 0) (by omega) (by omega) (by omega)) (by decide) (Nat.le_of_ble_eq_true rfl) (fun b_4 M_4 h_4 => ?_)
  obtain ⟨rfl, rfl⟩ := h_4
  first | refine r_ifd_ne dX5_when_7 (fun c_7 => ?_) (fun c_7 => ?_) | refine r_ifb_ne dX5_when_7 (fun c_7 => ?_) (fun c_7 => ?_)
  · skip
    obtain ⟨w, rfl⟩ : ∃ w : Nat, what = w := ⟨what.toNat, by omega⟩
    refine r_aload_0 dX5_when_13 (r_getR dX5_when_14 fX5_46 (rfl) (rfl) (r_aload_0 dX5_when_17 (r_getR dX5_when_18 fX5_42 (rfl) (rfl) ?_)))
    refine r_cVV1 dX5_when_21 vX5_175 (rfl) (x_become tb16 tb6 (by decide) hτ) (by decide) (Nat.le_of_ble_eq_true rfl) (fun M_21 h_21 => ?_)
    obtain ⟨w0, f0⟩ := h_21
    have x0 := hX.scb tb16 f0
    have R0 := hR.th f0
    have hτ0 := R0.1
    refine r_iconst dX5_when_24 (r_istore_2 dX5_when_25 rfl ?_)
    have lp_26 : ∀ (NN : Nat) (m i : Nat) (Mv : Mem) (hi : i + m = 61) (wv : TW Mv 16 (sRun X τ i)) (fv : Fr (scb 16) M Mv) (hs : sWhen X τ w m i = sWhen X τ w 61 0), m < NN → WP kX5_when GX 9 (pI (fun a M2 => a = a_when (nT, X, τ, img, τi, tn, tp, ss, sz, cl) (w : Int) ∧ RX M2 (nT, X, τ, img, τi, tn, tp, ss, sz, cl))) z 26 [some (rv 0), some (iv (w : Int)), some (iv (i : Int))] [] Mv := by
      intro NN
      induction NN with
      | zero => intros; omega
      | succ NN ih =>
        intro m i Mv hi wv fv hs hm
        have hc := sRun_clk X τ i
        have wr := sRun_wf (X := X) hw i
        have Rv := hR.th fv
        refine r_iload_2 dX5_when_26 ?_
        refine r_bipush dX5_when_27 (by decide) ?_
        refine r_icmp_gt dX5_when_29 (by omega) (by omega) (fun c_29 => ?_) (fun c_29 => ?_)
        · skip
          obtain rfl : m = 0 := by omega
          refine r_iconst dX5_when_59 ?_
          refine r_ireturn dX5_when_60 rfl ?_
          refine ⟨_, rfl, ?_, Rv⟩
          unfold a_when
          simp only [Int.toNat_natCast]
          rw [if_pos (by omega), ← hs]
          rfl
        · skip
          obtain ⟨m, rfl⟩ : ∃ k, m = k + 1 := ⟨m - 1, by omega⟩
          refine r_aload_0 dX5_when_32 (r_getR dX5_when_33 fX5_46 (rfl) (rfl) (r_iload_1 dX5_when_36 ?_))
          refine r_cVI1 dX5_when_37 vX5_188 (rfl) (x_isSo (b := 16) tb16 wv wr (by omega)) (by decide) (Nat.le_of_ble_eq_true rfl) (fun b_37 M_37 h_37 => ?_)
          obtain ⟨rfl, rfl⟩ := h_37
          refine r_ifb_eq dX5_when_40 (fun c_40 => ?_) (fun c_40 => ?_)
          · skip
            refine r_aload_0 dX5_when_45 (r_getR dX5_when_46 fX5_46 (rfl) (rfl) ?_)
            refine r_cVI0 dX5_when_49 vX5_167 (rfl) (x_pass (b := 16) tb16 wv wr (hX.scb tb16 fv) (by omega)) (by decide) (Nat.le_of_ble_eq_true rfl) (fun b_49 M_49 h_49 => ?_)
            obtain ⟨rfl, w2, f2⟩ := h_49
            refine r_pop_i dX5_when_52 (r_iinc_2 dX5_when_53 rfl (r_goto dX5_when_56 ?_))
            exact ih m (i + 1) M_49 (by omega) w2 (fv.trans f2) (by rw [← hs]; simp [sWhen, c_40]) (by omega)
          · skip
            refine r_iload_2 dX5_when_43 ?_
            refine r_ireturn dX5_when_44 rfl ?_
            refine ⟨_, rfl, ?_, Rv⟩
            unfold a_when
            simp only [Int.toNat_natCast]
            rw [if_pos (by omega), ← hs]
            simp [sWhen, c_40]
    exact lp_26 _ 61 0 _ (by omega) w0 f0 rfl (Nat.lt_succ_self _)
  · skip
    refine r_bipush dX5_when_10 (by decide) ?_
    refine r_ireturn dX5_when_12 rfl ?_
    refine ⟨_, rfl, ?_, hR⟩
    unfold a_when
    simp only []
    rw [if_neg (by omega)]
set_option maxRecDepth 10000 in
set_option maxHeartbeats 4000000 in
theorem x5_waits {M : Mem} {nT tn : Nat} {X : Nat → Tx} {τ τi : Tn} {img : Bool} {tp ss sz : Nat → Int} {cl : Nat → Nat → Int} (hR : RX M (nT, X, τ, img, τi, tn, tp, ss, sz, cl)) (hI : INV (nT, X, τ, img, τi, tn, tp, ss, sz, cl)) {p : Int} (h_p : ib p) : Con GX 9 kX5_waits [rv 0, iv p] M (pI (fun a M2 => a = a_waits (nT, X, τ, img, τi, tn, tp, ss, sz, cl) p ∧ RX M2 (nT, X, τ, img, τi, tn, tp, ss, sz, cl))) := by
  refine con_of [some (rv 0), some (iv p), none] (plX5) rfl (Nat.le_of_ble_eq_true rfl) (fun z => ?_)
  have hR0 := hR
  obtain ⟨hτ, hX, hnT, himg, hτi, ⟨htn, htp⟩, hsh⟩ := hR0
  obtain ⟨⟨iT1, iT6⟩, ⟨hw, icl⟩, iim, ⟨itn, itp⟩, ish⟩ := hI
  obtain ⟨⟨wn, wn2⟩, wcl, ⟨wl, wl2⟩, -, -⟩ := id hw
  have hcl : τ 8 1 < 2147483648 := by omega
  refine r_mb (fun hMB => ?_)
  refine r_aload_0 dX5_waits_0 (r_iload_1 dX5_waits_1 ?_)
  refine r_cVI1 dX5_waits_2 vX5_107 (rfl) (x_isP (d := 0) hτ (by omega)) (by decide) (Nat.le_of_ble_eq_true rfl) (fun b_2 M_2 h_2 => ?_)
  obtain ⟨rfl, rfl⟩ := h_2
  first | refine r_ifd_ne dX5_waits_5 (fun c_5 => ?_) (fun c_5 => ?_) | refine r_ifb_ne dX5_waits_5 (fun c_5 => ?_) (fun c_5 => ?_)
  · skip
    obtain ⟨q, rfl⟩ : ∃ q : Nat, p = q := ⟨p.toNat, by omega⟩
    have hq6 : q < 6 := by omega
    have wq := hw.p hq6
    have eq : ((q : Nat) : Int).toNat = q := Int.toNat_natCast q
    refine r_aload_0 dX5_waits_11 (r_getR dX5_waits_12 fX5_46 (rfl) (rfl) (r_aload_0 dX5_waits_15 (r_getR dX5_waits_16 fX5_42 (rfl) (rfl) ?_)))
    refine r_cVV1 dX5_waits_19 vX5_175 (rfl) (x_become tb16 tb6 (by decide) hτ) (by decide) (Nat.le_of_ble_eq_true rfl) (fun M_19 h_19 => ?_)
    obtain ⟨w0, f0⟩ := h_19
    have x0 := hX.scb tb16 f0
    have R0 := hR.th f0
    have hτ0 := R0.1
    refine r_iconst dX5_waits_22 (r_istore_2 dX5_waits_23 rfl ?_)
    have lp_24 : ∀ (NN : Nat) (m i : Nat) (x : Int) (Mv : Mem) (hx : x = (i : Int) + 1) (hi : i + m = 60) (wv : TW Mv 16 (sRun X τ i)) (fv : Fr (scb 16) M Mv) (hs : sWait X τ q m i = sWait X τ q 60 0), m < NN → WP kX5_waits GX 9 (pI (fun a M2 => a = a_waits (nT, X, τ, img, τi, tn, tp, ss, sz, cl) (q : Int) ∧ RX M2 (nT, X, τ, img, τi, tn, tp, ss, sz, cl))) z 24 [some (rv 0), some (iv (q : Int)), some (iv x)] [] Mv := by
      intro NN
      induction NN with
      | zero => intros; omega
      | succ NN ih =>
        intro m i x Mv hx hi wv fv hs hm
        have hc := sRun_clk X τ i
        have wr := sRun_wf (X := X) hw i
        have Rv := hR.th fv
        refine r_iload_2 dX5_waits_24 ?_
        refine r_bipush dX5_waits_25 (by decide) ?_
        refine r_icmp_gt dX5_waits_27 (by omega) (by omega) (fun c_27 => ?_) (fun c_27 => ?_)
        · skip
          obtain rfl : m = 0 := by omega
          refine r_iconst dX5_waits_52 ?_
          refine r_ireturn dX5_waits_53 rfl ?_
          refine ⟨_, rfl, ?_, Rv⟩
          unfold a_waits
          simp only [Int.toNat_natCast]
          rw [if_pos (by omega), ← hs]
          rfl
        · skip
          obtain ⟨m, rfl⟩ : ∃ k, m = k + 1 := ⟨m - 1, by omega⟩
          refine r_aload_0 dX5_waits_30 (r_getR dX5_waits_31 fX5_46 (rfl) (rfl) ?_)
          refine r_cVI0 dX5_waits_34 vX5_167 (rfl) (x_pass (b := 16) tb16 wv wr (hX.scb tb16 fv) (by omega)) (by decide) (Nat.le_of_ble_eq_true rfl) (fun b_34 M_34 h_34 => ?_)
          obtain ⟨rfl, w2, f2⟩ := h_34
          have hb0 := sMin_b X wr
          refine r_iload_1 dX5_waits_37 ?_
          refine r_cSI2 dX5_waits_38 sX5_191 (x_hasBit (n := 0) (by omega) (by omega)) (by decide) (Nat.le_of_ble_eq_true rfl) (fun b_38 M_38 h_38 => ?_)
          obtain ⟨rfl, rfl⟩ := h_38
          refine r_ifb_eq dX5_waits_41 (fun c_41 => ?_) (fun c_41 => ?_)
          · skip
            refine r_iinc_2 dX5_waits_46 rfl (r_goto dX5_waits_49 ?_)
            exact ih m (i + 1) _ M_34 (by omega) (by omega) w2 (fv.trans f2) (by rw [← hs]; simp [sWait, c_41]) (by omega)
          · skip
            refine r_iload_2 dX5_waits_44 ?_
            refine r_ireturn dX5_waits_45 rfl ?_
            refine ⟨_, rfl, ?_, Rv.th f2⟩
            unfold a_waits
            simp only [Int.toNat_natCast]
            rw [if_pos (by omega), ← hs]
            simp [sWait, c_41, hx]
    exact lp_24 _ 60 0 1 _ rfl (by omega) w0 f0 rfl (Nat.lt_succ_self _)
  · skip
    refine r_bipush dX5_waits_8 (by decide) ?_
    refine r_ireturn dX5_waits_10 rfl ?_
    refine ⟨_, rfl, ?_, hR⟩
    unfold a_waits
    simp only []
    rw [if_neg (by omega)]

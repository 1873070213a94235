set_option maxRecDepth 10000 in
set_option maxHeartbeats 4000000 in
theorem x5_image {M : Mem} {nT tn : Nat} {X : Nat → Tx} {τ τi : Tn} {img : Bool} {tp ss sz : Nat → Int} {cl : Nat → Nat → Int} (hR : RX M (nT, X, τ, img, τi, tn, tp, ss, sz, cl)) (hI : INV (nT, X, τ, img, τi, tn, tp, ss, sz, cl))  : Con GX 9 kX5_image [rv 0] M (pI (fun a M2 => a = a_image (nT, X, τ, img, τi, tn, tp, ss, sz, cl)  ∧ RX M2 (t_image (nT, X, τ, img, τi, tn, tp, ss, sz, cl) ))) := by
  refine con_of [some (rv 0)] (plX5) rfl (Nat.le_of_ble_eq_true rfl) (fun z => ?_)
  have hR0 := hR
  obtain ⟨hτ, hX, hnT, himg, hτi, ⟨htn, htp⟩, hsh⟩ := hR0
  obtain ⟨⟨iT1, iT6⟩, ⟨hw, icl⟩, iim, ⟨itn, itp⟩, ish⟩ := hI
  obtain ⟨⟨wn, wn2⟩, wcl, ⟨wl, wl2⟩, -, -⟩ := id hw
  have hcl : τ 8 1 < 2147483648 := by omega
  refine r_mb (fun hMB => ?_)
  refine r_aload_0 dX5_image_0 (r_getR dX5_image_1 fX5_49 (rfl) (rfl) (r_aload_0 dX5_image_4 (r_getR dX5_image_5 fX5_42 (rfl) (rfl) ?_)))
  refine r_cVV1 dX5_image_8 vX5_175 (rfl) (x_become tb26 tb6 (by decide) hτ) (by decide) (Nat.le_of_ble_eq_true rfl) (fun M_8 h_8 => ?_)
  obtain ⟨w0, f0⟩ := h_8
  refine r_aload_0 dX5_image_11 (r_iconst dX5_image_12 ?_)
  refine r_putZ dX5_image_13 pX5_56 (rfl) (rfl) (by first | rfl | decide | omega) ?_
  have RK := hR.kept f0 w0
  refine r_aload_0 dX5_image_16 (r_getR dX5_image_17 fX5_42 (rfl) (rfl) (r_getE dX5_image_20 fX5_66 (rfl) (rfl) (RK.1.people) ?_))
  refine r_ireturn dX5_image_23 rfl ?_
  exact ⟨_, rfl, rfl, RK⟩
set_option maxRecDepth 10000 in
set_option maxHeartbeats 4000000 in
theorem x5_back {M : Mem} {nT tn : Nat} {X : Nat → Tx} {τ τi : Tn} {img : Bool} {tp ss sz : Nat → Int} {cl : Nat → Nat → Int} (hR : RX M (nT, X, τ, img, τi, tn, tp, ss, sz, cl)) (hI : INV (nT, X, τ, img, τi, tn, tp, ss, sz, cl))  : Con GX 9 kX5_back [rv 0] M (pI (fun a M2 => a = a_back (nT, X, τ, img, τi, tn, tp, ss, sz, cl)  ∧ RX M2 (t_back (nT, X, τ, img, τi, tn, tp, ss, sz, cl) ))) := by
  refine con_of [some (rv 0)] (plX5) rfl (Nat.le_of_ble_eq_true rfl) (fun z => ?_)
  have hR0 := hR
  obtain ⟨hτ, hX, hnT, himg, hτi, ⟨htn, htp⟩, hsh⟩ := hR0
  obtain ⟨⟨iT1, iT6⟩, ⟨hw, icl⟩, iim, ⟨itn, itp⟩, ish⟩ := hI
  obtain ⟨⟨wn, wn2⟩, wcl, ⟨wl, wl2⟩, -, -⟩ := id hw
  have hcl : τ 8 1 < 2147483648 := by omega
  refine r_mb (fun hMB => ?_)
  refine r_aload_0 dX5_back_0 (r_getE dX5_back_1 fX5_56 (rfl) (rfl) (himg) ?_)
  refine r_ifb_ne dX5_back_4 (fun c_4 => ?_) (fun c_4 => ?_)
  · skip
    refine r_aload_0 dX5_back_10 (r_getR dX5_back_11 fX5_42 (rfl) (rfl) (r_aload_0 dX5_back_14 (r_getR dX5_back_15 fX5_49 (rfl) (rfl) ?_)))
    refine r_cVV1 dX5_back_18 vX5_175 (rfl) (x_become tb6 tb26 (by decide) (hτi c_4)) (by decide) (Nat.le_of_ble_eq_true rfl) (fun M_18 h_18 => ?_)
    obtain ⟨w0, f0⟩ := h_18
    refine r_aload_0 dX5_back_21 (r_getR dX5_back_22 fX5_42 (rfl) (rfl) (r_getE dX5_back_25 fX5_66 (rfl) (rfl) (w0.people) ?_))
    refine r_ireturn dX5_back_28 rfl ?_
    refine ⟨_, rfl, ?_, ?_⟩
    · unfold a_back
      simp only []
      rw [if_pos c_4]
    · unfold t_back
      simp only []
      rw [if_pos c_4]
      exact hR.now f0 w0
  · skip
    refine r_bipush dX5_back_7 (by decide) ?_
    refine r_ireturn dX5_back_9 rfl ?_
    refine ⟨_, rfl, ?_, ?_⟩
    · unfold a_back
      simp only []
      rw [if_neg (by first | exact c_4 | simp [c_4])]
    · unfold t_back
      simp only []
      rw [if_neg (by first | exact c_4 | simp [c_4])]
      exact hR
set_option maxRecDepth 10000 in
set_option maxHeartbeats 4000000 in
theorem x5_tries {M : Mem} {nT tn : Nat} {X : Nat → Tx} {τ τi : Tn} {img : Bool} {tp ss sz : Nat → Int} {cl : Nat → Nat → Int} (hR : RX M (nT, X, τ, img, τi, tn, tp, ss, sz, cl)) (hI : INV (nT, X, τ, img, τi, tn, tp, ss, sz, cl)) {what : Int} (h_what : ib what) : Con GX 9 kX5_tries [rv 0, iv what] M (pI (fun a M2 => a = a_tries (nT, X, τ, img, τi, tn, tp, ss, sz, cl) what ∧ RX M2 (nT, X, τ, img, τi, tn, tp, ss, sz, cl))) := by
  refine con_of [some (rv 0), some (iv what), none, none, none] (plX5) rfl (Nat.le_of_ble_eq_true rfl) (fun z => ?_)
  have hR0 := hR
  obtain ⟨hτ, hX, hnT, himg, hτi, ⟨htn, htp⟩, hsh⟩ := hR0
  obtain ⟨⟨iT1, iT6⟩, ⟨hw, icl⟩, iim, ⟨itn, itp⟩, ish⟩ := hI
  obtain ⟨⟨wn, wn2⟩, wcl, ⟨wl, wl2⟩, -, -⟩ := id hw
  have hcl : τ 8 1 < 2147483648 := by omega
  refine r_mb (fun hMB => ?_)
  refine r_iload_1 dX5_tries_0 (r_iconst dX5_tries_1 (r_iconst dX5_tries_2 ?_))
  refine r_cSI3 dX5_tries_3 sX5_88 (x_within (d := 0) (by omega) (by omega) (by omega)) (by decide) (Nat.le_of_ble_eq_true rfl) (fun b_3 M_3 h_3 => ?_)
  obtain ⟨rfl, rfl⟩ := h_3
  first | refine r_ifd_ne dX5_tries_6 (fun c_6 => ?_) (fun c_6 => ?_) | refine r_ifb_ne dX5_tries_6 (fun c_6 => ?_) (fun c_6 => ?_)
  · skip
    refine r_bipush dX5_tries_12 (by decide) (r_aload_0 dX5_tries_14 (r_getR dX5_tries_15 fX5_42 (rfl) (rfl) ?_))
    refine r_cVI0 dX5_tries_18 vX5_72 (rfl) (x_snd (n := 0) tb6 hτ) (by decide) (Nat.le_of_ble_eq_true rfl) (fun b_18 M_18 h_18 => ?_)
    obtain ⟨rfl, rfl⟩ := h_18
    have sb := bt_b (fun d => decide (τ 2 d ≠ -1)) 8
    change 0 ≤ sSnd τ ∧ sSnd τ < 256 at sb
    obtain ⟨m, hm⟩ : ∃ m : Nat, sSnd τ = m := ⟨(sSnd τ).toNat, by omega⟩
    have hmt : (sSnd τ).toNat = m := by omega
    rw [hm]
    have hpm := pop8_b m
    refine r_cSI1 dX5_tries_21 sX5_76 (j_bitCount (d := 0) (by omega)) (by decide) (Nat.le_of_ble_eq_true rfl) (fun b_21 M_21 h_21 => ?_)
    obtain ⟨rfl, rfl⟩ := h_21
    refine r_isub dX5_tries_24 (r_istore_2 dX5_tries_25 rfl (r_iload_1 dX5_tries_26 (r_iconst dX5_tries_27 ?_)))
    refine r_icmp_ne dX5_tries_28 (by omega) (by omega) (fun c_28 => ?_) (fun c_28 => ?_)
    · skip
      refine r_iload_2 dX5_tries_33 ?_
      refine r_if_le dX5_tries_34 (by omega) (fun c_34 => ?_) (fun c_34 => ?_)
      · skip
        refine r_iconst dX5_tries_50 (r_istore_3 dX5_tries_51 rfl (r_iconst dX5_tries_52 (r_istore_4 dX5_tries_53 rfl ?_)))
        have lp_55 : ∀ (NN : Nat) (i : Nat) (c_ : Int) (hi : i ≤ 8) (hc_ : c_ = few τ i), 100 - i < NN → WP kX5_tries GX 9 (pI (fun a M2 => a = a_tries (nT, X, τ, img, τi, tn, tp, ss, sz, cl) what ∧ RX M2 (nT, X, τ, img, τi, tn, tp, ss, sz, cl))) z 55 [some (rv 0), some (iv what), some (iv (8 - ((pop8 m : Nat) : Int))), some (iv c_), some (iv (i : Int))] [] M := by
          intro NN
          induction NN with
          | zero => intros; omega
          | succ NN ih =>
            intro i c_ hi hc_ hm
            have fb := few_b τ i
            refine r_iload_4 dX5_tries_55 ?_
            refine r_bipush dX5_tries_57 (by decide) ?_
            refine r_icmp_ge dX5_tries_59 (by omega) (by omega) (fun c_59 => ?_) (fun c_59 => ?_)
            · skip
              obtain rfl : i = 8 := by omega
              refine r_iload_3 dX5_tries_104 ?_
              refine r_ireturn dX5_tries_105 rfl ?_
              refine ⟨_, rfl, ?_, hR⟩
              unfold a_tries
              simp only []
              rw [hmt]
              rw [if_neg (by omega), if_neg (by omega), if_neg (by omega)]
              exact hc_
            · skip
              have wd := hw.d (d := i) (by omega)
              refine r_aload_0 dX5_tries_62 (r_getR dX5_tries_63 fX5_42 (rfl) (rfl) (r_getR dX5_tries_66 fX5_113 (rfl) (rfl) (r_iload_4 dX5_tries_69 (r_ialN dX5_tries_71 (rfl) (by omega) (by omega) (hτ.e2 (by omega)) (r_iconst dX5_tries_72 ?_)))))
              refine r_icmp_ne dX5_tries_73 (by omega) (by omega) (fun c_73 => ?_) (fun c_73 => ?_)
              · skip
                refine r_iinc_4 dX5_tries_98 rfl (r_goto dX5_tries_101 ?_)
                exact ih (i + 1) _ (by omega) (by simp only [few]; rw [← hc_, if_neg (by omega)]; omega) (by omega)
              · skip
                refine r_iload_3 dX5_tries_76 ?_
                have jn_96 : ∀ (v : Int) (hv : v = if τ 1 i = -1 then 2 else 1), WP kX5_tries GX 9 (pI (fun a M2 => a = a_tries (nT, X, τ, img, τi, tn, tp, ss, sz, cl) what ∧ RX M2 (nT, X, τ, img, τi, tn, tp, ss, sz, cl))) z 96 [some (rv 0), some (iv what), some (iv (8 - ((pop8 m : Nat) : Int))), some (iv c_), some (iv (i : Int))] [iv v, iv c_] M := by
                  intro v hv
                  refine r_iadd dX5_tries_96 ?_
                  refine r_istore_3 dX5_tries_97 rfl (r_iinc_4 dX5_tries_98 rfl (r_goto dX5_tries_101 ?_))
                  exact ih (i + 1) _ (by omega) (by simp only [few]; rw [← hc_, if_pos (by omega), ← hv]) (by omega)
                refine r_aload_0 dX5_tries_77 (r_getR dX5_tries_78 fX5_42 (rfl) (rfl) (r_getR dX5_tries_81 fX5_110 (rfl) (rfl) (r_iload_4 dX5_tries_84 (r_ialN dX5_tries_86 (rfl) (by omega) (by omega) (hτ.e1 (by omega)) (r_iconst dX5_tries_87 ?_)))))
                refine r_icmp_ne dX5_tries_88 (by omega) (by omega) (fun c_88 => ?_) (fun c_88 => ?_)
                · skip
                  refine r_iconst dX5_tries_95 ?_
                  exact jn_96 _ (by rw [if_neg (by omega)])
                · skip
                  refine r_iconst dX5_tries_91 (r_goto dX5_tries_92 ?_)
                  exact jn_96 _ (by rw [if_pos (by omega)])
        first | exact lp_55 _ 0 0 (by omega) rfl (Nat.lt_succ_self _)
      · skip
        refine r_aload_0 dX5_tries_37 (r_getR dX5_tries_38 fX5_42 (rfl) (rfl) (r_getE dX5_tries_41 fX5_66 (rfl) (rfl) (hτ.people) (r_iconst dX5_tries_44 ?_)))
        refine r_icmp_ge dX5_tries_45 (by omega) (by omega) (fun c_45 => ?_) (fun c_45 => ?_)
        · skip
          refine r_iconst dX5_tries_50 (r_istore_3 dX5_tries_51 rfl (r_iconst dX5_tries_52 (r_istore_4 dX5_tries_53 rfl ?_)))
          have lp_55 : ∀ (NN : Nat) (i : Nat) (c_ : Int) (hi : i ≤ 8) (hc_ : c_ = few τ i), 100 - i < NN → WP kX5_tries GX 9 (pI (fun a M2 => a = a_tries (nT, X, τ, img, τi, tn, tp, ss, sz, cl) what ∧ RX M2 (nT, X, τ, img, τi, tn, tp, ss, sz, cl))) z 55 [some (rv 0), some (iv what), some (iv (8 - ((pop8 m : Nat) : Int))), some (iv c_), some (iv (i : Int))] [] M := by
            intro NN
            induction NN with
            | zero => intros; omega
            | succ NN ih =>
              intro i c_ hi hc_ hm
              have fb := few_b τ i
              refine r_iload_4 dX5_tries_55 ?_
              refine r_bipush dX5_tries_57 (by decide) ?_
              refine r_icmp_ge dX5_tries_59 (by omega) (by omega) (fun c_59 => ?_) (fun c_59 => ?_)
              · skip
                obtain rfl : i = 8 := by omega
                refine r_iload_3 dX5_tries_104 ?_
                refine r_ireturn dX5_tries_105 rfl ?_
                refine ⟨_, rfl, ?_, hR⟩
                unfold a_tries
                simp only []
                rw [hmt]
                rw [if_neg (by omega), if_neg (by omega), if_neg (by omega)]
                exact hc_
              · skip
                have wd := hw.d (d := i) (by omega)
                refine r_aload_0 dX5_tries_62 (r_getR dX5_tries_63 fX5_42 (rfl) (rfl) (r_getR dX5_tries_66 fX5_113 (rfl) (rfl) (r_iload_4 dX5_tries_69 (r_ialN dX5_tries_71 (rfl) (by omega) (by omega) (hτ.e2 (by omega)) (r_iconst dX5_tries_72 ?_)))))
                refine r_icmp_ne dX5_tries_73 (by omega) (by omega) (fun c_73 => ?_) (fun c_73 => ?_)
                · skip
                  refine r_iinc_4 dX5_tries_98 rfl (r_goto dX5_tries_101 ?_)
                  exact ih (i + 1) _ (by omega) (by simp only [few]; rw [← hc_, if_neg (by omega)]; omega) (by omega)
                · skip
                  refine r_iload_3 dX5_tries_76 ?_
                  have jn_96 : ∀ (v : Int) (hv : v = if τ 1 i = -1 then 2 else 1), WP kX5_tries GX 9 (pI (fun a M2 => a = a_tries (nT, X, τ, img, τi, tn, tp, ss, sz, cl) what ∧ RX M2 (nT, X, τ, img, τi, tn, tp, ss, sz, cl))) z 96 [some (rv 0), some (iv what), some (iv (8 - ((pop8 m : Nat) : Int))), some (iv c_), some (iv (i : Int))] [iv v, iv c_] M := by
                    intro v hv
                    refine r_iadd dX5_tries_96 ?_
                    refine r_istore_3 dX5_tries_97 rfl (r_iinc_4 dX5_tries_98 rfl (r_goto dX5_tries_101 ?_))
                    exact ih (i + 1) _ (by omega) (by simp only [few]; rw [← hc_, if_pos (by omega), ← hv]) (by omega)
                  refine r_aload_0 dX5_tries_77 (r_getR dX5_tries_78 fX5_42 (rfl) (rfl) (r_getR dX5_tries_81 fX5_110 (rfl) (rfl) (r_iload_4 dX5_tries_84 (r_ialN dX5_tries_86 (rfl) (by omega) (by omega) (hτ.e1 (by omega)) (r_iconst dX5_tries_87 ?_)))))
                  refine r_icmp_ne dX5_tries_88 (by omega) (by omega) (fun c_88 => ?_) (fun c_88 => ?_)
                  · skip
                    refine r_iconst dX5_tries_95 ?_
                    exact jn_96 _ (by rw [if_neg (by omega)])
                  · skip
                    refine r_iconst dX5_tries_91 (r_goto dX5_tries_92 ?_)
                    exact jn_96 _ (by rw [if_pos (by omega)])
          first | exact lp_55 _ 0 0 (by omega) rfl (Nat.lt_succ_self _)
        · skip
          refine r_iconst dX5_tries_48 ?_
          refine r_ireturn dX5_tries_49 rfl ?_
          refine ⟨_, rfl, ?_, hR⟩
          unfold a_tries
          simp only []
          rw [hmt]
          rw [if_neg (by omega), if_neg (by omega), if_pos (by omega)]
    · skip
      refine r_iload_2 dX5_tries_31 ?_
      refine r_ireturn dX5_tries_32 rfl ?_
      refine ⟨_, rfl, ?_, hR⟩
      unfold a_tries
      simp only []
      rw [hmt]
      rw [if_neg (by omega), if_pos (by omega)]
  · skip
    refine r_bipush dX5_tries_9 (by decide) ?_
    refine r_ireturn dX5_tries_11 rfl ?_
    refine ⟨_, rfl, ?_, hR⟩
    unfold a_tries
    simp only []
    rw [if_pos (by omega)]
set_option maxRecDepth 10000 in
set_option maxHeartbeats 4000000 in
theorem x5_stand {M : Mem} {nT tn : Nat} {X : Nat → Tx} {τ τi : Tn} {img : Bool} {tp ss sz : Nat → Int} {cl : Nat → Nat → Int} (hR : RX M (nT, X, τ, img, τi, tn, tp, ss, sz, cl)) (hI : INV (nT, X, τ, img, τi, tn, tp, ss, sz, cl)) {p : Int} (h_p : ib p) {n : Int} (h_n : ib n) {what : Int} (h_what : ib what) : Con GX 9 kX5_stand [rv 0, iv p, iv n, iv what] M (pI (fun a M2 => a = a_stand (nT, X, τ, img, τi, tn, tp, ss, sz, cl) p n what ∧ RX M2 (nT, X, τ, img, τi, tn, tp, ss, sz, cl))) := by
  refine con_of [some (rv 0), some (iv p), some (iv n), some (iv what), none, none, none] (plX5) rfl (Nat.le_of_ble_eq_true rfl) (fun z => ?_)
  have hR0 := hR
  obtain ⟨hτ, hX, hnT, himg, hτi, ⟨htn, htp⟩, hsh⟩ := hR0
  obtain ⟨⟨iT1, iT6⟩, ⟨hw, icl⟩, iim, ⟨itn, itp⟩, ish⟩ := hI
  obtain ⟨⟨wn, wn2⟩, wcl, ⟨wl, wl2⟩, -, -⟩ := id hw
  have hcl : τ 8 1 < 2147483648 := by omega
  refine r_mb (fun hMB => ?_)
  refine r_aload_0 dX5_stand_0 (r_iload_1 dX5_stand_1 ?_)
  refine r_cVI1 dX5_stand_2 vX5_107 (rfl) (x_isP (d := 0) hτ (by omega)) (by decide) (Nat.le_of_ble_eq_true rfl) (fun b_2 M_2 h_2 => ?_)
  obtain ⟨rfl, rfl⟩ := h_2
  first | refine r_ifd_ne dX5_stand_5 (fun c_5 => ?_) (fun c_5 => ?_) | refine r_ifb_ne dX5_stand_5 (fun c_5 => ?_) (fun c_5 => ?_)
  · skip
    obtain ⟨q, rfl⟩ : ∃ q : Nat, p = q := ⟨p.toNat, by omega⟩
    have hq6 : q < 6 := by omega
    have wq := hw.p hq6
    have eq : ((q : Nat) : Int).toNat = q := Int.toNat_natCast q
    refine r_iload_2 dX5_stand_11 (r_iconst dX5_stand_12 (r_bipush dX5_stand_13 (by decide) ?_))
    refine r_cSI3 dX5_stand_15 sX5_88 (x_within (d := 0) (by omega) (by omega) (by omega)) (by decide) (Nat.le_of_ble_eq_true rfl) (fun b_15 M_15 h_15 => ?_)
    obtain ⟨rfl, rfl⟩ := h_15
    first | refine r_ifd_eq dX5_stand_18 (fun c_18 => ?_) (fun c_18 => ?_) | refine r_ifb_eq dX5_stand_18 (fun c_18 => ?_) (fun c_18 => ?_)
    · skip
      refine r_bipush dX5_stand_30 (by decide) ?_
      refine r_ireturn dX5_stand_32 rfl ?_
      refine ⟨_, rfl, ?_, hR⟩
      unfold a_stand
      simp only []
      rw [if_neg (by omega), if_pos (by omega)]
    · skip
      refine r_iload_3 dX5_stand_21 (r_iconst dX5_stand_22 (r_iconst dX5_stand_23 ?_))
      refine r_cSI3 dX5_stand_24 sX5_88 (x_within (d := 0) (by omega) (by omega) (by omega)) (by decide) (Nat.le_of_ble_eq_true rfl) (fun b_24 M_24 h_24 => ?_)
      obtain ⟨rfl, rfl⟩ := h_24
      first | refine r_ifd_ne dX5_stand_27 (fun c_27 => ?_) (fun c_27 => ?_) | refine r_ifb_ne dX5_stand_27 (fun c_27 => ?_) (fun c_27 => ?_)
      · skip
        obtain ⟨k, rfl⟩ : ∃ k : Nat, n = k := ⟨n.toNat, by omega⟩
        have hFb : ∀ v : Nat, v < 8 → 0 ≤ (fun (v : Nat) => sRun X (st τ 3 q (v : Int)) k 4 q) v ∧ (fun (v : Nat) => sRun X (st τ 3 q (v : Int)) k 4 q) v ≤ 99 := fun v hv => by
          have w9 := (sRun_wf (X := X) (hw.put (f := 3) (i := q) (v := (v : Int)) (by omega)) k).p hq6
          show 0 ≤ sRun X (st τ 3 q (v : Int)) k 4 q ∧ sRun X (st τ 3 q (v : Int)) k 4 q ≤ 99
          omega
        refine r_iconst dX5_stand_33 (r_istore_4 dX5_stand_34 rfl (r_iconst dX5_stand_36 (r_istore_5 dX5_stand_37 rfl (r_iconst dX5_stand_39 (r_istore_6 dX5_stand_40 rfl ?_)))))
        have lp_42 : ∀ (NN : Nat) (i : Nat) (b_ e_ : Int) (Mv : Mem) (hi : i ≤ 8) (hb_ : b_ = (mxF (fun (v : Nat) => sRun X (st τ 3 q (v : Int)) k 4 q) i).1) (he_ : e_ = (mxF (fun (v : Nat) => sRun X (st τ 3 q (v : Int)) k 4 q) i).2) (fv : Fr (scb 16) M Mv), 100 - i < NN → WP kX5_stand GX 9 (pI (fun a M2 => a = a_stand (nT, X, τ, img, τi, tn, tp, ss, sz, cl) (q : Int) (k : Int) what ∧ RX M2 (nT, X, τ, img, τi, tn, tp, ss, sz, cl))) z 42 [some (rv 0), some (iv (q : Int)), some (iv (k : Int)), some (iv what), some (iv b_), some (iv e_), some (iv (i : Int))] [] Mv := by
          intro NN
          induction NN with
          | zero => intros; omega
          | succ NN ih =>
            intro i b_ e_ Mv hi hb_ he_ fv hm
            have Rv := hR.th fv
            have hτv := Rv.1
            have mb := mxF_b (f := fun (v : Nat) => sRun X (st τ 3 q (v : Int)) k 4 q) i (fun v hv => hFb v (by omega))
            refine r_iload_6 dX5_stand_42 ?_
            refine r_bipush dX5_stand_44 (by decide) ?_
            refine r_icmp_ge dX5_stand_46 (by omega) (by omega) (fun c_46 => ?_) (fun c_46 => ?_)
            · skip
              obtain rfl : i = 8 := by omega
              refine r_iload_3 dX5_stand_111 ?_
              refine r_if_ne dX5_stand_112 (by omega) (fun c_112 => ?_) (fun c_112 => ?_)
              · skip
                refine r_iload_5 dX5_stand_120 ?_
                refine r_ireturn dX5_stand_122 rfl ?_
                refine ⟨_, rfl, ?_, Rv⟩
                unfold a_stand
                simp only [Int.toNat_natCast]
                rw [if_neg (by omega), if_neg (by omega), if_neg (by omega)]
                exact he_
              · skip
                refine r_iload_4 dX5_stand_115 (r_goto dX5_stand_117 ?_)
                refine r_ireturn dX5_stand_122 rfl ?_
                refine ⟨_, rfl, ?_, Rv⟩
                unfold a_stand
                simp only [Int.toNat_natCast]
                rw [if_neg (by omega), if_neg (by omega), if_pos (by omega)]
                exact hb_
            · skip
              refine r_aload_0 dX5_stand_49 (r_getR dX5_stand_50 fX5_46 (rfl) (rfl) (r_aload_0 dX5_stand_53 (r_getR dX5_stand_54 fX5_42 (rfl) (rfl) ?_)))
              refine r_cVV1 dX5_stand_57 vX5_175 (rfl) (x_become tb16 tb6 (by decide) hτv) (by decide) (Nat.le_of_ble_eq_true rfl) (fun M_57 h_57 => ?_)
              obtain ⟨w0, f0⟩ := h_57
              refine r_aload_0 dX5_stand_60 (r_getR dX5_stand_61 fX5_46 (rfl) (rfl) (r_getR dX5_stand_64 fX5_137 (rfl) (rfl) (r_iload_1 dX5_stand_67 (r_iload_6 dX5_stand_68 ?_))))
              refine r_iasN dX5_stand_70 (rfl) (by omega) (by omega) (by omega) ?_
              have w1 : TW _ 16 (st τ 3 q (i : Int)) := w0.up3 (i := q) (v := (i : Int))
              have f1 : Fr (scb 16) Mv _ := f0.up (k := 20) (i := q) (v := (i : Int)) (scb_in (b := 16) (by omega) (by omega))
              have x1 := Rv.2.1.scb tb16 f1
              refine r_aload_0 dX5_stand_71 (r_iload_2 dX5_stand_72 ?_)
              refine r_cVV1 dX5_stand_73 vX5_179 (rfl) (x_passT w1 (hw.put (by omega)) x1 (by omega) (by rw [st_ne (Or.inl (by decide))]; omega)) (by decide) (Nat.le_of_ble_eq_true rfl) (fun M_73 h_73 => ?_)
              obtain ⟨w2, f2⟩ := h_73
              have hfi : 0 ≤ sRun X (st τ 3 q (i : Int)) k 4 q ∧ sRun X (st τ 3 q (i : Int)) k 4 q ≤ 99 := hFb i (by omega)
              refine r_aload_0 dX5_stand_76 (r_getR dX5_stand_77 fX5_46 (rfl) (rfl) (r_getR dX5_stand_80 fX5_140 (rfl) (rfl) (r_iload_1 dX5_stand_83 (r_ialN dX5_stand_84 (rfl) (by omega) (by omega) (w2.e4 hq6) (r_iload_5 dX5_stand_85 ?_)))))
              refine r_icmp_le dX5_stand_87 (by omega) (by omega) (fun c_87 => ?_) (fun c_87 => ?_)
              · skip
                refine r_iinc_6 dX5_stand_105 rfl (r_goto dX5_stand_108 ?_)
                exact ih (i + 1) b_ e_ _ (by omega) (by rw [mxF_no (by show ¬ _ < sRun X (st τ 3 q (i : Int)) k 4 q; rw [← he_]; omega)]; exact hb_) (by rw [mxF_no (by show ¬ _ < sRun X (st τ 3 q (i : Int)) k 4 q; rw [← he_]; omega)]; exact he_) (fv.trans (f1.trans f2)) (by omega)
              · skip
                refine r_aload_0 dX5_stand_90 (r_getR dX5_stand_91 fX5_46 (rfl) (rfl) (r_getR dX5_stand_94 fX5_140 (rfl) (rfl) (r_iload_1 dX5_stand_97 (r_ialN dX5_stand_98 (rfl) (by omega) (by omega) (w2.e4 hq6) (r_istore_5 dX5_stand_99 rfl (r_iload_6 dX5_stand_101 (r_istore_4 dX5_stand_103 rfl (r_iinc_6 dX5_stand_105 rfl (r_goto dX5_stand_108 ?_)))))))))
                exact ih (i + 1) _ _ _ (by omega) (by rw [mxF_yes (by show _ < sRun X (st τ 3 q (i : Int)) k 4 q; rw [← he_]; omega)]) (by rw [mxF_yes (by show _ < sRun X (st τ 3 q (i : Int)) k 4 q; rw [← he_]; omega)]) (fv.trans (f1.trans f2)) (by omega)
        exact lp_42 _ 0 (-1) (-1) M (by omega) rfl rfl Fr.refl (Nat.lt_succ_self _)
      · skip
        refine r_bipush dX5_stand_30 (by decide) ?_
        refine r_ireturn dX5_stand_32 rfl ?_
        refine ⟨_, rfl, ?_, hR⟩
        unfold a_stand
        simp only []
        rw [if_neg (by omega), if_pos (by omega)]
  · skip
    refine r_bipush dX5_stand_8 (by decide) ?_
    refine r_ireturn dX5_stand_10 rfl ?_
    refine ⟨_, rfl, ?_, hR⟩
    unfold a_stand
    simp only []
    rw [if_pos (by omega)]
set_option maxRecDepth 10000 in
set_option maxHeartbeats 4000000 in
theorem x_eos {M : Mem} {p q d nT : Nat} {τ : Tn} {X : Nat → Tx} (hτ : TW M 6 τ) (hw : WF nT τ) (hX : XT M nT X) (hcl : τ 8 1 ≤ 9999) (hp : p < 6) (hq : q < 6) (hd : d < 8) : Con GX 6 kX5_eggsOfSecond [rv 0, iv (p : Int), iv (q : Int), iv (d : Int)] M (pI (fun a M2 => a = sTry X (sTry X τ p d) q d 4 q ∧ Fr (scb 16) M M2)) := by
  refine con_of [some (rv 0), some (iv (p : Int)), some (iv (q : Int)), some (iv (d : Int))] (plX5) rfl (Nat.le_of_ble_eq_true rfl) (fun z => ?_)
  refine r_aload_0 dX5_eggsOfSecond_0 (r_getR dX5_eggsOfSecond_1 fX5_46 (rfl) (rfl) (r_aload_0 dX5_eggsOfSecond_4 (r_getR dX5_eggsOfSecond_5 fX5_42 (rfl) (rfl) ?_)))
  refine r_cVV1 dX5_eggsOfSecond_8 vX5_175 (rfl) (x_become tb16 tb6 (by decide) hτ) (by decide) (Nat.le_of_ble_eq_true rfl) (fun M_8 h_8 => ?_)
  obtain ⟨w0, f0⟩ := h_8
  have x0 := hX.scb tb16 f0
  refine r_aload_0 dX5_eggsOfSecond_11 (r_getR dX5_eggsOfSecond_12 fX5_46 (rfl) (rfl) (r_iload_1 dX5_eggsOfSecond_15 (r_iload_3 dX5_eggsOfSecond_16 ?_)))
  refine r_cVI2 dX5_eggsOfSecond_17 vX5_164 (rfl) (x_attempt tb16 w0 hw x0 (by omega) hp hd) (by decide) (Nat.le_of_ble_eq_true rfl) (fun b_17 M_17 h_17 => ?_)
  obtain ⟨rfl, w1, f1⟩ := h_17
  have x1 := hX.scb tb16 (f0.trans f1)
  refine r_pop_i dX5_eggsOfSecond_20 (r_aload_0 dX5_eggsOfSecond_21 (r_getR dX5_eggsOfSecond_22 fX5_46 (rfl) (rfl) (r_iload_2 dX5_eggsOfSecond_25 (r_iload_3 dX5_eggsOfSecond_26 ?_))))
  refine r_cVI2 dX5_eggsOfSecond_27 vX5_164 (rfl) (x_attempt tb16 w1 (sTry_wf hw hp hd) x1 (by rw [sTry_8]; omega) hq hd) (by decide) (Nat.le_of_ble_eq_true rfl) (fun b_27 M_27 h_27 => ?_)
  obtain ⟨rfl, w2, f2⟩ := h_27
  refine r_pop_i dX5_eggsOfSecond_30 (r_aload_0 dX5_eggsOfSecond_31 (r_getR dX5_eggsOfSecond_32 fX5_46 (rfl) (rfl) (r_getR dX5_eggsOfSecond_35 fX5_140 (rfl) (rfl) (r_iload_2 dX5_eggsOfSecond_38 (r_ialN dX5_eggsOfSecond_39 (rfl) (by omega) (by omega) (w2.e4 hq) ?_)))))
  refine r_ireturn dX5_eggsOfSecond_40 rfl ?_
  exact ⟨_, rfl, rfl, f0.trans (f1.trans f2)⟩
set_option maxRecDepth 10000 in
set_option maxHeartbeats 4000000 in
theorem x5_pair {M : Mem} {nT tn : Nat} {X : Nat → Tx} {τ τi : Tn} {img : Bool} {tp ss sz : Nat → Int} {cl : Nat → Nat → Int} (hR : RX M (nT, X, τ, img, τi, tn, tp, ss, sz, cl)) (hI : INV (nT, X, τ, img, τi, tn, tp, ss, sz, cl)) {what : Int} (h_what : ib what) : Con GX 9 kX5_pair [rv 0, iv what] M (pI (fun a M2 => a = a_pair (nT, X, τ, img, τi, tn, tp, ss, sz, cl) what ∧ RX M2 (nT, X, τ, img, τi, tn, tp, ss, sz, cl))) := by
  refine con_of [some (rv 0), some (iv what), none, none, none, none, none, none] (plX5) rfl (Nat.le_of_ble_eq_true rfl) (fun z => ?_)
  have hR0 := hR
  obtain ⟨hτ, hX, hnT, himg, hτi, ⟨htn, htp⟩, hsh⟩ := hR0
  obtain ⟨⟨iT1, iT6⟩, ⟨hw, icl⟩, iim, ⟨itn, itp⟩, ish⟩ := hI
  obtain ⟨⟨wn, wn2⟩, wcl, ⟨wl, wl2⟩, -, -⟩ := id hw
  have hcl : τ 8 1 < 2147483648 := by omega
  refine r_mb (fun hMB => ?_)
  refine r_iload_1 dX5_pair_0 (r_iconst dX5_pair_1 (r_iconst dX5_pair_2 ?_))
  refine r_cSI3 dX5_pair_3 sX5_88 (x_within (d := 0) (by omega) (by omega) (by omega)) (by decide) (Nat.le_of_ble_eq_true rfl) (fun b_3 M_3 h_3 => ?_)
  obtain ⟨rfl, rfl⟩ := h_3
  first | refine r_ifd_ne dX5_pair_6 (fun c_6 => ?_) (fun c_6 => ?_) | refine r_ifb_ne dX5_pair_6 (fun c_6 => ?_) (fun c_6 => ?_)
  · skip
    obtain ⟨N, hN⟩ : ∃ N : Nat, τ 8 0 = N := ⟨(τ 8 0).toNat, by omega⟩
    have hNt : (τ 8 0).toNat = N := by omega
    refine r_iconst dX5_pair_12 (r_istore_2 dX5_pair_13 rfl (r_iconst dX5_pair_14 (r_istore_3 dX5_pair_15 rfl (r_iconst dX5_pair_16 (r_istore_4 dX5_pair_17 rfl ?_)))))
    have lp_19 : ∀ (NN : Nat) (p : Nat) (u5 u6 u7 : Option PV) (b_ e_ : Int) (Mv : Mem) (hp : p ≤ N) (hb_ : b_ = (pP X τ N p).1) (he_ : e_ = (pP X τ N p).2) (hbe : -1 ≤ e_ ∧ e_ ≤ 99) (fv : Fr (scb 16) M Mv), 100 - p < NN → WP kX5_pair GX 9 (pI (fun a M2 => a = a_pair (nT, X, τ, img, τi, tn, tp, ss, sz, cl) what ∧ RX M2 (nT, X, τ, img, τi, tn, tp, ss, sz, cl))) z 19 [some (rv 0), some (iv what), some (iv b_), some (iv e_), some (iv (p : Int)), u5, u6, u7] [] Mv := by
      intro NN
      induction NN with
      | zero => intros; omega
      | succ NN ih =>
        intro p u5 u6 u7 b_ e_ Mv hp hb_ he_ hbe fv hm
        have Rv := hR.th fv
        have hτv := Rv.1
        have ihp := ih
        refine r_iload_4 dX5_pair_19 ?_
        refine r_aload_0 dX5_pair_21 (r_getR dX5_pair_22 fX5_42 (rfl) (rfl) (r_getE dX5_pair_25 fX5_66 (rfl) (rfl) (hτv.people) ?_))
        refine r_icmp_ge dX5_pair_28 (by omega) (by omega) (fun c_28 => ?_) (fun c_28 => ?_)
        · skip
          obtain rfl : p = N := by omega
          refine r_iload_1 dX5_pair_121 ?_
          refine r_if_ne dX5_pair_122 (by omega) (fun c_122 => ?_) (fun c_122 => ?_)
          · skip
            refine r_iload_3 dX5_pair_129 ?_
            refine r_ireturn dX5_pair_130 rfl ?_
            refine ⟨_, rfl, ?_, Rv⟩
            unfold a_pair
            simp only []
            rw [hNt, if_neg (by omega), if_neg (by omega)]
            exact he_
          · skip
            refine r_iload_2 dX5_pair_125 (r_goto dX5_pair_126 ?_)
            refine r_ireturn dX5_pair_130 rfl ?_
            refine ⟨_, rfl, ?_, Rv⟩
            unfold a_pair
            simp only []
            rw [hNt, if_neg (by omega), if_pos (by omega)]
            exact hb_
        · skip
          have hp6 : p < 6 := by omega
          refine r_iconst dX5_pair_31 (r_istore_5 dX5_pair_32 rfl ?_)
          have lp_34 : ∀ (NN : Nat) (q : Nat) (u6 u7 : Option PV) (b_ e_ : Int) (Mv : Mem) (hq : q ≤ N) (hb_ : b_ = (pQ X τ p (pP X τ N p) q).1) (he_ : e_ = (pQ X τ p (pP X τ N p) q).2) (hbe : -1 ≤ e_ ∧ e_ ≤ 99) (fv : Fr (scb 16) M Mv), 100 - q < NN → WP kX5_pair GX 9 (pI (fun a M2 => a = a_pair (nT, X, τ, img, τi, tn, tp, ss, sz, cl) what ∧ RX M2 (nT, X, τ, img, τi, tn, tp, ss, sz, cl))) z 34 [some (rv 0), some (iv what), some (iv b_), some (iv e_), some (iv (p : Int)), some (iv (q : Int)), u6, u7] [] Mv := by
            intro NN
            induction NN with
            | zero => intros; omega
            | succ NN ih =>
              intro q u6 u7 b_ e_ Mv hq hb_ he_ hbe fv hm
              have Rv := hR.th fv
              have hτv := Rv.1
              have ihq := ih
              refine r_iload_5 dX5_pair_34 ?_
              refine r_aload_0 dX5_pair_36 (r_getR dX5_pair_37 fX5_42 (rfl) (rfl) (r_getE dX5_pair_40 fX5_66 (rfl) (rfl) (hτv.people) ?_))
              refine r_icmp_ge dX5_pair_43 (by omega) (by omega) (fun c_43 => ?_) (fun c_43 => ?_)
              · skip
                obtain rfl : q = N := by omega
                refine r_iinc_4 dX5_pair_115 rfl (r_goto dX5_pair_118 ?_)
                exact ihp (p + 1) _ _ _ _ _ _ (by omega) hb_ he_ hbe fv (by omega)
              · skip
                have hq6 : q < 6 := by omega
                refine r_iconst dX5_pair_46 (r_istore_6 dX5_pair_47 rfl ?_)
                have lp_49 : ∀ (NN : Nat) (d : Nat) (u7 : Option PV) (b_ e_ : Int) (Mv : Mem) (hd : d ≤ 8) (hb_ : b_ = (pD X τ p q (pQ X τ p (pP X τ N p) q) d).1) (he_ : e_ = (pD X τ p q (pQ X τ p (pP X τ N p) q) d).2) (hbe : -1 ≤ e_ ∧ e_ ≤ 99) (fv : Fr (scb 16) M Mv), 100 - d < NN → WP kX5_pair GX 9 (pI (fun a M2 => a = a_pair (nT, X, τ, img, τi, tn, tp, ss, sz, cl) what ∧ RX M2 (nT, X, τ, img, τi, tn, tp, ss, sz, cl))) z 49 [some (rv 0), some (iv what), some (iv b_), some (iv e_), some (iv (p : Int)), some (iv (q : Int)), some (iv (d : Int)), u7] [] Mv := by
                  intro NN
                  induction NN with
                  | zero => intros; omega
                  | succ NN ih =>
                    intro d u7 b_ e_ Mv hd hb_ he_ hbe fv hm
                    have Rv := hR.th fv
                    have hτv := Rv.1
                    refine r_iload_6 dX5_pair_49 ?_
                    refine r_bipush dX5_pair_51 (by decide) ?_
                    refine r_icmp_ge dX5_pair_53 (by omega) (by omega) (fun c_53 => ?_) (fun c_53 => ?_)
                    · skip
                      obtain rfl : d = 8 := by omega
                      refine r_iinc_5 dX5_pair_109 rfl (r_goto dX5_pair_112 ?_)
                      exact ihq (q + 1) _ _ _ _ _ (by omega) hb_ he_ hbe fv (by omega)
                    · skip
                      have jn_77 : ∀ (x : Int) (M7 : Mem) (f7 : Fr (scb 16) Mv M7) (hx : x = pE X τ p q d) (hxb : -1 ≤ x ∧ x ≤ 99), WP kX5_pair GX 9 (pI (fun a M2 => a = a_pair (nT, X, τ, img, τi, tn, tp, ss, sz, cl) what ∧ RX M2 (nT, X, τ, img, τi, tn, tp, ss, sz, cl))) z 77 [some (rv 0), some (iv what), some (iv b_), some (iv e_), some (iv (p : Int)), some (iv (q : Int)), some (iv (d : Int)), u7] [iv x] M7 := by
                        intro x M7 f7 hx hxb
                        refine r_istore_7 dX5_pair_77 rfl ?_
                        refine r_iload_7 dX5_pair_79 (r_iload_3 dX5_pair_81 ?_)
                        refine r_icmp_le dX5_pair_82 (by omega) (by omega) (fun c_82 => ?_) (fun c_82 => ?_)
                        · skip
                          refine r_iinc_6 dX5_pair_103 rfl (r_goto dX5_pair_106 ?_)
                          exact ih (d + 1) _ b_ e_ _ (by omega) (by rw [pD_no (by rw [← hx, ← he_]; omega)]; exact hb_) (by rw [pD_no (by rw [← hx, ← he_]; omega)]; exact he_) hbe (fv.trans f7) (by omega)
                        · skip
                          refine r_iload_7 dX5_pair_85 (r_istore_3 dX5_pair_87 rfl (r_bipush dX5_pair_88 (by decide) (r_iload_4 dX5_pair_90 (r_imul dX5_pair_92 (r_bipush dX5_pair_93 (by decide) (r_iload_5 dX5_pair_95 (r_imul dX5_pair_97 (r_iadd dX5_pair_98 (r_iload_6 dX5_pair_99 (r_iadd dX5_pair_101 (r_istore_2 dX5_pair_102 rfl (r_iinc_6 dX5_pair_103 rfl (r_goto dX5_pair_106 ?_)))))))))))))
                          exact ih (d + 1) _ _ x _ (by omega) (by rw [pD_yes (by rw [← hx, ← he_]; omega)]) (by rw [pD_yes (by rw [← hx, ← he_]; omega)]; exact hx) hxb (fv.trans f7) (by omega)
                      refine r_iload_4 dX5_pair_56 (r_iload_5 dX5_pair_58 ?_)
                      refine r_icmp_ne dX5_pair_60 (by omega) (by omega) (fun c_60 => ?_) (fun c_60 => ?_)
                      · skip
                        refine r_aload_0 dX5_pair_67 (r_iload_4 dX5_pair_68 (r_iload_5 dX5_pair_70 (r_iload_6 dX5_pair_72 ?_)))
                        refine r_cVI3 dX5_pair_74 vX5_195 (rfl) (x_eos hτv hw Rv.2.1 icl hp6 hq6 (by omega)) (by decide) (Nat.le_of_ble_eq_true rfl) (fun b_74 M_74 h_74 => ?_)
                        obtain ⟨rfl, f4⟩ := h_74
                        have w9 := (sTry_wf (X := X) (sTry_wf (X := X) hw hp6 (d := d) (by omega)) hq6 (d := d) (by omega)).p hq6
                        exact jn_77 _ _ f4 (by unfold pE; rw [if_neg (by omega)]) (by omega)
                      · skip
                        refine r_iconst dX5_pair_63 (r_goto dX5_pair_64 ?_)
                        exact jn_77 _ _ Fr.refl (by unfold pE; rw [if_pos (by omega)]) (by omega)
                exact lp_49 _ 0 _ _ _ _ (by omega) hb_ he_ hbe fv (Nat.lt_succ_self _)
          exact lp_34 _ 0 _ _ _ _ _ (by omega) hb_ he_ hbe fv (Nat.lt_succ_self _)
    exact lp_19 _ 0 none none none (-1) (-1) M (by omega) rfl rfl (by omega) Fr.refl (Nat.lt_succ_self _)
  · skip
    refine r_bipush dX5_pair_9 (by decide) ?_
    refine r_ireturn dX5_pair_11 rfl ?_
    refine ⟨_, rfl, ?_, hR⟩
    unfold a_pair
    simp only []
    rw [if_pos (by omega)]
set_option maxRecDepth 10000 in
set_option maxHeartbeats 4000000 in
theorem x5_rounds {M : Mem} {nT tn : Nat} {X : Nat → Tx} {τ τi : Tn} {img : Bool} {tp ss sz : Nat → Int} {cl : Nat → Nat → Int} (hR : RX M (nT, X, τ, img, τi, tn, tp, ss, sz, cl)) (hI : INV (nT, X, τ, img, τi, tn, tp, ss, sz, cl)) {n : Int} (h_n : ib n) {what : Int} (h_what : ib what) : Con GX 9 kX5_rounds [rv 0, iv n, iv what] M (pI (fun a M2 => a = a_rounds (nT, X, τ, img, τi, tn, tp, ss, sz, cl) n what ∧ RX M2 (nT, X, τ, img, τi, tn, tp, ss, sz, cl))) := by
  refine con_of [some (rv 0), some (iv n), some (iv what), none, none, none, none] (plX5) rfl (Nat.le_of_ble_eq_true rfl) (fun z => ?_)
  have hR0 := hR
  obtain ⟨hτ, hX, hnT, himg, hτi, ⟨htn, htp⟩, hsh⟩ := hR0
  obtain ⟨⟨iT1, iT6⟩, ⟨hw, icl⟩, iim, ⟨itn, itp⟩, ish⟩ := hI
  obtain ⟨⟨wn, wn2⟩, wcl, ⟨wl, wl2⟩, -, -⟩ := id hw
  have hcl : τ 8 1 < 2147483648 := by omega
  refine r_mb (fun hMB => ?_)
  refine r_iload_1 dX5_rounds_0 (r_iconst dX5_rounds_1 (r_bipush dX5_rounds_2 (by decide) ?_))
  refine r_cSI3 dX5_rounds_4 sX5_88 (x_within (d := 0) (by omega) (by omega) (by omega)) (by decide) (Nat.le_of_ble_eq_true rfl) (fun b_4 M_4 h_4 => ?_)
  obtain ⟨rfl, rfl⟩ := h_4
  first | refine r_ifd_eq dX5_rounds_7 (fun c_7 => ?_) (fun c_7 => ?_) | refine r_ifb_eq dX5_rounds_7 (fun c_7 => ?_) (fun c_7 => ?_)
  · skip
    refine r_bipush dX5_rounds_19 (by decide) ?_
    refine r_ireturn dX5_rounds_21 rfl ?_
    refine ⟨_, rfl, ?_, hR⟩
    unfold a_rounds
    simp only []
    rw [if_pos (by omega)]
  · skip
    refine r_iload_2 dX5_rounds_10 (r_iconst dX5_rounds_11 (r_iconst dX5_rounds_12 ?_))
    refine r_cSI3 dX5_rounds_13 sX5_88 (x_within (d := 0) (by omega) (by omega) (by omega)) (by decide) (Nat.le_of_ble_eq_true rfl) (fun b_13 M_13 h_13 => ?_)
    obtain ⟨rfl, rfl⟩ := h_13
    first | refine r_ifd_ne dX5_rounds_16 (fun c_16 => ?_) (fun c_16 => ?_) | refine r_ifb_ne dX5_rounds_16 (fun c_16 => ?_) (fun c_16 => ?_)
    · skip
      obtain ⟨k, rfl⟩ : ∃ k : Nat, n = k := ⟨n.toNat, by omega⟩
      obtain ⟨N, hN⟩ : ∃ N : Nat, τ 8 0 = N := ⟨(τ 8 0).toNat, by omega⟩
      have hNt : (τ 8 0).toNat = N := by omega
      refine r_aload_0 dX5_rounds_22 (r_getR dX5_rounds_23 fX5_46 (rfl) (rfl) (r_aload_0 dX5_rounds_26 (r_getR dX5_rounds_27 fX5_42 (rfl) (rfl) ?_)))
      refine r_cVV1 dX5_rounds_30 vX5_175 (rfl) (x_become tb16 tb6 (by decide) hτ) (by decide) (Nat.le_of_ble_eq_true rfl) (fun M_30 h_30 => ?_)
      obtain ⟨w0, f0⟩ := h_30
      have x0 := hX.scb tb16 f0
      refine r_aload_0 dX5_rounds_33 (r_iload_1 dX5_rounds_34 ?_)
      refine r_cVV1 dX5_rounds_35 vX5_179 (rfl) (x_passT w0 hw x0 (by omega) (by omega)) (by decide) (Nat.le_of_ble_eq_true rfl) (fun M_35 h_35 => ?_)
      obtain ⟨w1, f1⟩ := h_35
      obtain ⟨m0, hm0, hm20, hmt0⟩ := snd_b (sRun X τ k)
      have hpm0 := pop8_b m0
      refine r_iconst dX5_rounds_38 (r_istore_3 dX5_rounds_39 rfl (r_aload_0 dX5_rounds_40 (r_getR dX5_rounds_41 fX5_46 (rfl) (rfl) ?_)))
      refine r_cVI0 dX5_rounds_44 vX5_72 (rfl) (x_snd (n := 0) tb16 w1) (by decide) (Nat.le_of_ble_eq_true rfl) (fun b_44 M_44 h_44 => ?_)
      obtain ⟨rfl, rfl⟩ := h_44
      rw [hm0]
      refine r_cSI1 dX5_rounds_47 sX5_76 (j_bitCount (d := 0) (by omega)) (by decide) (Nat.le_of_ble_eq_true rfl) (fun b_47 M_47 h_47 => ?_)
      obtain ⟨rfl, rfl⟩ := h_47
      refine r_istore_4 dX5_rounds_50 rfl (r_iconst dX5_rounds_52 (r_istore_5 dX5_rounds_53 rfl ?_))
      have lp_55 : ∀ (NN : Nat) (p : Nat) (u6 : Option PV) (b_ e_ : Int) (Mv : Mem) (hp : p ≤ N) (hb_ : b_ = (mxG (fun p => rC X τ p k) ((pop8 m0 : Nat) : Int) p).1) (he_ : e_ = (mxG (fun p => rC X τ p k) ((pop8 m0 : Nat) : Int) p).2) (hbe : 0 ≤ e_ ∧ e_ ≤ 8) (fv : Fr (scb 16) M Mv), 100 - p < NN → WP kX5_rounds GX 9 (pI (fun a M2 => a = a_rounds (nT, X, τ, img, τi, tn, tp, ss, sz, cl) (k : Int) what ∧ RX M2 (nT, X, τ, img, τi, tn, tp, ss, sz, cl))) z 55 [some (rv 0), some (iv (k : Int)), some (iv what), some (iv b_), some (iv e_), some (iv (p : Int)), u6] [] Mv := by
        intro NN
        induction NN with
        | zero => intros; omega
        | succ NN ih =>
          intro p u6 b_ e_ Mv hp hb_ he_ hbe fv hm
          have Rv := hR.th fv
          have hτv := Rv.1
          have ihp := ih
          refine r_iload_5 dX5_rounds_55 ?_
          refine r_aload_0 dX5_rounds_57 (r_getR dX5_rounds_58 fX5_42 (rfl) (rfl) (r_getE dX5_rounds_61 fX5_66 (rfl) (rfl) (hτv.people) ?_))
          refine r_icmp_ge dX5_rounds_64 (by omega) (by omega) (fun c_64 => ?_) (fun c_64 => ?_)
          · skip
            obtain rfl : p = N := by omega
            refine r_iload_2 dX5_rounds_143 ?_
            refine r_if_ne dX5_rounds_144 (by omega) (fun c_144 => ?_) (fun c_144 => ?_)
            · skip
              refine r_iload_4 dX5_rounds_151 ?_
              refine r_ireturn dX5_rounds_153 rfl ?_
              refine ⟨_, rfl, ?_, Rv⟩
              unfold a_rounds
              simp only [Int.toNat_natCast]
              rw [hNt, hmt0, if_neg (by omega), if_neg (by omega)]
              exact he_
            · skip
              refine r_iload_3 dX5_rounds_147 (r_goto dX5_rounds_148 ?_)
              refine r_ireturn dX5_rounds_153 rfl ?_
              refine ⟨_, rfl, ?_, Rv⟩
              unfold a_rounds
              simp only [Int.toNat_natCast]
              rw [hNt, hmt0, if_neg (by omega), if_pos (by omega)]
              exact hb_
          · skip
            have hp6 : p < 6 := by omega
            refine r_aload_0 dX5_rounds_67 (r_getR dX5_rounds_68 fX5_46 (rfl) (rfl) (r_aload_0 dX5_rounds_71 (r_getR dX5_rounds_72 fX5_42 (rfl) (rfl) ?_)))
            refine r_cVV1 dX5_rounds_75 vX5_175 (rfl) (x_become tb16 tb6 (by decide) hτv) (by decide) (Nat.le_of_ble_eq_true rfl) (fun M_75 h_75 => ?_)
            obtain ⟨w2, f2⟩ := h_75
            refine r_iconst dX5_rounds_78 (r_istore_6 dX5_rounds_79 rfl ?_)
            have lp_81 : ∀ (NN : Nat) (d : Nat) (Mw : Mem) (hd : d ≤ 8) (ww : TW Mw 16 (aT X τ p d)) (fw : Fr (scb 16) M Mw), 100 - d < NN → WP kX5_rounds GX 9 (pI (fun a M2 => a = a_rounds (nT, X, τ, img, τi, tn, tp, ss, sz, cl) (k : Int) what ∧ RX M2 (nT, X, τ, img, τi, tn, tp, ss, sz, cl))) z 81 [some (rv 0), some (iv (k : Int)), some (iv what), some (iv b_), some (iv e_), some (iv (p : Int)), some (iv (d : Int))] [] Mw := by
              intro NN
              induction NN with
              | zero => intros; omega
              | succ NN ih =>
                intro d Mw hd ww fw hm
                have xw := hX.scb tb16 fw
                have wfa := aT_wf (X := X) hw hp6 d hd
                have c8 := aT_8 X τ p 1 d
                refine r_iload_6 dX5_rounds_81 ?_
                refine r_bipush dX5_rounds_83 (by decide) ?_
                refine r_icmp_ge dX5_rounds_85 (by omega) (by omega) (fun c_85 => ?_) (fun c_85 => ?_)
                · skip
                  obtain rfl : d = 8 := by omega
                  refine r_aload_0 dX5_rounds_106 (r_iload_1 dX5_rounds_107 ?_)
                  refine r_cVV1 dX5_rounds_108 vX5_179 (rfl) (x_passT ww wfa xw (by omega) (by omega)) (by decide) (Nat.le_of_ble_eq_true rfl) (fun M_108 h_108 => ?_)
                  obtain ⟨w4, f4⟩ := h_108
                  have f3 := fw.trans f4
                  obtain ⟨m, hm, hm2, hmt⟩ := snd_b (sRun X (aT X τ p 8) k)
                  have hpm := pop8_b m
                  have hrc : rC X τ p k = ((pop8 m : Nat) : Int) := by unfold rC; rw [hmt]
                  refine r_aload_0 dX5_rounds_111 (r_getR dX5_rounds_112 fX5_46 (rfl) (rfl) ?_)
                  refine r_cVI0 dX5_rounds_115 vX5_72 (rfl) (x_snd (n := 0) tb16 w4) (by decide) (Nat.le_of_ble_eq_true rfl) (fun b_115 M_115 h_115 => ?_)
                  obtain ⟨rfl, rfl⟩ := h_115
                  rw [hm]
                  refine r_cSI1 dX5_rounds_118 sX5_76 (j_bitCount (d := 0) (by omega)) (by decide) (Nat.le_of_ble_eq_true rfl) (fun b_118 M_118 h_118 => ?_)
                  obtain ⟨rfl, rfl⟩ := h_118
                  refine r_istore_6 dX5_rounds_121 rfl (r_iload_6 dX5_rounds_123 (r_iload_4 dX5_rounds_125 ?_))
                  refine r_icmp_le dX5_rounds_127 (by omega) (by omega) (fun c_127 => ?_) (fun c_127 => ?_)
                  · skip
                    refine r_iinc_5 dX5_rounds_137 rfl (r_goto dX5_rounds_140 ?_)
                    exact ihp (p + 1) _ b_ e_ _ (by omega) (by rw [mxG_no (by show ¬ _ < rC X τ p k; rw [hrc, ← he_]; omega)]; exact hb_) (by rw [mxG_no (by show ¬ _ < rC X τ p k; rw [hrc, ← he_]; omega)]; exact he_) hbe f3 (by omega)
                  · skip
                    refine r_iload_6 dX5_rounds_130 (r_istore_4 dX5_rounds_132 rfl (r_iload_5 dX5_rounds_134 (r_istore_3 dX5_rounds_136 rfl (r_iinc_5 dX5_rounds_137 rfl (r_goto dX5_rounds_140 ?_)))))
                    exact ihp (p + 1) _ _ _ _ (by omega) (by rw [mxG_yes (by show _ < rC X τ p k; rw [hrc, ← he_]; omega)]) (by rw [mxG_yes (by show _ < rC X τ p k; rw [hrc, ← he_]; omega)]; exact hrc.symm) (by omega) f3 (by omega)
                · skip
                  have hd8 : d < 8 := by omega
                  refine r_aload_0 dX5_rounds_88 (r_getR dX5_rounds_89 fX5_46 (rfl) (rfl) (r_iload_5 dX5_rounds_92 (r_iload_6 dX5_rounds_94 ?_)))
                  refine r_cVI2 dX5_rounds_96 vX5_164 (rfl) (x_attempt tb16 ww wfa xw (by omega) hp6 hd8) (by decide) (Nat.le_of_ble_eq_true rfl) (fun b_96 M_96 h_96 => ?_)
                  obtain ⟨rfl, w3, f3⟩ := h_96
                  refine r_pop_i dX5_rounds_99 (r_iinc_6 dX5_rounds_100 rfl (r_goto dX5_rounds_103 ?_))
                  exact ih (d + 1) _ (by omega) w3 (fw.trans f3) (by omega)
            exact lp_81 _ 0 _ (by omega) w2 (fv.trans f2) (Nat.lt_succ_self _)
      exact lp_55 _ 0 none (-1) _ _ (by omega) rfl rfl (by omega) (f0.trans f1) (Nat.lt_succ_self _)
    · skip
      refine r_bipush dX5_rounds_19 (by decide) ?_
      refine r_ireturn dX5_rounds_21 rfl ?_
      refine ⟨_, rfl, ?_, hR⟩
      unfold a_rounds
      simp only []
      rw [if_pos (by omega)]

theorem qL_246 : Cond.constantLong RX5 246 (Int64.ofInt 48271) ∈ q_tbl := by
  rw [show Int64.ofInt 48271 = 48271 by decide +kernel]
  exact qX5_246
theorem qL_248 : Cond.constantLong RX5 248 (Int64.ofInt 2147483647) ∈ q_tbl := by
  rw [show Int64.ofInt 2147483647 = 2147483647 by decide +kernel]
  exact qX5_248
theorem qL_242 : Cond.constantLong RX5 242 (Int64.ofInt 6) ∈ q_tbl := by
  rw [show Int64.ofInt 6 = 6 by decide +kernel]
  exact qX5_242
theorem qL_244 : Cond.constantLong RX5 244 (Int64.ofInt 8) ∈ q_tbl := by
  rw [show Int64.ofInt 8 = 8 by decide +kernel]
  exact qX5_244
theorem qI_234 : Cond.constant RX5 234 (Int32.ofInt 99999) ∈ q_tbl := by
  rw [show Int32.ofInt 99999 = 99999 by decide +kernel]
  exact qX5_234
set_option maxRecDepth 10000 in
set_option maxHeartbeats 4000000 in
theorem x_nxl {n : Nat} {M : Mem} {l : Int} (hl : 0 ≤ l ∧ l < 2147483648) : Con GX n kX5_nextLot [jv l] M (pJ (fun v M2 => M = M2 ∧ v = nxl l)) := by
  refine con_of [some (jv l), none] (plX5) rfl (Nat.le_of_ble_eq_true rfl) (fun z => ?_)
  refine r_lload_0 dX5_nextLot_0 (r_ldc2 (a := 48271) dX5_nextLot_1 qL_246 (r_lmul dX5_nextLot_4 (r_ldc2 (a := 2147483647) dX5_nextLot_5 qL_248 ?_)))
  refine r_lrem (r := nxl l) dX5_nextLot_8 ((i6_rem (a := l * 48271) (by omega) (by omega)).1) ((i6_rem (a := l * 48271) (by omega) (by omega)).2) ?_
  refine r_lreturn dX5_nextLot_9 rfl ?_
  exact ⟨_, rfl, rfl, rfl⟩
set_option maxRecDepth 10000 in
set_option maxHeartbeats 4000000 in
theorem x_tbl {M : Mem} {n nT : Nat} {seed : Int} {τ : Tn} {X : Nat → Tx} (hτ : TW M 6 τ) (hw : WF nT τ) (hX : XT M nT X) (hcl : τ 8 1 ≤ 9999) (hs : 0 ≤ seed ∧ seed < 1000000) (hn : n ≤ 60) : Con GX 6 kX5_thinkByLots [rv 0, iv seed, iv (n : Int)] M (pI (fun a M2 => a = (lD X τ seed n).1 ∧ TW M2 16 (lD X τ seed n).2.1 ∧ Fr (scb 16) M M2)) := by
  refine con_of [some (rv 0), some (iv seed), some (iv (n : Int)), none, none, none, none, none, none] (plX5) rfl (Nat.le_of_ble_eq_true rfl) (fun z => ?_)
  have h0 := hw.1
  refine r_aload_0 dX5_thinkByLots_0 (r_getR dX5_thinkByLots_1 fX5_46 (rfl) (rfl) (r_aload_0 dX5_thinkByLots_4 (r_getR dX5_thinkByLots_5 fX5_42 (rfl) (rfl) ?_)))
  refine r_cVV1 dX5_thinkByLots_8 vX5_175 (rfl) (x_become tb16 tb6 (by decide) hτ) (by decide) (Nat.le_of_ble_eq_true rfl) (fun M_8 h_8 => ?_)
  obtain ⟨w0, f0⟩ := h_8
  refine r_iconst dX5_thinkByLots_11 (r_istore_3 dX5_thinkByLots_12 rfl (r_iload_1 dX5_thinkByLots_13 (r_iconst dX5_thinkByLots_14 (r_iadd dX5_thinkByLots_15 (r_i2l dX5_thinkByLots_16 (by omega) (r_lstore_4 dX5_thinkByLots_17 rfl (r_iconst dX5_thinkByLots_19 (r_istore_6 dX5_thinkByLots_20 rfl ?_))))))))
  have lp_22 : ∀ (NN : Nat) (i : Nat) (c l : Int) (T : Tn) (u7 u8 : Option PV) (Mv : Mem) (hi : i ≤ n) (hl : l = (lD X τ seed i).2.2) (hc : c = (lD X τ seed i).1) (hT : T = (lD X τ seed i).2.1) (wv : TW Mv 16 T) (fv : Fr (scb 16) M Mv), 100 - i < NN → WP kX5_thinkByLots GX 6 (pI (fun a M2 => a = (lD X τ seed n).1 ∧ TW M2 16 (lD X τ seed n).2.1 ∧ Fr (scb 16) M M2)) z 22 [some (rv 0), some (iv seed), some (iv (n : Int)), some (iv c), some (jv l), none, some (iv (i : Int)), u7, u8] [] Mv := by
    intro NN
    induction NN with
    | zero => intros; omega
    | succ NN ih =>
      intro i c l T u7 u8 Mv hi hl hc hT wv fv hm
      have hlb := lD_lot (X := X) (τ := τ) (seed := seed) hs i
      rw [← hl] at hlb
      have wT : WF nT T := by rw [hT]; exact lD_wf hw i
      have T80 : T 8 0 = τ 8 0 := by rw [hT]; exact lD_80 i
      have T81 : T 8 1 = τ 8 1 := by rw [hT]; exact lD_80 i
      have hcb := lD_in (X := X) (τ := τ) (seed := seed) i
      rw [← hc] at hcb
      have n1 := nxl_in l
      have n2 := nxl_in (nxl l)
      have hτv : TW Mv 6 τ := hτ.fr fv (fun c g1 g2 => scb_off (scr_tb tb6 g1 g2) (by omega))
      have hL : lD X τ seed (i + 1) = (if nxl l % 6 < T 8 0 then (c + (if sOut T (nxl l % 6).toNat (nxl (nxl l) % 8).toNat = 2 then 1 else 0), sTry X T (nxl l % 6).toNat (nxl (nxl l) % 8).toNat, nxl (nxl l)) else (c, T, nxl (nxl l))) := by rw [hl, hc, hT]; rfl
      refine r_iload_6 dX5_thinkByLots_22 ?_
      refine r_iload_2 dX5_thinkByLots_24 ?_
      refine r_icmp_ge dX5_thinkByLots_25 (by omega) (by omega) (fun c_25 => ?_) (fun c_25 => ?_)
      · skip
        obtain rfl : i = n := by omega
        refine r_iload_3 dX5_thinkByLots_93 ?_
        refine r_ireturn dX5_thinkByLots_94 rfl ?_
        refine ⟨_, rfl, hc, ?_, fv⟩
        rw [← hT]
        exact wv
      · skip
        refine r_lload_4 dX5_thinkByLots_28 ?_
        refine r_cSJ1 dX5_thinkByLots_30 sX5_238 (x_nxl (n := 0) (by omega)) (by decide) (Nat.le_of_ble_eq_true rfl) (fun b_30 M_30 h_30 => ?_)
        obtain ⟨rfl, rfl⟩ := h_30
        refine r_lstore_4 dX5_thinkByLots_33 rfl (r_lload_4 dX5_thinkByLots_35 (r_ldc2 (a := 6) dX5_thinkByLots_37 qL_242 ?_))
        refine r_lrem (r := nxl l % 6) dX5_thinkByLots_40 ((i6_rem (a := nxl l) (b := 6) (by omega) (by omega)).1) ((i6_rem (a := nxl l) (b := 6) (by omega) (by omega)).2) ?_
        refine r_l2i dX5_thinkByLots_41 (r_istore_7 dX5_thinkByLots_42 rfl (r_lload_4 dX5_thinkByLots_44 ?_))
        refine r_cSJ1 dX5_thinkByLots_46 sX5_238 (x_nxl (n := 0) (by omega)) (by decide) (Nat.le_of_ble_eq_true rfl) (fun b_46 M_46 h_46 => ?_)
        obtain ⟨rfl, rfl⟩ := h_46
        refine r_lstore_4 dX5_thinkByLots_49 rfl (r_lload_4 dX5_thinkByLots_51 (r_ldc2 (a := 8) dX5_thinkByLots_53 qL_244 ?_))
        refine r_lrem (r := nxl (nxl l) % 8) dX5_thinkByLots_56 ((i6_rem (a := nxl (nxl l)) (b := 8) (by omega) (by omega)).1) ((i6_rem (a := nxl (nxl l)) (b := 8) (by omega) (by omega)).2) ?_
        refine r_l2i dX5_thinkByLots_57 (r_istore_8 dX5_thinkByLots_58 rfl (r_aload_0 dX5_thinkByLots_60 (r_iload_7 dX5_thinkByLots_61 ?_)))
        refine r_cVI1 dX5_thinkByLots_63 vX5_107 (rfl) (x_isP (d := 0) hτv (by omega)) (by decide) (Nat.le_of_ble_eq_true rfl) (fun b_63 M_63 h_63 => ?_)
        obtain ⟨rfl, rfl⟩ := h_63
        first | refine r_ifd_eq dX5_thinkByLots_66 (fun c_66 => ?_) (fun c_66 => ?_) | refine r_ifb_eq dX5_thinkByLots_66 (fun c_66 => ?_) (fun c_66 => ?_)
        · skip
          refine r_iinc_6 dX5_thinkByLots_87 rfl (r_goto dX5_thinkByLots_90 ?_)
          rw [if_neg (by omega)] at hL
          exact ih (i + 1) c _ T _ _ Mv (by omega) (by rw [hL]) (by rw [hL]) (by rw [hL]) wv fv (by omega)
        · skip
          obtain ⟨p, hp⟩ : ∃ p : Nat, nxl l % 6 = p := ⟨(nxl l % 6).toNat, by omega⟩
          obtain ⟨g, hg⟩ : ∃ g : Nat, nxl (nxl l) % 8 = g := ⟨(nxl (nxl l) % 8).toNat, by omega⟩
          rw [hp, hg]
          refine r_aload_0 dX5_thinkByLots_69 (r_getR dX5_thinkByLots_70 fX5_46 (rfl) (rfl) (r_iload_7 dX5_thinkByLots_73 (r_iload_8 dX5_thinkByLots_75 ?_)))
          refine r_cVI2 dX5_thinkByLots_77 vX5_164 (rfl) (x_attempt tb16 wv wT (hX.scb tb16 fv) (by omega) (show p < 6 by omega) (show g < 8 by omega)) (by decide) (Nat.le_of_ble_eq_true rfl) (fun b_77 M_77 h_77 => ?_)
          obtain ⟨rfl, w1, f1⟩ := h_77
          have so := sOut_in T p g
          refine r_iconst dX5_thinkByLots_80 ?_
          refine r_icmp_ne dX5_thinkByLots_81 (by omega) (by omega) (fun c_81 => ?_) (fun c_81 => ?_)
          · skip
            refine r_iinc_6 dX5_thinkByLots_87 rfl (r_goto dX5_thinkByLots_90 ?_)
            rw [if_pos (by omega), show (nxl l % 6).toNat = p by omega, show (nxl (nxl l) % 8).toNat = g by omega, if_neg c_81] at hL
            exact ih (i + 1) c _ _ _ _ M_77 (by omega) (by rw [hL]) (by rw [hL]; simp) (by rw [hL]) w1 (fv.trans f1) (by omega)
          · skip
            refine r_iinc_3 dX5_thinkByLots_84 rfl (r_iinc_6 dX5_thinkByLots_87 rfl (r_goto dX5_thinkByLots_90 ?_))
            rw [if_pos (by omega), show (nxl l % 6).toNat = p by omega, show (nxl (nxl l) % 8).toNat = g by omega, if_pos (by omega)] at hL
            exact ih (i + 1) (c + 1) _ _ _ _ M_77 (by omega) (by rw [hL]) (by rw [hL]) (by rw [hL]) w1 (fv.trans f1) (by omega)
  exact lp_22 _ 0 0 _ τ none none M_8 (by omega) rfl rfl rfl w0 f0 (Nat.lt_succ_self _)
set_option maxRecDepth 10000 in
set_option maxHeartbeats 4000000 in
theorem x5_drawn {M : Mem} {nT tn : Nat} {X : Nat → Tx} {τ τi : Tn} {img : Bool} {tp ss sz : Nat → Int} {cl : Nat → Nat → Int} (hR : RX M (nT, X, τ, img, τi, tn, tp, ss, sz, cl)) (hI : INV (nT, X, τ, img, τi, tn, tp, ss, sz, cl)) {seed : Int} (h_seed : ib seed) {n : Int} (h_n : ib n) {what : Int} (h_what : ib what) : Con GX 9 kX5_drawn [rv 0, iv seed, iv n, iv what] M (pI (fun a M2 => a = a_drawn (nT, X, τ, img, τi, tn, tp, ss, sz, cl) seed n what ∧ RX M2 (nT, X, τ, img, τi, tn, tp, ss, sz, cl))) := by
  refine con_of [some (rv 0), some (iv seed), some (iv n), some (iv what), none] (plX5) rfl (Nat.le_of_ble_eq_true rfl) (fun z => ?_)
  have hR0 := hR
  obtain ⟨hτ, hX, hnT, himg, hτi, ⟨htn, htp⟩, hsh⟩ := hR0
  obtain ⟨⟨iT1, iT6⟩, ⟨hw, icl⟩, iim, ⟨itn, itp⟩, ish⟩ := hI
  obtain ⟨⟨wn, wn2⟩, wcl, ⟨wl, wl2⟩, -, -⟩ := id hw
  have hcl : τ 8 1 < 2147483648 := by omega
  refine r_mb (fun hMB => ?_)
  refine r_iload_1 dX5_drawn_0 (r_iconst dX5_drawn_1 (r_ldc (a := 99999) dX5_drawn_2 qI_234 ?_))
  refine r_cSI3 dX5_drawn_4 sX5_88 (x_within (d := 0) (by omega) (by omega) (by omega)) (by decide) (Nat.le_of_ble_eq_true rfl) (fun b_4 M_4 h_4 => ?_)
  obtain ⟨rfl, rfl⟩ := h_4
  first | refine r_ifd_eq dX5_drawn_7 (fun c_7 => ?_) (fun c_7 => ?_) | refine r_ifb_eq dX5_drawn_7 (fun c_7 => ?_) (fun c_7 => ?_)
  · skip
    refine r_bipush dX5_drawn_29 (by decide) ?_
    refine r_ireturn dX5_drawn_31 rfl ?_
    refine ⟨_, rfl, ?_, ?_⟩
    · unfold a_drawn
      simp only [Int.toNat_natCast]
      (repeat' split) <;> first | with_reducible rfl | omega
    · first | exact hR | exact R1
  · skip
    refine r_iload_2 dX5_drawn_10 (r_iconst dX5_drawn_11 (r_bipush dX5_drawn_12 (by decide) ?_))
    refine r_cSI3 dX5_drawn_14 sX5_88 (x_within (d := 0) (by omega) (by omega) (by omega)) (by decide) (Nat.le_of_ble_eq_true rfl) (fun b_14 M_14 h_14 => ?_)
    obtain ⟨rfl, rfl⟩ := h_14
    first | refine r_ifd_eq dX5_drawn_17 (fun c_17 => ?_) (fun c_17 => ?_) | refine r_ifb_eq dX5_drawn_17 (fun c_17 => ?_) (fun c_17 => ?_)
    · skip
      refine r_bipush dX5_drawn_29 (by decide) ?_
      refine r_ireturn dX5_drawn_31 rfl ?_
      refine ⟨_, rfl, ?_, ?_⟩
      · unfold a_drawn
        simp only [Int.toNat_natCast]
        (repeat' split) <;> first | with_reducible rfl | omega
      · first | exact hR | exact R1
    · skip
      refine r_iload_3 dX5_drawn_20 (r_iconst dX5_drawn_21 (r_iconst dX5_drawn_22 ?_))
      refine r_cSI3 dX5_drawn_23 sX5_88 (x_within (d := 0) (by omega) (by omega) (by omega)) (by decide) (Nat.le_of_ble_eq_true rfl) (fun b_23 M_23 h_23 => ?_)
      obtain ⟨rfl, rfl⟩ := h_23
      first | refine r_ifd_ne dX5_drawn_26 (fun c_26 => ?_) (fun c_26 => ?_) | refine r_ifb_ne dX5_drawn_26 (fun c_26 => ?_) (fun c_26 => ?_)
      · skip
        obtain ⟨m, rfl⟩ : ∃ m : Nat, n = m := ⟨n.toNat, by omega⟩
        refine r_aload_0 dX5_drawn_32 (r_iload_1 dX5_drawn_33 (r_iload_2 dX5_drawn_34 ?_))
        refine r_cVI2 dX5_drawn_35 vX5_235 (rfl) (x_tbl hτ hw hX (by omega) (by omega) (by omega)) (by decide) (Nat.le_of_ble_eq_true rfl) (fun b_35 M_35 h_35 => ?_)
        obtain ⟨rfl, w1, f1⟩ := h_35
        have R1 := hR.th f1
        refine r_istore_4 dX5_drawn_38 rfl (r_iload_3 dX5_drawn_40 ?_)
        refine r_if_ne dX5_drawn_41 (by omega) (fun c_41 => ?_) (fun c_41 => ?_)
        · skip
          refine r_iload_4 dX5_drawn_54 ?_
          refine r_ireturn dX5_drawn_56 rfl ?_
          refine ⟨_, rfl, ?_, ?_⟩
          · unfold a_drawn
            simp only [Int.toNat_natCast]
            (repeat' split) <;> first | with_reducible rfl | omega
          · first | exact hR | exact R1
        · skip
          refine r_aload_0 dX5_drawn_44 (r_getR dX5_drawn_45 fX5_46 (rfl) (rfl) ?_)
          refine r_cVI0 dX5_drawn_48 vX5_72 (rfl) (x_snd (n := 0) tb16 w1) (by decide) (Nat.le_of_ble_eq_true rfl) (fun b_48 M_48 h_48 => ?_)
          obtain ⟨rfl, rfl⟩ := h_48
          refine r_goto dX5_drawn_51 ?_
          refine r_ireturn dX5_drawn_56 rfl ?_
          refine ⟨_, rfl, ?_, ?_⟩
          · unfold a_drawn
            simp only [Int.toNat_natCast]
            (repeat' split) <;> first | with_reducible rfl | omega
          · first | exact hR | exact R1
      · skip
        refine r_bipush dX5_drawn_29 (by decide) ?_
        refine r_ireturn dX5_drawn_31 rfl ?_
        refine ⟨_, rfl, ?_, ?_⟩
        · unfold a_drawn
          simp only [Int.toNat_natCast]
          (repeat' split) <;> first | with_reducible rfl | omega
        · first | exact hR | exact R1
set_option maxRecDepth 10000 in
set_option maxHeartbeats 4000000 in
theorem x5_odds {M : Mem} {nT tn : Nat} {X : Nat → Tx} {τ τi : Tn} {img : Bool} {tp ss sz : Nat → Int} {cl : Nat → Nat → Int} (hR : RX M (nT, X, τ, img, τi, tn, tp, ss, sz, cl)) (hI : INV (nT, X, τ, img, τi, tn, tp, ss, sz, cl)) {seed seeds least part : Int} (h_seed : ib seed) (h_seeds : ib seeds) (h_least : ib least) (h_part : ib part) : Con GX 9 kX5_odds [rv 0, iv seed, iv seeds, iv least, iv part] M (pJ (fun a M2 => a = a_odds (nT, X, τ, img, τi, tn, tp, ss, sz, cl) seed seeds least part ∧ RX M2 (nT, X, τ, img, τi, tn, tp, ss, sz, cl))) := by
  refine con_of [some (rv 0), some (iv seed), some (iv seeds), some (iv least), some (iv part), none, none, none] (plX5) rfl (Nat.le_of_ble_eq_true rfl) (fun z => ?_)
  have hR0 := hR
  obtain ⟨hτ, hX, hnT, himg, hτi, ⟨htn, htp⟩, hsh⟩ := hR0
  obtain ⟨⟨iT1, iT6⟩, ⟨hw, icl⟩, iim, ⟨itn, itp⟩, ish⟩ := hI
  obtain ⟨⟨wn, wn2⟩, wcl, ⟨wl, wl2⟩, -, -⟩ := id hw
  have hcl : τ 8 1 < 2147483648 := by omega
  refine r_mb (fun hMB => ?_)
  have jn_25 : WP kX5_odds GX 9 (pJ (fun a M2 => a = a_odds (nT, X, τ, img, τi, tn, tp, ss, sz, cl) seed seeds least part ∧ RX M2 (nT, X, τ, img, τi, tn, tp, ss, sz, cl))) z 25 [some (rv 0), some (iv seed), some (iv seeds), some (iv least), some (iv part), none, none, none] [iv (bi (decide ((0 ≤ seed ∧ seed ≤ 99999) ∧ (1 ≤ seeds ∧ seeds ≤ 40))))] M := by
    refine r_istore_5 dX5_odds_25 rfl ?_
    refine r_iload_5 dX5_odds_27 ?_
    refine r_ifd_eq dX5_odds_29 (fun c_29 => ?_) (fun c_29 => ?_)
    · skip
      refine r_ldc2 (a := -4611686018427387904) dX5_odds_52 qJ_none ?_
      refine r_lreturn dX5_odds_55 rfl ?_
      refine ⟨_, rfl, ?_, hR⟩
      unfold a_odds
      simp only []
      rw [if_pos (by omega)]
    · skip
      refine r_iload_3 dX5_odds_32 (r_iconst dX5_odds_33 (r_bipush dX5_odds_34 (by decide) ?_))
      refine r_cSI3 dX5_odds_36 sX5_88 (x_within (d := 0) (by omega) (by omega) (by omega)) (by decide) (Nat.le_of_ble_eq_true rfl) (fun b_36 M_36 h_36 => ?_)
      obtain ⟨rfl, rfl⟩ := h_36
      first | refine r_ifd_eq dX5_odds_39 (fun c_39 => ?_) (fun c_39 => ?_) | refine r_ifb_eq dX5_odds_39 (fun c_39 => ?_) (fun c_39 => ?_)
      · skip
        refine r_ldc2 (a := -4611686018427387904) dX5_odds_52 qJ_none ?_
        refine r_lreturn dX5_odds_55 rfl ?_
        refine ⟨_, rfl, ?_, hR⟩
        unfold a_odds
        simp only []
        rw [if_pos (by omega)]
      · skip
        refine r_iload_4 dX5_odds_42 (r_iconst dX5_odds_44 (r_iconst dX5_odds_45 ?_))
        refine r_cSI3 dX5_odds_46 sX5_88 (x_within (d := 0) (by omega) (by omega) (by omega)) (by decide) (Nat.le_of_ble_eq_true rfl) (fun b_46 M_46 h_46 => ?_)
        obtain ⟨rfl, rfl⟩ := h_46
        first | refine r_ifd_ne dX5_odds_49 (fun c_49 => ?_) (fun c_49 => ?_) | refine r_ifb_ne dX5_odds_49 (fun c_49 => ?_) (fun c_49 => ?_)
        · skip
          obtain ⟨m, rfl⟩ : ∃ m : Nat, seeds = m := ⟨seeds.toNat, by omega⟩
          refine r_iconst dX5_odds_56 (r_istore_6 dX5_odds_57 rfl (r_iconst dX5_odds_59 (r_istore_7 dX5_odds_60 rfl ?_)))
          have lp_62 : ∀ (NN : Nat) (i g : Nat) (Mv : Mem) (hi : i ≤ m) (hg : g = oD X τ seed least i) (fv : Fr (scb 16) M Mv), 100 - i < NN → WP kX5_odds GX 9 (pJ (fun a M2 => a = a_odds (nT, X, τ, img, τi, tn, tp, ss, sz, cl) seed (m : Int) least part ∧ RX M2 (nT, X, τ, img, τi, tn, tp, ss, sz, cl))) z 62 [some (rv 0), some (iv seed), some (iv (m : Int)), some (iv least), some (iv part), some (iv (bi (decide ((0 ≤ seed ∧ seed ≤ 99999) ∧ (1 ≤ (m : Int) ∧ (m : Int) ≤ 40))))), some (iv (g : Int)), some (iv (i : Int))] [] Mv := by
            intro NN
            induction NN with
            | zero => intros; omega
            | succ NN ih =>
              intro i g Mv hi hg fv hm
              have Rv := hR.th fv
              have hgb := oD_in (X := X) (τ := τ) (seed := seed) (least := least) i
              rw [← hg] at hgb
              have hL : oD X τ seed least (i + 1) = g + (if least ≤ ((pop8 (sSnd (lD X τ (seed + i) 16).2.1).toNat : Nat) : Int) then 1 else 0) := by rw [hg]; rfl
              refine r_iload_7 dX5_odds_62 ?_
              refine r_iload_2 dX5_odds_64 ?_
              refine r_icmp_ge dX5_odds_65 (by omega) (by omega) (fun c_65 => ?_) (fun c_65 => ?_)
              · skip
                obtain rfl : i = m := by omega
                refine r_iload_6 dX5_odds_102 (r_iload_2 dX5_odds_104 (r_iload_4 dX5_odds_105 ?_))
                refine r_cSJ3 dX5_odds_107 sX5_204 (x_low (n := 0) (by omega) (by omega) (by omega) h_part) (by decide) (Nat.le_of_ble_eq_true rfl) (fun b_107 M_107 h_107 => ?_)
                obtain ⟨rfl, rfl⟩ := h_107
                refine r_lreturn dX5_odds_110 rfl ?_
                refine ⟨_, rfl, ?_, Rv⟩
                unfold a_odds
                simp only [Int.toNat_natCast]
                rw [if_neg (by omega), ← hg]
              · skip
                refine r_aload_0 dX5_odds_68 (r_iload_1 dX5_odds_69 (r_iload_7 dX5_odds_70 (r_iadd dX5_odds_72 (r_bipush dX5_odds_73 (by decide) ?_))))
                refine r_cVI2 dX5_odds_75 vX5_235 (rfl) (x_tbl (n := 16) Rv.1 hw Rv.2.1 (by omega) (by omega) (by omega)) (by decide) (Nat.le_of_ble_eq_true rfl) (fun b_75 M_75 h_75 => ?_)
                obtain ⟨rfl, w1, f1⟩ := h_75
                refine r_pop_i dX5_odds_78 (r_aload_0 dX5_odds_79 (r_getR dX5_odds_80 fX5_46 (rfl) (rfl) ?_))
                refine r_cVI0 dX5_odds_83 vX5_72 (rfl) (x_snd (n := 0) tb16 w1) (by decide) (Nat.le_of_ble_eq_true rfl) (fun b_83 M_83 h_83 => ?_)
                obtain ⟨rfl, rfl⟩ := h_83
                obtain ⟨mm, hm, hm2, hm3⟩ := snd_b (lD X τ (seed + i) 16).2.1
                rw [hm]
                have hpm := pop8_b mm
                refine r_cSI1 dX5_odds_86 sX5_76 (j_bitCount (d := 0) (by omega)) (by decide) (Nat.le_of_ble_eq_true rfl) (fun b_86 M_86 h_86 => ?_)
                obtain ⟨rfl, rfl⟩ := h_86
                refine r_iload_3 dX5_odds_89 ?_
                refine r_icmp_lt dX5_odds_90 (by omega) (by omega) (fun c_90 => ?_) (fun c_90 => ?_)
                · skip
                  refine r_iinc_7 dX5_odds_96 rfl (r_goto dX5_odds_99 ?_)
                  rw [hm3, if_neg (by omega)] at hL
                  exact ih (i + 1) g _ (by omega) (by rw [hL, Nat.add_zero]) (fv.trans f1) (by omega)
                · skip
                  refine r_iinc_6 dX5_odds_93 rfl (r_iinc_7 dX5_odds_96 rfl (r_goto dX5_odds_99 ?_))
                  rw [hm3, if_pos (by omega)] at hL
                  exact ih (i + 1) (g + 1) _ (by omega) (by rw [hL]) (fv.trans f1) (by omega)
          exact lp_62 _ 0 0 M (by omega) rfl Fr.refl (Nat.lt_succ_self _)
        · skip
          refine r_ldc2 (a := -4611686018427387904) dX5_odds_52 qJ_none ?_
          refine r_lreturn dX5_odds_55 rfl ?_
          refine ⟨_, rfl, ?_, hR⟩
          unfold a_odds
          simp only []
          rw [if_pos (by omega)]
  refine r_iload_1 dX5_odds_0 (r_iconst dX5_odds_1 (r_ldc (a := 99999) dX5_odds_2 qI_234 ?_))
  refine r_cSI3 dX5_odds_4 sX5_88 (x_within (d := 0) (by omega) (by omega) (by omega)) (by decide) (Nat.le_of_ble_eq_true rfl) (fun b_4 M_4 h_4 => ?_)
  obtain ⟨rfl, rfl⟩ := h_4
  first | refine r_ifd_eq dX5_odds_7 (fun c_7 => ?_) (fun c_7 => ?_) | refine r_ifb_eq dX5_odds_7 (fun c_7 => ?_) (fun c_7 => ?_)
  · skip
    refine r_iconst dX5_odds_24 ?_
    rw [show bi (decide ((0 ≤ seed ∧ seed ≤ 99999) ∧ (1 ≤ seeds ∧ seeds ≤ 40))) = 0 from (bi_f (by omega)).symm] at jn_25
    exact jn_25
  · skip
    refine r_iload_2 dX5_odds_10 (r_iconst dX5_odds_11 (r_bipush dX5_odds_12 (by decide) ?_))
    refine r_cSI3 dX5_odds_14 sX5_88 (x_within (d := 0) (by omega) (by omega) (by omega)) (by decide) (Nat.le_of_ble_eq_true rfl) (fun b_14 M_14 h_14 => ?_)
    obtain ⟨rfl, rfl⟩ := h_14
    first | refine r_ifd_eq dX5_odds_17 (fun c_17 => ?_) (fun c_17 => ?_) | refine r_ifb_eq dX5_odds_17 (fun c_17 => ?_) (fun c_17 => ?_)
    · skip
      refine r_iconst dX5_odds_24 ?_
      rw [show bi (decide ((0 ≤ seed ∧ seed ≤ 99999) ∧ (1 ≤ seeds ∧ seeds ≤ 40))) = 0 from (bi_f (by omega)).symm] at jn_25
      exact jn_25
    · skip
      refine r_iconst dX5_odds_20 (r_goto dX5_odds_21 ?_)
      rw [show bi (decide ((0 ≤ seed ∧ seed ≤ 99999) ∧ (1 ≤ seeds ∧ seeds ≤ 40))) = 1 from (bi_t (by omega)).symm] at jn_25
      exact jn_25

set_option maxRecDepth 10000 in
set_option maxHeartbeats 4000000 in
theorem x_oneOf {n : Nat} {M : Mem} {k t : Int} (hk : ib k) (ht : ib t) : Con GX n kX5_isOneOf [iv k, iv t] M (pI (fun a M2 => M = M2 ∧ a = bi (kOne k t))) := by
  refine con_of [some (iv k), some (iv t)] (plX5) rfl (Nat.le_of_ble_eq_true rfl) (fun z => ?_)
  refine r_iload_1 dX5_isOneOf_0 ?_
  refine r_tsw3 (t0 := 28) (t1 := 30) (t2 := 46) (td := 62) dX5_isOneOf_1 (by decide) (by omega) (by decide) (by decide) (by decide) (by decide) (fun c_1 => ?_) (fun c_1 => ?_) (fun c_1 => ?_) (fun c_1 => ?_)
  · skip
    skip
    refine r_iconst dX5_isOneOf_28 ?_
    refine r_zreturn dX5_isOneOf_29 rfl (by first | exact bi_01 _ | omega | decide) ?_
    refine ⟨_, rfl, rfl, ?_⟩
    unfold kOne
    first | exact bi_t (by omega) | exact bi_f (by omega)
  · skip
    skip
    refine r_iload_0 dX5_isOneOf_30 (r_iconst dX5_isOneOf_31 ?_)
    refine r_icmp_eq dX5_isOneOf_32 (by omega) (by omega) (fun c_32 => ?_) (fun c_32 => ?_)
    · skip
      refine r_iconst dX5_isOneOf_40 (r_goto dX5_isOneOf_41 ?_)
      refine r_zreturn dX5_isOneOf_45 rfl (by first | exact bi_01 _ | omega | decide) ?_
      refine ⟨_, rfl, rfl, ?_⟩
      unfold kOne
      first | exact bi_t (by omega) | exact bi_f (by omega)
    · skip
      refine r_iload_0 dX5_isOneOf_35 (r_iconst dX5_isOneOf_36 ?_)
      refine r_icmp_ne dX5_isOneOf_37 (by omega) (by omega) (fun c_37 => ?_) (fun c_37 => ?_)
      · skip
        refine r_iconst dX5_isOneOf_44 ?_
        refine r_zreturn dX5_isOneOf_45 rfl (by first | exact bi_01 _ | omega | decide) ?_
        refine ⟨_, rfl, rfl, ?_⟩
        unfold kOne
        first | exact bi_t (by omega) | exact bi_f (by omega)
      · skip
        refine r_iconst dX5_isOneOf_40 (r_goto dX5_isOneOf_41 ?_)
        refine r_zreturn dX5_isOneOf_45 rfl (by first | exact bi_01 _ | omega | decide) ?_
        refine ⟨_, rfl, rfl, ?_⟩
        unfold kOne
        first | exact bi_t (by omega) | exact bi_f (by omega)
  · skip
    skip
    refine r_iload_0 dX5_isOneOf_46 (r_iconst dX5_isOneOf_47 ?_)
    refine r_icmp_eq dX5_isOneOf_48 (by omega) (by omega) (fun c_48 => ?_) (fun c_48 => ?_)
    · skip
      refine r_iconst dX5_isOneOf_56 (r_goto dX5_isOneOf_57 ?_)
      refine r_zreturn dX5_isOneOf_61 rfl (by first | exact bi_01 _ | omega | decide) ?_
      refine ⟨_, rfl, rfl, ?_⟩
      unfold kOne
      first | exact bi_t (by omega) | exact bi_f (by omega)
    · skip
      refine r_iload_0 dX5_isOneOf_51 (r_iconst dX5_isOneOf_52 ?_)
      refine r_icmp_ne dX5_isOneOf_53 (by omega) (by omega) (fun c_53 => ?_) (fun c_53 => ?_)
      · skip
        refine r_iconst dX5_isOneOf_60 ?_
        refine r_zreturn dX5_isOneOf_61 rfl (by first | exact bi_01 _ | omega | decide) ?_
        refine ⟨_, rfl, rfl, ?_⟩
        unfold kOne
        first | exact bi_t (by omega) | exact bi_f (by omega)
      · skip
        refine r_iconst dX5_isOneOf_56 (r_goto dX5_isOneOf_57 ?_)
        refine r_zreturn dX5_isOneOf_61 rfl (by first | exact bi_01 _ | omega | decide) ?_
        refine ⟨_, rfl, rfl, ?_⟩
        unfold kOne
        first | exact bi_t (by omega) | exact bi_f (by omega)
  · skip
    skip
    refine r_iload_0 dX5_isOneOf_62 (r_iload_1 dX5_isOneOf_63 ?_)
    refine r_icmp_ne dX5_isOneOf_64 (by omega) (by omega) (fun c_64 => ?_) (fun c_64 => ?_)
    · skip
      refine r_iconst dX5_isOneOf_71 ?_
      refine r_zreturn dX5_isOneOf_72 rfl (by first | exact bi_01 _ | omega | decide) ?_
      refine ⟨_, rfl, rfl, ?_⟩
      unfold kOne
      first | exact bi_t (by omega) | exact bi_f (by omega)
    · skip
      refine r_iconst dX5_isOneOf_67 (r_goto dX5_isOneOf_68 ?_)
      refine r_zreturn dX5_isOneOf_72 rfl (by first | exact bi_01 _ | omega | decide) ?_
      refine ⟨_, rfl, rfl, ?_⟩
      unfold kOne
      first | exact bi_t (by omega) | exact bi_f (by omega)
set_option maxRecDepth 10000 in
set_option maxHeartbeats 4000000 in
theorem x5_taken {M : Mem} {nT tn : Nat} {X : Nat → Tx} {τ τi : Tn} {img : Bool} {tp ss sz : Nat → Int} {cl : Nat → Nat → Int} (hR : RX M (nT, X, τ, img, τi, tn, tp, ss, sz, cl)) (hI : INV (nT, X, τ, img, τi, tn, tp, ss, sz, cl)) {w : Int} (h_w : ib w) {t : Int} (h_t : ib t) : Con GX 9 kX5_taken [rv 0, iv w, iv t] M (pI (fun a M2 => a = a_taken (nT, X, τ, img, τi, tn, tp, ss, sz, cl) w t ∧ RX M2 (nT, X, τ, img, τi, tn, tp, ss, sz, cl))) := by
  refine con_of [some (rv 0), some (iv w), some (iv t)] (plX5) rfl (Nat.le_of_ble_eq_true rfl) (fun z => ?_)
  have hR0 := hR
  obtain ⟨hτ, hX, hnT, himg, hτi, ⟨htn, htp⟩, hsh⟩ := hR0
  obtain ⟨⟨iT1, iT6⟩, ⟨hw, icl⟩, iim, ⟨itn, itp⟩, ish⟩ := hI
  obtain ⟨⟨wn, wn2⟩, wcl, ⟨wl, wl2⟩, -, -⟩ := id hw
  have hcl : τ 8 1 < 2147483648 := by omega
  refine r_mb (fun hMB => ?_)
  refine r_iload_2 dX5_taken_0 (r_iconst dX5_taken_1 (r_bipush dX5_taken_2 (by decide) ?_))
  refine r_cSI3 dX5_taken_4 sX5_88 (x_within (d := 0) (by omega) (by omega) (by omega)) (by decide) (Nat.le_of_ble_eq_true rfl) (fun b_4 M_4 h_4 => ?_)
  obtain ⟨rfl, rfl⟩ := h_4
  first | refine r_ifd_ne dX5_taken_7 (fun c_7 => ?_) (fun c_7 => ?_) | refine r_ifb_ne dX5_taken_7 (fun c_7 => ?_) (fun c_7 => ?_)
  · skip
    refine r_iload_1 dX5_taken_13 (r_iconst dX5_taken_14 (r_bipush dX5_taken_15 (by decide) ?_))
    refine r_cSI3 dX5_taken_17 sX5_88 (x_within (d := 0) (by omega) (by omega) (by omega)) (by decide) (Nat.le_of_ble_eq_true rfl) (fun b_17 M_17 h_17 => ?_)
    obtain ⟨rfl, rfl⟩ := h_17
    first | refine r_ifd_ne dX5_taken_20 (fun c_20 => ?_) (fun c_20 => ?_) | refine r_ifb_ne dX5_taken_20 (fun c_20 => ?_) (fun c_20 => ?_)
    · skip
      refine r_iload_1 dX5_taken_26 (r_bipush dX5_taken_27 (by decide) ?_)
      refine r_icmp_lt dX5_taken_29 (by omega) (by omega) (fun c_29 => ?_) (fun c_29 => ?_)
      · skip
        refine r_aload_0 dX5_taken_56 (r_iload_1 dX5_taken_57 ?_)
        refine r_cVI1 dX5_taken_58 vX5_107 (rfl) (x_isP (d := 0) hτ (by omega)) (by decide) (Nat.le_of_ble_eq_true rfl) (fun b_58 M_58 h_58 => ?_)
        obtain ⟨rfl, rfl⟩ := h_58
        first | refine r_ifd_ne dX5_taken_61 (fun c_61 => ?_) (fun c_61 => ?_) | refine r_ifb_ne dX5_taken_61 (fun c_61 => ?_) (fun c_61 => ?_)
        · skip
          obtain ⟨q, rfl⟩ : ∃ q : Nat, w = q := ⟨w.toNat, by omega⟩
          have hq6 : q < 6 := by omega
          have wq := hw.p hq6
          have eq : ((q : Nat) : Int).toNat = q := Int.toNat_natCast q
          refine r_aload_0 dX5_taken_67 (r_getR dX5_taken_68 fX5_42 (rfl) (rfl) (r_getR dX5_taken_71 fX5_146 (rfl) (rfl) (r_iload_1 dX5_taken_74 (r_ialN dX5_taken_75 (rfl) (by omega) (by omega) (hτ.e6 hq6) (r_iload_2 dX5_taken_76 ?_)))))
          refine r_cSI2 dX5_taken_77 sX5_262 (x_oneOf (n := 0) (by omega) (by omega)) (by decide) (Nat.le_of_ble_eq_true rfl) (fun b_77 M_77 h_77 => ?_)
          obtain ⟨rfl, rfl⟩ := h_77
          refine r_ifb_eq dX5_taken_80 (fun c_80 => ?_) (fun c_80 => ?_)
          · skip
            refine r_bipush dX5_taken_87 (by decide) ?_
            refine r_ireturn dX5_taken_89 rfl ?_
            refine ⟨_, rfl, ?_, hR⟩
            unfold a_taken
            simp only [Int.toNat_natCast]
            rw [if_neg (by omega), if_neg (by omega), if_neg (by omega), if_neg (by omega)]
            rw [if_neg (by simp [c_80])]
          · skip
            refine r_iload_1 dX5_taken_83 (r_goto dX5_taken_84 ?_)
            refine r_ireturn dX5_taken_89 rfl ?_
            refine ⟨_, rfl, ?_, hR⟩
            unfold a_taken
            simp only [Int.toNat_natCast]
            rw [if_neg (by omega), if_neg (by omega), if_neg (by omega), if_neg (by omega), if_pos c_80]
        · skip
          refine r_bipush dX5_taken_64 (by decide) ?_
          refine r_ireturn dX5_taken_66 rfl ?_
          refine ⟨_, rfl, ?_, hR⟩
          unfold a_taken
          simp only [Int.toNat_natCast]
          rw [if_neg (by omega), if_neg (by omega), if_neg (by omega), if_pos (by omega)]
      · skip
        refine r_iload_2 dX5_taken_32 (r_bipush dX5_taken_33 (by decide) ?_)
        refine r_icmp_ne dX5_taken_35 (by omega) (by omega) (fun c_35 => ?_) (fun c_35 => ?_)
        · skip
          refine r_bipush dX5_taken_53 (by decide) ?_
          refine r_ireturn dX5_taken_55 rfl ?_
          refine ⟨_, rfl, ?_, hR⟩
          unfold a_taken
          simp only [Int.toNat_natCast]
          rw [if_neg (by omega), if_neg (by omega), if_pos (by omega), if_neg (by omega)]
        · skip
          refine r_aload_0 dX5_taken_38 (r_getR dX5_taken_39 fX5_42 (rfl) (rfl) (r_getR dX5_taken_42 fX5_99 (rfl) (rfl) (r_iload_1 dX5_taken_45 (r_bipush dX5_taken_46 (by decide) (r_isub dX5_taken_48 (r_ialE dX5_taken_49 (rfl) (by omega) (by omega) (hτ.e0 (i := (w - 6).toNat) (by omega)) (r_goto dX5_taken_50 ?_)))))))
          refine r_ireturn dX5_taken_55 rfl ?_
          refine ⟨_, rfl, ?_, hR⟩
          unfold a_taken
          simp only [Int.toNat_natCast]
          rw [if_neg (by omega), if_neg (by omega), if_pos (by omega), if_pos (by omega)]
    · skip
      refine r_bipush dX5_taken_23 (by decide) ?_
      refine r_ireturn dX5_taken_25 rfl ?_
      refine ⟨_, rfl, ?_, hR⟩
      unfold a_taken
      simp only [Int.toNat_natCast]
      rw [if_neg (by omega), if_pos (by omega)]
  · skip
    refine r_bipush dX5_taken_10 (by decide) ?_
    refine r_ireturn dX5_taken_12 rfl ?_
    refine ⟨_, rfl, ?_, hR⟩
    unfold a_taken
    simp only [Int.toNat_natCast]
    rw [if_pos (by omega)]

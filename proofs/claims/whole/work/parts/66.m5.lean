theorem lcmp_0 {a : Int} (h : 0 ≤ a ∧ a < 9223372036854775808) : lg_cmp (Int64.ofInt a) (Int64.ofInt 0) = Int32.ofInt (bi (decide (a ≠ 0))) := by
  unfold lg_cmp
  by_cases e : a = 0
  · subst e
    decide
  · have h1 : Int64.ofInt a > Int64.ofInt 0 := by
      show Int64.ofInt 0 < Int64.ofInt a
      rw [Int64.lt_iff_toInt_lt, i6_toInt (by omega), i6_toInt (by omega)]
      omega
    rw [if_pos h1, decide_eq_true e]
    rfl
theorem i6_div {a b : Nat} (ha : a < 9223372036854775808) (hb : 0 < b ∧ b < 9223372036854775808) : ¬ Int64.ofInt (b : Int) = 0 ∧ Int64.ofInt (a : Int) / Int64.ofInt (b : Int) = Int64.ofInt ((a / b : Nat) : Int) := by
  refine ⟨(i6_rem (a := (a : Int)) (b := (b : Int)) (by omega) (by omega)).1, ?_⟩
  have hle : a / b ≤ a := Nat.div_le_self _ _
  have hge : (0 : Int) ≤ ((a / b : Nat) : Int) := Int.natCast_nonneg _
  apply Int64.toInt_inj.mp
  rw [Int64.toInt_div, i6_toInt (by omega), i6_toInt (by omega), i6_toInt (a := ((a / b : Nat) : Int)) (by omega)]
  show Int.bmod ((a / b : Nat) : Int) _ = _
  exact Int.bmod_eq_of_le (by omega) (by omega)
theorem qM_none : Cond.constantLong RX6 218 (Int64.ofInt (-4611686018427387904)) ∈ q_tbl := by
  rw [show Int64.ofInt (-4611686018427387904) = -4611686018427387904 by decide +kernel]
  exact qX6_218
set_option maxRecDepth 10000 in
set_option maxHeartbeats 4000000 in
theorem m_low {n a0 b0 : Nat} {M : Mem} {part : Int} (ha : a0 < 1000000) (hb0 : 0 < b0) (hb : b0 < 1000000) (hp : 0 ≤ part ∧ part ≤ 1) : Con GM n kX6_lowest [jv (a0 : Int), jv (b0 : Int), iv part] M (pJ (fun v M2 => M = M2 ∧ v = lwst a0 b0 part)) := by
  refine con_of [some (jv (a0 : Int)), none, some (jv (b0 : Int)), none, some (iv part), none, none, none, none, none, none] (plX6) rfl (Nat.le_of_ble_eq_true rfl) (fun z => ?_)
  refine r_lload_0 dX6_lowest_0 (r_lconst0 dX6_lowest_1 ?_)
  refine r_lcmp (r := bi (decide ((a0 : Int) ≠ 0))) dX6_lowest_2 (lcmp_0 (by omega)) ?_
  refine r_ifd_ne dX6_lowest_3 (fun c_3 => ?_) (fun c_3 => ?_)
  · skip
    refine r_lload_0 dX6_lowest_10 (r_lstore_5 dX6_lowest_11 rfl (r_lload_2 dX6_lowest_13 (r_lstore_7 dX6_lowest_14 rfl ?_)))
    have lp_16 : ∀ (NN : Nat) (x y : Nat) (u v : Option PV) (hx : 0 < x) (hx2 : x < 1000000) (hy2 : y < 1000000) (hg : Nat.gcd x y = Nat.gcd a0 b0), y < NN → WP kX6_lowest GM n (pJ (fun v M2 => M = M2 ∧ v = lwst a0 b0 part)) z 16 [some (jv (a0 : Int)), none, some (jv (b0 : Int)), none, some (iv part), some (jv (x : Int)), none, some (jv (y : Int)), none, u, v] [] M := by
      intro NN
      induction NN with
      | zero => intros; omega
      | succ NN ih =>
        intro x y u v hx hx2 hy2 hg hm
        refine r_lload_7 dX6_lowest_16 ?_
        refine r_lconst0 dX6_lowest_18 ?_
        refine r_lcmp (r := bi (decide ((y : Int) ≠ 0))) dX6_lowest_19 (lcmp_0 (by omega)) ?_
        refine r_ifd_eq dX6_lowest_20 (fun c_20 => ?_) (fun c_20 => ?_)
        · skip
          obtain rfl : y = 0 := by omega
          rw [Nat.gcd_zero_right] at hg
          obtain ⟨y0, hy0⟩ : ∃ z, a0 / x = z := ⟨_, rfl⟩
          obtain ⟨y1, hy1⟩ : ∃ z, b0 / x = z := ⟨_, rfl⟩
          have q0 := i6_div (a := a0) (b := x) (by omega) (by omega)
          have q1 := i6_div (a := b0) (b := x) (by omega) (by omega)
          refine r_iload_4 dX6_lowest_41 ?_
          refine r_if_ne dX6_lowest_43 (by omega) (fun c_43 => ?_) (fun c_43 => ?_)
          · skip
            refine r_lload_2 dX6_lowest_50 (r_lload_5 dX6_lowest_51 ?_)
            refine r_ldiv (r := ((b0 / x : Nat) : Int)) dX6_lowest_53 (by first | exact q1.1) (q1.2) ?_
            refine r_lreturn dX6_lowest_54 rfl ?_
            refine ⟨_, rfl, rfl, ?_⟩
            unfold lwst
            rw [if_neg (by omega), ← hg]
          · skip
            refine r_lload_0 dX6_lowest_46 (r_goto dX6_lowest_47 (r_lload_5 dX6_lowest_51 ?_))
            refine r_ldiv (r := ((a0 / x : Nat) : Int)) dX6_lowest_53 (by first | exact q1.1) (q0.2) ?_
            refine r_lreturn dX6_lowest_54 rfl ?_
            refine ⟨_, rfl, rfl, ?_⟩
            unfold lwst
            rw [if_pos (by omega), ← hg]
        · skip
          have hlt : x % y < y := Nat.mod_lt x (by omega)
          have hrm := i6_rem (a := (x : Int)) (b := (y : Int)) (by omega) (by omega)
          refine r_lload_5 dX6_lowest_23 (r_lload_7 dX6_lowest_25 ?_)
          refine r_lrem (r := (x : Int) % (y : Int)) dX6_lowest_27 (hrm.1) (hrm.2) ?_
          rw [show ((x : Int) % (y : Int)) = ((x % y : Nat) : Int) from rfl]
          refine r_lstore_9 dX6_lowest_28 rfl (r_lload_7 dX6_lowest_30 (r_lstore_5 dX6_lowest_32 rfl (r_lload_9 dX6_lowest_34 (r_lstore_7 dX6_lowest_36 rfl (r_goto dX6_lowest_38 ?_)))))
          exact ih y (x % y) _ _ (by omega) (by omega) (by omega) ((by rw [Nat.gcd_comm, Nat.gcd_comm x y]; exact (Nat.gcd_rec y x).symm : Nat.gcd y (x % y) = Nat.gcd x y).trans hg) (by omega)
    exact lp_16 _ a0 b0 none none (by omega) ha hb rfl (Nat.lt_succ_self _)
  · skip
    refine r_iload_4 dX6_lowest_6 (r_i2l dX6_lowest_8 (by omega) ?_)
    refine r_lreturn dX6_lowest_9 rfl ?_
    refine ⟨_, rfl, rfl, ?_⟩
    obtain rfl : a0 = 0 := by omega
    unfold lwst
    rw [Nat.gcd_zero_left, Nat.zero_div, Nat.div_self hb0]
    split <;> omega
set_option maxRecDepth 10000 in
set_option maxHeartbeats 4000000 in
theorem m6_share {M : Mem} {nT tn : Nat} {X : Nat → Tx} {τ τi : Tn} {img : Bool} {tp ss sz : Nat → Int} {cl : Nat → Nat → Int} (hR : RM M (nT, X, τ, img, τi, tn, tp, ss, sz, cl)) (hJ : JNV (nT, X, τ, img, τi, tn, tp, ss, sz, cl)) {p : Int} (h_p : ib p) {part : Int} (h_part : ib part) : Con GM 9 kX6_share [rv 0, iv p, iv part] M (pJ (fun a M2 => a = a_share (nT, X, τ, img, τi, tn, tp, ss, sz, cl) p part ∧ RM M2 (nT, X, τ, img, τi, tn, tp, ss, sz, cl))) := by
  refine con_of [some (rv 0), some (iv p), some (iv part), none, none] (plX6) rfl (Nat.le_of_ble_eq_true rfl) (fun z => ?_)
  have hR0 := hR
  obtain ⟨hT, hX, hnT, himg, hIM, ⟨htn, htp⟩, hsh, hwc⟩ := hR0
  have hT : TM M τ := hT
  have hJ0 := hJ
  obtain ⟨⟨⟨iT1, iT6⟩, ⟨hw, icl⟩, iim, ⟨itn, itp⟩, ish⟩, hki⟩ := hJ0
  obtain ⟨⟨wn, wn2⟩, wcl, ⟨wl, wl2⟩, -, -⟩ := id hw
  have hcl : τ 8 1 < 2147483648 := by omega
  refine r_mb (fun hMB => ?_)
  refine r_aload_0 dX6_share_0 ?_
  refine r_cVI0 dX6_share_1 vX6_205 (rfl) (m_behind hT hw) (by decide) (Nat.le_of_ble_eq_true rfl) (fun b_1 M_1 h_1 => ?_)
  obtain ⟨rfl, rfl⟩ := h_1
  refine r_istore_3 dX6_share_4 rfl (r_iconst dX6_share_5 (r_istore_4 dX6_share_6 rfl ?_))
  have lp_8 : ∀ (NN : Nat) (i : Nat) (s : Int) (hi : (i : Int) ≤ τ 8 0) (hs : s = sm (τ 0) 8 + sm (τ 4) i), 8 - i < NN → WP kX6_share GM 9 (pJ (fun a M2 => a = a_share (nT, X, τ, img, τi, tn, tp, ss, sz, cl) p part ∧ RM M2 (nT, X, τ, img, τi, tn, tp, ss, sz, cl))) z 8 [some (rv 0), some (iv p), some (iv part), some (iv s), some (iv (i : Int))] [] M := by
    intro NN
    induction NN with
    | zero => intros; omega
    | succ NN ih =>
      intro i s hi hs hm
      have hsE : 0 ≤ sm (τ 4) i ∧ sm (τ 4) i ≤ 99 * (i : Nat) := sm_b (fun k hk => (hw.p (by omega)).2.1)
      have hsB : 0 ≤ sm (τ 0) 8 ∧ sm (τ 0) 8 ≤ 99 * ((8 : Nat) : Int) := sm_b (fun k hk => (hw.d hk).1)
      refine r_iload_4 dX6_share_8 ?_
      refine r_aload_0 dX6_share_10 (r_getE dX6_share_11 fX6_72 (rfl) (rfl) (hT.people) ?_)
      refine r_icmp_ge dX6_share_14 (by omega) (by omega) (fun c_14 => ?_) (fun c_14 => ?_)
      · skip
        have hin : i = (τ 8 0).toNat := by omega
        subst hin
        refine r_aload_0 dX6_share_37 (r_iload_1 dX6_share_38 ?_)
        refine r_cVI1 dX6_share_39 vX6_99 (rfl) (m_isOne (d := 0) hT hw (by omega)) (by decide) (Nat.le_of_ble_eq_true rfl) (fun b_39 M_39 h_39 => ?_)
        obtain ⟨rfl, rfl⟩ := h_39
        first | refine r_ifd_eq dX6_share_42 (fun c_42 => ?_) (fun c_42 => ?_) | refine r_ifb_eq dX6_share_42 (fun c_42 => ?_) (fun c_42 => ?_)
        · skip
          refine r_ldc2 (a := -4611686018427387904) dX6_share_78 qM_none ?_
          refine r_lreturn dX6_share_81 rfl ?_
          refine ⟨_, rfl, ?_, hR⟩
          unfold a_share
          simp only []
          rw [if_neg (by omega)]
        · skip
          refine r_iload_2 dX6_share_45 (r_iconst dX6_share_46 (r_iconst dX6_share_47 ?_))
          refine r_cSI3 dX6_share_48 sX6_75 (m_in (d := 0) (by omega) (by omega) (by omega)) (by decide) (Nat.le_of_ble_eq_true rfl) (fun b_48 M_48 h_48 => ?_)
          obtain ⟨rfl, rfl⟩ := h_48
          first | refine r_ifd_eq dX6_share_51 (fun c_51 => ?_) (fun c_51 => ?_) | refine r_ifb_eq dX6_share_51 (fun c_51 => ?_) (fun c_51 => ?_)
          · skip
            refine r_ldc2 (a := -4611686018427387904) dX6_share_78 qM_none ?_
            refine r_lreturn dX6_share_81 rfl ?_
            refine ⟨_, rfl, ?_, hR⟩
            unfold a_share
            simp only []
            rw [if_neg (by omega)]
          · skip
            refine r_iload_3 dX6_share_54 ?_
            refine r_if_le dX6_share_55 (by omega) (fun c_55 => ?_) (fun c_55 => ?_)
            · skip
              refine r_ldc2 (a := -4611686018427387904) dX6_share_78 qM_none ?_
              refine r_lreturn dX6_share_81 rfl ?_
              refine ⟨_, rfl, ?_, hR⟩
              unfold a_share
              simp only []
              rw [if_neg (by omega)]
            · skip
              obtain ⟨q, rfl⟩ : ∃ q : Nat, p = q := ⟨p.toNat, by omega⟩
              have hq6 : q < 6 := by omega
              have wq := hw.p hq6
              have hqn : (q : Int) < τ 8 0 := by omega
              obtain ⟨a0, ha0⟩ : ∃ a0 : Nat, τ 4 q = a0 := ⟨(τ 4 q).toNat, by omega⟩
              obtain ⟨b0, hb0⟩ : ∃ b0 : Nat, s = b0 := ⟨s.toNat, by omega⟩
              have ha1 : (τ 4 q).toNat = a0 := by omega
              have hb1 : (sm (τ 4) (τ 8 0).toNat + sm (τ 0) 8).toNat = b0 := by omega
              refine r_aload_0 dX6_share_58 (r_getR dX6_share_59 fX6_16 (rfl) (rfl) (r_iconst dX6_share_62 (r_iload_1 dX6_share_63 (r_imul dX6_share_64 (r_iconst dX6_share_65 (r_iadd dX6_share_66 (r_ialX dX6_share_67 (rfl) (hT.e4 hq6) (by omega) (by omega) (by omega) ?_)))))))
              rw [ha0]
              refine r_i2l dX6_share_68 (by omega) (r_iload_3 dX6_share_69 ?_)
              rw [hb0]
              refine r_i2l dX6_share_70 (by omega) (r_iload_2 dX6_share_71 ?_)
              refine r_cSJ3 dX6_share_72 sX6_214 (m_low (n := 0) (by omega) (by omega) (by omega) (by omega)) (by decide) (Nat.le_of_ble_eq_true rfl) (fun b_72 M_72 h_72 => ?_)
              obtain ⟨rfl, rfl⟩ := h_72
              refine r_goto dX6_share_75 ?_
              refine r_lreturn dX6_share_81 rfl ?_
              refine ⟨_, rfl, ?_, hR⟩
              unfold a_share
              simp only [Int.toNat_natCast]
              rw [if_pos (by omega), ha1, hb1]
      · skip
        have hi6 : i < 6 := by omega
        refine r_iload_3 dX6_share_17 (r_aload_0 dX6_share_18 (r_getR dX6_share_19 fX6_16 (rfl) (rfl) (r_iconst dX6_share_22 (r_iload_4 dX6_share_23 (r_imul dX6_share_25 (r_iconst dX6_share_26 (r_iadd dX6_share_27 (r_ialX dX6_share_28 (rfl) (hT.e4 hi6) (by omega) (by omega) (by omega) (r_iadd dX6_share_29 (r_istore_3 dX6_share_30 rfl (r_iinc_4 dX6_share_31 rfl (r_goto dX6_share_34 ?_))))))))))))
        exact ih (i + 1) _ (by omega) (by rw [hs]; show sm (τ 0) 8 + sm (τ 4) i + τ 4 i = sm (τ 0) 8 + (sm (τ 4) i + τ 4 i); omega) (by omega)
  exact lp_8 _ 0 _ (by omega) (by show sm (τ 0) 8 = sm (τ 0) 8 + 0; omega) (Nat.lt_succ_self _)
set_option maxRecDepth 10000 in
set_option maxHeartbeats 4000000 in
theorem m6_tries {M : Mem} {nT tn : Nat} {X : Nat → Tx} {τ τi : Tn} {img : Bool} {tp ss sz : Nat → Int} {cl : Nat → Nat → Int} (hR : RM M (nT, X, τ, img, τi, tn, tp, ss, sz, cl)) (hJ : JNV (nT, X, τ, img, τi, tn, tp, ss, sz, cl)) {what : Int} (h_what : ib what) : Con GM 9 kX6_tries [rv 0, iv what] M (pI (fun a M2 => a = a_tries (nT, X, τ, img, τi, tn, tp, ss, sz, cl) what ∧ RM M2 (nT, X, τ, img, τi, tn, tp, ss, sz, cl))) := by
  refine con_of [some (rv 0), some (iv what), none, none, none] (plX6) rfl (Nat.le_of_ble_eq_true rfl) (fun z => ?_)
  have hR0 := hR
  obtain ⟨hT, hX, hnT, himg, hIM, ⟨htn, htp⟩, hsh, hwc⟩ := hR0
  have hT : TM M τ := hT
  have hJ0 := hJ
  obtain ⟨⟨⟨iT1, iT6⟩, ⟨hw, icl⟩, iim, ⟨itn, itp⟩, ish⟩, hki⟩ := hJ0
  obtain ⟨⟨wn, wn2⟩, wcl, ⟨wl, wl2⟩, -, -⟩ := id hw
  have hcl : τ 8 1 < 2147483648 := by omega
  refine r_mb (fun hMB => ?_)
  refine r_iload_1 dX6_tries_0 (r_iconst dX6_tries_1 (r_iconst dX6_tries_2 ?_))
  refine r_cSI3 dX6_tries_3 sX6_75 (m_in (d := 0) (by omega) (by omega) (by omega)) (by decide) (Nat.le_of_ble_eq_true rfl) (fun b_3 M_3 h_3 => ?_)
  obtain ⟨rfl, rfl⟩ := h_3
  first | refine r_ifd_ne dX6_tries_6 (fun c_6 => ?_) (fun c_6 => ?_) | refine r_ifb_ne dX6_tries_6 (fun c_6 => ?_) (fun c_6 => ?_)
  · skip
    refine r_iconst dX6_tries_12 (r_istore_2 dX6_tries_13 rfl (r_iconst dX6_tries_14 (r_istore_3 dX6_tries_15 rfl (r_iconst dX6_tries_16 (r_istore_4 dX6_tries_17 rfl ?_)))))
    have lp_19 : ∀ (NN : Nat) (i : Nat) (c f : Int) (hi : i ≤ 8) (hc : c = lk (fun d => decide (τ 2 d ≠ -1)) i) (hf : f = few τ i), 8 - i < NN → WP kX6_tries GM 9 (pI (fun a M2 => a = a_tries (nT, X, τ, img, τi, tn, tp, ss, sz, cl) what ∧ RM M2 (nT, X, τ, img, τi, tn, tp, ss, sz, cl))) z 19 [some (rv 0), some (iv what), some (iv c), some (iv f), some (iv (i : Int))] [] M := by
      intro NN
      induction NN with
      | zero => intros; omega
      | succ NN ih =>
        intro i c f hi hc hf hm
        have hlk := lk_b (fun d => decide (τ 2 d ≠ -1)) i
        have hfb := few_b τ i
        refine r_iload_4 dX6_tries_19 ?_
        refine r_bipush dX6_tries_21 (by decide) ?_
        refine r_icmp_ge dX6_tries_23 (by omega) (by omega) (fun c_23 => ?_) (fun c_23 => ?_)
        · skip
          obtain rfl : i = 8 := by omega
          rw [lk_8] at hc
          have hc : c = 8 - ((pop8 (sSnd τ).toNat : Nat) : Int) := hc
          have hp8 := pop8_b (sSnd τ).toNat
          refine r_iload_1 dX6_tries_73 (r_iconst dX6_tries_74 ?_)
          refine r_icmp_ne dX6_tries_75 (by omega) (by omega) (fun c_75 => ?_) (fun c_75 => ?_)
          · skip
            refine r_iload_2 dX6_tries_82 ?_
            refine r_if_le dX6_tries_83 (by omega) (fun c_83 => ?_) (fun c_83 => ?_)
            · skip
              refine r_iload_3 dX6_tries_98 ?_
              refine r_ireturn dX6_tries_99 rfl ?_
              refine ⟨_, rfl, ?_, hR⟩
              unfold a_tries
              simp only []
              (repeat (first | rw [if_pos (by omega)] | rw [if_neg (by omega)])) <;> omega
            · skip
              refine r_aload_0 dX6_tries_86 (r_getE dX6_tries_87 fX6_72 (rfl) (rfl) (hT.people) (r_iconst dX6_tries_90 ?_))
              refine r_icmp_ge dX6_tries_91 (by omega) (by omega) (fun c_91 => ?_) (fun c_91 => ?_)
              · skip
                refine r_iload_3 dX6_tries_98 ?_
                refine r_ireturn dX6_tries_99 rfl ?_
                refine ⟨_, rfl, ?_, hR⟩
                unfold a_tries
                simp only []
                (repeat (first | rw [if_pos (by omega)] | rw [if_neg (by omega)])) <;> omega
              · skip
                refine r_iconst dX6_tries_94 (r_goto dX6_tries_95 ?_)
                refine r_ireturn dX6_tries_99 rfl ?_
                refine ⟨_, rfl, ?_, hR⟩
                unfold a_tries
                simp only []
                (repeat (first | rw [if_pos (by omega)] | rw [if_neg (by omega)])) <;> omega
          · skip
            refine r_iload_2 dX6_tries_78 (r_goto dX6_tries_79 ?_)
            refine r_ireturn dX6_tries_99 rfl ?_
            refine ⟨_, rfl, ?_, hR⟩
            unfold a_tries
            simp only []
            (repeat (first | rw [if_pos (by omega)] | rw [if_neg (by omega)])) <;> omega
        · skip
          have hi8 : i < 8 := by omega
          have wd := hw.d hi8
          refine r_aload_0 dX6_tries_26 (r_getR dX6_tries_27 fX6_19 (rfl) (rfl) (r_iconst dX6_tries_30 (r_iload_4 dX6_tries_31 (r_imul dX6_tries_33 (r_iconst dX6_tries_34 (r_iadd dX6_tries_35 (r_ialX dX6_tries_36 (rfl) (hT.e2 hi8) (by omega) (by omega) (by omega) (r_iconst dX6_tries_37 ?_))))))))
          refine r_icmp_ne dX6_tries_38 (by omega) (by omega) (fun c_38 => ?_) (fun c_38 => ?_)
          · skip
            refine r_iinc_4 dX6_tries_67 rfl (r_goto dX6_tries_70 ?_)
            exact ih (i + 1) _ _ (by omega) (by simp only [lk]; rw [if_pos (by rw [decide_eq_true_eq]; exact c_38)]; omega) (by simp only [few]; rw [if_neg c_38]; omega) (by omega)
          · skip
            refine r_iinc_2 dX6_tries_41 rfl (r_iload_3 dX6_tries_44 (r_aload_0 dX6_tries_45 (r_getR dX6_tries_46 fX6_19 (rfl) (rfl) (r_iconst dX6_tries_49 (r_iload_4 dX6_tries_50 (r_imul dX6_tries_52 (r_iconst dX6_tries_53 (r_iadd dX6_tries_54 (r_ialX dX6_tries_55 (rfl) (hT.e1 hi8) (by omega) (by omega) (by omega) (r_iconst dX6_tries_56 ?_))))))))))
            refine r_icmp_ne dX6_tries_57 (by omega) (by omega) (fun c_57 => ?_) (fun c_57 => ?_)
            · skip
              refine r_iconst dX6_tries_64 (r_iadd dX6_tries_65 (r_istore_3 dX6_tries_66 rfl (r_iinc_4 dX6_tries_67 rfl (r_goto dX6_tries_70 ?_))))
              exact ih (i + 1) _ _ (by omega) (by simp only [lk]; rw [if_neg (by rw [decide_eq_true_eq]; omega)]; omega) (by simp only [few]; rw [if_pos (by omega), if_neg c_57]; omega) (by omega)
            · skip
              refine r_iconst dX6_tries_60 (r_goto dX6_tries_61 (r_iadd dX6_tries_65 (r_istore_3 dX6_tries_66 rfl (r_iinc_4 dX6_tries_67 rfl (r_goto dX6_tries_70 ?_)))))
              exact ih (i + 1) _ _ (by omega) (by simp only [lk]; rw [if_neg (by rw [decide_eq_true_eq]; omega)]; omega) (by simp only [few]; rw [if_pos (by omega), if_pos (by omega)]; omega) (by omega)
    exact lp_19 _ 0 0 0 (by omega) rfl rfl (Nat.lt_succ_self _)
  · skip
    refine r_bipush dX6_tries_9 (by decide) ?_
    refine r_ireturn dX6_tries_11 rfl ?_
    refine ⟨_, rfl, ?_, hR⟩
    unfold a_tries
    simp only []
    (repeat (first | rw [if_pos (by omega)] | rw [if_neg (by omega)])) <;> omega
set_option maxRecDepth 10000 in
set_option maxHeartbeats 4000000 in
theorem m_under {d : Nat} {M : Mem} {k t : Int} (h1 : ib k) (h2 : ib t) : Con GM d kX6_isUnder [iv k, iv t] M (pI (fun a M2 => M = M2 ∧ a = bi (decide (t = 0 ∨ k = t ∨ (t = 1 ∧ k = 3) ∨ (t = 2 ∧ k = 4))))) := by
  refine con_of [some (iv k), some (iv t)] (plX6) rfl (Nat.le_of_ble_eq_true rfl) (fun z => ?_)
  refine r_iload_1 dX6_isUnder_0 ?_
  refine r_if_eq dX6_isUnder_1 (by omega) (fun c_1 => ?_) (fun c_1 => ?_)
  · skip
    refine r_iconst dX6_isUnder_29 (r_goto dX6_isUnder_30 ?_)
    refine r_zreturn dX6_isUnder_34 rfl (by first | exact bi_01 _ | omega | decide) ?_
    first | exact ⟨_, rfl, rfl, bi_t (by omega)⟩ | exact ⟨_, rfl, rfl, bi_f (by omega)⟩
  · skip
    refine r_iload_0 dX6_isUnder_4 (r_iload_1 dX6_isUnder_5 ?_)
    refine r_icmp_eq dX6_isUnder_6 (by omega) (by omega) (fun c_6 => ?_) (fun c_6 => ?_)
    · skip
      refine r_iconst dX6_isUnder_29 (r_goto dX6_isUnder_30 ?_)
      refine r_zreturn dX6_isUnder_34 rfl (by first | exact bi_01 _ | omega | decide) ?_
      first | exact ⟨_, rfl, rfl, bi_t (by omega)⟩ | exact ⟨_, rfl, rfl, bi_f (by omega)⟩
    · skip
      refine r_iload_1 dX6_isUnder_9 (r_iconst dX6_isUnder_10 ?_)
      refine r_icmp_ne dX6_isUnder_11 (by omega) (by omega) (fun c_11 => ?_) (fun c_11 => ?_)
      · skip
        refine r_iload_1 dX6_isUnder_19 (r_iconst dX6_isUnder_20 ?_)
        refine r_icmp_ne dX6_isUnder_21 (by omega) (by omega) (fun c_21 => ?_) (fun c_21 => ?_)
        · skip
          refine r_iconst dX6_isUnder_33 ?_
          refine r_zreturn dX6_isUnder_34 rfl (by first | exact bi_01 _ | omega | decide) ?_
          first | exact ⟨_, rfl, rfl, bi_t (by omega)⟩ | exact ⟨_, rfl, rfl, bi_f (by omega)⟩
        · skip
          refine r_iload_0 dX6_isUnder_24 (r_iconst dX6_isUnder_25 ?_)
          refine r_icmp_ne dX6_isUnder_26 (by omega) (by omega) (fun c_26 => ?_) (fun c_26 => ?_)
          · skip
            refine r_iconst dX6_isUnder_33 ?_
            refine r_zreturn dX6_isUnder_34 rfl (by first | exact bi_01 _ | omega | decide) ?_
            first | exact ⟨_, rfl, rfl, bi_t (by omega)⟩ | exact ⟨_, rfl, rfl, bi_f (by omega)⟩
          · skip
            refine r_iconst dX6_isUnder_29 (r_goto dX6_isUnder_30 ?_)
            refine r_zreturn dX6_isUnder_34 rfl (by first | exact bi_01 _ | omega | decide) ?_
            first | exact ⟨_, rfl, rfl, bi_t (by omega)⟩ | exact ⟨_, rfl, rfl, bi_f (by omega)⟩
      · skip
        refine r_iload_0 dX6_isUnder_14 (r_iconst dX6_isUnder_15 ?_)
        refine r_icmp_eq dX6_isUnder_16 (by omega) (by omega) (fun c_16 => ?_) (fun c_16 => ?_)
        · skip
          refine r_iconst dX6_isUnder_29 (r_goto dX6_isUnder_30 ?_)
          refine r_zreturn dX6_isUnder_34 rfl (by first | exact bi_01 _ | omega | decide) ?_
          first | exact ⟨_, rfl, rfl, bi_t (by omega)⟩ | exact ⟨_, rfl, rfl, bi_f (by omega)⟩
        · skip
          refine r_iload_1 dX6_isUnder_19 (r_iconst dX6_isUnder_20 ?_)
          refine r_icmp_ne dX6_isUnder_21 (by omega) (by omega) (fun c_21 => ?_) (fun c_21 => ?_)
          · skip
            refine r_iconst dX6_isUnder_33 ?_
            refine r_zreturn dX6_isUnder_34 rfl (by first | exact bi_01 _ | omega | decide) ?_
            first | exact ⟨_, rfl, rfl, bi_t (by omega)⟩ | exact ⟨_, rfl, rfl, bi_f (by omega)⟩
          · skip
            refine r_iload_0 dX6_isUnder_24 (r_iconst dX6_isUnder_25 ?_)
            refine r_icmp_ne dX6_isUnder_26 (by omega) (by omega) (fun c_26 => ?_) (fun c_26 => ?_)
            · skip
              refine r_iconst dX6_isUnder_33 ?_
              refine r_zreturn dX6_isUnder_34 rfl (by first | exact bi_01 _ | omega | decide) ?_
              first | exact ⟨_, rfl, rfl, bi_t (by omega)⟩ | exact ⟨_, rfl, rfl, bi_f (by omega)⟩
            · skip
              refine r_iconst dX6_isUnder_29 (r_goto dX6_isUnder_30 ?_)
              refine r_zreturn dX6_isUnder_34 rfl (by first | exact bi_01 _ | omega | decide) ?_
              first | exact ⟨_, rfl, rfl, bi_t (by omega)⟩ | exact ⟨_, rfl, rfl, bi_f (by omega)⟩
set_option maxRecDepth 10000 in
set_option maxHeartbeats 4000000 in
theorem m6_taken {M : Mem} {nT tn : Nat} {X : Nat → Tx} {τ τi : Tn} {img : Bool} {tp ss sz : Nat → Int} {cl : Nat → Nat → Int} (hR : RM M (nT, X, τ, img, τi, tn, tp, ss, sz, cl)) (hJ : JNV (nT, X, τ, img, τi, tn, tp, ss, sz, cl)) {w : Int} (h_w : ib w) {t : Int} (h_t : ib t) : Con GM 9 kX6_taken [rv 0, iv w, iv t] M (pI (fun a M2 => a = a_taken (nT, X, τ, img, τi, tn, tp, ss, sz, cl) w t ∧ RM M2 (nT, X, τ, img, τi, tn, tp, ss, sz, cl))) := by
  refine con_of [some (rv 0), some (iv w), some (iv t)] (plX6) rfl (Nat.le_of_ble_eq_true rfl) (fun z => ?_)
  have hR0 := hR
  obtain ⟨hT, hX, hnT, himg, hIM, ⟨htn, htp⟩, hsh, hwc⟩ := hR0
  have hT : TM M τ := hT
  have hJ0 := hJ
  obtain ⟨⟨⟨iT1, iT6⟩, ⟨hw, icl⟩, iim, ⟨itn, itp⟩, ish⟩, hki⟩ := hJ0
  obtain ⟨⟨wn, wn2⟩, wcl, ⟨wl, wl2⟩, -, -⟩ := id hw
  have hcl : τ 8 1 < 2147483648 := by omega
  refine r_mb (fun hMB => ?_)
  refine r_iload_2 dX6_taken_0 (r_iconst dX6_taken_1 (r_bipush dX6_taken_2 (by decide) ?_))
  refine r_cSI3 dX6_taken_4 sX6_75 (m_in (d := 0) (by omega) (by omega) (by omega)) (by decide) (Nat.le_of_ble_eq_true rfl) (fun b_4 M_4 h_4 => ?_)
  obtain ⟨rfl, rfl⟩ := h_4
  first | refine r_ifd_ne dX6_taken_7 (fun c_7 => ?_) (fun c_7 => ?_) | refine r_ifb_ne dX6_taken_7 (fun c_7 => ?_) (fun c_7 => ?_)
  · skip
    refine r_iload_1 dX6_taken_13 (r_iconst dX6_taken_14 (r_bipush dX6_taken_15 (by decide) ?_))
    refine r_cSI3 dX6_taken_17 sX6_75 (m_in (d := 0) (by omega) (by omega) (by omega)) (by decide) (Nat.le_of_ble_eq_true rfl) (fun b_17 M_17 h_17 => ?_)
    obtain ⟨rfl, rfl⟩ := h_17
    first | refine r_ifd_ne dX6_taken_20 (fun c_20 => ?_) (fun c_20 => ?_) | refine r_ifb_ne dX6_taken_20 (fun c_20 => ?_) (fun c_20 => ?_)
    · skip
      refine r_iload_1 dX6_taken_26 (r_bipush dX6_taken_27 (by decide) ?_)
      refine r_icmp_lt dX6_taken_29 (by omega) (by omega) (fun c_29 => ?_) (fun c_29 => ?_)
      · skip
        obtain ⟨q, rfl⟩ : ∃ q : Nat, w = q := ⟨w.toNat, by omega⟩
        have hq6 : q < 6 := by omega
        have wq := hw.p hq6
        refine r_iload_1 dX6_taken_55 (r_aload_0 dX6_taken_56 (r_getE dX6_taken_57 fX6_72 (rfl) (rfl) (hT.people) ?_))
        refine r_icmp_lt dX6_taken_60 (by omega) (by omega) (fun c_60 => ?_) (fun c_60 => ?_)
        · skip
          skip
          refine r_iload_2 dX6_taken_68 (r_bipush dX6_taken_69 (by decide) ?_)
          refine r_icmp_ge dX6_taken_71 (by omega) (by omega) (fun c_71 => ?_) (fun c_71 => ?_)
          · skip
            refine r_bipush dX6_taken_91 (by decide) ?_
            refine r_ireturn dX6_taken_93 rfl ?_
            refine ⟨_, rfl, ?_, hR⟩
            unfold a_taken
            simp only [Int.toNat_natCast]
            (repeat (first | rw [if_pos (by omega)] | rw [if_neg (by omega)])) <;> first | omega | (rw [he9]) | (rw [if_pos (by unfold kOne; rw [decide_eq_true_eq]; omega)]) | (rw [if_neg (by unfold kOne; rw [decide_eq_true_eq]; omega)])
          · skip
            refine r_aload_0 dX6_taken_74 (r_getR dX6_taken_75 fX6_7 (rfl) (rfl) (r_iload_1 dX6_taken_78 (r_ialX dX6_taken_79 (rfl) (hT.e6 (by omega)) (by omega) (by omega) (by omega) (r_iload_2 dX6_taken_80 ?_))))
            refine r_cSI2 dX6_taken_81 sX6_251 (m_under (d := 0) (by omega) (by omega)) (by decide) (Nat.le_of_ble_eq_true rfl) (fun b_81 M_81 h_81 => ?_)
            obtain ⟨rfl, rfl⟩ := h_81
            first | refine r_ifd_eq dX6_taken_84 (fun c_84 => ?_) (fun c_84 => ?_) | refine r_ifb_eq dX6_taken_84 (fun c_84 => ?_) (fun c_84 => ?_)
            · skip
              refine r_bipush dX6_taken_91 (by decide) ?_
              refine r_ireturn dX6_taken_93 rfl ?_
              refine ⟨_, rfl, ?_, hR⟩
              unfold a_taken
              simp only [Int.toNat_natCast]
              (repeat (first | rw [if_pos (by omega)] | rw [if_neg (by omega)])) <;> first | omega | (rw [he9]) | (rw [if_pos (by unfold kOne; rw [decide_eq_true_eq]; omega)]) | (rw [if_neg (by unfold kOne; rw [decide_eq_true_eq]; omega)])
            · skip
              refine r_iload_1 dX6_taken_87 (r_goto dX6_taken_88 ?_)
              refine r_ireturn dX6_taken_93 rfl ?_
              refine ⟨_, rfl, ?_, hR⟩
              unfold a_taken
              simp only [Int.toNat_natCast]
              (repeat (first | rw [if_pos (by omega)] | rw [if_neg (by omega)])) <;> first | omega | (rw [he9]) | (rw [if_pos (by unfold kOne; rw [decide_eq_true_eq]; omega)]) | (rw [if_neg (by unfold kOne; rw [decide_eq_true_eq]; omega)])
        · skip
          skip
          refine r_bipush dX6_taken_63 (by decide) (r_goto dX6_taken_65 ?_)
          refine r_ireturn dX6_taken_93 rfl ?_
          refine ⟨_, rfl, ?_, hR⟩
          unfold a_taken
          simp only [Int.toNat_natCast]
          (repeat (first | rw [if_pos (by omega)] | rw [if_neg (by omega)])) <;> first | omega | (rw [he9]) | (rw [if_pos (by unfold kOne; rw [decide_eq_true_eq]; omega)]) | (rw [if_neg (by unfold kOne; rw [decide_eq_true_eq]; omega)])
      · skip
        obtain ⟨e, he⟩ : ∃ e : Nat, w = 6 + (e : Int) := ⟨(w - 6).toNat, by omega⟩
        have he8 : e < 8 := by omega
        have he9 : (w - 6).toNat = e := by omega
        refine r_iload_2 dX6_taken_32 (r_bipush dX6_taken_33 (by decide) ?_)
        refine r_icmp_ne dX6_taken_35 (by omega) (by omega) (fun c_35 => ?_) (fun c_35 => ?_)
        · skip
          refine r_bipush dX6_taken_52 (by decide) ?_
          refine r_ireturn dX6_taken_54 rfl ?_
          refine ⟨_, rfl, ?_, hR⟩
          unfold a_taken
          simp only [Int.toNat_natCast]
          (repeat (first | rw [if_pos (by omega)] | rw [if_neg (by omega)])) <;> first | omega | (rw [he9]) | (rw [if_pos (by unfold kOne; rw [decide_eq_true_eq]; omega)]) | (rw [if_neg (by unfold kOne; rw [decide_eq_true_eq]; omega)])
        · skip
          refine r_aload_0 dX6_taken_38 (r_getR dX6_taken_39 fX6_19 (rfl) (rfl) (r_iconst dX6_taken_42 (r_iload_1 dX6_taken_43 (r_bipush dX6_taken_44 (by decide) (r_isub dX6_taken_46 (r_imul dX6_taken_47 (r_ialX dX6_taken_48 (rfl) (hT.e0 he8) (by omega) (by omega) (by omega) (r_goto dX6_taken_49 ?_))))))))
          refine r_ireturn dX6_taken_54 rfl ?_
          refine ⟨_, rfl, ?_, hR⟩
          unfold a_taken
          simp only [Int.toNat_natCast]
          (repeat (first | rw [if_pos (by omega)] | rw [if_neg (by omega)])) <;> first | omega | (rw [he9]) | (rw [if_pos (by unfold kOne; rw [decide_eq_true_eq]; omega)]) | (rw [if_neg (by unfold kOne; rw [decide_eq_true_eq]; omega)])
    · skip
      refine r_bipush dX6_taken_23 (by decide) ?_
      refine r_ireturn dX6_taken_25 rfl ?_
      refine ⟨_, rfl, ?_, hR⟩
      unfold a_taken
      simp only [Int.toNat_natCast]
      (repeat (first | rw [if_pos (by omega)] | rw [if_neg (by omega)])) <;> first | omega | (rw [he9]) | (rw [if_pos (by unfold kOne; rw [decide_eq_true_eq]; omega)]) | (rw [if_neg (by unfold kOne; rw [decide_eq_true_eq]; omega)])
  · skip
    refine r_bipush dX6_taken_10 (by decide) ?_
    refine r_ireturn dX6_taken_12 rfl ?_
    refine ⟨_, rfl, ?_, hR⟩
    unfold a_taken
    simp only [Int.toNat_natCast]
    (repeat (first | rw [if_pos (by omega)] | rw [if_neg (by omega)])) <;> first | omega | (rw [he9]) | (rw [if_pos (by unfold kOne; rw [decide_eq_true_eq]; omega)]) | (rw [if_neg (by unfold kOne; rw [decide_eq_true_eq]; omega)])
set_option maxRecDepth 10000 in
set_option maxHeartbeats 4000000 in
theorem m6_image {M : Mem} {nT tn : Nat} {X : Nat → Tx} {τ τi : Tn} {img : Bool} {tp ss sz : Nat → Int} {cl : Nat → Nat → Int} (hR : RM M (nT, X, τ, img, τi, tn, tp, ss, sz, cl)) (hJ : JNV (nT, X, τ, img, τi, tn, tp, ss, sz, cl))  : Con GM 9 kX6_image [rv 0] M (pI (fun a M2 => a = a_image (nT, X, τ, img, τi, tn, tp, ss, sz, cl)  ∧ RM M2 (t_image (nT, X, τ, img, τi, tn, tp, ss, sz, cl) ))) := by
  refine con_of [some (rv 0), none] (plX6) rfl (Nat.le_of_ble_eq_true rfl) (fun z => ?_)
  have hR0 := hR
  obtain ⟨hT, hX, hnT, himg, hIM, ⟨htn, htp⟩, hsh, hwc⟩ := hR0
  have hT : TM M τ := hT
  have hJ0 := hJ
  obtain ⟨⟨⟨iT1, iT6⟩, ⟨hw, icl⟩, iim, ⟨itn, itp⟩, ish⟩, hki⟩ := hJ0
  obtain ⟨⟨wn, wn2⟩, wcl, ⟨wl, wl2⟩, -, -⟩ := id hw
  have hcl : τ 8 1 < 2147483648 := by omega
  refine r_mb (fun hMB => ?_)
  refine r_aload_0 dX6_image_0 (r_iconst dX6_image_1 ?_)
  refine r_putZ dX6_image_2 pX6_244 (rfl) (rfl) (by omega) ?_
  refine r_iconst dX6_image_5 (r_istore_1 dX6_image_6 rfl ?_)
  have lp_7 : ∀ (NN : Nat) (i : Nat) (Mv : Mem) (hi : i ≤ 18) (hv : ∀ k, k < i → Mv 8 k = M 3 k) (h12 : Mv 0 12 = 1) (fv : Fm (fun c i => c = 8 ∨ c = 9 ∨ (c = 0 ∧ i = 12)) M Mv), 18 - i < NN → WP kX6_image GM 9 (pI (fun a M2 => a = a_image (nT, X, τ, img, τi, tn, tp, ss, sz, cl)  ∧ RM M2 (t_image (nT, X, τ, img, τi, tn, tp, ss, sz, cl) ))) z 7 [some (rv 0), some (iv (i : Int))] [] Mv := by
    intro NN
    induction NN with
    | zero => intros; omega
    | succ NN ih =>
      intro i Mv hi hv h12 fv hm
      have hb := hMB 3 i
      refine r_iload_1 dX6_image_7 ?_
      refine r_bipush dX6_image_8 (by decide) ?_
      refine r_icmp_ge dX6_image_10 (by omega) (by omega) (fun c_10 => ?_) (fun c_10 => ?_)
      · skip
        obtain rfl : i = 18 := by omega
        refine r_iconst dX6_image_31 (r_istore_1 dX6_image_32 rfl ?_)
        have lp_33 : ∀ (NN : Nat) (j : Nat) (Mw : Mem) (hj : j ≤ 24) (hv2 : ∀ k, k < 18 → Mw 8 k = M 3 k) (hw2 : ∀ k, k < j → Mw 8 (18 + k) = M 4 k) (h12 : Mw 0 12 = 1) (fw : Fm (fun c i => c = 8 ∨ c = 9 ∨ (c = 0 ∧ i = 12)) M Mw), 24 - j < NN → WP kX6_image GM 9 (pI (fun a M2 => a = a_image (nT, X, τ, img, τi, tn, tp, ss, sz, cl)  ∧ RM M2 (t_image (nT, X, τ, img, τi, tn, tp, ss, sz, cl) ))) z 33 [some (rv 0), some (iv (j : Int))] [] Mw := by
          intro NN
          induction NN with
          | zero => intros; omega
          | succ NN ih =>
            intro j Mw hj hv2 hw2 h12 fw hm
            have hb := hMB 4 j
            refine r_iload_1 dX6_image_33 ?_
            refine r_bipush dX6_image_34 (by decide) ?_
            refine r_icmp_ge dX6_image_36 (by omega) (by omega) (fun c_36 => ?_) (fun c_36 => ?_)
            · skip
              obtain rfl : j = 24 := by omega
              refine r_aload_0 dX6_image_60 (r_getR dX6_image_61 fX6_34 (rfl) (rfl) (r_iconst dX6_image_64 (r_aload_0 dX6_image_65 (r_getE dX6_image_66 fX6_72 (rfl) (rfl) ((fw 0 0 (by omega)).trans hT.people) ?_))))
              refine r_iasX (0) dX6_image_69 (rfl) (by omega) (by omega) (by omega) (by omega) ?_
              refine r_aload_0 dX6_image_70 (r_getR dX6_image_71 fX6_34 (rfl) (rfl) (r_iconst dX6_image_74 (r_aload_0 dX6_image_75 (r_getE (v := τ 8 1) dX6_image_76 fX6_79 (rfl) (rfl) ((upM_ne (by omega)).trans ((fw 0 5 (by omega)).trans hT.clock)) ?_))))
              refine r_iasX (1) dX6_image_79 (rfl) (by omega) (by omega) (by omega) (by omega) ?_
              refine r_aload_0 dX6_image_80 (r_getR dX6_image_81 fX6_34 (rfl) (rfl) (r_iconst dX6_image_84 (r_aload_0 dX6_image_85 (r_getE (v := τ 8 2) dX6_image_86 fX6_92 (rfl) (rfl) ((upM_ne (by omega)).trans ((upM_ne (by omega)).trans ((fw 0 11 (by omega)).trans hT.rule))) ?_))))
              refine r_iasX (2) dX6_image_89 (rfl) (by omega) (by omega) (by omega) (by omega) ?_
              refine r_aload_0 dX6_image_90 (r_getE (v := τ 8 0) dX6_image_91 fX6_72 (rfl) (rfl) ((upM_ne (by omega)).trans ((upM_ne (by omega)).trans ((upM_ne (by omega)).trans ((fw 0 0 (by omega)).trans hT.people)))) ?_)
              refine r_ireturn dX6_image_94 rfl ?_
              refine ⟨_, rfl, rfl, hR.imaged (((fw.up (Or.inr (Or.inl rfl))).up (Or.inr (Or.inl rfl))).up (Or.inr (Or.inl rfl))) ?_ ⟨fun p hp j hj => ?_, fun d hd j hj => ?_, ?_, ?_, upM_self⟩⟩
              · rw [upM_ne (by omega), upM_ne (by omega), upM_ne (by omega)]; exact h12
              · rw [upM_ne (by omega), upM_ne (by omega), upM_ne (by omega), hv2 _ (by omega)]; exact hT.1 p hp j hj
              · rw [upM_ne (by omega), upM_ne (by omega), upM_ne (by omega), hw2 _ (by omega)]; exact hT.2.1 d hd j hj
              · rw [upM_ne (by omega), upM_ne (by omega), upM_self]
              · rw [upM_ne (by omega), upM_self]
            · skip
              refine r_aload_0 dX6_image_39 (r_getR dX6_image_40 fX6_31 (rfl) (rfl) (r_bipush dX6_image_43 (by decide) (r_iload_1 dX6_image_45 (r_iadd dX6_image_46 (r_aload_0 dX6_image_47 (r_getR dX6_image_48 fX6_19 (rfl) (rfl) (r_iload_1 dX6_image_51 (r_ialX dX6_image_52 (rfl) (fw 4 j (by omega)) (by omega) (by omega) (by omega) ?_))))))))
              refine r_iasX (18 + j) dX6_image_53 (rfl) (by omega) (by omega) (by omega) (by omega) ?_
              refine r_iinc_1 dX6_image_54 rfl (r_goto dX6_image_57 ?_)
              exact ih (j + 1) _ (by omega) (fun k hk => by rw [upM_ne (by omega)]; exact hv2 k hk) (fun k hk => by
                by_cases e : k = j
                · rw [e, upM_self]
                · rw [upM_ne (by omega)]; exact hw2 k (by omega)) ((upM_ne (by omega)).trans h12) (fw.up (Or.inl rfl)) (by omega)
        exact lp_33 _ 0 Mv (by omega) hv (fun k hk => absurd hk (Nat.not_lt_zero _)) h12 fv (Nat.lt_succ_self _)
      · skip
        refine r_aload_0 dX6_image_13 (r_getR dX6_image_14 fX6_31 (rfl) (rfl) (r_iload_1 dX6_image_17 (r_aload_0 dX6_image_18 (r_getR dX6_image_19 fX6_16 (rfl) (rfl) (r_iload_1 dX6_image_22 (r_ialX dX6_image_23 (rfl) (fv 3 i (by omega)) (by omega) (by omega) (by omega) ?_))))))
        refine r_iasX (i) dX6_image_24 (rfl) (by omega) (by omega) (by omega) (by omega) ?_
        refine r_iinc_1 dX6_image_25 rfl (r_goto dX6_image_28 ?_)
        exact ih (i + 1) _ (by omega) (fun k hk => by
          by_cases e : k = i
          · rw [e, upM_self]
          · rw [upM_ne (by omega)]; exact hv k (by omega)) ((upM_ne (by omega)).trans h12) (fv.up (Or.inl rfl)) (by omega)
  exact lp_7 _ 0 _ (by omega) (fun k hk => absurd hk (Nat.not_lt_zero _)) upM_self (Fm.refl.up (Or.inr (Or.inr ⟨rfl, rfl⟩))) (Nat.lt_succ_self _)
set_option maxRecDepth 10000 in
set_option maxHeartbeats 4000000 in
theorem m6_back {M : Mem} {nT tn : Nat} {X : Nat → Tx} {τ τi : Tn} {img : Bool} {tp ss sz : Nat → Int} {cl : Nat → Nat → Int} (hR : RM M (nT, X, τ, img, τi, tn, tp, ss, sz, cl)) (hJ : JNV (nT, X, τ, img, τi, tn, tp, ss, sz, cl))  : Con GM 9 kX6_back [rv 0] M (pI (fun a M2 => a = a_back (nT, X, τ, img, τi, tn, tp, ss, sz, cl)  ∧ RM M2 (t_back (nT, X, τ, img, τi, tn, tp, ss, sz, cl) ))) := by
  refine con_of [some (rv 0), none] (plX6) rfl (Nat.le_of_ble_eq_true rfl) (fun z => ?_)
  have hR0 := hR
  obtain ⟨hT, hX, hnT, himg, hIM, ⟨htn, htp⟩, hsh, hwc⟩ := hR0
  have hT : TM M τ := hT
  have hJ0 := hJ
  obtain ⟨⟨⟨iT1, iT6⟩, ⟨hw, icl⟩, iim, ⟨itn, itp⟩, ish⟩, hki⟩ := hJ0
  obtain ⟨⟨wn, wn2⟩, wcl, ⟨wl, wl2⟩, -, -⟩ := id hw
  have hcl : τ 8 1 < 2147483648 := by omega
  refine r_mb (fun hMB => ?_)
  refine r_aload_0 dX6_back_0 (r_getE dX6_back_1 fX6_244 (rfl) (rfl) (himg) ?_)
  refine r_ifb_ne dX6_back_4 (fun c_4 => ?_) (fun c_4 => ?_)
  · skip
    have hI := hIM c_4
    have hii := iim c_4
    have hk8 := hki c_4
    obtain ⟨⟨vn, vn2⟩, vcl, ⟨vl, vl2⟩, -, -⟩ := id hii.1
    refine r_iconst dX6_back_10 (r_istore_1 dX6_back_11 rfl ?_)
    have lp_12 : ∀ (NN : Nat) (i : Nat) (Mv : Mem) (hi : i ≤ 18) (hv : ∀ k, k < i → Mv 3 k = M 8 k) (fv : Fm (fun c i => c = 3 ∨ c = 4 ∨ (c = 0 ∧ (i = 0 ∨ i = 5 ∨ i = 11))) M Mv), 18 - i < NN → WP kX6_back GM 9 (pI (fun a M2 => a = a_back (nT, X, τ, img, τi, tn, tp, ss, sz, cl)  ∧ RM M2 (t_back (nT, X, τ, img, τi, tn, tp, ss, sz, cl) ))) z 12 [some (rv 0), some (iv (i : Int))] [] Mv := by
      intro NN
      induction NN with
      | zero => intros; omega
      | succ NN ih =>
        intro i Mv hi hv fv hm
        have hb := hMB 8 i
        refine r_iload_1 dX6_back_12 ?_
        refine r_bipush dX6_back_13 (by decide) ?_
        refine r_icmp_ge dX6_back_15 (by omega) (by omega) (fun c_15 => ?_) (fun c_15 => ?_)
        · skip
          obtain rfl : i = 18 := by omega
          refine r_iconst dX6_back_36 (r_istore_1 dX6_back_37 rfl ?_)
          have lp_38 : ∀ (NN : Nat) (j : Nat) (Mw : Mem) (hj : j ≤ 24) (hv2 : ∀ k, k < 18 → Mw 3 k = M 8 k) (hw2 : ∀ k, k < j → Mw 4 k = M 8 (18 + k)) (fw : Fm (fun c i => c = 3 ∨ c = 4 ∨ (c = 0 ∧ (i = 0 ∨ i = 5 ∨ i = 11))) M Mw), 24 - j < NN → WP kX6_back GM 9 (pI (fun a M2 => a = a_back (nT, X, τ, img, τi, tn, tp, ss, sz, cl)  ∧ RM M2 (t_back (nT, X, τ, img, τi, tn, tp, ss, sz, cl) ))) z 38 [some (rv 0), some (iv (j : Int))] [] Mw := by
            intro NN
            induction NN with
            | zero => intros; omega
            | succ NN ih =>
              intro j Mw hj hv2 hw2 fw hm
              have hb := hMB 8 (18 + j)
              refine r_iload_1 dX6_back_38 ?_
              refine r_bipush dX6_back_39 (by decide) ?_
              refine r_icmp_ge dX6_back_41 (by omega) (by omega) (fun c_41 => ?_) (fun c_41 => ?_)
              · skip
                obtain rfl : j = 24 := by omega
                refine r_aload_0 dX6_back_65 (r_aload_0 dX6_back_66 (r_getR dX6_back_67 fX6_34 (rfl) (rfl) (r_iconst dX6_back_70 (r_ialX dX6_back_71 (rfl) ((fw 9 0 (by omega)).trans hI.2.2.1) (by omega) (by omega) (by omega) ?_))))
                refine r_put dX6_back_72 pX6_72 (rfl) (rfl) (by omega) ?_
                refine r_aload_0 dX6_back_75 (r_aload_0 dX6_back_76 (r_getR dX6_back_77 fX6_34 (rfl) (rfl) (r_iconst dX6_back_80 (r_ialX (v := τi 8 1) dX6_back_81 (rfl) ((upM_ne (by omega)).trans ((fw 9 1 (by omega)).trans hI.2.2.2.1)) (by omega) (by omega) (by omega) ?_))))
                refine r_put dX6_back_82 pX6_79 (rfl) (rfl) (by omega) ?_
                refine r_aload_0 dX6_back_85 (r_aload_0 dX6_back_86 (r_getR dX6_back_87 fX6_34 (rfl) (rfl) (r_iconst dX6_back_90 (r_ialX (v := τi 8 2) dX6_back_91 (rfl) ((upM_ne (by omega)).trans ((upM_ne (by omega)).trans ((fw 9 2 (by omega)).trans hI.2.2.2.2))) (by omega) (by omega) (by omega) ?_))))
                refine r_put dX6_back_92 pX6_92 (rfl) (rfl) (by omega) ?_
                refine r_aload_0 dX6_back_95 (r_getE (v := τi 8 0) dX6_back_96 fX6_72 (rfl) (rfl) ((upM_ne (by omega)).trans ((upM_ne (by omega)).trans upM_self)) ?_)
                refine r_ireturn dX6_back_99 rfl ?_
                have fz : Fm (fun c i => c = 3 ∨ c = 4 ∨ (c = 0 ∧ (i = 0 ∨ i = 5 ∨ i = 11))) M (upM (upM (upM Mw 0 0 (τi 8 0)) 0 5 (τi 8 1)) 0 11 (τi 8 2)) := ((fw.up (by omega)).up (by omega)).up (by omega)
                have wz : TM (upM (upM (upM Mw 0 0 (τi 8 0)) 0 5 (τi 8 1)) 0 11 (τi 8 2)) τi := by
                  refine ⟨fun p hp j hj => ?_, fun d hd j hj => ?_, ?_, ?_, upM_self, fun p hp => ?_⟩
                  · rw [upM_ne (by omega), upM_ne (by omega), upM_ne (by omega), hv2 _ (by omega)]; exact hI.1 p hp j hj
                  · rw [upM_ne (by omega), upM_ne (by omega), upM_ne (by omega), hw2 _ (by omega)]; exact hI.2.1 d hd j hj
                  · rw [upM_ne (by omega), upM_ne (by omega), upM_self]
                  · rw [upM_ne (by omega), upM_self]
                  · have hq := hk8.2 p hp
                    exact ⟨(fz _ _ (by omega)).trans ((hT.e6 (by omega)).trans hq.1.symm), (fz _ _ (by omega)).trans ((hT.e7 (by omega)).trans hq.2.symm)⟩
                refine ⟨_, rfl, ?_, ?_⟩
                · unfold a_back; simp only []; rw [if_pos c_4]
                · unfold t_back; simp only []; rw [if_pos c_4]; exact hR.now wz (fz.mono (fun c i w => by have w : c = 3 ∨ c = 4 ∨ (c = 0 ∧ (i = 0 ∨ i = 5 ∨ i = 11)) := w; omega))
              · skip
                refine r_aload_0 dX6_back_44 (r_getR dX6_back_45 fX6_19 (rfl) (rfl) (r_iload_1 dX6_back_48 (r_aload_0 dX6_back_49 (r_getR dX6_back_50 fX6_31 (rfl) (rfl) (r_bipush dX6_back_53 (by decide) (r_iload_1 dX6_back_55 (r_iadd dX6_back_56 (r_ialX dX6_back_57 (rfl) (fw 8 (18 + j) (by omega)) (by omega) (by omega) (by omega) ?_))))))))
                refine r_iasX (j) dX6_back_58 (rfl) (by omega) (by omega) (by omega) (by omega) ?_
                refine r_iinc_1 dX6_back_59 rfl (r_goto dX6_back_62 ?_)
                exact ih (j + 1) _ (by omega) (fun k hk => by rw [upM_ne (by omega)]; exact hv2 k hk) (fun k hk => by
                  by_cases e : k = j
                  · rw [e, upM_self]
                  · rw [upM_ne (by omega)]; exact hw2 k (by omega)) (fw.up (Or.inr (Or.inl rfl))) (by omega)
          exact lp_38 _ 0 Mv (by omega) hv (fun k hk => absurd hk (Nat.not_lt_zero _)) fv (Nat.lt_succ_self _)
        · skip
          refine r_aload_0 dX6_back_18 (r_getR dX6_back_19 fX6_16 (rfl) (rfl) (r_iload_1 dX6_back_22 (r_aload_0 dX6_back_23 (r_getR dX6_back_24 fX6_31 (rfl) (rfl) (r_iload_1 dX6_back_27 (r_ialX dX6_back_28 (rfl) (fv 8 i (by omega)) (by omega) (by omega) (by omega) ?_))))))
          refine r_iasX (i) dX6_back_29 (rfl) (by omega) (by omega) (by omega) (by omega) ?_
          refine r_iinc_1 dX6_back_30 rfl (r_goto dX6_back_33 ?_)
          exact ih (i + 1) _ (by omega) (fun k hk => by
            by_cases e : k = i
            · rw [e, upM_self]
            · rw [upM_ne (by omega)]; exact hv k (by omega)) (fv.up (Or.inl rfl)) (by omega)
    exact lp_12 _ 0 _ (by omega) (fun k hk => absurd hk (Nat.not_lt_zero _)) Fm.refl (Nat.lt_succ_self _)
  · skip
    refine r_bipush dX6_back_7 (by decide) ?_
    refine r_ireturn dX6_back_9 rfl ?_
    refine ⟨_, rfl, ?_, ?_⟩
    · unfold a_back; simp only []; rw [if_neg (by rw [c_4]; decide)]
    · unfold t_back; simp only []; rw [if_neg (by rw [c_4]; decide)]; exact hR

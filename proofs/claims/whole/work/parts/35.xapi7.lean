theorem qJ_none : Cond.constantLong RX5 202 (Int64.ofInt (-4611686018427387904)) ∈ q_tbl := by
  rw [show Int64.ofInt (-4611686018427387904) = -4611686018427387904 by decide +kernel]
  exact qX5_202
set_option maxRecDepth 10000 in
set_option maxHeartbeats 4000000 in
theorem x_low {n : Nat} {M : Mem} {a0 b0 : Nat} {part : Int} (ha : a0 ≤ 99) (hb0 : 0 < b0) (hb : b0 < 100000) (hp : ib part) : Con GX n kX5_lowest [iv (a0 : Int), iv (b0 : Int), iv part] M (pJ (fun v M2 => M = M2 ∧ v = lwst a0 b0 part)) := by
  refine con_of [some (iv (a0 : Int)), some (iv (b0 : Int)), some (iv part), none, none, none, none] (plX5) rfl (Nat.le_of_ble_eq_true rfl) (fun z => ?_)
  refine r_iload_1 dX5_lowest_0 (r_istore_3 dX5_lowest_1 rfl (r_iload_0 dX5_lowest_2 (r_istore_4 dX5_lowest_3 rfl (r_iconst dX5_lowest_5 (r_istore_5 dX5_lowest_6 rfl ?_)))))
  have lp_8 : ∀ (NN : Nat) (i a b : Nat) (u : Option PV) (hi : b + i ≤ 99) (ha1 : 0 < a) (ha2 : a < 100000) (hg : Nat.gcd b a = Nat.gcd a0 b0), 1000 - i < NN → WP kX5_lowest GX n (pJ (fun v M2 => M = M2 ∧ v = lwst a0 b0 part)) z 8 [some (iv (a0 : Int)), some (iv (b0 : Int)), some (iv part), some (iv (a : Int)), some (iv (b : Int)), some (iv (i : Int)), u] [] M := by
    intro NN
    induction NN with
    | zero => intros; omega
    | succ NN ih =>
      intro i a b u hi ha1 ha2 hg hm
      refine r_iload_5 dX5_lowest_8 ?_
      refine r_bipush dX5_lowest_10 (by decide) ?_
      refine r_icmp_ge dX5_lowest_12 (by omega) (by omega) (fun c_12 => ?_) (fun c_12 => ?_)
      · exfalso; omega
      · skip
        refine r_iload_4 dX5_lowest_15 ?_
        refine r_if_eq dX5_lowest_17 (by omega) (fun c_17 => ?_) (fun c_17 => ?_)
        · skip
          obtain rfl : b = 0 := by omega
          rw [Nat.gcd_zero_left] at hg
          have hd0 : a ∣ a0 := hg ▸ Nat.gcd_dvd_left a0 b0
          have hd1 : a ∣ b0 := hg ▸ Nat.gcd_dvd_right a0 b0
          have ja : a0 / a ≤ a0 := Nat.div_le_self _ _
          have jb : b0 / a ≤ b0 := Nat.div_le_self _ _
          obtain ⟨y0, hy0⟩ : ∃ y, a0 / a = y := ⟨_, rfl⟩
          obtain ⟨y1, hy1⟩ : ∃ y, b0 / a = y := ⟨_, rfl⟩
          rw [hy0] at ja
          rw [hy1] at jb
          refine r_iload_3 dX5_lowest_39 ?_
          refine r_if_ne dX5_lowest_40 (by omega) (fun c_40 => ?_) (fun c_40 => ?_)
          · skip
            refine r_iload_2 dX5_lowest_47 ?_
            refine r_if_ne dX5_lowest_48 (by omega) (fun c_48 => ?_) (fun c_48 => ?_)
            · skip
              refine r_iload_1 dX5_lowest_58 (r_iload_3 dX5_lowest_59 ?_)
              refine r_idiv dX5_lowest_60 (by omega) (by omega) (by omega) (by omega) ?_
              rw [show ((b0 : Int).tdiv (a : Int)) = ((b0 / a : Nat) : Int) from rfl, hy1]
              refine r_i2l dX5_lowest_61 (by omega) ?_
              refine r_lreturn dX5_lowest_62 rfl ?_
              refine ⟨_, rfl, rfl, ?_⟩
              unfold lwst
              rw [if_neg (by omega), ← hg, hy1]
            · skip
              refine r_iload_0 dX5_lowest_51 (r_iload_3 dX5_lowest_52 ?_)
              refine r_idiv dX5_lowest_53 (by omega) (by omega) (by omega) (by omega) ?_
              rw [show ((a0 : Int).tdiv (a : Int)) = ((a0 / a : Nat) : Int) from rfl, hy0]
              refine r_i2l dX5_lowest_54 (by omega) (r_goto dX5_lowest_55 ?_)
              refine r_lreturn dX5_lowest_62 rfl ?_
              refine ⟨_, rfl, rfl, ?_⟩
              unfold lwst
              rw [if_pos (by omega), ← hg, hy0]
          · exfalso; omega
        · skip
          have hlt : a % b < b := Nat.mod_lt a (by omega)
          refine r_iload_3 dX5_lowest_20 (r_iload_4 dX5_lowest_21 ?_)
          refine r_irem dX5_lowest_23 (by omega) (by omega) (by omega) ?_
          rw [show ((a : Int).tmod (b : Int)) = ((a % b : Nat) : Int) from rfl]
          refine r_istore_6 dX5_lowest_24 rfl (r_iload_4 dX5_lowest_26 (r_istore_3 dX5_lowest_28 rfl (r_iload_6 dX5_lowest_29 (r_istore_4 dX5_lowest_31 rfl (r_iinc_5 dX5_lowest_33 rfl (r_goto dX5_lowest_36 ?_))))))
          exact ih (i + 1) b (a % b) _ (by omega) (by omega) (by omega) ((Nat.gcd_rec b a).symm.trans hg) (by omega)
  exact lp_8 _ 0 b0 a0 none (by omega) hb0 hb rfl (Nat.lt_succ_self _)
set_option maxRecDepth 10000 in
set_option maxHeartbeats 4000000 in
theorem x5_share {M : Mem} {nT tn : Nat} {X : Nat → Tx} {τ τi : Tn} {img : Bool} {tp ss sz : Nat → Int} {cl : Nat → Nat → Int} (hR : RX M (nT, X, τ, img, τi, tn, tp, ss, sz, cl)) (hI : INV (nT, X, τ, img, τi, tn, tp, ss, sz, cl)) {p part : Int} (h_p : ib p) (h_part : ib part) : Con GX 9 kX5_share [rv 0, iv p, iv part] M (pJ (fun a M2 => a = a_share (nT, X, τ, img, τi, tn, tp, ss, sz, cl) p part ∧ RX M2 (nT, X, τ, img, τi, tn, tp, ss, sz, cl))) := by
  refine con_of [some (rv 0), some (iv p), some (iv part), none] (plX5) rfl (Nat.le_of_ble_eq_true rfl) (fun z => ?_)
  have hR0 := hR
  obtain ⟨hτ, hX, hnT, himg, hτi, ⟨htn, htp⟩, hsh⟩ := hR0
  obtain ⟨⟨iT1, iT6⟩, ⟨hw, icl⟩, iim, ⟨itn, itp⟩, ish⟩ := hI
  obtain ⟨⟨wn, wn2⟩, wcl, ⟨wl, wl2⟩, -, -⟩ := id hw
  have hcl : τ 8 1 < 2147483648 := by omega
  refine r_mb (fun hMB => ?_)
  have hsE : 0 ≤ sm (τ 4) (τ 8 0).toNat ∧ sm (τ 4) (τ 8 0).toNat ≤ 99 * ((τ 8 0).toNat : Nat) := sm_b (fun i hi => (hw.p (by omega)).2.1)
  have hsB : 0 ≤ sm (τ 0) 8 ∧ sm (τ 0) 8 ≤ 99 * ((8 : Nat) : Int) := sm_b (fun i hi => (hw.d hi).1)
  refine r_aload_0 dX5_share_0 (r_getR dX5_share_1 fX5_42 (rfl) (rfl) ?_)
  refine r_cVI0 dX5_share_4 vX5_199 (rfl) (x_allEggs (n := 0) tb6 hτ hw) (by decide) (Nat.le_of_ble_eq_true rfl) (fun b_4 M_4 h_4 => ?_)
  obtain ⟨rfl, rfl⟩ := h_4
  refine r_aload_0 dX5_share_7 (r_getR dX5_share_8 fX5_42 (rfl) (rfl) ?_)
  refine r_cVI0 dX5_share_11 vX5_185 (rfl) (x_allBehind (n := 0) tb6 hτ hw) (by decide) (Nat.le_of_ble_eq_true rfl) (fun b_11 M_11 h_11 => ?_)
  obtain ⟨rfl, rfl⟩ := h_11
  refine r_iadd dX5_share_14 (r_istore_3 dX5_share_15 rfl (r_aload_0 dX5_share_16 (r_iload_1 dX5_share_17 ?_)))
  refine r_cVI1 dX5_share_18 vX5_107 (rfl) (x_isP (d := 0) hτ (by omega)) (by decide) (Nat.le_of_ble_eq_true rfl) (fun b_18 M_18 h_18 => ?_)
  obtain ⟨rfl, rfl⟩ := h_18
  first | refine r_ifd_eq dX5_share_21 (fun c_21 => ?_) (fun c_21 => ?_) | refine r_ifb_eq dX5_share_21 (fun c_21 => ?_) (fun c_21 => ?_)
  · skip
    refine r_ldc2 (a := -4611686018427387904) dX5_share_37 qJ_none ?_
    refine r_lreturn dX5_share_40 rfl ?_
    refine ⟨_, rfl, ?_, hR⟩
    unfold a_share
    simp only []
    rw [if_neg (by omega)]
  · skip
    refine r_iload_2 dX5_share_24 (r_iconst dX5_share_25 (r_iconst dX5_share_26 ?_))
    refine r_cSI3 dX5_share_27 sX5_88 (x_within (d := 0) (by omega) (by omega) (by omega)) (by decide) (Nat.le_of_ble_eq_true rfl) (fun b_27 M_27 h_27 => ?_)
    obtain ⟨rfl, rfl⟩ := h_27
    first | refine r_ifd_eq dX5_share_30 (fun c_30 => ?_) (fun c_30 => ?_) | refine r_ifb_eq dX5_share_30 (fun c_30 => ?_) (fun c_30 => ?_)
    · skip
      refine r_ldc2 (a := -4611686018427387904) dX5_share_37 qJ_none ?_
      refine r_lreturn dX5_share_40 rfl ?_
      refine ⟨_, rfl, ?_, hR⟩
      unfold a_share
      simp only []
      rw [if_neg (by omega)]
    · skip
      refine r_iload_3 dX5_share_33 ?_
      refine r_if_ne dX5_share_34 (by omega) (fun c_34 => ?_) (fun c_34 => ?_)
      · skip
        obtain ⟨q, rfl⟩ : ∃ q : Nat, p = q := ⟨p.toNat, by omega⟩
        have hq6 : q < 6 := by omega
        have wq := hw.p hq6
        have eq : ((q : Nat) : Int).toNat = q := Int.toNat_natCast q
        obtain ⟨a0, ha0⟩ : ∃ a0 : Nat, τ 4 q = a0 := ⟨(τ 4 q).toNat, by omega⟩
        obtain ⟨b0, hb0⟩ : ∃ b0 : Nat, sm (τ 4) (τ 8 0).toNat + sm (τ 0) 8 = b0 := ⟨(sm (τ 4) (τ 8 0).toNat + sm (τ 0) 8).toNat, by omega⟩
        have ha1 : (τ 4 q).toNat = a0 := by omega
        have hb1 : (sm (τ 4) (τ 8 0).toNat + sm (τ 0) 8).toNat = b0 := by omega
        refine r_aload_0 dX5_share_41 (r_getR dX5_share_42 fX5_42 (rfl) (rfl) (r_getR dX5_share_45 fX5_140 (rfl) (rfl) (r_iload_1 dX5_share_48 (r_ialN dX5_share_49 (rfl) (by omega) (by omega) (hτ.e4 hq6) ?_))))
        rw [ha0, hb0]
        refine r_iload_3 dX5_share_50 (r_iload_2 dX5_share_51 ?_)
        refine r_cSJ3 dX5_share_52 sX5_204 (x_low (n := 0) (by omega) (by omega) (by omega) h_part) (by decide) (Nat.le_of_ble_eq_true rfl) (fun b_52 M_52 h_52 => ?_)
        obtain ⟨rfl, rfl⟩ := h_52
        refine r_lreturn dX5_share_55 rfl ?_
        refine ⟨_, rfl, ?_, hR⟩
        unfold a_share
        simp only [Int.toNat_natCast]
        rw [if_pos (by omega), ha1, hb1]
      · skip
        refine r_ldc2 (a := -4611686018427387904) dX5_share_37 qJ_none ?_
        refine r_lreturn dX5_share_40 rfl ?_
        refine ⟨_, rfl, ?_, hR⟩
        unfold a_share
        simp only []
        rw [if_neg (by omega)]

set_option maxRecDepth 10000 in
set_option maxHeartbeats 4000000 in
theorem x5_count {M : Mem} {nT tn : Nat} {X : Nat → Tx} {τ τi : Tn} {img : Bool} {tp ss sz : Nat → Int} {cl : Nat → Nat → Int} (hR : RX M (nT, X, τ, img, τi, tn, tp, ss, sz, cl)) (hI : INV (nT, X, τ, img, τi, tn, tp, ss, sz, cl)) {what : Int} (h_what : ib what) : Con GX 9 kX5_count [rv 0, iv what] M (pI (fun a M2 => a = a_count (nT, X, τ, img, τi, tn, tp, ss, sz, cl) what ∧ RX M2 (nT, X, τ, img, τi, tn, tp, ss, sz, cl))) := by
  refine con_of [some (rv 0), some (iv what)] (plX5) rfl (Nat.le_of_ble_eq_true rfl) (fun z => ?_)
  have hR0 := hR
  obtain ⟨hτ, hX, hnT, himg, hτi, ⟨htn, htp⟩, hsh⟩ := hR0
  obtain ⟨⟨iT1, iT6⟩, ⟨hw, icl⟩, iim, ⟨itn, itp⟩, ish⟩ := hI
  obtain ⟨⟨wn, wn2⟩, wcl, ⟨wl, wl2⟩, -, -⟩ := id hw
  have hcl : τ 8 1 < 2147483648 := by omega
  refine r_mb (fun hMB => ?_)
  refine r_iload_1 dX5_count_0 ?_
  refine r_tsw6 (t0 := 40) (t1 := 48) (t2 := 56) (t3 := 67) (t4 := 72) (t5 := 80) (td := 88) dX5_count_1 (by decide) (by omega) (by decide) (by decide) (by decide) (by decide) (by decide) (by decide) (by decide) (fun c_1 => ?_) (fun c_1 => ?_) (fun c_1 => ?_) (fun c_1 => ?_) (fun c_1 => ?_) (fun c_1 => ?_) (fun c_1 => ?_)
  · skip
    skip
    refine r_aload_0 dX5_count_40 (r_getR dX5_count_41 fX5_42 (rfl) (rfl) (r_getE dX5_count_44 fX5_66 (rfl) (rfl) (hτ.people) ?_))
    refine r_ireturn dX5_count_47 rfl ?_
    refine ⟨_, rfl, ?_, hR⟩
    unfold a_count
    simp only [Int.toNat_natCast]
    (repeat' split) <;> first | with_reducible rfl | omega | rw [hmt]
  · skip
    skip
    refine r_aload_0 dX5_count_48 (r_getR dX5_count_49 fX5_42 (rfl) (rfl) (r_getE dX5_count_52 fX5_69 (rfl) (rfl) (hτ.clock) ?_))
    refine r_ireturn dX5_count_55 rfl ?_
    refine ⟨_, rfl, ?_, hR⟩
    unfold a_count
    simp only [Int.toNat_natCast]
    (repeat' split) <;> first | with_reducible rfl | omega | rw [hmt]
  · skip
    skip
    refine r_aload_0 dX5_count_56 (r_getR dX5_count_57 fX5_42 (rfl) (rfl) ?_)
    refine r_cVI0 dX5_count_60 vX5_72 (rfl) (x_snd (n := 0) tb6 hτ) (by decide) (Nat.le_of_ble_eq_true rfl) (fun b_60 M_60 h_60 => ?_)
    obtain ⟨rfl, rfl⟩ := h_60
    have sb := bt_b (fun d => decide (τ 2 d ≠ -1)) 8
    change 0 ≤ sSnd τ ∧ sSnd τ < 256 at sb
    obtain ⟨m, hm⟩ : ∃ m : Nat, sSnd τ = m := ⟨(sSnd τ).toNat, by omega⟩
    have hmt : (sSnd τ).toNat = m := by omega
    rw [hm]
    refine r_cSI1 dX5_count_63 sX5_76 (j_bitCount (d := 0) (by omega)) (by decide) (Nat.le_of_ble_eq_true rfl) (fun b_63 M_63 h_63 => ?_)
    obtain ⟨rfl, rfl⟩ := h_63
    refine r_ireturn dX5_count_66 rfl ?_
    refine ⟨_, rfl, ?_, hR⟩
    unfold a_count
    simp only [Int.toNat_natCast]
    (repeat' split) <;> first | with_reducible rfl | omega | rw [hmt]
  · skip
    skip
    refine r_aload_0 dX5_count_67 (r_getE dX5_count_68 fX5_52 (rfl) (rfl) (hnT) ?_)
    refine r_ireturn dX5_count_71 rfl ?_
    refine ⟨_, rfl, ?_, hR⟩
    unfold a_count
    simp only [Int.toNat_natCast]
    (repeat' split) <;> first | with_reducible rfl | omega | rw [hmt]
  · skip
    skip
    refine r_aload_0 dX5_count_72 (r_getR dX5_count_73 fX5_42 (rfl) (rfl) (r_getE dX5_count_76 fX5_82 (rfl) (rfl) (hτ.law) ?_))
    refine r_ireturn dX5_count_79 rfl ?_
    refine ⟨_, rfl, ?_, hR⟩
    unfold a_count
    simp only [Int.toNat_natCast]
    (repeat' split) <;> first | with_reducible rfl | omega | rw [hmt]
  · skip
    skip
    refine r_aload_0 dX5_count_80 (r_getR dX5_count_81 fX5_24 (rfl) (rfl) (r_getE dX5_count_84 fX5_85 (rfl) (rfl) (htn) ?_))
    refine r_ireturn dX5_count_87 rfl ?_
    refine ⟨_, rfl, ?_, hR⟩
    unfold a_count
    simp only [Int.toNat_natCast]
    (repeat' split) <;> first | with_reducible rfl | omega | rw [hmt]
  · skip
    skip
    refine r_bipush dX5_count_88 (by decide) ?_
    refine r_ireturn dX5_count_90 rfl ?_
    refine ⟨_, rfl, ?_, hR⟩
    unfold a_count
    simp only [Int.toNat_natCast]
    (repeat' split) <;> first | with_reducible rfl | omega | rw [hmt]
set_option maxRecDepth 10000 in
set_option maxHeartbeats 4000000 in
theorem x5_door {M : Mem} {nT tn : Nat} {X : Nat → Tx} {τ τi : Tn} {img : Bool} {tp ss sz : Nat → Int} {cl : Nat → Nat → Int} (hR : RX M (nT, X, τ, img, τi, tn, tp, ss, sz, cl)) (hI : INV (nT, X, τ, img, τi, tn, tp, ss, sz, cl)) {d : Int} (h_d : ib d) {what : Int} (h_what : ib what) : Con GX 9 kX5_door [rv 0, iv d, iv what] M (pI (fun a M2 => a = a_door (nT, X, τ, img, τi, tn, tp, ss, sz, cl) d what ∧ RX M2 (nT, X, τ, img, τi, tn, tp, ss, sz, cl))) := by
  refine con_of [some (rv 0), some (iv d), some (iv what)] (plX5) rfl (Nat.le_of_ble_eq_true rfl) (fun z => ?_)
  have hR0 := hR
  obtain ⟨hτ, hX, hnT, himg, hτi, ⟨htn, htp⟩, hsh⟩ := hR0
  obtain ⟨⟨iT1, iT6⟩, ⟨hw, icl⟩, iim, ⟨itn, itp⟩, ish⟩ := hI
  obtain ⟨⟨wn, wn2⟩, wcl, ⟨wl, wl2⟩, -, -⟩ := id hw
  have hcl : τ 8 1 < 2147483648 := by omega
  refine r_mb (fun hMB => ?_)
  refine r_iload_1 dX5_door_0 ?_
  refine r_cSI1 dX5_door_1 sX5_92 (x_isDoor (d := 0) (by omega)) (by decide) (Nat.le_of_ble_eq_true rfl) (fun b_1 M_1 h_1 => ?_)
  obtain ⟨rfl, rfl⟩ := h_1
  first | refine r_ifd_ne dX5_door_4 (fun c_4 => ?_) (fun c_4 => ?_) | refine r_ifb_ne dX5_door_4 (fun c_4 => ?_) (fun c_4 => ?_)
  · skip
    obtain ⟨e, rfl⟩ : ∃ e : Nat, d = e := ⟨d.toNat, by omega⟩
    have he8 : e < 8 := by omega
    have wd := hw.d he8
    have ed : ((e : Nat) : Int).toNat = e := Int.toNat_natCast e
    refine r_iload_2 dX5_door_10 ?_
    refine r_tsw4 (t0 := 40) (t1 := 50) (t2 := 60) (t3 := 70) (td := 79) dX5_door_11 (by decide) (by omega) (by decide) (by decide) (by decide) (by decide) (by decide) (fun c_11 => ?_) (fun c_11 => ?_) (fun c_11 => ?_) (fun c_11 => ?_) (fun c_11 => ?_)
    · skip
      skip
      refine r_aload_0 dX5_door_40 (r_getR dX5_door_41 fX5_42 (rfl) (rfl) (r_getR dX5_door_44 fX5_110 (rfl) (rfl) (r_iload_1 dX5_door_47 (r_ialN dX5_door_48 (rfl) (by omega) (by omega) (hτ.e1 he8) ?_))))
      refine r_ireturn dX5_door_49 rfl ?_
      refine ⟨_, rfl, ?_, ?_⟩
      · unfold a_door
        simp only [Int.toNat_natCast]
        (repeat' split) <;> first | with_reducible rfl | omega
      · exact hR
    · skip
      skip
      refine r_aload_0 dX5_door_50 (r_getR dX5_door_51 fX5_42 (rfl) (rfl) (r_getR dX5_door_54 fX5_113 (rfl) (rfl) (r_iload_1 dX5_door_57 (r_ialN dX5_door_58 (rfl) (by omega) (by omega) (hτ.e2 he8) ?_))))
      refine r_ireturn dX5_door_59 rfl ?_
      refine ⟨_, rfl, ?_, ?_⟩
      · unfold a_door
        simp only [Int.toNat_natCast]
        (repeat' split) <;> first | with_reducible rfl | omega
      · exact hR
    · skip
      skip
      refine r_aload_0 dX5_door_60 (r_getR dX5_door_61 fX5_42 (rfl) (rfl) (r_getR dX5_door_64 fX5_99 (rfl) (rfl) (r_iload_1 dX5_door_67 (r_ialN dX5_door_68 (rfl) (by omega) (by omega) (hτ.e0 he8) ?_))))
      refine r_ireturn dX5_door_69 rfl ?_
      refine ⟨_, rfl, ?_, ?_⟩
      · unfold a_door
        simp only [Int.toNat_natCast]
        (repeat' split) <;> first | with_reducible rfl | omega
      · exact hR
    · skip
      skip
      refine r_aload_0 dX5_door_70 (r_getR dX5_door_71 fX5_42 (rfl) (rfl) (r_iload_1 dX5_door_74 ?_))
      refine r_cVI1 dX5_door_75 vX5_116 (rfl) (x_at (n := 0) tb6 hτ hw (by omega)) (by decide) (Nat.le_of_ble_eq_true rfl) (fun b_75 M_75 h_75 => ?_)
      obtain ⟨rfl, rfl⟩ := h_75
      refine r_ireturn dX5_door_78 rfl ?_
      refine ⟨_, rfl, ?_, ?_⟩
      · unfold a_door
        simp only [Int.toNat_natCast]
        (repeat' split) <;> first | with_reducible rfl | omega
      · exact hR
    · skip
      skip
      refine r_bipush dX5_door_79 (by decide) ?_
      refine r_ireturn dX5_door_81 rfl ?_
      refine ⟨_, rfl, ?_, ?_⟩
      · unfold a_door
        simp only [Int.toNat_natCast]
        (repeat' split) <;> first | with_reducible rfl | omega
      · exact hR
  · skip
    refine r_bipush dX5_door_7 (by decide) ?_
    refine r_ireturn dX5_door_9 rfl ?_
    refine ⟨_, rfl, ?_, ?_⟩
    · unfold a_door
      simp only [Int.toNat_natCast]
      (repeat' split) <;> first | with_reducible rfl | omega
    · exact hR
set_option maxRecDepth 10000 in
set_option maxHeartbeats 4000000 in
theorem x5_town {M : Mem} {nT tn : Nat} {X : Nat → Tx} {τ τi : Tn} {img : Bool} {tp ss sz : Nat → Int} {cl : Nat → Nat → Int} (hR : RX M (nT, X, τ, img, τi, tn, tp, ss, sz, cl)) (hI : INV (nT, X, τ, img, τi, tn, tp, ss, sz, cl)) {what : Int} (h_what : ib what) {d : Int} (h_d : ib d) {v : Int} (h_v : ib v) : Con GX 9 kX5_town [rv 0, iv what, iv d, iv v] M (pI (fun a M2 => a = a_town (nT, X, τ, img, τi, tn, tp, ss, sz, cl) what d v ∧ RX M2 (t_town (nT, X, τ, img, τi, tn, tp, ss, sz, cl) what d v))) := by
  refine con_of [some (rv 0), some (iv what), some (iv d), some (iv v)] (plX5) rfl (Nat.le_of_ble_eq_true rfl) (fun z => ?_)
  have hR0 := hR
  obtain ⟨hτ, hX, hnT, himg, hτi, ⟨htn, htp⟩, hsh⟩ := hR0
  obtain ⟨⟨iT1, iT6⟩, ⟨hw, icl⟩, iim, ⟨itn, itp⟩, ish⟩ := hI
  obtain ⟨⟨wn, wn2⟩, wcl, ⟨wl, wl2⟩, -, -⟩ := id hw
  have hcl : τ 8 1 < 2147483648 := by omega
  refine r_mb (fun hMB => ?_)
  refine r_iload_1 dX5_town_0 (r_iconst dX5_town_1 (r_iconst dX5_town_2 ?_))
  refine r_cSI3 dX5_town_3 sX5_88 (x_within (d := 0) (by omega) (by omega) (by omega)) (by decide) (Nat.le_of_ble_eq_true rfl) (fun b_3 M_3 h_3 => ?_)
  obtain ⟨rfl, rfl⟩ := h_3
  first | refine r_ifd_eq dX5_town_6 (fun c_6 => ?_) (fun c_6 => ?_) | refine r_ifb_eq dX5_town_6 (fun c_6 => ?_) (fun c_6 => ?_)
  · skip
    refine r_bipush dX5_town_20 (by decide) ?_
    refine r_ireturn dX5_town_22 rfl ?_
    refine ⟨_, rfl, ?_, ?_⟩
    · unfold a_town
      simp only [Int.toNat_natCast]
      (repeat' split) <;> first | with_reducible rfl | exact q0 | omega
    · unfold t_town
      simp only [Int.toNat_natCast]
      (repeat' split) <;> first | exact hR | exact hR.now f1 w1 | exact hR.now (Fr.refl.up (k := 7) (scb_in (b := 6) (by omega) (by omega))) w1 | exact hR.now (Fr.refl.up (k := 8) (scb_in (b := 6) (by omega) (by omega))) w1 | (exfalso; omega)
  · skip
    refine r_iload_1 dX5_town_9 ?_
    refine r_if_eq dX5_town_10 (by omega) (fun c_10 => ?_) (fun c_10 => ?_)
    · skip
      refine r_iload_1 dX5_town_23 ?_
      refine r_if_ne dX5_town_24 (by omega) (fun c_24 => ?_) (fun c_24 => ?_)
      · skip
        refine r_iload_1 dX5_town_52 (r_iconst dX5_town_53 ?_)
        refine r_icmp_ne dX5_town_54 (by omega) (by omega) (fun c_54 => ?_) (fun c_54 => ?_)
        · skip
          skip
          refine r_iload_3 dX5_town_85 (r_iconst dX5_town_86 ?_)
          refine r_icmp_eq dX5_town_87 (by omega) (by omega) (fun c_87 => ?_) (fun c_87 => ?_)
          · skip
            refine r_aload_0 dX5_town_98 (r_getR dX5_town_99 fX5_42 (rfl) (rfl) (r_getR dX5_town_102 fX5_110 (rfl) (rfl) (r_iload_2 dX5_town_105 (r_iload_3 dX5_town_106 ?_))))
            refine r_cSI3 dX5_town_107 sX5_103 (x_swapped (d := 0) (q := 8) (n := 8) rfl (by decide) (by omega) (by omega) (by omega) (by omega)) (by decide) (Nat.le_of_ble_eq_true rfl) (fun b_107 M_107 h_107 => ?_)
            obtain ⟨rfl, rfl⟩ := h_107
            have w1 : TW _ 6 (st τ 1 d.toNat v) := hτ.up1 (i := d.toNat) (v := v)
            have q0 := hτ.e1 (i := d.toNat) (by omega)
            change M 8 d.toNat = _ at q0
            refine r_goto dX5_town_110 ?_
            refine r_ireturn dX5_town_115 rfl ?_
            refine ⟨_, rfl, ?_, ?_⟩
            · unfold a_town
              simp only [Int.toNat_natCast]
              (repeat' split) <;> first | with_reducible rfl | exact q0 | omega
            · unfold t_town
              simp only [Int.toNat_natCast]
              (repeat' split) <;> first | exact hR | exact hR.now f1 w1 | exact hR.now (Fr.refl.up (k := 7) (scb_in (b := 6) (by omega) (by omega))) w1 | exact hR.now (Fr.refl.up (k := 8) (scb_in (b := 6) (by omega) (by omega))) w1 | (exfalso; omega)
          · skip
            refine r_aload_0 dX5_town_90 (r_iload_3 dX5_town_91 ?_)
            refine r_cVI1 dX5_town_92 vX5_107 (rfl) (x_isP (d := 0) hτ (by omega)) (by decide) (Nat.le_of_ble_eq_true rfl) (fun b_92 M_92 h_92 => ?_)
            obtain ⟨rfl, rfl⟩ := h_92
            first | refine r_ifd_eq dX5_town_95 (fun c_95 => ?_) (fun c_95 => ?_) | refine r_ifb_eq dX5_town_95 (fun c_95 => ?_) (fun c_95 => ?_)
            · skip
              refine r_bipush dX5_town_113 (by decide) ?_
              refine r_ireturn dX5_town_115 rfl ?_
              refine ⟨_, rfl, ?_, ?_⟩
              · unfold a_town
                simp only [Int.toNat_natCast]
                (repeat' split) <;> first | with_reducible rfl | exact q0 | omega
              · unfold t_town
                simp only [Int.toNat_natCast]
                (repeat' split) <;> first | exact hR | exact hR.now f1 w1 | exact hR.now (Fr.refl.up (k := 7) (scb_in (b := 6) (by omega) (by omega))) w1 | exact hR.now (Fr.refl.up (k := 8) (scb_in (b := 6) (by omega) (by omega))) w1 | (exfalso; omega)
            · skip
              refine r_aload_0 dX5_town_98 (r_getR dX5_town_99 fX5_42 (rfl) (rfl) (r_getR dX5_town_102 fX5_110 (rfl) (rfl) (r_iload_2 dX5_town_105 (r_iload_3 dX5_town_106 ?_))))
              refine r_cSI3 dX5_town_107 sX5_103 (x_swapped (d := 0) (q := 8) (n := 8) rfl (by decide) (by omega) (by omega) (by omega) (by omega)) (by decide) (Nat.le_of_ble_eq_true rfl) (fun b_107 M_107 h_107 => ?_)
              obtain ⟨rfl, rfl⟩ := h_107
              have w1 : TW _ 6 (st τ 1 d.toNat v) := hτ.up1 (i := d.toNat) (v := v)
              have q0 := hτ.e1 (i := d.toNat) (by omega)
              change M 8 d.toNat = _ at q0
              refine r_goto dX5_town_110 ?_
              refine r_ireturn dX5_town_115 rfl ?_
              refine ⟨_, rfl, ?_, ?_⟩
              · unfold a_town
                simp only [Int.toNat_natCast]
                (repeat' split) <;> first | with_reducible rfl | exact q0 | omega
              · unfold t_town
                simp only [Int.toNat_natCast]
                (repeat' split) <;> first | exact hR | exact hR.now f1 w1 | exact hR.now (Fr.refl.up (k := 7) (scb_in (b := 6) (by omega) (by omega))) w1 | exact hR.now (Fr.refl.up (k := 8) (scb_in (b := 6) (by omega) (by omega))) w1 | (exfalso; omega)
        · skip
          refine r_iload_3 dX5_town_57 (r_iconst dX5_town_58 (r_bipush dX5_town_59 (by decide) ?_))
          refine r_cSI3 dX5_town_61 sX5_88 (x_within (d := 0) (by omega) (by omega) (by omega)) (by decide) (Nat.le_of_ble_eq_true rfl) (fun b_61 M_61 h_61 => ?_)
          obtain ⟨rfl, rfl⟩ := h_61
          first | refine r_ifd_eq dX5_town_64 (fun c_64 => ?_) (fun c_64 => ?_) | refine r_ifb_eq dX5_town_64 (fun c_64 => ?_) (fun c_64 => ?_)
          · skip
            refine r_bipush dX5_town_82 (by decide) ?_
            refine r_ireturn dX5_town_84 rfl ?_
            refine ⟨_, rfl, ?_, ?_⟩
            · unfold a_town
              simp only [Int.toNat_natCast]
              (repeat' split) <;> first | with_reducible rfl | exact q0 | omega
            · unfold t_town
              simp only [Int.toNat_natCast]
              (repeat' split) <;> first | exact hR | exact hR.now f1 w1 | exact hR.now (Fr.refl.up (k := 7) (scb_in (b := 6) (by omega) (by omega))) w1 | exact hR.now (Fr.refl.up (k := 8) (scb_in (b := 6) (by omega) (by omega))) w1 | (exfalso; omega)
          · skip
            refine r_aload_0 dX5_town_67 (r_getR dX5_town_68 fX5_42 (rfl) (rfl) (r_getR dX5_town_71 fX5_99 (rfl) (rfl) (r_iload_2 dX5_town_74 (r_iload_3 dX5_town_75 ?_))))
            refine r_cSI3 dX5_town_76 sX5_103 (x_swapped (d := 0) (q := 7) (n := 8) rfl (by decide) (by omega) (by omega) (by omega) (by omega)) (by decide) (Nat.le_of_ble_eq_true rfl) (fun b_76 M_76 h_76 => ?_)
            obtain ⟨rfl, rfl⟩ := h_76
            have w1 : TW _ 6 (st τ 0 d.toNat v) := hτ.up0 (i := d.toNat) (v := v)
            have q0 := hτ.e0 (i := d.toNat) (by omega)
            change M 7 d.toNat = _ at q0
            refine r_goto dX5_town_79 ?_
            refine r_ireturn dX5_town_84 rfl ?_
            refine ⟨_, rfl, ?_, ?_⟩
            · unfold a_town
              simp only [Int.toNat_natCast]
              (repeat' split) <;> first | with_reducible rfl | exact q0 | omega
            · unfold t_town
              simp only [Int.toNat_natCast]
              (repeat' split) <;> first | exact hR | exact hR.now f1 w1 | exact hR.now (Fr.refl.up (k := 7) (scb_in (b := 6) (by omega) (by omega))) w1 | exact hR.now (Fr.refl.up (k := 8) (scb_in (b := 6) (by omega) (by omega))) w1 | (exfalso; omega)
      · skip
        refine r_iload_3 dX5_town_27 (r_iconst dX5_town_28 (r_sipush dX5_town_29 (by decide) ?_))
        refine r_cSI3 dX5_town_32 sX5_88 (x_within (d := 0) (by omega) (by omega) (by omega)) (by decide) (Nat.le_of_ble_eq_true rfl) (fun b_32 M_32 h_32 => ?_)
        obtain ⟨rfl, rfl⟩ := h_32
        first | refine r_ifd_eq dX5_town_35 (fun c_35 => ?_) (fun c_35 => ?_) | refine r_ifb_eq dX5_town_35 (fun c_35 => ?_) (fun c_35 => ?_)
        · skip
          refine r_bipush dX5_town_49 (by decide) ?_
          refine r_ireturn dX5_town_51 rfl ?_
          refine ⟨_, rfl, ?_, ?_⟩
          · unfold a_town
            simp only [Int.toNat_natCast]
            (repeat' split) <;> first | with_reducible rfl | exact q0 | omega
          · unfold t_town
            simp only [Int.toNat_natCast]
            (repeat' split) <;> first | exact hR | exact hR.now f1 w1 | exact hR.now (Fr.refl.up (k := 7) (scb_in (b := 6) (by omega) (by omega))) w1 | exact hR.now (Fr.refl.up (k := 8) (scb_in (b := 6) (by omega) (by omega))) w1 | (exfalso; omega)
        · skip
          refine r_aload_0 dX5_town_38 (r_getR dX5_town_39 fX5_42 (rfl) (rfl) (r_iload_3 dX5_town_42 ?_))
          refine r_cVI1 dX5_town_43 vX5_96 (rfl) (x_setClock (n := 0) tb6 hτ (by omega)) (by decide) (Nat.le_of_ble_eq_true rfl) (fun b_43 M_43 h_43 => ?_)
          obtain ⟨rfl, w1, f1⟩ := h_43
          refine r_goto dX5_town_46 ?_
          refine r_ireturn dX5_town_51 rfl ?_
          refine ⟨_, rfl, ?_, ?_⟩
          · unfold a_town
            simp only [Int.toNat_natCast]
            (repeat' split) <;> first | with_reducible rfl | exact q0 | omega
          · unfold t_town
            simp only [Int.toNat_natCast]
            (repeat' split) <;> first | exact hR | exact hR.now f1 w1 | exact hR.now (Fr.refl.up (k := 7) (scb_in (b := 6) (by omega) (by omega))) w1 | exact hR.now (Fr.refl.up (k := 8) (scb_in (b := 6) (by omega) (by omega))) w1 | (exfalso; omega)
    · skip
      refine r_iload_2 dX5_town_13 ?_
      refine r_cSI1 dX5_town_14 sX5_92 (x_isDoor (d := 0) (by omega)) (by decide) (Nat.le_of_ble_eq_true rfl) (fun b_14 M_14 h_14 => ?_)
      obtain ⟨rfl, rfl⟩ := h_14
      first | refine r_ifd_ne dX5_town_17 (fun c_17 => ?_) (fun c_17 => ?_) | refine r_ifb_ne dX5_town_17 (fun c_17 => ?_) (fun c_17 => ?_)
      · skip
        refine r_iload_1 dX5_town_23 ?_
        refine r_if_ne dX5_town_24 (by omega) (fun c_24 => ?_) (fun c_24 => ?_)
        · skip
          refine r_iload_1 dX5_town_52 (r_iconst dX5_town_53 ?_)
          refine r_icmp_ne dX5_town_54 (by omega) (by omega) (fun c_54 => ?_) (fun c_54 => ?_)
          · skip
            skip
            refine r_iload_3 dX5_town_85 (r_iconst dX5_town_86 ?_)
            refine r_icmp_eq dX5_town_87 (by omega) (by omega) (fun c_87 => ?_) (fun c_87 => ?_)
            · skip
              refine r_aload_0 dX5_town_98 (r_getR dX5_town_99 fX5_42 (rfl) (rfl) (r_getR dX5_town_102 fX5_110 (rfl) (rfl) (r_iload_2 dX5_town_105 (r_iload_3 dX5_town_106 ?_))))
              refine r_cSI3 dX5_town_107 sX5_103 (x_swapped (d := 0) (q := 8) (n := 8) rfl (by decide) (by omega) (by omega) (by omega) (by omega)) (by decide) (Nat.le_of_ble_eq_true rfl) (fun b_107 M_107 h_107 => ?_)
              obtain ⟨rfl, rfl⟩ := h_107
              have w1 : TW _ 6 (st τ 1 d.toNat v) := hτ.up1 (i := d.toNat) (v := v)
              have q0 := hτ.e1 (i := d.toNat) (by omega)
              change M 8 d.toNat = _ at q0
              refine r_goto dX5_town_110 ?_
              refine r_ireturn dX5_town_115 rfl ?_
              refine ⟨_, rfl, ?_, ?_⟩
              · unfold a_town
                simp only [Int.toNat_natCast]
                (repeat' split) <;> first | with_reducible rfl | exact q0 | omega
              · unfold t_town
                simp only [Int.toNat_natCast]
                (repeat' split) <;> first | exact hR | exact hR.now f1 w1 | exact hR.now (Fr.refl.up (k := 7) (scb_in (b := 6) (by omega) (by omega))) w1 | exact hR.now (Fr.refl.up (k := 8) (scb_in (b := 6) (by omega) (by omega))) w1 | (exfalso; omega)
            · skip
              refine r_aload_0 dX5_town_90 (r_iload_3 dX5_town_91 ?_)
              refine r_cVI1 dX5_town_92 vX5_107 (rfl) (x_isP (d := 0) hτ (by omega)) (by decide) (Nat.le_of_ble_eq_true rfl) (fun b_92 M_92 h_92 => ?_)
              obtain ⟨rfl, rfl⟩ := h_92
              first | refine r_ifd_eq dX5_town_95 (fun c_95 => ?_) (fun c_95 => ?_) | refine r_ifb_eq dX5_town_95 (fun c_95 => ?_) (fun c_95 => ?_)
              · skip
                refine r_bipush dX5_town_113 (by decide) ?_
                refine r_ireturn dX5_town_115 rfl ?_
                refine ⟨_, rfl, ?_, ?_⟩
                · unfold a_town
                  simp only [Int.toNat_natCast]
                  (repeat' split) <;> first | with_reducible rfl | exact q0 | omega
                · unfold t_town
                  simp only [Int.toNat_natCast]
                  (repeat' split) <;> first | exact hR | exact hR.now f1 w1 | exact hR.now (Fr.refl.up (k := 7) (scb_in (b := 6) (by omega) (by omega))) w1 | exact hR.now (Fr.refl.up (k := 8) (scb_in (b := 6) (by omega) (by omega))) w1 | (exfalso; omega)
              · skip
                refine r_aload_0 dX5_town_98 (r_getR dX5_town_99 fX5_42 (rfl) (rfl) (r_getR dX5_town_102 fX5_110 (rfl) (rfl) (r_iload_2 dX5_town_105 (r_iload_3 dX5_town_106 ?_))))
                refine r_cSI3 dX5_town_107 sX5_103 (x_swapped (d := 0) (q := 8) (n := 8) rfl (by decide) (by omega) (by omega) (by omega) (by omega)) (by decide) (Nat.le_of_ble_eq_true rfl) (fun b_107 M_107 h_107 => ?_)
                obtain ⟨rfl, rfl⟩ := h_107
                have w1 : TW _ 6 (st τ 1 d.toNat v) := hτ.up1 (i := d.toNat) (v := v)
                have q0 := hτ.e1 (i := d.toNat) (by omega)
                change M 8 d.toNat = _ at q0
                refine r_goto dX5_town_110 ?_
                refine r_ireturn dX5_town_115 rfl ?_
                refine ⟨_, rfl, ?_, ?_⟩
                · unfold a_town
                  simp only [Int.toNat_natCast]
                  (repeat' split) <;> first | with_reducible rfl | exact q0 | omega
                · unfold t_town
                  simp only [Int.toNat_natCast]
                  (repeat' split) <;> first | exact hR | exact hR.now f1 w1 | exact hR.now (Fr.refl.up (k := 7) (scb_in (b := 6) (by omega) (by omega))) w1 | exact hR.now (Fr.refl.up (k := 8) (scb_in (b := 6) (by omega) (by omega))) w1 | (exfalso; omega)
          · skip
            refine r_iload_3 dX5_town_57 (r_iconst dX5_town_58 (r_bipush dX5_town_59 (by decide) ?_))
            refine r_cSI3 dX5_town_61 sX5_88 (x_within (d := 0) (by omega) (by omega) (by omega)) (by decide) (Nat.le_of_ble_eq_true rfl) (fun b_61 M_61 h_61 => ?_)
            obtain ⟨rfl, rfl⟩ := h_61
            first | refine r_ifd_eq dX5_town_64 (fun c_64 => ?_) (fun c_64 => ?_) | refine r_ifb_eq dX5_town_64 (fun c_64 => ?_) (fun c_64 => ?_)
            · skip
              refine r_bipush dX5_town_82 (by decide) ?_
              refine r_ireturn dX5_town_84 rfl ?_
              refine ⟨_, rfl, ?_, ?_⟩
              · unfold a_town
                simp only [Int.toNat_natCast]
                (repeat' split) <;> first | with_reducible rfl | exact q0 | omega
              · unfold t_town
                simp only [Int.toNat_natCast]
                (repeat' split) <;> first | exact hR | exact hR.now f1 w1 | exact hR.now (Fr.refl.up (k := 7) (scb_in (b := 6) (by omega) (by omega))) w1 | exact hR.now (Fr.refl.up (k := 8) (scb_in (b := 6) (by omega) (by omega))) w1 | (exfalso; omega)
            · skip
              refine r_aload_0 dX5_town_67 (r_getR dX5_town_68 fX5_42 (rfl) (rfl) (r_getR dX5_town_71 fX5_99 (rfl) (rfl) (r_iload_2 dX5_town_74 (r_iload_3 dX5_town_75 ?_))))
              refine r_cSI3 dX5_town_76 sX5_103 (x_swapped (d := 0) (q := 7) (n := 8) rfl (by decide) (by omega) (by omega) (by omega) (by omega)) (by decide) (Nat.le_of_ble_eq_true rfl) (fun b_76 M_76 h_76 => ?_)
              obtain ⟨rfl, rfl⟩ := h_76
              have w1 : TW _ 6 (st τ 0 d.toNat v) := hτ.up0 (i := d.toNat) (v := v)
              have q0 := hτ.e0 (i := d.toNat) (by omega)
              change M 7 d.toNat = _ at q0
              refine r_goto dX5_town_79 ?_
              refine r_ireturn dX5_town_84 rfl ?_
              refine ⟨_, rfl, ?_, ?_⟩
              · unfold a_town
                simp only [Int.toNat_natCast]
                (repeat' split) <;> first | with_reducible rfl | exact q0 | omega
              · unfold t_town
                simp only [Int.toNat_natCast]
                (repeat' split) <;> first | exact hR | exact hR.now f1 w1 | exact hR.now (Fr.refl.up (k := 7) (scb_in (b := 6) (by omega) (by omega))) w1 | exact hR.now (Fr.refl.up (k := 8) (scb_in (b := 6) (by omega) (by omega))) w1 | (exfalso; omega)
        · skip
          refine r_iload_3 dX5_town_27 (r_iconst dX5_town_28 (r_sipush dX5_town_29 (by decide) ?_))
          refine r_cSI3 dX5_town_32 sX5_88 (x_within (d := 0) (by omega) (by omega) (by omega)) (by decide) (Nat.le_of_ble_eq_true rfl) (fun b_32 M_32 h_32 => ?_)
          obtain ⟨rfl, rfl⟩ := h_32
          first | refine r_ifd_eq dX5_town_35 (fun c_35 => ?_) (fun c_35 => ?_) | refine r_ifb_eq dX5_town_35 (fun c_35 => ?_) (fun c_35 => ?_)
          · skip
            refine r_bipush dX5_town_49 (by decide) ?_
            refine r_ireturn dX5_town_51 rfl ?_
            refine ⟨_, rfl, ?_, ?_⟩
            · unfold a_town
              simp only [Int.toNat_natCast]
              (repeat' split) <;> first | with_reducible rfl | exact q0 | omega
            · unfold t_town
              simp only [Int.toNat_natCast]
              (repeat' split) <;> first | exact hR | exact hR.now f1 w1 | exact hR.now (Fr.refl.up (k := 7) (scb_in (b := 6) (by omega) (by omega))) w1 | exact hR.now (Fr.refl.up (k := 8) (scb_in (b := 6) (by omega) (by omega))) w1 | (exfalso; omega)
          · skip
            refine r_aload_0 dX5_town_38 (r_getR dX5_town_39 fX5_42 (rfl) (rfl) (r_iload_3 dX5_town_42 ?_))
            refine r_cVI1 dX5_town_43 vX5_96 (rfl) (x_setClock (n := 0) tb6 hτ (by omega)) (by decide) (Nat.le_of_ble_eq_true rfl) (fun b_43 M_43 h_43 => ?_)
            obtain ⟨rfl, w1, f1⟩ := h_43
            refine r_goto dX5_town_46 ?_
            refine r_ireturn dX5_town_51 rfl ?_
            refine ⟨_, rfl, ?_, ?_⟩
            · unfold a_town
              simp only [Int.toNat_natCast]
              (repeat' split) <;> first | with_reducible rfl | exact q0 | omega
            · unfold t_town
              simp only [Int.toNat_natCast]
              (repeat' split) <;> first | exact hR | exact hR.now f1 w1 | exact hR.now (Fr.refl.up (k := 7) (scb_in (b := 6) (by omega) (by omega))) w1 | exact hR.now (Fr.refl.up (k := 8) (scb_in (b := 6) (by omega) (by omega))) w1 | (exfalso; omega)
      · skip
        refine r_bipush dX5_town_20 (by decide) ?_
        refine r_ireturn dX5_town_22 rfl ?_
        refine ⟨_, rfl, ?_, ?_⟩
        · unfold a_town
          simp only [Int.toNat_natCast]
          (repeat' split) <;> first | with_reducible rfl | exact q0 | omega
        · unfold t_town
          simp only [Int.toNat_natCast]
          (repeat' split) <;> first | exact hR | exact hR.now f1 w1 | exact hR.now (Fr.refl.up (k := 7) (scb_in (b := 6) (by omega) (by omega))) w1 | exact hR.now (Fr.refl.up (k := 8) (scb_in (b := 6) (by omega) (by omega))) w1 | (exfalso; omega)
set_option maxRecDepth 10000 in
set_option maxHeartbeats 4000000 in
theorem x5_force {M : Mem} {nT tn : Nat} {X : Nat → Tx} {τ τi : Tn} {img : Bool} {tp ss sz : Nat → Int} {cl : Nat → Nat → Int} (hR : RX M (nT, X, τ, img, τi, tn, tp, ss, sz, cl)) (hI : INV (nT, X, τ, img, τi, tn, tp, ss, sz, cl)) {t : Int} (h_t : ib t) : Con GX 9 kX5_force [rv 0, iv t] M (pI (fun a M2 => a = a_force (nT, X, τ, img, τi, tn, tp, ss, sz, cl) t ∧ RX M2 (t_force (nT, X, τ, img, τi, tn, tp, ss, sz, cl) t))) := by
  refine con_of [some (rv 0), some (iv t), none] (plX5) rfl (Nat.le_of_ble_eq_true rfl) (fun z => ?_)
  have hR0 := hR
  obtain ⟨hτ, hX, hnT, himg, hτi, ⟨htn, htp⟩, hsh⟩ := hR0
  obtain ⟨⟨iT1, iT6⟩, ⟨hw, icl⟩, iim, ⟨itn, itp⟩, ish⟩ := hI
  obtain ⟨⟨wn, wn2⟩, wcl, ⟨wl, wl2⟩, -, -⟩ := id hw
  have hcl : τ 8 1 < 2147483648 := by omega
  refine r_mb (fun hMB => ?_)
  refine r_iload_1 dX5_force_0 (r_iconst dX5_force_1 (r_aload_0 dX5_force_2 (r_getE dX5_force_3 fX5_52 (rfl) (rfl) (hnT) (r_iconst dX5_force_6 (r_isub dX5_force_7 ?_)))))
  refine r_cSI3 dX5_force_8 sX5_88 (x_within (d := 0) (by omega) (by omega) (by omega)) (by decide) (Nat.le_of_ble_eq_true rfl) (fun b_8 M_8 h_8 => ?_)
  obtain ⟨rfl, rfl⟩ := h_8
  first | refine r_ifd_ne dX5_force_11 (fun c_11 => ?_) (fun c_11 => ?_) | refine r_ifb_ne dX5_force_11 (fun c_11 => ?_) (fun c_11 => ?_)
  · skip
    refine r_aload_0 dX5_force_17 (r_getR dX5_force_18 fX5_42 (rfl) (rfl) (r_getE dX5_force_21 fX5_82 (rfl) (rfl) (hτ.law) (r_istore_2 dX5_force_24 rfl (r_aload_0 dX5_force_25 (r_getR dX5_force_26 fX5_42 (rfl) (rfl) (r_iload_1 dX5_force_29 ?_))))))
    refine r_put dX5_force_30 pX5_82 (rfl) (rfl) (by omega) ?_
    have w1 : TW _ 6 (st τ 8 2 t) := hτ.ulaw (v := t)
    refine r_iload_2 dX5_force_33 ?_
    refine r_ireturn dX5_force_34 rfl ?_
    refine ⟨_, rfl, ?_, ?_⟩
    · unfold a_force
      simp only [Int.toNat_natCast]
      (repeat' split) <;> first | with_reducible rfl | omega
    · unfold t_force
      simp only [Int.toNat_natCast]
      (repeat' split) <;> first | exact hR | exact hR.now (Fr.refl.up (k := 6) (scb_in (b := 6) (by omega) (by omega))) w1 | (exfalso; omega)
  · skip
    refine r_bipush dX5_force_14 (by decide) ?_
    refine r_ireturn dX5_force_16 rfl ?_
    refine ⟨_, rfl, ?_, ?_⟩
    · unfold a_force
      simp only [Int.toNat_natCast]
      (repeat' split) <;> first | with_reducible rfl | omega
    · unfold t_force
      simp only [Int.toNat_natCast]
      (repeat' split) <;> first | exact hR | exact hR.now (Fr.refl.up (k := 6) (scb_in (b := 6) (by omega) (by omega))) w1 | (exfalso; omega)
set_option maxRecDepth 10000 in
set_option maxHeartbeats 4000000 in
theorem x5_asks {M : Mem} {nT tn : Nat} {X : Nat → Tx} {τ τi : Tn} {img : Bool} {tp ss sz : Nat → Int} {cl : Nat → Nat → Int} (hR : RX M (nT, X, τ, img, τi, tn, tp, ss, sz, cl)) (hI : INV (nT, X, τ, img, τi, tn, tp, ss, sz, cl)) {part : Int} (h_part : ib part) {p : Int} (h_p : ib p) : Con GX 9 kX5_asks [rv 0, iv part, iv p] M (pI (fun a M2 => a = a_asks (nT, X, τ, img, τi, tn, tp, ss, sz, cl) part p ∧ RX M2 (nT, X, τ, img, τi, tn, tp, ss, sz, cl))) := by
  refine con_of [some (rv 0), some (iv part), some (iv p)] (plX5) rfl (Nat.le_of_ble_eq_true rfl) (fun z => ?_)
  have hR0 := hR
  obtain ⟨hτ, hX, hnT, himg, hτi, ⟨htn, htp⟩, hsh⟩ := hR0
  obtain ⟨⟨iT1, iT6⟩, ⟨hw, icl⟩, iim, ⟨itn, itp⟩, ish⟩ := hI
  obtain ⟨⟨wn, wn2⟩, wcl, ⟨wl, wl2⟩, -, -⟩ := id hw
  have hcl : τ 8 1 < 2147483648 := by omega
  refine r_mb (fun hMB => ?_)
  refine r_iload_1 dX5_asks_0 (r_iconst dX5_asks_1 (r_iconst dX5_asks_2 ?_))
  refine r_cSI3 dX5_asks_3 sX5_88 (x_within (d := 0) (by omega) (by omega) (by omega)) (by decide) (Nat.le_of_ble_eq_true rfl) (fun b_3 M_3 h_3 => ?_)
  obtain ⟨rfl, rfl⟩ := h_3
  first | refine r_ifd_eq dX5_asks_6 (fun c_6 => ?_) (fun c_6 => ?_) | refine r_ifb_eq dX5_asks_6 (fun c_6 => ?_) (fun c_6 => ?_)
  · skip
    refine r_sipush dX5_asks_29 (by decide) ?_
    refine r_ireturn dX5_asks_32 rfl ?_
    refine ⟨_, rfl, ?_, ?_⟩
    · unfold a_asks
      simp only [Int.toNat_natCast]
      (repeat' split) <;> first | with_reducible rfl | omega
    · first | exact hR | exact hR.scr f1
  · skip
    refine r_aload_0 dX5_asks_9 (r_iload_2 dX5_asks_10 ?_)
    refine r_cVI1 dX5_asks_11 vX5_107 (rfl) (x_isP (d := 0) hτ (by omega)) (by decide) (Nat.le_of_ble_eq_true rfl) (fun b_11 M_11 h_11 => ?_)
    obtain ⟨rfl, rfl⟩ := h_11
    first | refine r_ifd_eq dX5_asks_14 (fun c_14 => ?_) (fun c_14 => ?_) | refine r_ifb_eq dX5_asks_14 (fun c_14 => ?_) (fun c_14 => ?_)
    · skip
      refine r_sipush dX5_asks_29 (by decide) ?_
      refine r_ireturn dX5_asks_32 rfl ?_
      refine ⟨_, rfl, ?_, ?_⟩
      · unfold a_asks
        simp only [Int.toNat_natCast]
        (repeat' split) <;> first | with_reducible rfl | omega
      · first | exact hR | exact hR.scr f1
    · skip
      obtain ⟨q, rfl⟩ : ∃ q : Nat, p = q := ⟨p.toNat, by omega⟩
      have hq6 : q < 6 := by omega
      have wq := hw.p hq6
      have eq : ((q : Nat) : Int).toNat = q := Int.toNat_natCast q
      obtain ⟨pt, rfl⟩ : ∃ pt : Nat, part = pt := ⟨part.toNat, by omega⟩
      have ept : ((pt : Nat) : Int).toNat = pt := Int.toNat_natCast pt
      refine r_aload_0 dX5_asks_17 (r_getR dX5_asks_18 fX5_42 (rfl) (rfl) (r_iload_1 dX5_asks_21 (r_iload_2 dX5_asks_22 ?_)))
      refine r_cVI2 dX5_asks_23 vX5_130 (rfl) (x_says (b := 6) tb6 hτ hw hX hcl (by omega) hq6) (by decide) (Nat.le_of_ble_eq_true rfl) (fun b_23 M_23 h_23 => ?_)
      obtain ⟨rfl, f1⟩ := h_23
      refine r_goto dX5_asks_26 ?_
      refine r_ireturn dX5_asks_32 rfl ?_
      refine ⟨_, rfl, ?_, ?_⟩
      · unfold a_asks
        simp only [Int.toNat_natCast]
        (repeat' split) <;> first | with_reducible rfl | omega
      · first | exact hR | exact hR.scr f1
set_option maxRecDepth 10000 in
set_option maxHeartbeats 4000000 in
theorem x5_citizen {M : Mem} {nT tn : Nat} {X : Nat → Tx} {τ τi : Tn} {img : Bool} {tp ss sz : Nat → Int} {cl : Nat → Nat → Int} (hR : RX M (nT, X, τ, img, τi, tn, tp, ss, sz, cl)) (hI : INV (nT, X, τ, img, τi, tn, tp, ss, sz, cl)) {km : Int} (h_km : ib km) {de : Int} (h_de : ib de) : Con GX 9 kX5_citizen [rv 0, iv km, iv de] M (pI (fun a M2 => a = a_citizen (nT, X, τ, img, τi, tn, tp, ss, sz, cl) km de ∧ RX M2 (t_citizen (nT, X, τ, img, τi, tn, tp, ss, sz, cl) km de))) := by
  refine con_of [some (rv 0), some (iv km), some (iv de)] (plX5) rfl (Nat.le_of_ble_eq_true rfl) (fun z => ?_)
  have hR0 := hR
  obtain ⟨hτ, hX, hnT, himg, hτi, ⟨htn, htp⟩, hsh⟩ := hR0
  obtain ⟨⟨iT1, iT6⟩, ⟨hw, icl⟩, iim, ⟨itn, itp⟩, ish⟩ := hI
  obtain ⟨⟨wn, wn2⟩, wcl, ⟨wl, wl2⟩, -, -⟩ := id hw
  have hcl : τ 8 1 < 2147483648 := by omega
  refine r_mb (fun hMB => ?_)
  refine r_aload_0 dX5_citizen_0 (r_getR dX5_citizen_1 fX5_42 (rfl) (rfl) (r_iload_1 dX5_citizen_4 (r_iload_2 dX5_citizen_5 ?_)))
  refine r_cVI2 dX5_citizen_6 vX5_134 (rfl) (x_welcome (b := 6) tb6 hτ hw (by omega) (by omega)) (by decide) (Nat.le_of_ble_eq_true rfl) (fun b_6 M_6 h_6 => ?_)
  obtain ⟨rfl, w1, f1⟩ := h_6
  refine r_ireturn dX5_citizen_9 rfl ?_
  exact ⟨_, rfl, rfl, hR.now f1 w1⟩
set_option maxRecDepth 10000 in
set_option maxHeartbeats 4000000 in
theorem x5_put {M : Mem} {nT tn : Nat} {X : Nat → Tx} {τ τi : Tn} {img : Bool} {tp ss sz : Nat → Int} {cl : Nat → Nat → Int} (hR : RX M (nT, X, τ, img, τi, tn, tp, ss, sz, cl)) (hI : INV (nT, X, τ, img, τi, tn, tp, ss, sz, cl)) {p : Int} (h_p : ib p) {what : Int} (h_what : ib what) {v : Int} (h_v : ib v) : Con GX 9 kX5_put [rv 0, iv p, iv what, iv v] M (pI (fun a M2 => a = a_put (nT, X, τ, img, τi, tn, tp, ss, sz, cl) p what v ∧ RX M2 (t_put (nT, X, τ, img, τi, tn, tp, ss, sz, cl) p what v))) := by
  refine con_of [some (rv 0), some (iv p), some (iv what), some (iv v)] (plX5) rfl (Nat.le_of_ble_eq_true rfl) (fun z => ?_)
  have hR0 := hR
  obtain ⟨hτ, hX, hnT, himg, hτi, ⟨htn, htp⟩, hsh⟩ := hR0
  obtain ⟨⟨iT1, iT6⟩, ⟨hw, icl⟩, iim, ⟨itn, itp⟩, ish⟩ := hI
  obtain ⟨⟨wn, wn2⟩, wcl, ⟨wl, wl2⟩, -, -⟩ := id hw
  have hcl : τ 8 1 < 2147483648 := by omega
  refine r_mb (fun hMB => ?_)
  refine r_aload_0 dX5_put_0 (r_iload_1 dX5_put_1 ?_)
  refine r_cVI1 dX5_put_2 vX5_107 (rfl) (x_isP (d := 0) hτ (by omega)) (by decide) (Nat.le_of_ble_eq_true rfl) (fun b_2 M_2 h_2 => ?_)
  obtain ⟨rfl, rfl⟩ := h_2
  first | refine r_ifd_ne dX5_put_5 (fun c_5 => ?_) (fun c_5 => ?_) | refine r_ifb_ne dX5_put_5 (fun c_5 => ?_) (fun c_5 => ?_)
  · skip
    obtain ⟨q, rfl⟩ : ∃ q : Nat, p = q := ⟨p.toNat, by omega⟩
    have hq6 : q < 6 := by omega
    have wq := hw.p hq6
    have eq : ((q : Nat) : Int).toNat = q := Int.toNat_natCast q
    refine r_iload_2 dX5_put_11 ?_
    refine r_if_ne dX5_put_12 (by omega) (fun c_12 => ?_) (fun c_12 => ?_)
    · skip
      refine r_iload_2 dX5_put_35 (r_iconst dX5_put_36 ?_)
      refine r_icmp_ne dX5_put_37 (by omega) (by omega) (fun c_37 => ?_) (fun c_37 => ?_)
      · skip
        refine r_bipush dX5_put_63 (by decide) ?_
        refine r_ireturn dX5_put_65 rfl ?_
        refine ⟨_, rfl, ?_, ?_⟩
        · unfold a_put
          simp only [Int.toNat_natCast]
          (repeat' split) <;> first | with_reducible rfl | exact q0 | omega
        · unfold t_put
          simp only [Int.toNat_natCast]
          (repeat' split) <;> first | exact hR | exact hR.now (Fr.refl.up (k := 10) (scb_in (b := 6) (by omega) (by omega))) w1 | exact hR.now (Fr.refl.up (k := 11) (scb_in (b := 6) (by omega) (by omega))) w1 | (exfalso; omega)
      · skip
        refine r_iload_3 dX5_put_40 (r_iconst dX5_put_41 (r_bipush dX5_put_42 (by decide) ?_))
        refine r_cSI3 dX5_put_44 sX5_88 (x_within (d := 0) (by omega) (by omega) (by omega)) (by decide) (Nat.le_of_ble_eq_true rfl) (fun b_44 M_44 h_44 => ?_)
        obtain ⟨rfl, rfl⟩ := h_44
        first | refine r_ifd_eq dX5_put_47 (fun c_47 => ?_) (fun c_47 => ?_) | refine r_ifb_eq dX5_put_47 (fun c_47 => ?_) (fun c_47 => ?_)
        · skip
          refine r_bipush dX5_put_63 (by decide) ?_
          refine r_ireturn dX5_put_65 rfl ?_
          refine ⟨_, rfl, ?_, ?_⟩
          · unfold a_put
            simp only [Int.toNat_natCast]
            (repeat' split) <;> first | with_reducible rfl | exact q0 | omega
          · unfold t_put
            simp only [Int.toNat_natCast]
            (repeat' split) <;> first | exact hR | exact hR.now (Fr.refl.up (k := 10) (scb_in (b := 6) (by omega) (by omega))) w1 | exact hR.now (Fr.refl.up (k := 11) (scb_in (b := 6) (by omega) (by omega))) w1 | (exfalso; omega)
        · skip
          refine r_aload_0 dX5_put_50 (r_getR dX5_put_51 fX5_42 (rfl) (rfl) (r_getR dX5_put_54 fX5_140 (rfl) (rfl) (r_iload_1 dX5_put_57 (r_iload_3 dX5_put_58 ?_))))
          refine r_cSI3 dX5_put_59 sX5_103 (x_swapped (d := 0) (q := 11) (n := 6) rfl (by decide) (by omega) (by omega) (by omega) (by omega)) (by decide) (Nat.le_of_ble_eq_true rfl) (fun b_59 M_59 h_59 => ?_)
          obtain ⟨rfl, rfl⟩ := h_59
          have w1 : TW _ 6 (st τ 4 q v) := hτ.up4 (i := q) (v := v)
          have q0 := hτ.e4 hq6
          change M 11 q = _ at q0
          refine r_ireturn dX5_put_62 rfl ?_
          refine ⟨_, rfl, ?_, ?_⟩
          · unfold a_put
            simp only [Int.toNat_natCast]
            (repeat' split) <;> first | with_reducible rfl | exact q0 | omega
          · unfold t_put
            simp only [Int.toNat_natCast]
            (repeat' split) <;> first | exact hR | exact hR.now (Fr.refl.up (k := 10) (scb_in (b := 6) (by omega) (by omega))) w1 | exact hR.now (Fr.refl.up (k := 11) (scb_in (b := 6) (by omega) (by omega))) w1 | (exfalso; omega)
    · skip
      refine r_iload_3 dX5_put_15 ?_
      refine r_cSI1 dX5_put_16 sX5_92 (x_isDoor (d := 0) (by omega)) (by decide) (Nat.le_of_ble_eq_true rfl) (fun b_16 M_16 h_16 => ?_)
      obtain ⟨rfl, rfl⟩ := h_16
      first | refine r_ifd_eq dX5_put_19 (fun c_19 => ?_) (fun c_19 => ?_) | refine r_ifb_eq dX5_put_19 (fun c_19 => ?_) (fun c_19 => ?_)
      · skip
        refine r_iload_2 dX5_put_35 (r_iconst dX5_put_36 ?_)
        refine r_icmp_ne dX5_put_37 (by omega) (by omega) (fun c_37 => ?_) (fun c_37 => ?_)
        · skip
          refine r_bipush dX5_put_63 (by decide) ?_
          refine r_ireturn dX5_put_65 rfl ?_
          refine ⟨_, rfl, ?_, ?_⟩
          · unfold a_put
            simp only [Int.toNat_natCast]
            (repeat' split) <;> first | with_reducible rfl | exact q0 | omega
          · unfold t_put
            simp only [Int.toNat_natCast]
            (repeat' split) <;> first | exact hR | exact hR.now (Fr.refl.up (k := 10) (scb_in (b := 6) (by omega) (by omega))) w1 | exact hR.now (Fr.refl.up (k := 11) (scb_in (b := 6) (by omega) (by omega))) w1 | (exfalso; omega)
        · skip
          refine r_iload_3 dX5_put_40 (r_iconst dX5_put_41 (r_bipush dX5_put_42 (by decide) ?_))
          refine r_cSI3 dX5_put_44 sX5_88 (x_within (d := 0) (by omega) (by omega) (by omega)) (by decide) (Nat.le_of_ble_eq_true rfl) (fun b_44 M_44 h_44 => ?_)
          obtain ⟨rfl, rfl⟩ := h_44
          first | refine r_ifd_eq dX5_put_47 (fun c_47 => ?_) (fun c_47 => ?_) | refine r_ifb_eq dX5_put_47 (fun c_47 => ?_) (fun c_47 => ?_)
          · skip
            refine r_bipush dX5_put_63 (by decide) ?_
            refine r_ireturn dX5_put_65 rfl ?_
            refine ⟨_, rfl, ?_, ?_⟩
            · unfold a_put
              simp only [Int.toNat_natCast]
              (repeat' split) <;> first | with_reducible rfl | exact q0 | omega
            · unfold t_put
              simp only [Int.toNat_natCast]
              (repeat' split) <;> first | exact hR | exact hR.now (Fr.refl.up (k := 10) (scb_in (b := 6) (by omega) (by omega))) w1 | exact hR.now (Fr.refl.up (k := 11) (scb_in (b := 6) (by omega) (by omega))) w1 | (exfalso; omega)
          · skip
            refine r_aload_0 dX5_put_50 (r_getR dX5_put_51 fX5_42 (rfl) (rfl) (r_getR dX5_put_54 fX5_140 (rfl) (rfl) (r_iload_1 dX5_put_57 (r_iload_3 dX5_put_58 ?_))))
            refine r_cSI3 dX5_put_59 sX5_103 (x_swapped (d := 0) (q := 11) (n := 6) rfl (by decide) (by omega) (by omega) (by omega) (by omega)) (by decide) (Nat.le_of_ble_eq_true rfl) (fun b_59 M_59 h_59 => ?_)
            obtain ⟨rfl, rfl⟩ := h_59
            have w1 : TW _ 6 (st τ 4 q v) := hτ.up4 (i := q) (v := v)
            have q0 := hτ.e4 hq6
            change M 11 q = _ at q0
            refine r_ireturn dX5_put_62 rfl ?_
            refine ⟨_, rfl, ?_, ?_⟩
            · unfold a_put
              simp only [Int.toNat_natCast]
              (repeat' split) <;> first | with_reducible rfl | exact q0 | omega
            · unfold t_put
              simp only [Int.toNat_natCast]
              (repeat' split) <;> first | exact hR | exact hR.now (Fr.refl.up (k := 10) (scb_in (b := 6) (by omega) (by omega))) w1 | exact hR.now (Fr.refl.up (k := 11) (scb_in (b := 6) (by omega) (by omega))) w1 | (exfalso; omega)
      · skip
        refine r_aload_0 dX5_put_22 (r_getR dX5_put_23 fX5_42 (rfl) (rfl) (r_getR dX5_put_26 fX5_137 (rfl) (rfl) (r_iload_1 dX5_put_29 (r_iload_3 dX5_put_30 ?_))))
        refine r_cSI3 dX5_put_31 sX5_103 (x_swapped (d := 0) (q := 10) (n := 6) rfl (by decide) (by omega) (by omega) (by omega) (by omega)) (by decide) (Nat.le_of_ble_eq_true rfl) (fun b_31 M_31 h_31 => ?_)
        obtain ⟨rfl, rfl⟩ := h_31
        have w1 : TW _ 6 (st τ 3 q v) := hτ.up3 (i := q) (v := v)
        have q0 := hτ.e3 hq6
        change M 10 q = _ at q0
        refine r_ireturn dX5_put_34 rfl ?_
        refine ⟨_, rfl, ?_, ?_⟩
        · unfold a_put
          simp only [Int.toNat_natCast]
          (repeat' split) <;> first | with_reducible rfl | exact q0 | omega
        · unfold t_put
          simp only [Int.toNat_natCast]
          (repeat' split) <;> first | exact hR | exact hR.now (Fr.refl.up (k := 10) (scb_in (b := 6) (by omega) (by omega))) w1 | exact hR.now (Fr.refl.up (k := 11) (scb_in (b := 6) (by omega) (by omega))) w1 | (exfalso; omega)
  · skip
    refine r_bipush dX5_put_8 (by decide) ?_
    refine r_ireturn dX5_put_10 rfl ?_
    refine ⟨_, rfl, ?_, ?_⟩
    · unfold a_put
      simp only [Int.toNat_natCast]
      (repeat' split) <;> first | with_reducible rfl | exact q0 | omega
    · unfold t_put
      simp only [Int.toNat_natCast]
      (repeat' split) <;> first | exact hR | exact hR.now (Fr.refl.up (k := 10) (scb_in (b := 6) (by omega) (by omega))) w1 | exact hR.now (Fr.refl.up (k := 11) (scb_in (b := 6) (by omega) (by omega))) w1 | (exfalso; omega)
set_option maxRecDepth 10000 in
set_option maxHeartbeats 4000000 in
theorem x5_told {M : Mem} {nT tn : Nat} {X : Nat → Tx} {τ τi : Tn} {img : Bool} {tp ss sz : Nat → Int} {cl : Nat → Nat → Int} (hR : RX M (nT, X, τ, img, τi, tn, tp, ss, sz, cl)) (hI : INV (nT, X, τ, img, τi, tn, tp, ss, sz, cl)) {p : Int} (h_p : ib p) {what : Int} (h_what : ib what) : Con GX 9 kX5_told [rv 0, iv p, iv what] M (pI (fun a M2 => a = a_told (nT, X, τ, img, τi, tn, tp, ss, sz, cl) p what ∧ RX M2 (nT, X, τ, img, τi, tn, tp, ss, sz, cl))) := by
  refine con_of [some (rv 0), some (iv p), some (iv what)] (plX5) rfl (Nat.le_of_ble_eq_true rfl) (fun z => ?_)
  have hR0 := hR
  obtain ⟨hτ, hX, hnT, himg, hτi, ⟨htn, htp⟩, hsh⟩ := hR0
  obtain ⟨⟨iT1, iT6⟩, ⟨hw, icl⟩, iim, ⟨itn, itp⟩, ish⟩ := hI
  obtain ⟨⟨wn, wn2⟩, wcl, ⟨wl, wl2⟩, -, -⟩ := id hw
  have hcl : τ 8 1 < 2147483648 := by omega
  refine r_mb (fun hMB => ?_)
  refine r_aload_0 dX5_told_0 (r_iload_1 dX5_told_1 ?_)
  refine r_cVI1 dX5_told_2 vX5_107 (rfl) (x_isP (d := 0) hτ (by omega)) (by decide) (Nat.le_of_ble_eq_true rfl) (fun b_2 M_2 h_2 => ?_)
  obtain ⟨rfl, rfl⟩ := h_2
  first | refine r_ifd_ne dX5_told_5 (fun c_5 => ?_) (fun c_5 => ?_) | refine r_ifb_ne dX5_told_5 (fun c_5 => ?_) (fun c_5 => ?_)
  · skip
    obtain ⟨q, rfl⟩ : ∃ q : Nat, p = q := ⟨p.toNat, by omega⟩
    have hq6 : q < 6 := by omega
    have wq := hw.p hq6
    have eq : ((q : Nat) : Int).toNat = q := Int.toNat_natCast q
    refine r_iload_2 dX5_told_11 ?_
    refine r_tsw9 (t0 := 64) (t1 := 74) (t2 := 84) (t3 := 94) (t4 := 104) (t5 := 114) (t6 := 131) (t7 := 140) (t8 := 152) (td := 170) dX5_told_12 (by decide) (by omega) (by decide) (by decide) (by decide) (by decide) (by decide) (by decide) (by decide) (by decide) (by decide) (by decide) (fun c_12 => ?_) (fun c_12 => ?_) (fun c_12 => ?_) (fun c_12 => ?_) (fun c_12 => ?_) (fun c_12 => ?_) (fun c_12 => ?_) (fun c_12 => ?_) (fun c_12 => ?_) (fun c_12 => ?_)
    · skip
      skip
      refine r_aload_0 dX5_told_64 (r_getR dX5_told_65 fX5_42 (rfl) (rfl) (r_getR dX5_told_68 fX5_137 (rfl) (rfl) (r_iload_1 dX5_told_71 (r_ialN dX5_told_72 (rfl) (by omega) (by omega) (hτ.e3 hq6) ?_))))
      refine r_ireturn dX5_told_73 rfl ?_
      refine ⟨_, rfl, ?_, ?_⟩
      · unfold a_told
        simp only [Int.toNat_natCast]
        (repeat' split) <;> first | with_reducible rfl | omega | (rw [c_122]; rfl)
      · first | exact hR | exact hR.scr f1
    · skip
      skip
      refine r_aload_0 dX5_told_74 (r_getR dX5_told_75 fX5_42 (rfl) (rfl) (r_getR dX5_told_78 fX5_140 (rfl) (rfl) (r_iload_1 dX5_told_81 (r_ialN dX5_told_82 (rfl) (by omega) (by omega) (hτ.e4 hq6) ?_))))
      refine r_ireturn dX5_told_83 rfl ?_
      refine ⟨_, rfl, ?_, ?_⟩
      · unfold a_told
        simp only [Int.toNat_natCast]
        (repeat' split) <;> first | with_reducible rfl | omega | (rw [c_122]; rfl)
      · first | exact hR | exact hR.scr f1
    · skip
      skip
      refine r_aload_0 dX5_told_84 (r_getR dX5_told_85 fX5_42 (rfl) (rfl) (r_getR dX5_told_88 fX5_143 (rfl) (rfl) (r_iload_1 dX5_told_91 (r_ialN dX5_told_92 (rfl) (by omega) (by omega) (hτ.e5 hq6) ?_))))
      refine r_ireturn dX5_told_93 rfl ?_
      refine ⟨_, rfl, ?_, ?_⟩
      · unfold a_told
        simp only [Int.toNat_natCast]
        (repeat' split) <;> first | with_reducible rfl | omega | (rw [c_122]; rfl)
      · first | exact hR | exact hR.scr f1
    · skip
      skip
      refine r_aload_0 dX5_told_94 (r_getR dX5_told_95 fX5_42 (rfl) (rfl) (r_getR dX5_told_98 fX5_146 (rfl) (rfl) (r_iload_1 dX5_told_101 (r_ialN dX5_told_102 (rfl) (by omega) (by omega) (hτ.e6 hq6) ?_))))
      refine r_ireturn dX5_told_103 rfl ?_
      refine ⟨_, rfl, ?_, ?_⟩
      · unfold a_told
        simp only [Int.toNat_natCast]
        (repeat' split) <;> first | with_reducible rfl | omega | (rw [c_122]; rfl)
      · first | exact hR | exact hR.scr f1
    · skip
      skip
      refine r_aload_0 dX5_told_104 (r_getR dX5_told_105 fX5_42 (rfl) (rfl) (r_getR dX5_told_108 fX5_149 (rfl) (rfl) (r_iload_1 dX5_told_111 (r_ialN dX5_told_112 (rfl) (by omega) (by omega) (hτ.e7 hq6) ?_))))
      refine r_ireturn dX5_told_113 rfl ?_
      refine ⟨_, rfl, ?_, ?_⟩
      · unfold a_told
        simp only [Int.toNat_natCast]
        (repeat' split) <;> first | with_reducible rfl | omega | (rw [c_122]; rfl)
      · first | exact hR | exact hR.scr f1
    · skip
      skip
      refine r_aload_0 dX5_told_114 (r_getR dX5_told_115 fX5_42 (rfl) (rfl) (r_iload_1 dX5_told_118 ?_))
      refine r_cVI1 dX5_told_119 vX5_152 (rfl) (x_wouldTry (b := 6) tb6 hτ hw hX hcl hq6) (by decide) (Nat.le_of_ble_eq_true rfl) (fun b_119 M_119 h_119 => ?_)
      obtain ⟨rfl, f1⟩ := h_119
      refine r_ifb_eq dX5_told_122 (fun c_122 => ?_) (fun c_122 => ?_)
      · skip
        refine r_iconst dX5_told_129 ?_
        refine r_ireturn dX5_told_130 rfl ?_
        refine ⟨_, rfl, ?_, ?_⟩
        · unfold a_told
          simp only [Int.toNat_natCast]
          (repeat' split) <;> first | with_reducible rfl | omega | (rw [c_122]; rfl)
        · first | exact hR | exact hR.scr f1
      · skip
        refine r_iconst dX5_told_125 (r_goto dX5_told_126 ?_)
        refine r_ireturn dX5_told_130 rfl ?_
        refine ⟨_, rfl, ?_, ?_⟩
        · unfold a_told
          simp only [Int.toNat_natCast]
          (repeat' split) <;> first | with_reducible rfl | omega | (rw [c_122]; rfl)
        · first | exact hR | exact hR.scr f1
    · skip
      skip
      refine r_aload_0 dX5_told_131 (r_getR dX5_told_132 fX5_42 (rfl) (rfl) (r_iload_1 dX5_told_135 ?_))
      refine r_cVI1 dX5_told_136 vX5_155 (rfl) (x_wouldPay (b := 6) tb6 hτ hw hX hcl hq6) (by decide) (Nat.le_of_ble_eq_true rfl) (fun b_136 M_136 h_136 => ?_)
      obtain ⟨rfl, f1⟩ := h_136
      refine r_ireturn dX5_told_139 rfl ?_
      refine ⟨_, rfl, ?_, ?_⟩
      · unfold a_told
        simp only [Int.toNat_natCast]
        (repeat' split) <;> first | with_reducible rfl | omega | (rw [c_122]; rfl)
      · first | exact hR | exact hR.scr f1
    · skip
      skip
      refine r_aload_0 dX5_told_140 (r_getR dX5_told_141 fX5_42 (rfl) (rfl) (r_iload_1 dX5_told_144 ?_))
      refine r_cVI1 dX5_told_145 vX5_158 (rfl) (x_wouldGo (b := 6) tb6 hτ hw hX hcl hq6) (by decide) (Nat.le_of_ble_eq_true rfl) (fun b_145 M_145 h_145 => ?_)
      obtain ⟨rfl, f1⟩ := h_145
      refine r_bipush dX5_told_148 (by decide) (r_iadd dX5_told_150 ?_)
      refine r_ireturn dX5_told_151 rfl ?_
      refine ⟨_, rfl, ?_, ?_⟩
      · unfold a_told
        simp only [Int.toNat_natCast]
        (repeat' split) <;> first | with_reducible rfl | omega | (rw [c_122]; rfl)
      · first | exact hR | exact hR.scr f1
    · skip
      skip
      refine r_aload_0 dX5_told_152 (r_getR dX5_told_153 fX5_42 (rfl) (rfl) (r_iload_1 dX5_told_156 (r_aload_0 dX5_told_157 (r_getR dX5_told_158 fX5_42 (rfl) (rfl) (r_getR dX5_told_161 fX5_137 (rfl) (rfl) (r_iload_1 dX5_told_164 (r_ialN dX5_told_165 (rfl) (by omega) (by omega) ((hτ.e3 hq6).trans (show τ 3 q = (((τ 3 q).toNat : Nat) : Int) by omega)) ?_)))))))
      refine r_cVI2 dX5_told_166 vX5_161 (rfl) (x_outcome (n := 0) (b := 6) (d := (τ 3 q).toNat) tb6 hτ (hw.d (d := (τ 3 q).toNat) (by omega)).2.1 (by omega) hq6) (by decide) (Nat.le_of_ble_eq_true rfl) (fun b_166 M_166 h_166 => ?_)
      obtain ⟨rfl, rfl⟩ := h_166
      refine r_ireturn dX5_told_169 rfl ?_
      refine ⟨_, rfl, ?_, ?_⟩
      · unfold a_told
        simp only [Int.toNat_natCast]
        (repeat' split) <;> first | with_reducible rfl | omega | (rw [c_122]; rfl)
      · first | exact hR | exact hR.scr f1
    · skip
      skip
      refine r_bipush dX5_told_170 (by decide) ?_
      refine r_ireturn dX5_told_172 rfl ?_
      refine ⟨_, rfl, ?_, ?_⟩
      · unfold a_told
        simp only [Int.toNat_natCast]
        (repeat' split) <;> first | with_reducible rfl | omega | (rw [c_122]; rfl)
      · first | exact hR | exact hR.scr f1
  · skip
    refine r_bipush dX5_told_8 (by decide) ?_
    refine r_ireturn dX5_told_10 rfl ?_
    refine ⟨_, rfl, ?_, ?_⟩
    · unfold a_told
      simp only [Int.toNat_natCast]
      (repeat' split) <;> first | with_reducible rfl | omega | (rw [c_122]; rfl)
    · first | exact hR | exact hR.scr f1
set_option maxRecDepth 10000 in
set_option maxHeartbeats 4000000 in
theorem x5_twist {M : Mem} {nT tn : Nat} {X : Nat → Tx} {τ τi : Tn} {img : Bool} {tp ss sz : Nat → Int} {cl : Nat → Nat → Int} (hR : RX M (nT, X, τ, img, τi, tn, tp, ss, sz, cl)) (hI : INV (nT, X, τ, img, τi, tn, tp, ss, sz, cl)) {p : Int} (h_p : ib p) : Con GX 9 kX5_twist [rv 0, iv p] M (pI (fun a M2 => a = a_twist (nT, X, τ, img, τi, tn, tp, ss, sz, cl) p ∧ RX M2 (t_twist (nT, X, τ, img, τi, tn, tp, ss, sz, cl) p))) := by
  refine con_of [some (rv 0), some (iv p)] (plX5) rfl (Nat.le_of_ble_eq_true rfl) (fun z => ?_)
  have hR0 := hR
  obtain ⟨hτ, hX, hnT, himg, hτi, ⟨htn, htp⟩, hsh⟩ := hR0
  obtain ⟨⟨iT1, iT6⟩, ⟨hw, icl⟩, iim, ⟨itn, itp⟩, ish⟩ := hI
  obtain ⟨⟨wn, wn2⟩, wcl, ⟨wl, wl2⟩, -, -⟩ := id hw
  have hcl : τ 8 1 < 2147483648 := by omega
  refine r_mb (fun hMB => ?_)
  refine r_aload_0 dX5_twist_0 (r_iload_1 dX5_twist_1 ?_)
  refine r_cVI1 dX5_twist_2 vX5_107 (rfl) (x_isP (d := 0) hτ (by omega)) (by decide) (Nat.le_of_ble_eq_true rfl) (fun b_2 M_2 h_2 => ?_)
  obtain ⟨rfl, rfl⟩ := h_2
  first | refine r_ifd_eq dX5_twist_5 (fun c_5 => ?_) (fun c_5 => ?_) | refine r_ifb_eq dX5_twist_5 (fun c_5 => ?_) (fun c_5 => ?_)
  · skip
    refine r_bipush dX5_twist_28 (by decide) ?_
    refine r_ireturn dX5_twist_30 rfl ?_
    refine ⟨_, rfl, ?_, ?_⟩
    · unfold a_twist
      simp only [Int.toNat_natCast]
      (repeat' split) <;> first | with_reducible rfl | omega
    · unfold t_twist
      simp only [Int.toNat_natCast]
      (repeat' split) <;> first | exact hR | exact hR.now f1 w1 | (exfalso; omega)
  · skip
    obtain ⟨q, rfl⟩ : ∃ q : Nat, p = q := ⟨p.toNat, by omega⟩
    have hq6 : q < 6 := by omega
    have wq := hw.p hq6
    have eq : ((q : Nat) : Int).toNat = q := Int.toNat_natCast q
    refine r_aload_0 dX5_twist_8 (r_getR dX5_twist_9 fX5_42 (rfl) (rfl) (r_iload_1 dX5_twist_12 (r_aload_0 dX5_twist_13 (r_getR dX5_twist_14 fX5_42 (rfl) (rfl) (r_getR dX5_twist_17 fX5_137 (rfl) (rfl) (r_iload_1 dX5_twist_20 (r_ialN dX5_twist_21 (rfl) (by omega) (by omega) ((hτ.e3 hq6).trans (show τ 3 q = (((τ 3 q).toNat : Nat) : Int) by omega)) ?_)))))))
    refine r_cVI2 dX5_twist_22 vX5_164 (rfl) (x_attempt (b := 6) tb6 hτ hw hX hcl hq6 (d := (τ 3 q).toNat) (by omega)) (by decide) (Nat.le_of_ble_eq_true rfl) (fun b_22 M_22 h_22 => ?_)
    obtain ⟨rfl, w1, f1⟩ := h_22
    refine r_goto dX5_twist_25 ?_
    refine r_ireturn dX5_twist_30 rfl ?_
    refine ⟨_, rfl, ?_, ?_⟩
    · unfold a_twist
      simp only [Int.toNat_natCast]
      (repeat' split) <;> first | with_reducible rfl | omega
    · unfold t_twist
      simp only [Int.toNat_natCast]
      (repeat' split) <;> first | exact hR | exact hR.now f1 w1 | (exfalso; omega)
set_option maxRecDepth 10000 in
set_option maxHeartbeats 4000000 in
theorem x5_give {M : Mem} {nT tn : Nat} {X : Nat → Tx} {τ τi : Tn} {img : Bool} {tp ss sz : Nat → Int} {cl : Nat → Nat → Int} (hR : RX M (nT, X, τ, img, τi, tn, tp, ss, sz, cl)) (hI : INV (nT, X, τ, img, τi, tn, tp, ss, sz, cl)) {p : Int} (h_p : ib p) {q : Int} (h_q : ib q) {m : Int} (h_m : ib m) : Con GX 9 kX5_give [rv 0, iv p, iv q, iv m] M (pI (fun a M2 => a = a_give (nT, X, τ, img, τi, tn, tp, ss, sz, cl) p q m ∧ RX M2 (t_give (nT, X, τ, img, τi, tn, tp, ss, sz, cl) p q m))) := by
  refine con_of [some (rv 0), some (iv p), some (iv q), some (iv m)] (plX5) rfl (Nat.le_of_ble_eq_true rfl) (fun z => ?_)
  have hR0 := hR
  obtain ⟨hτ, hX, hnT, himg, hτi, ⟨htn, htp⟩, hsh⟩ := hR0
  obtain ⟨⟨iT1, iT6⟩, ⟨hw, icl⟩, iim, ⟨itn, itp⟩, ish⟩ := hI
  obtain ⟨⟨wn, wn2⟩, wcl, ⟨wl, wl2⟩, -, -⟩ := id hw
  have hcl : τ 8 1 < 2147483648 := by omega
  refine r_mb (fun hMB => ?_)
  refine r_aload_0 dX5_give_0 (r_iload_1 dX5_give_1 ?_)
  refine r_cVI1 dX5_give_2 vX5_107 (rfl) (x_isP (d := 0) hτ (by omega)) (by decide) (Nat.le_of_ble_eq_true rfl) (fun b_2 M_2 h_2 => ?_)
  obtain ⟨rfl, rfl⟩ := h_2
  first | refine r_ifd_eq dX5_give_5 (fun c_5 => ?_) (fun c_5 => ?_) | refine r_ifb_eq dX5_give_5 (fun c_5 => ?_) (fun c_5 => ?_)
  · skip
    refine r_bipush dX5_give_21 (by decide) ?_
    refine r_ireturn dX5_give_23 rfl ?_
    refine ⟨_, rfl, ?_, ?_⟩
    · unfold a_give
      simp only [Int.toNat_natCast]
      (repeat' split) <;> first | with_reducible rfl | omega
    · unfold t_give
      simp only [Int.toNat_natCast]
      (repeat' split) <;> first | exact hR | exact hR.now ((Fr.refl.up (k := 11) (scb_in (b := 6) (by omega) (by omega))).up (k := 11) (scb_in (b := 6) (by omega) (by omega))) w2 | (exfalso; omega)
  · skip
    obtain ⟨p1, rfl⟩ : ∃ p1 : Nat, p = p1 := ⟨p.toNat, by omega⟩
    have hp16 : p1 < 6 := by omega
    have wp1 := hw.p hp16
    have ep1 : ((p1 : Nat) : Int).toNat = p1 := Int.toNat_natCast p1
    refine r_aload_0 dX5_give_8 (r_iload_2 dX5_give_9 ?_)
    refine r_cVI1 dX5_give_10 vX5_107 (rfl) (x_isP (d := 0) hτ (by omega)) (by decide) (Nat.le_of_ble_eq_true rfl) (fun b_10 M_10 h_10 => ?_)
    obtain ⟨rfl, rfl⟩ := h_10
    first | refine r_ifd_eq dX5_give_13 (fun c_13 => ?_) (fun c_13 => ?_) | refine r_ifb_eq dX5_give_13 (fun c_13 => ?_) (fun c_13 => ?_)
    · skip
      refine r_bipush dX5_give_21 (by decide) ?_
      refine r_ireturn dX5_give_23 rfl ?_
      refine ⟨_, rfl, ?_, ?_⟩
      · unfold a_give
        simp only [Int.toNat_natCast]
        (repeat' split) <;> first | with_reducible rfl | omega
      · unfold t_give
        simp only [Int.toNat_natCast]
        (repeat' split) <;> first | exact hR | exact hR.now ((Fr.refl.up (k := 11) (scb_in (b := 6) (by omega) (by omega))).up (k := 11) (scb_in (b := 6) (by omega) (by omega))) w2 | (exfalso; omega)
    · skip
      obtain ⟨q1, rfl⟩ : ∃ q1 : Nat, q = q1 := ⟨q.toNat, by omega⟩
      have hq16 : q1 < 6 := by omega
      have wq1 := hw.p hq16
      have eq1 : ((q1 : Nat) : Int).toNat = q1 := Int.toNat_natCast q1
      refine r_iload_1 dX5_give_16 (r_iload_2 dX5_give_17 ?_)
      refine r_icmp_ne dX5_give_18 (by omega) (by omega) (fun c_18 => ?_) (fun c_18 => ?_)
      · skip
        refine r_iload_3 dX5_give_24 (r_iconst dX5_give_25 (r_bipush dX5_give_26 (by decide) ?_))
        refine r_cSI3 dX5_give_28 sX5_88 (x_within (d := 0) (by omega) (by omega) (by omega)) (by decide) (Nat.le_of_ble_eq_true rfl) (fun b_28 M_28 h_28 => ?_)
        obtain ⟨rfl, rfl⟩ := h_28
        first | refine r_ifd_ne dX5_give_31 (fun c_31 => ?_) (fun c_31 => ?_) | refine r_ifb_ne dX5_give_31 (fun c_31 => ?_) (fun c_31 => ?_)
        · skip
          refine r_aload_0 dX5_give_37 (r_getR dX5_give_38 fX5_42 (rfl) (rfl) (r_getR dX5_give_41 fX5_140 (rfl) (rfl) (r_iload_1 dX5_give_44 (r_ialN dX5_give_45 (rfl) (by omega) (by omega) (hτ.e4 hp16) (r_iload_3 dX5_give_46 ?_)))))
          refine r_icmp_lt dX5_give_47 (by omega) (by omega) (fun c_47 => ?_) (fun c_47 => ?_)
          · skip
            refine r_bipush dX5_give_66 (by decide) ?_
            refine r_ireturn dX5_give_68 rfl ?_
            refine ⟨_, rfl, ?_, ?_⟩
            · unfold a_give
              simp only [Int.toNat_natCast]
              (repeat' split) <;> first | with_reducible rfl | omega
            · unfold t_give
              simp only [Int.toNat_natCast]
              (repeat' split) <;> first | exact hR | exact hR.now ((Fr.refl.up (k := 11) (scb_in (b := 6) (by omega) (by omega))).up (k := 11) (scb_in (b := 6) (by omega) (by omega))) w2 | (exfalso; omega)
          · skip
            refine r_bipush dX5_give_50 (by decide) (r_aload_0 dX5_give_52 (r_getR dX5_give_53 fX5_42 (rfl) (rfl) (r_getR dX5_give_56 fX5_140 (rfl) (rfl) (r_iload_2 dX5_give_59 (r_ialN dX5_give_60 (rfl) (by omega) (by omega) (hτ.e4 hq16) (r_isub dX5_give_61 (r_iload_3 dX5_give_62 ?_)))))))
            refine r_icmp_ge dX5_give_63 (by omega) (by omega) (fun c_63 => ?_) (fun c_63 => ?_)
            · skip
              refine r_aload_0 dX5_give_69 (r_getR dX5_give_70 fX5_42 (rfl) (rfl) (r_getR dX5_give_73 fX5_140 (rfl) (rfl) (r_iload_1 dX5_give_76 (r_dup2 dX5_give_77 (r_ialN dX5_give_78 (rfl) (by omega) (by omega) (hτ.e4 hp16) (r_iload_3 dX5_give_79 (r_isub dX5_give_80 ?_)))))))
              refine r_iasN dX5_give_81 (rfl) (by omega) (by omega) (by omega) ?_
              have w1 : TW _ 6 (st τ 4 p1 (τ 4 p1 - m)) := hτ.up4 (i := p1) (v := τ 4 p1 - m)
              have q2 : st τ 4 p1 (τ 4 p1 - m) 4 q1 = τ 4 q1 := st_ne (Or.inr (by omega))
              refine r_aload_0 dX5_give_82 (r_getR dX5_give_83 fX5_42 (rfl) (rfl) (r_getR dX5_give_86 fX5_140 (rfl) (rfl) (r_iload_2 dX5_give_89 (r_dup2 dX5_give_90 (r_ialN dX5_give_91 (rfl) (by omega) (by omega) ((w1.e4 hq16).trans q2) (r_iload_3 dX5_give_92 (r_iadd dX5_give_93 ?_)))))))
              refine r_iasN dX5_give_94 (rfl) (by omega) (by omega) (by omega) ?_
              have w2 : TW _ 6 (st (st τ 4 p1 (τ 4 p1 - m)) 4 q1 (τ 4 q1 + m)) := w1.up4 (i := q1) (v := τ 4 q1 + m)
              refine r_aload_0 dX5_give_95 (r_getR dX5_give_96 fX5_42 (rfl) (rfl) (r_getR dX5_give_99 fX5_140 (rfl) (rfl) (r_iload_2 dX5_give_102 (r_ialN dX5_give_103 (rfl) (by omega) (by omega) ((w2.e4 hq16).trans st_self) ?_))))
              refine r_ireturn dX5_give_104 rfl ?_
              refine ⟨_, rfl, ?_, ?_⟩
              · unfold a_give
                simp only [Int.toNat_natCast]
                (repeat' split) <;> first | with_reducible rfl | omega
              · unfold t_give
                simp only [Int.toNat_natCast]
                (repeat' split) <;> first | exact hR | exact hR.now ((Fr.refl.up (k := 11) (scb_in (b := 6) (by omega) (by omega))).up (k := 11) (scb_in (b := 6) (by omega) (by omega))) w2 | (exfalso; omega)
            · skip
              refine r_bipush dX5_give_66 (by decide) ?_
              refine r_ireturn dX5_give_68 rfl ?_
              refine ⟨_, rfl, ?_, ?_⟩
              · unfold a_give
                simp only [Int.toNat_natCast]
                (repeat' split) <;> first | with_reducible rfl | omega
              · unfold t_give
                simp only [Int.toNat_natCast]
                (repeat' split) <;> first | exact hR | exact hR.now ((Fr.refl.up (k := 11) (scb_in (b := 6) (by omega) (by omega))).up (k := 11) (scb_in (b := 6) (by omega) (by omega))) w2 | (exfalso; omega)
        · skip
          refine r_bipush dX5_give_34 (by decide) ?_
          refine r_ireturn dX5_give_36 rfl ?_
          refine ⟨_, rfl, ?_, ?_⟩
          · unfold a_give
            simp only [Int.toNat_natCast]
            (repeat' split) <;> first | with_reducible rfl | omega
          · unfold t_give
            simp only [Int.toNat_natCast]
            (repeat' split) <;> first | exact hR | exact hR.now ((Fr.refl.up (k := 11) (scb_in (b := 6) (by omega) (by omega))).up (k := 11) (scb_in (b := 6) (by omega) (by omega))) w2 | (exfalso; omega)
      · skip
        refine r_bipush dX5_give_21 (by decide) ?_
        refine r_ireturn dX5_give_23 rfl ?_
        refine ⟨_, rfl, ?_, ?_⟩
        · unfold a_give
          simp only [Int.toNat_natCast]
          (repeat' split) <;> first | with_reducible rfl | omega
        · unfold t_give
          simp only [Int.toNat_natCast]
          (repeat' split) <;> first | exact hR | exact hR.now ((Fr.refl.up (k := 11) (scb_in (b := 6) (by omega) (by omega))).up (k := 11) (scb_in (b := 6) (by omega) (by omega))) w2 | (exfalso; omega)
set_option maxRecDepth 10000 in
set_option maxHeartbeats 4000000 in
theorem x5_minute {M : Mem} {nT tn : Nat} {X : Nat → Tx} {τ τi : Tn} {img : Bool} {tp ss sz : Nat → Int} {cl : Nat → Nat → Int} (hR : RX M (nT, X, τ, img, τi, tn, tp, ss, sz, cl)) (hI : INV (nT, X, τ, img, τi, tn, tp, ss, sz, cl))  : Con GX 9 kX5_minute [rv 0] M (pI (fun a M2 => a = a_minute (nT, X, τ, img, τi, tn, tp, ss, sz, cl)  ∧ RX M2 (t_minute (nT, X, τ, img, τi, tn, tp, ss, sz, cl) ))) := by
  refine con_of [some (rv 0)] (plX5) rfl (Nat.le_of_ble_eq_true rfl) (fun z => ?_)
  have hR0 := hR
  obtain ⟨hτ, hX, hnT, himg, hτi, ⟨htn, htp⟩, hsh⟩ := hR0
  obtain ⟨⟨iT1, iT6⟩, ⟨hw, icl⟩, iim, ⟨itn, itp⟩, ish⟩ := hI
  obtain ⟨⟨wn, wn2⟩, wcl, ⟨wl, wl2⟩, -, -⟩ := id hw
  have hcl : τ 8 1 < 2147483648 := by omega
  refine r_mb (fun hMB => ?_)
  refine r_aload_0 dX5_minute_0 (r_getR dX5_minute_1 fX5_42 (rfl) (rfl) (r_getE dX5_minute_4 fX5_69 (rfl) (rfl) (hτ.clock) (r_sipush dX5_minute_7 (by decide) ?_)))
  refine r_icmp_lt dX5_minute_10 (by omega) (by omega) (fun c_10 => ?_) (fun c_10 => ?_)
  · skip
    refine r_aload_0 dX5_minute_18 (r_getR dX5_minute_19 fX5_42 (rfl) (rfl) ?_)
    refine r_cVI0 dX5_minute_22 vX5_167 (rfl) (x_pass (b := 6) tb6 hτ hw hX (by omega)) (by decide) (Nat.le_of_ble_eq_true rfl) (fun b_22 M_22 h_22 => ?_)
    obtain ⟨rfl, w1, f1⟩ := h_22
    refine r_ireturn dX5_minute_25 rfl ?_
    refine ⟨_, rfl, ?_, ?_⟩
    · unfold a_minute
      simp only [Int.toNat_natCast]
      (repeat' split) <;> first | with_reducible rfl | omega
    · unfold t_minute
      simp only [Int.toNat_natCast]
      (repeat' split) <;> first | exact hR | exact hR.now f1 w1 | (exfalso; omega)
  · skip
    refine r_bipush dX5_minute_13 (by decide) (r_goto dX5_minute_15 ?_)
    refine r_ireturn dX5_minute_25 rfl ?_
    refine ⟨_, rfl, ?_, ?_⟩
    · unfold a_minute
      simp only [Int.toNat_natCast]
      (repeat' split) <;> first | with_reducible rfl | omega
    · unfold t_minute
      simp only [Int.toNat_natCast]
      (repeat' split) <;> first | exact hR | exact hR.now f1 w1 | (exfalso; omega)

set_option maxRecDepth 10000 in
set_option maxHeartbeats 4000000 in
theorem x_shB {M : Mem} {s : Nat} {a b : Int} (hs : s < 4) (ha : ib a) (hb : ib b) : Con GX 1 kX1_become [rv (60 + 2 * s), iv a, iv b] M (pV (fun M2 => M2 = shM M s a b)) := by
  refine con_of [some (rv (60 + 2 * s)), some (iv a), some (iv b)] (plX1) rfl (Nat.le_of_ble_eq_true rfl) (fun z => ?_)
  refine r_aload_0 dX1_become_0 (r_iload_1 dX1_become_1 ?_)
  refine r_put dX1_become_2 pX1_15 (gS0 hs) (rfl) (by omega) ?_
  refine r_aload_0 dX1_become_5 (r_iload_2 dX1_become_6 ?_)
  refine r_put dX1_become_7 pX1_19 (gS0 hs) (rfl) (by omega) ?_
  refine r_aload_0 dX1_become_10 (r_getR dX1_become_11 fX1_9 (gS0 hs) (rfl) (r_iconst dX1_become_14 ?_))
  refine r_cSV2 dX1_become_15 sX1_22 (x_fill (d := 0) (gS1 hs) (by decide) (by omega)) (by decide) (Nat.le_of_ble_eq_true rfl) (fun M_15 h_15 => ?_)
  
  refine r_vreturn dX1_become_18 rfl ?_
  exact ⟨rfl, h_15⟩
set_option maxRecDepth 10000 in
set_option maxHeartbeats 4000000 in
theorem x_write {n : Nat} {M : Mem} {s i : Nat} {v y : Int} (hs : s < 4) (hi : i < 40) (hv : ib v) (hz : M (60 + 2 * s) 1 = y) (hy : ib y) : Con GX n kX1_write [rv (60 + 2 * s), iv (i : Int), iv v] M (pV (fun M2 => M2 = upM M (60 + 2 * s + 1) i (wr y v))) := by
  refine con_of [some (rv (60 + 2 * s)), some (iv (i : Int)), some (iv v)] (plX1) rfl (Nat.le_of_ble_eq_true rfl) (fun z => ?_)
  refine r_iload_1 dX1_write_0 ?_
  refine r_if_lt dX1_write_1 (by omega) (fun c_1 => ?_) (fun c_1 => ?_)
  · exfalso; omega
  · skip
    refine r_iload_1 dX1_write_4 (r_aload_0 dX1_write_5 (r_getR dX1_write_6 fX1_9 (gS0 hs) (rfl) ?_))
    refine r_alen dX1_write_9 (gS1 hs) ?_
    refine r_icmp_ge dX1_write_10 (by omega) (by omega) (fun c_10 => ?_) (fun c_10 => ?_)
    · exfalso; omega
    · skip
      have jn_44 : ∀ (x : Int) (hx : x = wr y v), WP kX1_write GX n (pV (fun M2 => M2 = upM M (60 + 2 * s + 1) i (wr y v))) z 44 [some (rv (60 + 2 * s)), some (iv (i : Int)), some (iv v)] [iv x, iv (i : Int), rv (60 + 2 * s + 1)] M := by
        intro x hx
        refine r_iasN dX1_write_44 (gS1 hs) (by omega) (by omega) (by rw [hx]; exact wr_ib hv) ?_
        refine r_vreturn dX1_write_45 rfl ?_
        exact ⟨rfl, by rw [hx]⟩
      refine r_aload_0 dX1_write_13 (r_getR dX1_write_14 fX1_9 (gS0 hs) (rfl) (r_iload_1 dX1_write_17 (r_aload_0 dX1_write_18 (r_getE dX1_write_19 fX1_15 (gS0 hs) (rfl) (hz) ?_))))
      refine r_if_ne dX1_write_22 (by omega) (fun c_22 => ?_) (fun c_22 => ?_)
      · skip
        refine r_aload_0 dX1_write_30 (r_getE dX1_write_31 fX1_15 (gS0 hs) (rfl) (hz) (r_iconst dX1_write_34 ?_))
        refine r_icmp_ne dX1_write_35 (by omega) (by omega) (fun c_35 => ?_) (fun c_35 => ?_)
        · skip
          refine r_iload_2 dX1_write_43 ?_
          exact jn_44 _ (by unfold wr; rw [if_neg (by omega), if_neg (by omega)])
        · skip
          refine r_iload_2 dX1_write_38 ?_
          refine r_i2s (r := Int.bmod v 65536) dX1_write_39 (i3_s hv) ?_
          refine r_goto dX1_write_40 ?_
          exact jn_44 _ (by unfold wr; rw [if_neg (by omega), if_pos (by omega)])
      · skip
        refine r_iload_2 dX1_write_25 ?_
        refine r_i2b (r := Int.bmod v 256) dX1_write_26 (i3_b hv) ?_
        refine r_goto dX1_write_27 ?_
        exact jn_44 _ (by unfold wr; rw [if_pos (by omega)])
set_option maxRecDepth 10000 in
set_option maxHeartbeats 4000000 in
theorem x5_film {M : Mem} {nT tn : Nat} {X : Nat → Tx} {τ τi : Tn} {img : Bool} {tp ss sz : Nat → Int} {cl : Nat → Nat → Int} (hR : RX M (nT, X, τ, img, τi, tn, tp, ss, sz, cl)) (hI : INV (nT, X, τ, img, τi, tn, tp, ss, sz, cl)) {s : Int} (h_s : ib s) {p : Int} (h_p : ib p) {n : Int} (h_n : ib n) : Con GX 9 kX5_film [rv 0, iv s, iv p, iv n] M (pI (fun a M2 => a = a_film (nT, X, τ, img, τi, tn, tp, ss, sz, cl) s p n ∧ RX M2 (t_film (nT, X, τ, img, τi, tn, tp, ss, sz, cl) s p n))) := by
  refine con_of [some (rv 0), some (iv s), some (iv p), some (iv n), none] (plX5) rfl (Nat.le_of_ble_eq_true rfl) (fun z => ?_)
  have hR0 := hR
  obtain ⟨hτ, hX, hnT, himg, hτi, ⟨htn, htp⟩, hsh⟩ := hR0
  obtain ⟨⟨iT1, iT6⟩, ⟨hw, icl⟩, iim, ⟨itn, itp⟩, ish⟩ := hI
  obtain ⟨⟨wn, wn2⟩, wcl, ⟨wl, wl2⟩, -, -⟩ := id hw
  have hcl : τ 8 1 < 2147483648 := by omega
  refine r_mb (fun hMB => ?_)
  refine r_iload_1 dX5_film_0 ?_
  refine r_cSI1 dX5_film_1 sX5_218 (x_isSheet (d := 0) (by omega)) (by decide) (Nat.le_of_ble_eq_true rfl) (fun b_1 M_1 h_1 => ?_)
  obtain ⟨rfl, rfl⟩ := h_1
  first | refine r_ifd_ne dX5_film_4 (fun c_4 => ?_) (fun c_4 => ?_) | refine r_ifb_ne dX5_film_4 (fun c_4 => ?_) (fun c_4 => ?_)
  · skip
    obtain ⟨e, rfl⟩ : ∃ e : Nat, s = e := ⟨s.toNat, by omega⟩
    have he4 : e < 4 := by omega
    have hs := hsh e he4
    have is := ish e he4
    refine r_aload_0 dX5_film_10 (r_iload_2 dX5_film_11 ?_)
    refine r_cVI1 dX5_film_12 vX5_107 (rfl) (x_isP (d := 0) hτ (by omega)) (by decide) (Nat.le_of_ble_eq_true rfl) (fun b_12 M_12 h_12 => ?_)
    obtain ⟨rfl, rfl⟩ := h_12
    first | refine r_ifd_ne dX5_film_15 (fun c_15 => ?_) (fun c_15 => ?_) | refine r_ifb_ne dX5_film_15 (fun c_15 => ?_) (fun c_15 => ?_)
    · skip
      obtain ⟨q, rfl⟩ : ∃ q : Nat, p = q := ⟨p.toNat, by omega⟩
      have hq6 : q < 6 := by omega
      have wq := hw.p hq6
      have eq : ((q : Nat) : Int).toNat = q := Int.toNat_natCast q
      refine r_iload_3 dX5_film_21 (r_iconst dX5_film_22 (r_bipush dX5_film_23 (by decide) ?_))
      refine r_cSI3 dX5_film_25 sX5_88 (x_within (d := 0) (by omega) (by omega) (by omega)) (by decide) (Nat.le_of_ble_eq_true rfl) (fun b_25 M_25 h_25 => ?_)
      obtain ⟨rfl, rfl⟩ := h_25
      first | refine r_ifd_ne dX5_film_28 (fun c_28 => ?_) (fun c_28 => ?_) | refine r_ifb_ne dX5_film_28 (fun c_28 => ?_) (fun c_28 => ?_)
      · skip
        obtain ⟨m, rfl⟩ : ∃ m : Nat, n = m := ⟨n.toNat, by omega⟩
        refine r_aload_0 dX5_film_34 (r_getR dX5_film_35 fX5_17 (rfl) (rfl) (r_iload_1 dX5_film_38 ?_))
        refine r_aaload dX5_film_39 (rfl) (by decide) (by omega) (rsS he4) ?_
        refine r_iconst dX5_film_40 (r_iload_3 dX5_film_41 ?_)
        refine r_cVV2 dX5_film_42 vX5_221 (gS0 he4) (x_shB he4 (by omega) (by omega)) (by decide) (Nat.le_of_ble_eq_true rfl) (fun M_42 h_42 => ?_)
        have R0 := hR.shM he4 (a := 0) (b := (m : Int))
        have h_42 : M_42 = shM M e 0 (m : Int) := h_42
        rw [← h_42] at R0
        refine r_aload_0 dX5_film_45 (r_getR dX5_film_46 fX5_46 (rfl) (rfl) (r_aload_0 dX5_film_49 (r_getR dX5_film_50 fX5_42 (rfl) (rfl) ?_)))
        refine r_cVV1 dX5_film_53 vX5_175 (rfl) (x_become tb16 tb6 (by decide) R0.1) (by decide) (Nat.le_of_ble_eq_true rfl) (fun M_53 h_53 => ?_)
        obtain ⟨w0, f0⟩ := h_53
        have R1 := R0.th f0
        refine r_iconst dX5_film_56 (r_istore_4 dX5_film_57 rfl ?_)
        have lp_59 : ∀ (NN : Nat) (i : Nat) (Mv : Mem) (hi : i ≤ m) (wv : TW Mv 16 (sRun X τ i)) (Rv : RX Mv (nT, X, τ, img, τi, tn, tp, upS ss e 0, upS sz e (m : Int), upC cl e (fl_c X τ q i))), 100 - i < NN → WP kX5_film GX 9 (pI (fun a M2 => a = a_film (nT, X, τ, img, τi, tn, tp, ss, sz, cl) (e : Int) (q : Int) (m : Int) ∧ RX M2 (t_film (nT, X, τ, img, τi, tn, tp, ss, sz, cl) (e : Int) (q : Int) (m : Int)))) z 59 [some (rv 0), some (iv (e : Int)), some (iv (q : Int)), some (iv (m : Int)), some (iv (i : Int))] [] Mv := by
          intro NN
          induction NN with
          | zero => intros; omega
          | succ NN ih =>
            intro i Mv hi wv Rv hm
            have hck := sRun_clk X τ i
            refine r_iload_4 dX5_film_59 ?_
            refine r_iload_3 dX5_film_61 ?_
            refine r_icmp_ge dX5_film_62 (by omega) (by omega) (fun c_62 => ?_) (fun c_62 => ?_)
            · skip
              obtain rfl : i = m := by omega
              refine r_iload_3 dX5_film_99 ?_
              refine r_ireturn dX5_film_100 rfl ?_
              refine ⟨_, rfl, ?_, ?_⟩
              · unfold a_film
                simp only [Int.toNat_natCast]
                (repeat' split) <;> first | with_reducible rfl | omega
              · unfold t_film
                simp only [Int.toNat_natCast]
                (repeat' split) <;> first | exact hR | exact Rv | (exfalso; omega)
            · skip
              refine r_aload_0 dX5_film_65 (r_getR dX5_film_66 fX5_46 (rfl) (rfl) ?_)
              refine r_cVI0 dX5_film_69 vX5_167 (rfl) (x_pass (b := 16) tb16 wv (sRun_wf hw i) Rv.2.1 (by omega)) (by decide) (Nat.le_of_ble_eq_true rfl) (fun b_69 M_69 h_69 => ?_)
              obtain ⟨rfl, w2, f2⟩ := h_69
              have w2 : TW M_69 16 (sRun X τ (i + 1)) := w2
              have R2 := Rv.th f2
              have wq1 := ((sRun_wf (X := X) hw (i + 1)).p hq6).2.1
              have hz0 := (R2.2.2.2.2.2.2 e he4).1.trans upS_self
              refine r_pop_i dX5_film_72 (r_aload_0 dX5_film_73 (r_getR dX5_film_74 fX5_17 (rfl) (rfl) (r_iload_1 dX5_film_77 ?_)))
              refine r_aaload dX5_film_78 (rfl) (by decide) (by omega) (rsS he4) ?_
              refine r_iload_4 dX5_film_79 (r_aload_0 dX5_film_81 (r_getR dX5_film_82 fX5_46 (rfl) (rfl) (r_getR dX5_film_85 fX5_140 (rfl) (rfl) (r_iload_2 dX5_film_88 (r_ialN dX5_film_89 (rfl) (by omega) (by omega) (w2.e4 hq6) ?_)))))
              refine r_cVV2 dX5_film_90 vX5_224 (gS0 he4) (x_write (n := 0) he4 (by omega) (by omega) hz0 (by omega)) (by decide) (Nat.le_of_ble_eq_true rfl) (fun M_90 h_90 => ?_)
              rw [wr_0 wq1] at h_90
              have h_90 : M_90 = upM M_69 (60 + 2 * e + 1) i (sRun X τ (i + 1) 4 q) := h_90
              have R3 := R2.cell (i := i) (v := sRun X τ (i + 1) 4 q) he4
              rw [upC_self, upC_upC, fl_c_up, ← h_90] at R3
              have w3 : TW M_90 16 (sRun X τ (i + 1)) := by
                rw [h_90]
                exact w2.fr (P := fun c => c == 60 + 2 * e + 1) (Fr.refl.up (by simp)) (fun c g1 g2 => by simp; omega)
              refine r_iinc_4 dX5_film_93 rfl (r_goto dX5_film_96 ?_)
              exact ih (i + 1) M_90 (by omega) w3 R3 (by omega)
        exact lp_59 _ 0 M_53 (by omega) w0 (by rw [show fl_c X τ q 0 = fun _ => 0 from funext fun j => if_neg (by omega)]; exact R1) (Nat.lt_succ_self _)
      · skip
        refine r_bipush dX5_film_31 (by decide) ?_
        refine r_ireturn dX5_film_33 rfl ?_
        refine ⟨_, rfl, ?_, ?_⟩
        · unfold a_film
          simp only [Int.toNat_natCast]
          (repeat' split) <;> first | with_reducible rfl | omega
        · unfold t_film
          simp only [Int.toNat_natCast]
          (repeat' split) <;> first | exact hR | exact Rv | (exfalso; omega)
    · skip
      refine r_bipush dX5_film_18 (by decide) ?_
      refine r_ireturn dX5_film_20 rfl ?_
      refine ⟨_, rfl, ?_, ?_⟩
      · unfold a_film
        simp only [Int.toNat_natCast]
        (repeat' split) <;> first | with_reducible rfl | omega
      · unfold t_film
        simp only [Int.toNat_natCast]
        (repeat' split) <;> first | exact hR | exact Rv | (exfalso; omega)
  · skip
    refine r_bipush dX5_film_7 (by decide) ?_
    refine r_ireturn dX5_film_9 rfl ?_
    refine ⟨_, rfl, ?_, ?_⟩
    · unfold a_film
      simp only [Int.toNat_natCast]
      (repeat' split) <;> first | with_reducible rfl | omega
    · unfold t_film
      simp only [Int.toNat_natCast]
      (repeat' split) <;> first | exact hR | exact Rv | (exfalso; omega)
set_option maxRecDepth 10000 in
set_option maxHeartbeats 4000000 in
theorem x5_sheet {M : Mem} {nT tn : Nat} {X : Nat → Tx} {τ τi : Tn} {img : Bool} {tp ss sz : Nat → Int} {cl : Nat → Nat → Int} (hR : RX M (nT, X, τ, img, τi, tn, tp, ss, sz, cl)) (hI : INV (nT, X, τ, img, τi, tn, tp, ss, sz, cl)) {s : Int} (h_s : ib s) {k : Int} (h_k : ib k) {n : Int} (h_n : ib n) : Con GX 9 kX5_sheet [rv 0, iv s, iv k, iv n] M (pI (fun a M2 => a = a_sheet (nT, X, τ, img, τi, tn, tp, ss, sz, cl) s k n ∧ RX M2 (t_sheet (nT, X, τ, img, τi, tn, tp, ss, sz, cl) s k n))) := by
  refine con_of [some (rv 0), some (iv s), some (iv k), some (iv n)] (plX5) rfl (Nat.le_of_ble_eq_true rfl) (fun z => ?_)
  have hR0 := hR
  obtain ⟨hτ, hX, hnT, himg, hτi, ⟨htn, htp⟩, hsh⟩ := hR0
  obtain ⟨⟨iT1, iT6⟩, ⟨hw, icl⟩, iim, ⟨itn, itp⟩, ish⟩ := hI
  obtain ⟨⟨wn, wn2⟩, wcl, ⟨wl, wl2⟩, -, -⟩ := id hw
  have hcl : τ 8 1 < 2147483648 := by omega
  refine r_mb (fun hMB => ?_)
  refine r_iload_1 dX5_sheet_0 ?_
  refine r_cSI1 dX5_sheet_1 sX5_218 (x_isSheet (d := 0) (by omega)) (by decide) (Nat.le_of_ble_eq_true rfl) (fun b_1 M_1 h_1 => ?_)
  obtain ⟨rfl, rfl⟩ := h_1
  first | refine r_ifd_eq dX5_sheet_4 (fun c_4 => ?_) (fun c_4 => ?_) | refine r_ifb_eq dX5_sheet_4 (fun c_4 => ?_) (fun c_4 => ?_)
  · skip
    refine r_bipush dX5_sheet_16 (by decide) ?_
    refine r_ireturn dX5_sheet_18 rfl ?_
    refine ⟨_, rfl, ?_, ?_⟩
    · unfold a_sheet
      try simp only [Int.toNat_natCast]
      (repeat' split) <;> first | with_reducible rfl | omega
    · unfold t_sheet
      try simp only [Int.toNat_natCast]
      (repeat' split) <;> first | exact hR | exact R0 | (exfalso; omega)
  · skip
    obtain ⟨e, rfl⟩ : ∃ e : Nat, s = e := ⟨s.toNat, by omega⟩
    have he4 : e < 4 := by omega
    have hs := hsh e he4
    have is := ish e he4
    refine r_iload_2 dX5_sheet_7 (r_iconst dX5_sheet_8 (r_iconst dX5_sheet_9 ?_))
    refine r_cSI3 dX5_sheet_10 sX5_88 (x_within (d := 0) (by omega) (by omega) (by omega)) (by decide) (Nat.le_of_ble_eq_true rfl) (fun b_10 M_10 h_10 => ?_)
    obtain ⟨rfl, rfl⟩ := h_10
    first | refine r_ifd_ne dX5_sheet_13 (fun c_13 => ?_) (fun c_13 => ?_) | refine r_ifb_ne dX5_sheet_13 (fun c_13 => ?_) (fun c_13 => ?_)
    · skip
      refine r_iload_2 dX5_sheet_19 (r_iconst dX5_sheet_20 ?_)
      refine r_icmp_ne dX5_sheet_21 (by omega) (by omega) (fun c_21 => ?_) (fun c_21 => ?_)
      · skip
        refine r_iload_3 dX5_sheet_37 (r_bipush dX5_sheet_38 (by decide) ?_)
        refine r_icmp_le dX5_sheet_40 (by omega) (by omega) (fun c_40 => ?_) (fun c_40 => ?_)
        · skip
          refine r_iload_3 dX5_sheet_46 ?_
          refine r_if_ge dX5_sheet_47 (by omega) (fun c_47 => ?_) (fun c_47 => ?_)
          · skip
            refine r_aload_0 dX5_sheet_53 (r_getR dX5_sheet_54 fX5_17 (rfl) (rfl) (r_iload_1 dX5_sheet_57 ?_))
            refine r_aaload dX5_sheet_58 (rfl) (by decide) (by omega) (rsS he4) ?_
            refine r_iload_2 dX5_sheet_59 (r_iload_3 dX5_sheet_60 ?_)
            refine r_cVV2 dX5_sheet_61 vX5_221 (gS0 he4) (x_shB he4 (by omega) (by omega)) (by decide) (Nat.le_of_ble_eq_true rfl) (fun M_61 h_61 => ?_)
            have R0 := hR.shM he4 (a := k) (b := n)
            have h_61 : M_61 = shM M e (k) (n) := h_61
            rw [← h_61] at R0
            refine r_iconst dX5_sheet_64 ?_
            refine r_ireturn dX5_sheet_65 rfl ?_
            refine ⟨_, rfl, ?_, ?_⟩
            · unfold a_sheet
              try simp only [Int.toNat_natCast]
              (repeat' split) <;> first | with_reducible rfl | omega
            · unfold t_sheet
              try simp only [Int.toNat_natCast]
              (repeat' split) <;> first | exact hR | exact R0 | (exfalso; omega)
          · skip
            refine r_bipush dX5_sheet_50 (by decide) ?_
            refine r_ireturn dX5_sheet_52 rfl ?_
            refine ⟨_, rfl, ?_, ?_⟩
            · unfold a_sheet
              try simp only [Int.toNat_natCast]
              (repeat' split) <;> first | with_reducible rfl | omega
            · unfold t_sheet
              try simp only [Int.toNat_natCast]
              (repeat' split) <;> first | exact hR | exact R0 | (exfalso; omega)
        · skip
          refine r_bipush dX5_sheet_43 (by decide) ?_
          refine r_ireturn dX5_sheet_45 rfl ?_
          refine ⟨_, rfl, ?_, ?_⟩
          · unfold a_sheet
            try simp only [Int.toNat_natCast]
            (repeat' split) <;> first | with_reducible rfl | omega
          · unfold t_sheet
            try simp only [Int.toNat_natCast]
            (repeat' split) <;> first | exact hR | exact R0 | (exfalso; omega)
      · skip
        refine r_aload_0 dX5_sheet_24 (r_getR dX5_sheet_25 fX5_17 (rfl) (rfl) (r_iload_1 dX5_sheet_28 ?_))
        refine r_aaload dX5_sheet_29 (rfl) (by decide) (by omega) (rsS he4) ?_
        refine r_iconst dX5_sheet_30 (r_iconst dX5_sheet_31 ?_)
        refine r_cVV2 dX5_sheet_32 vX5_221 (gS0 he4) (x_shB he4 (by omega) (by omega)) (by decide) (Nat.le_of_ble_eq_true rfl) (fun M_32 h_32 => ?_)
        have R0 := hR.shM he4 (a := -1) (b := 0)
        have h_32 : M_32 = shM M e (-1) (0) := h_32
        rw [← h_32] at R0
        refine r_iconst dX5_sheet_35 ?_
        refine r_ireturn dX5_sheet_36 rfl ?_
        obtain rfl : k = -1 := by omega
        refine ⟨_, rfl, ?_, ?_⟩
        · unfold a_sheet
          rw [if_neg (by omega), if_pos rfl]
        · unfold t_sheet
          simp only [Int.toNat_natCast]
          rw [if_neg (by omega)]
          exact R0
    · skip
      refine r_bipush dX5_sheet_16 (by decide) ?_
      refine r_ireturn dX5_sheet_18 rfl ?_
      refine ⟨_, rfl, ?_, ?_⟩
      · unfold a_sheet
        try simp only [Int.toNat_natCast]
        (repeat' split) <;> first | with_reducible rfl | omega
      · unfold t_sheet
        try simp only [Int.toNat_natCast]
        (repeat' split) <;> first | exact hR | exact R0 | (exfalso; omega)
set_option maxRecDepth 10000 in
set_option maxHeartbeats 4000000 in
theorem x5_cell {M : Mem} {nT tn : Nat} {X : Nat → Tx} {τ τi : Tn} {img : Bool} {tp ss sz : Nat → Int} {cl : Nat → Nat → Int} (hR : RX M (nT, X, τ, img, τi, tn, tp, ss, sz, cl)) (hI : INV (nT, X, τ, img, τi, tn, tp, ss, sz, cl)) {s : Int} (h_s : ib s) {i : Int} (h_i : ib i) {v : Int} (h_v : ib v) : Con GX 9 kX5_cell [rv 0, iv s, iv i, iv v] M (pI (fun a M2 => a = a_cell (nT, X, τ, img, τi, tn, tp, ss, sz, cl) s i v ∧ RX M2 (t_cell (nT, X, τ, img, τi, tn, tp, ss, sz, cl) s i v))) := by
  refine con_of [some (rv 0), some (iv s), some (iv i), some (iv v)] (plX5) rfl (Nat.le_of_ble_eq_true rfl) (fun z => ?_)
  have hR0 := hR
  obtain ⟨hτ, hX, hnT, himg, hτi, ⟨htn, htp⟩, hsh⟩ := hR0
  obtain ⟨⟨iT1, iT6⟩, ⟨hw, icl⟩, iim, ⟨itn, itp⟩, ish⟩ := hI
  obtain ⟨⟨wn, wn2⟩, wcl, ⟨wl, wl2⟩, -, -⟩ := id hw
  have hcl : τ 8 1 < 2147483648 := by omega
  refine r_mb (fun hMB => ?_)
  refine r_iload_1 dX5_cell_0 ?_
  refine r_cSI1 dX5_cell_1 sX5_218 (x_isSheet (d := 0) (by omega)) (by decide) (Nat.le_of_ble_eq_true rfl) (fun b_1 M_1 h_1 => ?_)
  obtain ⟨rfl, rfl⟩ := h_1
  first | refine r_ifd_ne dX5_cell_4 (fun c_4 => ?_) (fun c_4 => ?_) | refine r_ifb_ne dX5_cell_4 (fun c_4 => ?_) (fun c_4 => ?_)
  · skip
    obtain ⟨e, rfl⟩ : ∃ e : Nat, s = e := ⟨s.toNat, by omega⟩
    have he4 : e < 4 := by omega
    have hs := hsh e he4
    have is := ish e he4
    refine r_aload_0 dX5_cell_10 (r_getR dX5_cell_11 fX5_17 (rfl) (rfl) (r_iload_1 dX5_cell_14 ?_))
    refine r_aaload dX5_cell_15 (rfl) (by decide) (by omega) (rsS he4) ?_
    refine r_getE dX5_cell_16 fX5_227 (gS0 he4) (rfl) (hs.1) (r_iconst dX5_cell_19 ?_)
    refine r_icmp_ne dX5_cell_20 (by omega) (by omega) (fun c_20 => ?_) (fun c_20 => ?_)
    · skip
      refine r_aload_0 dX5_cell_26 (r_getR dX5_cell_27 fX5_17 (rfl) (rfl) (r_iload_1 dX5_cell_30 ?_))
      refine r_aaload dX5_cell_31 (rfl) (by decide) (by omega) (rsS he4) ?_
      refine r_iload_2 dX5_cell_32 ?_
      refine r_cVI1 dX5_cell_33 vX5_250 (gS0 he4) (x_has (n := 0) he4 hs.2.1 (by omega) (by omega)) (by decide) (Nat.le_of_ble_eq_true rfl) (fun b_33 M_33 h_33 => ?_)
      obtain ⟨rfl, rfl⟩ := h_33
      first | refine r_ifd_ne dX5_cell_36 (fun c_36 => ?_) (fun c_36 => ?_) | refine r_ifb_ne dX5_cell_36 (fun c_36 => ?_) (fun c_36 => ?_)
      · skip
        obtain ⟨j, rfl⟩ : ∃ j : Nat, i = j := ⟨i.toNat, by omega⟩
        refine r_aload_0 dX5_cell_42 (r_getR dX5_cell_43 fX5_17 (rfl) (rfl) (r_iload_1 dX5_cell_46 ?_))
        refine r_aaload dX5_cell_47 (rfl) (by decide) (by omega) (rsS he4) ?_
        refine r_iload_2 dX5_cell_48 (r_iload_3 dX5_cell_49 ?_)
        refine r_cVV2 dX5_cell_50 vX5_224 (gS0 he4) (x_write (n := 0) he4 (by omega) (by omega) hs.1 (by omega)) (by decide) (Nat.le_of_ble_eq_true rfl) (fun M_50 h_50 => ?_)
        have R0 := hR.cell (i := j) (v := wr (ss e) v) he4
        have h_50 : M_50 = upM M (60 + 2 * e + 1) j (wr (ss e) v) := h_50
        rw [← h_50] at R0
        refine r_iconst dX5_cell_53 ?_
        refine r_ireturn dX5_cell_54 rfl ?_
        refine ⟨_, rfl, ?_, ?_⟩
        · unfold a_cell
          simp only [Int.toNat_natCast]
          (repeat' split) <;> first | with_reducible rfl | omega
        · unfold t_cell
          simp only [Int.toNat_natCast]
          (repeat' split) <;> first | exact hR | exact R0 | (exfalso; omega)
      · skip
        refine r_bipush dX5_cell_39 (by decide) ?_
        refine r_ireturn dX5_cell_41 rfl ?_
        refine ⟨_, rfl, ?_, ?_⟩
        · unfold a_cell
          simp only [Int.toNat_natCast]
          (repeat' split) <;> first | with_reducible rfl | omega
        · unfold t_cell
          simp only [Int.toNat_natCast]
          (repeat' split) <;> first | exact hR | exact R0 | (exfalso; omega)
    · skip
      refine r_bipush dX5_cell_23 (by decide) ?_
      refine r_ireturn dX5_cell_25 rfl ?_
      refine ⟨_, rfl, ?_, ?_⟩
      · unfold a_cell
        simp only [Int.toNat_natCast]
        (repeat' split) <;> first | with_reducible rfl | omega
      · unfold t_cell
        simp only [Int.toNat_natCast]
        (repeat' split) <;> first | exact hR | exact R0 | (exfalso; omega)
  · skip
    refine r_bipush dX5_cell_7 (by decide) ?_
    refine r_ireturn dX5_cell_9 rfl ?_
    refine ⟨_, rfl, ?_, ?_⟩
    · unfold a_cell
      simp only [Int.toNat_natCast]
      (repeat' split) <;> first | with_reducible rfl | omega
    · unfold t_cell
      simp only [Int.toNat_natCast]
      (repeat' split) <;> first | exact hR | exact R0 | (exfalso; omega)
set_option maxRecDepth 10000 in
set_option maxHeartbeats 4000000 in
theorem x5_copy {M : Mem} {nT tn : Nat} {X : Nat → Tx} {τ τi : Tn} {img : Bool} {tp ss sz : Nat → Int} {cl : Nat → Nat → Int} (hR : RX M (nT, X, τ, img, τi, tn, tp, ss, sz, cl)) (hI : INV (nT, X, τ, img, τi, tn, tp, ss, sz, cl)) {s : Int} (h_s : ib s) {i : Int} (h_i : ib i) {o : Int} (h_o : ib o) {j : Int} (h_j : ib j) {n : Int} (h_n : ib n) : Con GX 9 kX5_copy [rv 0, iv s, iv i, iv o, iv j, iv n] M (pI (fun a M2 => a = a_copy (nT, X, τ, img, τi, tn, tp, ss, sz, cl) s i o j n ∧ RX M2 (t_copy (nT, X, τ, img, τi, tn, tp, ss, sz, cl) s i o j n))) := by
  refine con_of [some (rv 0), some (iv s), some (iv i), some (iv o), some (iv j), some (iv n), none, none] (plX5) rfl (Nat.le_of_ble_eq_true rfl) (fun z => ?_)
  have hR0 := hR
  obtain ⟨hτ, hX, hnT, himg, hτi, ⟨htn, htp⟩, hsh⟩ := hR0
  obtain ⟨⟨iT1, iT6⟩, ⟨hw, icl⟩, iim, ⟨itn, itp⟩, ish⟩ := hI
  obtain ⟨⟨wn, wn2⟩, wcl, ⟨wl, wl2⟩, -, -⟩ := id hw
  have hcl : τ 8 1 < 2147483648 := by omega
  refine r_mb (fun hMB => ?_)
  refine r_iload_1 dX5_copy_0 ?_
  refine r_cSI1 dX5_copy_1 sX5_218 (x_isSheet (d := 0) (by omega)) (by decide) (Nat.le_of_ble_eq_true rfl) (fun b_1 M_1 h_1 => ?_)
  obtain ⟨rfl, rfl⟩ := h_1
  first | refine r_ifd_eq dX5_copy_4 (fun c_4 => ?_) (fun c_4 => ?_) | refine r_ifb_eq dX5_copy_4 (fun c_4 => ?_) (fun c_4 => ?_)
  · skip
    refine r_bipush dX5_copy_14 (by decide) ?_
    refine r_ireturn dX5_copy_16 rfl ?_
    refine ⟨_, rfl, ?_, ?_⟩
    · unfold a_copy
      simp only [Int.toNat_natCast]
      (repeat' split) <;> first | with_reducible rfl | omega
    · unfold t_copy
      simp only [Int.toNat_natCast]
      (repeat' split) <;> first | exact hR | exact R0 | (exfalso; omega)
  · skip
    obtain ⟨e, rfl⟩ : ∃ e : Nat, s = e := ⟨s.toNat, by omega⟩
    have he4 : e < 4 := by omega
    have hs := hsh e he4
    have is := ish e he4
    refine r_iload_3 dX5_copy_7 ?_
    refine r_cSI1 dX5_copy_8 sX5_218 (x_isSheet (d := 0) (by omega)) (by decide) (Nat.le_of_ble_eq_true rfl) (fun b_8 M_8 h_8 => ?_)
    obtain ⟨rfl, rfl⟩ := h_8
    first | refine r_ifd_ne dX5_copy_11 (fun c_11 => ?_) (fun c_11 => ?_) | refine r_ifb_ne dX5_copy_11 (fun c_11 => ?_) (fun c_11 => ?_)
    · skip
      obtain ⟨g, rfl⟩ : ∃ g : Nat, o = g := ⟨o.toNat, by omega⟩
      have hg4 : g < 4 := by omega
      have hs2 := hsh g hg4
      have is2 := ish g hg4
      refine r_aload_0 dX5_copy_17 (r_getR dX5_copy_18 fX5_17 (rfl) (rfl) (r_iload_1 dX5_copy_21 ?_))
      refine r_aaload dX5_copy_22 (rfl) (by decide) (by omega) (rsS he4) ?_
      refine r_astore_6 dX5_copy_23 rfl (r_aload_0 dX5_copy_25 (r_getR dX5_copy_26 fX5_17 (rfl) (rfl) (r_iload_3 dX5_copy_29 ?_)))
      refine r_aaload dX5_copy_30 (rfl) (by decide) (by omega) (rsS hg4) ?_
      refine r_astore_7 dX5_copy_31 rfl (r_aload_6 dX5_copy_33 (r_getE dX5_copy_35 fX5_227 (gS0 he4) (rfl) (hs.1) (r_iconst dX5_copy_38 ?_)))
      refine r_icmp_eq dX5_copy_39 (by omega) (by omega) (fun c_39 => ?_) (fun c_39 => ?_)
      · skip
        refine r_bipush dX5_copy_51 (by decide) ?_
        refine r_ireturn dX5_copy_53 rfl ?_
        refine ⟨_, rfl, ?_, ?_⟩
        · unfold a_copy
          simp only [Int.toNat_natCast]
          (repeat' split) <;> first | with_reducible rfl | omega
        · unfold t_copy
          simp only [Int.toNat_natCast]
          (repeat' split) <;> first | exact hR | exact R0 | (exfalso; omega)
      · skip
        refine r_aload_7 dX5_copy_42 (r_getE dX5_copy_44 fX5_227 (gS0 hg4) (rfl) (hs2.1) (r_iconst dX5_copy_47 ?_))
        refine r_icmp_ne dX5_copy_48 (by omega) (by omega) (fun c_48 => ?_) (fun c_48 => ?_)
        · skip
          refine r_aload_6 dX5_copy_54 (r_getE dX5_copy_56 fX5_227 (gS0 he4) (rfl) (hs.1) (r_aload_7 dX5_copy_59 (r_getE dX5_copy_61 fX5_227 (gS0 hg4) (rfl) (hs2.1) ?_)))
          refine r_icmp_eq dX5_copy_64 (by omega) (by omega) (fun c_64 => ?_) (fun c_64 => ?_)
          · skip
            refine r_aload_6 dX5_copy_70 (r_iload_2 dX5_copy_72 (r_iload_5 dX5_copy_73 ?_))
            refine r_cVI2 dX5_copy_75 vX5_253 (gS0 he4) (x_hasRow (n := 0) he4 hs.2.1 (by omega) (by omega) (by omega)) (by decide) (Nat.le_of_ble_eq_true rfl) (fun b_75 M_75 h_75 => ?_)
            obtain ⟨rfl, rfl⟩ := h_75
            first | refine r_ifd_eq dX5_copy_78 (fun c_78 => ?_) (fun c_78 => ?_) | refine r_ifb_eq dX5_copy_78 (fun c_78 => ?_) (fun c_78 => ?_)
            · skip
              refine r_bipush dX5_copy_93 (by decide) ?_
              refine r_ireturn dX5_copy_95 rfl ?_
              refine ⟨_, rfl, ?_, ?_⟩
              · unfold a_copy
                simp only [Int.toNat_natCast]
                (repeat' split) <;> first | with_reducible rfl | omega
              · unfold t_copy
                simp only [Int.toNat_natCast]
                (repeat' split) <;> first | exact hR | exact R0 | (exfalso; omega)
            · skip
              refine r_aload_7 dX5_copy_81 (r_iload_4 dX5_copy_83 (r_iload_5 dX5_copy_85 ?_))
              refine r_cVI2 dX5_copy_87 vX5_253 (gS0 hg4) (x_hasRow (n := 0) hg4 hs2.2.1 (by omega) (by omega) (by omega)) (by decide) (Nat.le_of_ble_eq_true rfl) (fun b_87 M_87 h_87 => ?_)
              obtain ⟨rfl, rfl⟩ := h_87
              first | refine r_ifd_ne dX5_copy_90 (fun c_90 => ?_) (fun c_90 => ?_) | refine r_ifb_ne dX5_copy_90 (fun c_90 => ?_) (fun c_90 => ?_)
              · skip
                refine r_aload_6 dX5_copy_96 (r_getR dX5_copy_98 fX5_231 (gS0 he4) (rfl) (r_iload_2 dX5_copy_101 (r_aload_7 dX5_copy_102 (r_getR dX5_copy_104 fX5_231 (gS0 hg4) (rfl) (r_iload_4 dX5_copy_107 (r_iload_5 dX5_copy_109 ?_))))))
                refine r_acopy dX5_copy_111 caX5_256 (gS1 he4) (gS1 hg4) (by omega) (by omega) (by omega) (by omega) (by omega) (by decide) (by decide) (Nat.le_of_ble_eq_true rfl) ?_
                have R0 := hR.copied (s := e) (i := i.toNat) (o := g) (j := j.toNat) (n := n.toNat) he4 hg4 (by omega)
                refine r_iload_5 dX5_copy_114 ?_
                refine r_ireturn dX5_copy_116 rfl ?_
                refine ⟨_, rfl, ?_, ?_⟩
                · unfold a_copy
                  simp only [Int.toNat_natCast]
                  (repeat' split) <;> first | with_reducible rfl | omega
                · unfold t_copy
                  simp only [Int.toNat_natCast]
                  (repeat' split) <;> first | exact hR | exact R0 | (exfalso; omega)
              · skip
                refine r_bipush dX5_copy_93 (by decide) ?_
                refine r_ireturn dX5_copy_95 rfl ?_
                refine ⟨_, rfl, ?_, ?_⟩
                · unfold a_copy
                  simp only [Int.toNat_natCast]
                  (repeat' split) <;> first | with_reducible rfl | omega
                · unfold t_copy
                  simp only [Int.toNat_natCast]
                  (repeat' split) <;> first | exact hR | exact R0 | (exfalso; omega)
          · skip
            refine r_bipush dX5_copy_67 (by decide) ?_
            refine r_ireturn dX5_copy_69 rfl ?_
            refine ⟨_, rfl, ?_, ?_⟩
            · unfold a_copy
              simp only [Int.toNat_natCast]
              (repeat' split) <;> first | with_reducible rfl | omega
            · unfold t_copy
              simp only [Int.toNat_natCast]
              (repeat' split) <;> first | exact hR | exact R0 | (exfalso; omega)
        · skip
          refine r_bipush dX5_copy_51 (by decide) ?_
          refine r_ireturn dX5_copy_53 rfl ?_
          refine ⟨_, rfl, ?_, ?_⟩
          · unfold a_copy
            simp only [Int.toNat_natCast]
            (repeat' split) <;> first | with_reducible rfl | omega
          · unfold t_copy
            simp only [Int.toNat_natCast]
            (repeat' split) <;> first | exact hR | exact R0 | (exfalso; omega)
    · skip
      refine r_bipush dX5_copy_14 (by decide) ?_
      refine r_ireturn dX5_copy_16 rfl ?_
      refine ⟨_, rfl, ?_, ?_⟩
      · unfold a_copy
        simp only [Int.toNat_natCast]
        (repeat' split) <;> first | with_reducible rfl | omega
      · unfold t_copy
        simp only [Int.toNat_natCast]
        (repeat' split) <;> first | exact hR | exact R0 | (exfalso; omega)
set_option maxRecDepth 10000 in
set_option maxHeartbeats 4000000 in
theorem x5_peopleBy {M : Mem} {nT tn : Nat} {X : Nat → Tx} {τ τi : Tn} {img : Bool} {tp ss sz : Nat → Int} {cl : Nat → Nat → Int} (hR : RX M (nT, X, τ, img, τi, tn, tp, ss, sz, cl)) (hI : INV (nT, X, τ, img, τi, tn, tp, ss, sz, cl)) {s : Int} (h_s : ib s) {k : Int} (h_k : ib k) {f : Int} (h_f : ib f) {n : Int} (h_n : ib n) : Con GX 9 kX5_peopleBy [rv 0, iv s, iv k, iv f, iv n] M (pI (fun a M2 => a = a_peopleBy (nT, X, τ, img, τi, tn, tp, ss, sz, cl) s k f n ∧ RX M2 (t_peopleBy (nT, X, τ, img, τi, tn, tp, ss, sz, cl) s k f n))) := by
  refine con_of [some (rv 0), some (iv s), some (iv k), some (iv f), some (iv n), none, none, none, none] (plX5) rfl (Nat.le_of_ble_eq_true rfl) (fun z => ?_)
  have hR0 := hR
  obtain ⟨hτ, hX, hnT, himg, hτi, ⟨htn, htp⟩, hsh⟩ := hR0
  obtain ⟨⟨iT1, iT6⟩, ⟨hw, icl⟩, iim, ⟨itn, itp⟩, ish⟩ := hI
  obtain ⟨⟨wn, wn2⟩, wcl, ⟨wl, wl2⟩, -, -⟩ := id hw
  have hcl : τ 8 1 < 2147483648 := by omega
  refine r_mb (fun hMB => ?_)
  refine r_iload_1 dX5_peopleBy_0 ?_
  refine r_cSI1 dX5_peopleBy_1 sX5_218 (x_isSheet (d := 0) (by omega)) (by decide) (Nat.le_of_ble_eq_true rfl) (fun b_1 M_1 h_1 => ?_)
  obtain ⟨rfl, rfl⟩ := h_1
  first | refine r_ifd_eq dX5_peopleBy_4 (fun c_4 => ?_) (fun c_4 => ?_) | refine r_ifb_eq dX5_peopleBy_4 (fun c_4 => ?_) (fun c_4 => ?_)
  · skip
    refine r_bipush dX5_peopleBy_27 (by decide) ?_
    refine r_ireturn dX5_peopleBy_29 rfl ?_
    refine ⟨_, rfl, ?_, ?_⟩
    · unfold a_peopleBy
      simp only [Int.toNat_natCast]
      (repeat' split) <;> first | with_reducible rfl | omega
    · unfold t_peopleBy
      simp only [Int.toNat_natCast]
      (repeat' split) <;> first | exact hR | (exfalso; omega)
  · skip
    obtain ⟨e, rfl⟩ : ∃ e : Nat, s = e := ⟨s.toNat, by omega⟩
    have he4 : e < 4 := by omega
    have hs := hsh e he4
    have is := ish e he4
    refine r_iload_2 dX5_peopleBy_7 (r_iconst dX5_peopleBy_8 (r_iconst dX5_peopleBy_9 ?_))
    refine r_cSI3 dX5_peopleBy_10 sX5_88 (x_within (d := 0) (by omega) (by omega) (by omega)) (by decide) (Nat.le_of_ble_eq_true rfl) (fun b_10 M_10 h_10 => ?_)
    obtain ⟨rfl, rfl⟩ := h_10
    first | refine r_ifd_eq dX5_peopleBy_13 (fun c_13 => ?_) (fun c_13 => ?_) | refine r_ifb_eq dX5_peopleBy_13 (fun c_13 => ?_) (fun c_13 => ?_)
    · skip
      refine r_bipush dX5_peopleBy_27 (by decide) ?_
      refine r_ireturn dX5_peopleBy_29 rfl ?_
      refine ⟨_, rfl, ?_, ?_⟩
      · unfold a_peopleBy
        simp only [Int.toNat_natCast]
        (repeat' split) <;> first | with_reducible rfl | omega
      · unfold t_peopleBy
        simp only [Int.toNat_natCast]
        (repeat' split) <;> first | exact hR | (exfalso; omega)
    · skip
      refine r_iload_4 dX5_peopleBy_16 (r_iconst dX5_peopleBy_18 (r_bipush dX5_peopleBy_19 (by decide) ?_))
      refine r_cSI3 dX5_peopleBy_21 sX5_88 (x_within (d := 0) (by omega) (by omega) (by omega)) (by decide) (Nat.le_of_ble_eq_true rfl) (fun b_21 M_21 h_21 => ?_)
      obtain ⟨rfl, rfl⟩ := h_21
      first | refine r_ifd_ne dX5_peopleBy_24 (fun c_24 => ?_) (fun c_24 => ?_) | refine r_ifb_ne dX5_peopleBy_24 (fun c_24 => ?_) (fun c_24 => ?_)
      · skip
        obtain ⟨m, rfl⟩ : ∃ m : Nat, n = m := ⟨n.toNat, by omega⟩
        refine r_aload_0 dX5_peopleBy_30 (r_getR dX5_peopleBy_31 fX5_17 (rfl) (rfl) (r_iload_1 dX5_peopleBy_34 ?_))
        refine r_aaload dX5_peopleBy_35 (rfl) (by decide) (by omega) (rsS he4) ?_
        refine r_astore_5 dX5_peopleBy_36 rfl (r_aload_5 dX5_peopleBy_38 (r_getE dX5_peopleBy_40 fX5_227 (gS0 he4) (rfl) (hs.1) (r_iconst dX5_peopleBy_43 ?_)))
        refine r_icmp_ne dX5_peopleBy_44 (by omega) (by omega) (fun c_44 => ?_) (fun c_44 => ?_)
        · skip
          refine r_aload_5 dX5_peopleBy_50 (r_getE dX5_peopleBy_52 fX5_227 (gS0 he4) (rfl) (hs.1) (r_iload_2 dX5_peopleBy_55 ?_))
          refine r_icmp_eq dX5_peopleBy_56 (by omega) (by omega) (fun c_56 => ?_) (fun c_56 => ?_)
          · skip
            refine r_iconst dX5_peopleBy_62 (r_istore_6 dX5_peopleBy_63 rfl (r_iconst dX5_peopleBy_65 (r_istore_7 dX5_peopleBy_66 rfl ?_)))
            have lp_68 : ∀ (NN : Nat) (r i : Nat) (c : Int) (T : Tn) (u8 : Option PV) (Mv : Mem) (hi : i + r = m) (hc : 0 ≤ c ∧ c ≤ i) (hf : 0 < i → 0 ≤ f) (wT : WF nT T) (Rv : RX Mv (nT, X, T, img, τi, tn, tp, ss, sz, cl)) (hs_ : pB (cl e) (sz e) f r i c T = pB (cl e) (sz e) f m 0 0 τ), r < NN → WP kX5_peopleBy GX 9 (pI (fun a M2 => a = a_peopleBy (nT, X, τ, img, τi, tn, tp, ss, sz, cl) (e : Int) k f (m : Int) ∧ RX M2 (t_peopleBy (nT, X, τ, img, τi, tn, tp, ss, sz, cl) (e : Int) k f (m : Int)))) z 68 [some (rv 0), some (iv (e : Int)), some (iv k), some (iv f), some (iv (m : Int)), some (rv (60 + 2 * e)), some (iv c), some (iv (i : Int)), u8] [] Mv := by
              intro NN
              induction NN with
              | zero => intros; omega
              | succ NN ih =>
                intro r i c T u8 Mv hi hc hf wT Rv hs_ hm
                have hsv := Rv.2.2.2.2.2.2 e he4
                refine r_iload_7 dX5_peopleBy_68 ?_
                refine r_iload_4 dX5_peopleBy_70 ?_
                refine r_icmp_ge dX5_peopleBy_72 (by omega) (by omega) (fun c_72 => ?_) (fun c_72 => ?_)
                · skip
                  obtain rfl : r = 0 := by omega
                  refine r_iload_6 dX5_peopleBy_134 ?_
                  refine r_ireturn dX5_peopleBy_136 rfl ?_
                  refine ⟨_, rfl, ?_, ?_⟩
                  · unfold a_peopleBy
                    simp only [Int.toNat_natCast]
                    rw [if_neg (by omega), if_neg (by omega), if_neg (by omega), ← hs_]
                    rfl
                  · unfold t_peopleBy
                    simp only [Int.toNat_natCast]
                    rw [if_neg (by omega), ← hs_]
                    exact Rv
                · skip
                  obtain ⟨r, rfl⟩ : ∃ k, r = k + 1 := ⟨r - 1, by omega⟩
                  simp only [pB] at hs_
                  refine r_iload_3 dX5_peopleBy_75 (r_iconst dX5_peopleBy_76 (r_iload_7 dX5_peopleBy_77 (r_imul dX5_peopleBy_79 (r_iadd dX5_peopleBy_80 ?_))))
                  refine r_as (w32_i3 _) ?_
                  have hwb := w32_ib (f + 2 * (i : Int))
                  have hws := w32_sm (a := f + 2 * (i : Int)) (by omega)
                  obtain ⟨y, hy⟩ : ∃ y, w32 (f + 2 * (i : Int)) = y := ⟨_, rfl⟩
                  rw [hy] at hwb hws ⊢
                  refine r_istore_8 dX5_peopleBy_81 rfl (r_aload_5 dX5_peopleBy_83 (r_iload_8 dX5_peopleBy_85 (r_iconst dX5_peopleBy_87 ?_)))
                  refine r_cVI2 dX5_peopleBy_88 vX5_253 (gS0 he4) (x_hasRow (n := 0) he4 hsv.2.1 (by omega) (by omega) (by omega)) (by decide) (Nat.le_of_ble_eq_true rfl) (fun b_88 M_88 h_88 => ?_)
                  obtain ⟨rfl, rfl⟩ := h_88
                  first | refine r_ifd_ne dX5_peopleBy_91 (fun c_91 => ?_) (fun c_91 => ?_) | refine r_ifb_ne dX5_peopleBy_91 (fun c_91 => ?_) (fun c_91 => ?_)
                  · skip
                    obtain ⟨z2, rfl⟩ : ∃ z2 : Nat, y = z2 := ⟨y.toNat, by omega⟩
                    rw [if_pos (by omega), show (f + 2 * (i : Int)).toNat = z2 by omega] at hs_
                    have hb1 := is.2.2.2 z2 (by omega)
                    have hb2 := is.2.2.2 (z2 + 1) (by omega)
                    have hA := sComeA_in (km := cl e z2) (de := cl e (z2 + 1)) wT
                    refine r_aload_0 dX5_peopleBy_97 (r_getR dX5_peopleBy_98 fX5_42 (rfl) (rfl) (r_aload_5 dX5_peopleBy_101 (r_getR dX5_peopleBy_103 fX5_231 (gS0 he4) (rfl) (r_iload_8 dX5_peopleBy_106 (r_ialN dX5_peopleBy_108 (gS1 he4) (by omega) (by omega) (hsv.2.2 z2 (by omega)) (r_aload_5 dX5_peopleBy_109 (r_getR dX5_peopleBy_111 fX5_231 (gS0 he4) (rfl) (r_iload_8 dX5_peopleBy_114 (r_iconst dX5_peopleBy_116 (r_iadd dX5_peopleBy_117 (r_ialE (v := cl e (z2 + 1)) dX5_peopleBy_118 (gS1 he4) (by omega) (by omega) (by rw [show ((z2 : Int) + 1).toNat = z2 + 1 by omega]; exact hsv.2.2 (z2 + 1) (by omega)) ?_)))))))))))
                    refine r_cVI2 dX5_peopleBy_119 vX5_134 (rfl) (x_welcome tb6 Rv.1 wT hb1 hb2) (by decide) (Nat.le_of_ble_eq_true rfl) (fun b_119 M_119 h_119 => ?_)
                    obtain ⟨rfl, w1, f1⟩ := h_119
                    have R1 := Rv.now f1 w1
                    refine r_if_lt dX5_peopleBy_122 (by omega) (fun c_122 => ?_) (fun c_122 => ?_)
                    · skip
                      refine r_iinc_7 dX5_peopleBy_128 rfl (r_goto dX5_peopleBy_131 ?_)
                      exact ih r (i + 1) c _ _ _ (by omega) (by omega) (by omega) (sComeT_wf wT) R1 (by rw [← hs_, if_neg (by omega)]) (by omega)
                    · skip
                      refine r_iinc_6 dX5_peopleBy_125 rfl (r_iinc_7 dX5_peopleBy_128 rfl (r_goto dX5_peopleBy_131 ?_))
                      exact ih r (i + 1) (c + 1) _ _ _ (by omega) (by omega) (by omega) (sComeT_wf wT) R1 (by rw [← hs_, if_pos (by omega)]) (by omega)
                  · skip
                    rw [if_neg (by omega)] at hs_
                    refine r_bipush dX5_peopleBy_94 (by decide) ?_
                    refine r_ireturn dX5_peopleBy_96 rfl ?_
                    refine ⟨_, rfl, ?_, ?_⟩
                    · unfold a_peopleBy
                      simp only [Int.toNat_natCast]
                      rw [if_neg (by omega), if_neg (by omega), if_neg (by omega), ← hs_]
                    · unfold t_peopleBy
                      simp only [Int.toNat_natCast]
                      rw [if_neg (by omega), ← hs_]
                      exact Rv
            exact lp_68 _ m 0 0 τ none M (by omega) (by omega) (by omega) hw hR rfl (Nat.lt_succ_self _)
          · skip
            refine r_bipush dX5_peopleBy_59 (by decide) ?_
            refine r_ireturn dX5_peopleBy_61 rfl ?_
            refine ⟨_, rfl, ?_, ?_⟩
            · unfold a_peopleBy
              simp only [Int.toNat_natCast]
              (repeat' split) <;> first | with_reducible rfl | omega
            · unfold t_peopleBy
              simp only [Int.toNat_natCast]
              (repeat' split) <;> first | exact hR | (exfalso; omega)
        · skip
          refine r_bipush dX5_peopleBy_47 (by decide) ?_
          refine r_ireturn dX5_peopleBy_49 rfl ?_
          refine ⟨_, rfl, ?_, ?_⟩
          · unfold a_peopleBy
            simp only [Int.toNat_natCast]
            (repeat' split) <;> first | with_reducible rfl | omega
          · unfold t_peopleBy
            simp only [Int.toNat_natCast]
            (repeat' split) <;> first | exact hR | (exfalso; omega)
      · skip
        refine r_bipush dX5_peopleBy_27 (by decide) ?_
        refine r_ireturn dX5_peopleBy_29 rfl ?_
        refine ⟨_, rfl, ?_, ?_⟩
        · unfold a_peopleBy
          simp only [Int.toNat_natCast]
          (repeat' split) <;> first | with_reducible rfl | omega
        · unfold t_peopleBy
          simp only [Int.toNat_natCast]
          (repeat' split) <;> first | exact hR | (exfalso; omega)
set_option maxRecDepth 10000 in
set_option maxHeartbeats 4000000 in
theorem x_tadd {n : Nat} {M : Mem} {t : Nat} {v : Int} (h : M 3 1 = (t : Int)) (ht : t < 160) (hv : ib v) : Con GX n kX2_add [rv 3, iv v] M (pV (fun M2 => M2 = upM (upM M 4 t v) 3 1 ((t : Int) + 1))) := by
  refine con_of [some (rv 3), some (iv v)] (plX2) rfl (Nat.le_of_ble_eq_true rfl) (fun z => ?_)
  refine r_aload_0 dX2_add_0 (r_getE dX2_add_1 fX2_15 (rfl) (rfl) (h) (r_aload_0 dX2_add_4 (r_getR dX2_add_5 fX2_9 (rfl) (rfl) ?_)))
  refine r_alen dX2_add_8 (rfl) ?_
  refine r_icmp_ge dX2_add_9 (by omega) (by omega) (fun c_9 => ?_) (fun c_9 => ?_)
  · exfalso; omega
  · skip
    refine r_aload_0 dX2_add_12 (r_getR dX2_add_13 fX2_9 (rfl) (rfl) (r_aload_0 dX2_add_16 (r_getE dX2_add_17 fX2_15 (rfl) (rfl) (h) (r_iload_1 dX2_add_20 ?_))))
    refine r_iasN dX2_add_21 (rfl) (by omega) (by omega) (by omega) ?_
    refine r_aload_0 dX2_add_22 (r_dup_r dX2_add_23 (r_getE (v := (t : Int)) dX2_add_24 fX2_15 (rfl) (rfl) (by rw [upM_ne (Or.inl (by decide))]; exact h) (r_iconst dX2_add_27 (r_iadd dX2_add_28 ?_))))
    refine r_put dX2_add_29 pX2_15 (rfl) (rfl) (by omega) ?_
    refine r_vreturn dX2_add_32 rfl ?_
    exact ⟨rfl, rfl⟩
set_option maxRecDepth 10000 in
set_option maxHeartbeats 4000000 in
theorem x5_feed {M : Mem} {nT tn : Nat} {X : Nat → Tx} {τ τi : Tn} {img : Bool} {tp ss sz : Nat → Int} {cl : Nat → Nat → Int} (hR : RX M (nT, X, τ, img, τi, tn, tp, ss, sz, cl)) (hI : INV (nT, X, τ, img, τi, tn, tp, ss, sz, cl)) {n : Int} (h_n : ib n) {y1 : Int} (h_y1 : ib y1) {y2 : Int} (h_y2 : ib y2) {y3 : Int} (h_y3 : ib y3) {y4 : Int} (h_y4 : ib y4) {y5 : Int} (h_y5 : ib y5) : Con GX 9 kX5_feed [rv 0, iv n, iv y1, iv y2, iv y3, iv y4, iv y5] M (pI (fun a M2 => a = a_feed (nT, X, τ, img, τi, tn, tp, ss, sz, cl) n y1 y2 y3 y4 y5 ∧ RX M2 (t_feed (nT, X, τ, img, τi, tn, tp, ss, sz, cl) n y1 y2 y3 y4 y5))) := by
  refine con_of [some (rv 0), some (iv n), some (iv y1), some (iv y2), some (iv y3), some (iv y4), some (iv y5), none, none] (plX5) rfl (Nat.le_of_ble_eq_true rfl) (fun z => ?_)
  have hR0 := hR
  obtain ⟨hτ, hX, hnT, himg, hτi, ⟨htn, htp⟩, hsh⟩ := hR0
  obtain ⟨⟨iT1, iT6⟩, ⟨hw, icl⟩, iim, ⟨itn, itp⟩, ish⟩ := hI
  obtain ⟨⟨wn, wn2⟩, wcl, ⟨wl, wl2⟩, -, -⟩ := id hw
  have hcl : τ 8 1 < 2147483648 := by omega
  refine r_mb (fun hMB => ?_)
  have jn_43 : WP kX5_feed GX 9 (pI (fun a M2 => a = a_feed (nT, X, τ, img, τi, tn, tp, ss, sz, cl) n y1 y2 y3 y4 y5 ∧ RX M2 (t_feed (nT, X, τ, img, τi, tn, tp, ss, sz, cl) n y1 y2 y3 y4 y5))) z 43 [some (rv 0), some (iv n), some (iv y1), some (iv y2), some (iv y3), some (iv y4), some (iv y5), none, none] [iv (bi (decide ((0 ≤ y1 ∧ y1 ≤ 255) ∧ (0 ≤ y2 ∧ y2 ≤ 255) ∧ (0 ≤ y3 ∧ y3 ≤ 255) ∧ (0 ≤ y4 ∧ y4 ≤ 255) ∧ (0 ≤ y5 ∧ y5 ≤ 255))))] M := by
    refine r_istore_7 dX5_feed_43 rfl ?_
    refine r_iload_1 dX5_feed_45 (r_iconst dX5_feed_46 (r_iconst dX5_feed_47 ?_))
    refine r_cSI3 dX5_feed_48 sX5_88 (x_within (d := 0) (by omega) (by omega) (by omega)) (by decide) (Nat.le_of_ble_eq_true rfl) (fun b_48 M_48 h_48 => ?_)
    obtain ⟨rfl, rfl⟩ := h_48
    first | refine r_ifd_eq dX5_feed_51 (fun c_51 => ?_) (fun c_51 => ?_) | refine r_ifb_eq dX5_feed_51 (fun c_51 => ?_) (fun c_51 => ?_)
    · skip
      refine r_bipush dX5_feed_59 (by decide) ?_
      refine r_ireturn dX5_feed_61 rfl ?_
      refine ⟨_, rfl, ?_, ?_⟩
      · unfold a_feed
        simp only [Int.toNat_natCast]
        (repeat' split) <;> first | with_reducible rfl | omega
      · unfold t_feed
        simp only [Int.toNat_natCast]
        (repeat' split) <;> first | exact hR | (exfalso; omega)
    · skip
      refine r_iload_7 dX5_feed_54 ?_
      refine r_ifd_ne dX5_feed_56 (fun c_56 => ?_) (fun c_56 => ?_)
      · skip
        refine r_aload_0 dX5_feed_62 (r_getR dX5_feed_63 fX5_24 (rfl) (rfl) (r_getE dX5_feed_66 fX5_85 (rfl) (rfl) (htn) (r_iload_1 dX5_feed_69 (r_iadd dX5_feed_70 (r_sipush dX5_feed_71 (by decide) ?_)))))
        refine r_icmp_le dX5_feed_74 (by omega) (by omega) (fun c_74 => ?_) (fun c_74 => ?_)
        · skip
          obtain ⟨m, rfl⟩ : ∃ m : Nat, n = m := ⟨n.toNat, by omega⟩
          refine r_iconst dX5_feed_80 (r_istore_8 dX5_feed_81 rfl ?_)
          have lp_83 : ∀ (NN : Nat) (i : Nat) (Mv : Mem) (hi : i ≤ m) (Rv : RX Mv (nT, X, τ, img, τi, tn + i, fdt tp tn y1 y2 y3 y4 y5 i, ss, sz, cl)), 100 - i < NN → WP kX5_feed GX 9 (pI (fun a M2 => a = a_feed (nT, X, τ, img, τi, tn, tp, ss, sz, cl) (m : Int) y1 y2 y3 y4 y5 ∧ RX M2 (t_feed (nT, X, τ, img, τi, tn, tp, ss, sz, cl) (m : Int) y1 y2 y3 y4 y5))) z 83 [some (rv 0), some (iv (m : Int)), some (iv y1), some (iv y2), some (iv y3), some (iv y4), some (iv y5), some (iv (bi (decide ((0 ≤ y1 ∧ y1 ≤ 255) ∧ (0 ≤ y2 ∧ y2 ≤ 255) ∧ (0 ≤ y3 ∧ y3 ≤ 255) ∧ (0 ≤ y4 ∧ y4 ≤ 255) ∧ (0 ≤ y5 ∧ y5 ≤ 255))))), some (iv (i : Int))] [] Mv := by
            intro NN
            induction NN with
            | zero => intros; omega
            | succ NN ih =>
              intro i Mv hi Rv hm
              refine r_iload_8 dX5_feed_83 ?_
              refine r_iload_1 dX5_feed_85 ?_
              refine r_icmp_ge dX5_feed_86 (by omega) (by omega) (fun c_86 => ?_) (fun c_86 => ?_)
              · skip
                obtain rfl : i = m := by omega
                refine r_aload_0 dX5_feed_145 (r_getR dX5_feed_146 fX5_24 (rfl) (rfl) (r_getE dX5_feed_149 fX5_85 (rfl) (rfl) (Rv.2.2.2.2.2.1.1) ?_))
                refine r_ireturn dX5_feed_152 rfl ?_
                refine ⟨_, rfl, ?_, ?_⟩
                · unfold a_feed
                  simp only []
                  rw [if_neg (by omega), if_neg (by omega)]
                  omega
                · unfold t_feed
                  simp only [Int.toNat_natCast]
                  rw [if_neg (by omega)]
                  exact Rv
              · skip
                refine r_aload_0 dX5_feed_89 (r_getR dX5_feed_90 fX5_24 (rfl) (rfl) ?_)
                have jn_136 : ∀ (v : Int) (hv : v = fdb y1 y2 y3 y4 y5 i), WP kX5_feed GX 9 (pI (fun a M2 => a = a_feed (nT, X, τ, img, τi, tn, tp, ss, sz, cl) (m : Int) y1 y2 y3 y4 y5 ∧ RX M2 (t_feed (nT, X, τ, img, τi, tn, tp, ss, sz, cl) (m : Int) y1 y2 y3 y4 y5))) z 136 [some (rv 0), some (iv (m : Int)), some (iv y1), some (iv y2), some (iv y3), some (iv y4), some (iv y5), some (iv (bi (decide ((0 ≤ y1 ∧ y1 ≤ 255) ∧ (0 ≤ y2 ∧ y2 ≤ 255) ∧ (0 ≤ y3 ∧ y3 ≤ 255) ∧ (0 ≤ y4 ∧ y4 ≤ 255) ∧ (0 ≤ y5 ∧ y5 ≤ 255))))), some (iv (i : Int))] [iv v, rv 3] Mv := by
                  intro v hv
                  have hvb : 0 ≤ v ∧ v ≤ 255 := by rw [hv]; exact fdb_in (n := (m : Int)) ⟨by omega, by omega, by omega, by omega, by omega, by omega⟩ i
                  refine r_cVV1 dX5_feed_136 vX5_122 (rfl) (x_tadd (n := 0) Rv.2.2.2.2.2.1.1 (by omega) (by omega)) (by decide) (Nat.le_of_ble_eq_true rfl) (fun M_136 h_136 => ?_)
                  have R1 := Rv.add (v := v)
                  rw [hv, fdt_up] at R1
                  rw [hv] at h_136
                  rw [← h_136] at R1
                  refine r_iinc_8 dX5_feed_139 rfl (r_goto dX5_feed_142 ?_)
                  exact ih (i + 1) M_136 (by omega) R1 (by omega)
                refine r_iload_8 dX5_feed_93 ?_
                refine r_if_ne dX5_feed_95 (by omega) (fun c_95 => ?_) (fun c_95 => ?_)
                · skip
                  refine r_iload_8 dX5_feed_102 (r_iconst dX5_feed_104 ?_)
                  refine r_icmp_ne dX5_feed_105 (by omega) (by omega) (fun c_105 => ?_) (fun c_105 => ?_)
                  · skip
                    refine r_iload_8 dX5_feed_112 (r_iconst dX5_feed_114 ?_)
                    refine r_icmp_ne dX5_feed_115 (by omega) (by omega) (fun c_115 => ?_) (fun c_115 => ?_)
                    · skip
                      refine r_iload_8 dX5_feed_123 (r_iconst dX5_feed_125 ?_)
                      refine r_icmp_ne dX5_feed_126 (by omega) (by omega) (fun c_126 => ?_) (fun c_126 => ?_)
                      · skip
                        refine r_iload_6 dX5_feed_134 ?_
                        exact jn_136 _ (by unfold fdb; (repeat' split) <;> omega)
                      · skip
                        refine r_iload_5 dX5_feed_129 (r_goto dX5_feed_131 ?_)
                        exact jn_136 _ (by unfold fdb; (repeat' split) <;> omega)
                    · skip
                      refine r_iload_4 dX5_feed_118 (r_goto dX5_feed_120 ?_)
                      exact jn_136 _ (by unfold fdb; (repeat' split) <;> omega)
                  · skip
                    refine r_iload_3 dX5_feed_108 (r_goto dX5_feed_109 ?_)
                    exact jn_136 _ (by unfold fdb; (repeat' split) <;> omega)
                · skip
                  refine r_iload_2 dX5_feed_98 (r_goto dX5_feed_99 ?_)
                  exact jn_136 _ (by unfold fdb; (repeat' split) <;> omega)
          exact lp_83 _ 0 M (by omega) (by rw [fdt_0]; exact hR) (Nat.lt_succ_self _)
        · skip
          refine r_bipush dX5_feed_77 (by decide) ?_
          refine r_ireturn dX5_feed_79 rfl ?_
          refine ⟨_, rfl, ?_, ?_⟩
          · unfold a_feed
            simp only [Int.toNat_natCast]
            (repeat' split) <;> first | with_reducible rfl | omega
          · unfold t_feed
            simp only [Int.toNat_natCast]
            (repeat' split) <;> first | exact hR | (exfalso; omega)
      · skip
        refine r_bipush dX5_feed_59 (by decide) ?_
        refine r_ireturn dX5_feed_61 rfl ?_
        refine ⟨_, rfl, ?_, ?_⟩
        · unfold a_feed
          simp only [Int.toNat_natCast]
          (repeat' split) <;> first | with_reducible rfl | omega
        · unfold t_feed
          simp only [Int.toNat_natCast]
          (repeat' split) <;> first | exact hR | (exfalso; omega)
  refine r_iload_2 dX5_feed_0 ?_
  refine r_cSI1 dX5_feed_1 sX5_119 (x_isByte (d := 0) (by omega)) (by decide) (Nat.le_of_ble_eq_true rfl) (fun b_1 M_1 h_1 => ?_)
  obtain ⟨rfl, rfl⟩ := h_1
  first | refine r_ifd_eq dX5_feed_4 (fun c_4 => ?_) (fun c_4 => ?_) | refine r_ifb_eq dX5_feed_4 (fun c_4 => ?_) (fun c_4 => ?_)
  · skip
    refine r_iconst dX5_feed_42 ?_
    rw [show bi (decide ((0 ≤ y1 ∧ y1 ≤ 255) ∧ (0 ≤ y2 ∧ y2 ≤ 255) ∧ (0 ≤ y3 ∧ y3 ≤ 255) ∧ (0 ≤ y4 ∧ y4 ≤ 255) ∧ (0 ≤ y5 ∧ y5 ≤ 255))) = 0 from (bi_f (by omega)).symm] at jn_43
    exact jn_43
  · skip
    refine r_iload_3 dX5_feed_7 ?_
    refine r_cSI1 dX5_feed_8 sX5_119 (x_isByte (d := 0) (by omega)) (by decide) (Nat.le_of_ble_eq_true rfl) (fun b_8 M_8 h_8 => ?_)
    obtain ⟨rfl, rfl⟩ := h_8
    first | refine r_ifd_eq dX5_feed_11 (fun c_11 => ?_) (fun c_11 => ?_) | refine r_ifb_eq dX5_feed_11 (fun c_11 => ?_) (fun c_11 => ?_)
    · skip
      refine r_iconst dX5_feed_42 ?_
      rw [show bi (decide ((0 ≤ y1 ∧ y1 ≤ 255) ∧ (0 ≤ y2 ∧ y2 ≤ 255) ∧ (0 ≤ y3 ∧ y3 ≤ 255) ∧ (0 ≤ y4 ∧ y4 ≤ 255) ∧ (0 ≤ y5 ∧ y5 ≤ 255))) = 0 from (bi_f (by omega)).symm] at jn_43
      exact jn_43
    · skip
      refine r_iload_4 dX5_feed_14 ?_
      refine r_cSI1 dX5_feed_16 sX5_119 (x_isByte (d := 0) (by omega)) (by decide) (Nat.le_of_ble_eq_true rfl) (fun b_16 M_16 h_16 => ?_)
      obtain ⟨rfl, rfl⟩ := h_16
      first | refine r_ifd_eq dX5_feed_19 (fun c_19 => ?_) (fun c_19 => ?_) | refine r_ifb_eq dX5_feed_19 (fun c_19 => ?_) (fun c_19 => ?_)
      · skip
        refine r_iconst dX5_feed_42 ?_
        rw [show bi (decide ((0 ≤ y1 ∧ y1 ≤ 255) ∧ (0 ≤ y2 ∧ y2 ≤ 255) ∧ (0 ≤ y3 ∧ y3 ≤ 255) ∧ (0 ≤ y4 ∧ y4 ≤ 255) ∧ (0 ≤ y5 ∧ y5 ≤ 255))) = 0 from (bi_f (by omega)).symm] at jn_43
        exact jn_43
      · skip
        refine r_iload_5 dX5_feed_22 ?_
        refine r_cSI1 dX5_feed_24 sX5_119 (x_isByte (d := 0) (by omega)) (by decide) (Nat.le_of_ble_eq_true rfl) (fun b_24 M_24 h_24 => ?_)
        obtain ⟨rfl, rfl⟩ := h_24
        first | refine r_ifd_eq dX5_feed_27 (fun c_27 => ?_) (fun c_27 => ?_) | refine r_ifb_eq dX5_feed_27 (fun c_27 => ?_) (fun c_27 => ?_)
        · skip
          refine r_iconst dX5_feed_42 ?_
          rw [show bi (decide ((0 ≤ y1 ∧ y1 ≤ 255) ∧ (0 ≤ y2 ∧ y2 ≤ 255) ∧ (0 ≤ y3 ∧ y3 ≤ 255) ∧ (0 ≤ y4 ∧ y4 ≤ 255) ∧ (0 ≤ y5 ∧ y5 ≤ 255))) = 0 from (bi_f (by omega)).symm] at jn_43
          exact jn_43
        · skip
          refine r_iload_6 dX5_feed_30 ?_
          refine r_cSI1 dX5_feed_32 sX5_119 (x_isByte (d := 0) (by omega)) (by decide) (Nat.le_of_ble_eq_true rfl) (fun b_32 M_32 h_32 => ?_)
          obtain ⟨rfl, rfl⟩ := h_32
          first | refine r_ifd_eq dX5_feed_35 (fun c_35 => ?_) (fun c_35 => ?_) | refine r_ifb_eq dX5_feed_35 (fun c_35 => ?_) (fun c_35 => ?_)
          · skip
            refine r_iconst dX5_feed_42 ?_
            rw [show bi (decide ((0 ≤ y1 ∧ y1 ≤ 255) ∧ (0 ≤ y2 ∧ y2 ≤ 255) ∧ (0 ≤ y3 ∧ y3 ≤ 255) ∧ (0 ≤ y4 ∧ y4 ≤ 255) ∧ (0 ≤ y5 ∧ y5 ≤ 255))) = 0 from (bi_f (by omega)).symm] at jn_43
            exact jn_43
          · skip
            refine r_iconst dX5_feed_38 (r_goto dX5_feed_39 ?_)
            rw [show bi (decide ((0 ≤ y1 ∧ y1 ≤ 255) ∧ (0 ≤ y2 ∧ y2 ≤ 255) ∧ (0 ≤ y3 ∧ y3 ≤ 255) ∧ (0 ≤ y4 ∧ y4 ≤ 255) ∧ (0 ≤ y5 ∧ y5 ≤ 255))) = 1 from (bi_t (by omega)).symm] at jn_43
            exact jn_43

set_option maxRecDepth 10000 in
set_option maxHeartbeats 4000000 in
theorem x5_doors {M : Mem} {nT tn : Nat} {X : Nat → Tx} {τ τi : Tn} {img : Bool} {tp ss sz : Nat → Int} {cl : Nat → Nat → Int} (hR : RX M (nT, X, τ, img, τi, tn, tp, ss, sz, cl)) (hI : INV (nT, X, τ, img, τi, tn, tp, ss, sz, cl)) {s : Int} (h_s : ib s) {p : Int} (h_p : ib p) : Con GX 9 kX5_doors [rv 0, iv s, iv p] M (pI (fun a M2 => a = a_doors (nT, X, τ, img, τi, tn, tp, ss, sz, cl) s p ∧ RX M2 (nT, X, τ, img, τi, tn, tp, ss, sz, cl))) := by
  refine con_of [some (rv 0), some (iv s), some (iv p), none, none, none] (plX5) rfl (Nat.le_of_ble_eq_true rfl) (fun z => ?_)
  have hR0 := hR
  obtain ⟨hτ, hX, hnT, himg, hτi, ⟨htn, htp⟩, hsh⟩ := hR0
  have hI0 := hI
  obtain ⟨⟨iT1, iT6⟩, ⟨hw, icl⟩, iim, ⟨itn, itp⟩, ish⟩ := hI
  obtain ⟨⟨wn, wn2⟩, wcl, ⟨wl, wl2⟩, -, -⟩ := id hw
  have hcl : τ 8 1 < 2147483648 := by omega
  refine r_mb (fun hMB => ?_)
  refine r_aload_0 dX5_doors_0 (r_iload_1 dX5_doors_1 (r_iload_2 dX5_doors_2 ?_))
  refine r_cVI2 dX5_doors_3 vX5_208 (rfl) (x_refT hR hI0 (by omega) (by omega)) (by decide) (Nat.le_of_ble_eq_true rfl) (fun b_3 M_3 h_3 => ?_)
  obtain ⟨rfl, rfl⟩ := h_3
  have rb := a_refT_in (nT, X, τ, img, τi, tn, tp, ss, sz, cl) s p
  refine r_istore_3 dX5_doors_6 rfl (r_iload_3 dX5_doors_7 ?_)
  refine r_if_eq dX5_doors_8 (by omega) (fun c_8 => ?_) (fun c_8 => ?_)
  · skip
    have hz0 : a_refT (nT, X, τ, img, τi, tn, tp, ss, sz, cl) s p = 0 := by omega
    obtain ⟨ha0, hpp⟩ := a_refT_0 hz0
    obtain ⟨hs4, hsn, hs20⟩ := a_ref_0 ha0
    obtain ⟨e, rfl⟩ : ∃ e : Nat, s = e := ⟨s.toNat, by omega⟩
    have he4 : e < 4 := by omega
    have hs := hsh e he4
    have is := ish e he4
    obtain ⟨q, rfl⟩ : ∃ q : Nat, p = q := ⟨p.toNat, by omega⟩
    have hq6 : q < 6 := by omega
    have wq := hw.p hq6
    have eq : ((q : Nat) : Int).toNat = q := Int.toNat_natCast q
    have hs20 : sz e ≤ 20 := hs20
    obtain ⟨n, hn⟩ : ∃ n : Nat, sz e = n := ⟨(sz e).toNat, by omega⟩
    have hnt : (sz e).toNat = n := by omega
    have he : ((e : Nat) : Int).toNat = e := Int.toNat_natCast e
    have hsz : ∀ Mv : Mem, Fr (scb 16) M Mv → Mv (60 + 2 * e) 2 = (n : Int) := fun Mv hF => (hF _ _ (scb_sh he4).1).trans (hs.2.1.trans hn)
    have hsc : ∀ Mv : Mem, Fr (scb 16) M Mv → ∀ i, i < n → Mv (60 + 2 * e + 1) i = cl e i := fun Mv hF i hi => (hF _ _ (scb_sh he4).2).trans (hs.2.2 i (by omega))
    refine r_iconst dX5_doors_13 (r_istore_4 dX5_doors_14 rfl (r_iconst dX5_doors_16 (r_istore_5 dX5_doors_17 rfl ?_)))
    have lp_19 : ∀ (NN : Nat) (i : Nat) (s_ : Int) (Mv : Mem) (hi : (i : Int) ≤ 8) (hs_ : s_ = bt (fun d => tB X (st τ 3 q d) (cl e) q n) i) (fv : Fr (scb 16) M Mv), 100 - i < NN → WP kX5_doors GX 9 (pI (fun a M2 => a = a_doors (nT, X, τ, img, τi, tn, tp, ss, sz, cl) (e : Int) (q : Int) ∧ RX M2 (nT, X, τ, img, τi, tn, tp, ss, sz, cl))) z 19 [some (rv 0), some (iv (e : Int)), some (iv (q : Int)), some (iv (a_refT (nT, X, τ, img, τi, tn, tp, ss, sz, cl) (e : Int) (q : Int))), some (iv s_), some (iv (i : Int))] [] Mv := by
      intro NN
      induction NN with
      | zero => intros; omega
      | succ NN ih =>
        intro i s_ Mv hi hs_ fv hm
        have Rv := hR.th fv
        have hτv := Rv.1
        have sbb := bt_b (fun d => tB X (st τ 3 q d) (cl e) q n) i
        refine r_iload_5 dX5_doors_19 ?_
        refine r_bipush dX5_doors_21 (by decide) ?_
        refine r_icmp_ge dX5_doors_23 (by omega) (by omega) (fun c_23 => ?_) (fun c_23 => ?_)
        · skip
          obtain rfl : i = 8 := by omega
          refine r_iload_4 dX5_doors_82 ?_
          refine r_ireturn dX5_doors_84 rfl ?_
          refine ⟨_, rfl, ?_, Rv⟩
          unfold a_doors
          simp only [Int.toNat_natCast]
          rw [if_neg (by omega), hnt]
          exact hs_
        · skip
          skip
          refine r_aload_0 dX5_doors_26 (r_getR dX5_doors_27 fX5_46 (rfl) (rfl) (r_aload_0 dX5_doors_30 (r_getR dX5_doors_31 fX5_42 (rfl) (rfl) ?_)))
          refine r_cVV1 dX5_doors_34 vX5_175 (rfl) (x_become tb16 tb6 (by decide) hτv) (by decide) (Nat.le_of_ble_eq_true rfl) (fun M_34 h_34 => ?_)
          obtain ⟨w0, f0⟩ := h_34
          have x0 := Rv.2.1.scb tb16 f0
          refine r_aload_0 dX5_doors_37 (r_getR dX5_doors_38 fX5_46 (rfl) (rfl) (r_getR dX5_doors_41 fX5_137 (rfl) (rfl) (r_iload_2 dX5_doors_44 (r_iload_5 dX5_doors_45 ?_))))
          refine r_iasN dX5_doors_47 (rfl) (by omega) (by omega) (by omega) ?_
          have w1 : TW _ 16 (st τ 3 q (i : Int)) := w0.up3 (i := q) (v := (i : Int))
          have f1 : Fr (scb 16) Mv _ := f0.up (k := 20) (i := q) (v := (i : Int)) (scb_in (b := 16) (by omega) (by omega))
          have x1 := Rv.2.1.scb tb16 f1
          refine r_iload_4 dX5_doors_48 (r_aload_0 dX5_doors_50 (r_aload_0 dX5_doors_51 (r_getR dX5_doors_52 fX5_17 (rfl) (rfl) (r_iload_1 dX5_doors_55 ?_))))
          refine r_aaload dX5_doors_56 (rfl) (by decide) (by omega) (rsS he4) ?_
          refine r_iload_2 dX5_doors_57 ?_
          refine r_cVI2 dX5_doors_58 vX5_211 (rfl) (x_oth he4 w1 (hw.put (by omega)) x1 hq6 (by first | omega | (rw [st_ne (Or.inl (by decide))]; omega) | (rw [st_ne (Or.inr (by decide))]; omega)) (hsz _ (fv.trans f1)) (by omega) (hsc _ (fv.trans f1))) (by decide) (Nat.le_of_ble_eq_true rfl) (fun b_58 M_58 h_58 => ?_)
          obtain ⟨rfl, f9⟩ := h_58
          have so := sOth_in X (st τ 3 q (i : Int)) (cl e) q n 0
          have jn_73 : ∀ (v : Int) (hv : v = if (fun d => tB X (st τ 3 q d) (cl e) q n) i = true then 2 ^ i else 0), WP kX5_doors GX 9 (pI (fun a M2 => a = a_doors (nT, X, τ, img, τi, tn, tp, ss, sz, cl) (e : Int) (q : Int) ∧ RX M2 (nT, X, τ, img, τi, tn, tp, ss, sz, cl))) z 73 [some (rv 0), some (iv (e : Int)), some (iv (q : Int)), some (iv (a_refT (nT, X, τ, img, τi, tn, tp, ss, sz, cl) (e : Int) (q : Int))), some (iv s_), some (iv (i : Int))] [iv v, iv s_] M_58 := by
            intro v hv
            refine r_ior (r := s_ + v) dX5_doors_73 (by rw [hv]; split; exact or_bit (by omega) (by omega); exact or_0 _) ?_
            refine r_istore_4 dX5_doors_74 rfl (r_iinc_5 dX5_doors_76 rfl (r_goto dX5_doors_79 ?_))
            exact ih (i + 1) _ _ (by omega) (by simp only [bt]; rw [← hs_, ← hv]) (fv.trans (f1.trans f9)) (by omega)
          refine r_iconst dX5_doors_61 ?_
          refine r_icmp_ne dX5_doors_62 (by omega) (by omega) (fun c_62 => ?_) (fun c_62 => ?_)
          · skip
            refine r_iconst dX5_doors_72 ?_
            exact jn_73 _ (by rw [if_neg (by simp only [tB]; rw [decide_eq_true_eq]; exact c_62)])
          · skip
            refine r_iconst dX5_doors_65 (r_iload_5 dX5_doors_66 ?_)
            refine r_ishl (r := 2 ^ i) dX5_doors_68 (shl_bit10 (by omega)) ?_
            refine r_goto dX5_doors_69 ?_
            exact jn_73 _ (by rw [if_pos (by simp only [tB]; rw [decide_eq_true_eq]; exact c_62)])
    exact lp_19 _ 0 0 M (by omega) rfl Fr.refl (Nat.lt_succ_self _)
  · skip
    refine r_iload_3 dX5_doors_11 ?_
    refine r_ireturn dX5_doors_12 rfl ?_
    refine ⟨_, rfl, ?_, hR⟩
    unfold a_doors
    simp only []
    rw [if_pos (by omega)]
set_option maxRecDepth 10000 in
set_option maxHeartbeats 4000000 in
theorem x5_laws {M : Mem} {nT tn : Nat} {X : Nat → Tx} {τ τi : Tn} {img : Bool} {tp ss sz : Nat → Int} {cl : Nat → Nat → Int} (hR : RX M (nT, X, τ, img, τi, tn, tp, ss, sz, cl)) (hI : INV (nT, X, τ, img, τi, tn, tp, ss, sz, cl)) {s : Int} (h_s : ib s) {p : Int} (h_p : ib p) : Con GX 9 kX5_laws [rv 0, iv s, iv p] M (pI (fun a M2 => a = a_laws (nT, X, τ, img, τi, tn, tp, ss, sz, cl) s p ∧ RX M2 (nT, X, τ, img, τi, tn, tp, ss, sz, cl))) := by
  refine con_of [some (rv 0), some (iv s), some (iv p), none, none, none] (plX5) rfl (Nat.le_of_ble_eq_true rfl) (fun z => ?_)
  have hR0 := hR
  obtain ⟨hτ, hX, hnT, himg, hτi, ⟨htn, htp⟩, hsh⟩ := hR0
  have hI0 := hI
  obtain ⟨⟨iT1, iT6⟩, ⟨hw, icl⟩, iim, ⟨itn, itp⟩, ish⟩ := hI
  obtain ⟨⟨wn, wn2⟩, wcl, ⟨wl, wl2⟩, -, -⟩ := id hw
  have hcl : τ 8 1 < 2147483648 := by omega
  refine r_mb (fun hMB => ?_)
  refine r_aload_0 dX5_laws_0 (r_iload_1 dX5_laws_1 (r_iload_2 dX5_laws_2 ?_))
  refine r_cVI2 dX5_laws_3 vX5_208 (rfl) (x_refT hR hI0 (by omega) (by omega)) (by decide) (Nat.le_of_ble_eq_true rfl) (fun b_3 M_3 h_3 => ?_)
  obtain ⟨rfl, rfl⟩ := h_3
  have rb := a_refT_in (nT, X, τ, img, τi, tn, tp, ss, sz, cl) s p
  refine r_istore_3 dX5_laws_6 rfl (r_iload_3 dX5_laws_7 ?_)
  refine r_if_eq dX5_laws_8 (by omega) (fun c_8 => ?_) (fun c_8 => ?_)
  · skip
    have hz0 : a_refT (nT, X, τ, img, τi, tn, tp, ss, sz, cl) s p = 0 := by omega
    obtain ⟨ha0, hpp⟩ := a_refT_0 hz0
    obtain ⟨hs4, hsn, hs20⟩ := a_ref_0 ha0
    obtain ⟨e, rfl⟩ : ∃ e : Nat, s = e := ⟨s.toNat, by omega⟩
    have he4 : e < 4 := by omega
    have hs := hsh e he4
    have is := ish e he4
    obtain ⟨q, rfl⟩ : ∃ q : Nat, p = q := ⟨p.toNat, by omega⟩
    have hq6 : q < 6 := by omega
    have wq := hw.p hq6
    have eq : ((q : Nat) : Int).toNat = q := Int.toNat_natCast q
    have hs20 : sz e ≤ 20 := hs20
    obtain ⟨n, hn⟩ : ∃ n : Nat, sz e = n := ⟨(sz e).toNat, by omega⟩
    have hnt : (sz e).toNat = n := by omega
    have he : ((e : Nat) : Int).toNat = e := Int.toNat_natCast e
    have hsz : ∀ Mv : Mem, Fr (scb 16) M Mv → Mv (60 + 2 * e) 2 = (n : Int) := fun Mv hF => (hF _ _ (scb_sh he4).1).trans (hs.2.1.trans hn)
    have hsc : ∀ Mv : Mem, Fr (scb 16) M Mv → ∀ i, i < n → Mv (60 + 2 * e + 1) i = cl e i := fun Mv hF i hi => (hF _ _ (scb_sh he4).2).trans (hs.2.2 i (by omega))
    refine r_iconst dX5_laws_13 (r_istore_4 dX5_laws_14 rfl (r_iconst dX5_laws_16 (r_istore_5 dX5_laws_17 rfl ?_)))
    have lp_19 : ∀ (NN : Nat) (i : Nat) (s_ : Int) (Mv : Mem) (hi : (i : Int) ≤ (nT : Int)) (hs_ : s_ = bt (fun t => tB X (st τ 8 2 t) (cl e) q n) i) (fv : Fr (scb 16) M Mv), 100 - i < NN → WP kX5_laws GX 9 (pI (fun a M2 => a = a_laws (nT, X, τ, img, τi, tn, tp, ss, sz, cl) (e : Int) (q : Int) ∧ RX M2 (nT, X, τ, img, τi, tn, tp, ss, sz, cl))) z 19 [some (rv 0), some (iv (e : Int)), some (iv (q : Int)), some (iv (a_refT (nT, X, τ, img, τi, tn, tp, ss, sz, cl) (e : Int) (q : Int))), some (iv s_), some (iv (i : Int))] [] Mv := by
      intro NN
      induction NN with
      | zero => intros; omega
      | succ NN ih =>
        intro i s_ Mv hi hs_ fv hm
        have Rv := hR.th fv
        have hτv := Rv.1
        have sbb := bt_b (fun t => tB X (st τ 8 2 t) (cl e) q n) i
        refine r_iload_5 dX5_laws_19 ?_
        refine r_aload_0 dX5_laws_21 (r_getE dX5_laws_22 fX5_52 (rfl) (rfl) (Rv.2.2.1) ?_)
        refine r_icmp_ge dX5_laws_25 (by omega) (by omega) (fun c_25 => ?_) (fun c_25 => ?_)
        · skip
          obtain rfl : i = nT := by omega
          refine r_iload_4 dX5_laws_82 ?_
          refine r_ireturn dX5_laws_84 rfl ?_
          refine ⟨_, rfl, ?_, Rv⟩
          unfold a_laws
          simp only [Int.toNat_natCast]
          rw [if_neg (by omega), hnt]
          exact hs_
        · skip
          skip
          refine r_aload_0 dX5_laws_28 (r_getR dX5_laws_29 fX5_46 (rfl) (rfl) (r_aload_0 dX5_laws_32 (r_getR dX5_laws_33 fX5_42 (rfl) (rfl) ?_)))
          refine r_cVV1 dX5_laws_36 vX5_175 (rfl) (x_become tb16 tb6 (by decide) hτv) (by decide) (Nat.le_of_ble_eq_true rfl) (fun M_36 h_36 => ?_)
          obtain ⟨w0, f0⟩ := h_36
          have x0 := Rv.2.1.scb tb16 f0
          refine r_aload_0 dX5_laws_39 (r_getR dX5_laws_40 fX5_46 (rfl) (rfl) (r_iload_5 dX5_laws_43 ?_))
          refine r_put dX5_laws_45 pX5_82 (rfl) (rfl) (by omega) ?_
          have w1 : TW _ 16 (st τ 8 2 (i : Int)) := w0.ulaw (v := (i : Int))
          have f1 : Fr (scb 16) Mv _ := f0.up (k := 16) (i := 12) (v := (i : Int)) (scb_in (b := 16) (by omega) (by omega))
          have x1 := Rv.2.1.scb tb16 f1
          refine r_iload_4 dX5_laws_48 (r_aload_0 dX5_laws_50 (r_aload_0 dX5_laws_51 (r_getR dX5_laws_52 fX5_17 (rfl) (rfl) (r_iload_1 dX5_laws_55 ?_))))
          refine r_aaload dX5_laws_56 (rfl) (by decide) (by omega) (rsS he4) ?_
          refine r_iload_2 dX5_laws_57 ?_
          refine r_cVI2 dX5_laws_58 vX5_211 (rfl) (x_oth he4 w1 (hw.law (by omega)) x1 hq6 (by first | omega | (rw [st_ne (Or.inl (by decide))]; omega) | (rw [st_ne (Or.inr (by decide))]; omega)) (hsz _ (fv.trans f1)) (by omega) (hsc _ (fv.trans f1))) (by decide) (Nat.le_of_ble_eq_true rfl) (fun b_58 M_58 h_58 => ?_)
          obtain ⟨rfl, f9⟩ := h_58
          have so := sOth_in X (st τ 8 2 (i : Int)) (cl e) q n 0
          have jn_73 : ∀ (v : Int) (hv : v = if (fun t => tB X (st τ 8 2 t) (cl e) q n) i = true then 2 ^ i else 0), WP kX5_laws GX 9 (pI (fun a M2 => a = a_laws (nT, X, τ, img, τi, tn, tp, ss, sz, cl) (e : Int) (q : Int) ∧ RX M2 (nT, X, τ, img, τi, tn, tp, ss, sz, cl))) z 73 [some (rv 0), some (iv (e : Int)), some (iv (q : Int)), some (iv (a_refT (nT, X, τ, img, τi, tn, tp, ss, sz, cl) (e : Int) (q : Int))), some (iv s_), some (iv (i : Int))] [iv v, iv s_] M_58 := by
            intro v hv
            refine r_ior (r := s_ + v) dX5_laws_73 (by rw [hv]; split; exact or_bit (by omega) (by omega); exact or_0 _) ?_
            refine r_istore_4 dX5_laws_74 rfl (r_iinc_5 dX5_laws_76 rfl (r_goto dX5_laws_79 ?_))
            exact ih (i + 1) _ _ (by omega) (by simp only [bt]; rw [← hs_, ← hv]) (fv.trans (f1.trans f9)) (by omega)
          refine r_iconst dX5_laws_61 ?_
          refine r_icmp_ne dX5_laws_62 (by omega) (by omega) (fun c_62 => ?_) (fun c_62 => ?_)
          · skip
            refine r_iconst dX5_laws_72 ?_
            exact jn_73 _ (by rw [if_neg (by simp only [tB]; rw [decide_eq_true_eq]; exact c_62)])
          · skip
            refine r_iconst dX5_laws_65 (r_iload_5 dX5_laws_66 ?_)
            refine r_ishl (r := 2 ^ i) dX5_laws_68 (shl_bit10 (by omega)) ?_
            refine r_goto dX5_laws_69 ?_
            exact jn_73 _ (by rw [if_pos (by simp only [tB]; rw [decide_eq_true_eq]; exact c_62)])
    exact lp_19 _ 0 0 M (by omega) rfl Fr.refl (Nat.lt_succ_self _)
  · skip
    refine r_iload_3 dX5_laws_11 ?_
    refine r_ireturn dX5_laws_12 rfl ?_
    refine ⟨_, rfl, ?_, hR⟩
    unfold a_laws
    simp only []
    rw [if_pos (by omega)]
set_option maxRecDepth 10000 in
set_option maxHeartbeats 4000000 in
theorem x5_whose {M : Mem} {nT tn : Nat} {X : Nat → Tx} {τ τi : Tn} {img : Bool} {tp ss sz : Nat → Int} {cl : Nat → Nat → Int} (hR : RX M (nT, X, τ, img, τi, tn, tp, ss, sz, cl)) (hI : INV (nT, X, τ, img, τi, tn, tp, ss, sz, cl)) {s : Int} (h_s : ib s) : Con GX 9 kX5_whose [rv 0, iv s] M (pI (fun a M2 => a = a_whose (nT, X, τ, img, τi, tn, tp, ss, sz, cl) s ∧ RX M2 (nT, X, τ, img, τi, tn, tp, ss, sz, cl))) := by
  refine con_of [some (rv 0), some (iv s), none, none, none] (plX5) rfl (Nat.le_of_ble_eq_true rfl) (fun z => ?_)
  have hR0 := hR
  obtain ⟨hτ, hX, hnT, himg, hτi, ⟨htn, htp⟩, hsh⟩ := hR0
  have hI0 := hI
  obtain ⟨⟨iT1, iT6⟩, ⟨hw, icl⟩, iim, ⟨itn, itp⟩, ish⟩ := hI
  obtain ⟨⟨wn, wn2⟩, wcl, ⟨wl, wl2⟩, -, -⟩ := id hw
  have hcl : τ 8 1 < 2147483648 := by omega
  refine r_mb (fun hMB => ?_)
  refine r_aload_0 dX5_whose_0 (r_iload_1 dX5_whose_1 ?_)
  refine r_cVI1 dX5_whose_2 vX5_215 (rfl) (x_refS hR hI0 (by omega)) (by decide) (Nat.le_of_ble_eq_true rfl) (fun b_2 M_2 h_2 => ?_)
  obtain ⟨rfl, rfl⟩ := h_2
  have rb := a_ref_in (nT, X, τ, img, τi, tn, tp, ss, sz, cl) s
  refine r_istore_2 dX5_whose_5 rfl (r_iload_2 dX5_whose_6 ?_)
  refine r_if_eq dX5_whose_7 (by omega) (fun c_7 => ?_) (fun c_7 => ?_)
  · skip
    have hz0 : a_ref (nT, X, τ, img, τi, tn, tp, ss, sz, cl) s = 0 := by omega
    obtain ⟨hs4, hsn, hs20⟩ := a_ref_0 hz0
    obtain ⟨e, rfl⟩ : ∃ e : Nat, s = e := ⟨s.toNat, by omega⟩
    have he4 : e < 4 := by omega
    have hs := hsh e he4
    have is := ish e he4
    have hs20 : sz e ≤ 20 := hs20
    obtain ⟨n, hn⟩ : ∃ n : Nat, sz e = n := ⟨(sz e).toNat, by omega⟩
    have hnt : (sz e).toNat = n := by omega
    have he : ((e : Nat) : Int).toNat = e := Int.toNat_natCast e
    have hsz : ∀ Mv : Mem, Fr (scb 16) M Mv → Mv (60 + 2 * e) 2 = (n : Int) := fun Mv hF => (hF _ _ (scb_sh he4).1).trans (hs.2.1.trans hn)
    have hsc : ∀ Mv : Mem, Fr (scb 16) M Mv → ∀ i, i < n → Mv (60 + 2 * e + 1) i = cl e i := fun Mv hF i hi => (hF _ _ (scb_sh he4).2).trans (hs.2.2 i (by omega))
    refine r_iconst dX5_whose_12 (r_istore_3 dX5_whose_13 rfl (r_iconst dX5_whose_14 (r_istore_4 dX5_whose_15 rfl ?_)))
    have lp_17 : ∀ (NN : Nat) (i : Nat) (s_ : Int) (Mv : Mem) (hi : (i : Int) ≤ τ 8 0) (hs_ : s_ = bt (fun p => tB X τ (cl e) p n) i) (fv : Fr (scb 16) M Mv), 100 - i < NN → WP kX5_whose GX 9 (pI (fun a M2 => a = a_whose (nT, X, τ, img, τi, tn, tp, ss, sz, cl) (e : Int) ∧ RX M2 (nT, X, τ, img, τi, tn, tp, ss, sz, cl))) z 17 [some (rv 0), some (iv (e : Int)), some (iv (a_ref (nT, X, τ, img, τi, tn, tp, ss, sz, cl) (e : Int))), some (iv s_), some (iv (i : Int))] [] Mv := by
      intro NN
      induction NN with
      | zero => intros; omega
      | succ NN ih =>
        intro i s_ Mv hi hs_ fv hm
        have Rv := hR.th fv
        have hτv := Rv.1
        have sbb := bt_b (fun p => tB X τ (cl e) p n) i
        refine r_iload_4 dX5_whose_17 ?_
        refine r_aload_0 dX5_whose_19 (r_getR dX5_whose_20 fX5_42 (rfl) (rfl) (r_getE dX5_whose_23 fX5_66 (rfl) (rfl) (hτv.people) ?_))
        refine r_icmp_ge dX5_whose_26 (by omega) (by omega) (fun c_26 => ?_) (fun c_26 => ?_)
        · skip
          obtain rfl : i = (τ 8 0).toNat := by omega
          refine r_iload_3 dX5_whose_73 ?_
          refine r_ireturn dX5_whose_74 rfl ?_
          refine ⟨_, rfl, ?_, Rv⟩
          unfold a_whose
          simp only [Int.toNat_natCast]
          rw [if_neg (by omega), hnt]
          exact hs_
        · skip
          skip
          refine r_aload_0 dX5_whose_29 (r_getR dX5_whose_30 fX5_46 (rfl) (rfl) (r_aload_0 dX5_whose_33 (r_getR dX5_whose_34 fX5_42 (rfl) (rfl) ?_)))
          refine r_cVV1 dX5_whose_37 vX5_175 (rfl) (x_become tb16 tb6 (by decide) hτv) (by decide) (Nat.le_of_ble_eq_true rfl) (fun M_37 h_37 => ?_)
          obtain ⟨w0, f0⟩ := h_37
          have x0 := Rv.2.1.scb tb16 f0
          have f1 := f0
          have x1 := x0
          refine r_iload_3 dX5_whose_40 (r_aload_0 dX5_whose_41 (r_aload_0 dX5_whose_42 (r_getR dX5_whose_43 fX5_17 (rfl) (rfl) (r_iload_1 dX5_whose_46 ?_))))
          refine r_aaload dX5_whose_47 (rfl) (by decide) (by omega) (rsS he4) ?_
          refine r_iload_4 dX5_whose_48 ?_
          refine r_cVI2 dX5_whose_50 vX5_211 (rfl) (x_oth he4 w0 (hw) x1 (by omega) (by first | omega | (rw [st_ne (Or.inl (by decide))]; omega) | (rw [st_ne (Or.inr (by decide))]; omega)) (hsz _ (fv.trans f1)) (by omega) (hsc _ (fv.trans f1))) (by decide) (Nat.le_of_ble_eq_true rfl) (fun b_50 M_50 h_50 => ?_)
          obtain ⟨rfl, f9⟩ := h_50
          have so := sOth_in X (τ) (cl e) i n 0
          have jn_65 : ∀ (v : Int) (hv : v = if (fun p => tB X τ (cl e) p n) i = true then 2 ^ i else 0), WP kX5_whose GX 9 (pI (fun a M2 => a = a_whose (nT, X, τ, img, τi, tn, tp, ss, sz, cl) (e : Int) ∧ RX M2 (nT, X, τ, img, τi, tn, tp, ss, sz, cl))) z 65 [some (rv 0), some (iv (e : Int)), some (iv (a_ref (nT, X, τ, img, τi, tn, tp, ss, sz, cl) (e : Int))), some (iv s_), some (iv (i : Int))] [iv v, iv s_] M_50 := by
            intro v hv
            refine r_ior (r := s_ + v) dX5_whose_65 (by rw [hv]; split; exact or_bit (by omega) (by omega); exact or_0 _) ?_
            refine r_istore_3 dX5_whose_66 rfl (r_iinc_4 dX5_whose_67 rfl (r_goto dX5_whose_70 ?_))
            exact ih (i + 1) _ _ (by omega) (by simp only [bt]; rw [← hs_, ← hv]) (fv.trans (f1.trans f9)) (by omega)
          refine r_iconst dX5_whose_53 ?_
          refine r_icmp_ne dX5_whose_54 (by omega) (by omega) (fun c_54 => ?_) (fun c_54 => ?_)
          · skip
            refine r_iconst dX5_whose_64 ?_
            exact jn_65 _ (by rw [if_neg (by simp only [tB]; rw [decide_eq_true_eq]; exact c_54)])
          · skip
            refine r_iconst dX5_whose_57 (r_iload_4 dX5_whose_58 ?_)
            refine r_ishl (r := 2 ^ i) dX5_whose_60 (shl_bit10 (by omega)) ?_
            refine r_goto dX5_whose_61 ?_
            exact jn_65 _ (by rw [if_pos (by simp only [tB]; rw [decide_eq_true_eq]; exact c_54)])
    exact lp_17 _ 0 0 M (by omega) rfl Fr.refl (Nat.lt_succ_self _)
  · skip
    refine r_iload_2 dX5_whose_10 ?_
    refine r_ireturn dX5_whose_11 rfl ?_
    refine ⟨_, rfl, ?_, hR⟩
    unfold a_whose
    simp only []
    rw [if_pos (by omega)]

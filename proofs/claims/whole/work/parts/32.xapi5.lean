set_option maxRecDepth 10000 in
set_option maxHeartbeats 4000000 in
theorem x5_kinds {M : Mem} {nT tn : Nat} {X : Nat → Tx} {τ τi : Tn} {img : Bool} {tp ss sz : Nat → Int} {cl : Nat → Nat → Int} (hR : RX M (nT, X, τ, img, τi, tn, tp, ss, sz, cl)) (hI : INV (nT, X, τ, img, τi, tn, tp, ss, sz, cl)) {s : Int} (h_s : ib s) {p : Int} (h_p : ib p) {r : Int} (h_r : ib r) : Con GX 9 kX5_kinds [rv 0, iv s, iv p, iv r] M (pI (fun a M2 => a = a_kinds (nT, X, τ, img, τi, tn, tp, ss, sz, cl) s p r ∧ RX M2 (nT, X, τ, img, τi, tn, tp, ss, sz, cl))) := by
  refine con_of [some (rv 0), some (iv s), some (iv p), some (iv r), none, none, none] (plX5) rfl (Nat.le_of_ble_eq_true rfl) (fun z => ?_)
  have hR0 := hR
  obtain ⟨hτ, hX, hnT, himg, hτi, ⟨htn, htp⟩, hsh⟩ := hR0
  have hI0 := hI
  obtain ⟨⟨iT1, iT6⟩, ⟨hw, icl⟩, iim, ⟨itn, itp⟩, ish⟩ := hI
  obtain ⟨⟨wn, wn2⟩, wcl, ⟨wl, wl2⟩, -, -⟩ := id hw
  have hcl : τ 8 1 < 2147483648 := by omega
  refine r_mb (fun hMB => ?_)
  refine r_aload_0 dX5_kinds_0 (r_iload_1 dX5_kinds_1 (r_iload_2 dX5_kinds_2 ?_))
  refine r_cVI2 dX5_kinds_3 vX5_208 (rfl) (x_refT hR hI0 (by omega) (by omega)) (by decide) (Nat.le_of_ble_eq_true rfl) (fun b_3 M_3 h_3 => ?_)
  obtain ⟨rfl, rfl⟩ := h_3
  have rb := a_refT_in (nT, X, τ, img, τi, tn, tp, ss, sz, cl) s p
  refine r_istore_4 dX5_kinds_6 rfl (r_iload_4 dX5_kinds_8 ?_)
  refine r_if_eq dX5_kinds_10 (by omega) (fun c_10 => ?_) (fun c_10 => ?_)
  · skip
    have hz0 : a_refT (nT, X, τ, img, τi, tn, tp, ss, sz, cl) s p = 0 := by omega
    obtain ⟨ha0, hpp⟩ := a_refT_0 hz0
    obtain ⟨hs4, hsn, hs20⟩ := a_ref_0 ha0
    obtain ⟨e, rfl⟩ : ∃ e : Nat, s = e := ⟨s.toNat, by omega⟩
    have he4 : e < 4 := by omega
    have hs := hsh e he4
    have is := ish e he4
    obtain ⟨q, rfl⟩ : ∃ q : Nat, p = q := ⟨p.toNat, by omega⟩
    have hq6 : q < 6 := by omega
    have wq := hw.p hq6
    have eq : ((q : Nat) : Int).toNat = q := Int.toNat_natCast q
    have hs20 : sz e ≤ 20 := hs20
    obtain ⟨n, hn⟩ : ∃ n : Nat, sz e = n := ⟨(sz e).toNat, by omega⟩
    have hnt : (sz e).toNat = n := by omega
    have he : ((e : Nat) : Int).toNat = e := Int.toNat_natCast e
    have hsz : ∀ Mv : Mem, Fr (scb 16) M Mv → Mv (60 + 2 * e) 2 = (n : Int) := fun Mv hF => (hF _ _ (scb_sh he4).1).trans (hs.2.1.trans hn)
    have hsc : ∀ Mv : Mem, Fr (scb 16) M Mv → ∀ i, i < n → Mv (60 + 2 * e + 1) i = cl e i := fun Mv hF i hi => (hF _ _ (scb_sh he4).2).trans (hs.2.2 i (by omega))
    refine r_iload_3 dX5_kinds_16 (r_iconst dX5_kinds_17 (r_iconst dX5_kinds_18 ?_))
    refine r_cSI3 dX5_kinds_19 sX5_88 (x_within (d := 0) (by omega) (by omega) (by omega)) (by decide) (Nat.le_of_ble_eq_true rfl) (fun b_19 M_19 h_19 => ?_)
    obtain ⟨rfl, rfl⟩ := h_19
    first | refine r_ifd_ne dX5_kinds_22 (fun c_22 => ?_) (fun c_22 => ?_) | refine r_ifb_ne dX5_kinds_22 (fun c_22 => ?_) (fun c_22 => ?_)
    · skip
      obtain ⟨f, B, hfB⟩ : ∃ f B : Nat, (r = 0 ∧ f = 6 ∧ B = 6) ∨ (r = 1 ∧ f = 7 ∧ B = 10) := by
        by_cases hr : r = 0
        · exact ⟨6, 6, by omega⟩
        · exact ⟨7, 10, by omega⟩
      refine r_iconst dX5_kinds_28 (r_istore_5 dX5_kinds_29 rfl (r_iconst dX5_kinds_31 (r_istore_6 dX5_kinds_32 rfl ?_)))
      have lp_34 : ∀ (NN : Nat) (i : Nat) (s_ : Int) (Mv : Mem) (hi : i ≤ B) (hs_ : s_ = bt (fun v => tB X (st τ f q v) (cl e) q n) i) (fv : Fr (scb 16) M Mv), 100 - i < NN → WP kX5_kinds GX 9 (pI (fun a M2 => a = a_kinds (nT, X, τ, img, τi, tn, tp, ss, sz, cl) (e : Int) (q : Int) r ∧ RX M2 (nT, X, τ, img, τi, tn, tp, ss, sz, cl))) z 34 [some (rv 0), some (iv (e : Int)), some (iv (q : Int)), some (iv r), some (iv (a_refT (nT, X, τ, img, τi, tn, tp, ss, sz, cl) (e : Int) (q : Int))), some (iv s_), some (iv (i : Int))] [] Mv := by
        intro NN
        induction NN with
        | zero => intros; omega
        | succ NN ih =>
          intro i s_ Mv hi hs_ fv hm
          have Rv := hR.th fv
          have hτv := Rv.1
          have sbb := bt_b (fun v => tB X (st τ f q v) (cl e) q n) i
          refine r_iload_6 dX5_kinds_34 ?_
          have jn_47 : WP kX5_kinds GX 9 (pI (fun a M2 => a = a_kinds (nT, X, τ, img, τi, tn, tp, ss, sz, cl) (e : Int) (q : Int) r ∧ RX M2 (nT, X, τ, img, τi, tn, tp, ss, sz, cl))) z 47 [some (rv 0), some (iv (e : Int)), some (iv (q : Int)), some (iv r), some (iv (a_refT (nT, X, τ, img, τi, tn, tp, ss, sz, cl) (e : Int) (q : Int))), some (iv s_), some (iv (i : Int))] [iv (B : Int), iv (i : Int)] Mv := by
            refine r_icmp_ge dX5_kinds_47 (by omega) (by omega) (fun c_47 => ?_) (fun c_47 => ?_)
            · skip
              obtain rfl : i = B := by omega
              refine r_iload_5 dX5_kinds_124 ?_
              refine r_ireturn dX5_kinds_126 rfl ?_
              refine ⟨_, rfl, ?_, Rv⟩
              unfold a_kinds
              simp only [Int.toNat_natCast]
              rw [if_neg (by omega), if_neg (by omega), hnt]
              rcases hfB with ⟨h1, h2, h3⟩ | ⟨h1, h2, h3⟩
              · rw [if_pos h1, hs_, h2, h3]
              · rw [if_neg (by omega), hs_, h2, h3]
            · skip
              skip
              refine r_aload_0 dX5_kinds_50 (r_getR dX5_kinds_51 fX5_46 (rfl) (rfl) (r_aload_0 dX5_kinds_54 (r_getR dX5_kinds_55 fX5_42 (rfl) (rfl) ?_)))
              refine r_cVV1 dX5_kinds_58 vX5_175 (rfl) (x_become tb16 tb6 (by decide) hτv) (by decide) (Nat.le_of_ble_eq_true rfl) (fun M_58 h_58 => ?_)
              obtain ⟨w0, f0⟩ := h_58
              have jn_90 : ∀ (Mw : Mem) (w1 : TW Mw 16 (st τ f q (i : Int))) (f1 : Fr (scb 16) Mv Mw), WP kX5_kinds GX 9 (pI (fun a M2 => a = a_kinds (nT, X, τ, img, τi, tn, tp, ss, sz, cl) (e : Int) (q : Int) r ∧ RX M2 (nT, X, τ, img, τi, tn, tp, ss, sz, cl))) z 90 [some (rv 0), some (iv (e : Int)), some (iv (q : Int)), some (iv r), some (iv (a_refT (nT, X, τ, img, τi, tn, tp, ss, sz, cl) (e : Int) (q : Int))), some (iv s_), some (iv (i : Int))] [] Mw := by
                intro Mw w1 f1
                have x1 := Rv.2.1.scb tb16 f1
                refine r_iload_5 dX5_kinds_90 ?_
                refine r_aload_0 dX5_kinds_92 (r_aload_0 dX5_kinds_93 (r_getR dX5_kinds_94 fX5_17 (rfl) (rfl) (r_iload_1 dX5_kinds_97 ?_)))
                refine r_aaload dX5_kinds_98 (rfl) (by decide) (by omega) (rsS he4) ?_
                refine r_iload_2 dX5_kinds_99 ?_
                refine r_cVI2 dX5_kinds_100 vX5_211 (rfl) (x_oth he4 w1 (hw.put (by omega)) x1 hq6 (by rw [st_ne (Or.inl (by omega))]; omega) (hsz _ (fv.trans f1)) (by omega) (hsc _ (fv.trans f1))) (by decide) (Nat.le_of_ble_eq_true rfl) (fun b_100 M_100 h_100 => ?_)
                obtain ⟨rfl, f9⟩ := h_100
                have so := sOth_in X (st τ f q (i : Int)) (cl e) q n 0
                have jn_115 : ∀ (v : Int) (hv : v = if (fun v => tB X (st τ f q v) (cl e) q n) i = true then 2 ^ i else 0), WP kX5_kinds GX 9 (pI (fun a M2 => a = a_kinds (nT, X, τ, img, τi, tn, tp, ss, sz, cl) (e : Int) (q : Int) r ∧ RX M2 (nT, X, τ, img, τi, tn, tp, ss, sz, cl))) z 115 [some (rv 0), some (iv (e : Int)), some (iv (q : Int)), some (iv r), some (iv (a_refT (nT, X, τ, img, τi, tn, tp, ss, sz, cl) (e : Int) (q : Int))), some (iv s_), some (iv (i : Int))] [iv v, iv s_] M_100 := by
                  intro v hv
                  refine r_ior (r := s_ + v) dX5_kinds_115 (by rw [hv]; split; exact or_bit (by omega) (by omega); exact or_0 _) ?_
                  refine r_istore_5 dX5_kinds_116 rfl (r_iinc_6 dX5_kinds_118 rfl (r_goto dX5_kinds_121 ?_))
                  exact ih (i + 1) _ _ (by omega) (by simp only [bt]; rw [← hs_, ← hv]) (fv.trans (f1.trans f9)) (by omega)
                refine r_iconst dX5_kinds_103 ?_
                refine r_icmp_ne dX5_kinds_104 (by omega) (by omega) (fun c_104 => ?_) (fun c_104 => ?_)
                · skip
                  refine r_iconst dX5_kinds_114 ?_
                  exact jn_115 _ (by rw [if_neg (by simp only [tB]; rw [decide_eq_true_eq]; exact c_104)])
                · skip
                  refine r_iconst dX5_kinds_107 (r_iload_6 dX5_kinds_108 ?_)
                  refine r_ishl (r := 2 ^ i) dX5_kinds_110 (shl_bit10 (by omega)) ?_
                  refine r_goto dX5_kinds_111 ?_
                  exact jn_115 _ (by rw [if_pos (by simp only [tB]; rw [decide_eq_true_eq]; exact c_104)])
              refine r_iload_3 dX5_kinds_61 ?_
              refine r_if_ne dX5_kinds_62 (by omega) (fun c_62 => ?_) (fun c_62 => ?_)
              · skip
                refine r_aload_0 dX5_kinds_79 (r_getR dX5_kinds_80 fX5_46 (rfl) (rfl) (r_getR dX5_kinds_83 fX5_149 (rfl) (rfl) (r_iload_2 dX5_kinds_86 (r_iload_6 dX5_kinds_87 ?_))))
                refine r_iasN dX5_kinds_89 (rfl) (by omega) (by omega) (by omega) ?_
                obtain rfl : f = 7 := by omega
                have w1 : TW _ 16 (st τ 7 q (i : Int)) := w0.up7 (i := q) (v := (i : Int))
                have f1 : Fr (scb 16) Mv _ := f0.up (k := 24) (i := q) (v := (i : Int)) (scb_in (b := 16) (by omega) (by omega))
                exact jn_90 _ w1 f1
              · skip
                refine r_aload_0 dX5_kinds_65 (r_getR dX5_kinds_66 fX5_46 (rfl) (rfl) (r_getR dX5_kinds_69 fX5_146 (rfl) (rfl) (r_iload_2 dX5_kinds_72 (r_iload_6 dX5_kinds_73 ?_))))
                refine r_iasN dX5_kinds_75 (rfl) (by omega) (by omega) (by omega) ?_
                obtain rfl : f = 6 := by omega
                have w1 : TW _ 16 (st τ 6 q (i : Int)) := w0.up6 (i := q) (v := (i : Int))
                have f1 : Fr (scb 16) Mv _ := f0.up (k := 23) (i := q) (v := (i : Int)) (scb_in (b := 16) (by omega) (by omega))
                refine r_goto dX5_kinds_76 ?_
                exact jn_90 _ w1 f1
          refine r_iload_3 dX5_kinds_36 ?_
          refine r_if_ne dX5_kinds_37 (by omega) (fun c_37 => ?_) (fun c_37 => ?_)
          · skip
            refine r_bipush dX5_kinds_45 (by decide) ?_
            rw [show (B : Int) = 10 by omega] at jn_47
            exact jn_47
          · skip
            refine r_bipush dX5_kinds_40 (by decide) (r_goto dX5_kinds_42 ?_)
            rw [show (B : Int) = 6 by omega] at jn_47
            exact jn_47
      exact lp_34 _ 0 0 M (by omega) rfl Fr.refl (Nat.lt_succ_self _)
    · skip
      refine r_bipush dX5_kinds_25 (by decide) ?_
      refine r_ireturn dX5_kinds_27 rfl ?_
      refine ⟨_, rfl, ?_, hR⟩
      unfold a_kinds
      simp only []
      rw [if_neg (by omega), if_pos (by omega)]
  · skip
    refine r_iload_4 dX5_kinds_13 ?_
    refine r_ireturn dX5_kinds_15 rfl ?_
    refine ⟨_, rfl, ?_, hR⟩
    unfold a_kinds
    simp only []
    rw [if_pos (by omega)]
set_option maxRecDepth 10000 in
set_option maxHeartbeats 4000000 in
theorem x5_baskets {M : Mem} {nT tn : Nat} {X : Nat → Tx} {τ τi : Tn} {img : Bool} {tp ss sz : Nat → Int} {cl : Nat → Nat → Int} (hR : RX M (nT, X, τ, img, τi, tn, tp, ss, sz, cl)) (hI : INV (nT, X, τ, img, τi, tn, tp, ss, sz, cl)) {s : Int} (h_s : ib s) {p : Int} (h_p : ib p) {r : Int} (h_r : ib r) : Con GX 9 kX5_baskets [rv 0, iv s, iv p, iv r] M (pI (fun a M2 => a = a_baskets (nT, X, τ, img, τi, tn, tp, ss, sz, cl) s p r ∧ RX M2 (nT, X, τ, img, τi, tn, tp, ss, sz, cl))) := by
  refine con_of [some (rv 0), some (iv s), some (iv p), some (iv r), none, none, none, none] (plX5) rfl (Nat.le_of_ble_eq_true rfl) (fun z => ?_)
  have hR0 := hR
  obtain ⟨hτ, hX, hnT, himg, hτi, ⟨htn, htp⟩, hsh⟩ := hR0
  have hI0 := hI
  obtain ⟨⟨iT1, iT6⟩, ⟨hw, icl⟩, iim, ⟨itn, itp⟩, ish⟩ := hI
  obtain ⟨⟨wn, wn2⟩, wcl, ⟨wl, wl2⟩, -, -⟩ := id hw
  have hcl : τ 8 1 < 2147483648 := by omega
  refine r_mb (fun hMB => ?_)
  refine r_aload_0 dX5_baskets_0 (r_iload_1 dX5_baskets_1 (r_iload_2 dX5_baskets_2 ?_))
  refine r_cVI2 dX5_baskets_3 vX5_208 (rfl) (x_refT hR hI0 (by omega) (by omega)) (by decide) (Nat.le_of_ble_eq_true rfl) (fun b_3 M_3 h_3 => ?_)
  obtain ⟨rfl, rfl⟩ := h_3
  have rb := a_refT_in (nT, X, τ, img, τi, tn, tp, ss, sz, cl) s p
  refine r_istore_4 dX5_baskets_6 rfl (r_iload_4 dX5_baskets_8 ?_)
  refine r_if_eq dX5_baskets_10 (by omega) (fun c_10 => ?_) (fun c_10 => ?_)
  · skip
    have hz0 : a_refT (nT, X, τ, img, τi, tn, tp, ss, sz, cl) s p = 0 := by omega
    obtain ⟨ha0, hpp⟩ := a_refT_0 hz0
    obtain ⟨hs4, hsn, hs20⟩ := a_ref_0 ha0
    obtain ⟨e, rfl⟩ : ∃ e : Nat, s = e := ⟨s.toNat, by omega⟩
    have he4 : e < 4 := by omega
    have hs := hsh e he4
    have is := ish e he4
    obtain ⟨q, rfl⟩ : ∃ q : Nat, p = q := ⟨p.toNat, by omega⟩
    have hq6 : q < 6 := by omega
    have wq := hw.p hq6
    have eq : ((q : Nat) : Int).toNat = q := Int.toNat_natCast q
    have hs20 : sz e ≤ 20 := hs20
    obtain ⟨n, hn⟩ : ∃ n : Nat, sz e = n := ⟨(sz e).toNat, by omega⟩
    have hnt : (sz e).toNat = n := by omega
    have he : ((e : Nat) : Int).toNat = e := Int.toNat_natCast e
    have hsz : ∀ Mv : Mem, Fr (scb 16) M Mv → Mv (60 + 2 * e) 2 = (n : Int) := fun Mv hF => (hF _ _ (scb_sh he4).1).trans (hs.2.1.trans hn)
    have hsc : ∀ Mv : Mem, Fr (scb 16) M Mv → ∀ i, i < n → Mv (60 + 2 * e + 1) i = cl e i := fun Mv hF i hi => (hF _ _ (scb_sh he4).2).trans (hs.2.2 i (by omega))
    refine r_iload_3 dX5_baskets_16 (r_iconst dX5_baskets_17 (r_iconst dX5_baskets_18 ?_))
    refine r_cSI3 dX5_baskets_19 sX5_88 (x_within (d := 0) (by omega) (by omega) (by omega)) (by decide) (Nat.le_of_ble_eq_true rfl) (fun b_19 M_19 h_19 => ?_)
    obtain ⟨rfl, rfl⟩ := h_19
    first | refine r_ifd_ne dX5_baskets_22 (fun c_22 => ?_) (fun c_22 => ?_) | refine r_ifb_ne dX5_baskets_22 (fun c_22 => ?_) (fun c_22 => ?_)
    · skip
      refine r_iconst dX5_baskets_28 (r_istore_5 dX5_baskets_29 rfl (r_iconst dX5_baskets_31 (r_istore_6 dX5_baskets_32 rfl (r_bipush dX5_baskets_34 (by decide) (r_istore_7 dX5_baskets_36 rfl ?_)))))
      have lp_38 : ∀ (NN : Nat) (k : Nat) (c_ l_ : Int) (Mv : Mem) (hk : k ≤ 100) (hc_ : c_ = (bk (fun v => tB X (st τ 4 q v) (cl e) q n) k).1) (hl_ : l_ = (bk (fun v => tB X (st τ 4 q v) (cl e) q n) k).2) (fv : Fr (scb 16) M Mv), 200 - k < NN → WP kX5_baskets GX 9 (pI (fun a M2 => a = a_baskets (nT, X, τ, img, τi, tn, tp, ss, sz, cl) (e : Int) (q : Int) r ∧ RX M2 (nT, X, τ, img, τi, tn, tp, ss, sz, cl))) z 38 [some (rv 0), some (iv (e : Int)), some (iv (q : Int)), some (iv r), some (iv (a_refT (nT, X, τ, img, τi, tn, tp, ss, sz, cl) (e : Int) (q : Int))), some (iv c_), some (iv l_), some (iv (99 - (k : Int)))] [] Mv := by
        intro NN
        induction NN with
        | zero => intros; omega
        | succ NN ih =>
          intro k c_ l_ Mv hk hc_ hl_ fv hm
          have Rv := hR.th fv
          have hτv := Rv.1
          have bkb := bk_b (fun v => tB X (st τ 4 q v) (cl e) q n) k hk
          refine r_iload_7 dX5_baskets_38 ?_
          refine r_if_lt dX5_baskets_40 (by omega) (fun c_40 => ?_) (fun c_40 => ?_)
          · skip
            obtain rfl : k = 100 := by omega
            refine r_iload_3 dX5_baskets_93 ?_
            refine r_if_ne dX5_baskets_94 (by omega) (fun c_94 => ?_) (fun c_94 => ?_)
            · skip
              refine r_iload_6 dX5_baskets_102 ?_
              refine r_ireturn dX5_baskets_104 rfl ?_
              refine ⟨_, rfl, ?_, Rv⟩
              unfold a_baskets
              simp only [Int.toNat_natCast]
              rw [if_neg (by omega), if_neg (by omega), if_neg (by omega), hnt]
              exact hl_
            · skip
              refine r_iload_5 dX5_baskets_97 (r_goto dX5_baskets_99 ?_)
              refine r_ireturn dX5_baskets_104 rfl ?_
              refine ⟨_, rfl, ?_, Rv⟩
              unfold a_baskets
              simp only [Int.toNat_natCast]
              rw [if_neg (by omega), if_neg (by omega), if_pos (by omega), hnt]
              exact hc_
          · skip
            rw [show (99 : Int) - (k : Int) = ((99 - k : Nat) : Int) by omega]
            refine r_aload_0 dX5_baskets_43 (r_getR dX5_baskets_44 fX5_46 (rfl) (rfl) (r_aload_0 dX5_baskets_47 (r_getR dX5_baskets_48 fX5_42 (rfl) (rfl) ?_)))
            refine r_cVV1 dX5_baskets_51 vX5_175 (rfl) (x_become tb16 tb6 (by decide) hτv) (by decide) (Nat.le_of_ble_eq_true rfl) (fun M_51 h_51 => ?_)
            obtain ⟨w0, f0⟩ := h_51
            refine r_aload_0 dX5_baskets_54 (r_getR dX5_baskets_55 fX5_46 (rfl) (rfl) (r_getR dX5_baskets_58 fX5_140 (rfl) (rfl) (r_iload_2 dX5_baskets_61 (r_iload_7 dX5_baskets_62 ?_))))
            refine r_iasN dX5_baskets_64 (rfl) (by omega) (by omega) (by omega) ?_
            have w1 : TW _ 16 (st τ 4 q ((99 - k : Nat) : Int)) := w0.up4 (i := q) (v := ((99 - k : Nat) : Int))
            have f1 : Fr (scb 16) Mv _ := f0.up (k := 21) (i := q) (v := ((99 - k : Nat) : Int)) (scb_in (b := 16) (by omega) (by omega))
            have x1 := Rv.2.1.scb tb16 f1
            refine r_aload_0 dX5_baskets_65 (r_aload_0 dX5_baskets_66 (r_getR dX5_baskets_67 fX5_17 (rfl) (rfl) (r_iload_1 dX5_baskets_70 ?_)))
            refine r_aaload dX5_baskets_71 (rfl) (by decide) (by omega) (rsS he4) ?_
            refine r_iload_2 dX5_baskets_72 ?_
            refine r_cVI2 dX5_baskets_73 vX5_211 (rfl) (x_oth he4 w1 (hw.put (by omega)) x1 hq6 (by rw [st_ne (Or.inl (by omega))]; omega) (hsz _ (fv.trans f1)) (by omega) (hsc _ (fv.trans f1))) (by decide) (Nat.le_of_ble_eq_true rfl) (fun b_73 M_73 h_73 => ?_)
            obtain ⟨rfl, f9⟩ := h_73
            have so := sOth_in X (st τ 4 q ((99 - k : Nat) : Int)) (cl e) q n 0
            refine r_iconst dX5_baskets_76 ?_
            refine r_icmp_ne dX5_baskets_77 (by omega) (by omega) (fun c_77 => ?_) (fun c_77 => ?_)
            · skip
              refine r_iinc_7 dX5_baskets_87 rfl (r_goto dX5_baskets_90 ?_)
              rw [show ((99 - k : Nat) : Int) + -1 = 99 - ((k + 1 : Nat) : Int) by omega]
              exact ih (k + 1) c_ l_ _ (by omega) (by rw [bk_no (by simp only [tB]; rw [decide_eq_true_eq]; exact c_77)]; exact hc_) (by rw [bk_no (by simp only [tB]; rw [decide_eq_true_eq]; exact c_77)]; exact hl_) (fv.trans (f1.trans f9)) (by omega)
            · skip
              refine r_iinc_5 dX5_baskets_80 rfl (r_iload_7 dX5_baskets_83 (r_istore_6 dX5_baskets_85 rfl (r_iinc_7 dX5_baskets_87 rfl (r_goto dX5_baskets_90 ?_))))
              rw [show ((99 - k : Nat) : Int) + -1 = 99 - ((k + 1 : Nat) : Int) by omega]
              exact ih (k + 1) _ _ _ (by omega) (by rw [bk_yes (by simp only [tB]; rw [decide_eq_true_eq]; exact c_77), hc_]) (by rw [bk_yes (by simp only [tB]; rw [decide_eq_true_eq]; exact c_77)]) (fv.trans (f1.trans f9)) (by omega)
      exact lp_38 _ 0 0 (-1) M (by omega) rfl rfl Fr.refl (Nat.lt_succ_self _)
    · skip
      refine r_bipush dX5_baskets_25 (by decide) ?_
      refine r_ireturn dX5_baskets_27 rfl ?_
      refine ⟨_, rfl, ?_, hR⟩
      unfold a_baskets
      simp only []
      rw [if_neg (by omega), if_pos (by omega)]
  · skip
    refine r_iload_4 dX5_baskets_13 ?_
    refine r_ireturn dX5_baskets_15 rfl ?_
    refine ⟨_, rfl, ?_, hR⟩
    unfold a_baskets
    simp only []
    rw [if_pos (by omega)]
set_option maxRecDepth 10000 in
set_option maxHeartbeats 4000000 in
theorem x5_firsts {M : Mem} {nT tn : Nat} {X : Nat → Tx} {τ τi : Tn} {img : Bool} {tp ss sz : Nat → Int} {cl : Nat → Nat → Int} (hR : RX M (nT, X, τ, img, τi, tn, tp, ss, sz, cl)) (hI : INV (nT, X, τ, img, τi, tn, tp, ss, sz, cl)) {s : Int} (h_s : ib s) {p : Int} (h_p : ib p) {r : Int} (h_r : ib r) : Con GX 9 kX5_firsts [rv 0, iv s, iv p, iv r] M (pI (fun a M2 => a = a_firsts (nT, X, τ, img, τi, tn, tp, ss, sz, cl) s p r ∧ RX M2 (nT, X, τ, img, τi, tn, tp, ss, sz, cl))) := by
  refine con_of [some (rv 0), some (iv s), some (iv p), some (iv r), none, none, none] (plX5) rfl (Nat.le_of_ble_eq_true rfl) (fun z => ?_)
  have hR0 := hR
  obtain ⟨hτ, hX, hnT, himg, hτi, ⟨htn, htp⟩, hsh⟩ := hR0
  have hI0 := hI
  obtain ⟨⟨iT1, iT6⟩, ⟨hw, icl⟩, iim, ⟨itn, itp⟩, ish⟩ := hI
  obtain ⟨⟨wn, wn2⟩, wcl, ⟨wl, wl2⟩, -, -⟩ := id hw
  have hcl : τ 8 1 < 2147483648 := by omega
  refine r_mb (fun hMB => ?_)
  refine r_aload_0 dX5_firsts_0 (r_iload_1 dX5_firsts_1 (r_iload_2 dX5_firsts_2 ?_))
  refine r_cVI2 dX5_firsts_3 vX5_208 (rfl) (x_refT hR hI0 (by omega) (by omega)) (by decide) (Nat.le_of_ble_eq_true rfl) (fun b_3 M_3 h_3 => ?_)
  obtain ⟨rfl, rfl⟩ := h_3
  have rb := a_refT_in (nT, X, τ, img, τi, tn, tp, ss, sz, cl) s p
  refine r_istore_4 dX5_firsts_6 rfl (r_iload_4 dX5_firsts_8 ?_)
  refine r_if_eq dX5_firsts_10 (by omega) (fun c_10 => ?_) (fun c_10 => ?_)
  · skip
    have hz0 : a_refT (nT, X, τ, img, τi, tn, tp, ss, sz, cl) s p = 0 := by omega
    obtain ⟨ha0, hpp⟩ := a_refT_0 hz0
    obtain ⟨hs4, hsn, hs20⟩ := a_ref_0 ha0
    obtain ⟨e, rfl⟩ : ∃ e : Nat, s = e := ⟨s.toNat, by omega⟩
    have he4 : e < 4 := by omega
    have hs := hsh e he4
    have is := ish e he4
    obtain ⟨q, rfl⟩ : ∃ q : Nat, p = q := ⟨p.toNat, by omega⟩
    have hq6 : q < 6 := by omega
    have wq := hw.p hq6
    have eq : ((q : Nat) : Int).toNat = q := Int.toNat_natCast q
    have hs20 : sz e ≤ 20 := hs20
    obtain ⟨n, hn⟩ : ∃ n : Nat, sz e = n := ⟨(sz e).toNat, by omega⟩
    have hnt : (sz e).toNat = n := by omega
    have he : ((e : Nat) : Int).toNat = e := Int.toNat_natCast e
    have hsz : ∀ Mv : Mem, Fr (scb 16) M Mv → Mv (60 + 2 * e) 2 = (n : Int) := fun Mv hF => (hF _ _ (scb_sh he4).1).trans (hs.2.1.trans hn)
    have hsc : ∀ Mv : Mem, Fr (scb 16) M Mv → ∀ i, i < n → Mv (60 + 2 * e + 1) i = cl e i := fun Mv hF i hi => (hF _ _ (scb_sh he4).2).trans (hs.2.2 i (by omega))
    refine r_iload_3 dX5_firsts_16 ?_
    refine r_cSI1 dX5_firsts_17 sX5_92 (x_isDoor (d := 0) (by omega)) (by decide) (Nat.le_of_ble_eq_true rfl) (fun b_17 M_17 h_17 => ?_)
    obtain ⟨rfl, rfl⟩ := h_17
    first | refine r_ifd_ne dX5_firsts_20 (fun c_20 => ?_) (fun c_20 => ?_) | refine r_ifb_ne dX5_firsts_20 (fun c_20 => ?_) (fun c_20 => ?_)
    · skip
      obtain ⟨g, rfl⟩ : ∃ g : Nat, r = g := ⟨r.toNat, by omega⟩
      have hg8 : g < 8 := by omega
      refine r_iconst dX5_firsts_26 (r_istore_5 dX5_firsts_27 rfl (r_iconst dX5_firsts_29 (r_istore_6 dX5_firsts_30 rfl ?_)))
      have lp_32 : ∀ (NN : Nat) (i : Nat) (s_ : Int) (Mv : Mem) (hi : i ≤ 7) (hs_ : s_ = bt (fun (j : Nat) => decide (j = 6 ∨ (j : Int) < τ 8 0) && tB X (st τ 1 g (if j = 6 then -1 else (j : Int))) (cl e) q n) i) (fv : Fr (scb 16) M Mv), 100 - i < NN → WP kX5_firsts GX 9 (pI (fun a M2 => a = a_firsts (nT, X, τ, img, τi, tn, tp, ss, sz, cl) (e : Int) (q : Int) (g : Int) ∧ RX M2 (nT, X, τ, img, τi, tn, tp, ss, sz, cl))) z 32 [some (rv 0), some (iv (e : Int)), some (iv (q : Int)), some (iv (g : Int)), some (iv (a_refT (nT, X, τ, img, τi, tn, tp, ss, sz, cl) (e : Int) (q : Int))), some (iv s_), some (iv (i : Int))] [] Mv := by
        intro NN
        induction NN with
        | zero => intros; omega
        | succ NN ih =>
          intro i s_ Mv hi hs_ fv hm
          have Rv := hR.th fv
          have hτv := Rv.1
          have sbb := bt_b (fun (j : Nat) => decide (j = 6 ∨ (j : Int) < τ 8 0) && tB X (st τ 1 g (if j = 6 then -1 else (j : Int))) (cl e) q n) i
          refine r_iload_6 dX5_firsts_32 ?_
          refine r_bipush dX5_firsts_34 (by decide) ?_
          refine r_icmp_gt dX5_firsts_36 (by omega) (by omega) (fun c_36 => ?_) (fun c_36 => ?_)
          · skip
            obtain rfl : i = 7 := by omega
            refine r_iload_5 dX5_firsts_122 ?_
            refine r_ireturn dX5_firsts_124 rfl ?_
            refine ⟨_, rfl, ?_, Rv⟩
            unfold a_firsts
            simp only [Int.toNat_natCast]
            rw [if_neg (by omega), if_neg (by omega), hnt]
            exact hs_
          · skip
            skip
            have jn_55 : ∀ (hT : i = 6 ∨ (i : Int) < τ 8 0), WP kX5_firsts GX 9 (pI (fun a M2 => a = a_firsts (nT, X, τ, img, τi, tn, tp, ss, sz, cl) (e : Int) (q : Int) (g : Int) ∧ RX M2 (nT, X, τ, img, τi, tn, tp, ss, sz, cl))) z 55 [some (rv 0), some (iv (e : Int)), some (iv (q : Int)), some (iv (g : Int)), some (iv (a_refT (nT, X, τ, img, τi, tn, tp, ss, sz, cl) (e : Int) (q : Int))), some (iv s_), some (iv (i : Int))] [] Mv := by
              intro hT
              refine r_aload_0 dX5_firsts_55 ?_
              refine r_getR dX5_firsts_56 fX5_46 (rfl) (rfl) (r_aload_0 dX5_firsts_59 (r_getR dX5_firsts_60 fX5_42 (rfl) (rfl) ?_))
              refine r_cVV1 dX5_firsts_63 vX5_175 (rfl) (x_become tb16 tb6 (by decide) hτv) (by decide) (Nat.le_of_ble_eq_true rfl) (fun M_63 h_63 => ?_)
              obtain ⟨w0, f0⟩ := h_63
              refine r_aload_0 dX5_firsts_66 (r_getR dX5_firsts_67 fX5_46 (rfl) (rfl) (r_getR dX5_firsts_70 fX5_110 (rfl) (rfl) (r_iload_3 dX5_firsts_73 (r_iload_6 dX5_firsts_74 ?_))))
              have jn_87 : ∀ (v0 : Int) (hv0 : v0 = if i = 6 then -1 else (i : Int)), WP kX5_firsts GX 9 (pI (fun a M2 => a = a_firsts (nT, X, τ, img, τi, tn, tp, ss, sz, cl) (e : Int) (q : Int) (g : Int) ∧ RX M2 (nT, X, τ, img, τi, tn, tp, ss, sz, cl))) z 87 [some (rv 0), some (iv (e : Int)), some (iv (q : Int)), some (iv (g : Int)), some (iv (a_refT (nT, X, τ, img, τi, tn, tp, ss, sz, cl) (e : Int) (q : Int))), some (iv s_), some (iv (i : Int))] [iv v0, iv (g : Int), rv 18] M_63 := by
                intro v0 hv0
                have vb : -1 ≤ v0 ∧ v0 < 6 := by rw [hv0]; split <;> omega
                have hPi : (fun (j : Nat) => decide (j = 6 ∨ (j : Int) < τ 8 0) && tB X (st τ 1 g (if j = 6 then -1 else (j : Int))) (cl e) q n) i = decide (sOth X (st τ 1 g v0) (cl e) q n 0 = -1) := by
                  show (decide (i = 6 ∨ (i : Int) < τ 8 0) && _) = _
                  rw [decide_eq_true hT, Bool.true_and, hv0]
                  rfl
                refine r_iasN dX5_firsts_87 (rfl) (by omega) (by omega) (by omega) ?_
                have w1 : TW _ 16 (st τ 1 g v0) := w0.up1 (i := g) (v := v0)
                have f1 : Fr (scb 16) Mv _ := f0.up (k := 18) (i := g) (v := v0) (scb_in (b := 16) (by omega) (by omega))
                have x1 := Rv.2.1.scb tb16 f1
                refine r_iload_5 dX5_firsts_88 (r_aload_0 dX5_firsts_90 (r_aload_0 dX5_firsts_91 (r_getR dX5_firsts_92 fX5_17 (rfl) (rfl) (r_iload_1 dX5_firsts_95 ?_))))
                refine r_aaload dX5_firsts_96 (rfl) (by decide) (by omega) (rsS he4) ?_
                refine r_iload_2 dX5_firsts_97 ?_
                refine r_cVI2 dX5_firsts_98 vX5_211 (rfl) (x_oth he4 w1 (hw.put (by omega)) x1 hq6 (by rw [st_ne (Or.inl (by omega))]; omega) (hsz _ (fv.trans f1)) (by omega) (hsc _ (fv.trans f1))) (by decide) (Nat.le_of_ble_eq_true rfl) (fun b_98 M_98 h_98 => ?_)
                obtain ⟨rfl, f9⟩ := h_98
                have so := sOth_in X (st τ 1 g v0) (cl e) q n 0
                have jn_113 : ∀ (v : Int) (hv : v = if (fun (j : Nat) => decide (j = 6 ∨ (j : Int) < τ 8 0) && tB X (st τ 1 g (if j = 6 then -1 else (j : Int))) (cl e) q n) i = true then 2 ^ i else 0), WP kX5_firsts GX 9 (pI (fun a M2 => a = a_firsts (nT, X, τ, img, τi, tn, tp, ss, sz, cl) (e : Int) (q : Int) (g : Int) ∧ RX M2 (nT, X, τ, img, τi, tn, tp, ss, sz, cl))) z 113 [some (rv 0), some (iv (e : Int)), some (iv (q : Int)), some (iv (g : Int)), some (iv (a_refT (nT, X, τ, img, τi, tn, tp, ss, sz, cl) (e : Int) (q : Int))), some (iv s_), some (iv (i : Int))] [iv v, iv s_] M_98 := by
                  intro v hv
                  refine r_ior (r := s_ + v) dX5_firsts_113 (by rw [hv]; split; exact or_bit (by omega) (by omega); exact or_0 _) ?_
                  refine r_istore_5 dX5_firsts_114 rfl (r_iinc_6 dX5_firsts_116 rfl (r_goto dX5_firsts_119 ?_))
                  exact ih (i + 1) _ _ (by omega) (by simp only [bt]; rw [← hs_, ← hv]) (fv.trans (f1.trans f9)) (by omega)
                refine r_iconst dX5_firsts_101 ?_
                refine r_icmp_ne dX5_firsts_102 (by omega) (by omega) (fun c_102 => ?_) (fun c_102 => ?_)
                · skip
                  refine r_iconst dX5_firsts_112 ?_
                  exact jn_113 _ (by rw [hPi, if_neg (by rw [decide_eq_true_eq]; exact c_102)])
                · skip
                  refine r_iconst dX5_firsts_105 (r_iload_6 dX5_firsts_106 ?_)
                  refine r_ishl (r := 2 ^ i) dX5_firsts_108 (shl_bit10 (by omega)) ?_
                  refine r_goto dX5_firsts_109 ?_
                  exact jn_113 _ (by rw [hPi, if_pos (by rw [decide_eq_true_eq]; exact c_102)])
              refine r_bipush dX5_firsts_76 (by decide) ?_
              refine r_icmp_ne dX5_firsts_78 (by omega) (by omega) (fun c_78 => ?_) (fun c_78 => ?_)
              · skip
                refine r_iload_6 dX5_firsts_85 ?_
                exact jn_87 _ (by rw [if_neg (by omega)])
              · skip
                refine r_iconst dX5_firsts_81 (r_goto dX5_firsts_82 ?_)
                exact jn_87 _ (by rw [if_pos (by omega)])
            refine r_iload_6 dX5_firsts_39 (r_bipush dX5_firsts_41 (by decide) ?_)
            refine r_icmp_eq dX5_firsts_43 (by omega) (by omega) (fun c_43 => ?_) (fun c_43 => ?_)
            · skip
              exact jn_55 (Or.inl (by omega))
            · skip
              refine r_aload_0 dX5_firsts_46 (r_iload_6 dX5_firsts_47 ?_)
              refine r_cVI1 dX5_firsts_49 vX5_107 (rfl) (x_isP (d := 0) hτv (by omega)) (by decide) (Nat.le_of_ble_eq_true rfl) (fun b_49 M_49 h_49 => ?_)
              obtain ⟨rfl, rfl⟩ := h_49
              first | refine r_ifd_eq dX5_firsts_52 (fun c_52 => ?_) (fun c_52 => ?_) | refine r_ifb_eq dX5_firsts_52 (fun c_52 => ?_) (fun c_52 => ?_)
              · skip
                refine r_iinc_6 dX5_firsts_116 rfl (r_goto dX5_firsts_119 ?_)
                have hnP : ¬ (fun (j : Nat) => decide (j = 6 ∨ (j : Int) < τ 8 0) && tB X (st τ 1 g (if j = 6 then -1 else (j : Int))) (cl e) q n) i = true := by
                  intro hh
                  have h3 := of_decide_eq_true (Bool.and_eq_true_iff.mp hh).1
                  omega
                exact ih (i + 1) s_ Mv (by omega) (by rw [show bt (fun (j : Nat) => decide (j = 6 ∨ (j : Int) < τ 8 0) && tB X (st τ 1 g (if j = 6 then -1 else (j : Int))) (cl e) q n) (i + 1) = bt (fun (j : Nat) => decide (j = 6 ∨ (j : Int) < τ 8 0) && tB X (st τ 1 g (if j = 6 then -1 else (j : Int))) (cl e) q n) i + (if (fun (j : Nat) => decide (j = 6 ∨ (j : Int) < τ 8 0) && tB X (st τ 1 g (if j = 6 then -1 else (j : Int))) (cl e) q n) i = true then 2 ^ i else 0) from rfl, if_neg hnP, ← hs_, Int.add_zero]) fv (by omega)
              · skip
                exact jn_55 (Or.inr (by omega))
      exact lp_32 _ 0 0 M (by omega) rfl Fr.refl (Nat.lt_succ_self _)
    · skip
      refine r_bipush dX5_firsts_23 (by decide) ?_
      refine r_ireturn dX5_firsts_25 rfl ?_
      refine ⟨_, rfl, ?_, hR⟩
      unfold a_firsts
      simp only []
      rw [if_neg (by omega), if_pos (by omega)]
  · skip
    refine r_iload_4 dX5_firsts_13 ?_
    refine r_ireturn dX5_firsts_15 rfl ?_
    refine ⟨_, rfl, ?_, hR⟩
    unfold a_firsts
    simp only []
    rw [if_pos (by omega)]

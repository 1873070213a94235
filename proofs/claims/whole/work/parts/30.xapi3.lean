theorem a_ref_in (S : SS) (s : Int) : -11 ≤ a_ref S s ∧ a_ref S s ≤ 0 := by
  obtain ⟨nT, X, τ, img, τi, tn, tp, ss, sz, cl⟩ := S
  unfold a_ref
  simp only []
  (repeat' split) <;> omega
theorem a_refT_in (S : SS) (s p : Int) : -11 ≤ a_refT S s p ∧ a_refT S s p ≤ 0 := by
  obtain ⟨nT, X, τ, r⟩ := S
  have := a_ref_in (nT, X, τ, r) s
  unfold a_refT
  simp only []
  (repeat' split) <;> omega
theorem a_ref_0 {nT tn : Nat} {X : Nat → Tx} {τ τi : Tn} {img : Bool} {tp ss sz : Nat → Int} {cl : Nat → Nat → Int} {s : Int} (h : a_ref (nT, X, τ, img, τi, tn, tp, ss, sz, cl) s = 0) : (0 ≤ s ∧ s < 4) ∧ ¬ ss s.toNat = -1 ∧ sz s.toNat ≤ 20 := by
  unfold a_ref at h
  simp only [] at h
  split at h
  · omega
  · split at h
    · omega
    · split at h <;> omega
theorem a_refT_0 {nT tn : Nat} {X : Nat → Tx} {τ τi : Tn} {img : Bool} {tp ss sz : Nat → Int} {cl : Nat → Nat → Int} {s p : Int} (h : a_refT (nT, X, τ, img, τi, tn, tp, ss, sz, cl) s p = 0) : a_ref (nT, X, τ, img, τi, tn, tp, ss, sz, cl) s = 0 ∧ (0 ≤ p ∧ p < τ 8 0) := by
  unfold a_refT at h
  simp only [] at h
  split at h
  · omega
  · split at h <;> omega
theorem scb_sh {s : Nat} (h : s < 4) : scb 16 (60 + 2 * s) = false ∧ scb 16 (60 + 2 * s + 1) = false := ⟨scb_off (scr_sh h).1 (by omega), scb_off (scr_sh h).2 (by omega)⟩
set_option maxRecDepth 10000 in
set_option maxHeartbeats 4000000 in
theorem x_refS {M : Mem} {nT tn : Nat} {X : Nat → Tx} {τ τi : Tn} {img : Bool} {tp ss sz : Nat → Int} {cl : Nat → Nat → Int} (hR : RX M (nT, X, τ, img, τi, tn, tp, ss, sz, cl)) (hI : INV (nT, X, τ, img, τi, tn, tp, ss, sz, cl)) {s : Int} (h_s : ib s) : Con GX 1 kX5_refusalOfSheet [rv 0, iv s] M (pI (fun a M2 => M = M2 ∧ a = a_ref (nT, X, τ, img, τi, tn, tp, ss, sz, cl) s)) := by
  refine con_of [some (rv 0), some (iv s)] (plX5) rfl (Nat.le_of_ble_eq_true rfl) (fun z => ?_)
  have hR0 := hR
  obtain ⟨hτ, hX, hnT, himg, hτi, ⟨htn, htp⟩, hsh⟩ := hR0
  obtain ⟨⟨iT1, iT6⟩, ⟨hw, icl⟩, iim, ⟨itn, itp⟩, ish⟩ := hI
  obtain ⟨⟨wn, wn2⟩, wcl, ⟨wl, wl2⟩, -, -⟩ := id hw
  have hcl : τ 8 1 < 2147483648 := by omega
  refine r_mb (fun hMB => ?_)
  refine r_iload_1 dX5_refusalOfSheet_0 ?_
  refine r_cSI1 dX5_refusalOfSheet_1 sX5_218 (x_isSheet (d := 0) (by omega)) (by decide) (Nat.le_of_ble_eq_true rfl) (fun b_1 M_1 h_1 => ?_)
  obtain ⟨rfl, rfl⟩ := h_1
  first | refine r_ifd_ne dX5_refusalOfSheet_4 (fun c_4 => ?_) (fun c_4 => ?_) | refine r_ifb_ne dX5_refusalOfSheet_4 (fun c_4 => ?_) (fun c_4 => ?_)
  · skip
    obtain ⟨e, rfl⟩ : ∃ e : Nat, s = e := ⟨s.toNat, by omega⟩
    have he4 : e < 4 := by omega
    have hs := hsh e he4
    have is := ish e he4
    refine r_aload_0 dX5_refusalOfSheet_10 (r_getR dX5_refusalOfSheet_11 fX5_17 (rfl) (rfl) (r_iload_1 dX5_refusalOfSheet_14 ?_))
    refine r_aaload dX5_refusalOfSheet_15 (rfl) (by decide) (by omega) (rsS he4) ?_
    refine r_getE dX5_refusalOfSheet_16 fX5_227 (gS0 he4) (rfl) (hs.1) (r_iconst dX5_refusalOfSheet_19 ?_)
    refine r_icmp_ne dX5_refusalOfSheet_20 (by omega) (by omega) (fun c_20 => ?_) (fun c_20 => ?_)
    · skip
      refine r_aload_0 dX5_refusalOfSheet_26 (r_getR dX5_refusalOfSheet_27 fX5_17 (rfl) (rfl) (r_iload_1 dX5_refusalOfSheet_30 ?_))
      refine r_aaload dX5_refusalOfSheet_31 (rfl) (by decide) (by omega) (rsS he4) ?_
      refine r_getE dX5_refusalOfSheet_32 fX5_230 (gS0 he4) (rfl) (hs.2.1) (r_bipush dX5_refusalOfSheet_35 (by decide) ?_)
      refine r_icmp_le dX5_refusalOfSheet_37 (by omega) (by omega) (fun c_37 => ?_) (fun c_37 => ?_)
      · skip
        refine r_iconst dX5_refusalOfSheet_45 ?_
        refine r_ireturn dX5_refusalOfSheet_46 rfl ?_
        refine ⟨_, rfl, rfl, ?_⟩
        unfold a_ref
        simp only [Int.toNat_natCast]
        (repeat' split) <;> first | with_reducible rfl | omega
      · skip
        refine r_bipush dX5_refusalOfSheet_40 (by decide) (r_goto dX5_refusalOfSheet_42 ?_)
        refine r_ireturn dX5_refusalOfSheet_46 rfl ?_
        refine ⟨_, rfl, rfl, ?_⟩
        unfold a_ref
        simp only [Int.toNat_natCast]
        (repeat' split) <;> first | with_reducible rfl | omega
    · skip
      refine r_bipush dX5_refusalOfSheet_23 (by decide) ?_
      refine r_ireturn dX5_refusalOfSheet_25 rfl ?_
      refine ⟨_, rfl, rfl, ?_⟩
      unfold a_ref
      simp only [Int.toNat_natCast]
      (repeat' split) <;> first | with_reducible rfl | omega
  · skip
    refine r_bipush dX5_refusalOfSheet_7 (by decide) ?_
    refine r_ireturn dX5_refusalOfSheet_9 rfl ?_
    refine ⟨_, rfl, rfl, ?_⟩
    unfold a_ref
    simp only [Int.toNat_natCast]
    (repeat' split) <;> first | with_reducible rfl | omega
set_option maxRecDepth 10000 in
set_option maxHeartbeats 4000000 in
theorem x_refT {M : Mem} {nT tn : Nat} {X : Nat → Tx} {τ τi : Tn} {img : Bool} {tp ss sz : Nat → Int} {cl : Nat → Nat → Int} (hR : RX M (nT, X, τ, img, τi, tn, tp, ss, sz, cl)) (hI : INV (nT, X, τ, img, τi, tn, tp, ss, sz, cl)) {s p : Int} (h_s : ib s) (h_p : ib p) : Con GX 2 kX5_refusalOfTold [rv 0, iv s, iv p] M (pI (fun a M2 => M = M2 ∧ a = a_refT (nT, X, τ, img, τi, tn, tp, ss, sz, cl) s p)) := by
  refine con_of [some (rv 0), some (iv s), some (iv p), none] (plX5) rfl (Nat.le_of_ble_eq_true rfl) (fun z => ?_)
  have hR0 := hR
  obtain ⟨hτ, hX, hnT, himg, hτi, ⟨htn, htp⟩, hsh⟩ := hR0
  have hI0 := hI
  obtain ⟨⟨iT1, iT6⟩, ⟨hw, icl⟩, iim, ⟨itn, itp⟩, ish⟩ := hI
  obtain ⟨⟨wn, wn2⟩, wcl, ⟨wl, wl2⟩, -, -⟩ := id hw
  have hcl : τ 8 1 < 2147483648 := by omega
  refine r_mb (fun hMB => ?_)
  refine r_aload_0 dX5_refusalOfTold_0 (r_iload_1 dX5_refusalOfTold_1 ?_)
  refine r_cVI1 dX5_refusalOfTold_2 vX5_215 (rfl) (x_refS hR hI0 (by omega)) (by decide) (Nat.le_of_ble_eq_true rfl) (fun b_2 M_2 h_2 => ?_)
  obtain ⟨rfl, rfl⟩ := h_2
  have rb := a_ref_in (nT, X, τ, img, τi, tn, tp, ss, sz, cl) s
  refine r_istore_3 dX5_refusalOfTold_5 rfl (r_iload_3 dX5_refusalOfTold_6 ?_)
  refine r_if_ne dX5_refusalOfTold_7 (by omega) (fun c_7 => ?_) (fun c_7 => ?_)
  · skip
    refine r_iload_3 dX5_refusalOfTold_18 (r_goto dX5_refusalOfTold_19 ?_)
    refine r_ireturn dX5_refusalOfTold_24 rfl ?_
    refine ⟨_, rfl, rfl, ?_⟩
    unfold a_refT
    simp only []
    (repeat' split) <;> first | with_reducible rfl | omega
  · skip
    refine r_aload_0 dX5_refusalOfTold_10 (r_iload_2 dX5_refusalOfTold_11 ?_)
    refine r_cVI1 dX5_refusalOfTold_12 vX5_107 (rfl) (x_isP (d := 0) hτ (by omega)) (by decide) (Nat.le_of_ble_eq_true rfl) (fun b_12 M_12 h_12 => ?_)
    obtain ⟨rfl, rfl⟩ := h_12
    first | refine r_ifd_eq dX5_refusalOfTold_15 (fun c_15 => ?_) (fun c_15 => ?_) | refine r_ifb_eq dX5_refusalOfTold_15 (fun c_15 => ?_) (fun c_15 => ?_)
    · skip
      refine r_bipush dX5_refusalOfTold_22 (by decide) ?_
      refine r_ireturn dX5_refusalOfTold_24 rfl ?_
      refine ⟨_, rfl, rfl, ?_⟩
      unfold a_refT
      simp only []
      (repeat' split) <;> first | with_reducible rfl | omega
    · skip
      refine r_iload_3 dX5_refusalOfTold_18 (r_goto dX5_refusalOfTold_19 ?_)
      refine r_ireturn dX5_refusalOfTold_24 rfl ?_
      refine ⟨_, rfl, rfl, ?_⟩
      unfold a_refT
      simp only []
      (repeat' split) <;> first | with_reducible rfl | omega
set_option maxRecDepth 10000 in
set_option maxHeartbeats 4000000 in
theorem x_oth {M : Mem} {s p n nT : Nat} {τ : Tn} {X : Nat → Tx} {c : Nat → Int} (hs4 : s < 4) (hτ : TW M 16 τ) (hw : WF nT τ) (hX : XT M nT X) (hp : p < 6) (hcl : τ 8 1 < 1000000) (hz : M (60 + 2 * s) 2 = (n : Int)) (hn : n ≤ 40) (hc : ∀ i, i < n → M (60 + 2 * s + 1) i = c i) : Con GX 6 kX5_otherwise [rv 0, rv (60 + 2 * s), iv (p : Int)] M (pI (fun a M2 => a = sOth X τ c p n 0 ∧ Fr (scb 16) M M2)) := by
  refine con_of [some (rv 0), some (rv (60 + 2 * s)), some (iv (p : Int)), none] (plX5) rfl (Nat.le_of_ble_eq_true rfl) (fun z => ?_)
  have ss := scb_sh hs4
  refine r_iconst dX5_otherwise_0 (r_istore_3 dX5_otherwise_1 rfl ?_)
  have lp_2 : ∀ (NN : Nat) (m i : Nat) (Mv : Mem) (hi : i + m = n) (wv : TW Mv 16 (sRun X τ i)) (fv : Fr (scb 16) M Mv) (hso : sOth X τ c p m i = sOth X τ c p n 0), m < NN → WP kX5_otherwise GX 6 (pI (fun a M2 => a = sOth X τ c p n 0 ∧ Fr (scb 16) M M2)) z 2 [some (rv 0), some (rv (60 + 2 * s)), some (iv (p : Int)), some (iv (i : Int))] [] Mv := by
    intro NN
    induction NN with
    | zero => intros; omega
    | succ NN ih =>
      intro m i Mv hi wv fv hso hm
      have hck := sRun_clk X τ i
      have wr := sRun_wf (X := X) hw i
      refine r_mb (fun hMv => ?_)
      refine r_iload_3 dX5_otherwise_2 ?_
      refine r_aload_1 dX5_otherwise_3 (r_getE dX5_otherwise_4 fX5_230 (gS0 hs4) (rfl) ((fv _ _ ss.1).trans hz) ?_)
      refine r_icmp_ge dX5_otherwise_7 (by omega) (by omega) (fun c_7 => ?_) (fun c_7 => ?_)
      · skip
        obtain rfl : m = 0 := by omega
        refine r_iconst dX5_otherwise_44 ?_
        refine r_ireturn dX5_otherwise_45 rfl ?_
        exact ⟨_, rfl, by rw [← hso]; rfl, fv⟩
      · skip
        obtain ⟨m, rfl⟩ : ∃ k, m = k + 1 := ⟨m - 1, by omega⟩
        refine r_aload_0 dX5_otherwise_10 (r_getR dX5_otherwise_11 fX5_46 (rfl) (rfl) ?_)
        refine r_cVI0 dX5_otherwise_14 vX5_167 (rfl) (x_pass (b := 16) tb16 wv wr (hX.scb tb16 fv) (by omega)) (by decide) (Nat.le_of_ble_eq_true rfl) (fun b_14 M_14 h_14 => ?_)
        obtain ⟨rfl, w2, f2⟩ := h_14
        have wr1 := (sRun_wf (X := X) hw (i + 1)).p hp
        have w2 : TW M_14 16 (sRun X τ (i + 1)) := w2
        have hb := hMv (60 + 2 * s + 1) i
        have hci := (fv _ i ss.2).trans (hc i (by omega))
        rw [hci] at hb
        refine r_pop_i dX5_otherwise_17 (r_aload_0 dX5_otherwise_18 (r_getR dX5_otherwise_19 fX5_46 (rfl) (rfl) (r_getR dX5_otherwise_22 fX5_140 (rfl) (rfl) (r_iload_2 dX5_otherwise_25 (r_ialN dX5_otherwise_26 (rfl) (by omega) (by omega) (w2.e4 hp) (r_aload_1 dX5_otherwise_27 (r_getR dX5_otherwise_28 fX5_231 (gS0 hs4) (rfl) (r_iload_3 dX5_otherwise_31 (r_ialN dX5_otherwise_32 (gS1 hs4) (by omega) (by omega) ((f2 _ i ss.2).trans hci) ?_)))))))))
        refine r_icmp_eq dX5_otherwise_33 (by omega) (by omega) (fun c_33 => ?_) (fun c_33 => ?_)
        · skip
          refine r_iinc_3 dX5_otherwise_38 rfl (r_goto dX5_otherwise_41 ?_)
          exact ih m (i + 1) M_14 (by omega) w2 (fv.trans f2) (by rw [← hso]; simp only [sOth]; rw [if_pos c_33]) (by omega)
        · skip
          refine r_iload_3 dX5_otherwise_36 ?_
          refine r_ireturn dX5_otherwise_37 rfl ?_
          refine ⟨_, rfl, ?_, fv.trans f2⟩
          rw [← hso]
          simp only [sOth]
          rw [if_neg c_33]
  exact lp_2 _ n 0 M (by omega) hτ Fr.refl rfl (Nat.lt_succ_self _)
set_option maxRecDepth 10000 in
set_option maxHeartbeats 4000000 in
theorem x5_judge {M : Mem} {nT tn : Nat} {X : Nat → Tx} {τ τi : Tn} {img : Bool} {tp ss sz : Nat → Int} {cl : Nat → Nat → Int} (hR : RX M (nT, X, τ, img, τi, tn, tp, ss, sz, cl)) (hI : INV (nT, X, τ, img, τi, tn, tp, ss, sz, cl)) {s : Int} (h_s : ib s) {p : Int} (h_p : ib p) : Con GX 9 kX5_judge [rv 0, iv s, iv p] M (pI (fun a M2 => a = a_judge (nT, X, τ, img, τi, tn, tp, ss, sz, cl) s p ∧ RX M2 (nT, X, τ, img, τi, tn, tp, ss, sz, cl))) := by
  refine con_of [some (rv 0), some (iv s), some (iv p), none] (plX5) rfl (Nat.le_of_ble_eq_true rfl) (fun z => ?_)
  have hR0 := hR
  obtain ⟨hτ, hX, hnT, himg, hτi, ⟨htn, htp⟩, hsh⟩ := hR0
  have hI0 := hI
  obtain ⟨⟨iT1, iT6⟩, ⟨hw, icl⟩, iim, ⟨itn, itp⟩, ish⟩ := hI
  obtain ⟨⟨wn, wn2⟩, wcl, ⟨wl, wl2⟩, -, -⟩ := id hw
  have hcl : τ 8 1 < 2147483648 := by omega
  refine r_mb (fun hMB => ?_)
  refine r_aload_0 dX5_judge_0 (r_iload_1 dX5_judge_1 (r_iload_2 dX5_judge_2 ?_))
  refine r_cVI2 dX5_judge_3 vX5_208 (rfl) (x_refT hR hI0 (by omega) (by omega)) (by decide) (Nat.le_of_ble_eq_true rfl) (fun b_3 M_3 h_3 => ?_)
  obtain ⟨rfl, rfl⟩ := h_3
  have rb := a_refT_in (nT, X, τ, img, τi, tn, tp, ss, sz, cl) s p
  refine r_istore_3 dX5_judge_6 rfl (r_iload_3 dX5_judge_7 ?_)
  refine r_if_eq dX5_judge_8 (by omega) (fun c_8 => ?_) (fun c_8 => ?_)
  · skip
    have hz0 : a_refT (nT, X, τ, img, τi, tn, tp, ss, sz, cl) s p = 0 := by omega
    obtain ⟨ha0, hpp⟩ := a_refT_0 hz0
    obtain ⟨hs4, hsn, hs20⟩ := a_ref_0 ha0
    obtain ⟨e, rfl⟩ : ∃ e : Nat, s = e := ⟨s.toNat, by omega⟩
    have he4 : e < 4 := by omega
    have hs := hsh e he4
    have is := ish e he4
    obtain ⟨q, rfl⟩ : ∃ q : Nat, p = q := ⟨p.toNat, by omega⟩
    have hq6 : q < 6 := by omega
    have wq := hw.p hq6
    have eq : ((q : Nat) : Int).toNat = q := Int.toNat_natCast q
    have hs20 : sz e ≤ 20 := hs20
    obtain ⟨n, hn⟩ : ∃ n : Nat, sz e = n := ⟨(sz e).toNat, by omega⟩
    have hnt : (sz e).toNat = n := by omega
    have he : ((e : Nat) : Int).toNat = e := Int.toNat_natCast e
    have hsz : ∀ Mv : Mem, Fr (scb 16) M Mv → Mv (60 + 2 * e) 2 = (n : Int) := fun Mv hF => (hF _ _ (scb_sh he4).1).trans (hs.2.1.trans hn)
    have hsc : ∀ Mv : Mem, Fr (scb 16) M Mv → ∀ i, i < n → Mv (60 + 2 * e + 1) i = cl e i := fun Mv hF i hi => (hF _ _ (scb_sh he4).2).trans (hs.2.2 i (by omega))
    refine r_aload_0 dX5_judge_13 (r_getR dX5_judge_14 fX5_46 (rfl) (rfl) (r_aload_0 dX5_judge_17 (r_getR dX5_judge_18 fX5_42 (rfl) (rfl) ?_)))
    refine r_cVV1 dX5_judge_21 vX5_175 (rfl) (x_become tb16 tb6 (by decide) hτ) (by decide) (Nat.le_of_ble_eq_true rfl) (fun M_21 h_21 => ?_)
    obtain ⟨w0, f0⟩ := h_21
    have x0 := hX.scb tb16 f0
    have R0 := hR.th f0
    have hτ0 := R0.1
    refine r_aload_0 dX5_judge_24 (r_aload_0 dX5_judge_25 (r_getR dX5_judge_26 fX5_17 (rfl) (rfl) (r_iload_1 dX5_judge_29 ?_)))
    refine r_aaload dX5_judge_30 (rfl) (by decide) (by omega) (rsS he4) ?_
    refine r_iload_2 dX5_judge_31 ?_
    refine r_cVI2 dX5_judge_32 vX5_211 (rfl) (x_oth he4 (w0) (hw) (x0) hq6 (by first | omega | (rw [st_ne (by decide)]; omega)) (hsz _ (f0)) (by omega) (hsc _ (f0))) (by decide) (Nat.le_of_ble_eq_true rfl) (fun b_32 M_32 h_32 => ?_)
    obtain ⟨rfl, f9⟩ := h_32
    refine r_ireturn dX5_judge_35 rfl ?_
    refine ⟨_, rfl, ?_, R0.th f9⟩
    unfold a_judge
    simp only [Int.toNat_natCast]
    rw [if_neg (by omega), hnt]
  · skip
    refine r_iload_3 dX5_judge_11 ?_
    refine r_ireturn dX5_judge_12 rfl ?_
    refine ⟨_, rfl, ?_, hR⟩
    unfold a_judge
    simp only []
    rw [if_pos (by omega)]

theorem Fr.gE {t : Nat} {M M2 : Mem} (h : Fr (gc t) M M2) : Fr (fun c => gc t c || c == 36 + 4 * t + 2) M M2 := h.mono (fun c hc => (Bool.or_eq_false_iff.mp hc).1)
set_option maxRecDepth 10000 in
set_option maxHeartbeats 4000000 in
theorem x_expectEnd {M : Mem} {tp : Nat → Int} {tn t : Nat} {R : RS} (ht : t < 6) (hG : GO tp tn t R M) : Con GX 7 kX0_expect [rv 5, iv (-1)] M (pV (fun M2 => Fr (gc t) M M2 ∧ M2 5 1 = flt tp tn (rbd R (fun j w => if tk tp tn j = -1 then (j, some w) else (j, none))) ∧ ∀ j w, rbd R (fun j w => if tk tp tn j = -1 then (j, some w) else (j, none)) = (j, some w) → CD M2 t w)) := by
  refine con_of [some (rv 5), some (iv (-1))] (plX0) rfl (Nat.le_of_ble_eq_true rfl) (fun z => ?_)
  have htk := tkR_in (tp := tp) (tn := tn) (R := R)
  refine r_aload_0 dX0_expect_0 (r_getR dX0_expect_1 fX0_15 (rfl) (rfl) (r_getE dX0_expect_4 fX0_40 (rfl) (rfl) (hG.tok) (r_iload_1 dX0_expect_7 ?_)))
  refine r_icmp_eq dX0_expect_8 (by omega) (by omega) (fun c_8 => ?_) (fun c_8 => ?_)
  · skip
    obtain ⟨j, w, rfl, he⟩ := tkR_some c_8 (by decide)
    have hG0 : GS tp tn t j w M := hG
    refine r_aload_0 dX0_expect_18 (r_getR dX0_expect_19 fX0_15 (rfl) (rfl) ?_)
    refine r_cVV0 dX0_expect_22 vX0_46 (rfl) (x_adv hG0.1 hG0.2.2.1 (ps_in (j + 1))) (by decide) (Nat.le_of_ble_eq_true rfl) (fun M_22 h_22 => ?_)
    obtain ⟨g1, -⟩ := h_22
    refine r_vreturn dX0_expect_25 rfl ?_
    rw [rbd_some, if_pos he]
    refine ⟨rfl, g1.toG, (g1 5 1 (by omega)).trans hG0.2.2.2.2.2.2.1, fun j2 w2 e => ?_⟩
    simp only [Prod.mk.injEq, Option.some.injEq] at e
    obtain ⟨rfl, rfl⟩ := e
    exact hG0.2.2.2.2.2.2.2.fr (g1 _ _ (by omega)) (fun i => g1 _ _ (by omega))
  · skip
    refine r_aload_0 dX0_expect_11 ?_
    refine r_cVV0 dX0_expect_12 vX0_43 (rfl) (x_refuse ht hG) (by decide) (Nat.le_of_ble_eq_true rfl) (fun M_12 h_12 => ?_)
    obtain ⟨g1, g2⟩ := h_12
    refine r_goto dX0_expect_15 ?_
    refine r_vreturn dX0_expect_25 rfl ?_
    obtain ⟨j, x⟩ := R
    rcases x with _ | w
    · exact ⟨rfl, g2, g1.2.2.2.1, fun j2 w2 e => by cases e⟩
    · have c : ¬ tk tp tn j = -1 := c_8
      rw [rbd_some, if_neg c]
      exact ⟨rfl, g2, g1.2.2.2.1, fun j2 w2 e => by cases e⟩
set_option maxRecDepth 10000 in
set_option maxHeartbeats 4000000 in
theorem x_endPart {M : Mem} {t m n : Nat} (ht : t < 6) (hm : m < 3) (hn : M (36 + 4 * t) 3 = (n : Int)) (hn2 : n ≤ 160) : Con GX 0 kX3_endPart [rv (36 + 4 * t), iv (m : Int)] M (pV (fun M2 => M2 = upM M (36 + 4 * t + 2) m (n : Int))) := by
  refine con_of [some (rv (36 + 4 * t)), some (iv (m : Int))] (plX3) rfl (Nat.le_of_ble_eq_true rfl) (fun z => ?_)
  refine r_iload_1 dX3_endPart_0 ?_
  refine r_if_lt dX3_endPart_1 (by omega) (fun c_1 => ?_) (fun c_1 => ?_)
  · omega
  · skip
    refine r_iload_1 dX3_endPart_4 (r_aload_0 dX3_endPart_5 (r_getR dX3_endPart_6 fX3_15 (gX0 ht) (rfl) ?_))
    refine r_alen dX3_endPart_9 (gX2 ht) ?_
    refine r_icmp_ge dX3_endPart_10 (by omega) (by omega) (fun c_10 => ?_) (fun c_10 => ?_)
    · omega
    · skip
      refine r_aload_0 dX3_endPart_13 (r_getR dX3_endPart_14 fX3_15 (gX0 ht) (rfl) (r_iload_1 dX3_endPart_17 (r_aload_0 dX3_endPart_18 (r_getE dX3_endPart_19 fX3_21 (gX0 ht) (rfl) (hn) ?_))))
      refine r_iasN dX3_endPart_22 (gX2 ht) (by omega) (by omega) (by omega) ?_
      refine r_vreturn dX3_endPart_23 rfl ?_
      exact ⟨rfl, rfl⟩
set_option maxRecDepth 10000 in
set_option maxHeartbeats 4000000 in
theorem x_read {M : Mem} {tp : Nat → Int} {tn t : Nat} (ht : t < 6) (hL : LT M tp tn) : Con GX 50 kX0_read [rv 5, rv (36 + 4 * t)] M (pI (fun a M2 => a = flt tp tn (pEx (tk tp tn) (vl tp tn)) ∧ Fr (fun c => gc t c || c == 36 + 4 * t + 2) M M2 ∧ ∀ j w, pEx (tk tp tn) (vl tp tn) = (j, some w) → CD M2 t w ∧ EN tp tn t 3 M2)) := by
  refine con_of [some (rv 5), some (rv (36 + 4 * t)), none] (plX0) rfl (Nat.le_of_ble_eq_true rfl) (fun z => ?_)
  refine r_aload_0 dX0_read_0 (r_iconst dX0_read_1 ?_)
  refine r_put dX0_read_2 pX0_9 (rfl) (rfl) (by omega) ?_
  refine r_aload_1 dX0_read_5 (r_iconst dX0_read_6 ?_)
  refine r_put dX0_read_7 pX0_19 (gX0 ht) (rfl) (by omega) ?_
  have hL1 : LT (upM (upM M 5 1 (-1)) (36 + 4 * t) 3 0) tp tn := ⟨hL.1, (upM_ne (Or.inl (by omega))).trans ((upM_ne (Or.inl (by decide))).trans hL.2.1), fun i hi => (upM_ne (Or.inl (by omega))).trans ((upM_ne (Or.inl (by decide))).trans (hL.2.2 i hi))⟩
  refine r_aload_0 dX0_read_10 (r_getR dX0_read_11 fX0_15 (rfl) (rfl) ?_)
  refine r_cVV0 dX0_read_14 vX0_24 (rfl) (x_rewind (hL1)) (by decide) (Nat.le_of_ble_eq_true rfl) (fun M_14 h_14 => ?_)
  obtain ⟨r1, r2, r3, r4, r5⟩ := h_14
  have hG0 : GO tp tn t (0, some []) M_14 := ⟨hL1.ft r1, ⟨Nat.le_refl _, by decide⟩, r2, r3, r4, r5, (r1 _ _ (by omega)).trans ((upM_ne (Or.inl (by omega))).trans upM_self), (r1 _ _ (by omega)).trans upM_self, fun i hi => absurd hi (Nat.not_lt_zero _)⟩
  have hF0 : Fr (fun c => gc t c || c == 36 + 4 * t + 2) M M_14 := ((Fr.refl.up (by simp [gc])).up (by simp [gc])).trans (r1.toG (t := t)).gE
  refine r_iconst dX0_read_17 (r_istore_2 dX0_read_18 rfl ?_)
  have lp_19 : ∀ (NN : Nat) (n : Nat) (Mv : Mem) (hn : n ≤ 3) (hGv : GO tp tn t (pR (tk tp tn) (vl tp tn) n) Mv) (fv : Fr (fun c => gc t c || c == 36 + 4 * t + 2) M Mv) (hE : EN tp tn t n Mv), 10 - n < NN → WP kX0_read GX 50 (pI (fun a M2 => a = flt tp tn (pEx (tk tp tn) (vl tp tn)) ∧ Fr (fun c => gc t c || c == 36 + 4 * t + 2) M M2 ∧ ∀ j w, pEx (tk tp tn) (vl tp tn) = (j, some w) → CD M2 t w ∧ EN tp tn t 3 M2)) z 19 [some (rv 5), some (rv (36 + 4 * t)), some (iv (n : Int))] [] Mv := by
    intro NN
    induction NN with
    | zero => intros; omega
    | succ NN ih =>
      intro n Mv hn hGv fv hE hm
      refine r_iload_2 dX0_read_19 ?_
      refine r_iconst dX0_read_20 ?_
      refine r_icmp_ge dX0_read_21 (by omega) (by omega) (fun c_21 => ?_) (fun c_21 => ?_)
      · skip
        refine r_aload_0 dX0_read_57 (r_iconst dX0_read_58 ?_)
        refine r_cVV1 dX0_read_59 vX0_29 (rfl) (x_expectEnd ht hGv) (by decide) (Nat.le_of_ble_eq_true rfl) (fun M_59 h_59 => ?_)
        obtain rfl : n = 3 := by omega
        obtain ⟨a1, a2, a3⟩ := h_59
        refine r_aload_0 dX0_read_62 (r_getI dX0_read_63 fX0_9 (rfl) (rfl) ?_)
        refine r_ireturn dX0_read_66 rfl ?_
        refine ⟨_, rfl, a2, fv.trans a1.gE, fun j w e => ⟨a3 j w e, hE.fr (fun m => a1 _ _ (gc_off (by omega) (by omega) (by omega) (by omega)))⟩⟩
      · skip
        refine r_aload_0 dX0_read_24 (r_sipush dX0_read_25 (by decide) (r_iload_2 dX0_read_28 (r_iadd dX0_read_29 ?_)))
        refine r_cVV1 dX0_read_30 vX0_29 (rfl) (x_expect ht hGv (y := 256 + (n : Int)) (by omega) (by omega) (by omega)) (by decide) (Nat.le_of_ble_eq_true rfl) (fun M_30 h_30 => ?_)
        obtain ⟨a1, a2⟩ := h_30
        refine r_aload_0 dX0_read_33 (r_aload_1 dX0_read_34 (r_iconst dX0_read_35 (r_iconst dX0_read_36 ?_)))
        refine r_cVV3 dX0_read_37 vX0_33 (rfl) (gL_con0 ht _ M_30 a1) (by decide) (Nat.le_of_ble_eq_true rfl) (fun M_37 h_37 => ?_)
        obtain ⟨q1, q2⟩ := h_37
        refine r_aload_0 dX0_read_40 (r_bipush dX0_read_41 (by decide) ?_)
        refine r_cVV1 dX0_read_43 vX0_29 (rfl) (x_expect ht q1 (y := 59) (by omega) (by decide) (by decide)) (by decide) (Nat.le_of_ble_eq_true rfl) (fun M_43 h_43 => ?_)
        obtain ⟨e1, e2⟩ := h_43
        rw [pR_step] at e1
        obtain ⟨z, hz, hz1, hz2⟩ := e1.size
        refine r_aload_1 dX0_read_46 (r_iload_2 dX0_read_47 ?_)
        refine r_cVV1 dX0_read_48 vX0_37 (gX0 ht) (x_endPart ht (m := n) (by omega) hz1 hz) (by decide) (Nat.le_of_ble_eq_true rfl) (fun M_48 h_48 => ?_)
        subst h_48
        have hE2 : EN tp tn t (n + 1) (upM M_43 (36 + 4 * t + 2) n (z : Int)) := fun m hm j w e => by
          by_cases q : m = n
          · subst q
            rw [upM_self, hz2 j w e]
          · rw [upM_ne (Or.inr q), e2 _ _ (gc_off (by omega) (by omega) (by omega) (by omega)), q2 _ _ (gc_off (by omega) (by omega) (by omega) (by omega)), a2 _ _ (gc_off (by omega) (by omega) (by omega) (by omega))]
            exact hE m (by omega) j w e
        refine r_iinc_2 dX0_read_51 rfl (r_goto dX0_read_54 ?_)
        exact ih (n + 1) _ (by omega) e1.end (fv.trans ((a2.gE.trans (q2.gE.trans e2.gE)).trans (Fr.refl.up (by simp [gc])))) hE2 (by omega)
  exact lp_19 _ 0 M_14 (by omega) hG0 hF0 (fun m hm => absurd hm (Nat.not_lt_zero _)) (Nat.lt_succ_self _)
theorem RX.text {M M2 : Mem} {nT tn : Nat} {X : Nat → Tx} {τ τi : Tn} {img : Bool} {tp ss sz : Nat → Int} {cl : Nat → Nat → Int} (h : RX M (nT, X, τ, img, τi, tn, tp, ss, sz, cl)) (hn : nT < 6) (hF : Fr (fun c => gc nT c || c == 36 + 4 * nT + 2) M M2) : RX (upM M2 3 1 0) (nT, X, τ, img, τi, 0, tp, ss, sz, cl) := by
  have off : ∀ c : Nat, c ≠ 3 → c ≠ 5 → c ≠ 36 + 4 * nT → c ≠ 36 + 4 * nT + 1 → c ≠ 36 + 4 * nT + 2 → ∀ i, upM M2 3 1 0 c i = M c i := fun c g3 g5 g0 g1 g2 i => by
    rw [upM_ne (Or.inl g3)]
    exact hF c i (by rw [Bool.or_eq_false_iff, beq_eq_false_iff_ne]; exact ⟨gc_off g3 g5 g0 g1, g2⟩)
  have F : Fr (fun c => !(decide (c ≠ 3 ∧ c ≠ 5 ∧ c ≠ 36 + 4 * nT ∧ c ≠ 36 + 4 * nT + 1 ∧ c ≠ 36 + 4 * nT + 2))) M (upM M2 3 1 0) := fun c i hc => by
    rw [Bool.not_eq_false', decide_eq_true_eq] at hc
    exact off c hc.1 hc.2.1 hc.2.2.1 hc.2.2.2.1 hc.2.2.2.2 i
  have D : ∀ c : Nat, c ≠ 3 → c ≠ 5 → c ≠ 36 + 4 * nT → c ≠ 36 + 4 * nT + 1 → c ≠ 36 + 4 * nT + 2 → (!(decide (c ≠ 3 ∧ c ≠ 5 ∧ c ≠ 36 + 4 * nT ∧ c ≠ 36 + 4 * nT + 1 ∧ c ≠ 36 + 4 * nT + 2))) = false := fun c g3 g5 g0 g1 g2 => by
    rw [Bool.not_eq_false', decide_eq_true_eq]
    exact ⟨g3, g5, g0, g1, g2⟩
  obtain ⟨h1, h2, h3, h4, h5, h6, h7⟩ := h
  refine ⟨h1.fr F (fun c g1 g2 => D c (by omega) (by omega) (by omega) (by omega) (by omega)), ⟨h2.1, fun t ht => ⟨(h2.2 t ht).1.fr F (D _ (by omega) (by omega) (by omega) (by omega) (by omega)) (D _ (by omega) (by omega) (by omega) (by omega) (by omega)), (h2.2 t ht).2⟩⟩, (off _ (by omega) (by omega) (by omega) (by omega) (by omega) _).trans h3, (off _ (by omega) (by omega) (by omega) (by omega) (by omega) _).trans h4, fun hi => (h5 hi).fr F (fun c g1 g2 => D c (by omega) (by omega) (by omega) (by omega) (by omega)), ⟨upM_self, fun i hi => absurd hi (Nat.not_lt_zero _)⟩, fun s hs => ?_⟩
  have h8 := h7 s hs
  exact ⟨(off _ (by omega) (by omega) (by omega) (by omega) (by omega) _).trans h8.1, (off _ (by omega) (by omega) (by omega) (by omega) (by omega) _).trans h8.2.1, fun i hi => (off _ (by omega) (by omega) (by omega) (by omega) (by omega) _).trans (h8.2.2 i hi)⟩
theorem RX.text1 {M : Mem} {nT tn : Nat} {X : Nat → Tx} {τ τi : Tn} {img : Bool} {tp ss sz : Nat → Int} {cl : Nat → Nat → Int} {T : Tx} (h : RX M (nT, X, τ, img, τi, tn, tp, ss, sz, cl)) (hn : nT < 6) (hT : TextX M (36 + 4 * nT) T) (hT2 : okT T) : RX (upM M 0 7 ((nT : Int) + 1)) (nT + 1, upX X nT T, τ, img, τi, tn, tp, ss, sz, cl) := by
  have hU : Fr (fun c => decide (c = 0)) M (upM M 0 7 ((nT : Int) + 1)) := Fr.refl.up rfl
  have D : ∀ c : Nat, c ≠ 0 → decide (c = 0) = false := fun c hc => decide_eq_false hc
  obtain ⟨h1, h2, h3, h4, h5, h6, h7⟩ := h
  refine ⟨h1.fr hU (fun c g1 g2 => D c (by omega)), ⟨by omega, fun t ht => ?_⟩, by rw [upM_self]; omega, (upM_ne (Or.inr (by decide))).trans h4, fun hi => (h5 hi).fr hU (fun c g1 g2 => D c (by omega)), ⟨(hU _ _ (D _ (by decide))).trans h6.1, fun i hi => (hU _ _ (D _ (by decide))).trans (h6.2 i hi)⟩, fun s hs => ?_⟩
  · by_cases e : t = nT
    · subst e
      unfold upX
      rw [if_pos rfl]
      exact ⟨hT.fr hU (D _ (by omega)) (D _ (by omega)), hT2⟩
    · unfold upX
      rw [if_neg e]
      have h8 := h2.2 t (by omega)
      exact ⟨h8.1.fr hU (D _ (by omega)) (D _ (by omega)), h8.2⟩
  · have h8 := h7 s hs
    exact ⟨(hU _ _ (D _ (by omega))).trans h8.1, (hU _ _ (D _ (by omega))).trans h8.2.1, fun i hi => (hU _ _ (D _ (by omega))).trans (h8.2.2 i hi)⟩
theorem TextX.of {M : Mem} {tp : Nat → Int} {tn t j : Nat} {w : List Int} (hw : pR (tk tp tn) (vl tp tn) 3 = (j, some w)) (hC : CD M t w) (hE : EN tp tn t 3 M) : TextX M (36 + 4 * t) (pT (tk tp tn) (vl tp tn)) := by
  have part : ∀ m, m < 3 → M (36 + 4 * t + 2) m = (pT (tk tp tn) (vl tp tn)).2 (m + 1) := fun m hm => by
    have key : ∃ j1 w1, pR (tk tp tn) (vl tp tn) (m + 1) = (j1, some w1) := by
      have s2 : ∃ j1 w1, pR (tk tp tn) (vl tp tn) 2 = (j1, some w1) := by
        simp only [pR] at hw ⊢
        generalize rbd (rbd (0, some []) (pPart (tk tp tn) (vl tp tn) 0)) (pPart (tk tp tn) (vl tp tn) 1) = R at hw ⊢
        obtain ⟨j1, x⟩ := R
        cases x with
        | none => simp [rbd] at hw
        | some o => exact ⟨j1, o, rfl⟩
      have s1 : ∃ j1 w1, pR (tk tp tn) (vl tp tn) 1 = (j1, some w1) := by
        obtain ⟨j2, w2, s2⟩ := s2
        simp only [pR] at s2 ⊢
        generalize rbd (0, some []) (pPart (tk tp tn) (vl tp tn) 0) = R at s2 ⊢
        obtain ⟨j1, x⟩ := R
        cases x with
        | none => simp [rbd] at s2
        | some o => exact ⟨j1, o, rfl⟩
      rcases (by omega : m = 0 ∨ m = 1 ∨ m = 2) with rfl | rfl | rfl
      · exact s1
      · exact s2
      · exact ⟨_, _, hw⟩
    obtain ⟨j1, w1, hk⟩ := key
    rw [hE m hm j1 w1 hk]
    simp only [pT, hk, Option.getD_some]
  refine ⟨fun i hi => ?_, part 0 (by decide), part 1 (by decide), part 2 (by decide)⟩
  have e3 : (pT (tk tp tn) (vl tp tn)).2 3 = (w.length : Int) := by simp only [pT, hw, Option.getD_some]
  rw [e3] at hi
  rw [hC.2 i (by omega)]
  simp only [pT, hw, Option.getD_some]
set_option maxRecDepth 10000 in
set_option maxHeartbeats 4000000 in
theorem x5_text {M : Mem} {nT tn : Nat} {X : Nat → Tx} {τ τi : Tn} {img : Bool} {tp ss sz : Nat → Int} {cl : Nat → Nat → Int} (hR : RX M (nT, X, τ, img, τi, tn, tp, ss, sz, cl)) (hI : INV (nT, X, τ, img, τi, tn, tp, ss, sz, cl))  : Con GX 52 kX5_text [rv 0] M (pI (fun a M2 => a = a_text (nT, X, τ, img, τi, tn, tp, ss, sz, cl)  ∧ RX M2 (t_text (nT, X, τ, img, τi, tn, tp, ss, sz, cl) ))) := by
  refine con_of [some (rv 0), none] (plX5) rfl (Nat.le_of_ble_eq_true rfl) (fun z => ?_)
  have hR0 := hR
  obtain ⟨hτ, hX, hnT, himg, hτi, ⟨htn, htp⟩, hsh⟩ := hR0
  obtain ⟨⟨iT1, iT6⟩, ⟨hw, icl⟩, iim, ⟨itn, itp⟩, ish⟩ := hI
  obtain ⟨⟨wn, wn2⟩, wcl, ⟨wl, wl2⟩, -, -⟩ := id hw
  have hcl : τ 8 1 < 2147483648 := by omega
  refine r_mb (fun hMB => ?_)
  refine r_aload_0 dX5_text_0 (r_getE dX5_text_1 fX5_52 (rfl) (rfl) (hnT) ?_)
  refine r_if_lt dX5_text_4 (by omega) (fun c_4 => ?_) (fun c_4 => ?_)
  · omega
  · skip
    refine r_aload_0 dX5_text_7 (r_getE dX5_text_8 fX5_52 (rfl) (rfl) (hnT) (r_bipush dX5_text_11 (by decide) ?_))
    refine r_icmp_lt dX5_text_13 (by omega) (by omega) (fun c_13 => ?_) (fun c_13 => ?_)
    · skip
      have hn6 : nT < 6 := by omega
      have hL : LT M tp tn := ⟨⟨itn, itp⟩, htn, htp⟩
      refine r_aload_0 dX5_text_19 (r_getR dX5_text_20 fX5_33 (rfl) (rfl) (r_aload_0 dX5_text_23 (r_getR dX5_text_24 fX5_11 (rfl) (rfl) (r_aload_0 dX5_text_27 (r_getE dX5_text_28 fX5_52 (rfl) (rfl) (hnT) ?_)))))
      refine r_aaload dX5_text_31 (rfl) (by decide) (by omega) (rsX hn6) ?_
      refine r_cVI1 dX5_text_32 vX5_126 (rfl) (x_read hn6 hL) (by decide) (Nat.le_of_ble_eq_true rfl) (fun b_32 M_32 h_32 => ?_)
      obtain ⟨rfl, f1, f2⟩ := h_32
      have hRt := hR.text hn6 f1
      obtain ⟨j, x, hq⟩ : ∃ j x, pEx (tk tp tn) (vl tp tn) = (j, x) := ⟨_, _, rfl⟩
      rw [hq] at f2 ⊢
      have hpl := (pl_in (tp := tp) (tn := tn) j).2
      refine r_istore_1 dX5_text_35 rfl (r_aload_0 dX5_text_36 (r_getR dX5_text_37 fX5_24 (rfl) (rfl) (r_iconst dX5_text_40 ?_)))
      refine r_put dX5_text_41 pX5_85 (rfl) (rfl) (by omega) ?_
      refine r_iload_1 dX5_text_44 (r_iconst dX5_text_45 ?_)
      obtain ⟨v, hv⟩ : ∃ v, flt tp tn (j, x) = v := ⟨_, rfl⟩
      rw [hv]
      have hvb : ib v := by
        rw [← hv]
        cases x with
        | none => show ib ((pl tp tn j : Nat) : Int); omega
        | some w => show ib (-1); decide
      refine r_icmp_eq dX5_text_46 (by omega) (by omega) (fun c_46 => ?_) (fun c_46 => ?_)
      · skip
        obtain ⟨w, rfl⟩ : ∃ w, x = some w := by
          cases x with
          | none => have hv : ((pl tp tn j : Nat) : Int) = v := hv; omega
          | some w => exact ⟨w, rfl⟩
        obtain ⟨k1, k2⟩ := f2 j w rfl
        obtain ⟨k3, k4⟩ := pT_ok (tk_end itn) vl_in hq
        have hU : ∀ c i, c ≠ 3 → upM M_32 3 1 0 c i = M_32 c i := fun c i hc => upM_ne (Or.inl hc)
        have hR2 := hRt.text1 hn6 (TextX.of (M := upM M_32 3 1 0) k4 (k1.fr (hU _ _ (by omega)) (fun i => hU _ _ (by omega))) (k2.fr (fun m => hU _ _ (by omega)))) k3
        refine r_aload_0 dX5_text_54 ?_
        first | refine r_dup_i dX5_text_55 ?_ | refine r_dup_r dX5_text_55 ?_
        refine r_getE dX5_text_56 fX5_52 (rfl) (rfl) (hRt.2.2.1) (r_iconst dX5_text_59 (r_iadd dX5_text_60 ?_))
        refine r_put dX5_text_61 pX5_52 (rfl) (rfl) (by omega) ?_
        refine r_aload_0 dX5_text_64 (r_getE dX5_text_65 fX5_52 (rfl) (rfl) (upM_self) (r_iconst dX5_text_68 (r_isub dX5_text_69 ?_)))
        refine r_ireturn dX5_text_70 rfl ?_
        refine ⟨_, rfl, ?_, ?_⟩
        · unfold a_text
          simp only []
          rw [if_neg (by omega), hq]
          show _ = (nT : Int)
          omega
        · unfold t_text
          simp only []
          rw [if_neg (by omega), hq]
          exact hR2
      · skip
        obtain rfl : x = none := by
          cases x with
          | none => rfl
          | some w => exact absurd hv.symm c_46
        have hv : ((pl tp tn j : Nat) : Int) = v := hv
        refine r_bipush dX5_text_49 (by decide) (r_iload_1 dX5_text_51 (r_isub dX5_text_52 ?_))
        refine r_ireturn dX5_text_53 rfl ?_
        refine ⟨_, rfl, ?_, ?_⟩
        · unfold a_text
          simp only []
          rw [if_neg (by omega), hq]
          show _ = -100 - ((pl tp tn j : Nat) : Int)
          omega
        · unfold t_text
          simp only []
          rw [if_neg (by omega), hq]
          exact hRt
    · skip
      refine r_bipush dX5_text_16 (by decide) ?_
      refine r_ireturn dX5_text_18 rfl ?_
      refine ⟨_, rfl, ?_, ?_⟩
      · unfold a_text
        simp only []
        rw [if_pos (by omega)]
      · unfold t_text
        simp only []
        rw [if_pos (by omega)]
        exact hR

set_option maxRecDepth 10000 in
set_option maxHeartbeats 4000000 in
theorem x_addG {M : Mem} {tp : Nat → Int} {tn t : Nat} {R : RS} (ht : t < 6) (hG : GO tp tn t R M) {c y : Int} (hc : c_push c ∨ c_un c ∨ c_bin c) (hy : y = enc c) (hlt : ∀ j w, R = (j, some w) → w.length < j) : Con GX 1 kX3_add [rv (36 + 4 * t), iv y] M (pV (fun M2 => GO tp tn t (rbd R (fun j w => (j, some (w ++ [c])))) M2 ∧ Fr (gc t) M M2)) := by
  refine con_of [some (rv (36 + 4 * t)), some (iv y)] (plX3) rfl (Nat.le_of_ble_eq_true rfl) (fun z => ?_)
  subst hy
  have hce := enc_in hc
  obtain ⟨n, hn, hn2, hGn⟩ : ∃ n : Nat, n ≤ 160 ∧ M (36 + 4 * t) 3 = (n : Int) ∧ (n < 160 → GO tp tn t (rbd R (fun j w => (j, some (w ++ [c])))) (upM (upM M (36 + 4 * t + 1) n (enc c)) (36 + 4 * t) 3 ((n : Int) + 1))) ∧ (160 ≤ n → GO tp tn t (rbd R (fun j w => (j, some (w ++ [c])))) M) := by
    obtain ⟨j, x⟩ := R
    rcases x with _ | w
    · obtain ⟨n, hn, hn2⟩ := hG.2.2.2.2
      exact ⟨n, hn, hn2, fun q => GF.fr (n := n + 1) hG (by omega) n, fun _ => hG⟩
    · have hG : GS tp tn t j w M := hG
      have h1 := hlt j w rfl
      have h2 := hG.2.1
      exact ⟨w.length, by omega, hG.2.2.2.2.2.2.2.1, fun _ => hG.add h1, fun _ => by omega⟩
  refine r_aload_0 dX3_add_0 (r_getE dX3_add_1 fX3_21 (gX0 ht) (rfl) (hn2) (r_aload_0 dX3_add_4 (r_getR dX3_add_5 fX3_9 (gX0 ht) (rfl) ?_)))
  refine r_alen dX3_add_8 (gX1 ht) ?_
  refine r_icmp_ge dX3_add_9 (by omega) (by omega) (fun c_9 => ?_) (fun c_9 => ?_)
  · skip
    refine r_vreturn dX3_add_32 rfl ?_
    exact ⟨rfl, hGn.2 (by omega), Fr.refl⟩
  · skip
    refine r_aload_0 dX3_add_12 (r_getR dX3_add_13 fX3_9 (gX0 ht) (rfl) (r_aload_0 dX3_add_16 (r_getE dX3_add_17 fX3_21 (gX0 ht) (rfl) (hn2) (r_iload_1 dX3_add_20 ?_))))
    refine r_iasN dX3_add_21 (gX1 ht) (by omega) (by omega) (by omega) ?_
    refine r_aload_0 dX3_add_22 (r_dup_r dX3_add_23 (r_getE (v := (n : Int)) dX3_add_24 fX3_21 (gX0 ht) (rfl) ((upM_ne (Or.inl (by omega))).trans hn2) (r_iconst dX3_add_27 (r_iadd dX3_add_28 ?_))))
    refine r_put dX3_add_29 pX3_21 (gX0 ht) (rfl) (by omega) ?_
    refine r_vreturn dX3_add_32 rfl ?_
    exact ⟨rfl, hGn.1 (by omega), (Fr.refl.up (by simp [gc])).up (by simp [gc])⟩
set_option maxRecDepth 10000 in
set_option maxHeartbeats 4000000 in
theorem x_refuse {M : Mem} {tp : Nat → Int} {tn t : Nat} {R : RS} (ht : t < 6) (hG : GO tp tn t R M) : Con GX 0 kX0_refuse [rv 5] M (pV (fun M2 => GO tp tn t (rbd R (fun j _ => (j, none))) M2 ∧ Fr (gc t) M M2)) := by
  refine con_of [some (rv 5)] (plX0) rfl (Nat.le_of_ble_eq_true rfl) (fun z => ?_)
  obtain ⟨f, hf, hfb, h0, h1⟩ : ∃ f : Int, M 5 1 = f ∧ ib f ∧ (f = -1 → ∃ p : Nat, p ≤ 160 ∧ M 3 3 = (p : Int) ∧ GO tp tn t (rbd R (fun j _ => (j, none))) (upM (upM M 5 1 p) 3 4 (-2))) ∧ (f ≠ -1 → GO tp tn t (rbd R (fun j _ => (j, none))) (upM M 3 4 (-2))) := by
    obtain ⟨j, x⟩ := R
    rcases x with _ | w
    · have hG : GF tp tn t (pl tp tn j : Nat) M := hG
      obtain ⟨g1, g2, g3, g4, n, g5, g6⟩ := hG
      have hp := (pl_in (tp := tp) (tn := tn) j).2
      have ht1 := g1.1.1
      refine ⟨_, g4, by omega, fun w => by omega, fun _ => ?_⟩
      exact ⟨g1.ft (FT.refl.up (by decide)), g2, upM_self, (upM_ne (Or.inl (by decide))).trans g4, n, g5, (upM_ne (Or.inl (by omega))).trans g6⟩
    · have hG : GS tp tn t j w M := hG
      obtain ⟨g1, g2, g3, g4, g5, g6, g7, g8⟩ := hG
      have hp := (pl_in (tp := tp) (tn := tn) j).2
      have ht1 := g1.1.1
      refine ⟨_, g7, by omega, fun _ => ⟨pl tp tn j, by omega, g4, ?_⟩, fun w => absurd rfl w⟩
      have g1' : LT (upM M 5 1 (pl tp tn j : Nat)) tp tn := ⟨g1.1, (upM_ne (Or.inl (by decide))).trans g1.2.1, fun i hi => (upM_ne (Or.inl (by decide))).trans (g1.2.2 i hi)⟩
      exact ⟨g1'.ft (FT.refl.up (by decide)), by omega, upM_self, (upM_ne (Or.inl (by decide))).trans upM_self, w.length, by omega, (upM_ne (Or.inl (by omega))).trans ((upM_ne (Or.inl (by omega))).trans g8.1)⟩
  refine r_aload_0 dX0_refuse_0 (r_getE dX0_refuse_1 fX0_9 (rfl) (rfl) (hf) (r_iconst dX0_refuse_4 ?_))
  refine r_icmp_ne dX0_refuse_5 (by omega) (by omega) (fun c_5 => ?_) (fun c_5 => ?_)
  · skip
    refine r_aload_0 dX0_refuse_19 (r_getR dX0_refuse_20 fX0_15 (rfl) (rfl) (r_bipush dX0_refuse_23 (by decide) ?_))
    refine r_put dX0_refuse_25 pX0_40 (rfl) (rfl) (by omega) ?_
    refine r_vreturn dX0_refuse_28 rfl ?_
    exact ⟨rfl, h1 (by omega), Fr.refl.up rfl⟩
  · skip
    obtain ⟨p, hp0, hp1, hp2⟩ := h0 (by omega)
    refine r_aload_0 dX0_refuse_8 (r_aload_0 dX0_refuse_9 (r_getR dX0_refuse_10 fX0_15 (rfl) (rfl) (r_getE dX0_refuse_13 fX0_49 (rfl) (rfl) (hp1) ?_)))
    refine r_put dX0_refuse_16 pX0_9 (rfl) (rfl) (by omega) ?_
    refine r_aload_0 dX0_refuse_19 (r_getR dX0_refuse_20 fX0_15 (rfl) (rfl) (r_bipush dX0_refuse_23 (by decide) ?_))
    refine r_put dX0_refuse_25 pX0_40 (rfl) (rfl) (by omega) ?_
    refine r_vreturn dX0_refuse_28 rfl ?_
    exact ⟨rfl, hp2, (Fr.refl.up rfl).up rfl⟩
theorem x_advG {M : Mem} {tp : Nat → Int} {tn t j : Nat} {w : List Int} (hG : GS tp tn t j w M) (hj : tk tp tn j ≠ -1) : Con GX 6 kX2_advance [rv 3] M (pV (fun M2 => GS tp tn t (j + 1) w M2 ∧ Fr (gc t) M M2)) :=
  (x_adv hG.1 hG.2.2.1 (ps_in (j + 1))).mono (fun r M2 h => ⟨h.1, hG.next (adv_le (tk_end hG.1.1.1) hj) h.2.1 h.2.2.1 h.2.2.2.1 h.2.2.2.2.1 h.2.2.2.2.2, h.2.1.toG⟩)
set_option maxRecDepth 10000 in
set_option maxHeartbeats 4000000 in
theorem x_expect {M : Mem} {tp : Nat → Int} {tn t : Nat} {R : RS} (ht : t < 6) (hG : GO tp tn t R M) {y : Int} (hy : ib y) (hy1 : y ≠ -1) (hy2 : y ≠ -2) : Con GX 7 kX0_expect [rv 5, iv y] M (pV (fun M2 => GO tp tn t (rbd R (fun j w => if tk tp tn j = y then (j + 1, some w) else (j, none))) M2 ∧ Fr (gc t) M M2)) := by
  refine con_of [some (rv 5), some (iv y)] (plX0) rfl (Nat.le_of_ble_eq_true rfl) (fun z => ?_)
  have htk := tkR_in (tp := tp) (tn := tn) (R := R)
  refine r_aload_0 dX0_expect_0 (r_getR dX0_expect_1 fX0_15 (rfl) (rfl) (r_getE dX0_expect_4 fX0_40 (rfl) (rfl) (hG.tok) (r_iload_1 dX0_expect_7 ?_)))
  refine r_icmp_eq dX0_expect_8 (by omega) (by omega) (fun c_8 => ?_) (fun c_8 => ?_)
  · skip
    obtain ⟨j, w, rfl, he⟩ : ∃ j w, R = (j, some w) ∧ tk tp tn j = y := by
      obtain ⟨j, x⟩ := R
      rcases x with _ | w
      · exact absurd c_8 (fun e => hy2 e.symm)
      · exact ⟨j, w, rfl, c_8⟩
    have hG0 : GS tp tn t j w M := hG
    refine r_aload_0 dX0_expect_18 (r_getR dX0_expect_19 fX0_15 (rfl) (rfl) ?_)
    refine r_cVV0 dX0_expect_22 vX0_46 (rfl) (x_advG (t := t) (j := j) (w := w) hG0 (by omega)) (by decide) (Nat.le_of_ble_eq_true rfl) (fun M_22 h_22 => ?_)
    obtain ⟨g1, g2⟩ := h_22
    refine r_vreturn dX0_expect_25 rfl ?_
    refine ⟨rfl, ?_, g2⟩
    rw [rbd_some, if_pos he]
    exact g1
  · skip
    refine r_aload_0 dX0_expect_11 ?_
    refine r_cVV0 dX0_expect_12 vX0_43 (rfl) (x_refuse ht hG) (by decide) (Nat.le_of_ble_eq_true rfl) (fun M_12 h_12 => ?_)
    obtain ⟨g1, g2⟩ := h_12
    refine r_goto dX0_expect_15 ?_
    refine r_vreturn dX0_expect_25 rfl ?_
    refine ⟨rfl, ?_, g2⟩
    obtain ⟨j, x⟩ := R
    rcases x with _ | w
    · exact g1
    · rw [rbd_some, if_neg c_8]
      exact g1

set_option maxRecDepth 10000 in
set_option maxHeartbeats 4000000 in
theorem x_addG {M : Mem} {tp : Nat → Int} {tn t : Nat} {R : RS} (ht : t < 6) (hG : GO tp tn t R M) {c y : Int} (hc : c_push c ∨ c_un c ∨ c_bin c) (hy : y = enc c) (hlt : ∀ j w, R = (j, some w) → w.length < j) : Con GX 1 kX3_add [rv (36 + 4 * t), iv y] M (pV (fun M2 => GO tp tn t (rbd R (fun j w => (j, some (w ++ [c])))) M2 ∧ Fr (gc t) M M2)) := by
  refine con_of [some (rv (36 + 4 * t)), some (iv y)] (plX3) rfl (Nat.le_of_ble_eq_true rfl) (fun z => ?_)
  subst hy
  have hce := enc_in hc
  obtain ⟨n, hn, hn2, hGn⟩ : ∃ n : Nat, n ≤ 160 ∧ M (36 + 4 * t) 3 = (n : Int) ∧ (n < 160 → GO tp tn t (rbd R (fun j w => (j, some (w ++ [c])))) (upM (upM M (36 + 4 * t + 1) n (enc c)) (36 + 4 * t) 3 ((n : Int) + 1))) ∧ (160 ≤ n → GO tp tn t (rbd R (fun j w => (j, some (w ++ [c])))) M) := by
    obtain ⟨j, x⟩ := R
    rcases x with _ | w
    · obtain ⟨n, hn, hn2⟩ := hG.2.2.2.2
      exact ⟨n, hn, hn2, fun q => GF.fr (n := n + 1) hG (by omega) n, fun _ => hG⟩
    · have hG : GS tp tn t j w M := hG
      have h1 := hlt j w rfl
      have h2 := hG.2.1
      exact ⟨w.length, by omega, hG.2.2.2.2.2.2.2.1, fun _ => hG.add h1, fun _ => by omega⟩
  refine r_aload_0 dX3_add_0 (r_getE dX3_add_1 fX3_21 (gX0 ht) (rfl) (hn2) (r_aload_0 dX3_add_4 (r_getR dX3_add_5 fX3_9 (gX0 ht) (rfl) ?_)))
  refine r_alen dX3_add_8 (gX1 ht) ?_
  refine r_icmp_ge dX3_add_9 (by omega) (by omega) (fun c_9 => ?_) (fun c_9 => ?_)
  · skip
    refine r_vreturn dX3_add_32 rfl ?_
    exact ⟨rfl, hGn.2 (by omega), Fr.refl⟩
  · skip
    refine r_aload_0 dX3_add_12 (r_getR dX3_add_13 fX3_9 (gX0 ht) (rfl) (r_aload_0 dX3_add_16 (r_getE dX3_add_17 fX3_21 (gX0 ht) (rfl) (hn2) (r_iload_1 dX3_add_20 ?_))))
    refine r_iasN dX3_add_21 (gX1 ht) (by omega) (by omega) (by omega) ?_
    refine r_aload_0 dX3_add_22 (r_dup_r dX3_add_23 (r_getE (v := (n : Int)) dX3_add_24 fX3_21 (gX0 ht) (rfl) ((upM_ne (Or.inl (by omega))).trans hn2) (r_iconst dX3_add_27 (r_iadd dX3_add_28 ?_))))
    refine r_put dX3_add_29 pX3_21 (gX0 ht) (rfl) (by omega) ?_
    refine r_vreturn dX3_add_32 rfl ?_
    exact ⟨rfl, hGn.1 (by omega), (Fr.refl.up (by simp [gc])).up (by simp [gc])⟩
set_option maxRecDepth 10000 in
set_option maxHeartbeats 4000000 in
theorem x_refuse {M : Mem} {tp : Nat → Int} {tn t : Nat} {R : RS} (ht : t < 6) (hG : GO tp tn t R M) : Con GX 0 kX0_refuse [rv 5] M (pV (fun M2 => GO tp tn t (rbd R (fun j _ => (j, none))) M2 ∧ Fr (gc t) M M2)) := by
  refine con_of [some (rv 5)] (plX0) rfl (Nat.le_of_ble_eq_true rfl) (fun z => ?_)
  obtain ⟨f, hf, hfb, h0, h1⟩ : ∃ f : Int, M 5 1 = f ∧ ib f ∧ (f = -1 → ∃ p : Nat, p ≤ 160 ∧ M 3 3 = (p : Int) ∧ GO tp tn t (rbd R (fun j _ => (j, none))) (upM (upM M 5 1 p) 3 4 (-2))) ∧ (f ≠ -1 → GO tp tn t (rbd R (fun j _ => (j, none))) (upM M 3 4 (-2))) := by
    obtain ⟨j, x⟩ := R
    rcases x with _ | w
    · have hG : GF tp tn t (pl tp tn j : Nat) M := hG
      obtain ⟨g1, g2, g3, g4, n, g5, g6⟩ := hG
      have hp := (pl_in (tp := tp) (tn := tn) j).2
      have ht1 := g1.1.1
      refine ⟨_, g4, by omega, fun w => by omega, fun _ => ?_⟩
      exact ⟨g1.ft (FT.refl.up (by decide)), g2, upM_self, (upM_ne (Or.inl (by decide))).trans g4, n, g5, (upM_ne (Or.inl (by omega))).trans g6⟩
    · have hG : GS tp tn t j w M := hG
      obtain ⟨g1, g2, g3, g4, g5, g6, g7, g8⟩ := hG
      have hp := (pl_in (tp := tp) (tn := tn) j).2
      have ht1 := g1.1.1
      refine ⟨_, g7, by omega, fun _ => ⟨pl tp tn j, by omega, g4, ?_⟩, fun w => absurd rfl w⟩
      have g1' : LT (upM M 5 1 (pl tp tn j : Nat)) tp tn := ⟨g1.1, (upM_ne (Or.inl (by decide))).trans g1.2.1, fun i hi => (upM_ne (Or.inl (by decide))).trans (g1.2.2 i hi)⟩
      exact ⟨g1'.ft (FT.refl.up (by decide)), by omega, upM_self, (upM_ne (Or.inl (by decide))).trans upM_self, w.length, by omega, (upM_ne (Or.inl (by omega))).trans ((upM_ne (Or.inl (by omega))).trans g8.1)⟩
  refine r_aload_0 dX0_refuse_0 (r_getE dX0_refuse_1 fX0_9 (rfl) (rfl) (hf) (r_iconst dX0_refuse_4 ?_))
  refine r_icmp_ne dX0_refuse_5 (by omega) (by omega) (fun c_5 => ?_) (fun c_5 => ?_)
  · skip
    refine r_aload_0 dX0_refuse_19 (r_getR dX0_refuse_20 fX0_15 (rfl) (rfl) (r_bipush dX0_refuse_23 (by decide) ?_))
    refine r_put dX0_refuse_25 pX0_40 (rfl) (rfl) (by omega) ?_
    refine r_vreturn dX0_refuse_28 rfl ?_
    exact ⟨rfl, h1 (by omega), Fr.refl.up rfl⟩
  · skip
    obtain ⟨p, hp0, hp1, hp2⟩ := h0 (by omega)
    refine r_aload_0 dX0_refuse_8 (r_aload_0 dX0_refuse_9 (r_getR dX0_refuse_10 fX0_15 (rfl) (rfl) (r_getE dX0_refuse_13 fX0_49 (rfl) (rfl) (hp1) ?_)))
    refine r_put dX0_refuse_16 pX0_9 (rfl) (rfl) (by omega) ?_
    refine r_aload_0 dX0_refuse_19 (r_getR dX0_refuse_20 fX0_15 (rfl) (rfl) (r_bipush dX0_refuse_23 (by decide) ?_))
    refine r_put dX0_refuse_25 pX0_40 (rfl) (rfl) (by omega) ?_
    refine r_vreturn dX0_refuse_28 rfl ?_
    exact ⟨rfl, hp2, (Fr.refl.up rfl).up rfl⟩
theorem x_advG {M : Mem} {tp : Nat → Int} {tn t j : Nat} {w : List Int} (hG : GS tp tn t j w M) (hj : tk tp tn j ≠ -1) : Con GX 6 kX2_advance [rv 3] M (pV (fun M2 => GS tp tn t (j + 1) w M2 ∧ Fr (gc t) M M2)) :=
  (x_adv hG.1 hG.2.2.1 (ps_in (j + 1))).mono (fun r M2 h => ⟨h.1, hG.next (adv_le (tk_end hG.1.1.1) hj) h.2.1 h.2.2.1 h.2.2.2.1 h.2.2.2.2.1 h.2.2.2.2.2, h.2.1.toG⟩)
set_option maxRecDepth 10000 in
set_option maxHeartbeats 4000000 in
theorem x_expect {M : Mem} {tp : Nat → Int} {tn t : Nat} {R : RS} (ht : t < 6) (hG : GO tp tn t R M) {y : Int} (hy : ib y) (hy1 : y ≠ -1) (hy2 : y ≠ -2) : Con GX 7 kX0_expect [rv 5, iv y] M (pV (fun M2 => GO tp tn t (rbd R (fun j w => if tk tp tn j = y then (j + 1, some w) else (j, none))) M2 ∧ Fr (gc t) M M2)) := by
  refine con_of [some (rv 5), some (iv y)] (plX0) rfl (Nat.le_of_ble_eq_true rfl) (fun z => ?_)
  have htk := tkR_in (tp := tp) (tn := tn) (R := R)
  refine r_aload_0 dX0_expect_0 (r_getR dX0_expect_1 fX0_15 (rfl) (rfl) (r_getE dX0_expect_4 fX0_40 (rfl) (rfl) (hG.tok) (r_iload_1 dX0_expect_7 ?_)))
  refine r_icmp_eq dX0_expect_8 (by omega) (by omega) (fun c_8 => ?_) (fun c_8 => ?_)
  · skip
    obtain ⟨j, w, rfl, he⟩ : ∃ j w, R = (j, some w) ∧ tk tp tn j = y := by
      obtain ⟨j, x⟩ := R
      rcases x with _ | w
      · exact absurd c_8 (fun e => hy2 e.symm)
      · exact ⟨j, w, rfl, c_8⟩
    have hG0 : GS tp tn t j w M := hG
    refine r_aload_0 dX0_expect_18 (r_getR dX0_expect_19 fX0_15 (rfl) (rfl) ?_)
    refine r_cVV0 dX0_expect_22 vX0_46 (rfl) (x_advG (t := t) (j := j) (w := w) hG0 (by omega)) (by decide) (Nat.le_of_ble_eq_true rfl) (fun M_22 h_22 => ?_)
    obtain ⟨g1, g2⟩ := h_22
    refine r_vreturn dX0_expect_25 rfl ?_
    refine ⟨rfl, ?_, g2⟩
    rw [rbd_some, if_pos he]
    exact g1
  · skip
    refine r_aload_0 dX0_expect_11 ?_
    refine r_cVV0 dX0_expect_12 vX0_43 (rfl) (x_refuse ht hG) (by decide) (Nat.le_of_ble_eq_true rfl) (fun M_12 h_12 => ?_)
    obtain ⟨g1, g2⟩ := h_12
    refine r_goto dX0_expect_15 ?_
    refine r_vreturn dX0_expect_25 rfl ?_
    refine ⟨rfl, ?_, g2⟩
    obtain ⟨j, x⟩ := R
    rcases x with _ | w
    · exact g1
    · rw [rbd_some, if_neg (show ¬ tk tp tn j = y from c_8)]
      exact g1
def SC (tp : Nat → Int) (tn t d op r : Nat) (F : Nat → List Int → RS) : Prop := ∀ (R : RS) (M : Mem), GO tp tn t R M → Con GX d kX0_side [rv 5, rv (36 + 4 * t), iv (r : Int), iv (op : Int)] M (pV (fun M2 => GO tp tn t (rbd R F) M2 ∧ Fr (gc t) M M2))
def OC (tp : Nat → Int) (tn t d op : Nat) (F : Nat → List Int → RS) : Prop := ∀ (R : RS) (M : Mem), GO tp tn t R M → Con GX d kX0_one [rv 5, rv (36 + 4 * t), iv (op : Int)] M (pV (fun M2 => GO tp tn t (rbd R F) M2 ∧ Fr (gc t) M M2))
/-- no more codes than tokens -/
def LO (F : Nat → List Int → RS) : Prop := ∀ (j : Nat) (w : List Int) (j' : Nat) (w' : List Int), F j w = (j', some w') → w'.length + j ≤ w.length + j'
theorem GOK.lo {b : Nat} {F : Nat → List Int → RS} (h : GOK b F) : LO F := fun j w j' w' e => by
  obtain ⟨c, h1, h2, -⟩ := h j w j' w' e
  rw [h1, List.length_append]
  omega
theorem tkR_some {tp : Nat → Int} {tn : Nat} {R : RS} {T : Int} (h : tkR tp tn R = T) (hT : T ≠ -2) : ∃ j w, R = (j, some w) ∧ tk tp tn j = T := by
  obtain ⟨j, x⟩ := R
  cases x with
  | none => exact absurd h.symm hT
  | some w => exact ⟨j, w, rfl, h⟩
theorem lp_exit {tp : Nat → Int} {tn : Nat} {S : Nat → List Int → RS} {r : Int} {R : RS} {f : Nat} (h : ¬ rk (tkR tp tn R) = r) : rbd R (lpF (tk tp tn) S r f) = R := by
  obtain ⟨j, x⟩ := R
  cases x with
  | none => rfl
  | some w =>
    cases f with
    | zero => rfl
    | succ f => simp only [rbd_some, lpF]; rw [if_neg (show ¬ rk (tk tp tn j) = r from h)]
theorem lp_0 {t : Nat → Int} {S : Nat → List Int → RS} {r : Int} {R : RS} : rbd R (lpF t S r 0) = R := by
  obtain ⟨j, x⟩ := R
  cases x <;> rfl
set_option maxRecDepth 10000 in
set_option maxHeartbeats 4000000 in
theorem x_one {k op t tn d : Nat} {tp : Nat → Int} {b : Bool} {N : Nat → Nat → List Int → RS} (ht : t < 6) (hb : b = decide (0 < k)) (hop : op + k = 5) (hd : 8 ≤ d) (h5 : 0 < k → OC tp tn t (d - 1) (op + 1) (N 5) ∧ LO (N 5)) (h0 : 0 < k → SC tp tn t (d - 1) (op + 1) 0 (N 0)) {R : RS} {M : Mem} (hG : GO tp tn t R M) : Con GX d kX0_one [rv 5, rv (36 + 4 * t), iv (op : Int)] M (pV (fun M2 => GO tp tn t (rbd R (g5 (tk tp tn) (vl tp tn) b N)) M2 ∧ Fr (gc t) M M2)) := by
  refine con_of [some (rv 5), some (rv (36 + 4 * t)), some (iv (op : Int)), none, none, none] (plX0) rfl (Nat.le_of_ble_eq_true rfl) (fun z => ?_)
  refine r_mb (fun hMB => ?_)
  obtain ⟨T, hT⟩ : ∃ T, tkR tp tn R = T := ⟨_, rfl⟩
  have hTb := tkR_in (tp := tp) (tn := tn) (R := R)
  rw [hT] at hTb
  obtain ⟨nb, hnb⟩ : ∃ nb, M 3 5 = nb := ⟨_, rfl⟩
  have hnbb := hMB 3 5
  rw [hnb] at hnbb
  refine r_aload_0 dX0_one_0 (r_getR dX0_one_1 fX0_15 (rfl) (rfl) (r_getE dX0_one_4 fX0_40 (rfl) (rfl) (hG.tok.trans hT) (r_istore_3 dX0_one_7 rfl ?_)))
  have jn_34 : WP kX0_one GX d (pV (fun M2 => GO tp tn t (rbd R (g5 (tk tp tn) (vl tp tn) b N)) M2 ∧ Fr (gc t) M M2)) z 34 [some (rv 5), some (rv (36 + 4 * t)), some (iv (op : Int)), some (iv T), some (iv nb), none] [iv (bi (decide (T = 45 ∨ T = 40)))] M := by
    refine r_istore_5 dX0_one_34 rfl ?_
    have jn_65 : ∀ (hacc : T = 300 ∨ (262 ≤ T ∧ T < 268) ∨ ((T = 45 ∨ T = 40) ∧ op < 5)), WP kX0_one GX d (pV (fun M2 => GO tp tn t (rbd R (g5 (tk tp tn) (vl tp tn) b N)) M2 ∧ Fr (gc t) M M2)) z 65 [some (rv 5), some (rv (36 + 4 * t)), some (iv (op : Int)), some (iv T), some (iv nb), some (iv (bi (decide (T = 45 ∨ T = 40))))] [] M := by
      intro hacc
      obtain ⟨j, w, rfl, hTj⟩ := tkR_some hT (by omega)
      have hG0 : GS tp tn t j w M := hG
      have hwj := hG0.2.1
      refine r_aload_0 dX0_one_65 ?_
      refine r_getR dX0_one_66 fX0_15 (rfl) (rfl) ?_
      refine r_cVV0 dX0_one_69 vX0_46 (rfl) (x_advG (t := t) hG0 (by omega)) (by omega) (Nat.le_of_ble_eq_true rfl) (fun M_69 h_69 => ?_)
      obtain ⟨g1, g2⟩ := h_69
      refine r_iload_3 dX0_one_72 (r_bipush dX0_one_73 (by decide) ?_)
      refine r_icmp_ne dX0_one_75 (by omega) (by omega) (fun c_75 => ?_) (fun c_75 => ?_)
      · skip
        refine r_iload_3 dX0_one_96 (r_bipush dX0_one_97 (by decide) ?_)
        refine r_icmp_ne dX0_one_99 (by omega) (by omega) (fun c_99 => ?_) (fun c_99 => ?_)
        · skip
          refine r_aload_1 dX0_one_140 (r_iload_3 dX0_one_141 (r_sipush dX0_one_142 (by decide) ?_))
          refine r_icmp_ne dX0_one_145 (by omega) (by omega) (fun c_145 => ?_) (fun c_145 => ?_)
          · skip
            refine r_iload_3 dX0_one_153 (r_ineg dX0_one_154 ?_)
            refine r_cVV1 dX0_one_155 vX0_52 (gX0 ht) (x_addG ht (R := (j + 1, some w)) g1 (c := T - 262) (Or.inl (Or.inr (by omega))) (by rw [enc_name (by omega)]; omega) (fun j2 w2 e => by cases e; omega)) (by omega) (Nat.le_of_ble_eq_true rfl) (fun M_155 h_155 => ?_)
            obtain ⟨a1, a2⟩ := h_155
            refine r_vreturn dX0_one_158 rfl ?_
            refine ⟨rfl, ?_, g2.trans a2⟩
            rw [rbd_some]
            unfold g5
            rw [hTj, if_neg (by omega), if_pos (by omega)]
            exact a1
          · skip
            refine r_iload_4 dX0_one_148 (r_goto dX0_one_150 ?_)
            refine r_cVV1 dX0_one_155 vX0_52 (gX0 ht) (x_addG ht (R := (j + 1, some w)) g1 (c := 100000 + vl tp tn j) (Or.inl (Or.inl (by have := vl_in (tp := tp) (tn := tn) j (by omega); omega))) (by have := vl_in (tp := tp) (tn := tn) j (by omega); rw [enc_num (by omega), ← hnb, hG0.2.2.2.2.2.1 (by omega)]; omega) (fun j2 w2 e => by cases e; omega)) (by omega) (Nat.le_of_ble_eq_true rfl) (fun M_155 h_155 => ?_)
            obtain ⟨a1, a2⟩ := h_155
            refine r_vreturn dX0_one_158 rfl ?_
            refine ⟨rfl, ?_, g2.trans a2⟩
            rw [rbd_some]
            unfold g5
            rw [hTj, if_pos (by omega)]
            exact a1
        · skip
          have h0c := h0 (by omega)
          have hbt : b = true := by rw [hb, decide_eq_true_eq]; omega
          refine r_aload_0 dX0_one_102 (r_aload_1 dX0_one_103 (r_iconst dX0_one_104 (r_iload_2 dX0_one_105 (r_iconst dX0_one_106 (r_iadd dX0_one_107 ?_)))))
          rw [show (op : Int) + 1 = ((op + 1 : Nat) : Int) by omega]
          refine r_cVV3 dX0_one_108 vX0_33 (rfl) (h0c (j + 1, some w) M_69 g1) (by omega) (Nat.le_of_ble_eq_true rfl) (fun M_108 h_108 => ?_)
          obtain ⟨q1, q2⟩ := h_108
          refine r_aload_0 dX0_one_111 (r_getR dX0_one_112 fX0_15 (rfl) (rfl) (r_getE dX0_one_115 fX0_40 (rfl) (rfl) (q1.tok) (r_bipush dX0_one_118 (by decide) ?_)))
          refine r_icmp_ne dX0_one_120 (by have := tkR_in (tp := tp) (tn := tn) (R := rbd (j + 1, some w) (N 0)); omega) (by have := tkR_in (tp := tp) (tn := tn) (R := rbd (j + 1, some w) (N 0)); omega) (fun c_120 => ?_) (fun c_120 => ?_)
          · skip
            refine r_aload_0 dX0_one_133 ?_
            refine r_cVV0 dX0_one_134 vX0_43 (rfl) (x_refuse ht q1) (by omega) (Nat.le_of_ble_eq_true rfl) (fun M_134 h_134 => ?_)
            obtain ⟨a1, a2⟩ := h_134
            refine r_goto dX0_one_137 ?_
            refine r_vreturn dX0_one_158 rfl ?_
            refine ⟨rfl, ?_, g2.trans (q2.trans a2)⟩
            rw [rbd_some]
            unfold g5
            rw [hTj, if_neg (by omega), if_neg (by omega), if_neg (fun u => by omega), if_pos ⟨by omega, hbt⟩]
            obtain ⟨j2, x2, hq⟩ : ∃ j2 x2, N 0 (j + 1) w = (j2, x2) := ⟨_, _, rfl⟩
            have a1 : GO tp tn t (rbd (N 0 (j + 1) w) (fun j _ => (j, none))) M_134 := a1
            have c : ¬ tkR tp tn (N 0 (j + 1) w) = 41 := c_120
            rw [hq] at a1 c ⊢
            rcases x2 with _ | w2
            · exact a1
            · rw [rbd_some, if_neg (show ¬ tk tp tn j2 = 41 from c)]
              exact a1
          · skip
            obtain ⟨j2, w2, he2, hT2⟩ := tkR_some (tp := tp) (tn := tn) (R := rbd (j + 1, some w) (N 0)) c_120 (by decide)
            rw [he2] at q1
            have q1 : GS tp tn t j2 w2 M_108 := q1
            refine r_aload_0 dX0_one_123 (r_getR dX0_one_124 fX0_15 (rfl) (rfl) ?_)
            refine r_cVV0 dX0_one_127 vX0_46 (rfl) (x_advG (t := t) q1 (by omega)) (by omega) (Nat.le_of_ble_eq_true rfl) (fun M_127 h_127 => ?_)
            obtain ⟨a1, a2⟩ := h_127
            refine r_goto dX0_one_130 ?_
            refine r_vreturn dX0_one_158 rfl ?_
            refine ⟨rfl, ?_, g2.trans (q2.trans a2)⟩
            rw [rbd_some]
            unfold g5
            rw [hTj, if_neg (by omega), if_neg (by omega), if_neg (fun u => by omega), if_pos ⟨by omega, hbt⟩]
            rw [show N 0 (j + 1) w = (j2, some w2) from he2, rbd_some, if_pos hT2]
            exact a1
      · skip
        obtain ⟨h5c, h5l⟩ := h5 (by omega)
        have hbt : b = true := by rw [hb, decide_eq_true_eq]; omega
        refine r_aload_0 dX0_one_78 (r_aload_1 dX0_one_79 (r_iload_2 dX0_one_80 (r_iconst dX0_one_81 (r_iadd dX0_one_82 ?_))))
        rw [show (op : Int) + 1 = ((op + 1 : Nat) : Int) by omega]
        refine r_cVV2 dX0_one_83 vX0_55 (rfl) (h5c (j + 1, some w) M_69 g1) (by omega) (Nat.le_of_ble_eq_true rfl) (fun M_83 h_83 => ?_)
        obtain ⟨q1, q2⟩ := h_83
        refine r_aload_1 dX0_one_86 (r_sipush dX0_one_87 (by decide) ?_)
        refine r_cVV1 dX0_one_90 vX0_52 (gX0 ht) (x_addG ht q1 (c := 19) (Or.inr (Or.inl (Or.inr rfl))) (by decide) (fun j2 w2 e => by have := h5l _ _ _ _ e; omega)) (by omega) (Nat.le_of_ble_eq_true rfl) (fun M_90 h_90 => ?_)
        obtain ⟨a1, a2⟩ := h_90
        refine r_goto dX0_one_93 ?_
        refine r_vreturn dX0_one_158 rfl ?_
        refine ⟨rfl, ?_, g2.trans (q2.trans a2)⟩
        rw [rbd_some]
        unfold g5
        rw [hTj, if_neg (by omega), if_neg (by omega), if_pos ⟨by omega, hbt⟩]
        exact a1
    refine r_iload_3 dX0_one_36 (r_sipush dX0_one_37 (by decide) ?_)
    refine r_icmp_eq dX0_one_40 (by omega) (by omega) (fun c_40 => ?_) (fun c_40 => ?_)
    · skip
      exact jn_65 (by omega)
    · skip
      refine r_iload_3 dX0_one_43 ?_
      refine r_cNI1 dX0_one_44 nX0_66 (x_isName (d := 0) (by omega)) (by omega) (Nat.le_of_ble_eq_true rfl) (fun b_44 M_44 h_44 => ?_)
      obtain ⟨rfl, rfl⟩ := h_44
      first | refine r_ifd_ne dX0_one_47 (fun c_47 => ?_) (fun c_47 => ?_) | refine r_ifb_ne dX0_one_47 (fun c_47 => ?_) (fun c_47 => ?_)
      · skip
        exact jn_65 (by omega)
      · skip
        refine r_iload_5 dX0_one_50 ?_
        refine r_ifd_eq dX0_one_52 (fun c_52 => ?_) (fun c_52 => ?_)
        · skip
          refine r_aload_0 dX0_one_60 ?_
          refine r_cVV0 dX0_one_61 vX0_43 (rfl) (x_refuse ht hG) (by omega) (Nat.le_of_ble_eq_true rfl) (fun M_61 h_61 => ?_)
          obtain ⟨g1, g2⟩ := h_61
          refine r_vreturn dX0_one_64 rfl ?_
          refine ⟨rfl, ?_, g2⟩
          obtain ⟨j, x⟩ := R
          rcases x with _ | w
          · exact g1
          · have hT : tk tp tn j = T := hT
            rw [rbd_some]
            unfold g5
            rw [hT, if_neg (by omega), if_neg (by omega), if_neg (fun u => by have := u.2; rw [hb, decide_eq_true_eq] at this; omega), if_neg (fun u => by have := u.2; rw [hb, decide_eq_true_eq] at this; omega)]
            exact g1
        · skip
          refine r_iload_2 dX0_one_55 (r_iconst dX0_one_56 ?_)
          refine r_icmp_lt dX0_one_57 (by omega) (by omega) (fun c_57 => ?_) (fun c_57 => ?_)
          · skip
            exact jn_65 (by omega)
          · skip
            refine r_aload_0 dX0_one_60 ?_
            refine r_cVV0 dX0_one_61 vX0_43 (rfl) (x_refuse ht hG) (by omega) (Nat.le_of_ble_eq_true rfl) (fun M_61 h_61 => ?_)
            obtain ⟨g1, g2⟩ := h_61
            refine r_vreturn dX0_one_64 rfl ?_
            refine ⟨rfl, ?_, g2⟩
            obtain ⟨j, x⟩ := R
            rcases x with _ | w
            · exact g1
            · have hT : tk tp tn j = T := hT
              rw [rbd_some]
              unfold g5
              rw [hT, if_neg (by omega), if_neg (by omega), if_neg (fun u => by have := u.2; rw [hb, decide_eq_true_eq] at this; omega), if_neg (fun u => by have := u.2; rw [hb, decide_eq_true_eq] at this; omega)]
              exact g1
  refine r_aload_0 dX0_one_8 (r_getR dX0_one_9 fX0_15 (rfl) (rfl) (r_getE dX0_one_12 fX0_63 (rfl) (rfl) (hnb) (r_istore_4 dX0_one_15 rfl (r_iload_3 dX0_one_17 (r_bipush dX0_one_18 (by decide) ?_)))))
  refine r_icmp_eq dX0_one_20 (by omega) (by omega) (fun c_20 => ?_) (fun c_20 => ?_)
  · skip
    refine r_iconst dX0_one_29 (r_goto dX0_one_30 ?_)
    rw [show bi (decide (T = 45 ∨ T = 40)) = 1 from (bi_t (by omega)).symm] at jn_34
    exact jn_34
  · skip
    refine r_iload_3 dX0_one_23 (r_bipush dX0_one_24 (by decide) ?_)
    refine r_icmp_ne dX0_one_26 (by omega) (by omega) (fun c_26 => ?_) (fun c_26 => ?_)
    · skip
      refine r_iconst dX0_one_33 ?_
      rw [show bi (decide (T = 45 ∨ T = 40)) = 0 from (bi_f (by omega)).symm] at jn_34
      exact jn_34
    · skip
      refine r_iconst dX0_one_29 (r_goto dX0_one_30 ?_)
      rw [show bi (decide (T = 45 ∨ T = 40)) = 1 from (bi_t (by omega)).symm] at jn_34
      exact jn_34
set_option maxRecDepth 10000 in
set_option maxHeartbeats 4000000 in
theorem x_side5 {op t tn d : Nat} {tp : Nat → Int} {F : Nat → List Int → RS} (hop : op ≤ 5) (hO : OC tp tn t d op F) {R : RS} {M : Mem} (hG : GO tp tn t R M) : Con GX (d + 1) kX0_side [rv 5, rv (36 + 4 * t), iv 5, iv (op : Int)] M (pV (fun M2 => GO tp tn t (rbd R F) M2 ∧ Fr (gc t) M M2)) := by
  refine con_of [some (rv 5), some (rv (36 + 4 * t)), some (iv 5), some (iv (op : Int)), none, none, none] (plX0) rfl (Nat.le_of_ble_eq_true rfl) (fun z => ?_)
  refine r_iload_2 dX0_side_0 (r_iconst dX0_side_1 ?_)
  refine r_icmp_ne dX0_side_2 (by omega) (by omega) (fun c_2 => ?_) (fun c_2 => ?_)
  · skip
    refine r_iload_2 dX0_side_52 (r_iconst dX0_side_53 ?_)
    refine r_icmp_lt dX0_side_54 (by omega) (by omega) (fun c_54 => ?_) (fun c_54 => ?_)
    · omega
    · skip
      refine r_aload_0 dX0_side_57 (r_aload_1 dX0_side_58 (r_iload_3 dX0_side_59 ?_))
      refine r_cVV2 dX0_side_60 vX0_55 (rfl) (hO R M hG) (by omega) (Nat.le_of_ble_eq_true rfl) (fun M_60 h_60 => ?_)
      obtain ⟨g1, g2⟩ := h_60
      refine r_vreturn dX0_side_63 rfl ?_
      exact ⟨rfl, g1, g2⟩
  · omega
set_option maxRecDepth 10000 in
set_option maxHeartbeats 4000000 in
theorem x_sideL {op t tn d r : Nat} {tp : Nat → Int} {S : Nat → List Int → RS} (ht : t < 6) (hop : op ≤ 5) (hd : 8 ≤ d) (hr : r = 0 ∨ r = 1 ∨ r = 3 ∨ r = 4) (hS : SC tp tn t d op (r + 1) S) (hLo : LO S) {R : RS} {M : Mem} (hG : GO tp tn t R M) : Con GX (d + 1) kX0_side [rv 5, rv (36 + 4 * t), iv (r : Int), iv (op : Int)] M (pV (fun M2 => GO tp tn t (rbd R (gX (tk tp tn) S r 160)) M2 ∧ Fr (gc t) M M2)) := by
  refine con_of [some (rv 5), some (rv (36 + 4 * t)), some (iv (r : Int)), some (iv (op : Int)), none, none, none] (plX0) rfl (Nat.le_of_ble_eq_true rfl) (fun z => ?_)
  refine r_iload_2 dX0_side_0 (r_iconst dX0_side_1 ?_)
  refine r_icmp_ne dX0_side_2 (by omega) (by omega) (fun c_2 => ?_) (fun c_2 => ?_)
  · skip
    refine r_iload_2 dX0_side_52 (r_iconst dX0_side_53 ?_)
    refine r_icmp_lt dX0_side_54 (by omega) (by omega) (fun c_54 => ?_) (fun c_54 => ?_)
    · skip
      refine r_aload_0 dX0_side_64 (r_aload_1 dX0_side_65 (r_iload_2 dX0_side_66 (r_iconst dX0_side_67 (r_iadd dX0_side_68 ?_))))
      rw [show (r : Int) + 1 = ((r + 1 : Nat) : Int) by omega]
      refine r_iload_3 dX0_side_69 ?_
      refine r_cVV3 dX0_side_70 vX0_33 (rfl) (hS R M hG) (by omega) (Nat.le_of_ble_eq_true rfl) (fun M_70 h_70 => ?_)
      obtain ⟨g1, g2⟩ := h_70
      refine r_iload_2 dX0_side_73 (r_iconst dX0_side_74 ?_)
      refine r_icmp_ne dX0_side_75 (by omega) (by omega) (fun c_75 => ?_) (fun c_75 => ?_)
      · skip
        refine r_sipush dX0_side_82 (by decide) (r_istore_4 dX0_side_85 rfl (r_iconst dX0_side_87 (r_istore_5 dX0_side_88 rfl ?_)))
        have lp_90 : ∀ (NN : Nat) (i : Nat) (R1 : RS) (u6 : Option PV) (Mv : Mem) (hi : i ≤ 160) (hGv : GO tp tn t R1 Mv) (fv : Fr (gc t) M Mv) (hfin : rbd R1 (lpF (tk tp tn) S (r : Int) (160 - i)) = rbd R (gX (tk tp tn) S r 160)), 200 - i < NN → WP kX0_side GX (d + 1) (pV (fun M2 => GO tp tn t (rbd R (gX (tk tp tn) S r 160)) M2 ∧ Fr (gc t) M M2)) z 90 [some (rv 5), some (rv (36 + 4 * t)), some (iv (r : Int)), some (iv (op : Int)), some (iv 160), some (iv (i : Int)), u6] [] Mv := by
          intro NN
          induction NN with
          | zero => intros; omega
          | succ NN ih =>
            intro i R1 u6 Mv hi hGv fv hfin hm
            have htk := tkR_in (tp := tp) (tn := tn) (R := R1)
            have hrk := rk_in (tkR tp tn R1)
            refine r_iload_5 dX0_side_90 ?_
            refine r_iload_4 dX0_side_92 ?_
            refine r_icmp_ge dX0_side_94 (by omega) (by omega) (fun c_94 => ?_) (fun c_94 => ?_)
            · skip
              refine r_vreturn dX0_side_149 rfl ?_
              refine ⟨rfl, ?_, fv⟩
              rw [← hfin, show 160 - i = 0 by omega, lp_0]
              exact hGv
            · skip
              refine r_aload_0 dX0_side_97 (r_getR dX0_side_98 fX0_15 (rfl) (rfl) (r_getE dX0_side_101 fX0_40 (rfl) (rfl) (hGv.tok) ?_))
              refine r_cSI1 dX0_side_104 sX0_59 (x_rankOf (d := 0) (by omega)) (by omega) (Nat.le_of_ble_eq_true rfl) (fun b_104 M_104 h_104 => ?_)
              obtain ⟨rfl, rfl⟩ := h_104
              refine r_iload_2 dX0_side_107 ?_
              refine r_icmp_ne dX0_side_108 (by omega) (by omega) (fun c_108 => ?_) (fun c_108 => ?_)
              · skip
                refine r_vreturn dX0_side_149 rfl ?_
                refine ⟨rfl, ?_, fv⟩
                rw [← hfin, lp_exit c_108]
                exact hGv
              · skip
                obtain ⟨j1, w1, rfl, hTj⟩ := tkR_some (T := tkR tp tn R1) rfl (fun e => by rw [e] at c_108; have : rk (-2) = -1 := rfl; omega)
                have hG1 : GS tp tn t j1 w1 Mv := hGv
                have hwj := hG1.2.1
                obtain ⟨T, hT⟩ : ∃ T, tkR tp tn (j1, some w1) = T := ⟨_, rfl⟩
                rw [hT] at c_108 hTj htk hrk
                refine r_aload_0 dX0_side_111 (r_getR dX0_side_112 fX0_15 (rfl) (rfl) (r_getE dX0_side_115 fX0_40 (rfl) (rfl) (hGv.tok.trans hT) (r_istore_6 dX0_side_118 rfl (r_aload_0 dX0_side_120 (r_getR dX0_side_121 fX0_15 (rfl) (rfl) ?_)))))
                refine r_cVV0 dX0_side_124 vX0_46 (rfl) (x_advG (t := t) hG1 (fun e => by rw [hTj] at e; rw [e] at c_108; have : rk (-1) = -1 := rfl; omega)) (by omega) (Nat.le_of_ble_eq_true rfl) (fun M_124 h_124 => ?_)
                obtain ⟨q0, g3⟩ := h_124
                refine r_aload_0 dX0_side_127 (r_aload_1 dX0_side_128 (r_iload_2 dX0_side_129 (r_iconst dX0_side_130 (r_iadd dX0_side_131 ?_))))
                rw [show (r : Int) + 1 = ((r + 1 : Nat) : Int) by omega]
                refine r_iload_3 dX0_side_132 ?_
                refine r_cVV3 dX0_side_133 vX0_33 (rfl) (hS (j1 + 1, some w1) M_124 q0) (by omega) (Nat.le_of_ble_eq_true rfl) (fun M_133 h_133 => ?_)
                obtain ⟨q1, q2⟩ := h_133
                refine r_aload_1 dX0_side_136 (r_iload_6 dX0_side_137 (r_ineg dX0_side_139 ?_))
                refine r_cVV1 dX0_side_140 vX0_52 (gX0 ht) (x_addG ht q1 (c := sg T) (Or.inr (Or.inr (sg_bin (by omega)))) (by rw [enc_sg (by omega)]) (fun j2 w2 e => by have := hLo _ _ _ _ e; omega)) (by omega) (Nat.le_of_ble_eq_true rfl) (fun M_140 h_140 => ?_)
                obtain ⟨a1, a2⟩ := h_140
                refine r_iinc_5 dX0_side_143 rfl (r_goto dX0_side_146 ?_)
                exact ih (i + 1) _ _ M_140 (by omega) a1 (fv.trans (g3.trans (q2.trans a2))) (by rw [← hfin, show 160 - i = (160 - (i + 1)) + 1 by omega]; show _ = lpF (tk tp tn) S (r : Int) ((160 - (i + 1)) + 1) j1 w1; simp only [lpF]; rw [if_pos (by rw [hTj]; exact c_108), rbd_rbd, hTj]; rfl) (by omega)
        exact lp_90 _ 0 (rbd R S) none M_70 (by omega) g1 g2 (by rw [rbd_rbd]; rfl) (Nat.lt_succ_self _)
      · omega
    · omega
  · omega
set_option maxRecDepth 10000 in
set_option maxHeartbeats 4000000 in
theorem x_side2 {k op t tn d : Nat} {tp : Nat → Int} {b : Bool} {N : Nat → Nat → List Int → RS} {S : Nat → List Int → RS} (ht : t < 6) (hb : b = decide (0 < k)) (hop : op + k = 5) (hd : 8 ≤ d) (hS : SC tp tn t d op 3 S) (hLo : LO S) (h2 : 0 < k → SC tp tn t d (op + 1) 2 (N 2) ∧ LO (N 2)) {R : RS} {M : Mem} (hG : GO tp tn t R M) : Con GX (d + 1) kX0_side [rv 5, rv (36 + 4 * t), iv 2, iv (op : Int)] M (pV (fun M2 => GO tp tn t (rbd R (g2 (tk tp tn) b N S)) M2 ∧ Fr (gc t) M M2)) := by
  refine con_of [some (rv 5), some (rv (36 + 4 * t)), some (iv 2), some (iv (op : Int)), none, none, none] (plX0) rfl (Nat.le_of_ble_eq_true rfl) (fun z => ?_)
  refine r_iload_2 dX0_side_0 (r_iconst dX0_side_1 ?_)
  refine r_icmp_ne dX0_side_2 (by omega) (by omega) (fun c_2 => ?_) (fun c_2 => ?_)
  · omega
  · skip
    refine r_aload_0 dX0_side_5 (r_getR dX0_side_6 fX0_15 (rfl) (rfl) (r_getE dX0_side_9 fX0_40 (rfl) (rfl) (hG.tok) (r_sipush dX0_side_12 (by decide) ?_)))
    refine r_icmp_ne dX0_side_15 (by have := tkR_in (tp := tp) (tn := tn) (R := R); omega) (by have := tkR_in (tp := tp) (tn := tn) (R := R); omega) (fun c_15 => ?_) (fun c_15 => ?_)
    · skip
      have hgo : rbd R (g2 (tk tp tn) b N S) = rbd R (fun j w => rbd (S j w) (lpF (tk tp tn) S 2 1)) := by
        obtain ⟨j, x⟩ := R
        rcases x with _ | w
        · rfl
        · rw [rbd_some, rbd_some]
          unfold g2
          rw [if_neg (show ¬ tk tp tn j = 261 from c_15)]
          rfl
      refine r_iload_2 dX0_side_52 (r_iconst dX0_side_53 ?_)
      refine r_icmp_lt dX0_side_54 (by omega) (by omega) (fun c_54 => ?_) (fun c_54 => ?_)
      · skip
        refine r_aload_0 dX0_side_64 (r_aload_1 dX0_side_65 (r_iload_2 dX0_side_66 (r_iconst dX0_side_67 (r_iadd dX0_side_68 ?_))))
        rw [show (2 : Int) + 1 = ((3 : Nat) : Int) by omega]
        refine r_iload_3 dX0_side_69 ?_
        refine r_cVV3 dX0_side_70 vX0_33 (rfl) (hS R M hG) (by omega) (Nat.le_of_ble_eq_true rfl) (fun M_70 h_70 => ?_)
        obtain ⟨g1, g9⟩ := h_70
        refine r_iload_2 dX0_side_73 (r_iconst dX0_side_74 ?_)
        refine r_icmp_ne dX0_side_75 (by omega) (by omega) (fun c_75 => ?_) (fun c_75 => ?_)
        · omega
        · skip
          refine r_iconst dX0_side_78 (r_goto dX0_side_79 (r_istore_4 dX0_side_85 rfl (r_iconst dX0_side_87 (r_istore_5 dX0_side_88 rfl ?_))))
          have lp_90 : ∀ (NN : Nat) (i : Nat) (R1 : RS) (u6 : Option PV) (Mv : Mem) (hi : i ≤ 1) (hGv : GO tp tn t R1 Mv) (fv : Fr (gc t) M Mv) (hfin : rbd R1 (lpF (tk tp tn) S 2 (1 - i)) = rbd R (g2 (tk tp tn) b N S)), 200 - i < NN → WP kX0_side GX (d + 1) (pV (fun M2 => GO tp tn t (rbd R (g2 (tk tp tn) b N S)) M2 ∧ Fr (gc t) M M2)) z 90 [some (rv 5), some (rv (36 + 4 * t)), some (iv 2), some (iv (op : Int)), some (iv 1), some (iv (i : Int)), u6] [] Mv := by
            intro NN
            induction NN with
            | zero => intros; omega
            | succ NN ih =>
              intro i R1 u6 Mv hi hGv fv hfin hm
              have htk := tkR_in (tp := tp) (tn := tn) (R := R1)
              have hrk := rk_in (tkR tp tn R1)
              refine r_iload_5 dX0_side_90 ?_
              refine r_iload_4 dX0_side_92 ?_
              refine r_icmp_ge dX0_side_94 (by omega) (by omega) (fun c_94 => ?_) (fun c_94 => ?_)
              · skip
                refine r_vreturn dX0_side_149 rfl ?_
                refine ⟨rfl, ?_, fv⟩
                rw [← hfin, show 1 - i = 0 by omega, lp_0]
                exact hGv
              · skip
                refine r_aload_0 dX0_side_97 (r_getR dX0_side_98 fX0_15 (rfl) (rfl) (r_getE dX0_side_101 fX0_40 (rfl) (rfl) (hGv.tok) ?_))
                refine r_cSI1 dX0_side_104 sX0_59 (x_rankOf (d := 0) (by omega)) (by omega) (Nat.le_of_ble_eq_true rfl) (fun b_104 M_104 h_104 => ?_)
                obtain ⟨rfl, rfl⟩ := h_104
                refine r_iload_2 dX0_side_107 ?_
                refine r_icmp_ne dX0_side_108 (by omega) (by omega) (fun c_108 => ?_) (fun c_108 => ?_)
                · skip
                  refine r_vreturn dX0_side_149 rfl ?_
                  refine ⟨rfl, ?_, fv⟩
                  rw [← hfin, lp_exit c_108]
                  exact hGv
                · skip
                  obtain ⟨j1, w1, rfl, hTj⟩ := tkR_some (T := tkR tp tn R1) rfl (fun e => by rw [e] at c_108; have : rk (-2) = -1 := rfl; omega)
                  have hG1 : GS tp tn t j1 w1 Mv := hGv
                  have hwj := hG1.2.1
                  obtain ⟨T, hT⟩ : ∃ T, tkR tp tn (j1, some w1) = T := ⟨_, rfl⟩
                  rw [hT] at c_108 hTj htk hrk
                  refine r_aload_0 dX0_side_111 (r_getR dX0_side_112 fX0_15 (rfl) (rfl) (r_getE dX0_side_115 fX0_40 (rfl) (rfl) (hGv.tok.trans hT) (r_istore_6 dX0_side_118 rfl (r_aload_0 dX0_side_120 (r_getR dX0_side_121 fX0_15 (rfl) (rfl) ?_)))))
                  refine r_cVV0 dX0_side_124 vX0_46 (rfl) (x_advG (t := t) hG1 (fun e => by rw [hTj] at e; rw [e] at c_108; have : rk (-1) = -1 := rfl; omega)) (by omega) (Nat.le_of_ble_eq_true rfl) (fun M_124 h_124 => ?_)
                  obtain ⟨q0, g3⟩ := h_124
                  refine r_aload_0 dX0_side_127 (r_aload_1 dX0_side_128 (r_iload_2 dX0_side_129 (r_iconst dX0_side_130 (r_iadd dX0_side_131 ?_))))
                  rw [show 2 + 1 = ((3 : Nat) : Int) by omega]
                  refine r_iload_3 dX0_side_132 ?_
                  refine r_cVV3 dX0_side_133 vX0_33 (rfl) (hS (j1 + 1, some w1) M_124 q0) (by omega) (Nat.le_of_ble_eq_true rfl) (fun M_133 h_133 => ?_)
                  obtain ⟨q1, q2⟩ := h_133
                  refine r_aload_1 dX0_side_136 (r_iload_6 dX0_side_137 (r_ineg dX0_side_139 ?_))
                  refine r_cVV1 dX0_side_140 vX0_52 (gX0 ht) (x_addG ht q1 (c := sg T) (Or.inr (Or.inr (sg_bin (by omega)))) (by rw [enc_sg (by omega)]) (fun j2 w2 e => by have := hLo _ _ _ _ e; omega)) (by omega) (Nat.le_of_ble_eq_true rfl) (fun M_140 h_140 => ?_)
                  obtain ⟨a1, a2⟩ := h_140
                  refine r_iinc_5 dX0_side_143 rfl (r_goto dX0_side_146 ?_)
                  exact ih (i + 1) _ _ M_140 (by omega) a1 (fv.trans (g3.trans (q2.trans a2))) (by rw [← hfin, show 1 - i = (1 - (i + 1)) + 1 by omega]; show _ = lpF (tk tp tn) S 2 ((1 - (i + 1)) + 1) j1 w1; simp only [lpF]; rw [if_pos (by rw [hTj]; exact c_108), rbd_rbd, hTj]; rfl) (by omega)
          exact lp_90 _ 0 (rbd R S) none M_70 (by omega) g1 g9 (by rw [rbd_rbd]; exact hgo.symm) (Nat.lt_succ_self _)
      · omega
    · skip
      obtain ⟨j, w, rfl, hTj⟩ := tkR_some c_15 (by decide)
      have hG0 : GS tp tn t j w M := hG
      have hwj := hG0.2.1
      refine r_iload_3 dX0_side_18 (r_iconst dX0_side_19 ?_)
      refine r_icmp_lt dX0_side_20 (by omega) (by omega) (fun c_20 => ?_) (fun c_20 => ?_)
      · skip
        obtain ⟨h2c, h2l⟩ := h2 (by omega)
        have hbt : b = true := by rw [hb, decide_eq_true_eq]; omega
        refine r_aload_0 dX0_side_28 (r_getR dX0_side_29 fX0_15 (rfl) (rfl) ?_)
        refine r_cVV0 dX0_side_32 vX0_46 (rfl) (x_advG (t := t) hG0 (by omega)) (by omega) (Nat.le_of_ble_eq_true rfl) (fun M_32 h_32 => ?_)
        obtain ⟨g1, g3⟩ := h_32
        refine r_aload_0 dX0_side_35 (r_aload_1 dX0_side_36 (r_iconst dX0_side_37 (r_iload_3 dX0_side_38 (r_iconst dX0_side_39 (r_iadd dX0_side_40 ?_)))))
        rw [show (op : Int) + 1 = ((op + 1 : Nat) : Int) by omega]
        refine r_cVV3 dX0_side_41 vX0_33 (rfl) (h2c (j + 1, some w) M_32 g1) (by omega) (Nat.le_of_ble_eq_true rfl) (fun M_41 h_41 => ?_)
        obtain ⟨q1, q2⟩ := h_41
        refine r_aload_1 dX0_side_44 (r_sipush dX0_side_45 (by decide) ?_)
        refine r_cVV1 dX0_side_48 vX0_52 (gX0 ht) (x_addG ht q1 (c := 13) (Or.inr (Or.inl (Or.inl rfl))) (by decide) (fun j2 w2 e => by have := h2l _ _ _ _ e; omega)) (by omega) (Nat.le_of_ble_eq_true rfl) (fun M_48 h_48 => ?_)
        obtain ⟨a1, a2⟩ := h_48
        refine r_vreturn dX0_side_51 rfl ?_
        refine ⟨rfl, ?_, g3.trans (q2.trans a2)⟩
        rw [rbd_some]
        unfold g2
        rw [if_pos hTj, if_pos hbt]
        exact a1
      · skip
        refine r_aload_0 dX0_side_23 ?_
        refine r_cVV0 dX0_side_24 vX0_43 (rfl) (x_refuse ht hG) (by omega) (Nat.le_of_ble_eq_true rfl) (fun M_24 h_24 => ?_)
        obtain ⟨g1, g9⟩ := h_24
        refine r_vreturn dX0_side_27 rfl ?_
        refine ⟨rfl, ?_, g9⟩
        rw [rbd_some]
        unfold g2
        rw [if_pos hTj, if_neg (fun u => by rw [hb, decide_eq_true_eq] at u; omega)]
        exact g1

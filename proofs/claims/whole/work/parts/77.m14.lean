/-! the reference's text() -/
theorem pR_n1 {t v : Nat → Int} {m j : Nat} (h : pR t v m = (j, none)) : ∀ k, pR t v (m + k) = (j, none)
  | 0 => h
  | k + 1 => by
    show rbd (pR t v (m + k)) _ = _
    rw [pR_n1 h k]
    rfl
theorem pR_nn {t v : Nat → Int} {m j : Nat} (hm : m ≤ 3) (h : pR t v m = (j, none)) : pR t v 3 = (j, none) := by
  have := pR_n1 h (3 - m)
  rw [show m + (3 - m) = 3 by omega] at this
  exact this
theorem a_text_n {nT tn : Nat} {X : Nat → Tx} {τ τi : Tn} {img : Bool} {tp ss sz : Nat → Int} {cl : Nat → Nat → Int} {j : Nat} (hn : ¬ nT = 6) (h : pEx (tk tp tn) (vl tp tn) = (j, none)) : a_text (nT, X, τ, img, τi, tn, tp, ss, sz, cl) = -100 - (pl tp tn j : Int) := by
  show (if nT = 6 then (-4 : Int) else match pEx (tk tp tn) (vl tp tn) with
    | (j, none) => -100 - (pl tp tn j : Int)
    | (_, some _) => (nT : Int)) = _
  rw [if_neg hn, h]
theorem a_text_s {nT tn : Nat} {X : Nat → Tx} {τ τi : Tn} {img : Bool} {tp ss sz : Nat → Int} {cl : Nat → Nat → Int} {j : Nat} {p : List Int} (hn : ¬ nT = 6) (h : pEx (tk tp tn) (vl tp tn) = (j, some p)) : a_text (nT, X, τ, img, τi, tn, tp, ss, sz, cl) = (nT : Int) := by
  show (if nT = 6 then (-4 : Int) else match pEx (tk tp tn) (vl tp tn) with
    | (j, none) => -100 - (pl tp tn j : Int)
    | (_, some _) => (nT : Int)) = _
  rw [if_neg hn, h]
theorem t_text_n {nT tn : Nat} {X : Nat → Tx} {τ τi : Tn} {img : Bool} {tp ss sz : Nat → Int} {cl : Nat → Nat → Int} {j : Nat} (hn : ¬ nT = 6) (h : pEx (tk tp tn) (vl tp tn) = (j, none)) : t_text (nT, X, τ, img, τi, tn, tp, ss, sz, cl) = (nT, X, τ, img, τi, 0, tp, ss, sz, cl) := by
  show (if nT = 6 then (nT, X, τ, img, τi, tn, tp, ss, sz, cl) else match pEx (tk tp tn) (vl tp tn) with
    | (_, none) => (nT, X, τ, img, τi, 0, tp, ss, sz, cl)
    | (_, some _) => (nT + 1, upX X nT (pT (tk tp tn) (vl tp tn)), τ, img, τi, 0, tp, ss, sz, cl)) = _
  rw [if_neg hn, h]
theorem t_text_s {nT tn : Nat} {X : Nat → Tx} {τ τi : Tn} {img : Bool} {tp ss sz : Nat → Int} {cl : Nat → Nat → Int} {j : Nat} {p : List Int} (hn : ¬ nT = 6) (h : pEx (tk tp tn) (vl tp tn) = (j, some p)) : t_text (nT, X, τ, img, τi, tn, tp, ss, sz, cl) = (nT + 1, upX X nT (pT (tk tp tn) (vl tp tn)), τ, img, τi, 0, tp, ss, sz, cl) := by
  show (if nT = 6 then (nT, X, τ, img, τi, tn, tp, ss, sz, cl) else match pEx (tk tp tn) (vl tp tn) with
    | (_, none) => (nT, X, τ, img, τi, 0, tp, ss, sz, cl)
    | (_, some _) => (nT + 1, upX X nT (pT (tk tp tn) (vl tp tn)), τ, img, τi, 0, tp, ss, sz, cl)) = _
  rw [if_neg hn, h]
theorem XM.H {M M2 : Mem} {nT : Nat} {X : Nat → Tx} (h : XM M nT X) (hF : Fm (mH nT) M M2) : XM M2 nT X :=
  ⟨h.1, fun t ht => ⟨fun i hi => (hF 6 (200 * t + i) (by have := (h.2 t ht).2.2.2.2.2.2.1; omega)).trans ((h.2 t ht).1 i hi), fun j hj => (hF 7 (4 * t + j) (by omega)).trans ((h.2 t ht).2.1 j hj), (h.2 t ht).2.2⟩⟩
theorem RM.textA {M M2 : Mem} {nT tn : Nat} {X : Nat → Tx} {τ τi : Tn} {img : Bool} {tp ss sz : Nat → Int} {cl : Nat → Nat → Int} {n2 : Nat} {X2 : Nat → Tx} (h : RM M (nT, X, τ, img, τi, tn, tp, ss, sz, cl)) (hF : Fm (mH nT) M M2) (h7 : M2 0 7 = 0) (h10 : M2 0 10 = n2) (hX : XM M2 n2 X2) : RM M2 (n2, X2, τ, img, τi, 0, tp, ss, sz, cl) := by
  obtain ⟨hT, h1, h2, h3, h4, h5, h6, h8⟩ := h
  refine ⟨hT.fr hF (fun c i w => by omega), hX, h10, (hF _ _ (by omega)).trans h3, fun hi => ?_, ⟨h7, fun i hi => absurd hi (Nat.not_lt_zero _)⟩, fun s hs => ⟨(hF _ _ (by omega)).trans (h6 s hs).1, (hF _ _ (by omega)).trans (h6 s hs).2.1, fun i hi => (hF _ _ (by omega)).trans ((h6 s hs).2.2 i hi)⟩, fun i hi => (hF _ _ (by omega)).trans (h8 i hi)⟩
  have g := h4 hi
  exact ⟨fun p hp j hj => (hF _ _ (by omega)).trans (g.1 p hp j hj), fun p hp j hj => (hF _ _ (by omega)).trans (g.2.1 p hp j hj), (hF _ _ (by omega)).trans g.2.2.1, (hF _ _ (by omega)).trans g.2.2.2.1, (hF _ _ (by omega)).trans g.2.2.2.2⟩
theorem RM.text0 {M M2 : Mem} {nT tn : Nat} {X : Nat → Tx} {τ τi : Tn} {img : Bool} {tp ss sz : Nat → Int} {cl : Nat → Nat → Int} (h : RM M (nT, X, τ, img, τi, tn, tp, ss, sz, cl)) (hF : Fm (mH nT) M M2) (h7 : M2 0 7 = 0) (h10 : M2 0 10 = nT) : RM M2 (nT, X, τ, img, τi, 0, tp, ss, sz, cl) := h.textA hF h7 h10 (h.2.1.H hF)
theorem RM.text1 {M M2 : Mem} {nT tn : Nat} {X : Nat → Tx} {τ τi : Tn} {img : Bool} {tp ss sz : Nat → Int} {cl : Nat → Nat → Int} {T : Tx} (h : RM M (nT, X, τ, img, τi, tn, tp, ss, sz, cl)) (hF : Fm (mH nT) M M2) (hn : nT < 6) (h7 : M2 0 7 = 0) (h10 : M2 0 10 = (nT : Int) + 1) (hc : ∀ i, i < (T.2 3).toNat → M2 6 (200 * nT + i) = T.1 i) (hs : ∀ j, j < 4 → M2 7 (4 * nT + j) = T.2 j) (hok : okT T) : RM M2 (nT + 1, upX X nT T, τ, img, τi, 0, tp, ss, sz, cl) := by
  have h1 := h.2.1.H hF
  refine h.textA hF h7 (h10.trans (by omega)) ⟨by omega, fun t ht => ?_⟩
  by_cases e : t = nT
  · subst e
    rw [show upX X t T t = T from if_pos rfl]
    exact ⟨hc, hs, hok⟩
  · rw [show upX X nT T t = X t from if_neg e]
    exact h1.2 t (by omega)
/-- behind some parts -/
def TXn (tp : Nat → Int) (tn nT part : Nat) (g : Bool) (M : Mem) : Prop := (g = true → (∃ j p, pR (tk tp tn) (vl tp tn) part = (j, some p) ∧ M 0 19 = (ps tp tn j : Nat) ∧ M 0 27 = (p.length : Int) ∧ ∀ i, i < p.length → M 6 (200 * nT + i) = p.getD i 0) ∧ ∀ m, m < part → M 7 (4 * nT + m) = ((((pR (tk tp tn) (vl tp tn) m).2.getD []).length : Nat) : Int)) ∧ (g = false → ∃ j, pR (tk tp tn) (vl tp tn) 3 = (j, none) ∧ M 0 20 = (pl tp tn j : Nat))
set_option maxRecDepth 10000 in
set_option maxHeartbeats 4000000 in
theorem m_text {M : Mem} {nT tn : Nat} {X : Nat → Tx} {τ τi : Tn} {img : Bool} {tp ss sz : Nat → Int} {cl : Nat → Nat → Int} (hR : RM M (nT, X, τ, img, τi, tn, tp, ss, sz, cl)) (iT6 : nT ≤ 6) (itn : tn ≤ 160) (itp : ∀ i, i < tn → 0 ≤ tp i ∧ tp i ≤ 255) : Con GM 9 kX6_text [rv 0] M (pI (fun a M2 => a = a_text (nT, X, τ, img, τi, tn, tp, ss, sz, cl) ∧ RM M2 (t_text (nT, X, τ, img, τi, tn, tp, ss, sz, cl)))) := by
  refine con_of [some (rv 0), none, none] (plX6) rfl (Nat.le_of_ble_eq_true rfl) (fun z => ?_)
  have hR0 := hR
  obtain ⟨hT, hX, hnT, himg, hIM, ⟨htn, htp⟩, hsh, hwc⟩ := hR0
  refine r_mb (fun hMB => ?_)
  have hL : LM M tp tn := ⟨⟨itn, itp⟩, htn, htp, hwc⟩
  refine r_aload_0 dX6_text_0 (r_getE dX6_text_1 fX6_89 (rfl) (rfl) (hnT) (r_bipush dX6_text_4 (by decide) ?_))
  refine r_icmp_ne dX6_text_6 (by omega) (by omega) (fun c_6 => ?_) (fun c_6 => ?_)
  · skip
    have hn6 : nT < 6 := by omega
    refine r_aload_0 dX6_text_12 (r_iconst dX6_text_13 ?_)
    refine r_put dX6_text_14 pX6_108 (rfl) (rfl) (by omega) ?_
    refine r_aload_0 dX6_text_17 (r_iconst dX6_text_18 ?_)
    refine r_put dX6_text_19 pX6_124 (rfl) (rfl) (by omega) ?_
    obtain ⟨Ma, hMa⟩ : ∃ x, x = upM (upM M 0 19 0) 0 27 0 := ⟨_, rfl⟩
    rw [← hMa]
    have fa : Fm (mG nT) M Ma := by rw [hMa]; exact (Fm.refl.up (by omega)).up (by omega)
    have hta : TXn tp tn nT 0 true Ma := ⟨fun _ => ⟨⟨0, [], rfl, by rw [hMa, upM_ne (by omega), upM_self]; rfl, by rw [hMa, upM_self]; rfl, fun i hi => absurd hi (Nat.not_lt_zero _)⟩, fun m hm => absurd hm (Nat.not_lt_zero _)⟩, fun w => absurd w (by decide)⟩
    refine r_iconst dX6_text_22 (r_istore_1 dX6_text_23 rfl (r_iconst dX6_text_24 (r_istore_2 dX6_text_25 rfl ?_)))
    have jn_101 : ∀ (g : Bool) (u2 : Option PV) (Mv : Mem) (tv : TXn tp tn nT 3 g Mv) (fv : Fm (mG nT) M Mv), WP kX6_text GM 9 (pI (fun a M2 => a = a_text (nT, X, τ, img, τi, tn, tp, ss, sz, cl) ∧ RM M2 (t_text (nT, X, τ, img, τi, tn, tp, ss, sz, cl)))) z 101 [some (rv 0), some (iv (bi g)), u2] [] Mv := by
      intro g u2 Mv tv fv
      have hLv : LM Mv tp tn := hL.fr fv (fun c i w => by omega)
      have v10 := (fv 0 10 (by omega)).trans hnT
      refine r_iload_1 dX6_text_101 ?_
      have jn_122 : ∀ (b : Bool) (Mw : Mem) (fw : Fm (mG nT) M Mw) (k1 : b = true → ∃ j p, pEx (tk tp tn) (vl tp tn) = (j, some p) ∧ Mw 0 27 = (p.length : Int) ∧ (∀ i, i < p.length → Mw 6 (200 * nT + i) = p.getD i 0) ∧ (∀ m, m < 3 → Mw 7 (4 * nT + m) = ((((pR (tk tp tn) (vl tp tn) m).2.getD []).length : Nat) : Int))) (k2 : b = false → ∃ j, pEx (tk tp tn) (vl tp tn) = (j, none) ∧ Mw 0 20 = (pl tp tn j : Nat)), WP kX6_text GM 9 (pI (fun a M2 => a = a_text (nT, X, τ, img, τi, tn, tp, ss, sz, cl) ∧ RM M2 (t_text (nT, X, τ, img, τi, tn, tp, ss, sz, cl)))) z 122 [some (rv 0), some (iv (bi b)), u2] [] Mw := by
        intro b Mw fw k1 k2
        refine r_mb (fun hMw => ?_)
        have w10 := (fw 0 10 (by omega)).trans hnT
        have wob := hMw 0 27
        refine r_aload_0 dX6_text_122 ?_
        refine r_getR dX6_text_123 fX6_28 (rfl) (rfl) (r_iconst dX6_text_126 (r_aload_0 dX6_text_127 (r_getE dX6_text_128 fX6_89 (rfl) (rfl) (w10) (r_imul dX6_text_131 (r_iconst dX6_text_132 (r_iadd dX6_text_133 (r_aload_0 dX6_text_134 (r_getI dX6_text_135 fX6_124 (rfl) (rfl) ?_))))))))
        refine r_iasX (4 * nT + 3) dX6_text_138 (rfl) (by omega) (by omega) (by omega) (by exact wob) ?_
        have f5 : Fm (mG nT) M _ := fw.up (k := 7) (i := 4 * nT + 3) (v := Mw 0 27) (by omega)
        refine r_aload_0 dX6_text_139 (r_iconst dX6_text_140 ?_)
        refine r_put dX6_text_141 pX6_64 (rfl) (rfl) (by omega) ?_
        refine r_iload_1 dX6_text_144 ?_
        refine r_ifb_ne dX6_text_145 (fun c_145 => ?_) (fun c_145 => ?_)
        · skip
          obtain ⟨j, p, hE, kc, kd, ke⟩ := k1 c_145
          have pt := pT_ok (tk_end itn) (fun i h => vl_in i h) hE
          have e3 : (pT (tk tp tn) (vl tp tn)).2 3 = (p.length : Int) := by
            show ((((pR (tk tp tn) (vl tp tn) 3).2.getD []).length : Nat) : Int) = _
            rw [pt.2]
            rfl
          refine r_aload_0 dX6_text_156 (r_dup_r dX6_text_157 (r_getE dX6_text_158 fX6_89 (rfl) (rfl) ((upM_ne (by omega)).trans ((upM_ne (by omega)).trans w10)) (r_iconst dX6_text_161 (r_iadd dX6_text_162 ?_))))
          refine r_put dX6_text_163 pX6_89 (rfl) (rfl) (by omega) ?_
          refine r_aload_0 dX6_text_166 (r_getE (v := (nT : Int) + 1) dX6_text_167 fX6_89 (rfl) (rfl) (upM_self) (r_iconst dX6_text_170 (r_isub dX6_text_171 ?_)))
          refine r_ireturn dX6_text_172 rfl ?_
          refine ⟨_, rfl, ?_, ?_⟩
          · rw [a_text_s (by omega) hE]; omega
          · rw [t_text_s (by omega) hE]
            refine hR.text1 ((f5.gH.up (by omega)).up (by omega)) hn6 ((upM_ne (by omega)).trans upM_self) upM_self (fun i hi => ?_) (fun m hm => ?_) pt.1
            · rw [e3] at hi
              refine (upM_ne (by omega)).trans ((upM_ne (by omega)).trans ((upM_ne (by omega)).trans ((kd i (by omega)).trans ?_)))
              show _ = ((pR (tk tp tn) (vl tp tn) 3).2.getD []).getD i 0
              rw [pt.2]
              rfl
            · refine (upM_ne (by omega)).trans ((upM_ne (by omega)).trans ?_)
              by_cases e1 : m = 3
              · rw [e1, upM_self, e3]; exact kc
              · rw [upM_ne (by omega)]; exact ke m (by omega)
        · skip
          obtain ⟨j, hE, qb⟩ := k2 c_145
          have hpl := pl_in (tp := tp) (tn := tn) j
          refine r_bipush dX6_text_148 (by decide) (r_aload_0 dX6_text_150 (r_getE dX6_text_151 fX6_111 (rfl) (rfl) ((upM_ne (by omega)).trans ((upM_ne (by omega)).trans qb)) (r_isub dX6_text_154 ?_)))
          refine r_ireturn dX6_text_155 rfl ?_
          refine ⟨_, rfl, ?_, ?_⟩
          · rw [a_text_n (by omega) hE]
          · rw [t_text_n (by omega) hE]
            exact hR.text0 (f5.gH.up (by omega)) upM_self ((upM_ne (by omega)).trans ((upM_ne (by omega)).trans w10))
      refine r_ifb_eq dX6_text_102 (fun c_102 => ?_) (fun c_102 => ?_)
      · skip
        exact jn_122 g Mv fv (fun w => absurd (c_102.symm.trans w) (by decide)) (fun w => by
          obtain ⟨j, q1, q2⟩ := tv.2 w
          exact ⟨j, by unfold pEx; rw [q1]; rfl, q2⟩)
      · skip
        obtain ⟨⟨j, p, q1, q2, q3, q4⟩, q5⟩ := tv.1 c_102
        refine r_aload_0 dX6_text_105 ?_
        refine r_cVV0 dX6_text_106 vX6_146 (rfl) (m_next (a := ps tp tn j) hLv q2 (ps_in j)) (by decide) (Nat.le_of_ble_eq_true rfl) (fun M_106 h_106 => ?_)
        obtain ⟨nx, f1⟩ := h_106
        obtain ⟨n19, n20, n21, -, nx2, -⟩ := nx
        have n19 : M_106 0 19 = (ps tp tn (j + 1) : Nat) := n19
        have n20 : M_106 0 20 = (pl tp tn j : Nat) := n20
        have n21 : M_106 0 21 = mtk (tk tp tn j) := n21
        have nx2 : 256 ≤ tk tp tn j ∧ tk tp tn j ≤ 258 → M_106 0 22 = tk tp tn j - 256 := nx2
        have hTS := TS_tk (tp := tp) (tn := tn) (j := j)
        have hTI := hTS.ti
        have hmi := hTS.mi
        refine r_aload_0 dX6_text_109 (r_getE dX6_text_110 fX6_114 (rfl) (rfl) (n21) ?_)
        refine r_if_ne dX6_text_113 (by omega) (fun c_113 => ?_) (fun c_113 => ?_)
        · skip
          refine r_iconst dX6_text_120 (r_istore_1 dX6_text_121 rfl ?_)
          exact jn_122 false _ (fv.trans f1.nG) (fun w => absurd w (by decide)) (fun _ => ⟨j, by unfold pEx; rw [q1]; exact if_neg (fun w => c_113 (hTI.2.2.2.2.2.2.2.2.mpr w)), n20⟩)
        · skip
          refine r_iconst dX6_text_116 (r_goto dX6_text_117 (r_istore_1 dX6_text_121 rfl ?_))
          exact jn_122 true _ (fv.trans f1.nG) (fun _ => ⟨j, p, by unfold pEx; rw [q1]; exact if_pos (hTI.2.2.2.2.2.2.2.2.mp c_113), (f1 0 27 (by omega)).trans q3, fun i hi => (f1 6 (200 * nT + i) (by omega)).trans (q4 i hi), fun m hm => (f1 7 (4 * nT + m) (by omega)).trans (q5 m hm)⟩) (fun w => absurd w (by decide))
    have lp_26 : ∀ (NN : Nat) (part : Nat) (g : Bool) (Mv : Mem) (hp : part ≤ 3) (tv : TXn tp tn nT part g Mv) (fv : Fm (mG nT) M Mv), 3 - part < NN → WP kX6_text GM 9 (pI (fun a M2 => a = a_text (nT, X, τ, img, τi, tn, tp, ss, sz, cl) ∧ RM M2 (t_text (nT, X, τ, img, τi, tn, tp, ss, sz, cl)))) z 26 [some (rv 0), some (iv (bi g)), some (iv (part : Int))] [] Mv := by
      intro NN
      induction NN with
      | zero => intros; omega
      | succ NN ih =>
        intro part g Mv hp tv fv hm
        have hLv : LM Mv tp tn := hL.fr fv (fun c i w => by omega)
        have v10 := (fv 0 10 (by omega)).trans hnT
        refine r_iload_2 dX6_text_26 ?_
        refine r_iconst dX6_text_27 ?_
        refine r_icmp_ge dX6_text_28 (by omega) (by omega) (fun c_28 => ?_) (fun c_28 => ?_)
        · skip
          obtain rfl : part = 3 := by omega
          exact jn_101 g _ Mv tv fv
        · skip
          refine r_iload_1 dX6_text_31 ?_
          refine r_ifb_eq dX6_text_32 (fun c_32 => ?_) (fun c_32 => ?_)
          · skip
            exact jn_101 g _ Mv ⟨fun w => absurd (c_32.symm.trans w) (by decide), tv.2⟩ fv
          · skip
            subst c_32
            obtain ⟨⟨j, p, q1, q2, q3, q4⟩, q5⟩ := tv.1 rfl
            have pk := pR_ok (tk_end itn) (fun i h => vl_in i h) part j p q1
            refine r_aload_0 dX6_text_35 ?_
            refine r_cVV0 dX6_text_36 vX6_146 (rfl) (m_next (a := ps tp tn j) hLv q2 (ps_in j)) (by decide) (Nat.le_of_ble_eq_true rfl) (fun M_36 h_36 => ?_)
            obtain ⟨nx, f1⟩ := h_36
            obtain ⟨n19, n20, n21, -, nx2, -⟩ := nx
            have n19 : M_36 0 19 = (ps tp tn (j + 1) : Nat) := n19
            have n20 : M_36 0 20 = (pl tp tn j : Nat) := n20
            have n21 : M_36 0 21 = mtk (tk tp tn j) := n21
            have nx2 : 256 ≤ tk tp tn j ∧ tk tp tn j ≤ 258 → M_36 0 22 = tk tp tn j - 256 := nx2
            have hTS := TS_tk (tp := tp) (tn := tn) (j := j)
            have hTI := hTS.ti
            have hmi := hTS.mi
            have hpp : pR (tk tp tn) (vl tp tn) (part + 1) = if tk tp tn j = 256 + (part : Int) then mrun (tk tp tn) (vl tp tn) 160 (j + 1) true true [] p else (j, none) := by
              show rbd (pR (tk tp tn) (vl tp tn) part) (pPart (tk tp tn) (vl tp tn) part) = _
              rw [q1]
              exact pPart_run (tk_end itn)
            have jn_60 : ∀ (b : Bool) (hb : b = decide (tk tp tn j = 256 + (part : Int))), WP kX6_text GM 9 (pI (fun a M2 => a = a_text (nT, X, τ, img, τi, tn, tp, ss, sz, cl) ∧ RM M2 (t_text (nT, X, τ, img, τi, tn, tp, ss, sz, cl)))) z 60 [some (rv 0), some (iv (bi true)), some (iv (part : Int))] [iv (bi b)] M_36 := by
              intro b hb
              refine r_istore_1 dX6_text_60 rfl ?_
              refine r_aload_0 dX6_text_61 (r_getR dX6_text_62 fX6_28 (rfl) (rfl) (r_iconst dX6_text_65 (r_aload_0 dX6_text_66 (r_getE dX6_text_67 fX6_89 (rfl) (rfl) ((f1 0 10 (by omega)).trans v10) (r_imul dX6_text_70 (r_iload_2 dX6_text_71 (r_iadd dX6_text_72 (r_aload_0 dX6_text_73 (r_getE dX6_text_74 fX6_124 (rfl) (rfl) ((f1 0 27 (by omega)).trans q3) ?_)))))))))
              refine r_iasX (4 * nT + part) dX6_text_77 (rfl) (by omega) (by omega) (by omega) (by omega) ?_
              have f2 : Fm (mG nT) M _ := (fv.trans f1.nG).up (k := 7) (i := 4 * nT + part) (v := (p.length : Int)) (by omega)
              refine r_iload_1 dX6_text_78 ?_
              refine r_ifb_eq dX6_text_79 (fun c_79 => ?_) (fun c_79 => ?_)
              · skip
                rw [if_neg (of_decide_eq_false (hb.symm.trans c_79))] at hpp
                refine r_iconst dX6_text_93 (r_istore_1 dX6_text_94 rfl (r_iinc_2 dX6_text_95 rfl (r_goto dX6_text_98 ?_)))
                exact ih (part + 1) false _ (by omega) ⟨fun w => absurd w (by decide), fun _ => ⟨j, pR_nn (show part + 1 ≤ 3 by omega) hpp, (upM_ne (by omega)).trans n20⟩⟩ f2 (by omega)
              · skip
                have hT6 := of_decide_eq_true (hb.symm.trans c_79)
                rw [if_pos hT6] at hpp
                have had := adv_le (t := tk tp tn) (tk_end itn) (j := j) (by omega)
                refine r_aload_0 dX6_text_82 ?_
                refine r_cVI0 dX6_text_83 vX6_159 (rfl) (m_eRead (j := j + 1) (o := p) (R := pR (tk tp tn) (vl tp tn) (part + 1)) (hL.fr f2 (fun c i w => by omega)) hn6 ((upM_ne (by omega)).trans ((f1 0 10 (by omega)).trans v10)) ((upM_ne (by omega)).trans n19) ((upM_ne (by omega)).trans ((f1 0 27 (by omega)).trans q3)) (fun i hi => (upM_ne (by omega)).trans ((f1 6 (200 * nT + i) (by omega)).trans (q4 i hi))) (by omega) (by omega) hpp.symm) (by decide) (Nat.le_of_ble_eq_true rfl) (fun b_83 M_83 h_83 => ?_)
                obtain ⟨rfl, r1, r2, f3⟩ := h_83
                have f4 : Fm (mG nT) M M_83 := f2.trans f3.eG
                refine r_ifb_eq dX6_text_86 (fun c_86 => ?_) (fun c_86 => ?_)
                · skip
                  refine r_iconst dX6_text_93 (r_istore_1 dX6_text_94 rfl (r_iinc_2 dX6_text_95 rfl (r_goto dX6_text_98 ?_)))
                  obtain ⟨⟨j2, x⟩, hR2⟩ : ∃ R, R = pR (tk tp tn) (vl tp tn) (part + 1) := ⟨_, rfl⟩
                  rw [← hR2] at c_86 r1 r2
                  cases x with
                  | some y => exact absurd c_86 (by simp)
                  | none => exact ih (part + 1) false _ (by omega) ⟨fun w => absurd w (by decide), fun _ => ⟨j2, pR_nn (show part + 1 ≤ 3 by omega) hR2.symm, r2 j2 rfl⟩⟩ f4 (by omega)
                · skip
                  refine r_iconst dX6_text_89 (r_goto dX6_text_90 (r_istore_1 dX6_text_94 rfl (r_iinc_2 dX6_text_95 rfl (r_goto dX6_text_98 ?_))))
                  obtain ⟨⟨j2, x⟩, hR2⟩ : ∃ R, R = pR (tk tp tn) (vl tp tn) (part + 1) := ⟨_, rfl⟩
                  rw [← hR2] at c_86 r1 r2
                  cases x with
                  | none => exact absurd c_86 (by simp)
                  | some y =>
                    obtain ⟨s1, s2, s3⟩ := r1 j2 y rfl
                    exact ih (part + 1) true _ (by omega) ⟨fun _ => ⟨⟨j2, y, hR2.symm, s1, s2, s3⟩, fun m hm => by
                      by_cases e1 : m = part
                      · rw [e1, f3 7 (4 * nT + part) (by omega), upM_self, q1]; rfl
                      · rw [f3 7 (4 * nT + m) (by omega), upM_ne (by omega), f1 7 (4 * nT + m) (by omega)]; exact q5 m (by omega)⟩, fun w => absurd w (by decide)⟩ f4 (by omega)
            refine r_aload_0 dX6_text_39 (r_getE dX6_text_40 fX6_114 (rfl) (rfl) (n21) (r_iconst dX6_text_43 ?_))
            refine r_icmp_ne dX6_text_44 (by omega) (by omega) (fun c_44 => ?_) (fun c_44 => ?_)
            · skip
              refine r_iconst dX6_text_59 ?_
              exact jn_60 false (decide_eq_false (fun w => c_44 (hTI.2.2.2.2.2.2.2.1.mpr (by omega)))).symm
            · skip
              have hT3 := hTI.2.2.2.2.2.2.2.1.mp c_44
              refine r_aload_0 dX6_text_47 (r_getE dX6_text_48 fX6_117 (rfl) (rfl) (nx2 hT3) (r_iload_2 dX6_text_51 ?_))
              refine r_icmp_ne dX6_text_52 (by omega) (by omega) (fun c_52 => ?_) (fun c_52 => ?_)
              · skip
                refine r_iconst dX6_text_59 ?_
                exact jn_60 false (decide_eq_false (fun w => c_52 (by omega))).symm
              · skip
                refine r_iconst dX6_text_55 (r_goto dX6_text_56 ?_)
                exact jn_60 true (decide_eq_true (by omega)).symm
    exact lp_26 _ 0 true Ma (by omega) hta fa (Nat.lt_succ_self _)
  · skip
    skip
    refine r_bipush dX6_text_9 (by decide) ?_
    refine r_ireturn dX6_text_11 rfl ?_
    refine ⟨_, rfl, ?_, ?_⟩
    · show (-4 : Int) = if nT = 6 then (-4 : Int) else _
      rw [if_pos (by omega)]
    · show RM M (if nT = 6 then (nT, X, τ, img, τi, tn, tp, ss, sz, cl) else _)
      rw [if_pos (by omega)]
      exact hR
theorem m6_text {M : Mem} {nT tn : Nat} {X : Nat → Tx} {τ τi : Tn} {img : Bool} {tp ss sz : Nat → Int} {cl : Nat → Nat → Int} (hR : RM M (nT, X, τ, img, τi, tn, tp, ss, sz, cl)) (hJ : JNV (nT, X, τ, img, τi, tn, tp, ss, sz, cl)) : Con GM 9 kX6_text [rv 0] M (pI (fun a M2 => a = a_text (nT, X, τ, img, τi, tn, tp, ss, sz, cl) ∧ RM M2 (t_text (nT, X, τ, img, τi, tn, tp, ss, sz, cl)))) := m_text hR hJ.1.1.2 hJ.1.2.2.2.1.1 hJ.1.2.2.2.1.2

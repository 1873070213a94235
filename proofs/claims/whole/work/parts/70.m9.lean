/-! film, lots, sheets -/
abbrev mF (s c i : Nat) : Prop := c = 16 ∨ c = 17 ∨ c = 18 ∨ c = 3 ∨ c = 4 ∨ (c = 0 ∧ i = 5) ∨ ((c = 10 ∨ c = 11) ∧ i = s) ∨ (c = 12 ∧ 40 * s ≤ i ∧ i < 40 * s + 40)
abbrev mQ (c i : Nat) : Prop := c = 16 ∨ c = 17 ∨ c = 18 ∨ c = 3 ∨ c = 4 ∨ (c = 0 ∧ (i = 5 ∨ i = 31))
abbrev mZ (c _i : Nat) : Prop := c = 12
abbrev m3 (c i : Nat) : Prop := c = 0 ∧ i = 31
theorem Fm.C {s : Nat} {M M2 : Mem} (h : Fm (mC s) M M2) : Fm (mF s) M M2 := h.mono (fun c i w => by omega)
theorem Fm.tF {s : Nat} {M M2 : Mem} (h : Fm mT M M2) : Fm (mF s) M M2 := h.mono (fun c i w => by omega)
theorem Fm.kF {s : Nat} {M M2 : Mem} (h : Fm (fun c _ => c = 18) M M2) : Fm (mF s) M M2 := h.mono (fun c i w => by have w : c = 18 := w; omega)
theorem Fm.lF {s : Nat} {M M2 : Mem} (h : Fm (fun c i => c = 3 ∨ c = 4 ∨ (c = 0 ∧ i = 5)) M M2) : Fm (mF s) M M2 := h.mono (fun c i w => by have w : c = 3 ∨ c = 4 ∨ (c = 0 ∧ i = 5) := w; omega)
theorem Fm.tQ {M M2 : Mem} (h : Fm mT M M2) : Fm mQ M M2 := h.mono (fun c i w => by omega)
theorem Fm.kQ {M M2 : Mem} (h : Fm (fun c _ => c = 18) M M2) : Fm mQ M M2 := h.mono (fun c i w => by have w : c = 18 := w; omega)
theorem Fm.lQ {M M2 : Mem} (h : Fm (fun c i => c = 3 ∨ c = 4 ∨ (c = 0 ∧ i = 5)) M M2) : Fm mQ M M2 := h.mono (fun c i w => by have w : c = 3 ∨ c = 4 ∨ (c = 0 ∧ i = 5) := w; omega)
theorem Fm.qW {M M2 : Mem} (h : Fm mQ M M2) : Fm mW M M2 := h.mono (fun c i w => by omega)
theorem RM.sheet2 {M M2 : Mem} {nT tn : Nat} {X : Nat → Tx} {τ τi : Tn} {img : Bool} {tp ss sz : Nat → Int} {cl : Nat → Nat → Int} {s : Nat} {a b : Int} {g : Nat → Int} (h : RM M (nT, X, τ, img, τi, tn, tp, ss, sz, cl)) (hT2 : TM M2 τ) (hF : Fm (mF s) M M2) (ha : M2 10 s = a) (hb : M2 11 s = b) (hg : ∀ i, i < 40 → M2 12 (40 * s + i) = g i) : RM M2 (nT, X, τ, img, τi, tn, tp, upS ss s a, upS sz s b, upC cl s g) := by
  obtain ⟨hT, h1, h2, h3, h4, h5, h6, h7⟩ := h
  refine ⟨hT2, h1.fr hF (fun c i w => by omega), (hF _ _ (by omega)).trans h2, (hF _ _ (by omega)).trans h3, fun hi => ?_, ⟨(hF _ _ (by omega)).trans h5.1, fun i hi => (hF _ _ (by omega)).trans (h5.2 i hi)⟩, fun t ht => ?_, fun i hi => (hF _ _ (by omega)).trans (h7 i hi)⟩
  · have q := h4 hi
    exact ⟨fun p hp j hj => (hF _ _ (by omega)).trans (q.1 p hp j hj), fun p hp j hj => (hF _ _ (by omega)).trans (q.2.1 p hp j hj), (hF _ _ (by omega)).trans q.2.2.1, (hF _ _ (by omega)).trans q.2.2.2.1, (hF _ _ (by omega)).trans q.2.2.2.2⟩
  · by_cases e : t = s
    · subst e
      rw [upS_self, upS_self, upC_self]
      exact ⟨ha, hb, hg⟩
    · rw [upS_ne e, upS_ne e, upC_ne e]
      exact ⟨(hF _ _ (by omega)).trans (h6 t ht).1, (hF _ _ (by omega)).trans (h6 t ht).2.1, fun i hi => (hF _ _ (by omega)).trans ((h6 t ht).2.2 i hi)⟩
theorem lD_no {X : Nat → Tx} {τ : Tn} {seed l : Int} {k p : Nat} (hl : l = (lD X τ seed k).2.2) (hp : nxl l % 6 = (p : Int)) (h : ¬ (p : Int) < (lD X τ seed k).2.1 8 0) : lD X τ seed (k + 1) = ((lD X τ seed k).1, (lD X τ seed k).2.1, nxl (nxl l)) := by
  subst hl
  exact if_neg (by rw [hp]; exact h)
theorem lD_yes {X : Nat → Tx} {τ : Tn} {seed l : Int} {k p d : Nat} (hl : l = (lD X τ seed k).2.2) (hp : nxl l % 6 = (p : Int)) (hd : nxl (nxl l) % 8 = (d : Int)) (h : (p : Int) < (lD X τ seed k).2.1 8 0) : lD X τ seed (k + 1) = ((lD X τ seed k).1 + (if sOut (lD X τ seed k).2.1 p d = 2 then 1 else 0), sTry X (lD X τ seed k).2.1 p d, nxl (nxl l)) := by
  subst hl
  refine (if_pos (by rw [hp]; exact h)).trans ?_
  rw [hp, hd, Int.toNat_natCast, Int.toNat_natCast]
theorem r_eqJ {k : MD} {G : List GD} {n : Nat} {post : Option PV → Mem → Prop} {z : ZZ} {pc : Nat} {L : List (Option PV)} {S : List PV} {M : Mem} {a : Int} (b : Int) (h : a = b) (kk : WP k G n post z pc L (jv b :: S) M) : WP k G n post z pc L (jv a :: S) M := by
  subst h
  exact kk
theorem qM_232 : Cond.constantLong RX6 232 (Int64.ofInt 48271) ∈ q_tbl := by
  rw [show Int64.ofInt 48271 = 48271 by decide +kernel]
  exact qX6_232
theorem qM_234 : Cond.constantLong RX6 234 (Int64.ofInt 2147483647) ∈ q_tbl := by
  rw [show Int64.ofInt 2147483647 = 2147483647 by decide +kernel]
  exact qX6_234
theorem qM_236 : Cond.constantLong RX6 236 (Int64.ofInt 6) ∈ q_tbl := by
  rw [show Int64.ofInt 6 = 6 by decide +kernel]
  exact qX6_236
theorem qM_238 : Cond.constantLong RX6 238 (Int64.ofInt 8) ∈ q_tbl := by
  rw [show Int64.ofInt 8 = 8 by decide +kernel]
  exact qX6_238
set_option maxRecDepth 10000 in
set_option maxHeartbeats 4000000 in
theorem m6_film {M : Mem} {nT tn : Nat} {X : Nat → Tx} {τ τi : Tn} {img : Bool} {tp ss sz : Nat → Int} {cl : Nat → Nat → Int} (hR : RM M (nT, X, τ, img, τi, tn, tp, ss, sz, cl)) (hJ : JNV (nT, X, τ, img, τi, tn, tp, ss, sz, cl)) {s : Int} (h_s : ib s) {p : Int} (h_p : ib p) {n : Int} (h_n : ib n) : Con GM 9 kX6_film [rv 0, iv s, iv p, iv n] M (pI (fun a M2 => a = a_film (nT, X, τ, img, τi, tn, tp, ss, sz, cl) s p n ∧ RM M2 (t_film (nT, X, τ, img, τi, tn, tp, ss, sz, cl) s p n))) := by
  refine con_of [some (rv 0), some (iv s), some (iv p), some (iv n), none] (plX6) rfl (Nat.le_of_ble_eq_true rfl) (fun z => ?_)
  have hR0 := hR
  obtain ⟨hT, hX, hnT, himg, hIM, ⟨htn, htp⟩, hsh, hwc⟩ := hR0
  have hT : TM M τ := hT
  have hJ0 := hJ
  obtain ⟨⟨⟨iT1, iT6⟩, ⟨hw, icl⟩, iim, ⟨itn, itp⟩, ish⟩, hki⟩ := hJ0
  obtain ⟨⟨wn, wn2⟩, wcl, ⟨wl, wl2⟩, -, -⟩ := id hw
  have hcl : τ 8 1 < 2147483648 := by omega
  refine r_mb (fun hMB => ?_)
  refine r_iload_1 dX6_film_0 (r_iconst dX6_film_1 (r_iconst dX6_film_2 ?_))
  refine r_cSI3 dX6_film_3 sX6_75 (m_in (d := 0) (by omega) (by omega) (by omega)) (by decide) (Nat.le_of_ble_eq_true rfl) (fun b_3 M_3 h_3 => ?_)
  obtain ⟨rfl, rfl⟩ := h_3
  first | refine r_ifd_ne dX6_film_6 (fun c_6 => ?_) (fun c_6 => ?_) | refine r_ifb_ne dX6_film_6 (fun c_6 => ?_) (fun c_6 => ?_)
  · skip
    obtain ⟨e, rfl⟩ : ∃ e : Nat, s = e := ⟨s.toNat, by omega⟩
    have he4 : e < 4 := by omega
    have hs := hsh e he4
    have is := ish e he4
    refine r_aload_0 dX6_film_12 (r_iload_2 dX6_film_13 ?_)
    refine r_cVI1 dX6_film_14 vX6_99 (rfl) (m_isOne (d := 0) hT hw (by omega)) (by decide) (Nat.le_of_ble_eq_true rfl) (fun b_14 M_14 h_14 => ?_)
    obtain ⟨rfl, rfl⟩ := h_14
    first | refine r_ifd_ne dX6_film_17 (fun c_17 => ?_) (fun c_17 => ?_) | refine r_ifb_ne dX6_film_17 (fun c_17 => ?_) (fun c_17 => ?_)
    · skip
      obtain ⟨q, rfl⟩ : ∃ q : Nat, p = q := ⟨p.toNat, by omega⟩
      have hq6 : q < 6 := by omega
      have wq := hw.p hq6
      have hqn : (q : Int) < τ 8 0 := by omega
      refine r_iload_3 dX6_film_23 (r_iconst dX6_film_24 (r_bipush dX6_film_25 (by decide) ?_))
      refine r_cSI3 dX6_film_27 sX6_75 (m_in (d := 0) (by omega) (by omega) (by omega)) (by decide) (Nat.le_of_ble_eq_true rfl) (fun b_27 M_27 h_27 => ?_)
      obtain ⟨rfl, rfl⟩ := h_27
      first | refine r_ifd_ne dX6_film_30 (fun c_30 => ?_) (fun c_30 => ?_) | refine r_ifb_ne dX6_film_30 (fun c_30 => ?_) (fun c_30 => ?_)
      · skip
        obtain ⟨N, rfl⟩ : ∃ N : Nat, n = N := ⟨n.toNat, by omega⟩
        refine r_aload_0 dX6_film_36 (r_getR dX6_film_37 fX6_37 (rfl) (rfl) (r_iload_1 dX6_film_40 (r_iconst dX6_film_41 ?_)))
        refine r_iasX (e) dX6_film_42 (rfl) (by omega) (by omega) (by omega) (by omega) ?_
        refine r_aload_0 dX6_film_43 (r_getR dX6_film_44 fX6_40 (rfl) (rfl) (r_iload_1 dX6_film_47 (r_iload_3 dX6_film_48 ?_)))
        refine r_iasX (e) dX6_film_49 (rfl) (by omega) (by omega) (by omega) (by omega) ?_
        obtain ⟨Ma, hMa⟩ : ∃ x, x = upM (upM M 10 e 0) 11 e (N : Int) := ⟨_, rfl⟩
        rw [← hMa]
        have fa : Fm (mC e) M Ma := by rw [hMa]; exact (Fm.refl.up (by omega)).up (by omega)
        have hTa : TM Ma τ := hT.fr fa (fun c i w => by omega)
        have a10 : Ma 10 e = 0 := by rw [hMa, upM_ne (by omega), upM_self]
        have a11 : Ma 11 e = (N : Int) := by rw [hMa, upM_self]
        refine r_aload_0 dX6_film_50 ?_
        refine r_cVV0 dX6_film_51 vX6_199 (rfl) (m_keeps hTa) (by decide) (Nat.le_of_ble_eq_true rfl) (fun M_51 h_51 => ?_)
        obtain ⟨hk0, fk0⟩ := h_51
        have wk0 := hTa.k18 fk0
        refine r_iconst dX6_film_54 (r_istore_4 dX6_film_55 rfl ?_)
        have lp_57 : ∀ (NN : Nat) (k m : Nat) (Mv : Mem) (hk : k ≤ 40) (hmm : m = if k ≤ N then k else N) (wv : TM Mv (sRun X τ m)) (kv : KP Mv τ) (fv : Fm (mF e) M Mv) (v10 : Mv 10 e = 0) (v11 : Mv 11 e = (N : Int)) (hc : ∀ j, j < k → Mv 12 (40 * e + j) = fl_c X τ q N j), 100 - k < NN → WP kX6_film GM 9 (pI (fun a M2 => a = a_film (nT, X, τ, img, τi, tn, tp, ss, sz, cl) (e : Int) (q : Int) (N : Int) ∧ RM M2 (t_film (nT, X, τ, img, τi, tn, tp, ss, sz, cl) (e : Int) (q : Int) (N : Int)))) z 57 [some (rv 0), some (iv (e : Int)), some (iv (q : Int)), some (iv (N : Int)), some (iv (k : Int))] [] Mv := by
          intro NN
          induction NN with
          | zero => intros; omega
          | succ NN ih =>
            intro k m Mv hk hmm wv kv fv v10 v11 hc hm
            have hck := sRun_clk X τ m
            have wm := sRun_wf (X := X) hw m
            have hmk : m ≤ k ∧ m ≤ N := by split at hmm <;> omega
            refine r_iload_4 dX6_film_57 ?_
            refine r_bipush dX6_film_59 (by decide) ?_
            refine r_icmp_ge dX6_film_61 (by omega) (by omega) (fun c_61 => ?_) (fun c_61 => ?_)
            · skip
              obtain rfl : k = 40 := by omega
              refine r_aload_0 dX6_film_116 ?_
              refine r_cVV0 dX6_film_117 vX6_208 (rfl) (m_lays wv kv (SK8.run _).1 (SK8.run _).2) (by decide) (Nat.le_of_ble_eq_true rfl) (fun M_117 h_117 => ?_)
              obtain ⟨w9, f9⟩ := h_117
              refine r_iload_3 dX6_film_120 ?_
              refine r_ireturn dX6_film_121 rfl ?_
              refine ⟨_, rfl, ?_, ?_⟩
              · unfold a_film
                simp only [Int.toNat_natCast]
                rw [if_neg (by omega), if_neg (by omega), if_neg (by omega)]
              · unfold t_film
                simp only [Int.toNat_natCast]
                rw [if_neg (by omega)]
                exact hR.sheet2 w9 (fv.trans f9.lF) ((f9 10 e (by omega)).trans v10) ((f9 11 e (by omega)).trans v11) (fun i hi => (f9 12 (40 * e + i) (by omega)).trans (hc i hi))
            · skip
              refine r_aload_0 dX6_film_64 (r_getR dX6_film_65 fX6_43 (rfl) (rfl) (r_bipush dX6_film_68 (by decide) (r_iload_1 dX6_film_70 (r_imul dX6_film_71 (r_iload_4 dX6_film_72 (r_iadd dX6_film_74 (r_iconst dX6_film_75 ?_)))))))
              refine r_iasX (40 * e + k) dX6_film_76 (rfl) (by omega) (by omega) (by omega) (by omega) ?_
              have w1 : TM _ (sRun X τ m) := wv.fr (P := mZ) (Fm.refl.up (k := 12) (i := 40 * e + k) (v := 0) rfl) (fun c i w => by omega)
              have k1 : KP _ τ := kv.fr (P := mZ) (Fm.refl.up (k := 12) (i := 40 * e + k) (v := 0) rfl) (fun i w => by omega)
              have f1 : Fm (mF e) M _ := fv.up (k := 12) (i := 40 * e + k) (v := 0) (by omega)
              refine r_iload_4 dX6_film_77 (r_iload_3 dX6_film_79 ?_)
              refine r_icmp_ge dX6_film_80 (by omega) (by omega) (fun c_80 => ?_) (fun c_80 => ?_)
              · skip
                skip
                refine r_iinc_4 dX6_film_110 rfl (r_goto dX6_film_113 ?_)
                exact ih (k + 1) m _ (by omega) (by rw [hmm]; (repeat' split) <;> omega) w1 k1 f1 ((upM_ne (by omega)).trans v10) ((upM_ne (by omega)).trans v11) (fun j hj => by
                  by_cases e1 : j = k
                  · rw [e1, upM_self]; unfold fl_c; rw [if_neg (by omega)]
                  · rw [upM_ne (by omega)]; exact hc j (by omega)) (by omega)
              · skip
                have hmk2 : m = k := by rw [hmm, if_pos (by omega)]
                rw [hmk2] at w1 wm hck
                refine r_aload_0 dX6_film_83 ?_
                refine r_cVI0 dX6_film_84 vX6_196 (rfl) (m_minuteOf w1 wm (hX.fr f1 (fun c i w => by omega)) (by omega)) (by decide) (Nat.le_of_ble_eq_true rfl) (fun b_84 M_84 h_84 => ?_)
                obtain ⟨rfl, w2, f2⟩ := h_84
                have w2 : TM M_84 (sRun X τ (k + 1)) := w2
                have k2 := k1.tn f2
                have f3 := f1.trans (f2.tF (s := e))
                have wq2 := (sRun_wf (X := X) hw (k + 1)).p hq6
                refine r_pop_i dX6_film_87 (r_aload_0 dX6_film_88 (r_getR dX6_film_89 fX6_43 (rfl) (rfl) (r_bipush dX6_film_92 (by decide) (r_iload_1 dX6_film_94 (r_imul dX6_film_95 (r_iload_4 dX6_film_96 (r_iadd dX6_film_98 (r_aload_0 dX6_film_99 (r_getR dX6_film_100 fX6_16 (rfl) (rfl) (r_iconst dX6_film_103 (r_iload_2 dX6_film_104 (r_imul dX6_film_105 (r_iconst dX6_film_106 (r_iadd dX6_film_107 (r_ialX dX6_film_108 (rfl) (w2.e4 hq6) (by omega) (by omega) (by omega) ?_)))))))))))))))
                refine r_iasX (40 * e + k) dX6_film_109 (rfl) (by omega) (by omega) (by omega) (by omega) ?_
                have w4 : TM _ (sRun X τ (k + 1)) := w2.fr (P := mZ) (Fm.refl.up (k := 12) (i := 40 * e + k) (v := sRun X τ (k + 1) 4 q) rfl) (fun c i w => by omega)
                have k4 : KP _ τ := k2.fr (P := mZ) (Fm.refl.up (k := 12) (i := 40 * e + k) (v := sRun X τ (k + 1) 4 q) rfl) (fun i w => by omega)
                have f4 : Fm (mF e) M _ := f3.up (k := 12) (i := 40 * e + k) (v := sRun X τ (k + 1) 4 q) (by omega)
                refine r_iinc_4 dX6_film_110 rfl (r_goto dX6_film_113 ?_)
                exact ih (k + 1) (k + 1) _ (by omega) (by rw [if_pos (by omega)]) w4 k4 f4 ((upM_ne (by omega)).trans ((f2 10 e (by omega)).trans ((upM_ne (by omega)).trans v10))) ((upM_ne (by omega)).trans ((f2 11 e (by omega)).trans ((upM_ne (by omega)).trans v11))) (fun j hj => by
                  by_cases e1 : j = k
                  · rw [e1, upM_self]; unfold fl_c; rw [if_pos (by omega)]
                  · rw [upM_ne (by omega)]; exact (f2 12 (40 * e + j) (by omega)).trans ((upM_ne (by omega)).trans (hc j (by omega)))) (by omega)
        exact lp_57 _ 0 0 M_51 (by omega) rfl wk0 hk0 (fa.C.trans fk0.kF) ((fk0 10 e (by omega)).trans a10) ((fk0 11 e (by omega)).trans a11) (fun j hj => absurd hj (Nat.not_lt_zero _)) (Nat.lt_succ_self _)
      · skip
        refine r_bipush dX6_film_33 (by decide) ?_
        refine r_ireturn dX6_film_35 rfl ?_
        refine ⟨_, rfl, ?_, ?_⟩
        · unfold a_film
          simp only [Int.toNat_natCast]
          (repeat (first | rw [if_pos (by omega)] | rw [if_neg (by omega)])) <;> first | with_reducible rfl | omega
        · unfold t_film
          simp only [Int.toNat_natCast]
          (repeat (first | rw [if_pos (by omega)] | rw [if_neg (by omega)])) <;> first | exact hR
    · skip
      refine r_bipush dX6_film_20 (by decide) ?_
      refine r_ireturn dX6_film_22 rfl ?_
      refine ⟨_, rfl, ?_, ?_⟩
      · unfold a_film
        simp only [Int.toNat_natCast]
        (repeat (first | rw [if_pos (by omega)] | rw [if_neg (by omega)])) <;> first | with_reducible rfl | omega
      · unfold t_film
        simp only [Int.toNat_natCast]
        (repeat (first | rw [if_pos (by omega)] | rw [if_neg (by omega)])) <;> first | exact hR
  · skip
    refine r_bipush dX6_film_9 (by decide) ?_
    refine r_ireturn dX6_film_11 rfl ?_
    refine ⟨_, rfl, ?_, ?_⟩
    · unfold a_film
      simp only [Int.toNat_natCast]
      (repeat (first | rw [if_pos (by omega)] | rw [if_neg (by omega)])) <;> first | with_reducible rfl | omega
    · unfold t_film
      simp only [Int.toNat_natCast]
      (repeat (first | rw [if_pos (by omega)] | rw [if_neg (by omega)])) <;> first | exact hR
set_option maxRecDepth 10000 in
set_option maxHeartbeats 4000000 in
theorem m_lot {n : Nat} {seed : Int} {M : Mem} {nT : Nat} {τ : Tn} {X : Nat → Tx} (hT : TM M τ) (hw : WF nT τ) (hX : XM M nT X) (hcl : τ 8 1 ≤ 9999) (hs : 0 ≤ seed ∧ seed < 1000000) (hn : n ≤ 60) : Con GM 5 kX6_lotDay [rv 0, iv seed, iv (n : Int)] M (pI (fun a M2 => a = sSnd (lD X τ seed n).2.1 ∧ M2 0 31 = (lD X τ seed n).1 ∧ TM M2 τ ∧ Fm mQ M M2)) := by
  refine con_of [some (rv 0), some (iv seed), some (iv (n : Int)), none, none, none, none] (plX6) rfl (Nat.le_of_ble_eq_true rfl) (fun z => ?_)
  obtain ⟨⟨wn, wn2⟩, wcl, ⟨wl, wl2⟩, -, -⟩ := id hw
  refine r_iload_1 dX6_lotDay_0 (r_i2l dX6_lotDay_1 (by omega) (r_lconst1 dX6_lotDay_2 (r_ladd dX6_lotDay_3 (r_lstore_3 dX6_lotDay_4 rfl (r_aload_0 dX6_lotDay_5 (r_iconst dX6_lotDay_6 ?_))))))
  refine r_put dX6_lotDay_7 pX6_229 (rfl) (rfl) (by omega) ?_
  have fa : Fm m3 M (upM M 0 31 0) := Fm.refl.up ⟨rfl, rfl⟩
  have hTa : TM (upM M 0 31 0) τ := hT.fr fa (fun c i w => by omega)
  refine r_aload_0 dX6_lotDay_10 ?_
  refine r_cVV0 dX6_lotDay_11 vX6_199 (rfl) (m_keeps hTa) (by decide) (Nat.le_of_ble_eq_true rfl) (fun M_11 h_11 => ?_)
  obtain ⟨hk0, fk0⟩ := h_11
  have wk0 := hTa.k18 fk0
  refine r_iconst dX6_lotDay_14 (r_istore_5 dX6_lotDay_15 rfl ?_)
  have lp_17 : ∀ (NN : Nat) (k : Nat) (l : Int) (u6 : Option PV) (Mv : Mem) (hk : k ≤ n) (hl : l = (lD X τ seed k).2.2) (h31 : Mv 0 31 = (lD X τ seed k).1) (wv : TM Mv (lD X τ seed k).2.1) (kv : KP Mv τ) (fv : Fm mQ M Mv), 100 - k < NN → WP kX6_lotDay GM 5 (pI (fun a M2 => a = sSnd (lD X τ seed n).2.1 ∧ M2 0 31 = (lD X τ seed n).1 ∧ TM M2 τ ∧ Fm mQ M M2)) z 17 [some (rv 0), some (iv seed), some (iv (n : Int)), some (jv l), none, some (iv (k : Int)), u6] [] Mv := by
    intro NN
    induction NN with
    | zero => intros; omega
    | succ NN ih =>
      intro k l u6 Mv hk hl h31 wv kv fv hm
      have lb := lD_lot (X := X) (τ := τ) hs k
      rw [← hl] at lb
      have lw := lD_wf (X := X) (seed := seed) hw k
      have l80 := lD_80 (X := X) (τ := τ) (seed := seed) (i := 0) k
      have l81 := lD_80 (X := X) (τ := τ) (seed := seed) (i := 1) k
      have lin := lD_in (X := X) (τ := τ) (seed := seed) k
      have n1 := nxl_in l
      have n2 := nxl_in (nxl l)
      have hr1 := i6_rem (a := l * 48271) (b := 2147483647) (by omega) (by omega)
      have hr2 := i6_rem (a := nxl l * 48271) (b := 2147483647) (by omega) (by omega)
      have hr3 := i6_rem (a := nxl l) (b := 6) (by omega) (by omega)
      have hr4 := i6_rem (a := nxl (nxl l)) (b := 8) (by omega) (by omega)
      obtain ⟨p, hp⟩ : ∃ p : Nat, nxl l % 6 = p := ⟨(nxl l % 6).toNat, by omega⟩
      obtain ⟨d, hd⟩ : ∃ d : Nat, nxl (nxl l) % 8 = d := ⟨(nxl (nxl l) % 8).toNat, by omega⟩
      refine r_iload_5 dX6_lotDay_17 ?_
      refine r_iload_2 dX6_lotDay_19 ?_
      refine r_icmp_ge dX6_lotDay_20 (by omega) (by omega) (fun c_20 => ?_) (fun c_20 => ?_)
      · skip
        obtain rfl : k = n := by omega
        refine r_aload_0 dX6_lotDay_96 (r_iconst dX6_lotDay_97 ?_)
        refine r_cVI1 dX6_lotDay_98 vX6_82 (rfl) (m_having (n := 0) (j := 2) wv lw (by decide)) (by decide) (Nat.le_of_ble_eq_true rfl) (fun b_98 M_98 h_98 => ?_)
        obtain ⟨rfl, rfl⟩ := h_98
        refine r_istore_5 dX6_lotDay_101 rfl (r_aload_0 dX6_lotDay_103 ?_)
        refine r_cVV0 dX6_lotDay_104 vX6_208 (rfl) (m_lays wv kv (SK8.lot _).1 (SK8.lot _).2) (by decide) (Nat.le_of_ble_eq_true rfl) (fun M_104 h_104 => ?_)
        obtain ⟨w9, f9⟩ := h_104
        refine r_iload_5 dX6_lotDay_107 ?_
        refine r_ireturn dX6_lotDay_109 rfl ?_
        exact ⟨_, rfl, rfl, (f9 0 31 (by omega)).trans h31, w9, fv.trans f9.lQ⟩
      · skip
        skip
        refine r_lload_3 dX6_lotDay_23 (r_ldc2 (a := 48271) dX6_lotDay_24 qM_232 (r_lmul dX6_lotDay_27 (r_ldc2 (a := 2147483647) dX6_lotDay_28 qM_234 ?_)))
        refine r_lrem (r := nxl l) dX6_lotDay_31 (hr1.1) (hr1.2) ?_
        refine r_lstore_3 dX6_lotDay_32 rfl (r_lload_3 dX6_lotDay_33 (r_ldc2 (a := 6) dX6_lotDay_34 qM_236 ?_))
        refine r_lrem (r := nxl l % 6) dX6_lotDay_37 (hr3.1) (hr3.2) ?_
        rw [hp]
        refine r_l2i dX6_lotDay_38 (r_istore_6 dX6_lotDay_39 rfl (r_lload_3 dX6_lotDay_41 (r_ldc2 (a := 48271) dX6_lotDay_42 qM_232 (r_lmul dX6_lotDay_45 (r_ldc2 (a := 2147483647) dX6_lotDay_46 qM_234 ?_)))))
        refine r_lrem (r := nxl (nxl l)) dX6_lotDay_49 (hr2.1) (hr2.2) ?_
        refine r_lstore_3 dX6_lotDay_50 rfl (r_iload_6 dX6_lotDay_51 (r_aload_0 dX6_lotDay_53 (r_getE dX6_lotDay_54 fX6_72 (rfl) (rfl) (wv.people.trans l80) ?_)))
        refine r_icmp_ge dX6_lotDay_57 (by omega) (by omega) (fun c_57 => ?_) (fun c_57 => ?_)
        · skip
          have hlD := lD_no hl hp (by omega)
          refine r_iinc_5 dX6_lotDay_90 rfl (r_goto dX6_lotDay_93 ?_)
          exact ih (k + 1) _ _ _ (by omega) (by rw [hlD]) (by rw [hlD]; exact h31) (by rw [hlD]; exact wv) kv fv (by omega)
        · skip
          have hlD := lD_yes hl hp hd (by omega)
          refine r_aload_0 dX6_lotDay_60 (r_dup_r dX6_lotDay_61 (r_getE dX6_lotDay_62 fX6_229 (rfl) (rfl) (h31) (r_aload_0 dX6_lotDay_65 (r_iload_6 dX6_lotDay_66 (r_lload_3 dX6_lotDay_68 (r_ldc2 (a := 8) dX6_lotDay_69 qM_238 ?_))))))
          refine r_lrem (r := nxl (nxl l) % 8) dX6_lotDay_72 (hr4.1) (hr4.2) ?_
          rw [hd]
          refine r_l2i dX6_lotDay_73 ?_
          refine r_cVI2 dX6_lotDay_74 vX6_193 (rfl) (m_tryOf (p := p) (d := d) wv lw (hX.fr fv (fun c i w => by omega)) (by omega) (by omega) (by omega)) (by decide) (Nat.le_of_ble_eq_true rfl) (fun b_74 M_74 h_74 => ?_)
          obtain ⟨rfl, w1, f1⟩ := h_74
          have k1 := kv.tn f1
          have so := sOut_in (lD X τ seed k).2.1 p d
          refine r_iconst dX6_lotDay_77 ?_
          refine r_icmp_ne dX6_lotDay_78 (by omega) (by omega) (fun c_78 => ?_) (fun c_78 => ?_)
          · skip
            refine r_iconst dX6_lotDay_85 (r_iadd dX6_lotDay_86 ?_)
            refine r_put dX6_lotDay_87 pX6_229 (rfl) (rfl) (by omega) ?_
            refine r_iinc_5 dX6_lotDay_90 rfl (r_goto dX6_lotDay_93 ?_)
            exact ih (k + 1) _ _ _ (by omega) (by rw [hlD]) (by rw [upM_self, hlD]; show _ = (lD X τ seed k).1 + (if sOut (lD X τ seed k).2.1 p d = 2 then 1 else 0); rw [if_neg (by omega)]) (by rw [hlD]; exact w1.fr (P := m3) (Fm.refl.up ⟨rfl, rfl⟩) (fun c i w => by omega)) (k1.fr (P := m3) (Fm.refl.up ⟨rfl, rfl⟩) (fun i w => by omega)) ((fv.trans f1.tQ).up (by omega)) (by omega)
          · skip
            refine r_iconst dX6_lotDay_81 (r_goto dX6_lotDay_82 (r_iadd dX6_lotDay_86 ?_))
            refine r_put dX6_lotDay_87 pX6_229 (rfl) (rfl) (by omega) ?_
            refine r_iinc_5 dX6_lotDay_90 rfl (r_goto dX6_lotDay_93 ?_)
            exact ih (k + 1) _ _ _ (by omega) (by rw [hlD]) (by rw [upM_self, hlD]; show _ = (lD X τ seed k).1 + (if sOut (lD X τ seed k).2.1 p d = 2 then 1 else 0); rw [if_pos (by omega)]) (by rw [hlD]; exact w1.fr (P := m3) (Fm.refl.up ⟨rfl, rfl⟩) (fun c i w => by omega)) (k1.fr (P := m3) (Fm.refl.up ⟨rfl, rfl⟩) (fun i w => by omega)) ((fv.trans f1.tQ).up (by omega)) (by omega)
  exact lp_17 _ 0 _ _ M_11 (by omega) rfl ((fk0 0 31 (by omega)).trans upM_self) wk0 hk0 ((fa.mono (fun c i w => by omega)).trans fk0.kQ) (Nat.lt_succ_self _)
set_option maxRecDepth 10000 in
set_option maxHeartbeats 4000000 in
theorem m6_drawn {M : Mem} {nT tn : Nat} {X : Nat → Tx} {τ τi : Tn} {img : Bool} {tp ss sz : Nat → Int} {cl : Nat → Nat → Int} (hR : RM M (nT, X, τ, img, τi, tn, tp, ss, sz, cl)) (hJ : JNV (nT, X, τ, img, τi, tn, tp, ss, sz, cl)) {seed : Int} (h_seed : ib seed) {n : Int} (h_n : ib n) {what : Int} (h_what : ib what) : Con GM 9 kX6_drawn [rv 0, iv seed, iv n, iv what] M (pI (fun a M2 => a = a_drawn (nT, X, τ, img, τi, tn, tp, ss, sz, cl) seed n what ∧ RM M2 (nT, X, τ, img, τi, tn, tp, ss, sz, cl))) := by
  refine con_of [some (rv 0), some (iv seed), some (iv n), some (iv what), none] (plX6) rfl (Nat.le_of_ble_eq_true rfl) (fun z => ?_)
  have hR0 := hR
  obtain ⟨hT, hX, hnT, himg, hIM, ⟨htn, htp⟩, hsh, hwc⟩ := hR0
  have hT : TM M τ := hT
  have hJ0 := hJ
  obtain ⟨⟨⟨iT1, iT6⟩, ⟨hw, icl⟩, iim, ⟨itn, itp⟩, ish⟩, hki⟩ := hJ0
  obtain ⟨⟨wn, wn2⟩, wcl, ⟨wl, wl2⟩, -, -⟩ := id hw
  have hcl : τ 8 1 < 2147483648 := by omega
  refine r_mb (fun hMB => ?_)
  refine r_iload_1 dX6_drawn_0 (r_iconst dX6_drawn_1 (r_ldc (a := 99999) dX6_drawn_2 qX6_240 ?_))
  refine r_cSI3 dX6_drawn_4 sX6_75 (m_in (d := 0) (by omega) (by omega) (by omega)) (by decide) (Nat.le_of_ble_eq_true rfl) (fun b_4 M_4 h_4 => ?_)
  obtain ⟨rfl, rfl⟩ := h_4
  first | refine r_ifd_eq dX6_drawn_7 (fun c_7 => ?_) (fun c_7 => ?_) | refine r_ifb_eq dX6_drawn_7 (fun c_7 => ?_) (fun c_7 => ?_)
  · skip
    refine r_bipush dX6_drawn_29 (by decide) ?_
    refine r_ireturn dX6_drawn_31 rfl ?_
    refine ⟨_, rfl, ?_, hR⟩
    unfold a_drawn
    simp only []
    rw [if_pos (by omega)]
  · skip
    refine r_iload_2 dX6_drawn_10 (r_iconst dX6_drawn_11 (r_bipush dX6_drawn_12 (by decide) ?_))
    refine r_cSI3 dX6_drawn_14 sX6_75 (m_in (d := 0) (by omega) (by omega) (by omega)) (by decide) (Nat.le_of_ble_eq_true rfl) (fun b_14 M_14 h_14 => ?_)
    obtain ⟨rfl, rfl⟩ := h_14
    first | refine r_ifd_eq dX6_drawn_17 (fun c_17 => ?_) (fun c_17 => ?_) | refine r_ifb_eq dX6_drawn_17 (fun c_17 => ?_) (fun c_17 => ?_)
    · skip
      refine r_bipush dX6_drawn_29 (by decide) ?_
      refine r_ireturn dX6_drawn_31 rfl ?_
      refine ⟨_, rfl, ?_, hR⟩
      unfold a_drawn
      simp only []
      rw [if_pos (by omega)]
    · skip
      refine r_iload_3 dX6_drawn_20 (r_iconst dX6_drawn_21 (r_iconst dX6_drawn_22 ?_))
      refine r_cSI3 dX6_drawn_23 sX6_75 (m_in (d := 0) (by omega) (by omega) (by omega)) (by decide) (Nat.le_of_ble_eq_true rfl) (fun b_23 M_23 h_23 => ?_)
      obtain ⟨rfl, rfl⟩ := h_23
      first | refine r_ifd_ne dX6_drawn_26 (fun c_26 => ?_) (fun c_26 => ?_) | refine r_ifb_ne dX6_drawn_26 (fun c_26 => ?_) (fun c_26 => ?_)
      · skip
        obtain ⟨N, rfl⟩ : ∃ N : Nat, n = N := ⟨n.toNat, by omega⟩
        refine r_aload_0 dX6_drawn_32 (r_iload_1 dX6_drawn_33 (r_iload_2 dX6_drawn_34 ?_))
        refine r_cVI2 dX6_drawn_35 vX6_241 (rfl) (m_lot (seed := seed) (n := N) hT hw hX (by omega) (by omega) (by omega)) (by decide) (Nat.le_of_ble_eq_true rfl) (fun b_35 M_35 h_35 => ?_)
        obtain ⟨rfl, h31, w9, f9⟩ := h_35
        refine r_istore_4 dX6_drawn_38 rfl (r_iload_3 dX6_drawn_40 ?_)
        refine r_if_ne dX6_drawn_41 (by omega) (fun c_41 => ?_) (fun c_41 => ?_)
        · skip
          refine r_aload_0 dX6_drawn_49 (r_getE dX6_drawn_50 fX6_229 (rfl) (rfl) (h31) ?_)
          refine r_ireturn dX6_drawn_53 rfl ?_
          refine ⟨_, rfl, ?_, hR.now w9 f9.qW⟩
          unfold a_drawn
          simp only [Int.toNat_natCast]
          rw [if_neg (by omega), if_neg (by omega)]
        · skip
          refine r_iload_4 dX6_drawn_44 (r_goto dX6_drawn_46 ?_)
          refine r_ireturn dX6_drawn_53 rfl ?_
          refine ⟨_, rfl, ?_, hR.now w9 f9.qW⟩
          unfold a_drawn
          simp only [Int.toNat_natCast]
          rw [if_neg (by omega), if_pos (by omega)]
      · skip
        refine r_bipush dX6_drawn_29 (by decide) ?_
        refine r_ireturn dX6_drawn_31 rfl ?_
        refine ⟨_, rfl, ?_, hR⟩
        unfold a_drawn
        simp only []
        rw [if_pos (by omega)]
set_option maxRecDepth 10000 in
set_option maxHeartbeats 4000000 in
theorem m6_odds {M : Mem} {nT tn : Nat} {X : Nat → Tx} {τ τi : Tn} {img : Bool} {tp ss sz : Nat → Int} {cl : Nat → Nat → Int} (hR : RM M (nT, X, τ, img, τi, tn, tp, ss, sz, cl)) (hJ : JNV (nT, X, τ, img, τi, tn, tp, ss, sz, cl)) {seed : Int} (h_seed : ib seed) {n : Int} (h_n : ib n) {least : Int} (h_least : ib least) {part : Int} (h_part : ib part) : Con GM 9 kX6_odds [rv 0, iv seed, iv n, iv least, iv part] M (pJ (fun a M2 => a = a_odds (nT, X, τ, img, τi, tn, tp, ss, sz, cl) seed n least part ∧ RM M2 (nT, X, τ, img, τi, tn, tp, ss, sz, cl))) := by
  refine con_of [some (rv 0), some (iv seed), some (iv n), some (iv least), some (iv part), none, none, none] (plX6) rfl (Nat.le_of_ble_eq_true rfl) (fun z => ?_)
  have hR0 := hR
  obtain ⟨hT, hX, hnT, himg, hIM, ⟨htn, htp⟩, hsh, hwc⟩ := hR0
  have hT : TM M τ := hT
  have hJ0 := hJ
  obtain ⟨⟨⟨iT1, iT6⟩, ⟨hw, icl⟩, iim, ⟨itn, itp⟩, ish⟩, hki⟩ := hJ0
  obtain ⟨⟨wn, wn2⟩, wcl, ⟨wl, wl2⟩, -, -⟩ := id hw
  have hcl : τ 8 1 < 2147483648 := by omega
  refine r_mb (fun hMB => ?_)
  refine r_iload_1 dX6_odds_0 (r_iconst dX6_odds_1 (r_ldc (a := 99999) dX6_odds_2 qX6_240 ?_))
  refine r_cSI3 dX6_odds_4 sX6_75 (m_in (d := 0) (by omega) (by omega) (by omega)) (by decide) (Nat.le_of_ble_eq_true rfl) (fun b_4 M_4 h_4 => ?_)
  obtain ⟨rfl, rfl⟩ := h_4
  first | refine r_ifd_eq dX6_odds_7 (fun c_7 => ?_) (fun c_7 => ?_) | refine r_ifb_eq dX6_odds_7 (fun c_7 => ?_) (fun c_7 => ?_)
  · skip
    refine r_ldc2 (a := -4611686018427387904) dX6_odds_40 qM_none ?_
    refine r_lreturn dX6_odds_43 rfl ?_
    refine ⟨_, rfl, ?_, hR⟩
    unfold a_odds
    simp only []
    rw [if_pos (by omega)]
  · skip
    refine r_iload_2 dX6_odds_10 (r_iconst dX6_odds_11 (r_bipush dX6_odds_12 (by decide) ?_))
    refine r_cSI3 dX6_odds_14 sX6_75 (m_in (d := 0) (by omega) (by omega) (by omega)) (by decide) (Nat.le_of_ble_eq_true rfl) (fun b_14 M_14 h_14 => ?_)
    obtain ⟨rfl, rfl⟩ := h_14
    first | refine r_ifd_eq dX6_odds_17 (fun c_17 => ?_) (fun c_17 => ?_) | refine r_ifb_eq dX6_odds_17 (fun c_17 => ?_) (fun c_17 => ?_)
    · skip
      refine r_ldc2 (a := -4611686018427387904) dX6_odds_40 qM_none ?_
      refine r_lreturn dX6_odds_43 rfl ?_
      refine ⟨_, rfl, ?_, hR⟩
      unfold a_odds
      simp only []
      rw [if_pos (by omega)]
    · skip
      refine r_iload_3 dX6_odds_20 (r_iconst dX6_odds_21 (r_bipush dX6_odds_22 (by decide) ?_))
      refine r_cSI3 dX6_odds_24 sX6_75 (m_in (d := 0) (by omega) (by omega) (by omega)) (by decide) (Nat.le_of_ble_eq_true rfl) (fun b_24 M_24 h_24 => ?_)
      obtain ⟨rfl, rfl⟩ := h_24
      first | refine r_ifd_eq dX6_odds_27 (fun c_27 => ?_) (fun c_27 => ?_) | refine r_ifb_eq dX6_odds_27 (fun c_27 => ?_) (fun c_27 => ?_)
      · skip
        refine r_ldc2 (a := -4611686018427387904) dX6_odds_40 qM_none ?_
        refine r_lreturn dX6_odds_43 rfl ?_
        refine ⟨_, rfl, ?_, hR⟩
        unfold a_odds
        simp only []
        rw [if_pos (by omega)]
      · skip
        refine r_iload_4 dX6_odds_30 (r_iconst dX6_odds_32 (r_iconst dX6_odds_33 ?_))
        refine r_cSI3 dX6_odds_34 sX6_75 (m_in (d := 0) (by omega) (by omega) (by omega)) (by decide) (Nat.le_of_ble_eq_true rfl) (fun b_34 M_34 h_34 => ?_)
        obtain ⟨rfl, rfl⟩ := h_34
        first | refine r_ifd_ne dX6_odds_37 (fun c_37 => ?_) (fun c_37 => ?_) | refine r_ifb_ne dX6_odds_37 (fun c_37 => ?_) (fun c_37 => ?_)
        · skip
          obtain ⟨N, rfl⟩ : ∃ N : Nat, n = N := ⟨n.toNat, by omega⟩
          refine r_lconst0 dX6_odds_44 (r_lstore_5 dX6_odds_45 rfl (r_iconst dX6_odds_47 (r_istore_7 dX6_odds_48 rfl ?_)))
          have lp_50 : ∀ (NN : Nat) (i : Nat) (Mv : Mem) (hi : i ≤ N) (wv : TM Mv τ) (fv : Fm mQ M Mv), 100 - i < NN → WP kX6_odds GM 9 (pJ (fun a M2 => a = a_odds (nT, X, τ, img, τi, tn, tp, ss, sz, cl) seed (N : Int) least part ∧ RM M2 (nT, X, τ, img, τi, tn, tp, ss, sz, cl))) z 50 [some (rv 0), some (iv seed), some (iv (N : Int)), some (iv least), some (iv part), some (jv ((oD X τ seed least i : Nat) : Int)), none, some (iv (i : Int))] [] Mv := by
            intro NN
            induction NN with
            | zero => intros; omega
            | succ NN ih =>
              intro i Mv hi wv fv hm
              have hoi := oD_in (X := X) (τ := τ) (seed := seed) (least := least) i
              refine r_iload_7 dX6_odds_50 ?_
              refine r_iload_2 dX6_odds_52 ?_
              refine r_icmp_ge dX6_odds_53 (by omega) (by omega) (fun c_53 => ?_) (fun c_53 => ?_)
              · skip
                obtain rfl : i = N := by omega
                refine r_lload_5 dX6_odds_89 (r_iload_2 dX6_odds_91 (r_i2l dX6_odds_92 (by omega) (r_iload_4 dX6_odds_93 ?_)))
                refine r_cSJ3 dX6_odds_95 sX6_214 (m_low (n := 0) (a0 := oD X τ seed least i) (b0 := i) (by omega) (by omega) (by omega) (by omega)) (by decide) (Nat.le_of_ble_eq_true rfl) (fun b_95 M_95 h_95 => ?_)
                obtain ⟨rfl, rfl⟩ := h_95
                refine r_lreturn dX6_odds_98 rfl ?_
                refine ⟨_, rfl, ?_, hR.now wv fv.qW⟩
                unfold a_odds
                simp only [Int.toNat_natCast]
                rw [if_neg (by omega)]
              · skip
                skip
                refine r_lload_5 dX6_odds_56 (r_aload_0 dX6_odds_58 (r_iload_1 dX6_odds_59 (r_iload_7 dX6_odds_60 (r_iadd dX6_odds_62 (r_bipush dX6_odds_63 (by decide) ?_)))))
                refine r_cVI2 dX6_odds_65 vX6_241 (rfl) (m_lot (seed := seed + (i : Int)) (n := 16) wv hw (hX.fr fv (fun c i w => by omega)) (by omega) (by omega) (by omega)) (by decide) (Nat.le_of_ble_eq_true rfl) (fun b_65 M_65 h_65 => ?_)
                obtain ⟨rfl, h31, w9, f9⟩ := h_65
                obtain ⟨m, hm, hm2, hmt⟩ := snd_b (lD X τ (seed + (i : Int)) 16).2.1
                rw [hm]
                have hp8 := pop8_b m
                refine r_cSI1 dX6_odds_68 sX6_86 (m_ones (d := 0) hm2) (by decide) (Nat.le_of_ble_eq_true rfl) (fun b_68 M_68 h_68 => ?_)
                obtain ⟨rfl, rfl⟩ := h_68
                refine r_iload_3 dX6_odds_71 ?_
                refine r_icmp_lt dX6_odds_72 (by omega) (by omega) (fun c_72 => ?_) (fun c_72 => ?_)
                · skip
                  refine r_lconst0 dX6_odds_79 (r_ladd dX6_odds_80 ?_)
                  refine r_eqJ ((oD X τ seed least (i + 1) : Nat) : Int) (by
                    show _ = ((oD X τ seed least i + (if least ≤ ((pop8 (sSnd (lD X τ (seed + (i : Int)) 16).2.1).toNat : Nat) : Int) then 1 else 0) : Nat) : Int)
                    rw [hmt, if_neg (by omega)]
                    omega) ?_
                  refine r_lstore_5 dX6_odds_81 rfl (r_iinc_7 dX6_odds_83 rfl (r_goto dX6_odds_86 ?_))
                  exact ih (i + 1) _ (by omega) w9 (fv.trans f9) (by omega)
                · skip
                  refine r_lconst1 dX6_odds_75 (r_goto dX6_odds_76 (r_ladd dX6_odds_80 ?_))
                  refine r_eqJ ((oD X τ seed least (i + 1) : Nat) : Int) (by
                    show _ = ((oD X τ seed least i + (if least ≤ ((pop8 (sSnd (lD X τ (seed + (i : Int)) 16).2.1).toNat : Nat) : Int) then 1 else 0) : Nat) : Int)
                    rw [hmt, if_pos (by omega)]
                    omega) ?_
                  refine r_lstore_5 dX6_odds_81 rfl (r_iinc_7 dX6_odds_83 rfl (r_goto dX6_odds_86 ?_))
                  exact ih (i + 1) _ (by omega) w9 (fv.trans f9) (by omega)
          exact lp_50 _ 0 M (by omega) hT Fm.refl (Nat.lt_succ_self _)
        · skip
          refine r_ldc2 (a := -4611686018427387904) dX6_odds_40 qM_none ?_
          refine r_lreturn dX6_odds_43 rfl ?_
          refine ⟨_, rfl, ?_, hR⟩
          unfold a_odds
          simp only []
          rw [if_pos (by omega)]
set_option maxRecDepth 10000 in
set_option maxHeartbeats 4000000 in
theorem m6_sheet {M : Mem} {nT tn : Nat} {X : Nat → Tx} {τ τi : Tn} {img : Bool} {tp ss sz : Nat → Int} {cl : Nat → Nat → Int} (hR : RM M (nT, X, τ, img, τi, tn, tp, ss, sz, cl)) (hJ : JNV (nT, X, τ, img, τi, tn, tp, ss, sz, cl)) {s : Int} (h_s : ib s) {sort : Int} (h_sort : ib sort) {n : Int} (h_n : ib n) : Con GM 9 kX6_sheet [rv 0, iv s, iv sort, iv n] M (pI (fun a M2 => a = a_sheet (nT, X, τ, img, τi, tn, tp, ss, sz, cl) s sort n ∧ RM M2 (t_sheet (nT, X, τ, img, τi, tn, tp, ss, sz, cl) s sort n))) := by
  refine con_of [some (rv 0), some (iv s), some (iv sort), some (iv n), none] (plX6) rfl (Nat.le_of_ble_eq_true rfl) (fun z => ?_)
  have hR0 := hR
  obtain ⟨hT, hX, hnT, himg, hIM, ⟨htn, htp⟩, hsh, hwc⟩ := hR0
  have hT : TM M τ := hT
  have hJ0 := hJ
  obtain ⟨⟨⟨iT1, iT6⟩, ⟨hw, icl⟩, iim, ⟨itn, itp⟩, ish⟩, hki⟩ := hJ0
  obtain ⟨⟨wn, wn2⟩, wcl, ⟨wl, wl2⟩, -, -⟩ := id hw
  have hcl : τ 8 1 < 2147483648 := by omega
  refine r_mb (fun hMB => ?_)
  refine r_iload_1 dX6_sheet_0 (r_iconst dX6_sheet_1 (r_iconst dX6_sheet_2 ?_))
  refine r_cSI3 dX6_sheet_3 sX6_75 (m_in (d := 0) (by omega) (by omega) (by omega)) (by decide) (Nat.le_of_ble_eq_true rfl) (fun b_3 M_3 h_3 => ?_)
  obtain ⟨rfl, rfl⟩ := h_3
  first | refine r_ifd_eq dX6_sheet_6 (fun c_6 => ?_) (fun c_6 => ?_) | refine r_ifb_eq dX6_sheet_6 (fun c_6 => ?_) (fun c_6 => ?_)
  · skip
    refine r_bipush dX6_sheet_29 (by decide) ?_
    refine r_ireturn dX6_sheet_31 rfl ?_
    refine ⟨_, rfl, ?_, ?_⟩
    · unfold a_sheet
      try simp only [Int.toNat_natCast]
      (repeat (first | rw [if_pos (by omega)] | rw [if_neg (by omega)])) <;> first | with_reducible rfl | omega
    · unfold t_sheet
      try simp only [Int.toNat_natCast]
      (repeat (first | rw [if_pos (by omega)] | rw [if_neg (by omega)])) <;> first | exact hR
  · skip
    refine r_iload_2 dX6_sheet_9 (r_iconst dX6_sheet_10 (r_iconst dX6_sheet_11 ?_))
    refine r_cSI3 dX6_sheet_12 sX6_75 (m_in (d := 0) (by omega) (by omega) (by omega)) (by decide) (Nat.le_of_ble_eq_true rfl) (fun b_12 M_12 h_12 => ?_)
    obtain ⟨rfl, rfl⟩ := h_12
    first | refine r_ifd_eq dX6_sheet_15 (fun c_15 => ?_) (fun c_15 => ?_) | refine r_ifb_eq dX6_sheet_15 (fun c_15 => ?_) (fun c_15 => ?_)
    · skip
      refine r_bipush dX6_sheet_29 (by decide) ?_
      refine r_ireturn dX6_sheet_31 rfl ?_
      refine ⟨_, rfl, ?_, ?_⟩
      · unfold a_sheet
        try simp only [Int.toNat_natCast]
        (repeat (first | rw [if_pos (by omega)] | rw [if_neg (by omega)])) <;> first | with_reducible rfl | omega
      · unfold t_sheet
        try simp only [Int.toNat_natCast]
        (repeat (first | rw [if_pos (by omega)] | rw [if_neg (by omega)])) <;> first | exact hR
    · skip
      obtain ⟨e, rfl⟩ : ∃ e : Nat, s = e := ⟨s.toNat, by omega⟩
      have he4 : e < 4 := by omega
      have hs := hsh e he4
      have is := ish e he4
      have jn_44 : ∀ (hg : sort = -1 ∨ (0 ≤ n ∧ n ≤ 40)), WP kX6_sheet GM 9 (pI (fun a M2 => a = a_sheet (nT, X, τ, img, τi, tn, tp, ss, sz, cl) (e : Int) sort n ∧ RM M2 (t_sheet (nT, X, τ, img, τi, tn, tp, ss, sz, cl) (e : Int) sort n))) z 44 [some (rv 0), some (iv (e : Int)), some (iv sort), some (iv n), none] [] M := by
        intro hg
        refine r_aload_0 dX6_sheet_44 ?_
        refine r_getR dX6_sheet_45 fX6_37 (rfl) (rfl) (r_iload_1 dX6_sheet_48 (r_iload_2 dX6_sheet_49 ?_))
        refine r_iasX (e) dX6_sheet_50 (rfl) (by omega) (by omega) (by omega) (by omega) ?_
        refine r_aload_0 dX6_sheet_51 (r_getR dX6_sheet_52 fX6_40 (rfl) (rfl) (r_iload_1 dX6_sheet_55 (r_iload_2 dX6_sheet_56 ?_)))
        have jn_66 : ∀ (v : Int) (hv : v = if sort = -1 then 0 else n), WP kX6_sheet GM 9 (pI (fun a M2 => a = a_sheet (nT, X, τ, img, τi, tn, tp, ss, sz, cl) (e : Int) sort n ∧ RM M2 (t_sheet (nT, X, τ, img, τi, tn, tp, ss, sz, cl) (e : Int) sort n))) z 66 [some (rv 0), some (iv (e : Int)), some (iv sort), some (iv n), none] [iv v, iv (e : Int), rv 11] (upM M 10 e sort) := by
          intro v hv
          have hvb : 0 ≤ v ∧ v ≤ 40 := by split at hv <;> omega
          refine r_iasX (e) dX6_sheet_66 (rfl) (by omega) (by omega) (by omega) (by omega) ?_
          refine r_iconst dX6_sheet_67 (r_istore_4 dX6_sheet_68 rfl ?_)
          have lp_70 : ∀ (NN : Nat) (k : Nat) (Mv : Mem) (hk : k ≤ 40) (fv : Fm (mC e) M Mv) (v10 : Mv 10 e = sort) (v11 : Mv 11 e = v) (hc : ∀ j, j < k → Mv 12 (40 * e + j) = 0), 100 - k < NN → WP kX6_sheet GM 9 (pI (fun a M2 => a = a_sheet (nT, X, τ, img, τi, tn, tp, ss, sz, cl) (e : Int) sort n ∧ RM M2 (t_sheet (nT, X, τ, img, τi, tn, tp, ss, sz, cl) (e : Int) sort n))) z 70 [some (rv 0), some (iv (e : Int)), some (iv sort), some (iv n), some (iv (k : Int))] [] Mv := by
            intro NN
            induction NN with
            | zero => intros; omega
            | succ NN ih =>
              intro k Mv hk fv v10 v11 hc hm
              refine r_iload_4 dX6_sheet_70 ?_
              refine r_bipush dX6_sheet_72 (by decide) ?_
              refine r_icmp_ge dX6_sheet_74 (by omega) (by omega) (fun c_74 => ?_) (fun c_74 => ?_)
              · skip
                obtain rfl : k = 40 := by omega
                refine r_iconst dX6_sheet_96 ?_
                refine r_ireturn dX6_sheet_97 rfl ?_
                refine ⟨_, rfl, ?_, ?_⟩
                · unfold a_sheet
                  rcases hg with h | h <;> (repeat (first | rw [if_pos (by omega)] | rw [if_neg (by omega)]))
                  by_cases h2 : sort = -1
                  · rw [if_pos h2]
                  · rw [if_neg h2, if_neg (by omega), if_neg (by omega)]
                · unfold t_sheet
                  simp only [Int.toNat_natCast]
                  rw [if_neg (by omega), ← hv]
                  exact hR.sheet fv v10 v11 hc
              · skip
                skip
                refine r_aload_0 dX6_sheet_77 (r_getR dX6_sheet_78 fX6_43 (rfl) (rfl) (r_bipush dX6_sheet_81 (by decide) (r_iload_1 dX6_sheet_83 (r_imul dX6_sheet_84 (r_iload_4 dX6_sheet_85 (r_iadd dX6_sheet_87 (r_iconst dX6_sheet_88 ?_)))))))
                refine r_iasX (40 * e + k) dX6_sheet_89 (rfl) (by omega) (by omega) (by omega) (by omega) ?_
                refine r_iinc_4 dX6_sheet_90 rfl (r_goto dX6_sheet_93 ?_)
                exact ih (k + 1) _ (by omega) (fv.up (by omega)) ((upM_ne (by omega)).trans v10) ((upM_ne (by omega)).trans v11) (fun j hj => by
                  by_cases e1 : j = k
                  · rw [e1, upM_self]
                  · rw [upM_ne (by omega)]; exact hc j (by omega)) (by omega)
          exact lp_70 _ 0 _ (by omega) ((Fm.refl.up (by omega)).up (by omega)) ((upM_ne (by omega)).trans upM_self) upM_self (fun j hj => absurd hj (Nat.not_lt_zero _)) (Nat.lt_succ_self _)
        refine r_iconst dX6_sheet_57 ?_
        refine r_icmp_ne dX6_sheet_58 (by omega) (by omega) (fun c_58 => ?_) (fun c_58 => ?_)
        · skip
          refine r_iload_3 dX6_sheet_65 ?_
          exact jn_66 _ (by rw [if_neg (by omega)])
        · skip
          refine r_iconst dX6_sheet_61 (r_goto dX6_sheet_62 ?_)
          exact jn_66 _ (by rw [if_pos (by omega)])
      refine r_iload_2 dX6_sheet_18 (r_iconst dX6_sheet_19 ?_)
      refine r_icmp_eq dX6_sheet_20 (by omega) (by omega) (fun c_20 => ?_) (fun c_20 => ?_)
      · skip
        refine r_iload_2 dX6_sheet_32 (r_iconst dX6_sheet_33 ?_)
        refine r_icmp_eq dX6_sheet_34 (by omega) (by omega) (fun c_34 => ?_) (fun c_34 => ?_)
        · skip
          skip
          exact jn_44 (by omega)
        · exfalso; omega
      · skip
        refine r_iload_3 dX6_sheet_23 (r_bipush dX6_sheet_24 (by decide) ?_)
        refine r_icmp_le dX6_sheet_26 (by omega) (by omega) (fun c_26 => ?_) (fun c_26 => ?_)
        · skip
          refine r_iload_2 dX6_sheet_32 (r_iconst dX6_sheet_33 ?_)
          refine r_icmp_eq dX6_sheet_34 (by omega) (by omega) (fun c_34 => ?_) (fun c_34 => ?_)
          · exfalso; omega
          · skip
            skip
            refine r_iload_3 dX6_sheet_37 ?_
            refine r_if_ge dX6_sheet_38 (by omega) (fun c_38 => ?_) (fun c_38 => ?_)
            · skip
              exact jn_44 (by omega)
            · skip
              refine r_bipush dX6_sheet_41 (by decide) ?_
              refine r_ireturn dX6_sheet_43 rfl ?_
              refine ⟨_, rfl, ?_, ?_⟩
              · unfold a_sheet
                try simp only [Int.toNat_natCast]
                (repeat (first | rw [if_pos (by omega)] | rw [if_neg (by omega)])) <;> first | with_reducible rfl | omega
              · unfold t_sheet
                try simp only [Int.toNat_natCast]
                (repeat (first | rw [if_pos (by omega)] | rw [if_neg (by omega)])) <;> first | exact hR
        · skip
          refine r_bipush dX6_sheet_29 (by decide) ?_
          refine r_ireturn dX6_sheet_31 rfl ?_
          refine ⟨_, rfl, ?_, ?_⟩
          · unfold a_sheet
            try simp only [Int.toNat_natCast]
            (repeat (first | rw [if_pos (by omega)] | rw [if_neg (by omega)])) <;> first | with_reducible rfl | omega
          · unfold t_sheet
            try simp only [Int.toNat_natCast]
            (repeat (first | rw [if_pos (by omega)] | rw [if_neg (by omega)])) <;> first | exact hR
set_option maxRecDepth 10000 in
set_option maxHeartbeats 4000000 in
theorem m6_cell {M : Mem} {nT tn : Nat} {X : Nat → Tx} {τ τi : Tn} {img : Bool} {tp ss sz : Nat → Int} {cl : Nat → Nat → Int} (hR : RM M (nT, X, τ, img, τi, tn, tp, ss, sz, cl)) (hJ : JNV (nT, X, τ, img, τi, tn, tp, ss, sz, cl)) {s : Int} (h_s : ib s) {i : Int} (h_i : ib i) {v : Int} (h_v : ib v) : Con GM 9 kX6_cell [rv 0, iv s, iv i, iv v] M (pI (fun a M2 => a = a_cell (nT, X, τ, img, τi, tn, tp, ss, sz, cl) s i v ∧ RM M2 (t_cell (nT, X, τ, img, τi, tn, tp, ss, sz, cl) s i v))) := by
  refine con_of [some (rv 0), some (iv s), some (iv i), some (iv v)] (plX6) rfl (Nat.le_of_ble_eq_true rfl) (fun z => ?_)
  have hR0 := hR
  obtain ⟨hT, hX, hnT, himg, hIM, ⟨htn, htp⟩, hsh, hwc⟩ := hR0
  have hT : TM M τ := hT
  have hJ0 := hJ
  obtain ⟨⟨⟨iT1, iT6⟩, ⟨hw, icl⟩, iim, ⟨itn, itp⟩, ish⟩, hki⟩ := hJ0
  obtain ⟨⟨wn, wn2⟩, wcl, ⟨wl, wl2⟩, -, -⟩ := id hw
  have hcl : τ 8 1 < 2147483648 := by omega
  refine r_mb (fun hMB => ?_)
  refine r_iload_1 dX6_cell_0 (r_iconst dX6_cell_1 (r_iconst dX6_cell_2 ?_))
  refine r_cSI3 dX6_cell_3 sX6_75 (m_in (d := 0) (by omega) (by omega) (by omega)) (by decide) (Nat.le_of_ble_eq_true rfl) (fun b_3 M_3 h_3 => ?_)
  obtain ⟨rfl, rfl⟩ := h_3
  first | refine r_ifd_ne dX6_cell_6 (fun c_6 => ?_) (fun c_6 => ?_) | refine r_ifb_ne dX6_cell_6 (fun c_6 => ?_) (fun c_6 => ?_)
  · skip
    obtain ⟨e, rfl⟩ : ∃ e : Nat, s = e := ⟨s.toNat, by omega⟩
    have he4 : e < 4 := by omega
    have hs := hsh e he4
    have is := ish e he4
    refine r_aload_0 dX6_cell_12 (r_getR dX6_cell_13 fX6_37 (rfl) (rfl) (r_iload_1 dX6_cell_16 (r_ialX dX6_cell_17 (rfl) (hs.1) (by omega) (by omega) (by omega) (r_iconst dX6_cell_18 ?_))))
    refine r_icmp_ne dX6_cell_19 (by omega) (by omega) (fun c_19 => ?_) (fun c_19 => ?_)
    · skip
      refine r_iload_2 dX6_cell_25 (r_iconst dX6_cell_26 (r_aload_0 dX6_cell_27 (r_getR dX6_cell_28 fX6_40 (rfl) (rfl) (r_iload_1 dX6_cell_31 (r_ialX dX6_cell_32 (rfl) (hs.2.1) (by omega) (by omega) (by omega) (r_iconst dX6_cell_33 (r_isub dX6_cell_34 ?_)))))))
      refine r_cSI3 dX6_cell_35 sX6_75 (m_in (d := 0) (by omega) (by omega) (by omega)) (by decide) (Nat.le_of_ble_eq_true rfl) (fun b_35 M_35 h_35 => ?_)
      obtain ⟨rfl, rfl⟩ := h_35
      first | refine r_ifd_ne dX6_cell_38 (fun c_38 => ?_) (fun c_38 => ?_) | refine r_ifb_ne dX6_cell_38 (fun c_38 => ?_) (fun c_38 => ?_)
      · skip
        obtain ⟨k, rfl⟩ : ∃ k : Nat, i = k := ⟨i.toNat, by omega⟩
        have jn_84 : ∀ (w : Int) (hw_ : w = wr (ss e) v), WP kX6_cell GM 9 (pI (fun a M2 => a = a_cell (nT, X, τ, img, τi, tn, tp, ss, sz, cl) (e : Int) (k : Int) v ∧ RM M2 (t_cell (nT, X, τ, img, τi, tn, tp, ss, sz, cl) (e : Int) (k : Int) v))) z 84 [some (rv 0), some (iv (e : Int)), some (iv (k : Int)), some (iv v)] [iv w, iv (40 * (e : Int) + (k : Int)), rv 12] M := by
          intro w hw_
          have hwb : ib w := by rw [hw_]; exact wr_ib h_v
          refine r_iasX (40 * e + k) dX6_cell_84 (rfl) (by omega) (by omega) (by omega) (by omega) ?_
          refine r_iconst dX6_cell_85 ?_
          refine r_ireturn dX6_cell_86 rfl ?_
          refine ⟨_, rfl, ?_, ?_⟩
          · unfold a_cell
            simp only [Int.toNat_natCast]
            rw [if_neg (by omega), if_neg (by omega), if_neg (by omega)]
          · unfold t_cell
            simp only [Int.toNat_natCast]
            rw [if_neg (by omega), ← hw_]
            exact hR.cell he4 (by omega)
        refine r_aload_0 dX6_cell_44 (r_getR dX6_cell_45 fX6_43 (rfl) (rfl) (r_bipush dX6_cell_48 (by decide) (r_iload_1 dX6_cell_50 (r_imul dX6_cell_51 (r_iload_2 dX6_cell_52 (r_iadd dX6_cell_53 (r_aload_0 dX6_cell_54 (r_getR dX6_cell_55 fX6_37 (rfl) (rfl) (r_iload_1 dX6_cell_58 (r_ialX dX6_cell_59 (rfl) (hs.1) (by omega) (by omega) (by omega) ?_))))))))))
        refine r_if_ne dX6_cell_60 (by omega) (fun c_60 => ?_) (fun c_60 => ?_)
        · skip
          refine r_aload_0 dX6_cell_68 (r_getR dX6_cell_69 fX6_37 (rfl) (rfl) (r_iload_1 dX6_cell_72 (r_ialX dX6_cell_73 (rfl) (hs.1) (by omega) (by omega) (by omega) (r_iconst dX6_cell_74 ?_))))
          refine r_icmp_ne dX6_cell_75 (by omega) (by omega) (fun c_75 => ?_) (fun c_75 => ?_)
          · skip
            refine r_iload_3 dX6_cell_83 ?_
            exact jn_84 _ (by unfold wr; rw [if_neg (by omega), if_neg (by omega)])
          · skip
            refine r_iload_3 dX6_cell_78 ?_
            refine r_i2s (r := Int.bmod v 65536) dX6_cell_79 (i3_s h_v) ?_
            refine r_goto dX6_cell_80 ?_
            exact jn_84 _ (by unfold wr; rw [if_neg (by omega), if_pos (by omega)])
        · skip
          refine r_iload_3 dX6_cell_63 ?_
          refine r_i2b (r := Int.bmod v 256) dX6_cell_64 (i3_b h_v) ?_
          refine r_goto dX6_cell_65 ?_
          exact jn_84 _ (by unfold wr; rw [if_pos (by omega)])
      · skip
        skip
        refine r_bipush dX6_cell_41 (by decide) ?_
        refine r_ireturn dX6_cell_43 rfl ?_
        refine ⟨_, rfl, ?_, ?_⟩
        · unfold a_cell
          simp only [Int.toNat_natCast]
          (repeat (first | rw [if_pos (by omega)] | rw [if_neg (by omega)])) <;> first | with_reducible rfl | omega
        · unfold t_cell
          simp only [Int.toNat_natCast]
          (repeat (first | rw [if_pos (by omega)] | rw [if_neg (by omega)])) <;> first | exact hR
    · skip
      refine r_bipush dX6_cell_22 (by decide) ?_
      refine r_ireturn dX6_cell_24 rfl ?_
      refine ⟨_, rfl, ?_, ?_⟩
      · unfold a_cell
        simp only [Int.toNat_natCast]
        (repeat (first | rw [if_pos (by omega)] | rw [if_neg (by omega)])) <;> first | with_reducible rfl | omega
      · unfold t_cell
        simp only [Int.toNat_natCast]
        (repeat (first | rw [if_pos (by omega)] | rw [if_neg (by omega)])) <;> first | exact hR
  · skip
    refine r_bipush dX6_cell_9 (by decide) ?_
    refine r_ireturn dX6_cell_11 rfl ?_
    refine ⟨_, rfl, ?_, ?_⟩
    · unfold a_cell
      simp only [Int.toNat_natCast]
      (repeat (first | rw [if_pos (by omega)] | rw [if_neg (by omega)])) <;> first | with_reducible rfl | omega
    · unfold t_cell
      simp only [Int.toNat_natCast]
      (repeat (first | rw [if_pos (by omega)] | rw [if_neg (by omega)])) <;> first | exact hR

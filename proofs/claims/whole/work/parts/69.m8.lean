/-! told minutes -/
theorem XM.W {M M2 : Mem} {nT : Nat} {X : Nat → Tx} (h : XM M nT X) (hF : Fm mW M M2) : XM M2 nT X := h.fr hF (fun c i w => by omega)
theorem st_st {τ : Tn} {f i : Nat} {v w : Int} : st (st τ f i v) f i w = st τ f i w := by
  funext g j
  unfold st
  by_cases h : g = f ∧ j = i
  · rw [if_pos h, if_pos h]
  · rw [if_neg h, if_neg h, if_neg h]
theorem st_kk {τ : Tn} {q : Nat} {x y v w : Int} : st (st (st (st τ 6 q x) 7 q y) 6 q v) 7 q w = st (st τ 6 q v) 7 q w := by
  rw [st_comm (f := 7) (g := 6) (by decide), st_st, st_st]
theorem st_7 {τ : Tn} {q : Nat} {w : Int} : st (st τ 6 q (τ 6 q)) 7 q w = st τ 7 q w := by rw [st_id rfl]
theorem st_6 {τ : Tn} {q : Nat} {v : Int} : st (st τ 6 q v) 7 q (τ 7 q) = st τ 6 q v := st_id (st_ne (by omega))
/-- of the first k numbers: how many are so, the first that is so -/
def bA (P : Nat → Bool) : Nat → Int × Int
  | 0 => (0, -1)
  | k + 1 => if P k = true then ((bA P k).1 + 1, if (bA P k).2 = -1 then (k : Int) else (bA P k).2) else bA P k
theorem bA_no {P : Nat → Bool} {k : Nat} (h : ¬ P k = true) : bA P (k + 1) = bA P k := if_neg h
theorem bA_yes {P : Nat → Bool} {k : Nat} (h : P k = true) : bA P (k + 1) = ((bA P k).1 + 1, if (bA P k).2 = -1 then (k : Int) else (bA P k).2) := if_pos h
theorem bA_b (P : Nat → Bool) : ∀ k : Nat, (0 ≤ (bA P k).1 ∧ (bA P k).1 ≤ k) ∧ (-1 ≤ (bA P k).2 ∧ (bA P k).2 ≤ k)
  | 0 => by simp only [bA]; omega
  | k + 1 => by
    have := bA_b P k
    simp only [bA]
    split
    · simp only []
      split <;> omega
    · omega
theorem bk_bA0 (P : Nat → Bool) : ∀ j : Nat, j ≤ 100 → bk P 100 = ((bA P j).1 + (bk P (100 - j)).1, if (bA P j).2 = -1 then (bk P (100 - j)).2 else (bA P j).2)
  | 0, _ => by
    show bk P 100 = (0 + (bk P 100).1, (bk P 100).2)
    rw [Int.zero_add]
  | j + 1, h => by
    have hb := bA_b P j
    rw [bk_bA0 P j (by omega), show 100 - j = (100 - (j + 1)) + 1 by omega]
    have e : 99 - (100 - (j + 1)) = j := by omega
    by_cases q : P j = true
    · rw [bk_yes (by rw [e]; exact q), bA_yes q, e]
      by_cases g : (bA P j).2 = -1
      · rw [if_pos g]
        refine Prod.ext ?_ ?_
        · simp only []
          omega
        · simp only []
          rw [if_neg (by omega)]
      · rw [if_neg g]
        refine Prod.ext ?_ ?_
        · simp only []
          omega
        · simp only []
          rw [if_neg g]
    · rw [bk_no (by rw [e]; exact q), bA_no q]
theorem bk_bA (P : Nat → Bool) : bk P 100 = bA P 100 := by
  rw [bk_bA0 P 100 (by decide)]
  show ((bA P 100).1 + 0, if (bA P 100).2 = -1 then (-1 : Int) else (bA P 100).2) = bA P 100
  refine Prod.ext (Int.add_zero _) ?_
  simp only []
  split <;> omega
theorem bt_skip {P : Nat → Bool} {a : Nat} : ∀ k : Nat, (∀ j, a ≤ j → j < a + k → P j = false) → bt P (a + k) = bt P a
  | 0, _ => rfl
  | k + 1, h => by
    show bt P (a + k) + (if P (a + k) = true then 2 ^ (a + k) else 0) = bt P a
    rw [bt_skip k (fun j h1 h2 => h j h1 (by omega)), if_neg (by rw [h (a + k) (by omega) (by omega)]; decide), Int.add_zero]
set_option maxRecDepth 10000 in
set_option maxHeartbeats 4000000 in
theorem m6_judge {M : Mem} {nT tn : Nat} {X : Nat → Tx} {τ τi : Tn} {img : Bool} {tp ss sz : Nat → Int} {cl : Nat → Nat → Int} (hR : RM M (nT, X, τ, img, τi, tn, tp, ss, sz, cl)) (hJ : JNV (nT, X, τ, img, τi, tn, tp, ss, sz, cl)) {s : Int} (h_s : ib s) {p : Int} (h_p : ib p) : Con GM 9 kX6_judge [rv 0, iv s, iv p] M (pI (fun a M2 => a = a_judge (nT, X, τ, img, τi, tn, tp, ss, sz, cl) s p ∧ RM M2 (nT, X, τ, img, τi, tn, tp, ss, sz, cl))) := by
  refine con_of [some (rv 0), some (iv s), some (iv p), none] (plX6) rfl (Nat.le_of_ble_eq_true rfl) (fun z => ?_)
  have hR0 := hR
  obtain ⟨hT, hX, hnT, himg, hIM, ⟨htn, htp⟩, hsh, hwc⟩ := hR0
  have hT : TM M τ := hT
  have hJ0 := hJ
  obtain ⟨⟨⟨iT1, iT6⟩, ⟨hw, icl⟩, iim, ⟨itn, itp⟩, ish⟩, hki⟩ := hJ0
  obtain ⟨⟨wn, wn2⟩, wcl, ⟨wl, wl2⟩, -, -⟩ := id hw
  have hcl : τ 8 1 < 2147483648 := by omega
  refine r_mb (fun hMB => ?_)
  refine r_aload_0 dX6_judge_0 (r_iload_1 dX6_judge_1 (r_iload_2 dX6_judge_2 ?_))
  refine r_cVI2 dX6_judge_3 vX6_223 (rfl) (m_refT hR hJ (by omega) (by omega)) (by decide) (Nat.le_of_ble_eq_true rfl) (fun b_3 M_3 h_3 => ?_)
  obtain ⟨rfl, rfl⟩ := h_3
  have rb := a_refT_in (nT, X, τ, img, τi, tn, tp, ss, sz, cl) s p
  refine r_istore_3 dX6_judge_6 rfl (r_iload_3 dX6_judge_7 ?_)
  refine r_if_ne dX6_judge_8 (by omega) (fun c_8 => ?_) (fun c_8 => ?_)
  · skip
    refine r_iload_3 dX6_judge_20 ?_
    refine r_ireturn dX6_judge_21 rfl ?_
    refine ⟨_, rfl, ?_, hR⟩
    unfold a_judge
    simp only []
    rw [if_pos (by omega)]
  · skip
    have hz0 : a_refT (nT, X, τ, img, τi, tn, tp, ss, sz, cl) s p = 0 := by omega
    obtain ⟨ha0, hpp⟩ := a_refT_0 hz0
    obtain ⟨hs4, hsn, hs20⟩ := a_ref_0 ha0
    obtain ⟨e, rfl⟩ : ∃ e : Nat, s = e := ⟨s.toNat, by omega⟩
    have he4 : e < 4 := by omega
    have hs := hsh e he4
    have is := ish e he4
    obtain ⟨q, rfl⟩ : ∃ q : Nat, p = q := ⟨p.toNat, by omega⟩
    have hq6 : q < 6 := by omega
    have wq := hw.p hq6
    have hqn : (q : Int) < τ 8 0 := by omega
    have hs20 : sz e ≤ 20 := hs20
    obtain ⟨n, hn⟩ : ∃ n : Nat, sz e = n := ⟨(sz e).toNat, by omega⟩
    have hnt : (sz e).toNat = n := by omega
    have he : ((e : Nat) : Int).toNat = e := Int.toNat_natCast e
    have hsz : ∀ Mv : Mem, Fm mW M Mv → Mv 11 e = (n : Int) := fun Mv fv => (fv 11 e (by omega)).trans (hs.2.1.trans hn)
    have hsc : ∀ Mv : Mem, Fm mW M Mv → ∀ i, i < 40 → Mv 12 (40 * e + i) = cl e i := fun Mv fv i hi => (fv 12 (40 * e + i) (by omega)).trans (hs.2.2 i hi)
    refine r_aload_0 dX6_judge_11 (r_iload_1 dX6_judge_12 (r_iload_2 dX6_judge_13 ?_))
    refine r_cVI2 dX6_judge_14 vX6_226 (rfl) (m_unlike (e := e) (q := q) (zn := n) (c := cl e) hT hw (hX.W Fm.refl) (by omega) (by omega) he4 (hsz _ Fm.refl) (by omega) (hsc _ Fm.refl)) (by decide) (Nat.le_of_ble_eq_true rfl) (fun b_14 M_14 h_14 => ?_)
    obtain ⟨rfl, w9, f9⟩ := h_14
    have so := sOth_in X (τ) (cl e) q n 0
    have fB := Fm.refl.trans f9.kW
    refine r_goto dX6_judge_17 ?_
    refine r_ireturn dX6_judge_21 rfl ?_
    refine ⟨_, rfl, ?_, hR.now w9 f9.kW⟩
    unfold a_judge
    simp only [Int.toNat_natCast]
    rw [if_neg (by omega), hnt]
set_option maxRecDepth 10000 in
set_option maxHeartbeats 4000000 in
theorem m6_doors {M : Mem} {nT tn : Nat} {X : Nat → Tx} {τ τi : Tn} {img : Bool} {tp ss sz : Nat → Int} {cl : Nat → Nat → Int} (hR : RM M (nT, X, τ, img, τi, tn, tp, ss, sz, cl)) (hJ : JNV (nT, X, τ, img, τi, tn, tp, ss, sz, cl)) {s : Int} (h_s : ib s) {p : Int} (h_p : ib p) : Con GM 9 kX6_doors [rv 0, iv s, iv p] M (pI (fun a M2 => a = a_doors (nT, X, τ, img, τi, tn, tp, ss, sz, cl) s p ∧ RM M2 (nT, X, τ, img, τi, tn, tp, ss, sz, cl))) := by
  refine con_of [some (rv 0), some (iv s), some (iv p), none, none, none, none] (plX6) rfl (Nat.le_of_ble_eq_true rfl) (fun z => ?_)
  have hR0 := hR
  obtain ⟨hT, hX, hnT, himg, hIM, ⟨htn, htp⟩, hsh, hwc⟩ := hR0
  have hT : TM M τ := hT
  have hJ0 := hJ
  obtain ⟨⟨⟨iT1, iT6⟩, ⟨hw, icl⟩, iim, ⟨itn, itp⟩, ish⟩, hki⟩ := hJ0
  obtain ⟨⟨wn, wn2⟩, wcl, ⟨wl, wl2⟩, -, -⟩ := id hw
  have hcl : τ 8 1 < 2147483648 := by omega
  refine r_mb (fun hMB => ?_)
  refine r_aload_0 dX6_doors_0 (r_iload_1 dX6_doors_1 (r_iload_2 dX6_doors_2 ?_))
  refine r_cVI2 dX6_doors_3 vX6_223 (rfl) (m_refT hR hJ (by omega) (by omega)) (by decide) (Nat.le_of_ble_eq_true rfl) (fun b_3 M_3 h_3 => ?_)
  obtain ⟨rfl, rfl⟩ := h_3
  have rb := a_refT_in (nT, X, τ, img, τi, tn, tp, ss, sz, cl) s p
  refine r_istore_3 dX6_doors_6 rfl (r_iload_3 dX6_doors_7 ?_)
  refine r_if_eq dX6_doors_8 (by omega) (fun c_8 => ?_) (fun c_8 => ?_)
  · skip
    have hz0 : a_refT (nT, X, τ, img, τi, tn, tp, ss, sz, cl) s p = 0 := by omega
    obtain ⟨ha0, hpp⟩ := a_refT_0 hz0
    obtain ⟨hs4, hsn, hs20⟩ := a_ref_0 ha0
    obtain ⟨e, rfl⟩ : ∃ e : Nat, s = e := ⟨s.toNat, by omega⟩
    have he4 : e < 4 := by omega
    have hs := hsh e he4
    have is := ish e he4
    obtain ⟨q, rfl⟩ : ∃ q : Nat, p = q := ⟨p.toNat, by omega⟩
    have hq6 : q < 6 := by omega
    have wq := hw.p hq6
    have hqn : (q : Int) < τ 8 0 := by omega
    have hs20 : sz e ≤ 20 := hs20
    obtain ⟨n, hn⟩ : ∃ n : Nat, sz e = n := ⟨(sz e).toNat, by omega⟩
    have hnt : (sz e).toNat = n := by omega
    have he : ((e : Nat) : Int).toNat = e := Int.toNat_natCast e
    have hsz : ∀ Mv : Mem, Fm mW M Mv → Mv 11 e = (n : Int) := fun Mv fv => (fv 11 e (by omega)).trans (hs.2.1.trans hn)
    have hsc : ∀ Mv : Mem, Fm mW M Mv → ∀ i, i < 40 → Mv 12 (40 * e + i) = cl e i := fun Mv fv i hi => (fv 12 (40 * e + i) (by omega)).trans (hs.2.2 i hi)
    refine r_aload_0 dX6_doors_13 (r_getR dX6_doors_14 fX6_16 (rfl) (rfl) (r_iconst dX6_doors_17 (r_iload_2 dX6_doors_18 (r_imul dX6_doors_19 (r_ialX dX6_doors_20 (rfl) (hT.e3 hq6) (by omega) (by omega) (by omega) (r_istore_4 dX6_doors_21 rfl (r_iconst dX6_doors_23 (r_istore_5 dX6_doors_24 rfl (r_iconst dX6_doors_26 (r_istore_6 dX6_doors_27 rfl ?_))))))))))
    have lp_29 : ∀ (NN : Nat) (i : Nat) (s_ x : Int) (Mv : Mem) (hi : i ≤ 8) (hs_ : s_ = bt (fun d => tB X (st τ 3 q d) (cl e) q n) i) (wx : TM Mv (st τ 3 q x)) (fv : Fm mW M Mv), 100 - i < NN → WP kX6_doors GM 9 (pI (fun a M2 => a = a_doors (nT, X, τ, img, τi, tn, tp, ss, sz, cl) (e : Int) (q : Int) ∧ RM M2 (nT, X, τ, img, τi, tn, tp, ss, sz, cl))) z 29 [some (rv 0), some (iv (e : Int)), some (iv (q : Int)), some (iv (a_refT (nT, X, τ, img, τi, tn, tp, ss, sz, cl) (e : Int) (q : Int))), some (iv (τ 3 q)), some (iv s_), some (iv (i : Int))] [] Mv := by
      intro NN
      induction NN with
      | zero => intros; omega
      | succ NN ih =>
        intro i s_ x Mv hi hs_ wx fv hm
        have sbb := bt_b (fun d => tB X (st τ 3 q d) (cl e) q n) i
        refine r_iload_6 dX6_doors_29 ?_
        refine r_bipush dX6_doors_31 (by decide) ?_
        refine r_icmp_ge dX6_doors_33 (by omega) (by omega) (fun c_33 => ?_) (fun c_33 => ?_)
        · skip
          obtain rfl : i = 8 := by omega
          refine r_aload_0 dX6_doors_75 (r_getR dX6_doors_76 fX6_16 (rfl) (rfl) (r_iconst dX6_doors_79 (r_iload_2 dX6_doors_80 (r_imul dX6_doors_81 (r_iload_4 dX6_doors_82 ?_)))))
          refine r_iasX (3 * q) dX6_doors_84 (rfl) (by omega) (by omega) (by omega) (by omega) ?_
          have wz := wx.u3 (p := q) (v := τ 3 q)
          rw [st_st, st_id rfl] at wz
          refine r_iload_5 dX6_doors_85 ?_
          refine r_ireturn dX6_doors_87 rfl ?_
          refine ⟨_, rfl, ?_, hR.now wz (fv.up (by omega))⟩
          unfold a_doors
          simp only [Int.toNat_natCast]
          rw [if_neg (by omega), hnt]
          exact hs_
        · skip
          skip
          refine r_aload_0 dX6_doors_36 (r_getR dX6_doors_37 fX6_16 (rfl) (rfl) (r_iconst dX6_doors_40 (r_iload_2 dX6_doors_41 (r_imul dX6_doors_42 (r_iload_6 dX6_doors_43 ?_)))))
          refine r_iasX (3 * q) dX6_doors_45 (rfl) (by omega) (by omega) (by omega) (by omega) ?_
          have wA := wx.u3 (p := q) (v := (i : Int))
          rw [st_st] at wA
          have wfA : WF nT (st τ 3 q (i : Int)) := hw.put (by omega)
          have fA : Fm mW M _ := fv.up (k := 3) (i := 3 * q) (v := (i : Int)) (by omega)
          have eA1 : st τ 3 q (i : Int) 8 1 = τ 8 1 := st_ne (by omega)
          have eA0 : st τ 3 q (i : Int) 8 0 = τ 8 0 := st_ne (by omega)
          refine r_iload_5 dX6_doors_46 (r_aload_0 dX6_doors_48 (r_iload_1 dX6_doors_49 (r_iload_2 dX6_doors_50 ?_)))
          refine r_cVI2 dX6_doors_51 vX6_226 (rfl) (m_unlike (e := e) (q := q) (zn := n) (c := cl e) wA wfA (hX.W fA) (by omega) (by omega) he4 (hsz _ fA) (by omega) (hsc _ fA)) (by decide) (Nat.le_of_ble_eq_true rfl) (fun b_51 M_51 h_51 => ?_)
          obtain ⟨rfl, w9, f9⟩ := h_51
          have so := sOth_in X (st τ 3 q (i : Int)) (cl e) q n 0
          have fB := fA.trans f9.kW
          have jn_66 : ∀ (v : Int) (hv : v = if (fun d => tB X (st τ 3 q d) (cl e) q n) i = true then 2 ^ i else 0), WP kX6_doors GM 9 (pI (fun a M2 => a = a_doors (nT, X, τ, img, τi, tn, tp, ss, sz, cl) (e : Int) (q : Int) ∧ RM M2 (nT, X, τ, img, τi, tn, tp, ss, sz, cl))) z 66 [some (rv 0), some (iv (e : Int)), some (iv (q : Int)), some (iv (a_refT (nT, X, τ, img, τi, tn, tp, ss, sz, cl) (e : Int) (q : Int))), some (iv (τ 3 q)), some (iv s_), some (iv (i : Int))] [iv v, iv s_] M_51 := by
            intro v hv
            refine r_ior (r := s_ + v) dX6_doors_66 (by rw [hv]; split; exact or_bit (by omega) (by omega); exact or_0 _) ?_
            refine r_istore_5 dX6_doors_67 rfl (r_iinc_6 dX6_doors_69 rfl (r_goto dX6_doors_72 ?_))
            exact ih (i + 1) _ _ _ (by omega) (by simp only [bt]; rw [← hs_, ← hv]) w9 fB (by omega)
          refine r_iconst dX6_doors_54 ?_
          refine r_icmp_ne dX6_doors_55 (by omega) (by omega) (fun c_55 => ?_) (fun c_55 => ?_)
          · skip
            refine r_iconst dX6_doors_65 ?_
            exact jn_66 _ (by rw [if_neg (by simp only [tB]; rw [decide_eq_true_eq]; exact c_55)])
          · skip
            refine r_iconst dX6_doors_58 (r_iload_6 dX6_doors_59 ?_)
            refine r_ishl (r := 2 ^ i) dX6_doors_61 (shl_bit10 (by omega)) ?_
            refine r_goto dX6_doors_62 ?_
            exact jn_66 _ (by rw [if_pos (by simp only [tB]; rw [decide_eq_true_eq]; exact c_55)])
    exact lp_29 _ 0 0 (τ 3 q) M (by omega) rfl (by rw [st_id rfl]; exact hT) Fm.refl (Nat.lt_succ_self _)
  · skip
    skip
    refine r_iload_3 dX6_doors_11 ?_
    refine r_ireturn dX6_doors_12 rfl ?_
    refine ⟨_, rfl, ?_, hR⟩
    unfold a_doors
    simp only []
    rw [if_pos (by omega)]
set_option maxRecDepth 10000 in
set_option maxHeartbeats 4000000 in
theorem m6_laws {M : Mem} {nT tn : Nat} {X : Nat → Tx} {τ τi : Tn} {img : Bool} {tp ss sz : Nat → Int} {cl : Nat → Nat → Int} (hR : RM M (nT, X, τ, img, τi, tn, tp, ss, sz, cl)) (hJ : JNV (nT, X, τ, img, τi, tn, tp, ss, sz, cl)) {s : Int} (h_s : ib s) {p : Int} (h_p : ib p) : Con GM 9 kX6_laws [rv 0, iv s, iv p] M (pI (fun a M2 => a = a_laws (nT, X, τ, img, τi, tn, tp, ss, sz, cl) s p ∧ RM M2 (nT, X, τ, img, τi, tn, tp, ss, sz, cl))) := by
  refine con_of [some (rv 0), some (iv s), some (iv p), none, none, none, none] (plX6) rfl (Nat.le_of_ble_eq_true rfl) (fun z => ?_)
  have hR0 := hR
  obtain ⟨hT, hX, hnT, himg, hIM, ⟨htn, htp⟩, hsh, hwc⟩ := hR0
  have hT : TM M τ := hT
  have hJ0 := hJ
  obtain ⟨⟨⟨iT1, iT6⟩, ⟨hw, icl⟩, iim, ⟨itn, itp⟩, ish⟩, hki⟩ := hJ0
  obtain ⟨⟨wn, wn2⟩, wcl, ⟨wl, wl2⟩, -, -⟩ := id hw
  have hcl : τ 8 1 < 2147483648 := by omega
  refine r_mb (fun hMB => ?_)
  refine r_aload_0 dX6_laws_0 (r_iload_1 dX6_laws_1 (r_iload_2 dX6_laws_2 ?_))
  refine r_cVI2 dX6_laws_3 vX6_223 (rfl) (m_refT hR hJ (by omega) (by omega)) (by decide) (Nat.le_of_ble_eq_true rfl) (fun b_3 M_3 h_3 => ?_)
  obtain ⟨rfl, rfl⟩ := h_3
  have rb := a_refT_in (nT, X, τ, img, τi, tn, tp, ss, sz, cl) s p
  refine r_istore_3 dX6_laws_6 rfl (r_iload_3 dX6_laws_7 ?_)
  refine r_if_eq dX6_laws_8 (by omega) (fun c_8 => ?_) (fun c_8 => ?_)
  · skip
    have hz0 : a_refT (nT, X, τ, img, τi, tn, tp, ss, sz, cl) s p = 0 := by omega
    obtain ⟨ha0, hpp⟩ := a_refT_0 hz0
    obtain ⟨hs4, hsn, hs20⟩ := a_ref_0 ha0
    obtain ⟨e, rfl⟩ : ∃ e : Nat, s = e := ⟨s.toNat, by omega⟩
    have he4 : e < 4 := by omega
    have hs := hsh e he4
    have is := ish e he4
    obtain ⟨q, rfl⟩ : ∃ q : Nat, p = q := ⟨p.toNat, by omega⟩
    have hq6 : q < 6 := by omega
    have wq := hw.p hq6
    have hqn : (q : Int) < τ 8 0 := by omega
    have hs20 : sz e ≤ 20 := hs20
    obtain ⟨n, hn⟩ : ∃ n : Nat, sz e = n := ⟨(sz e).toNat, by omega⟩
    have hnt : (sz e).toNat = n := by omega
    have he : ((e : Nat) : Int).toNat = e := Int.toNat_natCast e
    have hsz : ∀ Mv : Mem, Fm mW M Mv → Mv 11 e = (n : Int) := fun Mv fv => (fv 11 e (by omega)).trans (hs.2.1.trans hn)
    have hsc : ∀ Mv : Mem, Fm mW M Mv → ∀ i, i < 40 → Mv 12 (40 * e + i) = cl e i := fun Mv fv i hi => (fv 12 (40 * e + i) (by omega)).trans (hs.2.2 i hi)
    refine r_aload_0 dX6_laws_13 (r_getE dX6_laws_14 fX6_92 (rfl) (rfl) (hT.rule) (r_istore_4 dX6_laws_17 rfl (r_iconst dX6_laws_19 (r_istore_5 dX6_laws_20 rfl (r_iconst dX6_laws_22 (r_istore_6 dX6_laws_23 rfl ?_))))))
    have lp_25 : ∀ (NN : Nat) (i : Nat) (s_ x : Int) (Mv : Mem) (hi : i ≤ nT) (hs_ : s_ = bt (fun t => tB X (st τ 8 2 t) (cl e) q n) i) (wx : TM Mv (st τ 8 2 x)) (fv : Fm mW M Mv), 100 - i < NN → WP kX6_laws GM 9 (pI (fun a M2 => a = a_laws (nT, X, τ, img, τi, tn, tp, ss, sz, cl) (e : Int) (q : Int) ∧ RM M2 (nT, X, τ, img, τi, tn, tp, ss, sz, cl))) z 25 [some (rv 0), some (iv (e : Int)), some (iv (q : Int)), some (iv (a_refT (nT, X, τ, img, τi, tn, tp, ss, sz, cl) (e : Int) (q : Int))), some (iv (τ 8 2)), some (iv s_), some (iv (i : Int))] [] Mv := by
      intro NN
      induction NN with
      | zero => intros; omega
      | succ NN ih =>
        intro i s_ x Mv hi hs_ wx fv hm
        have sbb := bt_b (fun t => tB X (st τ 8 2 t) (cl e) q n) i
        refine r_iload_6 dX6_laws_25 ?_
        refine r_aload_0 dX6_laws_27 (r_getE dX6_laws_28 fX6_89 (rfl) (rfl) ((fv 0 10 (by omega)).trans hnT) ?_)
        refine r_icmp_ge dX6_laws_31 (by omega) (by omega) (fun c_31 => ?_) (fun c_31 => ?_)
        · skip
          obtain rfl : i = nT := by omega
          refine r_aload_0 dX6_laws_69 (r_iload_4 dX6_laws_70 ?_)
          refine r_put dX6_laws_72 pX6_92 (rfl) (rfl) (by omega) ?_
          have wz := wx.urule (v := τ 8 2)
          rw [st_st, st_id rfl] at wz
          refine r_iload_5 dX6_laws_75 ?_
          refine r_ireturn dX6_laws_77 rfl ?_
          refine ⟨_, rfl, ?_, hR.now wz (fv.up (by omega))⟩
          unfold a_laws
          simp only [Int.toNat_natCast]
          rw [if_neg (by omega), hnt]
          exact hs_
        · skip
          skip
          refine r_aload_0 dX6_laws_34 (r_iload_6 dX6_laws_35 ?_)
          refine r_put dX6_laws_37 pX6_92 (rfl) (rfl) (by omega) ?_
          have wA := wx.urule (v := (i : Int))
          rw [st_st] at wA
          have wfA : WF nT (st τ 8 2 (i : Int)) := hw.law (by omega)
          have fA : Fm mW M _ := fv.up (k := 0) (i := 11) (v := (i : Int)) (by omega)
          have eA1 : st τ 8 2 (i : Int) 8 1 = τ 8 1 := st_ne (by omega)
          have eA0 : st τ 8 2 (i : Int) 8 0 = τ 8 0 := st_ne (by omega)
          refine r_iload_5 dX6_laws_40 (r_aload_0 dX6_laws_42 (r_iload_1 dX6_laws_43 (r_iload_2 dX6_laws_44 ?_)))
          refine r_cVI2 dX6_laws_45 vX6_226 (rfl) (m_unlike (e := e) (q := q) (zn := n) (c := cl e) wA wfA (hX.W fA) (by omega) (by omega) he4 (hsz _ fA) (by omega) (hsc _ fA)) (by decide) (Nat.le_of_ble_eq_true rfl) (fun b_45 M_45 h_45 => ?_)
          obtain ⟨rfl, w9, f9⟩ := h_45
          have so := sOth_in X (st τ 8 2 (i : Int)) (cl e) q n 0
          have fB := fA.trans f9.kW
          have jn_60 : ∀ (v : Int) (hv : v = if (fun t => tB X (st τ 8 2 t) (cl e) q n) i = true then 2 ^ i else 0), WP kX6_laws GM 9 (pI (fun a M2 => a = a_laws (nT, X, τ, img, τi, tn, tp, ss, sz, cl) (e : Int) (q : Int) ∧ RM M2 (nT, X, τ, img, τi, tn, tp, ss, sz, cl))) z 60 [some (rv 0), some (iv (e : Int)), some (iv (q : Int)), some (iv (a_refT (nT, X, τ, img, τi, tn, tp, ss, sz, cl) (e : Int) (q : Int))), some (iv (τ 8 2)), some (iv s_), some (iv (i : Int))] [iv v, iv s_] M_45 := by
            intro v hv
            refine r_ior (r := s_ + v) dX6_laws_60 (by rw [hv]; split; exact or_bit (by omega) (by omega); exact or_0 _) ?_
            refine r_istore_5 dX6_laws_61 rfl (r_iinc_6 dX6_laws_63 rfl (r_goto dX6_laws_66 ?_))
            exact ih (i + 1) _ _ _ (by omega) (by simp only [bt]; rw [← hs_, ← hv]) w9 fB (by omega)
          refine r_iconst dX6_laws_48 ?_
          refine r_icmp_ne dX6_laws_49 (by omega) (by omega) (fun c_49 => ?_) (fun c_49 => ?_)
          · skip
            refine r_iconst dX6_laws_59 ?_
            exact jn_60 _ (by rw [if_neg (by simp only [tB]; rw [decide_eq_true_eq]; exact c_49)])
          · skip
            refine r_iconst dX6_laws_52 (r_iload_6 dX6_laws_53 ?_)
            refine r_ishl (r := 2 ^ i) dX6_laws_55 (shl_bit10 (by omega)) ?_
            refine r_goto dX6_laws_56 ?_
            exact jn_60 _ (by rw [if_pos (by simp only [tB]; rw [decide_eq_true_eq]; exact c_49)])
    exact lp_25 _ 0 0 (τ 8 2) M (by omega) rfl (by rw [st_id rfl]; exact hT) Fm.refl (Nat.lt_succ_self _)
  · skip
    skip
    refine r_iload_3 dX6_laws_11 ?_
    refine r_ireturn dX6_laws_12 rfl ?_
    refine ⟨_, rfl, ?_, hR⟩
    unfold a_laws
    simp only []
    rw [if_pos (by omega)]
set_option maxRecDepth 10000 in
set_option maxHeartbeats 4000000 in
theorem m6_whose {M : Mem} {nT tn : Nat} {X : Nat → Tx} {τ τi : Tn} {img : Bool} {tp ss sz : Nat → Int} {cl : Nat → Nat → Int} (hR : RM M (nT, X, τ, img, τi, tn, tp, ss, sz, cl)) (hJ : JNV (nT, X, τ, img, τi, tn, tp, ss, sz, cl)) {s : Int} (h_s : ib s) : Con GM 9 kX6_whose [rv 0, iv s] M (pI (fun a M2 => a = a_whose (nT, X, τ, img, τi, tn, tp, ss, sz, cl) s ∧ RM M2 (nT, X, τ, img, τi, tn, tp, ss, sz, cl))) := by
  refine con_of [some (rv 0), some (iv s), none, none, none] (plX6) rfl (Nat.le_of_ble_eq_true rfl) (fun z => ?_)
  have hR0 := hR
  obtain ⟨hT, hX, hnT, himg, hIM, ⟨htn, htp⟩, hsh, hwc⟩ := hR0
  have hT : TM M τ := hT
  have hJ0 := hJ
  obtain ⟨⟨⟨iT1, iT6⟩, ⟨hw, icl⟩, iim, ⟨itn, itp⟩, ish⟩, hki⟩ := hJ0
  obtain ⟨⟨wn, wn2⟩, wcl, ⟨wl, wl2⟩, -, -⟩ := id hw
  have hcl : τ 8 1 < 2147483648 := by omega
  refine r_mb (fun hMB => ?_)
  refine r_aload_0 dX6_whose_0 (r_iload_1 dX6_whose_1 ?_)
  refine r_cVI1 dX6_whose_2 vX6_220 (rfl) (m_refS hR hJ (by omega)) (by decide) (Nat.le_of_ble_eq_true rfl) (fun b_2 M_2 h_2 => ?_)
  obtain ⟨rfl, rfl⟩ := h_2
  have rb := a_ref_in (nT, X, τ, img, τi, tn, tp, ss, sz, cl) s
  refine r_istore_2 dX6_whose_5 rfl (r_iload_2 dX6_whose_6 ?_)
  refine r_if_eq dX6_whose_7 (by omega) (fun c_7 => ?_) (fun c_7 => ?_)
  · skip
    have hz0 : a_ref (nT, X, τ, img, τi, tn, tp, ss, sz, cl) s = 0 := by omega
    obtain ⟨hs4, hsn, hs20⟩ := a_ref_0 hz0
    obtain ⟨e, rfl⟩ : ∃ e : Nat, s = e := ⟨s.toNat, by omega⟩
    have he4 : e < 4 := by omega
    have hs := hsh e he4
    have is := ish e he4
    have hs20 : sz e ≤ 20 := hs20
    obtain ⟨n, hn⟩ : ∃ n : Nat, sz e = n := ⟨(sz e).toNat, by omega⟩
    have hnt : (sz e).toNat = n := by omega
    have he : ((e : Nat) : Int).toNat = e := Int.toNat_natCast e
    have hsz : ∀ Mv : Mem, Fm mW M Mv → Mv 11 e = (n : Int) := fun Mv fv => (fv 11 e (by omega)).trans (hs.2.1.trans hn)
    have hsc : ∀ Mv : Mem, Fm mW M Mv → ∀ i, i < 40 → Mv 12 (40 * e + i) = cl e i := fun Mv fv i hi => (fv 12 (40 * e + i) (by omega)).trans (hs.2.2 i hi)
    refine r_iconst dX6_whose_12 (r_istore_3 dX6_whose_13 rfl (r_iconst dX6_whose_14 (r_istore_4 dX6_whose_15 rfl ?_)))
    have lp_17 : ∀ (NN : Nat) (i : Nat) (s_ : Int) (Mv : Mem) (hi : (i : Int) ≤ τ 8 0) (hs_ : s_ = bt (fun p => tB X τ (cl e) p n) i) (wx : TM Mv τ) (fv : Fm mW M Mv), 100 - i < NN → WP kX6_whose GM 9 (pI (fun a M2 => a = a_whose (nT, X, τ, img, τi, tn, tp, ss, sz, cl) (e : Int) ∧ RM M2 (nT, X, τ, img, τi, tn, tp, ss, sz, cl))) z 17 [some (rv 0), some (iv (e : Int)), some (iv (a_ref (nT, X, τ, img, τi, tn, tp, ss, sz, cl) (e : Int))), some (iv s_), some (iv (i : Int))] [] Mv := by
      intro NN
      induction NN with
      | zero => intros; omega
      | succ NN ih =>
        intro i s_ Mv hi hs_ wx fv hm
        have sbb := bt_b (fun p => tB X τ (cl e) p n) i
        refine r_iload_4 dX6_whose_17 ?_
        refine r_aload_0 dX6_whose_19 (r_getE dX6_whose_20 fX6_72 (rfl) (rfl) (wx.people) ?_)
        refine r_icmp_ge dX6_whose_23 (by omega) (by omega) (fun c_23 => ?_) (fun c_23 => ?_)
        · skip
          obtain rfl : i = (τ 8 0).toNat := by omega
          refine r_iload_3 dX6_whose_54 ?_
          refine r_ireturn dX6_whose_55 rfl ?_
          refine ⟨_, rfl, ?_, hR.now wx fv⟩
          unfold a_whose
          simp only [Int.toNat_natCast]
          rw [if_neg (by omega), hnt]
          exact hs_
        · skip
          skip
          refine r_iload_3 dX6_whose_26 (r_aload_0 dX6_whose_27 (r_iload_1 dX6_whose_28 (r_iload_4 dX6_whose_29 ?_)))
          refine r_cVI2 dX6_whose_31 vX6_226 (rfl) (m_unlike (e := e) (q := i) (zn := n) (c := cl e) wx hw (hX.W fv) (by omega) (by omega) he4 (hsz _ fv) (by omega) (hsc _ fv)) (by decide) (Nat.le_of_ble_eq_true rfl) (fun b_31 M_31 h_31 => ?_)
          obtain ⟨rfl, w9, f9⟩ := h_31
          have so := sOth_in X (τ) (cl e) i n 0
          have fB := fv.trans f9.kW
          have jn_46 : ∀ (v : Int) (hv : v = if (fun p => tB X τ (cl e) p n) i = true then 2 ^ i else 0), WP kX6_whose GM 9 (pI (fun a M2 => a = a_whose (nT, X, τ, img, τi, tn, tp, ss, sz, cl) (e : Int) ∧ RM M2 (nT, X, τ, img, τi, tn, tp, ss, sz, cl))) z 46 [some (rv 0), some (iv (e : Int)), some (iv (a_ref (nT, X, τ, img, τi, tn, tp, ss, sz, cl) (e : Int))), some (iv s_), some (iv (i : Int))] [iv v, iv s_] M_31 := by
            intro v hv
            refine r_ior (r := s_ + v) dX6_whose_46 (by rw [hv]; split; exact or_bit (by omega) (by omega); exact or_0 _) ?_
            refine r_istore_3 dX6_whose_47 rfl (r_iinc_4 dX6_whose_48 rfl (r_goto dX6_whose_51 ?_))
            exact ih (i + 1) _ _ (by omega) (by simp only [bt]; rw [← hs_, ← hv]) w9 fB (by omega)
          refine r_iconst dX6_whose_34 ?_
          refine r_icmp_ne dX6_whose_35 (by omega) (by omega) (fun c_35 => ?_) (fun c_35 => ?_)
          · skip
            refine r_iconst dX6_whose_45 ?_
            exact jn_46 _ (by rw [if_neg (by simp only [tB]; rw [decide_eq_true_eq]; exact c_35)])
          · skip
            refine r_iconst dX6_whose_38 (r_iload_4 dX6_whose_39 ?_)
            refine r_ishl (r := 2 ^ i) dX6_whose_41 (shl_bit10 (by omega)) ?_
            refine r_goto dX6_whose_42 ?_
            exact jn_46 _ (by rw [if_pos (by simp only [tB]; rw [decide_eq_true_eq]; exact c_35)])
    exact lp_17 _ 0 0 M (by omega) rfl hT Fm.refl (Nat.lt_succ_self _)
  · skip
    skip
    refine r_iload_2 dX6_whose_10 ?_
    refine r_ireturn dX6_whose_11 rfl ?_
    refine ⟨_, rfl, ?_, hR⟩
    unfold a_whose
    simp only []
    rw [if_pos (by omega)]
set_option maxRecDepth 10000 in
set_option maxHeartbeats 4000000 in
theorem m6_kinds {M : Mem} {nT tn : Nat} {X : Nat → Tx} {τ τi : Tn} {img : Bool} {tp ss sz : Nat → Int} {cl : Nat → Nat → Int} (hR : RM M (nT, X, τ, img, τi, tn, tp, ss, sz, cl)) (hJ : JNV (nT, X, τ, img, τi, tn, tp, ss, sz, cl)) {s : Int} (h_s : ib s) {p : Int} (h_p : ib p) {r : Int} (h_r : ib r) : Con GM 9 kX6_kinds [rv 0, iv s, iv p, iv r] M (pI (fun a M2 => a = a_kinds (nT, X, τ, img, τi, tn, tp, ss, sz, cl) s p r ∧ RM M2 (nT, X, τ, img, τi, tn, tp, ss, sz, cl))) := by
  refine con_of [some (rv 0), some (iv s), some (iv p), some (iv r), none, none, none, none, none] (plX6) rfl (Nat.le_of_ble_eq_true rfl) (fun z => ?_)
  have hR0 := hR
  obtain ⟨hT, hX, hnT, himg, hIM, ⟨htn, htp⟩, hsh, hwc⟩ := hR0
  have hT : TM M τ := hT
  have hJ0 := hJ
  obtain ⟨⟨⟨iT1, iT6⟩, ⟨hw, icl⟩, iim, ⟨itn, itp⟩, ish⟩, hki⟩ := hJ0
  obtain ⟨⟨wn, wn2⟩, wcl, ⟨wl, wl2⟩, -, -⟩ := id hw
  have hcl : τ 8 1 < 2147483648 := by omega
  refine r_mb (fun hMB => ?_)
  refine r_aload_0 dX6_kinds_0 (r_iload_1 dX6_kinds_1 (r_iload_2 dX6_kinds_2 ?_))
  refine r_cVI2 dX6_kinds_3 vX6_223 (rfl) (m_refT hR hJ (by omega) (by omega)) (by decide) (Nat.le_of_ble_eq_true rfl) (fun b_3 M_3 h_3 => ?_)
  obtain ⟨rfl, rfl⟩ := h_3
  have rb := a_refT_in (nT, X, τ, img, τi, tn, tp, ss, sz, cl) s p
  refine r_istore_4 dX6_kinds_6 rfl (r_iload_4 dX6_kinds_8 ?_)
  refine r_if_eq dX6_kinds_10 (by omega) (fun c_10 => ?_) (fun c_10 => ?_)
  · skip
    have hz0 : a_refT (nT, X, τ, img, τi, tn, tp, ss, sz, cl) s p = 0 := by omega
    obtain ⟨ha0, hpp⟩ := a_refT_0 hz0
    obtain ⟨hs4, hsn, hs20⟩ := a_ref_0 ha0
    obtain ⟨e, rfl⟩ : ∃ e : Nat, s = e := ⟨s.toNat, by omega⟩
    have he4 : e < 4 := by omega
    have hs := hsh e he4
    have is := ish e he4
    obtain ⟨q, rfl⟩ : ∃ q : Nat, p = q := ⟨p.toNat, by omega⟩
    have hq6 : q < 6 := by omega
    have wq := hw.p hq6
    have hqn : (q : Int) < τ 8 0 := by omega
    have hs20 : sz e ≤ 20 := hs20
    obtain ⟨n, hn⟩ : ∃ n : Nat, sz e = n := ⟨(sz e).toNat, by omega⟩
    have hnt : (sz e).toNat = n := by omega
    have he : ((e : Nat) : Int).toNat = e := Int.toNat_natCast e
    have hsz : ∀ Mv : Mem, Fm mW M Mv → Mv 11 e = (n : Int) := fun Mv fv => (fv 11 e (by omega)).trans (hs.2.1.trans hn)
    have hsc : ∀ Mv : Mem, Fm mW M Mv → ∀ i, i < 40 → Mv 12 (40 * e + i) = cl e i := fun Mv fv i hi => (fv 12 (40 * e + i) (by omega)).trans (hs.2.2 i hi)
    refine r_iload_3 dX6_kinds_16 (r_iconst dX6_kinds_17 (r_iconst dX6_kinds_18 ?_))
    refine r_cSI3 dX6_kinds_19 sX6_75 (m_in (d := 0) (by omega) (by omega) (by omega)) (by decide) (Nat.le_of_ble_eq_true rfl) (fun b_19 M_19 h_19 => ?_)
    obtain ⟨rfl, rfl⟩ := h_19
    first | refine r_ifd_ne dX6_kinds_22 (fun c_22 => ?_) (fun c_22 => ?_) | refine r_ifb_ne dX6_kinds_22 (fun c_22 => ?_) (fun c_22 => ?_)
    · skip
      obtain ⟨f, B, hfB⟩ : ∃ f B : Nat, (r = 0 ∧ f = 6 ∧ B = 6) ∨ (r = 1 ∧ f = 7 ∧ B = 10) := by
        by_cases hr : r = 0
        · exact ⟨6, 6, by omega⟩
        · exact ⟨7, 10, by omega⟩
      refine r_aload_0 dX6_kinds_28 (r_getR dX6_kinds_29 fX6_7 (rfl) (rfl) (r_iload_2 dX6_kinds_32 (r_ialX dX6_kinds_33 (rfl) (hT.e6 hqn) (by omega) (by omega) (by omega) (r_istore_5 dX6_kinds_34 rfl (r_aload_0 dX6_kinds_36 (r_getR dX6_kinds_37 fX6_13 (rfl) (rfl) (r_iload_2 dX6_kinds_40 (r_ialX dX6_kinds_41 (rfl) (hT.e7 hqn) (by omega) (by omega) (by omega) (r_istore_6 dX6_kinds_42 rfl (r_iconst dX6_kinds_44 (r_istore_7 dX6_kinds_45 rfl (r_iconst dX6_kinds_47 (r_istore_8 dX6_kinds_48 rfl ?_)))))))))))))
      have lp_50 : ∀ (NN : Nat) (i : Nat) (s_ : Int) (Mv : Mem) (hi : i ≤ B) (hs_ : s_ = bt (fun v => tB X (st τ f q v) (cl e) q n) i) (wx : ∃ x y, TM Mv (st (st τ 6 q x) 7 q y)) (fv : Fm mW M Mv), 100 - i < NN → WP kX6_kinds GM 9 (pI (fun a M2 => a = a_kinds (nT, X, τ, img, τi, tn, tp, ss, sz, cl) (e : Int) (q : Int) r ∧ RM M2 (nT, X, τ, img, τi, tn, tp, ss, sz, cl))) z 50 [some (rv 0), some (iv (e : Int)), some (iv (q : Int)), some (iv r), some (iv (a_refT (nT, X, τ, img, τi, tn, tp, ss, sz, cl) (e : Int) (q : Int))), some (iv (τ 6 q)), some (iv (τ 7 q)), some (iv s_), some (iv (i : Int))] [] Mv := by
        intro NN
        induction NN with
        | zero => intros; omega
        | succ NN ih =>
          intro i s_ Mv hi hs_ wx fv hm
          have sbb := bt_b (fun v => tB X (st τ f q v) (cl e) q n) i
          obtain ⟨x6, x7, wx⟩ := wx
          refine r_iload_8 dX6_kinds_50 ?_
          have jn_63 : WP kX6_kinds GM 9 (pI (fun a M2 => a = a_kinds (nT, X, τ, img, τi, tn, tp, ss, sz, cl) (e : Int) (q : Int) r ∧ RM M2 (nT, X, τ, img, τi, tn, tp, ss, sz, cl))) z 63 [some (rv 0), some (iv (e : Int)), some (iv (q : Int)), some (iv r), some (iv (a_refT (nT, X, τ, img, τi, tn, tp, ss, sz, cl) (e : Int) (q : Int))), some (iv (τ 6 q)), some (iv (τ 7 q)), some (iv s_), some (iv (i : Int))] [iv (B : Int), iv (i : Int)] Mv := by
            refine r_icmp_ge dX6_kinds_63 (by omega) (by omega) (fun c_63 => ?_) (fun c_63 => ?_)
            · skip
              obtain rfl : i = B := by omega
              refine r_aload_0 dX6_kinds_130 (r_getR dX6_kinds_131 fX6_7 (rfl) (rfl) (r_iload_2 dX6_kinds_134 (r_iload_5 dX6_kinds_135 ?_)))
              refine r_iasX (q) dX6_kinds_137 (rfl) (by omega) (by omega) (by omega) (by omega) ?_
              have w1 := wx.u6 (p := q) (v := τ 6 q)
              refine r_aload_0 dX6_kinds_138 (r_getR dX6_kinds_139 fX6_13 (rfl) (rfl) (r_iload_2 dX6_kinds_142 (r_iload_6 dX6_kinds_143 ?_)))
              refine r_iasX (q) dX6_kinds_145 (rfl) (by omega) (by omega) (by omega) (by omega) ?_
              have wz := w1.u7 (p := q) (v := τ 7 q)
              rw [st_kk, st_6, st_id rfl] at wz
              refine r_iload_7 dX6_kinds_146 ?_
              refine r_ireturn dX6_kinds_148 rfl ?_
              refine ⟨_, rfl, ?_, hR.now wz ((fv.up (by omega)).up (by omega))⟩
              unfold a_kinds
              simp only [Int.toNat_natCast]
              rw [if_neg (by omega), if_neg (by omega), hnt]
              rcases hfB with ⟨h1, h2, h3⟩ | ⟨h1, h2, h3⟩
              · rw [if_pos h1, hs_, h2, h3]
              · rw [if_neg (by omega), hs_, h2, h3]
            · skip
              skip
              have jn_101 : ∀ (Mw : Mem) (wA : TM Mw (st τ f q (i : Int))) (fA : Fm mW M Mw), WP kX6_kinds GM 9 (pI (fun a M2 => a = a_kinds (nT, X, τ, img, τi, tn, tp, ss, sz, cl) (e : Int) (q : Int) r ∧ RM M2 (nT, X, τ, img, τi, tn, tp, ss, sz, cl))) z 101 [some (rv 0), some (iv (e : Int)), some (iv (q : Int)), some (iv r), some (iv (a_refT (nT, X, τ, img, τi, tn, tp, ss, sz, cl) (e : Int) (q : Int))), some (iv (τ 6 q)), some (iv (τ 7 q)), some (iv s_), some (iv (i : Int))] [] Mw := by
                intro Mw wA fA
                have wfA : WF nT (st τ f q (i : Int)) := hw.put (by omega)
                have eA1 : st τ f q (i : Int) 8 1 = τ 8 1 := st_ne (by omega)
                have eA0 : st τ f q (i : Int) 8 0 = τ 8 0 := st_ne (by omega)
                refine r_iload_7 dX6_kinds_101 ?_
                refine r_aload_0 dX6_kinds_103 (r_iload_1 dX6_kinds_104 (r_iload_2 dX6_kinds_105 ?_))
                refine r_cVI2 dX6_kinds_106 vX6_226 (rfl) (m_unlike (e := e) (q := q) (zn := n) (c := cl e) wA wfA (hX.W fA) (by omega) (by omega) he4 (hsz _ fA) (by omega) (hsc _ fA)) (by decide) (Nat.le_of_ble_eq_true rfl) (fun b_106 M_106 h_106 => ?_)
                obtain ⟨rfl, w9, f9⟩ := h_106
                have so := sOth_in X (st τ f q (i : Int)) (cl e) q n 0
                have fB := fA.trans f9.kW
                have jn_121 : ∀ (v : Int) (hv : v = if (fun v => tB X (st τ f q v) (cl e) q n) i = true then 2 ^ i else 0), WP kX6_kinds GM 9 (pI (fun a M2 => a = a_kinds (nT, X, τ, img, τi, tn, tp, ss, sz, cl) (e : Int) (q : Int) r ∧ RM M2 (nT, X, τ, img, τi, tn, tp, ss, sz, cl))) z 121 [some (rv 0), some (iv (e : Int)), some (iv (q : Int)), some (iv r), some (iv (a_refT (nT, X, τ, img, τi, tn, tp, ss, sz, cl) (e : Int) (q : Int))), some (iv (τ 6 q)), some (iv (τ 7 q)), some (iv s_), some (iv (i : Int))] [iv v, iv s_] M_106 := by
                  intro v hv
                  refine r_ior (r := s_ + v) dX6_kinds_121 (by rw [hv]; split; exact or_bit (by omega) (by omega); exact or_0 _) ?_
                  refine r_istore_7 dX6_kinds_122 rfl (r_iinc_8 dX6_kinds_124 rfl (r_goto dX6_kinds_127 ?_))
                  exact ih (i + 1) _ _ (by omega) (by simp only [bt]; rw [← hs_, ← hv]) (by rcases hfB with ⟨h1, h2, h3⟩ | ⟨h1, h2, h3⟩ <;> subst h2; exact ⟨_, _, by rw [st_6]; exact w9⟩; exact ⟨_, _, by rw [st_7]; exact w9⟩) fB (by omega)
                refine r_iconst dX6_kinds_109 ?_
                refine r_icmp_ne dX6_kinds_110 (by omega) (by omega) (fun c_110 => ?_) (fun c_110 => ?_)
                · skip
                  refine r_iconst dX6_kinds_120 ?_
                  exact jn_121 _ (by rw [if_neg (by simp only [tB]; rw [decide_eq_true_eq]; exact c_110)])
                · skip
                  refine r_iconst dX6_kinds_113 (r_iload_8 dX6_kinds_114 ?_)
                  refine r_ishl (r := 2 ^ i) dX6_kinds_116 (shl_bit10 (by omega)) ?_
                  refine r_goto dX6_kinds_117 ?_
                  exact jn_121 _ (by rw [if_pos (by simp only [tB]; rw [decide_eq_true_eq]; exact c_110)])
              refine r_aload_0 dX6_kinds_66 (r_getR dX6_kinds_67 fX6_7 (rfl) (rfl) (r_iload_2 dX6_kinds_70 (r_iload_3 dX6_kinds_71 ?_)))
              refine r_if_ne dX6_kinds_72 (by omega) (fun c_72 => ?_) (fun c_72 => ?_)
              · skip
                refine r_iload_5 dX6_kinds_80 ?_
                refine r_iasX (q) dX6_kinds_82 (rfl) (by omega) (by omega) (by omega) (by omega) ?_
                have w1 := wx.u6 (p := q) (v := τ 6 q)
                refine r_aload_0 dX6_kinds_83 (r_getR dX6_kinds_84 fX6_13 (rfl) (rfl) (r_iload_2 dX6_kinds_87 (r_iload_3 dX6_kinds_88 (r_iconst dX6_kinds_89 ?_))))
                refine r_icmp_ne dX6_kinds_90 (by omega) (by omega) (fun c_90 => ?_) (fun c_90 => ?_)
                · exfalso; omega
                · skip
                  skip
                  refine r_iload_8 dX6_kinds_93 (r_goto dX6_kinds_95 ?_)
                  refine r_iasX (q) dX6_kinds_100 (rfl) (by omega) (by omega) (by omega) (by omega) ?_
                  have w2 := w1.u7 (p := q) (v := (i : Int))
                  rw [st_kk, st_7] at w2
                  obtain rfl : f = 7 := by omega
                  have f2 : Fm mW M _ := (fv.up (k := 1) (i := q) (v := τ 6 q) (by omega)).up (k := 2) (i := q) (v := (i : Int)) (by omega)
                  exact jn_101 _ w2 f2
              · skip
                refine r_iload_8 dX6_kinds_75 (r_goto dX6_kinds_77 ?_)
                refine r_iasX (q) dX6_kinds_82 (rfl) (by omega) (by omega) (by omega) (by omega) ?_
                have w1 := wx.u6 (p := q) (v := (i : Int))
                refine r_aload_0 dX6_kinds_83 (r_getR dX6_kinds_84 fX6_13 (rfl) (rfl) (r_iload_2 dX6_kinds_87 (r_iload_3 dX6_kinds_88 (r_iconst dX6_kinds_89 ?_))))
                refine r_icmp_ne dX6_kinds_90 (by omega) (by omega) (fun c_90 => ?_) (fun c_90 => ?_)
                · skip
                  skip
                  refine r_iload_6 dX6_kinds_98 ?_
                  refine r_iasX (q) dX6_kinds_100 (rfl) (by omega) (by omega) (by omega) (by omega) ?_
                  have w2 := w1.u7 (p := q) (v := τ 7 q)
                  rw [st_kk, st_6] at w2
                  obtain rfl : f = 6 := by omega
                  have f2 : Fm mW M _ := (fv.up (k := 1) (i := q) (v := (i : Int)) (by omega)).up (k := 2) (i := q) (v := τ 7 q) (by omega)
                  exact jn_101 _ w2 f2
                · exfalso; omega
          refine r_iload_3 dX6_kinds_52 ?_
          refine r_if_ne dX6_kinds_53 (by omega) (fun c_53 => ?_) (fun c_53 => ?_)
          · skip
            refine r_bipush dX6_kinds_61 (by decide) ?_
            rw [show (B : Int) = 10 by omega] at jn_63
            exact jn_63
          · skip
            refine r_bipush dX6_kinds_56 (by decide) (r_goto dX6_kinds_58 ?_)
            rw [show (B : Int) = 6 by omega] at jn_63
            exact jn_63
      exact lp_50 _ 0 0 M (by omega) rfl ⟨τ 6 q, τ 7 q, by rw [st_6, st_id rfl]; exact hT⟩ Fm.refl (Nat.lt_succ_self _)
    · skip
      skip
      refine r_bipush dX6_kinds_25 (by decide) ?_
      refine r_ireturn dX6_kinds_27 rfl ?_
      refine ⟨_, rfl, ?_, hR⟩
      unfold a_kinds
      simp only []
      rw [if_neg (by omega), if_pos (by omega)]
  · skip
    skip
    refine r_iload_4 dX6_kinds_13 ?_
    refine r_ireturn dX6_kinds_15 rfl ?_
    refine ⟨_, rfl, ?_, hR⟩
    unfold a_kinds
    simp only []
    rw [if_pos (by omega)]
set_option maxRecDepth 10000 in
set_option maxHeartbeats 4000000 in
theorem m6_baskets {M : Mem} {nT tn : Nat} {X : Nat → Tx} {τ τi : Tn} {img : Bool} {tp ss sz : Nat → Int} {cl : Nat → Nat → Int} (hR : RM M (nT, X, τ, img, τi, tn, tp, ss, sz, cl)) (hJ : JNV (nT, X, τ, img, τi, tn, tp, ss, sz, cl)) {s : Int} (h_s : ib s) {p : Int} (h_p : ib p) {r : Int} (h_r : ib r) : Con GM 9 kX6_baskets [rv 0, iv s, iv p, iv r] M (pI (fun a M2 => a = a_baskets (nT, X, τ, img, τi, tn, tp, ss, sz, cl) s p r ∧ RM M2 (nT, X, τ, img, τi, tn, tp, ss, sz, cl))) := by
  refine con_of [some (rv 0), some (iv s), some (iv p), some (iv r), none, none, none, none, none, none] (plX6) rfl (Nat.le_of_ble_eq_true rfl) (fun z => ?_)
  have hR0 := hR
  obtain ⟨hT, hX, hnT, himg, hIM, ⟨htn, htp⟩, hsh, hwc⟩ := hR0
  have hT : TM M τ := hT
  have hJ0 := hJ
  obtain ⟨⟨⟨iT1, iT6⟩, ⟨hw, icl⟩, iim, ⟨itn, itp⟩, ish⟩, hki⟩ := hJ0
  obtain ⟨⟨wn, wn2⟩, wcl, ⟨wl, wl2⟩, -, -⟩ := id hw
  have hcl : τ 8 1 < 2147483648 := by omega
  refine r_mb (fun hMB => ?_)
  refine r_aload_0 dX6_baskets_0 (r_iload_1 dX6_baskets_1 (r_iload_2 dX6_baskets_2 ?_))
  refine r_cVI2 dX6_baskets_3 vX6_223 (rfl) (m_refT hR hJ (by omega) (by omega)) (by decide) (Nat.le_of_ble_eq_true rfl) (fun b_3 M_3 h_3 => ?_)
  obtain ⟨rfl, rfl⟩ := h_3
  have rb := a_refT_in (nT, X, τ, img, τi, tn, tp, ss, sz, cl) s p
  refine r_istore_4 dX6_baskets_6 rfl (r_iload_4 dX6_baskets_8 ?_)
  refine r_if_eq dX6_baskets_10 (by omega) (fun c_10 => ?_) (fun c_10 => ?_)
  · skip
    have hz0 : a_refT (nT, X, τ, img, τi, tn, tp, ss, sz, cl) s p = 0 := by omega
    obtain ⟨ha0, hpp⟩ := a_refT_0 hz0
    obtain ⟨hs4, hsn, hs20⟩ := a_ref_0 ha0
    obtain ⟨e, rfl⟩ : ∃ e : Nat, s = e := ⟨s.toNat, by omega⟩
    have he4 : e < 4 := by omega
    have hs := hsh e he4
    have is := ish e he4
    obtain ⟨q, rfl⟩ : ∃ q : Nat, p = q := ⟨p.toNat, by omega⟩
    have hq6 : q < 6 := by omega
    have wq := hw.p hq6
    have hqn : (q : Int) < τ 8 0 := by omega
    have hs20 : sz e ≤ 20 := hs20
    obtain ⟨n, hn⟩ : ∃ n : Nat, sz e = n := ⟨(sz e).toNat, by omega⟩
    have hnt : (sz e).toNat = n := by omega
    have he : ((e : Nat) : Int).toNat = e := Int.toNat_natCast e
    have hsz : ∀ Mv : Mem, Fm mW M Mv → Mv 11 e = (n : Int) := fun Mv fv => (fv 11 e (by omega)).trans (hs.2.1.trans hn)
    have hsc : ∀ Mv : Mem, Fm mW M Mv → ∀ i, i < 40 → Mv 12 (40 * e + i) = cl e i := fun Mv fv i hi => (fv 12 (40 * e + i) (by omega)).trans (hs.2.2 i hi)
    refine r_iload_3 dX6_baskets_16 (r_iconst dX6_baskets_17 (r_iconst dX6_baskets_18 ?_))
    refine r_cSI3 dX6_baskets_19 sX6_75 (m_in (d := 0) (by omega) (by omega) (by omega)) (by decide) (Nat.le_of_ble_eq_true rfl) (fun b_19 M_19 h_19 => ?_)
    obtain ⟨rfl, rfl⟩ := h_19
    first | refine r_ifd_ne dX6_baskets_22 (fun c_22 => ?_) (fun c_22 => ?_) | refine r_ifb_ne dX6_baskets_22 (fun c_22 => ?_) (fun c_22 => ?_)
    · skip
      refine r_aload_0 dX6_baskets_28 (r_getR dX6_baskets_29 fX6_16 (rfl) (rfl) (r_iconst dX6_baskets_32 (r_iload_2 dX6_baskets_33 (r_imul dX6_baskets_34 (r_iconst dX6_baskets_35 (r_iadd dX6_baskets_36 (r_ialX dX6_baskets_37 (rfl) (hT.e4 hq6) (by omega) (by omega) (by omega) (r_istore_5 dX6_baskets_38 rfl (r_iconst dX6_baskets_40 (r_istore_6 dX6_baskets_41 rfl (r_iconst dX6_baskets_43 (r_istore_7 dX6_baskets_44 rfl (r_iconst dX6_baskets_46 (r_istore_8 dX6_baskets_47 rfl ?_))))))))))))))
      have lp_49 : ∀ (NN : Nat) (v : Nat) (c_ l_ x : Int) (o9 : Option PV) (Mv : Mem) (hv : v ≤ 100) (hc_ : c_ = (bA (fun v => tB X (st τ 4 q v) (cl e) q n) v).1) (hl_ : l_ = (bA (fun v => tB X (st τ 4 q v) (cl e) q n) v).2) (wx : TM Mv (st τ 4 q x)) (fv : Fm mW M Mv), 200 - v < NN → WP kX6_baskets GM 9 (pI (fun a M2 => a = a_baskets (nT, X, τ, img, τi, tn, tp, ss, sz, cl) (e : Int) (q : Int) r ∧ RM M2 (nT, X, τ, img, τi, tn, tp, ss, sz, cl))) z 49 [some (rv 0), some (iv (e : Int)), some (iv (q : Int)), some (iv r), some (iv (a_refT (nT, X, τ, img, τi, tn, tp, ss, sz, cl) (e : Int) (q : Int))), some (iv (τ 4 q)), some (iv c_), some (iv l_), some (iv (v : Int)), o9] [] Mv := by
        intro NN
        induction NN with
        | zero => intros; omega
        | succ NN ih =>
          intro v c_ l_ x o9 Mv hv hc_ hl_ wx fv hm
          have bkb := bA_b (fun v => tB X (st τ 4 q v) (cl e) q n) v
          refine r_iload_8 dX6_baskets_49 ?_
          refine r_bipush dX6_baskets_51 (by decide) ?_
          refine r_icmp_gt dX6_baskets_53 (by omega) (by omega) (fun c_53 => ?_) (fun c_53 => ?_)
          · skip
            obtain rfl : v = 100 := by omega
            refine r_aload_0 dX6_baskets_126 (r_getR dX6_baskets_127 fX6_16 (rfl) (rfl) (r_iconst dX6_baskets_130 (r_iload_2 dX6_baskets_131 (r_imul dX6_baskets_132 (r_iconst dX6_baskets_133 (r_iadd dX6_baskets_134 (r_iload_5 dX6_baskets_135 ?_)))))))
            refine r_iasX (3 * q + 1) dX6_baskets_137 (rfl) (by omega) (by omega) (by omega) (by omega) ?_
            have wz := wx.u4 (p := q) (v := τ 4 q)
            rw [st_st, st_id rfl] at wz
            refine r_iload_3 dX6_baskets_138 ?_
            refine r_if_ne dX6_baskets_139 (by omega) (fun c_139 => ?_) (fun c_139 => ?_)
            · skip
              refine r_iload_7 dX6_baskets_147 ?_
              refine r_ireturn dX6_baskets_149 rfl ?_
              refine ⟨_, rfl, ?_, hR.now wz (fv.up (by omega))⟩
              unfold a_baskets
              simp only [Int.toNat_natCast]
              rw [if_neg (by omega), if_neg (by omega), if_neg (by omega), hnt, bk_bA]
              exact hl_
            · skip
              refine r_iload_6 dX6_baskets_142 (r_goto dX6_baskets_144 ?_)
              refine r_ireturn dX6_baskets_149 rfl ?_
              refine ⟨_, rfl, ?_, hR.now wz (fv.up (by omega))⟩
              unfold a_baskets
              simp only [Int.toNat_natCast]
              rw [if_neg (by omega), if_neg (by omega), if_pos (by omega), hnt, bk_bA]
              exact hc_
          · skip
            skip
            refine r_aload_0 dX6_baskets_56 (r_getR dX6_baskets_57 fX6_16 (rfl) (rfl) (r_iconst dX6_baskets_60 (r_iload_2 dX6_baskets_61 (r_imul dX6_baskets_62 (r_iconst dX6_baskets_63 (r_iadd dX6_baskets_64 (r_iload_8 dX6_baskets_65 ?_)))))))
            refine r_iasX (3 * q + 1) dX6_baskets_67 (rfl) (by omega) (by omega) (by omega) (by omega) ?_
            have wA := wx.u4 (p := q) (v := (v : Int))
            rw [st_st] at wA
            have wfA : WF nT (st τ 4 q (v : Int)) := hw.put (by omega)
            have fA : Fm mW M _ := fv.up (k := 3) (i := 3 * q + 1) (v := (v : Int)) (by omega)
            have eA1 : st τ 4 q (v : Int) 8 1 = τ 8 1 := st_ne (by omega)
            have eA0 : st τ 4 q (v : Int) 8 0 = τ 8 0 := st_ne (by omega)
            refine r_aload_0 dX6_baskets_68 (r_iload_1 dX6_baskets_69 (r_iload_2 dX6_baskets_70 ?_))
            refine r_cVI2 dX6_baskets_71 vX6_226 (rfl) (m_unlike (e := e) (q := q) (zn := n) (c := cl e) wA wfA (hX.W fA) (by omega) (by omega) he4 (hsz _ fA) (by omega) (hsc _ fA)) (by decide) (Nat.le_of_ble_eq_true rfl) (fun b_71 M_71 h_71 => ?_)
            obtain ⟨rfl, w9, f9⟩ := h_71
            have so := sOth_in X (st τ 4 q (v : Int)) (cl e) q n 0
            have fB := fA.trans f9.kW
            have jn_83 : ∀ (b : Bool) (hb : b = tB X (st τ 4 q (v : Int)) (cl e) q n), WP kX6_baskets GM 9 (pI (fun a M2 => a = a_baskets (nT, X, τ, img, τi, tn, tp, ss, sz, cl) (e : Int) (q : Int) r ∧ RM M2 (nT, X, τ, img, τi, tn, tp, ss, sz, cl))) z 83 [some (rv 0), some (iv (e : Int)), some (iv (q : Int)), some (iv r), some (iv (a_refT (nT, X, τ, img, τi, tn, tp, ss, sz, cl) (e : Int) (q : Int))), some (iv (τ 4 q)), some (iv c_), some (iv l_), some (iv (v : Int)), o9] [iv (bi b)] M_71 := by
              intro b hb
              refine r_istore_9 dX6_baskets_83 rfl ?_
              refine r_iload_6 dX6_baskets_85 (r_iload_9 dX6_baskets_87 ?_)
              refine r_ifb_eq dX6_baskets_89 (fun c_89 => ?_) (fun c_89 => ?_)
              · skip
                refine r_iconst dX6_baskets_96 (r_iadd dX6_baskets_97 (r_istore_6 dX6_baskets_98 rfl (r_iload_9 dX6_baskets_100 ?_)))
                refine r_ifb_eq dX6_baskets_102 (fun c_102 => ?_) (fun c_102 => ?_)
                · skip
                  skip
                  refine r_iload_7 dX6_baskets_116 (r_istore_7 dX6_baskets_118 rfl (r_iinc_8 dX6_baskets_120 rfl (r_goto dX6_baskets_123 ?_)))
                  exact ih (v + 1) _ _ _ _ _ (by omega) (by rw [bA_no (by rw [← hb]; exact (by rw [c_89]; decide)), ← hc_]; omega) (by rw [bA_no (by rw [← hb]; exact (by rw [c_89]; decide))]; exact hl_) w9 fB (by omega)
                · exact absurd (c_89.symm.trans c_102) (by decide)
              · skip
                refine r_iconst dX6_baskets_92 (r_goto dX6_baskets_93 (r_iadd dX6_baskets_97 (r_istore_6 dX6_baskets_98 rfl (r_iload_9 dX6_baskets_100 ?_))))
                refine r_ifb_eq dX6_baskets_102 (fun c_102 => ?_) (fun c_102 => ?_)
                · exact absurd (c_102.symm.trans c_89) (by decide)
                · skip
                  skip
                  refine r_iload_7 dX6_baskets_105 (r_iconst dX6_baskets_107 ?_)
                  refine r_icmp_ne dX6_baskets_108 (by omega) (by omega) (fun c_108 => ?_) (fun c_108 => ?_)
                  · skip
                    refine r_iload_7 dX6_baskets_116 (r_istore_7 dX6_baskets_118 rfl (r_iinc_8 dX6_baskets_120 rfl (r_goto dX6_baskets_123 ?_)))
                    exact ih (v + 1) _ _ _ _ _ (by omega) (by rw [bA_yes (by rw [← hb]; exact c_89), hc_]) (by rw [bA_yes (by rw [← hb]; exact c_89)]; show l_ = if (bA (fun v => tB X (st τ 4 q v) (cl e) q n) v).2 = -1 then (v : Int) else (bA (fun v => tB X (st τ 4 q v) (cl e) q n) v).2; rw [← hl_, if_neg (by omega)]) w9 fB (by omega)
                  · skip
                    refine r_iload_8 dX6_baskets_111 (r_goto dX6_baskets_113 (r_istore_7 dX6_baskets_118 rfl (r_iinc_8 dX6_baskets_120 rfl (r_goto dX6_baskets_123 ?_))))
                    exact ih (v + 1) _ _ _ _ _ (by omega) (by rw [bA_yes (by rw [← hb]; exact c_89), hc_]) (by rw [bA_yes (by rw [← hb]; exact c_89)]; show (v : Int) = if (bA (fun v => tB X (st τ 4 q v) (cl e) q n) v).2 = -1 then (v : Int) else (bA (fun v => tB X (st τ 4 q v) (cl e) q n) v).2; rw [← hl_, if_pos (by omega)]) w9 fB (by omega)
            refine r_iconst dX6_baskets_74 ?_
            refine r_icmp_ne dX6_baskets_75 (by omega) (by omega) (fun c_75 => ?_) (fun c_75 => ?_)
            · skip
              refine r_iconst dX6_baskets_82 ?_
              exact jn_83 false (by simp only [tB]; exact (decide_eq_false c_75).symm)
            · skip
              refine r_iconst dX6_baskets_78 (r_goto dX6_baskets_79 ?_)
              exact jn_83 true (by simp only [tB]; exact (decide_eq_true (by first | exact c_75 | exact Decidable.of_not_not c_75)).symm)
      exact lp_49 _ 0 0 (-1) (τ 4 q) none M (by omega) rfl rfl (by rw [st_id rfl]; exact hT) Fm.refl (Nat.lt_succ_self _)
    · skip
      refine r_bipush dX6_baskets_25 (by decide) ?_
      refine r_ireturn dX6_baskets_27 rfl ?_
      refine ⟨_, rfl, ?_, hR⟩
      unfold a_baskets
      simp only []
      rw [if_neg (by omega), if_pos (by omega)]
  · skip
    skip
    refine r_iload_4 dX6_baskets_13 ?_
    refine r_ireturn dX6_baskets_15 rfl ?_
    refine ⟨_, rfl, ?_, hR⟩
    unfold a_baskets
    simp only []
    rw [if_pos (by omega)]
set_option maxRecDepth 10000 in
set_option maxHeartbeats 4000000 in
theorem m6_firsts {M : Mem} {nT tn : Nat} {X : Nat → Tx} {τ τi : Tn} {img : Bool} {tp ss sz : Nat → Int} {cl : Nat → Nat → Int} (hR : RM M (nT, X, τ, img, τi, tn, tp, ss, sz, cl)) (hJ : JNV (nT, X, τ, img, τi, tn, tp, ss, sz, cl)) {s : Int} (h_s : ib s) {p : Int} (h_p : ib p) {r : Int} (h_r : ib r) : Con GM 9 kX6_firsts [rv 0, iv s, iv p, iv r] M (pI (fun a M2 => a = a_firsts (nT, X, τ, img, τi, tn, tp, ss, sz, cl) s p r ∧ RM M2 (nT, X, τ, img, τi, tn, tp, ss, sz, cl))) := by
  refine con_of [some (rv 0), some (iv s), some (iv p), some (iv r), none, none, none, none] (plX6) rfl (Nat.le_of_ble_eq_true rfl) (fun z => ?_)
  have hR0 := hR
  obtain ⟨hT, hX, hnT, himg, hIM, ⟨htn, htp⟩, hsh, hwc⟩ := hR0
  have hT : TM M τ := hT
  have hJ0 := hJ
  obtain ⟨⟨⟨iT1, iT6⟩, ⟨hw, icl⟩, iim, ⟨itn, itp⟩, ish⟩, hki⟩ := hJ0
  obtain ⟨⟨wn, wn2⟩, wcl, ⟨wl, wl2⟩, -, -⟩ := id hw
  have hcl : τ 8 1 < 2147483648 := by omega
  refine r_mb (fun hMB => ?_)
  refine r_aload_0 dX6_firsts_0 (r_iload_1 dX6_firsts_1 (r_iload_2 dX6_firsts_2 ?_))
  refine r_cVI2 dX6_firsts_3 vX6_223 (rfl) (m_refT hR hJ (by omega) (by omega)) (by decide) (Nat.le_of_ble_eq_true rfl) (fun b_3 M_3 h_3 => ?_)
  obtain ⟨rfl, rfl⟩ := h_3
  have rb := a_refT_in (nT, X, τ, img, τi, tn, tp, ss, sz, cl) s p
  refine r_istore_4 dX6_firsts_6 rfl (r_iload_4 dX6_firsts_8 ?_)
  refine r_if_eq dX6_firsts_10 (by omega) (fun c_10 => ?_) (fun c_10 => ?_)
  · skip
    have hz0 : a_refT (nT, X, τ, img, τi, tn, tp, ss, sz, cl) s p = 0 := by omega
    obtain ⟨ha0, hpp⟩ := a_refT_0 hz0
    obtain ⟨hs4, hsn, hs20⟩ := a_ref_0 ha0
    obtain ⟨e, rfl⟩ : ∃ e : Nat, s = e := ⟨s.toNat, by omega⟩
    have he4 : e < 4 := by omega
    have hs := hsh e he4
    have is := ish e he4
    obtain ⟨q, rfl⟩ : ∃ q : Nat, p = q := ⟨p.toNat, by omega⟩
    have hq6 : q < 6 := by omega
    have wq := hw.p hq6
    have hqn : (q : Int) < τ 8 0 := by omega
    have hs20 : sz e ≤ 20 := hs20
    obtain ⟨n, hn⟩ : ∃ n : Nat, sz e = n := ⟨(sz e).toNat, by omega⟩
    have hnt : (sz e).toNat = n := by omega
    have he : ((e : Nat) : Int).toNat = e := Int.toNat_natCast e
    have hsz : ∀ Mv : Mem, Fm mW M Mv → Mv 11 e = (n : Int) := fun Mv fv => (fv 11 e (by omega)).trans (hs.2.1.trans hn)
    have hsc : ∀ Mv : Mem, Fm mW M Mv → ∀ i, i < 40 → Mv 12 (40 * e + i) = cl e i := fun Mv fv i hi => (fv 12 (40 * e + i) (by omega)).trans (hs.2.2 i hi)
    refine r_iload_3 dX6_firsts_16 ?_
    refine r_cSI1 dX6_firsts_17 sX6_95 (m_isDoor (d := 0) (by omega)) (by decide) (Nat.le_of_ble_eq_true rfl) (fun b_17 M_17 h_17 => ?_)
    obtain ⟨rfl, rfl⟩ := h_17
    first | refine r_ifd_ne dX6_firsts_20 (fun c_20 => ?_) (fun c_20 => ?_) | refine r_ifb_ne dX6_firsts_20 (fun c_20 => ?_) (fun c_20 => ?_)
    · skip
      obtain ⟨g, rfl⟩ : ∃ g : Nat, r = g := ⟨r.toNat, by omega⟩
      have hg8 : g < 8 := by omega
      have wg := hw.d hg8
      obtain ⟨N, hN⟩ : ∃ N : Nat, τ 8 0 = N := ⟨(τ 8 0).toNat, by omega⟩
      obtain ⟨PF, hPF⟩ : ∃ PF : Nat → Bool, PF = (fun (j : Nat) => decide (j = 6 ∨ (j : Int) < τ 8 0) && tB X (st τ 1 g (if j = 6 then -1 else (j : Int))) (cl e) q n) := ⟨_, rfl⟩
      have hsk : bt PF 6 = bt PF N := by
        have h6 : bt PF (N + (6 - N)) = bt PF N := bt_skip (6 - N) (fun j h1 h2 => by
          rw [hPF]
          show (decide (j = 6 ∨ (j : Int) < τ 8 0) && _) = false
          rw [decide_eq_false (by omega), Bool.false_and])
        rw [show N + (6 - N) = 6 by omega] at h6
        exact h6
      have hs6 := bt_b PF 6
      refine r_aload_0 dX6_firsts_26 (r_getR dX6_firsts_27 fX6_19 (rfl) (rfl) (r_iconst dX6_firsts_30 (r_iload_3 dX6_firsts_31 (r_imul dX6_firsts_32 (r_iconst dX6_firsts_33 (r_iadd dX6_firsts_34 (r_ialX dX6_firsts_35 (rfl) (hT.e1 hg8) (by omega) (by omega) (by omega) (r_istore_5 dX6_firsts_36 rfl (r_iconst dX6_firsts_38 (r_istore_6 dX6_firsts_39 rfl (r_iconst dX6_firsts_41 (r_istore_7 dX6_firsts_42 rfl ?_))))))))))))
      have lp_44 : ∀ (NN : Nat) (i : Nat) (s_ x : Int) (Mv : Mem) (hi : i ≤ N + 1) (hs1 : i ≤ N → s_ = bt PF i) (hs2 : i = N + 1 → s_ = bt PF 7) (wx : TM Mv (st τ 1 g x)) (fv : Fm mW M Mv), 100 - i < NN → WP kX6_firsts GM 9 (pI (fun a M2 => a = a_firsts (nT, X, τ, img, τi, tn, tp, ss, sz, cl) (e : Int) (q : Int) (g : Int) ∧ RM M2 (nT, X, τ, img, τi, tn, tp, ss, sz, cl))) z 44 [some (rv 0), some (iv (e : Int)), some (iv (q : Int)), some (iv (g : Int)), some (iv (a_refT (nT, X, τ, img, τi, tn, tp, ss, sz, cl) (e : Int) (q : Int))), some (iv (τ 1 g)), some (iv s_), some (iv (i : Int))] [] Mv := by
        intro NN
        induction NN with
        | zero => intros; omega
        | succ NN ih =>
          intro i s_ x Mv hi hs1 hs2 wx fv hm
          have eX0 : st τ 1 g x 8 0 = τ 8 0 := st_ne (by omega)
          refine r_iload_7 dX6_firsts_44 ?_
          refine r_aload_0 dX6_firsts_46 (r_getE dX6_firsts_47 fX6_72 (rfl) (rfl) (wx.people.trans (eX0.trans hN)) ?_)
          refine r_icmp_gt dX6_firsts_50 (by omega) (by omega) (fun c_50 => ?_) (fun c_50 => ?_)
          · skip
            have hs_ := hs2 (by omega)
            refine r_aload_0 dX6_firsts_121 (r_getR dX6_firsts_122 fX6_19 (rfl) (rfl) (r_iconst dX6_firsts_125 (r_iload_3 dX6_firsts_126 (r_imul dX6_firsts_127 (r_iconst dX6_firsts_128 (r_iadd dX6_firsts_129 (r_iload_5 dX6_firsts_130 ?_)))))))
            refine r_iasX (3 * g + 1) dX6_firsts_132 (rfl) (by omega) (by omega) (by omega) (by omega) ?_
            have wz := wx.u1 (d := g) (v := τ 1 g)
            rw [st_st, st_id rfl] at wz
            refine r_iload_6 dX6_firsts_133 ?_
            refine r_ireturn dX6_firsts_135 rfl ?_
            refine ⟨_, rfl, ?_, hR.now wz (fv.up (by omega))⟩
            unfold a_firsts
            simp only [Int.toNat_natCast]
            rw [if_neg (by omega), if_neg (by omega), hnt]
            rw [hPF] at hs_
            exact hs_
          · skip
            have hs_ := hs1 (by omega)
            obtain ⟨j, hj⟩ : ∃ j : Nat, (i = N ∧ j = 6) ∨ (i < N ∧ j = i) := by
              by_cases e : i = N
              · exact ⟨6, Or.inl ⟨e, rfl⟩⟩
              · exact ⟨i, Or.inr ⟨by omega, rfl⟩⟩
            have hj6 : j ≤ 6 := by omega
            have hsj : 0 ≤ s_ ∧ s_ < 2 ^ j := by
              rcases hj with ⟨h1, h2⟩ | ⟨h1, h2⟩
              · rw [h2, hs_, h1, ← hsk]; exact hs6
              · rw [h2, hs_]; exact bt_b PF i
            refine r_aload_0 dX6_firsts_53 (r_getR dX6_firsts_54 fX6_19 (rfl) (rfl) (r_iconst dX6_firsts_57 (r_iload_3 dX6_firsts_58 (r_imul dX6_firsts_59 (r_iconst dX6_firsts_60 (r_iadd dX6_firsts_61 ?_))))))
            have jn_77 : ∀ (v0 : Int) (hv0 : v0 = if j = 6 then -1 else (j : Int)), WP kX6_firsts GM 9 (pI (fun a M2 => a = a_firsts (nT, X, τ, img, τi, tn, tp, ss, sz, cl) (e : Int) (q : Int) (g : Int) ∧ RM M2 (nT, X, τ, img, τi, tn, tp, ss, sz, cl))) z 77 [some (rv 0), some (iv (e : Int)), some (iv (q : Int)), some (iv (g : Int)), some (iv (a_refT (nT, X, τ, img, τi, tn, tp, ss, sz, cl) (e : Int) (q : Int))), some (iv (τ 1 g)), some (iv s_), some (iv (i : Int))] [iv v0, iv (3 * (g : Int) + 1), rv 4] Mv := by
              intro v0 hv0
              have vb : -1 ≤ v0 ∧ v0 < 6 := by rw [hv0]; split <;> omega
              have hPi : PF j = decide (sOth X (st τ 1 g v0) (cl e) q n 0 = -1) := by
                rw [hPF]
                show (decide (j = 6 ∨ (j : Int) < τ 8 0) && _) = _
                rw [decide_eq_true (by omega), Bool.true_and, hv0]
                rfl
              refine r_iasX (3 * g + 1) dX6_firsts_77 (rfl) (by omega) (by omega) (by omega) (by omega) ?_
              have wA := wx.u1 (d := g) (v := v0)
              rw [st_st] at wA
              have wfA : WF nT (st τ 1 g v0) := hw.put (by omega)
              have fA : Fm mW M _ := fv.up (k := 4) (i := 3 * g + 1) (v := v0) (by omega)
              have eA1 : st τ 1 g v0 8 1 = τ 8 1 := st_ne (by omega)
              have eA0 : st τ 1 g v0 8 0 = τ 8 0 := st_ne (by omega)
              refine r_iload_6 dX6_firsts_78 (r_aload_0 dX6_firsts_80 (r_iload_1 dX6_firsts_81 (r_iload_2 dX6_firsts_82 ?_)))
              refine r_cVI2 dX6_firsts_83 vX6_226 (rfl) (m_unlike (e := e) (q := q) (zn := n) (c := cl e) wA wfA (hX.W fA) (by omega) (by omega) he4 (hsz _ fA) (by omega) (hsc _ fA)) (by decide) (Nat.le_of_ble_eq_true rfl) (fun b_83 M_83 h_83 => ?_)
              obtain ⟨rfl, w9, f9⟩ := h_83
              have so := sOth_in X (st τ 1 g v0) (cl e) q n 0
              have fB := fA.trans f9.kW
              have jn_112 : ∀ (v : Int) (hv : v = if PF j = true then 2 ^ j else 0), WP kX6_firsts GM 9 (pI (fun a M2 => a = a_firsts (nT, X, τ, img, τi, tn, tp, ss, sz, cl) (e : Int) (q : Int) (g : Int) ∧ RM M2 (nT, X, τ, img, τi, tn, tp, ss, sz, cl))) z 112 [some (rv 0), some (iv (e : Int)), some (iv (q : Int)), some (iv (g : Int)), some (iv (a_refT (nT, X, τ, img, τi, tn, tp, ss, sz, cl) (e : Int) (q : Int))), some (iv (τ 1 g)), some (iv s_), some (iv (i : Int))] [iv v, iv s_] M_83 := by
                intro v hv
                refine r_ior (r := s_ + v) dX6_firsts_112 (by rw [hv]; split; exact or_bit (by omega) hsj; exact or_0 _) ?_
                refine r_istore_6 dX6_firsts_113 rfl (r_iinc_7 dX6_firsts_115 rfl (r_goto dX6_firsts_118 ?_))
                exact ih (i + 1) _ _ _ (by omega) (fun w => by
                  have hji : j = i := by omega
                  rw [hji] at hv
                  show _ = bt PF i + (if PF i = true then 2 ^ i else 0)
                  rw [← hv, hs_]) (fun w => by
                  have hji : j = 6 := by omega
                  rw [hji] at hv
                  show _ = bt PF 6 + (if PF 6 = true then 2 ^ 6 else 0)
                  rw [← hv, hsk, hs_, show i = N by omega]) w9 fB (by omega)
              refine r_iconst dX6_firsts_86 ?_
              refine r_icmp_ne dX6_firsts_87 (by omega) (by omega) (fun c_87 => ?_) (fun c_87 => ?_)
              · skip
                refine r_iconst dX6_firsts_111 ?_
                exact jn_112 _ (by rw [hPi, if_neg (by rw [decide_eq_true_eq]; exact c_87)])
              · skip
                refine r_iconst dX6_firsts_90 (r_iload_7 dX6_firsts_91 (r_aload_0 dX6_firsts_93 (r_getE dX6_firsts_94 fX6_72 (rfl) (rfl) (w9.people.trans (eA0.trans hN)) ?_)))
                refine r_icmp_ne dX6_firsts_97 (by omega) (by omega) (fun c_97 => ?_) (fun c_97 => ?_)
                · skip
                  refine r_iload_7 dX6_firsts_105 ?_
                  refine r_eq (j : Int) (by omega) ?_
                  refine r_ishl (r := 2 ^ j) dX6_firsts_107 (shl_bit10 (by omega)) ?_
                  refine r_goto dX6_firsts_108 ?_
                  exact jn_112 _ (by rw [hPi, if_pos (by rw [decide_eq_true_eq]; exact c_87)])
                · skip
                  refine r_bipush dX6_firsts_100 (by decide) (r_goto dX6_firsts_102 ?_)
                  refine r_eq (j : Int) (by omega) ?_
                  refine r_ishl (r := 2 ^ j) dX6_firsts_107 (shl_bit10 (by omega)) ?_
                  refine r_goto dX6_firsts_108 ?_
                  exact jn_112 _ (by rw [hPi, if_pos (by rw [decide_eq_true_eq]; exact c_87)])
            refine r_iload_7 dX6_firsts_62 (r_aload_0 dX6_firsts_64 (r_getE dX6_firsts_65 fX6_72 (rfl) (rfl) (wx.people.trans (eX0.trans hN)) ?_))
            refine r_icmp_ne dX6_firsts_68 (by omega) (by omega) (fun c_68 => ?_) (fun c_68 => ?_)
            · skip
              refine r_iload_7 dX6_firsts_75 ?_
              exact jn_77 _ (by rw [if_neg (by omega)]; omega)
            · skip
              refine r_iconst dX6_firsts_71 (r_goto dX6_firsts_72 ?_)
              exact jn_77 _ (by rw [if_pos (by omega)])
      exact lp_44 _ 0 0 (τ 1 g) M (by omega) (fun _ => rfl) (fun w => absurd w (by omega)) (by rw [st_id rfl]; exact hT) Fm.refl (Nat.lt_succ_self _)
    · skip
      skip
      refine r_bipush dX6_firsts_23 (by decide) ?_
      refine r_ireturn dX6_firsts_25 rfl ?_
      refine ⟨_, rfl, ?_, hR⟩
      unfold a_firsts
      simp only []
      rw [if_neg (by omega), if_pos (by omega)]
  · skip
    skip
    refine r_iload_4 dX6_firsts_13 ?_
    refine r_ireturn dX6_firsts_15 rfl ?_
    refine ⟨_, rfl, ?_, hR⟩
    unfold a_firsts
    simp only []
    rw [if_pos (by omega)]

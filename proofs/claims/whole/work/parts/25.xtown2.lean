set_option maxRecDepth 10000 in
set_option maxHeartbeats 4000000 in
theorem x_bits {n : Nat} {M : Mem} {q : Nat} (hg : GX[q]? = some (.inr (.inl 8))) : Con GX n kX4_bitsOfTaken [rv q] M (pI (fun a M2 => M = M2 ∧ a = bt (fun d => decide (M q d ≠ -1)) 8)) := by
  refine con_of [some (rv q), none, none] (plX4) rfl (Nat.le_of_ble_eq_true rfl) (fun z => ?_)
  refine r_mb (fun hMB => ?_)
  refine r_iconst dX4_bitsOfTaken_0 (r_istore_1 dX4_bitsOfTaken_1 rfl (r_iconst dX4_bitsOfTaken_2 (r_istore_2 dX4_bitsOfTaken_3 rfl ?_)))
  have lp_4 : ∀ (NN : Nat) (i : Nat) (b : Int) (hi : i ≤ 8) (hb : b = bt (fun d => decide (M q d ≠ -1)) i), 8 - i < NN → WP kX4_bitsOfTaken GX n (pI (fun a M2 => M = M2 ∧ a = bt (fun d => decide (M q d ≠ -1)) 8)) z 4 [some (rv q), some (iv b), some (iv (i : Int))] [] M := by
    intro NN
    induction NN with
    | zero => intros; omega
    | succ NN ih =>
      intro i b hi hb hm
      have hbb := bt_b (fun d => decide (M q d ≠ -1)) i
      refine r_iload_2 dX4_bitsOfTaken_4 ?_
      refine r_aload_0 dX4_bitsOfTaken_5 ?_
      refine r_alen dX4_bitsOfTaken_6 (hg) ?_
      refine r_icmp_ge dX4_bitsOfTaken_7 (by omega) (by omega) (fun c_7 => ?_) (fun c_7 => ?_)
      · skip
        have h8 : i = 8 := by omega
        subst h8
        refine r_iload_1 dX4_bitsOfTaken_33 ?_
        refine r_ireturn dX4_bitsOfTaken_34 rfl ?_
        exact ⟨_, rfl, rfl, hb⟩
      · skip
        have jn_25 : ∀ (v : Int) (hv : v = if decide (M q i ≠ -1) = true then 2 ^ i else 0), WP kX4_bitsOfTaken GX n (pI (fun a M2 => M = M2 ∧ a = bt (fun d => decide (M q d ≠ -1)) 8)) z 25 [some (rv q), some (iv b), some (iv (i : Int))] [iv v, iv b] M := by
          intro v hv
          refine r_ior (r := b + v) dX4_bitsOfTaken_25 (by rw [hv]; split; exact or_bit (by omega) (by omega); exact or_0 _) ?_
          refine r_istore_1 dX4_bitsOfTaken_26 rfl (r_iinc_2 dX4_bitsOfTaken_27 rfl (r_goto dX4_bitsOfTaken_30 ?_))
          exact ih (i + 1) _ (by omega) (by simp only [bt]; rw [← hb, ← hv]) (by omega)
        refine r_iload_1 dX4_bitsOfTaken_10 (r_aload_0 dX4_bitsOfTaken_11 (r_iload_2 dX4_bitsOfTaken_12 (r_ialN dX4_bitsOfTaken_13 (hg) (by omega) (by omega) (rfl) (r_iconst dX4_bitsOfTaken_14 ?_))))
        refine r_icmp_ne dX4_bitsOfTaken_15 (by have := hMB q i; omega) (by omega) (fun c_15 => ?_) (fun c_15 => ?_)
        · skip
          refine r_iconst dX4_bitsOfTaken_22 (r_iload_2 dX4_bitsOfTaken_23 ?_)
          refine r_ishl (r := 2 ^ i) dX4_bitsOfTaken_24 (shl_bit8 (by omega)) ?_
          exact jn_25 _ (by rw [if_pos (by simpa using c_15)])
        · skip
          refine r_iconst dX4_bitsOfTaken_18 (r_goto dX4_bitsOfTaken_19 ?_)
          exact jn_25 _ (by rw [if_neg (by simpa using c_15)])
  exact lp_4 _ 0 0 (by omega) rfl (Nat.lt_succ_self _)
set_option maxRecDepth 10000 in
set_option maxHeartbeats 4000000 in
theorem x_snd {n : Nat} {M : Mem} {b : Nat} {τ : Tn} (hb : tb b) (hτ : TW M b τ) : Con GX (n + 1) kX4_doorsWithSecond [rv b] M (pI (fun a M2 => M = M2 ∧ a = sSnd τ)) := by
  refine con_of [some (rv b)] (plX4) rfl (Nat.le_of_ble_eq_true rfl) (fun z => ?_)
  refine r_aload_0 dX4_doorsWithSecond_0 (r_getR dX4_doorsWithSecond_1 fX4_18 (gT hb) (rfl) ?_)
  refine r_cSI1 dX4_doorsWithSecond_4 sX4_127 (x_bits (n := n) (gA3 hb)) (by omega) (Nat.le_of_ble_eq_true rfl) (fun b_4 M_4 h_4 => ?_)
  obtain ⟨rfl, rfl⟩ := h_4
  refine r_ireturn dX4_doorsWithSecond_7 rfl ?_
  exact ⟨_, rfl, rfl, bt_congr (fun i hi => by rw [hτ.e2 hi])⟩
set_option maxRecDepth 10000 in
set_option maxHeartbeats 4000000 in
theorem x_fst {n : Nat} {M : Mem} {b : Nat} {τ : Tn} (hb : tb b) (hτ : TW M b τ) : Con GX (n + 1) kX4_doorsWithFirst [rv b] M (pI (fun a M2 => M = M2 ∧ a = sFst τ)) := by
  refine con_of [some (rv b)] (plX4) rfl (Nat.le_of_ble_eq_true rfl) (fun z => ?_)
  refine r_aload_0 dX4_doorsWithFirst_0 (r_getR dX4_doorsWithFirst_1 fX4_15 (gT hb) (rfl) ?_)
  refine r_cSI1 dX4_doorsWithFirst_4 sX4_127 (x_bits (n := n) (gA2 hb)) (by omega) (Nat.le_of_ble_eq_true rfl) (fun b_4 M_4 h_4 => ?_)
  obtain ⟨rfl, rfl⟩ := h_4
  refine r_ireturn dX4_doorsWithFirst_7 rfl ?_
  exact ⟨_, rfl, rfl, bt_congr (fun i hi => by rw [hτ.e1 hi])⟩
set_option maxRecDepth 10000 in
set_option maxHeartbeats 4000000 in
theorem x_at {d : Int} {n : Nat} {M : Mem} {b nT : Nat} {τ : Tn} (hb : tb b) (hτ : TW M b τ) (hw : WF nT τ) (hd : ib d) : Con GX n kX4_peopleAt [rv b, iv d] M (pI (fun a M2 => M = M2 ∧ a = sAt τ d)) := by
  refine con_of [some (rv b), some (iv d), none, none] (plX4) rfl (Nat.le_of_ble_eq_true rfl) (fun z => ?_)
  have h0 := hw.1
  refine r_iconst dX4_peopleAt_0 (r_istore_2 dX4_peopleAt_1 rfl (r_iconst dX4_peopleAt_2 (r_istore_3 dX4_peopleAt_3 rfl ?_)))
  have lp_4 : ∀ (NN : Nat) (i : Nat) (s : Int) (hi : (i : Int) ≤ τ 8 0) (hs : s = bt (fun p => decide (τ 3 p = d)) i), 6 - i < NN → WP kX4_peopleAt GX n (pI (fun a M2 => M = M2 ∧ a = sAt τ d)) z 4 [some (rv b), some (iv d), some (iv s), some (iv (i : Int))] [] M := by
    intro NN
    induction NN with
    | zero => intros; omega
    | succ NN ih =>
      intro i s hi hs hm
      have hbb := bt_b (fun p => decide (τ 3 p = d)) i
      refine r_iload_3 dX4_peopleAt_4 ?_
      refine r_aload_0 dX4_peopleAt_5 (r_getE dX4_peopleAt_6 fX4_39 (gT hb) (rfl) (hτ.people) ?_)
      refine r_icmp_ge dX4_peopleAt_9 (by omega) (by omega) (fun c_9 => ?_) (fun c_9 => ?_)
      · skip
        have h8 : i = (τ 8 0).toNat := by omega
        subst h8
        refine r_iload_2 dX4_peopleAt_38 ?_
        refine r_ireturn dX4_peopleAt_39 rfl ?_
        exact ⟨_, rfl, rfl, hs⟩
      · skip
        have hi6 : i < 6 := by omega
        have w3 := (hw.p hi6).1
        have jn_30 : ∀ (v : Int) (hv : v = if decide (τ 3 i = d) = true then 2 ^ i else 0), WP kX4_peopleAt GX n (pI (fun a M2 => M = M2 ∧ a = sAt τ d)) z 30 [some (rv b), some (iv d), some (iv s), some (iv (i : Int))] [iv v, iv s] M := by
          intro v hv
          refine r_ior (r := s + v) dX4_peopleAt_30 (by rw [hv]; split; exact or_bit (by omega) (by omega); exact or_0 _) ?_
          refine r_istore_2 dX4_peopleAt_31 rfl (r_iinc_3 dX4_peopleAt_32 rfl (r_goto dX4_peopleAt_35 ?_))
          exact ih (i + 1) _ (by omega) (by simp only [bt]; rw [← hs, ← hv]) (by omega)
        refine r_iload_2 dX4_peopleAt_12 (r_aload_0 dX4_peopleAt_13 (r_getR dX4_peopleAt_14 fX4_21 (gT hb) (rfl) (r_iload_3 dX4_peopleAt_17 (r_ialN dX4_peopleAt_18 (gA4 hb) (by omega) (by omega) (hτ.e3 hi6) (r_iload_1 dX4_peopleAt_19 ?_)))))
        refine r_icmp_ne dX4_peopleAt_20 (by omega) (by omega) (fun c_20 => ?_) (fun c_20 => ?_)
        · skip
          refine r_iconst dX4_peopleAt_29 ?_
          exact jn_30 _ (by rw [if_neg (by simpa using c_20)])
        · skip
          refine r_iconst dX4_peopleAt_23 (r_iload_3 dX4_peopleAt_24 ?_)
          refine r_ishl (r := 2 ^ i) dX4_peopleAt_25 (shl_bit8 (by omega)) ?_
          refine r_goto dX4_peopleAt_26 ?_
          exact jn_30 _ (by rw [if_pos (by simpa using c_20)])
  exact lp_4 _ 0 0 (by omega) rfl (Nat.lt_succ_self _)
set_option maxRecDepth 10000 in
set_option maxHeartbeats 4000000 in
theorem x_allBehind {n : Nat} {M : Mem} {b nT : Nat} {τ : Tn} (hb : tb b) (hτ : TW M b τ) (hw : WF nT τ) : Con GX n kX4_allBehind [rv b] M (pI (fun a M2 => M = M2 ∧ a = sm (τ 0) 8)) := by
  refine con_of [some (rv b), none, none] (plX4) rfl (Nat.le_of_ble_eq_true rfl) (fun z => ?_)
  have h0 := hw.1
  refine r_iconst dX4_allBehind_0 (r_istore_1 dX4_allBehind_1 rfl (r_iconst dX4_allBehind_2 (r_istore_2 dX4_allBehind_3 rfl ?_)))
  have lp_4 : ∀ (NN : Nat) (i : Nat) (s : Int) (hi : (i : Int) ≤ 8) (hs : s = sm (τ 0) i), 8 - i < NN → WP kX4_allBehind GX n (pI (fun a M2 => M = M2 ∧ a = sm (τ 0) 8)) z 4 [some (rv b), some (iv s), some (iv (i : Int))] [] M := by
    intro NN
    induction NN with
    | zero => intros; omega
    | succ NN ih =>
      intro i s hi hs hm
      refine r_iload_2 dX4_allBehind_4 ?_
      refine r_bipush dX4_allBehind_5 (by decide) ?_
      refine r_icmp_ge dX4_allBehind_7 (by omega) (by omega) (fun c_7 => ?_) (fun c_7 => ?_)
      · skip
        have h8 : i = 8 := by omega
        subst h8
        refine r_iload_1 dX4_allBehind_25 ?_
        refine r_ireturn dX4_allBehind_26 rfl ?_
        exact ⟨_, rfl, rfl, hs⟩
      · skip
        have hi6 : i < 8 := by omega
        refine r_iload_1 dX4_allBehind_10 (r_aload_0 dX4_allBehind_11 (r_getR dX4_allBehind_12 fX4_9 (gT hb) (rfl) (r_iload_2 dX4_allBehind_15 (r_ialN dX4_allBehind_16 (gA1 hb) (by omega) (by omega) (hτ.e0 hi6) (r_iadd dX4_allBehind_17 (r_istore_1 dX4_allBehind_18 rfl (r_iinc_2 dX4_allBehind_19 rfl (r_goto dX4_allBehind_22 ?_))))))))
        exact ih (i + 1) _ (by omega) (by simp only [sm]; rw [← hs]) (by omega)
  exact lp_4 _ 0 0 (by omega) rfl (Nat.lt_succ_self _)
set_option maxRecDepth 10000 in
set_option maxHeartbeats 4000000 in
theorem x_allEggs {n : Nat} {M : Mem} {b nT : Nat} {τ : Tn} (hb : tb b) (hτ : TW M b τ) (hw : WF nT τ) : Con GX n kX4_allEggs [rv b] M (pI (fun a M2 => M = M2 ∧ a = sm (τ 4) (τ 8 0).toNat)) := by
  refine con_of [some (rv b), none, none] (plX4) rfl (Nat.le_of_ble_eq_true rfl) (fun z => ?_)
  have h0 := hw.1
  refine r_iconst dX4_allEggs_0 (r_istore_1 dX4_allEggs_1 rfl (r_iconst dX4_allEggs_2 (r_istore_2 dX4_allEggs_3 rfl ?_)))
  have lp_4 : ∀ (NN : Nat) (i : Nat) (s : Int) (hi : (i : Int) ≤ τ 8 0) (hs : s = sm (τ 4) i), 8 - i < NN → WP kX4_allEggs GX n (pI (fun a M2 => M = M2 ∧ a = sm (τ 4) (τ 8 0).toNat)) z 4 [some (rv b), some (iv s), some (iv (i : Int))] [] M := by
    intro NN
    induction NN with
    | zero => intros; omega
    | succ NN ih =>
      intro i s hi hs hm
      refine r_iload_2 dX4_allEggs_4 ?_
      refine r_aload_0 dX4_allEggs_5 (r_getE dX4_allEggs_6 fX4_39 (gT hb) (rfl) (hτ.people) ?_)
      refine r_icmp_ge dX4_allEggs_9 (by omega) (by omega) (fun c_9 => ?_) (fun c_9 => ?_)
      · skip
        have h8 : i = (τ 8 0).toNat := by omega
        subst h8
        refine r_iload_1 dX4_allEggs_27 ?_
        refine r_ireturn dX4_allEggs_28 rfl ?_
        exact ⟨_, rfl, rfl, hs⟩
      · skip
        have hi6 : i < 6 := by omega
        refine r_iload_1 dX4_allEggs_12 (r_aload_0 dX4_allEggs_13 (r_getR dX4_allEggs_14 fX4_24 (gT hb) (rfl) (r_iload_2 dX4_allEggs_17 (r_ialN dX4_allEggs_18 (gA5 hb) (by omega) (by omega) (hτ.e4 hi6) (r_iadd dX4_allEggs_19 (r_istore_1 dX4_allEggs_20 rfl (r_iinc_2 dX4_allEggs_21 rfl (r_goto dX4_allEggs_24 ?_))))))))
        exact ih (i + 1) _ (by omega) (by simp only [sm]; rw [← hs]) (by omega)
  exact lp_4 _ 0 0 (by omega) rfl (Nat.lt_succ_self _)
set_option maxRecDepth 10000 in
set_option maxHeartbeats 4000000 in
theorem x_setClock {n : Nat} {M : Mem} {b : Nat} {τ : Tn} {v : Int} (hb : tb b) (hτ : TW M b τ) (hv : ib v) : Con GX n kX4_setClock [rv b, iv v] M (pI (fun a M2 => a = τ 8 1 ∧ TW M2 b (st τ 8 1 v) ∧ Fr (scb b) M M2)) := by
  refine con_of [some (rv b), some (iv v), none] (plX4) rfl (Nat.le_of_ble_eq_true rfl) (fun z => ?_)
  refine r_aload_0 dX4_setClock_0 (r_getE dX4_setClock_1 fX4_43 (gT hb) (rfl) (hτ.clock) (r_istore_2 dX4_setClock_4 rfl (r_aload_0 dX4_setClock_5 (r_iload_1 dX4_setClock_6 ?_))))
  refine r_put dX4_setClock_7 pX4_43 (gT hb) (rfl) (by omega) ?_
  refine r_iload_2 dX4_setClock_10 ?_
  refine r_ireturn dX4_setClock_11 rfl ?_
  exact ⟨_, rfl, rfl, hτ.uclock, Fr.refl.up (scb_in (by omega) (by omega))⟩
set_option maxRecDepth 10000 in
set_option maxHeartbeats 4000000 in
theorem x_hasBit {n : Nat} {M : Mem} {m : Int} {w : Nat} (hm : 0 ≤ m ∧ m < 256) (hw : w < 31) : Con GX n kX5_hasBit [iv m, iv (w : Int)] M (pI (fun a M2 => M = M2 ∧ a = bi (sBit m w))) := by
  refine con_of [some (iv m), some (iv (w : Int))] (plX5) rfl (Nat.le_of_ble_eq_true rfl) (fun z => ?_)
  have hq := bit_and hm hw
  refine r_iload_0 dX5_hasBit_0 (r_iload_1 dX5_hasBit_1 ?_)
  refine r_ishr (r := m / 2 ^ w) dX5_hasBit_2 (hq.1) ?_
  refine r_iconst dX5_hasBit_3 ?_
  refine r_iand (r := m / 2 ^ w % 2) dX5_hasBit_4 (hq.2) ?_
  refine r_if_eq dX5_hasBit_5 (by omega) (fun c_5 => ?_) (fun c_5 => ?_)
  · skip
    refine r_iconst dX5_hasBit_12 ?_
    refine r_zreturn dX5_hasBit_13 rfl (by first | exact bi_01 _ | omega | decide) ?_
    exact ⟨_, rfl, rfl, by simp [sBit, bi]; omega⟩
  · skip
    refine r_iconst dX5_hasBit_8 (r_goto dX5_hasBit_9 ?_)
    refine r_zreturn dX5_hasBit_13 rfl (by first | exact bi_01 _ | omega | decide) ?_
    exact ⟨_, rfl, rfl, by simp [sBit, bi]; omega⟩
set_option maxRecDepth 10000 in
set_option maxHeartbeats 4000000 in
theorem x_alone {M : Mem} {b nT : Nat} {τ : Tn} (hb : tb b) (hτ : TW M b τ) (hw : WF nT τ) : Con GX 1 kX4_anyoneAlone [rv b] M (pI (fun a M2 => M = M2 ∧ a = bi (sAlo τ))) := by
  refine con_of [some (rv b), none] (plX4) rfl (Nat.le_of_ble_eq_true rfl) (fun z => ?_)
  have h0 := hw.1
  refine r_iconst dX4_anyoneAlone_0 (r_istore_1 dX4_anyoneAlone_1 rfl ?_)
  have lp_2 : ∀ (NN : Nat) (i : Nat) (hi : i ≤ 8) (hno : ∀ d : Nat, d < i → ∀ p : Nat, p < 6 → sAt τ d ≠ 2 ^ p), 8 - i < NN → WP kX4_anyoneAlone GX 1 (pI (fun a M2 => M = M2 ∧ a = bi (sAlo τ))) z 2 [some (rv b), some (iv (i : Int))] [] M := by
    intro NN
    induction NN with
    | zero => intros; omega
    | succ NN ih =>
      intro i hi hno hm
      have hab := sAt_b (d := (i : Int)) hw
      refine r_iload_1 dX4_anyoneAlone_2 ?_
      refine r_bipush dX4_anyoneAlone_3 (by decide) ?_
      refine r_icmp_ge dX4_anyoneAlone_5 (by omega) (by omega) (fun c_5 => ?_) (fun c_5 => ?_)
      · skip
        refine r_iconst dX4_anyoneAlone_28 ?_
        refine r_zreturn dX4_anyoneAlone_29 rfl (by first | exact bi_01 _ | omega | decide) ?_
        refine ⟨_, rfl, rfl, ?_⟩
        have h8 : i = 8 := by omega
        subst h8
        rw [sAlo_no hw hno]
        rfl
      · skip
        refine r_aload_0 dX4_anyoneAlone_8 (r_iload_1 dX4_anyoneAlone_9 ?_)
        refine r_cVI1 dX4_anyoneAlone_10 vX4_119 (gT hb) (x_at (n := 0) hb hτ hw (by omega)) (by decide) (Nat.le_of_ble_eq_true rfl) (fun b_10 M_10 h_10 => ?_)
        obtain ⟨rfl, rfl⟩ := h_10
        obtain ⟨m, hm⟩ : ∃ m : Nat, sAt τ (i : Int) = m := ⟨(sAt τ (i : Int)).toNat, by omega⟩
        rw [hm]
        have hm64 : m < 64 := by omega
        have hp1 := pop_1 m hm64
        have hpb : pop8 m ≤ 8 := by unfold pop8; omega
        refine r_cSI1 dX4_anyoneAlone_13 sX4_122 (j_bitCount (d := 0) (by omega)) (by decide) (Nat.le_of_ble_eq_true rfl) (fun b_13 M_13 h_13 => ?_)
        obtain ⟨rfl, rfl⟩ := h_13
        refine r_iconst dX4_anyoneAlone_16 ?_
        refine r_icmp_ne dX4_anyoneAlone_17 (by omega) (by omega) (fun c_17 => ?_) (fun c_17 => ?_)
        · skip
          have hno2 : ∀ d : Nat, d < i + 1 → ∀ p : Nat, p < 6 → sAt τ d ≠ 2 ^ p := by
            intro d hd p hp
            by_cases q : d < i
            · exact hno d q p hp
            · have : d = i := by omega
              subst this
              rw [hm]
              intro e
              apply c_17
              have := hp1.mpr (by
                rcases (by omega : p = 0 ∨ p = 1 ∨ p = 2 ∨ p = 3 ∨ p = 4 ∨ p = 5) with rfl | rfl | rfl | rfl | rfl | rfl <;> simp at e <;> omega)
              omega
          refine r_iinc_1 dX4_anyoneAlone_22 rfl (r_goto dX4_anyoneAlone_25 ?_)
          exact ih (i + 1) (by omega) hno2 (by omega)
        · skip
          refine r_iconst dX4_anyoneAlone_20 ?_
          refine r_zreturn dX4_anyoneAlone_21 rfl (by first | exact bi_01 _ | omega | decide) ?_
          refine ⟨_, rfl, rfl, ?_⟩
          have : sAlo τ = true := sAlo_yes hw hm (hp1.mp (by omega))
          rw [this]
          rfl
  exact lp_2 _ 0 (by omega) (fun d hd => absurd hd (by omega)) (Nat.lt_succ_self _)
set_option maxRecDepth 10000 in
set_option maxHeartbeats 4000000 in
theorem x_isSo {M : Mem} {b nT : Nat} {τ : Tn} (hb : tb b) (hτ : TW M b τ) (hw : WF nT τ) {w : Nat} (hwh : w ≤ 9) : Con GX 2 kX4_isSo [rv b, iv (w : Int)] M (pI (fun a M2 => M = M2 ∧ a = bi (sSo τ w))) := by
  refine con_of [some (rv b), some (iv (w : Int))] (plX4) rfl (Nat.le_of_ble_eq_true rfl) (fun z => ?_)
  have sb := bt_b (fun d => decide (τ 2 d ≠ -1)) 8
  change 0 ≤ sSnd τ ∧ sSnd τ < 256 at sb
  refine r_iload_1 dX4_isSo_0 (r_bipush dX4_isSo_1 (by decide) ?_)
  refine r_icmp_ne dX4_isSo_3 (by omega) (by omega) (fun c_3 => ?_) (fun c_3 => ?_)
  · skip
    skip
    refine r_iload_1 dX4_isSo_22 (r_bipush dX4_isSo_23 (by decide) ?_)
    refine r_icmp_le dX4_isSo_25 (by omega) (by omega) (fun c_25 => ?_) (fun c_25 => ?_)
    · skip
      have e1 : ¬ w = 8 := by omega
      have e2 : ¬ 8 < w := by omega
      refine r_aload_0 dX4_isSo_41 ?_
      refine r_cVI0 dX4_isSo_42 vX4_107 (gT hb) (x_snd (n := 0) hb hτ) (by decide) (Nat.le_of_ble_eq_true rfl) (fun b_42 M_42 h_42 => ?_)
      obtain ⟨rfl, rfl⟩ := h_42
      refine r_iload_1 dX4_isSo_45 ?_
      refine r_cNI2 dX4_isSo_46 nX4_115 (x_hasBit (n := 0) (by omega) (by omega)) (by decide) (Nat.le_of_ble_eq_true rfl) (fun b_46 M_46 h_46 => ?_)
      obtain ⟨rfl, rfl⟩ := h_46
      refine r_zreturn dX4_isSo_49 rfl (by first | exact bi_01 _ | omega | decide) ?_
      exact ⟨_, rfl, rfl, by simp [sSo, bi, *]⟩
    · skip
      have e1 : ¬ w = 8 := by omega
      have e2 : 8 < w := by omega
      refine r_aload_0 dX4_isSo_28 ?_
      refine r_cVI0 dX4_isSo_29 vX4_111 (gT hb) (x_alone hb hτ hw) (by decide) (Nat.le_of_ble_eq_true rfl) (fun b_29 M_29 h_29 => ?_)
      obtain ⟨rfl, rfl⟩ := h_29
      refine r_ifb_ne dX4_isSo_32 (fun c_32 => ?_) (fun c_32 => ?_)
      · skip
        refine r_iconst dX4_isSo_39 ?_
        refine r_zreturn dX4_isSo_40 rfl (by first | exact bi_01 _ | omega | decide) ?_
        exact ⟨_, rfl, rfl, by simp [sSo, bi, *]⟩
      · skip
        refine r_iconst dX4_isSo_35 (r_goto dX4_isSo_36 ?_)
        refine r_zreturn dX4_isSo_40 rfl (by first | exact bi_01 _ | omega | decide) ?_
        exact ⟨_, rfl, rfl, by simp [sSo, bi, *]⟩
  · skip
    have hw8 : w = 8 := by omega
    subst hw8
    refine r_aload_0 dX4_isSo_6 ?_
    refine r_cVI0 dX4_isSo_7 vX4_107 (gT hb) (x_snd (n := 0) hb hτ) (by decide) (Nat.le_of_ble_eq_true rfl) (fun b_7 M_7 h_7 => ?_)
    obtain ⟨rfl, rfl⟩ := h_7
    refine r_sipush dX4_isSo_10 (by decide) ?_
    refine r_icmp_ne dX4_isSo_13 (by omega) (by omega) (fun c_13 => ?_) (fun c_13 => ?_)
    · skip
      refine r_iconst dX4_isSo_20 ?_
      refine r_zreturn dX4_isSo_21 rfl (by first | exact bi_01 _ | omega | decide) ?_
      exact ⟨_, rfl, rfl, by simp [sSo, bi, *]⟩
    · skip
      refine r_iconst dX4_isSo_16 (r_goto dX4_isSo_17 ?_)
      refine r_zreturn dX4_isSo_21 rfl (by first | exact bi_01 _ | omega | decide) ?_
      exact ⟨_, rfl, rfl, by simp [sSo, bi, *]⟩
set_option maxRecDepth 10000 in
set_option maxHeartbeats 4000000 in
theorem x_welcome {M : Mem} {b nT : Nat} {τ : Tn} {km de : Int} (hb : tb b) (hτ : TW M b τ) (hw : WF nT τ) (h1 : ib km) (h2 : ib de) : Con GX 1 kX4_welcome [rv b, iv km, iv de] M (pI (fun a M2 => a = sComeA τ km de ∧ TW M2 b (sComeT τ km de) ∧ Fr (scb b) M M2)) := by
  refine con_of [some (rv b), some (iv km), some (iv de), none] (plX4) rfl (Nat.le_of_ble_eq_true rfl) (fun z => ?_)
  have h0 := hw.1
  refine r_iload_1 dX4_welcome_0 (r_iconst dX4_welcome_1 (r_bipush dX4_welcome_2 (by decide) ?_))
  refine r_cNI3 dX4_welcome_4 nX4_65 (x_within (d := 0) (by omega) (by omega) (by omega)) (by decide) (Nat.le_of_ble_eq_true rfl) (fun b_4 M_4 h_4 => ?_)
  obtain ⟨rfl, rfl⟩ := h_4
  first | refine r_ifd_eq dX4_welcome_7 (fun c_7 => ?_) (fun c_7 => ?_) | refine r_ifb_eq dX4_welcome_7 (fun c_7 => ?_) (fun c_7 => ?_)
  · skip
    refine r_bipush dX4_welcome_21 (by decide) ?_
    refine r_ireturn dX4_welcome_23 rfl ?_
    refine ⟨_, rfl, ?_, ?_, Fr.refl⟩
    · unfold sComeA; rw [if_neg (by omega)]
    · unfold sComeT; rw [if_neg (by omega)]; exact hτ
  · skip
    refine r_iload_2 dX4_welcome_10 (r_iconst dX4_welcome_11 (r_sipush dX4_welcome_12 (by decide) ?_))
    refine r_cNI3 dX4_welcome_15 nX4_65 (x_within (d := 0) (by omega) (by omega) (by omega)) (by decide) (Nat.le_of_ble_eq_true rfl) (fun b_15 M_15 h_15 => ?_)
    obtain ⟨rfl, rfl⟩ := h_15
    first | refine r_ifd_ne dX4_welcome_18 (fun c_18 => ?_) (fun c_18 => ?_) | refine r_ifb_ne dX4_welcome_18 (fun c_18 => ?_) (fun c_18 => ?_)
    · skip
      refine r_aload_0 dX4_welcome_24 (r_getE dX4_welcome_25 fX4_39 (gT hb) (rfl) (hτ.people) ?_)
      refine r_if_lt dX4_welcome_28 (by omega) (fun c_28 => ?_) (fun c_28 => ?_)
      · exfalso; omega
      · skip
        refine r_aload_0 dX4_welcome_31 (r_getE dX4_welcome_32 fX4_39 (gT hb) (rfl) (hτ.people) (r_bipush dX4_welcome_35 (by decide) ?_))
        refine r_icmp_lt dX4_welcome_37 (by omega) (by omega) (fun c_37 => ?_) (fun c_37 => ?_)
        · skip
          obtain ⟨p, hp⟩ : ∃ p : Nat, τ 8 0 = p := ⟨(τ 8 0).toNat, by omega⟩
          have hp6 : p < 6 := by omega
          have hpn : (τ 8 0).toNat = p := by omega
          have d1 := Int.tdiv_eq_ediv_of_nonneg (a := km) (b := 10) (by omega)
          have d2 := Int.tmod_eq_emod_of_nonneg (a := km) (b := 10) (by omega)
          have d3 := Int.tdiv_eq_ediv_of_nonneg (a := de) (b := 100) (by omega)
          have d4 := Int.tmod_eq_emod_of_nonneg (a := de) (b := 100) (by omega)
          refine r_aload_0 dX4_welcome_43 (r_getE dX4_welcome_44 fX4_39 (gT hb) (rfl) (hτ.people.trans hp) (r_istore_3 dX4_welcome_47 rfl (r_aload_0 dX4_welcome_48 (r_getR dX4_welcome_49 fX4_30 (gT hb) (rfl) (r_iload_3 dX4_welcome_52 (r_iload_1 dX4_welcome_53 (r_bipush dX4_welcome_54 (by decide) ?_)))))))
          refine r_idiv dX4_welcome_56 (by omega) (by omega) (by omega) (by omega) ?_
          refine r_iasN dX4_welcome_57 (gA7 hb) (by omega) (by omega) (by omega) ?_
          have w1 := hτ.up6 (i := p) (v := km.tdiv 10)
          refine r_aload_0 dX4_welcome_58 (r_getR dX4_welcome_59 fX4_33 (gT hb) (rfl) (r_iload_3 dX4_welcome_62 (r_iload_1 dX4_welcome_63 (r_bipush dX4_welcome_64 (by decide) ?_))))
          refine r_irem dX4_welcome_66 (by omega) (by omega) (by omega) ?_
          refine r_iasN dX4_welcome_67 (gA8 hb) (by omega) (by omega) (by omega) ?_
          have w2 := w1.up7 (i := p) (v := km.tmod 10)
          refine r_aload_0 dX4_welcome_68 (r_getR dX4_welcome_69 fX4_21 (gT hb) (rfl) (r_iload_3 dX4_welcome_72 (r_iload_2 dX4_welcome_73 (r_bipush dX4_welcome_74 (by decide) ?_))))
          refine r_idiv dX4_welcome_76 (by omega) (by omega) (by omega) (by omega) ?_
          refine r_iasN dX4_welcome_77 (gA4 hb) (by omega) (by omega) (by omega) ?_
          have w3 := w2.up3 (i := p) (v := de.tdiv 100)
          refine r_aload_0 dX4_welcome_78 (r_getR dX4_welcome_79 fX4_24 (gT hb) (rfl) (r_iload_3 dX4_welcome_82 (r_iload_2 dX4_welcome_83 (r_bipush dX4_welcome_84 (by decide) ?_))))
          refine r_irem dX4_welcome_86 (by omega) (by omega) (by omega) ?_
          refine r_iasN dX4_welcome_87 (gA5 hb) (by omega) (by omega) (by omega) ?_
          have w4 := w3.up4 (i := p) (v := de.tmod 100)
          refine r_aload_0 dX4_welcome_88 (r_getR dX4_welcome_89 fX4_27 (gT hb) (rfl) (r_iload_3 dX4_welcome_92 (r_iconst dX4_welcome_93 ?_)))
          refine r_iasN dX4_welcome_94 (gA6 hb) (by omega) (by omega) (by omega) ?_
          have w5 := w4.up5 (i := p) (v := 0)
          refine r_aload_0 dX4_welcome_95 (r_dup_r dX4_welcome_96 (r_getE (v := (p : Int)) dX4_welcome_97 fX4_39 (gT hb) (rfl) (by rw [w5.people, st_ne (Or.inl (by decide)), st_ne (Or.inl (by decide)), st_ne (Or.inl (by decide)), st_ne (Or.inl (by decide)), st_ne (Or.inl (by decide))]; exact hp) (r_iconst dX4_welcome_100 (r_iadd dX4_welcome_101 ?_))))
          refine r_put dX4_welcome_102 pX4_39 (gT hb) (rfl) (by omega) ?_
          refine r_iload_3 dX4_welcome_105 ?_
          refine r_ireturn dX4_welcome_106 rfl ?_
          refine ⟨_, rfl, ?_, ?_, ?_⟩
          · unfold sComeA; rw [if_pos (by omega), if_pos (by omega)]; exact hp.symm
          · unfold sComeT; rw [if_pos (by omega), hpn, hp]; exact w5.upeople
          · exact (((((Fr.refl.up (scb_in (by omega) (by omega))).up (scb_in (by omega) (by omega))).up (scb_in (by omega) (by omega))).up (scb_in (by omega) (by omega))).up (scb_in (by omega) (by omega))).up (scb_in (by omega) (by omega))
        · skip
          refine r_bipush dX4_welcome_40 (by decide) ?_
          refine r_ireturn dX4_welcome_42 rfl ?_
          refine ⟨_, rfl, ?_, ?_, Fr.refl⟩
          · unfold sComeA; rw [if_pos (by omega), if_neg (by omega)]
          · unfold sComeT; rw [if_neg (by omega)]; exact hτ
    · skip
      refine r_bipush dX4_welcome_21 (by decide) ?_
      refine r_ireturn dX4_welcome_23 rfl ?_
      refine ⟨_, rfl, ?_, ?_, Fr.refl⟩
      · unfold sComeA; rw [if_neg (by omega)]
      · unfold sComeT; rw [if_neg (by omega)]; exact hτ
set_option maxRecDepth 10000 in
set_option maxHeartbeats 4000000 in
theorem x_become {M : Mem} {b1 b2 : Nat} {τ : Tn} (hb1 : tb b1) (hb2 : tb b2) (hne : b1 ≠ b2) (hτ : TW M b2 τ) : Con GX 1 kX4_become [rv b1, rv b2] M (pV (fun M2 => TW M2 b1 τ ∧ Fr (scb b1) M M2)) := by
  refine con_of [some (rv b1), some (rv b2)] (plX4) rfl (Nat.le_of_ble_eq_true rfl) (fun z => ?_)
  refine r_aload_1 dX4_become_0 (r_getR dX4_become_1 fX4_9 (gT hb2) (rfl) (r_iconst dX4_become_4 (r_aload_0 dX4_become_5 (r_getR dX4_become_6 fX4_9 (gT hb1) (rfl) (r_iconst dX4_become_9 (r_bipush dX4_become_10 (by decide) ?_))))))
  refine r_acopy dX4_become_12 caX4_59 (gA1 hb2) (gA1 hb1) (by omega) (by omega) (by omega) (by omega) (by omega) (by decide) (by decide) (Nat.le_of_ble_eq_true rfl) ?_
  refine r_aload_1 dX4_become_15 (r_getR dX4_become_16 fX4_15 (gT hb2) (rfl) (r_iconst dX4_become_19 (r_aload_0 dX4_become_20 (r_getR dX4_become_21 fX4_15 (gT hb1) (rfl) (r_iconst dX4_become_24 (r_bipush dX4_become_25 (by decide) ?_))))))
  refine r_acopy dX4_become_27 caX4_59 (gA2 hb2) (gA2 hb1) (by omega) (by omega) (by omega) (by omega) (by omega) (by decide) (by decide) (Nat.le_of_ble_eq_true rfl) ?_
  refine r_aload_1 dX4_become_30 (r_getR dX4_become_31 fX4_18 (gT hb2) (rfl) (r_iconst dX4_become_34 (r_aload_0 dX4_become_35 (r_getR dX4_become_36 fX4_18 (gT hb1) (rfl) (r_iconst dX4_become_39 (r_bipush dX4_become_40 (by decide) ?_))))))
  refine r_acopy dX4_become_42 caX4_59 (gA3 hb2) (gA3 hb1) (by omega) (by omega) (by omega) (by omega) (by omega) (by decide) (by decide) (Nat.le_of_ble_eq_true rfl) ?_
  refine r_aload_1 dX4_become_45 (r_getR dX4_become_46 fX4_21 (gT hb2) (rfl) (r_iconst dX4_become_49 (r_aload_0 dX4_become_50 (r_getR dX4_become_51 fX4_21 (gT hb1) (rfl) (r_iconst dX4_become_54 (r_bipush dX4_become_55 (by decide) ?_))))))
  refine r_acopy dX4_become_57 caX4_59 (gA4 hb2) (gA4 hb1) (by omega) (by omega) (by omega) (by omega) (by omega) (by decide) (by decide) (Nat.le_of_ble_eq_true rfl) ?_
  refine r_aload_1 dX4_become_60 (r_getR dX4_become_61 fX4_24 (gT hb2) (rfl) (r_iconst dX4_become_64 (r_aload_0 dX4_become_65 (r_getR dX4_become_66 fX4_24 (gT hb1) (rfl) (r_iconst dX4_become_69 (r_bipush dX4_become_70 (by decide) ?_))))))
  refine r_acopy dX4_become_72 caX4_59 (gA5 hb2) (gA5 hb1) (by omega) (by omega) (by omega) (by omega) (by omega) (by decide) (by decide) (Nat.le_of_ble_eq_true rfl) ?_
  refine r_aload_1 dX4_become_75 (r_getR dX4_become_76 fX4_27 (gT hb2) (rfl) (r_iconst dX4_become_79 (r_aload_0 dX4_become_80 (r_getR dX4_become_81 fX4_27 (gT hb1) (rfl) (r_iconst dX4_become_84 (r_bipush dX4_become_85 (by decide) ?_))))))
  refine r_acopy dX4_become_87 caX4_59 (gA6 hb2) (gA6 hb1) (by omega) (by omega) (by omega) (by omega) (by omega) (by decide) (by decide) (Nat.le_of_ble_eq_true rfl) ?_
  refine r_aload_1 dX4_become_90 (r_getR dX4_become_91 fX4_30 (gT hb2) (rfl) (r_iconst dX4_become_94 (r_aload_0 dX4_become_95 (r_getR dX4_become_96 fX4_30 (gT hb1) (rfl) (r_iconst dX4_become_99 (r_bipush dX4_become_100 (by decide) ?_))))))
  refine r_acopy dX4_become_102 caX4_59 (gA7 hb2) (gA7 hb1) (by omega) (by omega) (by omega) (by omega) (by omega) (by decide) (by decide) (Nat.le_of_ble_eq_true rfl) ?_
  refine r_aload_1 dX4_become_105 (r_getR dX4_become_106 fX4_33 (gT hb2) (rfl) (r_iconst dX4_become_109 (r_aload_0 dX4_become_110 (r_getR dX4_become_111 fX4_33 (gT hb1) (rfl) (r_iconst dX4_become_114 (r_bipush dX4_become_115 (by decide) ?_))))))
  refine r_acopy dX4_become_117 caX4_59 (gA8 hb2) (gA8 hb1) (by omega) (by omega) (by omega) (by omega) (by omega) (by decide) (by decide) (Nat.le_of_ble_eq_true rfl) ?_
  obtain ⟨M8, hM8⟩ : ∃ x, x = beM M b1 b2 := ⟨_, rfl⟩
  change WP _ _ _ _ _ _ _ _ (beM M b1 b2)
  rw [← hM8]
  refine r_mb (fun hM8b => ?_)
  have hbc := be_copied hb1 hb2 hne hM8
  have hu1 : M8 b2 10 = τ 8 0 := (hbc.2 _ _ (by unfold twb; simp; unfold tb at *; omega)).trans hτ.people
  have hu2 : M8 b2 11 = τ 8 1 := (hbc.2 _ _ (by unfold twb; simp; unfold tb at *; omega)).trans hτ.clock
  have hu3 : M8 b2 12 = τ 8 2 := (hbc.2 _ _ (by unfold twb; simp; unfold tb at *; omega)).trans hτ.law
  have i1 := hM8b b2 10
  have i2 := hM8b b2 11
  have i3 := hM8b b2 12
  refine r_aload_0 dX4_become_120 (r_aload_1 dX4_become_121 (r_getE dX4_become_122 fX4_39 (gT hb2) (rfl) (hu1) ?_))
  refine r_put dX4_become_125 pX4_39 (gT hb1) (rfl) (by omega) ?_
  refine r_aload_0 dX4_become_128 (r_aload_1 dX4_become_129 (r_getE (v := τ 8 1) dX4_become_130 fX4_43 (gT hb2) (rfl) (by rw [upM_ne (Or.inl (Ne.symm hne))]; exact hu2) ?_))
  refine r_put dX4_become_133 pX4_43 (gT hb1) (rfl) (by omega) ?_
  refine r_aload_0 dX4_become_136 (r_aload_1 dX4_become_137 (r_getE (v := τ 8 2) dX4_become_138 fX4_46 (gT hb2) (rfl) (by rw [upM_ne (Or.inl (Ne.symm hne)), upM_ne (Or.inl (Ne.symm hne))]; exact hu3) ?_))
  refine r_put dX4_become_141 pX4_46 (gT hb1) (rfl) (by omega) ?_
  refine r_vreturn dX4_become_144 rfl ?_
  have hfr : Fr (scb b1) M M8 := fun c i hc => hbc.2 c i (by unfold scb at hc; exact (Bool.or_eq_false_iff.mp hc).2)
  refine ⟨rfl, ?_, ((hfr.up (scb_in (by omega) (by omega))).up (scb_in (by omega) (by omega))).up (scb_in (by omega) (by omega))⟩
  refine ⟨fun i hi => by rw [upM_ne (Or.inl (by omega)), upM_ne (Or.inl (by omega)), upM_ne (Or.inl (by omega))]; exact (hbc.1 0 (by decide) i (by simp; omega)).trans (hτ.e0 hi), fun i hi => by rw [upM_ne (Or.inl (by omega)), upM_ne (Or.inl (by omega)), upM_ne (Or.inl (by omega))]; exact (hbc.1 1 (by decide) i (by simp; omega)).trans (hτ.e1 hi), fun i hi => by rw [upM_ne (Or.inl (by omega)), upM_ne (Or.inl (by omega)), upM_ne (Or.inl (by omega))]; exact (hbc.1 2 (by decide) i (by simp; omega)).trans (hτ.e2 hi), fun i hi => by rw [upM_ne (Or.inl (by omega)), upM_ne (Or.inl (by omega)), upM_ne (Or.inl (by omega))]; exact (hbc.1 3 (by decide) i (by simp; omega)).trans (hτ.e3 hi), fun i hi => by rw [upM_ne (Or.inl (by omega)), upM_ne (Or.inl (by omega)), upM_ne (Or.inl (by omega))]; exact (hbc.1 4 (by decide) i (by simp; omega)).trans (hτ.e4 hi), fun i hi => by rw [upM_ne (Or.inl (by omega)), upM_ne (Or.inl (by omega)), upM_ne (Or.inl (by omega))]; exact (hbc.1 5 (by decide) i (by simp; omega)).trans (hτ.e5 hi), fun i hi => by rw [upM_ne (Or.inl (by omega)), upM_ne (Or.inl (by omega)), upM_ne (Or.inl (by omega))]; exact (hbc.1 6 (by decide) i (by simp; omega)).trans (hτ.e6 hi), fun i hi => by rw [upM_ne (Or.inl (by omega)), upM_ne (Or.inl (by omega)), upM_ne (Or.inl (by omega))]; exact (hbc.1 7 (by decide) i (by simp; omega)).trans (hτ.e7 hi), ?_, ?_, ?_⟩
  · rw [upM_ne (Or.inr (by decide)), upM_ne (Or.inr (by decide)), upM_self]
  · rw [upM_ne (Or.inr (by decide)), upM_self]
  · rw [upM_self]

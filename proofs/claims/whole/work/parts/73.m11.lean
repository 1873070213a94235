set_option maxRecDepth 10000 in
set_option maxHeartbeats 4000000 in
theorem m_word {n b e tn : Nat} {M : Mem} {tp : Nat → Int} (hL : LM M tp tn) (hbe : b ≤ e) (hen : e ≤ tn) : Con GM n kX6_wordFrom [rv 0, iv (b : Int), iv (e : Int)] M (pI (fun a M2 => M = M2 ∧ ∃ k : Nat, a = (k : Int) ∧ ((k < 12 ∧ MW tp b e k) ∨ (k = 12 ∧ ∀ j, j < 12 → ¬ MW tp b e j)))) := by
  refine con_of [some (rv 0), some (iv (b : Int)), some (iv (e : Int)), none, none, none] (plX6) rfl (Nat.le_of_ble_eq_true rfl) (fun z => ?_)
  obtain ⟨⟨t160, htp⟩, -, hB, hW⟩ := id hL
  refine r_mb (fun hMB => ?_)
  refine r_iconst dX6_wordFrom_0 (r_istore_3 dX6_wordFrom_1 rfl ?_)
  have lp_2 : ∀ (NN : Nat) (k : Nat) (u4 u5 : Option PV) (hk : k ≤ 12) (hn : ∀ j, j < k → ¬ MW tp b e j), 100 - k < NN → WP kX6_wordFrom GM n (pI (fun a M2 => M = M2 ∧ ∃ k : Nat, a = (k : Int) ∧ ((k < 12 ∧ MW tp b e k) ∨ (k = 12 ∧ ∀ j, j < 12 → ¬ MW tp b e j)))) z 2 [some (rv 0), some (iv (b : Int)), some (iv (e : Int)), some (iv (k : Int)), u4, u5] [] M := by
    intro NN
    induction NN with
    | zero => intros; omega
    | succ NN ih =>
      intro k u4 u5 hk hn hm
      have iho := ih
      refine r_iload_3 dX6_wordFrom_2 ?_
      refine r_bipush dX6_wordFrom_3 (by decide) ?_
      refine r_icmp_ge dX6_wordFrom_5 (by omega) (by omega) (fun c_5 => ?_) (fun c_5 => ?_)
      · skip
        obtain rfl : k = 12 := by omega
        refine r_bipush dX6_wordFrom_101 (by decide) ?_
        refine r_ireturn dX6_wordFrom_103 rfl ?_
        exact ⟨_, rfl, rfl, 12, rfl, Or.inr ⟨rfl, hn⟩⟩
      · skip
        skip
        have jn_21 : ∀ (l : Bool) (h1 : l = true → e ≤ b + 8) (h2 : l = false → ¬ e ≤ b + 8), WP kX6_wordFrom GM n (pI (fun a M2 => M = M2 ∧ ∃ k : Nat, a = (k : Int) ∧ ((k < 12 ∧ MW tp b e k) ∨ (k = 12 ∧ ∀ j, j < 12 → ¬ MW tp b e j)))) z 21 [some (rv 0), some (iv (b : Int)), some (iv (e : Int)), some (iv (k : Int)), u4, u5] [iv (bi l)] M := by
          intro l h1 h2
          refine r_istore_4 dX6_wordFrom_21 rfl ?_
          refine r_iconst dX6_wordFrom_23 (r_istore_5 dX6_wordFrom_24 rfl ?_)
          have lp_26 : ∀ (NN : Nat) (x : Nat) (l : Bool) (hx : x ≤ 8) (h1 : l = true → e ≤ b + 8 ∧ ∀ y, y < x → wc (8 * k + y) = ch8 tp b e y) (h2 : l = false → ¬ MW tp b e k), 100 - x < NN → WP kX6_wordFrom GM n (pI (fun a M2 => M = M2 ∧ ∃ k : Nat, a = (k : Int) ∧ ((k < 12 ∧ MW tp b e k) ∨ (k = 12 ∧ ∀ j, j < 12 → ¬ MW tp b e j)))) z 26 [some (rv 0), some (iv (b : Int)), some (iv (e : Int)), some (iv (k : Int)), some (iv (bi l)), some (iv (x : Int))] [] M := by
            intro NN
            induction NN with
            | zero => intros; omega
            | succ NN ih =>
              intro x l hx h1 h2 hm
              refine r_iload_5 dX6_wordFrom_26 ?_
              refine r_bipush dX6_wordFrom_28 (by decide) ?_
              refine r_icmp_ge dX6_wordFrom_30 (by omega) (by omega) (fun c_30 => ?_) (fun c_30 => ?_)
              · skip
                obtain rfl : x = 8 := by omega
                refine r_iload_4 dX6_wordFrom_88 ?_
                refine r_ifb_eq dX6_wordFrom_90 (fun c_90 => ?_) (fun c_90 => ?_)
                · skip
                  refine r_iinc_3 dX6_wordFrom_95 rfl (r_goto dX6_wordFrom_98 ?_)
                  exact iho (k + 1) _ _ (by omega) (fun j hj => by
                    by_cases e1 : j = k
                    · rw [e1]; exact h2 c_90
                    · exact hn j (by omega)) (by omega)
                · skip
                  skip
                  refine r_iload_3 dX6_wordFrom_93 ?_
                  refine r_ireturn dX6_wordFrom_94 rfl ?_
                  exact ⟨_, rfl, rfl, k, rfl, Or.inl ⟨by omega, (h1 c_90).1, fun y hy => (h1 c_90).2 y (by omega)⟩⟩
              · skip
                skip
                refine r_iload_4 dX6_wordFrom_33 ?_
                refine r_ifb_eq dX6_wordFrom_35 (fun c_35 => ?_) (fun c_35 => ?_)
                · skip
                  refine r_iload_4 dX6_wordFrom_88 ?_
                  refine r_ifb_eq dX6_wordFrom_90 (fun c_90 => ?_) (fun c_90 => ?_)
                  · skip
                    refine r_iinc_3 dX6_wordFrom_95 rfl (r_goto dX6_wordFrom_98 ?_)
                    exact iho (k + 1) _ _ (by omega) (fun j hj => by
                      by_cases e1 : j = k
                      · rw [e1]; exact h2 c_90
                      · exact hn j (by omega)) (by omega)
                  · exact absurd (c_35.symm.trans c_90) (by decide)
                · skip
                  refine r_aload_0 dX6_wordFrom_38 (r_getR dX6_wordFrom_39 fX6_49 (rfl) (rfl) (r_bipush dX6_wordFrom_42 (by decide) (r_iload_3 dX6_wordFrom_44 (r_imul dX6_wordFrom_45 (r_iload_5 dX6_wordFrom_46 (r_iadd dX6_wordFrom_48 (r_ialX dX6_wordFrom_49 (rfl) (hW (8 * k + x) (by omega)) (by omega) (by omega) (by omega) ?_)))))))
                  have wcb := hMB 14 (8 * k + x)
                  rw [hW (8 * k + x) (by omega)] at wcb
                  have jn_72 : ∀ (c : Int) (hc : c = ch8 tp b e x), WP kX6_wordFrom GM n (pI (fun a M2 => M = M2 ∧ ∃ k : Nat, a = (k : Int) ∧ ((k < 12 ∧ MW tp b e k) ∨ (k = 12 ∧ ∀ j, j < 12 → ¬ MW tp b e j)))) z 72 [some (rv 0), some (iv (b : Int)), some (iv (e : Int)), some (iv (k : Int)), some (iv (bi l)), some (iv (x : Int))] [iv c, iv (wc (8 * k + x))] M := by
                    intro c hc
                    have hcb : 0 ≤ c ∧ c ≤ 255 := by
                      rw [hc]
                      unfold ch8
                      split
                      · exact htp _ (by omega)
                      · omega
                    refine r_icmp_ne dX6_wordFrom_72 (by omega) (by omega) (fun c_72 => ?_) (fun c_72 => ?_)
                    · skip
                      refine r_iconst dX6_wordFrom_79 (r_istore_4 dX6_wordFrom_80 rfl (r_iinc_5 dX6_wordFrom_82 rfl (r_goto dX6_wordFrom_85 ?_)))
                      exact ih (x + 1) false (by omega) (fun w => absurd w (by decide)) (fun _ q => c_72 (hc.symm ▸ q.2 x (by omega))) (by omega)
                    · skip
                      refine r_iconst dX6_wordFrom_75 (r_goto dX6_wordFrom_76 (r_istore_4 dX6_wordFrom_80 rfl (r_iinc_5 dX6_wordFrom_82 rfl (r_goto dX6_wordFrom_85 ?_))))
                      exact ih (x + 1) true (by omega) (fun _ => ⟨(h1 c_35).1, fun y hy => by
                        by_cases e1 : y = x
                        · rw [e1, c_72]; exact hc
                        · exact (h1 c_35).2 y (by omega)⟩) (fun w => absurd w (by decide)) (by omega)
                  refine r_iload_1 dX6_wordFrom_50 (r_iload_5 dX6_wordFrom_51 (r_iadd dX6_wordFrom_53 (r_iload_2 dX6_wordFrom_54 ?_)))
                  refine r_icmp_ge dX6_wordFrom_55 (by omega) (by omega) (fun c_55 => ?_) (fun c_55 => ?_)
                  · skip
                    refine r_bipush dX6_wordFrom_70 (by decide) ?_
                    exact jn_72 _ (by unfold ch8; rw [if_neg (by omega)])
                  · skip
                    refine r_aload_0 dX6_wordFrom_58 (r_getR dX6_wordFrom_59 fX6_22 (rfl) (rfl) (r_iload_1 dX6_wordFrom_62 (r_iload_5 dX6_wordFrom_63 (r_iadd dX6_wordFrom_65 (r_ialX dX6_wordFrom_66 (rfl) (hB (b + x) (by omega)) (by omega) (by omega) (by omega) (r_goto dX6_wordFrom_67 ?_))))))
                    exact jn_72 _ (by unfold ch8; rw [if_pos (by omega)])
          exact lp_26 _ 0 l (by omega) (fun w => ⟨h1 w, fun y hy => absurd hy (Nat.not_lt_zero _)⟩) (fun w q => h2 w q.1) (Nat.lt_succ_self _)
        refine r_iload_2 dX6_wordFrom_8 (r_iload_1 dX6_wordFrom_9 (r_isub dX6_wordFrom_10 (r_bipush dX6_wordFrom_11 (by decide) ?_)))
        refine r_icmp_gt dX6_wordFrom_13 (by omega) (by omega) (fun c_13 => ?_) (fun c_13 => ?_)
        · skip
          refine r_iconst dX6_wordFrom_20 ?_
          exact jn_21 false (fun w => absurd w (by decide)) (fun _ => by omega)
        · skip
          refine r_iconst dX6_wordFrom_16 (r_goto dX6_wordFrom_17 ?_)
          exact jn_21 true (fun _ => by omega) (fun w => absurd w (by decide))
  exact lp_2 _ 0 _ _ (by omega) (fun j hj => absurd hj (Nat.not_lt_zero _)) (Nat.lt_succ_self _)
set_option maxRecDepth 10000 in
set_option maxHeartbeats 4000000 in
theorem m_next {a tn : Nat} {M : Mem} {tp : Nat → Int} (hL : LM M tp tn) (ha : M 0 19 = (a : Int)) (han : a ≤ tn) : Con GM 1 kX6_next [rv 0] M (pV (fun M2 => NX tp tn a M2 ∧ Fm mN M M2)) := by
  refine con_of [some (rv 0), none, none] (plX6) rfl (Nat.le_of_ble_eq_true rfl) (fun z => ?_)
  obtain ⟨⟨t160, htp⟩, -, -, -⟩ := id hL
  have jn_52 : ∀ (b : Nat) (Mv : Mem) (hb : lxP tp tn a = b) (hbn : b ≤ tn) (fv : Fm mN M Mv) (v19 : Mv 0 19 = (b : Int)), WP kX6_next GM 1 (pV (fun M2 => NX tp tn a M2 ∧ Fm mN M M2)) z 52 [some (rv 0), none, none] [] Mv := by
    intro b Mv hb hbn fv v19
    have hLv := hL.nx fv
    refine r_aload_0 dX6_next_52 ?_
    refine r_aload_0 dX6_next_53 (r_getE dX6_next_54 fX6_108 (rfl) (rfl) (v19) ?_)
    refine r_put dX6_next_57 pX6_111 (rfl) (rfl) (by omega) ?_
    refine r_aload_0 dX6_next_60 (r_iconst dX6_next_61 ?_)
    refine r_put dX6_next_62 pX6_114 (rfl) (rfl) (by omega) ?_
    refine r_aload_0 dX6_next_65 (r_iconst dX6_next_66 ?_)
    refine r_put dX6_next_67 pX6_117 (rfl) (rfl) (by omega) ?_
    obtain ⟨Mb, hMb⟩ : ∃ x, x = upM (upM (upM Mv 0 20 (b : Int)) 0 21 0) 0 22 0 := ⟨_, rfl⟩
    rw [← hMb]
    have fb : Fm mN M Mb := by rw [hMb]; exact ((fv.up (by omega)).up (by omega)).up (by omega)
    have hLb := hL.nx fb
    have b19 : Mb 0 19 = (b : Int) := by rw [hMb, upM_ne (by omega), upM_ne (by omega), upM_ne (by omega)]; exact v19
    have b20 : Mb 0 20 = (b : Int) := by rw [hMb, upM_ne (by omega), upM_ne (by omega), upM_self]
    have b21 : Mb 0 21 = 0 := by rw [hMb, upM_ne (by omega), upM_self]
    have b22 : Mb 0 22 = 0 := by rw [hMb, upM_self]
    refine r_aload_0 dX6_next_70 (r_getE dX6_next_71 fX6_108 (rfl) (rfl) (b19) (r_aload_0 dX6_next_74 (r_getE dX6_next_75 fX6_64 (rfl) (rfl) (hLb.2.1) ?_)))
    refine r_icmp_ne dX6_next_78 (by omega) (by omega) (fun c_78 => ?_) (fun c_78 => ?_)
    · skip
      have hbt := htp b (by omega)
      refine r_aload_0 dX6_next_82 (r_getR dX6_next_83 fX6_22 (rfl) (rfl) (r_aload_0 dX6_next_86 (r_getE dX6_next_87 fX6_108 (rfl) (rfl) (b19) (r_ialX dX6_next_90 (rfl) (hLb.2.2.1 b (by omega)) (by omega) (by omega) (by omega) (r_istore_1 dX6_next_91 rfl (r_iload_1 dX6_next_92 (r_bipush dX6_next_93 (by decide) (r_bipush dX6_next_95 (by decide) ?_))))))))
      refine r_cSI3 dX6_next_97 sX6_75 (m_in (d := 0) (by omega) (by omega) (by omega)) (by decide) (Nat.le_of_ble_eq_true rfl) (fun b_97 M_97 h_97 => ?_)
      obtain ⟨rfl, rfl⟩ := h_97
      first | refine r_ifd_eq dX6_next_100 (fun c_100 => ?_) (fun c_100 => ?_) | refine r_ifb_eq dX6_next_100 (fun c_100 => ?_) (fun c_100 => ?_)
      · skip
        have hisL : isL (tp b) = false := decide_eq_false c_100
        refine r_iload_1 dX6_next_217 (r_bipush dX6_next_218 (by decide) (r_bipush dX6_next_220 (by decide) ?_))
        refine r_cSI3 dX6_next_222 sX6_75 (m_in (d := 0) (by omega) (by omega) (by omega)) (by decide) (Nat.le_of_ble_eq_true rfl) (fun b_222 M_222 h_222 => ?_)
        obtain ⟨rfl, rfl⟩ := h_222
        first | refine r_ifd_eq dX6_next_225 (fun c_225 => ?_) (fun c_225 => ?_) | refine r_ifb_eq dX6_next_225 (fun c_225 => ?_) (fun c_225 => ?_)
        · skip
          have hisD : isD (tp b) = false := decide_eq_false c_225
          have jn_379 : ∀ (s : Bool) (hs : s = isS (tp b)), WP kX6_next GM 1 (pV (fun M2 => NX tp tn a M2 ∧ Fm mN M M2)) z 379 [some (rv 0), some (iv (tp b)), none] [iv (bi s)] Mb := by
            intro s hs
            have hT : lxT tp tn a = if s = true then tp b else -2 := by unfold lxT; rw [hb, if_neg (by omega), hisL, if_neg (by decide), hisD, if_neg (by decide), hs]
            have hN : lxN tp tn a = b + 1 := by unfold lxN; rw [hb, if_neg (by omega), hisL, if_neg (by decide), hisD, if_neg (by decide)]
            have hsb : s = true → 40 ≤ tp b ∧ tp b ≤ 61 := fun w => by
              have := of_decide_eq_true ((hs.symm.trans w : isS (tp b) = true))
              omega
            refine r_istore_2 dX6_next_379 rfl ?_
            refine r_aload_0 dX6_next_380 (r_iload_2 dX6_next_381 ?_)
            refine r_ifb_eq dX6_next_382 (fun c_382 => ?_) (fun c_382 => ?_)
            · skip
              rw [c_382, if_neg (by decide)] at hT
              refine r_iconst dX6_next_389 ?_
              refine r_put dX6_next_390 pX6_114 (rfl) (rfl) (by omega) ?_
              refine r_aload_0 dX6_next_393 (r_dup_r dX6_next_394 (r_getE dX6_next_395 fX6_108 (rfl) (rfl) ((upM_ne (by omega)).trans b19) (r_iconst dX6_next_398 (r_iadd dX6_next_399 ?_))))
              refine r_put dX6_next_400 pX6_108 (rfl) (rfl) (by omega) ?_
              refine r_vreturn dX6_next_403 rfl ?_
              exact ⟨rfl, ⟨upM_self.trans (by rw [hN]; rfl), (upM_ne (by omega)).trans ((upM_ne (by omega)).trans (b20.trans (by rw [hb]))), (upM_ne (by omega)).trans (upM_self.trans (by rw [hT]; unfold mtk; (repeat (first | rw [if_pos (by omega)] | rw [if_neg (by omega)])))), fun w => by omega, fun w => by omega, fun w => by omega⟩, (fb.up (by omega)).up (by omega)⟩
            · skip
              rw [if_pos c_382] at hT
              have hsb := hsb c_382
              refine r_iload_1 dX6_next_385 (r_goto dX6_next_386 ?_)
              refine r_put dX6_next_390 pX6_114 (rfl) (rfl) (by omega) ?_
              refine r_aload_0 dX6_next_393 (r_dup_r dX6_next_394 (r_getE dX6_next_395 fX6_108 (rfl) (rfl) ((upM_ne (by omega)).trans b19) (r_iconst dX6_next_398 (r_iadd dX6_next_399 ?_))))
              refine r_put dX6_next_400 pX6_108 (rfl) (rfl) (by omega) ?_
              refine r_vreturn dX6_next_403 rfl ?_
              exact ⟨rfl, ⟨upM_self.trans (by rw [hN]; rfl), (upM_ne (by omega)).trans ((upM_ne (by omega)).trans (b20.trans (by rw [hb]))), (upM_ne (by omega)).trans (upM_self.trans (by rw [hT]; unfold mtk; (repeat (first | rw [if_pos (by omega)] | rw [if_neg (by omega)])))), fun w => by omega, fun w => by omega, fun w => by omega⟩, (fb.up (by omega)).up (by omega)⟩
          refine r_iload_1 dX6_next_326 (r_bipush dX6_next_327 (by decide) ?_)
          refine r_icmp_eq dX6_next_329 (by omega) (by omega) (fun c_329 => ?_) (fun c_329 => ?_)
          · skip
            refine r_iconst dX6_next_374 (r_goto dX6_next_375 ?_)
            exact jn_379 true (show true = isS (tp b) from (decide_eq_true (by omega)).symm)
          · skip
            refine r_iload_1 dX6_next_332 (r_bipush dX6_next_333 (by decide) ?_)
            refine r_icmp_eq dX6_next_335 (by omega) (by omega) (fun c_335 => ?_) (fun c_335 => ?_)
            · skip
              refine r_iconst dX6_next_374 (r_goto dX6_next_375 ?_)
              exact jn_379 true (show true = isS (tp b) from (decide_eq_true (by omega)).symm)
            · skip
              refine r_iload_1 dX6_next_338 (r_bipush dX6_next_339 (by decide) ?_)
              refine r_icmp_eq dX6_next_341 (by omega) (by omega) (fun c_341 => ?_) (fun c_341 => ?_)
              · skip
                refine r_iconst dX6_next_374 (r_goto dX6_next_375 ?_)
                exact jn_379 true (show true = isS (tp b) from (decide_eq_true (by omega)).symm)
              · skip
                refine r_iload_1 dX6_next_344 (r_bipush dX6_next_345 (by decide) ?_)
                refine r_icmp_eq dX6_next_347 (by omega) (by omega) (fun c_347 => ?_) (fun c_347 => ?_)
                · skip
                  refine r_iconst dX6_next_374 (r_goto dX6_next_375 ?_)
                  exact jn_379 true (show true = isS (tp b) from (decide_eq_true (by omega)).symm)
                · skip
                  refine r_iload_1 dX6_next_350 (r_bipush dX6_next_351 (by decide) ?_)
                  refine r_icmp_eq dX6_next_353 (by omega) (by omega) (fun c_353 => ?_) (fun c_353 => ?_)
                  · skip
                    refine r_iconst dX6_next_374 (r_goto dX6_next_375 ?_)
                    exact jn_379 true (show true = isS (tp b) from (decide_eq_true (by omega)).symm)
                  · skip
                    refine r_iload_1 dX6_next_356 (r_bipush dX6_next_357 (by decide) ?_)
                    refine r_icmp_eq dX6_next_359 (by omega) (by omega) (fun c_359 => ?_) (fun c_359 => ?_)
                    · skip
                      refine r_iconst dX6_next_374 (r_goto dX6_next_375 ?_)
                      exact jn_379 true (show true = isS (tp b) from (decide_eq_true (by omega)).symm)
                    · skip
                      refine r_iload_1 dX6_next_362 (r_bipush dX6_next_363 (by decide) ?_)
                      refine r_icmp_eq dX6_next_365 (by omega) (by omega) (fun c_365 => ?_) (fun c_365 => ?_)
                      · skip
                        refine r_iconst dX6_next_374 (r_goto dX6_next_375 ?_)
                        exact jn_379 true (show true = isS (tp b) from (decide_eq_true (by omega)).symm)
                      · skip
                        refine r_iload_1 dX6_next_368 (r_bipush dX6_next_369 (by decide) ?_)
                        refine r_icmp_ne dX6_next_371 (by omega) (by omega) (fun c_371 => ?_) (fun c_371 => ?_)
                        · skip
                          refine r_iconst dX6_next_378 ?_
                          exact jn_379 false (show false = isS (tp b) from (decide_eq_false (by omega)).symm)
                        · skip
                          refine r_iconst dX6_next_374 (r_goto dX6_next_375 ?_)
                          exact jn_379 true (show true = isS (tp b) from (decide_eq_true (by omega)).symm)
        · skip
          have hisD : isD (tp b) = true := decide_eq_true c_225
          refine r_iconst dX6_next_228 (r_istore_2 dX6_next_229 rfl ?_)
          have jn_309 : ∀ (n : Nat) (Mw : Mem) (he : rnE isD tp tn b = b + n) (hi : b + n ≤ tn) (fw : Fm mN M Mw) (w19 : Mw 0 19 = ((b + n : Nat) : Int)) (w20 : Mw 0 20 = (b : Int)) (w22 : Mw 0 22 = if n ≤ 4 then nvl tp b n else 0), WP kX6_next GM 1 (pV (fun M2 => NX tp tn a M2 ∧ Fm mN M M2)) z 309 [some (rv 0), some (iv (tp b)), some (iv (n : Int))] [] Mw := by
            intro n Mw he hi fw w19 w20 w22
            have hT : lxT tp tn a = if b + n ≤ b + 4 then 300 else -2 := by unfold lxT; rw [hb, if_neg (by omega), hisL, if_neg (by decide), if_pos hisD, he]
            have hN : lxN tp tn a = b + n := by unfold lxN; rw [hb, if_neg (by omega), hisL, if_neg (by decide), if_pos hisD, he]
            refine r_aload_0 dX6_next_309 ?_
            refine r_iload_2 dX6_next_310 (r_iconst dX6_next_311 ?_)
            refine r_icmp_le dX6_next_312 (by omega) (by omega) (fun c_312 => ?_) (fun c_312 => ?_)
            · skip
              refine r_iconst dX6_next_319 ?_
              refine r_put dX6_next_320 pX6_114 (rfl) (rfl) (by omega) ?_
              refine r_goto dX6_next_323 ?_
              refine r_vreturn dX6_next_403 rfl ?_
              exact ⟨rfl, ⟨(upM_ne (by omega)).trans (w19.trans (by rw [hN])), (upM_ne (by omega)).trans (w20.trans (by rw [hb])), upM_self.trans (by rw [hT, if_pos (by omega)]; rfl), fun w => (upM_ne (by omega)).trans (by rw [hT] at w; rw [w22, if_pos (by omega)]; unfold lxV; rw [hb, he, Nat.add_sub_cancel_left]), fun w => by rw [hT, if_pos (by omega)] at w; omega, fun w => by rw [hT, if_pos (by omega)] at w; omega⟩, fw.up (by omega)⟩
            · skip
              refine r_iconst dX6_next_315 (r_goto dX6_next_316 ?_)
              refine r_put dX6_next_320 pX6_114 (rfl) (rfl) (by omega) ?_
              refine r_goto dX6_next_323 ?_
              refine r_vreturn dX6_next_403 rfl ?_
              exact ⟨rfl, ⟨(upM_ne (by omega)).trans (w19.trans (by rw [hN])), (upM_ne (by omega)).trans (w20.trans (by rw [hb])), upM_self.trans (by rw [hT, if_neg (by omega)]; rfl), fun w => (upM_ne (by omega)).trans (by rw [hT] at w; rw [w22, if_pos (by omega)]; unfold lxV; rw [hb, he, Nat.add_sub_cancel_left]), fun w => by rw [hT, if_neg (by omega)] at w; omega, fun w => by rw [hT, if_neg (by omega)] at w; omega⟩, fw.up (by omega)⟩
          have lp_230 : ∀ (NN : Nat) (n : Nat) (Mw : Mem) (hi : b + n ≤ tn) (hdg : ∀ x, x < n → 48 ≤ tp (b + x) ∧ tp (b + x) ≤ 57) (hs : rnl isD tp tn (tn - (b + n)) (b + n) = rnE isD tp tn b) (fw : Fm mN M Mw) (w19 : Mw 0 19 = ((b + n : Nat) : Int)) (w20 : Mw 0 20 = (b : Int)) (w22 : Mw 0 22 = if n ≤ 4 then nvl tp b n else 0), 200 - n < NN → WP kX6_next GM 1 (pV (fun M2 => NX tp tn a M2 ∧ Fm mN M M2)) z 230 [some (rv 0), some (iv (tp b)), some (iv (n : Int))] [] Mw := by
            intro NN
            induction NN with
            | zero => intros; omega
            | succ NN ih =>
              intro n Mw hi hdg hs fw w19 w20 w22 hm
              have hLw := hL.nx fw
              refine r_aload_0 dX6_next_230 ?_
              refine r_getE dX6_next_231 fX6_108 (rfl) (rfl) (w19) (r_aload_0 dX6_next_234 (r_getE dX6_next_235 fX6_64 (rfl) (rfl) (hLw.2.1) ?_))
              refine r_icmp_ge dX6_next_238 (by omega) (by omega) (fun c_238 => ?_) (fun c_238 => ?_)
              · skip
                exact jn_309 n Mw (hs.symm.trans (rnl_no (fun w => by omega))) hi fw w19 w20 w22
              · skip
                have hbi2 := htp (b + n) (by omega)
                refine r_aload_0 dX6_next_241 (r_getR dX6_next_242 fX6_22 (rfl) (rfl) (r_aload_0 dX6_next_245 (r_getE dX6_next_246 fX6_108 (rfl) (rfl) (w19) (r_ialX dX6_next_249 (rfl) (hLw.2.2.1 (b + n) (by omega)) (by omega) (by omega) (by omega) (r_bipush dX6_next_250 (by decide) (r_bipush dX6_next_252 (by decide) ?_))))))
                refine r_cSI3 dX6_next_254 sX6_75 (m_in (d := 0) (by omega) (by omega) (by omega)) (by decide) (Nat.le_of_ble_eq_true rfl) (fun b_254 M_254 h_254 => ?_)
                obtain ⟨rfl, rfl⟩ := h_254
                first | refine r_ifd_eq dX6_next_257 (fun c_257 => ?_) (fun c_257 => ?_) | refine r_ifb_eq dX6_next_257 (fun c_257 => ?_) (fun c_257 => ?_)
                · skip
                  exact jn_309 n Mw (hs.symm.trans (rnl_no (fun w => c_257 (of_decide_eq_true w.2)))) hi fw w19 w20 w22
                · skip
                  have hdg1 : ∀ x, x < n + 1 → 48 ≤ tp (b + x) ∧ tp (b + x) ≤ 57 := fun x h1 => by
                    by_cases e1 : x = n
                    · rw [e1]; exact c_257
                    · exact hdg x (by omega)
                  refine r_aload_0 dX6_next_260 (r_iload_2 dX6_next_261 (r_iconst dX6_next_262 ?_))
                  refine r_icmp_ge dX6_next_263 (by omega) (by omega) (fun c_263 => ?_) (fun c_263 => ?_)
                  · skip
                    skip
                    refine r_iconst dX6_next_289 ?_
                    refine r_put dX6_next_290 pX6_117 (rfl) (rfl) (by omega) ?_
                    refine r_iinc_2 dX6_next_293 rfl (r_aload_0 dX6_next_296 (r_dup_r dX6_next_297 (r_getE dX6_next_298 fX6_108 (rfl) (rfl) ((upM_ne (by omega)).trans w19) (r_iconst dX6_next_301 (r_iadd dX6_next_302 ?_)))))
                    refine r_put dX6_next_303 pX6_108 (rfl) (rfl) (by omega) ?_
                    refine r_goto dX6_next_306 ?_
                    exact ih (n + 1) _ (by omega) hdg1 ((rnl_go (P := isD) (tp := tp) (tn := tn) (i := b + n) (by omega) (show isD (tp (b + n)) = true from decide_eq_true (by omega))).symm.trans hs) ((fw.up (by omega)).up (by omega)) (by rw [upM_self]; omega) ((upM_ne (by omega)).trans ((upM_ne (by omega)).trans w20)) ((upM_ne (by omega)).trans (upM_self.trans (by rw [if_neg (by omega)]))) (by omega)
                  · skip
                    have nvs := nvl_step (tp := tp) (b := b) (n := n) (by omega) hdg1
                    refine r_bipush dX6_next_266 (by decide) (r_aload_0 dX6_next_268 (r_getE (v := nvl tp b n) dX6_next_269 fX6_117 (rfl) (rfl) (w22.trans (if_pos (by omega))) (r_imul dX6_next_272 (r_aload_0 dX6_next_273 (r_getR dX6_next_274 fX6_22 (rfl) (rfl) (r_aload_0 dX6_next_277 (r_getE dX6_next_278 fX6_108 (rfl) (rfl) (w19) (r_ialX dX6_next_281 (rfl) (hLw.2.2.1 (b + n) (by omega)) (by omega) (by omega) (by omega) (r_iadd dX6_next_282 (r_bipush dX6_next_283 (by decide) (r_isub dX6_next_285 (r_goto dX6_next_286 ?_))))))))))))
                    refine r_put dX6_next_290 pX6_117 (rfl) (rfl) (by omega) ?_
                    refine r_iinc_2 dX6_next_293 rfl (r_aload_0 dX6_next_296 (r_dup_r dX6_next_297 (r_getE dX6_next_298 fX6_108 (rfl) (rfl) ((upM_ne (by omega)).trans w19) (r_iconst dX6_next_301 (r_iadd dX6_next_302 ?_)))))
                    refine r_put dX6_next_303 pX6_108 (rfl) (rfl) (by omega) ?_
                    refine r_goto dX6_next_306 ?_
                    exact ih (n + 1) _ (by omega) hdg1 ((rnl_go (P := isD) (tp := tp) (tn := tn) (i := b + n) (by omega) (show isD (tp (b + n)) = true from decide_eq_true (by omega))).symm.trans hs) ((fw.up (by omega)).up (by omega)) (by rw [upM_self]; omega) ((upM_ne (by omega)).trans ((upM_ne (by omega)).trans w20)) ((upM_ne (by omega)).trans (upM_self.trans (by rw [if_pos (by omega), nvs.2]))) (by omega)
          exact lp_230 _ 0 Mb hbn (fun x h1 => absurd h1 (Nat.not_lt_zero _)) rfl fb b19 b20 b22 (Nat.lt_succ_self _)
      · skip
        have hisL : isL (tp b) = true := decide_eq_true c_100
        have jn_146 : ∀ (e : Nat) (Mw : Mem) (he : rnE isL tp tn b = e) (hen : e ≤ tn) (hbe : b ≤ e) (hlt : ∀ x, b ≤ x → x < e → 97 ≤ tp x) (fw : Fm mN M Mw) (w19 : Mw 0 19 = (e : Int)) (w20 : Mw 0 20 = (b : Int)), WP kX6_next GM 1 (pV (fun M2 => NX tp tn a M2 ∧ Fm mN M M2)) z 146 [some (rv 0), some (iv (tp b)), none] [] Mw := by
          intro e Mw he hen hbe hlt fw w19 w20
          have hLw := hL.nx fw
          have hT : lxT tp tn a = wdc tp b e := by unfold lxT; rw [hb, if_neg (by omega), if_pos hisL, he]
          have hN : lxN tp tn a = e := by unfold lxN; rw [hb, if_neg (by omega), if_pos hisL, he]
          refine r_aload_0 dX6_next_146 ?_
          refine r_aload_0 dX6_next_147 (r_getE dX6_next_148 fX6_111 (rfl) (rfl) (w20) (r_aload_0 dX6_next_151 (r_getE dX6_next_152 fX6_108 (rfl) (rfl) (w19) ?_)))
          refine r_cVI2 dX6_next_155 vX6_120 (rfl) (m_word (n := 0) hLw hbe hen) (by decide) (Nat.le_of_ble_eq_true rfl) (fun b_155 M_155 h_155 => ?_)
          obtain ⟨rfl, k, rfl, hk⟩ := h_155
          have hwd := wf_tk hlt hk
          refine r_istore_2 dX6_next_158 rfl ?_
          have jn_195 : ∀ (v : Int) (hv : v = mtk (wdc tp b e)), WP kX6_next GM 1 (pV (fun M2 => NX tp tn a M2 ∧ Fm mN M M2)) z 195 [some (rv 0), some (iv (tp b)), some (iv (k : Int))] [iv v, rv 0] Mw := by
            intro v hv
            have hvb : -1 ≤ v ∧ v ≤ 255 := by rw [hv]; exact mtk_in (by omega)
            refine r_put dX6_next_195 pX6_114 (rfl) (rfl) (by omega) ?_
            refine r_aload_0 dX6_next_198 (r_iload_2 dX6_next_199 (r_iconst dX6_next_200 ?_))
            refine r_icmp_ge dX6_next_201 (by omega) (by omega) (fun c_201 => ?_) (fun c_201 => ?_)
            · skip
              refine r_iload_2 dX6_next_208 (r_iconst dX6_next_209 (r_isub dX6_next_210 ?_))
              refine r_put dX6_next_211 pX6_117 (rfl) (rfl) (by omega) ?_
              refine r_goto dX6_next_214 ?_
              refine r_vreturn dX6_next_403 rfl ?_
              exact ⟨rfl, ⟨(upM_ne (by omega)).trans ((upM_ne (by omega)).trans (w19.trans (by rw [hN]))), (upM_ne (by omega)).trans ((upM_ne (by omega)).trans (w20.trans (by rw [hb]))), (upM_ne (by omega)).trans (upM_self.trans (by rw [hT]; exact hv)), fun w => by omega, fun w => upM_self.trans (by omega), fun w => upM_self.trans (by omega)⟩, (fw.up (by omega)).up (by omega)⟩
            · skip
              refine r_iload_2 dX6_next_204 (r_goto dX6_next_205 ?_)
              refine r_put dX6_next_211 pX6_117 (rfl) (rfl) (by omega) ?_
              refine r_goto dX6_next_214 ?_
              refine r_vreturn dX6_next_403 rfl ?_
              exact ⟨rfl, ⟨(upM_ne (by omega)).trans ((upM_ne (by omega)).trans (w19.trans (by rw [hN]))), (upM_ne (by omega)).trans ((upM_ne (by omega)).trans (w20.trans (by rw [hb]))), (upM_ne (by omega)).trans (upM_self.trans (by rw [hT]; exact hv)), fun w => by omega, fun w => upM_self.trans (by omega), fun w => upM_self.trans (by omega)⟩, (fw.up (by omega)).up (by omega)⟩
          refine r_aload_0 dX6_next_159 (r_iload_2 dX6_next_160 (r_iconst dX6_next_161 ?_))
          refine r_icmp_ge dX6_next_162 (by omega) (by omega) (fun c_162 => ?_) (fun c_162 => ?_)
          · skip
            refine r_iload_2 dX6_next_169 (r_bipush dX6_next_170 (by decide) ?_)
            refine r_icmp_ge dX6_next_172 (by omega) (by omega) (fun c_172 => ?_) (fun c_172 => ?_)
            · skip
              refine r_iload_2 dX6_next_179 (r_bipush dX6_next_180 (by decide) ?_)
              refine r_icmp_ne dX6_next_182 (by omega) (by omega) (fun c_182 => ?_) (fun c_182 => ?_)
              · skip
                refine r_iconst dX6_next_189 (r_iload_2 dX6_next_190 (r_iadd dX6_next_191 (r_bipush dX6_next_192 (by decide) (r_isub dX6_next_194 ?_))))
                exact jn_195 _ (by unfold mtk; (repeat (first | rw [if_pos (by omega)] | rw [if_neg (by omega)])) <;> omega)
              · skip
                refine r_iconst dX6_next_185 (r_goto dX6_next_186 ?_)
                exact jn_195 _ (by unfold mtk; (repeat (first | rw [if_pos (by omega)] | rw [if_neg (by omega)])) <;> omega)
            · skip
              refine r_iconst dX6_next_175 (r_goto dX6_next_176 ?_)
              exact jn_195 _ (by unfold mtk; (repeat (first | rw [if_pos (by omega)] | rw [if_neg (by omega)])) <;> omega)
          · skip
            refine r_iconst dX6_next_165 (r_goto dX6_next_166 ?_)
            exact jn_195 _ (by unfold mtk; (repeat (first | rw [if_pos (by omega)] | rw [if_neg (by omega)])) <;> omega)
        have lp_103 : ∀ (NN : Nat) (i : Nat) (Mw : Mem) (hi : i ≤ tn) (hbi : b ≤ i) (hlt : ∀ x, b ≤ x → x < i → 97 ≤ tp x) (hs : rnl isL tp tn (tn - i) i = rnE isL tp tn b) (fw : Fm mN M Mw) (w19 : Mw 0 19 = (i : Int)) (w20 : Mw 0 20 = (b : Int)), tn - i < NN → WP kX6_next GM 1 (pV (fun M2 => NX tp tn a M2 ∧ Fm mN M M2)) z 103 [some (rv 0), some (iv (tp b)), none] [] Mw := by
          intro NN
          induction NN with
          | zero => intros; omega
          | succ NN ih =>
            intro i Mw hi hbi hlt hs fw w19 w20 hm
            have hLw := hL.nx fw
            refine r_aload_0 dX6_next_103 ?_
            refine r_getE dX6_next_104 fX6_108 (rfl) (rfl) (w19) (r_aload_0 dX6_next_107 (r_getE dX6_next_108 fX6_64 (rfl) (rfl) (hLw.2.1) ?_))
            refine r_icmp_ge dX6_next_111 (by omega) (by omega) (fun c_111 => ?_) (fun c_111 => ?_)
            · skip
              exact jn_146 i Mw (hs.symm.trans (rnl_no (fun w => by omega))) hi hbi hlt fw w19 w20
            · skip
              have hbi2 := htp i (by omega)
              refine r_aload_0 dX6_next_114 (r_getR dX6_next_115 fX6_22 (rfl) (rfl) (r_aload_0 dX6_next_118 (r_getE dX6_next_119 fX6_108 (rfl) (rfl) (w19) (r_ialX dX6_next_122 (rfl) (hLw.2.2.1 i (by omega)) (by omega) (by omega) (by omega) (r_bipush dX6_next_123 (by decide) (r_bipush dX6_next_125 (by decide) ?_))))))
              refine r_cSI3 dX6_next_127 sX6_75 (m_in (d := 0) (by omega) (by omega) (by omega)) (by decide) (Nat.le_of_ble_eq_true rfl) (fun b_127 M_127 h_127 => ?_)
              obtain ⟨rfl, rfl⟩ := h_127
              first | refine r_ifd_eq dX6_next_130 (fun c_130 => ?_) (fun c_130 => ?_) | refine r_ifb_eq dX6_next_130 (fun c_130 => ?_) (fun c_130 => ?_)
              · skip
                exact jn_146 i Mw (hs.symm.trans (rnl_no (fun w => c_130 (of_decide_eq_true w.2)))) hi hbi hlt fw w19 w20
              · skip
                refine r_aload_0 dX6_next_133 (r_dup_r dX6_next_134 (r_getE dX6_next_135 fX6_108 (rfl) (rfl) (w19) (r_iconst dX6_next_138 (r_iadd dX6_next_139 ?_))))
                refine r_put dX6_next_140 pX6_108 (rfl) (rfl) (by omega) ?_
                refine r_goto dX6_next_143 ?_
                exact ih (i + 1) _ (by omega) (by omega) (fun x h1 h2 => by
                  by_cases e1 : x = i
                  · rw [e1]; omega
                  · exact hlt x h1 (by omega)) (by rw [← rnl_go (by omega) (show isL (tp i) = true from decide_eq_true (by omega))]; exact hs) (fw.up (by omega)) upM_self ((upM_ne (by omega)).trans w20) (by omega)
        exact lp_103 _ b Mb hbn (Nat.le_refl _) (fun x h1 h2 => by omega) rfl fb b19 b20 (Nat.lt_succ_self _)
    · skip
      skip
      refine r_vreturn dX6_next_81 rfl ?_
      have hT : lxT tp tn a = -1 := by unfold lxT; rw [hb, if_pos (by omega)]
      have hN : lxN tp tn a = b := by unfold lxN; rw [hb, if_pos (by omega)]
      exact ⟨rfl, ⟨by rw [hN]; exact b19, by rw [hb]; exact b20, by rw [hT]; exact b21, fun w => by omega, fun w => by omega, fun w => by omega⟩, fb⟩
  have lp_0 : ∀ (NN : Nat) (i : Nat) (Mv : Mem) (hi : i ≤ tn) (hai : a ≤ i) (hs : skp tp tn (tn - i) i = lxP tp tn a) (fv : Fm mN M Mv) (v19 : Mv 0 19 = (i : Int)), tn - i < NN → WP kX6_next GM 1 (pV (fun M2 => NX tp tn a M2 ∧ Fm mN M M2)) z 0 [some (rv 0), none, none] [] Mv := by
    intro NN
    induction NN with
    | zero => intros; omega
    | succ NN ih =>
      intro i Mv hi hai hs fv v19 hm
      have hLv := hL.nx fv
      have hbt := fun (h : i < tn) => htp i h
      refine r_aload_0 dX6_next_0 ?_
      refine r_getE dX6_next_1 fX6_108 (rfl) (rfl) (v19) (r_aload_0 dX6_next_4 (r_getE dX6_next_5 fX6_64 (rfl) (rfl) (hLv.2.1) ?_))
      refine r_icmp_ge dX6_next_8 (by omega) (by omega) (fun c_8 => ?_) (fun c_8 => ?_)
      · skip
        exact jn_52 i Mv (hs.symm.trans (skp_no (by omega))) hi fv v19
      · skip
        have hbt := htp i (by omega)
        refine r_aload_0 dX6_next_11 (r_getR dX6_next_12 fX6_22 (rfl) (rfl) (r_aload_0 dX6_next_15 (r_getE dX6_next_16 fX6_108 (rfl) (rfl) (v19) (r_ialX dX6_next_19 (rfl) (hLv.2.2.1 i (by omega)) (by omega) (by omega) (by omega) (r_bipush dX6_next_20 (by decide) ?_)))))
        refine r_icmp_eq dX6_next_22 (by omega) (by omega) (fun c_22 => ?_) (fun c_22 => ?_)
        · skip
          refine r_aload_0 dX6_next_39 (r_dup_r dX6_next_40 (r_getE dX6_next_41 fX6_108 (rfl) (rfl) (v19) (r_iconst dX6_next_44 (r_iadd dX6_next_45 ?_))))
          refine r_put dX6_next_46 pX6_108 (rfl) (rfl) (by omega) ?_
          refine r_goto dX6_next_49 ?_
          exact ih (i + 1) _ (by omega) (by omega) (by rw [← skp_go (by omega) (by omega)]; exact hs) (fv.up (by omega)) upM_self (by omega)
        · skip
          refine r_aload_0 dX6_next_25 (r_getR dX6_next_26 fX6_22 (rfl) (rfl) (r_aload_0 dX6_next_29 (r_getE dX6_next_30 fX6_108 (rfl) (rfl) (v19) (r_ialX dX6_next_33 (rfl) (hLv.2.2.1 i (by omega)) (by omega) (by omega) (by omega) (r_bipush dX6_next_34 (by decide) ?_)))))
          refine r_icmp_ne dX6_next_36 (by omega) (by omega) (fun c_36 => ?_) (fun c_36 => ?_)
          · skip
            exact jn_52 i Mv (hs.symm.trans (skp_no (by omega))) hi fv v19
          · skip
            refine r_aload_0 dX6_next_39 (r_dup_r dX6_next_40 (r_getE dX6_next_41 fX6_108 (rfl) (rfl) (v19) (r_iconst dX6_next_44 (r_iadd dX6_next_45 ?_))))
            refine r_put dX6_next_46 pX6_108 (rfl) (rfl) (by omega) ?_
            refine r_goto dX6_next_49 ?_
            exact ih (i + 1) _ (by omega) (by omega) (by rw [← skp_go (by omega) (by omega)]; exact hs) (fv.up (by omega)) upM_self (by omega)
  exact lp_0 _ a M han (Nat.le_refl _) rfl Fm.refl ha (Nat.lt_succ_self _)

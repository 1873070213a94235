/-! the law: its start -/
def fl_all : List Cond := flatC (Jvm.Cond.and given_1 narrow_1)
def tmS (i : Nat) : Term := .string "KeysForSecond$Tape" ([50, 56, 58, 60, 62, 64, 66, 68, 70, 72, 74, 76].getD i 0)
theorem f_ex : ∀ i, i < 12 → Cond.exactly (tmS i) "java/lang/String" ∈ fl_all := by decide +kernel
theorem f_co : ∀ i, i < 12 → Cond.eq (.field (tmS i) "java/lang/String" "coder" "B") (.int 0) ∈ fl_all := by decide +kernel
theorem f_ar : ∀ i, i < 12 → Cond.arrayOf (.field (tmS i) "java/lang/String" "value" "[B") .byte ∈ fl_all := by decide +kernel
theorem f_le : ∀ i, i < 12 → Cond.eq (.length (.field (tmS i) "java/lang/String" "value" "[B")) (.int (Int32.ofNat (s_len.getD i 0))) ∈ fl_all := by decide +kernel
theorem f_el : ∀ i, i < 12 → ∀ j, j < s_len.getD i 0 → Cond.eq (.elem (.field (tmS i) "java/lang/String" "value" "[B") (.int (Int32.ofNat j))) (.int ((s_byt.getD i []).getD j 0)) ∈ fl_all := by decide +kernel
theorem f_ne : ∀ i, i < 12 → ∀ j, j < 12 → i ≠ j → Cond.not (Cond.eq (tmS i) (tmS j)) ∈ fl_all ∨ Cond.not (Cond.eq (tmS j) (tmS i)) ∈ fl_all := by decide +kernel
theorem f_cs : Cond.eq (.static "java/lang/String" "COMPACT_STRINGS" "Z") (.int 1) ∈ fl_all := by decide +kernel
theorem f_sf : Cond.isRef (.static "jdk/internal/util/Preconditions" "SIOOBE_FORMATTER" "Ljava/util/function/BiFunction;") ∈ fl_all := by decide +kernel
theorem f_ln : ∀ i, i < 12 → s_len.getD i 0 < 2 ^ 31 := by decide +kernel
theorem s_cls {args : Array Value} {s : State} (hts : ∀ w ∈ q_tbl, w.before args s = true) : ∃ D : va_G, ∀ (c : Nat) (q : vw_C), vwCl[c]? = some q → u_Kn s q.1 q.2.1 q.2.2 (D.1 c) (D.2 c) := by
  have h : ∀ c : Nat, ∃ g : ClassId × (Nat → Nat), ∀ q : vw_C, vwCl[c]? = some q → u_Kn s q.1 q.2.1 q.2.2 g.1 g.2 := by
    intro c
    rcases c with _ | _ | _ | _ | _ | _ | _ | c
    · obtain ⟨cC, iS, h⟩ := u_known (C := RX0) (T := TX0) (N := 2) (n := 2) hts uX0 (hts _ (q_t1 59 rfl rfl))
      exact ⟨(cC, iS), fun q hq => by cases hq; exact h⟩
    · obtain ⟨cC, iS, h⟩ := u_known (C := RX1) (T := TX1) (N := 3) (n := 3) hts uX1 (hts _ (q_t1 150 rfl rfl))
      exact ⟨(cC, iS), fun q hq => by cases hq; exact h⟩
    · obtain ⟨cC, iS, h⟩ := u_known (C := RX2) (T := TX2) (N := 6) (n := 6) hts uX2 (hts _ (q_t1 29 rfl rfl))
      exact ⟨(cC, iS), fun q hq => by cases hq; exact h⟩
    · obtain ⟨cC, iS, h⟩ := u_known (C := RX3) (T := TX3) (N := 4) (n := 4) hts uX3 (hts _ (q_t1 131 rfl rfl))
      exact ⟨(cC, iS), fun q hq => by cases hq; exact h⟩
    · obtain ⟨cC, iS, h⟩ := u_known (C := RX4) (T := TX4) (N := 13) (n := 13) hts uX4 (hts _ (q_t1 72 rfl rfl))
      exact ⟨(cC, iS), fun q hq => by cases hq; exact h⟩
    · obtain ⟨cC, iS, h⟩ := u_known (C := RX5) (T := TX5) (N := 9) (n := 9) hts uX5 (hts _ (q_t1 17 rfl rfl))
      exact ⟨(cC, iS), fun q hq => by cases hq; exact h⟩
    · obtain ⟨cC, iS, h⟩ := u_known (C := RX6) (T := TX6) (N := 32) (n := 32) hts uX6 (hts _ (q_t3 192 rfl rfl))
      exact ⟨(cC, iS), fun q hq => by cases hq; exact h⟩
    · exact ⟨(0, fun _ => 0), fun q hq => by cases hq⟩
  obtain ⟨f, hf⟩ := Classical.axiomOfChoice h
  exact ⟨(fun c => (f c).1, fun c => (f c).2), fun c q hq => hf c q hq⟩
theorem s_arr {args : Array Value} {s : State} (hts : ∀ w ∈ q_tbl, w.before args s = true) (htl : ∀ w ∈ lw_tbl, w.before args s = true) : ∃ dA : Nat → ClassId, ∀ (k : Nat) (q : ClassId × FieldType), (ty_of dA)[k]? = some q → ArrOfT s q.1 q.2 ∧ va_RA s q.1 q.2 := by
  obtain ⟨c0, k0, m0, a1, a2, a3⟩ := Cond.arrayClass_spec (hts _ q_arr)
  obtain ⟨m1, c1, k1, b1, -, b3, b4, b5⟩ := Cond.arrayOver_spec (htl _ (q_t1_in 25 rfl : Cond.arrayOver (.object "KeysForSecond$Text") ∈ lw_tbl))
  obtain ⟨m2, c2, k2, e1, -, e3, e4, e5⟩ := Cond.arrayOver_spec (htl _ (q_t1_in 27 rfl : Cond.arrayOver (.object "KeysForSecond$Sheet") ∈ lw_tbl))
  refine ⟨fun k => if k = 0 then c0 else if k = 1 then c1 else c2, fun k q hq => ?_⟩
  rcases k with _ | _ | _ | k
  · cases hq
    exact ⟨fun n z => ⟨fun k h => (by cases h), k0, a2, m0, a3⟩, a1⟩
  · cases hq
    exact ⟨fun n z => ⟨fun k h => (by cases h), k1, b3, m1, b4⟩, k1, m1, b3, b4, b1, b5⟩
  · cases hq
    exact ⟨fun n z => ⟨fun k h => (by cases h), k2, e3, m2, e4⟩, k2, m2, e3, e4, e1, e5⟩
  · cases hq
theorem s_str {args : Array Value} {s : State} (hts : ∀ w ∈ q_tbl, w.before args s = true) (htl : ∀ w ∈ lw_tbl, w.before args s = true) (hgv : (Jvm.Cond.and given_1 narrow_1).before args s = true) : ∃ adK adV : Nat → Nat, st_ok adK adV (AL s) s := by
  have hs : ∀ c ∈ fl_all, c.before args s = true := flat_of_before _ hgv
  have hA : ∀ a : Nat, a < s.heap.size → ¬ AL s a := fun a ha h => absurd ha (Nat.not_lt.mpr h)
  obtain ⟨adK, adV, h1, h2⟩ := vk_Sof (N := 12) (tm := tmS) (len := s_len) (byt := s_byt) (A := AL s) f_ln (fun i hi => hs _ (f_ex i hi)) (fun i hi => hs _ (f_co i hi)) (fun i hi => hs _ (f_ar i hi)) (fun i hi => hs _ (f_le i hi)) (fun i hi j hj => hs _ (f_el i hi j hj)) (fun i j hi hj hij => (f_ne i hi j hj hij).imp (hs _) (hs _)) hA
  refine ⟨adK, adV, h1, fun i q hi => ?_, fun q hq => va_Nw.of rfl (htl _ (q_nst_in q hq)), va_Zof (htl _ (q_t2_in 62 rfl)) (hts _ (q_t1 10 rfl rfl)) (va_eqi (hs _ f_cs)) hA, va_Zqof (htl _ (q_t2_in 78 rfl)) (hts _ (q_t1 12 rfl rfl)) (hs _ f_sf) hA⟩
  rcases i with _ | _ | _ | _ | _ | _ | _ | _ | _ | _ | _ | _ | i
  · cases hi
    exact vk_R.of (htl _ (q_t2_in 48 rfl)) (h2 0 (by decide))
  · cases hi
    exact vk_R.of (htl _ (q_t2_in 101 rfl)) (h2 1 (by decide))
  · cases hi
    exact vk_R.of (htl _ (q_t2_in 102 rfl)) (h2 2 (by decide))
  · cases hi
    exact vk_R.of (htl _ (q_t2_in 103 rfl)) (h2 3 (by decide))
  · cases hi
    exact vk_R.of (htl _ (q_t2_in 104 rfl)) (h2 4 (by decide))
  · cases hi
    exact vk_R.of (htl _ (q_t2_in 105 rfl)) (h2 5 (by decide))
  · cases hi
    exact vk_R.of (htl _ (q_t2_in 106 rfl)) (h2 6 (by decide))
  · cases hi
    exact vk_R.of (htl _ (q_t2_in 107 rfl)) (h2 7 (by decide))
  · cases hi
    exact vk_R.of (htl _ (q_t2_in 108 rfl)) (h2 8 (by decide))
  · cases hi
    exact vk_R.of (htl _ (q_t2_in 109 rfl)) (h2 9 (by decide))
  · cases hi
    exact vk_R.of (htl _ (q_t2_in 110 rfl)) (h2 10 (by decide))
  · cases hi
    exact vk_R.of (htl _ (q_t2_in 111 rfl)) (h2 11 (by decide))
  · cases hi
theorem s_nest {args : Array Value} {s : State} (htl : ∀ w ∈ lw_tbl, w.before args s = true) : NS s := by
  refine ⟨fun q hq => ?_, va_AO.of (htl _ (q_t1_in 25 rfl)), va_AO.of (htl _ (q_t1_in 27 rfl))⟩
  simp only [q_nct, List.mem_cons, List.not_mem_nil, or_false] at hq
  rcases hq with rfl | rfl | rfl
  · exact va_Nw.of rfl (htl _ (q_t1_in 30 rfl))
  · exact va_Nw.of rfl (htl _ (q_t1_in 132 rfl))
  · exact va_Nw.of rfl (htl _ (q_t1_in 151 rfl))

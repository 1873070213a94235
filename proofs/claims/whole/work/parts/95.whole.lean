/-! the law: from its entry to its end -/
theorem PW_lo {z : ZL} {M : Mem} {H : Heap} (h : PW z GX 0 M H) : szz z + 68 ≤ H.size := by
  obtain ⟨p, l, e, s, m, below, meth, c, D, dA, adK, adV, b, n, xs⟩ := z
  have hl : adB (s.heap.size + 0) adK adV 67 < H.size := (h.1 67 _ (wld_get (d := .inr (.inl 40)) rfl)).lt
  rw [adB_in (by decide)] at hl
  show s.heap.size + 68 ≤ H.size
  omega
theorem PW_kept {z : ZL} {M : Mem} {H H1 : Heap} (h : PW z GX 0 M H) (hk : ∀ a : Nat, a < szz z + 68 → H1[a]? = H[a]?) : PW z GX 0 M H1 := by
  obtain ⟨p, l, e, s, m, below, meth, c, D, dA, adK, adV, b, n, xs⟩ := z
  refine ⟨h.1.kept (fun i x hx => hk x.1 ?_), h.2⟩
  have hi : i < GX.length := by
    have := (List.getElem?_eq_some_iff.mp hx).1
    rwa [wld_len] at this
  have hi : i < 68 := hi
  have hx1 : x.1 = adB (s.heap.size + 0) adK adV i := by
    simp only [wld, List.getElem?_mapIdx] at hx
    cases hgi : GX[i]? with
    | none => rw [hgi] at hx; cases hx
    | some dd => rw [hgi] at hx; cases hx; rfl
  rw [hx1, adB_in (by omega)]
  show _ < s.heap.size + 68
  omega
theorem l_start {z : ZL} (hn : nz z ≤ 3584) : WL z 0 [some (rv 2), none, none, none] [] (fun _ => True) 0 0 := by
  refine l_make (q := 0) (o := 0) (d2 := 3) (mc2 := 67) (ms2 := 1757) (y := kX5_init) (G := GX) (P2 := fun M => M = mX5_18) dL_law_0 dL_law_3 dL_law_4 nwL_7 bX5_init ⟨rfl, rfl⟩ ⟨q_t1 18 rfl rfl, q_t1 19 rfl rfl⟩ (by rw [← g50]; exact ct_X5) (by decide) (by decide) (fun _ _ => rfl) rfl (fun _ _ => Or.inr rfl) (fun _ _ _ _ _ => trivial) (by decide) (fun M2 e => ?_)
  obtain rfl : M2 = mX5_18 := e
  refine l_astore_1 dL_law_7 rfl ?_
  refine l_make (q := 1) (o := 68) (d2 := 10) (mc2 := 18) (ms2 := 2223) (y := kX6_init) (G := GM) (P2 := fun M => RM M S0) dL_law_8 dL_law_11 dL_law_12 nwL_10 bX6_init ⟨rfl, rfl⟩ ⟨q_t3 193 rfl rfl, q_t3 194 rfl rfl⟩ (by rw [← g60]; exact ct_X6) (by decide) (by decide) (fun _ _ => rfl) rfl (fun H h => Or.inl (PW_lo h.2)) (fun H H1 h _ hk => ⟨trivial, PW_kept h.2 hk⟩) (by decide) (fun M2 e => ?_)
  refine l_astore_2 dL_law_15 rfl (l_iconst dL_law_16 (l_istore_3 dL_law_17 rfl ?_))
  refine WL.mono (I2 := IW z mX5_18 M2) (fun H h => ⟨h.1.2, h.2⟩) ?_
  exact l_loop hn (by decide) (nz z + 7) 0 S0 mX5_18 M2 (by omega) r50 e j00
-- ===== YOUR PART BEGINS =====
/-- YOUR PART: from the entry, for every script of at most 3584 ints, the law comes to its end with true ('hflags': the launch's flags, for a law that throws: no stack traces) -/
theorem whole_start {p : Program} {e : Env} {s : State} {m : MethodId} {below : List Frame} {meth : Method} {c : Code} (l : Launch) (hflags : l.flags = flags0) {b L : Nat} {xs : Nat → Int32} (hL : L ≤ 3584) (C0 : lw_At p s m meth c b L xs) : W p l e room_1 s m #[Value.ref b] below meth c s.heap [] 0 0 (lw_Z below #[Value.ref b] s) (entryFrame m ([Value.ref b] : List Value).toArray 4) := by
  have htl : ∀ w ∈ lw_tbl, w.before #[Value.ref b] s = true := C0.2.2.2.2.2.1
  have hts : ∀ w ∈ q_tbl, w.before #[Value.ref b] s = true := fun w hw => htl w (List.mem_filter.mp hw).1
  obtain ⟨D, hD⟩ := s_cls hts
  obtain ⟨dA, hdA⟩ := s_arr hts htl
  obtain ⟨adK, adV, hst⟩ := s_str hts htl C0.2.2.2.2.2.2.2.2.2
  have C : CL (p, l, e, s, m, below, meth, c, D, dA, adK, adV, b, L, xs) := ⟨C0, hL, ⟨hD, hdA⟩, hst, s_nest htl⟩
  have hl := lv_entry [Value.ref b] (n := 4) (Nat.le_of_ble_eq_true rfl)
  rw [lg_entry_eq]
  refine l_start (z := (p, l, e, s, m, below, meth, c, D, dA, adK, adV, b, L, xs)) hL C s.heap [] _ ⟨trivial, va_S.rf, hl.1, rfl, hl.2.1, fun i v hi => ?_⟩
  rcases i with _ | _ | _ | _ | i
  · cases hi
    exact hl.2.2 (0, .ref b) List.mem_cons_self
  · cases hi
  · cases hi
  · cases hi
  · cases hi
-- ===== YOUR PART ENDS =====

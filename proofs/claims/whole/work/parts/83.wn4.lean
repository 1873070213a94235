/-! constructors: calls of methods that make no cell, of constructors -/
theorem adS_ok {adK adV ad : Nat → Nat} {Gd : List GD} (h : adS ad) (hT : adT adK adV ad) (hG : Gd.length < 900) : ad_ok Gd adK adV ad := ⟨fun i j hi hj e => h.inj (by omega) (by omega) e, hT.1, hT.2⟩
theorem adS_AA {ad : Nat → Nat} {Gd : List GD} (h : adS ad) (hG : Gd.length < 900) : ∀ q, AA Gd ad q → AN ad q := fun q hq => by
  obtain ⟨j, hj, rfl⟩ := hq
  exact h.an (by omega)
theorem n_fit {d2 d ml mc ms : Nat} (h : d2 < d) (hm : ml ≤ 20) : (rmd d2).frames + 1 ≤ (rmC d mc ms).frames ∧ 8 + (ml + 11) + (rmd d2).locals ≤ (rmC d mc ms).locals := by
  simp only [rmd, rmC]
  omega
theorem n_fitC {d2 d ml mc ms mc2 ms2 : Nat} (h : d2 < d) (hm : ml ≤ 20) : (rmC d2 mc2 ms2).frames + 1 ≤ (rmC d mc ms).frames ∧ 8 + (ml + 11) + (rmC d2 mc2 ms2).locals ≤ (rmC d mc ms).locals := by
  simp only [rmC]
  omega
section
variable {k : MD} {d mc ms : Nat} {G1 : List GE} {M1 : Mem → Prop} {pc pc2 : Nat} {L : List (Option PV)} {S : List PV} {G : List GE} {M : Mem} {cells slots : Nat}
theorem n_back {Gd : List GD} {post2 : Option PV → Mem → Prop} {p : Program} {l : Launch} {e : Env} {s : State} {m : MethodId} {args a2 : Array Value} {below : List Frame} {meth : Method} {c : Code} {D : va_G} {dA : Nat → ClassId} {adK adV ad : Nat → Nat} {H : Heap} {locs : List Loc} {ls : Array Slot} {st0 : List Value} (hA : adS ad) (hG : Gd.map em = G) (hGl : Gd.length < 900)
    (C : CN k (p, l, e, s, m, args, below, meth, c, D, dA, adK, adV, ad)) (B : va_P D vwCl (wln ad dA G M) H ∧ (∀ c i, ib (M c i)) ∧ va_S (AN ad) s.heap H locs ∧ lh ad k ls L)
    (hr : va_Run p l e (rmC d mc ms) s m args below meth c H locs cells slots 0 0 (F0 m pc ls st0) (S.map (tv ad)) (qq Gd D dA adK adV ad post2 a2) (AA Gd ad))
    (kk : ∀ r M2, post2 r M2 → WN k d mc ms G1 M1 (p, l, e, s, m, args, below, meth, c, D, dA, adK, adV, ad) (pc + 3) L (r.toList ++ S) G M2 cells slots) :
    W p l e (rmC d mc ms) s m args below meth c H locs cells slots (MQ below (qn G1 M1 D dA ad) args s mc ms (AN ad)) (F0 m pc ls st0) := by
  intro T hT X
  obtain ⟨v, st₀, t, T', L1, h0, X', hL, e1, e2, ⟨⟨r, M2, hv, hp, hw⟩, hz, hk⟩, st⟩ := hr T hT X
  have hv : v = r.map (tv ad) := by injection hv
  subst hv
  rw [h0] at hz hk
  have hAA := adS_AA (Gd := Gd) hA hGl
  have hS : va_S (AN ad) s.heap T'.heap (locs ++ L1) := by
    obtain ⟨g1, g2, g3⟩ := B.2.2.1
    refine ⟨Nat.le_trans g1 (by rw [e1]; exact hz), fun q h1 h2 => by rw [e1, hk q (Nat.lt_of_lt_of_le h1 g1) (fun w => h2 (hAA q w))]; exact g2 q h1 h2, fun q hq => ?_⟩
    rcases List.mem_append.mp hq with h | h
    · exact g3 q h
    · exact hAA _ (hL q h)
  obtain ⟨t2, a1, b1⟩ := kk r M2 hp C T'.heap (locs ++ L1) ls ⟨by rw [e1, ← hG, wln_em]; exact hw.1, hw.2.1, hS, B.2.2.2⟩ T' rfl X'
  refine ⟨t2, st t2 ?_, b1⟩
  have e3 : (r.map (tv ad)).toList ++ S.map (tv ad) = (r.toList ++ S).map (tv ad) := by cases r <;> simp
  rw [e3]
  exact a1
theorem n_wo {Gd : List GD} {D : va_G} {dA : Nat → ClassId} {adK adV ad : Nat → Nat} {M : Mem} {s U : State} {H : Heap} {locs : List Loc} (hA : adS ad) (hT : adT adK adV ad) (hG : Gd.map em = G) (hGl : Gd.length < 900) (hP : va_P D vwCl (wln ad dA G M) H) (hM : ∀ c i, ib (M c i)) (hS : va_S (AN ad) s.heap H locs) (hK : va_K D vwCl (ty_of dA) s) (hE : st_ok adK adV (AN ad) s) (hU : U.heap = H) (hW : s.WarmedH U.vm) : wo Gd D dA adK adV ad M U := by
  refine ⟨?_, hM, va_K.moved hW.alike hK, adS_ok hA hT hGl, (hE.go hW (fun a h1 h2 => by rw [hU]; exact hS.2.1 a h1 h2)).narrow (adS_AA hA hGl)⟩
  rw [hU, ← wln_em, hG]
  exact hP
theorem n_conS {z : ZZ} {idx np d2 : Nat} {y : MD} {As : List PV} {Gd : List GD} {post2 : Option PV → Mem → Prop} (hd : Dk k pc (.invokestatic idx) 3 pc2) (hs : Cs k.1.cls idx y np) (hG : Gd.map em = G) (hGl : Gd.length < 900) (hC : Con Gd d2 y As M post2) (hnp : As.length = np) (hdn : d2 < d) (hW : (S.map cat).sum ≤ 8) (hc : cells ≤ mc ∧ slots ≤ ms) (kk : ∀ r M2, post2 r M2 → WN k d mc ms G1 M1 z pc2 L (r.toList ++ S) G M2 cells slots) : WN k d mc ms G1 M1 z pc L (As.reverse ++ S) G M cells slots := by
  obtain ⟨p, l, e, s, m, args, below, meth, c, D, dA, adK, adV, ad⟩ := z
  obtain ⟨hd, rfl⟩ := hd
  intro C H locs ls B
  have hts := C.1.2.2.2.2
  refine n_back C.2.2.2.1.1 hG hGl C B (va_runS (As := As.map (tv ad)) (n := np) ⟨C.1.1, C.1.2.1, C.1.2.2.1, C.1.2.2.2.1, hts⟩ (hC l D dA adK adV ad) ⟨callB_of np hts (q_gin y hs.1.2.1) rfl rfl rfl (hts _ hs.1.1) (hts _ hs.2.1) hs.1.2.2.1 (n_fit hdn hs.1.2.2.2), hts _ hs.2.2⟩ ⟨blind_wo, fun U hU hW2 => ⟨rfl, n_wo C.2.2.2.1.1 C.2.2.2.2.1 hG hGl B.1 B.2.1 B.2.2.1 C.2.2.1 C.2.2.2.2.2.1 hU hW2⟩⟩ rfl (by rw [List.length_map]; exact hnp) B.2.2.2.1 (by simp [List.map_append, List.map_reverse]) (lv_room (by rw [cat_tv]; exact hW)) hd hc) kk
theorem n_conV {z : ZZ} {idx np d2 ci q : Nat} {fs : List (Option Nat)} {y : MD} {As : List PV} {Gd : List GD} {post2 : Option PV → Mem → Prop} (hd : Dk k pc (.invokevirtual idx) 3 pc2) (hs : Cv k.1.cls idx y np ci) (hG : Gd.map em = G) (hGl : Gd.length < 900) (hg : Gd[q]? = some (.inl (ci, fs))) (hC : Con Gd d2 y (rv q :: As) M post2) (hnp : As.length = np) (hdn : d2 < d) (hW : (S.map cat).sum ≤ 8) (hc : cells ≤ mc ∧ slots ≤ ms) (kk : ∀ r M2, post2 r M2 → WN k d mc ms G1 M1 z pc2 L (r.toList ++ S) G M2 cells slots) : WN k d mc ms G1 M1 z pc L (As.reverse ++ rv q :: S) G M cells slots := by
  obtain ⟨p, l, e, s, m, args, below, meth, c, D, dA, adK, adV, ad⟩ := z
  obtain ⟨hd, rfl⟩ := hd
  intro C H locs ls B
  obtain ⟨h1, h2, h3, h4, T, N, h5⟩ := hs
  have hts := C.1.2.2.2.2
  have hP0 : va_P D vwCl (wld ad dA Gd M) H := by rw [← wln_em, hG]; exact B.1
  refine n_back C.2.2.2.1.1 hG hGl C B (va_runV (As := As.map (tv ad)) (b := ad q) (n := np) ⟨C.1.1, C.1.2.1, C.1.2.2.1, C.1.2.2.2.1, hts⟩ (hC l D dA adK adV ad) ⟨callB_of np hts (q_gin y h1.2.1) rfl rfl rfl (hts _ h1.1) (hts _ h2) h1.2.2.1 (n_fit hdn h1.2.2.2), hts _ h3, hts _ h4⟩ ⟨blind_wo, va_recv C.2.2.1 hP0 h5 (wld_get hg), fun U hU hW2 => ⟨rfl, n_wo C.2.2.2.1.1 C.2.2.2.2.1 hG hGl B.1 B.2.1 B.2.2.1 C.2.2.1 C.2.2.2.2.2.1 hU hW2⟩⟩ rfl (by rw [List.length_map]; exact hnp) B.2.2.2.1 (by simp [List.map_append, List.map_reverse, tv]) (lv_room (by rw [cat_tv]; exact hW)) hd hc) kk
theorem adc_S {ad : Nat → Nat} {n q a : Nat} (hA : adS ad) (hn : 1 ≤ n ∧ n < 900) (hq : q < n) : adS (adc ad n q a) := by
  have hqn : ad q < ad n := by
    rcases Nat.eq_zero_or_pos q with rfl | h
    · have := hA.1; rw [hA.2 n hn.1 hn.2]; omega
    · rw [hA.2 n hn.1 hn.2, hA.2 q h (by omega)]; omega
  have e1 : adc ad n q a 1 = ad n := by
    show (if (1 : Nat) = 0 then ad q else if 1 < 900 then ad n + (1 - 1) else _) = _
    rw [if_neg (by decide), if_pos (by decide)]
    omega
  refine ⟨by rw [e1]; exact hqn, fun j h1 h2 => ?_⟩
  rw [e1]
  show (if j = 0 then ad q else if j < 900 then ad n + (j - 1) else _) = _
  rw [if_neg (by omega), if_pos h2]
theorem adc_AN {ad : Nat → Nat} {n q a : Nat} (hA : adS ad) (hn : 1 ≤ n ∧ n < 900) (hq : q < n) : ∀ x, AN (adc ad n q a) x → AN ad x := by
  have e1 : adc ad n q a 1 = ad n := by
    show (if (1 : Nat) = 0 then ad q else if 1 < 900 then ad n + (1 - 1) else _) = _
    rw [if_neg (by decide), if_pos (by decide)]
    omega
  intro x hx
  rcases hx with h | h
  · rw [show adc ad n q a 0 = ad q from rfl] at h
    rw [h]
    exact hA.an (by omega)
  · rw [e1] at h
    refine Or.inr (Nat.le_trans ?_ h)
    rw [hA.2 n hn.1 hn.2]
    omega
theorem adc_T {adK adV ad : Nat → Nat} {n q a : Nat} (h : adT adK adV ad) : adT adK adV (adc ad n q a) := by
  have e : ∀ j, 1000 ≤ j → adc ad n q a j = ad j := fun j hj => by
    unfold adc
    rw [if_neg (by omega), if_neg (by omega), if_neg (by omega)]
  exact ⟨fun j hj => (e _ (by omega)).trans (h.1 j hj), fun j hj => (e _ (by omega)).trans (h.2 j hj)⟩
/-- the graph behind a constructor's call -/
def gjn (G G2 : List GE) (n q a : Nat) : List GE := (match G2 with
  | [] => G
  | x :: _ => G.set q (rnG (rnf n q a) x)) ++ (G2.drop 1).map (rnG (rnf n q a))
theorem gjn_at {G G2 : List GE} {n q a j : Nat} {x : GE} (hn : G.length = n) (hq : q < n) (h2 : 1 ≤ G2.length) (h : (gjn G G2 n q a)[j]? = some x) : (j = q ∧ ∃ y, G2[0]? = some y ∧ x = rnG (rnf n q a) y) ∨ (j < n ∧ j ≠ q ∧ G[j]? = some x) ∨ (n ≤ j ∧ ∃ y, G2[j - n + 1]? = some y ∧ x = rnG (rnf n q a) y) := by
  cases G2 with
  | nil => simp at h2
  | cons y0 R =>
    have h : ((G.set q (rnG (rnf n q a) y0)) ++ R.map (rnG (rnf n q a)))[j]? = some x := h
    by_cases hj : j < n
    · rw [List.getElem?_append_left (by rw [List.length_set]; omega)] at h
      by_cases e : j = q
      · subst e
        rw [List.getElem?_set_self (by omega)] at h
        exact Or.inl ⟨rfl, y0, rfl, (Option.some.inj h).symm⟩
      · rw [List.getElem?_set_ne (Ne.symm e)] at h
        exact Or.inr (Or.inl ⟨hj, e, h⟩)
    · rw [List.getElem?_append_right (by rw [List.length_set]; omega), List.length_set, hn, List.getElem?_map] at h
      refine Or.inr (Or.inr ⟨by omega, ?_⟩)
      rw [List.getElem?_cons_succ]
      cases hg : R[j - n]? with
      | none => rw [hg] at h; cases h
      | some y => rw [hg] at h; exact ⟨y, rfl, (Option.some.inj h).symm⟩
theorem n_backC {G2 : List GE} {P2 : Mem → Prop} {q a mc2 ms2 : Nat} {p : Program} {l : Launch} {e : Env} {s : State} {m : MethodId} {args a2 : Array Value} {below : List Frame} {meth : Method} {c : Code} {D : va_G} {dA : Nat → ClassId} {adK adV ad : Nat → Nat} {H : Heap} {locs : List Loc} {ls : Array Slot} {st0 : List Value} (hcl : cells + 1 = G.length) (hq : q < G.length) (h2 : 1 ≤ G2.length) (hlen : G.length + G2.length ≤ 900) (hok : G2.all (okR G2.length) = true)
    (C : CN k (p, l, e, s, m, args, below, meth, c, D, dA, adK, adV, ad)) (B : va_P D vwCl (wln ad dA G M) H ∧ (∀ c i, ib (M c i)) ∧ va_S (AN ad) s.heap H locs ∧ lh ad k ls L) (hsz : H.size = ad G.length)
    (hr : va_Run p l e (rmC d mc ms) s m args below meth c H locs cells slots mc2 ms2 (F0 m pc ls st0) (S.map (tv ad)) (qn G2 P2 D dA (adc ad G.length q a) a2) (AN (adc ad G.length q a)))
    (kk : ∀ M2, P2 M2 → WN k d mc ms G1 M1 (p, l, e, s, m, args, below, meth, c, D, dA, adK, adV, ad) (pc + 3) L S (gjn G G2 G.length q a) (mrg M M2 G.length q) (cells + mc2) (slots + ms2)) :
    W p l e (rmC d mc ms) s m args below meth c H locs cells slots (MQ below (qn G1 M1 D dA ad) args s mc ms (AN ad)) (F0 m pc ls st0) := by
  intro T hT X
  obtain ⟨v, st₀, t, T', L1, h0, X', hL, e1, e2, ⟨⟨hv, M2, ⟨hpm, hM2⟩, hp⟩, hz, hk⟩, st⟩ := hr T hT X
  have hv : v = none := by injection hv
  subst hv
  rw [h0] at hz hk
  have hA := C.2.2.2.1.1
  have hn : 1 ≤ G.length ∧ G.length < 900 := by omega
  have hAN := adc_AN (a := a) hA hn hq
  have hS : va_S (AN ad) s.heap T'.heap (locs ++ L1) := by
    obtain ⟨g1, g2, g3⟩ := B.2.2.1
    refine ⟨Nat.le_trans g1 (by rw [e1]; exact hz), fun x h1 h2 => by rw [e1, hk x (Nat.lt_of_lt_of_le h1 g1) (fun w => h2 (hAN x w))]; exact g2 x h1 h2, fun x hx => ?_⟩
    rcases List.mem_append.mp hx with h | h
    · exact g3 x h
    · exact hAN _ (hL x h)
  have hf : ∀ r, r < G2.length ∨ r = 900 → ad (rnf G.length q a r) = adc ad G.length q a r := fun r hr2 => by
    unfold rnf adc
    by_cases r0 : r = 0
    · rw [if_pos r0, if_pos r0]
    · rw [if_neg r0, if_neg r0]
      rcases hr2 with hr2 | hr2
      · rw [if_pos (by omega), if_pos (by omega), hA.2 (G.length + (r - 1)) (by omega) (by omega), hA.2 G.length hn.1 hn.2]
        omega
      · rw [if_neg (by omega), if_pos hr2, if_neg (by omega), if_pos hr2]
  have hadj : ∀ j, G.length ≤ j → j - G.length + 1 < G2.length → adc ad G.length q a (j - G.length + 1) = ad j := fun j h1 h3 => by
    unfold adc
    rw [if_neg (by omega), if_pos (by omega), hA.2 j (by omega) (by omega), hA.2 G.length hn.1 hn.2]
    omega
  have hP' : va_P D vwCl (wln ad dA (gjn G G2 G.length q a) (mrg M M2 G.length q)) T'.heap := by
    intro j x hx
    obtain ⟨dd, hg, rfl⟩ := wln_inv hx
    rcases gjn_at rfl hq h2 hg with ⟨rfl, y, hy, rfl⟩ | ⟨h3, h4, h5⟩ | ⟨h3, y, hy, rfl⟩
    · have hh := hp 0 _ (wln_get hy)
      rw [← e1] at hh
      rw [cn_rn (List.all_eq_true.mp hok _ (List.mem_of_getElem? hy)) hf (M := mrg M M2 G.length j) (M2 := M2) (j := j) (j2 := 0) (fun i => if_pos rfl)]
      exact hh
    · rw [cn_congr (M := M) (fun i => by unfold mrg; rw [if_neg h4, if_neg (by omega)])]
      refine (B.1 j _ (wln_get h5)).kept ?_
      rw [e1]
      have hl : ad j < H.size := (B.1 j _ (wln_get h5)).lt
      refine hk _ hl (fun w => ?_)
      rcases w with w | w
      · exact h4 (hA.inj (by omega) (by omega) w)
      · have e3 : adc ad G.length q a 1 = ad G.length := by
          show (if (1 : Nat) = 0 then ad q else if 1 < 900 then ad G.length + (1 - 1) else _) = _
          rw [if_neg (by decide), if_pos (by decide)]
          omega
        rw [e3, ← hsz] at w
        exact absurd hl (Nat.not_lt.mpr w)
    · have hyl := (List.getElem?_eq_some_iff.mp hy).1
      have hh := hp _ _ (wln_get hy)
      rw [← e1, hadj j h3 hyl] at hh
      rw [cn_rn (List.all_eq_true.mp hok _ (List.mem_of_getElem? hy)) hf (M := mrg M M2 G.length q) (M2 := M2) (j := j) (j2 := j - G.length + 1) (fun i => by unfold mrg; rw [if_neg (by omega), if_pos h3])]
      exact hh
  obtain ⟨t2, a1, b1⟩ := kk M2 hpm C T'.heap (locs ++ L1) ls ⟨hP', mrg_ib B.2.1 hM2, hS, B.2.2.2⟩ T' rfl X'
  exact ⟨t2, st t2 a1, b1⟩
theorem blind_ct {av : List Value} {D : va_G} {dA : Nat → ClassId} {adK adV ad : Nat → Nat} {fs0 : GE} : FrameBlind (va_Pc av (fun U => (adS ad ∧ U.heap.size = ad 1) ∧ va_P D vwCl (wln ad dA [fs0] (fun _ _ => 0)) U.heap ∧ va_K D vwCl (ty_of dA) U ∧ adT adK adV ad ∧ st_ok adK adV (AN ad) U ∧ NS U)) := by
  intro a U g mk h
  obtain ⟨h1, h2, h3, h4, h5, h6, h7⟩ := h
  exact ⟨h1, h2, h3, va_K.moved (u := U) (U := U.calling g mk a) (Vm.Alike.refl U.vm) h4, h5, h6.same rfl rfl, ⟨fun q hq => va_Nw.same rfl rfl (h7.1 q hq), h7.2.1.moved (Vm.Alike.refl U.vm), h7.2.2.moved (Vm.Alike.refl U.vm)⟩⟩
theorem ct_pre {D : va_G} {dA : Nat → ClassId} {adK adV ad : Nat → Nat} {q a : Nat} {ci : Nat} {fs : List (Option (Option Nat))} {p : Program} {l : Launch} {e : Env} {s : State} {m : MethodId} {args : Array Value} {below : List Frame} {meth : Method} {c : Code} {H : Heap} {locs : List Loc} {ls : Array Slot} (C : CN k (p, l, e, s, m, args, below, meth, c, D, dA, adK, adV, ad)) (B : va_P D vwCl (wln ad dA G M) H ∧ (∀ c i, ib (M c i)) ∧ va_S (AN ad) s.heap H locs ∧ lh ad k ls L) (hsz : H.size = ad G.length) (hn : 1 ≤ G.length ∧ G.length < 900) (hg : G[q]? = some (.inl (ci, fs))) (hnr : fs.all (fun f => match f with | some (some _) => false | _ => true) = true) (hz : ∀ i, M q i = 0) (U : State) (hU : U.heap = H) (hW : s.WarmedH U.vm) : (adS (adc ad G.length q a) ∧ U.heap.size = adc ad G.length q a 1) ∧ va_P D vwCl (wln (adc ad G.length q a) dA [.inl (ci, fs)] (fun _ _ => 0)) U.heap ∧ va_K D vwCl (ty_of dA) U ∧ adT adK adV (adc ad G.length q a) ∧ st_ok adK adV (AN (adc ad G.length q a)) U ∧ NS U := by
  have hA := C.2.2.2.1.1
  have hq := (List.getElem?_eq_some_iff.mp hg).1
  have e1 : adc ad G.length q a 1 = ad G.length := by
    show (if (1 : Nat) = 0 then ad q else if 1 < 900 then ad G.length + (1 - 1) else _) = _
    rw [if_neg (by decide), if_pos (by decide)]
    omega
  refine ⟨⟨adc_S hA hn hq, by rw [hU, e1]; exact hsz⟩, fun j x hx => ?_, va_K.moved hW.alike C.2.2.1, adc_T C.2.2.2.2.1, (C.2.2.2.2.2.1.go hW (fun x h1 h2 => by rw [hU]; exact B.2.2.1.2.1 x h1 h2)).narrow (adc_AN hA hn hq), C.2.2.2.2.2.2.moved hW⟩
  obtain ⟨dd, h1, rfl⟩ := wln_inv hx
  have hj : j < 1 := (List.getElem?_eq_some_iff.mp h1).1
  obtain rfl : j = 0 := by omega
  cases h1
  have hh := B.1 q _ (wln_get hg)
  rw [← hU] at hh
  have e2 : cn (adc ad G.length q a) dA (fun _ _ => 0) 0 (.inl (ci, fs)) = cn ad dA M q (.inl (ci, fs)) := by
    simp only [cn]
    congr 2
    apply List.ext_getElem?
    intro i
    simp only [List.getElem?_mapIdx]
    cases hi : fs[i]? with
    | none => rfl
    | some f =>
      rcases f with _ | _ | r
      · simp only [Option.map_some, cn_f]; rw [hz]
      · rfl
      · have := List.all_eq_true.mp hnr _ (List.mem_of_getElem? hi)
        cases this
  rw [e2]
  exact hh
theorem adc_args {ad : Nat → Nat} {n q a : Nat} {xs : List Nat} (hx : ∀ x ∈ xs, x = 900) : (rv 0 :: xs.map rv).map (tv (adc ad n q a)) = .ref (ad q) :: (xs.map (fun _ => rv a)).map (tv ad) := by
  rw [List.map_cons, List.map_map, List.map_map]
  congr 1
  apply List.map_congr_left
  intro x h
  rw [hx x h]
  rfl
theorem n_ctor {z : ZZ} {idx np d2 mc2 ms2 ci q a : Nat} {fs : List (Option (Option Nat))} {y : MD} {xs : List Nat} {G2 : List GE} {P2 : Mem → Prop} (hd : Dk k pc (.invokespecial idx) 3 pc2) (hb : Cb y np) (hy : y.2.2.2 = none ∧ y.1.name = "<init>") (hl : Cond.methodLink k.1.cls idx y.1 ∈ q_tbl ∧ Cond.instanceMethod y.1 ∈ q_tbl) (hg : G[q]? = some (.inl (ci, fs))) (hnr : fs.all (fun f => match f with | some (some _) => false | _ => true) = true) (hC : CT y d2 mc2 ms2 (.inl (ci, fs)) xs G2 P2) (hx : ∀ x ∈ xs, x = 900) (hnp : xs.length = np) (hdn : d2 < d) (hW : (S.map cat).sum ≤ 8) (hcl : cells + 1 = G.length) (hlen : G.length + G2.length ≤ 900 ∧ 1 ≤ G2.length ∧ G2.all (okR G2.length) = true) (hc : cells + mc2 ≤ mc ∧ slots + ms2 ≤ ms) (hz : ∀ i, M q i = 0) (kk : ∀ M2, P2 M2 → WN k d mc ms G1 M1 z pc2 L S (gjn G G2 G.length q a) (mrg M M2 G.length q) (cells + mc2) (slots + ms2)) : WN k d mc ms G1 M1 z pc L ((xs.map (fun _ => rv a)).reverse ++ rv q :: S) G M cells slots := by
  obtain ⟨p, l, e, s, m, args, below, meth, c, D, dA, adK, adV, ad⟩ := z
  obtain ⟨hd, rfl⟩ := hd
  intro C H locs ls B
  have hts := C.1.2.2.2.2
  have hq := (List.getElem?_eq_some_iff.mp hg).1
  refine W_sized (fun hup => ?_)
  have hsz : H.size = ad G.length := wn_size C.2.2.2.1.1 C.2.2.2.1.2 B.1 B.2.2.1.1 hup hcl (by omega)
  have hM := hC l D dA adK adV (adc ad G.length q a)
  rw [adc_args hx] at hM
  have hgi := q_gin y hb.2.1
  rw [hy.1] at hM hgi
  refine n_backC (a := a) hcl hq hlen.2.1 hlen.1 hlen.2.2 C B hsz (va_runI (As := (xs.map (fun _ => rv a)).map (tv ad)) (b := ad q) (n := np) ⟨C.1.1, C.1.2.1, C.1.2.2.1, C.1.2.2.2.1, hts⟩ hM ⟨callB_of np hts hgi rfl rfl rfl (hts _ hb.1) (hts _ hl.1) hb.2.2.1 (n_fitC hdn hb.2.2.2), hy.2, hts _ hl.2⟩ ⟨blind_ct, fun U hU hW2 => ⟨rfl, ct_pre C B hsz (by omega) hg hnr hz U hU hW2⟩⟩ rfl (by rw [List.length_map, List.length_map]; exact hnp) B.2.2.2.1 (by simp [List.map_append, List.map_reverse, tv]) (lv_room (by rw [cat_tv]; exact hW)) hd hc) kk
theorem n_ctorN {z : ZZ} {idx np d2 mc2 ms2 ci q a : Nat} {host : String} {fs : List (Option (Option Nat))} {y : MD} {xs : List Nat} {G2 : List GE} {P2 : Mem → Prop} (hd : Dk k pc (.invokespecial idx) 3 pc2) (hb : Cb y np) (hy : y.2.2.2 = none ∧ y.1.name = "<init>") (hl : (k.1.cls, idx, y.1, host) ∈ q_nct ∧ Cond.instanceMethod y.1 ∈ q_tbl) (hg : G[q]? = some (.inl (ci, fs))) (hnr : fs.all (fun f => match f with | some (some _) => false | _ => true) = true) (hC : CT y d2 mc2 ms2 (.inl (ci, fs)) xs G2 P2) (hx : ∀ x ∈ xs, x = 900) (hnp : xs.length = np) (hdn : d2 < d) (hW : (S.map cat).sum ≤ 8) (hcl : cells + 1 = G.length) (hlen : G.length + G2.length ≤ 900 ∧ 1 ≤ G2.length ∧ G2.all (okR G2.length) = true) (hc : cells + mc2 ≤ mc ∧ slots + ms2 ≤ ms) (hz : ∀ i, M q i = 0) (kk : ∀ M2, P2 M2 → WN k d mc ms G1 M1 z pc2 L S (gjn G G2 G.length q a) (mrg M M2 G.length q) (cells + mc2) (slots + ms2)) : WN k d mc ms G1 M1 z pc L ((xs.map (fun _ => rv a)).reverse ++ rv q :: S) G M cells slots := by
  obtain ⟨p, l, e, s, m, args, below, meth, c, D, dA, adK, adV, ad⟩ := z
  obtain ⟨hd, rfl⟩ := hd
  intro C H locs ls B
  have hts := C.1.2.2.2.2
  have hq := (List.getElem?_eq_some_iff.mp hg).1
  refine W_sized (fun hup => ?_)
  have hsz : H.size = ad G.length := wn_size C.2.2.2.1.1 C.2.2.2.1.2 B.1 B.2.2.1.1 hup hcl (by omega)
  have hM := hC l D dA adK adV (adc ad G.length q a)
  rw [adc_args hx] at hM
  have hgi := q_gin y hb.2.1
  rw [hy.1] at hM hgi
  refine n_backC (a := a) hcl hq hlen.2.1 hlen.1 hlen.2.2 C B hsz (va_runIN (As := (xs.map (fun _ => rv a)).map (tv ad)) (b := ad q) (n := np) ⟨C.1.1, C.1.2.1, C.1.2.2.1, C.1.2.2.2.1, hts⟩ hM ⟨va_cnB np hts hgi rfl rfl rfl (C.2.2.2.2.2.2.1 _ hl.1) (hts _ hb.1) hb.2.2.1 (n_fitC hdn hb.2.2.2), hy.2, hts _ hl.2⟩ ⟨blind_ct, fun U hU hW2 => ⟨rfl, ct_pre C B hsz (by omega) hg hnr hz U hU hW2⟩⟩ rfl (by rw [List.length_map, List.length_map]; exact hnp) B.2.2.2.1 (by simp [List.map_append, List.map_reverse, tv]) (lv_room (by rw [cat_tv]; exact hW)) hd hc) kk
end

/-! the law: calls -/
theorem l_fit {d2 ml : Nat} (h : d2 < 100) (hm : ml ≤ 20) : (rmd d2).frames + 1 ≤ room_1.frames ∧ 8 + (ml + 11) + (rmd d2).locals ≤ room_1.locals := by
  simp only [rmd, room_1]
  omega
theorem adB_in {h : Nat} {adK adV : Nat → Nat} {k : Nat} (hk : k < 900) : adB h adK adV k = h + k := if_pos hk
theorem adB_ok {G : List GD} {h : Nat} {adK adV : Nat → Nat} (hG : G.length < 900) : ad_ok G adK adV (adB h adK adV) := by
  refine ⟨fun i j hi hj e => ?_, fun j hj => ?_, fun j hj => ?_⟩
  · rw [adB_in (by omega), adB_in (by omega)] at e
    omega
  · unfold adB
    rw [if_neg (by omega), if_pos (by omega), Nat.add_sub_cancel_left]
  · unfold adB
    rw [if_neg (by omega), if_neg (by omega), Nat.add_sub_cancel_left]
theorem adB_AA {G : List GD} {h : Nat} {adK adV : Nat → Nat} (hG : G.length < 900) : ∀ q, AA G (adB h adK adV) q → h ≤ q ∧ q < h + G.length := fun q hq => by
  obtain ⟨j, hj, rfl⟩ := hq
  rw [adB_in (by omega)]
  omega
section
variable {z : ZL} {pc pc2 : Nat} {L : List (Option PV)} {S : List PV} {cells slots : Nat}
theorem l_call {idx np d2 ci q o1 o2 : Nat} {fs : List (Option Nat)} {y : MD} {as : List Int} {G1 G2 : List GD} {M1 M2 : Mem} {post : Option PV → Mem → Prop} (hd : Dk kL_law pc (.invokevirtual idx) 3 pc2) (hs : Cv RL idx y np ci) (hq : ∀ s b, adL s b q = s.heap.size + o1) (hg : G1[0]? = some (.inl (ci, fs))) (hG : G1.length < 900 ∧ G2.length < 900) (hdj : o1 + G1.length ≤ o2 ∨ o2 + G2.length ≤ o1) (hC : Con G1 d2 y (rv 0 :: as.map iv) M1 post) (hnr : ∀ r M, post r M → ∀ k, r ≠ some (rv k)) (hnp : as.length = np) (hdn : d2 < 100) (hW : (S.map cat).sum ≤ 8) (hc : cells ≤ 600000 ∧ slots ≤ 7302250) (kk : ∀ r M, post r M → WL z pc2 L (r.toList ++ S) (fun H => PW z G1 o1 M H ∧ PW z G2 o2 M2 H) cells slots) : WL z pc L ((as.map iv).reverse ++ rv q :: S) (fun H => PW z G1 o1 M1 H ∧ PW z G2 o2 M2 H) cells slots := by
  obtain ⟨p, l, e, s, m, below, meth, c, D, dA, adK, adV, b, n, xs⟩ := z
  obtain ⟨hd, rfl⟩ := hd
  intro C H locs ls B
  obtain ⟨h1, h2, h3, h4, T0, N, h5⟩ := hs
  have hts := C.hts
  obtain ⟨⟨⟨hP1, hM1⟩, ⟨hP2, hM2⟩⟩, hS, hls⟩ := B
  have hAA : ∀ x, AA G1 (adB (s.heap.size + o1) adK adV) x → AL s x := fun x hx => by
    have := adB_AA hG.1 x hx
    show s.heap.size ≤ x
    omega
  have hargs : ∀ ad : Nat → Nat, (as.map iv).map (tv ad) = as.map (fun a => Value.int (Int32.ofInt a)) := fun ad => by
    rw [List.map_map]
    rfl
  have hM := hC l D dA adK adV (adB (s.heap.size + o1) adK adV)
  rw [List.map_cons, hargs, show tv (adB (s.heap.size + o1) adK adV) (rv 0) = Value.ref (s.heap.size + o1) from rfl] at hM
  have hr := va_runV (p := p) (l := l) (e := e) (R := room_1) (s := s) (m := m) (args := #[Value.ref b]) (below := below) (meth := meth) (c := c) (H := H) (locs := locs) (cells := cells) (slots := slots) (g := F0 m pc ls (((as.map iv).reverse ++ rv q :: S).map (tv (adL s b)))) (rest := S.map (tv (adL s b))) (As := as.map (fun a => Value.int (Int32.ofInt a))) (b := s.heap.size + o1) (n := np) ⟨C.1.1, C.1.2.1, C.1.2.2.2.1, C.1.2.2.2.2.1, hts⟩ hM ⟨callB_of np hts (q_gin y h1.2.1) rfl rfl rfl (hts _ h1.1) (hts _ h2) h1.2.2.1 (l_fit hdn h1.2.2.2), hts _ h3, hts _ h4⟩ ⟨blind_wo, va_recv C.2.2.1 hP1 h5 (wld_get hg), fun U hU hW2 => ⟨rfl, by rw [hU]; exact hP1, hM1, va_K.moved hW2.alike C.2.2.1, adB_ok hG.1, (C.2.2.2.1.go hW2 (fun a g1 g2 => by rw [hU]; exact hS.2.1 a g1 g2)).narrow hAA⟩⟩ rfl (by rw [List.length_map]; exact hnp) hls.1 (by rw [← hargs (adL s b), List.map_append, List.map_reverse, List.map_cons, show tv (adL s b) (rv q) = Value.ref (s.heap.size + o1) from congrArg Value.ref (hq s b)]) (lv_room (by rw [cat_tv]; exact hW)) hd hc
  intro T hT X
  obtain ⟨v, st₀, t, T', L1, h0, X', hL, e1, e2, ⟨⟨r, M3, hv, hp, hw⟩, hz, hk⟩, st⟩ := hr T hT X
  have hv : v = r.map (tv (adB (s.heap.size + o1) adK adV)) := by injection hv
  subst hv
  rw [h0] at hz hk
  have hS2 : va_S (AL s) s.heap T'.heap (locs ++ L1) := by
    obtain ⟨g1, g2, g3⟩ := hS
    refine ⟨Nat.le_trans g1 (by rw [e1]; exact hz), fun x f1 f2 => by rw [e1, hk x (Nat.lt_of_lt_of_le f1 g1) (fun w => f2 (hAA x w))]; exact g2 x f1 f2, fun x hx => ?_⟩
    rcases List.mem_append.mp hx with h | h
    · exact g3 x h
    · exact hAA _ (hL x h)
  have hP2' : va_P D vwCl (wld (adB (s.heap.size + o2) adK adV) dA G2 M2) T'.heap := by
    refine hP2.kept (fun i x hx => ?_)
    have hl : x.1 < H.size := (hP2 i x hx).lt
    rw [e1]
    refine hk _ hl (fun w => ?_)
    have g1 := adB_AA hG.1 _ w
    have hi : i < G2.length := by
      have := (List.getElem?_eq_some_iff.mp hx).1
      rwa [wld_len] at this
    have hx1 : x.1 = adB (s.heap.size + o2) adK adV i := by
      simp only [wld, List.getElem?_mapIdx] at hx
      cases hgi : G2[i]? with
      | none => rw [hgi] at hx; cases hx
      | some dd => rw [hgi] at hx; cases hx; rfl
    rw [hx1, adB_in (by omega)] at g1
    omega
  obtain ⟨t2, a1, b1⟩ := kk r M3 hp C T'.heap (locs ++ L1) ls ⟨⟨⟨by rw [e1]; exact hw.1, hw.2.1⟩, hP2', hM2⟩, hS2, hls⟩ T' rfl X'
  refine ⟨t2, st t2 ?_, b1⟩
  have e3 : (r.map (tv (adB (s.heap.size + o1) adK adV))).toList ++ S.map (tv (adL s b)) = (r.toList ++ S).map (tv (adL s b)) := by
    rcases r with _ | a | a | k
    · rfl
    · rfl
    · rfl
    · exact absurd rfl (hnr _ _ hp k)
  rw [e3]
  exact a1
theorem nr_I {Q : Int → Mem → Prop} : ∀ r M, pI Q r M → ∀ k, r ≠ some (rv k) := fun r M h k e => by
  obtain ⟨a, h1, -⟩ := h
  rw [h1] at e
  cases e
theorem nr_J {Q : Int → Mem → Prop} : ∀ r M, pJ Q r M → ∀ k, r ≠ some (rv k) := fun r M h k e => by
  obtain ⟨a, h1, -⟩ := h
  rw [h1] at e
  cases e
theorem lxI {idx np d2 : Nat} {y : MD} {as : List Int} {Mx Mm : Mem} {Q : Int → Mem → Prop} (hd : Dk kL_law pc (.invokevirtual idx) 3 pc2) (hs : Cv RL idx y np 5) (hC : Con GX d2 y (rv 0 :: as.map iv) Mx (pI Q)) (hnp : as.length = np) (hdn : d2 < 100) (hW : (S.map cat).sum ≤ 8) (hc : cells ≤ 600000 ∧ slots ≤ 7302250) (kk : ∀ a M, Q a M → WL z pc2 L (iv a :: S) (IW z M Mm) cells slots) : WL z pc L ((as.map iv).reverse ++ rv 0 :: S) (IW z Mx Mm) cells slots :=
  l_call (q := 0) (o1 := 0) (o2 := 68) (G1 := GX) (G2 := GM) hd hs (fun _ _ => rfl) rfl (by decide) (by decide) hC nr_I hnp hdn hW hc (fun r M h => by
    obtain ⟨a, rfl, h2⟩ := h
    exact kk a M h2)
theorem lxJ {idx np d2 : Nat} {y : MD} {as : List Int} {Mx Mm : Mem} {Q : Int → Mem → Prop} (hd : Dk kL_law pc (.invokevirtual idx) 3 pc2) (hs : Cv RL idx y np 5) (hC : Con GX d2 y (rv 0 :: as.map iv) Mx (pJ Q)) (hnp : as.length = np) (hdn : d2 < 100) (hW : (S.map cat).sum ≤ 8) (hc : cells ≤ 600000 ∧ slots ≤ 7302250) (kk : ∀ a M, Q a M → WL z pc2 L (jv a :: S) (IW z M Mm) cells slots) : WL z pc L ((as.map iv).reverse ++ rv 0 :: S) (IW z Mx Mm) cells slots :=
  l_call (q := 0) (o1 := 0) (o2 := 68) (G1 := GX) (G2 := GM) hd hs (fun _ _ => rfl) rfl (by decide) (by decide) hC nr_J hnp hdn hW hc (fun r M h => by
    obtain ⟨a, rfl, h2⟩ := h
    exact kk a M h2)
theorem lmI {idx np d2 : Nat} {y : MD} {as : List Int} {Mx Mm : Mem} {Q : Int → Mem → Prop} (hd : Dk kL_law pc (.invokevirtual idx) 3 pc2) (hs : Cv RL idx y np 6) (hC : Con GM d2 y (rv 0 :: as.map iv) Mm (pI Q)) (hnp : as.length = np) (hdn : d2 < 100) (hW : (S.map cat).sum ≤ 8) (hc : cells ≤ 600000 ∧ slots ≤ 7302250) (kk : ∀ a M, Q a M → WL z pc2 L (iv a :: S) (IW z Mx M) cells slots) : WL z pc L ((as.map iv).reverse ++ rv 1 :: S) (IW z Mx Mm) cells slots :=
  WL.mono (I2 := fun H => PW z GM 68 Mm H ∧ PW z GX 0 Mx H) (fun H h => ⟨h.2, h.1⟩) (l_call (q := 1) (o1 := 68) (o2 := 0) (G1 := GM) (G2 := GX) hd hs (fun _ _ => rfl) rfl (by decide) (by decide) hC nr_I hnp hdn hW hc (fun r M h => by
    obtain ⟨a, rfl, h2⟩ := h
    exact WL.mono (fun H h => ⟨h.2, h.1⟩) (kk a M h2)))
theorem lmJ {idx np d2 : Nat} {y : MD} {as : List Int} {Mx Mm : Mem} {Q : Int → Mem → Prop} (hd : Dk kL_law pc (.invokevirtual idx) 3 pc2) (hs : Cv RL idx y np 6) (hC : Con GM d2 y (rv 0 :: as.map iv) Mm (pJ Q)) (hnp : as.length = np) (hdn : d2 < 100) (hW : (S.map cat).sum ≤ 8) (hc : cells ≤ 600000 ∧ slots ≤ 7302250) (kk : ∀ a M, Q a M → WL z pc2 L (jv a :: S) (IW z Mx M) cells slots) : WL z pc L ((as.map iv).reverse ++ rv 1 :: S) (IW z Mx Mm) cells slots :=
  WL.mono (I2 := fun H => PW z GM 68 Mm H ∧ PW z GX 0 Mx H) (fun H h => ⟨h.2, h.1⟩) (l_call (q := 1) (o1 := 68) (o2 := 0) (G1 := GM) (G2 := GX) hd hs (fun _ _ => rfl) rfl (by decide) (by decide) hC nr_J hnp hdn hW hc (fun r M h => by
    obtain ⟨a, rfl, h2⟩ := h
    exact WL.mono (fun H h => ⟨h.2, h.1⟩) (kk a M h2)))
end

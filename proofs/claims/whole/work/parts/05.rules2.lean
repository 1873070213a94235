theorem Cx.hts {k : MD} {G : List GD} {p : Program} {l : Launch} {e : Env} {s : State} {m : MethodId} {args : Array Value} {below : List Frame} {meth : Method} {c : Code} {D : va_G} {dA : Nat → ClassId} {adK adV ad : Nat → Nat} (C : Cx k G (p, l, e, s, m, args, below, meth, c, D, dA, adK, adV, ad)) : ∀ w ∈ q_tbl, w.before args s = true := C.2.2.2.2.1
theorem Cx.K {k : MD} {G : List GD} {p : Program} {l : Launch} {e : Env} {s : State} {m : MethodId} {args : Array Value} {below : List Frame} {meth : Method} {c : Code} {D : va_G} {dA : Nat → ClassId} {adK adV ad : Nat → Nat} (C : Cx k G (p, l, e, s, m, args, below, meth, c, D, dA, adK, adV, ad)) : va_K D vwCl (ty_of dA) s := C.2.2.2.2.2.2.2.1
theorem Cx.inj {k : MD} {G : List GD} {p : Program} {l : Launch} {e : Env} {s : State} {m : MethodId} {args : Array Value} {below : List Frame} {meth : Method} {c : Code} {D : va_G} {dA : Nat → ClassId} {adK adV ad : Nat → Nat} (C : Cx k G (p, l, e, s, m, args, below, meth, c, D, dA, adK, adV, ad)) : ad_ok G adK adV ad := C.2.2.2.2.2.2.2.2.1
theorem Cx.str {k : MD} {G : List GD} {p : Program} {l : Launch} {e : Env} {s : State} {m : MethodId} {args : Array Value} {below : List Frame} {meth : Method} {c : Code} {D : va_G} {dA : Nat → ClassId} {adK adV ad : Nat → Nat} (C : Cx k G (p, l, e, s, m, args, below, meth, c, D, dA, adK, adV, ad)) : st_ok adK adV (AA G ad) s := C.2.2.2.2.2.2.2.2.2
theorem r_getI {k : MD} {G : List GD} {n : Nat} {post : Option PV → Mem → Prop} {z : ZZ} {pc pc2 : Nat} {L : List (Option PV)} {S : List PV} {M : Mem} {idx ci j q : Nat} {fs : List (Option Nat)} (hd : Dk k pc (.getfield idx) 3 pc2) (hf : Fg k.1.cls idx ci j) (hg : G[q]? = some (.inl (ci, fs))) (hj : fs[j]? = some none) (kk : WP k G n post z pc2 L (iv (M q j) :: S) M) : WP k G n post z pc L (rv q :: S) M := by
  obtain ⟨p, l, e, s, m, args, below, meth, c, D, dA, adK, adV, ad⟩ := z
  obtain ⟨hd, rfl⟩ := hd
  intro C H locs ls B
  obtain ⟨C1, T, N, h1, h2, h3, h4, h5⟩ := hf
  subst h3
  exact va_get (D := (D)) (ci := ci) (v := .int (Int32.ofInt (M q j))) C.1 C.2.1 C.hts h5 C.2.2.2.1 C.K B.1 q (wld_get hg) h1 j h2 (C.hts _ h4) (fun _ h9 => h9) (by rw [List.getElem?_mapIdx, hj]; rfl) hd (kk C H locs ls B)
theorem r_getR {k : MD} {G : List GD} {n : Nat} {post : Option PV → Mem → Prop} {z : ZZ} {pc pc2 : Nat} {L : List (Option PV)} {S : List PV} {M : Mem} {idx ci j q r : Nat} {fs : List (Option Nat)} (hd : Dk k pc (.getfield idx) 3 pc2) (hf : Fg k.1.cls idx ci j) (hg : G[q]? = some (.inl (ci, fs))) (hj : fs[j]? = some (some r)) (kk : WP k G n post z pc2 L (rv r :: S) M) : WP k G n post z pc L (rv q :: S) M := by
  obtain ⟨p, l, e, s, m, args, below, meth, c, D, dA, adK, adV, ad⟩ := z
  obtain ⟨hd, rfl⟩ := hd
  intro C H locs ls B
  obtain ⟨C1, T, N, h1, h2, h3, h4, h5⟩ := hf
  subst h3
  exact va_get (D := (D)) (ci := ci) (v := .ref (ad r)) C.1 C.2.1 C.hts h5 C.2.2.2.1 C.K B.1 q (wld_get hg) h1 j h2 (C.hts _ h4) (fun _ h9 => h9) (by rw [List.getElem?_mapIdx, hj]; rfl) hd (kk C H locs ls B)
theorem r_put {k : MD} {G : List GD} {n : Nat} {post : Option PV → Mem → Prop} {z : ZZ} {pc pc2 : Nat} {L : List (Option PV)} {S : List PV} {M : Mem} {idx ci j q : Nat} {fs : List (Option Nat)} {v : Int} (hd : Dk k pc (.putfield idx) 3 pc2) (hf : Fp k.1.cls idx ci j .int) (hg : G[q]? = some (.inl (ci, fs))) (hj : fs[j]? = some none) (hv : ib v) (kk : WP k G n post z pc2 L S (upM M q j v)) : WP k G n post z pc L (iv v :: rv q :: S) M := by
  obtain ⟨p, l, e, s, m, args, below, meth, c, D, dA, adK, adV, ad⟩ := z
  obtain ⟨hd, rfl⟩ := hd
  intro C H locs ls B
  obtain ⟨C1, T, N, ty0, h1, h2, h3, h4, h5, h6, h7, h8, h9⟩ := hf
  subst h3
  have hl : j < (fs.mapIdx (ce_f ad M q)).length := by
    have := (List.getElem?_eq_some_iff.mp hj).1
    simpa using this
  have hvb : ib v := hv
  have hnw : narrow .int (.int (Int32.ofInt v)) = .int (Int32.ofInt v) ∧ fits .int (.int (Int32.ofInt v)) = true := ⟨rfl, rfl⟩
  refine va_put (D := D) (ci := ci) (v := .int (Int32.ofInt v)) (ty := .int) C.1 C.2.1 C.hts h5 ty0 h6 h7 C.2.2.2.1 C.K B.1 (wld_D C.inj) B.2.2.1 q (wld_get hg) h1 j h2 (C.hts _ h4) (fun _ w => w) h8 h9 hnw.1 hnw.2 hl hd (fun H1 locs1 hP hD hS => ?_)
  have hP : va_P D vwCl ((wld ad dA G M).set q (ad q, .inr (ci, (fs.mapIdx (ce_f ad M q)).set j (.int (Int32.ofInt v))))) H1 := hP
  rw [wld_put hg hj] at hP
  exact kk C H1 locs1 ls ⟨hP, upM_ib B.2.1 hvb, hS, B.2.2.2⟩
theorem r_putZ {k : MD} {G : List GD} {n : Nat} {post : Option PV → Mem → Prop} {z : ZZ} {pc pc2 : Nat} {L : List (Option PV)} {S : List PV} {M : Mem} {idx ci j q : Nat} {fs : List (Option Nat)} {v : Int} (hd : Dk k pc (.putfield idx) 3 pc2) (hf : Fp k.1.cls idx ci j .boolean) (hg : G[q]? = some (.inl (ci, fs))) (hj : fs[j]? = some none) (hv : v = 0 ∨ v = 1) (kk : WP k G n post z pc2 L S (upM M q j v)) : WP k G n post z pc L (iv v :: rv q :: S) M := by
  obtain ⟨p, l, e, s, m, args, below, meth, c, D, dA, adK, adV, ad⟩ := z
  obtain ⟨hd, rfl⟩ := hd
  intro C H locs ls B
  obtain ⟨C1, T, N, ty0, h1, h2, h3, h4, h5, h6, h7, h8, h9⟩ := hf
  subst h3
  have hl : j < (fs.mapIdx (ce_f ad M q)).length := by
    have := (List.getElem?_eq_some_iff.mp hj).1
    simpa using this
  have hvb : ib v := by omega
  have hnw : narrow .boolean (.int (Int32.ofInt v)) = .int (Int32.ofInt v) ∧ fits .boolean (.int (Int32.ofInt v)) = true := by rcases hv with rfl | rfl <;> exact ⟨rfl, rfl⟩
  refine va_put (D := D) (ci := ci) (v := .int (Int32.ofInt v)) (ty := .boolean) C.1 C.2.1 C.hts h5 ty0 h6 h7 C.2.2.2.1 C.K B.1 (wld_D C.inj) B.2.2.1 q (wld_get hg) h1 j h2 (C.hts _ h4) (fun _ w => w) h8 h9 hnw.1 hnw.2 hl hd (fun H1 locs1 hP hD hS => ?_)
  have hP : va_P D vwCl ((wld ad dA G M).set q (ad q, .inr (ci, (fs.mapIdx (ce_f ad M q)).set j (.int (Int32.ofInt v))))) H1 := hP
  rw [wld_put hg hj] at hP
  exact kk C H1 locs1 ls ⟨hP, upM_ib B.2.1 hvb, hS, B.2.2.2⟩
theorem r_iaload {k : MD} {G : List GD} {n : Nat} {post : Option PV → Mem → Prop} {z : ZZ} {pc pc2 : Nat} {L : List (Option PV)} {S : List PV} {M : Mem} {q N : Nat} {a : Int} (hd : Dk k pc .iaload 1 pc2) (hg : G[q]? = some (.inr (.inl N))) (hi : 0 ≤ a ∧ a < N) (hN : N < 2147483648) (kk : WP k G n post z pc2 L (iv (M q a.toNat) :: S) M) : WP k G n post z pc L (iv a :: rv q :: S) M := by
  obtain ⟨p, l, e, s, m, args, below, meth, c, D, dA, adK, adV, ad⟩ := z
  obtain ⟨hd, rfl⟩ := hd
  intro C H locs ls B
  refine va_iald (n := N) (cA := dA 0) (f := fun i => Int32.ofInt (M q i)) C.1 C.2.1 C.K B.1 q 0 (wld_get hg) rfl (i3_in hi.1 hi.2 hN) hd ?_
  rw [i3_nat hi.1 (by omega)]
  exact kk C H locs ls B
theorem r_iastore {k : MD} {G : List GD} {n : Nat} {post : Option PV → Mem → Prop} {z : ZZ} {pc pc2 : Nat} {L : List (Option PV)} {S : List PV} {M : Mem} {q N : Nat} {a v : Int} (hd : Dk k pc .iastore 1 pc2) (hg : G[q]? = some (.inr (.inl N))) (hi : 0 ≤ a ∧ a < N) (hN : N < 2147483648) (hv : ib v) (kk : WP k G n post z pc2 L S (upM M q a.toNat v)) : WP k G n post z pc L (iv v :: iv a :: rv q :: S) M := by
  obtain ⟨p, l, e, s, m, args, below, meth, c, D, dA, adK, adV, ad⟩ := z
  obtain ⟨hd, rfl⟩ := hd
  intro C H locs ls B
  refine va_iast (n := N) (cA := dA 0) (f := fun i => Int32.ofInt (M q i)) C.1 C.2.1 C.K B.1 (wld_D C.inj) B.2.2.1 q 0 (wld_get hg) rfl (i3_in hi.1 hi.2 hN) hd (fun H1 locs1 hP hD hS => ?_)
  rw [i3_nat hi.1 (by omega)] at hP
  have hP : va_P D vwCl ((wld ad dA G M).set q (ad q, .inl (dA 0, N, .inl (upd (fun j => Int32.ofInt (M q j)) a.toNat (Int32.ofInt v))))) H1 := hP
  rw [wld_ast hg] at hP
  exact kk C H1 locs1 ls ⟨hP, upM_ib B.2.1 hv, hS, B.2.2.2⟩
theorem r_alen {k : MD} {G : List GD} {n : Nat} {post : Option PV → Mem → Prop} {z : ZZ} {pc pc2 : Nat} {L : List (Option PV)} {S : List PV} {M : Mem} {q N : Nat} (hd : Dk k pc .arraylength 1 pc2) (hg : G[q]? = some (.inr (.inl N))) (kk : WP k G n post z pc2 L (iv N :: S) M) : WP k G n post z pc L (rv q :: S) M := by
  obtain ⟨p, l, e, s, m, args, below, meth, c, D, dA, adK, adV, ad⟩ := z
  obtain ⟨hd, rfl⟩ := hd
  intro C H locs ls B
  exact va_alen (cA := dA 0) (ty := .int) (v := Int32.ofInt N) C.1 C.2.1 C.K B.1 q 0 (wld_get hg) rfl (by show Int32.ofNat N = _; rfl) hd (kk C H locs ls B)
theorem r_aaload {k : MD} {G : List GD} {n : Nat} {post : Option PV → Mem → Prop} {z : ZZ} {pc pc2 : Nat} {L : List (Option PV)} {S : List PV} {M : Mem} {q t r : Nat} {rs : List Nat} {a : Int} (hd : Dk k pc .aaload 1 pc2) (hg : G[q]? = some (.inr (.inr (t, rs)))) (ht : t = 1 ∨ t = 2) (hi : 0 ≤ a ∧ a < 2147483648) (hr : rs[a.toNat]? = some r) (kk : WP k G n post z pc2 L (rv r :: S) M) : WP k G n post z pc L (iv a :: rv q :: S) M := by
  obtain ⟨p, l, e, s, m, args, below, meth, c, D, dA, adK, adV, ad⟩ := z
  obtain ⟨hd, rfl⟩ := hd
  intro C H locs ls B
  have hl := (List.getElem?_eq_some_iff.mp hr).1
  have hin : vp_in (Int32.ofInt a) rs.length := by
    rw [vp_in_iff, i3_toInt (by omega)]
    omega
  have hX : (wld ad dA G M)[q]? = some (ad q, .inl (dA t, rs.length, .inr (.inr (.inr (.inr (fun i => (rs[i]?).map ad)))))) := wld_get hg
  have go : W p l e (rmd n) s m args below meth c H locs 0 0 (MQ below (qq G D dA adK adV ad post) args s 0 0 (AA G ad)) (F0 m (pc + 1) ls (va_rf (((fun i => (rs[i]?).map ad) : Nat → Option Nat) (Int32.ofInt a).toNatClampNeg) :: S.map (tv ad))) := by
    rw [i3_nat hi.1 hi.2]
    show W p l e (rmd n) s m args below meth c H locs 0 0 _ (F0 m (pc + 1) ls (va_rf ((rs[a.toNat]?).map ad) :: S.map (tv ad)))
    rw [hr]
    exact kk C H locs ls B
  rcases ht with rfl | rfl
  · exact va_aldq C.1 C.2.1 C.K B.1 q 1 hX rfl hin hd go
  · exact va_aldq C.1 C.2.1 C.K B.1 q 2 hX rfl hin hd go
theorem q_gin (y : MD) (h : Cond.code y.1 y.2.1 y.2.2.1 y.2.2.2 ∈ q_tbl) : GoodIn q_tbl (Cond.code y.1 y.2.1 y.2.2.1 y.2.2.2 :: q_tbl) := by
  intro w hw
  have hm : w ∈ q_tbl := by
    rcases List.mem_cons.mp hw with rfl | hw
    · exact h
    · exact hw
  exact ⟨hm, good_of_word (List.mem_filter.mp hm).2⟩
def cat : PV → Nat
  | .inr (.inl _) => 2
  | _ => 1
theorem cat_tv (ad : Nat → Nat) (S : List PV) : ((S.map (tv ad)).map fun v => v.category) = S.map cat := by
  rw [List.map_map]
  apply List.map_congr_left
  intro v _
  rcases v with a | a | a <;> rfl
theorem wo_pre {G : List GD} {D : va_G} {dA : Nat → ClassId} {adK adV ad : Nat → Nat} {M : Mem} {s U : State} {H : Heap} {locs : List Loc} (hP : va_P D vwCl (wld ad dA G M) H) (hM : ∀ c i, ib (M c i)) (hS : va_S (AA G ad) s.heap H locs) (hK : va_K D vwCl (ty_of dA) s) (hA : ad_ok G adK adV ad) (hE : st_ok adK adV (AA G ad) s) (hU : U.heap = H) (hW : s.WarmedH U.vm) : wo G D dA adK adV ad M U :=
  ⟨by rw [hU]; exact hP, hM, va_K.moved hW.alike hK, hA, hE.go hW (fun a h1 h2 => by rw [hU]; exact hS.2.1 a h1 h2)⟩
theorem blind_wo {G : List GD} {D : va_G} {dA : Nat → ClassId} {adK adV ad : Nat → Nat} {M : Mem} {av : List Value} : FrameBlind (va_Pc av (fun U => wo G D dA adK adV ad M U)) := by
  intro a U g mk h
  exact ⟨h.1, h.2.calling g mk a⟩
theorem rmd_fit {d n ml : Nat} (h : d < n) (hm : ml ≤ 20) : (rmd d).frames + 1 ≤ (rmd n).frames ∧ 8 + (ml + 11) + (rmd d).locals ≤ (rmd n).locals := by
  simp only [rmd]
  omega
theorem wp_back {k : MD} {G : List GD} {n : Nat} {post : Option PV → Mem → Prop} {pc : Nat} {L : List (Option PV)} {S : List PV} {M : Mem} {post2 : Option PV → Mem → Prop} {p : Program} {l : Launch} {e : Env} {s : State} {m : MethodId} {args a2 : Array Value} {below : List Frame} {meth : Method} {c : Code} {D : va_G} {dA : Nat → ClassId} {adK adV ad : Nat → Nat} {H : Heap} {locs : List Loc} {ls : Array Slot} {st0 : List Value}
    (C : Cx k G (p, l, e, s, m, args, below, meth, c, D, dA, adK, adV, ad)) (B : Bx k G (p, l, e, s, m, args, below, meth, c, D, dA, adK, adV, ad) L M H locs ls)
    (hr : va_Run p l e (rmd n) s m args below meth c H locs 0 0 0 0 (F0 m pc ls st0) (S.map (tv ad)) (qq G D dA adK adV ad post2 a2) (AA G ad))
    (kk : ∀ r M2, post2 r M2 → WP k G n post (p, l, e, s, m, args, below, meth, c, D, dA, adK, adV, ad) (pc + 3) L (r.toList ++ S) M2) :
    W p l e (rmd n) s m args below meth c H locs 0 0 (MQ below (qq G D dA adK adV ad post) args s 0 0 (AA G ad)) (F0 m pc ls st0) := by
  intro T hT X
  obtain ⟨v, st₀, t, T', L1, h0, X', hL, e1, e2, ⟨⟨r, M2, hv, hp, hw⟩, hz, hk⟩, st⟩ := hr T hT X
  have hv : v = r.map (tv ad) := by injection hv
  subst hv
  rw [h0] at hz hk
  have hS : va_S (AA G ad) s.heap T'.heap (locs ++ L1) := by
    obtain ⟨g1, g2, g3⟩ := B.2.2.1
    refine ⟨Nat.le_trans g1 (by rw [e1]; exact hz), fun q h1 h2 => by rw [e1, hk q (Nat.lt_of_lt_of_le h1 g1) h2]; exact g2 q h1 h2, fun q hq => ?_⟩
    rcases List.mem_append.mp hq with h | h
    · exact g3 q h
    · exact hL q h
  obtain ⟨t2, a1, b1⟩ := kk r M2 hp C T'.heap (locs ++ L1) ls ⟨by rw [e1]; exact hw.1, hw.2.1, hS, B.2.2.2⟩ T' rfl X'
  refine ⟨t2, st t2 ?_, b1⟩
  have e3 : (r.map (tv ad)).toList ++ S.map (tv ad) = (r.toList ++ S).map (tv ad) := by cases r <;> simp
  rw [e3]
  exact a1
theorem r_callS {k : MD} {G : List GD} {n : Nat} {post : Option PV → Mem → Prop} {z : ZZ} {pc pc2 : Nat} {L : List (Option PV)} {S : List PV} {M : Mem} {idx np d : Nat} {y : MD} {As : List PV} {post2 : Option PV → Mem → Prop} (hd : Dk k pc (.invokestatic idx) 3 pc2) (hs : Cs k.1.cls idx y np) (hC : Con G d y As M post2) (hnp : As.length = np) (hdn : d < n) (hW : (S.map cat).sum ≤ 8) (kk : ∀ r M2, post2 r M2 → WP k G n post z pc2 L (r.toList ++ S) M2) : WP k G n post z pc L (As.reverse ++ S) M := by
  obtain ⟨p, l, e, s, m, args, below, meth, c, D, dA, adK, adV, ad⟩ := z
  obtain ⟨hd, rfl⟩ := hd
  intro C H locs ls B
  refine wp_back C B (va_runS (As := As.map (tv ad)) (n := np) ⟨C.1, C.2.1, C.2.2.1, C.2.2.2.1, C.hts⟩ (hC l D dA adK adV ad) ⟨callB_of np C.hts (q_gin y hs.1.2.1) rfl rfl rfl (C.hts _ hs.1.1) (C.hts _ hs.2.1) hs.1.2.2.1 (rmd_fit hdn hs.1.2.2.2), C.hts _ hs.2.2⟩ ⟨blind_wo, fun U hU hW2 => ⟨rfl, wo_pre B.1 B.2.1 B.2.2.1 C.K C.inj C.str hU hW2⟩⟩ rfl (by rw [List.length_map]; exact hnp) B.2.2.2.1 (by simp [List.map_append, List.map_reverse]) (lv_room (by rw [cat_tv]; exact hW)) hd ⟨Nat.zero_le _, Nat.zero_le _⟩) kk
theorem r_callN {k : MD} {G : List GD} {n : Nat} {post : Option PV → Mem → Prop} {z : ZZ} {pc pc2 : Nat} {L : List (Option PV)} {S : List PV} {M : Mem} {idx np d : Nat} {y : MD} {As : List PV} {post2 : Option PV → Mem → Prop} (hd : Dk k pc (.invokestatic idx) 3 pc2) (hs : Cn k.1.cls idx y np) (hC : Con G d y As M post2) (hnp : As.length = np) (hdn : d < n) (hW : (S.map cat).sum ≤ 8) (kk : ∀ r M2, post2 r M2 → WP k G n post z pc2 L (r.toList ++ S) M2) : WP k G n post z pc L (As.reverse ++ S) M := by
  obtain ⟨p, l, e, s, m, args, below, meth, c, D, dA, adK, adV, ad⟩ := z
  obtain ⟨hd, rfl⟩ := hd
  intro C H locs ls B
  obtain ⟨h1, ⟨host, h2⟩, h3⟩ := hs
  refine wp_back C B (va_runSN (As := As.map (tv ad)) (n := np) ⟨C.1, C.2.1, C.2.2.1, C.2.2.2.1, C.hts⟩ (hC l D dA adK adV ad) ⟨va_cnB np C.hts (q_gin y h1.2.1) rfl rfl rfl (C.str.2.2.1 _ h2) (C.hts _ h1.1) h1.2.2.1 (rmd_fit hdn h1.2.2.2), C.hts _ h3, trivial⟩ ⟨blind_wo, fun U hU hW2 => ⟨rfl, wo_pre B.1 B.2.1 B.2.2.1 C.K C.inj C.str hU hW2⟩⟩ rfl (by rw [List.length_map]; exact hnp) B.2.2.2.1 (by simp [List.map_append, List.map_reverse]) (lv_room (by rw [cat_tv]; exact hW)) hd ⟨Nat.zero_le _, Nat.zero_le _⟩) kk
theorem r_callV {k : MD} {G : List GD} {n : Nat} {post : Option PV → Mem → Prop} {z : ZZ} {pc pc2 : Nat} {L : List (Option PV)} {S : List PV} {M : Mem} {idx np d ci q : Nat} {fs : List (Option Nat)} {y : MD} {As : List PV} {post2 : Option PV → Mem → Prop} (hd : Dk k pc (.invokevirtual idx) 3 pc2) (hs : Cv k.1.cls idx y np ci) (hg : G[q]? = some (.inl (ci, fs))) (hC : Con G d y (rv q :: As) M post2) (hnp : As.length = np) (hdn : d < n) (hW : (S.map cat).sum ≤ 8) (kk : ∀ r M2, post2 r M2 → WP k G n post z pc2 L (r.toList ++ S) M2) : WP k G n post z pc L (As.reverse ++ rv q :: S) M := by
  obtain ⟨p, l, e, s, m, args, below, meth, c, D, dA, adK, adV, ad⟩ := z
  obtain ⟨hd, rfl⟩ := hd
  intro C H locs ls B
  obtain ⟨h1, h2, h3, h4, T, N, h5⟩ := hs
  refine wp_back C B (va_runV (As := As.map (tv ad)) (b := ad q) (n := np) ⟨C.1, C.2.1, C.2.2.1, C.2.2.2.1, C.hts⟩ (hC l D dA adK adV ad) ⟨callB_of np C.hts (q_gin y h1.2.1) rfl rfl rfl (C.hts _ h1.1) (C.hts _ h2) h1.2.2.1 (rmd_fit hdn h1.2.2.2), C.hts _ h3, C.hts _ h4⟩ ⟨blind_wo, va_recv C.K B.1 h5 (wld_get hg), fun U hU hW2 => ⟨rfl, wo_pre B.1 B.2.1 B.2.2.1 C.K C.inj C.str hU hW2⟩⟩ rfl (by rw [List.length_map]; exact hnp) B.2.2.2.1 (by simp [List.map_append, List.map_reverse, tv]) (lv_room (by rw [cat_tv]; exact hW)) hd ⟨Nat.zero_le _, Nat.zero_le _⟩) kk
/-- ends: a number, a long, nothing -/
def pI (Q : Int → Mem → Prop) : Option PV → Mem → Prop := fun r M => ∃ a, r = some (iv a) ∧ Q a M
def pJ (Q : Int → Mem → Prop) : Option PV → Mem → Prop := fun r M => ∃ a, r = some (jv a) ∧ Q a M
def pV (Q : Mem → Prop) : Option PV → Mem → Prop := fun r M => r = none ∧ Q M
theorem r_cSI0 {k : MD} {G : List GD} {n : Nat} {post : Option PV → Mem → Prop} {z : ZZ} {pc pc2 : Nat} {L : List (Option PV)} {S : List PV} {M : Mem} {idx d : Nat} {y : MD} {Qp : Int → Mem → Prop} (hd : Dk k pc (.invokestatic idx) 3 pc2) (hs : Cs k.1.cls idx y 0) (hC : Con G d y [] M (pI Qp)) (hdn : d < n) (hW : (S.map cat).sum ≤ 8) (kk : ∀ b M2, Qp b M2 → WP k G n post z pc2 L (iv b :: S) M2) : WP k G n post z pc L (S) M := r_callS hd hs hC rfl hdn hW (fun r M2 h => by obtain ⟨b, rfl, hb⟩ := h; exact kk b M2 hb)
theorem r_cSI1 {k : MD} {G : List GD} {n : Nat} {post : Option PV → Mem → Prop} {z : ZZ} {pc pc2 : Nat} {L : List (Option PV)} {S : List PV} {M : Mem} {idx d : Nat} {y : MD} {x0 : PV} {Qp : Int → Mem → Prop} (hd : Dk k pc (.invokestatic idx) 3 pc2) (hs : Cs k.1.cls idx y 1) (hC : Con G d y [x0] M (pI Qp)) (hdn : d < n) (hW : (S.map cat).sum ≤ 8) (kk : ∀ b M2, Qp b M2 → WP k G n post z pc2 L (iv b :: S) M2) : WP k G n post z pc L (x0 :: S) M := r_callS hd hs hC rfl hdn hW (fun r M2 h => by obtain ⟨b, rfl, hb⟩ := h; exact kk b M2 hb)
theorem r_cSI2 {k : MD} {G : List GD} {n : Nat} {post : Option PV → Mem → Prop} {z : ZZ} {pc pc2 : Nat} {L : List (Option PV)} {S : List PV} {M : Mem} {idx d : Nat} {y : MD} {x0 x1 : PV} {Qp : Int → Mem → Prop} (hd : Dk k pc (.invokestatic idx) 3 pc2) (hs : Cs k.1.cls idx y 2) (hC : Con G d y [x0, x1] M (pI Qp)) (hdn : d < n) (hW : (S.map cat).sum ≤ 8) (kk : ∀ b M2, Qp b M2 → WP k G n post z pc2 L (iv b :: S) M2) : WP k G n post z pc L (x1 :: x0 :: S) M := r_callS hd hs hC rfl hdn hW (fun r M2 h => by obtain ⟨b, rfl, hb⟩ := h; exact kk b M2 hb)
theorem r_cSI3 {k : MD} {G : List GD} {n : Nat} {post : Option PV → Mem → Prop} {z : ZZ} {pc pc2 : Nat} {L : List (Option PV)} {S : List PV} {M : Mem} {idx d : Nat} {y : MD} {x0 x1 x2 : PV} {Qp : Int → Mem → Prop} (hd : Dk k pc (.invokestatic idx) 3 pc2) (hs : Cs k.1.cls idx y 3) (hC : Con G d y [x0, x1, x2] M (pI Qp)) (hdn : d < n) (hW : (S.map cat).sum ≤ 8) (kk : ∀ b M2, Qp b M2 → WP k G n post z pc2 L (iv b :: S) M2) : WP k G n post z pc L (x2 :: x1 :: x0 :: S) M := r_callS hd hs hC rfl hdn hW (fun r M2 h => by obtain ⟨b, rfl, hb⟩ := h; exact kk b M2 hb)
theorem r_cSI4 {k : MD} {G : List GD} {n : Nat} {post : Option PV → Mem → Prop} {z : ZZ} {pc pc2 : Nat} {L : List (Option PV)} {S : List PV} {M : Mem} {idx d : Nat} {y : MD} {x0 x1 x2 x3 : PV} {Qp : Int → Mem → Prop} (hd : Dk k pc (.invokestatic idx) 3 pc2) (hs : Cs k.1.cls idx y 4) (hC : Con G d y [x0, x1, x2, x3] M (pI Qp)) (hdn : d < n) (hW : (S.map cat).sum ≤ 8) (kk : ∀ b M2, Qp b M2 → WP k G n post z pc2 L (iv b :: S) M2) : WP k G n post z pc L (x3 :: x2 :: x1 :: x0 :: S) M := r_callS hd hs hC rfl hdn hW (fun r M2 h => by obtain ⟨b, rfl, hb⟩ := h; exact kk b M2 hb)
theorem r_cSJ0 {k : MD} {G : List GD} {n : Nat} {post : Option PV → Mem → Prop} {z : ZZ} {pc pc2 : Nat} {L : List (Option PV)} {S : List PV} {M : Mem} {idx d : Nat} {y : MD} {Qp : Int → Mem → Prop} (hd : Dk k pc (.invokestatic idx) 3 pc2) (hs : Cs k.1.cls idx y 0) (hC : Con G d y [] M (pJ Qp)) (hdn : d < n) (hW : (S.map cat).sum ≤ 8) (kk : ∀ b M2, Qp b M2 → WP k G n post z pc2 L (jv b :: S) M2) : WP k G n post z pc L (S) M := r_callS hd hs hC rfl hdn hW (fun r M2 h => by obtain ⟨b, rfl, hb⟩ := h; exact kk b M2 hb)
theorem r_cSJ1 {k : MD} {G : List GD} {n : Nat} {post : Option PV → Mem → Prop} {z : ZZ} {pc pc2 : Nat} {L : List (Option PV)} {S : List PV} {M : Mem} {idx d : Nat} {y : MD} {x0 : PV} {Qp : Int → Mem → Prop} (hd : Dk k pc (.invokestatic idx) 3 pc2) (hs : Cs k.1.cls idx y 1) (hC : Con G d y [x0] M (pJ Qp)) (hdn : d < n) (hW : (S.map cat).sum ≤ 8) (kk : ∀ b M2, Qp b M2 → WP k G n post z pc2 L (jv b :: S) M2) : WP k G n post z pc L (x0 :: S) M := r_callS hd hs hC rfl hdn hW (fun r M2 h => by obtain ⟨b, rfl, hb⟩ := h; exact kk b M2 hb)
theorem r_cSJ2 {k : MD} {G : List GD} {n : Nat} {post : Option PV → Mem → Prop} {z : ZZ} {pc pc2 : Nat} {L : List (Option PV)} {S : List PV} {M : Mem} {idx d : Nat} {y : MD} {x0 x1 : PV} {Qp : Int → Mem → Prop} (hd : Dk k pc (.invokestatic idx) 3 pc2) (hs : Cs k.1.cls idx y 2) (hC : Con G d y [x0, x1] M (pJ Qp)) (hdn : d < n) (hW : (S.map cat).sum ≤ 8) (kk : ∀ b M2, Qp b M2 → WP k G n post z pc2 L (jv b :: S) M2) : WP k G n post z pc L (x1 :: x0 :: S) M := r_callS hd hs hC rfl hdn hW (fun r M2 h => by obtain ⟨b, rfl, hb⟩ := h; exact kk b M2 hb)
theorem r_cSJ3 {k : MD} {G : List GD} {n : Nat} {post : Option PV → Mem → Prop} {z : ZZ} {pc pc2 : Nat} {L : List (Option PV)} {S : List PV} {M : Mem} {idx d : Nat} {y : MD} {x0 x1 x2 : PV} {Qp : Int → Mem → Prop} (hd : Dk k pc (.invokestatic idx) 3 pc2) (hs : Cs k.1.cls idx y 3) (hC : Con G d y [x0, x1, x2] M (pJ Qp)) (hdn : d < n) (hW : (S.map cat).sum ≤ 8) (kk : ∀ b M2, Qp b M2 → WP k G n post z pc2 L (jv b :: S) M2) : WP k G n post z pc L (x2 :: x1 :: x0 :: S) M := r_callS hd hs hC rfl hdn hW (fun r M2 h => by obtain ⟨b, rfl, hb⟩ := h; exact kk b M2 hb)
theorem r_cSJ4 {k : MD} {G : List GD} {n : Nat} {post : Option PV → Mem → Prop} {z : ZZ} {pc pc2 : Nat} {L : List (Option PV)} {S : List PV} {M : Mem} {idx d : Nat} {y : MD} {x0 x1 x2 x3 : PV} {Qp : Int → Mem → Prop} (hd : Dk k pc (.invokestatic idx) 3 pc2) (hs : Cs k.1.cls idx y 4) (hC : Con G d y [x0, x1, x2, x3] M (pJ Qp)) (hdn : d < n) (hW : (S.map cat).sum ≤ 8) (kk : ∀ b M2, Qp b M2 → WP k G n post z pc2 L (jv b :: S) M2) : WP k G n post z pc L (x3 :: x2 :: x1 :: x0 :: S) M := r_callS hd hs hC rfl hdn hW (fun r M2 h => by obtain ⟨b, rfl, hb⟩ := h; exact kk b M2 hb)
theorem r_cSV0 {k : MD} {G : List GD} {n : Nat} {post : Option PV → Mem → Prop} {z : ZZ} {pc pc2 : Nat} {L : List (Option PV)} {S : List PV} {M : Mem} {idx d : Nat} {y : MD} {Qp : Mem → Prop} (hd : Dk k pc (.invokestatic idx) 3 pc2) (hs : Cs k.1.cls idx y 0) (hC : Con G d y [] M (pV Qp)) (hdn : d < n) (hW : (S.map cat).sum ≤ 8) (kk : ∀ M2, Qp M2 → WP k G n post z pc2 L S M2) : WP k G n post z pc L (S) M := r_callS hd hs hC rfl hdn hW (fun r M2 h => by obtain ⟨rfl, hb⟩ := h; exact kk M2 hb)
theorem r_cSV1 {k : MD} {G : List GD} {n : Nat} {post : Option PV → Mem → Prop} {z : ZZ} {pc pc2 : Nat} {L : List (Option PV)} {S : List PV} {M : Mem} {idx d : Nat} {y : MD} {x0 : PV} {Qp : Mem → Prop} (hd : Dk k pc (.invokestatic idx) 3 pc2) (hs : Cs k.1.cls idx y 1) (hC : Con G d y [x0] M (pV Qp)) (hdn : d < n) (hW : (S.map cat).sum ≤ 8) (kk : ∀ M2, Qp M2 → WP k G n post z pc2 L S M2) : WP k G n post z pc L (x0 :: S) M := r_callS hd hs hC rfl hdn hW (fun r M2 h => by obtain ⟨rfl, hb⟩ := h; exact kk M2 hb)
theorem r_cSV2 {k : MD} {G : List GD} {n : Nat} {post : Option PV → Mem → Prop} {z : ZZ} {pc pc2 : Nat} {L : List (Option PV)} {S : List PV} {M : Mem} {idx d : Nat} {y : MD} {x0 x1 : PV} {Qp : Mem → Prop} (hd : Dk k pc (.invokestatic idx) 3 pc2) (hs : Cs k.1.cls idx y 2) (hC : Con G d y [x0, x1] M (pV Qp)) (hdn : d < n) (hW : (S.map cat).sum ≤ 8) (kk : ∀ M2, Qp M2 → WP k G n post z pc2 L S M2) : WP k G n post z pc L (x1 :: x0 :: S) M := r_callS hd hs hC rfl hdn hW (fun r M2 h => by obtain ⟨rfl, hb⟩ := h; exact kk M2 hb)
theorem r_cSV3 {k : MD} {G : List GD} {n : Nat} {post : Option PV → Mem → Prop} {z : ZZ} {pc pc2 : Nat} {L : List (Option PV)} {S : List PV} {M : Mem} {idx d : Nat} {y : MD} {x0 x1 x2 : PV} {Qp : Mem → Prop} (hd : Dk k pc (.invokestatic idx) 3 pc2) (hs : Cs k.1.cls idx y 3) (hC : Con G d y [x0, x1, x2] M (pV Qp)) (hdn : d < n) (hW : (S.map cat).sum ≤ 8) (kk : ∀ M2, Qp M2 → WP k G n post z pc2 L S M2) : WP k G n post z pc L (x2 :: x1 :: x0 :: S) M := r_callS hd hs hC rfl hdn hW (fun r M2 h => by obtain ⟨rfl, hb⟩ := h; exact kk M2 hb)
theorem r_cSV4 {k : MD} {G : List GD} {n : Nat} {post : Option PV → Mem → Prop} {z : ZZ} {pc pc2 : Nat} {L : List (Option PV)} {S : List PV} {M : Mem} {idx d : Nat} {y : MD} {x0 x1 x2 x3 : PV} {Qp : Mem → Prop} (hd : Dk k pc (.invokestatic idx) 3 pc2) (hs : Cs k.1.cls idx y 4) (hC : Con G d y [x0, x1, x2, x3] M (pV Qp)) (hdn : d < n) (hW : (S.map cat).sum ≤ 8) (kk : ∀ M2, Qp M2 → WP k G n post z pc2 L S M2) : WP k G n post z pc L (x3 :: x2 :: x1 :: x0 :: S) M := r_callS hd hs hC rfl hdn hW (fun r M2 h => by obtain ⟨rfl, hb⟩ := h; exact kk M2 hb)
theorem r_cNI0 {k : MD} {G : List GD} {n : Nat} {post : Option PV → Mem → Prop} {z : ZZ} {pc pc2 : Nat} {L : List (Option PV)} {S : List PV} {M : Mem} {idx d : Nat} {y : MD} {Qp : Int → Mem → Prop} (hd : Dk k pc (.invokestatic idx) 3 pc2) (hs : Cn k.1.cls idx y 0) (hC : Con G d y [] M (pI Qp)) (hdn : d < n) (hW : (S.map cat).sum ≤ 8) (kk : ∀ b M2, Qp b M2 → WP k G n post z pc2 L (iv b :: S) M2) : WP k G n post z pc L (S) M := r_callN hd hs hC rfl hdn hW (fun r M2 h => by obtain ⟨b, rfl, hb⟩ := h; exact kk b M2 hb)
theorem r_cNI1 {k : MD} {G : List GD} {n : Nat} {post : Option PV → Mem → Prop} {z : ZZ} {pc pc2 : Nat} {L : List (Option PV)} {S : List PV} {M : Mem} {idx d : Nat} {y : MD} {x0 : PV} {Qp : Int → Mem → Prop} (hd : Dk k pc (.invokestatic idx) 3 pc2) (hs : Cn k.1.cls idx y 1) (hC : Con G d y [x0] M (pI Qp)) (hdn : d < n) (hW : (S.map cat).sum ≤ 8) (kk : ∀ b M2, Qp b M2 → WP k G n post z pc2 L (iv b :: S) M2) : WP k G n post z pc L (x0 :: S) M := r_callN hd hs hC rfl hdn hW (fun r M2 h => by obtain ⟨b, rfl, hb⟩ := h; exact kk b M2 hb)
theorem r_cNI2 {k : MD} {G : List GD} {n : Nat} {post : Option PV → Mem → Prop} {z : ZZ} {pc pc2 : Nat} {L : List (Option PV)} {S : List PV} {M : Mem} {idx d : Nat} {y : MD} {x0 x1 : PV} {Qp : Int → Mem → Prop} (hd : Dk k pc (.invokestatic idx) 3 pc2) (hs : Cn k.1.cls idx y 2) (hC : Con G d y [x0, x1] M (pI Qp)) (hdn : d < n) (hW : (S.map cat).sum ≤ 8) (kk : ∀ b M2, Qp b M2 → WP k G n post z pc2 L (iv b :: S) M2) : WP k G n post z pc L (x1 :: x0 :: S) M := r_callN hd hs hC rfl hdn hW (fun r M2 h => by obtain ⟨b, rfl, hb⟩ := h; exact kk b M2 hb)
theorem r_cNI3 {k : MD} {G : List GD} {n : Nat} {post : Option PV → Mem → Prop} {z : ZZ} {pc pc2 : Nat} {L : List (Option PV)} {S : List PV} {M : Mem} {idx d : Nat} {y : MD} {x0 x1 x2 : PV} {Qp : Int → Mem → Prop} (hd : Dk k pc (.invokestatic idx) 3 pc2) (hs : Cn k.1.cls idx y 3) (hC : Con G d y [x0, x1, x2] M (pI Qp)) (hdn : d < n) (hW : (S.map cat).sum ≤ 8) (kk : ∀ b M2, Qp b M2 → WP k G n post z pc2 L (iv b :: S) M2) : WP k G n post z pc L (x2 :: x1 :: x0 :: S) M := r_callN hd hs hC rfl hdn hW (fun r M2 h => by obtain ⟨b, rfl, hb⟩ := h; exact kk b M2 hb)
theorem r_cNI4 {k : MD} {G : List GD} {n : Nat} {post : Option PV → Mem → Prop} {z : ZZ} {pc pc2 : Nat} {L : List (Option PV)} {S : List PV} {M : Mem} {idx d : Nat} {y : MD} {x0 x1 x2 x3 : PV} {Qp : Int → Mem → Prop} (hd : Dk k pc (.invokestatic idx) 3 pc2) (hs : Cn k.1.cls idx y 4) (hC : Con G d y [x0, x1, x2, x3] M (pI Qp)) (hdn : d < n) (hW : (S.map cat).sum ≤ 8) (kk : ∀ b M2, Qp b M2 → WP k G n post z pc2 L (iv b :: S) M2) : WP k G n post z pc L (x3 :: x2 :: x1 :: x0 :: S) M := r_callN hd hs hC rfl hdn hW (fun r M2 h => by obtain ⟨b, rfl, hb⟩ := h; exact kk b M2 hb)
theorem r_cNJ0 {k : MD} {G : List GD} {n : Nat} {post : Option PV → Mem → Prop} {z : ZZ} {pc pc2 : Nat} {L : List (Option PV)} {S : List PV} {M : Mem} {idx d : Nat} {y : MD} {Qp : Int → Mem → Prop} (hd : Dk k pc (.invokestatic idx) 3 pc2) (hs : Cn k.1.cls idx y 0) (hC : Con G d y [] M (pJ Qp)) (hdn : d < n) (hW : (S.map cat).sum ≤ 8) (kk : ∀ b M2, Qp b M2 → WP k G n post z pc2 L (jv b :: S) M2) : WP k G n post z pc L (S) M := r_callN hd hs hC rfl hdn hW (fun r M2 h => by obtain ⟨b, rfl, hb⟩ := h; exact kk b M2 hb)
theorem r_cNJ1 {k : MD} {G : List GD} {n : Nat} {post : Option PV → Mem → Prop} {z : ZZ} {pc pc2 : Nat} {L : List (Option PV)} {S : List PV} {M : Mem} {idx d : Nat} {y : MD} {x0 : PV} {Qp : Int → Mem → Prop} (hd : Dk k pc (.invokestatic idx) 3 pc2) (hs : Cn k.1.cls idx y 1) (hC : Con G d y [x0] M (pJ Qp)) (hdn : d < n) (hW : (S.map cat).sum ≤ 8) (kk : ∀ b M2, Qp b M2 → WP k G n post z pc2 L (jv b :: S) M2) : WP k G n post z pc L (x0 :: S) M := r_callN hd hs hC rfl hdn hW (fun r M2 h => by obtain ⟨b, rfl, hb⟩ := h; exact kk b M2 hb)
theorem r_cNJ2 {k : MD} {G : List GD} {n : Nat} {post : Option PV → Mem → Prop} {z : ZZ} {pc pc2 : Nat} {L : List (Option PV)} {S : List PV} {M : Mem} {idx d : Nat} {y : MD} {x0 x1 : PV} {Qp : Int → Mem → Prop} (hd : Dk k pc (.invokestatic idx) 3 pc2) (hs : Cn k.1.cls idx y 2) (hC : Con G d y [x0, x1] M (pJ Qp)) (hdn : d < n) (hW : (S.map cat).sum ≤ 8) (kk : ∀ b M2, Qp b M2 → WP k G n post z pc2 L (jv b :: S) M2) : WP k G n post z pc L (x1 :: x0 :: S) M := r_callN hd hs hC rfl hdn hW (fun r M2 h => by obtain ⟨b, rfl, hb⟩ := h; exact kk b M2 hb)
theorem r_cNJ3 {k : MD} {G : List GD} {n : Nat} {post : Option PV → Mem → Prop} {z : ZZ} {pc pc2 : Nat} {L : List (Option PV)} {S : List PV} {M : Mem} {idx d : Nat} {y : MD} {x0 x1 x2 : PV} {Qp : Int → Mem → Prop} (hd : Dk k pc (.invokestatic idx) 3 pc2) (hs : Cn k.1.cls idx y 3) (hC : Con G d y [x0, x1, x2] M (pJ Qp)) (hdn : d < n) (hW : (S.map cat).sum ≤ 8) (kk : ∀ b M2, Qp b M2 → WP k G n post z pc2 L (jv b :: S) M2) : WP k G n post z pc L (x2 :: x1 :: x0 :: S) M := r_callN hd hs hC rfl hdn hW (fun r M2 h => by obtain ⟨b, rfl, hb⟩ := h; exact kk b M2 hb)
theorem r_cNJ4 {k : MD} {G : List GD} {n : Nat} {post : Option PV → Mem → Prop} {z : ZZ} {pc pc2 : Nat} {L : List (Option PV)} {S : List PV} {M : Mem} {idx d : Nat} {y : MD} {x0 x1 x2 x3 : PV} {Qp : Int → Mem → Prop} (hd : Dk k pc (.invokestatic idx) 3 pc2) (hs : Cn k.1.cls idx y 4) (hC : Con G d y [x0, x1, x2, x3] M (pJ Qp)) (hdn : d < n) (hW : (S.map cat).sum ≤ 8) (kk : ∀ b M2, Qp b M2 → WP k G n post z pc2 L (jv b :: S) M2) : WP k G n post z pc L (x3 :: x2 :: x1 :: x0 :: S) M := r_callN hd hs hC rfl hdn hW (fun r M2 h => by obtain ⟨b, rfl, hb⟩ := h; exact kk b M2 hb)
theorem r_cNV0 {k : MD} {G : List GD} {n : Nat} {post : Option PV → Mem → Prop} {z : ZZ} {pc pc2 : Nat} {L : List (Option PV)} {S : List PV} {M : Mem} {idx d : Nat} {y : MD} {Qp : Mem → Prop} (hd : Dk k pc (.invokestatic idx) 3 pc2) (hs : Cn k.1.cls idx y 0) (hC : Con G d y [] M (pV Qp)) (hdn : d < n) (hW : (S.map cat).sum ≤ 8) (kk : ∀ M2, Qp M2 → WP k G n post z pc2 L S M2) : WP k G n post z pc L (S) M := r_callN hd hs hC rfl hdn hW (fun r M2 h => by obtain ⟨rfl, hb⟩ := h; exact kk M2 hb)
theorem r_cNV1 {k : MD} {G : List GD} {n : Nat} {post : Option PV → Mem → Prop} {z : ZZ} {pc pc2 : Nat} {L : List (Option PV)} {S : List PV} {M : Mem} {idx d : Nat} {y : MD} {x0 : PV} {Qp : Mem → Prop} (hd : Dk k pc (.invokestatic idx) 3 pc2) (hs : Cn k.1.cls idx y 1) (hC : Con G d y [x0] M (pV Qp)) (hdn : d < n) (hW : (S.map cat).sum ≤ 8) (kk : ∀ M2, Qp M2 → WP k G n post z pc2 L S M2) : WP k G n post z pc L (x0 :: S) M := r_callN hd hs hC rfl hdn hW (fun r M2 h => by obtain ⟨rfl, hb⟩ := h; exact kk M2 hb)
theorem r_cNV2 {k : MD} {G : List GD} {n : Nat} {post : Option PV → Mem → Prop} {z : ZZ} {pc pc2 : Nat} {L : List (Option PV)} {S : List PV} {M : Mem} {idx d : Nat} {y : MD} {x0 x1 : PV} {Qp : Mem → Prop} (hd : Dk k pc (.invokestatic idx) 3 pc2) (hs : Cn k.1.cls idx y 2) (hC : Con G d y [x0, x1] M (pV Qp)) (hdn : d < n) (hW : (S.map cat).sum ≤ 8) (kk : ∀ M2, Qp M2 → WP k G n post z pc2 L S M2) : WP k G n post z pc L (x1 :: x0 :: S) M := r_callN hd hs hC rfl hdn hW (fun r M2 h => by obtain ⟨rfl, hb⟩ := h; exact kk M2 hb)
theorem r_cNV3 {k : MD} {G : List GD} {n : Nat} {post : Option PV → Mem → Prop} {z : ZZ} {pc pc2 : Nat} {L : List (Option PV)} {S : List PV} {M : Mem} {idx d : Nat} {y : MD} {x0 x1 x2 : PV} {Qp : Mem → Prop} (hd : Dk k pc (.invokestatic idx) 3 pc2) (hs : Cn k.1.cls idx y 3) (hC : Con G d y [x0, x1, x2] M (pV Qp)) (hdn : d < n) (hW : (S.map cat).sum ≤ 8) (kk : ∀ M2, Qp M2 → WP k G n post z pc2 L S M2) : WP k G n post z pc L (x2 :: x1 :: x0 :: S) M := r_callN hd hs hC rfl hdn hW (fun r M2 h => by obtain ⟨rfl, hb⟩ := h; exact kk M2 hb)
theorem r_cNV4 {k : MD} {G : List GD} {n : Nat} {post : Option PV → Mem → Prop} {z : ZZ} {pc pc2 : Nat} {L : List (Option PV)} {S : List PV} {M : Mem} {idx d : Nat} {y : MD} {x0 x1 x2 x3 : PV} {Qp : Mem → Prop} (hd : Dk k pc (.invokestatic idx) 3 pc2) (hs : Cn k.1.cls idx y 4) (hC : Con G d y [x0, x1, x2, x3] M (pV Qp)) (hdn : d < n) (hW : (S.map cat).sum ≤ 8) (kk : ∀ M2, Qp M2 → WP k G n post z pc2 L S M2) : WP k G n post z pc L (x3 :: x2 :: x1 :: x0 :: S) M := r_callN hd hs hC rfl hdn hW (fun r M2 h => by obtain ⟨rfl, hb⟩ := h; exact kk M2 hb)
theorem r_cVI0 {k : MD} {G : List GD} {n : Nat} {post : Option PV → Mem → Prop} {z : ZZ} {pc pc2 : Nat} {L : List (Option PV)} {S : List PV} {M : Mem} {idx d ci q : Nat} {fs : List (Option Nat)} {y : MD} {Qp : Int → Mem → Prop} (hd : Dk k pc (.invokevirtual idx) 3 pc2) (hs : Cv k.1.cls idx y 0 ci) (hg : G[q]? = some (.inl (ci, fs))) (hC : Con G d y (rv q :: []) M (pI Qp)) (hdn : d < n) (hW : (S.map cat).sum ≤ 8) (kk : ∀ b M2, Qp b M2 → WP k G n post z pc2 L (iv b :: S) M2) : WP k G n post z pc L (rv q :: S) M := r_callV hd hs hg hC rfl hdn hW (fun r M2 h => by obtain ⟨b, rfl, hb⟩ := h; exact kk b M2 hb)
theorem r_cVI1 {k : MD} {G : List GD} {n : Nat} {post : Option PV → Mem → Prop} {z : ZZ} {pc pc2 : Nat} {L : List (Option PV)} {S : List PV} {M : Mem} {idx d ci q : Nat} {fs : List (Option Nat)} {y : MD} {x0 : PV} {Qp : Int → Mem → Prop} (hd : Dk k pc (.invokevirtual idx) 3 pc2) (hs : Cv k.1.cls idx y 1 ci) (hg : G[q]? = some (.inl (ci, fs))) (hC : Con G d y (rv q :: [x0]) M (pI Qp)) (hdn : d < n) (hW : (S.map cat).sum ≤ 8) (kk : ∀ b M2, Qp b M2 → WP k G n post z pc2 L (iv b :: S) M2) : WP k G n post z pc L (x0 :: rv q :: S) M := r_callV hd hs hg hC rfl hdn hW (fun r M2 h => by obtain ⟨b, rfl, hb⟩ := h; exact kk b M2 hb)
theorem r_cVI2 {k : MD} {G : List GD} {n : Nat} {post : Option PV → Mem → Prop} {z : ZZ} {pc pc2 : Nat} {L : List (Option PV)} {S : List PV} {M : Mem} {idx d ci q : Nat} {fs : List (Option Nat)} {y : MD} {x0 x1 : PV} {Qp : Int → Mem → Prop} (hd : Dk k pc (.invokevirtual idx) 3 pc2) (hs : Cv k.1.cls idx y 2 ci) (hg : G[q]? = some (.inl (ci, fs))) (hC : Con G d y (rv q :: [x0, x1]) M (pI Qp)) (hdn : d < n) (hW : (S.map cat).sum ≤ 8) (kk : ∀ b M2, Qp b M2 → WP k G n post z pc2 L (iv b :: S) M2) : WP k G n post z pc L (x1 :: x0 :: rv q :: S) M := r_callV hd hs hg hC rfl hdn hW (fun r M2 h => by obtain ⟨b, rfl, hb⟩ := h; exact kk b M2 hb)
theorem r_cVI3 {k : MD} {G : List GD} {n : Nat} {post : Option PV → Mem → Prop} {z : ZZ} {pc pc2 : Nat} {L : List (Option PV)} {S : List PV} {M : Mem} {idx d ci q : Nat} {fs : List (Option Nat)} {y : MD} {x0 x1 x2 : PV} {Qp : Int → Mem → Prop} (hd : Dk k pc (.invokevirtual idx) 3 pc2) (hs : Cv k.1.cls idx y 3 ci) (hg : G[q]? = some (.inl (ci, fs))) (hC : Con G d y (rv q :: [x0, x1, x2]) M (pI Qp)) (hdn : d < n) (hW : (S.map cat).sum ≤ 8) (kk : ∀ b M2, Qp b M2 → WP k G n post z pc2 L (iv b :: S) M2) : WP k G n post z pc L (x2 :: x1 :: x0 :: rv q :: S) M := r_callV hd hs hg hC rfl hdn hW (fun r M2 h => by obtain ⟨b, rfl, hb⟩ := h; exact kk b M2 hb)
theorem r_cVI4 {k : MD} {G : List GD} {n : Nat} {post : Option PV → Mem → Prop} {z : ZZ} {pc pc2 : Nat} {L : List (Option PV)} {S : List PV} {M : Mem} {idx d ci q : Nat} {fs : List (Option Nat)} {y : MD} {x0 x1 x2 x3 : PV} {Qp : Int → Mem → Prop} (hd : Dk k pc (.invokevirtual idx) 3 pc2) (hs : Cv k.1.cls idx y 4 ci) (hg : G[q]? = some (.inl (ci, fs))) (hC : Con G d y (rv q :: [x0, x1, x2, x3]) M (pI Qp)) (hdn : d < n) (hW : (S.map cat).sum ≤ 8) (kk : ∀ b M2, Qp b M2 → WP k G n post z pc2 L (iv b :: S) M2) : WP k G n post z pc L (x3 :: x2 :: x1 :: x0 :: rv q :: S) M := r_callV hd hs hg hC rfl hdn hW (fun r M2 h => by obtain ⟨b, rfl, hb⟩ := h; exact kk b M2 hb)
theorem r_cVJ0 {k : MD} {G : List GD} {n : Nat} {post : Option PV → Mem → Prop} {z : ZZ} {pc pc2 : Nat} {L : List (Option PV)} {S : List PV} {M : Mem} {idx d ci q : Nat} {fs : List (Option Nat)} {y : MD} {Qp : Int → Mem → Prop} (hd : Dk k pc (.invokevirtual idx) 3 pc2) (hs : Cv k.1.cls idx y 0 ci) (hg : G[q]? = some (.inl (ci, fs))) (hC : Con G d y (rv q :: []) M (pJ Qp)) (hdn : d < n) (hW : (S.map cat).sum ≤ 8) (kk : ∀ b M2, Qp b M2 → WP k G n post z pc2 L (jv b :: S) M2) : WP k G n post z pc L (rv q :: S) M := r_callV hd hs hg hC rfl hdn hW (fun r M2 h => by obtain ⟨b, rfl, hb⟩ := h; exact kk b M2 hb)
theorem r_cVJ1 {k : MD} {G : List GD} {n : Nat} {post : Option PV → Mem → Prop} {z : ZZ} {pc pc2 : Nat} {L : List (Option PV)} {S : List PV} {M : Mem} {idx d ci q : Nat} {fs : List (Option Nat)} {y : MD} {x0 : PV} {Qp : Int → Mem → Prop} (hd : Dk k pc (.invokevirtual idx) 3 pc2) (hs : Cv k.1.cls idx y 1 ci) (hg : G[q]? = some (.inl (ci, fs))) (hC : Con G d y (rv q :: [x0]) M (pJ Qp)) (hdn : d < n) (hW : (S.map cat).sum ≤ 8) (kk : ∀ b M2, Qp b M2 → WP k G n post z pc2 L (jv b :: S) M2) : WP k G n post z pc L (x0 :: rv q :: S) M := r_callV hd hs hg hC rfl hdn hW (fun r M2 h => by obtain ⟨b, rfl, hb⟩ := h; exact kk b M2 hb)
theorem r_cVJ2 {k : MD} {G : List GD} {n : Nat} {post : Option PV → Mem → Prop} {z : ZZ} {pc pc2 : Nat} {L : List (Option PV)} {S : List PV} {M : Mem} {idx d ci q : Nat} {fs : List (Option Nat)} {y : MD} {x0 x1 : PV} {Qp : Int → Mem → Prop} (hd : Dk k pc (.invokevirtual idx) 3 pc2) (hs : Cv k.1.cls idx y 2 ci) (hg : G[q]? = some (.inl (ci, fs))) (hC : Con G d y (rv q :: [x0, x1]) M (pJ Qp)) (hdn : d < n) (hW : (S.map cat).sum ≤ 8) (kk : ∀ b M2, Qp b M2 → WP k G n post z pc2 L (jv b :: S) M2) : WP k G n post z pc L (x1 :: x0 :: rv q :: S) M := r_callV hd hs hg hC rfl hdn hW (fun r M2 h => by obtain ⟨b, rfl, hb⟩ := h; exact kk b M2 hb)
theorem r_cVJ3 {k : MD} {G : List GD} {n : Nat} {post : Option PV → Mem → Prop} {z : ZZ} {pc pc2 : Nat} {L : List (Option PV)} {S : List PV} {M : Mem} {idx d ci q : Nat} {fs : List (Option Nat)} {y : MD} {x0 x1 x2 : PV} {Qp : Int → Mem → Prop} (hd : Dk k pc (.invokevirtual idx) 3 pc2) (hs : Cv k.1.cls idx y 3 ci) (hg : G[q]? = some (.inl (ci, fs))) (hC : Con G d y (rv q :: [x0, x1, x2]) M (pJ Qp)) (hdn : d < n) (hW : (S.map cat).sum ≤ 8) (kk : ∀ b M2, Qp b M2 → WP k G n post z pc2 L (jv b :: S) M2) : WP k G n post z pc L (x2 :: x1 :: x0 :: rv q :: S) M := r_callV hd hs hg hC rfl hdn hW (fun r M2 h => by obtain ⟨b, rfl, hb⟩ := h; exact kk b M2 hb)
theorem r_cVJ4 {k : MD} {G : List GD} {n : Nat} {post : Option PV → Mem → Prop} {z : ZZ} {pc pc2 : Nat} {L : List (Option PV)} {S : List PV} {M : Mem} {idx d ci q : Nat} {fs : List (Option Nat)} {y : MD} {x0 x1 x2 x3 : PV} {Qp : Int → Mem → Prop} (hd : Dk k pc (.invokevirtual idx) 3 pc2) (hs : Cv k.1.cls idx y 4 ci) (hg : G[q]? = some (.inl (ci, fs))) (hC : Con G d y (rv q :: [x0, x1, x2, x3]) M (pJ Qp)) (hdn : d < n) (hW : (S.map cat).sum ≤ 8) (kk : ∀ b M2, Qp b M2 → WP k G n post z pc2 L (jv b :: S) M2) : WP k G n post z pc L (x3 :: x2 :: x1 :: x0 :: rv q :: S) M := r_callV hd hs hg hC rfl hdn hW (fun r M2 h => by obtain ⟨b, rfl, hb⟩ := h; exact kk b M2 hb)
theorem r_cVV0 {k : MD} {G : List GD} {n : Nat} {post : Option PV → Mem → Prop} {z : ZZ} {pc pc2 : Nat} {L : List (Option PV)} {S : List PV} {M : Mem} {idx d ci q : Nat} {fs : List (Option Nat)} {y : MD} {Qp : Mem → Prop} (hd : Dk k pc (.invokevirtual idx) 3 pc2) (hs : Cv k.1.cls idx y 0 ci) (hg : G[q]? = some (.inl (ci, fs))) (hC : Con G d y (rv q :: []) M (pV Qp)) (hdn : d < n) (hW : (S.map cat).sum ≤ 8) (kk : ∀ M2, Qp M2 → WP k G n post z pc2 L S M2) : WP k G n post z pc L (rv q :: S) M := r_callV hd hs hg hC rfl hdn hW (fun r M2 h => by obtain ⟨rfl, hb⟩ := h; exact kk M2 hb)
theorem r_cVV1 {k : MD} {G : List GD} {n : Nat} {post : Option PV → Mem → Prop} {z : ZZ} {pc pc2 : Nat} {L : List (Option PV)} {S : List PV} {M : Mem} {idx d ci q : Nat} {fs : List (Option Nat)} {y : MD} {x0 : PV} {Qp : Mem → Prop} (hd : Dk k pc (.invokevirtual idx) 3 pc2) (hs : Cv k.1.cls idx y 1 ci) (hg : G[q]? = some (.inl (ci, fs))) (hC : Con G d y (rv q :: [x0]) M (pV Qp)) (hdn : d < n) (hW : (S.map cat).sum ≤ 8) (kk : ∀ M2, Qp M2 → WP k G n post z pc2 L S M2) : WP k G n post z pc L (x0 :: rv q :: S) M := r_callV hd hs hg hC rfl hdn hW (fun r M2 h => by obtain ⟨rfl, hb⟩ := h; exact kk M2 hb)
theorem r_cVV2 {k : MD} {G : List GD} {n : Nat} {post : Option PV → Mem → Prop} {z : ZZ} {pc pc2 : Nat} {L : List (Option PV)} {S : List PV} {M : Mem} {idx d ci q : Nat} {fs : List (Option Nat)} {y : MD} {x0 x1 : PV} {Qp : Mem → Prop} (hd : Dk k pc (.invokevirtual idx) 3 pc2) (hs : Cv k.1.cls idx y 2 ci) (hg : G[q]? = some (.inl (ci, fs))) (hC : Con G d y (rv q :: [x0, x1]) M (pV Qp)) (hdn : d < n) (hW : (S.map cat).sum ≤ 8) (kk : ∀ M2, Qp M2 → WP k G n post z pc2 L S M2) : WP k G n post z pc L (x1 :: x0 :: rv q :: S) M := r_callV hd hs hg hC rfl hdn hW (fun r M2 h => by obtain ⟨rfl, hb⟩ := h; exact kk M2 hb)
theorem r_cVV3 {k : MD} {G : List GD} {n : Nat} {post : Option PV → Mem → Prop} {z : ZZ} {pc pc2 : Nat} {L : List (Option PV)} {S : List PV} {M : Mem} {idx d ci q : Nat} {fs : List (Option Nat)} {y : MD} {x0 x1 x2 : PV} {Qp : Mem → Prop} (hd : Dk k pc (.invokevirtual idx) 3 pc2) (hs : Cv k.1.cls idx y 3 ci) (hg : G[q]? = some (.inl (ci, fs))) (hC : Con G d y (rv q :: [x0, x1, x2]) M (pV Qp)) (hdn : d < n) (hW : (S.map cat).sum ≤ 8) (kk : ∀ M2, Qp M2 → WP k G n post z pc2 L S M2) : WP k G n post z pc L (x2 :: x1 :: x0 :: rv q :: S) M := r_callV hd hs hg hC rfl hdn hW (fun r M2 h => by obtain ⟨rfl, hb⟩ := h; exact kk M2 hb)
theorem r_cVV4 {k : MD} {G : List GD} {n : Nat} {post : Option PV → Mem → Prop} {z : ZZ} {pc pc2 : Nat} {L : List (Option PV)} {S : List PV} {M : Mem} {idx d ci q : Nat} {fs : List (Option Nat)} {y : MD} {x0 x1 x2 x3 : PV} {Qp : Mem → Prop} (hd : Dk k pc (.invokevirtual idx) 3 pc2) (hs : Cv k.1.cls idx y 4 ci) (hg : G[q]? = some (.inl (ci, fs))) (hC : Con G d y (rv q :: [x0, x1, x2, x3]) M (pV Qp)) (hdn : d < n) (hW : (S.map cat).sum ≤ 8) (kk : ∀ M2, Qp M2 → WP k G n post z pc2 L S M2) : WP k G n post z pc L (x3 :: x2 :: x1 :: x0 :: rv q :: S) M := r_callV hd hs hg hC rfl hdn hW (fun r M2 h => by obtain ⟨rfl, hb⟩ := h; exact kk M2 hb)
theorem r_ireturn {k : MD} {G : List GD} {n : Nat} {post : Option PV → Mem → Prop} {z : ZZ} {pc pc2 : Nat} {L : List (Option PV)} {M : Mem} {a : Int} (hd : Dk k pc (.ireturn) 1 pc2) (hr : k.2.2.2 = some .int) (hp : post (some (iv a)) M) : WP k G n post z pc L [iv a] M := by
  obtain ⟨p, l, e, s, m, args, below, meth, c, D, dA, adK, adV, ad⟩ := z
  obtain ⟨hd, -⟩ := hd
  intro C H locs ls B
  have hlocks : meth.locks = false := C.2.2.2.2.2.1
  refine W.iret C.1 C.2.1 (C.2.2.2.2.2.2.1.trans hr) (fun t ht hW => ?_) B.2.2.1.2.2 hd
  exact ⟨⟨some (iv a), M, rfl, hp, wo_pre B.1 B.2.1 B.2.2.1 C.K C.inj C.str ht hW⟩, B.2.2.1.F ht⟩
theorem r_zreturn {k : MD} {G : List GD} {n : Nat} {post : Option PV → Mem → Prop} {z : ZZ} {pc pc2 : Nat} {L : List (Option PV)} {M : Mem} {a : Int} (hd : Dk k pc (.ireturn) 1 pc2) (hr : k.2.2.2 = some .boolean) (hb : a = 0 ∨ a = 1) (hp : post (some (iv a)) M) : WP k G n post z pc L [iv a] M := by
  obtain ⟨p, l, e, s, m, args, below, meth, c, D, dA, adK, adV, ad⟩ := z
  obtain ⟨hd, -⟩ := hd
  intro C H locs ls B
  have hlocks : meth.locks = false := C.2.2.2.2.2.1
  refine W.zret (ty := .boolean) C.1 C.2.1 (C.2.2.2.2.2.2.1.trans hr) (by rcases hb with rfl | rfl <;> rfl) (fun t ht hW => ?_) B.2.2.1.2.2 hd
  exact ⟨⟨some (iv a), M, rfl, hp, wo_pre B.1 B.2.1 B.2.2.1 C.K C.inj C.str ht hW⟩, B.2.2.1.F ht⟩
theorem r_lreturn {k : MD} {G : List GD} {n : Nat} {post : Option PV → Mem → Prop} {z : ZZ} {pc pc2 : Nat} {L : List (Option PV)} {M : Mem} {a : Int} (hd : Dk k pc (.lreturn) 1 pc2) (hr : k.2.2.2 = some .long) (hp : post (some (jv a)) M) : WP k G n post z pc L [jv a] M := by
  obtain ⟨p, l, e, s, m, args, below, meth, c, D, dA, adK, adV, ad⟩ := z
  obtain ⟨hd, -⟩ := hd
  intro C H locs ls B
  have hlocks : meth.locks = false := C.2.2.2.2.2.1
  refine W.lret C.1 C.2.1 (C.2.2.2.2.2.2.1.trans hr) (fun t ht hW => ?_) B.2.2.1.2.2 hd
  exact ⟨⟨some (jv a), M, rfl, hp, wo_pre B.1 B.2.1 B.2.2.1 C.K C.inj C.str ht hW⟩, B.2.2.1.F ht⟩
theorem r_vreturn {k : MD} {G : List GD} {n : Nat} {post : Option PV → Mem → Prop} {z : ZZ} {pc pc2 : Nat} {L : List (Option PV)} {M : Mem} (hd : Dk k pc (.return_) 1 pc2) (hr : k.2.2.2 = none) (hp : post (none) M) : WP k G n post z pc L [] M := by
  obtain ⟨p, l, e, s, m, args, below, meth, c, D, dA, adK, adV, ad⟩ := z
  obtain ⟨hd, -⟩ := hd
  intro C H locs ls B
  have hlocks : meth.locks = false := C.2.2.2.2.2.1
  refine W.vret C.1 C.2.1 (C.2.2.2.2.2.2.1.trans hr) (fun t ht hW => ?_) B.2.2.1.2.2 hd
  exact ⟨⟨none, M, rfl, hp, wo_pre B.1 B.2.1 B.2.2.1 C.K C.inj C.str ht hW⟩, B.2.2.1.F ht⟩
theorem lg_c (v : Value) (vs : List Value) : (lg_sl (v :: vs)).length = (if v.category = 2 then 2 else 1) + (lg_sl vs).length := by
  simp only [lg_sl, List.flatMap_cons, List.length_append]
  split <;> rfl
theorem enL_len (ad : Nat → Nat) : ∀ As : List PV, (lg_sl (As.map (tv ad))).length = (enL As).length
  | [] => rfl
  | .inl a :: r => by
    rw [List.map_cons, lg_c, enL_len ad r]
    show (if (1 : Nat) = 2 then 2 else 1) + _ = (some _ :: enL r).length
    rw [List.length_cons]
    simp only [Nat.reduceEqDiff, if_false]
    omega
  | .inr (.inl a) :: r => by
    rw [List.map_cons, lg_c, enL_len ad r]
    show (if (2 : Nat) = 2 then 2 else 1) + _ = (some _ :: none :: enL r).length
    rw [List.length_cons, List.length_cons]
    simp only [if_true]
    omega
  | .inr (.inr a) :: r => by
    rw [List.map_cons, lg_c, enL_len ad r]
    show (if (1 : Nat) = 2 then 2 else 1) + _ = (some _ :: enL r).length
    rw [List.length_cons]
    simp only [Nat.reduceEqDiff, if_false]
    omega
theorem enL_at (ad : Nat → Nat) : ∀ (As : List PV) (b i : Nat) (v : PV), (enL As)[i]? = some (some v) → (b + i, tv ad v) ∈ lv_args b (As.map (tv ad))
  | [], b, i, v, h => by simp [enL] at h
  | .inl a :: r, b, i, v, h => by
    cases i with
    | zero => simp [enL] at h; subst h; simp [lv_args]
    | succ i =>
      simp only [enL, List.getElem?_cons_succ] at h
      have := enL_at ad r (b + 1) i v h
      simp only [List.map_cons, lv_args, tv, Value.category]
      refine List.mem_cons_of_mem _ ?_
      rw [show b + (i + 1) = b + 1 + i by omega]
      exact this
  | .inr (.inl a) :: r, b, i, v, h => by
    match i, h with
    | 0, h => simp [enL] at h; subst h; simp [lv_args]
    | 1, h => simp [enL] at h
    | i + 2, h =>
      simp only [enL, List.getElem?_cons_succ] at h
      have := enL_at ad r (b + 2) i v h
      simp only [List.map_cons, lv_args, tv, Value.category]
      refine List.mem_cons_of_mem _ ?_
      rw [show b + (i + 2) = b + 2 + i by omega]
      exact this
  | .inr (.inr a) :: r, b, i, v, h => by
    cases i with
    | zero => simp [enL] at h; subst h; simp [lv_args]
    | succ i =>
      simp only [enL, List.getElem?_cons_succ] at h
      have := enL_at ad r (b + 1) i v h
      simp only [List.map_cons, lv_args, tv, Value.category]
      refine List.mem_cons_of_mem _ ?_
      rw [show b + (i + 1) = b + 1 + i by omega]
      exact this
theorem met_ofF {l : Launch} {y : MethodName} {ws ws' : List Cond} {rm : Room} {Pc : Array Value → State → Prop} {Qc : Array Value → State → Outcome → State → Prop} {mc ms : Nat} {free : Addr → Prop} {cc : ByteArray} {maxL : Nat} {ret : Option FieldType}
    (hy : plainFor y = true) (hw : ws = Cond.code y cc maxL ret :: ws')
    (body : ∀ p e s m args below meth c s₁, BodyLoose p l y (headSpec ws rm) cc maxL ret e s m args below meth c s₁ → c.maxLocals = maxL → Pc args s →
      W p l e (headSpec ws rm).room s m args below meth c s.heap [] 0 0 (MQ below Qc args s mc ms free) (entryFrame m args maxL)) : Met l y ws rm Pc Qc mc ms free := by
  refine MetFree.of_bodySF (code := cc) (maxLocals := maxL) (ret := ret) hy ?_ ?_
  · intro args s m h hn
    obtain ⟨meth, c, h1, h2, h3, h4, h5, h6, -, -⟩ := Cond.code_spec hn (atoms_spec (ws := ws) h _ (by rw [hw]; exact List.mem_cons_self))
    exact ⟨meth, c, h1, h2, h3, h4, h5, h6⟩
  · intro p e s m args below meth c s₁ B hml hP _
    have hh0 : s₁.heap = s.heap := by rw [B.state]; rfl
    obtain ⟨t, a1, o, b1, b2, b3⟩ := body p e s m args below meth c s₁ B hml hP s₁ hh0 (Stand.of_body B)
    exact ⟨t, o, a1, b1, b2, ⟨b3.1, b3.2⟩⟩
theorem con_of {k : MD} {G : List GD} {d : Nat} {As : List PV} {M : Mem} {post : Option PV → Mem → Prop} (L : List (Option PV)) (hpl : plainFor k.1 = true) (hL : enL As ++ List.replicate (k.2.2.1 - (enL As).length) none = L) (hlen : (enL As).length ≤ k.2.2.1) (h : ∀ z, WP k G d post z 0 L [] M) : Con G d k As M post := by
  intro l D dA adK adV ad
  refine met_ofF (cc := k.2.1) (maxL := k.2.2.1) (ret := k.2.2.2) hpl rfl ?_
  intro p e s m args below meth c s₁ B hml hv
  obtain ⟨rfl, hP, hM, hK, hA, hS⟩ := hv
  have hts := atoms_spec (ws := Cond.code k.1 k.2.1 k.2.2.1 k.2.2.2 :: q_tbl) B.pre
  have hl := lv_entry (As.map (tv ad)) (n := k.2.2.1) (by rw [enL_len]; exact hlen)
  rw [lg_entry_eq]
  refine h (p, l, e, s, m, _, below, meth, c, D, dA, adK, adV, ad) ⟨B.exec, B.bytes, hml, findClass_of_methodNamed B.named, fun w hw => hts w (List.mem_cons_of_mem _ hw), B.notSynchronized, B.returns, hK, hA, hS⟩ s.heap [] _ ⟨hP, hM, va_S.rf, hl.1, ?_, hl.2.1, fun i v hi => ?_⟩
  · rw [← hL, List.length_append, List.length_replicate]
    omega
  · refine hl.2.2 (i, tv ad v) ?_
    rw [← hL] at hi
    have := enL_at ad As 0 i v (by
      by_cases q : i < (enL As).length
      · rwa [List.getElem?_append_left q] at hi
      · rw [List.getElem?_append_right (by omega)] at hi
        have := List.eq_of_mem_replicate (List.mem_of_getElem? hi)
        cases this)
    simpa using this
theorem Con.mono {G : List GD} {d : Nat} {k : MD} {As : List PV} {M : Mem} {p1 p2 : Option PV → Mem → Prop} (h : Con G d k As M p1) (hp : ∀ r M2, p1 r M2 → p2 r M2) : Con G d k As M p2 := by
  intro l D dA adK adV ad p e ha hc hk s m args below hf happ hpre htr
  obtain ⟨kk, o, h1, h2, h3, ⟨⟨r, M2, g1, g2, g3⟩, hF⟩, hL⟩ := h l D dA adK adV ad p e ha hc hk s m args below hf happ hpre htr
  exact ⟨kk, o, h1, h2, h3, ⟨⟨r, M2, g1, hp r M2 g2, g3⟩, hF⟩, hL⟩

/-! constructors: stores, calls, ends -/
theorem set_same {G : List GE} {q : Nat} {x : GE} (h : G[q]? = some x) : G.set q x = G := by
  apply List.ext_getElem?
  intro j
  by_cases e : j = q
  · subst e
    rw [List.getElem?_set_self (List.getElem?_eq_some_iff.mp h).1, h]
  · rw [List.getElem?_set_ne (Ne.symm e)]
/-- a row laid from its beginning on, what was laid last first -/
def mkR (M : Mem) (q : Nat) (l : List Int) : Mem := fun c i => if c = q then l.reverse.getD i 0 else M c i
theorem mkR_0 {M : Mem} {q : Nat} (h : ∀ i, M q i = 0) : mkR M q [] = M := by
  funext c i
  unfold mkR
  split
  · rename_i e; subst e; rw [h]; rfl
  · rfl
theorem mkR_up {M : Mem} {q : Nat} {l : List Int} {v : Int} : upM (mkR M q l) q l.length v = mkR M q (v :: l) := by
  funext c i
  unfold upM mkR
  by_cases e : c = q
  · rw [if_pos e, if_pos e, List.reverse_cons]
    simp only [List.getD_eq_getElem?_getD]
    by_cases h : i = l.length
    · rw [if_pos ⟨e, h⟩, List.getElem?_append_right (by rw [List.length_reverse]; omega), List.length_reverse, h, Nat.sub_self]
      rfl
    · rw [if_neg (fun w => h w.2)]
      by_cases g : i < l.length
      · rw [List.getElem?_append_left (by rw [List.length_reverse]; exact g)]
      · rw [List.getElem?_eq_none (by rw [List.length_reverse]; omega), List.getElem?_eq_none (by rw [List.length_append, List.length_reverse]; simp; omega)]
  · rw [if_neg (fun w => e w.1), if_neg e, if_neg e]
def adc (ad : Nat → Nat) (n q a : Nat) : Nat → Nat := fun j => if j = 0 then ad q else if j < 900 then ad n + (j - 1) else if j = 900 then ad a else ad j
def rnf (n q a : Nat) : Nat → Nat := fun j => if j = 0 then q else if j < 900 then n + (j - 1) else if j = 900 then a else j
def rnG (f : Nat → Nat) : GE → GE
  | .inl (ci, fs) => .inl (ci, fs.map (Option.map (Option.map f)))
  | .inr (.inl n) => .inr (.inl n)
  | .inr (.inr (t, rs)) => .inr (.inr (t, rs.map (Option.map f)))
def okf (b : Nat) : Option Nat → Bool
  | some r => decide (r < b ∨ r = 900)
  | none => true
def okR (b : Nat) : GE → Bool
  | .inl (_, fs) => fs.all (fun f => match f with | some g => okf b g | none => true)
  | .inr (.inl _) => true
  | .inr (.inr (_, rs)) => rs.all (okf b)
def mrg (M M2 : Mem) (n q : Nat) : Mem := fun c i => if c = q then M2 0 i else if n ≤ c then M2 (c - n + 1) i else M c i
theorem mrg_ib {M M2 : Mem} {n q : Nat} (h : ∀ c i, ib (M c i)) (h2 : ∀ c i, ib (M2 c i)) : ∀ c i, ib (mrg M M2 n q c i) := fun c i => by
  unfold mrg
  split
  · exact h2 _ _
  · split
    · exact h2 _ _
    · exact h _ _
theorem cn_congr {ad : Nat → Nat} {dA : Nat → ClassId} {M M2 : Mem} {j : Nat} {x : GE} (h : ∀ i, M2 j i = M j i) : cn ad dA M2 j x = cn ad dA M j x := by
  rcases x with ⟨ci, fs⟩ | n | ⟨t, rs⟩
  · simp only [cn]
    congr 2
    apply List.ext_getElem?
    intro i
    simp only [List.getElem?_mapIdx]
    congr 1
    funext f
    rcases f with _ | _ | r
    · simp only [cn_f]; rw [h]
    · rfl
    · rfl
  · simp only [cn]
    congr 4
    funext i
    rw [h]
  · rfl
theorem cn_rn {ad ad2 : Nat → Nat} {dA : Nat → ClassId} {M M2 : Mem} {j j2 b : Nat} {f : Nat → Nat} {x : GE} (hx : okR b x = true) (hf : ∀ r, r < b ∨ r = 900 → ad (f r) = ad2 r) (h : ∀ i, M j i = M2 j2 i) : cn ad dA M j (rnG f x) = cn ad2 dA M2 j2 x := by
  rcases x with ⟨ci, fs⟩ | n | ⟨t, rs⟩
  · simp only [cn, rnG]
    congr 2
    apply List.ext_getElem?
    intro i
    simp only [List.getElem?_mapIdx, List.getElem?_map]
    cases hg : fs[i]? with
    | none => rfl
    | some g =>
      rcases g with _ | _ | r
      · simp only [Option.map_some, Option.map_none, cn_f]; rw [h]
      · rfl
      · have hm := List.all_eq_true.mp (show fs.all (fun f => match f with | some g => okf b g | none => true) = true from hx) _ (List.mem_of_getElem? hg)
        simp only [Option.map_some, cn_f]
        rw [hf r (of_decide_eq_true hm)]
  · simp only [cn, rnG]
    congr 4
    funext i
    rw [h]
  · simp only [cn, rnG, List.length_map]
    congr 7
    funext i
    rw [List.getD_eq_getElem?_getD, List.getD_eq_getElem?_getD, List.getElem?_map]
    cases hg : rs[i]? with
    | none => rfl
    | some g =>
      cases g with
      | none => rfl
      | some r =>
        have hm := List.all_eq_true.mp (show rs.all (okf b) = true from hx) _ (List.mem_of_getElem? hg)
        simp only [Option.map_some, Option.getD_some]
        rw [hf r (of_decide_eq_true hm)]
section
variable {k : MD} {d mc ms : Nat} {G1 : List GE} {M1 : Mem → Prop} {z : ZZ} {pc pc2 : Nat} {L : List (Option PV)} {S : List PV} {G : List GE} {M : Mem} {cells slots : Nat}
theorem n_put {idx ci j q : Nat} {fs : List (Option (Option Nat))} {v : Int} {ty : FieldType} (hd : Dk k pc (.putfield idx) 3 pc2) (hf : Fp k.1.cls idx ci j ty) (hty : ty = .int ∨ (ty = .boolean ∧ (v = 0 ∨ v = 1))) (hg : G[q]? = some (.inl (ci, fs))) (hj : fs[j]? = some none) (hG : G.length < 900) (hv : ib v) (kk : WN k d mc ms G1 M1 z pc2 L S G (upM M q j v) cells slots) : WN k d mc ms G1 M1 z pc L (iv v :: rv q :: S) G M cells slots := by
  obtain ⟨p, l, e, s, m, args, below, meth, c, D, dA, adK, adV, ad⟩ := z
  obtain ⟨hd, rfl⟩ := hd
  intro C H locs ls B
  obtain ⟨C1, T, N, ty0, h1, h2, h3, h4, h5, h6, h7, h8, h9⟩ := hf
  subst h3
  have hts := C.1.2.2.2.2
  have hjl := (List.getElem?_eq_some_iff.mp hj).1
  have hl : j < (fs.mapIdx (cn_f ad M q)).length := by simpa using hjl
  have hnw : narrow ty (.int (Int32.ofInt v)) = .int (Int32.ofInt v) ∧ fits ty (.int (Int32.ofInt v)) = true := by
    rcases hty with rfl | ⟨rfl, rfl | rfl⟩ <;> exact ⟨rfl, rfl⟩
  refine va_put (D := D) (ci := ci) (v := .int (Int32.ofInt v)) (ty := ty) C.1.1 C.1.2.1 hts h5 ty0 h6 h7 C.1.2.2.2.1 C.2.2.1 B.1 (wln_D C.2.2.2.1.1 hG) B.2.2.1 q (wln_get hg) h1 j h2 (hts _ h4) (fun _ w => w) h8 h9 hnw.1 hnw.2 hl hd (fun H1 locs1 hP hD hS => ?_)
  have hq := (List.getElem?_eq_some_iff.mp hg).1
  have hX : (wln ad dA G M).set q (ad q, .inr (ci, (fs.mapIdx (cn_f ad M q)).set j (.int (Int32.ofInt v)))) = wln ad dA G (upM M q j v) := by
    have h9 := wln_ext (ad := ad) (dA := dA) (M := M) (M2 := upM M q j v) (d := (.inl (ci, fs) : GE)) (x := .inr (ci, (fs.mapIdx (cn_f ad M q)).set j (.int (Int32.ofInt v)))) hq ?_ (fun c hc => upM_off c hc)
    · rw [set_same hg] at h9
      exact h9
    · simp only [cn]
      congr 2
      apply List.ext_getElem?
      intro i
      by_cases hi : i = j
      · subst hi
        rw [List.getElem?_set_self hl, List.getElem?_mapIdx, hj]
        simp only [Option.map_some, cn_f, upM_self]
      · rw [List.getElem?_set_ne (Ne.symm hi), List.getElem?_mapIdx, List.getElem?_mapIdx]
        congr 1
        funext f
        rcases f with _ | _ | r
        · simp only [cn_f]; rw [upM_ne (Or.inr hi)]
        · rfl
        · rfl
  rw [hX] at hP
  exact kk C H1 locs1 ls ⟨hP, upM_ib B.2.1 hv, hS, B.2.2.2⟩
theorem n_getR {idx ci j q r : Nat} {fs : List (Option (Option Nat))} (hd : Dk k pc (.getfield idx) 3 pc2) (hf : Fg k.1.cls idx ci j) (hg : G[q]? = some (.inl (ci, fs))) (hj : fs[j]? = some (some (some r))) (kk : WN k d mc ms G1 M1 z pc2 L (rv r :: S) G M cells slots) : WN k d mc ms G1 M1 z pc L (rv q :: S) G M cells slots := by
  obtain ⟨p, l, e, s, m, args, below, meth, c, D, dA, adK, adV, ad⟩ := z
  obtain ⟨hd, rfl⟩ := hd
  intro C H locs ls B
  obtain ⟨C1, T, N, h1, h2, h3, h4, h5⟩ := hf
  subst h3
  have hts := C.1.2.2.2.2
  exact va_get (D := D) (ci := ci) (v := .ref (ad r)) C.1.1 C.1.2.1 hts h5 C.1.2.2.2.1 C.2.2.1 B.1 q (wln_get hg) h1 j h2 (hts _ h4) (fun _ h9 => h9) (by rw [List.getElem?_mapIdx, hj]; rfl) hd (kk C H locs ls B)
theorem n_iald {q N : Nat} {a v : Int} (hd : Dk k pc .iaload 1 pc2) (hg : G[q]? = some (.inr (.inl N))) (hi : 0 ≤ a ∧ a < N ∧ N < 2147483648) (hv : M q a.toNat = v) (kk : WN k d mc ms G1 M1 z pc2 L (iv v :: S) G M cells slots) : WN k d mc ms G1 M1 z pc L (iv a :: rv q :: S) G M cells slots := by
  subst hv
  obtain ⟨p, l, e, s, m, args, below, meth, c, D, dA, adK, adV, ad⟩ := z
  obtain ⟨hd, rfl⟩ := hd
  intro C H locs ls B
  refine va_iald (n := N) (cA := dA 0) (f := fun i => Int32.ofInt (M q i)) C.1.1 C.1.2.1 C.2.2.1 B.1 q 0 (wln_get hg) rfl (i3_in hi.1 hi.2.1 hi.2.2) hd ?_
  rw [i3_nat hi.1 (by omega)]
  exact kk C H locs ls B
theorem n_iast {q N : Nat} {a v : Int} {l : List Int} (hd : Dk k pc .iastore 1 pc2) (hg : G[q]? = some (.inr (.inl N))) (hi : a = l.length ∧ l.length < N ∧ N < 2147483648) (hG : G.length < 900) (hv : ib v) (kk : WN k d mc ms G1 M1 z pc2 L S G (mkR M q (v :: l)) cells slots) : WN k d mc ms G1 M1 z pc L (iv v :: iv a :: rv q :: S) G (mkR M q l) cells slots := by
  obtain ⟨rfl, hN⟩ := hi
  obtain ⟨p, l1, e, s, m, args, below, meth, c, D, dA, adK, adV, ad⟩ := z
  obtain ⟨hd, rfl⟩ := hd
  intro C H locs ls B
  refine va_iast (n := N) (cA := dA 0) (f := fun i => Int32.ofInt (mkR M q l q i)) C.1.1 C.1.2.1 C.2.2.1 B.1 (wln_D C.2.2.2.1.1 hG) B.2.2.1 q 0 (wln_get hg) rfl (i3_in (by omega) (by omega) hN.2) hd (fun H1 locs1 hP hD hS => ?_)
  rw [i3_nat (by omega) (by omega), Int.toNat_natCast] at hP
  have hq := (List.getElem?_eq_some_iff.mp hg).1
  have hX : (wln ad dA G (mkR M q l)).set q (ad q, .inl (dA 0, N, .inl (upd (fun j => Int32.ofInt (mkR M q l q j)) l.length (Int32.ofInt v)))) = wln ad dA G (mkR M q (v :: l)) := by
    have h9 := wln_ext (ad := ad) (dA := dA) (M := mkR M q l) (M2 := mkR M q (v :: l)) (d := (.inr (.inl N) : GE)) (x := .inl (dA 0, N, .inl (upd (fun j => Int32.ofInt (mkR M q l q j)) l.length (Int32.ofInt v)))) hq ?_ (fun c hc => by rw [← mkR_up]; exact upM_off c hc)
    · rw [set_same hg] at h9
      exact h9
    · simp only [cn]
      congr 4
      funext j
      rw [← mkR_up]
      by_cases hj : j = l.length
      · subst hj; simp [upd, upM]
      · simp [upd, upM, hj]
  rw [hX] at hP
  exact kk C H1 locs1 ls ⟨hP, by rw [← mkR_up]; exact upM_ib B.2.1 hv, hS, B.2.2.2⟩
theorem n_row {q : Nat} (h : ∀ i, M q i = 0) (kk : WN k d mc ms G1 M1 z pc L S G (mkR M q []) cells slots) : WN k d mc ms G1 M1 z pc L S G M cells slots := by
  rw [mkR_0 h] at kk
  exact kk
theorem n_M {M2 : Mem} (h : M = M2) (kk : WN k d mc ms G1 M1 z pc L S G M2 cells slots) : WN k d mc ms G1 M1 z pc L S G M cells slots := by
  subst h
  exact kk
theorem n_G {G2 : List GE} (h : G = G2) (kk : WN k d mc ms G1 M1 z pc L S G2 M cells slots) : WN k d mc ms G1 M1 z pc L S G M cells slots := by
  subst h
  exact kk
theorem n_aast {q t r ci : Nat} {rs : List (Option Nat)} {fs : List (Option (Option Nat))} {a : Int} (hd : Dk k pc .aastore 1 pc2) (hg : G[q]? = some (.inr (.inr (t, rs)))) (hr : G[r]? = some (.inl (ci, fs))) (ht : (t = 1 ∧ ci = 3) ∨ (t = 2 ∧ ci = 1)) (hi : 0 ≤ a ∧ a < rs.length ∧ rs.length < 10000) (hG : G.length < 900) (kk : WN k d mc ms G1 M1 z pc2 L S (G.set q (.inr (.inr (t, rs.set a.toNat (some r))))) M cells slots) : WN k d mc ms G1 M1 z pc L (rv r :: iv a :: rv q :: S) G M cells slots := by
  obtain ⟨p, l1, e, s, m, args, below, meth, c, D, dA, adK, adV, ad⟩ := z
  obtain ⟨hd, rfl⟩ := hd
  intro C H locs ls B
  have hq := (List.getElem?_eq_some_iff.mp hg).1
  have hX : (wln ad dA G M).set q (ad q, .inl (dA t, rs.length, .inr (.inr (.inr (.inr (va_up (fun i => (rs.getD i none).map ad) a.toNat (some (ad r)))))))) = wln ad dA (G.set q (.inr (.inr (t, rs.set a.toNat (some r))))) M := by
    refine wln_ext hq ?_ (fun c _ => rfl)
    simp only [cn, List.length_set]
    congr 7
    funext i
    rw [List.getD_eq_getElem?_getD]
    by_cases h : i = a.toNat
    · subst h
      rw [List.getElem?_set_self (by omega)]
      simp [va_up]
    · rw [List.getElem?_set_ne (Ne.symm h), ← List.getD_eq_getElem?_getD]
      simp [va_up, h]
  have go : ∀ (H1 : Heap) (locs1 : List Loc), va_P D vwCl ((wln ad dA G M).set q (ad q, .inl (dA t, rs.length, .inr (.inr (.inr (.inr (va_up (fun i => (rs.getD i none).map ad) (Int32.ofInt a).toNatClampNeg (some (ad r))))))))) H1 → va_S (AN ad) s.heap H1 locs1 → W p l1 e (rmC d mc ms) s m args below meth c H1 locs1 cells slots (MQ below (qn G1 M1 D dA ad) args s mc ms (AN ad)) (F0 m (pc + 1) ls (S.map (tv ad))) := fun H1 locs1 hP hS => by
    rw [i3_nat hi.1 (by omega), hX] at hP
    exact kk C H1 locs1 ls ⟨hP, B.2.1, hS, B.2.2.2⟩
  rcases ht with ⟨rfl, rfl⟩ | ⟨rfl, rfl⟩
  · exact va_astq (D := D) C.1.1 C.1.2.1 C.2.2.1 B.1 (wln_D C.2.2.2.1.1 hG) B.2.2.1 q 1 r 3 (wln_get hg) rfl (wln_get hr) rfl (i3_in hi.1 hi.2.1 (by omega)) hd (fun H1 locs1 hP _ hS => go H1 locs1 hP hS)
  · exact va_astq (D := D) C.1.1 C.1.2.1 C.2.2.1 B.1 (wln_D C.2.2.2.1.1 hG) B.2.2.1 q 2 r 1 (wln_get hg) rfl (wln_get hr) rfl (i3_in hi.1 hi.2.1 (by omega)) hd (fun H1 locs1 hP _ hS => go H1 locs1 hP hS)
theorem n_aald {q t r : Nat} {rs : List (Option Nat)} {a : Int} (hd : Dk k pc .aaload 1 pc2) (hg : G[q]? = some (.inr (.inr (t, rs)))) (ht : t = 1 ∨ t = 2) (hi : 0 ≤ a ∧ a < rs.length ∧ rs.length < 10000) (hr : rs.getD a.toNat none = some r) (kk : WN k d mc ms G1 M1 z pc2 L (rv r :: S) G M cells slots) : WN k d mc ms G1 M1 z pc L (iv a :: rv q :: S) G M cells slots := by
  obtain ⟨p, l1, e, s, m, args, below, meth, c, D, dA, adK, adV, ad⟩ := z
  obtain ⟨hd, rfl⟩ := hd
  intro C H locs ls B
  have go : W p l1 e (rmC d mc ms) s m args below meth c H locs cells slots (MQ below (qn G1 M1 D dA ad) args s mc ms (AN ad)) (F0 m (pc + 1) ls (va_rf (((fun i => (rs.getD i none).map ad) : Nat → Option Nat) (Int32.ofInt a).toNatClampNeg) :: S.map (tv ad))) := by
    rw [i3_nat hi.1 (by omega)]
    show W p l1 e (rmC d mc ms) s m args below meth c H locs cells slots _ (F0 m (pc + 1) ls (va_rf ((rs.getD a.toNat none).map ad) :: S.map (tv ad)))
    rw [hr]
    exact kk C H locs ls B
  rcases ht with rfl | rfl
  · exact va_aldq C.1.1 C.1.2.1 C.2.2.1 B.1 q 1 (wln_get hg) rfl (i3_in hi.1 hi.2.1 (by omega)) hd go
  · exact va_aldq C.1.1 C.1.2.1 C.2.2.1 B.1 q 2 (wln_get hg) rfl (i3_in hi.1 hi.2.1 (by omega)) hd go
theorem n_ret (hd : Dk k pc (.return_) 1 pc2) (hr : k.2.2.2 = none) (hp : M1 M) : WN k d mc ms G1 M1 z pc L [] G1 M mc ms := by
  obtain ⟨p, l, e, s, m, args, below, meth, c, D, dA, adK, adV, ad⟩ := z
  obtain ⟨hd, -⟩ := hd
  intro C H locs ls B
  have hlocks : meth.locks = false := C.2.1.1
  refine W.vret C.1.1 C.1.2.1 (C.2.1.2.1.trans hr) (fun t ht hW => ?_) B.2.2.1.2.2 hd
  exact ⟨⟨rfl, M, ⟨hp, B.2.1⟩, by rw [ht]; exact B.1⟩, B.2.2.1.F ht⟩
end

/-! constructors: a graph that grows; an object's field: a number, null, a cell -/
abbrev GE : Type := (Nat × List (Option (Option Nat))) ⊕ Nat ⊕ (Nat × List (Option Nat))
def cn_f (ad : Nat → Nat) (M : Mem) (k : Nat) (j : Nat) (f : Option (Option Nat)) : Value := match f with
  | none => .int (Int32.ofInt (M k j))
  | some none => .null
  | some (some r) => .ref (ad r)
def cn (ad : Nat → Nat) (dA : Nat → ClassId) (M : Mem) (k : Nat) : GE → va_E
  | .inl (ci, fs) => .inr (ci, fs.mapIdx (cn_f ad M k))
  | .inr (.inl n) => .inl (dA 0, n, .inl (fun i => Int32.ofInt (M k i)))
  | .inr (.inr (t, rs)) => .inl (dA t, rs.length, .inr (.inr (.inr (.inr (fun i => (rs.getD i none).map ad)))))
def wln (ad : Nat → Nat) (dA : Nat → ClassId) (G : List GE) (M : Mem) : va_W := G.mapIdx (fun k d => (ad k, cn ad dA M k d))
def emF : Option Nat → Option (Option Nat)
  | none => none
  | some r => some (some r)
def em : GD → GE
  | .inl (ci, fs) => .inl (ci, fs.map emF)
  | .inr (.inl n) => .inr (.inl n)
  | .inr (.inr (t, rs)) => .inr (.inr (t, rs.map some))
theorem wln_em {ad : Nat → Nat} {dA : Nat → ClassId} {G : List GD} {M : Mem} : wln ad dA (G.map em) M = wld ad dA G M := by
  apply List.ext_getElem?
  intro j
  simp only [wln, wld, List.getElem?_mapIdx, List.getElem?_map]
  cases hg : G[j]? with
  | none => rfl
  | some d =>
    simp only [Option.map_some]
    congr 2
    rcases d with ⟨ci, fs⟩ | n | ⟨t, rs⟩
    · simp only [em, cn, ce]
      congr 2
      apply List.ext_getElem?
      intro i
      simp only [List.getElem?_mapIdx, List.getElem?_map]
      cases fs[i]? with
      | none => rfl
      | some f => cases f <;> rfl
    · rfl
    · simp only [em, cn, ce, List.length_map]
      congr 7
      funext i
      rw [List.getD_eq_getElem?_getD, List.getElem?_map]
      cases rs[i]? <;> rfl
theorem wln_get {ad : Nat → Nat} {dA : Nat → ClassId} {G : List GE} {M : Mem} {k : Nat} {d : GE} (h : G[k]? = some d) : (wln ad dA G M)[k]? = some (ad k, cn ad dA M k d) := by
  simp [wln, List.getElem?_mapIdx, h]
theorem wln_len {ad : Nat → Nat} {dA : Nat → ClassId} {G : List GE} {M : Mem} : (wln ad dA G M).length = G.length := by simp [wln]
theorem wln_inv {ad : Nat → Nat} {dA : Nat → ClassId} {G : List GE} {M : Mem} {k : Nat} {q : Nat × va_E} (h : (wln ad dA G M)[k]? = some q) : ∃ d, G[k]? = some d ∧ q = (ad k, cn ad dA M k d) := by
  simp only [wln, List.getElem?_mapIdx] at h
  cases hg : G[k]? with
  | none => rw [hg] at h; cases h
  | some d => rw [hg] at h; cases h; exact ⟨d, rfl, rfl⟩
theorem wln_ext {ad : Nat → Nat} {dA : Nat → ClassId} {G : List GE} {M M2 : Mem} {k : Nat} {d : GE} {x : va_E} (hk : k < G.length) (hx : x = cn ad dA M2 k d) (ho : ∀ c, c ≠ k → M2 c = M c) : (wln ad dA G M).set k (ad k, x) = wln ad dA (G.set k d) M2 := by
  apply List.ext_getElem?
  intro j
  by_cases hj : j = k
  · subst hj
    rw [List.getElem?_set_self (by rw [wln_len]; exact hk), wln_get (List.getElem?_set_self hk), hx]
  · rw [List.getElem?_set_ne (Ne.symm hj)]
    simp only [wln, List.getElem?_mapIdx]
    rw [List.getElem?_set_ne (Ne.symm hj)]
    cases hg : G[j]? with
    | none => rfl
    | some e =>
      simp only [Option.map_some]
      congr 2
      rcases e with ⟨ci, fs⟩ | n | ⟨t, rs⟩
      · simp only [cn]
        congr 2
        apply List.ext_getElem?
        intro i
        simp only [List.getElem?_mapIdx]
        congr 1
        funext f
        rcases f with _ | _ | r
        · simp only [cn_f]; rw [ho j hj]
        · rfl
        · rfl
      · simp only [cn]; rw [ho j hj]
      · rfl
theorem wln_app {ad : Nat → Nat} {dA : Nat → ClassId} {G : List GE} {M : Mem} {d : GE} : wln ad dA (G ++ [d]) M = wln ad dA G M ++ [(ad G.length, cn ad dA M G.length d)] := by
  simp [wln, List.mapIdx_append]
/-- addresses: the object, and the cells that are made, one behind another -/
def adS (ad : Nat → Nat) : Prop := ad 0 < ad 1 ∧ ∀ j, 1 ≤ j → j < 900 → ad j = ad 1 + (j - 1)
def AN (ad : Nat → Nat) : Nat → Prop := fun q => q = ad 0 ∨ ad 1 ≤ q
def adT (adK adV ad : Nat → Nat) : Prop := (∀ j, j < 13 → ad (1000 + j) = adK j) ∧ ∀ j, j < 12 → ad (2000 + j) = adV j
theorem adS.inj {ad : Nat → Nat} (h : adS ad) {i j : Nat} (hi : i < 900) (hj : j < 900) (e : ad i = ad j) : i = j := by
  obtain ⟨h0, h1⟩ := h
  rcases Nat.eq_zero_or_pos i with rfl | hi0
  · rcases Nat.eq_zero_or_pos j with rfl | hj0
    · rfl
    · rw [h1 j hj0 hj] at e; omega
  · rcases Nat.eq_zero_or_pos j with rfl | hj0
    · rw [h1 i hi0 hi] at e; omega
    · rw [h1 i hi0 hi, h1 j hj0 hj] at e; omega
theorem adS.an {ad : Nat → Nat} (h : adS ad) {i : Nat} (hi : i < 900) : AN ad (ad i) := by
  rcases Nat.eq_zero_or_pos i with rfl | hi0
  · exact Or.inl rfl
  · exact Or.inr (by rw [h.2 i hi0 hi]; omega)
theorem wln_D {ad : Nat → Nat} {dA : Nat → ClassId} {G : List GE} {M : Mem} (h : adS ad) (hG : G.length < 900) : va_D (AN ad) (wln ad dA G M) := by
  refine ⟨fun i j p q hi hj e => ?_, fun k q hk => ?_⟩
  · obtain ⟨d1, g1, rfl⟩ := wln_inv hi
    obtain ⟨d2, g2, rfl⟩ := wln_inv hj
    have l1 := (List.getElem?_eq_some_iff.mp g1).1
    have l2 := (List.getElem?_eq_some_iff.mp g2).1
    exact h.inj (by omega) (by omega) e
  · obtain ⟨d1, g1, rfl⟩ := wln_inv hk
    have l1 := (List.getElem?_eq_some_iff.mp g1).1
    exact h.an (by omega)
def q_nct : List (String × Nat × MethodName × String) := [(RX5, 23, yX2_init, "KeysForSecond"), (RX5, 60, yX3_init, "KeysForSecond"), (RX5, 61, yX1_init, "KeysForSecond")]
/-- what else constructors want of the start -/
def NS (s : State) : Prop := (∀ q ∈ q_nct, va_Nw (.methodLinkNest q.1 q.2.1 q.2.2.1 q.2.2.2) s) ∧ va_AO "KeysForSecond$Text" s ∧ va_AO "KeysForSecond$Sheet" s
theorem NS.moved {u U : State} (hW : u.WarmedH U.vm) (h : NS u) : NS U := ⟨fun q hq => va_Nw.warmM hW (h.1 q hq), h.2.1.moved hW.alike, h.2.2.moved hW.alike⟩
theorem st_ok.narrow {adK adV : Nat → Nat} {A B : Nat → Prop} {s : State} (h : st_ok adK adV A s) (hAB : ∀ q, B q → A q) : st_ok adK adV B s :=
  ⟨h.1.narrow hAB, h.2.1, h.2.2.1, h.2.2.2.1.narrow hAB, h.2.2.2.2.narrow hAB⟩
theorem W_sized {p : Program} {l : Launch} {e : Env} {R : Room} {s : State} {m : MethodId} {args : Array Value} {below : List Frame} {meth : Method} {c : Code} {H : Heap} {locs : List Loc} {cells slots : Nat} {Q : State → Prop} {g : JFrame} (kk : H.size ≤ s.heap.size + cells → W p l e R s m args below meth c H locs cells slots Q g) : W p l e R s m args below meth c H locs cells slots Q g := by
  intro T hT X
  exact kk (by have := X.same.2.2.1; rw [← hT]; exact this) T hT X
/-- the heap ends behind the last cell -/
theorem wn_size {ad : Nat → Nat} {D : va_G} {dA : Nat → ClassId} {G : List GE} {M : Mem} {H : Heap} {n cells : Nat} (hA : adS ad) (hn : n = ad 1) (hP : va_P D vwCl (wln ad dA G M) H) (hlo : n ≤ H.size) (hup : H.size ≤ n + cells) (hG : cells + 1 = G.length) (hG9 : G.length < 900) : H.size = ad G.length := by
  rw [hA.2 G.length (by omega) hG9, ← hn]
  rcases Nat.eq_zero_or_pos cells with h | h
  · omega
  · have hg : ∃ dd, G[cells]? = some dd := ⟨G[cells], List.getElem?_eq_getElem (by omega)⟩
    obtain ⟨dd, hg⟩ := hg
    have hl : ad cells < H.size := (hP cells _ (wln_get hg)).lt
    rw [hA.2 cells h (by omega), ← hn] at hl
    omega
def rmC (d mc ms : Nat) : Room := { frames := d, cells := mc, slots := ms, locals := 40 * d }
/-- a constructor's end: the graph G1, numbers as M1 says -/
def qn (G1 : List GE) (M1 : Mem → Prop) (D : va_G) (dA : Nat → ClassId) (ad : Nat → Nat) : Array Value → State → Outcome → State → Prop := fun _ st oc t =>
  (oc = .returned none ∧ ∃ M, (M1 M ∧ ∀ c i, ib (M c i)) ∧ va_P D vwCl (wln ad dA G1 M) t.heap) ∧ va_F (AN ad) st t
def CN (k : MD) (z : ZZ) : Prop := match z with
  | (p, _, _, s, m, args, _, meth, c, D, dA, adK, adV, ad) =>
    (p.tables.exec = Jvm.exec ∧ c.code = k.2.1 ∧ c.maxLocals = k.2.2.1 ∧ s.vm.findClass k.1.cls = some m.cls ∧ (∀ w ∈ q_tbl, w.before args s = true)) ∧ (meth.locks = false ∧ meth.sig.returnType = k.2.2.2 ∧ meth.name = "<init>") ∧ va_K D vwCl (ty_of dA) s ∧ (adS ad ∧ s.heap.size = ad 1) ∧ adT adK adV ad ∧ st_ok adK adV (AN ad) s ∧ NS s
def WN (k : MD) (d mc ms : Nat) (G1 : List GE) (M1 : Mem → Prop) (z : ZZ) (pc : Nat) (L : List (Option PV)) (S : List PV) (G : List GE) (M : Mem) (cells slots : Nat) : Prop := match z with
  | (p, l, e, s, m, args, below, meth, c, D, dA, adK, adV, ad) =>
    CN k (p, l, e, s, m, args, below, meth, c, D, dA, adK, adV, ad) → ∀ (H : Heap) (locs : List Loc) (ls : Array Slot), (va_P D vwCl (wln ad dA G M) H ∧ (∀ c i, ib (M c i)) ∧ va_S (AN ad) s.heap H locs ∧ lh ad k ls L) →
      W p l e (rmC d mc ms) s m args below meth c H locs cells slots (MQ below (qn G1 M1 D dA ad) args s mc ms (AN ad)) (F0 m pc ls (S.map (tv ad)))
def CT (k : MD) (d mc ms : Nat) (fs0 : GE) (xs : List Nat) (G1 : List GE) (M1 : Mem → Prop) : Prop :=
  ∀ (l : Launch) (D : va_G) (dA : Nat → ClassId) (adK adV ad : Nat → Nat), Met l k.1 (Cond.code k.1 k.2.1 k.2.2.1 k.2.2.2 :: q_tbl) (rmC d mc ms) (va_Pc ((rv 0 :: xs.map rv).map (tv ad)) (fun U => (adS ad ∧ U.heap.size = ad 1) ∧ va_P D vwCl (wln ad dA [fs0] (fun _ _ => 0)) U.heap ∧ va_K D vwCl (ty_of dA) U ∧ adT adK adV ad ∧ st_ok adK adV (AN ad) U ∧ NS U)) (qn G1 M1 D dA ad) mc ms (AN ad)
theorem ct_of {k : MD} {d mc ms : Nat} {fs0 : GE} {xs : List Nat} {G1 : List GE} {M1 : Mem → Prop} (L : List (Option PV)) (hpl : plainFor k.1 = true) (hL : enL (rv 0 :: xs.map rv) ++ List.replicate (k.2.2.1 - (enL (rv 0 :: xs.map rv)).length) none = L) (hlen : (enL (rv 0 :: xs.map rv)).length ≤ k.2.2.1) (hnm : k.1.name = "<init>") (h : ∀ z, WN k d mc ms G1 M1 z 0 L [] [fs0] (fun _ _ => 0) 0 0) : CT k d mc ms fs0 xs G1 M1 := by
  intro l D dA adK adV ad
  refine met_ofF (cc := k.2.1) (maxL := k.2.2.1) (ret := k.2.2.2) hpl rfl ?_
  intro p e s m args below meth c s₁ B hml hv
  obtain ⟨rfl, ⟨hA, hsz⟩, hP, hK, hT, hS, hN⟩ := hv
  have hts := atoms_spec (ws := Cond.code k.1 k.2.1 k.2.2.1 k.2.2.2 :: q_tbl) B.pre
  have hl := lv_entry ((rv 0 :: xs.map rv).map (tv ad)) (n := k.2.2.1) (by rw [enL_len]; exact hlen)
  rw [lg_entry_eq]
  refine h (p, l, e, s, m, _, below, meth, c, D, dA, adK, adV, ad) ⟨⟨B.exec, B.bytes, hml, findClass_of_methodNamed B.named, fun w hw => hts w (List.mem_cons_of_mem _ hw)⟩, ⟨B.notSynchronized, B.returns, (name_of_methodNamed B.named B.method).1.trans hnm⟩, hK, ⟨hA, hsz⟩, hT, hS, hN⟩ s.heap [] _ ⟨hP, fun _ _ => (show ib 0 by omega), va_S.rf, hl.1, ?_, hl.2.1, fun i v hi => ?_⟩
  · rw [← hL, List.length_append, List.length_replicate]
    omega
  · refine hl.2.2 (i, tv ad v) ?_
    rw [← hL] at hi
    have := enL_at ad (rv 0 :: xs.map rv) 0 i v (by
      by_cases q : i < (enL (rv 0 :: xs.map rv)).length
      · rwa [List.getElem?_append_left q] at hi
      · rw [List.getElem?_append_right (by omega)] at hi
        have := List.eq_of_mem_replicate (List.mem_of_getElem? hi)
        cases this)
    simpa using this
section
variable {k : MD} {d mc ms : Nat} {G1 : List GE} {M1 : Mem → Prop} {z : ZZ} {pc pc2 : Nat} {L : List (Option PV)} {S : List PV} {G : List GE} {M : Mem} {cells slots : Nat}
theorem n_iconst {a : Int} (hd : Dk k pc (.iconst a) 1 pc2) (kk : WN k d mc ms G1 M1 z pc2 L (iv a :: S) G M cells slots) : WN k d mc ms G1 M1 z pc L S G M cells slots := by
  obtain ⟨p, l, e, s, m, args, below, meth, c, D, dA, adK, adV, ad⟩ := z
  obtain ⟨hd, rfl⟩ := hd
  intro C H locs ls B
  exact lv_iconst C.1.1 C.1.2.1 hd rfl (kk C H locs ls B)
theorem n_bipush {a : Int} (hd : Dk k pc (.bipush a) 2 pc2) (h : -128 ≤ a ∧ a < 128) (kk : WN k d mc ms G1 M1 z pc2 L (iv a :: S) G M cells slots) : WN k d mc ms G1 M1 z pc L S G M cells slots := by
  obtain ⟨p, l, e, s, m, args, below, meth, c, D, dA, adK, adV, ad⟩ := z
  obtain ⟨hd, rfl⟩ := hd
  intro C H locs ls B
  refine lv_bipush C.1.1 C.1.2.1 hd ?_ (kk C H locs ls B)
  rw [← Int32.toInt_inj, i3_toInt (by omega), Int8.toInt_toInt32, Int8.toInt_ofInt_of_le (by omega) (by omega)]
theorem n_sipush {a : Int} (hd : Dk k pc (.sipush a) 3 pc2) (h : -32768 ≤ a ∧ a < 32768) (kk : WN k d mc ms G1 M1 z pc2 L (iv a :: S) G M cells slots) : WN k d mc ms G1 M1 z pc L S G M cells slots := by
  obtain ⟨p, l, e, s, m, args, below, meth, c, D, dA, adK, adV, ad⟩ := z
  obtain ⟨hd, rfl⟩ := hd
  intro C H locs ls B
  refine lv_sipush C.1.1 C.1.2.1 hd ?_ (kk C H locs ls B)
  rw [← Int32.toInt_inj, i3_toInt (by omega), Int16.toInt_toInt32, Int16.toInt_ofInt_of_le (by omega) (by omega)]
theorem n_aload_0 {R : List (Option PV)} {x : Nat} (hd : Dk k pc (.aload_n 0) 1 pc2) (kk : WN k d mc ms G1 M1 z pc2 (some (rv x) :: R) (rv x :: S) G M cells slots) : WN k d mc ms G1 M1 z pc (some (rv x) :: R) S G M cells slots := by
  obtain ⟨p, l, e, s, m, args, below, meth, c, D, dA, adK, adV, ad⟩ := z
  obtain ⟨hd, rfl⟩ := hd
  intro C H locs ls B
  exact lv_aload_n C.1.1 C.1.2.1 hd rfl (lh_at B.2.2.2 (i := 0) rfl) (kk C H locs ls B)
theorem n_aload_1 {a0 : Option PV} {R : List (Option PV)} {x : Nat} (hd : Dk k pc (.aload_n 1) 1 pc2) (kk : WN k d mc ms G1 M1 z pc2 (a0 :: some (rv x) :: R) (rv x :: S) G M cells slots) : WN k d mc ms G1 M1 z pc (a0 :: some (rv x) :: R) S G M cells slots := by
  obtain ⟨p, l, e, s, m, args, below, meth, c, D, dA, adK, adV, ad⟩ := z
  obtain ⟨hd, rfl⟩ := hd
  intro C H locs ls B
  exact lv_aload_n C.1.1 C.1.2.1 hd rfl (lh_at B.2.2.2 (i := 1) rfl) (kk C H locs ls B)
theorem n_iload_1 {a0 : Option PV} {R : List (Option PV)} {x : Int} (hd : Dk k pc (.iload_n 1) 1 pc2) (kk : WN k d mc ms G1 M1 z pc2 (a0 :: some (iv x) :: R) (iv x :: S) G M cells slots) : WN k d mc ms G1 M1 z pc (a0 :: some (iv x) :: R) S G M cells slots := by
  obtain ⟨p, l, e, s, m, args, below, meth, c, D, dA, adK, adV, ad⟩ := z
  obtain ⟨hd, rfl⟩ := hd
  intro C H locs ls B
  exact lv_iload_n C.1.1 C.1.2.1 hd rfl (lh_at B.2.2.2 (i := 1) rfl) (kk C H locs ls B)
theorem n_istore_1 {a0 o : Option PV} {R : List (Option PV)} {x : Int} (hd : Dk k pc (.istore_n 1) 1 pc2) (hj : nj a0 = true) (kk : WN k d mc ms G1 M1 z pc2 (a0 :: some (iv x) :: R) S G M cells slots) : WN k d mc ms G1 M1 z pc (a0 :: o :: R) (iv x :: S) G M cells slots := by
  obtain ⟨p, l, e, s, m, args, below, meth, c, D, dA, adK, adV, ad⟩ := z
  obtain ⟨hd, rfl⟩ := hd
  intro C H locs ls B
  have hn : 1 < k.2.2.1 := by have := B.2.2.2.2.1; simp at this; omega
  refine lv_istore_n C.1.1 C.1.2.1 hd rfl (lh_has B.2.2.2) hn rfl (fun ls2 h2 => kk C H locs ls2 ⟨B.1, B.2.1, B.2.2.1, lh_set1 (i := 1) (v := iv x) B.2.2.2 hn (fun w hw => ?_) h2⟩)
  cases hw; exact hj
theorem n_iinc_1 {a0 : Option PV} {R : List (Option PV)} {x y : Int} (hd : Dk k pc (.iinc 1 1) 3 pc2) (hj : nj a0 = true) (hy : x + 1 = y) (kk : WN k d mc ms G1 M1 z pc2 (a0 :: some (iv y) :: R) S G M cells slots) : WN k d mc ms G1 M1 z pc (a0 :: some (iv x) :: R) S G M cells slots := by
  subst hy
  obtain ⟨p, l, e, s, m, args, below, meth, c, D, dA, adK, adV, ad⟩ := z
  obtain ⟨hd, rfl⟩ := hd
  intro C H locs ls B
  have hn : 1 < k.2.2.1 := by have := B.2.2.2.2.1; simp at this; omega
  obtain ⟨kq, hq⟩ := List.getElem?_of_mem (la_mem (ad := ad) (L := a0 :: some (iv x) :: R) (q := (1, tv ad (iv x))).mpr ⟨iv x, rfl, rfl⟩)
  refine lv_iinc C.1.1 C.1.2.1 hd (lh_has B.2.2.2) hq (v := Int32.ofInt (x + 1)) (by rw [Int32.ofInt_add]) hn rfl (fun ls2 h2 => kk C H locs ls2 ⟨B.1, B.2.1, B.2.2.1, lh_set1 (i := 1) (v := iv (x + 1)) B.2.2.2 hn (fun w hw => ?_) h2⟩)
  cases hw; exact hj
theorem n_dup {a : Nat} (hd : Dk k pc (.dup) 1 pc2) (kk : WN k d mc ms G1 M1 z pc2 L (rv a :: rv a :: S) G M cells slots) : WN k d mc ms G1 M1 z pc L (rv a :: S) G M cells slots := by
  obtain ⟨p, l, e, s, m, args, below, meth, c, D, dA, adK, adV, ad⟩ := z
  obtain ⟨hd, rfl⟩ := hd
  intro C H locs ls B
  exact lv_dup C.1.1 C.1.2.1 hd rfl (kk C H locs ls B)
theorem n_pop {a : Int} (hd : Dk k pc (.pop) 1 pc2) (kk : WN k d mc ms G1 M1 z pc2 L S G M cells slots) : WN k d mc ms G1 M1 z pc L (iv a :: S) G M cells slots := by
  obtain ⟨p, l, e, s, m, args, below, meth, c, D, dA, adK, adV, ad⟩ := z
  obtain ⟨hd, rfl⟩ := hd
  intro C H locs ls B
  exact lv_pop C.1.1 C.1.2.1 hd rfl (kk C H locs ls B)
theorem n_goto {tgt : Nat} (hd : Dj k pc (fun o => .goto o) 3 pc2 tgt) (kk : WN k d mc ms G1 M1 z tgt L S G M cells slots) : WN k d mc ms G1 M1 z pc L S G M cells slots := by
  obtain ⟨p, l, e, s, m, args, below, meth, c, D, dA, adK, adV, ad⟩ := z
  obtain ⟨off, hd, rfl, ht⟩ := hd
  intro C H locs ls B
  exact lv_goto C.1.1 C.1.2.1 hd ht (kk C H locs ls B)
theorem n_ge_y {tgt : Nat} {a b : Int} (hd : Dj k pc (fun o => .if_icmp .ge o) 3 pc2 tgt) (h : ib a ∧ ib b ∧ b ≤ a) (kk : WN k d mc ms G1 M1 z tgt L S G M cells slots) : WN k d mc ms G1 M1 z pc L (iv b :: iv a :: S) G M cells slots := by
  obtain ⟨p, l, e, s, m, args, below, meth, c, D, dA, adK, adV, ad⟩ := z
  obtain ⟨off, hd, rfl, ht⟩ := hd
  intro C H locs ls B
  exact lv_icmp_ge C.1.1 C.1.2.1 hd ht (fun q => kk C H locs ls B) (fun q => absurd ((i3_le h.2.1 h.1).mpr h.2.2) q)
theorem n_ge_n {tgt : Nat} {a b : Int} (hd : Dj k pc (fun o => .if_icmp .ge o) 3 pc2 tgt) (h : ib a ∧ ib b ∧ a < b) (kk : WN k d mc ms G1 M1 z pc2 L S G M cells slots) : WN k d mc ms G1 M1 z pc L (iv b :: iv a :: S) G M cells slots := by
  obtain ⟨p, l, e, s, m, args, below, meth, c, D, dA, adK, adV, ad⟩ := z
  obtain ⟨off, hd, rfl, ht⟩ := hd
  intro C H locs ls B
  exact lv_icmp_ge C.1.1 C.1.2.1 hd ht (fun q => absurd ((i3_le h.2.1 h.1).mp q) (by omega)) (fun q => kk C H locs ls B)
end

/-! constructors: the cells -/
/-- a final field of references, as an own object's field -/
def Ff (own : String) (idx ci j : Nat) : Prop := ∃ (C : String) (T : u_T) (N : Nat) (ty0 : Nat → FieldType) (ty : FieldType), vwCl[ci]? = some (C, T, N) ∧ j < N ∧ (T j).1 = C ∧ Cond.fieldLink own idx C (T j).2.1 (T j).2.2.1 ∈ q_tbl ∧ (∀ w ∈ u_ws C T N, w ∈ q_tbl) ∧ (∀ k, k < N → parseFieldDescriptor (T k).2.2.1 = some (ty0 k)) ∧ (∀ a, a < N → ∀ b, b < N → a ≠ b → (T a).2.1 ≠ (T b).2.1) ∧ (T j).2.2.2 = true ∧ (T j).1 = own ∧ parseFieldDescriptor (T j).2.2.1 = some ty ∧ ((∃ n, ty = .object n) ∨ ∃ t, ty = .array t)
/-- a class whose objects a method makes -/
def Nw (own : String) (idx ci N : Nat) (fs : List (Option (Option Nat))) : Prop := ∃ (C : String) (T : u_T) (ty : Nat → FieldType), vwCl[ci]? = some (C, T, N) ∧ Cond.classLink own idx C ∈ q_tbl ∧ Cond.instantiable C N ∈ q_tbl ∧ Cond.initialized C ∈ q_tbl ∧ (∀ w ∈ u_ws C T N, w ∈ q_tbl) ∧ (∀ k, k < N → parseFieldDescriptor (T k).2.2.1 = some (ty k)) ∧ ∀ j, j < N → (fs[j]? = some none ∧ defaultValue (ty j) = .int 0) ∨ (fs[j]? = some (some none) ∧ defaultValue (ty j) = .null)
section
variable {k : MD} {d mc ms : Nat} {G1 : List GE} {M1 : Mem → Prop} {z : ZZ} {pc pc2 : Nat} {L : List (Option PV)} {S : List PV} {G : List GE} {M : Mem} {cells slots : Nat}
theorem n_objinit {idx a : Nat} (hd : Dk k pc (.invokespecial idx) 3 pc2) (h1 : Cond.methodLink k.1.cls idx Lib.objectInit ∈ q_tbl) (h2 : Cond.instanceMethod Lib.objectInit ∈ q_tbl) (h3 : Cond.code Lib.objectInit ⟨#[0xb1]⟩ 1 none ∈ q_tbl) (hd1 : 1 ≤ d) (hW : (S.map cat).sum ≤ 8) (kk : WN k d mc ms G1 M1 z pc2 L S G M cells slots) : WN k d mc ms G1 M1 z pc L (rv a :: S) G M cells slots := by
  obtain ⟨p, l, e, s, m, args, below, meth, c, D, dA, adK, adV, ad⟩ := z
  obtain ⟨hd, rfl⟩ := hd
  intro C H locs ls B
  have hr := lv_room (m := m) (pc := pc) (ls := ls) (rest := S.map (tv ad)) (st := S.map (tv ad)) (by rw [cat_tv]; exact hW)
  refine W.objInit C.1.1 C.1.2.1 C.1.2.2.2.1 (C.1.2.2.2.2 _ h1) (C.1.2.2.2.2 _ h2) (C.1.2.2.2.2 _ h3) rfl (B.2.2.2.1.trans C.1.2.2.1.symm) rfl hd hd1 ?_ (kk C H locs ls B)
  show _ ≤ 40 * d
  exact Nat.le_trans (Nat.add_le_add_right hr 12) (by omega)
theorem n_new {idx ci N : Nat} {fs : List (Option (Option Nat))} (hd : Dk k pc (.new idx) 3 pc2) (hw : Nw k.1.cls idx ci N fs) (hG : cells + 1 = G.length ∧ G.length < 899) (hc : cells + 1 ≤ mc ∧ slots + N ≤ ms) (hz : ∀ j, M G.length j = 0) (kk : WN k d mc ms G1 M1 z pc2 L (rv G.length :: S) (G ++ [.inl (ci, fs)]) M (cells + 1) (slots + N)) : WN k d mc ms G1 M1 z pc L S G M cells slots := by
  obtain ⟨p, l, e, s, m, args, below, meth, c, D, dA, adK, adV, ad⟩ := z
  obtain ⟨hd, rfl⟩ := hd
  intro C H locs ls B
  obtain ⟨Cn, T, ty, h1, h2, h3, h4, h5, h6, h7⟩ := hw
  have hts := C.1.2.2.2.2
  have hKn := C.2.2.1.1 ci _ h1
  have hlt : ∀ (i : Nat) (x : Nat × va_E), (wln ad dA G M)[i]? = some x → x.1 < H.size := fun i x hx => (B.1 i x hx).lt
  have hS := B.2.2.1
  refine W_sized (fun hup => ?_)
  have hsz : H.size = ad G.length := wn_size C.2.2.2.1.1 C.2.2.2.1.2 B.1 hS.1 hup hG.1 (by omega)
  have hG1 : 1 ≤ G.length := by omega
  refine W.newcK (h := ad G.length) C.1.1 C.1.2.1 C.1.2.2.2.1 (hts _ h2) (hts _ h3) (hts _ h4) rfl hd hc.1 hc.2 hKn.2.1 hsz fun H1 kC hkC e1 z1 o1 => kk C H1 locs ls ⟨?_, B.2.1, ⟨Nat.le_trans hS.1 (by rw [hsz]; omega), fun x g1 g2 => (o1 x (by rw [← hsz]; exact Nat.lt_of_lt_of_le g1 hS.1)).trans (hS.2.1 x g1 g2), hS.2.2⟩, B.2.2.2⟩
  · rw [wln_app]
    refine (B.1.kept (fun i x hx => o1 x.1 (by rw [← hsz]; exact hlt i x hx))).app (fun i x hx => ?_)
    have hi : i < 1 := (List.getElem?_eq_some_iff.mp hx).1
    rw [show i = 0 by omega] at hx
    cases hx
    refine ⟨_, h1, (u_born ty hts h5 hKn hkC e1 h6).to (fun j hj => ?_)⟩
    show defaultValue (ty j) = (fs.mapIdx (cn_f ad M G.length)).getD j .null
    rw [List.getD_eq_getElem?_getD, List.getElem?_mapIdx]
    rcases h7 j hj with ⟨g1, g2⟩ | ⟨g1, g2⟩
    · rw [g1, g2]
      show _ = Value.int (Int32.ofInt (M G.length j))
      rw [hz]
      rfl
    · rw [g1, g2]
      rfl
theorem n_newarr {N : Nat} {a : Int} (hd : Dk k pc (.newarray .int) 2 pc2) (hw : Cond.arrayClass .int ∈ q_tbl) (ha : a = N ∧ N < 10000) (hG : cells + 1 = G.length ∧ G.length < 899) (hc : cells + 1 ≤ mc ∧ slots + N ≤ ms) (hz : ∀ j, M G.length j = 0) (kk : WN k d mc ms G1 M1 z pc2 L (rv G.length :: S) (G ++ [.inr (.inl N)]) M (cells + 1) (slots + N)) : WN k d mc ms G1 M1 z pc L (iv a :: S) G M cells slots := by
  obtain ⟨rfl, hN⟩ := ha
  obtain ⟨p, l, e, s, m, args, below, meth, c, D, dA, adK, adV, ad⟩ := z
  obtain ⟨hd, rfl⟩ := hd
  intro C H locs ls B
  have hts := C.1.2.2.2.2
  have hlt : ∀ (i : Nat) (x : Nat × va_E), (wln ad dA G M)[i]? = some x → x.1 < H.size := fun i x hx => (B.1 i x hx).lt
  have hS := B.2.2.1
  refine W_sized (fun hup => ?_)
  have hsz : H.size = ad G.length := wn_size C.2.2.2.1.1 C.2.2.2.1.2 B.1 hS.1 hup hG.1 (by omega)
  have hG1 : 1 ≤ G.length := by omega
  have hnn : ¬ Int32.ofInt (N : Int) < 0 := fun q => by have := (i3_lt0 (a := (N : Int)) (by omega)).mp q; omega
  refine va_newaK (atype := .int) (n := Int32.ofInt (N : Int)) (N := N) (h := ad G.length) C.1.1 C.1.2.1 (hts _ hw) rfl hd rfl hnn (by rw [i3_nat (by omega) (by omega)]; omega) (by show N * 4 ≤ 536870912; omega) hc.1 hc.2 hsz fun H1 cA e1 z1 o1 hAr hNm => kk C H1 locs ls ⟨?_, B.2.1, ⟨Nat.le_trans hS.1 (by rw [hsz]; omega), fun x g1 g2 => (o1 x (by rw [← hsz]; exact Nat.lt_of_lt_of_le g1 hS.1)).trans (hS.2.1 x g1 g2), hS.2.2⟩, B.2.2.2⟩
  · rw [wln_app]
    refine (B.1.kept (fun i x hx => o1 x.1 (by rw [← hsz]; exact hlt i x hx))).app (fun i x hx => ?_)
    have hi : i < 1 := (List.getElem?_eq_some_iff.mp hx).1
    rw [show i = 0 by omega] at hx
    cases hx
    have h0 : s.vm.findClass ("[" ++ (FieldType.int).toString) = some (dA 0) := (C.2.2.1.2 0 _ rfl).2
    have hcA : cA = dA 0 := Option.some.inj (hNm.symm.trans h0)
    subst hcA
    show H1[ad G.length]? = some (vp_cell (dA 0) (N, .inl (fun i => Int32.ofInt (M G.length i))))
    rw [e1, vp_cell_i]
    congr 1
    congr 1
    funext i
    rw [hz]
    rfl
theorem n_anew {idx t N : Nat} {Cn : String} {a : Int} (hd : Dk k pc (.anewarray idx) 3 pc2) (ht : (t = 1 ∧ Cn = "KeysForSecond$Text") ∨ (t = 2 ∧ Cn = "KeysForSecond$Sheet")) (hw : Cond.classLink k.1.cls idx Cn ∈ q_tbl) (ha : a = N ∧ N < 10000) (hG : cells + 1 = G.length ∧ G.length < 899) (hc : cells + 1 ≤ mc ∧ slots + N ≤ ms) (kk : WN k d mc ms G1 M1 z pc2 L (rv G.length :: S) (G ++ [.inr (.inr (t, List.replicate N none))]) M (cells + 1) (slots + N)) : WN k d mc ms G1 M1 z pc L (iv a :: S) G M cells slots := by
  obtain ⟨rfl, hN⟩ := ha
  obtain ⟨p, l, e, s, m, args, below, meth, c, D, dA, adK, adV, ad⟩ := z
  obtain ⟨hd, rfl⟩ := hd
  intro C H locs ls B
  have hts := C.1.2.2.2.2
  have hlt : ∀ (i : Nat) (x : Nat × va_E), (wln ad dA G M)[i]? = some x → x.1 < H.size := fun i x hx => (B.1 i x hx).lt
  have hS := B.2.2.1
  refine W_sized (fun hup => ?_)
  have hsz : H.size = ad G.length := wn_size C.2.2.2.1.1 C.2.2.2.1.2 B.1 hS.1 hup hG.1 (by omega)
  have hG1 : 1 ≤ G.length := by omega
  have hnn : ¬ Int32.ofInt (N : Int) < 0 := fun q => by have := (i3_lt0 (a := (N : Int)) (by omega)).mp q; omega
  have hnN : (Int32.ofInt (N : Int)).toNatClampNeg = N := by rw [i3_nat (by omega) (by omega)]; omega
  have hover : va_AO Cn s ∧ s.vm.findClass ("[" ++ (FieldType.object Cn).toString) = some (dA t) := by
    rcases ht with ⟨rfl, rfl⟩ | ⟨rfl, rfl⟩
    · obtain ⟨_, _, _, _, _, g⟩ := (C.2.2.1.2 1 _ rfl).2
      exact ⟨C.2.2.2.2.2.2.2.1, g⟩
    · obtain ⟨_, _, _, _, _, g⟩ := (C.2.2.1.2 2 _ rfl).2
      exact ⟨C.2.2.2.2.2.2.2.2, g⟩
  refine W.anew C.1.1 C.1.2.1 C.1.2.2.2.1 (hts _ hw) (va_AO.use hover.1) rfl hd rfl hnn (by rw [hnN]; omega) hc.1 (by rw [hnN]; exact hc.2) fun cA kA comp f1 f2 f3 f4 => ?_
  have hcA : cA = dA t := Option.some.inj (f1.symm.trans hover.2)
  subst hcA
  rw [hnN]
  generalize hH1 : H.push ({ cls := dA t, slots := Array.replicate N .null, vm := .none } : Cell) = H1
  have z1 : H1.size = ad G.length + 1 := by rw [← hH1, Array.size_push, hsz]
  have e1 : H1[ad G.length]? = some (arrV (dA t) N (fun _ => .null)) := by rw [← hsz, ← hH1, Array.getElem?_push_size, ← arrV_new]
  have o1 : ∀ q : Nat, q < ad G.length → H1[q]? = H[q]? := fun q hq => by rw [← hH1, Array.getElem?_push, if_neg (by rw [hsz]; omega)]
  rw [hsz]
  refine kk C H1 locs ls ⟨?_, B.2.1, ⟨Nat.le_trans hS.1 (by rw [hsz]; omega), fun x g1 g2 => (o1 x (by rw [← hsz]; exact Nat.lt_of_lt_of_le g1 hS.1)).trans (hS.2.1 x g1 g2), hS.2.2⟩, B.2.2.2⟩
  · rw [wln_app]
    refine (B.1.kept (fun i x hx => o1 x.1 (by rw [← hsz]; exact hlt i x hx))).app (fun i x hx => ?_)
    have hi : i < 1 := (List.getElem?_eq_some_iff.mp hx).1
    rw [show i = 0 by omega] at hx
    cases hx
    show H1[ad G.length]? = some (vp_cell (dA t) ((List.replicate N (none : Option Nat)).length, .inr (.inr (.inr (.inr (fun i => ((List.replicate N (none : Option Nat)).getD i none).map ad))))))
    rw [e1, vp_cell_q, List.length_replicate]
    congr 1
    congr 1
    funext i
    rw [List.getD_eq_getElem?_getD, List.getElem?_replicate]
    split <;> rfl
theorem n_putR {idx ci j q r : Nat} {fs : List (Option (Option Nat))} (hd : Dk k pc (.putfield idx) 3 pc2) (hf : Ff k.1.cls idx ci j) (hg : G[q]? = some (.inl (ci, fs))) (hj : j < fs.length) (hG : G.length < 900) (kk : WN k d mc ms G1 M1 z pc2 L S (G.set q (.inl (ci, fs.set j (some (some r))))) M cells slots) : WN k d mc ms G1 M1 z pc L (rv r :: rv q :: S) G M cells slots := by
  obtain ⟨p, l, e, s, m, args, below, meth, c, D, dA, adK, adV, ad⟩ := z
  obtain ⟨hd, rfl⟩ := hd
  intro C H locs ls B
  obtain ⟨C1, T, N, ty0, ty, h1, h2, h3, h4, h5, h6, h7, h8, h9, h10, h11⟩ := hf
  have hts := C.1.2.2.2.2
  have hl : j < (fs.mapIdx (cn_f ad M q)).length := by simpa using hj
  have hnw : narrow ty (.ref (ad r)) = .ref (ad r) ∧ fits ty (.ref (ad r)) = true := by
    rcases h11 with ⟨n, rfl⟩ | ⟨t, rfl⟩ <;> exact ⟨rfl, rfl⟩
  refine va_putF (D := D) (ci := ci) (v := .ref (ad r)) (ty := ty) C.1.1 C.1.2.1 hts h5 ty0 h6 h7 C.1.2.2.2.1 C.2.2.1 B.1 (wln_D C.2.2.2.1.1 hG) B.2.2.1 q (wln_get hg) h1 j h2 (by rw [← h3] at h4; exact hts _ h4) (fun _ w => w) h8 C.2.1.2.2 h9 h10 hnw.1 hnw.2 hl hd (fun H1 locs1 hP hD hS => ?_)
  have hq := (List.getElem?_eq_some_iff.mp hg).1
  have hX : (wln ad dA G M).set q (ad q, .inr (ci, (fs.mapIdx (cn_f ad M q)).set j (.ref (ad r)))) = wln ad dA (G.set q (.inl (ci, fs.set j (some (some r))))) M := by
    refine wln_ext hq ?_ (fun c _ => rfl)
    simp only [cn]
    congr 2
    apply List.ext_getElem?
    intro i
    by_cases hi : i = j
    · subst hi
      rw [List.getElem?_set_self hl, List.getElem?_mapIdx, List.getElem?_set_self hj]
      rfl
    · rw [List.getElem?_set_ne (Ne.symm hi), List.getElem?_mapIdx, List.getElem?_mapIdx, List.getElem?_set_ne (Ne.symm hi)]
  rw [hX] at hP
  exact kk C H1 locs1 ls ⟨hP, B.2.1, hS, B.2.2.2⟩
end

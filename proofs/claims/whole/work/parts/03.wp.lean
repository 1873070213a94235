abbrev Mem : Type := Nat → Nat → Int
abbrev PV : Type := Int ⊕ Int ⊕ Nat
abbrev iv (a : Int) : PV := Sum.inl a
abbrev jv (a : Int) : PV := Sum.inr (Sum.inl a)
abbrev rv (k : Nat) : PV := Sum.inr (Sum.inr k)
abbrev ib (a : Int) : Prop := -2147483648 ≤ a ∧ a < 2147483648
abbrev i3 (a : Int) : Int32 := Int32.ofInt a
def tv (ad : Nat → Nat) : PV → Value
  | .inl a => .int (Int32.ofInt a)
  | .inr (.inl a) => .long (Int64.ofInt a)
  | .inr (.inr k) => .ref (ad k)
/-- a cell of the graph: an object of a class (a place of another cell, or a number, a field), a row of ints, a row of references -/
abbrev GD : Type := (Nat × List (Option Nat)) ⊕ Nat ⊕ (Nat × List Nat)
def ce_f (ad : Nat → Nat) (M : Mem) (k : Nat) (j : Nat) (f : Option Nat) : Value := match f with
  | some r => .ref (ad r)
  | none => .int (Int32.ofInt (M k j))
def ce (ad : Nat → Nat) (dA : Nat → ClassId) (M : Mem) (k : Nat) : GD → va_E
  | .inl (ci, fs) => .inr (ci, fs.mapIdx (ce_f ad M k))
  | .inr (.inl n) => .inl (dA 0, n, .inl (fun i => Int32.ofInt (M k i)))
  | .inr (.inr (t, rs)) => .inl (dA t, rs.length, .inr (.inr (.inr (.inr (fun i => (rs[i]?).map ad)))))
def wld (ad : Nat → Nat) (dA : Nat → ClassId) (G : List GD) (M : Mem) : va_W := G.mapIdx (fun k d => (ad k, ce ad dA M k d))
def AA (G : List GD) (ad : Nat → Nat) : Nat → Prop := fun q => ∃ k, k < G.length ∧ q = ad k
def ty_of (dA : Nat → ClassId) : List (ClassId × FieldType) := [(dA 0, .int), (dA 1, .object "KeysForSecond$Text"), (dA 2, .object "KeysForSecond$Sheet")]
def upM (M : Mem) (k i : Nat) (v : Int) : Mem := fun c j => if c = k ∧ j = i then v else M c j
theorem wld_get {ad : Nat → Nat} {dA : Nat → ClassId} {G : List GD} {M : Mem} {k : Nat} {d : GD} (h : G[k]? = some d) : (wld ad dA G M)[k]? = some (ad k, ce ad dA M k d) := by
  simp [wld, List.getElem?_mapIdx, h]
theorem upM_self {M : Mem} {k i : Nat} {v : Int} : upM M k i v k i = v := by simp [upM]
theorem upM_ne {M : Mem} {k i c j : Nat} {v : Int} (h : c ≠ k ∨ j ≠ i) : upM M k i v c j = M c j := by
  unfold upM
  rw [if_neg]
  rintro ⟨h1, h2⟩
  rcases h with h | h
  · exact h h1
  · exact h h2
theorem upM_ib {M : Mem} {k i : Nat} {v : Int} (h : ∀ c j, ib (M c j)) (hv : ib v) : ∀ c j, ib (upM M k i v c j) := by
  intro c j
  unfold upM
  split
  · exact hv
  · exact h c j
theorem wld_ext {ad : Nat → Nat} {dA : Nat → ClassId} {G : List GD} {M M' : Mem} {k : Nat} {d : GD} {x : va_E} (h : G[k]? = some d) (hx : x = ce ad dA M' k d) (ho : ∀ c, c ≠ k → M' c = M c) : (wld ad dA G M).set k (ad k, x) = wld ad dA G M' := by
  apply List.ext_getElem?
  intro j
  have hl : k < (wld ad dA G M).length := by
    have := (List.getElem?_eq_some_iff.mp h).1
    simpa [wld] using this
  by_cases hj : j = k
  · subst hj
    rw [List.getElem?_set_self hl, wld_get h, hx]
  · rw [List.getElem?_set_ne (Ne.symm hj)]
    simp only [wld, List.getElem?_mapIdx]
    cases hg : G[j]? with
    | none => rfl
    | some e =>
      simp only [Option.map_some]
      congr 2
      rcases e with ⟨ci, fs⟩ | n | ⟨t, rs⟩
      · simp only [ce]
        congr 2
        apply List.ext_getElem?
        intro i
        simp only [List.getElem?_mapIdx]
        congr 1
        funext f
        cases f with
        | none => simp only [ce_f]; rw [ho j hj]
        | some r => rfl
      · simp only [ce]; rw [ho j hj]
      · rfl
theorem upM_off {M : Mem} {k i : Nat} {v : Int} (c : Nat) (h : c ≠ k) : upM M k i v c = M c := by
  funext j
  exact upM_ne (Or.inl h)
theorem wld_put {ad : Nat → Nat} {dA : Nat → ClassId} {G : List GD} {M : Mem} {k j ci : Nat} {fs : List (Option Nat)} {v : Int} (h : G[k]? = some (.inl (ci, fs))) (hj : fs[j]? = some none) : (wld ad dA G M).set k (ad k, .inr (ci, (fs.mapIdx (ce_f ad M k)).set j (.int (Int32.ofInt v)))) = wld ad dA G (upM M k j v) := by
  refine wld_ext h ?_ (fun c hc => upM_off c hc)
  simp only [ce]
  congr 2
  apply List.ext_getElem?
  intro i
  have hl : j < (fs.mapIdx (ce_f ad M k)).length := by
    have := (List.getElem?_eq_some_iff.mp hj).1
    simpa using this
  by_cases hi : i = j
  · subst hi
    rw [List.getElem?_set_self hl]
    simp only [List.getElem?_mapIdx, hj, Option.map_some, ce_f, upM_self]
  · rw [List.getElem?_set_ne (Ne.symm hi)]
    simp only [List.getElem?_mapIdx]
    congr 1
    funext f
    cases f with
    | none => simp only [ce_f]; rw [upM_ne (Or.inr hi)]
    | some r => rfl
theorem wld_ast {ad : Nat → Nat} {dA : Nat → ClassId} {G : List GD} {M : Mem} {k n i : Nat} {v : Int} (h : G[k]? = some (.inr (.inl n))) : (wld ad dA G M).set k (ad k, .inl (dA 0, n, .inl (upd (fun j => Int32.ofInt (M k j)) i (Int32.ofInt v)))) = wld ad dA G (upM M k i v) := by
  refine wld_ext h ?_ (fun c hc => upM_off c hc)
  simp only [ce]
  congr 4
  funext j
  by_cases hj : j = i
  · subst hj
    simp [upd, upM]
  · simp [upd, upM, hj]

def s_len : List Nat := [5, 4, 4, 2, 3, 3, 4, 4, 6, 5, 4, 4]
def s_byt : List (List Int32) := [[116, 114, 105, 101, 115], [112, 97, 121, 115], [103, 111, 101, 115], [111, 114], [97, 110, 100], [110, 111, 116], [100, 111, 111, 114], [101, 103, 103, 115], [109, 105, 110, 117, 116, 101], [116, 114, 105, 101, 100], [99, 97, 109, 101], [109, 111, 114, 101]]
def s_ix : List (Nat × String) := [(50, "tries"), (56, "pays"), (58, "goes"), (60, "or"), (62, "and"), (64, "not"), (66, "door"), (68, "eggs"), (70, "minute"), (72, "tried"), (74, "came"), (76, "more")]
/-- what stays at every call: the String constants' cells, the links to nest mates' private members -/
def st_ok (adK adV : Nat → Nat) (A : Nat → Prop) (U : State) : Prop :=
  vk_S 12 s_len s_byt adK adV A U U.heap ∧ (∀ (i : Nat) (q : Nat × String), s_ix[i]? = some q → vk_R RX2 q.1 q.2 (adK i) U) ∧ (∀ q ∈ q_nst, va_Nw (.methodLinkNest q.1 q.2.1 q.2.2.1 q.2.2.2) U) ∧ va_Z "java/lang/String" "COMPACT_STRINGS" "Z" (.int 1) A U U.heap ∧ va_Zq "jdk/internal/util/Preconditions" "SIOOBE_FORMATTER" "Ljava/util/function/BiFunction;" A U U.heap
theorem st_ok.go {adK adV : Nat → Nat} {A : Nat → Prop} {s U : State} (h : st_ok adK adV A s) (hW : s.WarmedH U.vm) (hq : ∀ a : Nat, a < s.heap.size → ¬ A a → U.heap[a]? = s.heap[a]?) : st_ok adK adV A U :=
  ⟨(h.1.kept hq).moved hW.alike, fun i q hi => (h.2.1 i q hi).warm hW, fun q hq => va_Nw.warmM hW (h.2.2.1 q hq), (h.2.2.2.1.kept hq).moved hW.alike, (h.2.2.2.2.kept hq).moved hW.alike⟩
theorem st_ok.same {adK adV : Nat → Nat} {A : Nat → Prop} {s U : State} (h : st_ok adK adV A s) (hv : U.vm = s.vm) (hh : U.heap = s.heap) : st_ok adK adV A U :=
  ⟨by rw [hh]; exact h.1.moved (by rw [hv]; exact Vm.Alike.refl _), fun i q hi => (h.2.1 i q hi).same hv, fun q hq => va_Nw.same rfl hv.symm (h.2.2.1 q hq), by rw [hh]; exact h.2.2.2.1.moved (by rw [hv]; exact Vm.Alike.refl _), by rw [hh]; exact h.2.2.2.2.moved (by rw [hv]; exact Vm.Alike.refl _)⟩
def rmd (n : Nat) : Room := { frames := n, cells := 0, slots := 0, locals := 40 * n }
/-- no two places of the graph are one; the places of the Strings and of their bytes -/
def ad_ok (G : List GD) (adK adV ad : Nat → Nat) : Prop := (∀ i j, i < G.length → j < G.length → ad i = ad j → i = j) ∧ (∀ j, j < 13 → ad (1000 + j) = adK j) ∧ ∀ j, j < 12 → ad (2000 + j) = adV j
/-- the world of a method: the cells of the graph G with the numbers M, at the addresses ad -/
def wo (G : List GD) (D : va_G) (dA : Nat → ClassId) (adK adV ad : Nat → Nat) (M : Mem) (U : State) : Prop :=
  va_P D vwCl (wld ad dA G M) U.heap ∧ (∀ c i, ib (M c i)) ∧ va_K D vwCl (ty_of dA) U ∧ ad_ok G adK adV ad ∧ st_ok adK adV (AA G ad) U
theorem wld_len {ad : Nat → Nat} {dA : Nat → ClassId} {G : List GD} {M : Mem} : (wld ad dA G M).length = G.length := by simp [wld]
theorem wld_D {adK adV ad : Nat → Nat} {dA : Nat → ClassId} {G : List GD} {M : Mem} (h : ad_ok G adK adV ad) : va_D (AA G ad) (wld ad dA G M) := by
  have key : ∀ (k : Nat) (q : Nat × va_E), (wld ad dA G M)[k]? = some q → k < G.length ∧ q.1 = ad k := by
    intro k q hk
    have hl : k < G.length := by
      have := (List.getElem?_eq_some_iff.mp hk).1
      rwa [wld_len] at this
    simp only [wld, List.getElem?_mapIdx] at hk
    cases hg : G[k]? with
    | none => rw [hg] at hk; cases hk
    | some d => rw [hg] at hk; cases hk; exact ⟨hl, rfl⟩
  refine ⟨fun i j p q hi hj e => ?_, fun k q hk => ?_⟩
  · obtain ⟨h1, e1⟩ := key i p hi
    obtain ⟨h2, e2⟩ := key j q hj
    exact h.1 i j h1 h2 (by rw [← e1, ← e2]; exact e)
  · obtain ⟨h1, e1⟩ := key k q hk
    exact ⟨k, h1, e1⟩
theorem wo.calling {G : List GD} {D : va_G} {dA : Nat → ClassId} {adK adV ad : Nat → Nat} {M : Mem} {U : State} (h : wo G D dA adK adV ad M U) (g : JFrame) (mk : MethodId) (a : Array Value) : wo G D dA adK adV ad M (U.calling g mk a) :=
  ⟨h.1, h.2.1, va_K.moved (u := U) (U := U.calling g mk a) (Vm.Alike.refl U.vm) h.2.2.1, h.2.2.2.1, h.2.2.2.2.same rfl rfl⟩
abbrev ZZ : Type := Program × Launch × Env × State × MethodId × Array Value × List Frame × Method × Code × va_G × (Nat → ClassId) × (Nat → Nat) × (Nat → Nat) × (Nat → Nat)
def qq (G : List GD) (D : va_G) (dA : Nat → ClassId) (adK adV ad : Nat → Nat) (post : Option PV → Mem → Prop) : Array Value → State → Outcome → State → Prop := fun _ st oc t =>
  (∃ (r : Option PV) (M' : Mem), oc = .returned (r.map (tv ad)) ∧ post r M' ∧ wo G D dA adK adV ad M' t) ∧ va_F (AA G ad) st t
def Cx (k : MD) (G : List GD) (z : ZZ) : Prop := match z with
  | (p, _, _, s, m, args, _, meth, c, D, dA, adK, adV, ad) =>
    p.tables.exec = Jvm.exec ∧ c.code = k.2.1 ∧ c.maxLocals = k.2.2.1 ∧ s.vm.findClass k.1.cls = some m.cls ∧ (∀ w ∈ q_tbl, w.before args s = true) ∧ meth.locks = false ∧ meth.sig.returnType = k.2.2.2 ∧ va_K D vwCl (ty_of dA) s ∧ ad_ok G adK adV ad ∧ st_ok adK adV (AA G ad) s
def lh (ad : Nat → Nat) (k : MD) (ls : Array Slot) (L : List (Option PV)) : Prop := ls.size = k.2.2.1 ∧ L.length = k.2.2.1 ∧ lv_wf ls ∧ ∀ (i : Nat) (v : PV), L[i]? = some (some v) → ls[i]? = some (Slot.val (tv ad v))
def Bx (k : MD) (G : List GD) (z : ZZ) (L : List (Option PV)) (M : Mem) (H : Heap) (locs : List Loc) (ls : Array Slot) : Prop := match z with
  | (_, _, _, s, _, _, _, _, _, D, dA, _, _, ad) => va_P D vwCl (wld ad dA G M) H ∧ (∀ c i, ib (M c i)) ∧ va_S (AA G ad) s.heap H locs ∧ lh ad k ls L
/-- the machine, from the place pc with the locals L, the stack S, the numbers M, comes to its end with post -/
def WP (k : MD) (G : List GD) (n : Nat) (post : Option PV → Mem → Prop) (z : ZZ) (pc : Nat) (L : List (Option PV)) (S : List PV) (M : Mem) : Prop := match z with
  | (p, l, e, s, m, args, below, meth, c, D, dA, adK, adV, ad) =>
    Cx k G (p, l, e, s, m, args, below, meth, c, D, dA, adK, adV, ad) → ∀ (H : Heap) (locs : List Loc) (ls : Array Slot), Bx k G (p, l, e, s, m, args, below, meth, c, D, dA, adK, adV, ad) L M H locs ls →
      W p l e (rmd n) s m args below meth c H locs 0 0 (MQ below (qq G D dA adK adV ad post) args s 0 0 (AA G ad)) (F0 m pc ls (S.map (tv ad)))
/-- a method's contract, at a depth: from the numbers M, with the arguments As, it returns with post -/
def Con (G : List GD) (d : Nat) (k : MD) (As : List PV) (M : Mem) (post : Option PV → Mem → Prop) : Prop :=
  ∀ (l : Launch) (D : va_G) (dA : Nat → ClassId) (adK adV ad : Nat → Nat), Met l k.1 (Cond.code k.1 k.2.1 k.2.2.1 k.2.2.2 :: q_tbl) (rmd d) (va_Pc (As.map (tv ad)) (fun U => wo G D dA adK adV ad M U)) (qq G D dA adK adV ad post) 0 0 (AA G ad)
def enL : List PV → List (Option PV)
  | [] => []
  | .inr (.inl a) :: r => some (.inr (.inl a)) :: none :: enL r
  | v :: r => some v :: enL r


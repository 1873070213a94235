/-! the law: its world is two worlds and the script -/
abbrev ZL : Type := Program × Launch × Env × State × MethodId × List Frame × Method × Code × va_G × (Nat → ClassId) × (Nat → Nat) × (Nat → Nat) × Nat × Nat × (Nat → Int32)
def AL (s : State) : Nat → Prop := fun q => s.heap.size ≤ q
def adB (h : Nat) (adK adV : Nat → Nat) : Nat → Nat := fun k => if k < 900 then h + k else if k < 2000 then adK (k - 1000) else adV (k - 2000)
def adL (s : State) (b : Nat) : Nat → Nat := fun k => if k = 0 then s.heap.size else if k = 1 then s.heap.size + 68 else b
def CL (z : ZL) : Prop := match z with
  | (p, _, _, s, m, _, meth, c, D, dA, adK, adV, b, n, xs) => lw_At p s m meth c b n xs ∧ n ≤ 3584 ∧ va_K D vwCl (ty_of dA) s ∧ st_ok adK adV (AL s) s ∧ NS s
def PW (z : ZL) (G : List GD) (o : Nat) (M : Mem) : Heap → Prop := match z with
  | (_, _, _, s, _, _, _, _, D, dA, adK, adV, _, _, _) => fun H => va_P D vwCl (wld (adB (s.heap.size + o) adK adV) dA G M) H ∧ ∀ c i, ib (M c i)
def IW (z : ZL) (Mx Mm : Mem) : Heap → Prop := fun H => PW z GX 0 Mx H ∧ PW z GM 68 Mm H
def wz (z : ZL) (j : Nat) : Int := match z with
  | (_, _, _, _, _, _, _, _, _, _, _, _, _, _, xs) => (xs j).toInt
def nz (z : ZL) : Nat := match z with
  | (_, _, _, _, _, _, _, _, _, _, _, _, _, n, _) => n
theorem wz_ib {z : ZL} {j : Nat} : ib (wz z j) := by
  obtain ⟨p, l, e, s, m, below, meth, c, D, dA, adK, adV, b, n, xs⟩ := z
  have h1 := (xs j).le_toInt
  have h2 := (xs j).toInt_lt
  exact ⟨h1, h2⟩
def WL (z : ZL) (pc : Nat) (L : List (Option PV)) (S : List PV) (I : Heap → Prop) (cells slots : Nat) : Prop := match z with
  | (p, l, e, s, m, below, meth, c, D, dA, adK, adV, b, n, xs) =>
    CL (p, l, e, s, m, below, meth, c, D, dA, adK, adV, b, n, xs) → ∀ (H : Heap) (locs : List Loc) (ls : Array Slot), (I H ∧ va_S (AL s) s.heap H locs ∧ lh (adL s b) kL_law ls L) →
      W p l e room_1 s m #[Value.ref b] below meth c H locs cells slots (lw_Z below #[Value.ref b] s) (F0 m pc ls (S.map (tv (adL s b))))
theorem CL.hts {p : Program} {l : Launch} {e : Env} {s : State} {m : MethodId} {below : List Frame} {meth : Method} {c : Code} {D : va_G} {dA : Nat → ClassId} {adK adV : Nat → Nat} {b n : Nat} {xs : Nat → Int32} (C : CL (p, l, e, s, m, below, meth, c, D, dA, adK, adV, b, n, xs)) : ∀ w ∈ q_tbl, w.before #[Value.ref b] s = true :=
  fun w hw => C.1.2.2.2.2.2.1 w (List.mem_filter.mp hw).1
section
variable {z : ZL} {pc pc2 : Nat} {L : List (Option PV)} {S : List PV} {I : Heap → Prop} {cells slots : Nat}
theorem WL.mono {I2 : Heap → Prop} (h : ∀ H, I H → I2 H) (kk : WL z pc L S I2 cells slots) : WL z pc L S I cells slots := by
  obtain ⟨p, l, e, s, m, below, meth, c, D, dA, adK, adV, b, n, xs⟩ := z
  exact fun C H locs ls B => kk C H locs ls ⟨h _ B.1, B.2⟩
theorem l_iconst {a : Int} (hd : Dk kL_law pc (.iconst a) 1 pc2) (kk : WL z pc2 L (iv a :: S) I cells slots) : WL z pc L S I cells slots := by
  obtain ⟨p, l, e, s, m, below, meth, c, D, dA, adK, adV, b, n, xs⟩ := z
  obtain ⟨hd, rfl⟩ := hd
  intro C H locs ls B
  exact lv_iconst C.1.1 C.1.2.1 hd rfl (kk C H locs ls B)
theorem l_bipush {a : Int} (hd : Dk kL_law pc (.bipush a) 2 pc2) (h : -128 ≤ a ∧ a < 128) (kk : WL z pc2 L (iv a :: S) I cells slots) : WL z pc L S I cells slots := by
  obtain ⟨p, l, e, s, m, below, meth, c, D, dA, adK, adV, b, n, xs⟩ := z
  obtain ⟨hd, rfl⟩ := hd
  intro C H locs ls B
  refine lv_bipush C.1.1 C.1.2.1 hd ?_ (kk C H locs ls B)
  rw [← Int32.toInt_inj, i3_toInt (by omega), Int8.toInt_toInt32, Int8.toInt_ofInt_of_le (by omega) (by omega)]
theorem l_aload_0 {R : List (Option PV)} {x : Nat} (hd : Dk kL_law pc (.aload_n 0) 1 pc2) (kk : WL z pc2 (some (rv x) :: R) (rv x :: S) I cells slots) : WL z pc (some (rv x) :: R) S I cells slots := by
  obtain ⟨p, l, e, s, m, below, meth, c, D, dA, adK, adV, b, n, xs⟩ := z
  obtain ⟨hd, rfl⟩ := hd
  intro C H locs ls B
  exact lv_aload_n C.1.1 C.1.2.1 hd rfl (lh_at B.2.2 (i := 0) rfl) (kk C H locs ls B)
theorem l_aload_1 {a0 : Option PV} {R : List (Option PV)} {x : Nat} (hd : Dk kL_law pc (.aload_n 1) 1 pc2) (kk : WL z pc2 (a0 :: some (rv x) :: R) (rv x :: S) I cells slots) : WL z pc (a0 :: some (rv x) :: R) S I cells slots := by
  obtain ⟨p, l, e, s, m, below, meth, c, D, dA, adK, adV, b, n, xs⟩ := z
  obtain ⟨hd, rfl⟩ := hd
  intro C H locs ls B
  exact lv_aload_n C.1.1 C.1.2.1 hd rfl (lh_at B.2.2 (i := 1) rfl) (kk C H locs ls B)
theorem l_aload_2 {a0 a1 : Option PV} {R : List (Option PV)} {x : Nat} (hd : Dk kL_law pc (.aload_n 2) 1 pc2) (kk : WL z pc2 (a0 :: a1 :: some (rv x) :: R) (rv x :: S) I cells slots) : WL z pc (a0 :: a1 :: some (rv x) :: R) S I cells slots := by
  obtain ⟨p, l, e, s, m, below, meth, c, D, dA, adK, adV, b, n, xs⟩ := z
  obtain ⟨hd, rfl⟩ := hd
  intro C H locs ls B
  exact lv_aload_n C.1.1 C.1.2.1 hd rfl (lh_at B.2.2 (i := 2) rfl) (kk C H locs ls B)
theorem l_iload_3 {a0 a1 a2 : Option PV} {R : List (Option PV)} {x : Int} (hd : Dk kL_law pc (.iload_n 3) 1 pc2) (kk : WL z pc2 (a0 :: a1 :: a2 :: some (iv x) :: R) (iv x :: S) I cells slots) : WL z pc (a0 :: a1 :: a2 :: some (iv x) :: R) S I cells slots := by
  obtain ⟨p, l, e, s, m, below, meth, c, D, dA, adK, adV, b, n, xs⟩ := z
  obtain ⟨hd, rfl⟩ := hd
  intro C H locs ls B
  exact lv_iload_n C.1.1 C.1.2.1 hd rfl (lh_at B.2.2 (i := 3) rfl) (kk C H locs ls B)
theorem l_istore_3 {a0 a1 a2 o : Option PV} {R : List (Option PV)} {x : Int} (hd : Dk kL_law pc (.istore_n 3) 1 pc2) (hj : nj a2 = true) (kk : WL z pc2 (a0 :: a1 :: a2 :: some (iv x) :: R) S I cells slots) : WL z pc (a0 :: a1 :: a2 :: o :: R) (iv x :: S) I cells slots := by
  obtain ⟨p, l, e, s, m, below, meth, c, D, dA, adK, adV, b, n, xs⟩ := z
  obtain ⟨hd, rfl⟩ := hd
  intro C H locs ls B
  have hn : 3 < kL_law.2.2.1 := by decide
  refine lv_istore_n C.1.1 C.1.2.1 hd rfl (lh_has B.2.2) hn rfl (fun ls2 h2 => kk C H locs ls2 ⟨B.1, B.2.1, lh_set1 (i := 3) (v := iv x) B.2.2 hn (fun w hw => ?_) h2⟩)
  cases hw; exact hj
theorem l_astore_1 {a0 o : Option PV} {R : List (Option PV)} {x : Nat} (hd : Dk kL_law pc (.astore_n 1) 1 pc2) (hj : nj a0 = true) (kk : WL z pc2 (a0 :: some (rv x) :: R) S I cells slots) : WL z pc (a0 :: o :: R) (rv x :: S) I cells slots := by
  obtain ⟨p, l, e, s, m, below, meth, c, D, dA, adK, adV, b, n, xs⟩ := z
  obtain ⟨hd, rfl⟩ := hd
  intro C H locs ls B
  have hn : 1 < kL_law.2.2.1 := by decide
  refine lv_astore_n C.1.1 C.1.2.1 hd rfl (lh_has B.2.2) hn rfl (fun ls2 h2 => kk C H locs ls2 ⟨B.1, B.2.1, lh_set1 (i := 1) (v := rv x) B.2.2 hn (fun w hw => ?_) h2⟩)
  cases hw; exact hj
theorem l_astore_2 {a0 a1 o : Option PV} {R : List (Option PV)} {x : Nat} (hd : Dk kL_law pc (.astore_n 2) 1 pc2) (hj : nj a1 = true) (kk : WL z pc2 (a0 :: a1 :: some (rv x) :: R) S I cells slots) : WL z pc (a0 :: a1 :: o :: R) (rv x :: S) I cells slots := by
  obtain ⟨p, l, e, s, m, below, meth, c, D, dA, adK, adV, b, n, xs⟩ := z
  obtain ⟨hd, rfl⟩ := hd
  intro C H locs ls B
  have hn : 2 < kL_law.2.2.1 := by decide
  refine lv_astore_n C.1.1 C.1.2.1 hd rfl (lh_has B.2.2) hn rfl (fun ls2 h2 => kk C H locs ls2 ⟨B.1, B.2.1, lh_set1 (i := 2) (v := rv x) B.2.2 hn (fun w hw => ?_) h2⟩)
  cases hw; exact hj
theorem l_iinc_3 {a0 a1 a2 : Option PV} {R : List (Option PV)} {x y d : Int} (hd : Dk kL_law pc (.iinc 3 d) 3 pc2) (hj : nj a2 = true) (hy : x + d = y) (kk : WL z pc2 (a0 :: a1 :: a2 :: some (iv y) :: R) S I cells slots) : WL z pc (a0 :: a1 :: a2 :: some (iv x) :: R) S I cells slots := by
  subst hy
  obtain ⟨p, l, e, s, m, below, meth, c, D, dA, adK, adV, b, n, xs⟩ := z
  obtain ⟨hd, rfl⟩ := hd
  intro C H locs ls B
  have hn : 3 < kL_law.2.2.1 := by decide
  obtain ⟨kq, hq⟩ := List.getElem?_of_mem (la_mem (ad := adL s b) (L := a0 :: a1 :: a2 :: some (iv x) :: R) (q := (3, tv (adL s b) (iv x))).mpr ⟨iv x, rfl, rfl⟩)
  refine lv_iinc C.1.1 C.1.2.1 hd (lh_has B.2.2) hq (v := Int32.ofInt (x + d)) (by rw [Int32.ofInt_add]) hn rfl (fun ls2 h2 => kk C H locs ls2 ⟨B.1, B.2.1, lh_set1 (i := 3) (v := iv (x + d)) B.2.2 hn (fun w hw => ?_) h2⟩)
  cases hw; exact hj
theorem l_goto {tgt : Nat} (hd : Dj kL_law pc (fun o => .goto o) 3 pc2 tgt) (kk : WL z tgt L S I cells slots) : WL z pc L S I cells slots := by
  obtain ⟨p, l, e, s, m, below, meth, c, D, dA, adK, adV, b, n, xs⟩ := z
  obtain ⟨off, hd, rfl, ht⟩ := hd
  intro C H locs ls B
  exact lv_goto C.1.1 C.1.2.1 hd ht (kk C H locs ls B)
theorem l_iadd {a b' r : Int} (hd : Dk kL_law pc (.iadd) 1 pc2) (hr : a + b' = r) (kk : WL z pc2 L (iv r :: S) I cells slots) : WL z pc L (iv b' :: iv a :: S) I cells slots := by
  subst hr
  obtain ⟨p, l, e, s, m, below, meth, c, D, dA, adK, adV, b, n, xs⟩ := z
  obtain ⟨hd, rfl⟩ := hd
  intro C H locs ls B
  exact lv_iadd C.1.1 C.1.2.1 hd (by rw [← Int32.ofInt_add]; exact kk C H locs ls B)
theorem l_isub {a b' : Int} (hd : Dk kL_law pc (.isub) 1 pc2) (kk : WL z pc2 L (iv (a - b') :: S) I cells slots) : WL z pc L (iv b' :: iv a :: S) I cells slots := by
  obtain ⟨p, l, e, s, m, below, meth, c, D, dA, adK, adV, b, n, xs⟩ := z
  obtain ⟨hd, rfl⟩ := hd
  intro C H locs ls B
  exact lv_isub C.1.1 C.1.2.1 hd (by rw [← Int32.ofInt_sub]; exact kk C H locs ls B)
theorem l_iand {a b' r : Int} (hd : Dk kL_law pc (.iand) 1 pc2) (h : Int32.ofInt a &&& Int32.ofInt b' = Int32.ofInt r) (kk : WL z pc2 L (iv r :: S) I cells slots) : WL z pc L (iv b' :: iv a :: S) I cells slots := by
  obtain ⟨p, l, e, s, m, below, meth, c, D, dA, adK, adV, b, n, xs⟩ := z
  obtain ⟨hd, rfl⟩ := hd
  intro C H locs ls B
  exact lv_iand C.1.1 C.1.2.1 hd (by rw [h]; exact kk C H locs ls B)
theorem l_gt {tgt : Nat} {a b' : Int} (hd : Dj kL_law pc (fun o => .if_icmp .gt o) 3 pc2 tgt) (ha : ib a) (hb : ib b') (kt : b' < a → WL z tgt L S I cells slots) (kf : a ≤ b' → WL z pc2 L S I cells slots) : WL z pc L (iv b' :: iv a :: S) I cells slots := by
  obtain ⟨p, l, e, s, m, below, meth, c, D, dA, adK, adV, b, n, xs⟩ := z
  obtain ⟨off, hd, rfl, ht⟩ := hd
  intro C H locs ls B
  exact lv_icmp_gt C.1.1 C.1.2.1 hd ht (fun q => kt ((i3_lt hb ha).mp q) C H locs ls B) (fun q => kf (by have w := mt (i3_lt hb ha).mpr q; omega) C H locs ls B)
theorem l_eq {tgt : Nat} {a : Int} (hd : Dj kL_law pc (fun o => .if_icmp .eq o) 3 pc2 tgt) (kk : WL z tgt L S I cells slots) : WL z pc L (iv a :: iv a :: S) I cells slots := by
  obtain ⟨p, l, e, s, m, below, meth, c, D, dA, adK, adV, b, n, xs⟩ := z
  obtain ⟨off, hd, rfl, ht⟩ := hd
  intro C H locs ls B
  exact lv_icmp_eq C.1.1 C.1.2.1 hd ht (fun q => kk C H locs ls B) (fun q => absurd rfl q)
theorem l_lcmp {a : Int} (hd : Dk kL_law pc (.lcmp) 1 pc2) (kk : WL z pc2 L (iv 0 :: S) I cells slots) : WL z pc L (jv a :: jv a :: S) I cells slots := by
  obtain ⟨p, l, e, s, m, below, meth, c, D, dA, adK, adV, b, n, xs⟩ := z
  obtain ⟨hd, rfl⟩ := hd
  intro C H locs ls B
  refine W.lcmp C.1.1 C.1.2.1 hd ?_
  rw [show lg_cmp (Int64.ofInt a) (Int64.ofInt a) = Int32.ofInt 0 by unfold lg_cmp; rw [if_neg (fun h => Int64.lt_irrefl h), if_pos rfl]; rfl]
  exact kk C H locs ls B
theorem l_ife {tgt : Nat} (hd : Dj kL_law pc (fun o => .ifCond .eq o) 3 pc2 tgt) (kk : WL z tgt L S I cells slots) : WL z pc L (iv 0 :: S) I cells slots := by
  obtain ⟨p, l, e, s, m, below, meth, c, D, dA, adK, adV, b, n, xs⟩ := z
  obtain ⟨off, hd, rfl, ht⟩ := hd
  intro C H locs ls B
  exact lv_if_eq C.1.1 C.1.2.1 hd ht (fun q => kk C H locs ls B) (fun q => absurd rfl q)
theorem l_tsw {dflt lo hi a : Int} {offs : Array Int} {len tgt : Nat} (hd : Dk kL_law pc (.tableswitch dflt lo hi offs) len pc2) (ha : ib a) (h0 : lo = 0) (ht : (pc : Int) + dflt = (tgt : Int)) (ko : WL z tgt L S I cells slots) (ki : ∀ j : Nat, (j : Int) ≤ hi → ∃ (off : Int) (t2 : Nat), offs[j]? = some off ∧ (pc : Int) + off = (t2 : Int) ∧ WL z t2 L S I cells slots) : WL z pc L (iv a :: S) I cells slots := by
  subst h0
  obtain ⟨p, l, e, s, m, below, meth, c, D, dA, adK, adV, b, n, xs⟩ := z
  obtain ⟨hd, rfl⟩ := hd
  intro C H locs ls B
  by_cases h : a < 0 ∨ hi < a
  · exact lv_tableOut C.1.1 C.1.2.1 hd (by rw [i3_toInt ha]; exact h) ht (ko C H locs ls B)
  · have h1 : 0 ≤ a ∧ a ≤ hi := ⟨Int.not_lt.mp (fun q => h (Or.inl q)), Int.not_lt.mp (fun q => h (Or.inr q))⟩
    obtain ⟨off, t2, g1, g2, g3⟩ := ki a.toNat (by rw [Int.toNat_of_nonneg h1.1]; exact h1.2)
    exact lv_tableIn C.1.1 C.1.2.1 hd (by rw [i3_toInt ha]; omega) (by rw [i3_toInt ha]; omega) (by rw [i3_toInt ha, show (a - 0).toNat = a.toNat by rw [Int.sub_zero]]; exact g1) g2 (g3 C H locs ls B)
theorem l_alen (hd : Dk kL_law pc .arraylength 1 pc2) (kk : WL z pc2 L (iv (nz z) :: S) I cells slots) : WL z pc L (rv 2 :: S) I cells slots := by
  obtain ⟨p, l, e, s, m, below, meth, c, D, dA, adK, adV, b, n, xs⟩ := z
  obtain ⟨hd, rfl⟩ := hd
  intro C H locs ls B
  exact va_slen (A := AL s) (H0 := s.heap) C.1.1 C.1.2.1 C.1.2.2.2.2.2.2.1 C.1.2.2.2.2.2.2.2.1 (fun h => absurd C.1.2.2.2.2.2.2.2.1 (Nat.not_lt.mpr h)) B.2.1 hd (kk C H locs ls B)
theorem l_iald {i : Nat} {a : Int} (hd : Dk kL_law pc .iaload 1 pc2) (ha : a = (i : Int)) (hi : i < nz z) (kk : WL z pc2 L (iv (wz z i) :: S) I cells slots) : WL z pc L (iv a :: rv 2 :: S) I cells slots := by
  subst ha
  obtain ⟨p, l, e, s, m, below, meth, c, D, dA, adK, adV, b, n, xs⟩ := z
  obtain ⟨hd, rfl⟩ := hd
  intro C H locs ls B
  have hn : n ≤ 3584 := C.2.1
  have hi : i < n := hi
  refine va_sld (A := AL s) (H0 := s.heap) C.1.1 C.1.2.1 C.1.2.2.2.2.2.2.1 C.1.2.2.2.2.2.2.2.1 (fun h => absurd C.1.2.2.2.2.2.2.2.1 (Nat.not_lt.mpr h)) B.2.1 (i3_in (by omega) (by omega) (by omega)) hd ?_
  rw [i3_nat (by omega) (by omega), Int.toNat_natCast]
  have := kk C H locs ls B
  rw [List.map_cons, show tv (adL s b) (iv (wz (p, l, e, s, m, below, meth, c, D, dA, adK, adV, b, n, xs) i)) = Value.int (xs i) from congrArg Value.int (Int32.ofInt_toInt (xs i))] at this
  exact this
/-- an argument of a call: the script's place i + j -/
theorem l_arg {i j : Nat} {a0 a1 : Option PV} {p1 p2 p3 p4 p5 : Nat} (h1 : Dk kL_law pc (.aload_n 0) 1 p1) (h2 : Dk kL_law p1 (.iload_n 3) 1 p2) (h3 : Dk kL_law p2 (.iconst (j : Int)) 1 p3) (h4 : Dk kL_law p3 (.iadd) 1 p4) (h5 : Dk kL_law p4 .iaload 1 p5) (hi : i + j < nz z) (kk : WL z p5 [some (rv 2), a0, a1, some (iv i)] (iv (wz z (i + j)) :: S) I cells slots) : WL z pc [some (rv 2), a0, a1, some (iv i)] S I cells slots :=
  l_aload_0 h1 (l_iload_3 h2 (l_iconst h3 (l_iadd h4 (r := ((i + j : Nat) : Int)) (by omega) (l_iald h5 rfl hi kk))))
theorem l_argb {i j : Nat} {a0 a1 : Option PV} {p1 p2 p3 p4 p5 : Nat} (h1 : Dk kL_law pc (.aload_n 0) 1 p1) (h2 : Dk kL_law p1 (.iload_n 3) 1 p2) (h3 : Dk kL_law p2 (.bipush (j : Int)) 2 p3) (h4 : Dk kL_law p3 (.iadd) 1 p4) (h5 : Dk kL_law p4 .iaload 1 p5) (hj : j < 100) (hi : i + j < nz z) (kk : WL z p5 [some (rv 2), a0, a1, some (iv i)] (iv (wz z (i + j)) :: S) I cells slots) : WL z pc [some (rv 2), a0, a1, some (iv i)] S I cells slots :=
  l_aload_0 h1 (l_iload_3 h2 (l_bipush h3 (by omega) (l_iadd h4 (r := ((i + j : Nat) : Int)) (by omega) (l_iald h5 rfl hi kk))))
/-- the law's end -/
theorem l_end (hd : Dk kL_law pc (.ireturn) 1 pc2) (hc : cells ≤ 600000 ∧ slots ≤ 7302250) : WL z pc L [iv 1] I cells slots := by
  obtain ⟨p, l, e, s, m, below, meth, c, D, dA, adK, adV, b, n, xs⟩ := z
  obtain ⟨hd, rfl⟩ := hd
  intro C H locs ls B
  exact va_forget B.2.1.2.2 (W.widen hc.1 hc.2 (lw_ret C.1.1 C.1.2.1 C.1.2.2.1 C.1.2.2.2.2.2.2.2.2.1 hd))
end

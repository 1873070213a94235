/-! the law: its two objects -/
def szz (z : ZL) : Nat := match z with
  | (_, _, _, s, _, _, _, _, _, _, _, _, _, _, _) => s.heap.size
theorem l_fitC {d2 mc2 ms2 ml : Nat} (h : d2 < 100) (hm : ml ≤ 20) : (rmC d2 mc2 ms2).frames + 1 ≤ room_1.frames ∧ 8 + (ml + 11) + (rmC d2 mc2 ms2).locals ≤ room_1.locals := by
  simp only [rmC, room_1]
  omega
theorem adB_S {h : Nat} {adK adV : Nat → Nat} : adS (adB h adK adV) := by
  refine ⟨by rw [adB_in (by decide), adB_in (by decide)]; omega, fun j h1 h2 => ?_⟩
  rw [adB_in h2, adB_in (by decide)]
  omega
theorem adB_T {h : Nat} {adK adV : Nat → Nat} : adT adK adV (adB h adK adV) := (adB_ok (G := []) (h := h) (by decide)).2
theorem adB_AN {h : Nat} {adK adV : Nat → Nat} : ∀ q, AN (adB h adK adV) q → h ≤ q := fun q hq => by
  rcases hq with hq | hq
  · rw [adB_in (by decide)] at hq
    omega
  · rw [adB_in (by decide)] at hq
    omega
theorem lh_adv {ad ad2 : Nat → Nat} {k : MD} {ls : Array Slot} {L : List (Option PV)} (h : lh ad k ls L) (he : ∀ (i : Nat) (v : PV), L[i]? = some (some v) → tv ad2 v = tv ad v) : lh ad2 k ls L :=
  ⟨h.1, h.2.1, h.2.2.1, fun i v hi => by rw [he i v hi]; exact h.2.2.2 i v hi⟩
section
variable {z : ZL} {pc p1 p2 p3 : Nat} {L : List (Option PV)} {S : List PV} {cells slots : Nat}
theorem l_make {idx idx2 ci N d2 mc2 ms2 o q : Nat} {fs : List (Option (Option Nat))} {y : MD} {G : List GD} {P2 : Mem → Prop} {I0 : Heap → Prop} (hd1 : Dk kL_law pc (.new idx) 3 p1) (hd2 : Dk kL_law p1 (.dup) 1 p2) (hd3 : Dk kL_law p2 (.invokespecial idx2) 3 p3) (hw : Nw RL idx ci N fs) (hb : Cb y 0) (hy : y.2.2.2 = none ∧ y.1.name = "<init>") (hl : Cond.methodLink RL idx2 y.1 ∈ q_tbl ∧ Cond.instanceMethod y.1 ∈ q_tbl) (hC : CT y d2 mc2 ms2 (.inl (ci, fs)) [] (G.map em) P2) (hdn : d2 < 100) (hW : (S.map cat).sum ≤ 6) (hq : ∀ s b, adL s b q = s.heap.size + o) (ho : cells = o) (hlo : ∀ H : Heap, I0 H → szz z + o ≤ H.size ∨ o = 0) (hk : ∀ H H1 : Heap, I0 H → H.size = szz z + o → (∀ a : Nat, a < szz z + o → H1[a]? = H[a]?) → I0 H1) (hc : cells + 1 + mc2 ≤ 600000 ∧ slots + N + ms2 ≤ 7302250) (kk : ∀ M2, P2 M2 → WL z p3 L (rv q :: S) (fun H => I0 H ∧ PW z G o M2 H) (cells + 1 + mc2) (slots + N + ms2)) : WL z pc L S I0 cells slots := by
  subst ho
  obtain ⟨p, l, e, s, m, below, meth, c, D, dA, adK, adV, b, n, xs⟩ := z
  obtain ⟨hd1, rfl⟩ := hd1
  obtain ⟨hd2, rfl⟩ := hd2
  obtain ⟨hd3, rfl⟩ := hd3
  intro C H locs ls B
  have hlo : ∀ H : Heap, I0 H → s.heap.size + cells ≤ H.size ∨ cells = 0 := hlo
  have hk : ∀ H H1 : Heap, I0 H → H.size = s.heap.size + cells → (∀ a : Nat, a < s.heap.size + cells → H1[a]? = H[a]?) → I0 H1 := hk
  obtain ⟨Cn, T0, ty, h1, h2, h3, h4, h5, h6, h7⟩ := hw
  have hts := C.hts
  have hKn := C.2.2.1.1 ci _ h1
  obtain ⟨hI, hS, hls⟩ := B
  refine W_sized (fun hup => ?_)
  have hsz : H.size = s.heap.size + cells := by
    have g1 := hS.1
    rcases hlo H hI with g | g
    · omega
    · omega
  refine W.newcK (h := s.heap.size + cells) C.1.1 C.1.2.1 C.1.2.2.2.2.1 (hts _ h2) (hts _ h3) (hts _ h4) rfl hd1 (show cells + 1 ≤ 600000 by omega) (show slots + N ≤ 7302250 by omega) hKn.2.1 hsz fun H1 kC hkC e1 z1 o1 => ?_
  refine lv_dup C.1.1 C.1.2.1 hd2 rfl ?_
  have hI1 : I0 H1 := hk H H1 hI hsz (fun a ha => o1 a ha)
  have hS1 : va_S (AL s) s.heap H1 locs := ⟨by rw [z1]; omega, fun a g1 g2 => (o1 a (by omega)).trans (hS.2.1 a g1 g2), hS.2.2⟩
  have hAL : ∀ a, AN (adB (s.heap.size + cells) adK adV) a → AL s a := fun a ha => by
    have := adB_AN a ha
    show s.heap.size ≤ a
    omega
  have hP : va_P D vwCl (wln (adB (s.heap.size + cells) adK adV) dA [.inl (ci, fs)] (fun _ _ => 0)) H1 := by
    intro j x hx
    obtain ⟨dd, g1, rfl⟩ := wln_inv hx
    have hj : j < 1 := (List.getElem?_eq_some_iff.mp g1).1
    obtain rfl : j = 0 := by omega
    cases g1
    refine ⟨_, h1, (u_born ty hts h5 hKn hkC e1 h6).to (fun j hj => ?_)⟩
    show defaultValue (ty j) = (fs.mapIdx (cn_f (adB (s.heap.size + cells) adK adV) (fun _ _ => 0) 0)).getD j .null
    rw [List.getD_eq_getElem?_getD, List.getElem?_mapIdx]
    rcases h7 j hj with ⟨g1, g2⟩ | ⟨g1, g2⟩
    · rw [g1, g2]
      rfl
    · rw [g1, g2]
      rfl
  have hM := hC l D dA adK adV (adB (s.heap.size + cells) adK adV)
  have hgi := q_gin y hb.2.1
  rw [hy.1] at hM hgi
  have hr := va_runI (p := p) (l := l) (e := e) (R := room_1) (s := s) (m := m) (args := #[Value.ref b]) (below := below) (meth := meth) (c := c) (H := H1) (locs := locs) (cells := cells + 1) (slots := slots + N) (g := F0 m (pc + 3 + 1) ls (.ref (s.heap.size + cells) :: .ref (s.heap.size + cells) :: S.map (tv (adL s b)))) (rest := .ref (s.heap.size + cells) :: S.map (tv (adL s b))) (As := []) (b := s.heap.size + cells) (n := 0) ⟨C.1.1, C.1.2.1, C.1.2.2.2.1, C.1.2.2.2.2.1, hts⟩ hM ⟨callB_of 0 hts hgi rfl rfl rfl (hts _ hb.1) (hts _ hl.1) hb.2.2.1 (l_fitC hdn hb.2.2.2), hy.2, hts _ hl.2⟩ ⟨blind_ct, fun U hU hW2 => ⟨rfl, ⟨adB_S, by rw [hU, z1]; rfl⟩, by rw [hU]; exact hP, va_K.moved hW2.alike C.2.2.1, adB_T, (C.2.2.2.1.go hW2 (fun a g1 g2 => by rw [hU]; exact hS1.2.1 a g1 g2)).narrow hAL, C.2.2.2.2.moved hW2⟩⟩ rfl rfl hls.1 rfl (lv_room (by
    rw [List.map_cons, List.sum_cons, cat_tv]
    show 1 + _ ≤ 8
    omega)) hd3 hc
  intro T hT X
  obtain ⟨v, st₀, t, T', L1, h0, X', hL, e1', e2, ⟨⟨hv, M2, ⟨hpm, hM2⟩, hp⟩, hz, hkk⟩, st⟩ := hr T hT X
  have hv : v = none := by injection hv
  subst hv
  rw [h0] at hz hkk
  have hbel : ∀ a : Nat, a < s.heap.size + cells → T'.heap[a]? = H1[a]? := fun a ha => by
    rw [e1']
    refine hkk a (by omega) (fun w => ?_)
    have := adB_AN a w
    omega
  have hS2 : va_S (AL s) s.heap T'.heap (locs ++ L1) := by
    obtain ⟨g1, g2, g3⟩ := hS1
    refine ⟨Nat.le_trans g1 (by rw [e1']; exact hz), fun x f1 f2 => (hbel x (by omega)).trans (g2 x f1 f2), fun x hx => ?_⟩
    rcases List.mem_append.mp hx with h | h
    · exact g3 x h
    · exact hAL _ (hL x h)
  have hI2 : I0 T'.heap := hk H T'.heap hI hsz (fun a ha => (hbel a ha).trans (o1 a ha))
  rw [wln_em] at hp
  obtain ⟨t2, a1, b1⟩ := kk M2 hpm C T'.heap (locs ++ L1) ls ⟨⟨hI2, ⟨by rw [e1']; exact hp, hM2⟩⟩, hS2, hls⟩ T' rfl X'
  refine ⟨t2, st t2 ?_, b1⟩
  rw [List.map_cons, show tv (adL s b) (rv q) = Value.ref (s.heap.size + cells) from congrArg Value.ref (hq s b)] at a1
  exact a1
end

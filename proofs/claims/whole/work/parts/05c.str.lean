/-! String constants: place 1000 + j of the graph is the String j, 2000 + j its bytes, 1012 the formatter that a wrong index would ask -/
theorem r_ldcS {k : MD} {G : List GD} {n : Nat} {post : Option PV → Mem → Prop} {z : ZZ} {pc pc2 : Nat} {L : List (Option PV)} {S : List PV} {M : Mem} (j : Nat) {idx : Nat} {tx : String} (hd : Dk k pc (.ldc idx) 2 pc2) (hk : k.1.cls = RX2) (hj : s_ix[j]? = some (idx, tx)) (hj2 : j < 13) (kk : WP k G n post z pc2 L (rv (1000 + j) :: S) M) : WP k G n post z pc L S M := by
  obtain ⟨p, l, e, s, m, args, below, meth, c, D, dA, adK, adV, ad⟩ := z
  obtain ⟨hd, rfl⟩ := hd
  intro C H locs ls B
  have e : ad (1000 + j) = adK j := C.inj.2.1 j hj2
  refine va_ldcS (own := RX2) (index := idx) (tx := tx) (q := adK j) C.1 C.2.1 (by rw [← hk]; exact C.2.2.2.1) (C.str.2.1 j (idx, tx) hj) hd ?_
  rw [← e]
  exact kk C H locs ls B
theorem r_sval {k : MD} {G : List GD} {n : Nat} {post : Option PV → Mem → Prop} {z : ZZ} {pc pc2 : Nat} {L : List (Option PV)} {S : List PV} {M : Mem} {j idx : Nat} (hd : Dk k pc (.getfield idx) 3 pc2) (hl : Cond.fieldLink k.1.cls idx "java/lang/String" "value" "[B" ∈ q_tbl) (hj : j < 12) (kk : WP k G n post z pc2 L (rv (2000 + j) :: S) M) : WP k G n post z pc L (rv (1000 + j) :: S) M := by
  obtain ⟨p, l, e, s, m, args, below, meth, c, D, dA, adK, adV, ad⟩ := z
  obtain ⟨hd, rfl⟩ := hd
  intro C H locs ls B
  have e1 : ad (1000 + j) = adK j := C.inj.2.1 j (by omega)
  have e2 : ad (2000 + j) = adV j := C.inj.2.2 j hj
  have k2 := kk C H locs ls B
  simp only [List.map_cons, tv] at k2 ⊢
  rw [e2] at k2
  rw [e1]
  exact vk_getf C.1 C.2.1 (o := "java/lang/String") (n := "value") (d := "[B") (own := k.1.cls) (ref := "java/lang/String") (index := idx) (q := adK j) (v := .ref (adV j)) (C.str.1.1 j hj).2.2.1 B.2.2.1 C.2.2.2.1 (C.hts _ hl) (fun _ h => h) hd k2
theorem r_scod {k : MD} {G : List GD} {n : Nat} {post : Option PV → Mem → Prop} {z : ZZ} {pc pc2 : Nat} {L : List (Option PV)} {S : List PV} {M : Mem} {j idx : Nat} (hd : Dk k pc (.getfield idx) 3 pc2) (hl : Cond.fieldLink k.1.cls idx "java/lang/String" "coder" "B" ∈ q_tbl) (hj : j < 12) (kk : WP k G n post z pc2 L (iv 0 :: S) M) : WP k G n post z pc L (rv (1000 + j) :: S) M := by
  obtain ⟨p, l, e, s, m, args, below, meth, c, D, dA, adK, adV, ad⟩ := z
  obtain ⟨hd, rfl⟩ := hd
  intro C H locs ls B
  have e1 : ad (1000 + j) = adK j := C.inj.2.1 j (by omega)
  have k2 := kk C H locs ls B
  simp only [List.map_cons, tv] at k2 ⊢
  rw [e1]
  exact vk_getf C.1 C.2.1 (o := "java/lang/String") (n := "coder") (d := "B") (own := k.1.cls) (ref := "java/lang/String") (index := idx) (q := adK j) (v := .int 0) (C.str.1.1 j hj).2.1 B.2.2.1 C.2.2.2.1 (C.hts _ hl) (fun _ h => h) hd k2
theorem r_slen {k : MD} {G : List GD} {n : Nat} {post : Option PV → Mem → Prop} {z : ZZ} {pc pc2 : Nat} {L : List (Option PV)} {S : List PV} {M : Mem} {j : Nat} (hd : Dk k pc .arraylength 1 pc2) (hj : j < 12) (kk : WP k G n post z pc2 L (iv ((s_len.getD j 0 : Nat) : Int) :: S) M) : WP k G n post z pc L (rv (2000 + j) :: S) M := by
  obtain ⟨p, l, e, s, m, args, below, meth, c, D, dA, adK, adV, ad⟩ := z
  obtain ⟨hd, rfl⟩ := hd
  intro C H locs ls B
  have e2 : ad (2000 + j) = adV j := C.inj.2.2 j hj
  have k2 := kk C H locs ls B
  simp only [List.map_cons, tv] at k2 ⊢
  rw [e2]
  exact va_tlen C.1 C.2.1 (C.str.1.1 j hj).2.2.2 B.2.2.1 (v := Int32.ofInt ((s_len.getD j 0 : Nat) : Int)) rfl hd k2
def s_ch (j i : Nat) : Int := ((s_byt.getD j []).getD i 0).toInt
theorem s_len_lt : ∀ j, j < 12 → s_len.getD j 0 < 10 := by decide +kernel
theorem s_all : ∀ j, j < 12 → ∀ i, i < s_len.getD j 0 → ((97 ≤ s_ch j i ∧ s_ch j i ≤ 122) ∧ Int32.ofInt (s_ch j i) &&& Int32.ofInt 255 = Int32.ofInt (s_ch j i) ∧ ((Int32.ofInt (s_ch j i)).toUInt32 % 65536).toInt32 = Int32.ofInt (s_ch j i) ∧ narrow .char (.int (Int32.ofInt (s_ch j i))) = .int (Int32.ofInt (s_ch j i))) := by decide +kernel
theorem r_sbal {k : MD} {G : List GD} {n : Nat} {post : Option PV → Mem → Prop} {z : ZZ} {pc pc2 : Nat} {L : List (Option PV)} {S : List PV} {M : Mem} {j i : Nat} (hd : Dk k pc .baload 1 pc2) (hj : j < 12) (hi : i < s_len.getD j 0) (kk : WP k G n post z pc2 L (iv (s_ch j i) :: S) M) : WP k G n post z pc L (iv (i : Int) :: rv (2000 + j) :: S) M := by
  obtain ⟨p, l, e, s, m, args, below, meth, c, D, dA, adK, adV, ad⟩ := z
  obtain ⟨hd, rfl⟩ := hd
  intro C H locs ls B
  have e2 : ad (2000 + j) = adV j := C.inj.2.2 j hj
  have hl := s_len_lt j hj
  have e3 : (Int32.ofInt (i : Int)).toNatClampNeg = i := by rw [i3_nat (by omega) (by omega), Int.toNat_natCast]
  have k2 := kk C H locs ls B
  simp only [List.map_cons, tv] at k2 ⊢
  rw [e2]
  exact va_tb C.1 C.2.1 (C.str.1.1 j hj).2.2.2 B.2.2.1 (i := Int32.ofInt (i : Int)) (i3_in (by omega) (by omega) (by omega)) (v := .int (Int32.ofInt (s_ch j i))) (by rw [e3]; unfold s_ch; rw [Int32.ofInt_toInt]) hd k2
theorem r_gsC {k : MD} {G : List GD} {n : Nat} {post : Option PV → Mem → Prop} {z : ZZ} {pc pc2 : Nat} {L : List (Option PV)} {S : List PV} {M : Mem} {idx : Nat} (hd : Dk k pc (.getstatic idx) 3 pc2) (hl : Cond.fieldLink k.1.cls idx "java/lang/String" "COMPACT_STRINGS" "Z" ∈ q_tbl) (kk : WP k G n post z pc2 L (iv 1 :: S) M) : WP k G n post z pc L S M := by
  obtain ⟨p, l, e, s, m, args, below, meth, c, D, dA, adK, adV, ad⟩ := z
  obtain ⟨hd, rfl⟩ := hd
  intro C H locs ls B
  exact va_gets C.1 C.2.1 (C := "java/lang/String") (n := "COMPACT_STRINGS") (d := "Z") (own := k.1.cls) (ref := "java/lang/String") (index := idx) (v := .int 1) C.str.2.2.2.1 B.2.2.1 C.2.2.2.1 (C.hts _ hl) (fun _ h => h) hd (kk C H locs ls B)
theorem r_i2c {k : MD} {G : List GD} {n : Nat} {post : Option PV → Mem → Prop} {z : ZZ} {pc pc2 : Nat} {L : List (Option PV)} {S : List PV} {M : Mem} {a r : Int} (hd : Dk k pc (.i2c) 1 pc2) (h : ((Int32.ofInt a).toUInt32 % 65536).toInt32 = Int32.ofInt r) (kk : WP k G n post z pc2 L (iv r :: S) M) : WP k G n post z pc L (iv a :: S) M := by
  obtain ⟨p, l, e, s, m, args, below, meth, c, D, dA, adK, adV, ad⟩ := z
  obtain ⟨hd, rfl⟩ := hd
  intro C H locs ls B
  exact lv_i2c C.1 C.2.1 hd h (kk C H locs ls B)
/-- the words of a call of a String's own method -/
def Cw (own : String) (idx : Nat) (y : MD) (np : Nat) : Prop := Cb y np ∧ Cond.methodLink own idx y.1 ∈ q_tbl ∧ Cond.instanceMethod y.1 ∈ q_tbl ∧ Cond.selects y.1.cls y.1 y.1 ∈ q_tbl ∧ y.1.cls = "java/lang/String"
theorem r_callW {k : MD} {G : List GD} {n : Nat} {post : Option PV → Mem → Prop} {z : ZZ} {pc pc2 : Nat} {L : List (Option PV)} {S : List PV} {M : Mem} {idx np d j : Nat} {y : MD} {As : List PV} {post2 : Option PV → Mem → Prop} (hd : Dk k pc (.invokevirtual idx) 3 pc2) (hs : Cw k.1.cls idx y np) (hj : j < 12) (hC : Con G d y (rv (1000 + j) :: As) M post2) (hnp : As.length = np) (hdn : d < n) (hW : (S.map cat).sum ≤ 8) (kk : ∀ r M2, post2 r M2 → WP k G n post z pc2 L (r.toList ++ S) M2) : WP k G n post z pc L (As.reverse ++ rv (1000 + j) :: S) M := by
  obtain ⟨p, l, e, s, m, args, below, meth, c, D, dA, adK, adV, ad⟩ := z
  obtain ⟨hd, rfl⟩ := hd
  intro C H locs ls B
  obtain ⟨h1, h2, h3, h4, h5⟩ := hs
  have e1 : ad (1000 + j) = adK j := C.inj.2.1 j (by omega)
  refine wp_back C B (va_runV (As := As.map (tv ad)) (b := ad (1000 + j)) (n := np) ⟨C.1, C.2.1, C.2.2.1, C.2.2.2.1, C.hts⟩ (hC l D dA adK adV ad) ⟨callB_of np C.hts (q_gin y h1.2.1) rfl rfl rfl (C.hts _ h1.1) (C.hts _ h2) h1.2.2.1 (rmd_fit hdn h1.2.2.2), C.hts _ h3, C.hts _ h4⟩ ⟨blind_wo, by rw [e1, h5]; exact vk_recv C.str.1 hj B.2.2.1, fun U hU hW2 => ⟨rfl, wo_pre B.1 B.2.1 B.2.2.1 C.K C.inj C.str hU hW2⟩⟩ rfl (by rw [List.length_map]; exact hnp) B.2.2.2.1 (by simp [List.map_append, List.map_reverse, tv]) (lv_room (by rw [cat_tv]; exact hW)) hd ⟨Nat.zero_le _, Nat.zero_le _⟩) kk
theorem r_cWI0 {k : MD} {G : List GD} {n : Nat} {post : Option PV → Mem → Prop} {z : ZZ} {pc pc2 : Nat} {L : List (Option PV)} {S : List PV} {M : Mem} {idx d j : Nat} {y : MD} {Qp : Int → Mem → Prop} (hd : Dk k pc (.invokevirtual idx) 3 pc2) (hs : Cw k.1.cls idx y 0) (hj : j < 12) (hC : Con G d y [rv (1000 + j)] M (pI Qp)) (hdn : d < n) (hW : (S.map cat).sum ≤ 8) (kk : ∀ b M2, Qp b M2 → WP k G n post z pc2 L (iv b :: S) M2) : WP k G n post z pc L (rv (1000 + j) :: S) M := r_callW hd hs hj hC rfl hdn hW (fun r M2 h => by obtain ⟨b, rfl, hb⟩ := h; exact kk b M2 hb)
theorem r_cWI1 {k : MD} {G : List GD} {n : Nat} {post : Option PV → Mem → Prop} {z : ZZ} {pc pc2 : Nat} {L : List (Option PV)} {S : List PV} {M : Mem} {idx d j : Nat} {y : MD} {x0 : PV} {Qp : Int → Mem → Prop} (hd : Dk k pc (.invokevirtual idx) 3 pc2) (hs : Cw k.1.cls idx y 1) (hj : j < 12) (hC : Con G d y [rv (1000 + j), x0] M (pI Qp)) (hdn : d < n) (hW : (S.map cat).sum ≤ 8) (kk : ∀ b M2, Qp b M2 → WP k G n post z pc2 L (iv b :: S) M2) : WP k G n post z pc L (x0 :: rv (1000 + j) :: S) M := r_callW hd hs hj hC rfl hdn hW (fun r M2 h => by obtain ⟨b, rfl, hb⟩ := h; exact kk b M2 hb)
theorem r_breturn {k : MD} {G : List GD} {n : Nat} {post : Option PV → Mem → Prop} {z : ZZ} {pc pc2 : Nat} {L : List (Option PV)} {M : Mem} (hd : Dk k pc (.ireturn) 1 pc2) (hr : k.2.2.2 = some .byte) (hp : post (some (iv 0)) M) : WP k G n post z pc L [iv 0] M := by
  obtain ⟨p, l, e, s, m, args, below, meth, c, D, dA, adK, adV, ad⟩ := z
  obtain ⟨hd, -⟩ := hd
  intro C H locs ls B
  have hlocks : meth.locks = false := C.2.2.2.2.2.1
  refine W.zret (ty := .byte) C.1 C.2.1 (C.2.2.2.2.2.2.1.trans hr) rfl (fun t ht hW => ?_) B.2.2.1.2.2 hd
  exact ⟨⟨some (iv 0), M, rfl, hp, wo_pre B.1 B.2.1 B.2.2.1 C.K C.inj C.str ht hW⟩, B.2.2.1.F ht⟩
theorem r_creturn {k : MD} {G : List GD} {n : Nat} {post : Option PV → Mem → Prop} {z : ZZ} {pc pc2 : Nat} {L : List (Option PV)} {M : Mem} {a : Int} (hd : Dk k pc (.ireturn) 1 pc2) (hr : k.2.2.2 = some .char) (hb : narrow .char (.int (Int32.ofInt a)) = .int (Int32.ofInt a)) (hp : post (some (iv a)) M) : WP k G n post z pc L [iv a] M := by
  obtain ⟨p, l, e, s, m, args, below, meth, c, D, dA, adK, adV, ad⟩ := z
  obtain ⟨hd, -⟩ := hd
  intro C H locs ls B
  have hlocks : meth.locks = false := C.2.2.2.2.2.1
  refine W.zret (ty := .char) C.1 C.2.1 (C.2.2.2.2.2.2.1.trans hr) hb (fun t ht hW => ?_) B.2.2.1.2.2 hd
  exact ⟨⟨some (iv a), M, rfl, hp, wo_pre B.1 B.2.1 B.2.2.1 C.K C.inj C.str ht hW⟩, B.2.2.1.F ht⟩

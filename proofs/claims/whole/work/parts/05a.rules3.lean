theorem r_tsw_df {k : MD} {G : List GD} {n : Nat} {post : Option PV → Mem → Prop} {z : ZZ} {pc pc2 : Nat} {L : List (Option PV)} {S : List PV} {M : Mem} {dflt lo hi a : Int} {offs : Array Int} {len tgt : Nat} (hd : Dk k pc (.tableswitch dflt lo hi offs) len pc2) (ha : ib a) (h : a < lo ∨ hi < a) (ht : (pc : Int) + dflt = (tgt : Int)) (kk : WP k G n post z tgt L S M) : WP k G n post z pc L (iv a :: S) M := by
  obtain ⟨p, l, e, s, m, args, below, meth, c, D, dA, adK, adV, ad⟩ := z
  obtain ⟨hd, rfl⟩ := hd
  intro C H locs ls B
  exact lv_tableOut C.1 C.2.1 hd (by rw [i3_toInt ha]; exact h) ht (kk C H locs ls B)
theorem r_tsw_at {k : MD} {G : List GD} {n : Nat} {post : Option PV → Mem → Prop} {z : ZZ} {pc pc2 : Nat} {L : List (Option PV)} {S : List PV} {M : Mem} {dflt lo hi a off : Int} {offs : Array Int} {len tgt : Nat} (i : Nat) (hd : Dk k pc (.tableswitch dflt lo hi offs) len pc2) (ha : ib a) (h1 : a = lo + i) (h2 : a ≤ hi) (ho : offs[i]? = some off) (ht : (pc : Int) + off = (tgt : Int)) (kk : WP k G n post z tgt L S M) : WP k G n post z pc L (iv a :: S) M := by
  obtain ⟨p, l, e, s, m, args, below, meth, c, D, dA, adK, adV, ad⟩ := z
  obtain ⟨hd, rfl⟩ := hd
  intro C H locs ls B
  exact lv_tableIn C.1 C.2.1 hd (by rw [i3_toInt ha]; omega) (by rw [i3_toInt ha]; omega) (by rw [i3_toInt ha, show (a - lo).toNat = i by omega]; exact ho) ht (kk C H locs ls B)
theorem r_lsw {k : MD} {G : List GD} {n : Nat} {post : Option PV → Mem → Prop} {z : ZZ} {pc pc2 : Nat} {L : List (Option PV)} {S : List PV} {M : Mem} {dflt a off : Int} {ps : Array (Int × Int)} {len tgt : Nat} (hd : Dk k pc (.lookupswitch dflt ps) len pc2) (ha : ib a) (hp : (ps.toList.zip (ps.toList.drop 1)).all (fun (a, next) => a.1 < next.1) = true) (ho : Op.lookupswitch.offset ps.toList dflt a = off) (ht : (pc : Int) + off = (tgt : Int)) (kk : WP k G n post z tgt L S M) : WP k G n post z pc L (iv a :: S) M := by
  obtain ⟨p, l, e, s, m, args, below, meth, c, D, dA, adK, adV, ad⟩ := z
  obtain ⟨hd, rfl⟩ := hd
  intro C H locs ls B
  exact lv_lookup C.1 C.2.1 hd hp (by rw [i3_toInt ha]; exact ho) ht (kk C H locs ls B)
theorem r_tsw1 {k : MD} {G : List GD} {n : Nat} {post : Option PV → Mem → Prop} {z : ZZ} {pc pc2 : Nat} {L : List (Option PV)} {S : List PV} {M : Mem} {dflt lo hi a o0 : Int} {len t0 td : Nat} (hd : Dk k pc (.tableswitch dflt lo hi #[o0]) len pc2) (hh : hi = lo + 0) (ha : ib a) (e0 : (pc : Int) + o0 = (t0 : Int)) (ed : (pc : Int) + dflt = (td : Int)) (k0 : a = lo + 0 → WP k G n post z t0 L S M) (kd : (a < lo ∨ hi < a) → WP k G n post z td L S M) : WP k G n post z pc L (iv a :: S) M := by
  by_cases hdf : a < lo ∨ hi < a
  · exact r_tsw_df hd ha hdf ed (kd hdf)
  exact r_tsw_at 0 hd ha (by omega) (by omega) rfl e0 (k0 (by omega))
theorem r_tsw3 {k : MD} {G : List GD} {n : Nat} {post : Option PV → Mem → Prop} {z : ZZ} {pc pc2 : Nat} {L : List (Option PV)} {S : List PV} {M : Mem} {dflt lo hi a o0 o1 o2 : Int} {len t0 t1 t2 td : Nat} (hd : Dk k pc (.tableswitch dflt lo hi #[o0, o1, o2]) len pc2) (hh : hi = lo + 2) (ha : ib a) (e0 : (pc : Int) + o0 = (t0 : Int)) (e1 : (pc : Int) + o1 = (t1 : Int)) (e2 : (pc : Int) + o2 = (t2 : Int)) (ed : (pc : Int) + dflt = (td : Int)) (k0 : a = lo + 0 → WP k G n post z t0 L S M) (k1 : a = lo + 1 → WP k G n post z t1 L S M) (k2 : a = lo + 2 → WP k G n post z t2 L S M) (kd : (a < lo ∨ hi < a) → WP k G n post z td L S M) : WP k G n post z pc L (iv a :: S) M := by
  by_cases hdf : a < lo ∨ hi < a
  · exact r_tsw_df hd ha hdf ed (kd hdf)
  by_cases h0 : a = lo + 0
  · exact r_tsw_at 0 hd ha h0 (by omega) rfl e0 (k0 h0)
  by_cases h1 : a = lo + 1
  · exact r_tsw_at 1 hd ha h1 (by omega) rfl e1 (k1 h1)
  exact r_tsw_at 2 hd ha (by omega) (by omega) rfl e2 (k2 (by omega))
theorem r_tsw4 {k : MD} {G : List GD} {n : Nat} {post : Option PV → Mem → Prop} {z : ZZ} {pc pc2 : Nat} {L : List (Option PV)} {S : List PV} {M : Mem} {dflt lo hi a o0 o1 o2 o3 : Int} {len t0 t1 t2 t3 td : Nat} (hd : Dk k pc (.tableswitch dflt lo hi #[o0, o1, o2, o3]) len pc2) (hh : hi = lo + 3) (ha : ib a) (e0 : (pc : Int) + o0 = (t0 : Int)) (e1 : (pc : Int) + o1 = (t1 : Int)) (e2 : (pc : Int) + o2 = (t2 : Int)) (e3 : (pc : Int) + o3 = (t3 : Int)) (ed : (pc : Int) + dflt = (td : Int)) (k0 : a = lo + 0 → WP k G n post z t0 L S M) (k1 : a = lo + 1 → WP k G n post z t1 L S M) (k2 : a = lo + 2 → WP k G n post z t2 L S M) (k3 : a = lo + 3 → WP k G n post z t3 L S M) (kd : (a < lo ∨ hi < a) → WP k G n post z td L S M) : WP k G n post z pc L (iv a :: S) M := by
  by_cases hdf : a < lo ∨ hi < a
  · exact r_tsw_df hd ha hdf ed (kd hdf)
  by_cases h0 : a = lo + 0
  · exact r_tsw_at 0 hd ha h0 (by omega) rfl e0 (k0 h0)
  by_cases h1 : a = lo + 1
  · exact r_tsw_at 1 hd ha h1 (by omega) rfl e1 (k1 h1)
  by_cases h2 : a = lo + 2
  · exact r_tsw_at 2 hd ha h2 (by omega) rfl e2 (k2 h2)
  exact r_tsw_at 3 hd ha (by omega) (by omega) rfl e3 (k3 (by omega))
theorem r_tsw5 {k : MD} {G : List GD} {n : Nat} {post : Option PV → Mem → Prop} {z : ZZ} {pc pc2 : Nat} {L : List (Option PV)} {S : List PV} {M : Mem} {dflt lo hi a o0 o1 o2 o3 o4 : Int} {len t0 t1 t2 t3 t4 td : Nat} (hd : Dk k pc (.tableswitch dflt lo hi #[o0, o1, o2, o3, o4]) len pc2) (hh : hi = lo + 4) (ha : ib a) (e0 : (pc : Int) + o0 = (t0 : Int)) (e1 : (pc : Int) + o1 = (t1 : Int)) (e2 : (pc : Int) + o2 = (t2 : Int)) (e3 : (pc : Int) + o3 = (t3 : Int)) (e4 : (pc : Int) + o4 = (t4 : Int)) (ed : (pc : Int) + dflt = (td : Int)) (k0 : a = lo + 0 → WP k G n post z t0 L S M) (k1 : a = lo + 1 → WP k G n post z t1 L S M) (k2 : a = lo + 2 → WP k G n post z t2 L S M) (k3 : a = lo + 3 → WP k G n post z t3 L S M) (k4 : a = lo + 4 → WP k G n post z t4 L S M) (kd : (a < lo ∨ hi < a) → WP k G n post z td L S M) : WP k G n post z pc L (iv a :: S) M := by
  by_cases hdf : a < lo ∨ hi < a
  · exact r_tsw_df hd ha hdf ed (kd hdf)
  by_cases h0 : a = lo + 0
  · exact r_tsw_at 0 hd ha h0 (by omega) rfl e0 (k0 h0)
  by_cases h1 : a = lo + 1
  · exact r_tsw_at 1 hd ha h1 (by omega) rfl e1 (k1 h1)
  by_cases h2 : a = lo + 2
  · exact r_tsw_at 2 hd ha h2 (by omega) rfl e2 (k2 h2)
  by_cases h3 : a = lo + 3
  · exact r_tsw_at 3 hd ha h3 (by omega) rfl e3 (k3 h3)
  exact r_tsw_at 4 hd ha (by omega) (by omega) rfl e4 (k4 (by omega))
theorem r_tsw6 {k : MD} {G : List GD} {n : Nat} {post : Option PV → Mem → Prop} {z : ZZ} {pc pc2 : Nat} {L : List (Option PV)} {S : List PV} {M : Mem} {dflt lo hi a o0 o1 o2 o3 o4 o5 : Int} {len t0 t1 t2 t3 t4 t5 td : Nat} (hd : Dk k pc (.tableswitch dflt lo hi #[o0, o1, o2, o3, o4, o5]) len pc2) (hh : hi = lo + 5) (ha : ib a) (e0 : (pc : Int) + o0 = (t0 : Int)) (e1 : (pc : Int) + o1 = (t1 : Int)) (e2 : (pc : Int) + o2 = (t2 : Int)) (e3 : (pc : Int) + o3 = (t3 : Int)) (e4 : (pc : Int) + o4 = (t4 : Int)) (e5 : (pc : Int) + o5 = (t5 : Int)) (ed : (pc : Int) + dflt = (td : Int)) (k0 : a = lo + 0 → WP k G n post z t0 L S M) (k1 : a = lo + 1 → WP k G n post z t1 L S M) (k2 : a = lo + 2 → WP k G n post z t2 L S M) (k3 : a = lo + 3 → WP k G n post z t3 L S M) (k4 : a = lo + 4 → WP k G n post z t4 L S M) (k5 : a = lo + 5 → WP k G n post z t5 L S M) (kd : (a < lo ∨ hi < a) → WP k G n post z td L S M) : WP k G n post z pc L (iv a :: S) M := by
  by_cases hdf : a < lo ∨ hi < a
  · exact r_tsw_df hd ha hdf ed (kd hdf)
  by_cases h0 : a = lo + 0
  · exact r_tsw_at 0 hd ha h0 (by omega) rfl e0 (k0 h0)
  by_cases h1 : a = lo + 1
  · exact r_tsw_at 1 hd ha h1 (by omega) rfl e1 (k1 h1)
  by_cases h2 : a = lo + 2
  · exact r_tsw_at 2 hd ha h2 (by omega) rfl e2 (k2 h2)
  by_cases h3 : a = lo + 3
  · exact r_tsw_at 3 hd ha h3 (by omega) rfl e3 (k3 h3)
  by_cases h4 : a = lo + 4
  · exact r_tsw_at 4 hd ha h4 (by omega) rfl e4 (k4 h4)
  exact r_tsw_at 5 hd ha (by omega) (by omega) rfl e5 (k5 (by omega))
theorem r_tsw7 {k : MD} {G : List GD} {n : Nat} {post : Option PV → Mem → Prop} {z : ZZ} {pc pc2 : Nat} {L : List (Option PV)} {S : List PV} {M : Mem} {dflt lo hi a o0 o1 o2 o3 o4 o5 o6 : Int} {len t0 t1 t2 t3 t4 t5 t6 td : Nat} (hd : Dk k pc (.tableswitch dflt lo hi #[o0, o1, o2, o3, o4, o5, o6]) len pc2) (hh : hi = lo + 6) (ha : ib a) (e0 : (pc : Int) + o0 = (t0 : Int)) (e1 : (pc : Int) + o1 = (t1 : Int)) (e2 : (pc : Int) + o2 = (t2 : Int)) (e3 : (pc : Int) + o3 = (t3 : Int)) (e4 : (pc : Int) + o4 = (t4 : Int)) (e5 : (pc : Int) + o5 = (t5 : Int)) (e6 : (pc : Int) + o6 = (t6 : Int)) (ed : (pc : Int) + dflt = (td : Int)) (k0 : a = lo + 0 → WP k G n post z t0 L S M) (k1 : a = lo + 1 → WP k G n post z t1 L S M) (k2 : a = lo + 2 → WP k G n post z t2 L S M) (k3 : a = lo + 3 → WP k G n post z t3 L S M) (k4 : a = lo + 4 → WP k G n post z t4 L S M) (k5 : a = lo + 5 → WP k G n post z t5 L S M) (k6 : a = lo + 6 → WP k G n post z t6 L S M) (kd : (a < lo ∨ hi < a) → WP k G n post z td L S M) : WP k G n post z pc L (iv a :: S) M := by
  by_cases hdf : a < lo ∨ hi < a
  · exact r_tsw_df hd ha hdf ed (kd hdf)
  by_cases h0 : a = lo + 0
  · exact r_tsw_at 0 hd ha h0 (by omega) rfl e0 (k0 h0)
  by_cases h1 : a = lo + 1
  · exact r_tsw_at 1 hd ha h1 (by omega) rfl e1 (k1 h1)
  by_cases h2 : a = lo + 2
  · exact r_tsw_at 2 hd ha h2 (by omega) rfl e2 (k2 h2)
  by_cases h3 : a = lo + 3
  · exact r_tsw_at 3 hd ha h3 (by omega) rfl e3 (k3 h3)
  by_cases h4 : a = lo + 4
  · exact r_tsw_at 4 hd ha h4 (by omega) rfl e4 (k4 h4)
  by_cases h5 : a = lo + 5
  · exact r_tsw_at 5 hd ha h5 (by omega) rfl e5 (k5 h5)
  exact r_tsw_at 6 hd ha (by omega) (by omega) rfl e6 (k6 (by omega))
theorem r_tsw9 {k : MD} {G : List GD} {n : Nat} {post : Option PV → Mem → Prop} {z : ZZ} {pc pc2 : Nat} {L : List (Option PV)} {S : List PV} {M : Mem} {dflt lo hi a o0 o1 o2 o3 o4 o5 o6 o7 o8 : Int} {len t0 t1 t2 t3 t4 t5 t6 t7 t8 td : Nat} (hd : Dk k pc (.tableswitch dflt lo hi #[o0, o1, o2, o3, o4, o5, o6, o7, o8]) len pc2) (hh : hi = lo + 8) (ha : ib a) (e0 : (pc : Int) + o0 = (t0 : Int)) (e1 : (pc : Int) + o1 = (t1 : Int)) (e2 : (pc : Int) + o2 = (t2 : Int)) (e3 : (pc : Int) + o3 = (t3 : Int)) (e4 : (pc : Int) + o4 = (t4 : Int)) (e5 : (pc : Int) + o5 = (t5 : Int)) (e6 : (pc : Int) + o6 = (t6 : Int)) (e7 : (pc : Int) + o7 = (t7 : Int)) (e8 : (pc : Int) + o8 = (t8 : Int)) (ed : (pc : Int) + dflt = (td : Int)) (k0 : a = lo + 0 → WP k G n post z t0 L S M) (k1 : a = lo + 1 → WP k G n post z t1 L S M) (k2 : a = lo + 2 → WP k G n post z t2 L S M) (k3 : a = lo + 3 → WP k G n post z t3 L S M) (k4 : a = lo + 4 → WP k G n post z t4 L S M) (k5 : a = lo + 5 → WP k G n post z t5 L S M) (k6 : a = lo + 6 → WP k G n post z t6 L S M) (k7 : a = lo + 7 → WP k G n post z t7 L S M) (k8 : a = lo + 8 → WP k G n post z t8 L S M) (kd : (a < lo ∨ hi < a) → WP k G n post z td L S M) : WP k G n post z pc L (iv a :: S) M := by
  by_cases hdf : a < lo ∨ hi < a
  · exact r_tsw_df hd ha hdf ed (kd hdf)
  by_cases h0 : a = lo + 0
  · exact r_tsw_at 0 hd ha h0 (by omega) rfl e0 (k0 h0)
  by_cases h1 : a = lo + 1
  · exact r_tsw_at 1 hd ha h1 (by omega) rfl e1 (k1 h1)
  by_cases h2 : a = lo + 2
  · exact r_tsw_at 2 hd ha h2 (by omega) rfl e2 (k2 h2)
  by_cases h3 : a = lo + 3
  · exact r_tsw_at 3 hd ha h3 (by omega) rfl e3 (k3 h3)
  by_cases h4 : a = lo + 4
  · exact r_tsw_at 4 hd ha h4 (by omega) rfl e4 (k4 h4)
  by_cases h5 : a = lo + 5
  · exact r_tsw_at 5 hd ha h5 (by omega) rfl e5 (k5 h5)
  by_cases h6 : a = lo + 6
  · exact r_tsw_at 6 hd ha h6 (by omega) rfl e6 (k6 h6)
  by_cases h7 : a = lo + 7
  · exact r_tsw_at 7 hd ha h7 (by omega) rfl e7 (k7 h7)
  exact r_tsw_at 8 hd ha (by omega) (by omega) rfl e8 (k8 (by omega))
theorem r_lsw1 {k : MD} {G : List GD} {n : Nat} {post : Option PV → Mem → Prop} {z : ZZ} {pc pc2 : Nat} {L : List (Option PV)} {S : List PV} {M : Mem} {dflt a o0 c0 : Int} {len t0 td : Nat} (hd : Dk k pc (.lookupswitch dflt #[(c0, o0)]) len pc2) (hp : ([((c0, o0) : Int × Int)].zip ([((c0, o0) : Int × Int)].drop 1)).all (fun (a, next) => a.1 < next.1) = true) (ha : ib a) (e0 : (pc : Int) + o0 = (t0 : Int)) (ed : (pc : Int) + dflt = (td : Int)) (k0 : a = c0 → WP k G n post z t0 L S M) (kd : ¬ a = c0 → WP k G n post z td L S M) : WP k G n post z pc L (iv a :: S) M := by
  by_cases h0 : a = c0
  · exact r_lsw hd ha hp (off := o0) (by show Op.lookupswitch.offset [(c0, o0)] dflt a = _; rw [Op.lookupswitch.offset_cons, if_pos h0.symm]) e0 (k0 h0)
  exact r_lsw hd ha hp (off := dflt) (by show Op.lookupswitch.offset [(c0, o0)] dflt a = _; rw [Op.lookupswitch.offset_cons, if_neg (fun q => h0 q.symm)]; rfl) ed (kd h0)
theorem r_lsw6 {k : MD} {G : List GD} {n : Nat} {post : Option PV → Mem → Prop} {z : ZZ} {pc pc2 : Nat} {L : List (Option PV)} {S : List PV} {M : Mem} {dflt a o0 o1 o2 o3 o4 o5 c0 c1 c2 c3 c4 c5 : Int} {len t0 t1 t2 t3 t4 t5 td : Nat} (hd : Dk k pc (.lookupswitch dflt #[(c0, o0), (c1, o1), (c2, o2), (c3, o3), (c4, o4), (c5, o5)]) len pc2) (hp : ([((c0, o0) : Int × Int), ((c1, o1) : Int × Int), ((c2, o2) : Int × Int), ((c3, o3) : Int × Int), ((c4, o4) : Int × Int), ((c5, o5) : Int × Int)].zip ([((c0, o0) : Int × Int), ((c1, o1) : Int × Int), ((c2, o2) : Int × Int), ((c3, o3) : Int × Int), ((c4, o4) : Int × Int), ((c5, o5) : Int × Int)].drop 1)).all (fun (a, next) => a.1 < next.1) = true) (ha : ib a) (e0 : (pc : Int) + o0 = (t0 : Int)) (e1 : (pc : Int) + o1 = (t1 : Int)) (e2 : (pc : Int) + o2 = (t2 : Int)) (e3 : (pc : Int) + o3 = (t3 : Int)) (e4 : (pc : Int) + o4 = (t4 : Int)) (e5 : (pc : Int) + o5 = (t5 : Int)) (ed : (pc : Int) + dflt = (td : Int)) (k0 : a = c0 → WP k G n post z t0 L S M) (k1 : a = c1 → WP k G n post z t1 L S M) (k2 : a = c2 → WP k G n post z t2 L S M) (k3 : a = c3 → WP k G n post z t3 L S M) (k4 : a = c4 → WP k G n post z t4 L S M) (k5 : a = c5 → WP k G n post z t5 L S M) (kd : ¬ a = c0 → ¬ a = c1 → ¬ a = c2 → ¬ a = c3 → ¬ a = c4 → ¬ a = c5 → WP k G n post z td L S M) : WP k G n post z pc L (iv a :: S) M := by
  by_cases h0 : a = c0
  · exact r_lsw hd ha hp (off := o0) (by show Op.lookupswitch.offset [(c0, o0), (c1, o1), (c2, o2), (c3, o3), (c4, o4), (c5, o5)] dflt a = _; rw [Op.lookupswitch.offset_cons, if_pos h0.symm]) e0 (k0 h0)
  by_cases h1 : a = c1
  · exact r_lsw hd ha hp (off := o1) (by show Op.lookupswitch.offset [(c0, o0), (c1, o1), (c2, o2), (c3, o3), (c4, o4), (c5, o5)] dflt a = _; rw [Op.lookupswitch.offset_cons, if_neg (fun q => h0 q.symm), Op.lookupswitch.offset_cons, if_pos h1.symm]) e1 (k1 h1)
  by_cases h2 : a = c2
  · exact r_lsw hd ha hp (off := o2) (by show Op.lookupswitch.offset [(c0, o0), (c1, o1), (c2, o2), (c3, o3), (c4, o4), (c5, o5)] dflt a = _; rw [Op.lookupswitch.offset_cons, if_neg (fun q => h0 q.symm), Op.lookupswitch.offset_cons, if_neg (fun q => h1 q.symm), Op.lookupswitch.offset_cons, if_pos h2.symm]) e2 (k2 h2)
  by_cases h3 : a = c3
  · exact r_lsw hd ha hp (off := o3) (by show Op.lookupswitch.offset [(c0, o0), (c1, o1), (c2, o2), (c3, o3), (c4, o4), (c5, o5)] dflt a = _; rw [Op.lookupswitch.offset_cons, if_neg (fun q => h0 q.symm), Op.lookupswitch.offset_cons, if_neg (fun q => h1 q.symm), Op.lookupswitch.offset_cons, if_neg (fun q => h2 q.symm), Op.lookupswitch.offset_cons, if_pos h3.symm]) e3 (k3 h3)
  by_cases h4 : a = c4
  · exact r_lsw hd ha hp (off := o4) (by show Op.lookupswitch.offset [(c0, o0), (c1, o1), (c2, o2), (c3, o3), (c4, o4), (c5, o5)] dflt a = _; rw [Op.lookupswitch.offset_cons, if_neg (fun q => h0 q.symm), Op.lookupswitch.offset_cons, if_neg (fun q => h1 q.symm), Op.lookupswitch.offset_cons, if_neg (fun q => h2 q.symm), Op.lookupswitch.offset_cons, if_neg (fun q => h3 q.symm), Op.lookupswitch.offset_cons, if_pos h4.symm]) e4 (k4 h4)
  by_cases h5 : a = c5
  · exact r_lsw hd ha hp (off := o5) (by show Op.lookupswitch.offset [(c0, o0), (c1, o1), (c2, o2), (c3, o3), (c4, o4), (c5, o5)] dflt a = _; rw [Op.lookupswitch.offset_cons, if_neg (fun q => h0 q.symm), Op.lookupswitch.offset_cons, if_neg (fun q => h1 q.symm), Op.lookupswitch.offset_cons, if_neg (fun q => h2 q.symm), Op.lookupswitch.offset_cons, if_neg (fun q => h3 q.symm), Op.lookupswitch.offset_cons, if_neg (fun q => h4 q.symm), Op.lookupswitch.offset_cons, if_pos h5.symm]) e5 (k5 h5)
  exact r_lsw hd ha hp (off := dflt) (by show Op.lookupswitch.offset [(c0, o0), (c1, o1), (c2, o2), (c3, o3), (c4, o4), (c5, o5)] dflt a = _; rw [Op.lookupswitch.offset_cons, if_neg (fun q => h0 q.symm), Op.lookupswitch.offset_cons, if_neg (fun q => h1 q.symm), Op.lookupswitch.offset_cons, if_neg (fun q => h2 q.symm), Op.lookupswitch.offset_cons, if_neg (fun q => h3 q.symm), Op.lookupswitch.offset_cons, if_neg (fun q => h4 q.symm), Op.lookupswitch.offset_cons, if_neg (fun q => h5 q.symm)]; rfl) ed (kd h0 h1 h2 h3 h4 h5)
theorem r_lsw7 {k : MD} {G : List GD} {n : Nat} {post : Option PV → Mem → Prop} {z : ZZ} {pc pc2 : Nat} {L : List (Option PV)} {S : List PV} {M : Mem} {dflt a o0 o1 o2 o3 o4 o5 o6 c0 c1 c2 c3 c4 c5 c6 : Int} {len t0 t1 t2 t3 t4 t5 t6 td : Nat} (hd : Dk k pc (.lookupswitch dflt #[(c0, o0), (c1, o1), (c2, o2), (c3, o3), (c4, o4), (c5, o5), (c6, o6)]) len pc2) (hp : ([((c0, o0) : Int × Int), ((c1, o1) : Int × Int), ((c2, o2) : Int × Int), ((c3, o3) : Int × Int), ((c4, o4) : Int × Int), ((c5, o5) : Int × Int), ((c6, o6) : Int × Int)].zip ([((c0, o0) : Int × Int), ((c1, o1) : Int × Int), ((c2, o2) : Int × Int), ((c3, o3) : Int × Int), ((c4, o4) : Int × Int), ((c5, o5) : Int × Int), ((c6, o6) : Int × Int)].drop 1)).all (fun (a, next) => a.1 < next.1) = true) (ha : ib a) (e0 : (pc : Int) + o0 = (t0 : Int)) (e1 : (pc : Int) + o1 = (t1 : Int)) (e2 : (pc : Int) + o2 = (t2 : Int)) (e3 : (pc : Int) + o3 = (t3 : Int)) (e4 : (pc : Int) + o4 = (t4 : Int)) (e5 : (pc : Int) + o5 = (t5 : Int)) (e6 : (pc : Int) + o6 = (t6 : Int)) (ed : (pc : Int) + dflt = (td : Int)) (k0 : a = c0 → WP k G n post z t0 L S M) (k1 : a = c1 → WP k G n post z t1 L S M) (k2 : a = c2 → WP k G n post z t2 L S M) (k3 : a = c3 → WP k G n post z t3 L S M) (k4 : a = c4 → WP k G n post z t4 L S M) (k5 : a = c5 → WP k G n post z t5 L S M) (k6 : a = c6 → WP k G n post z t6 L S M) (kd : ¬ a = c0 → ¬ a = c1 → ¬ a = c2 → ¬ a = c3 → ¬ a = c4 → ¬ a = c5 → ¬ a = c6 → WP k G n post z td L S M) : WP k G n post z pc L (iv a :: S) M := by
  by_cases h0 : a = c0
  · exact r_lsw hd ha hp (off := o0) (by show Op.lookupswitch.offset [(c0, o0), (c1, o1), (c2, o2), (c3, o3), (c4, o4), (c5, o5), (c6, o6)] dflt a = _; rw [Op.lookupswitch.offset_cons, if_pos h0.symm]) e0 (k0 h0)
  by_cases h1 : a = c1
  · exact r_lsw hd ha hp (off := o1) (by show Op.lookupswitch.offset [(c0, o0), (c1, o1), (c2, o2), (c3, o3), (c4, o4), (c5, o5), (c6, o6)] dflt a = _; rw [Op.lookupswitch.offset_cons, if_neg (fun q => h0 q.symm), Op.lookupswitch.offset_cons, if_pos h1.symm]) e1 (k1 h1)
  by_cases h2 : a = c2
  · exact r_lsw hd ha hp (off := o2) (by show Op.lookupswitch.offset [(c0, o0), (c1, o1), (c2, o2), (c3, o3), (c4, o4), (c5, o5), (c6, o6)] dflt a = _; rw [Op.lookupswitch.offset_cons, if_neg (fun q => h0 q.symm), Op.lookupswitch.offset_cons, if_neg (fun q => h1 q.symm), Op.lookupswitch.offset_cons, if_pos h2.symm]) e2 (k2 h2)
  by_cases h3 : a = c3
  · exact r_lsw hd ha hp (off := o3) (by show Op.lookupswitch.offset [(c0, o0), (c1, o1), (c2, o2), (c3, o3), (c4, o4), (c5, o5), (c6, o6)] dflt a = _; rw [Op.lookupswitch.offset_cons, if_neg (fun q => h0 q.symm), Op.lookupswitch.offset_cons, if_neg (fun q => h1 q.symm), Op.lookupswitch.offset_cons, if_neg (fun q => h2 q.symm), Op.lookupswitch.offset_cons, if_pos h3.symm]) e3 (k3 h3)
  by_cases h4 : a = c4
  · exact r_lsw hd ha hp (off := o4) (by show Op.lookupswitch.offset [(c0, o0), (c1, o1), (c2, o2), (c3, o3), (c4, o4), (c5, o5), (c6, o6)] dflt a = _; rw [Op.lookupswitch.offset_cons, if_neg (fun q => h0 q.symm), Op.lookupswitch.offset_cons, if_neg (fun q => h1 q.symm), Op.lookupswitch.offset_cons, if_neg (fun q => h2 q.symm), Op.lookupswitch.offset_cons, if_neg (fun q => h3 q.symm), Op.lookupswitch.offset_cons, if_pos h4.symm]) e4 (k4 h4)
  by_cases h5 : a = c5
  · exact r_lsw hd ha hp (off := o5) (by show Op.lookupswitch.offset [(c0, o0), (c1, o1), (c2, o2), (c3, o3), (c4, o4), (c5, o5), (c6, o6)] dflt a = _; rw [Op.lookupswitch.offset_cons, if_neg (fun q => h0 q.symm), Op.lookupswitch.offset_cons, if_neg (fun q => h1 q.symm), Op.lookupswitch.offset_cons, if_neg (fun q => h2 q.symm), Op.lookupswitch.offset_cons, if_neg (fun q => h3 q.symm), Op.lookupswitch.offset_cons, if_neg (fun q => h4 q.symm), Op.lookupswitch.offset_cons, if_pos h5.symm]) e5 (k5 h5)
  by_cases h6 : a = c6
  · exact r_lsw hd ha hp (off := o6) (by show Op.lookupswitch.offset [(c0, o0), (c1, o1), (c2, o2), (c3, o3), (c4, o4), (c5, o5), (c6, o6)] dflt a = _; rw [Op.lookupswitch.offset_cons, if_neg (fun q => h0 q.symm), Op.lookupswitch.offset_cons, if_neg (fun q => h1 q.symm), Op.lookupswitch.offset_cons, if_neg (fun q => h2 q.symm), Op.lookupswitch.offset_cons, if_neg (fun q => h3 q.symm), Op.lookupswitch.offset_cons, if_neg (fun q => h4 q.symm), Op.lookupswitch.offset_cons, if_neg (fun q => h5 q.symm), Op.lookupswitch.offset_cons, if_pos h6.symm]) e6 (k6 h6)
  exact r_lsw hd ha hp (off := dflt) (by show Op.lookupswitch.offset [(c0, o0), (c1, o1), (c2, o2), (c3, o3), (c4, o4), (c5, o5), (c6, o6)] dflt a = _; rw [Op.lookupswitch.offset_cons, if_neg (fun q => h0 q.symm), Op.lookupswitch.offset_cons, if_neg (fun q => h1 q.symm), Op.lookupswitch.offset_cons, if_neg (fun q => h2 q.symm), Op.lookupswitch.offset_cons, if_neg (fun q => h3 q.symm), Op.lookupswitch.offset_cons, if_neg (fun q => h4 q.symm), Op.lookupswitch.offset_cons, if_neg (fun q => h5 q.symm), Op.lookupswitch.offset_cons, if_neg (fun q => h6 q.symm)]; rfl) ed (kd h0 h1 h2 h3 h4 h5 h6)
theorem r_mmin {k : MD} {G : List GD} {n : Nat} {post : Option PV → Mem → Prop} {z : ZZ} {pc pc2 : Nat} {L : List (Option PV)} {S : List PV} {M : Mem} {idx : Nat} {a b : Int} (hd : Dk k pc (.invokestatic idx) 3 pc2) (hs : Cs k.1.cls idx kJ9_min_7cf53 2) (ha : ib a) (hb : ib b) (hn : 0 < n) (hW : (S.map cat).sum ≤ 8) (kk : WP k G n post z pc2 L (iv (if b < a then b else a) :: S) M) : WP k G n post z pc L (iv b :: iv a :: S) M := by
  obtain ⟨p, l, e, s, m, args, below, meth, c, D, dA, adK, adV, ad⟩ := z
  obtain ⟨hd, rfl⟩ := hd
  intro C H locs ls B
  have hcode : (Cond.code Lib.Math.min.name Lib.Math.min.code 2 (some .int)).before args s = true := C.hts _ hs.1.2.1
  refine va_mmin C.1 C.2.1 (C.2.2.1.trans B.2.2.2.1.symm) C.2.2.2.1 (C.hts _ hs.2.1) (C.hts _ hs.2.2) (C.hts _ hs.1.1) hcode (by show 1 ≤ n; omega) (by rw [cat_tv]; show _ ≤ 40 * n; omega) (Nat.zero_le _) (Nat.zero_le _) hd ?_
  have e : (if Int32.ofInt b < Int32.ofInt a then Int32.ofInt b else Int32.ofInt a) = Int32.ofInt (if b < a then b else a) := by
    by_cases q : b < a
    · rw [if_pos q, if_pos ((i3_lt hb ha).mpr q)]
    · rw [if_neg q, if_neg (fun w => q ((i3_lt hb ha).mp w))]
  rw [e]
  exact kk C H locs ls B
theorem r_mmax {k : MD} {G : List GD} {n : Nat} {post : Option PV → Mem → Prop} {z : ZZ} {pc pc2 : Nat} {L : List (Option PV)} {S : List PV} {M : Mem} {idx : Nat} {a b : Int} (hd : Dk k pc (.invokestatic idx) 3 pc2) (hs : Cs k.1.cls idx kJ9_max_7cf53 2) (ha : ib a) (hb : ib b) (hn : 0 < n) (hW : (S.map cat).sum ≤ 8) (kk : WP k G n post z pc2 L (iv (if a < b then b else a) :: S) M) : WP k G n post z pc L (iv b :: iv a :: S) M := by
  obtain ⟨p, l, e, s, m, args, below, meth, c, D, dA, adK, adV, ad⟩ := z
  obtain ⟨hd, rfl⟩ := hd
  intro C H locs ls B
  have hcode : (Cond.code Lib.Math.max.name Lib.Math.max.code 2 (some .int)).before args s = true := C.hts _ hs.1.2.1
  refine va_mmax C.1 C.2.1 (C.2.2.1.trans B.2.2.2.1.symm) C.2.2.2.1 (C.hts _ hs.2.1) (C.hts _ hs.2.2) (C.hts _ hs.1.1) hcode (by show 1 ≤ n; omega) (by rw [cat_tv]; show _ ≤ 40 * n; omega) (Nat.zero_le _) (Nat.zero_le _) hd ?_
  have e : (if Int32.ofInt a < Int32.ofInt b then Int32.ofInt b else Int32.ofInt a) = Int32.ofInt (if a < b then b else a) := by
    by_cases q : a < b
    · rw [if_pos q, if_pos ((i3_lt ha hb).mpr q)]
    · rw [if_neg q, if_neg (fun w => q ((i3_lt ha hb).mp w))]
  rw [e]
  exact kk C H locs ls B
def cpM (M : Mem) (q0 sp q1 dp n : Nat) : Mem := fun c i => if c = q1 ∧ dp ≤ i ∧ i < dp + n then M q0 (sp + (i - dp)) else M c i
theorem wld_cp {ad : Nat → Nat} {dA : Nat → ClassId} {G : List GD} {M : Mem} {q0 q1 N sp dp n : Nat} (h : G[q1]? = some (.inr (.inl N))) : (wld ad dA G M).set q1 (ad q1, .inl (dA 0, N, .inl (va_cpy (fun j => Int32.ofInt (M q0 j)) (fun j => Int32.ofInt (M q1 j)) sp dp n))) = wld ad dA G (cpM M q0 sp q1 dp n) := by
  refine wld_ext h ?_ (fun c hc => ?_)
  · simp only [ce]
    congr 4
    funext j
    simp only [va_cpy, cpM]
    by_cases hj : dp ≤ j ∧ j < dp + n
    · rw [if_pos hj, if_pos ⟨trivial, hj⟩]
    · rw [if_neg hj, if_neg (fun w => hj w.2)]
  · funext j
    simp only [cpM]
    rw [if_neg (fun w => hc w.1)]
theorem cpM_ib {M : Mem} {q0 sp q1 dp n : Nat} (h : ∀ c i, ib (M c i)) : ∀ c i, ib (cpM M q0 sp q1 dp n c i) := by
  intro c i
  unfold cpM
  split
  · exact h _ _
  · exact h _ _
def Ca (own : String) (idx : Nat) : Prop := Cond.methodLink own idx arraycopyName ∈ q_tbl ∧ Cond.native arraycopyName ∈ q_tbl ∧ Cond.static arraycopyName ∈ q_tbl ∧ Cond.initialized "java/lang/System" ∈ q_tbl
theorem r_acopy {k : MD} {G : List GD} {n : Nat} {post : Option PV → Mem → Prop} {z : ZZ} {pc pc2 : Nat} {L : List (Option PV)} {S : List PV} {M : Mem} {idx q0 q1 N0 N1 : Nat} {sp dp w : Int} (hd : Dk k pc (.invokestatic idx) 3 pc2) (hs : Ca k.1.cls idx) (hg0 : G[q0]? = some (.inr (.inl N0))) (hg1 : G[q1]? = some (.inr (.inl N1))) (h1 : 0 ≤ sp) (h2 : 0 ≤ dp) (h3 : 0 ≤ w) (h4 : sp + w ≤ N0) (h5 : dp + w ≤ N1) (hN : N0 < 2147483648 ∧ N1 < 2147483648) (hn : 0 < n) (hW : (S.map cat).sum ≤ 8) (kk : WP k G n post z pc2 L S (cpM M q0 sp.toNat q1 dp.toNat w.toNat)) : WP k G n post z pc L (iv w :: iv dp :: rv q1 :: iv sp :: rv q0 :: S) M := by
  obtain ⟨p, l, e, s, m, args, below, meth, c, D, dA, adK, adV, ad⟩ := z
  obtain ⟨hd, rfl⟩ := hd
  intro C H locs ls B
  have hn0 : ∀ x : Int, 0 ≤ x → x < 2147483648 → ¬ Int32.ofInt x < 0 := fun x g1 g2 w => by
    have := (i3_lt0 ⟨by omega, g2⟩).mp w
    omega
  refine va_copyi C.1 C.2.1 (C.2.2.1.trans B.2.2.2.1.symm) C.2.2.2.1 (C.hts _ hs.1) (C.hts _ hs.2.1) (C.hts _ hs.2.2.1) (C.hts _ hs.2.2.2) C.K B.1 (wld_D C.inj) B.2.2.1 q0 q1 0 0 (c0 := dA 0) (c1 := dA 0) (n0 := N0) (n1 := N1) (f := fun i => Int32.ofInt (M q0 i)) (g := fun i => Int32.ofInt (M q1 i)) (ty := .int) (wld_get hg0) (wld_get hg1) rfl rfl rfl (sp := Int32.ofInt sp) (dp := Int32.ofInt dp) (n := Int32.ofInt w) (hn0 _ h1 (by omega)) (hn0 _ h2 (by omega)) (hn0 _ h3 (by omega)) (by rw [i3_nat h1 (by omega), i3_nat h3 (by omega)]; omega) (by rw [i3_nat h2 (by omega), i3_nat h3 (by omega)]; omega) (fun _ _ => rfl) (by show 1 ≤ n; omega) (by rw [cat_tv]; show _ + (7 + 11) ≤ 40 * n; omega) hd (fun H1 locs1 hP hD hS => ?_)
  rw [i3_nat h1 (by omega), i3_nat h2 (by omega), i3_nat h3 (by omega)] at hP
  rw [wld_cp hg1] at hP
  exact kk C H1 locs1 ls ⟨hP, cpM_ib B.2.1, hS, B.2.2.2⟩
theorem r_getE {k : MD} {G : List GD} {n : Nat} {post : Option PV → Mem → Prop} {z : ZZ} {pc pc2 : Nat} {L : List (Option PV)} {S : List PV} {M : Mem} {idx ci j q : Nat} {fs : List (Option Nat)} {v : Int} (hd : Dk k pc (.getfield idx) 3 pc2) (hf : Fg k.1.cls idx ci j) (hg : G[q]? = some (.inl (ci, fs))) (hj : fs[j]? = some none) (he : M q j = v) (kk : WP k G n post z pc2 L (iv v :: S) M) : WP k G n post z pc L (rv q :: S) M := r_getI hd hf hg hj (by rw [he]; exact kk)
theorem r_ialE {k : MD} {G : List GD} {n : Nat} {post : Option PV → Mem → Prop} {z : ZZ} {pc pc2 : Nat} {L : List (Option PV)} {S : List PV} {M : Mem} {q N : Nat} {a v : Int} (hd : Dk k pc .iaload 1 pc2) (hg : G[q]? = some (.inr (.inl N))) (hi : 0 ≤ a ∧ a < N) (hN : N < 2147483648) (he : M q a.toNat = v) (kk : WP k G n post z pc2 L (iv v :: S) M) : WP k G n post z pc L (iv a :: rv q :: S) M := r_iaload hd hg hi hN (by rw [he]; exact kk)
theorem r_ialN {k : MD} {G : List GD} {n : Nat} {post : Option PV → Mem → Prop} {z : ZZ} {pc pc2 : Nat} {L : List (Option PV)} {S : List PV} {M : Mem} {q N i : Nat} {v : Int} (hd : Dk k pc .iaload 1 pc2) (hg : G[q]? = some (.inr (.inl N))) (hi : i < N) (hN : N < 2147483648) (he : M q i = v) (kk : WP k G n post z pc2 L (iv v :: S) M) : WP k G n post z pc L (iv (i : Int) :: rv q :: S) M := r_iaload hd hg ⟨by omega, by omega⟩ hN (by rw [Int.toNat_natCast, he]; exact kk)
theorem r_iasN {k : MD} {G : List GD} {n : Nat} {post : Option PV → Mem → Prop} {z : ZZ} {pc pc2 : Nat} {L : List (Option PV)} {S : List PV} {M : Mem} {q N i : Nat} {v : Int} (hd : Dk k pc .iastore 1 pc2) (hg : G[q]? = some (.inr (.inl N))) (hi : i < N) (hN : N < 2147483648) (hv : ib v) (kk : WP k G n post z pc2 L S (upM M q i v)) : WP k G n post z pc L (iv v :: iv (i : Int) :: rv q :: S) M := r_iastore hd hg ⟨by omega, by omega⟩ hN hv (by rw [Int.toNat_natCast]; exact kk)

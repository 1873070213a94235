/-! constructors: what is made gets its number; words of ends -/
section
variable {k : MD} {d mc ms : Nat} {G1 : List GE} {M1 : Mem → Prop} {z : ZZ} {pc pc2 : Nat} {L : List (Option PV)} {S : List PV} {G : List GE} {M : Mem} {cells slots : Nat}
theorem n_C {c2 s2 : Nat} (h1 : cells = c2) (h2 : slots = s2) (kk : WN k d mc ms G1 M1 z pc L S G M c2 s2) : WN k d mc ms G1 M1 z pc L S G M cells slots := by
  subst h1; subst h2; exact kk
theorem c_new {idx ci N n c2 s2 : Nat} {fs : List (Option (Option Nat))} {G2 : List GE} (hd : Dk k pc (.new idx) 3 pc2) (hw : Nw k.1.cls idx ci N fs) (hn : G.length = n) (hG2 : G ++ [.inl (ci, fs)] = G2) (hc2 : cells + 1 = c2) (hs2 : slots + N = s2) (hb : c2 = n ∧ n < 899 ∧ c2 ≤ mc ∧ s2 ≤ ms) (hz : ∀ j, M n j = 0) (kk : WN k d mc ms G1 M1 z pc2 L (rv n :: S) G2 M c2 s2) : WN k d mc ms G1 M1 z pc L S G M cells slots := by
  subst hn; subst hG2; subst hc2; subst hs2
  exact n_new hd hw ⟨hb.1, hb.2.1⟩ ⟨hb.2.2.1, hb.2.2.2⟩ hz kk
theorem c_newarr {N n c2 s2 : Nat} {a : Int} {G2 : List GE} (hd : Dk k pc (.newarray .int) 2 pc2) (ha : a = N ∧ N < 10000) (hn : G.length = n) (hG2 : G ++ [.inr (.inl N)] = G2) (hc2 : cells + 1 = c2) (hs2 : slots + N = s2) (hb : c2 = n ∧ n < 899 ∧ c2 ≤ mc ∧ s2 ≤ ms) (hz : ∀ j, M n j = 0) (kk : WN k d mc ms G1 M1 z pc2 L (rv n :: S) G2 M c2 s2) : WN k d mc ms G1 M1 z pc L (iv a :: S) G M cells slots := by
  subst hn; subst hG2; subst hc2; subst hs2
  exact n_newarr hd q_arr ha ⟨hb.1, hb.2.1⟩ ⟨hb.2.2.1, hb.2.2.2⟩ hz kk
theorem c_anew {idx t N n c2 s2 : Nat} {Cn : String} {a : Int} {G2 : List GE} (hd : Dk k pc (.anewarray idx) 3 pc2) (ht : (t = 1 ∧ Cn = "KeysForSecond$Text") ∨ (t = 2 ∧ Cn = "KeysForSecond$Sheet")) (hw : Cond.classLink k.1.cls idx Cn ∈ q_tbl) (ha : a = N ∧ N < 10000) (hn : G.length = n) (hG2 : G ++ [.inr (.inr (t, List.replicate N none))] = G2) (hc2 : cells + 1 = c2) (hs2 : slots + N = s2) (hb : c2 = n ∧ n < 899 ∧ c2 ≤ mc ∧ s2 ≤ ms) (kk : WN k d mc ms G1 M1 z pc2 L (rv n :: S) G2 M c2 s2) : WN k d mc ms G1 M1 z pc L (iv a :: S) G M cells slots := by
  subst hn; subst hG2; subst hc2; subst hs2
  exact n_anew hd ht hw ha ⟨hb.1, hb.2.1⟩ ⟨hb.2.2.1, hb.2.2.2⟩ kk
end

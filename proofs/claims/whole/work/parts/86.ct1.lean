/-! constructors: sheet, tape, text, grammar, town -/
def gX1_0 : List GE := [.inl (1, [some none, none, none])]
def mX1_0 : Mem := fun _ _ => 0
def gX1_1 : List GE := [.inl (1, [some none, none, none]), .inr (.inl 40)]
def gX1_2 : List GE := [.inl (1, [some (some 1), none, none]), .inr (.inl 40)]
def mX1_1 : Mem := upM mX1_0 0 1 (-1)
def mX1_2 : Mem := upM mX1_1 0 2 0
theorem wX1_0 {z : ZZ} : WN kX1_init 1 1 40 gX1_2 (fun M => M = mX1_2) z 0 [some (rv 0)] [] gX1_0 mX1_0 0 0 := by
  refine n_aload_0 dX1_init_0 ?_
  refine n_objinit dX1_init_1 oiX1 oi_i oi_c (by decide) (by decide) ?_
  refine n_aload_0 dX1_init_4 ?_
  refine n_bipush dX1_init_5 (by decide) ?_
  refine c_newarr (N := 40) (n := 1) (c2 := 1) (s2 := 40) (G2 := gX1_1) dX1_init_7 (by decide) rfl rfl rfl rfl (by decide) (fun _ => rfl) ?_
  refine n_putR (fs := [some none, none, none]) dX1_init_9 ffX1_9 rfl (by decide) (by decide) ?_
  refine n_G (G2 := gX1_2) rfl ?_
  refine n_aload_0 dX1_init_12 ?_
  refine n_iconst dX1_init_13 ?_
  refine n_put (fs := [some (some 1), none, none]) dX1_init_14 pX1_15 (Or.inl rfl) rfl rfl (by decide) (by omega) ?_
  refine n_M (M2 := mX1_1) rfl ?_
  refine n_aload_0 dX1_init_17 ?_
  refine n_iconst dX1_init_18 ?_
  refine n_put (fs := [some (some 1), none, none]) dX1_init_19 pX1_19 (Or.inl rfl) rfl rfl (by decide) (by omega) ?_
  refine n_M (M2 := mX1_2) rfl ?_
  exact n_ret dX1_init_22 rfl (rfl)
theorem ct_X1 : CT kX1_init 1 1 40 (.inl (1, [some none, none, none])) [] gX1_2 (fun M => M = mX1_2) := ct_of [some (rv 0)] plX1 rfl (by decide) rfl (fun z => wX1_0)
def gX2_0 : List GE := [.inl (2, [some none, none, none, none, none, none])]
def mX2_0 : Mem := fun _ _ => 0
def gX2_1 : List GE := [.inl (2, [some none, none, none, none, none, none]), .inr (.inl 160)]
def gX2_2 : List GE := [.inl (2, [some (some 1), none, none, none, none, none]), .inr (.inl 160)]
def mX2_1 : Mem := upM mX2_0 0 1 0
def mX2_2 : Mem := upM mX2_1 0 2 0
def mX2_3 : Mem := upM mX2_2 0 3 0
def mX2_4 : Mem := upM mX2_3 0 4 (-1)
def mX2_5 : Mem := upM mX2_4 0 5 0
theorem wX2_0 {z : ZZ} : WN kX2_init 1 1 160 gX2_2 (fun M => M = mX2_5) z 0 [some (rv 0)] [] gX2_0 mX2_0 0 0 := by
  refine n_aload_0 dX2_init_0 ?_
  refine n_objinit dX2_init_1 oiX2 oi_i oi_c (by decide) (by decide) ?_
  refine n_aload_0 dX2_init_4 ?_
  refine n_sipush dX2_init_5 (by decide) ?_
  refine c_newarr (N := 160) (n := 1) (c2 := 1) (s2 := 160) (G2 := gX2_1) dX2_init_8 (by decide) rfl rfl rfl rfl (by decide) (fun _ => rfl) ?_
  refine n_putR (fs := [some none, none, none, none, none, none]) dX2_init_10 ffX2_9 rfl (by decide) (by decide) ?_
  refine n_G (G2 := gX2_2) rfl ?_
  refine n_aload_0 dX2_init_13 ?_
  refine n_iconst dX2_init_14 ?_
  refine n_put (fs := [some (some 1), none, none, none, none, none]) dX2_init_15 pX2_15 (Or.inl rfl) rfl rfl (by decide) (by omega) ?_
  refine n_M (M2 := mX2_1) rfl ?_
  refine n_aload_0 dX2_init_18 ?_
  refine n_iconst dX2_init_19 ?_
  refine n_put (fs := [some (some 1), none, none, none, none, none]) dX2_init_20 pX2_19 (Or.inl rfl) rfl rfl (by decide) (by omega) ?_
  refine n_M (M2 := mX2_2) rfl ?_
  refine n_aload_0 dX2_init_23 ?_
  refine n_iconst dX2_init_24 ?_
  refine n_put (fs := [some (some 1), none, none, none, none, none]) dX2_init_25 pX2_22 (Or.inl rfl) rfl rfl (by decide) (by omega) ?_
  refine n_M (M2 := mX2_3) rfl ?_
  refine n_aload_0 dX2_init_28 ?_
  refine n_iconst dX2_init_29 ?_
  refine n_put (fs := [some (some 1), none, none, none, none, none]) dX2_init_30 pX2_25 (Or.inl rfl) rfl rfl (by decide) (by omega) ?_
  refine n_M (M2 := mX2_4) rfl ?_
  refine n_aload_0 dX2_init_33 ?_
  refine n_iconst dX2_init_34 ?_
  refine n_put (fs := [some (some 1), none, none, none, none, none]) dX2_init_35 pX2_28 (Or.inl rfl) rfl rfl (by decide) (by omega) ?_
  refine n_M (M2 := mX2_5) rfl ?_
  exact n_ret dX2_init_38 rfl (rfl)
theorem ct_X2 : CT kX2_init 1 1 160 (.inl (2, [some none, none, none, none, none, none])) [] gX2_2 (fun M => M = mX2_5) := ct_of [some (rv 0)] plX2 rfl (by decide) rfl (fun z => wX2_0)
def gX3_0 : List GE := [.inl (3, [some none, some none, some none, none])]
def mX3_0 : Mem := fun _ _ => 0
def gX3_1 : List GE := [.inl (3, [some none, some none, some none, none]), .inr (.inl 160)]
def gX3_2 : List GE := [.inl (3, [some (some 1), some none, some none, none]), .inr (.inl 160)]
def gX3_3 : List GE := [.inl (3, [some (some 1), some none, some none, none]), .inr (.inl 160), .inr (.inl 3)]
def gX3_4 : List GE := [.inl (3, [some (some 1), some (some 2), some none, none]), .inr (.inl 160), .inr (.inl 3)]
def gX3_5 : List GE := [.inl (3, [some (some 1), some (some 2), some none, none]), .inr (.inl 160), .inr (.inl 3), .inr (.inl 31)]
def gX3_6 : List GE := [.inl (3, [some (some 1), some (some 2), some (some 3), none]), .inr (.inl 160), .inr (.inl 3), .inr (.inl 31)]
def mX3_1 : Mem := upM mX3_0 0 3 0
theorem wX3_0 {z : ZZ} : WN kX3_init 1 3 194 gX3_6 (fun M => M = mX3_1) z 0 [some (rv 0)] [] gX3_0 mX3_0 0 0 := by
  refine n_aload_0 dX3_init_0 ?_
  refine n_objinit dX3_init_1 oiX3 oi_i oi_c (by decide) (by decide) ?_
  refine n_aload_0 dX3_init_4 ?_
  refine n_sipush dX3_init_5 (by decide) ?_
  refine c_newarr (N := 160) (n := 1) (c2 := 1) (s2 := 160) (G2 := gX3_1) dX3_init_8 (by decide) rfl rfl rfl rfl (by decide) (fun _ => rfl) ?_
  refine n_putR (fs := [some none, some none, some none, none]) dX3_init_10 ffX3_9 rfl (by decide) (by decide) ?_
  refine n_G (G2 := gX3_2) rfl ?_
  refine n_aload_0 dX3_init_13 ?_
  refine n_iconst dX3_init_14 ?_
  refine c_newarr (N := 3) (n := 2) (c2 := 2) (s2 := 163) (G2 := gX3_3) dX3_init_15 (by decide) rfl rfl rfl rfl (by decide) (fun _ => rfl) ?_
  refine n_putR (fs := [some (some 1), some none, some none, none]) dX3_init_17 ffX3_15 rfl (by decide) (by decide) ?_
  refine n_G (G2 := gX3_4) rfl ?_
  refine n_aload_0 dX3_init_20 ?_
  refine n_bipush dX3_init_21 (by decide) ?_
  refine c_newarr (N := 31) (n := 3) (c2 := 3) (s2 := 194) (G2 := gX3_5) dX3_init_23 (by decide) rfl rfl rfl rfl (by decide) (fun _ => rfl) ?_
  refine n_putR (fs := [some (some 1), some (some 2), some none, none]) dX3_init_25 ffX3_18 rfl (by decide) (by decide) ?_
  refine n_G (G2 := gX3_6) rfl ?_
  refine n_aload_0 dX3_init_28 ?_
  refine n_iconst dX3_init_29 ?_
  refine n_put (fs := [some (some 1), some (some 2), some (some 3), none]) dX3_init_30 pX3_21 (Or.inl rfl) rfl rfl (by decide) (by omega) ?_
  refine n_M (M2 := mX3_1) rfl ?_
  exact n_ret dX3_init_33 rfl (rfl)
theorem ct_X3 : CT kX3_init 1 3 194 (.inl (3, [some none, some none, some none, none])) [] gX3_6 (fun M => M = mX3_1) := ct_of [some (rv 0)] plX3 rfl (by decide) rfl (fun z => wX3_0)
def gX0_0 : List GE := [.inl (0, [some none, none])]
def mX0_0 : Mem := fun _ _ => 0
def mX0_1 : Mem := upM mX0_0 0 1 (-1)
def gX0_1 : List GE := [.inl (0, [some (some 900), none])]
theorem wX0_0 {z : ZZ} : WN kX0_init 1 0 0 gX0_1 (fun M => M = mX0_1) z 0 [some (rv 0), some (rv 900)] [] gX0_0 mX0_0 0 0 := by
  refine n_aload_0 dX0_init_0 ?_
  refine n_objinit dX0_init_1 oiX0 oi_i oi_c (by decide) (by decide) ?_
  refine n_aload_0 dX0_init_4 ?_
  refine n_iconst dX0_init_5 ?_
  refine n_put (fs := [some none, none]) dX0_init_6 pX0_9 (Or.inl rfl) rfl rfl (by decide) (by omega) ?_
  refine n_M (M2 := mX0_1) rfl ?_
  refine n_aload_0 dX0_init_9 ?_
  refine n_aload_1 dX0_init_10 ?_
  refine n_putR (fs := [some none, none]) dX0_init_11 ffX0_15 rfl (by decide) (by decide) ?_
  refine n_G (G2 := gX0_1) rfl ?_
  exact n_ret dX0_init_14 rfl (rfl)
theorem ct_X0 : CT kX0_init 1 0 0 (.inl (0, [some none, none])) [900] gX0_1 (fun M => M = mX0_1) := ct_of [some (rv 0), some (rv 900)] plX0 rfl (by decide) rfl (fun z => wX0_0)
def gX4_0 : List GE := [.inl (4, [some none, some none, some none, some none, some none, some none, some none, some none, some none, some none, none, none, none])]
def mX4_0 : Mem := fun _ _ => 0
def gX4_1 : List GE := [.inl (4, [some none, some none, some none, some none, some none, some none, some none, some none, some none, some none, none, none, none]), .inr (.inl 8)]
def gX4_2 : List GE := [.inl (4, [some none, some (some 1), some none, some none, some none, some none, some none, some none, some none, some none, none, none, none]), .inr (.inl 8)]
def gX4_3 : List GE := [.inl (4, [some none, some (some 1), some none, some none, some none, some none, some none, some none, some none, some none, none, none, none]), .inr (.inl 8), .inr (.inl 8)]
def gX4_4 : List GE := [.inl (4, [some none, some (some 1), some (some 2), some none, some none, some none, some none, some none, some none, some none, none, none, none]), .inr (.inl 8), .inr (.inl 8)]
def gX4_5 : List GE := [.inl (4, [some none, some (some 1), some (some 2), some none, some none, some none, some none, some none, some none, some none, none, none, none]), .inr (.inl 8), .inr (.inl 8), .inr (.inl 8)]
def gX4_6 : List GE := [.inl (4, [some none, some (some 1), some (some 2), some (some 3), some none, some none, some none, some none, some none, some none, none, none, none]), .inr (.inl 8), .inr (.inl 8), .inr (.inl 8)]
def gX4_7 : List GE := [.inl (4, [some none, some (some 1), some (some 2), some (some 3), some none, some none, some none, some none, some none, some none, none, none, none]), .inr (.inl 8), .inr (.inl 8), .inr (.inl 8), .inr (.inl 6)]
def gX4_8 : List GE := [.inl (4, [some none, some (some 1), some (some 2), some (some 3), some (some 4), some none, some none, some none, some none, some none, none, none, none]), .inr (.inl 8), .inr (.inl 8), .inr (.inl 8), .inr (.inl 6)]
def gX4_9 : List GE := [.inl (4, [some none, some (some 1), some (some 2), some (some 3), some (some 4), some none, some none, some none, some none, some none, none, none, none]), .inr (.inl 8), .inr (.inl 8), .inr (.inl 8), .inr (.inl 6), .inr (.inl 6)]
def gX4_10 : List GE := [.inl (4, [some none, some (some 1), some (some 2), some (some 3), some (some 4), some (some 5), some none, some none, some none, some none, none, none, none]), .inr (.inl 8), .inr (.inl 8), .inr (.inl 8), .inr (.inl 6), .inr (.inl 6)]
def gX4_11 : List GE := [.inl (4, [some none, some (some 1), some (some 2), some (some 3), some (some 4), some (some 5), some none, some none, some none, some none, none, none, none]), .inr (.inl 8), .inr (.inl 8), .inr (.inl 8), .inr (.inl 6), .inr (.inl 6), .inr (.inl 6)]
def gX4_12 : List GE := [.inl (4, [some none, some (some 1), some (some 2), some (some 3), some (some 4), some (some 5), some (some 6), some none, some none, some none, none, none, none]), .inr (.inl 8), .inr (.inl 8), .inr (.inl 8), .inr (.inl 6), .inr (.inl 6), .inr (.inl 6)]
def gX4_13 : List GE := [.inl (4, [some none, some (some 1), some (some 2), some (some 3), some (some 4), some (some 5), some (some 6), some none, some none, some none, none, none, none]), .inr (.inl 8), .inr (.inl 8), .inr (.inl 8), .inr (.inl 6), .inr (.inl 6), .inr (.inl 6), .inr (.inl 6)]
def gX4_14 : List GE := [.inl (4, [some none, some (some 1), some (some 2), some (some 3), some (some 4), some (some 5), some (some 6), some (some 7), some none, some none, none, none, none]), .inr (.inl 8), .inr (.inl 8), .inr (.inl 8), .inr (.inl 6), .inr (.inl 6), .inr (.inl 6), .inr (.inl 6)]
def gX4_15 : List GE := [.inl (4, [some none, some (some 1), some (some 2), some (some 3), some (some 4), some (some 5), some (some 6), some (some 7), some none, some none, none, none, none]), .inr (.inl 8), .inr (.inl 8), .inr (.inl 8), .inr (.inl 6), .inr (.inl 6), .inr (.inl 6), .inr (.inl 6), .inr (.inl 6)]
def gX4_16 : List GE := [.inl (4, [some none, some (some 1), some (some 2), some (some 3), some (some 4), some (some 5), some (some 6), some (some 7), some (some 8), some none, none, none, none]), .inr (.inl 8), .inr (.inl 8), .inr (.inl 8), .inr (.inl 6), .inr (.inl 6), .inr (.inl 6), .inr (.inl 6), .inr (.inl 6)]
def gX4_17 : List GE := [.inl (4, [some none, some (some 1), some (some 2), some (some 3), some (some 4), some (some 5), some (some 6), some (some 7), some (some 8), some none, none, none, none]), .inr (.inl 8), .inr (.inl 8), .inr (.inl 8), .inr (.inl 6), .inr (.inl 6), .inr (.inl 6), .inr (.inl 6), .inr (.inl 6), .inr (.inl 6)]
def gX4_18 : List GE := [.inl (4, [some none, some (some 1), some (some 2), some (some 3), some (some 4), some (some 5), some (some 6), some (some 7), some (some 8), some (some 9), none, none, none]), .inr (.inl 8), .inr (.inl 8), .inr (.inl 8), .inr (.inl 6), .inr (.inl 6), .inr (.inl 6), .inr (.inl 6), .inr (.inl 6), .inr (.inl 6)]
def mX4_1 : Mem := upM mX4_0 0 10 0
def mX4_2 : Mem := upM mX4_1 0 11 0
def mX4_3 : Mem := upM mX4_2 0 12 0
def gX4_19 : List GE := [.inl (4, [some (some 900), some (some 1), some (some 2), some (some 3), some (some 4), some (some 5), some (some 6), some (some 7), some (some 8), some (some 9), none, none, none]), .inr (.inl 8), .inr (.inl 8), .inr (.inl 8), .inr (.inl 6), .inr (.inl 6), .inr (.inl 6), .inr (.inl 6), .inr (.inl 6), .inr (.inl 6)]
def gdX4_102 : List GD := [.inl (4, [(some 900), (some 1), (some 2), (some 3), (some 4), (some 5), (some 6), (some 7), (some 8), (some 9), none, none, none]), .inr (.inl 8), .inr (.inl 8), .inr (.inl 8), .inr (.inl 6), .inr (.inl 6), .inr (.inl 6), .inr (.inl 6), .inr (.inl 6), .inr (.inl 6)]
def mX4_4 : Mem := fun c i => if c = 1 ∧ i < 8 then 10 else mX4_3 c i
def gdX4_110 : List GD := [.inl (4, [(some 900), (some 1), (some 2), (some 3), (some 4), (some 5), (some 6), (some 7), (some 8), (some 9), none, none, none]), .inr (.inl 8), .inr (.inl 8), .inr (.inl 8), .inr (.inl 6), .inr (.inl 6), .inr (.inl 6), .inr (.inl 6), .inr (.inl 6), .inr (.inl 6)]
def mX4_5 : Mem := fun c i => if c = 2 ∧ i < 8 then (-1) else mX4_4 c i
def gdX4_118 : List GD := [.inl (4, [(some 900), (some 1), (some 2), (some 3), (some 4), (some 5), (some 6), (some 7), (some 8), (some 9), none, none, none]), .inr (.inl 8), .inr (.inl 8), .inr (.inl 8), .inr (.inl 6), .inr (.inl 6), .inr (.inl 6), .inr (.inl 6), .inr (.inl 6), .inr (.inl 6)]
def mX4_6 : Mem := fun c i => if c = 3 ∧ i < 8 then (-1) else mX4_5 c i
theorem wX4_1 {z : ZZ} : WN kX4_init 1 9 60 gX4_19 (fun M => M = mX4_6) z 117 [some (rv 0), some (rv 900)] [rv 3] gX4_19 mX4_5 9 60 := by
  refine n_iconst dX4_init_117 ?_
  refine n_fill (Gd := gdX4_118) (q := 3) (n := 8) dX4_init_118 rfl rfl (by decide) rfl (by decide) (by omega) (by decide) (by decide) (by decide) ?_
  refine n_M (M2 := mX4_6) rfl ?_
  exact n_ret dX4_init_121 rfl (rfl)
theorem wX4_0 {z : ZZ} : WN kX4_init 1 9 60 gX4_19 (fun M => M = mX4_6) z 0 [some (rv 0), some (rv 900)] [] gX4_0 mX4_0 0 0 := by
  refine n_aload_0 dX4_init_0 ?_
  refine n_objinit dX4_init_1 oiX4 oi_i oi_c (by decide) (by decide) ?_
  refine n_aload_0 dX4_init_4 ?_
  refine n_bipush dX4_init_5 (by decide) ?_
  refine c_newarr (N := 8) (n := 1) (c2 := 1) (s2 := 8) (G2 := gX4_1) dX4_init_7 (by decide) rfl rfl rfl rfl (by decide) (fun _ => rfl) ?_
  refine n_putR (fs := [some none, some none, some none, some none, some none, some none, some none, some none, some none, some none, none, none, none]) dX4_init_9 ffX4_9 rfl (by decide) (by decide) ?_
  refine n_G (G2 := gX4_2) rfl ?_
  refine n_aload_0 dX4_init_12 ?_
  refine n_bipush dX4_init_13 (by decide) ?_
  refine c_newarr (N := 8) (n := 2) (c2 := 2) (s2 := 16) (G2 := gX4_3) dX4_init_15 (by decide) rfl rfl rfl rfl (by decide) (fun _ => rfl) ?_
  refine n_putR (fs := [some none, some (some 1), some none, some none, some none, some none, some none, some none, some none, some none, none, none, none]) dX4_init_17 ffX4_15 rfl (by decide) (by decide) ?_
  refine n_G (G2 := gX4_4) rfl ?_
  refine n_aload_0 dX4_init_20 ?_
  refine n_bipush dX4_init_21 (by decide) ?_
  refine c_newarr (N := 8) (n := 3) (c2 := 3) (s2 := 24) (G2 := gX4_5) dX4_init_23 (by decide) rfl rfl rfl rfl (by decide) (fun _ => rfl) ?_
  refine n_putR (fs := [some none, some (some 1), some (some 2), some none, some none, some none, some none, some none, some none, some none, none, none, none]) dX4_init_25 ffX4_18 rfl (by decide) (by decide) ?_
  refine n_G (G2 := gX4_6) rfl ?_
  refine n_aload_0 dX4_init_28 ?_
  refine n_bipush dX4_init_29 (by decide) ?_
  refine c_newarr (N := 6) (n := 4) (c2 := 4) (s2 := 30) (G2 := gX4_7) dX4_init_31 (by decide) rfl rfl rfl rfl (by decide) (fun _ => rfl) ?_
  refine n_putR (fs := [some none, some (some 1), some (some 2), some (some 3), some none, some none, some none, some none, some none, some none, none, none, none]) dX4_init_33 ffX4_21 rfl (by decide) (by decide) ?_
  refine n_G (G2 := gX4_8) rfl ?_
  refine n_aload_0 dX4_init_36 ?_
  refine n_bipush dX4_init_37 (by decide) ?_
  refine c_newarr (N := 6) (n := 5) (c2 := 5) (s2 := 36) (G2 := gX4_9) dX4_init_39 (by decide) rfl rfl rfl rfl (by decide) (fun _ => rfl) ?_
  refine n_putR (fs := [some none, some (some 1), some (some 2), some (some 3), some (some 4), some none, some none, some none, some none, some none, none, none, none]) dX4_init_41 ffX4_24 rfl (by decide) (by decide) ?_
  refine n_G (G2 := gX4_10) rfl ?_
  refine n_aload_0 dX4_init_44 ?_
  refine n_bipush dX4_init_45 (by decide) ?_
  refine c_newarr (N := 6) (n := 6) (c2 := 6) (s2 := 42) (G2 := gX4_11) dX4_init_47 (by decide) rfl rfl rfl rfl (by decide) (fun _ => rfl) ?_
  refine n_putR (fs := [some none, some (some 1), some (some 2), some (some 3), some (some 4), some (some 5), some none, some none, some none, some none, none, none, none]) dX4_init_49 ffX4_27 rfl (by decide) (by decide) ?_
  refine n_G (G2 := gX4_12) rfl ?_
  refine n_aload_0 dX4_init_52 ?_
  refine n_bipush dX4_init_53 (by decide) ?_
  refine c_newarr (N := 6) (n := 7) (c2 := 7) (s2 := 48) (G2 := gX4_13) dX4_init_55 (by decide) rfl rfl rfl rfl (by decide) (fun _ => rfl) ?_
  refine n_putR (fs := [some none, some (some 1), some (some 2), some (some 3), some (some 4), some (some 5), some (some 6), some none, some none, some none, none, none, none]) dX4_init_57 ffX4_30 rfl (by decide) (by decide) ?_
  refine n_G (G2 := gX4_14) rfl ?_
  refine n_aload_0 dX4_init_60 ?_
  refine n_bipush dX4_init_61 (by decide) ?_
  refine c_newarr (N := 6) (n := 8) (c2 := 8) (s2 := 54) (G2 := gX4_15) dX4_init_63 (by decide) rfl rfl rfl rfl (by decide) (fun _ => rfl) ?_
  refine n_putR (fs := [some none, some (some 1), some (some 2), some (some 3), some (some 4), some (some 5), some (some 6), some (some 7), some none, some none, none, none, none]) dX4_init_65 ffX4_33 rfl (by decide) (by decide) ?_
  refine n_G (G2 := gX4_16) rfl ?_
  refine n_aload_0 dX4_init_68 ?_
  refine n_bipush dX4_init_69 (by decide) ?_
  refine c_newarr (N := 6) (n := 9) (c2 := 9) (s2 := 60) (G2 := gX4_17) dX4_init_71 (by decide) rfl rfl rfl rfl (by decide) (fun _ => rfl) ?_
  refine n_putR (fs := [some none, some (some 1), some (some 2), some (some 3), some (some 4), some (some 5), some (some 6), some (some 7), some (some 8), some none, none, none, none]) dX4_init_73 ffX4_36 rfl (by decide) (by decide) ?_
  refine n_G (G2 := gX4_18) rfl ?_
  refine n_aload_0 dX4_init_76 ?_
  refine n_iconst dX4_init_77 ?_
  refine n_put (fs := [some none, some (some 1), some (some 2), some (some 3), some (some 4), some (some 5), some (some 6), some (some 7), some (some 8), some (some 9), none, none, none]) dX4_init_78 pX4_39 (Or.inl rfl) rfl rfl (by decide) (by omega) ?_
  refine n_M (M2 := mX4_1) rfl ?_
  refine n_aload_0 dX4_init_81 ?_
  refine n_iconst dX4_init_82 ?_
  refine n_put (fs := [some none, some (some 1), some (some 2), some (some 3), some (some 4), some (some 5), some (some 6), some (some 7), some (some 8), some (some 9), none, none, none]) dX4_init_83 pX4_43 (Or.inl rfl) rfl rfl (by decide) (by omega) ?_
  refine n_M (M2 := mX4_2) rfl ?_
  refine n_aload_0 dX4_init_86 ?_
  refine n_iconst dX4_init_87 ?_
  refine n_put (fs := [some none, some (some 1), some (some 2), some (some 3), some (some 4), some (some 5), some (some 6), some (some 7), some (some 8), some (some 9), none, none, none]) dX4_init_88 pX4_46 (Or.inl rfl) rfl rfl (by decide) (by omega) ?_
  refine n_M (M2 := mX4_3) rfl ?_
  refine n_aload_0 dX4_init_91 ?_
  refine n_aload_1 dX4_init_92 ?_
  refine n_putR (fs := [some none, some (some 1), some (some 2), some (some 3), some (some 4), some (some 5), some (some 6), some (some 7), some (some 8), some (some 9), none, none, none]) dX4_init_93 ffX4_49 rfl (by decide) (by decide) ?_
  refine n_G (G2 := gX4_19) rfl ?_
  refine n_aload_0 dX4_init_96 ?_
  refine n_getR (fs := [some (some 900), some (some 1), some (some 2), some (some 3), some (some 4), some (some 5), some (some 6), some (some 7), some (some 8), some (some 9), none, none, none]) dX4_init_97 fX4_9 rfl rfl ?_
  refine n_bipush dX4_init_100 (by decide) ?_
  refine n_fill (Gd := gdX4_102) (q := 1) (n := 8) dX4_init_102 rfl rfl (by decide) rfl (by decide) (by omega) (by decide) (by decide) (by decide) ?_
  refine n_M (M2 := mX4_4) rfl ?_
  refine n_aload_0 dX4_init_105 ?_
  refine n_getR (fs := [some (some 900), some (some 1), some (some 2), some (some 3), some (some 4), some (some 5), some (some 6), some (some 7), some (some 8), some (some 9), none, none, none]) dX4_init_106 fX4_15 rfl rfl ?_
  refine n_iconst dX4_init_109 ?_
  refine n_fill (Gd := gdX4_110) (q := 2) (n := 8) dX4_init_110 rfl rfl (by decide) rfl (by decide) (by omega) (by decide) (by decide) (by decide) ?_
  refine n_M (M2 := mX4_5) rfl ?_
  refine n_aload_0 dX4_init_113 ?_
  refine n_getR (fs := [some (some 900), some (some 1), some (some 2), some (some 3), some (some 4), some (some 5), some (some 6), some (some 7), some (some 8), some (some 9), none, none, none]) dX4_init_114 fX4_18 rfl rfl ?_
  exact wX4_1
theorem ct_X4 : CT kX4_init 1 9 60 (.inl (4, [some none, some none, some none, some none, some none, some none, some none, some none, some none, some none, none, none, none])) [900] gX4_19 (fun M => M = mX4_6) := ct_of [some (rv 0), some (rv 900)] plX4 rfl (by decide) rfl (fun z => wX4_0)

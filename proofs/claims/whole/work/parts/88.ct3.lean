/-! constructors: the reference -/
def gX6_0 : List GE := [.inl (6, [none, some none, some none, some none, some none, none, some none, none, some none, some none, none, none, none, some none, some none, some none, some none, some none, some none, none, none, none, none, some none, some none, none, none, none, some none, some none, some none, none])]
def mX6_0 : Mem := fun _ _ => 0
def gX6_1 : List GE := [.inl (6, [none, some none, some none, some none, some none, none, some none, none, some none, some none, none, none, none, some none, some none, some none, some none, some none, some none, none, none, none, none, some none, some none, none, none, none, some none, some none, some none, none]), .inr (.inl 6)]
def gX6_2 : List GE := [.inl (6, [none, some (some 1), some none, some none, some none, none, some none, none, some none, some none, none, none, none, some none, some none, some none, some none, some none, some none, none, none, none, none, some none, some none, none, none, none, some none, some none, some none, none]), .inr (.inl 6)]
def gX6_3 : List GE := [.inl (6, [none, some (some 1), some none, some none, some none, none, some none, none, some none, some none, none, none, none, some none, some none, some none, some none, some none, some none, none, none, none, none, some none, some none, none, none, none, some none, some none, some none, none]), .inr (.inl 6), .inr (.inl 6)]
def gX6_4 : List GE := [.inl (6, [none, some (some 1), some (some 2), some none, some none, none, some none, none, some none, some none, none, none, none, some none, some none, some none, some none, some none, some none, none, none, none, none, some none, some none, none, none, none, some none, some none, some none, none]), .inr (.inl 6), .inr (.inl 6)]
def gX6_5 : List GE := [.inl (6, [none, some (some 1), some (some 2), some none, some none, none, some none, none, some none, some none, none, none, none, some none, some none, some none, some none, some none, some none, none, none, none, none, some none, some none, none, none, none, some none, some none, some none, none]), .inr (.inl 6), .inr (.inl 6), .inr (.inl 18)]
def gX6_6 : List GE := [.inl (6, [none, some (some 1), some (some 2), some (some 3), some none, none, some none, none, some none, some none, none, none, none, some none, some none, some none, some none, some none, some none, none, none, none, none, some none, some none, none, none, none, some none, some none, some none, none]), .inr (.inl 6), .inr (.inl 6), .inr (.inl 18)]
def gX6_7 : List GE := [.inl (6, [none, some (some 1), some (some 2), some (some 3), some none, none, some none, none, some none, some none, none, none, none, some none, some none, some none, some none, some none, some none, none, none, none, none, some none, some none, none, none, none, some none, some none, some none, none]), .inr (.inl 6), .inr (.inl 6), .inr (.inl 18), .inr (.inl 24)]
def mX6_1 : Mem := mkR mX6_0 4 [(-1), (-1), 10, (-1), (-1), 10, (-1), (-1), 10, (-1), (-1), 10, (-1), (-1), 10, (-1), (-1), 10, (-1), (-1), 10, (-1), (-1), 10]
def gX6_8 : List GE := [.inl (6, [none, some (some 1), some (some 2), some (some 3), some (some 4), none, some none, none, some none, some none, none, none, none, some none, some none, some none, some none, some none, some none, none, none, none, none, some none, some none, none, none, none, some none, some none, some none, none]), .inr (.inl 6), .inr (.inl 6), .inr (.inl 18), .inr (.inl 24)]
def gX6_9 : List GE := [.inl (6, [none, some (some 1), some (some 2), some (some 3), some (some 4), none, some none, none, some none, some none, none, none, none, some none, some none, some none, some none, some none, some none, none, none, none, none, some none, some none, none, none, none, some none, some none, some none, none]), .inr (.inl 6), .inr (.inl 6), .inr (.inl 18), .inr (.inl 24), .inr (.inl 160)]
def gX6_10 : List GE := [.inl (6, [none, some (some 1), some (some 2), some (some 3), some (some 4), none, some (some 5), none, some none, some none, none, none, none, some none, some none, some none, some none, some none, some none, none, none, none, none, some none, some none, none, none, none, some none, some none, some none, none]), .inr (.inl 6), .inr (.inl 6), .inr (.inl 18), .inr (.inl 24), .inr (.inl 160)]
def gX6_11 : List GE := [.inl (6, [none, some (some 1), some (some 2), some (some 3), some (some 4), none, some (some 5), none, some none, some none, none, none, none, some none, some none, some none, some none, some none, some none, none, none, none, none, some none, some none, none, none, none, some none, some none, some none, none]), .inr (.inl 6), .inr (.inl 6), .inr (.inl 18), .inr (.inl 24), .inr (.inl 160), .inr (.inl 1200)]
def gX6_12 : List GE := [.inl (6, [none, some (some 1), some (some 2), some (some 3), some (some 4), none, some (some 5), none, some (some 6), some none, none, none, none, some none, some none, some none, some none, some none, some none, none, none, none, none, some none, some none, none, none, none, some none, some none, some none, none]), .inr (.inl 6), .inr (.inl 6), .inr (.inl 18), .inr (.inl 24), .inr (.inl 160), .inr (.inl 1200)]
def gX6_13 : List GE := [.inl (6, [none, some (some 1), some (some 2), some (some 3), some (some 4), none, some (some 5), none, some (some 6), some none, none, none, none, some none, some none, some none, some none, some none, some none, none, none, none, none, some none, some none, none, none, none, some none, some none, some none, none]), .inr (.inl 6), .inr (.inl 6), .inr (.inl 18), .inr (.inl 24), .inr (.inl 160), .inr (.inl 1200), .inr (.inl 24)]
def gX6_14 : List GE := [.inl (6, [none, some (some 1), some (some 2), some (some 3), some (some 4), none, some (some 5), none, some (some 6), some (some 7), none, none, none, some none, some none, some none, some none, some none, some none, none, none, none, none, some none, some none, none, none, none, some none, some none, some none, none]), .inr (.inl 6), .inr (.inl 6), .inr (.inl 18), .inr (.inl 24), .inr (.inl 160), .inr (.inl 1200), .inr (.inl 24)]
def gX6_15 : List GE := [.inl (6, [none, some (some 1), some (some 2), some (some 3), some (some 4), none, some (some 5), none, some (some 6), some (some 7), none, none, none, some none, some none, some none, some none, some none, some none, none, none, none, none, some none, some none, none, none, none, some none, some none, some none, none]), .inr (.inl 6), .inr (.inl 6), .inr (.inl 18), .inr (.inl 24), .inr (.inl 160), .inr (.inl 1200), .inr (.inl 24), .inr (.inl 42)]
def gX6_16 : List GE := [.inl (6, [none, some (some 1), some (some 2), some (some 3), some (some 4), none, some (some 5), none, some (some 6), some (some 7), none, none, none, some (some 8), some none, some none, some none, some none, some none, none, none, none, none, some none, some none, none, none, none, some none, some none, some none, none]), .inr (.inl 6), .inr (.inl 6), .inr (.inl 18), .inr (.inl 24), .inr (.inl 160), .inr (.inl 1200), .inr (.inl 24), .inr (.inl 42)]
def gX6_17 : List GE := [.inl (6, [none, some (some 1), some (some 2), some (some 3), some (some 4), none, some (some 5), none, some (some 6), some (some 7), none, none, none, some (some 8), some none, some none, some none, some none, some none, none, none, none, none, some none, some none, none, none, none, some none, some none, some none, none]), .inr (.inl 6), .inr (.inl 6), .inr (.inl 18), .inr (.inl 24), .inr (.inl 160), .inr (.inl 1200), .inr (.inl 24), .inr (.inl 42), .inr (.inl 3)]
def gX6_18 : List GE := [.inl (6, [none, some (some 1), some (some 2), some (some 3), some (some 4), none, some (some 5), none, some (some 6), some (some 7), none, none, none, some (some 8), some (some 9), some none, some none, some none, some none, none, none, none, none, some none, some none, none, none, none, some none, some none, some none, none]), .inr (.inl 6), .inr (.inl 6), .inr (.inl 18), .inr (.inl 24), .inr (.inl 160), .inr (.inl 1200), .inr (.inl 24), .inr (.inl 42), .inr (.inl 3)]
def gX6_19 : List GE := [.inl (6, [none, some (some 1), some (some 2), some (some 3), some (some 4), none, some (some 5), none, some (some 6), some (some 7), none, none, none, some (some 8), some (some 9), some none, some none, some none, some none, none, none, none, none, some none, some none, none, none, none, some none, some none, some none, none]), .inr (.inl 6), .inr (.inl 6), .inr (.inl 18), .inr (.inl 24), .inr (.inl 160), .inr (.inl 1200), .inr (.inl 24), .inr (.inl 42), .inr (.inl 3), .inr (.inl 4)]
def mX6_2 : Mem := mkR mX6_1 10 [(-1), (-1), (-1), (-1)]
def gX6_20 : List GE := [.inl (6, [none, some (some 1), some (some 2), some (some 3), some (some 4), none, some (some 5), none, some (some 6), some (some 7), none, none, none, some (some 8), some (some 9), some (some 10), some none, some none, some none, none, none, none, none, some none, some none, none, none, none, some none, some none, some none, none]), .inr (.inl 6), .inr (.inl 6), .inr (.inl 18), .inr (.inl 24), .inr (.inl 160), .inr (.inl 1200), .inr (.inl 24), .inr (.inl 42), .inr (.inl 3), .inr (.inl 4)]
def gX6_21 : List GE := [.inl (6, [none, some (some 1), some (some 2), some (some 3), some (some 4), none, some (some 5), none, some (some 6), some (some 7), none, none, none, some (some 8), some (some 9), some (some 10), some none, some none, some none, none, none, none, none, some none, some none, none, none, none, some none, some none, some none, none]), .inr (.inl 6), .inr (.inl 6), .inr (.inl 18), .inr (.inl 24), .inr (.inl 160), .inr (.inl 1200), .inr (.inl 24), .inr (.inl 42), .inr (.inl 3), .inr (.inl 4), .inr (.inl 4)]
def gX6_22 : List GE := [.inl (6, [none, some (some 1), some (some 2), some (some 3), some (some 4), none, some (some 5), none, some (some 6), some (some 7), none, none, none, some (some 8), some (some 9), some (some 10), some (some 11), some none, some none, none, none, none, none, some none, some none, none, none, none, some none, some none, some none, none]), .inr (.inl 6), .inr (.inl 6), .inr (.inl 18), .inr (.inl 24), .inr (.inl 160), .inr (.inl 1200), .inr (.inl 24), .inr (.inl 42), .inr (.inl 3), .inr (.inl 4), .inr (.inl 4)]
def gX6_23 : List GE := [.inl (6, [none, some (some 1), some (some 2), some (some 3), some (some 4), none, some (some 5), none, some (some 6), some (some 7), none, none, none, some (some 8), some (some 9), some (some 10), some (some 11), some none, some none, none, none, none, none, some none, some none, none, none, none, some none, some none, some none, none]), .inr (.inl 6), .inr (.inl 6), .inr (.inl 18), .inr (.inl 24), .inr (.inl 160), .inr (.inl 1200), .inr (.inl 24), .inr (.inl 42), .inr (.inl 3), .inr (.inl 4), .inr (.inl 4), .inr (.inl 160)]
def gX6_24 : List GE := [.inl (6, [none, some (some 1), some (some 2), some (some 3), some (some 4), none, some (some 5), none, some (some 6), some (some 7), none, none, none, some (some 8), some (some 9), some (some 10), some (some 11), some (some 12), some none, none, none, none, none, some none, some none, none, none, none, some none, some none, some none, none]), .inr (.inl 6), .inr (.inl 6), .inr (.inl 18), .inr (.inl 24), .inr (.inl 160), .inr (.inl 1200), .inr (.inl 24), .inr (.inl 42), .inr (.inl 3), .inr (.inl 4), .inr (.inl 4), .inr (.inl 160)]
def gX6_25 : List GE := [.inl (6, [none, some (some 1), some (some 2), some (some 3), some (some 4), none, some (some 5), none, some (some 6), some (some 7), none, none, none, some (some 8), some (some 9), some (some 10), some (some 11), some (some 12), some none, none, none, none, none, some none, some none, none, none, none, some none, some none, some none, none]), .inr (.inl 6), .inr (.inl 6), .inr (.inl 18), .inr (.inl 24), .inr (.inl 160), .inr (.inl 1200), .inr (.inl 24), .inr (.inl 42), .inr (.inl 3), .inr (.inl 4), .inr (.inl 4), .inr (.inl 160), .inr (.inl 27)]
def mX6_3 : Mem := mkR mX6_2 13 [59, 32, 49, 32, 115, 101, 111, 103, 32, 59, 32, 50, 32, 115, 121, 97, 112, 32, 59, 32, 49, 32, 115, 101, 105, 114, 116]
def gX6_26 : List GE := [.inl (6, [none, some (some 1), some (some 2), some (some 3), some (some 4), none, some (some 5), none, some (some 6), some (some 7), none, none, none, some (some 8), some (some 9), some (some 10), some (some 11), some (some 12), some (some 13), none, none, none, none, some none, some none, none, none, none, some none, some none, some none, none]), .inr (.inl 6), .inr (.inl 6), .inr (.inl 18), .inr (.inl 24), .inr (.inl 160), .inr (.inl 1200), .inr (.inl 24), .inr (.inl 42), .inr (.inl 3), .inr (.inl 4), .inr (.inl 4), .inr (.inl 160), .inr (.inl 27)]
def gX6_27 : List GE := [.inl (6, [none, some (some 1), some (some 2), some (some 3), some (some 4), none, some (some 5), none, some (some 6), some (some 7), none, none, none, some (some 8), some (some 9), some (some 10), some (some 11), some (some 12), some (some 13), none, none, none, none, some none, some none, none, none, none, some none, some none, some none, none]), .inr (.inl 6), .inr (.inl 6), .inr (.inl 18), .inr (.inl 24), .inr (.inl 160), .inr (.inl 1200), .inr (.inl 24), .inr (.inl 42), .inr (.inl 3), .inr (.inl 4), .inr (.inl 4), .inr (.inl 160), .inr (.inl 27), .inr (.inl 96)]
def mX6_4 : Mem := mkR mX6_3 14 [32, 32, 32, 32, 32, 116, 111, 110, 32, 32, 32, 32, 32, 100, 110, 97, 32, 32, 32, 32, 32, 32, 114, 111, 32, 32, 32, 32, 101, 114, 111, 109, 32, 32, 32, 32, 101, 109, 97, 99, 32, 32, 32, 100, 101, 105, 114, 116, 32, 32, 101, 116, 117, 110, 105, 109, 32, 32, 32, 32, 115, 103, 103, 101, 32, 32, 32, 32, 114, 111, 111, 100, 32, 32, 32, 32, 115, 101, 111, 103, 32, 32, 32, 32, 115, 121, 97, 112, 32, 32, 32, 115, 101, 105, 114, 116]
def gX6_28 : List GE := [.inl (6, [none, some (some 1), some (some 2), some (some 3), some (some 4), none, some (some 5), none, some (some 6), some (some 7), none, none, none, some (some 8), some (some 9), some (some 10), some (some 11), some (some 12), some (some 13), none, none, none, none, some (some 14), some none, none, none, none, some none, some none, some none, none]), .inr (.inl 6), .inr (.inl 6), .inr (.inl 18), .inr (.inl 24), .inr (.inl 160), .inr (.inl 1200), .inr (.inl 24), .inr (.inl 42), .inr (.inl 3), .inr (.inl 4), .inr (.inl 4), .inr (.inl 160), .inr (.inl 27), .inr (.inl 96)]
def gX6_29 : List GE := [.inl (6, [none, some (some 1), some (some 2), some (some 3), some (some 4), none, some (some 5), none, some (some 6), some (some 7), none, none, none, some (some 8), some (some 9), some (some 10), some (some 11), some (some 12), some (some 13), none, none, none, none, some (some 14), some none, none, none, none, some none, some none, some none, none]), .inr (.inl 6), .inr (.inl 6), .inr (.inl 18), .inr (.inl 24), .inr (.inl 160), .inr (.inl 1200), .inr (.inl 24), .inr (.inl 42), .inr (.inl 3), .inr (.inl 4), .inr (.inl 4), .inr (.inl 160), .inr (.inl 27), .inr (.inl 96), .inr (.inl 200)]
def gX6_30 : List GE := [.inl (6, [none, some (some 1), some (some 2), some (some 3), some (some 4), none, some (some 5), none, some (some 6), some (some 7), none, none, none, some (some 8), some (some 9), some (some 10), some (some 11), some (some 12), some (some 13), none, none, none, none, some (some 14), some (some 15), none, none, none, some none, some none, some none, none]), .inr (.inl 6), .inr (.inl 6), .inr (.inl 18), .inr (.inl 24), .inr (.inl 160), .inr (.inl 1200), .inr (.inl 24), .inr (.inl 42), .inr (.inl 3), .inr (.inl 4), .inr (.inl 4), .inr (.inl 160), .inr (.inl 27), .inr (.inl 96), .inr (.inl 200)]
def gX6_31 : List GE := [.inl (6, [none, some (some 1), some (some 2), some (some 3), some (some 4), none, some (some 5), none, some (some 6), some (some 7), none, none, none, some (some 8), some (some 9), some (some 10), some (some 11), some (some 12), some (some 13), none, none, none, none, some (some 14), some (some 15), none, none, none, some none, some none, some none, none]), .inr (.inl 6), .inr (.inl 6), .inr (.inl 18), .inr (.inl 24), .inr (.inl 160), .inr (.inl 1200), .inr (.inl 24), .inr (.inl 42), .inr (.inl 3), .inr (.inl 4), .inr (.inl 4), .inr (.inl 160), .inr (.inl 27), .inr (.inl 96), .inr (.inl 200), .inr (.inl 200)]
def gX6_32 : List GE := [.inl (6, [none, some (some 1), some (some 2), some (some 3), some (some 4), none, some (some 5), none, some (some 6), some (some 7), none, none, none, some (some 8), some (some 9), some (some 10), some (some 11), some (some 12), some (some 13), none, none, none, none, some (some 14), some (some 15), none, none, none, some (some 16), some none, some none, none]), .inr (.inl 6), .inr (.inl 6), .inr (.inl 18), .inr (.inl 24), .inr (.inl 160), .inr (.inl 1200), .inr (.inl 24), .inr (.inl 42), .inr (.inl 3), .inr (.inl 4), .inr (.inl 4), .inr (.inl 160), .inr (.inl 27), .inr (.inl 96), .inr (.inl 200), .inr (.inl 200)]
def gX6_33 : List GE := [.inl (6, [none, some (some 1), some (some 2), some (some 3), some (some 4), none, some (some 5), none, some (some 6), some (some 7), none, none, none, some (some 8), some (some 9), some (some 10), some (some 11), some (some 12), some (some 13), none, none, none, none, some (some 14), some (some 15), none, none, none, some (some 16), some none, some none, none]), .inr (.inl 6), .inr (.inl 6), .inr (.inl 18), .inr (.inl 24), .inr (.inl 160), .inr (.inl 1200), .inr (.inl 24), .inr (.inl 42), .inr (.inl 3), .inr (.inl 4), .inr (.inl 4), .inr (.inl 160), .inr (.inl 27), .inr (.inl 96), .inr (.inl 200), .inr (.inl 200), .inr (.inl 6)]
def gX6_34 : List GE := [.inl (6, [none, some (some 1), some (some 2), some (some 3), some (some 4), none, some (some 5), none, some (some 6), some (some 7), none, none, none, some (some 8), some (some 9), some (some 10), some (some 11), some (some 12), some (some 13), none, none, none, none, some (some 14), some (some 15), none, none, none, some (some 16), some (some 17), some none, none]), .inr (.inl 6), .inr (.inl 6), .inr (.inl 18), .inr (.inl 24), .inr (.inl 160), .inr (.inl 1200), .inr (.inl 24), .inr (.inl 42), .inr (.inl 3), .inr (.inl 4), .inr (.inl 4), .inr (.inl 160), .inr (.inl 27), .inr (.inl 96), .inr (.inl 200), .inr (.inl 200), .inr (.inl 6)]
def gX6_35 : List GE := [.inl (6, [none, some (some 1), some (some 2), some (some 3), some (some 4), none, some (some 5), none, some (some 6), some (some 7), none, none, none, some (some 8), some (some 9), some (some 10), some (some 11), some (some 12), some (some 13), none, none, none, none, some (some 14), some (some 15), none, none, none, some (some 16), some (some 17), some none, none]), .inr (.inl 6), .inr (.inl 6), .inr (.inl 18), .inr (.inl 24), .inr (.inl 160), .inr (.inl 1200), .inr (.inl 24), .inr (.inl 42), .inr (.inl 3), .inr (.inl 4), .inr (.inl 4), .inr (.inl 160), .inr (.inl 27), .inr (.inl 96), .inr (.inl 200), .inr (.inl 200), .inr (.inl 6), .inr (.inl 43)]
def gX6_36 : List GE := [.inl (6, [none, some (some 1), some (some 2), some (some 3), some (some 4), none, some (some 5), none, some (some 6), some (some 7), none, none, none, some (some 8), some (some 9), some (some 10), some (some 11), some (some 12), some (some 13), none, none, none, none, some (some 14), some (some 15), none, none, none, some (some 16), some (some 17), some (some 18), none]), .inr (.inl 6), .inr (.inl 6), .inr (.inl 18), .inr (.inl 24), .inr (.inl 160), .inr (.inl 1200), .inr (.inl 24), .inr (.inl 42), .inr (.inl 3), .inr (.inl 4), .inr (.inl 4), .inr (.inl 160), .inr (.inl 27), .inr (.inl 96), .inr (.inl 200), .inr (.inl 200), .inr (.inl 6), .inr (.inl 43)]
def mX6_5 : Mem := mkR mX6_4 5 [59, 32, 49, 32, 115, 101, 111, 103, 32, 59, 32, 50, 32, 115, 121, 97, 112, 32, 59, 32, 49, 32, 115, 101, 105, 114, 116]
def mX6_6 : Mem := upM mX6_5 0 7 27
theorem g60 : gX6_36 = GM.map em := rfl
theorem r00 : RM mX6_6 (0, X00, tn0, false, tn0, 27, tp0, (fun _ => -1), (fun _ => 0), (fun _ _ => 0)) := by
  refine ⟨⟨by decide +kernel, by decide +kernel, by decide +kernel, by decide +kernel, by decide +kernel, fun p hp => absurd (show (p : Int) < 0 from hp) (by omega)⟩, ⟨by decide, fun t ht => absurd ht (Nat.not_lt_zero _)⟩, by decide +kernel, by decide +kernel, fun h => absurd h (by decide), ⟨by decide +kernel, by decide +kernel⟩, by decide +kernel, by decide +kernel⟩

theorem wX6_17 {z : ZZ} : WN kX6_init 10 18 2223 gX6_36 (fun M => RM M S0) z 1019 [some (rv 0), some (iv 26)] [iv 27, iv 26] gX6_36 (mkR mX6_4 5 [32, 49, 32, 115, 101, 111, 103, 32, 59, 32, 50, 32, 115, 121, 97, 112, 32, 59, 32, 49, 32, 115, 101, 105, 114, 116]) 18 2223 := by
  refine n_ge_n dX6_init_1019 ⟨by omega, by omega, by omega⟩ ?_
  refine n_aload_0 dX6_init_1022 ?_
  refine n_getR (fs := [none, some (some 1), some (some 2), some (some 3), some (some 4), none, some (some 5), none, some (some 6), some (some 7), none, none, none, some (some 8), some (some 9), some (some 10), some (some 11), some (some 12), some (some 13), none, none, none, none, some (some 14), some (some 15), none, none, none, some (some 16), some (some 17), some (some 18), none]) dX6_init_1023 fX6_22 rfl rfl ?_
  refine n_iload_1 dX6_init_1026 ?_
  refine n_aload_0 dX6_init_1027 ?_
  refine n_getR (fs := [none, some (some 1), some (some 2), some (some 3), some (some 4), none, some (some 5), none, some (some 6), some (some 7), none, none, none, some (some 8), some (some 9), some (some 10), some (some 11), some (some 12), some (some 13), none, none, none, none, some (some 14), some (some 15), none, none, none, some (some 16), some (some 17), some (some 18), none]) dX6_init_1028 fX6_46 rfl rfl ?_
  refine n_iload_1 dX6_init_1031 ?_
  refine n_iald (N := 27) (v := 59) dX6_init_1032 rfl (by decide) (by decide +kernel) ?_
  refine n_iast (N := 160) dX6_init_1033 rfl (by decide) (by decide) (by omega) ?_
  refine n_iinc_1 (y := 27) dX6_init_1034 rfl (by decide) ?_
  refine n_goto dX6_init_1037 ?_
  refine n_iload_1 dX6_init_1016 ?_
  refine n_bipush dX6_init_1017 (by decide) ?_
  refine n_ge_y dX6_init_1019 ⟨by omega, by omega, by omega⟩ ?_
  refine n_aload_0 dX6_init_1040 ?_
  refine n_bipush dX6_init_1041 (by decide) ?_
  refine n_M (M2 := mX6_5) rfl ?_
  refine n_put (fs := [none, some (some 1), some (some 2), some (some 3), some (some 4), none, some (some 5), none, some (some 6), some (some 7), none, none, none, some (some 8), some (some 9), some (some 10), some (some 11), some (some 12), some (some 13), none, none, none, none, some (some 14), some (some 15), none, none, none, some (some 16), some (some 17), some (some 18), none]) dX6_init_1043 pX6_64 (Or.inl rfl) rfl rfl (by decide) (by omega) ?_
  refine n_M (M2 := mX6_6) rfl ?_
  refine n_aload_0 dX6_init_1046 ?_
  refine n_text dX6_init_1047 rfl rfl r00 (by decide) (by decide) h00 (by decide) (by decide) (fun a M2 h2 => ?_)
  refine n_pop dX6_init_1050 ?_
  exact n_ret dX6_init_1051 rfl (h2)
theorem wX6_16 {z : ZZ} : WN kX6_init 10 18 2223 gX6_36 (fun M => RM M S0) z 1028 [some (rv 0), some (iv 21)] [rv 0, iv 21, rv 5] gX6_36 (mkR mX6_4 5 [111, 103, 32, 59, 32, 50, 32, 115, 121, 97, 112, 32, 59, 32, 49, 32, 115, 101, 105, 114, 116]) 18 2223 := by
  refine n_getR (fs := [none, some (some 1), some (some 2), some (some 3), some (some 4), none, some (some 5), none, some (some 6), some (some 7), none, none, none, some (some 8), some (some 9), some (some 10), some (some 11), some (some 12), some (some 13), none, none, none, none, some (some 14), some (some 15), none, none, none, some (some 16), some (some 17), some (some 18), none]) dX6_init_1028 fX6_46 rfl rfl ?_
  refine n_iload_1 dX6_init_1031 ?_
  refine n_iald (N := 27) (v := 101) dX6_init_1032 rfl (by decide) (by decide +kernel) ?_
  refine n_iast (N := 160) dX6_init_1033 rfl (by decide) (by decide) (by omega) ?_
  refine n_iinc_1 (y := 22) dX6_init_1034 rfl (by decide) ?_
  refine n_goto dX6_init_1037 ?_
  refine n_iload_1 dX6_init_1016 ?_
  refine n_bipush dX6_init_1017 (by decide) ?_
  refine n_ge_n dX6_init_1019 ⟨by omega, by omega, by omega⟩ ?_
  refine n_aload_0 dX6_init_1022 ?_
  refine n_getR (fs := [none, some (some 1), some (some 2), some (some 3), some (some 4), none, some (some 5), none, some (some 6), some (some 7), none, none, none, some (some 8), some (some 9), some (some 10), some (some 11), some (some 12), some (some 13), none, none, none, none, some (some 14), some (some 15), none, none, none, some (some 16), some (some 17), some (some 18), none]) dX6_init_1023 fX6_22 rfl rfl ?_
  refine n_iload_1 dX6_init_1026 ?_
  refine n_aload_0 dX6_init_1027 ?_
  refine n_getR (fs := [none, some (some 1), some (some 2), some (some 3), some (some 4), none, some (some 5), none, some (some 6), some (some 7), none, none, none, some (some 8), some (some 9), some (some 10), some (some 11), some (some 12), some (some 13), none, none, none, none, some (some 14), some (some 15), none, none, none, some (some 16), some (some 17), some (some 18), none]) dX6_init_1028 fX6_46 rfl rfl ?_
  refine n_iload_1 dX6_init_1031 ?_
  refine n_iald (N := 27) (v := 115) dX6_init_1032 rfl (by decide) (by decide +kernel) ?_
  refine n_iast (N := 160) dX6_init_1033 rfl (by decide) (by decide) (by omega) ?_
  refine n_iinc_1 (y := 23) dX6_init_1034 rfl (by decide) ?_
  refine n_goto dX6_init_1037 ?_
  refine n_iload_1 dX6_init_1016 ?_
  refine n_bipush dX6_init_1017 (by decide) ?_
  refine n_ge_n dX6_init_1019 ⟨by omega, by omega, by omega⟩ ?_
  refine n_aload_0 dX6_init_1022 ?_
  refine n_getR (fs := [none, some (some 1), some (some 2), some (some 3), some (some 4), none, some (some 5), none, some (some 6), some (some 7), none, none, none, some (some 8), some (some 9), some (some 10), some (some 11), some (some 12), some (some 13), none, none, none, none, some (some 14), some (some 15), none, none, none, some (some 16), some (some 17), some (some 18), none]) dX6_init_1023 fX6_22 rfl rfl ?_
  refine n_iload_1 dX6_init_1026 ?_
  refine n_aload_0 dX6_init_1027 ?_
  refine n_getR (fs := [none, some (some 1), some (some 2), some (some 3), some (some 4), none, some (some 5), none, some (some 6), some (some 7), none, none, none, some (some 8), some (some 9), some (some 10), some (some 11), some (some 12), some (some 13), none, none, none, none, some (some 14), some (some 15), none, none, none, some (some 16), some (some 17), some (some 18), none]) dX6_init_1028 fX6_46 rfl rfl ?_
  refine n_iload_1 dX6_init_1031 ?_
  refine n_iald (N := 27) (v := 32) dX6_init_1032 rfl (by decide) (by decide +kernel) ?_
  refine n_iast (N := 160) dX6_init_1033 rfl (by decide) (by decide) (by omega) ?_
  refine n_iinc_1 (y := 24) dX6_init_1034 rfl (by decide) ?_
  refine n_goto dX6_init_1037 ?_
  refine n_iload_1 dX6_init_1016 ?_
  refine n_bipush dX6_init_1017 (by decide) ?_
  refine n_ge_n dX6_init_1019 ⟨by omega, by omega, by omega⟩ ?_
  refine n_aload_0 dX6_init_1022 ?_
  refine n_getR (fs := [none, some (some 1), some (some 2), some (some 3), some (some 4), none, some (some 5), none, some (some 6), some (some 7), none, none, none, some (some 8), some (some 9), some (some 10), some (some 11), some (some 12), some (some 13), none, none, none, none, some (some 14), some (some 15), none, none, none, some (some 16), some (some 17), some (some 18), none]) dX6_init_1023 fX6_22 rfl rfl ?_
  refine n_iload_1 dX6_init_1026 ?_
  refine n_aload_0 dX6_init_1027 ?_
  refine n_getR (fs := [none, some (some 1), some (some 2), some (some 3), some (some 4), none, some (some 5), none, some (some 6), some (some 7), none, none, none, some (some 8), some (some 9), some (some 10), some (some 11), some (some 12), some (some 13), none, none, none, none, some (some 14), some (some 15), none, none, none, some (some 16), some (some 17), some (some 18), none]) dX6_init_1028 fX6_46 rfl rfl ?_
  refine n_iload_1 dX6_init_1031 ?_
  refine n_iald (N := 27) (v := 49) dX6_init_1032 rfl (by decide) (by decide +kernel) ?_
  refine n_iast (N := 160) dX6_init_1033 rfl (by decide) (by decide) (by omega) ?_
  refine n_iinc_1 (y := 25) dX6_init_1034 rfl (by decide) ?_
  refine n_goto dX6_init_1037 ?_
  refine n_iload_1 dX6_init_1016 ?_
  refine n_bipush dX6_init_1017 (by decide) ?_
  refine n_ge_n dX6_init_1019 ⟨by omega, by omega, by omega⟩ ?_
  refine n_aload_0 dX6_init_1022 ?_
  refine n_getR (fs := [none, some (some 1), some (some 2), some (some 3), some (some 4), none, some (some 5), none, some (some 6), some (some 7), none, none, none, some (some 8), some (some 9), some (some 10), some (some 11), some (some 12), some (some 13), none, none, none, none, some (some 14), some (some 15), none, none, none, some (some 16), some (some 17), some (some 18), none]) dX6_init_1023 fX6_22 rfl rfl ?_
  refine n_iload_1 dX6_init_1026 ?_
  refine n_aload_0 dX6_init_1027 ?_
  refine n_getR (fs := [none, some (some 1), some (some 2), some (some 3), some (some 4), none, some (some 5), none, some (some 6), some (some 7), none, none, none, some (some 8), some (some 9), some (some 10), some (some 11), some (some 12), some (some 13), none, none, none, none, some (some 14), some (some 15), none, none, none, some (some 16), some (some 17), some (some 18), none]) dX6_init_1028 fX6_46 rfl rfl ?_
  refine n_iload_1 dX6_init_1031 ?_
  refine n_iald (N := 27) (v := 32) dX6_init_1032 rfl (by decide) (by decide +kernel) ?_
  refine n_iast (N := 160) dX6_init_1033 rfl (by decide) (by decide) (by omega) ?_
  refine n_iinc_1 (y := 26) dX6_init_1034 rfl (by decide) ?_
  refine n_goto dX6_init_1037 ?_
  refine n_iload_1 dX6_init_1016 ?_
  refine n_bipush dX6_init_1017 (by decide) ?_
  exact wX6_17
theorem wX6_15 {z : ZZ} : WN kX6_init 10 18 2223 gX6_36 (fun M => RM M S0) z 1037 [some (rv 0), some (iv 17)] [] gX6_36 (mkR mX6_4 5 [32, 50, 32, 115, 121, 97, 112, 32, 59, 32, 49, 32, 115, 101, 105, 114, 116]) 18 2223 := by
  refine n_goto dX6_init_1037 ?_
  refine n_iload_1 dX6_init_1016 ?_
  refine n_bipush dX6_init_1017 (by decide) ?_
  refine n_ge_n dX6_init_1019 ⟨by omega, by omega, by omega⟩ ?_
  refine n_aload_0 dX6_init_1022 ?_
  refine n_getR (fs := [none, some (some 1), some (some 2), some (some 3), some (some 4), none, some (some 5), none, some (some 6), some (some 7), none, none, none, some (some 8), some (some 9), some (some 10), some (some 11), some (some 12), some (some 13), none, none, none, none, some (some 14), some (some 15), none, none, none, some (some 16), some (some 17), some (some 18), none]) dX6_init_1023 fX6_22 rfl rfl ?_
  refine n_iload_1 dX6_init_1026 ?_
  refine n_aload_0 dX6_init_1027 ?_
  refine n_getR (fs := [none, some (some 1), some (some 2), some (some 3), some (some 4), none, some (some 5), none, some (some 6), some (some 7), none, none, none, some (some 8), some (some 9), some (some 10), some (some 11), some (some 12), some (some 13), none, none, none, none, some (some 14), some (some 15), none, none, none, some (some 16), some (some 17), some (some 18), none]) dX6_init_1028 fX6_46 rfl rfl ?_
  refine n_iload_1 dX6_init_1031 ?_
  refine n_iald (N := 27) (v := 59) dX6_init_1032 rfl (by decide) (by decide +kernel) ?_
  refine n_iast (N := 160) dX6_init_1033 rfl (by decide) (by decide) (by omega) ?_
  refine n_iinc_1 (y := 18) dX6_init_1034 rfl (by decide) ?_
  refine n_goto dX6_init_1037 ?_
  refine n_iload_1 dX6_init_1016 ?_
  refine n_bipush dX6_init_1017 (by decide) ?_
  refine n_ge_n dX6_init_1019 ⟨by omega, by omega, by omega⟩ ?_
  refine n_aload_0 dX6_init_1022 ?_
  refine n_getR (fs := [none, some (some 1), some (some 2), some (some 3), some (some 4), none, some (some 5), none, some (some 6), some (some 7), none, none, none, some (some 8), some (some 9), some (some 10), some (some 11), some (some 12), some (some 13), none, none, none, none, some (some 14), some (some 15), none, none, none, some (some 16), some (some 17), some (some 18), none]) dX6_init_1023 fX6_22 rfl rfl ?_
  refine n_iload_1 dX6_init_1026 ?_
  refine n_aload_0 dX6_init_1027 ?_
  refine n_getR (fs := [none, some (some 1), some (some 2), some (some 3), some (some 4), none, some (some 5), none, some (some 6), some (some 7), none, none, none, some (some 8), some (some 9), some (some 10), some (some 11), some (some 12), some (some 13), none, none, none, none, some (some 14), some (some 15), none, none, none, some (some 16), some (some 17), some (some 18), none]) dX6_init_1028 fX6_46 rfl rfl ?_
  refine n_iload_1 dX6_init_1031 ?_
  refine n_iald (N := 27) (v := 32) dX6_init_1032 rfl (by decide) (by decide +kernel) ?_
  refine n_iast (N := 160) dX6_init_1033 rfl (by decide) (by decide) (by omega) ?_
  refine n_iinc_1 (y := 19) dX6_init_1034 rfl (by decide) ?_
  refine n_goto dX6_init_1037 ?_
  refine n_iload_1 dX6_init_1016 ?_
  refine n_bipush dX6_init_1017 (by decide) ?_
  refine n_ge_n dX6_init_1019 ⟨by omega, by omega, by omega⟩ ?_
  refine n_aload_0 dX6_init_1022 ?_
  refine n_getR (fs := [none, some (some 1), some (some 2), some (some 3), some (some 4), none, some (some 5), none, some (some 6), some (some 7), none, none, none, some (some 8), some (some 9), some (some 10), some (some 11), some (some 12), some (some 13), none, none, none, none, some (some 14), some (some 15), none, none, none, some (some 16), some (some 17), some (some 18), none]) dX6_init_1023 fX6_22 rfl rfl ?_
  refine n_iload_1 dX6_init_1026 ?_
  refine n_aload_0 dX6_init_1027 ?_
  refine n_getR (fs := [none, some (some 1), some (some 2), some (some 3), some (some 4), none, some (some 5), none, some (some 6), some (some 7), none, none, none, some (some 8), some (some 9), some (some 10), some (some 11), some (some 12), some (some 13), none, none, none, none, some (some 14), some (some 15), none, none, none, some (some 16), some (some 17), some (some 18), none]) dX6_init_1028 fX6_46 rfl rfl ?_
  refine n_iload_1 dX6_init_1031 ?_
  refine n_iald (N := 27) (v := 103) dX6_init_1032 rfl (by decide) (by decide +kernel) ?_
  refine n_iast (N := 160) dX6_init_1033 rfl (by decide) (by decide) (by omega) ?_
  refine n_iinc_1 (y := 20) dX6_init_1034 rfl (by decide) ?_
  refine n_goto dX6_init_1037 ?_
  refine n_iload_1 dX6_init_1016 ?_
  refine n_bipush dX6_init_1017 (by decide) ?_
  refine n_ge_n dX6_init_1019 ⟨by omega, by omega, by omega⟩ ?_
  refine n_aload_0 dX6_init_1022 ?_
  refine n_getR (fs := [none, some (some 1), some (some 2), some (some 3), some (some 4), none, some (some 5), none, some (some 6), some (some 7), none, none, none, some (some 8), some (some 9), some (some 10), some (some 11), some (some 12), some (some 13), none, none, none, none, some (some 14), some (some 15), none, none, none, some (some 16), some (some 17), some (some 18), none]) dX6_init_1023 fX6_22 rfl rfl ?_
  refine n_iload_1 dX6_init_1026 ?_
  refine n_aload_0 dX6_init_1027 ?_
  refine n_getR (fs := [none, some (some 1), some (some 2), some (some 3), some (some 4), none, some (some 5), none, some (some 6), some (some 7), none, none, none, some (some 8), some (some 9), some (some 10), some (some 11), some (some 12), some (some 13), none, none, none, none, some (some 14), some (some 15), none, none, none, some (some 16), some (some 17), some (some 18), none]) dX6_init_1028 fX6_46 rfl rfl ?_
  refine n_iload_1 dX6_init_1031 ?_
  refine n_iald (N := 27) (v := 111) dX6_init_1032 rfl (by decide) (by decide +kernel) ?_
  refine n_iast (N := 160) dX6_init_1033 rfl (by decide) (by decide) (by omega) ?_
  refine n_iinc_1 (y := 21) dX6_init_1034 rfl (by decide) ?_
  refine n_goto dX6_init_1037 ?_
  refine n_iload_1 dX6_init_1016 ?_
  refine n_bipush dX6_init_1017 (by decide) ?_
  refine n_ge_n dX6_init_1019 ⟨by omega, by omega, by omega⟩ ?_
  refine n_aload_0 dX6_init_1022 ?_
  refine n_getR (fs := [none, some (some 1), some (some 2), some (some 3), some (some 4), none, some (some 5), none, some (some 6), some (some 7), none, none, none, some (some 8), some (some 9), some (some 10), some (some 11), some (some 12), some (some 13), none, none, none, none, some (some 14), some (some 15), none, none, none, some (some 16), some (some 17), some (some 18), none]) dX6_init_1023 fX6_22 rfl rfl ?_
  refine n_iload_1 dX6_init_1026 ?_
  refine n_aload_0 dX6_init_1027 ?_
  exact wX6_16
theorem wX6_14 {z : ZZ} : WN kX6_init 10 18 2223 gX6_36 (fun M => RM M S0) z 1023 [some (rv 0), some (iv 12)] [rv 0] gX6_36 (mkR mX6_4 5 [97, 112, 32, 59, 32, 49, 32, 115, 101, 105, 114, 116]) 18 2223 := by
  refine n_getR (fs := [none, some (some 1), some (some 2), some (some 3), some (some 4), none, some (some 5), none, some (some 6), some (some 7), none, none, none, some (some 8), some (some 9), some (some 10), some (some 11), some (some 12), some (some 13), none, none, none, none, some (some 14), some (some 15), none, none, none, some (some 16), some (some 17), some (some 18), none]) dX6_init_1023 fX6_22 rfl rfl ?_
  refine n_iload_1 dX6_init_1026 ?_
  refine n_aload_0 dX6_init_1027 ?_
  refine n_getR (fs := [none, some (some 1), some (some 2), some (some 3), some (some 4), none, some (some 5), none, some (some 6), some (some 7), none, none, none, some (some 8), some (some 9), some (some 10), some (some 11), some (some 12), some (some 13), none, none, none, none, some (some 14), some (some 15), none, none, none, some (some 16), some (some 17), some (some 18), none]) dX6_init_1028 fX6_46 rfl rfl ?_
  refine n_iload_1 dX6_init_1031 ?_
  refine n_iald (N := 27) (v := 121) dX6_init_1032 rfl (by decide) (by decide +kernel) ?_
  refine n_iast (N := 160) dX6_init_1033 rfl (by decide) (by decide) (by omega) ?_
  refine n_iinc_1 (y := 13) dX6_init_1034 rfl (by decide) ?_
  refine n_goto dX6_init_1037 ?_
  refine n_iload_1 dX6_init_1016 ?_
  refine n_bipush dX6_init_1017 (by decide) ?_
  refine n_ge_n dX6_init_1019 ⟨by omega, by omega, by omega⟩ ?_
  refine n_aload_0 dX6_init_1022 ?_
  refine n_getR (fs := [none, some (some 1), some (some 2), some (some 3), some (some 4), none, some (some 5), none, some (some 6), some (some 7), none, none, none, some (some 8), some (some 9), some (some 10), some (some 11), some (some 12), some (some 13), none, none, none, none, some (some 14), some (some 15), none, none, none, some (some 16), some (some 17), some (some 18), none]) dX6_init_1023 fX6_22 rfl rfl ?_
  refine n_iload_1 dX6_init_1026 ?_
  refine n_aload_0 dX6_init_1027 ?_
  refine n_getR (fs := [none, some (some 1), some (some 2), some (some 3), some (some 4), none, some (some 5), none, some (some 6), some (some 7), none, none, none, some (some 8), some (some 9), some (some 10), some (some 11), some (some 12), some (some 13), none, none, none, none, some (some 14), some (some 15), none, none, none, some (some 16), some (some 17), some (some 18), none]) dX6_init_1028 fX6_46 rfl rfl ?_
  refine n_iload_1 dX6_init_1031 ?_
  refine n_iald (N := 27) (v := 115) dX6_init_1032 rfl (by decide) (by decide +kernel) ?_
  refine n_iast (N := 160) dX6_init_1033 rfl (by decide) (by decide) (by omega) ?_
  refine n_iinc_1 (y := 14) dX6_init_1034 rfl (by decide) ?_
  refine n_goto dX6_init_1037 ?_
  refine n_iload_1 dX6_init_1016 ?_
  refine n_bipush dX6_init_1017 (by decide) ?_
  refine n_ge_n dX6_init_1019 ⟨by omega, by omega, by omega⟩ ?_
  refine n_aload_0 dX6_init_1022 ?_
  refine n_getR (fs := [none, some (some 1), some (some 2), some (some 3), some (some 4), none, some (some 5), none, some (some 6), some (some 7), none, none, none, some (some 8), some (some 9), some (some 10), some (some 11), some (some 12), some (some 13), none, none, none, none, some (some 14), some (some 15), none, none, none, some (some 16), some (some 17), some (some 18), none]) dX6_init_1023 fX6_22 rfl rfl ?_
  refine n_iload_1 dX6_init_1026 ?_
  refine n_aload_0 dX6_init_1027 ?_
  refine n_getR (fs := [none, some (some 1), some (some 2), some (some 3), some (some 4), none, some (some 5), none, some (some 6), some (some 7), none, none, none, some (some 8), some (some 9), some (some 10), some (some 11), some (some 12), some (some 13), none, none, none, none, some (some 14), some (some 15), none, none, none, some (some 16), some (some 17), some (some 18), none]) dX6_init_1028 fX6_46 rfl rfl ?_
  refine n_iload_1 dX6_init_1031 ?_
  refine n_iald (N := 27) (v := 32) dX6_init_1032 rfl (by decide) (by decide +kernel) ?_
  refine n_iast (N := 160) dX6_init_1033 rfl (by decide) (by decide) (by omega) ?_
  refine n_iinc_1 (y := 15) dX6_init_1034 rfl (by decide) ?_
  refine n_goto dX6_init_1037 ?_
  refine n_iload_1 dX6_init_1016 ?_
  refine n_bipush dX6_init_1017 (by decide) ?_
  refine n_ge_n dX6_init_1019 ⟨by omega, by omega, by omega⟩ ?_
  refine n_aload_0 dX6_init_1022 ?_
  refine n_getR (fs := [none, some (some 1), some (some 2), some (some 3), some (some 4), none, some (some 5), none, some (some 6), some (some 7), none, none, none, some (some 8), some (some 9), some (some 10), some (some 11), some (some 12), some (some 13), none, none, none, none, some (some 14), some (some 15), none, none, none, some (some 16), some (some 17), some (some 18), none]) dX6_init_1023 fX6_22 rfl rfl ?_
  refine n_iload_1 dX6_init_1026 ?_
  refine n_aload_0 dX6_init_1027 ?_
  refine n_getR (fs := [none, some (some 1), some (some 2), some (some 3), some (some 4), none, some (some 5), none, some (some 6), some (some 7), none, none, none, some (some 8), some (some 9), some (some 10), some (some 11), some (some 12), some (some 13), none, none, none, none, some (some 14), some (some 15), none, none, none, some (some 16), some (some 17), some (some 18), none]) dX6_init_1028 fX6_46 rfl rfl ?_
  refine n_iload_1 dX6_init_1031 ?_
  refine n_iald (N := 27) (v := 50) dX6_init_1032 rfl (by decide) (by decide +kernel) ?_
  refine n_iast (N := 160) dX6_init_1033 rfl (by decide) (by decide) (by omega) ?_
  refine n_iinc_1 (y := 16) dX6_init_1034 rfl (by decide) ?_
  refine n_goto dX6_init_1037 ?_
  refine n_iload_1 dX6_init_1016 ?_
  refine n_bipush dX6_init_1017 (by decide) ?_
  refine n_ge_n dX6_init_1019 ⟨by omega, by omega, by omega⟩ ?_
  refine n_aload_0 dX6_init_1022 ?_
  refine n_getR (fs := [none, some (some 1), some (some 2), some (some 3), some (some 4), none, some (some 5), none, some (some 6), some (some 7), none, none, none, some (some 8), some (some 9), some (some 10), some (some 11), some (some 12), some (some 13), none, none, none, none, some (some 14), some (some 15), none, none, none, some (some 16), some (some 17), some (some 18), none]) dX6_init_1023 fX6_22 rfl rfl ?_
  refine n_iload_1 dX6_init_1026 ?_
  refine n_aload_0 dX6_init_1027 ?_
  refine n_getR (fs := [none, some (some 1), some (some 2), some (some 3), some (some 4), none, some (some 5), none, some (some 6), some (some 7), none, none, none, some (some 8), some (some 9), some (some 10), some (some 11), some (some 12), some (some 13), none, none, none, none, some (some 14), some (some 15), none, none, none, some (some 16), some (some 17), some (some 18), none]) dX6_init_1028 fX6_46 rfl rfl ?_
  refine n_iload_1 dX6_init_1031 ?_
  refine n_iald (N := 27) (v := 32) dX6_init_1032 rfl (by decide) (by decide +kernel) ?_
  refine n_iast (N := 160) dX6_init_1033 rfl (by decide) (by decide) (by omega) ?_
  refine n_iinc_1 (y := 17) dX6_init_1034 rfl (by decide) ?_
  exact wX6_15
theorem wX6_13 {z : ZZ} : WN kX6_init 10 18 2223 gX6_36 (fun M => RM M S0) z 1032 [some (rv 0), some (iv 7)] [iv 7, rv 13, iv 7, rv 5] gX6_36 (mkR mX6_4 5 [49, 32, 115, 101, 105, 114, 116]) 18 2223 := by
  refine n_iald (N := 27) (v := 32) dX6_init_1032 rfl (by decide) (by decide +kernel) ?_
  refine n_iast (N := 160) dX6_init_1033 rfl (by decide) (by decide) (by omega) ?_
  refine n_iinc_1 (y := 8) dX6_init_1034 rfl (by decide) ?_
  refine n_goto dX6_init_1037 ?_
  refine n_iload_1 dX6_init_1016 ?_
  refine n_bipush dX6_init_1017 (by decide) ?_
  refine n_ge_n dX6_init_1019 ⟨by omega, by omega, by omega⟩ ?_
  refine n_aload_0 dX6_init_1022 ?_
  refine n_getR (fs := [none, some (some 1), some (some 2), some (some 3), some (some 4), none, some (some 5), none, some (some 6), some (some 7), none, none, none, some (some 8), some (some 9), some (some 10), some (some 11), some (some 12), some (some 13), none, none, none, none, some (some 14), some (some 15), none, none, none, some (some 16), some (some 17), some (some 18), none]) dX6_init_1023 fX6_22 rfl rfl ?_
  refine n_iload_1 dX6_init_1026 ?_
  refine n_aload_0 dX6_init_1027 ?_
  refine n_getR (fs := [none, some (some 1), some (some 2), some (some 3), some (some 4), none, some (some 5), none, some (some 6), some (some 7), none, none, none, some (some 8), some (some 9), some (some 10), some (some 11), some (some 12), some (some 13), none, none, none, none, some (some 14), some (some 15), none, none, none, some (some 16), some (some 17), some (some 18), none]) dX6_init_1028 fX6_46 rfl rfl ?_
  refine n_iload_1 dX6_init_1031 ?_
  refine n_iald (N := 27) (v := 59) dX6_init_1032 rfl (by decide) (by decide +kernel) ?_
  refine n_iast (N := 160) dX6_init_1033 rfl (by decide) (by decide) (by omega) ?_
  refine n_iinc_1 (y := 9) dX6_init_1034 rfl (by decide) ?_
  refine n_goto dX6_init_1037 ?_
  refine n_iload_1 dX6_init_1016 ?_
  refine n_bipush dX6_init_1017 (by decide) ?_
  refine n_ge_n dX6_init_1019 ⟨by omega, by omega, by omega⟩ ?_
  refine n_aload_0 dX6_init_1022 ?_
  refine n_getR (fs := [none, some (some 1), some (some 2), some (some 3), some (some 4), none, some (some 5), none, some (some 6), some (some 7), none, none, none, some (some 8), some (some 9), some (some 10), some (some 11), some (some 12), some (some 13), none, none, none, none, some (some 14), some (some 15), none, none, none, some (some 16), some (some 17), some (some 18), none]) dX6_init_1023 fX6_22 rfl rfl ?_
  refine n_iload_1 dX6_init_1026 ?_
  refine n_aload_0 dX6_init_1027 ?_
  refine n_getR (fs := [none, some (some 1), some (some 2), some (some 3), some (some 4), none, some (some 5), none, some (some 6), some (some 7), none, none, none, some (some 8), some (some 9), some (some 10), some (some 11), some (some 12), some (some 13), none, none, none, none, some (some 14), some (some 15), none, none, none, some (some 16), some (some 17), some (some 18), none]) dX6_init_1028 fX6_46 rfl rfl ?_
  refine n_iload_1 dX6_init_1031 ?_
  refine n_iald (N := 27) (v := 32) dX6_init_1032 rfl (by decide) (by decide +kernel) ?_
  refine n_iast (N := 160) dX6_init_1033 rfl (by decide) (by decide) (by omega) ?_
  refine n_iinc_1 (y := 10) dX6_init_1034 rfl (by decide) ?_
  refine n_goto dX6_init_1037 ?_
  refine n_iload_1 dX6_init_1016 ?_
  refine n_bipush dX6_init_1017 (by decide) ?_
  refine n_ge_n dX6_init_1019 ⟨by omega, by omega, by omega⟩ ?_
  refine n_aload_0 dX6_init_1022 ?_
  refine n_getR (fs := [none, some (some 1), some (some 2), some (some 3), some (some 4), none, some (some 5), none, some (some 6), some (some 7), none, none, none, some (some 8), some (some 9), some (some 10), some (some 11), some (some 12), some (some 13), none, none, none, none, some (some 14), some (some 15), none, none, none, some (some 16), some (some 17), some (some 18), none]) dX6_init_1023 fX6_22 rfl rfl ?_
  refine n_iload_1 dX6_init_1026 ?_
  refine n_aload_0 dX6_init_1027 ?_
  refine n_getR (fs := [none, some (some 1), some (some 2), some (some 3), some (some 4), none, some (some 5), none, some (some 6), some (some 7), none, none, none, some (some 8), some (some 9), some (some 10), some (some 11), some (some 12), some (some 13), none, none, none, none, some (some 14), some (some 15), none, none, none, some (some 16), some (some 17), some (some 18), none]) dX6_init_1028 fX6_46 rfl rfl ?_
  refine n_iload_1 dX6_init_1031 ?_
  refine n_iald (N := 27) (v := 112) dX6_init_1032 rfl (by decide) (by decide +kernel) ?_
  refine n_iast (N := 160) dX6_init_1033 rfl (by decide) (by decide) (by omega) ?_
  refine n_iinc_1 (y := 11) dX6_init_1034 rfl (by decide) ?_
  refine n_goto dX6_init_1037 ?_
  refine n_iload_1 dX6_init_1016 ?_
  refine n_bipush dX6_init_1017 (by decide) ?_
  refine n_ge_n dX6_init_1019 ⟨by omega, by omega, by omega⟩ ?_
  refine n_aload_0 dX6_init_1022 ?_
  refine n_getR (fs := [none, some (some 1), some (some 2), some (some 3), some (some 4), none, some (some 5), none, some (some 6), some (some 7), none, none, none, some (some 8), some (some 9), some (some 10), some (some 11), some (some 12), some (some 13), none, none, none, none, some (some 14), some (some 15), none, none, none, some (some 16), some (some 17), some (some 18), none]) dX6_init_1023 fX6_22 rfl rfl ?_
  refine n_iload_1 dX6_init_1026 ?_
  refine n_aload_0 dX6_init_1027 ?_
  refine n_getR (fs := [none, some (some 1), some (some 2), some (some 3), some (some 4), none, some (some 5), none, some (some 6), some (some 7), none, none, none, some (some 8), some (some 9), some (some 10), some (some 11), some (some 12), some (some 13), none, none, none, none, some (some 14), some (some 15), none, none, none, some (some 16), some (some 17), some (some 18), none]) dX6_init_1028 fX6_46 rfl rfl ?_
  refine n_iload_1 dX6_init_1031 ?_
  refine n_iald (N := 27) (v := 97) dX6_init_1032 rfl (by decide) (by decide +kernel) ?_
  refine n_iast (N := 160) dX6_init_1033 rfl (by decide) (by decide) (by omega) ?_
  refine n_iinc_1 (y := 12) dX6_init_1034 rfl (by decide) ?_
  refine n_goto dX6_init_1037 ?_
  refine n_iload_1 dX6_init_1016 ?_
  refine n_bipush dX6_init_1017 (by decide) ?_
  refine n_ge_n dX6_init_1019 ⟨by omega, by omega, by omega⟩ ?_
  refine n_aload_0 dX6_init_1022 ?_
  exact wX6_14
theorem wX6_12 {z : ZZ} : WN kX6_init 10 18 2223 gX6_36 (fun M => RM M S0) z 1017 [some (rv 0), some (iv 3)] [iv 3] gX6_36 (mkR mX6_4 5 [105, 114, 116]) 18 2223 := by
  refine n_bipush dX6_init_1017 (by decide) ?_
  refine n_ge_n dX6_init_1019 ⟨by omega, by omega, by omega⟩ ?_
  refine n_aload_0 dX6_init_1022 ?_
  refine n_getR (fs := [none, some (some 1), some (some 2), some (some 3), some (some 4), none, some (some 5), none, some (some 6), some (some 7), none, none, none, some (some 8), some (some 9), some (some 10), some (some 11), some (some 12), some (some 13), none, none, none, none, some (some 14), some (some 15), none, none, none, some (some 16), some (some 17), some (some 18), none]) dX6_init_1023 fX6_22 rfl rfl ?_
  refine n_iload_1 dX6_init_1026 ?_
  refine n_aload_0 dX6_init_1027 ?_
  refine n_getR (fs := [none, some (some 1), some (some 2), some (some 3), some (some 4), none, some (some 5), none, some (some 6), some (some 7), none, none, none, some (some 8), some (some 9), some (some 10), some (some 11), some (some 12), some (some 13), none, none, none, none, some (some 14), some (some 15), none, none, none, some (some 16), some (some 17), some (some 18), none]) dX6_init_1028 fX6_46 rfl rfl ?_
  refine n_iload_1 dX6_init_1031 ?_
  refine n_iald (N := 27) (v := 101) dX6_init_1032 rfl (by decide) (by decide +kernel) ?_
  refine n_iast (N := 160) dX6_init_1033 rfl (by decide) (by decide) (by omega) ?_
  refine n_iinc_1 (y := 4) dX6_init_1034 rfl (by decide) ?_
  refine n_goto dX6_init_1037 ?_
  refine n_iload_1 dX6_init_1016 ?_
  refine n_bipush dX6_init_1017 (by decide) ?_
  refine n_ge_n dX6_init_1019 ⟨by omega, by omega, by omega⟩ ?_
  refine n_aload_0 dX6_init_1022 ?_
  refine n_getR (fs := [none, some (some 1), some (some 2), some (some 3), some (some 4), none, some (some 5), none, some (some 6), some (some 7), none, none, none, some (some 8), some (some 9), some (some 10), some (some 11), some (some 12), some (some 13), none, none, none, none, some (some 14), some (some 15), none, none, none, some (some 16), some (some 17), some (some 18), none]) dX6_init_1023 fX6_22 rfl rfl ?_
  refine n_iload_1 dX6_init_1026 ?_
  refine n_aload_0 dX6_init_1027 ?_
  refine n_getR (fs := [none, some (some 1), some (some 2), some (some 3), some (some 4), none, some (some 5), none, some (some 6), some (some 7), none, none, none, some (some 8), some (some 9), some (some 10), some (some 11), some (some 12), some (some 13), none, none, none, none, some (some 14), some (some 15), none, none, none, some (some 16), some (some 17), some (some 18), none]) dX6_init_1028 fX6_46 rfl rfl ?_
  refine n_iload_1 dX6_init_1031 ?_
  refine n_iald (N := 27) (v := 115) dX6_init_1032 rfl (by decide) (by decide +kernel) ?_
  refine n_iast (N := 160) dX6_init_1033 rfl (by decide) (by decide) (by omega) ?_
  refine n_iinc_1 (y := 5) dX6_init_1034 rfl (by decide) ?_
  refine n_goto dX6_init_1037 ?_
  refine n_iload_1 dX6_init_1016 ?_
  refine n_bipush dX6_init_1017 (by decide) ?_
  refine n_ge_n dX6_init_1019 ⟨by omega, by omega, by omega⟩ ?_
  refine n_aload_0 dX6_init_1022 ?_
  refine n_getR (fs := [none, some (some 1), some (some 2), some (some 3), some (some 4), none, some (some 5), none, some (some 6), some (some 7), none, none, none, some (some 8), some (some 9), some (some 10), some (some 11), some (some 12), some (some 13), none, none, none, none, some (some 14), some (some 15), none, none, none, some (some 16), some (some 17), some (some 18), none]) dX6_init_1023 fX6_22 rfl rfl ?_
  refine n_iload_1 dX6_init_1026 ?_
  refine n_aload_0 dX6_init_1027 ?_
  refine n_getR (fs := [none, some (some 1), some (some 2), some (some 3), some (some 4), none, some (some 5), none, some (some 6), some (some 7), none, none, none, some (some 8), some (some 9), some (some 10), some (some 11), some (some 12), some (some 13), none, none, none, none, some (some 14), some (some 15), none, none, none, some (some 16), some (some 17), some (some 18), none]) dX6_init_1028 fX6_46 rfl rfl ?_
  refine n_iload_1 dX6_init_1031 ?_
  refine n_iald (N := 27) (v := 32) dX6_init_1032 rfl (by decide) (by decide +kernel) ?_
  refine n_iast (N := 160) dX6_init_1033 rfl (by decide) (by decide) (by omega) ?_
  refine n_iinc_1 (y := 6) dX6_init_1034 rfl (by decide) ?_
  refine n_goto dX6_init_1037 ?_
  refine n_iload_1 dX6_init_1016 ?_
  refine n_bipush dX6_init_1017 (by decide) ?_
  refine n_ge_n dX6_init_1019 ⟨by omega, by omega, by omega⟩ ?_
  refine n_aload_0 dX6_init_1022 ?_
  refine n_getR (fs := [none, some (some 1), some (some 2), some (some 3), some (some 4), none, some (some 5), none, some (some 6), some (some 7), none, none, none, some (some 8), some (some 9), some (some 10), some (some 11), some (some 12), some (some 13), none, none, none, none, some (some 14), some (some 15), none, none, none, some (some 16), some (some 17), some (some 18), none]) dX6_init_1023 fX6_22 rfl rfl ?_
  refine n_iload_1 dX6_init_1026 ?_
  refine n_aload_0 dX6_init_1027 ?_
  refine n_getR (fs := [none, some (some 1), some (some 2), some (some 3), some (some 4), none, some (some 5), none, some (some 6), some (some 7), none, none, none, some (some 8), some (some 9), some (some 10), some (some 11), some (some 12), some (some 13), none, none, none, none, some (some 14), some (some 15), none, none, none, some (some 16), some (some 17), some (some 18), none]) dX6_init_1028 fX6_46 rfl rfl ?_
  refine n_iload_1 dX6_init_1031 ?_
  refine n_iald (N := 27) (v := 49) dX6_init_1032 rfl (by decide) (by decide +kernel) ?_
  refine n_iast (N := 160) dX6_init_1033 rfl (by decide) (by decide) (by omega) ?_
  refine n_iinc_1 (y := 7) dX6_init_1034 rfl (by decide) ?_
  refine n_goto dX6_init_1037 ?_
  refine n_iload_1 dX6_init_1016 ?_
  refine n_bipush dX6_init_1017 (by decide) ?_
  refine n_ge_n dX6_init_1019 ⟨by omega, by omega, by omega⟩ ?_
  refine n_aload_0 dX6_init_1022 ?_
  refine n_getR (fs := [none, some (some 1), some (some 2), some (some 3), some (some 4), none, some (some 5), none, some (some 6), some (some 7), none, none, none, some (some 8), some (some 9), some (some 10), some (some 11), some (some 12), some (some 13), none, none, none, none, some (some 14), some (some 15), none, none, none, some (some 16), some (some 17), some (some 18), none]) dX6_init_1023 fX6_22 rfl rfl ?_
  refine n_iload_1 dX6_init_1026 ?_
  refine n_aload_0 dX6_init_1027 ?_
  refine n_getR (fs := [none, some (some 1), some (some 2), some (some 3), some (some 4), none, some (some 5), none, some (some 6), some (some 7), none, none, none, some (some 8), some (some 9), some (some 10), some (some 11), some (some 12), some (some 13), none, none, none, none, some (some 14), some (some 15), none, none, none, some (some 16), some (some 17), some (some 18), none]) dX6_init_1028 fX6_46 rfl rfl ?_
  refine n_iload_1 dX6_init_1031 ?_
  exact wX6_13
theorem wX6_11 {z : ZZ} : WN kX6_init 10 18 2223 gX6_36 (fun M => RM M S0) z 976 [some (rv 0), none] [iv 32, iv 95, rv 14, rv 14, rv 0] gX6_27 (mkR mX6_3 14 [32, 32, 32, 32, 116, 111, 110, 32, 32, 32, 32, 32, 100, 110, 97, 32, 32, 32, 32, 32, 32, 114, 111, 32, 32, 32, 32, 101, 114, 111, 109, 32, 32, 32, 32, 101, 109, 97, 99, 32, 32, 32, 100, 101, 105, 114, 116, 32, 32, 101, 116, 117, 110, 105, 109, 32, 32, 32, 32, 115, 103, 103, 101, 32, 32, 32, 32, 114, 111, 111, 100, 32, 32, 32, 32, 115, 101, 111, 103, 32, 32, 32, 32, 115, 121, 97, 112, 32, 32, 32, 115, 101, 105, 114, 116]) 14 1774 := by
  refine n_iast (N := 96) dX6_init_976 rfl (by decide) (by decide) (by omega) ?_
  refine n_M (M2 := mX6_4) rfl ?_
  refine n_putR (fs := [none, some (some 1), some (some 2), some (some 3), some (some 4), none, some (some 5), none, some (some 6), some (some 7), none, none, none, some (some 8), some (some 9), some (some 10), some (some 11), some (some 12), some (some 13), none, none, none, none, some none, some none, none, none, none, some none, some none, some none, none]) dX6_init_977 ffX6_49 rfl (by decide) (by decide) ?_
  refine n_G (G2 := gX6_28) rfl ?_
  refine n_aload_0 dX6_init_980 ?_
  refine n_sipush dX6_init_981 (by decide) ?_
  refine c_newarr (N := 200) (n := 15) (c2 := 15) (s2 := 1974) (G2 := gX6_29) dX6_init_984 (by decide) rfl rfl rfl rfl (by decide) (fun _ => rfl) ?_
  refine n_putR (fs := [none, some (some 1), some (some 2), some (some 3), some (some 4), none, some (some 5), none, some (some 6), some (some 7), none, none, none, some (some 8), some (some 9), some (some 10), some (some 11), some (some 12), some (some 13), none, none, none, none, some (some 14), some none, none, none, none, some none, some none, some none, none]) dX6_init_986 ffX6_52 rfl (by decide) (by decide) ?_
  refine n_G (G2 := gX6_30) rfl ?_
  refine n_aload_0 dX6_init_989 ?_
  refine n_sipush dX6_init_990 (by decide) ?_
  refine c_newarr (N := 200) (n := 16) (c2 := 16) (s2 := 2174) (G2 := gX6_31) dX6_init_993 (by decide) rfl rfl rfl rfl (by decide) (fun _ => rfl) ?_
  refine n_putR (fs := [none, some (some 1), some (some 2), some (some 3), some (some 4), none, some (some 5), none, some (some 6), some (some 7), none, none, none, some (some 8), some (some 9), some (some 10), some (some 11), some (some 12), some (some 13), none, none, none, none, some (some 14), some (some 15), none, none, none, some none, some none, some none, none]) dX6_init_995 ffX6_55 rfl (by decide) (by decide) ?_
  refine n_G (G2 := gX6_32) rfl ?_
  refine n_aload_0 dX6_init_998 ?_
  refine n_bipush dX6_init_999 (by decide) ?_
  refine c_newarr (N := 6) (n := 17) (c2 := 17) (s2 := 2180) (G2 := gX6_33) dX6_init_1001 (by decide) rfl rfl rfl rfl (by decide) (fun _ => rfl) ?_
  refine n_putR (fs := [none, some (some 1), some (some 2), some (some 3), some (some 4), none, some (some 5), none, some (some 6), some (some 7), none, none, none, some (some 8), some (some 9), some (some 10), some (some 11), some (some 12), some (some 13), none, none, none, none, some (some 14), some (some 15), none, none, none, some (some 16), some none, some none, none]) dX6_init_1003 ffX6_58 rfl (by decide) (by decide) ?_
  refine n_G (G2 := gX6_34) rfl ?_
  refine n_aload_0 dX6_init_1006 ?_
  refine n_bipush dX6_init_1007 (by decide) ?_
  refine c_newarr (N := 43) (n := 18) (c2 := 18) (s2 := 2223) (G2 := gX6_35) dX6_init_1009 (by decide) rfl rfl rfl rfl (by decide) (fun _ => rfl) ?_
  refine n_putR (fs := [none, some (some 1), some (some 2), some (some 3), some (some 4), none, some (some 5), none, some (some 6), some (some 7), none, none, none, some (some 8), some (some 9), some (some 10), some (some 11), some (some 12), some (some 13), none, none, none, none, some (some 14), some (some 15), none, none, none, some (some 16), some (some 17), some none, none]) dX6_init_1011 ffX6_61 rfl (by decide) (by decide) ?_
  refine n_G (G2 := gX6_36) rfl ?_
  refine n_iconst dX6_init_1014 ?_
  refine n_istore_1 dX6_init_1015 rfl ?_
  refine n_iload_1 dX6_init_1016 ?_
  refine n_bipush dX6_init_1017 (by decide) ?_
  refine n_ge_n dX6_init_1019 ⟨by omega, by omega, by omega⟩ ?_
  refine n_aload_0 dX6_init_1022 ?_
  refine n_getR (fs := [none, some (some 1), some (some 2), some (some 3), some (some 4), none, some (some 5), none, some (some 6), some (some 7), none, none, none, some (some 8), some (some 9), some (some 10), some (some 11), some (some 12), some (some 13), none, none, none, none, some (some 14), some (some 15), none, none, none, some (some 16), some (some 17), some (some 18), none]) dX6_init_1023 fX6_22 rfl rfl ?_
  refine n_iload_1 dX6_init_1026 ?_
  refine n_aload_0 dX6_init_1027 ?_
  refine n_getR (fs := [none, some (some 1), some (some 2), some (some 3), some (some 4), none, some (some 5), none, some (some 6), some (some 7), none, none, none, some (some 8), some (some 9), some (some 10), some (some 11), some (some 12), some (some 13), none, none, none, none, some (some 14), some (some 15), none, none, none, some (some 16), some (some 17), some (some 18), none]) dX6_init_1028 fX6_46 rfl rfl ?_
  refine n_iload_1 dX6_init_1031 ?_
  refine n_iald (N := 27) (v := 116) dX6_init_1032 rfl (by decide) (by decide +kernel) ?_
  refine n_row (q := 5) (fun _ => rfl) ?_
  refine n_iast (N := 160) dX6_init_1033 rfl (by decide) (by decide) (by omega) ?_
  refine n_iinc_1 (y := 1) dX6_init_1034 rfl (by decide) ?_
  refine n_goto dX6_init_1037 ?_
  refine n_iload_1 dX6_init_1016 ?_
  refine n_bipush dX6_init_1017 (by decide) ?_
  refine n_ge_n dX6_init_1019 ⟨by omega, by omega, by omega⟩ ?_
  refine n_aload_0 dX6_init_1022 ?_
  refine n_getR (fs := [none, some (some 1), some (some 2), some (some 3), some (some 4), none, some (some 5), none, some (some 6), some (some 7), none, none, none, some (some 8), some (some 9), some (some 10), some (some 11), some (some 12), some (some 13), none, none, none, none, some (some 14), some (some 15), none, none, none, some (some 16), some (some 17), some (some 18), none]) dX6_init_1023 fX6_22 rfl rfl ?_
  refine n_iload_1 dX6_init_1026 ?_
  refine n_aload_0 dX6_init_1027 ?_
  refine n_getR (fs := [none, some (some 1), some (some 2), some (some 3), some (some 4), none, some (some 5), none, some (some 6), some (some 7), none, none, none, some (some 8), some (some 9), some (some 10), some (some 11), some (some 12), some (some 13), none, none, none, none, some (some 14), some (some 15), none, none, none, some (some 16), some (some 17), some (some 18), none]) dX6_init_1028 fX6_46 rfl rfl ?_
  refine n_iload_1 dX6_init_1031 ?_
  refine n_iald (N := 27) (v := 114) dX6_init_1032 rfl (by decide) (by decide +kernel) ?_
  refine n_iast (N := 160) dX6_init_1033 rfl (by decide) (by decide) (by omega) ?_
  refine n_iinc_1 (y := 2) dX6_init_1034 rfl (by decide) ?_
  refine n_goto dX6_init_1037 ?_
  refine n_iload_1 dX6_init_1016 ?_
  refine n_bipush dX6_init_1017 (by decide) ?_
  refine n_ge_n dX6_init_1019 ⟨by omega, by omega, by omega⟩ ?_
  refine n_aload_0 dX6_init_1022 ?_
  refine n_getR (fs := [none, some (some 1), some (some 2), some (some 3), some (some 4), none, some (some 5), none, some (some 6), some (some 7), none, none, none, some (some 8), some (some 9), some (some 10), some (some 11), some (some 12), some (some 13), none, none, none, none, some (some 14), some (some 15), none, none, none, some (some 16), some (some 17), some (some 18), none]) dX6_init_1023 fX6_22 rfl rfl ?_
  refine n_iload_1 dX6_init_1026 ?_
  refine n_aload_0 dX6_init_1027 ?_
  refine n_getR (fs := [none, some (some 1), some (some 2), some (some 3), some (some 4), none, some (some 5), none, some (some 6), some (some 7), none, none, none, some (some 8), some (some 9), some (some 10), some (some 11), some (some 12), some (some 13), none, none, none, none, some (some 14), some (some 15), none, none, none, some (some 16), some (some 17), some (some 18), none]) dX6_init_1028 fX6_46 rfl rfl ?_
  refine n_iload_1 dX6_init_1031 ?_
  refine n_iald (N := 27) (v := 105) dX6_init_1032 rfl (by decide) (by decide +kernel) ?_
  refine n_iast (N := 160) dX6_init_1033 rfl (by decide) (by decide) (by omega) ?_
  refine n_iinc_1 (y := 3) dX6_init_1034 rfl (by decide) ?_
  refine n_goto dX6_init_1037 ?_
  refine n_iload_1 dX6_init_1016 ?_
  exact wX6_12
theorem wX6_10 {z : ZZ} : WN kX6_init 10 18 2223 gX6_36 (fun M => RM M S0) z 886 [some (rv 0), none] [iv 97, iv 80, rv 14, rv 14, rv 0] gX6_27 (mkR mX6_3 14 [32, 32, 32, 32, 32, 32, 114, 111, 32, 32, 32, 32, 101, 114, 111, 109, 32, 32, 32, 32, 101, 109, 97, 99, 32, 32, 32, 100, 101, 105, 114, 116, 32, 32, 101, 116, 117, 110, 105, 109, 32, 32, 32, 32, 115, 103, 103, 101, 32, 32, 32, 32, 114, 111, 111, 100, 32, 32, 32, 32, 115, 101, 111, 103, 32, 32, 32, 32, 115, 121, 97, 112, 32, 32, 32, 115, 101, 105, 114, 116]) 14 1774 := by
  refine n_iast (N := 96) dX6_init_886 rfl (by decide) (by decide) (by omega) ?_
  refine n_dup dX6_init_887 ?_
  refine n_bipush dX6_init_888 (by decide) ?_
  refine n_bipush dX6_init_890 (by decide) ?_
  refine n_iast (N := 96) dX6_init_892 rfl (by decide) (by decide) (by omega) ?_
  refine n_dup dX6_init_893 ?_
  refine n_bipush dX6_init_894 (by decide) ?_
  refine n_bipush dX6_init_896 (by decide) ?_
  refine n_iast (N := 96) dX6_init_898 rfl (by decide) (by decide) (by omega) ?_
  refine n_dup dX6_init_899 ?_
  refine n_bipush dX6_init_900 (by decide) ?_
  refine n_bipush dX6_init_902 (by decide) ?_
  refine n_iast (N := 96) dX6_init_904 rfl (by decide) (by decide) (by omega) ?_
  refine n_dup dX6_init_905 ?_
  refine n_bipush dX6_init_906 (by decide) ?_
  refine n_bipush dX6_init_908 (by decide) ?_
  refine n_iast (N := 96) dX6_init_910 rfl (by decide) (by decide) (by omega) ?_
  refine n_dup dX6_init_911 ?_
  refine n_bipush dX6_init_912 (by decide) ?_
  refine n_bipush dX6_init_914 (by decide) ?_
  refine n_iast (N := 96) dX6_init_916 rfl (by decide) (by decide) (by omega) ?_
  refine n_dup dX6_init_917 ?_
  refine n_bipush dX6_init_918 (by decide) ?_
  refine n_bipush dX6_init_920 (by decide) ?_
  refine n_iast (N := 96) dX6_init_922 rfl (by decide) (by decide) (by omega) ?_
  refine n_dup dX6_init_923 ?_
  refine n_bipush dX6_init_924 (by decide) ?_
  refine n_bipush dX6_init_926 (by decide) ?_
  refine n_iast (N := 96) dX6_init_928 rfl (by decide) (by decide) (by omega) ?_
  refine n_dup dX6_init_929 ?_
  refine n_bipush dX6_init_930 (by decide) ?_
  refine n_bipush dX6_init_932 (by decide) ?_
  refine n_iast (N := 96) dX6_init_934 rfl (by decide) (by decide) (by omega) ?_
  refine n_dup dX6_init_935 ?_
  refine n_bipush dX6_init_936 (by decide) ?_
  refine n_bipush dX6_init_938 (by decide) ?_
  refine n_iast (N := 96) dX6_init_940 rfl (by decide) (by decide) (by omega) ?_
  refine n_dup dX6_init_941 ?_
  refine n_bipush dX6_init_942 (by decide) ?_
  refine n_bipush dX6_init_944 (by decide) ?_
  refine n_iast (N := 96) dX6_init_946 rfl (by decide) (by decide) (by omega) ?_
  refine n_dup dX6_init_947 ?_
  refine n_bipush dX6_init_948 (by decide) ?_
  refine n_bipush dX6_init_950 (by decide) ?_
  refine n_iast (N := 96) dX6_init_952 rfl (by decide) (by decide) (by omega) ?_
  refine n_dup dX6_init_953 ?_
  refine n_bipush dX6_init_954 (by decide) ?_
  refine n_bipush dX6_init_956 (by decide) ?_
  refine n_iast (N := 96) dX6_init_958 rfl (by decide) (by decide) (by omega) ?_
  refine n_dup dX6_init_959 ?_
  refine n_bipush dX6_init_960 (by decide) ?_
  refine n_bipush dX6_init_962 (by decide) ?_
  refine n_iast (N := 96) dX6_init_964 rfl (by decide) (by decide) (by omega) ?_
  refine n_dup dX6_init_965 ?_
  refine n_bipush dX6_init_966 (by decide) ?_
  refine n_bipush dX6_init_968 (by decide) ?_
  refine n_iast (N := 96) dX6_init_970 rfl (by decide) (by decide) (by omega) ?_
  refine n_dup dX6_init_971 ?_
  refine n_bipush dX6_init_972 (by decide) ?_
  refine n_bipush dX6_init_974 (by decide) ?_
  exact wX6_11
theorem wX6_9 {z : ZZ} : WN kX6_init 10 18 2223 gX6_36 (fun M => RM M S0) z 796 [some (rv 0), none] [iv 111, iv 65, rv 14, rv 14, rv 0] gX6_27 (mkR mX6_3 14 [109, 32, 32, 32, 32, 101, 109, 97, 99, 32, 32, 32, 100, 101, 105, 114, 116, 32, 32, 101, 116, 117, 110, 105, 109, 32, 32, 32, 32, 115, 103, 103, 101, 32, 32, 32, 32, 114, 111, 111, 100, 32, 32, 32, 32, 115, 101, 111, 103, 32, 32, 32, 32, 115, 121, 97, 112, 32, 32, 32, 115, 101, 105, 114, 116]) 14 1774 := by
  refine n_iast (N := 96) dX6_init_796 rfl (by decide) (by decide) (by omega) ?_
  refine n_dup dX6_init_797 ?_
  refine n_bipush dX6_init_798 (by decide) ?_
  refine n_bipush dX6_init_800 (by decide) ?_
  refine n_iast (N := 96) dX6_init_802 rfl (by decide) (by decide) (by omega) ?_
  refine n_dup dX6_init_803 ?_
  refine n_bipush dX6_init_804 (by decide) ?_
  refine n_bipush dX6_init_806 (by decide) ?_
  refine n_iast (N := 96) dX6_init_808 rfl (by decide) (by decide) (by omega) ?_
  refine n_dup dX6_init_809 ?_
  refine n_bipush dX6_init_810 (by decide) ?_
  refine n_bipush dX6_init_812 (by decide) ?_
  refine n_iast (N := 96) dX6_init_814 rfl (by decide) (by decide) (by omega) ?_
  refine n_dup dX6_init_815 ?_
  refine n_bipush dX6_init_816 (by decide) ?_
  refine n_bipush dX6_init_818 (by decide) ?_
  refine n_iast (N := 96) dX6_init_820 rfl (by decide) (by decide) (by omega) ?_
  refine n_dup dX6_init_821 ?_
  refine n_bipush dX6_init_822 (by decide) ?_
  refine n_bipush dX6_init_824 (by decide) ?_
  refine n_iast (N := 96) dX6_init_826 rfl (by decide) (by decide) (by omega) ?_
  refine n_dup dX6_init_827 ?_
  refine n_bipush dX6_init_828 (by decide) ?_
  refine n_bipush dX6_init_830 (by decide) ?_
  refine n_iast (N := 96) dX6_init_832 rfl (by decide) (by decide) (by omega) ?_
  refine n_dup dX6_init_833 ?_
  refine n_bipush dX6_init_834 (by decide) ?_
  refine n_bipush dX6_init_836 (by decide) ?_
  refine n_iast (N := 96) dX6_init_838 rfl (by decide) (by decide) (by omega) ?_
  refine n_dup dX6_init_839 ?_
  refine n_bipush dX6_init_840 (by decide) ?_
  refine n_bipush dX6_init_842 (by decide) ?_
  refine n_iast (N := 96) dX6_init_844 rfl (by decide) (by decide) (by omega) ?_
  refine n_dup dX6_init_845 ?_
  refine n_bipush dX6_init_846 (by decide) ?_
  refine n_bipush dX6_init_848 (by decide) ?_
  refine n_iast (N := 96) dX6_init_850 rfl (by decide) (by decide) (by omega) ?_
  refine n_dup dX6_init_851 ?_
  refine n_bipush dX6_init_852 (by decide) ?_
  refine n_bipush dX6_init_854 (by decide) ?_
  refine n_iast (N := 96) dX6_init_856 rfl (by decide) (by decide) (by omega) ?_
  refine n_dup dX6_init_857 ?_
  refine n_bipush dX6_init_858 (by decide) ?_
  refine n_bipush dX6_init_860 (by decide) ?_
  refine n_iast (N := 96) dX6_init_862 rfl (by decide) (by decide) (by omega) ?_
  refine n_dup dX6_init_863 ?_
  refine n_bipush dX6_init_864 (by decide) ?_
  refine n_bipush dX6_init_866 (by decide) ?_
  refine n_iast (N := 96) dX6_init_868 rfl (by decide) (by decide) (by omega) ?_
  refine n_dup dX6_init_869 ?_
  refine n_bipush dX6_init_870 (by decide) ?_
  refine n_bipush dX6_init_872 (by decide) ?_
  refine n_iast (N := 96) dX6_init_874 rfl (by decide) (by decide) (by omega) ?_
  refine n_dup dX6_init_875 ?_
  refine n_bipush dX6_init_876 (by decide) ?_
  refine n_bipush dX6_init_878 (by decide) ?_
  refine n_iast (N := 96) dX6_init_880 rfl (by decide) (by decide) (by omega) ?_
  refine n_dup dX6_init_881 ?_
  refine n_bipush dX6_init_882 (by decide) ?_
  refine n_bipush dX6_init_884 (by decide) ?_
  exact wX6_10
theorem wX6_8 {z : ZZ} : WN kX6_init 10 18 2223 gX6_36 (fun M => RM M S0) z 706 [some (rv 0), none] [iv 105, iv 50, rv 14, rv 14, rv 0] gX6_27 (mkR mX6_3 14 [114, 116, 32, 32, 101, 116, 117, 110, 105, 109, 32, 32, 32, 32, 115, 103, 103, 101, 32, 32, 32, 32, 114, 111, 111, 100, 32, 32, 32, 32, 115, 101, 111, 103, 32, 32, 32, 32, 115, 121, 97, 112, 32, 32, 32, 115, 101, 105, 114, 116]) 14 1774 := by
  refine n_iast (N := 96) dX6_init_706 rfl (by decide) (by decide) (by omega) ?_
  refine n_dup dX6_init_707 ?_
  refine n_bipush dX6_init_708 (by decide) ?_
  refine n_bipush dX6_init_710 (by decide) ?_
  refine n_iast (N := 96) dX6_init_712 rfl (by decide) (by decide) (by omega) ?_
  refine n_dup dX6_init_713 ?_
  refine n_bipush dX6_init_714 (by decide) ?_
  refine n_bipush dX6_init_716 (by decide) ?_
  refine n_iast (N := 96) dX6_init_718 rfl (by decide) (by decide) (by omega) ?_
  refine n_dup dX6_init_719 ?_
  refine n_bipush dX6_init_720 (by decide) ?_
  refine n_bipush dX6_init_722 (by decide) ?_
  refine n_iast (N := 96) dX6_init_724 rfl (by decide) (by decide) (by omega) ?_
  refine n_dup dX6_init_725 ?_
  refine n_bipush dX6_init_726 (by decide) ?_
  refine n_bipush dX6_init_728 (by decide) ?_
  refine n_iast (N := 96) dX6_init_730 rfl (by decide) (by decide) (by omega) ?_
  refine n_dup dX6_init_731 ?_
  refine n_bipush dX6_init_732 (by decide) ?_
  refine n_bipush dX6_init_734 (by decide) ?_
  refine n_iast (N := 96) dX6_init_736 rfl (by decide) (by decide) (by omega) ?_
  refine n_dup dX6_init_737 ?_
  refine n_bipush dX6_init_738 (by decide) ?_
  refine n_bipush dX6_init_740 (by decide) ?_
  refine n_iast (N := 96) dX6_init_742 rfl (by decide) (by decide) (by omega) ?_
  refine n_dup dX6_init_743 ?_
  refine n_bipush dX6_init_744 (by decide) ?_
  refine n_bipush dX6_init_746 (by decide) ?_
  refine n_iast (N := 96) dX6_init_748 rfl (by decide) (by decide) (by omega) ?_
  refine n_dup dX6_init_749 ?_
  refine n_bipush dX6_init_750 (by decide) ?_
  refine n_bipush dX6_init_752 (by decide) ?_
  refine n_iast (N := 96) dX6_init_754 rfl (by decide) (by decide) (by omega) ?_
  refine n_dup dX6_init_755 ?_
  refine n_bipush dX6_init_756 (by decide) ?_
  refine n_bipush dX6_init_758 (by decide) ?_
  refine n_iast (N := 96) dX6_init_760 rfl (by decide) (by decide) (by omega) ?_
  refine n_dup dX6_init_761 ?_
  refine n_bipush dX6_init_762 (by decide) ?_
  refine n_bipush dX6_init_764 (by decide) ?_
  refine n_iast (N := 96) dX6_init_766 rfl (by decide) (by decide) (by omega) ?_
  refine n_dup dX6_init_767 ?_
  refine n_bipush dX6_init_768 (by decide) ?_
  refine n_bipush dX6_init_770 (by decide) ?_
  refine n_iast (N := 96) dX6_init_772 rfl (by decide) (by decide) (by omega) ?_
  refine n_dup dX6_init_773 ?_
  refine n_bipush dX6_init_774 (by decide) ?_
  refine n_bipush dX6_init_776 (by decide) ?_
  refine n_iast (N := 96) dX6_init_778 rfl (by decide) (by decide) (by omega) ?_
  refine n_dup dX6_init_779 ?_
  refine n_bipush dX6_init_780 (by decide) ?_
  refine n_bipush dX6_init_782 (by decide) ?_
  refine n_iast (N := 96) dX6_init_784 rfl (by decide) (by decide) (by omega) ?_
  refine n_dup dX6_init_785 ?_
  refine n_bipush dX6_init_786 (by decide) ?_
  refine n_bipush dX6_init_788 (by decide) ?_
  refine n_iast (N := 96) dX6_init_790 rfl (by decide) (by decide) (by omega) ?_
  refine n_dup dX6_init_791 ?_
  refine n_bipush dX6_init_792 (by decide) ?_
  refine n_bipush dX6_init_794 (by decide) ?_
  exact wX6_9
theorem wX6_7 {z : ZZ} : WN kX6_init 10 18 2223 gX6_36 (fun M => RM M S0) z 616 [some (rv 0), none] [iv 115, iv 35, rv 14, rv 14, rv 0] gX6_27 (mkR mX6_3 14 [103, 103, 101, 32, 32, 32, 32, 114, 111, 111, 100, 32, 32, 32, 32, 115, 101, 111, 103, 32, 32, 32, 32, 115, 121, 97, 112, 32, 32, 32, 115, 101, 105, 114, 116]) 14 1774 := by
  refine n_iast (N := 96) dX6_init_616 rfl (by decide) (by decide) (by omega) ?_
  refine n_dup dX6_init_617 ?_
  refine n_bipush dX6_init_618 (by decide) ?_
  refine n_bipush dX6_init_620 (by decide) ?_
  refine n_iast (N := 96) dX6_init_622 rfl (by decide) (by decide) (by omega) ?_
  refine n_dup dX6_init_623 ?_
  refine n_bipush dX6_init_624 (by decide) ?_
  refine n_bipush dX6_init_626 (by decide) ?_
  refine n_iast (N := 96) dX6_init_628 rfl (by decide) (by decide) (by omega) ?_
  refine n_dup dX6_init_629 ?_
  refine n_bipush dX6_init_630 (by decide) ?_
  refine n_bipush dX6_init_632 (by decide) ?_
  refine n_iast (N := 96) dX6_init_634 rfl (by decide) (by decide) (by omega) ?_
  refine n_dup dX6_init_635 ?_
  refine n_bipush dX6_init_636 (by decide) ?_
  refine n_bipush dX6_init_638 (by decide) ?_
  refine n_iast (N := 96) dX6_init_640 rfl (by decide) (by decide) (by omega) ?_
  refine n_dup dX6_init_641 ?_
  refine n_bipush dX6_init_642 (by decide) ?_
  refine n_bipush dX6_init_644 (by decide) ?_
  refine n_iast (N := 96) dX6_init_646 rfl (by decide) (by decide) (by omega) ?_
  refine n_dup dX6_init_647 ?_
  refine n_bipush dX6_init_648 (by decide) ?_
  refine n_bipush dX6_init_650 (by decide) ?_
  refine n_iast (N := 96) dX6_init_652 rfl (by decide) (by decide) (by omega) ?_
  refine n_dup dX6_init_653 ?_
  refine n_bipush dX6_init_654 (by decide) ?_
  refine n_bipush dX6_init_656 (by decide) ?_
  refine n_iast (N := 96) dX6_init_658 rfl (by decide) (by decide) (by omega) ?_
  refine n_dup dX6_init_659 ?_
  refine n_bipush dX6_init_660 (by decide) ?_
  refine n_bipush dX6_init_662 (by decide) ?_
  refine n_iast (N := 96) dX6_init_664 rfl (by decide) (by decide) (by omega) ?_
  refine n_dup dX6_init_665 ?_
  refine n_bipush dX6_init_666 (by decide) ?_
  refine n_bipush dX6_init_668 (by decide) ?_
  refine n_iast (N := 96) dX6_init_670 rfl (by decide) (by decide) (by omega) ?_
  refine n_dup dX6_init_671 ?_
  refine n_bipush dX6_init_672 (by decide) ?_
  refine n_bipush dX6_init_674 (by decide) ?_
  refine n_iast (N := 96) dX6_init_676 rfl (by decide) (by decide) (by omega) ?_
  refine n_dup dX6_init_677 ?_
  refine n_bipush dX6_init_678 (by decide) ?_
  refine n_bipush dX6_init_680 (by decide) ?_
  refine n_iast (N := 96) dX6_init_682 rfl (by decide) (by decide) (by omega) ?_
  refine n_dup dX6_init_683 ?_
  refine n_bipush dX6_init_684 (by decide) ?_
  refine n_bipush dX6_init_686 (by decide) ?_
  refine n_iast (N := 96) dX6_init_688 rfl (by decide) (by decide) (by omega) ?_
  refine n_dup dX6_init_689 ?_
  refine n_bipush dX6_init_690 (by decide) ?_
  refine n_bipush dX6_init_692 (by decide) ?_
  refine n_iast (N := 96) dX6_init_694 rfl (by decide) (by decide) (by omega) ?_
  refine n_dup dX6_init_695 ?_
  refine n_bipush dX6_init_696 (by decide) ?_
  refine n_bipush dX6_init_698 (by decide) ?_
  refine n_iast (N := 96) dX6_init_700 rfl (by decide) (by decide) (by omega) ?_
  refine n_dup dX6_init_701 ?_
  refine n_bipush dX6_init_702 (by decide) ?_
  refine n_bipush dX6_init_704 (by decide) ?_
  exact wX6_8
theorem wX6_6 {z : ZZ} : WN kX6_init 10 18 2223 gX6_36 (fun M => RM M S0) z 526 [some (rv 0), none] [iv 32, iv 20, rv 14, rv 14, rv 0] gX6_27 (mkR mX6_3 14 [115, 101, 111, 103, 32, 32, 32, 32, 115, 121, 97, 112, 32, 32, 32, 115, 101, 105, 114, 116]) 14 1774 := by
  refine n_iast (N := 96) dX6_init_526 rfl (by decide) (by decide) (by omega) ?_
  refine n_dup dX6_init_527 ?_
  refine n_bipush dX6_init_528 (by decide) ?_
  refine n_bipush dX6_init_530 (by decide) ?_
  refine n_iast (N := 96) dX6_init_532 rfl (by decide) (by decide) (by omega) ?_
  refine n_dup dX6_init_533 ?_
  refine n_bipush dX6_init_534 (by decide) ?_
  refine n_bipush dX6_init_536 (by decide) ?_
  refine n_iast (N := 96) dX6_init_538 rfl (by decide) (by decide) (by omega) ?_
  refine n_dup dX6_init_539 ?_
  refine n_bipush dX6_init_540 (by decide) ?_
  refine n_bipush dX6_init_542 (by decide) ?_
  refine n_iast (N := 96) dX6_init_544 rfl (by decide) (by decide) (by omega) ?_
  refine n_dup dX6_init_545 ?_
  refine n_bipush dX6_init_546 (by decide) ?_
  refine n_bipush dX6_init_548 (by decide) ?_
  refine n_iast (N := 96) dX6_init_550 rfl (by decide) (by decide) (by omega) ?_
  refine n_dup dX6_init_551 ?_
  refine n_bipush dX6_init_552 (by decide) ?_
  refine n_bipush dX6_init_554 (by decide) ?_
  refine n_iast (N := 96) dX6_init_556 rfl (by decide) (by decide) (by omega) ?_
  refine n_dup dX6_init_557 ?_
  refine n_bipush dX6_init_558 (by decide) ?_
  refine n_bipush dX6_init_560 (by decide) ?_
  refine n_iast (N := 96) dX6_init_562 rfl (by decide) (by decide) (by omega) ?_
  refine n_dup dX6_init_563 ?_
  refine n_bipush dX6_init_564 (by decide) ?_
  refine n_bipush dX6_init_566 (by decide) ?_
  refine n_iast (N := 96) dX6_init_568 rfl (by decide) (by decide) (by omega) ?_
  refine n_dup dX6_init_569 ?_
  refine n_bipush dX6_init_570 (by decide) ?_
  refine n_bipush dX6_init_572 (by decide) ?_
  refine n_iast (N := 96) dX6_init_574 rfl (by decide) (by decide) (by omega) ?_
  refine n_dup dX6_init_575 ?_
  refine n_bipush dX6_init_576 (by decide) ?_
  refine n_bipush dX6_init_578 (by decide) ?_
  refine n_iast (N := 96) dX6_init_580 rfl (by decide) (by decide) (by omega) ?_
  refine n_dup dX6_init_581 ?_
  refine n_bipush dX6_init_582 (by decide) ?_
  refine n_bipush dX6_init_584 (by decide) ?_
  refine n_iast (N := 96) dX6_init_586 rfl (by decide) (by decide) (by omega) ?_
  refine n_dup dX6_init_587 ?_
  refine n_bipush dX6_init_588 (by decide) ?_
  refine n_bipush dX6_init_590 (by decide) ?_
  refine n_iast (N := 96) dX6_init_592 rfl (by decide) (by decide) (by omega) ?_
  refine n_dup dX6_init_593 ?_
  refine n_bipush dX6_init_594 (by decide) ?_
  refine n_bipush dX6_init_596 (by decide) ?_
  refine n_iast (N := 96) dX6_init_598 rfl (by decide) (by decide) (by omega) ?_
  refine n_dup dX6_init_599 ?_
  refine n_bipush dX6_init_600 (by decide) ?_
  refine n_bipush dX6_init_602 (by decide) ?_
  refine n_iast (N := 96) dX6_init_604 rfl (by decide) (by decide) (by omega) ?_
  refine n_dup dX6_init_605 ?_
  refine n_bipush dX6_init_606 (by decide) ?_
  refine n_bipush dX6_init_608 (by decide) ?_
  refine n_iast (N := 96) dX6_init_610 rfl (by decide) (by decide) (by omega) ?_
  refine n_dup dX6_init_611 ?_
  refine n_bipush dX6_init_612 (by decide) ?_
  refine n_bipush dX6_init_614 (by decide) ?_
  exact wX6_7
theorem wX6_5 {z : ZZ} : WN kX6_init 10 18 2223 gX6_36 (fun M => RM M S0) z 436 [some (rv 0), none] [iv 32, iv 5, rv 14, rv 14, rv 0] gX6_27 (mkR mX6_3 14 [115, 101, 105, 114, 116]) 14 1774 := by
  refine n_iast (N := 96) dX6_init_436 rfl (by decide) (by decide) (by omega) ?_
  refine n_dup dX6_init_437 ?_
  refine n_bipush dX6_init_438 (by decide) ?_
  refine n_bipush dX6_init_440 (by decide) ?_
  refine n_iast (N := 96) dX6_init_442 rfl (by decide) (by decide) (by omega) ?_
  refine n_dup dX6_init_443 ?_
  refine n_bipush dX6_init_444 (by decide) ?_
  refine n_bipush dX6_init_446 (by decide) ?_
  refine n_iast (N := 96) dX6_init_448 rfl (by decide) (by decide) (by omega) ?_
  refine n_dup dX6_init_449 ?_
  refine n_bipush dX6_init_450 (by decide) ?_
  refine n_bipush dX6_init_452 (by decide) ?_
  refine n_iast (N := 96) dX6_init_454 rfl (by decide) (by decide) (by omega) ?_
  refine n_dup dX6_init_455 ?_
  refine n_bipush dX6_init_456 (by decide) ?_
  refine n_bipush dX6_init_458 (by decide) ?_
  refine n_iast (N := 96) dX6_init_460 rfl (by decide) (by decide) (by omega) ?_
  refine n_dup dX6_init_461 ?_
  refine n_bipush dX6_init_462 (by decide) ?_
  refine n_bipush dX6_init_464 (by decide) ?_
  refine n_iast (N := 96) dX6_init_466 rfl (by decide) (by decide) (by omega) ?_
  refine n_dup dX6_init_467 ?_
  refine n_bipush dX6_init_468 (by decide) ?_
  refine n_bipush dX6_init_470 (by decide) ?_
  refine n_iast (N := 96) dX6_init_472 rfl (by decide) (by decide) (by omega) ?_
  refine n_dup dX6_init_473 ?_
  refine n_bipush dX6_init_474 (by decide) ?_
  refine n_bipush dX6_init_476 (by decide) ?_
  refine n_iast (N := 96) dX6_init_478 rfl (by decide) (by decide) (by omega) ?_
  refine n_dup dX6_init_479 ?_
  refine n_bipush dX6_init_480 (by decide) ?_
  refine n_bipush dX6_init_482 (by decide) ?_
  refine n_iast (N := 96) dX6_init_484 rfl (by decide) (by decide) (by omega) ?_
  refine n_dup dX6_init_485 ?_
  refine n_bipush dX6_init_486 (by decide) ?_
  refine n_bipush dX6_init_488 (by decide) ?_
  refine n_iast (N := 96) dX6_init_490 rfl (by decide) (by decide) (by omega) ?_
  refine n_dup dX6_init_491 ?_
  refine n_bipush dX6_init_492 (by decide) ?_
  refine n_bipush dX6_init_494 (by decide) ?_
  refine n_iast (N := 96) dX6_init_496 rfl (by decide) (by decide) (by omega) ?_
  refine n_dup dX6_init_497 ?_
  refine n_bipush dX6_init_498 (by decide) ?_
  refine n_bipush dX6_init_500 (by decide) ?_
  refine n_iast (N := 96) dX6_init_502 rfl (by decide) (by decide) (by omega) ?_
  refine n_dup dX6_init_503 ?_
  refine n_bipush dX6_init_504 (by decide) ?_
  refine n_bipush dX6_init_506 (by decide) ?_
  refine n_iast (N := 96) dX6_init_508 rfl (by decide) (by decide) (by omega) ?_
  refine n_dup dX6_init_509 ?_
  refine n_bipush dX6_init_510 (by decide) ?_
  refine n_bipush dX6_init_512 (by decide) ?_
  refine n_iast (N := 96) dX6_init_514 rfl (by decide) (by decide) (by omega) ?_
  refine n_dup dX6_init_515 ?_
  refine n_bipush dX6_init_516 (by decide) ?_
  refine n_bipush dX6_init_518 (by decide) ?_
  refine n_iast (N := 96) dX6_init_520 rfl (by decide) (by decide) (by omega) ?_
  refine n_dup dX6_init_521 ?_
  refine n_bipush dX6_init_522 (by decide) ?_
  refine n_bipush dX6_init_524 (by decide) ?_
  exact wX6_6
theorem wX6_4 {z : ZZ} : WN kX6_init 10 18 2223 gX6_36 (fun M => RM M S0) z 350 [some (rv 0), none] [iv 32, iv 18, rv 13, rv 13, rv 0] gX6_25 (mkR mX6_2 13 [59, 32, 50, 32, 115, 121, 97, 112, 32, 59, 32, 49, 32, 115, 101, 105, 114, 116]) 13 1678 := by
  refine n_iast (N := 27) dX6_init_350 rfl (by decide) (by decide) (by omega) ?_
  refine n_dup dX6_init_351 ?_
  refine n_bipush dX6_init_352 (by decide) ?_
  refine n_bipush dX6_init_354 (by decide) ?_
  refine n_iast (N := 27) dX6_init_356 rfl (by decide) (by decide) (by omega) ?_
  refine n_dup dX6_init_357 ?_
  refine n_bipush dX6_init_358 (by decide) ?_
  refine n_bipush dX6_init_360 (by decide) ?_
  refine n_iast (N := 27) dX6_init_362 rfl (by decide) (by decide) (by omega) ?_
  refine n_dup dX6_init_363 ?_
  refine n_bipush dX6_init_364 (by decide) ?_
  refine n_bipush dX6_init_366 (by decide) ?_
  refine n_iast (N := 27) dX6_init_368 rfl (by decide) (by decide) (by omega) ?_
  refine n_dup dX6_init_369 ?_
  refine n_bipush dX6_init_370 (by decide) ?_
  refine n_bipush dX6_init_372 (by decide) ?_
  refine n_iast (N := 27) dX6_init_374 rfl (by decide) (by decide) (by omega) ?_
  refine n_dup dX6_init_375 ?_
  refine n_bipush dX6_init_376 (by decide) ?_
  refine n_bipush dX6_init_378 (by decide) ?_
  refine n_iast (N := 27) dX6_init_380 rfl (by decide) (by decide) (by omega) ?_
  refine n_dup dX6_init_381 ?_
  refine n_bipush dX6_init_382 (by decide) ?_
  refine n_bipush dX6_init_384 (by decide) ?_
  refine n_iast (N := 27) dX6_init_386 rfl (by decide) (by decide) (by omega) ?_
  refine n_dup dX6_init_387 ?_
  refine n_bipush dX6_init_388 (by decide) ?_
  refine n_bipush dX6_init_390 (by decide) ?_
  refine n_iast (N := 27) dX6_init_392 rfl (by decide) (by decide) (by omega) ?_
  refine n_dup dX6_init_393 ?_
  refine n_bipush dX6_init_394 (by decide) ?_
  refine n_bipush dX6_init_396 (by decide) ?_
  refine n_iast (N := 27) dX6_init_398 rfl (by decide) (by decide) (by omega) ?_
  refine n_M (M2 := mX6_3) rfl ?_
  refine n_putR (fs := [none, some (some 1), some (some 2), some (some 3), some (some 4), none, some (some 5), none, some (some 6), some (some 7), none, none, none, some (some 8), some (some 9), some (some 10), some (some 11), some (some 12), some none, none, none, none, none, some none, some none, none, none, none, some none, some none, some none, none]) dX6_init_399 ffX6_46 rfl (by decide) (by decide) ?_
  refine n_G (G2 := gX6_26) rfl ?_
  refine n_aload_0 dX6_init_402 ?_
  refine n_bipush dX6_init_403 (by decide) ?_
  refine c_newarr (N := 96) (n := 14) (c2 := 14) (s2 := 1774) (G2 := gX6_27) dX6_init_405 (by decide) rfl rfl rfl rfl (by decide) (fun _ => rfl) ?_
  refine n_dup dX6_init_407 ?_
  refine n_iconst dX6_init_408 ?_
  refine n_bipush dX6_init_409 (by decide) ?_
  refine n_row (q := 14) (fun _ => rfl) ?_
  refine n_iast (N := 96) dX6_init_411 rfl (by decide) (by decide) (by omega) ?_
  refine n_dup dX6_init_412 ?_
  refine n_iconst dX6_init_413 ?_
  refine n_bipush dX6_init_414 (by decide) ?_
  refine n_iast (N := 96) dX6_init_416 rfl (by decide) (by decide) (by omega) ?_
  refine n_dup dX6_init_417 ?_
  refine n_iconst dX6_init_418 ?_
  refine n_bipush dX6_init_419 (by decide) ?_
  refine n_iast (N := 96) dX6_init_421 rfl (by decide) (by decide) (by omega) ?_
  refine n_dup dX6_init_422 ?_
  refine n_iconst dX6_init_423 ?_
  refine n_bipush dX6_init_424 (by decide) ?_
  refine n_iast (N := 96) dX6_init_426 rfl (by decide) (by decide) (by omega) ?_
  refine n_dup dX6_init_427 ?_
  refine n_iconst dX6_init_428 ?_
  refine n_bipush dX6_init_429 (by decide) ?_
  refine n_iast (N := 96) dX6_init_431 rfl (by decide) (by decide) (by omega) ?_
  refine n_dup dX6_init_432 ?_
  refine n_iconst dX6_init_433 ?_
  refine n_bipush dX6_init_434 (by decide) ?_
  exact wX6_5
theorem wX6_3 {z : ZZ} : WN kX6_init 10 18 2223 gX6_36 (fun M => RM M S0) z 262 [some (rv 0), none] [iv 101, iv 3, rv 13, rv 13, rv 0] gX6_25 (mkR mX6_2 13 [105, 114, 116]) 13 1678 := by
  refine n_iast (N := 27) dX6_init_262 rfl (by decide) (by decide) (by omega) ?_
  refine n_dup dX6_init_263 ?_
  refine n_iconst dX6_init_264 ?_
  refine n_bipush dX6_init_265 (by decide) ?_
  refine n_iast (N := 27) dX6_init_267 rfl (by decide) (by decide) (by omega) ?_
  refine n_dup dX6_init_268 ?_
  refine n_iconst dX6_init_269 ?_
  refine n_bipush dX6_init_270 (by decide) ?_
  refine n_iast (N := 27) dX6_init_272 rfl (by decide) (by decide) (by omega) ?_
  refine n_dup dX6_init_273 ?_
  refine n_bipush dX6_init_274 (by decide) ?_
  refine n_bipush dX6_init_276 (by decide) ?_
  refine n_iast (N := 27) dX6_init_278 rfl (by decide) (by decide) (by omega) ?_
  refine n_dup dX6_init_279 ?_
  refine n_bipush dX6_init_280 (by decide) ?_
  refine n_bipush dX6_init_282 (by decide) ?_
  refine n_iast (N := 27) dX6_init_284 rfl (by decide) (by decide) (by omega) ?_
  refine n_dup dX6_init_285 ?_
  refine n_bipush dX6_init_286 (by decide) ?_
  refine n_bipush dX6_init_288 (by decide) ?_
  refine n_iast (N := 27) dX6_init_290 rfl (by decide) (by decide) (by omega) ?_
  refine n_dup dX6_init_291 ?_
  refine n_bipush dX6_init_292 (by decide) ?_
  refine n_bipush dX6_init_294 (by decide) ?_
  refine n_iast (N := 27) dX6_init_296 rfl (by decide) (by decide) (by omega) ?_
  refine n_dup dX6_init_297 ?_
  refine n_bipush dX6_init_298 (by decide) ?_
  refine n_bipush dX6_init_300 (by decide) ?_
  refine n_iast (N := 27) dX6_init_302 rfl (by decide) (by decide) (by omega) ?_
  refine n_dup dX6_init_303 ?_
  refine n_bipush dX6_init_304 (by decide) ?_
  refine n_bipush dX6_init_306 (by decide) ?_
  refine n_iast (N := 27) dX6_init_308 rfl (by decide) (by decide) (by omega) ?_
  refine n_dup dX6_init_309 ?_
  refine n_bipush dX6_init_310 (by decide) ?_
  refine n_bipush dX6_init_312 (by decide) ?_
  refine n_iast (N := 27) dX6_init_314 rfl (by decide) (by decide) (by omega) ?_
  refine n_dup dX6_init_315 ?_
  refine n_bipush dX6_init_316 (by decide) ?_
  refine n_bipush dX6_init_318 (by decide) ?_
  refine n_iast (N := 27) dX6_init_320 rfl (by decide) (by decide) (by omega) ?_
  refine n_dup dX6_init_321 ?_
  refine n_bipush dX6_init_322 (by decide) ?_
  refine n_bipush dX6_init_324 (by decide) ?_
  refine n_iast (N := 27) dX6_init_326 rfl (by decide) (by decide) (by omega) ?_
  refine n_dup dX6_init_327 ?_
  refine n_bipush dX6_init_328 (by decide) ?_
  refine n_bipush dX6_init_330 (by decide) ?_
  refine n_iast (N := 27) dX6_init_332 rfl (by decide) (by decide) (by omega) ?_
  refine n_dup dX6_init_333 ?_
  refine n_bipush dX6_init_334 (by decide) ?_
  refine n_bipush dX6_init_336 (by decide) ?_
  refine n_iast (N := 27) dX6_init_338 rfl (by decide) (by decide) (by omega) ?_
  refine n_dup dX6_init_339 ?_
  refine n_bipush dX6_init_340 (by decide) ?_
  refine n_bipush dX6_init_342 (by decide) ?_
  refine n_iast (N := 27) dX6_init_344 rfl (by decide) (by decide) (by omega) ?_
  refine n_dup dX6_init_345 ?_
  refine n_bipush dX6_init_346 (by decide) ?_
  refine n_bipush dX6_init_348 (by decide) ?_
  exact wX6_4
theorem wX6_2 {z : ZZ} : WN kX6_init 10 18 2223 gX6_36 (fun M => RM M S0) z 171 [some (rv 0), none] [iv 1200, rv 0] gX6_10 mX6_1 5 214 := by
  refine c_newarr (N := 1200) (n := 6) (c2 := 6) (s2 := 1414) (G2 := gX6_11) dX6_init_171 (by decide) rfl rfl rfl rfl (by decide) (fun _ => rfl) ?_
  refine n_putR (fs := [none, some (some 1), some (some 2), some (some 3), some (some 4), none, some (some 5), none, some none, some none, none, none, none, some none, some none, some none, some none, some none, some none, none, none, none, none, some none, some none, none, none, none, some none, some none, some none, none]) dX6_init_173 ffX6_25 rfl (by decide) (by decide) ?_
  refine n_G (G2 := gX6_12) rfl ?_
  refine n_aload_0 dX6_init_176 ?_
  refine n_bipush dX6_init_177 (by decide) ?_
  refine c_newarr (N := 24) (n := 7) (c2 := 7) (s2 := 1438) (G2 := gX6_13) dX6_init_179 (by decide) rfl rfl rfl rfl (by decide) (fun _ => rfl) ?_
  refine n_putR (fs := [none, some (some 1), some (some 2), some (some 3), some (some 4), none, some (some 5), none, some (some 6), some none, none, none, none, some none, some none, some none, some none, some none, some none, none, none, none, none, some none, some none, none, none, none, some none, some none, some none, none]) dX6_init_181 ffX6_28 rfl (by decide) (by decide) ?_
  refine n_G (G2 := gX6_14) rfl ?_
  refine n_aload_0 dX6_init_184 ?_
  refine n_bipush dX6_init_185 (by decide) ?_
  refine c_newarr (N := 42) (n := 8) (c2 := 8) (s2 := 1480) (G2 := gX6_15) dX6_init_187 (by decide) rfl rfl rfl rfl (by decide) (fun _ => rfl) ?_
  refine n_putR (fs := [none, some (some 1), some (some 2), some (some 3), some (some 4), none, some (some 5), none, some (some 6), some (some 7), none, none, none, some none, some none, some none, some none, some none, some none, none, none, none, none, some none, some none, none, none, none, some none, some none, some none, none]) dX6_init_189 ffX6_31 rfl (by decide) (by decide) ?_
  refine n_G (G2 := gX6_16) rfl ?_
  refine n_aload_0 dX6_init_192 ?_
  refine n_iconst dX6_init_193 ?_
  refine c_newarr (N := 3) (n := 9) (c2 := 9) (s2 := 1483) (G2 := gX6_17) dX6_init_194 (by decide) rfl rfl rfl rfl (by decide) (fun _ => rfl) ?_
  refine n_putR (fs := [none, some (some 1), some (some 2), some (some 3), some (some 4), none, some (some 5), none, some (some 6), some (some 7), none, none, none, some (some 8), some none, some none, some none, some none, some none, none, none, none, none, some none, some none, none, none, none, some none, some none, some none, none]) dX6_init_196 ffX6_34 rfl (by decide) (by decide) ?_
  refine n_G (G2 := gX6_18) rfl ?_
  refine n_aload_0 dX6_init_199 ?_
  refine n_iconst dX6_init_200 ?_
  refine c_newarr (N := 4) (n := 10) (c2 := 10) (s2 := 1487) (G2 := gX6_19) dX6_init_201 (by decide) rfl rfl rfl rfl (by decide) (fun _ => rfl) ?_
  refine n_dup dX6_init_203 ?_
  refine n_iconst dX6_init_204 ?_
  refine n_iconst dX6_init_205 ?_
  refine n_row (q := 10) (fun _ => rfl) ?_
  refine n_iast (N := 4) dX6_init_206 rfl (by decide) (by decide) (by omega) ?_
  refine n_dup dX6_init_207 ?_
  refine n_iconst dX6_init_208 ?_
  refine n_iconst dX6_init_209 ?_
  refine n_iast (N := 4) dX6_init_210 rfl (by decide) (by decide) (by omega) ?_
  refine n_dup dX6_init_211 ?_
  refine n_iconst dX6_init_212 ?_
  refine n_iconst dX6_init_213 ?_
  refine n_iast (N := 4) dX6_init_214 rfl (by decide) (by decide) (by omega) ?_
  refine n_dup dX6_init_215 ?_
  refine n_iconst dX6_init_216 ?_
  refine n_iconst dX6_init_217 ?_
  refine n_iast (N := 4) dX6_init_218 rfl (by decide) (by decide) (by omega) ?_
  refine n_M (M2 := mX6_2) rfl ?_
  refine n_putR (fs := [none, some (some 1), some (some 2), some (some 3), some (some 4), none, some (some 5), none, some (some 6), some (some 7), none, none, none, some (some 8), some (some 9), some none, some none, some none, some none, none, none, none, none, some none, some none, none, none, none, some none, some none, some none, none]) dX6_init_219 ffX6_37 rfl (by decide) (by decide) ?_
  refine n_G (G2 := gX6_20) rfl ?_
  refine n_aload_0 dX6_init_222 ?_
  refine n_iconst dX6_init_223 ?_
  refine c_newarr (N := 4) (n := 11) (c2 := 11) (s2 := 1491) (G2 := gX6_21) dX6_init_224 (by decide) rfl rfl rfl rfl (by decide) (fun _ => rfl) ?_
  refine n_putR (fs := [none, some (some 1), some (some 2), some (some 3), some (some 4), none, some (some 5), none, some (some 6), some (some 7), none, none, none, some (some 8), some (some 9), some (some 10), some none, some none, some none, none, none, none, none, some none, some none, none, none, none, some none, some none, some none, none]) dX6_init_226 ffX6_40 rfl (by decide) (by decide) ?_
  refine n_G (G2 := gX6_22) rfl ?_
  refine n_aload_0 dX6_init_229 ?_
  refine n_sipush dX6_init_230 (by decide) ?_
  refine c_newarr (N := 160) (n := 12) (c2 := 12) (s2 := 1651) (G2 := gX6_23) dX6_init_233 (by decide) rfl rfl rfl rfl (by decide) (fun _ => rfl) ?_
  refine n_putR (fs := [none, some (some 1), some (some 2), some (some 3), some (some 4), none, some (some 5), none, some (some 6), some (some 7), none, none, none, some (some 8), some (some 9), some (some 10), some (some 11), some none, some none, none, none, none, none, some none, some none, none, none, none, some none, some none, some none, none]) dX6_init_235 ffX6_43 rfl (by decide) (by decide) ?_
  refine n_G (G2 := gX6_24) rfl ?_
  refine n_aload_0 dX6_init_238 ?_
  refine n_bipush dX6_init_239 (by decide) ?_
  refine c_newarr (N := 27) (n := 13) (c2 := 13) (s2 := 1678) (G2 := gX6_25) dX6_init_241 (by decide) rfl rfl rfl rfl (by decide) (fun _ => rfl) ?_
  refine n_dup dX6_init_243 ?_
  refine n_iconst dX6_init_244 ?_
  refine n_bipush dX6_init_245 (by decide) ?_
  refine n_row (q := 13) (fun _ => rfl) ?_
  refine n_iast (N := 27) dX6_init_247 rfl (by decide) (by decide) (by omega) ?_
  refine n_dup dX6_init_248 ?_
  refine n_iconst dX6_init_249 ?_
  refine n_bipush dX6_init_250 (by decide) ?_
  refine n_iast (N := 27) dX6_init_252 rfl (by decide) (by decide) (by omega) ?_
  refine n_dup dX6_init_253 ?_
  refine n_iconst dX6_init_254 ?_
  refine n_bipush dX6_init_255 (by decide) ?_
  refine n_iast (N := 27) dX6_init_257 rfl (by decide) (by decide) (by omega) ?_
  refine n_dup dX6_init_258 ?_
  refine n_iconst dX6_init_259 ?_
  refine n_bipush dX6_init_260 (by decide) ?_
  exact wX6_3
theorem wX6_1 {z : ZZ} : WN kX6_init 10 18 2223 gX6_36 (fun M => RM M S0) z 85 [some (rv 0), none] [iv (-1), iv 10, rv 4, rv 4, rv 0] gX6_7 (mkR mX6_0 4 [10, (-1), (-1), 10, (-1), (-1), 10, (-1), (-1), 10]) 4 54 := by
  refine n_iast (N := 24) dX6_init_85 rfl (by decide) (by decide) (by omega) ?_
  refine n_dup dX6_init_86 ?_
  refine n_bipush dX6_init_87 (by decide) ?_
  refine n_iconst dX6_init_89 ?_
  refine n_iast (N := 24) dX6_init_90 rfl (by decide) (by decide) (by omega) ?_
  refine n_dup dX6_init_91 ?_
  refine n_bipush dX6_init_92 (by decide) ?_
  refine n_bipush dX6_init_94 (by decide) ?_
  refine n_iast (N := 24) dX6_init_96 rfl (by decide) (by decide) (by omega) ?_
  refine n_dup dX6_init_97 ?_
  refine n_bipush dX6_init_98 (by decide) ?_
  refine n_iconst dX6_init_100 ?_
  refine n_iast (N := 24) dX6_init_101 rfl (by decide) (by decide) (by omega) ?_
  refine n_dup dX6_init_102 ?_
  refine n_bipush dX6_init_103 (by decide) ?_
  refine n_iconst dX6_init_105 ?_
  refine n_iast (N := 24) dX6_init_106 rfl (by decide) (by decide) (by omega) ?_
  refine n_dup dX6_init_107 ?_
  refine n_bipush dX6_init_108 (by decide) ?_
  refine n_bipush dX6_init_110 (by decide) ?_
  refine n_iast (N := 24) dX6_init_112 rfl (by decide) (by decide) (by omega) ?_
  refine n_dup dX6_init_113 ?_
  refine n_bipush dX6_init_114 (by decide) ?_
  refine n_iconst dX6_init_116 ?_
  refine n_iast (N := 24) dX6_init_117 rfl (by decide) (by decide) (by omega) ?_
  refine n_dup dX6_init_118 ?_
  refine n_bipush dX6_init_119 (by decide) ?_
  refine n_iconst dX6_init_121 ?_
  refine n_iast (N := 24) dX6_init_122 rfl (by decide) (by decide) (by omega) ?_
  refine n_dup dX6_init_123 ?_
  refine n_bipush dX6_init_124 (by decide) ?_
  refine n_bipush dX6_init_126 (by decide) ?_
  refine n_iast (N := 24) dX6_init_128 rfl (by decide) (by decide) (by omega) ?_
  refine n_dup dX6_init_129 ?_
  refine n_bipush dX6_init_130 (by decide) ?_
  refine n_iconst dX6_init_132 ?_
  refine n_iast (N := 24) dX6_init_133 rfl (by decide) (by decide) (by omega) ?_
  refine n_dup dX6_init_134 ?_
  refine n_bipush dX6_init_135 (by decide) ?_
  refine n_iconst dX6_init_137 ?_
  refine n_iast (N := 24) dX6_init_138 rfl (by decide) (by decide) (by omega) ?_
  refine n_dup dX6_init_139 ?_
  refine n_bipush dX6_init_140 (by decide) ?_
  refine n_bipush dX6_init_142 (by decide) ?_
  refine n_iast (N := 24) dX6_init_144 rfl (by decide) (by decide) (by omega) ?_
  refine n_dup dX6_init_145 ?_
  refine n_bipush dX6_init_146 (by decide) ?_
  refine n_iconst dX6_init_148 ?_
  refine n_iast (N := 24) dX6_init_149 rfl (by decide) (by decide) (by omega) ?_
  refine n_dup dX6_init_150 ?_
  refine n_bipush dX6_init_151 (by decide) ?_
  refine n_iconst dX6_init_153 ?_
  refine n_iast (N := 24) dX6_init_154 rfl (by decide) (by decide) (by omega) ?_
  refine n_M (M2 := mX6_1) rfl ?_
  refine n_putR (fs := [none, some (some 1), some (some 2), some (some 3), some none, none, some none, none, some none, some none, none, none, none, some none, some none, some none, some none, some none, some none, none, none, none, none, some none, some none, none, none, none, some none, some none, some none, none]) dX6_init_155 ffX6_19 rfl (by decide) (by decide) ?_
  refine n_G (G2 := gX6_8) rfl ?_
  refine n_aload_0 dX6_init_158 ?_
  refine n_sipush dX6_init_159 (by decide) ?_
  refine c_newarr (N := 160) (n := 5) (c2 := 5) (s2 := 214) (G2 := gX6_9) dX6_init_162 (by decide) rfl rfl rfl rfl (by decide) (fun _ => rfl) ?_
  refine n_putR (fs := [none, some (some 1), some (some 2), some (some 3), some (some 4), none, some none, none, some none, some none, none, none, none, some none, some none, some none, some none, some none, some none, none, none, none, none, some none, some none, none, none, none, some none, some none, some none, none]) dX6_init_164 ffX6_22 rfl (by decide) (by decide) ?_
  refine n_G (G2 := gX6_10) rfl ?_
  refine n_aload_0 dX6_init_167 ?_
  refine n_sipush dX6_init_168 (by decide) ?_
  exact wX6_2
theorem wX6_0 {z : ZZ} : WN kX6_init 10 18 2223 gX6_36 (fun M => RM M S0) z 0 [some (rv 0), none] [] gX6_0 mX6_0 0 0 := by
  refine n_aload_0 dX6_init_0 ?_
  refine n_objinit dX6_init_1 oiX6 oi_i oi_c (by decide) (by decide) ?_
  refine n_aload_0 dX6_init_4 ?_
  refine n_bipush dX6_init_5 (by decide) ?_
  refine c_newarr (N := 6) (n := 1) (c2 := 1) (s2 := 6) (G2 := gX6_1) dX6_init_7 (by decide) rfl rfl rfl rfl (by decide) (fun _ => rfl) ?_
  refine n_putR (fs := [none, some none, some none, some none, some none, none, some none, none, some none, some none, none, none, none, some none, some none, some none, some none, some none, some none, none, none, none, none, some none, some none, none, none, none, some none, some none, some none, none]) dX6_init_9 ffX6_7 rfl (by decide) (by decide) ?_
  refine n_G (G2 := gX6_2) rfl ?_
  refine n_aload_0 dX6_init_12 ?_
  refine n_bipush dX6_init_13 (by decide) ?_
  refine c_newarr (N := 6) (n := 2) (c2 := 2) (s2 := 12) (G2 := gX6_3) dX6_init_15 (by decide) rfl rfl rfl rfl (by decide) (fun _ => rfl) ?_
  refine n_putR (fs := [none, some (some 1), some none, some none, some none, none, some none, none, some none, some none, none, none, none, some none, some none, some none, some none, some none, some none, none, none, none, none, some none, some none, none, none, none, some none, some none, some none, none]) dX6_init_17 ffX6_13 rfl (by decide) (by decide) ?_
  refine n_G (G2 := gX6_4) rfl ?_
  refine n_aload_0 dX6_init_20 ?_
  refine n_bipush dX6_init_21 (by decide) ?_
  refine c_newarr (N := 18) (n := 3) (c2 := 3) (s2 := 30) (G2 := gX6_5) dX6_init_23 (by decide) rfl rfl rfl rfl (by decide) (fun _ => rfl) ?_
  refine n_putR (fs := [none, some (some 1), some (some 2), some none, some none, none, some none, none, some none, some none, none, none, none, some none, some none, some none, some none, some none, some none, none, none, none, none, some none, some none, none, none, none, some none, some none, some none, none]) dX6_init_25 ffX6_16 rfl (by decide) (by decide) ?_
  refine n_G (G2 := gX6_6) rfl ?_
  refine n_aload_0 dX6_init_28 ?_
  refine n_bipush dX6_init_29 (by decide) ?_
  refine c_newarr (N := 24) (n := 4) (c2 := 4) (s2 := 54) (G2 := gX6_7) dX6_init_31 (by decide) rfl rfl rfl rfl (by decide) (fun _ => rfl) ?_
  refine n_dup dX6_init_33 ?_
  refine n_iconst dX6_init_34 ?_
  refine n_bipush dX6_init_35 (by decide) ?_
  refine n_row (q := 4) (fun _ => rfl) ?_
  refine n_iast (N := 24) dX6_init_37 rfl (by decide) (by decide) (by omega) ?_
  refine n_dup dX6_init_38 ?_
  refine n_iconst dX6_init_39 ?_
  refine n_iconst dX6_init_40 ?_
  refine n_iast (N := 24) dX6_init_41 rfl (by decide) (by decide) (by omega) ?_
  refine n_dup dX6_init_42 ?_
  refine n_iconst dX6_init_43 ?_
  refine n_iconst dX6_init_44 ?_
  refine n_iast (N := 24) dX6_init_45 rfl (by decide) (by decide) (by omega) ?_
  refine n_dup dX6_init_46 ?_
  refine n_iconst dX6_init_47 ?_
  refine n_bipush dX6_init_48 (by decide) ?_
  refine n_iast (N := 24) dX6_init_50 rfl (by decide) (by decide) (by omega) ?_
  refine n_dup dX6_init_51 ?_
  refine n_iconst dX6_init_52 ?_
  refine n_iconst dX6_init_53 ?_
  refine n_iast (N := 24) dX6_init_54 rfl (by decide) (by decide) (by omega) ?_
  refine n_dup dX6_init_55 ?_
  refine n_iconst dX6_init_56 ?_
  refine n_iconst dX6_init_57 ?_
  refine n_iast (N := 24) dX6_init_58 rfl (by decide) (by decide) (by omega) ?_
  refine n_dup dX6_init_59 ?_
  refine n_bipush dX6_init_60 (by decide) ?_
  refine n_bipush dX6_init_62 (by decide) ?_
  refine n_iast (N := 24) dX6_init_64 rfl (by decide) (by decide) (by omega) ?_
  refine n_dup dX6_init_65 ?_
  refine n_bipush dX6_init_66 (by decide) ?_
  refine n_iconst dX6_init_68 ?_
  refine n_iast (N := 24) dX6_init_69 rfl (by decide) (by decide) (by omega) ?_
  refine n_dup dX6_init_70 ?_
  refine n_bipush dX6_init_71 (by decide) ?_
  refine n_iconst dX6_init_73 ?_
  refine n_iast (N := 24) dX6_init_74 rfl (by decide) (by decide) (by omega) ?_
  refine n_dup dX6_init_75 ?_
  refine n_bipush dX6_init_76 (by decide) ?_
  refine n_bipush dX6_init_78 (by decide) ?_
  refine n_iast (N := 24) dX6_init_80 rfl (by decide) (by decide) (by omega) ?_
  refine n_dup dX6_init_81 ?_
  refine n_bipush dX6_init_82 (by decide) ?_
  refine n_iconst dX6_init_84 ?_
  exact wX6_1
theorem ct_X6 : CT kX6_init 10 18 2223 (.inl (6, [none, some none, some none, some none, some none, none, some none, none, some none, some none, none, none, none, some none, some none, some none, some none, some none, some none, none, none, none, none, some none, some none, none, none, none, some none, some none, some none, none])) [] gX6_36 (fun M => RM M S0) := ct_of [some (rv 0), none] plX6 rfl (by decide) rfl (fun z => wX6_0)

theorem dX0_init_0 : Dk kX0_init 0 (.aload_n 0) 1 1 := ⟨by decide +kernel, rfl⟩
theorem dX0_init_1 : Dk kX0_init 1 (.invokespecial 3) 3 4 := ⟨by decide +kernel, rfl⟩
theorem dX0_init_4 : Dk kX0_init 4 (.aload_n 0) 1 5 := ⟨by decide +kernel, rfl⟩
theorem dX0_init_5 : Dk kX0_init 5 (.iconst (-1)) 1 6 := ⟨by decide +kernel, rfl⟩
theorem dX0_init_6 : Dk kX0_init 6 (.putfield 9) 3 9 := ⟨by decide +kernel, rfl⟩
theorem dX0_init_9 : Dk kX0_init 9 (.aload_n 0) 1 10 := ⟨by decide +kernel, rfl⟩
theorem dX0_init_10 : Dk kX0_init 10 (.aload_n 1) 1 11 := ⟨by decide +kernel, rfl⟩
theorem dX0_init_11 : Dk kX0_init 11 (.putfield 15) 3 14 := ⟨by decide +kernel, rfl⟩
theorem dX0_init_14 : Dk kX0_init 14 (.return_) 1 15 := ⟨by decide +kernel, rfl⟩
theorem dX0_read_0 : Dk kX0_read 0 (.aload_n 0) 1 1 := ⟨by decide +kernel, rfl⟩
theorem dX0_read_1 : Dk kX0_read 1 (.iconst (-1)) 1 2 := ⟨by decide +kernel, rfl⟩
theorem dX0_read_2 : Dk kX0_read 2 (.putfield 9) 3 5 := ⟨by decide +kernel, rfl⟩
theorem dX0_read_5 : Dk kX0_read 5 (.aload_n 1) 1 6 := ⟨by decide +kernel, rfl⟩
theorem dX0_read_6 : Dk kX0_read 6 (.iconst 0) 1 7 := ⟨by decide +kernel, rfl⟩
theorem dX0_read_7 : Dk kX0_read 7 (.putfield 19) 3 10 := ⟨by decide +kernel, rfl⟩
theorem dX0_read_10 : Dk kX0_read 10 (.aload_n 0) 1 11 := ⟨by decide +kernel, rfl⟩
theorem dX0_read_11 : Dk kX0_read 11 (.getfield 15) 3 14 := ⟨by decide +kernel, rfl⟩
theorem dX0_read_14 : Dk kX0_read 14 (.invokevirtual 24) 3 17 := ⟨by decide +kernel, rfl⟩
theorem dX0_read_17 : Dk kX0_read 17 (.iconst 0) 1 18 := ⟨by decide +kernel, rfl⟩
theorem dX0_read_18 : Dk kX0_read 18 (.istore_n 2) 1 19 := ⟨by decide +kernel, rfl⟩
theorem dX0_read_19 : Dk kX0_read 19 (.iload_n 2) 1 20 := ⟨by decide +kernel, rfl⟩
theorem dX0_read_20 : Dk kX0_read 20 (.iconst 3) 1 21 := ⟨by decide +kernel, rfl⟩
theorem dX0_read_21 : Dj kX0_read 21 (fun o => .if_icmp .ge o) 3 24 57 := ⟨36, by decide +kernel, rfl, by decide⟩
theorem dX0_read_24 : Dk kX0_read 24 (.aload_n 0) 1 25 := ⟨by decide +kernel, rfl⟩
theorem dX0_read_25 : Dk kX0_read 25 (.sipush 256) 3 28 := ⟨by decide +kernel, rfl⟩
theorem dX0_read_28 : Dk kX0_read 28 (.iload_n 2) 1 29 := ⟨by decide +kernel, rfl⟩
theorem dX0_read_29 : Dk kX0_read 29 (.iadd) 1 30 := ⟨by decide +kernel, rfl⟩
theorem dX0_read_30 : Dk kX0_read 30 (.invokevirtual 29) 3 33 := ⟨by decide +kernel, rfl⟩
theorem dX0_read_33 : Dk kX0_read 33 (.aload_n 0) 1 34 := ⟨by decide +kernel, rfl⟩
theorem dX0_read_34 : Dk kX0_read 34 (.aload_n 1) 1 35 := ⟨by decide +kernel, rfl⟩
theorem dX0_read_35 : Dk kX0_read 35 (.iconst 0) 1 36 := ⟨by decide +kernel, rfl⟩
theorem dX0_read_36 : Dk kX0_read 36 (.iconst 0) 1 37 := ⟨by decide +kernel, rfl⟩
theorem dX0_read_37 : Dk kX0_read 37 (.invokevirtual 33) 3 40 := ⟨by decide +kernel, rfl⟩
theorem dX0_read_40 : Dk kX0_read 40 (.aload_n 0) 1 41 := ⟨by decide +kernel, rfl⟩
theorem dX0_read_41 : Dk kX0_read 41 (.bipush 59) 2 43 := ⟨by decide +kernel, rfl⟩
theorem dX0_read_43 : Dk kX0_read 43 (.invokevirtual 29) 3 46 := ⟨by decide +kernel, rfl⟩
theorem dX0_read_46 : Dk kX0_read 46 (.aload_n 1) 1 47 := ⟨by decide +kernel, rfl⟩
theorem dX0_read_47 : Dk kX0_read 47 (.iload_n 2) 1 48 := ⟨by decide +kernel, rfl⟩
theorem dX0_read_48 : Dk kX0_read 48 (.invokevirtual 37) 3 51 := ⟨by decide +kernel, rfl⟩
theorem dX0_read_51 : Dk kX0_read 51 (.iinc 2 1) 3 54 := ⟨by decide +kernel, rfl⟩
theorem dX0_read_54 : Dj kX0_read 54 (fun o => .goto o) 3 57 19 := ⟨-35, by decide +kernel, rfl, by decide⟩
theorem dX0_read_57 : Dk kX0_read 57 (.aload_n 0) 1 58 := ⟨by decide +kernel, rfl⟩
theorem dX0_read_58 : Dk kX0_read 58 (.iconst (-1)) 1 59 := ⟨by decide +kernel, rfl⟩
theorem dX0_read_59 : Dk kX0_read 59 (.invokevirtual 29) 3 62 := ⟨by decide +kernel, rfl⟩
theorem dX0_read_62 : Dk kX0_read 62 (.aload_n 0) 1 63 := ⟨by decide +kernel, rfl⟩
theorem dX0_read_63 : Dk kX0_read 63 (.getfield 9) 3 66 := ⟨by decide +kernel, rfl⟩
theorem dX0_read_66 : Dk kX0_read 66 (.ireturn) 1 67 := ⟨by decide +kernel, rfl⟩
theorem dX0_expect_0 : Dk kX0_expect 0 (.aload_n 0) 1 1 := ⟨by decide +kernel, rfl⟩
theorem dX0_expect_1 : Dk kX0_expect 1 (.getfield 15) 3 4 := ⟨by decide +kernel, rfl⟩
theorem dX0_expect_4 : Dk kX0_expect 4 (.getfield 40) 3 7 := ⟨by decide +kernel, rfl⟩
theorem dX0_expect_7 : Dk kX0_expect 7 (.iload_n 1) 1 8 := ⟨by decide +kernel, rfl⟩
theorem dX0_expect_8 : Dj kX0_expect 8 (fun o => .if_icmp .eq o) 3 11 18 := ⟨10, by decide +kernel, rfl, by decide⟩
theorem dX0_expect_11 : Dk kX0_expect 11 (.aload_n 0) 1 12 := ⟨by decide +kernel, rfl⟩
theorem dX0_expect_12 : Dk kX0_expect 12 (.invokevirtual 43) 3 15 := ⟨by decide +kernel, rfl⟩
theorem dX0_expect_15 : Dj kX0_expect 15 (fun o => .goto o) 3 18 25 := ⟨10, by decide +kernel, rfl, by decide⟩
theorem dX0_expect_18 : Dk kX0_expect 18 (.aload_n 0) 1 19 := ⟨by decide +kernel, rfl⟩
theorem dX0_expect_19 : Dk kX0_expect 19 (.getfield 15) 3 22 := ⟨by decide +kernel, rfl⟩
theorem dX0_expect_22 : Dk kX0_expect 22 (.invokevirtual 46) 3 25 := ⟨by decide +kernel, rfl⟩
theorem dX0_expect_25 : Dk kX0_expect 25 (.return_) 1 26 := ⟨by decide +kernel, rfl⟩
theorem dX0_refuse_0 : Dk kX0_refuse 0 (.aload_n 0) 1 1 := ⟨by decide +kernel, rfl⟩
theorem dX0_refuse_1 : Dk kX0_refuse 1 (.getfield 9) 3 4 := ⟨by decide +kernel, rfl⟩
theorem dX0_refuse_4 : Dk kX0_refuse 4 (.iconst (-1)) 1 5 := ⟨by decide +kernel, rfl⟩
theorem dX0_refuse_5 : Dj kX0_refuse 5 (fun o => .if_icmp .ne o) 3 8 19 := ⟨14, by decide +kernel, rfl, by decide⟩
theorem dX0_refuse_8 : Dk kX0_refuse 8 (.aload_n 0) 1 9 := ⟨by decide +kernel, rfl⟩
theorem dX0_refuse_9 : Dk kX0_refuse 9 (.aload_n 0) 1 10 := ⟨by decide +kernel, rfl⟩
theorem dX0_refuse_10 : Dk kX0_refuse 10 (.getfield 15) 3 13 := ⟨by decide +kernel, rfl⟩
theorem dX0_refuse_13 : Dk kX0_refuse 13 (.getfield 49) 3 16 := ⟨by decide +kernel, rfl⟩
theorem dX0_refuse_16 : Dk kX0_refuse 16 (.putfield 9) 3 19 := ⟨by decide +kernel, rfl⟩
theorem dX0_refuse_19 : Dk kX0_refuse 19 (.aload_n 0) 1 20 := ⟨by decide +kernel, rfl⟩
theorem dX0_refuse_20 : Dk kX0_refuse 20 (.getfield 15) 3 23 := ⟨by decide +kernel, rfl⟩
theorem dX0_refuse_23 : Dk kX0_refuse 23 (.bipush (-2)) 2 25 := ⟨by decide +kernel, rfl⟩
theorem dX0_refuse_25 : Dk kX0_refuse 25 (.putfield 40) 3 28 := ⟨by decide +kernel, rfl⟩
theorem dX0_refuse_28 : Dk kX0_refuse 28 (.return_) 1 29 := ⟨by decide +kernel, rfl⟩
theorem dX0_side_0 : Dk kX0_side 0 (.iload_n 2) 1 1 := ⟨by decide +kernel, rfl⟩
theorem dX0_side_1 : Dk kX0_side 1 (.iconst 2) 1 2 := ⟨by decide +kernel, rfl⟩
theorem dX0_side_2 : Dj kX0_side 2 (fun o => .if_icmp .ne o) 3 5 52 := ⟨50, by decide +kernel, rfl, by decide⟩
theorem dX0_side_5 : Dk kX0_side 5 (.aload_n 0) 1 6 := ⟨by decide +kernel, rfl⟩
theorem dX0_side_6 : Dk kX0_side 6 (.getfield 15) 3 9 := ⟨by decide +kernel, rfl⟩
theorem dX0_side_9 : Dk kX0_side 9 (.getfield 40) 3 12 := ⟨by decide +kernel, rfl⟩
theorem dX0_side_12 : Dk kX0_side 12 (.sipush 261) 3 15 := ⟨by decide +kernel, rfl⟩
theorem dX0_side_15 : Dj kX0_side 15 (fun o => .if_icmp .ne o) 3 18 52 := ⟨37, by decide +kernel, rfl, by decide⟩
theorem dX0_side_18 : Dk kX0_side 18 (.iload_n 3) 1 19 := ⟨by decide +kernel, rfl⟩
theorem dX0_side_19 : Dk kX0_side 19 (.iconst 5) 1 20 := ⟨by decide +kernel, rfl⟩
theorem dX0_side_20 : Dj kX0_side 20 (fun o => .if_icmp .lt o) 3 23 28 := ⟨8, by decide +kernel, rfl, by decide⟩
theorem dX0_side_23 : Dk kX0_side 23 (.aload_n 0) 1 24 := ⟨by decide +kernel, rfl⟩
theorem dX0_side_24 : Dk kX0_side 24 (.invokevirtual 43) 3 27 := ⟨by decide +kernel, rfl⟩
theorem dX0_side_27 : Dk kX0_side 27 (.return_) 1 28 := ⟨by decide +kernel, rfl⟩
theorem dX0_side_28 : Dk kX0_side 28 (.aload_n 0) 1 29 := ⟨by decide +kernel, rfl⟩
theorem dX0_side_29 : Dk kX0_side 29 (.getfield 15) 3 32 := ⟨by decide +kernel, rfl⟩
theorem dX0_side_32 : Dk kX0_side 32 (.invokevirtual 46) 3 35 := ⟨by decide +kernel, rfl⟩
theorem dX0_side_35 : Dk kX0_side 35 (.aload_n 0) 1 36 := ⟨by decide +kernel, rfl⟩
theorem dX0_side_36 : Dk kX0_side 36 (.aload_n 1) 1 37 := ⟨by decide +kernel, rfl⟩
theorem dX0_side_37 : Dk kX0_side 37 (.iconst 2) 1 38 := ⟨by decide +kernel, rfl⟩
theorem dX0_side_38 : Dk kX0_side 38 (.iload_n 3) 1 39 := ⟨by decide +kernel, rfl⟩
theorem dX0_side_39 : Dk kX0_side 39 (.iconst 1) 1 40 := ⟨by decide +kernel, rfl⟩
theorem dX0_side_40 : Dk kX0_side 40 (.iadd) 1 41 := ⟨by decide +kernel, rfl⟩
theorem dX0_side_41 : Dk kX0_side 41 (.invokevirtual 33) 3 44 := ⟨by decide +kernel, rfl⟩
theorem dX0_side_44 : Dk kX0_side 44 (.aload_n 1) 1 45 := ⟨by decide +kernel, rfl⟩
theorem dX0_side_45 : Dk kX0_side 45 (.sipush (-261)) 3 48 := ⟨by decide +kernel, rfl⟩
theorem dX0_side_48 : Dk kX0_side 48 (.invokevirtual 52) 3 51 := ⟨by decide +kernel, rfl⟩
theorem dX0_side_51 : Dk kX0_side 51 (.return_) 1 52 := ⟨by decide +kernel, rfl⟩
theorem dX0_side_52 : Dk kX0_side 52 (.iload_n 2) 1 53 := ⟨by decide +kernel, rfl⟩
theorem dX0_side_53 : Dk kX0_side 53 (.iconst 5) 1 54 := ⟨by decide +kernel, rfl⟩
theorem dX0_side_54 : Dj kX0_side 54 (fun o => .if_icmp .lt o) 3 57 64 := ⟨10, by decide +kernel, rfl, by decide⟩
theorem dX0_side_57 : Dk kX0_side 57 (.aload_n 0) 1 58 := ⟨by decide +kernel, rfl⟩
theorem dX0_side_58 : Dk kX0_side 58 (.aload_n 1) 1 59 := ⟨by decide +kernel, rfl⟩
theorem dX0_side_59 : Dk kX0_side 59 (.iload_n 3) 1 60 := ⟨by decide +kernel, rfl⟩
theorem dX0_side_60 : Dk kX0_side 60 (.invokevirtual 55) 3 63 := ⟨by decide +kernel, rfl⟩
theorem dX0_side_63 : Dk kX0_side 63 (.return_) 1 64 := ⟨by decide +kernel, rfl⟩
theorem dX0_side_64 : Dk kX0_side 64 (.aload_n 0) 1 65 := ⟨by decide +kernel, rfl⟩
theorem dX0_side_65 : Dk kX0_side 65 (.aload_n 1) 1 66 := ⟨by decide +kernel, rfl⟩
theorem dX0_side_66 : Dk kX0_side 66 (.iload_n 2) 1 67 := ⟨by decide +kernel, rfl⟩
theorem dX0_side_67 : Dk kX0_side 67 (.iconst 1) 1 68 := ⟨by decide +kernel, rfl⟩
theorem dX0_side_68 : Dk kX0_side 68 (.iadd) 1 69 := ⟨by decide +kernel, rfl⟩
theorem dX0_side_69 : Dk kX0_side 69 (.iload_n 3) 1 70 := ⟨by decide +kernel, rfl⟩
theorem dX0_side_70 : Dk kX0_side 70 (.invokevirtual 33) 3 73 := ⟨by decide +kernel, rfl⟩
theorem dX0_side_73 : Dk kX0_side 73 (.iload_n 2) 1 74 := ⟨by decide +kernel, rfl⟩
theorem dX0_side_74 : Dk kX0_side 74 (.iconst 2) 1 75 := ⟨by decide +kernel, rfl⟩
theorem dX0_side_75 : Dj kX0_side 75 (fun o => .if_icmp .ne o) 3 78 82 := ⟨7, by decide +kernel, rfl, by decide⟩
theorem dX0_side_78 : Dk kX0_side 78 (.iconst 1) 1 79 := ⟨by decide +kernel, rfl⟩
theorem dX0_side_79 : Dj kX0_side 79 (fun o => .goto o) 3 82 85 := ⟨6, by decide +kernel, rfl, by decide⟩
theorem dX0_side_82 : Dk kX0_side 82 (.sipush 160) 3 85 := ⟨by decide +kernel, rfl⟩
theorem dX0_side_85 : Dk kX0_side 85 (.istore 4) 2 87 := ⟨by decide +kernel, rfl⟩
theorem dX0_side_87 : Dk kX0_side 87 (.iconst 0) 1 88 := ⟨by decide +kernel, rfl⟩
theorem dX0_side_88 : Dk kX0_side 88 (.istore 5) 2 90 := ⟨by decide +kernel, rfl⟩
theorem dX0_side_90 : Dk kX0_side 90 (.iload 5) 2 92 := ⟨by decide +kernel, rfl⟩
theorem dX0_side_92 : Dk kX0_side 92 (.iload 4) 2 94 := ⟨by decide +kernel, rfl⟩
theorem dX0_side_94 : Dj kX0_side 94 (fun o => .if_icmp .ge o) 3 97 149 := ⟨55, by decide +kernel, rfl, by decide⟩
theorem dX0_side_97 : Dk kX0_side 97 (.aload_n 0) 1 98 := ⟨by decide +kernel, rfl⟩
theorem dX0_side_98 : Dk kX0_side 98 (.getfield 15) 3 101 := ⟨by decide +kernel, rfl⟩
theorem dX0_side_101 : Dk kX0_side 101 (.getfield 40) 3 104 := ⟨by decide +kernel, rfl⟩
theorem dX0_side_104 : Dk kX0_side 104 (.invokestatic 59) 3 107 := ⟨by decide +kernel, rfl⟩
theorem dX0_side_107 : Dk kX0_side 107 (.iload_n 2) 1 108 := ⟨by decide +kernel, rfl⟩
theorem dX0_side_108 : Dj kX0_side 108 (fun o => .if_icmp .ne o) 3 111 149 := ⟨41, by decide +kernel, rfl, by decide⟩
theorem dX0_side_111 : Dk kX0_side 111 (.aload_n 0) 1 112 := ⟨by decide +kernel, rfl⟩
theorem dX0_side_112 : Dk kX0_side 112 (.getfield 15) 3 115 := ⟨by decide +kernel, rfl⟩
theorem dX0_side_115 : Dk kX0_side 115 (.getfield 40) 3 118 := ⟨by decide +kernel, rfl⟩
theorem dX0_side_118 : Dk kX0_side 118 (.istore 6) 2 120 := ⟨by decide +kernel, rfl⟩
theorem dX0_side_120 : Dk kX0_side 120 (.aload_n 0) 1 121 := ⟨by decide +kernel, rfl⟩
theorem dX0_side_121 : Dk kX0_side 121 (.getfield 15) 3 124 := ⟨by decide +kernel, rfl⟩
theorem dX0_side_124 : Dk kX0_side 124 (.invokevirtual 46) 3 127 := ⟨by decide +kernel, rfl⟩
theorem dX0_side_127 : Dk kX0_side 127 (.aload_n 0) 1 128 := ⟨by decide +kernel, rfl⟩
theorem dX0_side_128 : Dk kX0_side 128 (.aload_n 1) 1 129 := ⟨by decide +kernel, rfl⟩
theorem dX0_side_129 : Dk kX0_side 129 (.iload_n 2) 1 130 := ⟨by decide +kernel, rfl⟩
theorem dX0_side_130 : Dk kX0_side 130 (.iconst 1) 1 131 := ⟨by decide +kernel, rfl⟩
theorem dX0_side_131 : Dk kX0_side 131 (.iadd) 1 132 := ⟨by decide +kernel, rfl⟩
theorem dX0_side_132 : Dk kX0_side 132 (.iload_n 3) 1 133 := ⟨by decide +kernel, rfl⟩
theorem dX0_side_133 : Dk kX0_side 133 (.invokevirtual 33) 3 136 := ⟨by decide +kernel, rfl⟩
theorem dX0_side_136 : Dk kX0_side 136 (.aload_n 1) 1 137 := ⟨by decide +kernel, rfl⟩
theorem dX0_side_137 : Dk kX0_side 137 (.iload 6) 2 139 := ⟨by decide +kernel, rfl⟩
theorem dX0_side_139 : Dk kX0_side 139 (.ineg) 1 140 := ⟨by decide +kernel, rfl⟩
theorem dX0_side_140 : Dk kX0_side 140 (.invokevirtual 52) 3 143 := ⟨by decide +kernel, rfl⟩
theorem dX0_side_143 : Dk kX0_side 143 (.iinc 5 1) 3 146 := ⟨by decide +kernel, rfl⟩
theorem dX0_side_146 : Dj kX0_side 146 (fun o => .goto o) 3 149 90 := ⟨-56, by decide +kernel, rfl, by decide⟩
theorem dX0_side_149 : Dk kX0_side 149 (.return_) 1 150 := ⟨by decide +kernel, rfl⟩
theorem dX0_one_0 : Dk kX0_one 0 (.aload_n 0) 1 1 := ⟨by decide +kernel, rfl⟩
theorem dX0_one_1 : Dk kX0_one 1 (.getfield 15) 3 4 := ⟨by decide +kernel, rfl⟩
theorem dX0_one_4 : Dk kX0_one 4 (.getfield 40) 3 7 := ⟨by decide +kernel, rfl⟩
theorem dX0_one_7 : Dk kX0_one 7 (.istore_n 3) 1 8 := ⟨by decide +kernel, rfl⟩
theorem dX0_one_8 : Dk kX0_one 8 (.aload_n 0) 1 9 := ⟨by decide +kernel, rfl⟩
theorem dX0_one_9 : Dk kX0_one 9 (.getfield 15) 3 12 := ⟨by decide +kernel, rfl⟩
theorem dX0_one_12 : Dk kX0_one 12 (.getfield 63) 3 15 := ⟨by decide +kernel, rfl⟩
theorem dX0_one_15 : Dk kX0_one 15 (.istore 4) 2 17 := ⟨by decide +kernel, rfl⟩
theorem dX0_one_17 : Dk kX0_one 17 (.iload_n 3) 1 18 := ⟨by decide +kernel, rfl⟩
theorem dX0_one_18 : Dk kX0_one 18 (.bipush 45) 2 20 := ⟨by decide +kernel, rfl⟩
theorem dX0_one_20 : Dj kX0_one 20 (fun o => .if_icmp .eq o) 3 23 29 := ⟨9, by decide +kernel, rfl, by decide⟩
theorem dX0_one_23 : Dk kX0_one 23 (.iload_n 3) 1 24 := ⟨by decide +kernel, rfl⟩
theorem dX0_one_24 : Dk kX0_one 24 (.bipush 40) 2 26 := ⟨by decide +kernel, rfl⟩
theorem dX0_one_26 : Dj kX0_one 26 (fun o => .if_icmp .ne o) 3 29 33 := ⟨7, by decide +kernel, rfl, by decide⟩
theorem dX0_one_29 : Dk kX0_one 29 (.iconst 1) 1 30 := ⟨by decide +kernel, rfl⟩
theorem dX0_one_30 : Dj kX0_one 30 (fun o => .goto o) 3 33 34 := ⟨4, by decide +kernel, rfl, by decide⟩
theorem dX0_one_33 : Dk kX0_one 33 (.iconst 0) 1 34 := ⟨by decide +kernel, rfl⟩
theorem dX0_one_34 : Dk kX0_one 34 (.istore 5) 2 36 := ⟨by decide +kernel, rfl⟩
theorem dX0_one_36 : Dk kX0_one 36 (.iload_n 3) 1 37 := ⟨by decide +kernel, rfl⟩
theorem dX0_one_37 : Dk kX0_one 37 (.sipush 300) 3 40 := ⟨by decide +kernel, rfl⟩
theorem dX0_one_40 : Dj kX0_one 40 (fun o => .if_icmp .eq o) 3 43 65 := ⟨25, by decide +kernel, rfl, by decide⟩
theorem dX0_one_43 : Dk kX0_one 43 (.iload_n 3) 1 44 := ⟨by decide +kernel, rfl⟩
theorem dX0_one_44 : Dk kX0_one 44 (.invokestatic 66) 3 47 := ⟨by decide +kernel, rfl⟩
theorem dX0_one_47 : Dj kX0_one 47 (fun o => .ifCond .ne o) 3 50 65 := ⟨18, by decide +kernel, rfl, by decide⟩
theorem dX0_one_50 : Dk kX0_one 50 (.iload 5) 2 52 := ⟨by decide +kernel, rfl⟩
theorem dX0_one_52 : Dj kX0_one 52 (fun o => .ifCond .eq o) 3 55 60 := ⟨8, by decide +kernel, rfl, by decide⟩
theorem dX0_one_55 : Dk kX0_one 55 (.iload_n 2) 1 56 := ⟨by decide +kernel, rfl⟩
theorem dX0_one_56 : Dk kX0_one 56 (.iconst 5) 1 57 := ⟨by decide +kernel, rfl⟩
theorem dX0_one_57 : Dj kX0_one 57 (fun o => .if_icmp .lt o) 3 60 65 := ⟨8, by decide +kernel, rfl, by decide⟩
theorem dX0_one_60 : Dk kX0_one 60 (.aload_n 0) 1 61 := ⟨by decide +kernel, rfl⟩
theorem dX0_one_61 : Dk kX0_one 61 (.invokevirtual 43) 3 64 := ⟨by decide +kernel, rfl⟩
theorem dX0_one_64 : Dk kX0_one 64 (.return_) 1 65 := ⟨by decide +kernel, rfl⟩
theorem dX0_one_65 : Dk kX0_one 65 (.aload_n 0) 1 66 := ⟨by decide +kernel, rfl⟩
theorem dX0_one_66 : Dk kX0_one 66 (.getfield 15) 3 69 := ⟨by decide +kernel, rfl⟩
theorem dX0_one_69 : Dk kX0_one 69 (.invokevirtual 46) 3 72 := ⟨by decide +kernel, rfl⟩
theorem dX0_one_72 : Dk kX0_one 72 (.iload_n 3) 1 73 := ⟨by decide +kernel, rfl⟩
theorem dX0_one_73 : Dk kX0_one 73 (.bipush 45) 2 75 := ⟨by decide +kernel, rfl⟩
theorem dX0_one_75 : Dj kX0_one 75 (fun o => .if_icmp .ne o) 3 78 96 := ⟨21, by decide +kernel, rfl, by decide⟩
theorem dX0_one_78 : Dk kX0_one 78 (.aload_n 0) 1 79 := ⟨by decide +kernel, rfl⟩
theorem dX0_one_79 : Dk kX0_one 79 (.aload_n 1) 1 80 := ⟨by decide +kernel, rfl⟩
theorem dX0_one_80 : Dk kX0_one 80 (.iload_n 2) 1 81 := ⟨by decide +kernel, rfl⟩
theorem dX0_one_81 : Dk kX0_one 81 (.iconst 1) 1 82 := ⟨by decide +kernel, rfl⟩
theorem dX0_one_82 : Dk kX0_one 82 (.iadd) 1 83 := ⟨by decide +kernel, rfl⟩
theorem dX0_one_83 : Dk kX0_one 83 (.invokevirtual 55) 3 86 := ⟨by decide +kernel, rfl⟩
theorem dX0_one_86 : Dk kX0_one 86 (.aload_n 1) 1 87 := ⟨by decide +kernel, rfl⟩
theorem dX0_one_87 : Dk kX0_one 87 (.sipush (-301)) 3 90 := ⟨by decide +kernel, rfl⟩
theorem dX0_one_90 : Dk kX0_one 90 (.invokevirtual 52) 3 93 := ⟨by decide +kernel, rfl⟩
theorem dX0_one_93 : Dj kX0_one 93 (fun o => .goto o) 3 96 158 := ⟨65, by decide +kernel, rfl, by decide⟩
theorem dX0_one_96 : Dk kX0_one 96 (.iload_n 3) 1 97 := ⟨by decide +kernel, rfl⟩
theorem dX0_one_97 : Dk kX0_one 97 (.bipush 40) 2 99 := ⟨by decide +kernel, rfl⟩
theorem dX0_one_99 : Dj kX0_one 99 (fun o => .if_icmp .ne o) 3 102 140 := ⟨41, by decide +kernel, rfl, by decide⟩
theorem dX0_one_102 : Dk kX0_one 102 (.aload_n 0) 1 103 := ⟨by decide +kernel, rfl⟩
theorem dX0_one_103 : Dk kX0_one 103 (.aload_n 1) 1 104 := ⟨by decide +kernel, rfl⟩
theorem dX0_one_104 : Dk kX0_one 104 (.iconst 0) 1 105 := ⟨by decide +kernel, rfl⟩
theorem dX0_one_105 : Dk kX0_one 105 (.iload_n 2) 1 106 := ⟨by decide +kernel, rfl⟩
theorem dX0_one_106 : Dk kX0_one 106 (.iconst 1) 1 107 := ⟨by decide +kernel, rfl⟩
theorem dX0_one_107 : Dk kX0_one 107 (.iadd) 1 108 := ⟨by decide +kernel, rfl⟩
theorem dX0_one_108 : Dk kX0_one 108 (.invokevirtual 33) 3 111 := ⟨by decide +kernel, rfl⟩
theorem dX0_one_111 : Dk kX0_one 111 (.aload_n 0) 1 112 := ⟨by decide +kernel, rfl⟩
theorem dX0_one_112 : Dk kX0_one 112 (.getfield 15) 3 115 := ⟨by decide +kernel, rfl⟩
theorem dX0_one_115 : Dk kX0_one 115 (.getfield 40) 3 118 := ⟨by decide +kernel, rfl⟩
theorem dX0_one_118 : Dk kX0_one 118 (.bipush 41) 2 120 := ⟨by decide +kernel, rfl⟩
theorem dX0_one_120 : Dj kX0_one 120 (fun o => .if_icmp .ne o) 3 123 133 := ⟨13, by decide +kernel, rfl, by decide⟩
theorem dX0_one_123 : Dk kX0_one 123 (.aload_n 0) 1 124 := ⟨by decide +kernel, rfl⟩
theorem dX0_one_124 : Dk kX0_one 124 (.getfield 15) 3 127 := ⟨by decide +kernel, rfl⟩
theorem dX0_one_127 : Dk kX0_one 127 (.invokevirtual 46) 3 130 := ⟨by decide +kernel, rfl⟩
theorem dX0_one_130 : Dj kX0_one 130 (fun o => .goto o) 3 133 158 := ⟨28, by decide +kernel, rfl, by decide⟩
theorem dX0_one_133 : Dk kX0_one 133 (.aload_n 0) 1 134 := ⟨by decide +kernel, rfl⟩
theorem dX0_one_134 : Dk kX0_one 134 (.invokevirtual 43) 3 137 := ⟨by decide +kernel, rfl⟩
theorem dX0_one_137 : Dj kX0_one 137 (fun o => .goto o) 3 140 158 := ⟨21, by decide +kernel, rfl, by decide⟩
theorem dX0_one_140 : Dk kX0_one 140 (.aload_n 1) 1 141 := ⟨by decide +kernel, rfl⟩
theorem dX0_one_141 : Dk kX0_one 141 (.iload_n 3) 1 142 := ⟨by decide +kernel, rfl⟩
theorem dX0_one_142 : Dk kX0_one 142 (.sipush 300) 3 145 := ⟨by decide +kernel, rfl⟩
theorem dX0_one_145 : Dj kX0_one 145 (fun o => .if_icmp .ne o) 3 148 153 := ⟨8, by decide +kernel, rfl, by decide⟩
theorem dX0_one_148 : Dk kX0_one 148 (.iload 4) 2 150 := ⟨by decide +kernel, rfl⟩
theorem dX0_one_150 : Dj kX0_one 150 (fun o => .goto o) 3 153 155 := ⟨5, by decide +kernel, rfl, by decide⟩
theorem dX0_one_153 : Dk kX0_one 153 (.iload_n 3) 1 154 := ⟨by decide +kernel, rfl⟩
theorem dX0_one_154 : Dk kX0_one 154 (.ineg) 1 155 := ⟨by decide +kernel, rfl⟩
theorem dX0_one_155 : Dk kX0_one 155 (.invokevirtual 52) 3 158 := ⟨by decide +kernel, rfl⟩
theorem dX0_one_158 : Dk kX0_one 158 (.return_) 1 159 := ⟨by decide +kernel, rfl⟩
theorem dX0_rankOf_0 : Dk kX0_rankOf 0 (.iload_n 0) 1 1 := ⟨by decide +kernel, rfl⟩
theorem dX0_rankOf_1 : Dk kX0_rankOf 1 (.lookupswitch 77 #[(42, 75), (43, 73), (45, 73), (60, 71), (61, 71), (259, 67), (260, 69)]) 67 68 := ⟨by decide +kernel, rfl⟩
theorem dX0_rankOf_68 : Dk kX0_rankOf 68 (.iconst 0) 1 69 := ⟨by decide +kernel, rfl⟩
theorem dX0_rankOf_69 : Dk kX0_rankOf 69 (.ireturn) 1 70 := ⟨by decide +kernel, rfl⟩
theorem dX0_rankOf_70 : Dk kX0_rankOf 70 (.iconst 1) 1 71 := ⟨by decide +kernel, rfl⟩
theorem dX0_rankOf_71 : Dk kX0_rankOf 71 (.ireturn) 1 72 := ⟨by decide +kernel, rfl⟩
theorem dX0_rankOf_72 : Dk kX0_rankOf 72 (.iconst 2) 1 73 := ⟨by decide +kernel, rfl⟩
theorem dX0_rankOf_73 : Dk kX0_rankOf 73 (.ireturn) 1 74 := ⟨by decide +kernel, rfl⟩
theorem dX0_rankOf_74 : Dk kX0_rankOf 74 (.iconst 3) 1 75 := ⟨by decide +kernel, rfl⟩
theorem dX0_rankOf_75 : Dk kX0_rankOf 75 (.ireturn) 1 76 := ⟨by decide +kernel, rfl⟩
theorem dX0_rankOf_76 : Dk kX0_rankOf 76 (.iconst 4) 1 77 := ⟨by decide +kernel, rfl⟩
theorem dX0_rankOf_77 : Dk kX0_rankOf 77 (.ireturn) 1 78 := ⟨by decide +kernel, rfl⟩
theorem dX0_rankOf_78 : Dk kX0_rankOf 78 (.iconst (-1)) 1 79 := ⟨by decide +kernel, rfl⟩
theorem dX0_rankOf_79 : Dk kX0_rankOf 79 (.ireturn) 1 80 := ⟨by decide +kernel, rfl⟩
theorem dX1_init_0 : Dk kX1_init 0 (.aload_n 0) 1 1 := ⟨by decide +kernel, rfl⟩
theorem dX1_init_1 : Dk kX1_init 1 (.invokespecial 3) 3 4 := ⟨by decide +kernel, rfl⟩
theorem dX1_init_4 : Dk kX1_init 4 (.aload_n 0) 1 5 := ⟨by decide +kernel, rfl⟩
theorem dX1_init_5 : Dk kX1_init 5 (.bipush 40) 2 7 := ⟨by decide +kernel, rfl⟩
theorem dX1_init_7 : Dk kX1_init 7 (.newarray .int) 2 9 := ⟨by decide +kernel, rfl⟩
theorem dX1_init_9 : Dk kX1_init 9 (.putfield 9) 3 12 := ⟨by decide +kernel, rfl⟩
theorem dX1_init_12 : Dk kX1_init 12 (.aload_n 0) 1 13 := ⟨by decide +kernel, rfl⟩
theorem dX1_init_13 : Dk kX1_init 13 (.iconst (-1)) 1 14 := ⟨by decide +kernel, rfl⟩
theorem dX1_init_14 : Dk kX1_init 14 (.putfield 15) 3 17 := ⟨by decide +kernel, rfl⟩
theorem dX1_init_17 : Dk kX1_init 17 (.aload_n 0) 1 18 := ⟨by decide +kernel, rfl⟩
theorem dX1_init_18 : Dk kX1_init 18 (.iconst 0) 1 19 := ⟨by decide +kernel, rfl⟩
theorem dX1_init_19 : Dk kX1_init 19 (.putfield 19) 3 22 := ⟨by decide +kernel, rfl⟩
theorem dX1_init_22 : Dk kX1_init 22 (.return_) 1 23 := ⟨by decide +kernel, rfl⟩
theorem dX1_become_0 : Dk kX1_become 0 (.aload_n 0) 1 1 := ⟨by decide +kernel, rfl⟩
theorem dX1_become_1 : Dk kX1_become 1 (.iload_n 1) 1 2 := ⟨by decide +kernel, rfl⟩
theorem dX1_become_2 : Dk kX1_become 2 (.putfield 15) 3 5 := ⟨by decide +kernel, rfl⟩
theorem dX1_become_5 : Dk kX1_become 5 (.aload_n 0) 1 6 := ⟨by decide +kernel, rfl⟩
theorem dX1_become_6 : Dk kX1_become 6 (.iload_n 2) 1 7 := ⟨by decide +kernel, rfl⟩
theorem dX1_become_7 : Dk kX1_become 7 (.putfield 19) 3 10 := ⟨by decide +kernel, rfl⟩
theorem dX1_become_10 : Dk kX1_become 10 (.aload_n 0) 1 11 := ⟨by decide +kernel, rfl⟩
theorem dX1_become_11 : Dk kX1_become 11 (.getfield 9) 3 14 := ⟨by decide +kernel, rfl⟩
theorem dX1_become_14 : Dk kX1_become 14 (.iconst 0) 1 15 := ⟨by decide +kernel, rfl⟩
theorem dX1_become_15 : Dk kX1_become 15 (.invokestatic 22) 3 18 := ⟨by decide +kernel, rfl⟩
theorem dX1_become_18 : Dk kX1_become 18 (.return_) 1 19 := ⟨by decide +kernel, rfl⟩
theorem dX1_has_0 : Dk kX1_has 0 (.iload_n 1) 1 1 := ⟨by decide +kernel, rfl⟩
theorem dX1_has_1 : Dj kX1_has 1 (fun o => .ifCond .lt o) 3 4 16 := ⟨15, by decide +kernel, rfl, by decide⟩
theorem dX1_has_4 : Dk kX1_has 4 (.iload_n 1) 1 5 := ⟨by decide +kernel, rfl⟩
theorem dX1_has_5 : Dk kX1_has 5 (.aload_n 0) 1 6 := ⟨by decide +kernel, rfl⟩
theorem dX1_has_6 : Dk kX1_has 6 (.getfield 19) 3 9 := ⟨by decide +kernel, rfl⟩
theorem dX1_has_9 : Dj kX1_has 9 (fun o => .if_icmp .ge o) 3 12 16 := ⟨7, by decide +kernel, rfl, by decide⟩
theorem dX1_has_12 : Dk kX1_has 12 (.iconst 1) 1 13 := ⟨by decide +kernel, rfl⟩
theorem dX1_has_13 : Dj kX1_has 13 (fun o => .goto o) 3 16 17 := ⟨4, by decide +kernel, rfl, by decide⟩
theorem dX1_has_16 : Dk kX1_has 16 (.iconst 0) 1 17 := ⟨by decide +kernel, rfl⟩
theorem dX1_has_17 : Dk kX1_has 17 (.ireturn) 1 18 := ⟨by decide +kernel, rfl⟩
theorem dX1_hasRow_0 : Dk kX1_hasRow 0 (.iload_n 1) 1 1 := ⟨by decide +kernel, rfl⟩
theorem dX1_hasRow_1 : Dj kX1_hasRow 1 (fun o => .ifCond .lt o) 3 4 30 := ⟨29, by decide +kernel, rfl, by decide⟩
theorem dX1_hasRow_4 : Dk kX1_hasRow 4 (.iload_n 2) 1 5 := ⟨by decide +kernel, rfl⟩
theorem dX1_hasRow_5 : Dj kX1_hasRow 5 (fun o => .ifCond .lt o) 3 8 30 := ⟨25, by decide +kernel, rfl, by decide⟩
theorem dX1_hasRow_8 : Dk kX1_hasRow 8 (.iload_n 1) 1 9 := ⟨by decide +kernel, rfl⟩
theorem dX1_hasRow_9 : Dk kX1_hasRow 9 (.aload_n 0) 1 10 := ⟨by decide +kernel, rfl⟩
theorem dX1_hasRow_10 : Dk kX1_hasRow 10 (.getfield 19) 3 13 := ⟨by decide +kernel, rfl⟩
theorem dX1_hasRow_13 : Dj kX1_hasRow 13 (fun o => .if_icmp .gt o) 3 16 30 := ⟨17, by decide +kernel, rfl, by decide⟩
theorem dX1_hasRow_16 : Dk kX1_hasRow 16 (.iload_n 2) 1 17 := ⟨by decide +kernel, rfl⟩
theorem dX1_hasRow_17 : Dk kX1_hasRow 17 (.aload_n 0) 1 18 := ⟨by decide +kernel, rfl⟩
theorem dX1_hasRow_18 : Dk kX1_hasRow 18 (.getfield 19) 3 21 := ⟨by decide +kernel, rfl⟩
theorem dX1_hasRow_21 : Dk kX1_hasRow 21 (.iload_n 1) 1 22 := ⟨by decide +kernel, rfl⟩
theorem dX1_hasRow_22 : Dk kX1_hasRow 22 (.isub) 1 23 := ⟨by decide +kernel, rfl⟩
theorem dX1_hasRow_23 : Dj kX1_hasRow 23 (fun o => .if_icmp .gt o) 3 26 30 := ⟨7, by decide +kernel, rfl, by decide⟩
theorem dX1_hasRow_26 : Dk kX1_hasRow 26 (.iconst 1) 1 27 := ⟨by decide +kernel, rfl⟩
theorem dX1_hasRow_27 : Dj kX1_hasRow 27 (fun o => .goto o) 3 30 31 := ⟨4, by decide +kernel, rfl, by decide⟩
theorem dX1_hasRow_30 : Dk kX1_hasRow 30 (.iconst 0) 1 31 := ⟨by decide +kernel, rfl⟩
theorem dX1_hasRow_31 : Dk kX1_hasRow 31 (.ireturn) 1 32 := ⟨by decide +kernel, rfl⟩
theorem dX1_write_0 : Dk kX1_write 0 (.iload_n 1) 1 1 := ⟨by decide +kernel, rfl⟩
theorem dX1_write_1 : Dj kX1_write 1 (fun o => .ifCond .lt o) 3 4 45 := ⟨44, by decide +kernel, rfl, by decide⟩
theorem dX1_write_4 : Dk kX1_write 4 (.iload_n 1) 1 5 := ⟨by decide +kernel, rfl⟩
theorem dX1_write_5 : Dk kX1_write 5 (.aload_n 0) 1 6 := ⟨by decide +kernel, rfl⟩
theorem dX1_write_6 : Dk kX1_write 6 (.getfield 9) 3 9 := ⟨by decide +kernel, rfl⟩
theorem dX1_write_9 : Dk kX1_write 9 (.arraylength) 1 10 := ⟨by decide +kernel, rfl⟩
theorem dX1_write_10 : Dj kX1_write 10 (fun o => .if_icmp .ge o) 3 13 45 := ⟨35, by decide +kernel, rfl, by decide⟩
theorem dX1_write_13 : Dk kX1_write 13 (.aload_n 0) 1 14 := ⟨by decide +kernel, rfl⟩
theorem dX1_write_14 : Dk kX1_write 14 (.getfield 9) 3 17 := ⟨by decide +kernel, rfl⟩
theorem dX1_write_17 : Dk kX1_write 17 (.iload_n 1) 1 18 := ⟨by decide +kernel, rfl⟩
theorem dX1_write_18 : Dk kX1_write 18 (.aload_n 0) 1 19 := ⟨by decide +kernel, rfl⟩
theorem dX1_write_19 : Dk kX1_write 19 (.getfield 15) 3 22 := ⟨by decide +kernel, rfl⟩
theorem dX1_write_22 : Dj kX1_write 22 (fun o => .ifCond .ne o) 3 25 30 := ⟨8, by decide +kernel, rfl, by decide⟩
theorem dX1_write_25 : Dk kX1_write 25 (.iload_n 2) 1 26 := ⟨by decide +kernel, rfl⟩
theorem dX1_write_26 : Dk kX1_write 26 (.i2b) 1 27 := ⟨by decide +kernel, rfl⟩
theorem dX1_write_27 : Dj kX1_write 27 (fun o => .goto o) 3 30 44 := ⟨17, by decide +kernel, rfl, by decide⟩
theorem dX1_write_30 : Dk kX1_write 30 (.aload_n 0) 1 31 := ⟨by decide +kernel, rfl⟩
theorem dX1_write_31 : Dk kX1_write 31 (.getfield 15) 3 34 := ⟨by decide +kernel, rfl⟩
theorem dX1_write_34 : Dk kX1_write 34 (.iconst 1) 1 35 := ⟨by decide +kernel, rfl⟩
theorem dX1_write_35 : Dj kX1_write 35 (fun o => .if_icmp .ne o) 3 38 43 := ⟨8, by decide +kernel, rfl, by decide⟩
theorem dX1_write_38 : Dk kX1_write 38 (.iload_n 2) 1 39 := ⟨by decide +kernel, rfl⟩
theorem dX1_write_39 : Dk kX1_write 39 (.i2s) 1 40 := ⟨by decide +kernel, rfl⟩
theorem dX1_write_40 : Dj kX1_write 40 (fun o => .goto o) 3 43 44 := ⟨4, by decide +kernel, rfl, by decide⟩
theorem dX1_write_43 : Dk kX1_write 43 (.iload_n 2) 1 44 := ⟨by decide +kernel, rfl⟩
theorem dX1_write_44 : Dk kX1_write 44 (.iastore) 1 45 := ⟨by decide +kernel, rfl⟩
theorem dX1_write_45 : Dk kX1_write 45 (.return_) 1 46 := ⟨by decide +kernel, rfl⟩
theorem dX2_init_0 : Dk kX2_init 0 (.aload_n 0) 1 1 := ⟨by decide +kernel, rfl⟩
theorem dX2_init_1 : Dk kX2_init 1 (.invokespecial 3) 3 4 := ⟨by decide +kernel, rfl⟩
theorem dX2_init_4 : Dk kX2_init 4 (.aload_n 0) 1 5 := ⟨by decide +kernel, rfl⟩
theorem dX2_init_5 : Dk kX2_init 5 (.sipush 160) 3 8 := ⟨by decide +kernel, rfl⟩
theorem dX2_init_8 : Dk kX2_init 8 (.newarray .int) 2 10 := ⟨by decide +kernel, rfl⟩
theorem dX2_init_10 : Dk kX2_init 10 (.putfield 9) 3 13 := ⟨by decide +kernel, rfl⟩
theorem dX2_init_13 : Dk kX2_init 13 (.aload_n 0) 1 14 := ⟨by decide +kernel, rfl⟩
theorem dX2_init_14 : Dk kX2_init 14 (.iconst 0) 1 15 := ⟨by decide +kernel, rfl⟩
theorem dX2_init_15 : Dk kX2_init 15 (.putfield 15) 3 18 := ⟨by decide +kernel, rfl⟩
theorem dX2_init_18 : Dk kX2_init 18 (.aload_n 0) 1 19 := ⟨by decide +kernel, rfl⟩
theorem dX2_init_19 : Dk kX2_init 19 (.iconst 0) 1 20 := ⟨by decide +kernel, rfl⟩
theorem dX2_init_20 : Dk kX2_init 20 (.putfield 19) 3 23 := ⟨by decide +kernel, rfl⟩
theorem dX2_init_23 : Dk kX2_init 23 (.aload_n 0) 1 24 := ⟨by decide +kernel, rfl⟩
theorem dX2_init_24 : Dk kX2_init 24 (.iconst 0) 1 25 := ⟨by decide +kernel, rfl⟩
theorem dX2_init_25 : Dk kX2_init 25 (.putfield 22) 3 28 := ⟨by decide +kernel, rfl⟩
theorem dX2_init_28 : Dk kX2_init 28 (.aload_n 0) 1 29 := ⟨by decide +kernel, rfl⟩
theorem dX2_init_29 : Dk kX2_init 29 (.iconst (-1)) 1 30 := ⟨by decide +kernel, rfl⟩
theorem dX2_init_30 : Dk kX2_init 30 (.putfield 25) 3 33 := ⟨by decide +kernel, rfl⟩
theorem dX2_init_33 : Dk kX2_init 33 (.aload_n 0) 1 34 := ⟨by decide +kernel, rfl⟩
theorem dX2_init_34 : Dk kX2_init 34 (.iconst 0) 1 35 := ⟨by decide +kernel, rfl⟩
theorem dX2_init_35 : Dk kX2_init 35 (.putfield 28) 3 38 := ⟨by decide +kernel, rfl⟩
theorem dX2_init_38 : Dk kX2_init 38 (.return_) 1 39 := ⟨by decide +kernel, rfl⟩
theorem dX2_add_0 : Dk kX2_add 0 (.aload_n 0) 1 1 := ⟨by decide +kernel, rfl⟩
theorem dX2_add_1 : Dk kX2_add 1 (.getfield 15) 3 4 := ⟨by decide +kernel, rfl⟩
theorem dX2_add_4 : Dk kX2_add 4 (.aload_n 0) 1 5 := ⟨by decide +kernel, rfl⟩
theorem dX2_add_5 : Dk kX2_add 5 (.getfield 9) 3 8 := ⟨by decide +kernel, rfl⟩
theorem dX2_add_8 : Dk kX2_add 8 (.arraylength) 1 9 := ⟨by decide +kernel, rfl⟩
theorem dX2_add_9 : Dj kX2_add 9 (fun o => .if_icmp .ge o) 3 12 32 := ⟨23, by decide +kernel, rfl, by decide⟩
theorem dX2_add_12 : Dk kX2_add 12 (.aload_n 0) 1 13 := ⟨by decide +kernel, rfl⟩
theorem dX2_add_13 : Dk kX2_add 13 (.getfield 9) 3 16 := ⟨by decide +kernel, rfl⟩
theorem dX2_add_16 : Dk kX2_add 16 (.aload_n 0) 1 17 := ⟨by decide +kernel, rfl⟩
theorem dX2_add_17 : Dk kX2_add 17 (.getfield 15) 3 20 := ⟨by decide +kernel, rfl⟩
theorem dX2_add_20 : Dk kX2_add 20 (.iload_n 1) 1 21 := ⟨by decide +kernel, rfl⟩
theorem dX2_add_21 : Dk kX2_add 21 (.iastore) 1 22 := ⟨by decide +kernel, rfl⟩
theorem dX2_add_22 : Dk kX2_add 22 (.aload_n 0) 1 23 := ⟨by decide +kernel, rfl⟩
theorem dX2_add_23 : Dk kX2_add 23 (.dup) 1 24 := ⟨by decide +kernel, rfl⟩
theorem dX2_add_24 : Dk kX2_add 24 (.getfield 15) 3 27 := ⟨by decide +kernel, rfl⟩
theorem dX2_add_27 : Dk kX2_add 27 (.iconst 1) 1 28 := ⟨by decide +kernel, rfl⟩
theorem dX2_add_28 : Dk kX2_add 28 (.iadd) 1 29 := ⟨by decide +kernel, rfl⟩
theorem dX2_add_29 : Dk kX2_add 29 (.putfield 15) 3 32 := ⟨by decide +kernel, rfl⟩
theorem dX2_add_32 : Dk kX2_add 32 (.return_) 1 33 := ⟨by decide +kernel, rfl⟩
theorem dX2_rewind_0 : Dk kX2_rewind 0 (.aload_n 0) 1 1 := ⟨by decide +kernel, rfl⟩
theorem dX2_rewind_1 : Dk kX2_rewind 1 (.iconst 0) 1 2 := ⟨by decide +kernel, rfl⟩
theorem dX2_rewind_2 : Dk kX2_rewind 2 (.putfield 19) 3 5 := ⟨by decide +kernel, rfl⟩
theorem dX2_rewind_5 : Dk kX2_rewind 5 (.aload_n 0) 1 6 := ⟨by decide +kernel, rfl⟩
theorem dX2_rewind_6 : Dk kX2_rewind 6 (.invokevirtual 31) 3 9 := ⟨by decide +kernel, rfl⟩
theorem dX2_rewind_9 : Dk kX2_rewind 9 (.return_) 1 10 := ⟨by decide +kernel, rfl⟩
theorem dX2_advance_0 : Dk kX2_advance 0 (.aload_n 0) 1 1 := ⟨by decide +kernel, rfl⟩
theorem dX2_advance_1 : Dk kX2_advance 1 (.getfield 19) 3 4 := ⟨by decide +kernel, rfl⟩
theorem dX2_advance_4 : Dk kX2_advance 4 (.aload_n 0) 1 5 := ⟨by decide +kernel, rfl⟩
theorem dX2_advance_5 : Dk kX2_advance 5 (.getfield 15) 3 8 := ⟨by decide +kernel, rfl⟩
theorem dX2_advance_8 : Dj kX2_advance 8 (fun o => .if_icmp .ge o) 3 11 52 := ⟨44, by decide +kernel, rfl, by decide⟩
theorem dX2_advance_11 : Dk kX2_advance 11 (.aload_n 0) 1 12 := ⟨by decide +kernel, rfl⟩
theorem dX2_advance_12 : Dk kX2_advance 12 (.getfield 9) 3 15 := ⟨by decide +kernel, rfl⟩
theorem dX2_advance_15 : Dk kX2_advance 15 (.aload_n 0) 1 16 := ⟨by decide +kernel, rfl⟩
theorem dX2_advance_16 : Dk kX2_advance 16 (.getfield 19) 3 19 := ⟨by decide +kernel, rfl⟩
theorem dX2_advance_19 : Dk kX2_advance 19 (.iaload) 1 20 := ⟨by decide +kernel, rfl⟩
theorem dX2_advance_20 : Dk kX2_advance 20 (.bipush 32) 2 22 := ⟨by decide +kernel, rfl⟩
theorem dX2_advance_22 : Dj kX2_advance 22 (fun o => .if_icmp .eq o) 3 25 39 := ⟨17, by decide +kernel, rfl, by decide⟩
theorem dX2_advance_25 : Dk kX2_advance 25 (.aload_n 0) 1 26 := ⟨by decide +kernel, rfl⟩
theorem dX2_advance_26 : Dk kX2_advance 26 (.getfield 9) 3 29 := ⟨by decide +kernel, rfl⟩
theorem dX2_advance_29 : Dk kX2_advance 29 (.aload_n 0) 1 30 := ⟨by decide +kernel, rfl⟩
theorem dX2_advance_30 : Dk kX2_advance 30 (.getfield 19) 3 33 := ⟨by decide +kernel, rfl⟩
theorem dX2_advance_33 : Dk kX2_advance 33 (.iaload) 1 34 := ⟨by decide +kernel, rfl⟩
theorem dX2_advance_34 : Dk kX2_advance 34 (.bipush 10) 2 36 := ⟨by decide +kernel, rfl⟩
theorem dX2_advance_36 : Dj kX2_advance 36 (fun o => .if_icmp .ne o) 3 39 52 := ⟨16, by decide +kernel, rfl, by decide⟩
theorem dX2_advance_39 : Dk kX2_advance 39 (.aload_n 0) 1 40 := ⟨by decide +kernel, rfl⟩
theorem dX2_advance_40 : Dk kX2_advance 40 (.dup) 1 41 := ⟨by decide +kernel, rfl⟩
theorem dX2_advance_41 : Dk kX2_advance 41 (.getfield 19) 3 44 := ⟨by decide +kernel, rfl⟩
theorem dX2_advance_44 : Dk kX2_advance 44 (.iconst 1) 1 45 := ⟨by decide +kernel, rfl⟩
theorem dX2_advance_45 : Dk kX2_advance 45 (.iadd) 1 46 := ⟨by decide +kernel, rfl⟩
theorem dX2_advance_46 : Dk kX2_advance 46 (.putfield 19) 3 49 := ⟨by decide +kernel, rfl⟩
theorem dX2_advance_49 : Dj kX2_advance 49 (fun o => .goto o) 3 52 0 := ⟨-49, by decide +kernel, rfl, by decide⟩
theorem dX2_advance_52 : Dk kX2_advance 52 (.aload_n 0) 1 53 := ⟨by decide +kernel, rfl⟩
theorem dX2_advance_53 : Dk kX2_advance 53 (.aload_n 0) 1 54 := ⟨by decide +kernel, rfl⟩
theorem dX2_advance_54 : Dk kX2_advance 54 (.getfield 19) 3 57 := ⟨by decide +kernel, rfl⟩
theorem dX2_advance_57 : Dk kX2_advance 57 (.putfield 22) 3 60 := ⟨by decide +kernel, rfl⟩
theorem dX2_advance_60 : Dk kX2_advance 60 (.aload_n 0) 1 61 := ⟨by decide +kernel, rfl⟩
theorem dX2_advance_61 : Dk kX2_advance 61 (.getfield 19) 3 64 := ⟨by decide +kernel, rfl⟩
theorem dX2_advance_64 : Dk kX2_advance 64 (.aload_n 0) 1 65 := ⟨by decide +kernel, rfl⟩
theorem dX2_advance_65 : Dk kX2_advance 65 (.getfield 15) 3 68 := ⟨by decide +kernel, rfl⟩
theorem dX2_advance_68 : Dj kX2_advance 68 (fun o => .if_icmp .lt o) 3 71 79 := ⟨11, by decide +kernel, rfl, by decide⟩
theorem dX2_advance_71 : Dk kX2_advance 71 (.aload_n 0) 1 72 := ⟨by decide +kernel, rfl⟩
theorem dX2_advance_72 : Dk kX2_advance 72 (.iconst (-1)) 1 73 := ⟨by decide +kernel, rfl⟩
theorem dX2_advance_73 : Dk kX2_advance 73 (.putfield 25) 3 76 := ⟨by decide +kernel, rfl⟩
theorem dX2_advance_76 : Dj kX2_advance 76 (fun o => .goto o) 3 79 166 := ⟨90, by decide +kernel, rfl, by decide⟩
theorem dX2_advance_79 : Dk kX2_advance 79 (.aload_n 0) 1 80 := ⟨by decide +kernel, rfl⟩
theorem dX2_advance_80 : Dk kX2_advance 80 (.getfield 9) 3 83 := ⟨by decide +kernel, rfl⟩
theorem dX2_advance_83 : Dk kX2_advance 83 (.aload_n 0) 1 84 := ⟨by decide +kernel, rfl⟩
theorem dX2_advance_84 : Dk kX2_advance 84 (.getfield 19) 3 87 := ⟨by decide +kernel, rfl⟩
theorem dX2_advance_87 : Dk kX2_advance 87 (.iaload) 1 88 := ⟨by decide +kernel, rfl⟩
theorem dX2_advance_88 : Dk kX2_advance 88 (.invokestatic 34) 3 91 := ⟨by decide +kernel, rfl⟩
theorem dX2_advance_91 : Dj kX2_advance 91 (fun o => .ifCond .eq o) 3 94 101 := ⟨10, by decide +kernel, rfl, by decide⟩
theorem dX2_advance_94 : Dk kX2_advance 94 (.aload_n 0) 1 95 := ⟨by decide +kernel, rfl⟩
theorem dX2_advance_95 : Dk kX2_advance 95 (.invokevirtual 38) 3 98 := ⟨by decide +kernel, rfl⟩
theorem dX2_advance_98 : Dj kX2_advance 98 (fun o => .goto o) 3 101 166 := ⟨68, by decide +kernel, rfl, by decide⟩
theorem dX2_advance_101 : Dk kX2_advance 101 (.aload_n 0) 1 102 := ⟨by decide +kernel, rfl⟩
theorem dX2_advance_102 : Dk kX2_advance 102 (.getfield 9) 3 105 := ⟨by decide +kernel, rfl⟩
theorem dX2_advance_105 : Dk kX2_advance 105 (.aload_n 0) 1 106 := ⟨by decide +kernel, rfl⟩
theorem dX2_advance_106 : Dk kX2_advance 106 (.getfield 19) 3 109 := ⟨by decide +kernel, rfl⟩
theorem dX2_advance_109 : Dk kX2_advance 109 (.iaload) 1 110 := ⟨by decide +kernel, rfl⟩
theorem dX2_advance_110 : Dk kX2_advance 110 (.invokestatic 41) 3 113 := ⟨by decide +kernel, rfl⟩
theorem dX2_advance_113 : Dj kX2_advance 113 (fun o => .ifCond .eq o) 3 116 123 := ⟨10, by decide +kernel, rfl, by decide⟩
theorem dX2_advance_116 : Dk kX2_advance 116 (.aload_n 0) 1 117 := ⟨by decide +kernel, rfl⟩
theorem dX2_advance_117 : Dk kX2_advance 117 (.invokevirtual 44) 3 120 := ⟨by decide +kernel, rfl⟩
theorem dX2_advance_120 : Dj kX2_advance 120 (fun o => .goto o) 3 123 166 := ⟨46, by decide +kernel, rfl, by decide⟩
theorem dX2_advance_123 : Dk kX2_advance 123 (.aload_n 0) 1 124 := ⟨by decide +kernel, rfl⟩
theorem dX2_advance_124 : Dk kX2_advance 124 (.aload_n 0) 1 125 := ⟨by decide +kernel, rfl⟩
theorem dX2_advance_125 : Dk kX2_advance 125 (.getfield 9) 3 128 := ⟨by decide +kernel, rfl⟩
theorem dX2_advance_128 : Dk kX2_advance 128 (.aload_n 0) 1 129 := ⟨by decide +kernel, rfl⟩
theorem dX2_advance_129 : Dk kX2_advance 129 (.getfield 19) 3 132 := ⟨by decide +kernel, rfl⟩
theorem dX2_advance_132 : Dk kX2_advance 132 (.iaload) 1 133 := ⟨by decide +kernel, rfl⟩
theorem dX2_advance_133 : Dk kX2_advance 133 (.invokestatic 47) 3 136 := ⟨by decide +kernel, rfl⟩
theorem dX2_advance_136 : Dj kX2_advance 136 (fun o => .ifCond .eq o) 3 139 151 := ⟨15, by decide +kernel, rfl, by decide⟩
theorem dX2_advance_139 : Dk kX2_advance 139 (.aload_n 0) 1 140 := ⟨by decide +kernel, rfl⟩
theorem dX2_advance_140 : Dk kX2_advance 140 (.getfield 9) 3 143 := ⟨by decide +kernel, rfl⟩
theorem dX2_advance_143 : Dk kX2_advance 143 (.aload_n 0) 1 144 := ⟨by decide +kernel, rfl⟩
theorem dX2_advance_144 : Dk kX2_advance 144 (.getfield 19) 3 147 := ⟨by decide +kernel, rfl⟩
theorem dX2_advance_147 : Dk kX2_advance 147 (.iaload) 1 148 := ⟨by decide +kernel, rfl⟩
theorem dX2_advance_148 : Dj kX2_advance 148 (fun o => .goto o) 3 151 153 := ⟨5, by decide +kernel, rfl, by decide⟩
theorem dX2_advance_151 : Dk kX2_advance 151 (.bipush (-2)) 2 153 := ⟨by decide +kernel, rfl⟩
theorem dX2_advance_153 : Dk kX2_advance 153 (.putfield 25) 3 156 := ⟨by decide +kernel, rfl⟩
theorem dX2_advance_156 : Dk kX2_advance 156 (.aload_n 0) 1 157 := ⟨by decide +kernel, rfl⟩
theorem dX2_advance_157 : Dk kX2_advance 157 (.dup) 1 158 := ⟨by decide +kernel, rfl⟩
theorem dX2_advance_158 : Dk kX2_advance 158 (.getfield 19) 3 161 := ⟨by decide +kernel, rfl⟩
theorem dX2_advance_161 : Dk kX2_advance 161 (.iconst 1) 1 162 := ⟨by decide +kernel, rfl⟩
theorem dX2_advance_162 : Dk kX2_advance 162 (.iadd) 1 163 := ⟨by decide +kernel, rfl⟩
theorem dX2_advance_163 : Dk kX2_advance 163 (.putfield 19) 3 166 := ⟨by decide +kernel, rfl⟩
theorem dX2_advance_166 : Dk kX2_advance 166 (.return_) 1 167 := ⟨by decide +kernel, rfl⟩
theorem dX2_readWord_0 : Dk kX2_readWord 0 (.aload_n 0) 1 1 := ⟨by decide +kernel, rfl⟩
theorem dX2_readWord_1 : Dk kX2_readWord 1 (.getfield 19) 3 4 := ⟨by decide +kernel, rfl⟩
theorem dX2_readWord_4 : Dk kX2_readWord 4 (.aload_n 0) 1 5 := ⟨by decide +kernel, rfl⟩
theorem dX2_readWord_5 : Dk kX2_readWord 5 (.getfield 15) 3 8 := ⟨by decide +kernel, rfl⟩
theorem dX2_readWord_8 : Dj kX2_readWord 8 (fun o => .if_icmp .ge o) 3 11 39 := ⟨31, by decide +kernel, rfl, by decide⟩
theorem dX2_readWord_11 : Dk kX2_readWord 11 (.aload_n 0) 1 12 := ⟨by decide +kernel, rfl⟩
theorem dX2_readWord_12 : Dk kX2_readWord 12 (.getfield 9) 3 15 := ⟨by decide +kernel, rfl⟩
theorem dX2_readWord_15 : Dk kX2_readWord 15 (.aload_n 0) 1 16 := ⟨by decide +kernel, rfl⟩
theorem dX2_readWord_16 : Dk kX2_readWord 16 (.getfield 19) 3 19 := ⟨by decide +kernel, rfl⟩
theorem dX2_readWord_19 : Dk kX2_readWord 19 (.iaload) 1 20 := ⟨by decide +kernel, rfl⟩
theorem dX2_readWord_20 : Dk kX2_readWord 20 (.invokestatic 34) 3 23 := ⟨by decide +kernel, rfl⟩
theorem dX2_readWord_23 : Dj kX2_readWord 23 (fun o => .ifCond .eq o) 3 26 39 := ⟨16, by decide +kernel, rfl, by decide⟩
theorem dX2_readWord_26 : Dk kX2_readWord 26 (.aload_n 0) 1 27 := ⟨by decide +kernel, rfl⟩
theorem dX2_readWord_27 : Dk kX2_readWord 27 (.dup) 1 28 := ⟨by decide +kernel, rfl⟩
theorem dX2_readWord_28 : Dk kX2_readWord 28 (.getfield 19) 3 31 := ⟨by decide +kernel, rfl⟩
theorem dX2_readWord_31 : Dk kX2_readWord 31 (.iconst 1) 1 32 := ⟨by decide +kernel, rfl⟩
theorem dX2_readWord_32 : Dk kX2_readWord 32 (.iadd) 1 33 := ⟨by decide +kernel, rfl⟩
theorem dX2_readWord_33 : Dk kX2_readWord 33 (.putfield 19) 3 36 := ⟨by decide +kernel, rfl⟩
theorem dX2_readWord_36 : Dj kX2_readWord 36 (fun o => .goto o) 3 39 0 := ⟨-36, by decide +kernel, rfl, by decide⟩
theorem dX2_readWord_39 : Dk kX2_readWord 39 (.aload_n 0) 1 40 := ⟨by decide +kernel, rfl⟩
theorem dX2_readWord_40 : Dk kX2_readWord 40 (.aload_n 0) 1 41 := ⟨by decide +kernel, rfl⟩
theorem dX2_readWord_41 : Dk kX2_readWord 41 (.ldc 50) 2 43 := ⟨by decide +kernel, rfl⟩
theorem dX2_readWord_43 : Dk kX2_readWord 43 (.invokevirtual 52) 3 46 := ⟨by decide +kernel, rfl⟩
theorem dX2_readWord_46 : Dj kX2_readWord 46 (fun o => .ifCond .eq o) 3 49 55 := ⟨9, by decide +kernel, rfl, by decide⟩
theorem dX2_readWord_49 : Dk kX2_readWord 49 (.sipush 256) 3 52 := ⟨by decide +kernel, rfl⟩
theorem dX2_readWord_52 : Dj kX2_readWord 52 (fun o => .goto o) 3 55 222 := ⟨170, by decide +kernel, rfl, by decide⟩
theorem dX2_readWord_55 : Dk kX2_readWord 55 (.aload_n 0) 1 56 := ⟨by decide +kernel, rfl⟩
theorem dX2_readWord_56 : Dk kX2_readWord 56 (.ldc 56) 2 58 := ⟨by decide +kernel, rfl⟩
theorem dX2_readWord_58 : Dk kX2_readWord 58 (.invokevirtual 52) 3 61 := ⟨by decide +kernel, rfl⟩
theorem dX2_readWord_61 : Dj kX2_readWord 61 (fun o => .ifCond .eq o) 3 64 70 := ⟨9, by decide +kernel, rfl, by decide⟩
theorem dX2_readWord_64 : Dk kX2_readWord 64 (.sipush 257) 3 67 := ⟨by decide +kernel, rfl⟩
theorem dX2_readWord_67 : Dj kX2_readWord 67 (fun o => .goto o) 3 70 222 := ⟨155, by decide +kernel, rfl, by decide⟩
theorem dX2_readWord_70 : Dk kX2_readWord 70 (.aload_n 0) 1 71 := ⟨by decide +kernel, rfl⟩
theorem dX2_readWord_71 : Dk kX2_readWord 71 (.ldc 58) 2 73 := ⟨by decide +kernel, rfl⟩
theorem dX2_readWord_73 : Dk kX2_readWord 73 (.invokevirtual 52) 3 76 := ⟨by decide +kernel, rfl⟩
theorem dX2_readWord_76 : Dj kX2_readWord 76 (fun o => .ifCond .eq o) 3 79 85 := ⟨9, by decide +kernel, rfl, by decide⟩
theorem dX2_readWord_79 : Dk kX2_readWord 79 (.sipush 258) 3 82 := ⟨by decide +kernel, rfl⟩
theorem dX2_readWord_82 : Dj kX2_readWord 82 (fun o => .goto o) 3 85 222 := ⟨140, by decide +kernel, rfl, by decide⟩
theorem dX2_readWord_85 : Dk kX2_readWord 85 (.aload_n 0) 1 86 := ⟨by decide +kernel, rfl⟩
theorem dX2_readWord_86 : Dk kX2_readWord 86 (.ldc 60) 2 88 := ⟨by decide +kernel, rfl⟩
theorem dX2_readWord_88 : Dk kX2_readWord 88 (.invokevirtual 52) 3 91 := ⟨by decide +kernel, rfl⟩
theorem dX2_readWord_91 : Dj kX2_readWord 91 (fun o => .ifCond .eq o) 3 94 100 := ⟨9, by decide +kernel, rfl, by decide⟩
theorem dX2_readWord_94 : Dk kX2_readWord 94 (.sipush 259) 3 97 := ⟨by decide +kernel, rfl⟩
theorem dX2_readWord_97 : Dj kX2_readWord 97 (fun o => .goto o) 3 100 222 := ⟨125, by decide +kernel, rfl, by decide⟩
theorem dX2_readWord_100 : Dk kX2_readWord 100 (.aload_n 0) 1 101 := ⟨by decide +kernel, rfl⟩
theorem dX2_readWord_101 : Dk kX2_readWord 101 (.ldc 62) 2 103 := ⟨by decide +kernel, rfl⟩
theorem dX2_readWord_103 : Dk kX2_readWord 103 (.invokevirtual 52) 3 106 := ⟨by decide +kernel, rfl⟩
theorem dX2_readWord_106 : Dj kX2_readWord 106 (fun o => .ifCond .eq o) 3 109 115 := ⟨9, by decide +kernel, rfl, by decide⟩
theorem dX2_readWord_109 : Dk kX2_readWord 109 (.sipush 260) 3 112 := ⟨by decide +kernel, rfl⟩
theorem dX2_readWord_112 : Dj kX2_readWord 112 (fun o => .goto o) 3 115 222 := ⟨110, by decide +kernel, rfl, by decide⟩
theorem dX2_readWord_115 : Dk kX2_readWord 115 (.aload_n 0) 1 116 := ⟨by decide +kernel, rfl⟩
theorem dX2_readWord_116 : Dk kX2_readWord 116 (.ldc 64) 2 118 := ⟨by decide +kernel, rfl⟩
theorem dX2_readWord_118 : Dk kX2_readWord 118 (.invokevirtual 52) 3 121 := ⟨by decide +kernel, rfl⟩
theorem dX2_readWord_121 : Dj kX2_readWord 121 (fun o => .ifCond .eq o) 3 124 130 := ⟨9, by decide +kernel, rfl, by decide⟩
theorem dX2_readWord_124 : Dk kX2_readWord 124 (.sipush 261) 3 127 := ⟨by decide +kernel, rfl⟩
theorem dX2_readWord_127 : Dj kX2_readWord 127 (fun o => .goto o) 3 130 222 := ⟨95, by decide +kernel, rfl, by decide⟩
theorem dX2_readWord_130 : Dk kX2_readWord 130 (.aload_n 0) 1 131 := ⟨by decide +kernel, rfl⟩
theorem dX2_readWord_131 : Dk kX2_readWord 131 (.ldc 66) 2 133 := ⟨by decide +kernel, rfl⟩
theorem dX2_readWord_133 : Dk kX2_readWord 133 (.invokevirtual 52) 3 136 := ⟨by decide +kernel, rfl⟩
theorem dX2_readWord_136 : Dj kX2_readWord 136 (fun o => .ifCond .eq o) 3 139 145 := ⟨9, by decide +kernel, rfl, by decide⟩
theorem dX2_readWord_139 : Dk kX2_readWord 139 (.sipush 262) 3 142 := ⟨by decide +kernel, rfl⟩
theorem dX2_readWord_142 : Dj kX2_readWord 142 (fun o => .goto o) 3 145 222 := ⟨80, by decide +kernel, rfl, by decide⟩
theorem dX2_readWord_145 : Dk kX2_readWord 145 (.aload_n 0) 1 146 := ⟨by decide +kernel, rfl⟩
theorem dX2_readWord_146 : Dk kX2_readWord 146 (.ldc 68) 2 148 := ⟨by decide +kernel, rfl⟩
theorem dX2_readWord_148 : Dk kX2_readWord 148 (.invokevirtual 52) 3 151 := ⟨by decide +kernel, rfl⟩
theorem dX2_readWord_151 : Dj kX2_readWord 151 (fun o => .ifCond .eq o) 3 154 160 := ⟨9, by decide +kernel, rfl, by decide⟩
theorem dX2_readWord_154 : Dk kX2_readWord 154 (.sipush 263) 3 157 := ⟨by decide +kernel, rfl⟩
theorem dX2_readWord_157 : Dj kX2_readWord 157 (fun o => .goto o) 3 160 222 := ⟨65, by decide +kernel, rfl, by decide⟩
theorem dX2_readWord_160 : Dk kX2_readWord 160 (.aload_n 0) 1 161 := ⟨by decide +kernel, rfl⟩
theorem dX2_readWord_161 : Dk kX2_readWord 161 (.ldc 70) 2 163 := ⟨by decide +kernel, rfl⟩
theorem dX2_readWord_163 : Dk kX2_readWord 163 (.invokevirtual 52) 3 166 := ⟨by decide +kernel, rfl⟩
theorem dX2_readWord_166 : Dj kX2_readWord 166 (fun o => .ifCond .eq o) 3 169 175 := ⟨9, by decide +kernel, rfl, by decide⟩
theorem dX2_readWord_169 : Dk kX2_readWord 169 (.sipush 264) 3 172 := ⟨by decide +kernel, rfl⟩
theorem dX2_readWord_172 : Dj kX2_readWord 172 (fun o => .goto o) 3 175 222 := ⟨50, by decide +kernel, rfl, by decide⟩
theorem dX2_readWord_175 : Dk kX2_readWord 175 (.aload_n 0) 1 176 := ⟨by decide +kernel, rfl⟩
theorem dX2_readWord_176 : Dk kX2_readWord 176 (.ldc 72) 2 178 := ⟨by decide +kernel, rfl⟩
theorem dX2_readWord_178 : Dk kX2_readWord 178 (.invokevirtual 52) 3 181 := ⟨by decide +kernel, rfl⟩
theorem dX2_readWord_181 : Dj kX2_readWord 181 (fun o => .ifCond .eq o) 3 184 190 := ⟨9, by decide +kernel, rfl, by decide⟩
theorem dX2_readWord_184 : Dk kX2_readWord 184 (.sipush 265) 3 187 := ⟨by decide +kernel, rfl⟩
theorem dX2_readWord_187 : Dj kX2_readWord 187 (fun o => .goto o) 3 190 222 := ⟨35, by decide +kernel, rfl, by decide⟩
theorem dX2_readWord_190 : Dk kX2_readWord 190 (.aload_n 0) 1 191 := ⟨by decide +kernel, rfl⟩
theorem dX2_readWord_191 : Dk kX2_readWord 191 (.ldc 74) 2 193 := ⟨by decide +kernel, rfl⟩
theorem dX2_readWord_193 : Dk kX2_readWord 193 (.invokevirtual 52) 3 196 := ⟨by decide +kernel, rfl⟩
theorem dX2_readWord_196 : Dj kX2_readWord 196 (fun o => .ifCond .eq o) 3 199 205 := ⟨9, by decide +kernel, rfl, by decide⟩
theorem dX2_readWord_199 : Dk kX2_readWord 199 (.sipush 266) 3 202 := ⟨by decide +kernel, rfl⟩
theorem dX2_readWord_202 : Dj kX2_readWord 202 (fun o => .goto o) 3 205 222 := ⟨20, by decide +kernel, rfl, by decide⟩
theorem dX2_readWord_205 : Dk kX2_readWord 205 (.aload_n 0) 1 206 := ⟨by decide +kernel, rfl⟩
theorem dX2_readWord_206 : Dk kX2_readWord 206 (.ldc 76) 2 208 := ⟨by decide +kernel, rfl⟩
theorem dX2_readWord_208 : Dk kX2_readWord 208 (.invokevirtual 52) 3 211 := ⟨by decide +kernel, rfl⟩
theorem dX2_readWord_211 : Dj kX2_readWord 211 (fun o => .ifCond .eq o) 3 214 220 := ⟨9, by decide +kernel, rfl, by decide⟩
theorem dX2_readWord_214 : Dk kX2_readWord 214 (.sipush 267) 3 217 := ⟨by decide +kernel, rfl⟩
theorem dX2_readWord_217 : Dj kX2_readWord 217 (fun o => .goto o) 3 220 222 := ⟨5, by decide +kernel, rfl, by decide⟩
theorem dX2_readWord_220 : Dk kX2_readWord 220 (.bipush (-2)) 2 222 := ⟨by decide +kernel, rfl⟩
theorem dX2_readWord_222 : Dk kX2_readWord 222 (.putfield 25) 3 225 := ⟨by decide +kernel, rfl⟩
theorem dX2_readWord_225 : Dk kX2_readWord 225 (.return_) 1 226 := ⟨by decide +kernel, rfl⟩
theorem dX2_spells_0 : Dk kX2_spells 0 (.aload_n 0) 1 1 := ⟨by decide +kernel, rfl⟩
theorem dX2_spells_1 : Dk kX2_spells 1 (.getfield 19) 3 4 := ⟨by decide +kernel, rfl⟩
theorem dX2_spells_4 : Dk kX2_spells 4 (.aload_n 0) 1 5 := ⟨by decide +kernel, rfl⟩
theorem dX2_spells_5 : Dk kX2_spells 5 (.getfield 22) 3 8 := ⟨by decide +kernel, rfl⟩
theorem dX2_spells_8 : Dk kX2_spells 8 (.isub) 1 9 := ⟨by decide +kernel, rfl⟩
theorem dX2_spells_9 : Dk kX2_spells 9 (.aload_n 1) 1 10 := ⟨by decide +kernel, rfl⟩
theorem dX2_spells_10 : Dk kX2_spells 10 (.invokevirtual 78) 3 13 := ⟨by decide +kernel, rfl⟩
theorem dX2_spells_13 : Dj kX2_spells 13 (fun o => .if_icmp .eq o) 3 16 18 := ⟨5, by decide +kernel, rfl, by decide⟩
theorem dX2_spells_16 : Dk kX2_spells 16 (.iconst 0) 1 17 := ⟨by decide +kernel, rfl⟩
theorem dX2_spells_17 : Dk kX2_spells 17 (.ireturn) 1 18 := ⟨by decide +kernel, rfl⟩
theorem dX2_spells_18 : Dk kX2_spells 18 (.iconst 0) 1 19 := ⟨by decide +kernel, rfl⟩
theorem dX2_spells_19 : Dk kX2_spells 19 (.istore_n 2) 1 20 := ⟨by decide +kernel, rfl⟩
theorem dX2_spells_20 : Dk kX2_spells 20 (.iload_n 2) 1 21 := ⟨by decide +kernel, rfl⟩
theorem dX2_spells_21 : Dk kX2_spells 21 (.aload_n 1) 1 22 := ⟨by decide +kernel, rfl⟩
theorem dX2_spells_22 : Dk kX2_spells 22 (.invokevirtual 78) 3 25 := ⟨by decide +kernel, rfl⟩
theorem dX2_spells_25 : Dj kX2_spells 25 (fun o => .if_icmp .ge o) 3 28 55 := ⟨30, by decide +kernel, rfl, by decide⟩
theorem dX2_spells_28 : Dk kX2_spells 28 (.aload_n 0) 1 29 := ⟨by decide +kernel, rfl⟩
theorem dX2_spells_29 : Dk kX2_spells 29 (.getfield 9) 3 32 := ⟨by decide +kernel, rfl⟩
theorem dX2_spells_32 : Dk kX2_spells 32 (.aload_n 0) 1 33 := ⟨by decide +kernel, rfl⟩
theorem dX2_spells_33 : Dk kX2_spells 33 (.getfield 22) 3 36 := ⟨by decide +kernel, rfl⟩
theorem dX2_spells_36 : Dk kX2_spells 36 (.iload_n 2) 1 37 := ⟨by decide +kernel, rfl⟩
theorem dX2_spells_37 : Dk kX2_spells 37 (.iadd) 1 38 := ⟨by decide +kernel, rfl⟩
theorem dX2_spells_38 : Dk kX2_spells 38 (.iaload) 1 39 := ⟨by decide +kernel, rfl⟩
theorem dX2_spells_39 : Dk kX2_spells 39 (.aload_n 1) 1 40 := ⟨by decide +kernel, rfl⟩
theorem dX2_spells_40 : Dk kX2_spells 40 (.iload_n 2) 1 41 := ⟨by decide +kernel, rfl⟩
theorem dX2_spells_41 : Dk kX2_spells 41 (.invokevirtual 84) 3 44 := ⟨by decide +kernel, rfl⟩
theorem dX2_spells_44 : Dj kX2_spells 44 (fun o => .if_icmp .eq o) 3 47 49 := ⟨5, by decide +kernel, rfl, by decide⟩
theorem dX2_spells_47 : Dk kX2_spells 47 (.iconst 0) 1 48 := ⟨by decide +kernel, rfl⟩
theorem dX2_spells_48 : Dk kX2_spells 48 (.ireturn) 1 49 := ⟨by decide +kernel, rfl⟩
theorem dX2_spells_49 : Dk kX2_spells 49 (.iinc 2 1) 3 52 := ⟨by decide +kernel, rfl⟩
theorem dX2_spells_52 : Dj kX2_spells 52 (fun o => .goto o) 3 55 20 := ⟨-32, by decide +kernel, rfl, by decide⟩
theorem dX2_spells_55 : Dk kX2_spells 55 (.iconst 1) 1 56 := ⟨by decide +kernel, rfl⟩
theorem dX2_spells_56 : Dk kX2_spells 56 (.ireturn) 1 57 := ⟨by decide +kernel, rfl⟩
theorem dX2_readNumber_0 : Dk kX2_readNumber 0 (.aload_n 0) 1 1 := ⟨by decide +kernel, rfl⟩
theorem dX2_readNumber_1 : Dk kX2_readNumber 1 (.iconst 0) 1 2 := ⟨by decide +kernel, rfl⟩
theorem dX2_readNumber_2 : Dk kX2_readNumber 2 (.putfield 28) 3 5 := ⟨by decide +kernel, rfl⟩
theorem dX2_readNumber_5 : Dk kX2_readNumber 5 (.aload_n 0) 1 6 := ⟨by decide +kernel, rfl⟩
theorem dX2_readNumber_6 : Dk kX2_readNumber 6 (.getfield 19) 3 9 := ⟨by decide +kernel, rfl⟩
theorem dX2_readNumber_9 : Dk kX2_readNumber 9 (.aload_n 0) 1 10 := ⟨by decide +kernel, rfl⟩
theorem dX2_readNumber_10 : Dk kX2_readNumber 10 (.getfield 15) 3 13 := ⟨by decide +kernel, rfl⟩
theorem dX2_readNumber_13 : Dj kX2_readNumber 13 (fun o => .if_icmp .ge o) 3 16 68 := ⟨55, by decide +kernel, rfl, by decide⟩
theorem dX2_readNumber_16 : Dk kX2_readNumber 16 (.aload_n 0) 1 17 := ⟨by decide +kernel, rfl⟩
theorem dX2_readNumber_17 : Dk kX2_readNumber 17 (.getfield 9) 3 20 := ⟨by decide +kernel, rfl⟩
theorem dX2_readNumber_20 : Dk kX2_readNumber 20 (.aload_n 0) 1 21 := ⟨by decide +kernel, rfl⟩
theorem dX2_readNumber_21 : Dk kX2_readNumber 21 (.getfield 19) 3 24 := ⟨by decide +kernel, rfl⟩
theorem dX2_readNumber_24 : Dk kX2_readNumber 24 (.iaload) 1 25 := ⟨by decide +kernel, rfl⟩
theorem dX2_readNumber_25 : Dk kX2_readNumber 25 (.invokestatic 41) 3 28 := ⟨by decide +kernel, rfl⟩
theorem dX2_readNumber_28 : Dj kX2_readNumber 28 (fun o => .ifCond .eq o) 3 31 68 := ⟨40, by decide +kernel, rfl, by decide⟩
theorem dX2_readNumber_31 : Dk kX2_readNumber 31 (.aload_n 0) 1 32 := ⟨by decide +kernel, rfl⟩
theorem dX2_readNumber_32 : Dk kX2_readNumber 32 (.bipush 10) 2 34 := ⟨by decide +kernel, rfl⟩
theorem dX2_readNumber_34 : Dk kX2_readNumber 34 (.aload_n 0) 1 35 := ⟨by decide +kernel, rfl⟩
theorem dX2_readNumber_35 : Dk kX2_readNumber 35 (.getfield 28) 3 38 := ⟨by decide +kernel, rfl⟩
theorem dX2_readNumber_38 : Dk kX2_readNumber 38 (.imul) 1 39 := ⟨by decide +kernel, rfl⟩
theorem dX2_readNumber_39 : Dk kX2_readNumber 39 (.aload_n 0) 1 40 := ⟨by decide +kernel, rfl⟩
theorem dX2_readNumber_40 : Dk kX2_readNumber 40 (.getfield 9) 3 43 := ⟨by decide +kernel, rfl⟩
theorem dX2_readNumber_43 : Dk kX2_readNumber 43 (.aload_n 0) 1 44 := ⟨by decide +kernel, rfl⟩
theorem dX2_readNumber_44 : Dk kX2_readNumber 44 (.getfield 19) 3 47 := ⟨by decide +kernel, rfl⟩
theorem dX2_readNumber_47 : Dk kX2_readNumber 47 (.iaload) 1 48 := ⟨by decide +kernel, rfl⟩
theorem dX2_readNumber_48 : Dk kX2_readNumber 48 (.iadd) 1 49 := ⟨by decide +kernel, rfl⟩
theorem dX2_readNumber_49 : Dk kX2_readNumber 49 (.bipush 48) 2 51 := ⟨by decide +kernel, rfl⟩
theorem dX2_readNumber_51 : Dk kX2_readNumber 51 (.isub) 1 52 := ⟨by decide +kernel, rfl⟩
theorem dX2_readNumber_52 : Dk kX2_readNumber 52 (.putfield 28) 3 55 := ⟨by decide +kernel, rfl⟩
theorem dX2_readNumber_55 : Dk kX2_readNumber 55 (.aload_n 0) 1 56 := ⟨by decide +kernel, rfl⟩
theorem dX2_readNumber_56 : Dk kX2_readNumber 56 (.dup) 1 57 := ⟨by decide +kernel, rfl⟩
theorem dX2_readNumber_57 : Dk kX2_readNumber 57 (.getfield 19) 3 60 := ⟨by decide +kernel, rfl⟩
theorem dX2_readNumber_60 : Dk kX2_readNumber 60 (.iconst 1) 1 61 := ⟨by decide +kernel, rfl⟩
theorem dX2_readNumber_61 : Dk kX2_readNumber 61 (.iadd) 1 62 := ⟨by decide +kernel, rfl⟩
theorem dX2_readNumber_62 : Dk kX2_readNumber 62 (.putfield 19) 3 65 := ⟨by decide +kernel, rfl⟩
theorem dX2_readNumber_65 : Dj kX2_readNumber 65 (fun o => .goto o) 3 68 5 := ⟨-60, by decide +kernel, rfl, by decide⟩
theorem dX2_readNumber_68 : Dk kX2_readNumber 68 (.aload_n 0) 1 69 := ⟨by decide +kernel, rfl⟩
theorem dX2_readNumber_69 : Dk kX2_readNumber 69 (.aload_n 0) 1 70 := ⟨by decide +kernel, rfl⟩
theorem dX2_readNumber_70 : Dk kX2_readNumber 70 (.getfield 19) 3 73 := ⟨by decide +kernel, rfl⟩
theorem dX2_readNumber_73 : Dk kX2_readNumber 73 (.aload_n 0) 1 74 := ⟨by decide +kernel, rfl⟩
theorem dX2_readNumber_74 : Dk kX2_readNumber 74 (.getfield 22) 3 77 := ⟨by decide +kernel, rfl⟩
theorem dX2_readNumber_77 : Dk kX2_readNumber 77 (.isub) 1 78 := ⟨by decide +kernel, rfl⟩
theorem dX2_readNumber_78 : Dk kX2_readNumber 78 (.iconst 4) 1 79 := ⟨by decide +kernel, rfl⟩
theorem dX2_readNumber_79 : Dj kX2_readNumber 79 (fun o => .if_icmp .gt o) 3 82 88 := ⟨9, by decide +kernel, rfl, by decide⟩
theorem dX2_readNumber_82 : Dk kX2_readNumber 82 (.sipush 300) 3 85 := ⟨by decide +kernel, rfl⟩
theorem dX2_readNumber_85 : Dj kX2_readNumber 85 (fun o => .goto o) 3 88 90 := ⟨5, by decide +kernel, rfl, by decide⟩
theorem dX2_readNumber_88 : Dk kX2_readNumber 88 (.bipush (-2)) 2 90 := ⟨by decide +kernel, rfl⟩
theorem dX2_readNumber_90 : Dk kX2_readNumber 90 (.putfield 25) 3 93 := ⟨by decide +kernel, rfl⟩
theorem dX2_readNumber_93 : Dk kX2_readNumber 93 (.return_) 1 94 := ⟨by decide +kernel, rfl⟩
theorem dX2_isLetter_0 : Dk kX2_isLetter 0 (.iload_n 0) 1 1 := ⟨by decide +kernel, rfl⟩
theorem dX2_isLetter_1 : Dk kX2_isLetter 1 (.bipush 97) 2 3 := ⟨by decide +kernel, rfl⟩
theorem dX2_isLetter_3 : Dj kX2_isLetter 3 (fun o => .if_icmp .lt o) 3 6 16 := ⟨13, by decide +kernel, rfl, by decide⟩
theorem dX2_isLetter_6 : Dk kX2_isLetter 6 (.iload_n 0) 1 7 := ⟨by decide +kernel, rfl⟩
theorem dX2_isLetter_7 : Dk kX2_isLetter 7 (.bipush 122) 2 9 := ⟨by decide +kernel, rfl⟩
theorem dX2_isLetter_9 : Dj kX2_isLetter 9 (fun o => .if_icmp .gt o) 3 12 16 := ⟨7, by decide +kernel, rfl, by decide⟩
theorem dX2_isLetter_12 : Dk kX2_isLetter 12 (.iconst 1) 1 13 := ⟨by decide +kernel, rfl⟩
theorem dX2_isLetter_13 : Dj kX2_isLetter 13 (fun o => .goto o) 3 16 17 := ⟨4, by decide +kernel, rfl, by decide⟩
theorem dX2_isLetter_16 : Dk kX2_isLetter 16 (.iconst 0) 1 17 := ⟨by decide +kernel, rfl⟩
theorem dX2_isLetter_17 : Dk kX2_isLetter 17 (.ireturn) 1 18 := ⟨by decide +kernel, rfl⟩
theorem dX2_isDigit_0 : Dk kX2_isDigit 0 (.iload_n 0) 1 1 := ⟨by decide +kernel, rfl⟩
theorem dX2_isDigit_1 : Dk kX2_isDigit 1 (.bipush 48) 2 3 := ⟨by decide +kernel, rfl⟩
theorem dX2_isDigit_3 : Dj kX2_isDigit 3 (fun o => .if_icmp .lt o) 3 6 16 := ⟨13, by decide +kernel, rfl, by decide⟩
theorem dX2_isDigit_6 : Dk kX2_isDigit 6 (.iload_n 0) 1 7 := ⟨by decide +kernel, rfl⟩
theorem dX2_isDigit_7 : Dk kX2_isDigit 7 (.bipush 57) 2 9 := ⟨by decide +kernel, rfl⟩
theorem dX2_isDigit_9 : Dj kX2_isDigit 9 (fun o => .if_icmp .gt o) 3 12 16 := ⟨7, by decide +kernel, rfl, by decide⟩
theorem dX2_isDigit_12 : Dk kX2_isDigit 12 (.iconst 1) 1 13 := ⟨by decide +kernel, rfl⟩
theorem dX2_isDigit_13 : Dj kX2_isDigit 13 (fun o => .goto o) 3 16 17 := ⟨4, by decide +kernel, rfl, by decide⟩
theorem dX2_isDigit_16 : Dk kX2_isDigit 16 (.iconst 0) 1 17 := ⟨by decide +kernel, rfl⟩
theorem dX2_isDigit_17 : Dk kX2_isDigit 17 (.ireturn) 1 18 := ⟨by decide +kernel, rfl⟩
theorem dX2_isSign_0 : Dk kX2_isSign 0 (.iload_n 0) 1 1 := ⟨by decide +kernel, rfl⟩
theorem dX2_isSign_1 : Dk kX2_isSign 1 (.bipush 40) 2 3 := ⟨by decide +kernel, rfl⟩
theorem dX2_isSign_3 : Dj kX2_isSign 3 (fun o => .if_icmp .eq o) 3 6 48 := ⟨45, by decide +kernel, rfl, by decide⟩
theorem dX2_isSign_6 : Dk kX2_isSign 6 (.iload_n 0) 1 7 := ⟨by decide +kernel, rfl⟩
theorem dX2_isSign_7 : Dk kX2_isSign 7 (.bipush 41) 2 9 := ⟨by decide +kernel, rfl⟩
theorem dX2_isSign_9 : Dj kX2_isSign 9 (fun o => .if_icmp .eq o) 3 12 48 := ⟨39, by decide +kernel, rfl, by decide⟩
theorem dX2_isSign_12 : Dk kX2_isSign 12 (.iload_n 0) 1 13 := ⟨by decide +kernel, rfl⟩
theorem dX2_isSign_13 : Dk kX2_isSign 13 (.bipush 59) 2 15 := ⟨by decide +kernel, rfl⟩
theorem dX2_isSign_15 : Dj kX2_isSign 15 (fun o => .if_icmp .eq o) 3 18 48 := ⟨33, by decide +kernel, rfl, by decide⟩
theorem dX2_isSign_18 : Dk kX2_isSign 18 (.iload_n 0) 1 19 := ⟨by decide +kernel, rfl⟩
theorem dX2_isSign_19 : Dk kX2_isSign 19 (.bipush 43) 2 21 := ⟨by decide +kernel, rfl⟩
theorem dX2_isSign_21 : Dj kX2_isSign 21 (fun o => .if_icmp .eq o) 3 24 48 := ⟨27, by decide +kernel, rfl, by decide⟩
theorem dX2_isSign_24 : Dk kX2_isSign 24 (.iload_n 0) 1 25 := ⟨by decide +kernel, rfl⟩
theorem dX2_isSign_25 : Dk kX2_isSign 25 (.bipush 45) 2 27 := ⟨by decide +kernel, rfl⟩
theorem dX2_isSign_27 : Dj kX2_isSign 27 (fun o => .if_icmp .eq o) 3 30 48 := ⟨21, by decide +kernel, rfl, by decide⟩
theorem dX2_isSign_30 : Dk kX2_isSign 30 (.iload_n 0) 1 31 := ⟨by decide +kernel, rfl⟩
theorem dX2_isSign_31 : Dk kX2_isSign 31 (.bipush 42) 2 33 := ⟨by decide +kernel, rfl⟩
theorem dX2_isSign_33 : Dj kX2_isSign 33 (fun o => .if_icmp .eq o) 3 36 48 := ⟨15, by decide +kernel, rfl, by decide⟩
theorem dX2_isSign_36 : Dk kX2_isSign 36 (.iload_n 0) 1 37 := ⟨by decide +kernel, rfl⟩
theorem dX2_isSign_37 : Dk kX2_isSign 37 (.bipush 60) 2 39 := ⟨by decide +kernel, rfl⟩
theorem dX2_isSign_39 : Dj kX2_isSign 39 (fun o => .if_icmp .eq o) 3 42 48 := ⟨9, by decide +kernel, rfl, by decide⟩
theorem dX2_isSign_42 : Dk kX2_isSign 42 (.iload_n 0) 1 43 := ⟨by decide +kernel, rfl⟩
theorem dX2_isSign_43 : Dk kX2_isSign 43 (.bipush 61) 2 45 := ⟨by decide +kernel, rfl⟩
theorem dX2_isSign_45 : Dj kX2_isSign 45 (fun o => .if_icmp .ne o) 3 48 52 := ⟨7, by decide +kernel, rfl, by decide⟩
theorem dX2_isSign_48 : Dk kX2_isSign 48 (.iconst 1) 1 49 := ⟨by decide +kernel, rfl⟩
theorem dX2_isSign_49 : Dj kX2_isSign 49 (fun o => .goto o) 3 52 53 := ⟨4, by decide +kernel, rfl, by decide⟩
theorem dX2_isSign_52 : Dk kX2_isSign 52 (.iconst 0) 1 53 := ⟨by decide +kernel, rfl⟩
theorem dX2_isSign_53 : Dk kX2_isSign 53 (.ireturn) 1 54 := ⟨by decide +kernel, rfl⟩
theorem dX3_init_0 : Dk kX3_init 0 (.aload_n 0) 1 1 := ⟨by decide +kernel, rfl⟩
theorem dX3_init_1 : Dk kX3_init 1 (.invokespecial 3) 3 4 := ⟨by decide +kernel, rfl⟩
theorem dX3_init_4 : Dk kX3_init 4 (.aload_n 0) 1 5 := ⟨by decide +kernel, rfl⟩
theorem dX3_init_5 : Dk kX3_init 5 (.sipush 160) 3 8 := ⟨by decide +kernel, rfl⟩
theorem dX3_init_8 : Dk kX3_init 8 (.newarray .int) 2 10 := ⟨by decide +kernel, rfl⟩
theorem dX3_init_10 : Dk kX3_init 10 (.putfield 9) 3 13 := ⟨by decide +kernel, rfl⟩
theorem dX3_init_13 : Dk kX3_init 13 (.aload_n 0) 1 14 := ⟨by decide +kernel, rfl⟩
theorem dX3_init_14 : Dk kX3_init 14 (.iconst 3) 1 15 := ⟨by decide +kernel, rfl⟩
theorem dX3_init_15 : Dk kX3_init 15 (.newarray .int) 2 17 := ⟨by decide +kernel, rfl⟩
theorem dX3_init_17 : Dk kX3_init 17 (.putfield 15) 3 20 := ⟨by decide +kernel, rfl⟩
theorem dX3_init_20 : Dk kX3_init 20 (.aload_n 0) 1 21 := ⟨by decide +kernel, rfl⟩
theorem dX3_init_21 : Dk kX3_init 21 (.bipush 31) 2 23 := ⟨by decide +kernel, rfl⟩
theorem dX3_init_23 : Dk kX3_init 23 (.newarray .int) 2 25 := ⟨by decide +kernel, rfl⟩
theorem dX3_init_25 : Dk kX3_init 25 (.putfield 18) 3 28 := ⟨by decide +kernel, rfl⟩
theorem dX3_init_28 : Dk kX3_init 28 (.aload_n 0) 1 29 := ⟨by decide +kernel, rfl⟩
theorem dX3_init_29 : Dk kX3_init 29 (.iconst 0) 1 30 := ⟨by decide +kernel, rfl⟩
theorem dX3_init_30 : Dk kX3_init 30 (.putfield 21) 3 33 := ⟨by decide +kernel, rfl⟩
theorem dX3_init_33 : Dk kX3_init 33 (.return_) 1 34 := ⟨by decide +kernel, rfl⟩
theorem dX3_becomePlain_0 : Dk kX3_becomePlain 0 (.aload_n 0) 1 1 := ⟨by decide +kernel, rfl⟩
theorem dX3_becomePlain_1 : Dk kX3_becomePlain 1 (.iconst 0) 1 2 := ⟨by decide +kernel, rfl⟩
theorem dX3_becomePlain_2 : Dk kX3_becomePlain 2 (.putfield 21) 3 5 := ⟨by decide +kernel, rfl⟩
theorem dX3_becomePlain_5 : Dk kX3_becomePlain 5 (.aload_n 0) 1 6 := ⟨by decide +kernel, rfl⟩
theorem dX3_becomePlain_6 : Dk kX3_becomePlain 6 (.iload_n 1) 1 7 := ⟨by decide +kernel, rfl⟩
theorem dX3_becomePlain_7 : Dk kX3_becomePlain 7 (.invokevirtual 25) 3 10 := ⟨by decide +kernel, rfl⟩
theorem dX3_becomePlain_10 : Dk kX3_becomePlain 10 (.aload_n 0) 1 11 := ⟨by decide +kernel, rfl⟩
theorem dX3_becomePlain_11 : Dk kX3_becomePlain 11 (.iconst 0) 1 12 := ⟨by decide +kernel, rfl⟩
theorem dX3_becomePlain_12 : Dk kX3_becomePlain 12 (.invokevirtual 29) 3 15 := ⟨by decide +kernel, rfl⟩
theorem dX3_becomePlain_15 : Dk kX3_becomePlain 15 (.aload_n 0) 1 16 := ⟨by decide +kernel, rfl⟩
theorem dX3_becomePlain_16 : Dk kX3_becomePlain 16 (.iload_n 2) 1 17 := ⟨by decide +kernel, rfl⟩
theorem dX3_becomePlain_17 : Dk kX3_becomePlain 17 (.invokevirtual 25) 3 20 := ⟨by decide +kernel, rfl⟩
theorem dX3_becomePlain_20 : Dk kX3_becomePlain 20 (.aload_n 0) 1 21 := ⟨by decide +kernel, rfl⟩
theorem dX3_becomePlain_21 : Dk kX3_becomePlain 21 (.iconst 1) 1 22 := ⟨by decide +kernel, rfl⟩
theorem dX3_becomePlain_22 : Dk kX3_becomePlain 22 (.invokevirtual 29) 3 25 := ⟨by decide +kernel, rfl⟩
theorem dX3_becomePlain_25 : Dk kX3_becomePlain 25 (.aload_n 0) 1 26 := ⟨by decide +kernel, rfl⟩
theorem dX3_becomePlain_26 : Dk kX3_becomePlain 26 (.iload_n 3) 1 27 := ⟨by decide +kernel, rfl⟩
theorem dX3_becomePlain_27 : Dk kX3_becomePlain 27 (.invokevirtual 25) 3 30 := ⟨by decide +kernel, rfl⟩
theorem dX3_becomePlain_30 : Dk kX3_becomePlain 30 (.aload_n 0) 1 31 := ⟨by decide +kernel, rfl⟩
theorem dX3_becomePlain_31 : Dk kX3_becomePlain 31 (.iconst 2) 1 32 := ⟨by decide +kernel, rfl⟩
theorem dX3_becomePlain_32 : Dk kX3_becomePlain 32 (.invokevirtual 29) 3 35 := ⟨by decide +kernel, rfl⟩
theorem dX3_becomePlain_35 : Dk kX3_becomePlain 35 (.return_) 1 36 := ⟨by decide +kernel, rfl⟩
theorem dX3_add_0 : Dk kX3_add 0 (.aload_n 0) 1 1 := ⟨by decide +kernel, rfl⟩
theorem dX3_add_1 : Dk kX3_add 1 (.getfield 21) 3 4 := ⟨by decide +kernel, rfl⟩
theorem dX3_add_4 : Dk kX3_add 4 (.aload_n 0) 1 5 := ⟨by decide +kernel, rfl⟩
theorem dX3_add_5 : Dk kX3_add 5 (.getfield 9) 3 8 := ⟨by decide +kernel, rfl⟩
theorem dX3_add_8 : Dk kX3_add 8 (.arraylength) 1 9 := ⟨by decide +kernel, rfl⟩
theorem dX3_add_9 : Dj kX3_add 9 (fun o => .if_icmp .ge o) 3 12 32 := ⟨23, by decide +kernel, rfl, by decide⟩
theorem dX3_add_12 : Dk kX3_add 12 (.aload_n 0) 1 13 := ⟨by decide +kernel, rfl⟩
theorem dX3_add_13 : Dk kX3_add 13 (.getfield 9) 3 16 := ⟨by decide +kernel, rfl⟩
theorem dX3_add_16 : Dk kX3_add 16 (.aload_n 0) 1 17 := ⟨by decide +kernel, rfl⟩
theorem dX3_add_17 : Dk kX3_add 17 (.getfield 21) 3 20 := ⟨by decide +kernel, rfl⟩
theorem dX3_add_20 : Dk kX3_add 20 (.iload_n 1) 1 21 := ⟨by decide +kernel, rfl⟩
theorem dX3_add_21 : Dk kX3_add 21 (.iastore) 1 22 := ⟨by decide +kernel, rfl⟩
theorem dX3_add_22 : Dk kX3_add 22 (.aload_n 0) 1 23 := ⟨by decide +kernel, rfl⟩
theorem dX3_add_23 : Dk kX3_add 23 (.dup) 1 24 := ⟨by decide +kernel, rfl⟩
theorem dX3_add_24 : Dk kX3_add 24 (.getfield 21) 3 27 := ⟨by decide +kernel, rfl⟩
theorem dX3_add_27 : Dk kX3_add 27 (.iconst 1) 1 28 := ⟨by decide +kernel, rfl⟩
theorem dX3_add_28 : Dk kX3_add 28 (.iadd) 1 29 := ⟨by decide +kernel, rfl⟩
theorem dX3_add_29 : Dk kX3_add 29 (.putfield 21) 3 32 := ⟨by decide +kernel, rfl⟩
theorem dX3_add_32 : Dk kX3_add 32 (.return_) 1 33 := ⟨by decide +kernel, rfl⟩
theorem dX3_endPart_0 : Dk kX3_endPart 0 (.iload_n 1) 1 1 := ⟨by decide +kernel, rfl⟩
theorem dX3_endPart_1 : Dj kX3_endPart 1 (fun o => .ifCond .lt o) 3 4 23 := ⟨22, by decide +kernel, rfl, by decide⟩
theorem dX3_endPart_4 : Dk kX3_endPart 4 (.iload_n 1) 1 5 := ⟨by decide +kernel, rfl⟩
theorem dX3_endPart_5 : Dk kX3_endPart 5 (.aload_n 0) 1 6 := ⟨by decide +kernel, rfl⟩
theorem dX3_endPart_6 : Dk kX3_endPart 6 (.getfield 15) 3 9 := ⟨by decide +kernel, rfl⟩
theorem dX3_endPart_9 : Dk kX3_endPart 9 (.arraylength) 1 10 := ⟨by decide +kernel, rfl⟩
theorem dX3_endPart_10 : Dj kX3_endPart 10 (fun o => .if_icmp .ge o) 3 13 23 := ⟨13, by decide +kernel, rfl, by decide⟩
theorem dX3_endPart_13 : Dk kX3_endPart 13 (.aload_n 0) 1 14 := ⟨by decide +kernel, rfl⟩
theorem dX3_endPart_14 : Dk kX3_endPart 14 (.getfield 15) 3 17 := ⟨by decide +kernel, rfl⟩
theorem dX3_endPart_17 : Dk kX3_endPart 17 (.iload_n 1) 1 18 := ⟨by decide +kernel, rfl⟩
theorem dX3_endPart_18 : Dk kX3_endPart 18 (.aload_n 0) 1 19 := ⟨by decide +kernel, rfl⟩
theorem dX3_endPart_19 : Dk kX3_endPart 19 (.getfield 21) 3 22 := ⟨by decide +kernel, rfl⟩
theorem dX3_endPart_22 : Dk kX3_endPart 22 (.iastore) 1 23 := ⟨by decide +kernel, rfl⟩
theorem dX3_endPart_23 : Dk kX3_endPart 23 (.return_) 1 24 := ⟨by decide +kernel, rfl⟩
theorem dX3_worth_0 : Dk kX3_worth 0 (.iconst (-1)) 1 1 := ⟨by decide +kernel, rfl⟩
theorem dX3_worth_1 : Dk kX3_worth 1 (.istore_n 3) 1 2 := ⟨by decide +kernel, rfl⟩
theorem dX3_worth_2 : Dk kX3_worth 2 (.iload_n 1) 1 3 := ⟨by decide +kernel, rfl⟩
theorem dX3_worth_3 : Dj kX3_worth 3 (fun o => .ifCond .ne o) 3 6 10 := ⟨7, by decide +kernel, rfl, by decide⟩
theorem dX3_worth_6 : Dk kX3_worth 6 (.iconst 0) 1 7 := ⟨by decide +kernel, rfl⟩
theorem dX3_worth_7 : Dj kX3_worth 7 (fun o => .goto o) 3 10 18 := ⟨11, by decide +kernel, rfl, by decide⟩
theorem dX3_worth_10 : Dk kX3_worth 10 (.aload_n 0) 1 11 := ⟨by decide +kernel, rfl⟩
theorem dX3_worth_11 : Dk kX3_worth 11 (.getfield 15) 3 14 := ⟨by decide +kernel, rfl⟩
theorem dX3_worth_14 : Dk kX3_worth 14 (.iload_n 1) 1 15 := ⟨by decide +kernel, rfl⟩
theorem dX3_worth_15 : Dk kX3_worth 15 (.iconst 1) 1 16 := ⟨by decide +kernel, rfl⟩
theorem dX3_worth_16 : Dk kX3_worth 16 (.isub) 1 17 := ⟨by decide +kernel, rfl⟩
theorem dX3_worth_17 : Dk kX3_worth 17 (.iaload) 1 18 := ⟨by decide +kernel, rfl⟩
theorem dX3_worth_18 : Dk kX3_worth 18 (.istore 4) 2 20 := ⟨by decide +kernel, rfl⟩
theorem dX3_worth_20 : Dk kX3_worth 20 (.iload 4) 2 22 := ⟨by decide +kernel, rfl⟩
theorem dX3_worth_22 : Dk kX3_worth 22 (.aload_n 0) 1 23 := ⟨by decide +kernel, rfl⟩
theorem dX3_worth_23 : Dk kX3_worth 23 (.getfield 15) 3 26 := ⟨by decide +kernel, rfl⟩
theorem dX3_worth_26 : Dk kX3_worth 26 (.iload_n 1) 1 27 := ⟨by decide +kernel, rfl⟩
theorem dX3_worth_27 : Dk kX3_worth 27 (.iaload) 1 28 := ⟨by decide +kernel, rfl⟩
theorem dX3_worth_28 : Dj kX3_worth 28 (fun o => .if_icmp .ge o) 3 31 197 := ⟨169, by decide +kernel, rfl, by decide⟩
theorem dX3_worth_31 : Dk kX3_worth 31 (.aload_n 0) 1 32 := ⟨by decide +kernel, rfl⟩
theorem dX3_worth_32 : Dk kX3_worth 32 (.getfield 9) 3 35 := ⟨by decide +kernel, rfl⟩
theorem dX3_worth_35 : Dk kX3_worth 35 (.iload 4) 2 37 := ⟨by decide +kernel, rfl⟩
theorem dX3_worth_37 : Dk kX3_worth 37 (.iaload) 1 38 := ⟨by decide +kernel, rfl⟩
theorem dX3_worth_38 : Dk kX3_worth 38 (.istore 5) 2 40 := ⟨by decide +kernel, rfl⟩
theorem dX3_worth_40 : Dk kX3_worth 40 (.iload 5) 2 42 := ⟨by decide +kernel, rfl⟩
theorem dX3_worth_42 : Dj kX3_worth 42 (fun o => .ifCond .ge o) 3 45 54 := ⟨12, by decide +kernel, rfl, by decide⟩
theorem dX3_worth_45 : Dk kX3_worth 45 (.iload 5) 2 47 := ⟨by decide +kernel, rfl⟩
theorem dX3_worth_47 : Dk kX3_worth 47 (.ineg) 1 48 := ⟨by decide +kernel, rfl⟩
theorem dX3_worth_48 : Dk kX3_worth 48 (.invokestatic 32) 3 51 := ⟨by decide +kernel, rfl⟩
theorem dX3_worth_51 : Dj kX3_worth 51 (fun o => .ifCond .eq o) 3 54 96 := ⟨45, by decide +kernel, rfl, by decide⟩
theorem dX3_worth_54 : Dk kX3_worth 54 (.iload_n 3) 1 55 := ⟨by decide +kernel, rfl⟩
theorem dX3_worth_55 : Dk kX3_worth 55 (.iconst 1) 1 56 := ⟨by decide +kernel, rfl⟩
theorem dX3_worth_56 : Dk kX3_worth 56 (.iadd) 1 57 := ⟨by decide +kernel, rfl⟩
theorem dX3_worth_57 : Dk kX3_worth 57 (.aload_n 0) 1 58 := ⟨by decide +kernel, rfl⟩
theorem dX3_worth_58 : Dk kX3_worth 58 (.getfield 18) 3 61 := ⟨by decide +kernel, rfl⟩
theorem dX3_worth_61 : Dk kX3_worth 61 (.arraylength) 1 62 := ⟨by decide +kernel, rfl⟩
theorem dX3_worth_62 : Dj kX3_worth 62 (fun o => .if_icmp .ge o) 3 65 191 := ⟨129, by decide +kernel, rfl, by decide⟩
theorem dX3_worth_65 : Dk kX3_worth 65 (.iinc 3 1) 3 68 := ⟨by decide +kernel, rfl⟩
theorem dX3_worth_68 : Dk kX3_worth 68 (.aload_n 0) 1 69 := ⟨by decide +kernel, rfl⟩
theorem dX3_worth_69 : Dk kX3_worth 69 (.getfield 18) 3 72 := ⟨by decide +kernel, rfl⟩
theorem dX3_worth_72 : Dk kX3_worth 72 (.iload_n 3) 1 73 := ⟨by decide +kernel, rfl⟩
theorem dX3_worth_73 : Dk kX3_worth 73 (.iload 5) 2 75 := ⟨by decide +kernel, rfl⟩
theorem dX3_worth_75 : Dj kX3_worth 75 (fun o => .ifCond .lt o) 3 78 83 := ⟨8, by decide +kernel, rfl, by decide⟩
theorem dX3_worth_78 : Dk kX3_worth 78 (.iload 5) 2 80 := ⟨by decide +kernel, rfl⟩
theorem dX3_worth_80 : Dj kX3_worth 80 (fun o => .goto o) 3 83 92 := ⟨12, by decide +kernel, rfl, by decide⟩
theorem dX3_worth_83 : Dk kX3_worth 83 (.aload_n 2) 1 84 := ⟨by decide +kernel, rfl⟩
theorem dX3_worth_84 : Dk kX3_worth 84 (.iload 5) 2 86 := ⟨by decide +kernel, rfl⟩
theorem dX3_worth_86 : Dk kX3_worth 86 (.ineg) 1 87 := ⟨by decide +kernel, rfl⟩
theorem dX3_worth_87 : Dk kX3_worth 87 (.sipush 262) 3 90 := ⟨by decide +kernel, rfl⟩
theorem dX3_worth_90 : Dk kX3_worth 90 (.isub) 1 91 := ⟨by decide +kernel, rfl⟩
theorem dX3_worth_91 : Dk kX3_worth 91 (.iaload) 1 92 := ⟨by decide +kernel, rfl⟩
theorem dX3_worth_92 : Dk kX3_worth 92 (.iastore) 1 93 := ⟨by decide +kernel, rfl⟩
theorem dX3_worth_93 : Dj kX3_worth 93 (fun o => .goto o) 3 96 191 := ⟨98, by decide +kernel, rfl, by decide⟩
theorem dX3_worth_96 : Dk kX3_worth 96 (.iload 5) 2 98 := ⟨by decide +kernel, rfl⟩
theorem dX3_worth_98 : Dk kX3_worth 98 (.sipush (-301)) 3 101 := ⟨by decide +kernel, rfl⟩
theorem dX3_worth_101 : Dj kX3_worth 101 (fun o => .if_icmp .eq o) 3 104 112 := ⟨11, by decide +kernel, rfl, by decide⟩
theorem dX3_worth_104 : Dk kX3_worth 104 (.iload 5) 2 106 := ⟨by decide +kernel, rfl⟩
theorem dX3_worth_106 : Dk kX3_worth 106 (.sipush (-261)) 3 109 := ⟨by decide +kernel, rfl⟩
theorem dX3_worth_109 : Dj kX3_worth 109 (fun o => .if_icmp .ne o) 3 112 157 := ⟨48, by decide +kernel, rfl, by decide⟩
theorem dX3_worth_112 : Dk kX3_worth 112 (.iload_n 3) 1 113 := ⟨by decide +kernel, rfl⟩
theorem dX3_worth_113 : Dj kX3_worth 113 (fun o => .ifCond .lt o) 3 116 191 := ⟨78, by decide +kernel, rfl, by decide⟩
theorem dX3_worth_116 : Dk kX3_worth 116 (.aload_n 0) 1 117 := ⟨by decide +kernel, rfl⟩
theorem dX3_worth_117 : Dk kX3_worth 117 (.getfield 18) 3 120 := ⟨by decide +kernel, rfl⟩
theorem dX3_worth_120 : Dk kX3_worth 120 (.iload_n 3) 1 121 := ⟨by decide +kernel, rfl⟩
theorem dX3_worth_121 : Dk kX3_worth 121 (.iload 5) 2 123 := ⟨by decide +kernel, rfl⟩
theorem dX3_worth_123 : Dk kX3_worth 123 (.sipush (-301)) 3 126 := ⟨by decide +kernel, rfl⟩
theorem dX3_worth_126 : Dj kX3_worth 126 (fun o => .if_icmp .ne o) 3 129 139 := ⟨13, by decide +kernel, rfl, by decide⟩
theorem dX3_worth_129 : Dk kX3_worth 129 (.aload_n 0) 1 130 := ⟨by decide +kernel, rfl⟩
theorem dX3_worth_130 : Dk kX3_worth 130 (.getfield 18) 3 133 := ⟨by decide +kernel, rfl⟩
theorem dX3_worth_133 : Dk kX3_worth 133 (.iload_n 3) 1 134 := ⟨by decide +kernel, rfl⟩
theorem dX3_worth_134 : Dk kX3_worth 134 (.iaload) 1 135 := ⟨by decide +kernel, rfl⟩
theorem dX3_worth_135 : Dk kX3_worth 135 (.ineg) 1 136 := ⟨by decide +kernel, rfl⟩
theorem dX3_worth_136 : Dj kX3_worth 136 (fun o => .goto o) 3 139 153 := ⟨17, by decide +kernel, rfl, by decide⟩
theorem dX3_worth_139 : Dk kX3_worth 139 (.aload_n 0) 1 140 := ⟨by decide +kernel, rfl⟩
theorem dX3_worth_140 : Dk kX3_worth 140 (.getfield 18) 3 143 := ⟨by decide +kernel, rfl⟩
theorem dX3_worth_143 : Dk kX3_worth 143 (.iload_n 3) 1 144 := ⟨by decide +kernel, rfl⟩
theorem dX3_worth_144 : Dk kX3_worth 144 (.iaload) 1 145 := ⟨by decide +kernel, rfl⟩
theorem dX3_worth_145 : Dj kX3_worth 145 (fun o => .ifCond .ne o) 3 148 152 := ⟨7, by decide +kernel, rfl, by decide⟩
theorem dX3_worth_148 : Dk kX3_worth 148 (.iconst 1) 1 149 := ⟨by decide +kernel, rfl⟩
theorem dX3_worth_149 : Dj kX3_worth 149 (fun o => .goto o) 3 152 153 := ⟨4, by decide +kernel, rfl, by decide⟩
theorem dX3_worth_152 : Dk kX3_worth 152 (.iconst 0) 1 153 := ⟨by decide +kernel, rfl⟩
theorem dX3_worth_153 : Dk kX3_worth 153 (.iastore) 1 154 := ⟨by decide +kernel, rfl⟩
theorem dX3_worth_154 : Dj kX3_worth 154 (fun o => .goto o) 3 157 191 := ⟨37, by decide +kernel, rfl, by decide⟩
theorem dX3_worth_157 : Dk kX3_worth 157 (.iload_n 3) 1 158 := ⟨by decide +kernel, rfl⟩
theorem dX3_worth_158 : Dk kX3_worth 158 (.iconst 1) 1 159 := ⟨by decide +kernel, rfl⟩
theorem dX3_worth_159 : Dj kX3_worth 159 (fun o => .if_icmp .lt o) 3 162 191 := ⟨32, by decide +kernel, rfl, by decide⟩
theorem dX3_worth_162 : Dk kX3_worth 162 (.iinc 3 (-1)) 3 165 := ⟨by decide +kernel, rfl⟩
theorem dX3_worth_165 : Dk kX3_worth 165 (.aload_n 0) 1 166 := ⟨by decide +kernel, rfl⟩
theorem dX3_worth_166 : Dk kX3_worth 166 (.getfield 18) 3 169 := ⟨by decide +kernel, rfl⟩
theorem dX3_worth_169 : Dk kX3_worth 169 (.iload_n 3) 1 170 := ⟨by decide +kernel, rfl⟩
theorem dX3_worth_170 : Dk kX3_worth 170 (.iload 5) 2 172 := ⟨by decide +kernel, rfl⟩
theorem dX3_worth_172 : Dk kX3_worth 172 (.ineg) 1 173 := ⟨by decide +kernel, rfl⟩
theorem dX3_worth_173 : Dk kX3_worth 173 (.aload_n 0) 1 174 := ⟨by decide +kernel, rfl⟩
theorem dX3_worth_174 : Dk kX3_worth 174 (.getfield 18) 3 177 := ⟨by decide +kernel, rfl⟩
theorem dX3_worth_177 : Dk kX3_worth 177 (.iload_n 3) 1 178 := ⟨by decide +kernel, rfl⟩
theorem dX3_worth_178 : Dk kX3_worth 178 (.iaload) 1 179 := ⟨by decide +kernel, rfl⟩
theorem dX3_worth_179 : Dk kX3_worth 179 (.aload_n 0) 1 180 := ⟨by decide +kernel, rfl⟩
theorem dX3_worth_180 : Dk kX3_worth 180 (.getfield 18) 3 183 := ⟨by decide +kernel, rfl⟩
theorem dX3_worth_183 : Dk kX3_worth 183 (.iload_n 3) 1 184 := ⟨by decide +kernel, rfl⟩
theorem dX3_worth_184 : Dk kX3_worth 184 (.iconst 1) 1 185 := ⟨by decide +kernel, rfl⟩
theorem dX3_worth_185 : Dk kX3_worth 185 (.iadd) 1 186 := ⟨by decide +kernel, rfl⟩
theorem dX3_worth_186 : Dk kX3_worth 186 (.iaload) 1 187 := ⟨by decide +kernel, rfl⟩
theorem dX3_worth_187 : Dk kX3_worth 187 (.invokestatic 36) 3 190 := ⟨by decide +kernel, rfl⟩
theorem dX3_worth_190 : Dk kX3_worth 190 (.iastore) 1 191 := ⟨by decide +kernel, rfl⟩
theorem dX3_worth_191 : Dk kX3_worth 191 (.iinc 4 1) 3 194 := ⟨by decide +kernel, rfl⟩
theorem dX3_worth_194 : Dj kX3_worth 194 (fun o => .goto o) 3 197 20 := ⟨-174, by decide +kernel, rfl, by decide⟩
theorem dX3_worth_197 : Dk kX3_worth 197 (.iload_n 3) 1 198 := ⟨by decide +kernel, rfl⟩
theorem dX3_worth_198 : Dj kX3_worth 198 (fun o => .ifCond .lt o) 3 201 210 := ⟨12, by decide +kernel, rfl, by decide⟩
theorem dX3_worth_201 : Dk kX3_worth 201 (.aload_n 0) 1 202 := ⟨by decide +kernel, rfl⟩
theorem dX3_worth_202 : Dk kX3_worth 202 (.getfield 18) 3 205 := ⟨by decide +kernel, rfl⟩
theorem dX3_worth_205 : Dk kX3_worth 205 (.iload_n 3) 1 206 := ⟨by decide +kernel, rfl⟩
theorem dX3_worth_206 : Dk kX3_worth 206 (.iaload) 1 207 := ⟨by decide +kernel, rfl⟩
theorem dX3_worth_207 : Dj kX3_worth 207 (fun o => .goto o) 3 210 211 := ⟨4, by decide +kernel, rfl, by decide⟩
theorem dX3_worth_210 : Dk kX3_worth 210 (.iconst 0) 1 211 := ⟨by decide +kernel, rfl⟩
theorem dX3_worth_211 : Dk kX3_worth 211 (.ireturn) 1 212 := ⟨by decide +kernel, rfl⟩
theorem dX3_isName_0 : Dk kX3_isName 0 (.iload_n 0) 1 1 := ⟨by decide +kernel, rfl⟩
theorem dX3_isName_1 : Dk kX3_isName 1 (.sipush 262) 3 4 := ⟨by decide +kernel, rfl⟩
theorem dX3_isName_4 : Dj kX3_isName 4 (fun o => .if_icmp .lt o) 3 7 18 := ⟨14, by decide +kernel, rfl, by decide⟩
theorem dX3_isName_7 : Dk kX3_isName 7 (.iload_n 0) 1 8 := ⟨by decide +kernel, rfl⟩
theorem dX3_isName_8 : Dk kX3_isName 8 (.sipush 268) 3 11 := ⟨by decide +kernel, rfl⟩
theorem dX3_isName_11 : Dj kX3_isName 11 (fun o => .if_icmp .ge o) 3 14 18 := ⟨7, by decide +kernel, rfl, by decide⟩
theorem dX3_isName_14 : Dk kX3_isName 14 (.iconst 1) 1 15 := ⟨by decide +kernel, rfl⟩
theorem dX3_isName_15 : Dj kX3_isName 15 (fun o => .goto o) 3 18 19 := ⟨4, by decide +kernel, rfl, by decide⟩
theorem dX3_isName_18 : Dk kX3_isName 18 (.iconst 0) 1 19 := ⟨by decide +kernel, rfl⟩
theorem dX3_isName_19 : Dk kX3_isName 19 (.ireturn) 1 20 := ⟨by decide +kernel, rfl⟩
theorem dX3_joined_0 : Dk kX3_joined 0 (.iload_n 0) 1 1 := ⟨by decide +kernel, rfl⟩
theorem dX3_joined_1 : Dk kX3_joined 1 (.lookupswitch 117 #[(43, 109), (45, 113), (60, 87), (61, 98), (259, 59), (260, 73)]) 59 60 := ⟨by decide +kernel, rfl⟩
theorem dX3_joined_60 : Dk kX3_joined 60 (.iload_n 1) 1 61 := ⟨by decide +kernel, rfl⟩
theorem dX3_joined_61 : Dj kX3_joined 61 (fun o => .ifCond .ne o) 3 64 68 := ⟨7, by decide +kernel, rfl, by decide⟩
theorem dX3_joined_64 : Dk kX3_joined 64 (.iload_n 2) 1 65 := ⟨by decide +kernel, rfl⟩
theorem dX3_joined_65 : Dj kX3_joined 65 (fun o => .ifCond .eq o) 3 68 72 := ⟨7, by decide +kernel, rfl, by decide⟩
theorem dX3_joined_68 : Dk kX3_joined 68 (.iconst 1) 1 69 := ⟨by decide +kernel, rfl⟩
theorem dX3_joined_69 : Dj kX3_joined 69 (fun o => .goto o) 3 72 73 := ⟨4, by decide +kernel, rfl, by decide⟩
theorem dX3_joined_72 : Dk kX3_joined 72 (.iconst 0) 1 73 := ⟨by decide +kernel, rfl⟩
theorem dX3_joined_73 : Dk kX3_joined 73 (.ireturn) 1 74 := ⟨by decide +kernel, rfl⟩
theorem dX3_joined_74 : Dk kX3_joined 74 (.iload_n 1) 1 75 := ⟨by decide +kernel, rfl⟩
theorem dX3_joined_75 : Dj kX3_joined 75 (fun o => .ifCond .eq o) 3 78 86 := ⟨11, by decide +kernel, rfl, by decide⟩
theorem dX3_joined_78 : Dk kX3_joined 78 (.iload_n 2) 1 79 := ⟨by decide +kernel, rfl⟩
theorem dX3_joined_79 : Dj kX3_joined 79 (fun o => .ifCond .eq o) 3 82 86 := ⟨7, by decide +kernel, rfl, by decide⟩
theorem dX3_joined_82 : Dk kX3_joined 82 (.iconst 1) 1 83 := ⟨by decide +kernel, rfl⟩
theorem dX3_joined_83 : Dj kX3_joined 83 (fun o => .goto o) 3 86 87 := ⟨4, by decide +kernel, rfl, by decide⟩
theorem dX3_joined_86 : Dk kX3_joined 86 (.iconst 0) 1 87 := ⟨by decide +kernel, rfl⟩
theorem dX3_joined_87 : Dk kX3_joined 87 (.ireturn) 1 88 := ⟨by decide +kernel, rfl⟩
theorem dX3_joined_88 : Dk kX3_joined 88 (.iload_n 1) 1 89 := ⟨by decide +kernel, rfl⟩
theorem dX3_joined_89 : Dk kX3_joined 89 (.iload_n 2) 1 90 := ⟨by decide +kernel, rfl⟩
theorem dX3_joined_90 : Dj kX3_joined 90 (fun o => .if_icmp .ge o) 3 93 97 := ⟨7, by decide +kernel, rfl, by decide⟩
theorem dX3_joined_93 : Dk kX3_joined 93 (.iconst 1) 1 94 := ⟨by decide +kernel, rfl⟩
theorem dX3_joined_94 : Dj kX3_joined 94 (fun o => .goto o) 3 97 98 := ⟨4, by decide +kernel, rfl, by decide⟩
theorem dX3_joined_97 : Dk kX3_joined 97 (.iconst 0) 1 98 := ⟨by decide +kernel, rfl⟩
theorem dX3_joined_98 : Dk kX3_joined 98 (.ireturn) 1 99 := ⟨by decide +kernel, rfl⟩
theorem dX3_joined_99 : Dk kX3_joined 99 (.iload_n 1) 1 100 := ⟨by decide +kernel, rfl⟩
theorem dX3_joined_100 : Dk kX3_joined 100 (.iload_n 2) 1 101 := ⟨by decide +kernel, rfl⟩
theorem dX3_joined_101 : Dj kX3_joined 101 (fun o => .if_icmp .ne o) 3 104 108 := ⟨7, by decide +kernel, rfl, by decide⟩
theorem dX3_joined_104 : Dk kX3_joined 104 (.iconst 1) 1 105 := ⟨by decide +kernel, rfl⟩
theorem dX3_joined_105 : Dj kX3_joined 105 (fun o => .goto o) 3 108 109 := ⟨4, by decide +kernel, rfl, by decide⟩
theorem dX3_joined_108 : Dk kX3_joined 108 (.iconst 0) 1 109 := ⟨by decide +kernel, rfl⟩
theorem dX3_joined_109 : Dk kX3_joined 109 (.ireturn) 1 110 := ⟨by decide +kernel, rfl⟩
theorem dX3_joined_110 : Dk kX3_joined 110 (.iload_n 1) 1 111 := ⟨by decide +kernel, rfl⟩
theorem dX3_joined_111 : Dk kX3_joined 111 (.iload_n 2) 1 112 := ⟨by decide +kernel, rfl⟩
theorem dX3_joined_112 : Dk kX3_joined 112 (.iadd) 1 113 := ⟨by decide +kernel, rfl⟩
theorem dX3_joined_113 : Dk kX3_joined 113 (.ireturn) 1 114 := ⟨by decide +kernel, rfl⟩
theorem dX3_joined_114 : Dk kX3_joined 114 (.iload_n 1) 1 115 := ⟨by decide +kernel, rfl⟩
theorem dX3_joined_115 : Dk kX3_joined 115 (.iload_n 2) 1 116 := ⟨by decide +kernel, rfl⟩
theorem dX3_joined_116 : Dk kX3_joined 116 (.isub) 1 117 := ⟨by decide +kernel, rfl⟩
theorem dX3_joined_117 : Dk kX3_joined 117 (.ireturn) 1 118 := ⟨by decide +kernel, rfl⟩
theorem dX3_joined_118 : Dk kX3_joined 118 (.iload_n 1) 1 119 := ⟨by decide +kernel, rfl⟩
theorem dX3_joined_119 : Dk kX3_joined 119 (.iload_n 2) 1 120 := ⟨by decide +kernel, rfl⟩
theorem dX3_joined_120 : Dk kX3_joined 120 (.imul) 1 121 := ⟨by decide +kernel, rfl⟩
theorem dX3_joined_121 : Dk kX3_joined 121 (.ireturn) 1 122 := ⟨by decide +kernel, rfl⟩
theorem dX4_init_0 : Dk kX4_init 0 (.aload_n 0) 1 1 := ⟨by decide +kernel, rfl⟩
theorem dX4_init_1 : Dk kX4_init 1 (.invokespecial 3) 3 4 := ⟨by decide +kernel, rfl⟩
theorem dX4_init_4 : Dk kX4_init 4 (.aload_n 0) 1 5 := ⟨by decide +kernel, rfl⟩
theorem dX4_init_5 : Dk kX4_init 5 (.bipush 8) 2 7 := ⟨by decide +kernel, rfl⟩
theorem dX4_init_7 : Dk kX4_init 7 (.newarray .int) 2 9 := ⟨by decide +kernel, rfl⟩
theorem dX4_init_9 : Dk kX4_init 9 (.putfield 9) 3 12 := ⟨by decide +kernel, rfl⟩
theorem dX4_init_12 : Dk kX4_init 12 (.aload_n 0) 1 13 := ⟨by decide +kernel, rfl⟩
theorem dX4_init_13 : Dk kX4_init 13 (.bipush 8) 2 15 := ⟨by decide +kernel, rfl⟩
theorem dX4_init_15 : Dk kX4_init 15 (.newarray .int) 2 17 := ⟨by decide +kernel, rfl⟩
theorem dX4_init_17 : Dk kX4_init 17 (.putfield 15) 3 20 := ⟨by decide +kernel, rfl⟩
theorem dX4_init_20 : Dk kX4_init 20 (.aload_n 0) 1 21 := ⟨by decide +kernel, rfl⟩
theorem dX4_init_21 : Dk kX4_init 21 (.bipush 8) 2 23 := ⟨by decide +kernel, rfl⟩
theorem dX4_init_23 : Dk kX4_init 23 (.newarray .int) 2 25 := ⟨by decide +kernel, rfl⟩
theorem dX4_init_25 : Dk kX4_init 25 (.putfield 18) 3 28 := ⟨by decide +kernel, rfl⟩
theorem dX4_init_28 : Dk kX4_init 28 (.aload_n 0) 1 29 := ⟨by decide +kernel, rfl⟩
theorem dX4_init_29 : Dk kX4_init 29 (.bipush 6) 2 31 := ⟨by decide +kernel, rfl⟩
theorem dX4_init_31 : Dk kX4_init 31 (.newarray .int) 2 33 := ⟨by decide +kernel, rfl⟩
theorem dX4_init_33 : Dk kX4_init 33 (.putfield 21) 3 36 := ⟨by decide +kernel, rfl⟩
theorem dX4_init_36 : Dk kX4_init 36 (.aload_n 0) 1 37 := ⟨by decide +kernel, rfl⟩
theorem dX4_init_37 : Dk kX4_init 37 (.bipush 6) 2 39 := ⟨by decide +kernel, rfl⟩
theorem dX4_init_39 : Dk kX4_init 39 (.newarray .int) 2 41 := ⟨by decide +kernel, rfl⟩
theorem dX4_init_41 : Dk kX4_init 41 (.putfield 24) 3 44 := ⟨by decide +kernel, rfl⟩
theorem dX4_init_44 : Dk kX4_init 44 (.aload_n 0) 1 45 := ⟨by decide +kernel, rfl⟩
theorem dX4_init_45 : Dk kX4_init 45 (.bipush 6) 2 47 := ⟨by decide +kernel, rfl⟩
theorem dX4_init_47 : Dk kX4_init 47 (.newarray .int) 2 49 := ⟨by decide +kernel, rfl⟩
theorem dX4_init_49 : Dk kX4_init 49 (.putfield 27) 3 52 := ⟨by decide +kernel, rfl⟩
theorem dX4_init_52 : Dk kX4_init 52 (.aload_n 0) 1 53 := ⟨by decide +kernel, rfl⟩
theorem dX4_init_53 : Dk kX4_init 53 (.bipush 6) 2 55 := ⟨by decide +kernel, rfl⟩
theorem dX4_init_55 : Dk kX4_init 55 (.newarray .int) 2 57 := ⟨by decide +kernel, rfl⟩
theorem dX4_init_57 : Dk kX4_init 57 (.putfield 30) 3 60 := ⟨by decide +kernel, rfl⟩
theorem dX4_init_60 : Dk kX4_init 60 (.aload_n 0) 1 61 := ⟨by decide +kernel, rfl⟩
theorem dX4_init_61 : Dk kX4_init 61 (.bipush 6) 2 63 := ⟨by decide +kernel, rfl⟩
theorem dX4_init_63 : Dk kX4_init 63 (.newarray .int) 2 65 := ⟨by decide +kernel, rfl⟩
theorem dX4_init_65 : Dk kX4_init 65 (.putfield 33) 3 68 := ⟨by decide +kernel, rfl⟩
theorem dX4_init_68 : Dk kX4_init 68 (.aload_n 0) 1 69 := ⟨by decide +kernel, rfl⟩
theorem dX4_init_69 : Dk kX4_init 69 (.bipush 6) 2 71 := ⟨by decide +kernel, rfl⟩
theorem dX4_init_71 : Dk kX4_init 71 (.newarray .int) 2 73 := ⟨by decide +kernel, rfl⟩
theorem dX4_init_73 : Dk kX4_init 73 (.putfield 36) 3 76 := ⟨by decide +kernel, rfl⟩
theorem dX4_init_76 : Dk kX4_init 76 (.aload_n 0) 1 77 := ⟨by decide +kernel, rfl⟩
theorem dX4_init_77 : Dk kX4_init 77 (.iconst 0) 1 78 := ⟨by decide +kernel, rfl⟩
theorem dX4_init_78 : Dk kX4_init 78 (.putfield 39) 3 81 := ⟨by decide +kernel, rfl⟩
theorem dX4_init_81 : Dk kX4_init 81 (.aload_n 0) 1 82 := ⟨by decide +kernel, rfl⟩
theorem dX4_init_82 : Dk kX4_init 82 (.iconst 0) 1 83 := ⟨by decide +kernel, rfl⟩
theorem dX4_init_83 : Dk kX4_init 83 (.putfield 43) 3 86 := ⟨by decide +kernel, rfl⟩
theorem dX4_init_86 : Dk kX4_init 86 (.aload_n 0) 1 87 := ⟨by decide +kernel, rfl⟩
theorem dX4_init_87 : Dk kX4_init 87 (.iconst 0) 1 88 := ⟨by decide +kernel, rfl⟩
theorem dX4_init_88 : Dk kX4_init 88 (.putfield 46) 3 91 := ⟨by decide +kernel, rfl⟩
theorem dX4_init_91 : Dk kX4_init 91 (.aload_n 0) 1 92 := ⟨by decide +kernel, rfl⟩
theorem dX4_init_92 : Dk kX4_init 92 (.aload_n 1) 1 93 := ⟨by decide +kernel, rfl⟩
theorem dX4_init_93 : Dk kX4_init 93 (.putfield 49) 3 96 := ⟨by decide +kernel, rfl⟩
theorem dX4_init_96 : Dk kX4_init 96 (.aload_n 0) 1 97 := ⟨by decide +kernel, rfl⟩
theorem dX4_init_97 : Dk kX4_init 97 (.getfield 9) 3 100 := ⟨by decide +kernel, rfl⟩
theorem dX4_init_100 : Dk kX4_init 100 (.bipush 10) 2 102 := ⟨by decide +kernel, rfl⟩
theorem dX4_init_102 : Dk kX4_init 102 (.invokestatic 53) 3 105 := ⟨by decide +kernel, rfl⟩
theorem dX4_init_105 : Dk kX4_init 105 (.aload_n 0) 1 106 := ⟨by decide +kernel, rfl⟩
theorem dX4_init_106 : Dk kX4_init 106 (.getfield 15) 3 109 := ⟨by decide +kernel, rfl⟩
theorem dX4_init_109 : Dk kX4_init 109 (.iconst (-1)) 1 110 := ⟨by decide +kernel, rfl⟩
theorem dX4_init_110 : Dk kX4_init 110 (.invokestatic 53) 3 113 := ⟨by decide +kernel, rfl⟩
theorem dX4_init_113 : Dk kX4_init 113 (.aload_n 0) 1 114 := ⟨by decide +kernel, rfl⟩
theorem dX4_init_114 : Dk kX4_init 114 (.getfield 18) 3 117 := ⟨by decide +kernel, rfl⟩
theorem dX4_init_117 : Dk kX4_init 117 (.iconst (-1)) 1 118 := ⟨by decide +kernel, rfl⟩
theorem dX4_init_118 : Dk kX4_init 118 (.invokestatic 53) 3 121 := ⟨by decide +kernel, rfl⟩
theorem dX4_init_121 : Dk kX4_init 121 (.return_) 1 122 := ⟨by decide +kernel, rfl⟩
theorem dX4_become_0 : Dk kX4_become 0 (.aload_n 1) 1 1 := ⟨by decide +kernel, rfl⟩
theorem dX4_become_1 : Dk kX4_become 1 (.getfield 9) 3 4 := ⟨by decide +kernel, rfl⟩
theorem dX4_become_4 : Dk kX4_become 4 (.iconst 0) 1 5 := ⟨by decide +kernel, rfl⟩
theorem dX4_become_5 : Dk kX4_become 5 (.aload_n 0) 1 6 := ⟨by decide +kernel, rfl⟩
theorem dX4_become_6 : Dk kX4_become 6 (.getfield 9) 3 9 := ⟨by decide +kernel, rfl⟩
theorem dX4_become_9 : Dk kX4_become 9 (.iconst 0) 1 10 := ⟨by decide +kernel, rfl⟩
theorem dX4_become_10 : Dk kX4_become 10 (.bipush 8) 2 12 := ⟨by decide +kernel, rfl⟩
theorem dX4_become_12 : Dk kX4_become 12 (.invokestatic 59) 3 15 := ⟨by decide +kernel, rfl⟩
theorem dX4_become_15 : Dk kX4_become 15 (.aload_n 1) 1 16 := ⟨by decide +kernel, rfl⟩
theorem dX4_become_16 : Dk kX4_become 16 (.getfield 15) 3 19 := ⟨by decide +kernel, rfl⟩
theorem dX4_become_19 : Dk kX4_become 19 (.iconst 0) 1 20 := ⟨by decide +kernel, rfl⟩
theorem dX4_become_20 : Dk kX4_become 20 (.aload_n 0) 1 21 := ⟨by decide +kernel, rfl⟩
theorem dX4_become_21 : Dk kX4_become 21 (.getfield 15) 3 24 := ⟨by decide +kernel, rfl⟩
theorem dX4_become_24 : Dk kX4_become 24 (.iconst 0) 1 25 := ⟨by decide +kernel, rfl⟩
theorem dX4_become_25 : Dk kX4_become 25 (.bipush 8) 2 27 := ⟨by decide +kernel, rfl⟩
theorem dX4_become_27 : Dk kX4_become 27 (.invokestatic 59) 3 30 := ⟨by decide +kernel, rfl⟩
theorem dX4_become_30 : Dk kX4_become 30 (.aload_n 1) 1 31 := ⟨by decide +kernel, rfl⟩
theorem dX4_become_31 : Dk kX4_become 31 (.getfield 18) 3 34 := ⟨by decide +kernel, rfl⟩
theorem dX4_become_34 : Dk kX4_become 34 (.iconst 0) 1 35 := ⟨by decide +kernel, rfl⟩
theorem dX4_become_35 : Dk kX4_become 35 (.aload_n 0) 1 36 := ⟨by decide +kernel, rfl⟩
theorem dX4_become_36 : Dk kX4_become 36 (.getfield 18) 3 39 := ⟨by decide +kernel, rfl⟩
theorem dX4_become_39 : Dk kX4_become 39 (.iconst 0) 1 40 := ⟨by decide +kernel, rfl⟩
theorem dX4_become_40 : Dk kX4_become 40 (.bipush 8) 2 42 := ⟨by decide +kernel, rfl⟩
theorem dX4_become_42 : Dk kX4_become 42 (.invokestatic 59) 3 45 := ⟨by decide +kernel, rfl⟩
theorem dX4_become_45 : Dk kX4_become 45 (.aload_n 1) 1 46 := ⟨by decide +kernel, rfl⟩
theorem dX4_become_46 : Dk kX4_become 46 (.getfield 21) 3 49 := ⟨by decide +kernel, rfl⟩
theorem dX4_become_49 : Dk kX4_become 49 (.iconst 0) 1 50 := ⟨by decide +kernel, rfl⟩
theorem dX4_become_50 : Dk kX4_become 50 (.aload_n 0) 1 51 := ⟨by decide +kernel, rfl⟩
theorem dX4_become_51 : Dk kX4_become 51 (.getfield 21) 3 54 := ⟨by decide +kernel, rfl⟩
theorem dX4_become_54 : Dk kX4_become 54 (.iconst 0) 1 55 := ⟨by decide +kernel, rfl⟩
theorem dX4_become_55 : Dk kX4_become 55 (.bipush 6) 2 57 := ⟨by decide +kernel, rfl⟩
theorem dX4_become_57 : Dk kX4_become 57 (.invokestatic 59) 3 60 := ⟨by decide +kernel, rfl⟩
theorem dX4_become_60 : Dk kX4_become 60 (.aload_n 1) 1 61 := ⟨by decide +kernel, rfl⟩
theorem dX4_become_61 : Dk kX4_become 61 (.getfield 24) 3 64 := ⟨by decide +kernel, rfl⟩
theorem dX4_become_64 : Dk kX4_become 64 (.iconst 0) 1 65 := ⟨by decide +kernel, rfl⟩
theorem dX4_become_65 : Dk kX4_become 65 (.aload_n 0) 1 66 := ⟨by decide +kernel, rfl⟩
theorem dX4_become_66 : Dk kX4_become 66 (.getfield 24) 3 69 := ⟨by decide +kernel, rfl⟩
theorem dX4_become_69 : Dk kX4_become 69 (.iconst 0) 1 70 := ⟨by decide +kernel, rfl⟩
theorem dX4_become_70 : Dk kX4_become 70 (.bipush 6) 2 72 := ⟨by decide +kernel, rfl⟩
theorem dX4_become_72 : Dk kX4_become 72 (.invokestatic 59) 3 75 := ⟨by decide +kernel, rfl⟩
theorem dX4_become_75 : Dk kX4_become 75 (.aload_n 1) 1 76 := ⟨by decide +kernel, rfl⟩
theorem dX4_become_76 : Dk kX4_become 76 (.getfield 27) 3 79 := ⟨by decide +kernel, rfl⟩
theorem dX4_become_79 : Dk kX4_become 79 (.iconst 0) 1 80 := ⟨by decide +kernel, rfl⟩
theorem dX4_become_80 : Dk kX4_become 80 (.aload_n 0) 1 81 := ⟨by decide +kernel, rfl⟩
theorem dX4_become_81 : Dk kX4_become 81 (.getfield 27) 3 84 := ⟨by decide +kernel, rfl⟩
theorem dX4_become_84 : Dk kX4_become 84 (.iconst 0) 1 85 := ⟨by decide +kernel, rfl⟩
theorem dX4_become_85 : Dk kX4_become 85 (.bipush 6) 2 87 := ⟨by decide +kernel, rfl⟩
theorem dX4_become_87 : Dk kX4_become 87 (.invokestatic 59) 3 90 := ⟨by decide +kernel, rfl⟩
theorem dX4_become_90 : Dk kX4_become 90 (.aload_n 1) 1 91 := ⟨by decide +kernel, rfl⟩
theorem dX4_become_91 : Dk kX4_become 91 (.getfield 30) 3 94 := ⟨by decide +kernel, rfl⟩
theorem dX4_become_94 : Dk kX4_become 94 (.iconst 0) 1 95 := ⟨by decide +kernel, rfl⟩
theorem dX4_become_95 : Dk kX4_become 95 (.aload_n 0) 1 96 := ⟨by decide +kernel, rfl⟩
theorem dX4_become_96 : Dk kX4_become 96 (.getfield 30) 3 99 := ⟨by decide +kernel, rfl⟩
theorem dX4_become_99 : Dk kX4_become 99 (.iconst 0) 1 100 := ⟨by decide +kernel, rfl⟩
theorem dX4_become_100 : Dk kX4_become 100 (.bipush 6) 2 102 := ⟨by decide +kernel, rfl⟩
theorem dX4_become_102 : Dk kX4_become 102 (.invokestatic 59) 3 105 := ⟨by decide +kernel, rfl⟩
theorem dX4_become_105 : Dk kX4_become 105 (.aload_n 1) 1 106 := ⟨by decide +kernel, rfl⟩
theorem dX4_become_106 : Dk kX4_become 106 (.getfield 33) 3 109 := ⟨by decide +kernel, rfl⟩
theorem dX4_become_109 : Dk kX4_become 109 (.iconst 0) 1 110 := ⟨by decide +kernel, rfl⟩
theorem dX4_become_110 : Dk kX4_become 110 (.aload_n 0) 1 111 := ⟨by decide +kernel, rfl⟩
theorem dX4_become_111 : Dk kX4_become 111 (.getfield 33) 3 114 := ⟨by decide +kernel, rfl⟩
theorem dX4_become_114 : Dk kX4_become 114 (.iconst 0) 1 115 := ⟨by decide +kernel, rfl⟩
theorem dX4_become_115 : Dk kX4_become 115 (.bipush 6) 2 117 := ⟨by decide +kernel, rfl⟩
theorem dX4_become_117 : Dk kX4_become 117 (.invokestatic 59) 3 120 := ⟨by decide +kernel, rfl⟩
theorem dX4_become_120 : Dk kX4_become 120 (.aload_n 0) 1 121 := ⟨by decide +kernel, rfl⟩
theorem dX4_become_121 : Dk kX4_become 121 (.aload_n 1) 1 122 := ⟨by decide +kernel, rfl⟩
theorem dX4_become_122 : Dk kX4_become 122 (.getfield 39) 3 125 := ⟨by decide +kernel, rfl⟩
theorem dX4_become_125 : Dk kX4_become 125 (.putfield 39) 3 128 := ⟨by decide +kernel, rfl⟩
theorem dX4_become_128 : Dk kX4_become 128 (.aload_n 0) 1 129 := ⟨by decide +kernel, rfl⟩
theorem dX4_become_129 : Dk kX4_become 129 (.aload_n 1) 1 130 := ⟨by decide +kernel, rfl⟩
theorem dX4_become_130 : Dk kX4_become 130 (.getfield 43) 3 133 := ⟨by decide +kernel, rfl⟩
theorem dX4_become_133 : Dk kX4_become 133 (.putfield 43) 3 136 := ⟨by decide +kernel, rfl⟩
theorem dX4_become_136 : Dk kX4_become 136 (.aload_n 0) 1 137 := ⟨by decide +kernel, rfl⟩
theorem dX4_become_137 : Dk kX4_become 137 (.aload_n 1) 1 138 := ⟨by decide +kernel, rfl⟩
theorem dX4_become_138 : Dk kX4_become 138 (.getfield 46) 3 141 := ⟨by decide +kernel, rfl⟩
theorem dX4_become_141 : Dk kX4_become 141 (.putfield 46) 3 144 := ⟨by decide +kernel, rfl⟩
theorem dX4_become_144 : Dk kX4_become 144 (.return_) 1 145 := ⟨by decide +kernel, rfl⟩
theorem dX4_setClock_0 : Dk kX4_setClock 0 (.aload_n 0) 1 1 := ⟨by decide +kernel, rfl⟩
theorem dX4_setClock_1 : Dk kX4_setClock 1 (.getfield 43) 3 4 := ⟨by decide +kernel, rfl⟩
theorem dX4_setClock_4 : Dk kX4_setClock 4 (.istore_n 2) 1 5 := ⟨by decide +kernel, rfl⟩
theorem dX4_setClock_5 : Dk kX4_setClock 5 (.aload_n 0) 1 6 := ⟨by decide +kernel, rfl⟩
theorem dX4_setClock_6 : Dk kX4_setClock 6 (.iload_n 1) 1 7 := ⟨by decide +kernel, rfl⟩
theorem dX4_setClock_7 : Dk kX4_setClock 7 (.putfield 43) 3 10 := ⟨by decide +kernel, rfl⟩
theorem dX4_setClock_10 : Dk kX4_setClock 10 (.iload_n 2) 1 11 := ⟨by decide +kernel, rfl⟩
theorem dX4_setClock_11 : Dk kX4_setClock 11 (.ireturn) 1 12 := ⟨by decide +kernel, rfl⟩
theorem dX4_welcome_0 : Dk kX4_welcome 0 (.iload_n 1) 1 1 := ⟨by decide +kernel, rfl⟩
theorem dX4_welcome_1 : Dk kX4_welcome 1 (.iconst 0) 1 2 := ⟨by decide +kernel, rfl⟩
theorem dX4_welcome_2 : Dk kX4_welcome 2 (.bipush 59) 2 4 := ⟨by decide +kernel, rfl⟩
theorem dX4_welcome_4 : Dk kX4_welcome 4 (.invokestatic 65) 3 7 := ⟨by decide +kernel, rfl⟩
theorem dX4_welcome_7 : Dj kX4_welcome 7 (fun o => .ifCond .eq o) 3 10 21 := ⟨14, by decide +kernel, rfl, by decide⟩
theorem dX4_welcome_10 : Dk kX4_welcome 10 (.iload_n 2) 1 11 := ⟨by decide +kernel, rfl⟩
theorem dX4_welcome_11 : Dk kX4_welcome 11 (.iconst 0) 1 12 := ⟨by decide +kernel, rfl⟩
theorem dX4_welcome_12 : Dk kX4_welcome 12 (.sipush 799) 3 15 := ⟨by decide +kernel, rfl⟩
theorem dX4_welcome_15 : Dk kX4_welcome 15 (.invokestatic 65) 3 18 := ⟨by decide +kernel, rfl⟩
theorem dX4_welcome_18 : Dj kX4_welcome 18 (fun o => .ifCond .ne o) 3 21 24 := ⟨6, by decide +kernel, rfl, by decide⟩
theorem dX4_welcome_21 : Dk kX4_welcome 21 (.bipush (-2)) 2 23 := ⟨by decide +kernel, rfl⟩
theorem dX4_welcome_23 : Dk kX4_welcome 23 (.ireturn) 1 24 := ⟨by decide +kernel, rfl⟩
theorem dX4_welcome_24 : Dk kX4_welcome 24 (.aload_n 0) 1 25 := ⟨by decide +kernel, rfl⟩
theorem dX4_welcome_25 : Dk kX4_welcome 25 (.getfield 39) 3 28 := ⟨by decide +kernel, rfl⟩
theorem dX4_welcome_28 : Dj kX4_welcome 28 (fun o => .ifCond .lt o) 3 31 40 := ⟨12, by decide +kernel, rfl, by decide⟩
theorem dX4_welcome_31 : Dk kX4_welcome 31 (.aload_n 0) 1 32 := ⟨by decide +kernel, rfl⟩
theorem dX4_welcome_32 : Dk kX4_welcome 32 (.getfield 39) 3 35 := ⟨by decide +kernel, rfl⟩
theorem dX4_welcome_35 : Dk kX4_welcome 35 (.bipush 6) 2 37 := ⟨by decide +kernel, rfl⟩
theorem dX4_welcome_37 : Dj kX4_welcome 37 (fun o => .if_icmp .lt o) 3 40 43 := ⟨6, by decide +kernel, rfl, by decide⟩
theorem dX4_welcome_40 : Dk kX4_welcome 40 (.bipush (-4)) 2 42 := ⟨by decide +kernel, rfl⟩
theorem dX4_welcome_42 : Dk kX4_welcome 42 (.ireturn) 1 43 := ⟨by decide +kernel, rfl⟩
theorem dX4_welcome_43 : Dk kX4_welcome 43 (.aload_n 0) 1 44 := ⟨by decide +kernel, rfl⟩
theorem dX4_welcome_44 : Dk kX4_welcome 44 (.getfield 39) 3 47 := ⟨by decide +kernel, rfl⟩
theorem dX4_welcome_47 : Dk kX4_welcome 47 (.istore_n 3) 1 48 := ⟨by decide +kernel, rfl⟩
theorem dX4_welcome_48 : Dk kX4_welcome 48 (.aload_n 0) 1 49 := ⟨by decide +kernel, rfl⟩
theorem dX4_welcome_49 : Dk kX4_welcome 49 (.getfield 30) 3 52 := ⟨by decide +kernel, rfl⟩
theorem dX4_welcome_52 : Dk kX4_welcome 52 (.iload_n 3) 1 53 := ⟨by decide +kernel, rfl⟩
theorem dX4_welcome_53 : Dk kX4_welcome 53 (.iload_n 1) 1 54 := ⟨by decide +kernel, rfl⟩
theorem dX4_welcome_54 : Dk kX4_welcome 54 (.bipush 10) 2 56 := ⟨by decide +kernel, rfl⟩
theorem dX4_welcome_56 : Dk kX4_welcome 56 (.idiv) 1 57 := ⟨by decide +kernel, rfl⟩
theorem dX4_welcome_57 : Dk kX4_welcome 57 (.iastore) 1 58 := ⟨by decide +kernel, rfl⟩
theorem dX4_welcome_58 : Dk kX4_welcome 58 (.aload_n 0) 1 59 := ⟨by decide +kernel, rfl⟩
theorem dX4_welcome_59 : Dk kX4_welcome 59 (.getfield 33) 3 62 := ⟨by decide +kernel, rfl⟩
theorem dX4_welcome_62 : Dk kX4_welcome 62 (.iload_n 3) 1 63 := ⟨by decide +kernel, rfl⟩
theorem dX4_welcome_63 : Dk kX4_welcome 63 (.iload_n 1) 1 64 := ⟨by decide +kernel, rfl⟩
theorem dX4_welcome_64 : Dk kX4_welcome 64 (.bipush 10) 2 66 := ⟨by decide +kernel, rfl⟩
theorem dX4_welcome_66 : Dk kX4_welcome 66 (.irem) 1 67 := ⟨by decide +kernel, rfl⟩
theorem dX4_welcome_67 : Dk kX4_welcome 67 (.iastore) 1 68 := ⟨by decide +kernel, rfl⟩
theorem dX4_welcome_68 : Dk kX4_welcome 68 (.aload_n 0) 1 69 := ⟨by decide +kernel, rfl⟩
theorem dX4_welcome_69 : Dk kX4_welcome 69 (.getfield 21) 3 72 := ⟨by decide +kernel, rfl⟩
theorem dX4_welcome_72 : Dk kX4_welcome 72 (.iload_n 3) 1 73 := ⟨by decide +kernel, rfl⟩
theorem dX4_welcome_73 : Dk kX4_welcome 73 (.iload_n 2) 1 74 := ⟨by decide +kernel, rfl⟩
theorem dX4_welcome_74 : Dk kX4_welcome 74 (.bipush 100) 2 76 := ⟨by decide +kernel, rfl⟩
theorem dX4_welcome_76 : Dk kX4_welcome 76 (.idiv) 1 77 := ⟨by decide +kernel, rfl⟩
theorem dX4_welcome_77 : Dk kX4_welcome 77 (.iastore) 1 78 := ⟨by decide +kernel, rfl⟩
theorem dX4_welcome_78 : Dk kX4_welcome 78 (.aload_n 0) 1 79 := ⟨by decide +kernel, rfl⟩
theorem dX4_welcome_79 : Dk kX4_welcome 79 (.getfield 24) 3 82 := ⟨by decide +kernel, rfl⟩
theorem dX4_welcome_82 : Dk kX4_welcome 82 (.iload_n 3) 1 83 := ⟨by decide +kernel, rfl⟩
theorem dX4_welcome_83 : Dk kX4_welcome 83 (.iload_n 2) 1 84 := ⟨by decide +kernel, rfl⟩
theorem dX4_welcome_84 : Dk kX4_welcome 84 (.bipush 100) 2 86 := ⟨by decide +kernel, rfl⟩
theorem dX4_welcome_86 : Dk kX4_welcome 86 (.irem) 1 87 := ⟨by decide +kernel, rfl⟩
theorem dX4_welcome_87 : Dk kX4_welcome 87 (.iastore) 1 88 := ⟨by decide +kernel, rfl⟩
theorem dX4_welcome_88 : Dk kX4_welcome 88 (.aload_n 0) 1 89 := ⟨by decide +kernel, rfl⟩
theorem dX4_welcome_89 : Dk kX4_welcome 89 (.getfield 27) 3 92 := ⟨by decide +kernel, rfl⟩
theorem dX4_welcome_92 : Dk kX4_welcome 92 (.iload_n 3) 1 93 := ⟨by decide +kernel, rfl⟩
theorem dX4_welcome_93 : Dk kX4_welcome 93 (.iconst 0) 1 94 := ⟨by decide +kernel, rfl⟩
theorem dX4_welcome_94 : Dk kX4_welcome 94 (.iastore) 1 95 := ⟨by decide +kernel, rfl⟩
theorem dX4_welcome_95 : Dk kX4_welcome 95 (.aload_n 0) 1 96 := ⟨by decide +kernel, rfl⟩
theorem dX4_welcome_96 : Dk kX4_welcome 96 (.dup) 1 97 := ⟨by decide +kernel, rfl⟩
theorem dX4_welcome_97 : Dk kX4_welcome 97 (.getfield 39) 3 100 := ⟨by decide +kernel, rfl⟩
theorem dX4_welcome_100 : Dk kX4_welcome 100 (.iconst 1) 1 101 := ⟨by decide +kernel, rfl⟩
theorem dX4_welcome_101 : Dk kX4_welcome 101 (.iadd) 1 102 := ⟨by decide +kernel, rfl⟩
theorem dX4_welcome_102 : Dk kX4_welcome 102 (.putfield 39) 3 105 := ⟨by decide +kernel, rfl⟩
theorem dX4_welcome_105 : Dk kX4_welcome 105 (.iload_n 3) 1 106 := ⟨by decide +kernel, rfl⟩
theorem dX4_welcome_106 : Dk kX4_welcome 106 (.ireturn) 1 107 := ⟨by decide +kernel, rfl⟩
theorem dX4_says_0 : Dk kX4_says 0 (.aload_n 0) 1 1 := ⟨by decide +kernel, rfl⟩
theorem dX4_says_1 : Dk kX4_says 1 (.getfield 36) 3 4 := ⟨by decide +kernel, rfl⟩
theorem dX4_says_4 : Dk kX4_says 4 (.iconst 0) 1 5 := ⟨by decide +kernel, rfl⟩
theorem dX4_says_5 : Dk kX4_says 5 (.aload_n 0) 1 6 := ⟨by decide +kernel, rfl⟩
theorem dX4_says_6 : Dk kX4_says 6 (.getfield 21) 3 9 := ⟨by decide +kernel, rfl⟩
theorem dX4_says_9 : Dk kX4_says 9 (.iload_n 2) 1 10 := ⟨by decide +kernel, rfl⟩
theorem dX4_says_10 : Dk kX4_says 10 (.iaload) 1 11 := ⟨by decide +kernel, rfl⟩
theorem dX4_says_11 : Dk kX4_says 11 (.iastore) 1 12 := ⟨by decide +kernel, rfl⟩
theorem dX4_says_12 : Dk kX4_says 12 (.aload_n 0) 1 13 := ⟨by decide +kernel, rfl⟩
theorem dX4_says_13 : Dk kX4_says 13 (.getfield 36) 3 16 := ⟨by decide +kernel, rfl⟩
theorem dX4_says_16 : Dk kX4_says 16 (.iconst 1) 1 17 := ⟨by decide +kernel, rfl⟩
theorem dX4_says_17 : Dk kX4_says 17 (.aload_n 0) 1 18 := ⟨by decide +kernel, rfl⟩
theorem dX4_says_18 : Dk kX4_says 18 (.getfield 24) 3 21 := ⟨by decide +kernel, rfl⟩
theorem dX4_says_21 : Dk kX4_says 21 (.iload_n 2) 1 22 := ⟨by decide +kernel, rfl⟩
theorem dX4_says_22 : Dk kX4_says 22 (.iaload) 1 23 := ⟨by decide +kernel, rfl⟩
theorem dX4_says_23 : Dk kX4_says 23 (.iastore) 1 24 := ⟨by decide +kernel, rfl⟩
theorem dX4_says_24 : Dk kX4_says 24 (.aload_n 0) 1 25 := ⟨by decide +kernel, rfl⟩
theorem dX4_says_25 : Dk kX4_says 25 (.getfield 36) 3 28 := ⟨by decide +kernel, rfl⟩
theorem dX4_says_28 : Dk kX4_says 28 (.iconst 2) 1 29 := ⟨by decide +kernel, rfl⟩
theorem dX4_says_29 : Dk kX4_says 29 (.aload_n 0) 1 30 := ⟨by decide +kernel, rfl⟩
theorem dX4_says_30 : Dk kX4_says 30 (.getfield 43) 3 33 := ⟨by decide +kernel, rfl⟩
theorem dX4_says_33 : Dk kX4_says 33 (.bipush 20) 2 35 := ⟨by decide +kernel, rfl⟩
theorem dX4_says_35 : Dk kX4_says 35 (.irem) 1 36 := ⟨by decide +kernel, rfl⟩
theorem dX4_says_36 : Dk kX4_says 36 (.iastore) 1 37 := ⟨by decide +kernel, rfl⟩
theorem dX4_says_37 : Dk kX4_says 37 (.aload_n 0) 1 38 := ⟨by decide +kernel, rfl⟩
theorem dX4_says_38 : Dk kX4_says 38 (.getfield 36) 3 41 := ⟨by decide +kernel, rfl⟩
theorem dX4_says_41 : Dk kX4_says 41 (.iconst 3) 1 42 := ⟨by decide +kernel, rfl⟩
theorem dX4_says_42 : Dk kX4_says 42 (.aload_n 0) 1 43 := ⟨by decide +kernel, rfl⟩
theorem dX4_says_43 : Dk kX4_says 43 (.getfield 15) 3 46 := ⟨by decide +kernel, rfl⟩
theorem dX4_says_46 : Dk kX4_says 46 (.aload_n 0) 1 47 := ⟨by decide +kernel, rfl⟩
theorem dX4_says_47 : Dk kX4_says 47 (.getfield 21) 3 50 := ⟨by decide +kernel, rfl⟩
theorem dX4_says_50 : Dk kX4_says 50 (.iload_n 2) 1 51 := ⟨by decide +kernel, rfl⟩
theorem dX4_says_51 : Dk kX4_says 51 (.iaload) 1 52 := ⟨by decide +kernel, rfl⟩
theorem dX4_says_52 : Dk kX4_says 52 (.iaload) 1 53 := ⟨by decide +kernel, rfl⟩
theorem dX4_says_53 : Dk kX4_says 53 (.iconst (-1)) 1 54 := ⟨by decide +kernel, rfl⟩
theorem dX4_says_54 : Dj kX4_says 54 (fun o => .if_icmp .ne o) 3 57 61 := ⟨7, by decide +kernel, rfl, by decide⟩
theorem dX4_says_57 : Dk kX4_says 57 (.iconst 0) 1 58 := ⟨by decide +kernel, rfl⟩
theorem dX4_says_58 : Dj kX4_says 58 (fun o => .goto o) 3 61 62 := ⟨4, by decide +kernel, rfl, by decide⟩
theorem dX4_says_61 : Dk kX4_says 61 (.iconst 1) 1 62 := ⟨by decide +kernel, rfl⟩
theorem dX4_says_62 : Dk kX4_says 62 (.iastore) 1 63 := ⟨by decide +kernel, rfl⟩
theorem dX4_says_63 : Dk kX4_says 63 (.aload_n 0) 1 64 := ⟨by decide +kernel, rfl⟩
theorem dX4_says_64 : Dk kX4_says 64 (.getfield 36) 3 67 := ⟨by decide +kernel, rfl⟩
theorem dX4_says_67 : Dk kX4_says 67 (.iconst 4) 1 68 := ⟨by decide +kernel, rfl⟩
theorem dX4_says_68 : Dk kX4_says 68 (.aload_n 0) 1 69 := ⟨by decide +kernel, rfl⟩
theorem dX4_says_69 : Dk kX4_says 69 (.getfield 27) 3 72 := ⟨by decide +kernel, rfl⟩
theorem dX4_says_72 : Dk kX4_says 72 (.iload_n 2) 1 73 := ⟨by decide +kernel, rfl⟩
theorem dX4_says_73 : Dk kX4_says 73 (.iaload) 1 74 := ⟨by decide +kernel, rfl⟩
theorem dX4_says_74 : Dk kX4_says 74 (.iastore) 1 75 := ⟨by decide +kernel, rfl⟩
theorem dX4_says_75 : Dk kX4_says 75 (.aload_n 0) 1 76 := ⟨by decide +kernel, rfl⟩
theorem dX4_says_76 : Dk kX4_says 76 (.getfield 36) 3 79 := ⟨by decide +kernel, rfl⟩
theorem dX4_says_79 : Dk kX4_says 79 (.iconst 5) 1 80 := ⟨by decide +kernel, rfl⟩
theorem dX4_says_80 : Dk kX4_says 80 (.aload_n 0) 1 81 := ⟨by decide +kernel, rfl⟩
theorem dX4_says_81 : Dk kX4_says 81 (.getfield 33) 3 84 := ⟨by decide +kernel, rfl⟩
theorem dX4_says_84 : Dk kX4_says 84 (.iload_n 2) 1 85 := ⟨by decide +kernel, rfl⟩
theorem dX4_says_85 : Dk kX4_says 85 (.iaload) 1 86 := ⟨by decide +kernel, rfl⟩
theorem dX4_says_86 : Dk kX4_says 86 (.iastore) 1 87 := ⟨by decide +kernel, rfl⟩
theorem dX4_says_87 : Dk kX4_says 87 (.iload_n 1) 1 88 := ⟨by decide +kernel, rfl⟩
theorem dX4_says_88 : Dk kX4_says 88 (.iconst 2) 1 89 := ⟨by decide +kernel, rfl⟩
theorem dX4_says_89 : Dj kX4_says 89 (fun o => .if_icmp .ne o) 3 92 97 := ⟨8, by decide +kernel, rfl, by decide⟩
theorem dX4_says_92 : Dk kX4_says 92 (.bipush (-99)) 2 94 := ⟨by decide +kernel, rfl⟩
theorem dX4_says_94 : Dj kX4_says 94 (fun o => .goto o) 3 97 98 := ⟨4, by decide +kernel, rfl, by decide⟩
theorem dX4_says_97 : Dk kX4_says 97 (.iconst 0) 1 98 := ⟨by decide +kernel, rfl⟩
theorem dX4_says_98 : Dk kX4_says 98 (.istore_n 3) 1 99 := ⟨by decide +kernel, rfl⟩
theorem dX4_says_99 : Dk kX4_says 99 (.iload_n 3) 1 100 := ⟨by decide +kernel, rfl⟩
theorem dX4_says_100 : Dk kX4_says 100 (.bipush 99) 2 102 := ⟨by decide +kernel, rfl⟩
theorem dX4_says_102 : Dk kX4_says 102 (.aload_n 0) 1 103 := ⟨by decide +kernel, rfl⟩
theorem dX4_says_103 : Dk kX4_says 103 (.getfield 49) 3 106 := ⟨by decide +kernel, rfl⟩
theorem dX4_says_106 : Dk kX4_says 106 (.aload_n 0) 1 107 := ⟨by decide +kernel, rfl⟩
theorem dX4_says_107 : Dk kX4_says 107 (.getfield 46) 3 110 := ⟨by decide +kernel, rfl⟩
theorem dX4_says_110 : Dk kX4_says 110 (.aaload) 1 111 := ⟨by decide +kernel, rfl⟩
theorem dX4_says_111 : Dk kX4_says 111 (.iload_n 1) 1 112 := ⟨by decide +kernel, rfl⟩
theorem dX4_says_112 : Dk kX4_says 112 (.aload_n 0) 1 113 := ⟨by decide +kernel, rfl⟩
theorem dX4_says_113 : Dk kX4_says 113 (.getfield 36) 3 116 := ⟨by decide +kernel, rfl⟩
theorem dX4_says_116 : Dk kX4_says 116 (.invokevirtual 69) 3 119 := ⟨by decide +kernel, rfl⟩
theorem dX4_says_119 : Dk kX4_says 119 (.invokestatic 75) 3 122 := ⟨by decide +kernel, rfl⟩
theorem dX4_says_122 : Dk kX4_says 122 (.invokestatic 81) 3 125 := ⟨by decide +kernel, rfl⟩
theorem dX4_says_125 : Dk kX4_says 125 (.ireturn) 1 126 := ⟨by decide +kernel, rfl⟩
theorem dX4_wouldTry_0 : Dk kX4_wouldTry 0 (.aload_n 0) 1 1 := ⟨by decide +kernel, rfl⟩
theorem dX4_wouldTry_1 : Dk kX4_wouldTry 1 (.getfield 15) 3 4 := ⟨by decide +kernel, rfl⟩
theorem dX4_wouldTry_4 : Dk kX4_wouldTry 4 (.aload_n 0) 1 5 := ⟨by decide +kernel, rfl⟩
theorem dX4_wouldTry_5 : Dk kX4_wouldTry 5 (.getfield 21) 3 8 := ⟨by decide +kernel, rfl⟩
theorem dX4_wouldTry_8 : Dk kX4_wouldTry 8 (.iload_n 1) 1 9 := ⟨by decide +kernel, rfl⟩
theorem dX4_wouldTry_9 : Dk kX4_wouldTry 9 (.iaload) 1 10 := ⟨by decide +kernel, rfl⟩
theorem dX4_wouldTry_10 : Dk kX4_wouldTry 10 (.iaload) 1 11 := ⟨by decide +kernel, rfl⟩
theorem dX4_wouldTry_11 : Dk kX4_wouldTry 11 (.iconst (-1)) 1 12 := ⟨by decide +kernel, rfl⟩
theorem dX4_wouldTry_12 : Dj kX4_wouldTry 12 (fun o => .if_icmp .ne o) 3 15 19 := ⟨7, by decide +kernel, rfl, by decide⟩
theorem dX4_wouldTry_15 : Dk kX4_wouldTry 15 (.iconst 1) 1 16 := ⟨by decide +kernel, rfl⟩
theorem dX4_wouldTry_16 : Dj kX4_wouldTry 16 (fun o => .goto o) 3 19 20 := ⟨4, by decide +kernel, rfl, by decide⟩
theorem dX4_wouldTry_19 : Dk kX4_wouldTry 19 (.iconst 0) 1 20 := ⟨by decide +kernel, rfl⟩
theorem dX4_wouldTry_20 : Dk kX4_wouldTry 20 (.istore_n 2) 1 21 := ⟨by decide +kernel, rfl⟩
theorem dX4_wouldTry_21 : Dk kX4_wouldTry 21 (.aload_n 0) 1 22 := ⟨by decide +kernel, rfl⟩
theorem dX4_wouldTry_22 : Dk kX4_wouldTry 22 (.getfield 30) 3 25 := ⟨by decide +kernel, rfl⟩
theorem dX4_wouldTry_25 : Dk kX4_wouldTry 25 (.iload_n 1) 1 26 := ⟨by decide +kernel, rfl⟩
theorem dX4_wouldTry_26 : Dk kX4_wouldTry 26 (.iaload) 1 27 := ⟨by decide +kernel, rfl⟩
theorem dX4_wouldTry_27 : Dk kX4_wouldTry 27 (.tableswitch 101 1 4 #[29, 48, 67, 69]) 29 56 := ⟨by decide +kernel, rfl⟩
theorem dX4_wouldTry_56 : Dk kX4_wouldTry 56 (.iload_n 2) 1 57 := ⟨by decide +kernel, rfl⟩
theorem dX4_wouldTry_57 : Dj kX4_wouldTry 57 (fun o => .ifCond .ne o) 3 60 69 := ⟨12, by decide +kernel, rfl, by decide⟩
theorem dX4_wouldTry_60 : Dk kX4_wouldTry 60 (.aload_n 0) 1 61 := ⟨by decide +kernel, rfl⟩
theorem dX4_wouldTry_61 : Dk kX4_wouldTry 61 (.iconst 0) 1 62 := ⟨by decide +kernel, rfl⟩
theorem dX4_wouldTry_62 : Dk kX4_wouldTry 62 (.iload_n 1) 1 63 := ⟨by decide +kernel, rfl⟩
theorem dX4_wouldTry_63 : Dk kX4_wouldTry 63 (.invokevirtual 84) 3 66 := ⟨by decide +kernel, rfl⟩
theorem dX4_wouldTry_66 : Dj kX4_wouldTry 66 (fun o => .ifCond .eq o) 3 69 73 := ⟨7, by decide +kernel, rfl, by decide⟩
theorem dX4_wouldTry_69 : Dk kX4_wouldTry 69 (.iconst 1) 1 70 := ⟨by decide +kernel, rfl⟩
theorem dX4_wouldTry_70 : Dj kX4_wouldTry 70 (fun o => .goto o) 3 73 74 := ⟨4, by decide +kernel, rfl, by decide⟩
theorem dX4_wouldTry_73 : Dk kX4_wouldTry 73 (.iconst 0) 1 74 := ⟨by decide +kernel, rfl⟩
theorem dX4_wouldTry_74 : Dk kX4_wouldTry 74 (.ireturn) 1 75 := ⟨by decide +kernel, rfl⟩
theorem dX4_wouldTry_75 : Dk kX4_wouldTry 75 (.iload_n 2) 1 76 := ⟨by decide +kernel, rfl⟩
theorem dX4_wouldTry_76 : Dj kX4_wouldTry 76 (fun o => .ifCond .ne o) 3 79 92 := ⟨16, by decide +kernel, rfl, by decide⟩
theorem dX4_wouldTry_79 : Dk kX4_wouldTry 79 (.aload_n 0) 1 80 := ⟨by decide +kernel, rfl⟩
theorem dX4_wouldTry_80 : Dk kX4_wouldTry 80 (.iconst 0) 1 81 := ⟨by decide +kernel, rfl⟩
theorem dX4_wouldTry_81 : Dk kX4_wouldTry 81 (.iload_n 1) 1 82 := ⟨by decide +kernel, rfl⟩
theorem dX4_wouldTry_82 : Dk kX4_wouldTry 82 (.invokevirtual 84) 3 85 := ⟨by decide +kernel, rfl⟩
theorem dX4_wouldTry_85 : Dj kX4_wouldTry 85 (fun o => .ifCond .eq o) 3 88 92 := ⟨7, by decide +kernel, rfl, by decide⟩
theorem dX4_wouldTry_88 : Dk kX4_wouldTry 88 (.iconst 1) 1 89 := ⟨by decide +kernel, rfl⟩
theorem dX4_wouldTry_89 : Dj kX4_wouldTry 89 (fun o => .goto o) 3 92 93 := ⟨4, by decide +kernel, rfl, by decide⟩
theorem dX4_wouldTry_92 : Dk kX4_wouldTry 92 (.iconst 0) 1 93 := ⟨by decide +kernel, rfl⟩
theorem dX4_wouldTry_93 : Dk kX4_wouldTry 93 (.ireturn) 1 94 := ⟨by decide +kernel, rfl⟩
theorem dX4_wouldTry_94 : Dk kX4_wouldTry 94 (.iload_n 2) 1 95 := ⟨by decide +kernel, rfl⟩
theorem dX4_wouldTry_95 : Dk kX4_wouldTry 95 (.ireturn) 1 96 := ⟨by decide +kernel, rfl⟩
theorem dX4_wouldTry_96 : Dk kX4_wouldTry 96 (.aload_n 0) 1 97 := ⟨by decide +kernel, rfl⟩
theorem dX4_wouldTry_97 : Dk kX4_wouldTry 97 (.getfield 43) 3 100 := ⟨by decide +kernel, rfl⟩
theorem dX4_wouldTry_100 : Dk kX4_wouldTry 100 (.iconst 2) 1 101 := ⟨by decide +kernel, rfl⟩
theorem dX4_wouldTry_101 : Dk kX4_wouldTry 101 (.irem) 1 102 := ⟨by decide +kernel, rfl⟩
theorem dX4_wouldTry_102 : Dj kX4_wouldTry 102 (fun o => .ifCond .ne o) 3 105 126 := ⟨24, by decide +kernel, rfl, by decide⟩
theorem dX4_wouldTry_105 : Dk kX4_wouldTry 105 (.iload_n 2) 1 106 := ⟨by decide +kernel, rfl⟩
theorem dX4_wouldTry_106 : Dj kX4_wouldTry 106 (fun o => .ifCond .ne o) 3 109 122 := ⟨16, by decide +kernel, rfl, by decide⟩
theorem dX4_wouldTry_109 : Dk kX4_wouldTry 109 (.aload_n 0) 1 110 := ⟨by decide +kernel, rfl⟩
theorem dX4_wouldTry_110 : Dk kX4_wouldTry 110 (.iconst 0) 1 111 := ⟨by decide +kernel, rfl⟩
theorem dX4_wouldTry_111 : Dk kX4_wouldTry 111 (.iload_n 1) 1 112 := ⟨by decide +kernel, rfl⟩
theorem dX4_wouldTry_112 : Dk kX4_wouldTry 112 (.invokevirtual 84) 3 115 := ⟨by decide +kernel, rfl⟩
theorem dX4_wouldTry_115 : Dj kX4_wouldTry 115 (fun o => .ifCond .eq o) 3 118 122 := ⟨7, by decide +kernel, rfl, by decide⟩
theorem dX4_wouldTry_118 : Dk kX4_wouldTry 118 (.iconst 1) 1 119 := ⟨by decide +kernel, rfl⟩
theorem dX4_wouldTry_119 : Dj kX4_wouldTry 119 (fun o => .goto o) 3 122 127 := ⟨8, by decide +kernel, rfl, by decide⟩
theorem dX4_wouldTry_122 : Dk kX4_wouldTry 122 (.iconst 0) 1 123 := ⟨by decide +kernel, rfl⟩
theorem dX4_wouldTry_123 : Dj kX4_wouldTry 123 (fun o => .goto o) 3 126 127 := ⟨4, by decide +kernel, rfl, by decide⟩
theorem dX4_wouldTry_126 : Dk kX4_wouldTry 126 (.iload_n 2) 1 127 := ⟨by decide +kernel, rfl⟩
theorem dX4_wouldTry_127 : Dk kX4_wouldTry 127 (.ireturn) 1 128 := ⟨by decide +kernel, rfl⟩
theorem dX4_wouldTry_128 : Dk kX4_wouldTry 128 (.aload_n 0) 1 129 := ⟨by decide +kernel, rfl⟩
theorem dX4_wouldTry_129 : Dk kX4_wouldTry 129 (.iconst 0) 1 130 := ⟨by decide +kernel, rfl⟩
theorem dX4_wouldTry_130 : Dk kX4_wouldTry 130 (.iload_n 1) 1 131 := ⟨by decide +kernel, rfl⟩
theorem dX4_wouldTry_131 : Dk kX4_wouldTry 131 (.invokevirtual 84) 3 134 := ⟨by decide +kernel, rfl⟩
theorem dX4_wouldTry_134 : Dj kX4_wouldTry 134 (fun o => .ifCond .eq o) 3 137 141 := ⟨7, by decide +kernel, rfl, by decide⟩
theorem dX4_wouldTry_137 : Dk kX4_wouldTry 137 (.iconst 1) 1 138 := ⟨by decide +kernel, rfl⟩
theorem dX4_wouldTry_138 : Dj kX4_wouldTry 138 (fun o => .goto o) 3 141 142 := ⟨4, by decide +kernel, rfl, by decide⟩
theorem dX4_wouldTry_141 : Dk kX4_wouldTry 141 (.iconst 0) 1 142 := ⟨by decide +kernel, rfl⟩
theorem dX4_wouldTry_142 : Dk kX4_wouldTry 142 (.ireturn) 1 143 := ⟨by decide +kernel, rfl⟩
theorem dX4_wouldPay_0 : Dk kX4_wouldPay 0 (.aload_n 0) 1 1 := ⟨by decide +kernel, rfl⟩
theorem dX4_wouldPay_1 : Dk kX4_wouldPay 1 (.getfield 30) 3 4 := ⟨by decide +kernel, rfl⟩
theorem dX4_wouldPay_4 : Dk kX4_wouldPay 4 (.iload_n 1) 1 5 := ⟨by decide +kernel, rfl⟩
theorem dX4_wouldPay_5 : Dk kX4_wouldPay 5 (.iaload) 1 6 := ⟨by decide +kernel, rfl⟩
theorem dX4_wouldPay_6 : Dk kX4_wouldPay 6 (.tableswitch 55 2 5 #[30, 55, 44, 46]) 30 36 := ⟨by decide +kernel, rfl⟩
theorem dX4_wouldPay_36 : Dk kX4_wouldPay 36 (.aload_n 0) 1 37 := ⟨by decide +kernel, rfl⟩
theorem dX4_wouldPay_37 : Dk kX4_wouldPay 37 (.iconst 1) 1 38 := ⟨by decide +kernel, rfl⟩
theorem dX4_wouldPay_38 : Dk kX4_wouldPay 38 (.iload_n 1) 1 39 := ⟨by decide +kernel, rfl⟩
theorem dX4_wouldPay_39 : Dk kX4_wouldPay 39 (.invokevirtual 84) 3 42 := ⟨by decide +kernel, rfl⟩
theorem dX4_wouldPay_42 : Dk kX4_wouldPay 42 (.aload_n 0) 1 43 := ⟨by decide +kernel, rfl⟩
theorem dX4_wouldPay_43 : Dk kX4_wouldPay 43 (.getfield 33) 3 46 := ⟨by decide +kernel, rfl⟩
theorem dX4_wouldPay_46 : Dk kX4_wouldPay 46 (.iload_n 1) 1 47 := ⟨by decide +kernel, rfl⟩
theorem dX4_wouldPay_47 : Dk kX4_wouldPay 47 (.iaload) 1 48 := ⟨by decide +kernel, rfl⟩
theorem dX4_wouldPay_48 : Dk kX4_wouldPay 48 (.iadd) 1 49 := ⟨by decide +kernel, rfl⟩
theorem dX4_wouldPay_49 : Dk kX4_wouldPay 49 (.ireturn) 1 50 := ⟨by decide +kernel, rfl⟩
theorem dX4_wouldPay_50 : Dk kX4_wouldPay 50 (.iconst 0) 1 51 := ⟨by decide +kernel, rfl⟩
theorem dX4_wouldPay_51 : Dk kX4_wouldPay 51 (.ireturn) 1 52 := ⟨by decide +kernel, rfl⟩
theorem dX4_wouldPay_52 : Dk kX4_wouldPay 52 (.aload_n 0) 1 53 := ⟨by decide +kernel, rfl⟩
theorem dX4_wouldPay_53 : Dk kX4_wouldPay 53 (.iconst 1) 1 54 := ⟨by decide +kernel, rfl⟩
theorem dX4_wouldPay_54 : Dk kX4_wouldPay 54 (.iload_n 1) 1 55 := ⟨by decide +kernel, rfl⟩
theorem dX4_wouldPay_55 : Dk kX4_wouldPay 55 (.invokevirtual 84) 3 58 := ⟨by decide +kernel, rfl⟩
theorem dX4_wouldPay_58 : Dk kX4_wouldPay 58 (.iconst 2) 1 59 := ⟨by decide +kernel, rfl⟩
theorem dX4_wouldPay_59 : Dk kX4_wouldPay 59 (.idiv) 1 60 := ⟨by decide +kernel, rfl⟩
theorem dX4_wouldPay_60 : Dk kX4_wouldPay 60 (.ireturn) 1 61 := ⟨by decide +kernel, rfl⟩
theorem dX4_wouldPay_61 : Dk kX4_wouldPay 61 (.aload_n 0) 1 62 := ⟨by decide +kernel, rfl⟩
theorem dX4_wouldPay_62 : Dk kX4_wouldPay 62 (.iconst 1) 1 63 := ⟨by decide +kernel, rfl⟩
theorem dX4_wouldPay_63 : Dk kX4_wouldPay 63 (.iload_n 1) 1 64 := ⟨by decide +kernel, rfl⟩
theorem dX4_wouldPay_64 : Dk kX4_wouldPay 64 (.invokevirtual 84) 3 67 := ⟨by decide +kernel, rfl⟩
theorem dX4_wouldPay_67 : Dk kX4_wouldPay 67 (.ireturn) 1 68 := ⟨by decide +kernel, rfl⟩
theorem dX4_wouldGo_0 : Dk kX4_wouldGo 0 (.aload_n 0) 1 1 := ⟨by decide +kernel, rfl⟩
theorem dX4_wouldGo_1 : Dk kX4_wouldGo 1 (.getfield 30) 3 4 := ⟨by decide +kernel, rfl⟩
theorem dX4_wouldGo_4 : Dk kX4_wouldGo 4 (.iload_n 1) 1 5 := ⟨by decide +kernel, rfl⟩
theorem dX4_wouldGo_5 : Dk kX4_wouldGo 5 (.iaload) 1 6 := ⟨by decide +kernel, rfl⟩
theorem dX4_wouldGo_6 : Dk kX4_wouldGo 6 (.tableswitch 60 1 5 #[34, 60, 36, 60, 58]) 34 40 := ⟨by decide +kernel, rfl⟩
theorem dX4_wouldGo_40 : Dk kX4_wouldGo 40 (.iconst 1) 1 41 := ⟨by decide +kernel, rfl⟩
theorem dX4_wouldGo_41 : Dk kX4_wouldGo 41 (.ireturn) 1 42 := ⟨by decide +kernel, rfl⟩
theorem dX4_wouldGo_42 : Dk kX4_wouldGo 42 (.aload_n 0) 1 43 := ⟨by decide +kernel, rfl⟩
theorem dX4_wouldGo_43 : Dk kX4_wouldGo 43 (.getfield 43) 3 46 := ⟨by decide +kernel, rfl⟩
theorem dX4_wouldGo_46 : Dk kX4_wouldGo 46 (.bipush 20) 2 48 := ⟨by decide +kernel, rfl⟩
theorem dX4_wouldGo_48 : Dk kX4_wouldGo 48 (.irem) 1 49 := ⟨by decide +kernel, rfl⟩
theorem dX4_wouldGo_49 : Dk kX4_wouldGo 49 (.aload_n 0) 1 50 := ⟨by decide +kernel, rfl⟩
theorem dX4_wouldGo_50 : Dk kX4_wouldGo 50 (.getfield 33) 3 53 := ⟨by decide +kernel, rfl⟩
theorem dX4_wouldGo_53 : Dk kX4_wouldGo 53 (.iload_n 1) 1 54 := ⟨by decide +kernel, rfl⟩
theorem dX4_wouldGo_54 : Dk kX4_wouldGo 54 (.iaload) 1 55 := ⟨by decide +kernel, rfl⟩
theorem dX4_wouldGo_55 : Dj kX4_wouldGo 55 (fun o => .if_icmp .ge o) 3 58 62 := ⟨7, by decide +kernel, rfl, by decide⟩
theorem dX4_wouldGo_58 : Dk kX4_wouldGo 58 (.iconst 1) 1 59 := ⟨by decide +kernel, rfl⟩
theorem dX4_wouldGo_59 : Dj kX4_wouldGo 59 (fun o => .goto o) 3 62 63 := ⟨4, by decide +kernel, rfl, by decide⟩
theorem dX4_wouldGo_62 : Dk kX4_wouldGo 62 (.iconst (-1)) 1 63 := ⟨by decide +kernel, rfl⟩
theorem dX4_wouldGo_63 : Dk kX4_wouldGo 63 (.ireturn) 1 64 := ⟨by decide +kernel, rfl⟩
theorem dX4_wouldGo_64 : Dk kX4_wouldGo 64 (.iconst 0) 1 65 := ⟨by decide +kernel, rfl⟩
theorem dX4_wouldGo_65 : Dk kX4_wouldGo 65 (.ireturn) 1 66 := ⟨by decide +kernel, rfl⟩
theorem dX4_wouldGo_66 : Dk kX4_wouldGo 66 (.iconst (-1)) 1 67 := ⟨by decide +kernel, rfl⟩
theorem dX4_wouldGo_67 : Dk kX4_wouldGo 67 (.iconst 1) 1 68 := ⟨by decide +kernel, rfl⟩
theorem dX4_wouldGo_68 : Dk kX4_wouldGo 68 (.aload_n 0) 1 69 := ⟨by decide +kernel, rfl⟩
theorem dX4_wouldGo_69 : Dk kX4_wouldGo 69 (.iconst 2) 1 70 := ⟨by decide +kernel, rfl⟩
theorem dX4_wouldGo_70 : Dk kX4_wouldGo 70 (.iload_n 1) 1 71 := ⟨by decide +kernel, rfl⟩
theorem dX4_wouldGo_71 : Dk kX4_wouldGo 71 (.invokevirtual 84) 3 74 := ⟨by decide +kernel, rfl⟩
theorem dX4_wouldGo_74 : Dk kX4_wouldGo 74 (.invokestatic 75) 3 77 := ⟨by decide +kernel, rfl⟩
theorem dX4_wouldGo_77 : Dk kX4_wouldGo 77 (.invokestatic 81) 3 80 := ⟨by decide +kernel, rfl⟩
theorem dX4_wouldGo_80 : Dk kX4_wouldGo 80 (.ireturn) 1 81 := ⟨by decide +kernel, rfl⟩
theorem dX4_outcome_0 : Dk kX4_outcome 0 (.aload_n 0) 1 1 := ⟨by decide +kernel, rfl⟩
theorem dX4_outcome_1 : Dk kX4_outcome 1 (.getfield 15) 3 4 := ⟨by decide +kernel, rfl⟩
theorem dX4_outcome_4 : Dk kX4_outcome 4 (.iload_n 2) 1 5 := ⟨by decide +kernel, rfl⟩
theorem dX4_outcome_5 : Dk kX4_outcome 5 (.iaload) 1 6 := ⟨by decide +kernel, rfl⟩
theorem dX4_outcome_6 : Dk kX4_outcome 6 (.iconst (-1)) 1 7 := ⟨by decide +kernel, rfl⟩
theorem dX4_outcome_7 : Dj kX4_outcome 7 (fun o => .if_icmp .ne o) 3 10 14 := ⟨7, by decide +kernel, rfl, by decide⟩
theorem dX4_outcome_10 : Dk kX4_outcome 10 (.iconst 0) 1 11 := ⟨by decide +kernel, rfl⟩
theorem dX4_outcome_11 : Dj kX4_outcome 11 (fun o => .goto o) 3 14 29 := ⟨18, by decide +kernel, rfl, by decide⟩
theorem dX4_outcome_14 : Dk kX4_outcome 14 (.aload_n 0) 1 15 := ⟨by decide +kernel, rfl⟩
theorem dX4_outcome_15 : Dk kX4_outcome 15 (.getfield 15) 3 18 := ⟨by decide +kernel, rfl⟩
theorem dX4_outcome_18 : Dk kX4_outcome 18 (.iload_n 2) 1 19 := ⟨by decide +kernel, rfl⟩
theorem dX4_outcome_19 : Dk kX4_outcome 19 (.iaload) 1 20 := ⟨by decide +kernel, rfl⟩
theorem dX4_outcome_20 : Dk kX4_outcome 20 (.iload_n 1) 1 21 := ⟨by decide +kernel, rfl⟩
theorem dX4_outcome_21 : Dj kX4_outcome 21 (fun o => .if_icmp .ne o) 3 24 28 := ⟨7, by decide +kernel, rfl, by decide⟩
theorem dX4_outcome_24 : Dk kX4_outcome 24 (.iconst 1) 1 25 := ⟨by decide +kernel, rfl⟩
theorem dX4_outcome_25 : Dj kX4_outcome 25 (fun o => .goto o) 3 28 29 := ⟨4, by decide +kernel, rfl, by decide⟩
theorem dX4_outcome_28 : Dk kX4_outcome 28 (.iconst 2) 1 29 := ⟨by decide +kernel, rfl⟩
theorem dX4_outcome_29 : Dk kX4_outcome 29 (.ireturn) 1 30 := ⟨by decide +kernel, rfl⟩
theorem dX4_attempt_0 : Dk kX4_attempt 0 (.aload_n 0) 1 1 := ⟨by decide +kernel, rfl⟩
theorem dX4_attempt_1 : Dk kX4_attempt 1 (.iload_n 1) 1 2 := ⟨by decide +kernel, rfl⟩
theorem dX4_attempt_2 : Dk kX4_attempt 2 (.iload_n 2) 1 3 := ⟨by decide +kernel, rfl⟩
theorem dX4_attempt_3 : Dk kX4_attempt 3 (.invokevirtual 87) 3 6 := ⟨by decide +kernel, rfl⟩
theorem dX4_attempt_6 : Dk kX4_attempt 6 (.istore_n 3) 1 7 := ⟨by decide +kernel, rfl⟩
theorem dX4_attempt_7 : Dk kX4_attempt 7 (.iload_n 3) 1 8 := ⟨by decide +kernel, rfl⟩
theorem dX4_attempt_8 : Dk kX4_attempt 8 (.iconst 2) 1 9 := ⟨by decide +kernel, rfl⟩
theorem dX4_attempt_9 : Dj kX4_attempt 9 (fun o => .if_icmp .ne o) 3 12 140 := ⟨131, by decide +kernel, rfl, by decide⟩
theorem dX4_attempt_12 : Dk kX4_attempt 12 (.aload_n 0) 1 13 := ⟨by decide +kernel, rfl⟩
theorem dX4_attempt_13 : Dk kX4_attempt 13 (.getfield 15) 3 16 := ⟨by decide +kernel, rfl⟩
theorem dX4_attempt_16 : Dk kX4_attempt 16 (.iload_n 2) 1 17 := ⟨by decide +kernel, rfl⟩
theorem dX4_attempt_17 : Dk kX4_attempt 17 (.iaload) 1 18 := ⟨by decide +kernel, rfl⟩
theorem dX4_attempt_18 : Dk kX4_attempt 18 (.istore 4) 2 20 := ⟨by decide +kernel, rfl⟩
theorem dX4_attempt_20 : Dk kX4_attempt 20 (.aload_n 0) 1 21 := ⟨by decide +kernel, rfl⟩
theorem dX4_attempt_21 : Dk kX4_attempt 21 (.iload_n 1) 1 22 := ⟨by decide +kernel, rfl⟩
theorem dX4_attempt_22 : Dk kX4_attempt 22 (.invokevirtual 90) 3 25 := ⟨by decide +kernel, rfl⟩
theorem dX4_attempt_25 : Dk kX4_attempt 25 (.aload_n 0) 1 26 := ⟨by decide +kernel, rfl⟩
theorem dX4_attempt_26 : Dk kX4_attempt 26 (.getfield 24) 3 29 := ⟨by decide +kernel, rfl⟩
theorem dX4_attempt_29 : Dk kX4_attempt 29 (.iload_n 1) 1 30 := ⟨by decide +kernel, rfl⟩
theorem dX4_attempt_30 : Dk kX4_attempt 30 (.iaload) 1 31 := ⟨by decide +kernel, rfl⟩
theorem dX4_attempt_31 : Dk kX4_attempt 31 (.bipush 99) 2 33 := ⟨by decide +kernel, rfl⟩
theorem dX4_attempt_33 : Dk kX4_attempt 33 (.aload_n 0) 1 34 := ⟨by decide +kernel, rfl⟩
theorem dX4_attempt_34 : Dk kX4_attempt 34 (.getfield 24) 3 37 := ⟨by decide +kernel, rfl⟩
theorem dX4_attempt_37 : Dk kX4_attempt 37 (.iload 4) 2 39 := ⟨by decide +kernel, rfl⟩
theorem dX4_attempt_39 : Dk kX4_attempt 39 (.iaload) 1 40 := ⟨by decide +kernel, rfl⟩
theorem dX4_attempt_40 : Dk kX4_attempt 40 (.isub) 1 41 := ⟨by decide +kernel, rfl⟩
theorem dX4_attempt_41 : Dk kX4_attempt 41 (.invokestatic 75) 3 44 := ⟨by decide +kernel, rfl⟩
theorem dX4_attempt_44 : Dk kX4_attempt 44 (.invokestatic 75) 3 47 := ⟨by decide +kernel, rfl⟩
theorem dX4_attempt_47 : Dk kX4_attempt 47 (.istore 5) 2 49 := ⟨by decide +kernel, rfl⟩
theorem dX4_attempt_49 : Dk kX4_attempt 49 (.aload_n 0) 1 50 := ⟨by decide +kernel, rfl⟩
theorem dX4_attempt_50 : Dk kX4_attempt 50 (.getfield 24) 3 53 := ⟨by decide +kernel, rfl⟩
theorem dX4_attempt_53 : Dk kX4_attempt 53 (.iload_n 1) 1 54 := ⟨by decide +kernel, rfl⟩
theorem dX4_attempt_54 : Dk kX4_attempt 54 (.dup2) 1 55 := ⟨by decide +kernel, rfl⟩
theorem dX4_attempt_55 : Dk kX4_attempt 55 (.iaload) 1 56 := ⟨by decide +kernel, rfl⟩
theorem dX4_attempt_56 : Dk kX4_attempt 56 (.iload 5) 2 58 := ⟨by decide +kernel, rfl⟩
theorem dX4_attempt_58 : Dk kX4_attempt 58 (.isub) 1 59 := ⟨by decide +kernel, rfl⟩
theorem dX4_attempt_59 : Dk kX4_attempt 59 (.iastore) 1 60 := ⟨by decide +kernel, rfl⟩
theorem dX4_attempt_60 : Dk kX4_attempt 60 (.aload_n 0) 1 61 := ⟨by decide +kernel, rfl⟩
theorem dX4_attempt_61 : Dk kX4_attempt 61 (.getfield 24) 3 64 := ⟨by decide +kernel, rfl⟩
theorem dX4_attempt_64 : Dk kX4_attempt 64 (.iload 4) 2 66 := ⟨by decide +kernel, rfl⟩
theorem dX4_attempt_66 : Dk kX4_attempt 66 (.dup2) 1 67 := ⟨by decide +kernel, rfl⟩
theorem dX4_attempt_67 : Dk kX4_attempt 67 (.iaload) 1 68 := ⟨by decide +kernel, rfl⟩
theorem dX4_attempt_68 : Dk kX4_attempt 68 (.iload 5) 2 70 := ⟨by decide +kernel, rfl⟩
theorem dX4_attempt_70 : Dk kX4_attempt 70 (.iadd) 1 71 := ⟨by decide +kernel, rfl⟩
theorem dX4_attempt_71 : Dk kX4_attempt 71 (.iastore) 1 72 := ⟨by decide +kernel, rfl⟩
theorem dX4_attempt_72 : Dk kX4_attempt 72 (.aload_n 0) 1 73 := ⟨by decide +kernel, rfl⟩
theorem dX4_attempt_73 : Dk kX4_attempt 73 (.getfield 9) 3 76 := ⟨by decide +kernel, rfl⟩
theorem dX4_attempt_76 : Dk kX4_attempt 76 (.iload_n 2) 1 77 := ⟨by decide +kernel, rfl⟩
theorem dX4_attempt_77 : Dk kX4_attempt 77 (.iaload) 1 78 := ⟨by decide +kernel, rfl⟩
theorem dX4_attempt_78 : Dk kX4_attempt 78 (.bipush 99) 2 80 := ⟨by decide +kernel, rfl⟩
theorem dX4_attempt_80 : Dk kX4_attempt 80 (.aload_n 0) 1 81 := ⟨by decide +kernel, rfl⟩
theorem dX4_attempt_81 : Dk kX4_attempt 81 (.getfield 24) 3 84 := ⟨by decide +kernel, rfl⟩
theorem dX4_attempt_84 : Dk kX4_attempt 84 (.iload_n 1) 1 85 := ⟨by decide +kernel, rfl⟩
theorem dX4_attempt_85 : Dk kX4_attempt 85 (.iaload) 1 86 := ⟨by decide +kernel, rfl⟩
theorem dX4_attempt_86 : Dk kX4_attempt 86 (.isub) 1 87 := ⟨by decide +kernel, rfl⟩
theorem dX4_attempt_87 : Dk kX4_attempt 87 (.invokestatic 75) 3 90 := ⟨by decide +kernel, rfl⟩
theorem dX4_attempt_90 : Dk kX4_attempt 90 (.istore 6) 2 92 := ⟨by decide +kernel, rfl⟩
theorem dX4_attempt_92 : Dk kX4_attempt 92 (.aload_n 0) 1 93 := ⟨by decide +kernel, rfl⟩
theorem dX4_attempt_93 : Dk kX4_attempt 93 (.getfield 24) 3 96 := ⟨by decide +kernel, rfl⟩
theorem dX4_attempt_96 : Dk kX4_attempt 96 (.iload_n 1) 1 97 := ⟨by decide +kernel, rfl⟩
theorem dX4_attempt_97 : Dk kX4_attempt 97 (.dup2) 1 98 := ⟨by decide +kernel, rfl⟩
theorem dX4_attempt_98 : Dk kX4_attempt 98 (.iaload) 1 99 := ⟨by decide +kernel, rfl⟩
theorem dX4_attempt_99 : Dk kX4_attempt 99 (.iload 6) 2 101 := ⟨by decide +kernel, rfl⟩
theorem dX4_attempt_101 : Dk kX4_attempt 101 (.iadd) 1 102 := ⟨by decide +kernel, rfl⟩
theorem dX4_attempt_102 : Dk kX4_attempt 102 (.iastore) 1 103 := ⟨by decide +kernel, rfl⟩
theorem dX4_attempt_103 : Dk kX4_attempt 103 (.aload_n 0) 1 104 := ⟨by decide +kernel, rfl⟩
theorem dX4_attempt_104 : Dk kX4_attempt 104 (.getfield 9) 3 107 := ⟨by decide +kernel, rfl⟩
theorem dX4_attempt_107 : Dk kX4_attempt 107 (.iload_n 2) 1 108 := ⟨by decide +kernel, rfl⟩
theorem dX4_attempt_108 : Dk kX4_attempt 108 (.dup2) 1 109 := ⟨by decide +kernel, rfl⟩
theorem dX4_attempt_109 : Dk kX4_attempt 109 (.iaload) 1 110 := ⟨by decide +kernel, rfl⟩
theorem dX4_attempt_110 : Dk kX4_attempt 110 (.iload 6) 2 112 := ⟨by decide +kernel, rfl⟩
theorem dX4_attempt_112 : Dk kX4_attempt 112 (.isub) 1 113 := ⟨by decide +kernel, rfl⟩
theorem dX4_attempt_113 : Dk kX4_attempt 113 (.iastore) 1 114 := ⟨by decide +kernel, rfl⟩
theorem dX4_attempt_114 : Dk kX4_attempt 114 (.aload_n 0) 1 115 := ⟨by decide +kernel, rfl⟩
theorem dX4_attempt_115 : Dk kX4_attempt 115 (.getfield 27) 3 118 := ⟨by decide +kernel, rfl⟩
theorem dX4_attempt_118 : Dk kX4_attempt 118 (.iload_n 1) 1 119 := ⟨by decide +kernel, rfl⟩
theorem dX4_attempt_119 : Dk kX4_attempt 119 (.bipush 99) 2 121 := ⟨by decide +kernel, rfl⟩
theorem dX4_attempt_121 : Dk kX4_attempt 121 (.aload_n 0) 1 122 := ⟨by decide +kernel, rfl⟩
theorem dX4_attempt_122 : Dk kX4_attempt 122 (.getfield 27) 3 125 := ⟨by decide +kernel, rfl⟩
theorem dX4_attempt_125 : Dk kX4_attempt 125 (.iload_n 1) 1 126 := ⟨by decide +kernel, rfl⟩
theorem dX4_attempt_126 : Dk kX4_attempt 126 (.iaload) 1 127 := ⟨by decide +kernel, rfl⟩
theorem dX4_attempt_127 : Dk kX4_attempt 127 (.iconst 1) 1 128 := ⟨by decide +kernel, rfl⟩
theorem dX4_attempt_128 : Dk kX4_attempt 128 (.iadd) 1 129 := ⟨by decide +kernel, rfl⟩
theorem dX4_attempt_129 : Dk kX4_attempt 129 (.invokestatic 75) 3 132 := ⟨by decide +kernel, rfl⟩
theorem dX4_attempt_132 : Dk kX4_attempt 132 (.iastore) 1 133 := ⟨by decide +kernel, rfl⟩
theorem dX4_attempt_133 : Dk kX4_attempt 133 (.aload_n 0) 1 134 := ⟨by decide +kernel, rfl⟩
theorem dX4_attempt_134 : Dk kX4_attempt 134 (.getfield 18) 3 137 := ⟨by decide +kernel, rfl⟩
theorem dX4_attempt_137 : Dk kX4_attempt 137 (.iload_n 2) 1 138 := ⟨by decide +kernel, rfl⟩
theorem dX4_attempt_138 : Dk kX4_attempt 138 (.iload_n 1) 1 139 := ⟨by decide +kernel, rfl⟩
theorem dX4_attempt_139 : Dk kX4_attempt 139 (.iastore) 1 140 := ⟨by decide +kernel, rfl⟩
theorem dX4_attempt_140 : Dk kX4_attempt 140 (.aload_n 0) 1 141 := ⟨by decide +kernel, rfl⟩
theorem dX4_attempt_141 : Dk kX4_attempt 141 (.getfield 15) 3 144 := ⟨by decide +kernel, rfl⟩
theorem dX4_attempt_144 : Dk kX4_attempt 144 (.iload_n 2) 1 145 := ⟨by decide +kernel, rfl⟩
theorem dX4_attempt_145 : Dk kX4_attempt 145 (.iload_n 1) 1 146 := ⟨by decide +kernel, rfl⟩
theorem dX4_attempt_146 : Dk kX4_attempt 146 (.iastore) 1 147 := ⟨by decide +kernel, rfl⟩
theorem dX4_attempt_147 : Dk kX4_attempt 147 (.iload_n 3) 1 148 := ⟨by decide +kernel, rfl⟩
theorem dX4_attempt_148 : Dk kX4_attempt 148 (.ireturn) 1 149 := ⟨by decide +kernel, rfl⟩
theorem dX4_pass_0 : Dk kX4_pass 0 (.iconst 0) 1 1 := ⟨by decide +kernel, rfl⟩
theorem dX4_pass_1 : Dk kX4_pass 1 (.istore_n 1) 1 2 := ⟨by decide +kernel, rfl⟩
theorem dX4_pass_2 : Dk kX4_pass 2 (.iconst 0) 1 3 := ⟨by decide +kernel, rfl⟩
theorem dX4_pass_3 : Dk kX4_pass 3 (.istore_n 2) 1 4 := ⟨by decide +kernel, rfl⟩
theorem dX4_pass_4 : Dk kX4_pass 4 (.iload_n 2) 1 5 := ⟨by decide +kernel, rfl⟩
theorem dX4_pass_5 : Dk kX4_pass 5 (.aload_n 0) 1 6 := ⟨by decide +kernel, rfl⟩
theorem dX4_pass_6 : Dk kX4_pass 6 (.getfield 39) 3 9 := ⟨by decide +kernel, rfl⟩
theorem dX4_pass_9 : Dj kX4_pass 9 (fun o => .if_icmp .ge o) 3 12 70 := ⟨61, by decide +kernel, rfl, by decide⟩
theorem dX4_pass_12 : Dk kX4_pass 12 (.aload_n 0) 1 13 := ⟨by decide +kernel, rfl⟩
theorem dX4_pass_13 : Dk kX4_pass 13 (.iload_n 2) 1 14 := ⟨by decide +kernel, rfl⟩
theorem dX4_pass_14 : Dk kX4_pass 14 (.invokevirtual 94) 3 17 := ⟨by decide +kernel, rfl⟩
theorem dX4_pass_17 : Dj kX4_pass 17 (fun o => .ifCond .eq o) 3 20 41 := ⟨24, by decide +kernel, rfl, by decide⟩
theorem dX4_pass_20 : Dk kX4_pass 20 (.aload_n 0) 1 21 := ⟨by decide +kernel, rfl⟩
theorem dX4_pass_21 : Dk kX4_pass 21 (.iload_n 2) 1 22 := ⟨by decide +kernel, rfl⟩
theorem dX4_pass_22 : Dk kX4_pass 22 (.aload_n 0) 1 23 := ⟨by decide +kernel, rfl⟩
theorem dX4_pass_23 : Dk kX4_pass 23 (.getfield 21) 3 26 := ⟨by decide +kernel, rfl⟩
theorem dX4_pass_26 : Dk kX4_pass 26 (.iload_n 2) 1 27 := ⟨by decide +kernel, rfl⟩
theorem dX4_pass_27 : Dk kX4_pass 27 (.iaload) 1 28 := ⟨by decide +kernel, rfl⟩
theorem dX4_pass_28 : Dk kX4_pass 28 (.invokevirtual 98) 3 31 := ⟨by decide +kernel, rfl⟩
theorem dX4_pass_31 : Dk kX4_pass 31 (.iconst 2) 1 32 := ⟨by decide +kernel, rfl⟩
theorem dX4_pass_32 : Dj kX4_pass 32 (fun o => .if_icmp .ne o) 3 35 41 := ⟨9, by decide +kernel, rfl, by decide⟩
theorem dX4_pass_35 : Dk kX4_pass 35 (.iload_n 1) 1 36 := ⟨by decide +kernel, rfl⟩
theorem dX4_pass_36 : Dk kX4_pass 36 (.iconst 1) 1 37 := ⟨by decide +kernel, rfl⟩
theorem dX4_pass_37 : Dk kX4_pass 37 (.iload_n 2) 1 38 := ⟨by decide +kernel, rfl⟩
theorem dX4_pass_38 : Dk kX4_pass 38 (.ishl) 1 39 := ⟨by decide +kernel, rfl⟩
theorem dX4_pass_39 : Dk kX4_pass 39 (.ior) 1 40 := ⟨by decide +kernel, rfl⟩
theorem dX4_pass_40 : Dk kX4_pass 40 (.istore_n 1) 1 41 := ⟨by decide +kernel, rfl⟩
theorem dX4_pass_41 : Dk kX4_pass 41 (.aload_n 0) 1 42 := ⟨by decide +kernel, rfl⟩
theorem dX4_pass_42 : Dk kX4_pass 42 (.getfield 21) 3 45 := ⟨by decide +kernel, rfl⟩
theorem dX4_pass_45 : Dk kX4_pass 45 (.iload_n 2) 1 46 := ⟨by decide +kernel, rfl⟩
theorem dX4_pass_46 : Dk kX4_pass 46 (.aload_n 0) 1 47 := ⟨by decide +kernel, rfl⟩
theorem dX4_pass_47 : Dk kX4_pass 47 (.getfield 21) 3 50 := ⟨by decide +kernel, rfl⟩
theorem dX4_pass_50 : Dk kX4_pass 50 (.iload_n 2) 1 51 := ⟨by decide +kernel, rfl⟩
theorem dX4_pass_51 : Dk kX4_pass 51 (.iaload) 1 52 := ⟨by decide +kernel, rfl⟩
theorem dX4_pass_52 : Dk kX4_pass 52 (.aload_n 0) 1 53 := ⟨by decide +kernel, rfl⟩
theorem dX4_pass_53 : Dk kX4_pass 53 (.iload_n 2) 1 54 := ⟨by decide +kernel, rfl⟩
theorem dX4_pass_54 : Dk kX4_pass 54 (.invokevirtual 101) 3 57 := ⟨by decide +kernel, rfl⟩
theorem dX4_pass_57 : Dk kX4_pass 57 (.iadd) 1 58 := ⟨by decide +kernel, rfl⟩
theorem dX4_pass_58 : Dk kX4_pass 58 (.bipush 8) 2 60 := ⟨by decide +kernel, rfl⟩
theorem dX4_pass_60 : Dk kX4_pass 60 (.invokestatic 104) 3 63 := ⟨by decide +kernel, rfl⟩
theorem dX4_pass_63 : Dk kX4_pass 63 (.iastore) 1 64 := ⟨by decide +kernel, rfl⟩
theorem dX4_pass_64 : Dk kX4_pass 64 (.iinc 2 1) 3 67 := ⟨by decide +kernel, rfl⟩
theorem dX4_pass_67 : Dj kX4_pass 67 (fun o => .goto o) 3 70 4 := ⟨-63, by decide +kernel, rfl, by decide⟩
theorem dX4_pass_70 : Dk kX4_pass 70 (.aload_n 0) 1 71 := ⟨by decide +kernel, rfl⟩
theorem dX4_pass_71 : Dk kX4_pass 71 (.dup) 1 72 := ⟨by decide +kernel, rfl⟩
theorem dX4_pass_72 : Dk kX4_pass 72 (.getfield 43) 3 75 := ⟨by decide +kernel, rfl⟩
theorem dX4_pass_75 : Dk kX4_pass 75 (.iconst 1) 1 76 := ⟨by decide +kernel, rfl⟩
theorem dX4_pass_76 : Dk kX4_pass 76 (.iadd) 1 77 := ⟨by decide +kernel, rfl⟩
theorem dX4_pass_77 : Dk kX4_pass 77 (.putfield 43) 3 80 := ⟨by decide +kernel, rfl⟩
theorem dX4_pass_80 : Dk kX4_pass 80 (.aload_n 0) 1 81 := ⟨by decide +kernel, rfl⟩
theorem dX4_pass_81 : Dk kX4_pass 81 (.getfield 43) 3 84 := ⟨by decide +kernel, rfl⟩
theorem dX4_pass_84 : Dk kX4_pass 84 (.bipush 20) 2 86 := ⟨by decide +kernel, rfl⟩
theorem dX4_pass_86 : Dk kX4_pass 86 (.irem) 1 87 := ⟨by decide +kernel, rfl⟩
theorem dX4_pass_87 : Dj kX4_pass 87 (fun o => .ifCond .ne o) 3 90 106 := ⟨19, by decide +kernel, rfl, by decide⟩
theorem dX4_pass_90 : Dk kX4_pass 90 (.aload_n 0) 1 91 := ⟨by decide +kernel, rfl⟩
theorem dX4_pass_91 : Dk kX4_pass 91 (.getfield 15) 3 94 := ⟨by decide +kernel, rfl⟩
theorem dX4_pass_94 : Dk kX4_pass 94 (.iconst (-1)) 1 95 := ⟨by decide +kernel, rfl⟩
theorem dX4_pass_95 : Dk kX4_pass 95 (.invokestatic 53) 3 98 := ⟨by decide +kernel, rfl⟩
theorem dX4_pass_98 : Dk kX4_pass 98 (.aload_n 0) 1 99 := ⟨by decide +kernel, rfl⟩
theorem dX4_pass_99 : Dk kX4_pass 99 (.getfield 18) 3 102 := ⟨by decide +kernel, rfl⟩
theorem dX4_pass_102 : Dk kX4_pass 102 (.iconst (-1)) 1 103 := ⟨by decide +kernel, rfl⟩
theorem dX4_pass_103 : Dk kX4_pass 103 (.invokestatic 53) 3 106 := ⟨by decide +kernel, rfl⟩
theorem dX4_pass_106 : Dk kX4_pass 106 (.iload_n 1) 1 107 := ⟨by decide +kernel, rfl⟩
theorem dX4_pass_107 : Dk kX4_pass 107 (.ireturn) 1 108 := ⟨by decide +kernel, rfl⟩
theorem dX4_isSo_0 : Dk kX4_isSo 0 (.iload_n 1) 1 1 := ⟨by decide +kernel, rfl⟩
theorem dX4_isSo_1 : Dk kX4_isSo 1 (.bipush 8) 2 3 := ⟨by decide +kernel, rfl⟩
theorem dX4_isSo_3 : Dj kX4_isSo 3 (fun o => .if_icmp .ne o) 3 6 22 := ⟨19, by decide +kernel, rfl, by decide⟩
theorem dX4_isSo_6 : Dk kX4_isSo 6 (.aload_n 0) 1 7 := ⟨by decide +kernel, rfl⟩
theorem dX4_isSo_7 : Dk kX4_isSo 7 (.invokevirtual 107) 3 10 := ⟨by decide +kernel, rfl⟩
theorem dX4_isSo_10 : Dk kX4_isSo 10 (.sipush 255) 3 13 := ⟨by decide +kernel, rfl⟩
theorem dX4_isSo_13 : Dj kX4_isSo 13 (fun o => .if_icmp .ne o) 3 16 20 := ⟨7, by decide +kernel, rfl, by decide⟩
theorem dX4_isSo_16 : Dk kX4_isSo 16 (.iconst 1) 1 17 := ⟨by decide +kernel, rfl⟩
theorem dX4_isSo_17 : Dj kX4_isSo 17 (fun o => .goto o) 3 20 21 := ⟨4, by decide +kernel, rfl, by decide⟩
theorem dX4_isSo_20 : Dk kX4_isSo 20 (.iconst 0) 1 21 := ⟨by decide +kernel, rfl⟩
theorem dX4_isSo_21 : Dk kX4_isSo 21 (.ireturn) 1 22 := ⟨by decide +kernel, rfl⟩
theorem dX4_isSo_22 : Dk kX4_isSo 22 (.iload_n 1) 1 23 := ⟨by decide +kernel, rfl⟩
theorem dX4_isSo_23 : Dk kX4_isSo 23 (.bipush 8) 2 25 := ⟨by decide +kernel, rfl⟩
theorem dX4_isSo_25 : Dj kX4_isSo 25 (fun o => .if_icmp .le o) 3 28 41 := ⟨16, by decide +kernel, rfl, by decide⟩
theorem dX4_isSo_28 : Dk kX4_isSo 28 (.aload_n 0) 1 29 := ⟨by decide +kernel, rfl⟩
theorem dX4_isSo_29 : Dk kX4_isSo 29 (.invokevirtual 111) 3 32 := ⟨by decide +kernel, rfl⟩
theorem dX4_isSo_32 : Dj kX4_isSo 32 (fun o => .ifCond .ne o) 3 35 39 := ⟨7, by decide +kernel, rfl, by decide⟩
theorem dX4_isSo_35 : Dk kX4_isSo 35 (.iconst 1) 1 36 := ⟨by decide +kernel, rfl⟩
theorem dX4_isSo_36 : Dj kX4_isSo 36 (fun o => .goto o) 3 39 40 := ⟨4, by decide +kernel, rfl, by decide⟩
theorem dX4_isSo_39 : Dk kX4_isSo 39 (.iconst 0) 1 40 := ⟨by decide +kernel, rfl⟩
theorem dX4_isSo_40 : Dk kX4_isSo 40 (.ireturn) 1 41 := ⟨by decide +kernel, rfl⟩
theorem dX4_isSo_41 : Dk kX4_isSo 41 (.aload_n 0) 1 42 := ⟨by decide +kernel, rfl⟩
theorem dX4_isSo_42 : Dk kX4_isSo 42 (.invokevirtual 107) 3 45 := ⟨by decide +kernel, rfl⟩
theorem dX4_isSo_45 : Dk kX4_isSo 45 (.iload_n 1) 1 46 := ⟨by decide +kernel, rfl⟩
theorem dX4_isSo_46 : Dk kX4_isSo 46 (.invokestatic 115) 3 49 := ⟨by decide +kernel, rfl⟩
theorem dX4_isSo_49 : Dk kX4_isSo 49 (.ireturn) 1 50 := ⟨by decide +kernel, rfl⟩
theorem dX4_anyoneAlone_0 : Dk kX4_anyoneAlone 0 (.iconst 0) 1 1 := ⟨by decide +kernel, rfl⟩
theorem dX4_anyoneAlone_1 : Dk kX4_anyoneAlone 1 (.istore_n 1) 1 2 := ⟨by decide +kernel, rfl⟩
theorem dX4_anyoneAlone_2 : Dk kX4_anyoneAlone 2 (.iload_n 1) 1 3 := ⟨by decide +kernel, rfl⟩
theorem dX4_anyoneAlone_3 : Dk kX4_anyoneAlone 3 (.bipush 8) 2 5 := ⟨by decide +kernel, rfl⟩
theorem dX4_anyoneAlone_5 : Dj kX4_anyoneAlone 5 (fun o => .if_icmp .ge o) 3 8 28 := ⟨23, by decide +kernel, rfl, by decide⟩
theorem dX4_anyoneAlone_8 : Dk kX4_anyoneAlone 8 (.aload_n 0) 1 9 := ⟨by decide +kernel, rfl⟩
theorem dX4_anyoneAlone_9 : Dk kX4_anyoneAlone 9 (.iload_n 1) 1 10 := ⟨by decide +kernel, rfl⟩
theorem dX4_anyoneAlone_10 : Dk kX4_anyoneAlone 10 (.invokevirtual 119) 3 13 := ⟨by decide +kernel, rfl⟩
theorem dX4_anyoneAlone_13 : Dk kX4_anyoneAlone 13 (.invokestatic 122) 3 16 := ⟨by decide +kernel, rfl⟩
theorem dX4_anyoneAlone_16 : Dk kX4_anyoneAlone 16 (.iconst 1) 1 17 := ⟨by decide +kernel, rfl⟩
theorem dX4_anyoneAlone_17 : Dj kX4_anyoneAlone 17 (fun o => .if_icmp .ne o) 3 20 22 := ⟨5, by decide +kernel, rfl, by decide⟩
theorem dX4_anyoneAlone_20 : Dk kX4_anyoneAlone 20 (.iconst 1) 1 21 := ⟨by decide +kernel, rfl⟩
theorem dX4_anyoneAlone_21 : Dk kX4_anyoneAlone 21 (.ireturn) 1 22 := ⟨by decide +kernel, rfl⟩
theorem dX4_anyoneAlone_22 : Dk kX4_anyoneAlone 22 (.iinc 1 1) 3 25 := ⟨by decide +kernel, rfl⟩
theorem dX4_anyoneAlone_25 : Dj kX4_anyoneAlone 25 (fun o => .goto o) 3 28 2 := ⟨-23, by decide +kernel, rfl, by decide⟩
theorem dX4_anyoneAlone_28 : Dk kX4_anyoneAlone 28 (.iconst 0) 1 29 := ⟨by decide +kernel, rfl⟩
theorem dX4_anyoneAlone_29 : Dk kX4_anyoneAlone 29 (.ireturn) 1 30 := ⟨by decide +kernel, rfl⟩
theorem dX4_peopleAt_0 : Dk kX4_peopleAt 0 (.iconst 0) 1 1 := ⟨by decide +kernel, rfl⟩
theorem dX4_peopleAt_1 : Dk kX4_peopleAt 1 (.istore_n 2) 1 2 := ⟨by decide +kernel, rfl⟩
theorem dX4_peopleAt_2 : Dk kX4_peopleAt 2 (.iconst 0) 1 3 := ⟨by decide +kernel, rfl⟩
theorem dX4_peopleAt_3 : Dk kX4_peopleAt 3 (.istore_n 3) 1 4 := ⟨by decide +kernel, rfl⟩
theorem dX4_peopleAt_4 : Dk kX4_peopleAt 4 (.iload_n 3) 1 5 := ⟨by decide +kernel, rfl⟩
theorem dX4_peopleAt_5 : Dk kX4_peopleAt 5 (.aload_n 0) 1 6 := ⟨by decide +kernel, rfl⟩
theorem dX4_peopleAt_6 : Dk kX4_peopleAt 6 (.getfield 39) 3 9 := ⟨by decide +kernel, rfl⟩
theorem dX4_peopleAt_9 : Dj kX4_peopleAt 9 (fun o => .if_icmp .ge o) 3 12 38 := ⟨29, by decide +kernel, rfl, by decide⟩
theorem dX4_peopleAt_12 : Dk kX4_peopleAt 12 (.iload_n 2) 1 13 := ⟨by decide +kernel, rfl⟩
theorem dX4_peopleAt_13 : Dk kX4_peopleAt 13 (.aload_n 0) 1 14 := ⟨by decide +kernel, rfl⟩
theorem dX4_peopleAt_14 : Dk kX4_peopleAt 14 (.getfield 21) 3 17 := ⟨by decide +kernel, rfl⟩
theorem dX4_peopleAt_17 : Dk kX4_peopleAt 17 (.iload_n 3) 1 18 := ⟨by decide +kernel, rfl⟩
theorem dX4_peopleAt_18 : Dk kX4_peopleAt 18 (.iaload) 1 19 := ⟨by decide +kernel, rfl⟩
theorem dX4_peopleAt_19 : Dk kX4_peopleAt 19 (.iload_n 1) 1 20 := ⟨by decide +kernel, rfl⟩
theorem dX4_peopleAt_20 : Dj kX4_peopleAt 20 (fun o => .if_icmp .ne o) 3 23 29 := ⟨9, by decide +kernel, rfl, by decide⟩
theorem dX4_peopleAt_23 : Dk kX4_peopleAt 23 (.iconst 1) 1 24 := ⟨by decide +kernel, rfl⟩
theorem dX4_peopleAt_24 : Dk kX4_peopleAt 24 (.iload_n 3) 1 25 := ⟨by decide +kernel, rfl⟩
theorem dX4_peopleAt_25 : Dk kX4_peopleAt 25 (.ishl) 1 26 := ⟨by decide +kernel, rfl⟩
theorem dX4_peopleAt_26 : Dj kX4_peopleAt 26 (fun o => .goto o) 3 29 30 := ⟨4, by decide +kernel, rfl, by decide⟩
theorem dX4_peopleAt_29 : Dk kX4_peopleAt 29 (.iconst 0) 1 30 := ⟨by decide +kernel, rfl⟩
theorem dX4_peopleAt_30 : Dk kX4_peopleAt 30 (.ior) 1 31 := ⟨by decide +kernel, rfl⟩
theorem dX4_peopleAt_31 : Dk kX4_peopleAt 31 (.istore_n 2) 1 32 := ⟨by decide +kernel, rfl⟩
theorem dX4_peopleAt_32 : Dk kX4_peopleAt 32 (.iinc 3 1) 3 35 := ⟨by decide +kernel, rfl⟩
theorem dX4_peopleAt_35 : Dj kX4_peopleAt 35 (fun o => .goto o) 3 38 4 := ⟨-31, by decide +kernel, rfl, by decide⟩
theorem dX4_peopleAt_38 : Dk kX4_peopleAt 38 (.iload_n 2) 1 39 := ⟨by decide +kernel, rfl⟩
theorem dX4_peopleAt_39 : Dk kX4_peopleAt 39 (.ireturn) 1 40 := ⟨by decide +kernel, rfl⟩
theorem dX4_doorsWithFirst_0 : Dk kX4_doorsWithFirst 0 (.aload_n 0) 1 1 := ⟨by decide +kernel, rfl⟩
theorem dX4_doorsWithFirst_1 : Dk kX4_doorsWithFirst 1 (.getfield 15) 3 4 := ⟨by decide +kernel, rfl⟩
theorem dX4_doorsWithFirst_4 : Dk kX4_doorsWithFirst 4 (.invokestatic 127) 3 7 := ⟨by decide +kernel, rfl⟩
theorem dX4_doorsWithFirst_7 : Dk kX4_doorsWithFirst 7 (.ireturn) 1 8 := ⟨by decide +kernel, rfl⟩
theorem dX4_doorsWithSecond_0 : Dk kX4_doorsWithSecond 0 (.aload_n 0) 1 1 := ⟨by decide +kernel, rfl⟩
theorem dX4_doorsWithSecond_1 : Dk kX4_doorsWithSecond 1 (.getfield 18) 3 4 := ⟨by decide +kernel, rfl⟩
theorem dX4_doorsWithSecond_4 : Dk kX4_doorsWithSecond 4 (.invokestatic 127) 3 7 := ⟨by decide +kernel, rfl⟩
theorem dX4_doorsWithSecond_7 : Dk kX4_doorsWithSecond 7 (.ireturn) 1 8 := ⟨by decide +kernel, rfl⟩
theorem dX4_bitsOfTaken_0 : Dk kX4_bitsOfTaken 0 (.iconst 0) 1 1 := ⟨by decide +kernel, rfl⟩
theorem dX4_bitsOfTaken_1 : Dk kX4_bitsOfTaken 1 (.istore_n 1) 1 2 := ⟨by decide +kernel, rfl⟩
theorem dX4_bitsOfTaken_2 : Dk kX4_bitsOfTaken 2 (.iconst 0) 1 3 := ⟨by decide +kernel, rfl⟩
theorem dX4_bitsOfTaken_3 : Dk kX4_bitsOfTaken 3 (.istore_n 2) 1 4 := ⟨by decide +kernel, rfl⟩
theorem dX4_bitsOfTaken_4 : Dk kX4_bitsOfTaken 4 (.iload_n 2) 1 5 := ⟨by decide +kernel, rfl⟩
theorem dX4_bitsOfTaken_5 : Dk kX4_bitsOfTaken 5 (.aload_n 0) 1 6 := ⟨by decide +kernel, rfl⟩
theorem dX4_bitsOfTaken_6 : Dk kX4_bitsOfTaken 6 (.arraylength) 1 7 := ⟨by decide +kernel, rfl⟩
theorem dX4_bitsOfTaken_7 : Dj kX4_bitsOfTaken 7 (fun o => .if_icmp .ge o) 3 10 33 := ⟨26, by decide +kernel, rfl, by decide⟩
theorem dX4_bitsOfTaken_10 : Dk kX4_bitsOfTaken 10 (.iload_n 1) 1 11 := ⟨by decide +kernel, rfl⟩
theorem dX4_bitsOfTaken_11 : Dk kX4_bitsOfTaken 11 (.aload_n 0) 1 12 := ⟨by decide +kernel, rfl⟩
theorem dX4_bitsOfTaken_12 : Dk kX4_bitsOfTaken 12 (.iload_n 2) 1 13 := ⟨by decide +kernel, rfl⟩
theorem dX4_bitsOfTaken_13 : Dk kX4_bitsOfTaken 13 (.iaload) 1 14 := ⟨by decide +kernel, rfl⟩
theorem dX4_bitsOfTaken_14 : Dk kX4_bitsOfTaken 14 (.iconst (-1)) 1 15 := ⟨by decide +kernel, rfl⟩
theorem dX4_bitsOfTaken_15 : Dj kX4_bitsOfTaken 15 (fun o => .if_icmp .ne o) 3 18 22 := ⟨7, by decide +kernel, rfl, by decide⟩
theorem dX4_bitsOfTaken_18 : Dk kX4_bitsOfTaken 18 (.iconst 0) 1 19 := ⟨by decide +kernel, rfl⟩
theorem dX4_bitsOfTaken_19 : Dj kX4_bitsOfTaken 19 (fun o => .goto o) 3 22 25 := ⟨6, by decide +kernel, rfl, by decide⟩
theorem dX4_bitsOfTaken_22 : Dk kX4_bitsOfTaken 22 (.iconst 1) 1 23 := ⟨by decide +kernel, rfl⟩
theorem dX4_bitsOfTaken_23 : Dk kX4_bitsOfTaken 23 (.iload_n 2) 1 24 := ⟨by decide +kernel, rfl⟩
theorem dX4_bitsOfTaken_24 : Dk kX4_bitsOfTaken 24 (.ishl) 1 25 := ⟨by decide +kernel, rfl⟩
theorem dX4_bitsOfTaken_25 : Dk kX4_bitsOfTaken 25 (.ior) 1 26 := ⟨by decide +kernel, rfl⟩
theorem dX4_bitsOfTaken_26 : Dk kX4_bitsOfTaken 26 (.istore_n 1) 1 27 := ⟨by decide +kernel, rfl⟩
theorem dX4_bitsOfTaken_27 : Dk kX4_bitsOfTaken 27 (.iinc 2 1) 3 30 := ⟨by decide +kernel, rfl⟩
theorem dX4_bitsOfTaken_30 : Dj kX4_bitsOfTaken 30 (fun o => .goto o) 3 33 4 := ⟨-26, by decide +kernel, rfl, by decide⟩
theorem dX4_bitsOfTaken_33 : Dk kX4_bitsOfTaken 33 (.iload_n 1) 1 34 := ⟨by decide +kernel, rfl⟩
theorem dX4_bitsOfTaken_34 : Dk kX4_bitsOfTaken 34 (.ireturn) 1 35 := ⟨by decide +kernel, rfl⟩
theorem dX4_allBehind_0 : Dk kX4_allBehind 0 (.iconst 0) 1 1 := ⟨by decide +kernel, rfl⟩
theorem dX4_allBehind_1 : Dk kX4_allBehind 1 (.istore_n 1) 1 2 := ⟨by decide +kernel, rfl⟩
theorem dX4_allBehind_2 : Dk kX4_allBehind 2 (.iconst 0) 1 3 := ⟨by decide +kernel, rfl⟩
theorem dX4_allBehind_3 : Dk kX4_allBehind 3 (.istore_n 2) 1 4 := ⟨by decide +kernel, rfl⟩
theorem dX4_allBehind_4 : Dk kX4_allBehind 4 (.iload_n 2) 1 5 := ⟨by decide +kernel, rfl⟩
theorem dX4_allBehind_5 : Dk kX4_allBehind 5 (.bipush 8) 2 7 := ⟨by decide +kernel, rfl⟩
theorem dX4_allBehind_7 : Dj kX4_allBehind 7 (fun o => .if_icmp .ge o) 3 10 25 := ⟨18, by decide +kernel, rfl, by decide⟩
theorem dX4_allBehind_10 : Dk kX4_allBehind 10 (.iload_n 1) 1 11 := ⟨by decide +kernel, rfl⟩
theorem dX4_allBehind_11 : Dk kX4_allBehind 11 (.aload_n 0) 1 12 := ⟨by decide +kernel, rfl⟩
theorem dX4_allBehind_12 : Dk kX4_allBehind 12 (.getfield 9) 3 15 := ⟨by decide +kernel, rfl⟩
theorem dX4_allBehind_15 : Dk kX4_allBehind 15 (.iload_n 2) 1 16 := ⟨by decide +kernel, rfl⟩
theorem dX4_allBehind_16 : Dk kX4_allBehind 16 (.iaload) 1 17 := ⟨by decide +kernel, rfl⟩
theorem dX4_allBehind_17 : Dk kX4_allBehind 17 (.iadd) 1 18 := ⟨by decide +kernel, rfl⟩
theorem dX4_allBehind_18 : Dk kX4_allBehind 18 (.istore_n 1) 1 19 := ⟨by decide +kernel, rfl⟩
theorem dX4_allBehind_19 : Dk kX4_allBehind 19 (.iinc 2 1) 3 22 := ⟨by decide +kernel, rfl⟩
theorem dX4_allBehind_22 : Dj kX4_allBehind 22 (fun o => .goto o) 3 25 4 := ⟨-18, by decide +kernel, rfl, by decide⟩
theorem dX4_allBehind_25 : Dk kX4_allBehind 25 (.iload_n 1) 1 26 := ⟨by decide +kernel, rfl⟩
theorem dX4_allBehind_26 : Dk kX4_allBehind 26 (.ireturn) 1 27 := ⟨by decide +kernel, rfl⟩
theorem dX4_allEggs_0 : Dk kX4_allEggs 0 (.iconst 0) 1 1 := ⟨by decide +kernel, rfl⟩
theorem dX4_allEggs_1 : Dk kX4_allEggs 1 (.istore_n 1) 1 2 := ⟨by decide +kernel, rfl⟩
theorem dX4_allEggs_2 : Dk kX4_allEggs 2 (.iconst 0) 1 3 := ⟨by decide +kernel, rfl⟩
theorem dX4_allEggs_3 : Dk kX4_allEggs 3 (.istore_n 2) 1 4 := ⟨by decide +kernel, rfl⟩
theorem dX4_allEggs_4 : Dk kX4_allEggs 4 (.iload_n 2) 1 5 := ⟨by decide +kernel, rfl⟩
theorem dX4_allEggs_5 : Dk kX4_allEggs 5 (.aload_n 0) 1 6 := ⟨by decide +kernel, rfl⟩
theorem dX4_allEggs_6 : Dk kX4_allEggs 6 (.getfield 39) 3 9 := ⟨by decide +kernel, rfl⟩
theorem dX4_allEggs_9 : Dj kX4_allEggs 9 (fun o => .if_icmp .ge o) 3 12 27 := ⟨18, by decide +kernel, rfl, by decide⟩
theorem dX4_allEggs_12 : Dk kX4_allEggs 12 (.iload_n 1) 1 13 := ⟨by decide +kernel, rfl⟩
theorem dX4_allEggs_13 : Dk kX4_allEggs 13 (.aload_n 0) 1 14 := ⟨by decide +kernel, rfl⟩
theorem dX4_allEggs_14 : Dk kX4_allEggs 14 (.getfield 24) 3 17 := ⟨by decide +kernel, rfl⟩
theorem dX4_allEggs_17 : Dk kX4_allEggs 17 (.iload_n 2) 1 18 := ⟨by decide +kernel, rfl⟩
theorem dX4_allEggs_18 : Dk kX4_allEggs 18 (.iaload) 1 19 := ⟨by decide +kernel, rfl⟩
theorem dX4_allEggs_19 : Dk kX4_allEggs 19 (.iadd) 1 20 := ⟨by decide +kernel, rfl⟩
theorem dX4_allEggs_20 : Dk kX4_allEggs 20 (.istore_n 1) 1 21 := ⟨by decide +kernel, rfl⟩
theorem dX4_allEggs_21 : Dk kX4_allEggs 21 (.iinc 2 1) 3 24 := ⟨by decide +kernel, rfl⟩
theorem dX4_allEggs_24 : Dj kX4_allEggs 24 (fun o => .goto o) 3 27 4 := ⟨-20, by decide +kernel, rfl, by decide⟩
theorem dX4_allEggs_27 : Dk kX4_allEggs 27 (.iload_n 1) 1 28 := ⟨by decide +kernel, rfl⟩
theorem dX4_allEggs_28 : Dk kX4_allEggs 28 (.ireturn) 1 29 := ⟨by decide +kernel, rfl⟩
theorem dX5_init_0 : Dk kX5_init 0 (.aload_n 0) 1 1 := ⟨by decide +kernel, rfl⟩
theorem dX5_init_1 : Dk kX5_init 1 (.invokespecial 1) 3 4 := ⟨by decide +kernel, rfl⟩
theorem dX5_init_4 : Dk kX5_init 4 (.aload_n 0) 1 5 := ⟨by decide +kernel, rfl⟩
theorem dX5_init_5 : Dk kX5_init 5 (.bipush 6) 2 7 := ⟨by decide +kernel, rfl⟩
theorem dX5_init_7 : Dk kX5_init 7 (.anewarray 9) 3 10 := ⟨by decide +kernel, rfl⟩
theorem dX5_init_10 : Dk kX5_init 10 (.putfield 11) 3 13 := ⟨by decide +kernel, rfl⟩
theorem dX5_init_13 : Dk kX5_init 13 (.aload_n 0) 1 14 := ⟨by decide +kernel, rfl⟩
theorem dX5_init_14 : Dk kX5_init 14 (.iconst 4) 1 15 := ⟨by decide +kernel, rfl⟩
theorem dX5_init_15 : Dk kX5_init 15 (.anewarray 15) 3 18 := ⟨by decide +kernel, rfl⟩
theorem dX5_init_18 : Dk kX5_init 18 (.putfield 17) 3 21 := ⟨by decide +kernel, rfl⟩
theorem dX5_init_21 : Dk kX5_init 21 (.aload_n 0) 1 22 := ⟨by decide +kernel, rfl⟩
theorem dX5_init_22 : Dk kX5_init 22 (.new 21) 3 25 := ⟨by decide +kernel, rfl⟩
theorem dX5_init_25 : Dk kX5_init 25 (.dup) 1 26 := ⟨by decide +kernel, rfl⟩
theorem dX5_init_26 : Dk kX5_init 26 (.invokespecial 23) 3 29 := ⟨by decide +kernel, rfl⟩
theorem dX5_init_29 : Dk kX5_init 29 (.putfield 24) 3 32 := ⟨by decide +kernel, rfl⟩
theorem dX5_init_32 : Dk kX5_init 32 (.aload_n 0) 1 33 := ⟨by decide +kernel, rfl⟩
theorem dX5_init_33 : Dk kX5_init 33 (.new 28) 3 36 := ⟨by decide +kernel, rfl⟩
theorem dX5_init_36 : Dk kX5_init 36 (.dup) 1 37 := ⟨by decide +kernel, rfl⟩
theorem dX5_init_37 : Dk kX5_init 37 (.aload_n 0) 1 38 := ⟨by decide +kernel, rfl⟩
theorem dX5_init_38 : Dk kX5_init 38 (.getfield 24) 3 41 := ⟨by decide +kernel, rfl⟩
theorem dX5_init_41 : Dk kX5_init 41 (.invokespecial 30) 3 44 := ⟨by decide +kernel, rfl⟩
theorem dX5_init_44 : Dk kX5_init 44 (.putfield 33) 3 47 := ⟨by decide +kernel, rfl⟩
theorem dX5_init_47 : Dk kX5_init 47 (.aload_n 0) 1 48 := ⟨by decide +kernel, rfl⟩
theorem dX5_init_48 : Dk kX5_init 48 (.new 37) 3 51 := ⟨by decide +kernel, rfl⟩
theorem dX5_init_51 : Dk kX5_init 51 (.dup) 1 52 := ⟨by decide +kernel, rfl⟩
theorem dX5_init_52 : Dk kX5_init 52 (.aload_n 0) 1 53 := ⟨by decide +kernel, rfl⟩
theorem dX5_init_53 : Dk kX5_init 53 (.getfield 11) 3 56 := ⟨by decide +kernel, rfl⟩
theorem dX5_init_56 : Dk kX5_init 56 (.invokespecial 39) 3 59 := ⟨by decide +kernel, rfl⟩
theorem dX5_init_59 : Dk kX5_init 59 (.putfield 42) 3 62 := ⟨by decide +kernel, rfl⟩
theorem dX5_init_62 : Dk kX5_init 62 (.aload_n 0) 1 63 := ⟨by decide +kernel, rfl⟩
theorem dX5_init_63 : Dk kX5_init 63 (.new 37) 3 66 := ⟨by decide +kernel, rfl⟩
theorem dX5_init_66 : Dk kX5_init 66 (.dup) 1 67 := ⟨by decide +kernel, rfl⟩
theorem dX5_init_67 : Dk kX5_init 67 (.aload_n 0) 1 68 := ⟨by decide +kernel, rfl⟩
theorem dX5_init_68 : Dk kX5_init 68 (.getfield 11) 3 71 := ⟨by decide +kernel, rfl⟩
theorem dX5_init_71 : Dk kX5_init 71 (.invokespecial 39) 3 74 := ⟨by decide +kernel, rfl⟩
theorem dX5_init_74 : Dk kX5_init 74 (.putfield 46) 3 77 := ⟨by decide +kernel, rfl⟩
theorem dX5_init_77 : Dk kX5_init 77 (.aload_n 0) 1 78 := ⟨by decide +kernel, rfl⟩
theorem dX5_init_78 : Dk kX5_init 78 (.new 37) 3 81 := ⟨by decide +kernel, rfl⟩
theorem dX5_init_81 : Dk kX5_init 81 (.dup) 1 82 := ⟨by decide +kernel, rfl⟩
theorem dX5_init_82 : Dk kX5_init 82 (.aload_n 0) 1 83 := ⟨by decide +kernel, rfl⟩
theorem dX5_init_83 : Dk kX5_init 83 (.getfield 11) 3 86 := ⟨by decide +kernel, rfl⟩
theorem dX5_init_86 : Dk kX5_init 86 (.invokespecial 39) 3 89 := ⟨by decide +kernel, rfl⟩
theorem dX5_init_89 : Dk kX5_init 89 (.putfield 49) 3 92 := ⟨by decide +kernel, rfl⟩
theorem dX5_init_92 : Dk kX5_init 92 (.aload_n 0) 1 93 := ⟨by decide +kernel, rfl⟩
theorem dX5_init_93 : Dk kX5_init 93 (.iconst 1) 1 94 := ⟨by decide +kernel, rfl⟩
theorem dX5_init_94 : Dk kX5_init 94 (.putfield 52) 3 97 := ⟨by decide +kernel, rfl⟩
theorem dX5_init_97 : Dk kX5_init 97 (.aload_n 0) 1 98 := ⟨by decide +kernel, rfl⟩
theorem dX5_init_98 : Dk kX5_init 98 (.iconst 0) 1 99 := ⟨by decide +kernel, rfl⟩
theorem dX5_init_99 : Dk kX5_init 99 (.putfield 56) 3 102 := ⟨by decide +kernel, rfl⟩
theorem dX5_init_102 : Dk kX5_init 102 (.iconst 0) 1 103 := ⟨by decide +kernel, rfl⟩
theorem dX5_init_103 : Dk kX5_init 103 (.istore_n 1) 1 104 := ⟨by decide +kernel, rfl⟩
theorem dX5_init_104 : Dk kX5_init 104 (.iload_n 1) 1 105 := ⟨by decide +kernel, rfl⟩
theorem dX5_init_105 : Dk kX5_init 105 (.bipush 6) 2 107 := ⟨by decide +kernel, rfl⟩
theorem dX5_init_107 : Dj kX5_init 107 (fun o => .if_icmp .ge o) 3 110 129 := ⟨22, by decide +kernel, rfl, by decide⟩
theorem dX5_init_110 : Dk kX5_init 110 (.aload_n 0) 1 111 := ⟨by decide +kernel, rfl⟩
theorem dX5_init_111 : Dk kX5_init 111 (.getfield 11) 3 114 := ⟨by decide +kernel, rfl⟩
theorem dX5_init_114 : Dk kX5_init 114 (.iload_n 1) 1 115 := ⟨by decide +kernel, rfl⟩
theorem dX5_init_115 : Dk kX5_init 115 (.new 9) 3 118 := ⟨by decide +kernel, rfl⟩
theorem dX5_init_118 : Dk kX5_init 118 (.dup) 1 119 := ⟨by decide +kernel, rfl⟩
theorem dX5_init_119 : Dk kX5_init 119 (.invokespecial 60) 3 122 := ⟨by decide +kernel, rfl⟩
theorem dX5_init_122 : Dk kX5_init 122 (.aastore) 1 123 := ⟨by decide +kernel, rfl⟩
theorem dX5_init_123 : Dk kX5_init 123 (.iinc 1 1) 3 126 := ⟨by decide +kernel, rfl⟩
theorem dX5_init_126 : Dj kX5_init 126 (fun o => .goto o) 3 129 104 := ⟨-22, by decide +kernel, rfl, by decide⟩
theorem dX5_init_129 : Dk kX5_init 129 (.iconst 0) 1 130 := ⟨by decide +kernel, rfl⟩
theorem dX5_init_130 : Dk kX5_init 130 (.istore_n 1) 1 131 := ⟨by decide +kernel, rfl⟩
theorem dX5_init_131 : Dk kX5_init 131 (.iload_n 1) 1 132 := ⟨by decide +kernel, rfl⟩
theorem dX5_init_132 : Dk kX5_init 132 (.iconst 4) 1 133 := ⟨by decide +kernel, rfl⟩
theorem dX5_init_133 : Dj kX5_init 133 (fun o => .if_icmp .ge o) 3 136 155 := ⟨22, by decide +kernel, rfl, by decide⟩
theorem dX5_init_136 : Dk kX5_init 136 (.aload_n 0) 1 137 := ⟨by decide +kernel, rfl⟩
theorem dX5_init_137 : Dk kX5_init 137 (.getfield 17) 3 140 := ⟨by decide +kernel, rfl⟩
theorem dX5_init_140 : Dk kX5_init 140 (.iload_n 1) 1 141 := ⟨by decide +kernel, rfl⟩
theorem dX5_init_141 : Dk kX5_init 141 (.new 15) 3 144 := ⟨by decide +kernel, rfl⟩
theorem dX5_init_144 : Dk kX5_init 144 (.dup) 1 145 := ⟨by decide +kernel, rfl⟩
theorem dX5_init_145 : Dk kX5_init 145 (.invokespecial 61) 3 148 := ⟨by decide +kernel, rfl⟩
theorem dX5_init_148 : Dk kX5_init 148 (.aastore) 1 149 := ⟨by decide +kernel, rfl⟩
theorem dX5_init_149 : Dk kX5_init 149 (.iinc 1 1) 3 152 := ⟨by decide +kernel, rfl⟩
theorem dX5_init_152 : Dj kX5_init 152 (fun o => .goto o) 3 155 131 := ⟨-21, by decide +kernel, rfl, by decide⟩
theorem dX5_init_155 : Dk kX5_init 155 (.aload_n 0) 1 156 := ⟨by decide +kernel, rfl⟩
theorem dX5_init_156 : Dk kX5_init 156 (.getfield 11) 3 159 := ⟨by decide +kernel, rfl⟩
theorem dX5_init_159 : Dk kX5_init 159 (.iconst 0) 1 160 := ⟨by decide +kernel, rfl⟩
theorem dX5_init_160 : Dk kX5_init 160 (.aaload) 1 161 := ⟨by decide +kernel, rfl⟩
theorem dX5_init_161 : Dk kX5_init 161 (.iconst 1) 1 162 := ⟨by decide +kernel, rfl⟩
theorem dX5_init_162 : Dk kX5_init 162 (.iconst 2) 1 163 := ⟨by decide +kernel, rfl⟩
theorem dX5_init_163 : Dk kX5_init 163 (.iconst 1) 1 164 := ⟨by decide +kernel, rfl⟩
theorem dX5_init_164 : Dk kX5_init 164 (.invokevirtual 62) 3 167 := ⟨by decide +kernel, rfl⟩
theorem dX5_init_167 : Dk kX5_init 167 (.return_) 1 168 := ⟨by decide +kernel, rfl⟩
theorem dX5_count_0 : Dk kX5_count 0 (.iload_n 1) 1 1 := ⟨by decide +kernel, rfl⟩
theorem dX5_count_1 : Dk kX5_count 1 (.tableswitch 87 0 5 #[39, 47, 55, 66, 71, 79]) 39 40 := ⟨by decide +kernel, rfl⟩
theorem dX5_count_40 : Dk kX5_count 40 (.aload_n 0) 1 41 := ⟨by decide +kernel, rfl⟩
theorem dX5_count_41 : Dk kX5_count 41 (.getfield 42) 3 44 := ⟨by decide +kernel, rfl⟩
theorem dX5_count_44 : Dk kX5_count 44 (.getfield 66) 3 47 := ⟨by decide +kernel, rfl⟩
theorem dX5_count_47 : Dk kX5_count 47 (.ireturn) 1 48 := ⟨by decide +kernel, rfl⟩
theorem dX5_count_48 : Dk kX5_count 48 (.aload_n 0) 1 49 := ⟨by decide +kernel, rfl⟩
theorem dX5_count_49 : Dk kX5_count 49 (.getfield 42) 3 52 := ⟨by decide +kernel, rfl⟩
theorem dX5_count_52 : Dk kX5_count 52 (.getfield 69) 3 55 := ⟨by decide +kernel, rfl⟩
theorem dX5_count_55 : Dk kX5_count 55 (.ireturn) 1 56 := ⟨by decide +kernel, rfl⟩
theorem dX5_count_56 : Dk kX5_count 56 (.aload_n 0) 1 57 := ⟨by decide +kernel, rfl⟩
theorem dX5_count_57 : Dk kX5_count 57 (.getfield 42) 3 60 := ⟨by decide +kernel, rfl⟩
theorem dX5_count_60 : Dk kX5_count 60 (.invokevirtual 72) 3 63 := ⟨by decide +kernel, rfl⟩
theorem dX5_count_63 : Dk kX5_count 63 (.invokestatic 76) 3 66 := ⟨by decide +kernel, rfl⟩
theorem dX5_count_66 : Dk kX5_count 66 (.ireturn) 1 67 := ⟨by decide +kernel, rfl⟩
theorem dX5_count_67 : Dk kX5_count 67 (.aload_n 0) 1 68 := ⟨by decide +kernel, rfl⟩
theorem dX5_count_68 : Dk kX5_count 68 (.getfield 52) 3 71 := ⟨by decide +kernel, rfl⟩
theorem dX5_count_71 : Dk kX5_count 71 (.ireturn) 1 72 := ⟨by decide +kernel, rfl⟩
theorem dX5_count_72 : Dk kX5_count 72 (.aload_n 0) 1 73 := ⟨by decide +kernel, rfl⟩
theorem dX5_count_73 : Dk kX5_count 73 (.getfield 42) 3 76 := ⟨by decide +kernel, rfl⟩
theorem dX5_count_76 : Dk kX5_count 76 (.getfield 82) 3 79 := ⟨by decide +kernel, rfl⟩
theorem dX5_count_79 : Dk kX5_count 79 (.ireturn) 1 80 := ⟨by decide +kernel, rfl⟩
theorem dX5_count_80 : Dk kX5_count 80 (.aload_n 0) 1 81 := ⟨by decide +kernel, rfl⟩
theorem dX5_count_81 : Dk kX5_count 81 (.getfield 24) 3 84 := ⟨by decide +kernel, rfl⟩
theorem dX5_count_84 : Dk kX5_count 84 (.getfield 85) 3 87 := ⟨by decide +kernel, rfl⟩
theorem dX5_count_87 : Dk kX5_count 87 (.ireturn) 1 88 := ⟨by decide +kernel, rfl⟩
theorem dX5_count_88 : Dk kX5_count 88 (.bipush (-2)) 2 90 := ⟨by decide +kernel, rfl⟩
theorem dX5_count_90 : Dk kX5_count 90 (.ireturn) 1 91 := ⟨by decide +kernel, rfl⟩
theorem dX5_town_0 : Dk kX5_town 0 (.iload_n 1) 1 1 := ⟨by decide +kernel, rfl⟩
theorem dX5_town_1 : Dk kX5_town 1 (.iconst 0) 1 2 := ⟨by decide +kernel, rfl⟩
theorem dX5_town_2 : Dk kX5_town 2 (.iconst 2) 1 3 := ⟨by decide +kernel, rfl⟩
theorem dX5_town_3 : Dk kX5_town 3 (.invokestatic 88) 3 6 := ⟨by decide +kernel, rfl⟩
theorem dX5_town_6 : Dj kX5_town 6 (fun o => .ifCond .eq o) 3 9 20 := ⟨14, by decide +kernel, rfl, by decide⟩
theorem dX5_town_9 : Dk kX5_town 9 (.iload_n 1) 1 10 := ⟨by decide +kernel, rfl⟩
theorem dX5_town_10 : Dj kX5_town 10 (fun o => .ifCond .eq o) 3 13 23 := ⟨13, by decide +kernel, rfl, by decide⟩
theorem dX5_town_13 : Dk kX5_town 13 (.iload_n 2) 1 14 := ⟨by decide +kernel, rfl⟩
theorem dX5_town_14 : Dk kX5_town 14 (.invokestatic 92) 3 17 := ⟨by decide +kernel, rfl⟩
theorem dX5_town_17 : Dj kX5_town 17 (fun o => .ifCond .ne o) 3 20 23 := ⟨6, by decide +kernel, rfl, by decide⟩
theorem dX5_town_20 : Dk kX5_town 20 (.bipush (-5)) 2 22 := ⟨by decide +kernel, rfl⟩
theorem dX5_town_22 : Dk kX5_town 22 (.ireturn) 1 23 := ⟨by decide +kernel, rfl⟩
theorem dX5_town_23 : Dk kX5_town 23 (.iload_n 1) 1 24 := ⟨by decide +kernel, rfl⟩
theorem dX5_town_24 : Dj kX5_town 24 (fun o => .ifCond .ne o) 3 27 52 := ⟨28, by decide +kernel, rfl, by decide⟩
theorem dX5_town_27 : Dk kX5_town 27 (.iload_n 3) 1 28 := ⟨by decide +kernel, rfl⟩
theorem dX5_town_28 : Dk kX5_town 28 (.iconst 0) 1 29 := ⟨by decide +kernel, rfl⟩
theorem dX5_town_29 : Dk kX5_town 29 (.sipush 9999) 3 32 := ⟨by decide +kernel, rfl⟩
theorem dX5_town_32 : Dk kX5_town 32 (.invokestatic 88) 3 35 := ⟨by decide +kernel, rfl⟩
theorem dX5_town_35 : Dj kX5_town 35 (fun o => .ifCond .eq o) 3 38 49 := ⟨14, by decide +kernel, rfl, by decide⟩
theorem dX5_town_38 : Dk kX5_town 38 (.aload_n 0) 1 39 := ⟨by decide +kernel, rfl⟩
theorem dX5_town_39 : Dk kX5_town 39 (.getfield 42) 3 42 := ⟨by decide +kernel, rfl⟩
theorem dX5_town_42 : Dk kX5_town 42 (.iload_n 3) 1 43 := ⟨by decide +kernel, rfl⟩
theorem dX5_town_43 : Dk kX5_town 43 (.invokevirtual 96) 3 46 := ⟨by decide +kernel, rfl⟩
theorem dX5_town_46 : Dj kX5_town 46 (fun o => .goto o) 3 49 51 := ⟨5, by decide +kernel, rfl, by decide⟩
theorem dX5_town_49 : Dk kX5_town 49 (.bipush (-7)) 2 51 := ⟨by decide +kernel, rfl⟩
theorem dX5_town_51 : Dk kX5_town 51 (.ireturn) 1 52 := ⟨by decide +kernel, rfl⟩
theorem dX5_town_52 : Dk kX5_town 52 (.iload_n 1) 1 53 := ⟨by decide +kernel, rfl⟩
theorem dX5_town_53 : Dk kX5_town 53 (.iconst 1) 1 54 := ⟨by decide +kernel, rfl⟩
theorem dX5_town_54 : Dj kX5_town 54 (fun o => .if_icmp .ne o) 3 57 85 := ⟨31, by decide +kernel, rfl, by decide⟩
theorem dX5_town_57 : Dk kX5_town 57 (.iload_n 3) 1 58 := ⟨by decide +kernel, rfl⟩
theorem dX5_town_58 : Dk kX5_town 58 (.iconst 0) 1 59 := ⟨by decide +kernel, rfl⟩
theorem dX5_town_59 : Dk kX5_town 59 (.bipush 99) 2 61 := ⟨by decide +kernel, rfl⟩
theorem dX5_town_61 : Dk kX5_town 61 (.invokestatic 88) 3 64 := ⟨by decide +kernel, rfl⟩
theorem dX5_town_64 : Dj kX5_town 64 (fun o => .ifCond .eq o) 3 67 82 := ⟨18, by decide +kernel, rfl, by decide⟩
theorem dX5_town_67 : Dk kX5_town 67 (.aload_n 0) 1 68 := ⟨by decide +kernel, rfl⟩
theorem dX5_town_68 : Dk kX5_town 68 (.getfield 42) 3 71 := ⟨by decide +kernel, rfl⟩
theorem dX5_town_71 : Dk kX5_town 71 (.getfield 99) 3 74 := ⟨by decide +kernel, rfl⟩
theorem dX5_town_74 : Dk kX5_town 74 (.iload_n 2) 1 75 := ⟨by decide +kernel, rfl⟩
theorem dX5_town_75 : Dk kX5_town 75 (.iload_n 3) 1 76 := ⟨by decide +kernel, rfl⟩
theorem dX5_town_76 : Dk kX5_town 76 (.invokestatic 103) 3 79 := ⟨by decide +kernel, rfl⟩
theorem dX5_town_79 : Dj kX5_town 79 (fun o => .goto o) 3 82 84 := ⟨5, by decide +kernel, rfl, by decide⟩
theorem dX5_town_82 : Dk kX5_town 82 (.bipush (-7)) 2 84 := ⟨by decide +kernel, rfl⟩
theorem dX5_town_84 : Dk kX5_town 84 (.ireturn) 1 85 := ⟨by decide +kernel, rfl⟩
theorem dX5_town_85 : Dk kX5_town 85 (.iload_n 3) 1 86 := ⟨by decide +kernel, rfl⟩
theorem dX5_town_86 : Dk kX5_town 86 (.iconst (-1)) 1 87 := ⟨by decide +kernel, rfl⟩
theorem dX5_town_87 : Dj kX5_town 87 (fun o => .if_icmp .eq o) 3 90 98 := ⟨11, by decide +kernel, rfl, by decide⟩
theorem dX5_town_90 : Dk kX5_town 90 (.aload_n 0) 1 91 := ⟨by decide +kernel, rfl⟩
theorem dX5_town_91 : Dk kX5_town 91 (.iload_n 3) 1 92 := ⟨by decide +kernel, rfl⟩
theorem dX5_town_92 : Dk kX5_town 92 (.invokevirtual 107) 3 95 := ⟨by decide +kernel, rfl⟩
theorem dX5_town_95 : Dj kX5_town 95 (fun o => .ifCond .eq o) 3 98 113 := ⟨18, by decide +kernel, rfl, by decide⟩
theorem dX5_town_98 : Dk kX5_town 98 (.aload_n 0) 1 99 := ⟨by decide +kernel, rfl⟩
theorem dX5_town_99 : Dk kX5_town 99 (.getfield 42) 3 102 := ⟨by decide +kernel, rfl⟩
theorem dX5_town_102 : Dk kX5_town 102 (.getfield 110) 3 105 := ⟨by decide +kernel, rfl⟩
theorem dX5_town_105 : Dk kX5_town 105 (.iload_n 2) 1 106 := ⟨by decide +kernel, rfl⟩
theorem dX5_town_106 : Dk kX5_town 106 (.iload_n 3) 1 107 := ⟨by decide +kernel, rfl⟩
theorem dX5_town_107 : Dk kX5_town 107 (.invokestatic 103) 3 110 := ⟨by decide +kernel, rfl⟩
theorem dX5_town_110 : Dj kX5_town 110 (fun o => .goto o) 3 113 115 := ⟨5, by decide +kernel, rfl, by decide⟩
theorem dX5_town_113 : Dk kX5_town 113 (.bipush (-7)) 2 115 := ⟨by decide +kernel, rfl⟩
theorem dX5_town_115 : Dk kX5_town 115 (.ireturn) 1 116 := ⟨by decide +kernel, rfl⟩
theorem dX5_door_0 : Dk kX5_door 0 (.iload_n 1) 1 1 := ⟨by decide +kernel, rfl⟩
theorem dX5_door_1 : Dk kX5_door 1 (.invokestatic 92) 3 4 := ⟨by decide +kernel, rfl⟩
theorem dX5_door_4 : Dj kX5_door 4 (fun o => .ifCond .ne o) 3 7 10 := ⟨6, by decide +kernel, rfl, by decide⟩
theorem dX5_door_7 : Dk kX5_door 7 (.bipush (-5)) 2 9 := ⟨by decide +kernel, rfl⟩
theorem dX5_door_9 : Dk kX5_door 9 (.ireturn) 1 10 := ⟨by decide +kernel, rfl⟩
theorem dX5_door_10 : Dk kX5_door 10 (.iload_n 2) 1 11 := ⟨by decide +kernel, rfl⟩
theorem dX5_door_11 : Dk kX5_door 11 (.tableswitch 68 0 3 #[29, 39, 49, 59]) 29 40 := ⟨by decide +kernel, rfl⟩
theorem dX5_door_40 : Dk kX5_door 40 (.aload_n 0) 1 41 := ⟨by decide +kernel, rfl⟩
theorem dX5_door_41 : Dk kX5_door 41 (.getfield 42) 3 44 := ⟨by decide +kernel, rfl⟩
theorem dX5_door_44 : Dk kX5_door 44 (.getfield 110) 3 47 := ⟨by decide +kernel, rfl⟩
theorem dX5_door_47 : Dk kX5_door 47 (.iload_n 1) 1 48 := ⟨by decide +kernel, rfl⟩
theorem dX5_door_48 : Dk kX5_door 48 (.iaload) 1 49 := ⟨by decide +kernel, rfl⟩
theorem dX5_door_49 : Dk kX5_door 49 (.ireturn) 1 50 := ⟨by decide +kernel, rfl⟩
theorem dX5_door_50 : Dk kX5_door 50 (.aload_n 0) 1 51 := ⟨by decide +kernel, rfl⟩
theorem dX5_door_51 : Dk kX5_door 51 (.getfield 42) 3 54 := ⟨by decide +kernel, rfl⟩
theorem dX5_door_54 : Dk kX5_door 54 (.getfield 113) 3 57 := ⟨by decide +kernel, rfl⟩
theorem dX5_door_57 : Dk kX5_door 57 (.iload_n 1) 1 58 := ⟨by decide +kernel, rfl⟩
theorem dX5_door_58 : Dk kX5_door 58 (.iaload) 1 59 := ⟨by decide +kernel, rfl⟩
theorem dX5_door_59 : Dk kX5_door 59 (.ireturn) 1 60 := ⟨by decide +kernel, rfl⟩
theorem dX5_door_60 : Dk kX5_door 60 (.aload_n 0) 1 61 := ⟨by decide +kernel, rfl⟩
theorem dX5_door_61 : Dk kX5_door 61 (.getfield 42) 3 64 := ⟨by decide +kernel, rfl⟩
theorem dX5_door_64 : Dk kX5_door 64 (.getfield 99) 3 67 := ⟨by decide +kernel, rfl⟩
theorem dX5_door_67 : Dk kX5_door 67 (.iload_n 1) 1 68 := ⟨by decide +kernel, rfl⟩
theorem dX5_door_68 : Dk kX5_door 68 (.iaload) 1 69 := ⟨by decide +kernel, rfl⟩
theorem dX5_door_69 : Dk kX5_door 69 (.ireturn) 1 70 := ⟨by decide +kernel, rfl⟩
theorem dX5_door_70 : Dk kX5_door 70 (.aload_n 0) 1 71 := ⟨by decide +kernel, rfl⟩
theorem dX5_door_71 : Dk kX5_door 71 (.getfield 42) 3 74 := ⟨by decide +kernel, rfl⟩
theorem dX5_door_74 : Dk kX5_door 74 (.iload_n 1) 1 75 := ⟨by decide +kernel, rfl⟩
theorem dX5_door_75 : Dk kX5_door 75 (.invokevirtual 116) 3 78 := ⟨by decide +kernel, rfl⟩
theorem dX5_door_78 : Dk kX5_door 78 (.ireturn) 1 79 := ⟨by decide +kernel, rfl⟩
theorem dX5_door_79 : Dk kX5_door 79 (.bipush (-7)) 2 81 := ⟨by decide +kernel, rfl⟩
theorem dX5_door_81 : Dk kX5_door 81 (.ireturn) 1 82 := ⟨by decide +kernel, rfl⟩
theorem dX5_feed_0 : Dk kX5_feed 0 (.iload_n 2) 1 1 := ⟨by decide +kernel, rfl⟩
theorem dX5_feed_1 : Dk kX5_feed 1 (.invokestatic 119) 3 4 := ⟨by decide +kernel, rfl⟩
theorem dX5_feed_4 : Dj kX5_feed 4 (fun o => .ifCond .eq o) 3 7 42 := ⟨38, by decide +kernel, rfl, by decide⟩
theorem dX5_feed_7 : Dk kX5_feed 7 (.iload_n 3) 1 8 := ⟨by decide +kernel, rfl⟩
theorem dX5_feed_8 : Dk kX5_feed 8 (.invokestatic 119) 3 11 := ⟨by decide +kernel, rfl⟩
theorem dX5_feed_11 : Dj kX5_feed 11 (fun o => .ifCond .eq o) 3 14 42 := ⟨31, by decide +kernel, rfl, by decide⟩
theorem dX5_feed_14 : Dk kX5_feed 14 (.iload 4) 2 16 := ⟨by decide +kernel, rfl⟩
theorem dX5_feed_16 : Dk kX5_feed 16 (.invokestatic 119) 3 19 := ⟨by decide +kernel, rfl⟩
theorem dX5_feed_19 : Dj kX5_feed 19 (fun o => .ifCond .eq o) 3 22 42 := ⟨23, by decide +kernel, rfl, by decide⟩
theorem dX5_feed_22 : Dk kX5_feed 22 (.iload 5) 2 24 := ⟨by decide +kernel, rfl⟩
theorem dX5_feed_24 : Dk kX5_feed 24 (.invokestatic 119) 3 27 := ⟨by decide +kernel, rfl⟩
theorem dX5_feed_27 : Dj kX5_feed 27 (fun o => .ifCond .eq o) 3 30 42 := ⟨15, by decide +kernel, rfl, by decide⟩
theorem dX5_feed_30 : Dk kX5_feed 30 (.iload 6) 2 32 := ⟨by decide +kernel, rfl⟩
theorem dX5_feed_32 : Dk kX5_feed 32 (.invokestatic 119) 3 35 := ⟨by decide +kernel, rfl⟩
theorem dX5_feed_35 : Dj kX5_feed 35 (fun o => .ifCond .eq o) 3 38 42 := ⟨7, by decide +kernel, rfl, by decide⟩
theorem dX5_feed_38 : Dk kX5_feed 38 (.iconst 1) 1 39 := ⟨by decide +kernel, rfl⟩
theorem dX5_feed_39 : Dj kX5_feed 39 (fun o => .goto o) 3 42 43 := ⟨4, by decide +kernel, rfl, by decide⟩
theorem dX5_feed_42 : Dk kX5_feed 42 (.iconst 0) 1 43 := ⟨by decide +kernel, rfl⟩
theorem dX5_feed_43 : Dk kX5_feed 43 (.istore 7) 2 45 := ⟨by decide +kernel, rfl⟩
theorem dX5_feed_45 : Dk kX5_feed 45 (.iload_n 1) 1 46 := ⟨by decide +kernel, rfl⟩
theorem dX5_feed_46 : Dk kX5_feed 46 (.iconst 1) 1 47 := ⟨by decide +kernel, rfl⟩
theorem dX5_feed_47 : Dk kX5_feed 47 (.iconst 5) 1 48 := ⟨by decide +kernel, rfl⟩
theorem dX5_feed_48 : Dk kX5_feed 48 (.invokestatic 88) 3 51 := ⟨by decide +kernel, rfl⟩
theorem dX5_feed_51 : Dj kX5_feed 51 (fun o => .ifCond .eq o) 3 54 59 := ⟨8, by decide +kernel, rfl, by decide⟩
theorem dX5_feed_54 : Dk kX5_feed 54 (.iload 7) 2 56 := ⟨by decide +kernel, rfl⟩
theorem dX5_feed_56 : Dj kX5_feed 56 (fun o => .ifCond .ne o) 3 59 62 := ⟨6, by decide +kernel, rfl, by decide⟩
theorem dX5_feed_59 : Dk kX5_feed 59 (.bipush (-2)) 2 61 := ⟨by decide +kernel, rfl⟩
theorem dX5_feed_61 : Dk kX5_feed 61 (.ireturn) 1 62 := ⟨by decide +kernel, rfl⟩
theorem dX5_feed_62 : Dk kX5_feed 62 (.aload_n 0) 1 63 := ⟨by decide +kernel, rfl⟩
theorem dX5_feed_63 : Dk kX5_feed 63 (.getfield 24) 3 66 := ⟨by decide +kernel, rfl⟩
theorem dX5_feed_66 : Dk kX5_feed 66 (.getfield 85) 3 69 := ⟨by decide +kernel, rfl⟩
theorem dX5_feed_69 : Dk kX5_feed 69 (.iload_n 1) 1 70 := ⟨by decide +kernel, rfl⟩
theorem dX5_feed_70 : Dk kX5_feed 70 (.iadd) 1 71 := ⟨by decide +kernel, rfl⟩
theorem dX5_feed_71 : Dk kX5_feed 71 (.sipush 160) 3 74 := ⟨by decide +kernel, rfl⟩
theorem dX5_feed_74 : Dj kX5_feed 74 (fun o => .if_icmp .le o) 3 77 80 := ⟨6, by decide +kernel, rfl, by decide⟩
theorem dX5_feed_77 : Dk kX5_feed 77 (.bipush (-4)) 2 79 := ⟨by decide +kernel, rfl⟩
theorem dX5_feed_79 : Dk kX5_feed 79 (.ireturn) 1 80 := ⟨by decide +kernel, rfl⟩
theorem dX5_feed_80 : Dk kX5_feed 80 (.iconst 0) 1 81 := ⟨by decide +kernel, rfl⟩
theorem dX5_feed_81 : Dk kX5_feed 81 (.istore 8) 2 83 := ⟨by decide +kernel, rfl⟩
theorem dX5_feed_83 : Dk kX5_feed 83 (.iload 8) 2 85 := ⟨by decide +kernel, rfl⟩
theorem dX5_feed_85 : Dk kX5_feed 85 (.iload_n 1) 1 86 := ⟨by decide +kernel, rfl⟩
theorem dX5_feed_86 : Dj kX5_feed 86 (fun o => .if_icmp .ge o) 3 89 145 := ⟨59, by decide +kernel, rfl, by decide⟩
theorem dX5_feed_89 : Dk kX5_feed 89 (.aload_n 0) 1 90 := ⟨by decide +kernel, rfl⟩
theorem dX5_feed_90 : Dk kX5_feed 90 (.getfield 24) 3 93 := ⟨by decide +kernel, rfl⟩
theorem dX5_feed_93 : Dk kX5_feed 93 (.iload 8) 2 95 := ⟨by decide +kernel, rfl⟩
theorem dX5_feed_95 : Dj kX5_feed 95 (fun o => .ifCond .ne o) 3 98 102 := ⟨7, by decide +kernel, rfl, by decide⟩
theorem dX5_feed_98 : Dk kX5_feed 98 (.iload_n 2) 1 99 := ⟨by decide +kernel, rfl⟩
theorem dX5_feed_99 : Dj kX5_feed 99 (fun o => .goto o) 3 102 136 := ⟨37, by decide +kernel, rfl, by decide⟩
theorem dX5_feed_102 : Dk kX5_feed 102 (.iload 8) 2 104 := ⟨by decide +kernel, rfl⟩
theorem dX5_feed_104 : Dk kX5_feed 104 (.iconst 1) 1 105 := ⟨by decide +kernel, rfl⟩
theorem dX5_feed_105 : Dj kX5_feed 105 (fun o => .if_icmp .ne o) 3 108 112 := ⟨7, by decide +kernel, rfl, by decide⟩
theorem dX5_feed_108 : Dk kX5_feed 108 (.iload_n 3) 1 109 := ⟨by decide +kernel, rfl⟩
theorem dX5_feed_109 : Dj kX5_feed 109 (fun o => .goto o) 3 112 136 := ⟨27, by decide +kernel, rfl, by decide⟩
theorem dX5_feed_112 : Dk kX5_feed 112 (.iload 8) 2 114 := ⟨by decide +kernel, rfl⟩
theorem dX5_feed_114 : Dk kX5_feed 114 (.iconst 2) 1 115 := ⟨by decide +kernel, rfl⟩
theorem dX5_feed_115 : Dj kX5_feed 115 (fun o => .if_icmp .ne o) 3 118 123 := ⟨8, by decide +kernel, rfl, by decide⟩
theorem dX5_feed_118 : Dk kX5_feed 118 (.iload 4) 2 120 := ⟨by decide +kernel, rfl⟩
theorem dX5_feed_120 : Dj kX5_feed 120 (fun o => .goto o) 3 123 136 := ⟨16, by decide +kernel, rfl, by decide⟩
theorem dX5_feed_123 : Dk kX5_feed 123 (.iload 8) 2 125 := ⟨by decide +kernel, rfl⟩
theorem dX5_feed_125 : Dk kX5_feed 125 (.iconst 3) 1 126 := ⟨by decide +kernel, rfl⟩
theorem dX5_feed_126 : Dj kX5_feed 126 (fun o => .if_icmp .ne o) 3 129 134 := ⟨8, by decide +kernel, rfl, by decide⟩
theorem dX5_feed_129 : Dk kX5_feed 129 (.iload 5) 2 131 := ⟨by decide +kernel, rfl⟩
theorem dX5_feed_131 : Dj kX5_feed 131 (fun o => .goto o) 3 134 136 := ⟨5, by decide +kernel, rfl, by decide⟩
theorem dX5_feed_134 : Dk kX5_feed 134 (.iload 6) 2 136 := ⟨by decide +kernel, rfl⟩
theorem dX5_feed_136 : Dk kX5_feed 136 (.invokevirtual 122) 3 139 := ⟨by decide +kernel, rfl⟩
theorem dX5_feed_139 : Dk kX5_feed 139 (.iinc 8 1) 3 142 := ⟨by decide +kernel, rfl⟩
theorem dX5_feed_142 : Dj kX5_feed 142 (fun o => .goto o) 3 145 83 := ⟨-59, by decide +kernel, rfl, by decide⟩
theorem dX5_feed_145 : Dk kX5_feed 145 (.aload_n 0) 1 146 := ⟨by decide +kernel, rfl⟩
theorem dX5_feed_146 : Dk kX5_feed 146 (.getfield 24) 3 149 := ⟨by decide +kernel, rfl⟩
theorem dX5_feed_149 : Dk kX5_feed 149 (.getfield 85) 3 152 := ⟨by decide +kernel, rfl⟩
theorem dX5_feed_152 : Dk kX5_feed 152 (.ireturn) 1 153 := ⟨by decide +kernel, rfl⟩
theorem dX5_text_0 : Dk kX5_text 0 (.aload_n 0) 1 1 := ⟨by decide +kernel, rfl⟩
theorem dX5_text_1 : Dk kX5_text 1 (.getfield 52) 3 4 := ⟨by decide +kernel, rfl⟩
theorem dX5_text_4 : Dj kX5_text 4 (fun o => .ifCond .lt o) 3 7 16 := ⟨12, by decide +kernel, rfl, by decide⟩
theorem dX5_text_7 : Dk kX5_text 7 (.aload_n 0) 1 8 := ⟨by decide +kernel, rfl⟩
theorem dX5_text_8 : Dk kX5_text 8 (.getfield 52) 3 11 := ⟨by decide +kernel, rfl⟩
theorem dX5_text_11 : Dk kX5_text 11 (.bipush 6) 2 13 := ⟨by decide +kernel, rfl⟩
theorem dX5_text_13 : Dj kX5_text 13 (fun o => .if_icmp .lt o) 3 16 19 := ⟨6, by decide +kernel, rfl, by decide⟩
theorem dX5_text_16 : Dk kX5_text 16 (.bipush (-4)) 2 18 := ⟨by decide +kernel, rfl⟩
theorem dX5_text_18 : Dk kX5_text 18 (.ireturn) 1 19 := ⟨by decide +kernel, rfl⟩
theorem dX5_text_19 : Dk kX5_text 19 (.aload_n 0) 1 20 := ⟨by decide +kernel, rfl⟩
theorem dX5_text_20 : Dk kX5_text 20 (.getfield 33) 3 23 := ⟨by decide +kernel, rfl⟩
theorem dX5_text_23 : Dk kX5_text 23 (.aload_n 0) 1 24 := ⟨by decide +kernel, rfl⟩
theorem dX5_text_24 : Dk kX5_text 24 (.getfield 11) 3 27 := ⟨by decide +kernel, rfl⟩
theorem dX5_text_27 : Dk kX5_text 27 (.aload_n 0) 1 28 := ⟨by decide +kernel, rfl⟩
theorem dX5_text_28 : Dk kX5_text 28 (.getfield 52) 3 31 := ⟨by decide +kernel, rfl⟩
theorem dX5_text_31 : Dk kX5_text 31 (.aaload) 1 32 := ⟨by decide +kernel, rfl⟩
theorem dX5_text_32 : Dk kX5_text 32 (.invokevirtual 126) 3 35 := ⟨by decide +kernel, rfl⟩
theorem dX5_text_35 : Dk kX5_text 35 (.istore_n 1) 1 36 := ⟨by decide +kernel, rfl⟩
theorem dX5_text_36 : Dk kX5_text 36 (.aload_n 0) 1 37 := ⟨by decide +kernel, rfl⟩
theorem dX5_text_37 : Dk kX5_text 37 (.getfield 24) 3 40 := ⟨by decide +kernel, rfl⟩
theorem dX5_text_40 : Dk kX5_text 40 (.iconst 0) 1 41 := ⟨by decide +kernel, rfl⟩
theorem dX5_text_41 : Dk kX5_text 41 (.putfield 85) 3 44 := ⟨by decide +kernel, rfl⟩
theorem dX5_text_44 : Dk kX5_text 44 (.iload_n 1) 1 45 := ⟨by decide +kernel, rfl⟩
theorem dX5_text_45 : Dk kX5_text 45 (.iconst (-1)) 1 46 := ⟨by decide +kernel, rfl⟩
theorem dX5_text_46 : Dj kX5_text 46 (fun o => .if_icmp .eq o) 3 49 54 := ⟨8, by decide +kernel, rfl, by decide⟩
theorem dX5_text_49 : Dk kX5_text 49 (.bipush (-100)) 2 51 := ⟨by decide +kernel, rfl⟩
theorem dX5_text_51 : Dk kX5_text 51 (.iload_n 1) 1 52 := ⟨by decide +kernel, rfl⟩
theorem dX5_text_52 : Dk kX5_text 52 (.isub) 1 53 := ⟨by decide +kernel, rfl⟩
theorem dX5_text_53 : Dk kX5_text 53 (.ireturn) 1 54 := ⟨by decide +kernel, rfl⟩
theorem dX5_text_54 : Dk kX5_text 54 (.aload_n 0) 1 55 := ⟨by decide +kernel, rfl⟩
theorem dX5_text_55 : Dk kX5_text 55 (.dup) 1 56 := ⟨by decide +kernel, rfl⟩
theorem dX5_text_56 : Dk kX5_text 56 (.getfield 52) 3 59 := ⟨by decide +kernel, rfl⟩
theorem dX5_text_59 : Dk kX5_text 59 (.iconst 1) 1 60 := ⟨by decide +kernel, rfl⟩
theorem dX5_text_60 : Dk kX5_text 60 (.iadd) 1 61 := ⟨by decide +kernel, rfl⟩
theorem dX5_text_61 : Dk kX5_text 61 (.putfield 52) 3 64 := ⟨by decide +kernel, rfl⟩
theorem dX5_text_64 : Dk kX5_text 64 (.aload_n 0) 1 65 := ⟨by decide +kernel, rfl⟩
theorem dX5_text_65 : Dk kX5_text 65 (.getfield 52) 3 68 := ⟨by decide +kernel, rfl⟩
theorem dX5_text_68 : Dk kX5_text 68 (.iconst 1) 1 69 := ⟨by decide +kernel, rfl⟩
theorem dX5_text_69 : Dk kX5_text 69 (.isub) 1 70 := ⟨by decide +kernel, rfl⟩
theorem dX5_text_70 : Dk kX5_text 70 (.ireturn) 1 71 := ⟨by decide +kernel, rfl⟩
theorem dX5_force_0 : Dk kX5_force 0 (.iload_n 1) 1 1 := ⟨by decide +kernel, rfl⟩
theorem dX5_force_1 : Dk kX5_force 1 (.iconst 0) 1 2 := ⟨by decide +kernel, rfl⟩
theorem dX5_force_2 : Dk kX5_force 2 (.aload_n 0) 1 3 := ⟨by decide +kernel, rfl⟩
theorem dX5_force_3 : Dk kX5_force 3 (.getfield 52) 3 6 := ⟨by decide +kernel, rfl⟩
theorem dX5_force_6 : Dk kX5_force 6 (.iconst 1) 1 7 := ⟨by decide +kernel, rfl⟩
theorem dX5_force_7 : Dk kX5_force 7 (.isub) 1 8 := ⟨by decide +kernel, rfl⟩
theorem dX5_force_8 : Dk kX5_force 8 (.invokestatic 88) 3 11 := ⟨by decide +kernel, rfl⟩
theorem dX5_force_11 : Dj kX5_force 11 (fun o => .ifCond .ne o) 3 14 17 := ⟨6, by decide +kernel, rfl, by decide⟩
theorem dX5_force_14 : Dk kX5_force 14 (.bipush (-2)) 2 16 := ⟨by decide +kernel, rfl⟩
theorem dX5_force_16 : Dk kX5_force 16 (.ireturn) 1 17 := ⟨by decide +kernel, rfl⟩
theorem dX5_force_17 : Dk kX5_force 17 (.aload_n 0) 1 18 := ⟨by decide +kernel, rfl⟩
theorem dX5_force_18 : Dk kX5_force 18 (.getfield 42) 3 21 := ⟨by decide +kernel, rfl⟩
theorem dX5_force_21 : Dk kX5_force 21 (.getfield 82) 3 24 := ⟨by decide +kernel, rfl⟩
theorem dX5_force_24 : Dk kX5_force 24 (.istore_n 2) 1 25 := ⟨by decide +kernel, rfl⟩
theorem dX5_force_25 : Dk kX5_force 25 (.aload_n 0) 1 26 := ⟨by decide +kernel, rfl⟩
theorem dX5_force_26 : Dk kX5_force 26 (.getfield 42) 3 29 := ⟨by decide +kernel, rfl⟩
theorem dX5_force_29 : Dk kX5_force 29 (.iload_n 1) 1 30 := ⟨by decide +kernel, rfl⟩
theorem dX5_force_30 : Dk kX5_force 30 (.putfield 82) 3 33 := ⟨by decide +kernel, rfl⟩
theorem dX5_force_33 : Dk kX5_force 33 (.iload_n 2) 1 34 := ⟨by decide +kernel, rfl⟩
theorem dX5_force_34 : Dk kX5_force 34 (.ireturn) 1 35 := ⟨by decide +kernel, rfl⟩
theorem dX5_asks_0 : Dk kX5_asks 0 (.iload_n 1) 1 1 := ⟨by decide +kernel, rfl⟩
theorem dX5_asks_1 : Dk kX5_asks 1 (.iconst 0) 1 2 := ⟨by decide +kernel, rfl⟩
theorem dX5_asks_2 : Dk kX5_asks 2 (.iconst 2) 1 3 := ⟨by decide +kernel, rfl⟩
theorem dX5_asks_3 : Dk kX5_asks 3 (.invokestatic 88) 3 6 := ⟨by decide +kernel, rfl⟩
theorem dX5_asks_6 : Dj kX5_asks 6 (fun o => .ifCond .eq o) 3 9 29 := ⟨23, by decide +kernel, rfl, by decide⟩
theorem dX5_asks_9 : Dk kX5_asks 9 (.aload_n 0) 1 10 := ⟨by decide +kernel, rfl⟩
theorem dX5_asks_10 : Dk kX5_asks 10 (.iload_n 2) 1 11 := ⟨by decide +kernel, rfl⟩
theorem dX5_asks_11 : Dk kX5_asks 11 (.invokevirtual 107) 3 14 := ⟨by decide +kernel, rfl⟩
theorem dX5_asks_14 : Dj kX5_asks 14 (fun o => .ifCond .eq o) 3 17 29 := ⟨15, by decide +kernel, rfl, by decide⟩
theorem dX5_asks_17 : Dk kX5_asks 17 (.aload_n 0) 1 18 := ⟨by decide +kernel, rfl⟩
theorem dX5_asks_18 : Dk kX5_asks 18 (.getfield 42) 3 21 := ⟨by decide +kernel, rfl⟩
theorem dX5_asks_21 : Dk kX5_asks 21 (.iload_n 1) 1 22 := ⟨by decide +kernel, rfl⟩
theorem dX5_asks_22 : Dk kX5_asks 22 (.iload_n 2) 1 23 := ⟨by decide +kernel, rfl⟩
theorem dX5_asks_23 : Dk kX5_asks 23 (.invokevirtual 130) 3 26 := ⟨by decide +kernel, rfl⟩
theorem dX5_asks_26 : Dj kX5_asks 26 (fun o => .goto o) 3 29 32 := ⟨6, by decide +kernel, rfl, by decide⟩
theorem dX5_asks_29 : Dk kX5_asks 29 (.sipush (-1000)) 3 32 := ⟨by decide +kernel, rfl⟩
theorem dX5_asks_32 : Dk kX5_asks 32 (.ireturn) 1 33 := ⟨by decide +kernel, rfl⟩
theorem dX5_citizen_0 : Dk kX5_citizen 0 (.aload_n 0) 1 1 := ⟨by decide +kernel, rfl⟩
theorem dX5_citizen_1 : Dk kX5_citizen 1 (.getfield 42) 3 4 := ⟨by decide +kernel, rfl⟩
theorem dX5_citizen_4 : Dk kX5_citizen 4 (.iload_n 1) 1 5 := ⟨by decide +kernel, rfl⟩
theorem dX5_citizen_5 : Dk kX5_citizen 5 (.iload_n 2) 1 6 := ⟨by decide +kernel, rfl⟩
theorem dX5_citizen_6 : Dk kX5_citizen 6 (.invokevirtual 134) 3 9 := ⟨by decide +kernel, rfl⟩
theorem dX5_citizen_9 : Dk kX5_citizen 9 (.ireturn) 1 10 := ⟨by decide +kernel, rfl⟩
theorem dX5_put_0 : Dk kX5_put 0 (.aload_n 0) 1 1 := ⟨by decide +kernel, rfl⟩
theorem dX5_put_1 : Dk kX5_put 1 (.iload_n 1) 1 2 := ⟨by decide +kernel, rfl⟩
theorem dX5_put_2 : Dk kX5_put 2 (.invokevirtual 107) 3 5 := ⟨by decide +kernel, rfl⟩
theorem dX5_put_5 : Dj kX5_put 5 (fun o => .ifCond .ne o) 3 8 11 := ⟨6, by decide +kernel, rfl, by decide⟩
theorem dX5_put_8 : Dk kX5_put 8 (.bipush (-5)) 2 10 := ⟨by decide +kernel, rfl⟩
theorem dX5_put_10 : Dk kX5_put 10 (.ireturn) 1 11 := ⟨by decide +kernel, rfl⟩
theorem dX5_put_11 : Dk kX5_put 11 (.iload_n 2) 1 12 := ⟨by decide +kernel, rfl⟩
theorem dX5_put_12 : Dj kX5_put 12 (fun o => .ifCond .ne o) 3 15 35 := ⟨23, by decide +kernel, rfl, by decide⟩
theorem dX5_put_15 : Dk kX5_put 15 (.iload_n 3) 1 16 := ⟨by decide +kernel, rfl⟩
theorem dX5_put_16 : Dk kX5_put 16 (.invokestatic 92) 3 19 := ⟨by decide +kernel, rfl⟩
theorem dX5_put_19 : Dj kX5_put 19 (fun o => .ifCond .eq o) 3 22 35 := ⟨16, by decide +kernel, rfl, by decide⟩
theorem dX5_put_22 : Dk kX5_put 22 (.aload_n 0) 1 23 := ⟨by decide +kernel, rfl⟩
theorem dX5_put_23 : Dk kX5_put 23 (.getfield 42) 3 26 := ⟨by decide +kernel, rfl⟩
theorem dX5_put_26 : Dk kX5_put 26 (.getfield 137) 3 29 := ⟨by decide +kernel, rfl⟩
theorem dX5_put_29 : Dk kX5_put 29 (.iload_n 1) 1 30 := ⟨by decide +kernel, rfl⟩
theorem dX5_put_30 : Dk kX5_put 30 (.iload_n 3) 1 31 := ⟨by decide +kernel, rfl⟩
theorem dX5_put_31 : Dk kX5_put 31 (.invokestatic 103) 3 34 := ⟨by decide +kernel, rfl⟩
theorem dX5_put_34 : Dk kX5_put 34 (.ireturn) 1 35 := ⟨by decide +kernel, rfl⟩
theorem dX5_put_35 : Dk kX5_put 35 (.iload_n 2) 1 36 := ⟨by decide +kernel, rfl⟩
theorem dX5_put_36 : Dk kX5_put 36 (.iconst 1) 1 37 := ⟨by decide +kernel, rfl⟩
theorem dX5_put_37 : Dj kX5_put 37 (fun o => .if_icmp .ne o) 3 40 63 := ⟨26, by decide +kernel, rfl, by decide⟩
theorem dX5_put_40 : Dk kX5_put 40 (.iload_n 3) 1 41 := ⟨by decide +kernel, rfl⟩
theorem dX5_put_41 : Dk kX5_put 41 (.iconst 0) 1 42 := ⟨by decide +kernel, rfl⟩
theorem dX5_put_42 : Dk kX5_put 42 (.bipush 99) 2 44 := ⟨by decide +kernel, rfl⟩
theorem dX5_put_44 : Dk kX5_put 44 (.invokestatic 88) 3 47 := ⟨by decide +kernel, rfl⟩
theorem dX5_put_47 : Dj kX5_put 47 (fun o => .ifCond .eq o) 3 50 63 := ⟨16, by decide +kernel, rfl, by decide⟩
theorem dX5_put_50 : Dk kX5_put 50 (.aload_n 0) 1 51 := ⟨by decide +kernel, rfl⟩
theorem dX5_put_51 : Dk kX5_put 51 (.getfield 42) 3 54 := ⟨by decide +kernel, rfl⟩
theorem dX5_put_54 : Dk kX5_put 54 (.getfield 140) 3 57 := ⟨by decide +kernel, rfl⟩
theorem dX5_put_57 : Dk kX5_put 57 (.iload_n 1) 1 58 := ⟨by decide +kernel, rfl⟩
theorem dX5_put_58 : Dk kX5_put 58 (.iload_n 3) 1 59 := ⟨by decide +kernel, rfl⟩
theorem dX5_put_59 : Dk kX5_put 59 (.invokestatic 103) 3 62 := ⟨by decide +kernel, rfl⟩
theorem dX5_put_62 : Dk kX5_put 62 (.ireturn) 1 63 := ⟨by decide +kernel, rfl⟩
theorem dX5_put_63 : Dk kX5_put 63 (.bipush (-7)) 2 65 := ⟨by decide +kernel, rfl⟩
theorem dX5_put_65 : Dk kX5_put 65 (.ireturn) 1 66 := ⟨by decide +kernel, rfl⟩
theorem dX5_told_0 : Dk kX5_told 0 (.aload_n 0) 1 1 := ⟨by decide +kernel, rfl⟩
theorem dX5_told_1 : Dk kX5_told 1 (.iload_n 1) 1 2 := ⟨by decide +kernel, rfl⟩
theorem dX5_told_2 : Dk kX5_told 2 (.invokevirtual 107) 3 5 := ⟨by decide +kernel, rfl⟩
theorem dX5_told_5 : Dj kX5_told 5 (fun o => .ifCond .ne o) 3 8 11 := ⟨6, by decide +kernel, rfl, by decide⟩
theorem dX5_told_8 : Dk kX5_told 8 (.bipush (-5)) 2 10 := ⟨by decide +kernel, rfl⟩
theorem dX5_told_10 : Dk kX5_told 10 (.ireturn) 1 11 := ⟨by decide +kernel, rfl⟩
theorem dX5_told_11 : Dk kX5_told 11 (.iload_n 2) 1 12 := ⟨by decide +kernel, rfl⟩
theorem dX5_told_12 : Dk kX5_told 12 (.tableswitch 158 0 8 #[52, 62, 72, 82, 92, 102, 119, 128, 140]) 52 64 := ⟨by decide +kernel, rfl⟩
theorem dX5_told_64 : Dk kX5_told 64 (.aload_n 0) 1 65 := ⟨by decide +kernel, rfl⟩
theorem dX5_told_65 : Dk kX5_told 65 (.getfield 42) 3 68 := ⟨by decide +kernel, rfl⟩
theorem dX5_told_68 : Dk kX5_told 68 (.getfield 137) 3 71 := ⟨by decide +kernel, rfl⟩
theorem dX5_told_71 : Dk kX5_told 71 (.iload_n 1) 1 72 := ⟨by decide +kernel, rfl⟩
theorem dX5_told_72 : Dk kX5_told 72 (.iaload) 1 73 := ⟨by decide +kernel, rfl⟩
theorem dX5_told_73 : Dk kX5_told 73 (.ireturn) 1 74 := ⟨by decide +kernel, rfl⟩
theorem dX5_told_74 : Dk kX5_told 74 (.aload_n 0) 1 75 := ⟨by decide +kernel, rfl⟩
theorem dX5_told_75 : Dk kX5_told 75 (.getfield 42) 3 78 := ⟨by decide +kernel, rfl⟩
theorem dX5_told_78 : Dk kX5_told 78 (.getfield 140) 3 81 := ⟨by decide +kernel, rfl⟩
theorem dX5_told_81 : Dk kX5_told 81 (.iload_n 1) 1 82 := ⟨by decide +kernel, rfl⟩
theorem dX5_told_82 : Dk kX5_told 82 (.iaload) 1 83 := ⟨by decide +kernel, rfl⟩
theorem dX5_told_83 : Dk kX5_told 83 (.ireturn) 1 84 := ⟨by decide +kernel, rfl⟩
theorem dX5_told_84 : Dk kX5_told 84 (.aload_n 0) 1 85 := ⟨by decide +kernel, rfl⟩
theorem dX5_told_85 : Dk kX5_told 85 (.getfield 42) 3 88 := ⟨by decide +kernel, rfl⟩
theorem dX5_told_88 : Dk kX5_told 88 (.getfield 143) 3 91 := ⟨by decide +kernel, rfl⟩
theorem dX5_told_91 : Dk kX5_told 91 (.iload_n 1) 1 92 := ⟨by decide +kernel, rfl⟩
theorem dX5_told_92 : Dk kX5_told 92 (.iaload) 1 93 := ⟨by decide +kernel, rfl⟩
theorem dX5_told_93 : Dk kX5_told 93 (.ireturn) 1 94 := ⟨by decide +kernel, rfl⟩
theorem dX5_told_94 : Dk kX5_told 94 (.aload_n 0) 1 95 := ⟨by decide +kernel, rfl⟩
theorem dX5_told_95 : Dk kX5_told 95 (.getfield 42) 3 98 := ⟨by decide +kernel, rfl⟩
theorem dX5_told_98 : Dk kX5_told 98 (.getfield 146) 3 101 := ⟨by decide +kernel, rfl⟩
theorem dX5_told_101 : Dk kX5_told 101 (.iload_n 1) 1 102 := ⟨by decide +kernel, rfl⟩
theorem dX5_told_102 : Dk kX5_told 102 (.iaload) 1 103 := ⟨by decide +kernel, rfl⟩
theorem dX5_told_103 : Dk kX5_told 103 (.ireturn) 1 104 := ⟨by decide +kernel, rfl⟩
theorem dX5_told_104 : Dk kX5_told 104 (.aload_n 0) 1 105 := ⟨by decide +kernel, rfl⟩
theorem dX5_told_105 : Dk kX5_told 105 (.getfield 42) 3 108 := ⟨by decide +kernel, rfl⟩
theorem dX5_told_108 : Dk kX5_told 108 (.getfield 149) 3 111 := ⟨by decide +kernel, rfl⟩
theorem dX5_told_111 : Dk kX5_told 111 (.iload_n 1) 1 112 := ⟨by decide +kernel, rfl⟩
theorem dX5_told_112 : Dk kX5_told 112 (.iaload) 1 113 := ⟨by decide +kernel, rfl⟩
theorem dX5_told_113 : Dk kX5_told 113 (.ireturn) 1 114 := ⟨by decide +kernel, rfl⟩
theorem dX5_told_114 : Dk kX5_told 114 (.aload_n 0) 1 115 := ⟨by decide +kernel, rfl⟩
theorem dX5_told_115 : Dk kX5_told 115 (.getfield 42) 3 118 := ⟨by decide +kernel, rfl⟩
theorem dX5_told_118 : Dk kX5_told 118 (.iload_n 1) 1 119 := ⟨by decide +kernel, rfl⟩
theorem dX5_told_119 : Dk kX5_told 119 (.invokevirtual 152) 3 122 := ⟨by decide +kernel, rfl⟩
theorem dX5_told_122 : Dj kX5_told 122 (fun o => .ifCond .eq o) 3 125 129 := ⟨7, by decide +kernel, rfl, by decide⟩
theorem dX5_told_125 : Dk kX5_told 125 (.iconst 1) 1 126 := ⟨by decide +kernel, rfl⟩
theorem dX5_told_126 : Dj kX5_told 126 (fun o => .goto o) 3 129 130 := ⟨4, by decide +kernel, rfl, by decide⟩
theorem dX5_told_129 : Dk kX5_told 129 (.iconst 0) 1 130 := ⟨by decide +kernel, rfl⟩
theorem dX5_told_130 : Dk kX5_told 130 (.ireturn) 1 131 := ⟨by decide +kernel, rfl⟩
theorem dX5_told_131 : Dk kX5_told 131 (.aload_n 0) 1 132 := ⟨by decide +kernel, rfl⟩
theorem dX5_told_132 : Dk kX5_told 132 (.getfield 42) 3 135 := ⟨by decide +kernel, rfl⟩
theorem dX5_told_135 : Dk kX5_told 135 (.iload_n 1) 1 136 := ⟨by decide +kernel, rfl⟩
theorem dX5_told_136 : Dk kX5_told 136 (.invokevirtual 155) 3 139 := ⟨by decide +kernel, rfl⟩
theorem dX5_told_139 : Dk kX5_told 139 (.ireturn) 1 140 := ⟨by decide +kernel, rfl⟩
theorem dX5_told_140 : Dk kX5_told 140 (.aload_n 0) 1 141 := ⟨by decide +kernel, rfl⟩
theorem dX5_told_141 : Dk kX5_told 141 (.getfield 42) 3 144 := ⟨by decide +kernel, rfl⟩
theorem dX5_told_144 : Dk kX5_told 144 (.iload_n 1) 1 145 := ⟨by decide +kernel, rfl⟩
theorem dX5_told_145 : Dk kX5_told 145 (.invokevirtual 158) 3 148 := ⟨by decide +kernel, rfl⟩
theorem dX5_told_148 : Dk kX5_told 148 (.bipush 10) 2 150 := ⟨by decide +kernel, rfl⟩
theorem dX5_told_150 : Dk kX5_told 150 (.iadd) 1 151 := ⟨by decide +kernel, rfl⟩
theorem dX5_told_151 : Dk kX5_told 151 (.ireturn) 1 152 := ⟨by decide +kernel, rfl⟩
theorem dX5_told_152 : Dk kX5_told 152 (.aload_n 0) 1 153 := ⟨by decide +kernel, rfl⟩
theorem dX5_told_153 : Dk kX5_told 153 (.getfield 42) 3 156 := ⟨by decide +kernel, rfl⟩
theorem dX5_told_156 : Dk kX5_told 156 (.iload_n 1) 1 157 := ⟨by decide +kernel, rfl⟩
theorem dX5_told_157 : Dk kX5_told 157 (.aload_n 0) 1 158 := ⟨by decide +kernel, rfl⟩
theorem dX5_told_158 : Dk kX5_told 158 (.getfield 42) 3 161 := ⟨by decide +kernel, rfl⟩
theorem dX5_told_161 : Dk kX5_told 161 (.getfield 137) 3 164 := ⟨by decide +kernel, rfl⟩
theorem dX5_told_164 : Dk kX5_told 164 (.iload_n 1) 1 165 := ⟨by decide +kernel, rfl⟩
theorem dX5_told_165 : Dk kX5_told 165 (.iaload) 1 166 := ⟨by decide +kernel, rfl⟩
theorem dX5_told_166 : Dk kX5_told 166 (.invokevirtual 161) 3 169 := ⟨by decide +kernel, rfl⟩
theorem dX5_told_169 : Dk kX5_told 169 (.ireturn) 1 170 := ⟨by decide +kernel, rfl⟩
theorem dX5_told_170 : Dk kX5_told 170 (.bipush (-7)) 2 172 := ⟨by decide +kernel, rfl⟩
theorem dX5_told_172 : Dk kX5_told 172 (.ireturn) 1 173 := ⟨by decide +kernel, rfl⟩
theorem dX5_twist_0 : Dk kX5_twist 0 (.aload_n 0) 1 1 := ⟨by decide +kernel, rfl⟩
theorem dX5_twist_1 : Dk kX5_twist 1 (.iload_n 1) 1 2 := ⟨by decide +kernel, rfl⟩
theorem dX5_twist_2 : Dk kX5_twist 2 (.invokevirtual 107) 3 5 := ⟨by decide +kernel, rfl⟩
theorem dX5_twist_5 : Dj kX5_twist 5 (fun o => .ifCond .eq o) 3 8 28 := ⟨23, by decide +kernel, rfl, by decide⟩
theorem dX5_twist_8 : Dk kX5_twist 8 (.aload_n 0) 1 9 := ⟨by decide +kernel, rfl⟩
theorem dX5_twist_9 : Dk kX5_twist 9 (.getfield 42) 3 12 := ⟨by decide +kernel, rfl⟩
theorem dX5_twist_12 : Dk kX5_twist 12 (.iload_n 1) 1 13 := ⟨by decide +kernel, rfl⟩
theorem dX5_twist_13 : Dk kX5_twist 13 (.aload_n 0) 1 14 := ⟨by decide +kernel, rfl⟩
theorem dX5_twist_14 : Dk kX5_twist 14 (.getfield 42) 3 17 := ⟨by decide +kernel, rfl⟩
theorem dX5_twist_17 : Dk kX5_twist 17 (.getfield 137) 3 20 := ⟨by decide +kernel, rfl⟩
theorem dX5_twist_20 : Dk kX5_twist 20 (.iload_n 1) 1 21 := ⟨by decide +kernel, rfl⟩
theorem dX5_twist_21 : Dk kX5_twist 21 (.iaload) 1 22 := ⟨by decide +kernel, rfl⟩
theorem dX5_twist_22 : Dk kX5_twist 22 (.invokevirtual 164) 3 25 := ⟨by decide +kernel, rfl⟩
theorem dX5_twist_25 : Dj kX5_twist 25 (fun o => .goto o) 3 28 30 := ⟨5, by decide +kernel, rfl, by decide⟩
theorem dX5_twist_28 : Dk kX5_twist 28 (.bipush (-5)) 2 30 := ⟨by decide +kernel, rfl⟩
theorem dX5_twist_30 : Dk kX5_twist 30 (.ireturn) 1 31 := ⟨by decide +kernel, rfl⟩
theorem dX5_give_0 : Dk kX5_give 0 (.aload_n 0) 1 1 := ⟨by decide +kernel, rfl⟩
theorem dX5_give_1 : Dk kX5_give 1 (.iload_n 1) 1 2 := ⟨by decide +kernel, rfl⟩
theorem dX5_give_2 : Dk kX5_give 2 (.invokevirtual 107) 3 5 := ⟨by decide +kernel, rfl⟩
theorem dX5_give_5 : Dj kX5_give 5 (fun o => .ifCond .eq o) 3 8 21 := ⟨16, by decide +kernel, rfl, by decide⟩
theorem dX5_give_8 : Dk kX5_give 8 (.aload_n 0) 1 9 := ⟨by decide +kernel, rfl⟩
theorem dX5_give_9 : Dk kX5_give 9 (.iload_n 2) 1 10 := ⟨by decide +kernel, rfl⟩
theorem dX5_give_10 : Dk kX5_give 10 (.invokevirtual 107) 3 13 := ⟨by decide +kernel, rfl⟩
theorem dX5_give_13 : Dj kX5_give 13 (fun o => .ifCond .eq o) 3 16 21 := ⟨8, by decide +kernel, rfl, by decide⟩
theorem dX5_give_16 : Dk kX5_give 16 (.iload_n 1) 1 17 := ⟨by decide +kernel, rfl⟩
theorem dX5_give_17 : Dk kX5_give 17 (.iload_n 2) 1 18 := ⟨by decide +kernel, rfl⟩
theorem dX5_give_18 : Dj kX5_give 18 (fun o => .if_icmp .ne o) 3 21 24 := ⟨6, by decide +kernel, rfl, by decide⟩
theorem dX5_give_21 : Dk kX5_give 21 (.bipush (-5)) 2 23 := ⟨by decide +kernel, rfl⟩
theorem dX5_give_23 : Dk kX5_give 23 (.ireturn) 1 24 := ⟨by decide +kernel, rfl⟩
theorem dX5_give_24 : Dk kX5_give 24 (.iload_n 3) 1 25 := ⟨by decide +kernel, rfl⟩
theorem dX5_give_25 : Dk kX5_give 25 (.iconst 0) 1 26 := ⟨by decide +kernel, rfl⟩
theorem dX5_give_26 : Dk kX5_give 26 (.bipush 99) 2 28 := ⟨by decide +kernel, rfl⟩
theorem dX5_give_28 : Dk kX5_give 28 (.invokestatic 88) 3 31 := ⟨by decide +kernel, rfl⟩
theorem dX5_give_31 : Dj kX5_give 31 (fun o => .ifCond .ne o) 3 34 37 := ⟨6, by decide +kernel, rfl, by decide⟩
theorem dX5_give_34 : Dk kX5_give 34 (.bipush (-7)) 2 36 := ⟨by decide +kernel, rfl⟩
theorem dX5_give_36 : Dk kX5_give 36 (.ireturn) 1 37 := ⟨by decide +kernel, rfl⟩
theorem dX5_give_37 : Dk kX5_give 37 (.aload_n 0) 1 38 := ⟨by decide +kernel, rfl⟩
theorem dX5_give_38 : Dk kX5_give 38 (.getfield 42) 3 41 := ⟨by decide +kernel, rfl⟩
theorem dX5_give_41 : Dk kX5_give 41 (.getfield 140) 3 44 := ⟨by decide +kernel, rfl⟩
theorem dX5_give_44 : Dk kX5_give 44 (.iload_n 1) 1 45 := ⟨by decide +kernel, rfl⟩
theorem dX5_give_45 : Dk kX5_give 45 (.iaload) 1 46 := ⟨by decide +kernel, rfl⟩
theorem dX5_give_46 : Dk kX5_give 46 (.iload_n 3) 1 47 := ⟨by decide +kernel, rfl⟩
theorem dX5_give_47 : Dj kX5_give 47 (fun o => .if_icmp .lt o) 3 50 66 := ⟨19, by decide +kernel, rfl, by decide⟩
theorem dX5_give_50 : Dk kX5_give 50 (.bipush 99) 2 52 := ⟨by decide +kernel, rfl⟩
theorem dX5_give_52 : Dk kX5_give 52 (.aload_n 0) 1 53 := ⟨by decide +kernel, rfl⟩
theorem dX5_give_53 : Dk kX5_give 53 (.getfield 42) 3 56 := ⟨by decide +kernel, rfl⟩
theorem dX5_give_56 : Dk kX5_give 56 (.getfield 140) 3 59 := ⟨by decide +kernel, rfl⟩
theorem dX5_give_59 : Dk kX5_give 59 (.iload_n 2) 1 60 := ⟨by decide +kernel, rfl⟩
theorem dX5_give_60 : Dk kX5_give 60 (.iaload) 1 61 := ⟨by decide +kernel, rfl⟩
theorem dX5_give_61 : Dk kX5_give 61 (.isub) 1 62 := ⟨by decide +kernel, rfl⟩
theorem dX5_give_62 : Dk kX5_give 62 (.iload_n 3) 1 63 := ⟨by decide +kernel, rfl⟩
theorem dX5_give_63 : Dj kX5_give 63 (fun o => .if_icmp .ge o) 3 66 69 := ⟨6, by decide +kernel, rfl, by decide⟩
theorem dX5_give_66 : Dk kX5_give 66 (.bipush (-3)) 2 68 := ⟨by decide +kernel, rfl⟩
theorem dX5_give_68 : Dk kX5_give 68 (.ireturn) 1 69 := ⟨by decide +kernel, rfl⟩
theorem dX5_give_69 : Dk kX5_give 69 (.aload_n 0) 1 70 := ⟨by decide +kernel, rfl⟩
theorem dX5_give_70 : Dk kX5_give 70 (.getfield 42) 3 73 := ⟨by decide +kernel, rfl⟩
theorem dX5_give_73 : Dk kX5_give 73 (.getfield 140) 3 76 := ⟨by decide +kernel, rfl⟩
theorem dX5_give_76 : Dk kX5_give 76 (.iload_n 1) 1 77 := ⟨by decide +kernel, rfl⟩
theorem dX5_give_77 : Dk kX5_give 77 (.dup2) 1 78 := ⟨by decide +kernel, rfl⟩
theorem dX5_give_78 : Dk kX5_give 78 (.iaload) 1 79 := ⟨by decide +kernel, rfl⟩
theorem dX5_give_79 : Dk kX5_give 79 (.iload_n 3) 1 80 := ⟨by decide +kernel, rfl⟩
theorem dX5_give_80 : Dk kX5_give 80 (.isub) 1 81 := ⟨by decide +kernel, rfl⟩
theorem dX5_give_81 : Dk kX5_give 81 (.iastore) 1 82 := ⟨by decide +kernel, rfl⟩
theorem dX5_give_82 : Dk kX5_give 82 (.aload_n 0) 1 83 := ⟨by decide +kernel, rfl⟩
theorem dX5_give_83 : Dk kX5_give 83 (.getfield 42) 3 86 := ⟨by decide +kernel, rfl⟩
theorem dX5_give_86 : Dk kX5_give 86 (.getfield 140) 3 89 := ⟨by decide +kernel, rfl⟩
theorem dX5_give_89 : Dk kX5_give 89 (.iload_n 2) 1 90 := ⟨by decide +kernel, rfl⟩
theorem dX5_give_90 : Dk kX5_give 90 (.dup2) 1 91 := ⟨by decide +kernel, rfl⟩
theorem dX5_give_91 : Dk kX5_give 91 (.iaload) 1 92 := ⟨by decide +kernel, rfl⟩
theorem dX5_give_92 : Dk kX5_give 92 (.iload_n 3) 1 93 := ⟨by decide +kernel, rfl⟩
theorem dX5_give_93 : Dk kX5_give 93 (.iadd) 1 94 := ⟨by decide +kernel, rfl⟩
theorem dX5_give_94 : Dk kX5_give 94 (.iastore) 1 95 := ⟨by decide +kernel, rfl⟩
theorem dX5_give_95 : Dk kX5_give 95 (.aload_n 0) 1 96 := ⟨by decide +kernel, rfl⟩
theorem dX5_give_96 : Dk kX5_give 96 (.getfield 42) 3 99 := ⟨by decide +kernel, rfl⟩
theorem dX5_give_99 : Dk kX5_give 99 (.getfield 140) 3 102 := ⟨by decide +kernel, rfl⟩
theorem dX5_give_102 : Dk kX5_give 102 (.iload_n 2) 1 103 := ⟨by decide +kernel, rfl⟩
theorem dX5_give_103 : Dk kX5_give 103 (.iaload) 1 104 := ⟨by decide +kernel, rfl⟩
theorem dX5_give_104 : Dk kX5_give 104 (.ireturn) 1 105 := ⟨by decide +kernel, rfl⟩
theorem dX5_minute_0 : Dk kX5_minute 0 (.aload_n 0) 1 1 := ⟨by decide +kernel, rfl⟩
theorem dX5_minute_1 : Dk kX5_minute 1 (.getfield 42) 3 4 := ⟨by decide +kernel, rfl⟩
theorem dX5_minute_4 : Dk kX5_minute 4 (.getfield 69) 3 7 := ⟨by decide +kernel, rfl⟩
theorem dX5_minute_7 : Dk kX5_minute 7 (.sipush 9999) 3 10 := ⟨by decide +kernel, rfl⟩
theorem dX5_minute_10 : Dj kX5_minute 10 (fun o => .if_icmp .lt o) 3 13 18 := ⟨8, by decide +kernel, rfl, by decide⟩
theorem dX5_minute_13 : Dk kX5_minute 13 (.bipush (-3)) 2 15 := ⟨by decide +kernel, rfl⟩
theorem dX5_minute_15 : Dj kX5_minute 15 (fun o => .goto o) 3 18 25 := ⟨10, by decide +kernel, rfl, by decide⟩
theorem dX5_minute_18 : Dk kX5_minute 18 (.aload_n 0) 1 19 := ⟨by decide +kernel, rfl⟩
theorem dX5_minute_19 : Dk kX5_minute 19 (.getfield 42) 3 22 := ⟨by decide +kernel, rfl⟩
theorem dX5_minute_22 : Dk kX5_minute 22 (.invokevirtual 167) 3 25 := ⟨by decide +kernel, rfl⟩
theorem dX5_minute_25 : Dk kX5_minute 25 (.ireturn) 1 26 := ⟨by decide +kernel, rfl⟩
theorem dX5_run_0 : Dk kX5_run 0 (.iload_n 2) 1 1 := ⟨by decide +kernel, rfl⟩
theorem dX5_run_1 : Dk kX5_run 1 (.iconst 0) 1 2 := ⟨by decide +kernel, rfl⟩
theorem dX5_run_2 : Dk kX5_run 2 (.iconst 2) 1 3 := ⟨by decide +kernel, rfl⟩
theorem dX5_run_3 : Dk kX5_run 3 (.invokestatic 88) 3 6 := ⟨by decide +kernel, rfl⟩
theorem dX5_run_6 : Dk kX5_run 6 (.istore_n 3) 1 7 := ⟨by decide +kernel, rfl⟩
theorem dX5_run_7 : Dk kX5_run 7 (.iload_n 2) 1 8 := ⟨by decide +kernel, rfl⟩
theorem dX5_run_8 : Dk kX5_run 8 (.bipush 10) 2 10 := ⟨by decide +kernel, rfl⟩
theorem dX5_run_10 : Dk kX5_run 10 (.invokestatic 170) 3 13 := ⟨by decide +kernel, rfl⟩
theorem dX5_run_13 : Dk kX5_run 13 (.istore 4) 2 15 := ⟨by decide +kernel, rfl⟩
theorem dX5_run_15 : Dk kX5_run 15 (.iload_n 2) 1 16 := ⟨by decide +kernel, rfl⟩
theorem dX5_run_16 : Dk kX5_run 16 (.bipush 10) 2 18 := ⟨by decide +kernel, rfl⟩
theorem dX5_run_18 : Dk kX5_run 18 (.bipush 39) 2 20 := ⟨by decide +kernel, rfl⟩
theorem dX5_run_20 : Dk kX5_run 20 (.invokestatic 88) 3 23 := ⟨by decide +kernel, rfl⟩
theorem dX5_run_23 : Dj kX5_run 23 (fun o => .ifCond .eq o) 3 26 39 := ⟨16, by decide +kernel, rfl, by decide⟩
theorem dX5_run_26 : Dk kX5_run 26 (.aload_n 0) 1 27 := ⟨by decide +kernel, rfl⟩
theorem dX5_run_27 : Dk kX5_run 27 (.iload 4) 2 29 := ⟨by decide +kernel, rfl⟩
theorem dX5_run_29 : Dk kX5_run 29 (.invokevirtual 107) 3 32 := ⟨by decide +kernel, rfl⟩
theorem dX5_run_32 : Dj kX5_run 32 (fun o => .ifCond .eq o) 3 35 39 := ⟨7, by decide +kernel, rfl, by decide⟩
theorem dX5_run_35 : Dk kX5_run 35 (.iconst 1) 1 36 := ⟨by decide +kernel, rfl⟩
theorem dX5_run_36 : Dj kX5_run 36 (fun o => .goto o) 3 39 40 := ⟨4, by decide +kernel, rfl, by decide⟩
theorem dX5_run_39 : Dk kX5_run 39 (.iconst 0) 1 40 := ⟨by decide +kernel, rfl⟩
theorem dX5_run_40 : Dk kX5_run 40 (.istore 5) 2 42 := ⟨by decide +kernel, rfl⟩
theorem dX5_run_42 : Dk kX5_run 42 (.iload_n 1) 1 43 := ⟨by decide +kernel, rfl⟩
theorem dX5_run_43 : Dk kX5_run 43 (.iconst 0) 1 44 := ⟨by decide +kernel, rfl⟩
theorem dX5_run_44 : Dk kX5_run 44 (.bipush 60) 2 46 := ⟨by decide +kernel, rfl⟩
theorem dX5_run_46 : Dk kX5_run 46 (.invokestatic 88) 3 49 := ⟨by decide +kernel, rfl⟩
theorem dX5_run_49 : Dj kX5_run 49 (fun o => .ifCond .eq o) 3 52 61 := ⟨12, by decide +kernel, rfl, by decide⟩
theorem dX5_run_52 : Dk kX5_run 52 (.iload_n 3) 1 53 := ⟨by decide +kernel, rfl⟩
theorem dX5_run_53 : Dj kX5_run 53 (fun o => .ifCond .ne o) 3 56 64 := ⟨11, by decide +kernel, rfl, by decide⟩
theorem dX5_run_56 : Dk kX5_run 56 (.iload 5) 2 58 := ⟨by decide +kernel, rfl⟩
theorem dX5_run_58 : Dj kX5_run 58 (fun o => .ifCond .ne o) 3 61 64 := ⟨6, by decide +kernel, rfl, by decide⟩
theorem dX5_run_61 : Dk kX5_run 61 (.bipush (-2)) 2 63 := ⟨by decide +kernel, rfl⟩
theorem dX5_run_63 : Dk kX5_run 63 (.ireturn) 1 64 := ⟨by decide +kernel, rfl⟩
theorem dX5_run_64 : Dk kX5_run 64 (.aload_n 0) 1 65 := ⟨by decide +kernel, rfl⟩
theorem dX5_run_65 : Dk kX5_run 65 (.getfield 46) 3 68 := ⟨by decide +kernel, rfl⟩
theorem dX5_run_68 : Dk kX5_run 68 (.aload_n 0) 1 69 := ⟨by decide +kernel, rfl⟩
theorem dX5_run_69 : Dk kX5_run 69 (.getfield 42) 3 72 := ⟨by decide +kernel, rfl⟩
theorem dX5_run_72 : Dk kX5_run 72 (.invokevirtual 175) 3 75 := ⟨by decide +kernel, rfl⟩
theorem dX5_run_75 : Dk kX5_run 75 (.aload_n 0) 1 76 := ⟨by decide +kernel, rfl⟩
theorem dX5_run_76 : Dk kX5_run 76 (.iload_n 1) 1 77 := ⟨by decide +kernel, rfl⟩
theorem dX5_run_77 : Dk kX5_run 77 (.invokevirtual 179) 3 80 := ⟨by decide +kernel, rfl⟩
theorem dX5_run_80 : Dk kX5_run 80 (.iload_n 3) 1 81 := ⟨by decide +kernel, rfl⟩
theorem dX5_run_81 : Dj kX5_run 81 (fun o => .ifCond .eq o) 3 84 121 := ⟨40, by decide +kernel, rfl, by decide⟩
theorem dX5_run_84 : Dk kX5_run 84 (.iload_n 2) 1 85 := ⟨by decide +kernel, rfl⟩
theorem dX5_run_85 : Dj kX5_run 85 (fun o => .ifCond .ne o) 3 88 98 := ⟨13, by decide +kernel, rfl, by decide⟩
theorem dX5_run_88 : Dk kX5_run 88 (.aload_n 0) 1 89 := ⟨by decide +kernel, rfl⟩
theorem dX5_run_89 : Dk kX5_run 89 (.getfield 46) 3 92 := ⟨by decide +kernel, rfl⟩
theorem dX5_run_92 : Dk kX5_run 92 (.invokevirtual 72) 3 95 := ⟨by decide +kernel, rfl⟩
theorem dX5_run_95 : Dj kX5_run 95 (fun o => .goto o) 3 98 120 := ⟨25, by decide +kernel, rfl, by decide⟩
theorem dX5_run_98 : Dk kX5_run 98 (.iload_n 2) 1 99 := ⟨by decide +kernel, rfl⟩
theorem dX5_run_99 : Dk kX5_run 99 (.iconst 1) 1 100 := ⟨by decide +kernel, rfl⟩
theorem dX5_run_100 : Dj kX5_run 100 (fun o => .if_icmp .ne o) 3 103 113 := ⟨13, by decide +kernel, rfl, by decide⟩
theorem dX5_run_103 : Dk kX5_run 103 (.aload_n 0) 1 104 := ⟨by decide +kernel, rfl⟩
theorem dX5_run_104 : Dk kX5_run 104 (.getfield 46) 3 107 := ⟨by decide +kernel, rfl⟩
theorem dX5_run_107 : Dk kX5_run 107 (.invokevirtual 182) 3 110 := ⟨by decide +kernel, rfl⟩
theorem dX5_run_110 : Dj kX5_run 110 (fun o => .goto o) 3 113 120 := ⟨10, by decide +kernel, rfl, by decide⟩
theorem dX5_run_113 : Dk kX5_run 113 (.aload_n 0) 1 114 := ⟨by decide +kernel, rfl⟩
theorem dX5_run_114 : Dk kX5_run 114 (.getfield 46) 3 117 := ⟨by decide +kernel, rfl⟩
theorem dX5_run_117 : Dk kX5_run 117 (.invokevirtual 185) 3 120 := ⟨by decide +kernel, rfl⟩
theorem dX5_run_120 : Dk kX5_run 120 (.ireturn) 1 121 := ⟨by decide +kernel, rfl⟩
theorem dX5_run_121 : Dk kX5_run 121 (.iload_n 2) 1 122 := ⟨by decide +kernel, rfl⟩
theorem dX5_run_122 : Dk kX5_run 122 (.bipush 20) 2 124 := ⟨by decide +kernel, rfl⟩
theorem dX5_run_124 : Dj kX5_run 124 (fun o => .if_icmp .ge o) 3 127 140 := ⟨16, by decide +kernel, rfl, by decide⟩
theorem dX5_run_127 : Dk kX5_run 127 (.aload_n 0) 1 128 := ⟨by decide +kernel, rfl⟩
theorem dX5_run_128 : Dk kX5_run 128 (.getfield 46) 3 131 := ⟨by decide +kernel, rfl⟩
theorem dX5_run_131 : Dk kX5_run 131 (.getfield 137) 3 134 := ⟨by decide +kernel, rfl⟩
theorem dX5_run_134 : Dk kX5_run 134 (.iload 4) 2 136 := ⟨by decide +kernel, rfl⟩
theorem dX5_run_136 : Dk kX5_run 136 (.iaload) 1 137 := ⟨by decide +kernel, rfl⟩
theorem dX5_run_137 : Dj kX5_run 137 (fun o => .goto o) 3 140 169 := ⟨32, by decide +kernel, rfl, by decide⟩
theorem dX5_run_140 : Dk kX5_run 140 (.iload_n 2) 1 141 := ⟨by decide +kernel, rfl⟩
theorem dX5_run_141 : Dk kX5_run 141 (.bipush 30) 2 143 := ⟨by decide +kernel, rfl⟩
theorem dX5_run_143 : Dj kX5_run 143 (fun o => .if_icmp .ge o) 3 146 159 := ⟨16, by decide +kernel, rfl, by decide⟩
theorem dX5_run_146 : Dk kX5_run 146 (.aload_n 0) 1 147 := ⟨by decide +kernel, rfl⟩
theorem dX5_run_147 : Dk kX5_run 147 (.getfield 46) 3 150 := ⟨by decide +kernel, rfl⟩
theorem dX5_run_150 : Dk kX5_run 150 (.getfield 140) 3 153 := ⟨by decide +kernel, rfl⟩
theorem dX5_run_153 : Dk kX5_run 153 (.iload 4) 2 155 := ⟨by decide +kernel, rfl⟩
theorem dX5_run_155 : Dk kX5_run 155 (.iaload) 1 156 := ⟨by decide +kernel, rfl⟩
theorem dX5_run_156 : Dj kX5_run 156 (fun o => .goto o) 3 159 169 := ⟨13, by decide +kernel, rfl, by decide⟩
theorem dX5_run_159 : Dk kX5_run 159 (.aload_n 0) 1 160 := ⟨by decide +kernel, rfl⟩
theorem dX5_run_160 : Dk kX5_run 160 (.getfield 46) 3 163 := ⟨by decide +kernel, rfl⟩
theorem dX5_run_163 : Dk kX5_run 163 (.getfield 143) 3 166 := ⟨by decide +kernel, rfl⟩
theorem dX5_run_166 : Dk kX5_run 166 (.iload 4) 2 168 := ⟨by decide +kernel, rfl⟩
theorem dX5_run_168 : Dk kX5_run 168 (.iaload) 1 169 := ⟨by decide +kernel, rfl⟩
theorem dX5_run_169 : Dk kX5_run 169 (.ireturn) 1 170 := ⟨by decide +kernel, rfl⟩
theorem dX5_when_0 : Dk kX5_when 0 (.iload_n 1) 1 1 := ⟨by decide +kernel, rfl⟩
theorem dX5_when_1 : Dk kX5_when 1 (.iconst 0) 1 2 := ⟨by decide +kernel, rfl⟩
theorem dX5_when_2 : Dk kX5_when 2 (.bipush 9) 2 4 := ⟨by decide +kernel, rfl⟩
theorem dX5_when_4 : Dk kX5_when 4 (.invokestatic 88) 3 7 := ⟨by decide +kernel, rfl⟩
theorem dX5_when_7 : Dj kX5_when 7 (fun o => .ifCond .ne o) 3 10 13 := ⟨6, by decide +kernel, rfl, by decide⟩
theorem dX5_when_10 : Dk kX5_when 10 (.bipush (-7)) 2 12 := ⟨by decide +kernel, rfl⟩
theorem dX5_when_12 : Dk kX5_when 12 (.ireturn) 1 13 := ⟨by decide +kernel, rfl⟩
theorem dX5_when_13 : Dk kX5_when 13 (.aload_n 0) 1 14 := ⟨by decide +kernel, rfl⟩
theorem dX5_when_14 : Dk kX5_when 14 (.getfield 46) 3 17 := ⟨by decide +kernel, rfl⟩
theorem dX5_when_17 : Dk kX5_when 17 (.aload_n 0) 1 18 := ⟨by decide +kernel, rfl⟩
theorem dX5_when_18 : Dk kX5_when 18 (.getfield 42) 3 21 := ⟨by decide +kernel, rfl⟩
theorem dX5_when_21 : Dk kX5_when 21 (.invokevirtual 175) 3 24 := ⟨by decide +kernel, rfl⟩
theorem dX5_when_24 : Dk kX5_when 24 (.iconst 0) 1 25 := ⟨by decide +kernel, rfl⟩
theorem dX5_when_25 : Dk kX5_when 25 (.istore_n 2) 1 26 := ⟨by decide +kernel, rfl⟩
theorem dX5_when_26 : Dk kX5_when 26 (.iload_n 2) 1 27 := ⟨by decide +kernel, rfl⟩
theorem dX5_when_27 : Dk kX5_when 27 (.bipush 60) 2 29 := ⟨by decide +kernel, rfl⟩
theorem dX5_when_29 : Dj kX5_when 29 (fun o => .if_icmp .gt o) 3 32 59 := ⟨30, by decide +kernel, rfl, by decide⟩
theorem dX5_when_32 : Dk kX5_when 32 (.aload_n 0) 1 33 := ⟨by decide +kernel, rfl⟩
theorem dX5_when_33 : Dk kX5_when 33 (.getfield 46) 3 36 := ⟨by decide +kernel, rfl⟩
theorem dX5_when_36 : Dk kX5_when 36 (.iload_n 1) 1 37 := ⟨by decide +kernel, rfl⟩
theorem dX5_when_37 : Dk kX5_when 37 (.invokevirtual 188) 3 40 := ⟨by decide +kernel, rfl⟩
theorem dX5_when_40 : Dj kX5_when 40 (fun o => .ifCond .eq o) 3 43 45 := ⟨5, by decide +kernel, rfl, by decide⟩
theorem dX5_when_43 : Dk kX5_when 43 (.iload_n 2) 1 44 := ⟨by decide +kernel, rfl⟩
theorem dX5_when_44 : Dk kX5_when 44 (.ireturn) 1 45 := ⟨by decide +kernel, rfl⟩
theorem dX5_when_45 : Dk kX5_when 45 (.aload_n 0) 1 46 := ⟨by decide +kernel, rfl⟩
theorem dX5_when_46 : Dk kX5_when 46 (.getfield 46) 3 49 := ⟨by decide +kernel, rfl⟩
theorem dX5_when_49 : Dk kX5_when 49 (.invokevirtual 167) 3 52 := ⟨by decide +kernel, rfl⟩
theorem dX5_when_52 : Dk kX5_when 52 (.pop) 1 53 := ⟨by decide +kernel, rfl⟩
theorem dX5_when_53 : Dk kX5_when 53 (.iinc 2 1) 3 56 := ⟨by decide +kernel, rfl⟩
theorem dX5_when_56 : Dj kX5_when 56 (fun o => .goto o) 3 59 26 := ⟨-30, by decide +kernel, rfl, by decide⟩
theorem dX5_when_59 : Dk kX5_when 59 (.iconst (-1)) 1 60 := ⟨by decide +kernel, rfl⟩
theorem dX5_when_60 : Dk kX5_when 60 (.ireturn) 1 61 := ⟨by decide +kernel, rfl⟩
theorem dX5_waits_0 : Dk kX5_waits 0 (.aload_n 0) 1 1 := ⟨by decide +kernel, rfl⟩
theorem dX5_waits_1 : Dk kX5_waits 1 (.iload_n 1) 1 2 := ⟨by decide +kernel, rfl⟩
theorem dX5_waits_2 : Dk kX5_waits 2 (.invokevirtual 107) 3 5 := ⟨by decide +kernel, rfl⟩
theorem dX5_waits_5 : Dj kX5_waits 5 (fun o => .ifCond .ne o) 3 8 11 := ⟨6, by decide +kernel, rfl, by decide⟩
theorem dX5_waits_8 : Dk kX5_waits 8 (.bipush (-5)) 2 10 := ⟨by decide +kernel, rfl⟩
theorem dX5_waits_10 : Dk kX5_waits 10 (.ireturn) 1 11 := ⟨by decide +kernel, rfl⟩
theorem dX5_waits_11 : Dk kX5_waits 11 (.aload_n 0) 1 12 := ⟨by decide +kernel, rfl⟩
theorem dX5_waits_12 : Dk kX5_waits 12 (.getfield 46) 3 15 := ⟨by decide +kernel, rfl⟩
theorem dX5_waits_15 : Dk kX5_waits 15 (.aload_n 0) 1 16 := ⟨by decide +kernel, rfl⟩
theorem dX5_waits_16 : Dk kX5_waits 16 (.getfield 42) 3 19 := ⟨by decide +kernel, rfl⟩
theorem dX5_waits_19 : Dk kX5_waits 19 (.invokevirtual 175) 3 22 := ⟨by decide +kernel, rfl⟩
theorem dX5_waits_22 : Dk kX5_waits 22 (.iconst 1) 1 23 := ⟨by decide +kernel, rfl⟩
theorem dX5_waits_23 : Dk kX5_waits 23 (.istore_n 2) 1 24 := ⟨by decide +kernel, rfl⟩
theorem dX5_waits_24 : Dk kX5_waits 24 (.iload_n 2) 1 25 := ⟨by decide +kernel, rfl⟩
theorem dX5_waits_25 : Dk kX5_waits 25 (.bipush 60) 2 27 := ⟨by decide +kernel, rfl⟩
theorem dX5_waits_27 : Dj kX5_waits 27 (fun o => .if_icmp .gt o) 3 30 52 := ⟨25, by decide +kernel, rfl, by decide⟩
theorem dX5_waits_30 : Dk kX5_waits 30 (.aload_n 0) 1 31 := ⟨by decide +kernel, rfl⟩
theorem dX5_waits_31 : Dk kX5_waits 31 (.getfield 46) 3 34 := ⟨by decide +kernel, rfl⟩
theorem dX5_waits_34 : Dk kX5_waits 34 (.invokevirtual 167) 3 37 := ⟨by decide +kernel, rfl⟩
theorem dX5_waits_37 : Dk kX5_waits 37 (.iload_n 1) 1 38 := ⟨by decide +kernel, rfl⟩
theorem dX5_waits_38 : Dk kX5_waits 38 (.invokestatic 191) 3 41 := ⟨by decide +kernel, rfl⟩
theorem dX5_waits_41 : Dj kX5_waits 41 (fun o => .ifCond .eq o) 3 44 46 := ⟨5, by decide +kernel, rfl, by decide⟩
theorem dX5_waits_44 : Dk kX5_waits 44 (.iload_n 2) 1 45 := ⟨by decide +kernel, rfl⟩
theorem dX5_waits_45 : Dk kX5_waits 45 (.ireturn) 1 46 := ⟨by decide +kernel, rfl⟩
theorem dX5_waits_46 : Dk kX5_waits 46 (.iinc 2 1) 3 49 := ⟨by decide +kernel, rfl⟩
theorem dX5_waits_49 : Dj kX5_waits 49 (fun o => .goto o) 3 52 24 := ⟨-25, by decide +kernel, rfl, by decide⟩
theorem dX5_waits_52 : Dk kX5_waits 52 (.iconst (-1)) 1 53 := ⟨by decide +kernel, rfl⟩
theorem dX5_waits_53 : Dk kX5_waits 53 (.ireturn) 1 54 := ⟨by decide +kernel, rfl⟩
theorem dX5_pair_0 : Dk kX5_pair 0 (.iload_n 1) 1 1 := ⟨by decide +kernel, rfl⟩
theorem dX5_pair_1 : Dk kX5_pair 1 (.iconst 0) 1 2 := ⟨by decide +kernel, rfl⟩
theorem dX5_pair_2 : Dk kX5_pair 2 (.iconst 1) 1 3 := ⟨by decide +kernel, rfl⟩
theorem dX5_pair_3 : Dk kX5_pair 3 (.invokestatic 88) 3 6 := ⟨by decide +kernel, rfl⟩
theorem dX5_pair_6 : Dj kX5_pair 6 (fun o => .ifCond .ne o) 3 9 12 := ⟨6, by decide +kernel, rfl, by decide⟩
theorem dX5_pair_9 : Dk kX5_pair 9 (.bipush (-2)) 2 11 := ⟨by decide +kernel, rfl⟩
theorem dX5_pair_11 : Dk kX5_pair 11 (.ireturn) 1 12 := ⟨by decide +kernel, rfl⟩
theorem dX5_pair_12 : Dk kX5_pair 12 (.iconst (-1)) 1 13 := ⟨by decide +kernel, rfl⟩
theorem dX5_pair_13 : Dk kX5_pair 13 (.istore_n 2) 1 14 := ⟨by decide +kernel, rfl⟩
theorem dX5_pair_14 : Dk kX5_pair 14 (.iconst (-1)) 1 15 := ⟨by decide +kernel, rfl⟩
theorem dX5_pair_15 : Dk kX5_pair 15 (.istore_n 3) 1 16 := ⟨by decide +kernel, rfl⟩
theorem dX5_pair_16 : Dk kX5_pair 16 (.iconst 0) 1 17 := ⟨by decide +kernel, rfl⟩
theorem dX5_pair_17 : Dk kX5_pair 17 (.istore 4) 2 19 := ⟨by decide +kernel, rfl⟩
theorem dX5_pair_19 : Dk kX5_pair 19 (.iload 4) 2 21 := ⟨by decide +kernel, rfl⟩
theorem dX5_pair_21 : Dk kX5_pair 21 (.aload_n 0) 1 22 := ⟨by decide +kernel, rfl⟩
theorem dX5_pair_22 : Dk kX5_pair 22 (.getfield 42) 3 25 := ⟨by decide +kernel, rfl⟩
theorem dX5_pair_25 : Dk kX5_pair 25 (.getfield 66) 3 28 := ⟨by decide +kernel, rfl⟩
theorem dX5_pair_28 : Dj kX5_pair 28 (fun o => .if_icmp .ge o) 3 31 121 := ⟨93, by decide +kernel, rfl, by decide⟩
theorem dX5_pair_31 : Dk kX5_pair 31 (.iconst 0) 1 32 := ⟨by decide +kernel, rfl⟩
theorem dX5_pair_32 : Dk kX5_pair 32 (.istore 5) 2 34 := ⟨by decide +kernel, rfl⟩
theorem dX5_pair_34 : Dk kX5_pair 34 (.iload 5) 2 36 := ⟨by decide +kernel, rfl⟩
theorem dX5_pair_36 : Dk kX5_pair 36 (.aload_n 0) 1 37 := ⟨by decide +kernel, rfl⟩
theorem dX5_pair_37 : Dk kX5_pair 37 (.getfield 42) 3 40 := ⟨by decide +kernel, rfl⟩
theorem dX5_pair_40 : Dk kX5_pair 40 (.getfield 66) 3 43 := ⟨by decide +kernel, rfl⟩
theorem dX5_pair_43 : Dj kX5_pair 43 (fun o => .if_icmp .ge o) 3 46 115 := ⟨72, by decide +kernel, rfl, by decide⟩
theorem dX5_pair_46 : Dk kX5_pair 46 (.iconst 0) 1 47 := ⟨by decide +kernel, rfl⟩
theorem dX5_pair_47 : Dk kX5_pair 47 (.istore 6) 2 49 := ⟨by decide +kernel, rfl⟩
theorem dX5_pair_49 : Dk kX5_pair 49 (.iload 6) 2 51 := ⟨by decide +kernel, rfl⟩
theorem dX5_pair_51 : Dk kX5_pair 51 (.bipush 8) 2 53 := ⟨by decide +kernel, rfl⟩
theorem dX5_pair_53 : Dj kX5_pair 53 (fun o => .if_icmp .ge o) 3 56 109 := ⟨56, by decide +kernel, rfl, by decide⟩
theorem dX5_pair_56 : Dk kX5_pair 56 (.iload 4) 2 58 := ⟨by decide +kernel, rfl⟩
theorem dX5_pair_58 : Dk kX5_pair 58 (.iload 5) 2 60 := ⟨by decide +kernel, rfl⟩
theorem dX5_pair_60 : Dj kX5_pair 60 (fun o => .if_icmp .ne o) 3 63 67 := ⟨7, by decide +kernel, rfl, by decide⟩
theorem dX5_pair_63 : Dk kX5_pair 63 (.iconst (-1)) 1 64 := ⟨by decide +kernel, rfl⟩
theorem dX5_pair_64 : Dj kX5_pair 64 (fun o => .goto o) 3 67 77 := ⟨13, by decide +kernel, rfl, by decide⟩
theorem dX5_pair_67 : Dk kX5_pair 67 (.aload_n 0) 1 68 := ⟨by decide +kernel, rfl⟩
theorem dX5_pair_68 : Dk kX5_pair 68 (.iload 4) 2 70 := ⟨by decide +kernel, rfl⟩
theorem dX5_pair_70 : Dk kX5_pair 70 (.iload 5) 2 72 := ⟨by decide +kernel, rfl⟩
theorem dX5_pair_72 : Dk kX5_pair 72 (.iload 6) 2 74 := ⟨by decide +kernel, rfl⟩
theorem dX5_pair_74 : Dk kX5_pair 74 (.invokevirtual 195) 3 77 := ⟨by decide +kernel, rfl⟩
theorem dX5_pair_77 : Dk kX5_pair 77 (.istore 7) 2 79 := ⟨by decide +kernel, rfl⟩
theorem dX5_pair_79 : Dk kX5_pair 79 (.iload 7) 2 81 := ⟨by decide +kernel, rfl⟩
theorem dX5_pair_81 : Dk kX5_pair 81 (.iload_n 3) 1 82 := ⟨by decide +kernel, rfl⟩
theorem dX5_pair_82 : Dj kX5_pair 82 (fun o => .if_icmp .le o) 3 85 103 := ⟨21, by decide +kernel, rfl, by decide⟩
theorem dX5_pair_85 : Dk kX5_pair 85 (.iload 7) 2 87 := ⟨by decide +kernel, rfl⟩
theorem dX5_pair_87 : Dk kX5_pair 87 (.istore_n 3) 1 88 := ⟨by decide +kernel, rfl⟩
theorem dX5_pair_88 : Dk kX5_pair 88 (.bipush 100) 2 90 := ⟨by decide +kernel, rfl⟩
theorem dX5_pair_90 : Dk kX5_pair 90 (.iload 4) 2 92 := ⟨by decide +kernel, rfl⟩
theorem dX5_pair_92 : Dk kX5_pair 92 (.imul) 1 93 := ⟨by decide +kernel, rfl⟩
theorem dX5_pair_93 : Dk kX5_pair 93 (.bipush 10) 2 95 := ⟨by decide +kernel, rfl⟩
theorem dX5_pair_95 : Dk kX5_pair 95 (.iload 5) 2 97 := ⟨by decide +kernel, rfl⟩
theorem dX5_pair_97 : Dk kX5_pair 97 (.imul) 1 98 := ⟨by decide +kernel, rfl⟩
theorem dX5_pair_98 : Dk kX5_pair 98 (.iadd) 1 99 := ⟨by decide +kernel, rfl⟩
theorem dX5_pair_99 : Dk kX5_pair 99 (.iload 6) 2 101 := ⟨by decide +kernel, rfl⟩
theorem dX5_pair_101 : Dk kX5_pair 101 (.iadd) 1 102 := ⟨by decide +kernel, rfl⟩
theorem dX5_pair_102 : Dk kX5_pair 102 (.istore_n 2) 1 103 := ⟨by decide +kernel, rfl⟩
theorem dX5_pair_103 : Dk kX5_pair 103 (.iinc 6 1) 3 106 := ⟨by decide +kernel, rfl⟩
theorem dX5_pair_106 : Dj kX5_pair 106 (fun o => .goto o) 3 109 49 := ⟨-57, by decide +kernel, rfl, by decide⟩
theorem dX5_pair_109 : Dk kX5_pair 109 (.iinc 5 1) 3 112 := ⟨by decide +kernel, rfl⟩
theorem dX5_pair_112 : Dj kX5_pair 112 (fun o => .goto o) 3 115 34 := ⟨-78, by decide +kernel, rfl, by decide⟩
theorem dX5_pair_115 : Dk kX5_pair 115 (.iinc 4 1) 3 118 := ⟨by decide +kernel, rfl⟩
theorem dX5_pair_118 : Dj kX5_pair 118 (fun o => .goto o) 3 121 19 := ⟨-99, by decide +kernel, rfl, by decide⟩
theorem dX5_pair_121 : Dk kX5_pair 121 (.iload_n 1) 1 122 := ⟨by decide +kernel, rfl⟩
theorem dX5_pair_122 : Dj kX5_pair 122 (fun o => .ifCond .ne o) 3 125 129 := ⟨7, by decide +kernel, rfl, by decide⟩
theorem dX5_pair_125 : Dk kX5_pair 125 (.iload_n 2) 1 126 := ⟨by decide +kernel, rfl⟩
theorem dX5_pair_126 : Dj kX5_pair 126 (fun o => .goto o) 3 129 130 := ⟨4, by decide +kernel, rfl, by decide⟩
theorem dX5_pair_129 : Dk kX5_pair 129 (.iload_n 3) 1 130 := ⟨by decide +kernel, rfl⟩
theorem dX5_pair_130 : Dk kX5_pair 130 (.ireturn) 1 131 := ⟨by decide +kernel, rfl⟩
theorem dX5_eggsOfSecond_0 : Dk kX5_eggsOfSecond 0 (.aload_n 0) 1 1 := ⟨by decide +kernel, rfl⟩
theorem dX5_eggsOfSecond_1 : Dk kX5_eggsOfSecond 1 (.getfield 46) 3 4 := ⟨by decide +kernel, rfl⟩
theorem dX5_eggsOfSecond_4 : Dk kX5_eggsOfSecond 4 (.aload_n 0) 1 5 := ⟨by decide +kernel, rfl⟩
theorem dX5_eggsOfSecond_5 : Dk kX5_eggsOfSecond 5 (.getfield 42) 3 8 := ⟨by decide +kernel, rfl⟩
theorem dX5_eggsOfSecond_8 : Dk kX5_eggsOfSecond 8 (.invokevirtual 175) 3 11 := ⟨by decide +kernel, rfl⟩
theorem dX5_eggsOfSecond_11 : Dk kX5_eggsOfSecond 11 (.aload_n 0) 1 12 := ⟨by decide +kernel, rfl⟩
theorem dX5_eggsOfSecond_12 : Dk kX5_eggsOfSecond 12 (.getfield 46) 3 15 := ⟨by decide +kernel, rfl⟩
theorem dX5_eggsOfSecond_15 : Dk kX5_eggsOfSecond 15 (.iload_n 1) 1 16 := ⟨by decide +kernel, rfl⟩
theorem dX5_eggsOfSecond_16 : Dk kX5_eggsOfSecond 16 (.iload_n 3) 1 17 := ⟨by decide +kernel, rfl⟩
theorem dX5_eggsOfSecond_17 : Dk kX5_eggsOfSecond 17 (.invokevirtual 164) 3 20 := ⟨by decide +kernel, rfl⟩
theorem dX5_eggsOfSecond_20 : Dk kX5_eggsOfSecond 20 (.pop) 1 21 := ⟨by decide +kernel, rfl⟩
theorem dX5_eggsOfSecond_21 : Dk kX5_eggsOfSecond 21 (.aload_n 0) 1 22 := ⟨by decide +kernel, rfl⟩
theorem dX5_eggsOfSecond_22 : Dk kX5_eggsOfSecond 22 (.getfield 46) 3 25 := ⟨by decide +kernel, rfl⟩
theorem dX5_eggsOfSecond_25 : Dk kX5_eggsOfSecond 25 (.iload_n 2) 1 26 := ⟨by decide +kernel, rfl⟩
theorem dX5_eggsOfSecond_26 : Dk kX5_eggsOfSecond 26 (.iload_n 3) 1 27 := ⟨by decide +kernel, rfl⟩
theorem dX5_eggsOfSecond_27 : Dk kX5_eggsOfSecond 27 (.invokevirtual 164) 3 30 := ⟨by decide +kernel, rfl⟩
theorem dX5_eggsOfSecond_30 : Dk kX5_eggsOfSecond 30 (.pop) 1 31 := ⟨by decide +kernel, rfl⟩
theorem dX5_eggsOfSecond_31 : Dk kX5_eggsOfSecond 31 (.aload_n 0) 1 32 := ⟨by decide +kernel, rfl⟩
theorem dX5_eggsOfSecond_32 : Dk kX5_eggsOfSecond 32 (.getfield 46) 3 35 := ⟨by decide +kernel, rfl⟩
theorem dX5_eggsOfSecond_35 : Dk kX5_eggsOfSecond 35 (.getfield 140) 3 38 := ⟨by decide +kernel, rfl⟩
theorem dX5_eggsOfSecond_38 : Dk kX5_eggsOfSecond 38 (.iload_n 2) 1 39 := ⟨by decide +kernel, rfl⟩
theorem dX5_eggsOfSecond_39 : Dk kX5_eggsOfSecond 39 (.iaload) 1 40 := ⟨by decide +kernel, rfl⟩
theorem dX5_eggsOfSecond_40 : Dk kX5_eggsOfSecond 40 (.ireturn) 1 41 := ⟨by decide +kernel, rfl⟩
theorem dX5_stand_0 : Dk kX5_stand 0 (.aload_n 0) 1 1 := ⟨by decide +kernel, rfl⟩
theorem dX5_stand_1 : Dk kX5_stand 1 (.iload_n 1) 1 2 := ⟨by decide +kernel, rfl⟩
theorem dX5_stand_2 : Dk kX5_stand 2 (.invokevirtual 107) 3 5 := ⟨by decide +kernel, rfl⟩
theorem dX5_stand_5 : Dj kX5_stand 5 (fun o => .ifCond .ne o) 3 8 11 := ⟨6, by decide +kernel, rfl, by decide⟩
theorem dX5_stand_8 : Dk kX5_stand 8 (.bipush (-5)) 2 10 := ⟨by decide +kernel, rfl⟩
theorem dX5_stand_10 : Dk kX5_stand 10 (.ireturn) 1 11 := ⟨by decide +kernel, rfl⟩
theorem dX5_stand_11 : Dk kX5_stand 11 (.iload_n 2) 1 12 := ⟨by decide +kernel, rfl⟩
theorem dX5_stand_12 : Dk kX5_stand 12 (.iconst 0) 1 13 := ⟨by decide +kernel, rfl⟩
theorem dX5_stand_13 : Dk kX5_stand 13 (.bipush 40) 2 15 := ⟨by decide +kernel, rfl⟩
theorem dX5_stand_15 : Dk kX5_stand 15 (.invokestatic 88) 3 18 := ⟨by decide +kernel, rfl⟩
theorem dX5_stand_18 : Dj kX5_stand 18 (fun o => .ifCond .eq o) 3 21 30 := ⟨12, by decide +kernel, rfl, by decide⟩
theorem dX5_stand_21 : Dk kX5_stand 21 (.iload_n 3) 1 22 := ⟨by decide +kernel, rfl⟩
theorem dX5_stand_22 : Dk kX5_stand 22 (.iconst 0) 1 23 := ⟨by decide +kernel, rfl⟩
theorem dX5_stand_23 : Dk kX5_stand 23 (.iconst 1) 1 24 := ⟨by decide +kernel, rfl⟩
theorem dX5_stand_24 : Dk kX5_stand 24 (.invokestatic 88) 3 27 := ⟨by decide +kernel, rfl⟩
theorem dX5_stand_27 : Dj kX5_stand 27 (fun o => .ifCond .ne o) 3 30 33 := ⟨6, by decide +kernel, rfl, by decide⟩
theorem dX5_stand_30 : Dk kX5_stand 30 (.bipush (-7)) 2 32 := ⟨by decide +kernel, rfl⟩
theorem dX5_stand_32 : Dk kX5_stand 32 (.ireturn) 1 33 := ⟨by decide +kernel, rfl⟩
theorem dX5_stand_33 : Dk kX5_stand 33 (.iconst (-1)) 1 34 := ⟨by decide +kernel, rfl⟩
theorem dX5_stand_34 : Dk kX5_stand 34 (.istore 4) 2 36 := ⟨by decide +kernel, rfl⟩
theorem dX5_stand_36 : Dk kX5_stand 36 (.iconst (-1)) 1 37 := ⟨by decide +kernel, rfl⟩
theorem dX5_stand_37 : Dk kX5_stand 37 (.istore 5) 2 39 := ⟨by decide +kernel, rfl⟩
theorem dX5_stand_39 : Dk kX5_stand 39 (.iconst 0) 1 40 := ⟨by decide +kernel, rfl⟩
theorem dX5_stand_40 : Dk kX5_stand 40 (.istore 6) 2 42 := ⟨by decide +kernel, rfl⟩
theorem dX5_stand_42 : Dk kX5_stand 42 (.iload 6) 2 44 := ⟨by decide +kernel, rfl⟩
theorem dX5_stand_44 : Dk kX5_stand 44 (.bipush 8) 2 46 := ⟨by decide +kernel, rfl⟩
theorem dX5_stand_46 : Dj kX5_stand 46 (fun o => .if_icmp .ge o) 3 49 111 := ⟨65, by decide +kernel, rfl, by decide⟩
theorem dX5_stand_49 : Dk kX5_stand 49 (.aload_n 0) 1 50 := ⟨by decide +kernel, rfl⟩
theorem dX5_stand_50 : Dk kX5_stand 50 (.getfield 46) 3 53 := ⟨by decide +kernel, rfl⟩
theorem dX5_stand_53 : Dk kX5_stand 53 (.aload_n 0) 1 54 := ⟨by decide +kernel, rfl⟩
theorem dX5_stand_54 : Dk kX5_stand 54 (.getfield 42) 3 57 := ⟨by decide +kernel, rfl⟩
theorem dX5_stand_57 : Dk kX5_stand 57 (.invokevirtual 175) 3 60 := ⟨by decide +kernel, rfl⟩
theorem dX5_stand_60 : Dk kX5_stand 60 (.aload_n 0) 1 61 := ⟨by decide +kernel, rfl⟩
theorem dX5_stand_61 : Dk kX5_stand 61 (.getfield 46) 3 64 := ⟨by decide +kernel, rfl⟩
theorem dX5_stand_64 : Dk kX5_stand 64 (.getfield 137) 3 67 := ⟨by decide +kernel, rfl⟩
theorem dX5_stand_67 : Dk kX5_stand 67 (.iload_n 1) 1 68 := ⟨by decide +kernel, rfl⟩
theorem dX5_stand_68 : Dk kX5_stand 68 (.iload 6) 2 70 := ⟨by decide +kernel, rfl⟩
theorem dX5_stand_70 : Dk kX5_stand 70 (.iastore) 1 71 := ⟨by decide +kernel, rfl⟩
theorem dX5_stand_71 : Dk kX5_stand 71 (.aload_n 0) 1 72 := ⟨by decide +kernel, rfl⟩
theorem dX5_stand_72 : Dk kX5_stand 72 (.iload_n 2) 1 73 := ⟨by decide +kernel, rfl⟩
theorem dX5_stand_73 : Dk kX5_stand 73 (.invokevirtual 179) 3 76 := ⟨by decide +kernel, rfl⟩
theorem dX5_stand_76 : Dk kX5_stand 76 (.aload_n 0) 1 77 := ⟨by decide +kernel, rfl⟩
theorem dX5_stand_77 : Dk kX5_stand 77 (.getfield 46) 3 80 := ⟨by decide +kernel, rfl⟩
theorem dX5_stand_80 : Dk kX5_stand 80 (.getfield 140) 3 83 := ⟨by decide +kernel, rfl⟩
theorem dX5_stand_83 : Dk kX5_stand 83 (.iload_n 1) 1 84 := ⟨by decide +kernel, rfl⟩
theorem dX5_stand_84 : Dk kX5_stand 84 (.iaload) 1 85 := ⟨by decide +kernel, rfl⟩
theorem dX5_stand_85 : Dk kX5_stand 85 (.iload 5) 2 87 := ⟨by decide +kernel, rfl⟩
theorem dX5_stand_87 : Dj kX5_stand 87 (fun o => .if_icmp .le o) 3 90 105 := ⟨18, by decide +kernel, rfl, by decide⟩
theorem dX5_stand_90 : Dk kX5_stand 90 (.aload_n 0) 1 91 := ⟨by decide +kernel, rfl⟩
theorem dX5_stand_91 : Dk kX5_stand 91 (.getfield 46) 3 94 := ⟨by decide +kernel, rfl⟩
theorem dX5_stand_94 : Dk kX5_stand 94 (.getfield 140) 3 97 := ⟨by decide +kernel, rfl⟩
theorem dX5_stand_97 : Dk kX5_stand 97 (.iload_n 1) 1 98 := ⟨by decide +kernel, rfl⟩
theorem dX5_stand_98 : Dk kX5_stand 98 (.iaload) 1 99 := ⟨by decide +kernel, rfl⟩
theorem dX5_stand_99 : Dk kX5_stand 99 (.istore 5) 2 101 := ⟨by decide +kernel, rfl⟩
theorem dX5_stand_101 : Dk kX5_stand 101 (.iload 6) 2 103 := ⟨by decide +kernel, rfl⟩
theorem dX5_stand_103 : Dk kX5_stand 103 (.istore 4) 2 105 := ⟨by decide +kernel, rfl⟩
theorem dX5_stand_105 : Dk kX5_stand 105 (.iinc 6 1) 3 108 := ⟨by decide +kernel, rfl⟩
theorem dX5_stand_108 : Dj kX5_stand 108 (fun o => .goto o) 3 111 42 := ⟨-66, by decide +kernel, rfl, by decide⟩
theorem dX5_stand_111 : Dk kX5_stand 111 (.iload_n 3) 1 112 := ⟨by decide +kernel, rfl⟩
theorem dX5_stand_112 : Dj kX5_stand 112 (fun o => .ifCond .ne o) 3 115 120 := ⟨8, by decide +kernel, rfl, by decide⟩
theorem dX5_stand_115 : Dk kX5_stand 115 (.iload 4) 2 117 := ⟨by decide +kernel, rfl⟩
theorem dX5_stand_117 : Dj kX5_stand 117 (fun o => .goto o) 3 120 122 := ⟨5, by decide +kernel, rfl, by decide⟩
theorem dX5_stand_120 : Dk kX5_stand 120 (.iload 5) 2 122 := ⟨by decide +kernel, rfl⟩
theorem dX5_stand_122 : Dk kX5_stand 122 (.ireturn) 1 123 := ⟨by decide +kernel, rfl⟩
theorem dX5_rounds_0 : Dk kX5_rounds 0 (.iload_n 1) 1 1 := ⟨by decide +kernel, rfl⟩
theorem dX5_rounds_1 : Dk kX5_rounds 1 (.iconst 0) 1 2 := ⟨by decide +kernel, rfl⟩
theorem dX5_rounds_2 : Dk kX5_rounds 2 (.bipush 40) 2 4 := ⟨by decide +kernel, rfl⟩
theorem dX5_rounds_4 : Dk kX5_rounds 4 (.invokestatic 88) 3 7 := ⟨by decide +kernel, rfl⟩
theorem dX5_rounds_7 : Dj kX5_rounds 7 (fun o => .ifCond .eq o) 3 10 19 := ⟨12, by decide +kernel, rfl, by decide⟩
theorem dX5_rounds_10 : Dk kX5_rounds 10 (.iload_n 2) 1 11 := ⟨by decide +kernel, rfl⟩
theorem dX5_rounds_11 : Dk kX5_rounds 11 (.iconst 0) 1 12 := ⟨by decide +kernel, rfl⟩
theorem dX5_rounds_12 : Dk kX5_rounds 12 (.iconst 1) 1 13 := ⟨by decide +kernel, rfl⟩
theorem dX5_rounds_13 : Dk kX5_rounds 13 (.invokestatic 88) 3 16 := ⟨by decide +kernel, rfl⟩
theorem dX5_rounds_16 : Dj kX5_rounds 16 (fun o => .ifCond .ne o) 3 19 22 := ⟨6, by decide +kernel, rfl, by decide⟩
theorem dX5_rounds_19 : Dk kX5_rounds 19 (.bipush (-2)) 2 21 := ⟨by decide +kernel, rfl⟩
theorem dX5_rounds_21 : Dk kX5_rounds 21 (.ireturn) 1 22 := ⟨by decide +kernel, rfl⟩
theorem dX5_rounds_22 : Dk kX5_rounds 22 (.aload_n 0) 1 23 := ⟨by decide +kernel, rfl⟩
theorem dX5_rounds_23 : Dk kX5_rounds 23 (.getfield 46) 3 26 := ⟨by decide +kernel, rfl⟩
theorem dX5_rounds_26 : Dk kX5_rounds 26 (.aload_n 0) 1 27 := ⟨by decide +kernel, rfl⟩
theorem dX5_rounds_27 : Dk kX5_rounds 27 (.getfield 42) 3 30 := ⟨by decide +kernel, rfl⟩
theorem dX5_rounds_30 : Dk kX5_rounds 30 (.invokevirtual 175) 3 33 := ⟨by decide +kernel, rfl⟩
theorem dX5_rounds_33 : Dk kX5_rounds 33 (.aload_n 0) 1 34 := ⟨by decide +kernel, rfl⟩
theorem dX5_rounds_34 : Dk kX5_rounds 34 (.iload_n 1) 1 35 := ⟨by decide +kernel, rfl⟩
theorem dX5_rounds_35 : Dk kX5_rounds 35 (.invokevirtual 179) 3 38 := ⟨by decide +kernel, rfl⟩
theorem dX5_rounds_38 : Dk kX5_rounds 38 (.iconst (-1)) 1 39 := ⟨by decide +kernel, rfl⟩
theorem dX5_rounds_39 : Dk kX5_rounds 39 (.istore_n 3) 1 40 := ⟨by decide +kernel, rfl⟩
theorem dX5_rounds_40 : Dk kX5_rounds 40 (.aload_n 0) 1 41 := ⟨by decide +kernel, rfl⟩
theorem dX5_rounds_41 : Dk kX5_rounds 41 (.getfield 46) 3 44 := ⟨by decide +kernel, rfl⟩
theorem dX5_rounds_44 : Dk kX5_rounds 44 (.invokevirtual 72) 3 47 := ⟨by decide +kernel, rfl⟩
theorem dX5_rounds_47 : Dk kX5_rounds 47 (.invokestatic 76) 3 50 := ⟨by decide +kernel, rfl⟩
theorem dX5_rounds_50 : Dk kX5_rounds 50 (.istore 4) 2 52 := ⟨by decide +kernel, rfl⟩
theorem dX5_rounds_52 : Dk kX5_rounds 52 (.iconst 0) 1 53 := ⟨by decide +kernel, rfl⟩
theorem dX5_rounds_53 : Dk kX5_rounds 53 (.istore 5) 2 55 := ⟨by decide +kernel, rfl⟩
theorem dX5_rounds_55 : Dk kX5_rounds 55 (.iload 5) 2 57 := ⟨by decide +kernel, rfl⟩
theorem dX5_rounds_57 : Dk kX5_rounds 57 (.aload_n 0) 1 58 := ⟨by decide +kernel, rfl⟩
theorem dX5_rounds_58 : Dk kX5_rounds 58 (.getfield 42) 3 61 := ⟨by decide +kernel, rfl⟩
theorem dX5_rounds_61 : Dk kX5_rounds 61 (.getfield 66) 3 64 := ⟨by decide +kernel, rfl⟩
theorem dX5_rounds_64 : Dj kX5_rounds 64 (fun o => .if_icmp .ge o) 3 67 143 := ⟨79, by decide +kernel, rfl, by decide⟩
theorem dX5_rounds_67 : Dk kX5_rounds 67 (.aload_n 0) 1 68 := ⟨by decide +kernel, rfl⟩
theorem dX5_rounds_68 : Dk kX5_rounds 68 (.getfield 46) 3 71 := ⟨by decide +kernel, rfl⟩
theorem dX5_rounds_71 : Dk kX5_rounds 71 (.aload_n 0) 1 72 := ⟨by decide +kernel, rfl⟩
theorem dX5_rounds_72 : Dk kX5_rounds 72 (.getfield 42) 3 75 := ⟨by decide +kernel, rfl⟩
theorem dX5_rounds_75 : Dk kX5_rounds 75 (.invokevirtual 175) 3 78 := ⟨by decide +kernel, rfl⟩
theorem dX5_rounds_78 : Dk kX5_rounds 78 (.iconst 0) 1 79 := ⟨by decide +kernel, rfl⟩
theorem dX5_rounds_79 : Dk kX5_rounds 79 (.istore 6) 2 81 := ⟨by decide +kernel, rfl⟩
theorem dX5_rounds_81 : Dk kX5_rounds 81 (.iload 6) 2 83 := ⟨by decide +kernel, rfl⟩
theorem dX5_rounds_83 : Dk kX5_rounds 83 (.bipush 8) 2 85 := ⟨by decide +kernel, rfl⟩
theorem dX5_rounds_85 : Dj kX5_rounds 85 (fun o => .if_icmp .ge o) 3 88 106 := ⟨21, by decide +kernel, rfl, by decide⟩
theorem dX5_rounds_88 : Dk kX5_rounds 88 (.aload_n 0) 1 89 := ⟨by decide +kernel, rfl⟩
theorem dX5_rounds_89 : Dk kX5_rounds 89 (.getfield 46) 3 92 := ⟨by decide +kernel, rfl⟩
theorem dX5_rounds_92 : Dk kX5_rounds 92 (.iload 5) 2 94 := ⟨by decide +kernel, rfl⟩
theorem dX5_rounds_94 : Dk kX5_rounds 94 (.iload 6) 2 96 := ⟨by decide +kernel, rfl⟩
theorem dX5_rounds_96 : Dk kX5_rounds 96 (.invokevirtual 164) 3 99 := ⟨by decide +kernel, rfl⟩
theorem dX5_rounds_99 : Dk kX5_rounds 99 (.pop) 1 100 := ⟨by decide +kernel, rfl⟩
theorem dX5_rounds_100 : Dk kX5_rounds 100 (.iinc 6 1) 3 103 := ⟨by decide +kernel, rfl⟩
theorem dX5_rounds_103 : Dj kX5_rounds 103 (fun o => .goto o) 3 106 81 := ⟨-22, by decide +kernel, rfl, by decide⟩
theorem dX5_rounds_106 : Dk kX5_rounds 106 (.aload_n 0) 1 107 := ⟨by decide +kernel, rfl⟩
theorem dX5_rounds_107 : Dk kX5_rounds 107 (.iload_n 1) 1 108 := ⟨by decide +kernel, rfl⟩
theorem dX5_rounds_108 : Dk kX5_rounds 108 (.invokevirtual 179) 3 111 := ⟨by decide +kernel, rfl⟩
theorem dX5_rounds_111 : Dk kX5_rounds 111 (.aload_n 0) 1 112 := ⟨by decide +kernel, rfl⟩
theorem dX5_rounds_112 : Dk kX5_rounds 112 (.getfield 46) 3 115 := ⟨by decide +kernel, rfl⟩
theorem dX5_rounds_115 : Dk kX5_rounds 115 (.invokevirtual 72) 3 118 := ⟨by decide +kernel, rfl⟩
theorem dX5_rounds_118 : Dk kX5_rounds 118 (.invokestatic 76) 3 121 := ⟨by decide +kernel, rfl⟩
theorem dX5_rounds_121 : Dk kX5_rounds 121 (.istore 6) 2 123 := ⟨by decide +kernel, rfl⟩
theorem dX5_rounds_123 : Dk kX5_rounds 123 (.iload 6) 2 125 := ⟨by decide +kernel, rfl⟩
theorem dX5_rounds_125 : Dk kX5_rounds 125 (.iload 4) 2 127 := ⟨by decide +kernel, rfl⟩
theorem dX5_rounds_127 : Dj kX5_rounds 127 (fun o => .if_icmp .le o) 3 130 137 := ⟨10, by decide +kernel, rfl, by decide⟩
theorem dX5_rounds_130 : Dk kX5_rounds 130 (.iload 6) 2 132 := ⟨by decide +kernel, rfl⟩
theorem dX5_rounds_132 : Dk kX5_rounds 132 (.istore 4) 2 134 := ⟨by decide +kernel, rfl⟩
theorem dX5_rounds_134 : Dk kX5_rounds 134 (.iload 5) 2 136 := ⟨by decide +kernel, rfl⟩
theorem dX5_rounds_136 : Dk kX5_rounds 136 (.istore_n 3) 1 137 := ⟨by decide +kernel, rfl⟩
theorem dX5_rounds_137 : Dk kX5_rounds 137 (.iinc 5 1) 3 140 := ⟨by decide +kernel, rfl⟩
theorem dX5_rounds_140 : Dj kX5_rounds 140 (fun o => .goto o) 3 143 55 := ⟨-85, by decide +kernel, rfl, by decide⟩
theorem dX5_rounds_143 : Dk kX5_rounds 143 (.iload_n 2) 1 144 := ⟨by decide +kernel, rfl⟩
theorem dX5_rounds_144 : Dj kX5_rounds 144 (fun o => .ifCond .ne o) 3 147 151 := ⟨7, by decide +kernel, rfl, by decide⟩
theorem dX5_rounds_147 : Dk kX5_rounds 147 (.iload_n 3) 1 148 := ⟨by decide +kernel, rfl⟩
theorem dX5_rounds_148 : Dj kX5_rounds 148 (fun o => .goto o) 3 151 153 := ⟨5, by decide +kernel, rfl, by decide⟩
theorem dX5_rounds_151 : Dk kX5_rounds 151 (.iload 4) 2 153 := ⟨by decide +kernel, rfl⟩
theorem dX5_rounds_153 : Dk kX5_rounds 153 (.ireturn) 1 154 := ⟨by decide +kernel, rfl⟩
theorem dX5_tries_0 : Dk kX5_tries 0 (.iload_n 1) 1 1 := ⟨by decide +kernel, rfl⟩
theorem dX5_tries_1 : Dk kX5_tries 1 (.iconst 0) 1 2 := ⟨by decide +kernel, rfl⟩
theorem dX5_tries_2 : Dk kX5_tries 2 (.iconst 1) 1 3 := ⟨by decide +kernel, rfl⟩
theorem dX5_tries_3 : Dk kX5_tries 3 (.invokestatic 88) 3 6 := ⟨by decide +kernel, rfl⟩
theorem dX5_tries_6 : Dj kX5_tries 6 (fun o => .ifCond .ne o) 3 9 12 := ⟨6, by decide +kernel, rfl, by decide⟩
theorem dX5_tries_9 : Dk kX5_tries 9 (.bipush (-2)) 2 11 := ⟨by decide +kernel, rfl⟩
theorem dX5_tries_11 : Dk kX5_tries 11 (.ireturn) 1 12 := ⟨by decide +kernel, rfl⟩
theorem dX5_tries_12 : Dk kX5_tries 12 (.bipush 8) 2 14 := ⟨by decide +kernel, rfl⟩
theorem dX5_tries_14 : Dk kX5_tries 14 (.aload_n 0) 1 15 := ⟨by decide +kernel, rfl⟩
theorem dX5_tries_15 : Dk kX5_tries 15 (.getfield 42) 3 18 := ⟨by decide +kernel, rfl⟩
theorem dX5_tries_18 : Dk kX5_tries 18 (.invokevirtual 72) 3 21 := ⟨by decide +kernel, rfl⟩
theorem dX5_tries_21 : Dk kX5_tries 21 (.invokestatic 76) 3 24 := ⟨by decide +kernel, rfl⟩
theorem dX5_tries_24 : Dk kX5_tries 24 (.isub) 1 25 := ⟨by decide +kernel, rfl⟩
theorem dX5_tries_25 : Dk kX5_tries 25 (.istore_n 2) 1 26 := ⟨by decide +kernel, rfl⟩
theorem dX5_tries_26 : Dk kX5_tries 26 (.iload_n 1) 1 27 := ⟨by decide +kernel, rfl⟩
theorem dX5_tries_27 : Dk kX5_tries 27 (.iconst 1) 1 28 := ⟨by decide +kernel, rfl⟩
theorem dX5_tries_28 : Dj kX5_tries 28 (fun o => .if_icmp .ne o) 3 31 33 := ⟨5, by decide +kernel, rfl, by decide⟩
theorem dX5_tries_31 : Dk kX5_tries 31 (.iload_n 2) 1 32 := ⟨by decide +kernel, rfl⟩
theorem dX5_tries_32 : Dk kX5_tries 32 (.ireturn) 1 33 := ⟨by decide +kernel, rfl⟩
theorem dX5_tries_33 : Dk kX5_tries 33 (.iload_n 2) 1 34 := ⟨by decide +kernel, rfl⟩
theorem dX5_tries_34 : Dj kX5_tries 34 (fun o => .ifCond .le o) 3 37 50 := ⟨16, by decide +kernel, rfl, by decide⟩
theorem dX5_tries_37 : Dk kX5_tries 37 (.aload_n 0) 1 38 := ⟨by decide +kernel, rfl⟩
theorem dX5_tries_38 : Dk kX5_tries 38 (.getfield 42) 3 41 := ⟨by decide +kernel, rfl⟩
theorem dX5_tries_41 : Dk kX5_tries 41 (.getfield 66) 3 44 := ⟨by decide +kernel, rfl⟩
theorem dX5_tries_44 : Dk kX5_tries 44 (.iconst 2) 1 45 := ⟨by decide +kernel, rfl⟩
theorem dX5_tries_45 : Dj kX5_tries 45 (fun o => .if_icmp .ge o) 3 48 50 := ⟨5, by decide +kernel, rfl, by decide⟩
theorem dX5_tries_48 : Dk kX5_tries 48 (.iconst (-1)) 1 49 := ⟨by decide +kernel, rfl⟩
theorem dX5_tries_49 : Dk kX5_tries 49 (.ireturn) 1 50 := ⟨by decide +kernel, rfl⟩
theorem dX5_tries_50 : Dk kX5_tries 50 (.iconst 0) 1 51 := ⟨by decide +kernel, rfl⟩
theorem dX5_tries_51 : Dk kX5_tries 51 (.istore_n 3) 1 52 := ⟨by decide +kernel, rfl⟩
theorem dX5_tries_52 : Dk kX5_tries 52 (.iconst 0) 1 53 := ⟨by decide +kernel, rfl⟩
theorem dX5_tries_53 : Dk kX5_tries 53 (.istore 4) 2 55 := ⟨by decide +kernel, rfl⟩
theorem dX5_tries_55 : Dk kX5_tries 55 (.iload 4) 2 57 := ⟨by decide +kernel, rfl⟩
theorem dX5_tries_57 : Dk kX5_tries 57 (.bipush 8) 2 59 := ⟨by decide +kernel, rfl⟩
theorem dX5_tries_59 : Dj kX5_tries 59 (fun o => .if_icmp .ge o) 3 62 104 := ⟨45, by decide +kernel, rfl, by decide⟩
theorem dX5_tries_62 : Dk kX5_tries 62 (.aload_n 0) 1 63 := ⟨by decide +kernel, rfl⟩
theorem dX5_tries_63 : Dk kX5_tries 63 (.getfield 42) 3 66 := ⟨by decide +kernel, rfl⟩
theorem dX5_tries_66 : Dk kX5_tries 66 (.getfield 113) 3 69 := ⟨by decide +kernel, rfl⟩
theorem dX5_tries_69 : Dk kX5_tries 69 (.iload 4) 2 71 := ⟨by decide +kernel, rfl⟩
theorem dX5_tries_71 : Dk kX5_tries 71 (.iaload) 1 72 := ⟨by decide +kernel, rfl⟩
theorem dX5_tries_72 : Dk kX5_tries 72 (.iconst (-1)) 1 73 := ⟨by decide +kernel, rfl⟩
theorem dX5_tries_73 : Dj kX5_tries 73 (fun o => .if_icmp .ne o) 3 76 98 := ⟨25, by decide +kernel, rfl, by decide⟩
theorem dX5_tries_76 : Dk kX5_tries 76 (.iload_n 3) 1 77 := ⟨by decide +kernel, rfl⟩
theorem dX5_tries_77 : Dk kX5_tries 77 (.aload_n 0) 1 78 := ⟨by decide +kernel, rfl⟩
theorem dX5_tries_78 : Dk kX5_tries 78 (.getfield 42) 3 81 := ⟨by decide +kernel, rfl⟩
theorem dX5_tries_81 : Dk kX5_tries 81 (.getfield 110) 3 84 := ⟨by decide +kernel, rfl⟩
theorem dX5_tries_84 : Dk kX5_tries 84 (.iload 4) 2 86 := ⟨by decide +kernel, rfl⟩
theorem dX5_tries_86 : Dk kX5_tries 86 (.iaload) 1 87 := ⟨by decide +kernel, rfl⟩
theorem dX5_tries_87 : Dk kX5_tries 87 (.iconst (-1)) 1 88 := ⟨by decide +kernel, rfl⟩
theorem dX5_tries_88 : Dj kX5_tries 88 (fun o => .if_icmp .ne o) 3 91 95 := ⟨7, by decide +kernel, rfl, by decide⟩
theorem dX5_tries_91 : Dk kX5_tries 91 (.iconst 2) 1 92 := ⟨by decide +kernel, rfl⟩
theorem dX5_tries_92 : Dj kX5_tries 92 (fun o => .goto o) 3 95 96 := ⟨4, by decide +kernel, rfl, by decide⟩
theorem dX5_tries_95 : Dk kX5_tries 95 (.iconst 1) 1 96 := ⟨by decide +kernel, rfl⟩
theorem dX5_tries_96 : Dk kX5_tries 96 (.iadd) 1 97 := ⟨by decide +kernel, rfl⟩
theorem dX5_tries_97 : Dk kX5_tries 97 (.istore_n 3) 1 98 := ⟨by decide +kernel, rfl⟩
theorem dX5_tries_98 : Dk kX5_tries 98 (.iinc 4 1) 3 101 := ⟨by decide +kernel, rfl⟩
theorem dX5_tries_101 : Dj kX5_tries 101 (fun o => .goto o) 3 104 55 := ⟨-46, by decide +kernel, rfl, by decide⟩
theorem dX5_tries_104 : Dk kX5_tries 104 (.iload_n 3) 1 105 := ⟨by decide +kernel, rfl⟩
theorem dX5_tries_105 : Dk kX5_tries 105 (.ireturn) 1 106 := ⟨by decide +kernel, rfl⟩
theorem dX5_share_0 : Dk kX5_share 0 (.aload_n 0) 1 1 := ⟨by decide +kernel, rfl⟩
theorem dX5_share_1 : Dk kX5_share 1 (.getfield 42) 3 4 := ⟨by decide +kernel, rfl⟩
theorem dX5_share_4 : Dk kX5_share 4 (.invokevirtual 199) 3 7 := ⟨by decide +kernel, rfl⟩
theorem dX5_share_7 : Dk kX5_share 7 (.aload_n 0) 1 8 := ⟨by decide +kernel, rfl⟩
theorem dX5_share_8 : Dk kX5_share 8 (.getfield 42) 3 11 := ⟨by decide +kernel, rfl⟩
theorem dX5_share_11 : Dk kX5_share 11 (.invokevirtual 185) 3 14 := ⟨by decide +kernel, rfl⟩
theorem dX5_share_14 : Dk kX5_share 14 (.iadd) 1 15 := ⟨by decide +kernel, rfl⟩
theorem dX5_share_15 : Dk kX5_share 15 (.istore_n 3) 1 16 := ⟨by decide +kernel, rfl⟩
theorem dX5_share_16 : Dk kX5_share 16 (.aload_n 0) 1 17 := ⟨by decide +kernel, rfl⟩
theorem dX5_share_17 : Dk kX5_share 17 (.iload_n 1) 1 18 := ⟨by decide +kernel, rfl⟩
theorem dX5_share_18 : Dk kX5_share 18 (.invokevirtual 107) 3 21 := ⟨by decide +kernel, rfl⟩
theorem dX5_share_21 : Dj kX5_share 21 (fun o => .ifCond .eq o) 3 24 37 := ⟨16, by decide +kernel, rfl, by decide⟩
theorem dX5_share_24 : Dk kX5_share 24 (.iload_n 2) 1 25 := ⟨by decide +kernel, rfl⟩
theorem dX5_share_25 : Dk kX5_share 25 (.iconst 0) 1 26 := ⟨by decide +kernel, rfl⟩
theorem dX5_share_26 : Dk kX5_share 26 (.iconst 1) 1 27 := ⟨by decide +kernel, rfl⟩
theorem dX5_share_27 : Dk kX5_share 27 (.invokestatic 88) 3 30 := ⟨by decide +kernel, rfl⟩
theorem dX5_share_30 : Dj kX5_share 30 (fun o => .ifCond .eq o) 3 33 37 := ⟨7, by decide +kernel, rfl, by decide⟩
theorem dX5_share_33 : Dk kX5_share 33 (.iload_n 3) 1 34 := ⟨by decide +kernel, rfl⟩
theorem dX5_share_34 : Dj kX5_share 34 (fun o => .ifCond .ne o) 3 37 41 := ⟨7, by decide +kernel, rfl, by decide⟩
theorem dX5_share_37 : Dk kX5_share 37 (.ldc2_w 202) 3 40 := ⟨by decide +kernel, rfl⟩
theorem dX5_share_40 : Dk kX5_share 40 (.lreturn) 1 41 := ⟨by decide +kernel, rfl⟩
theorem dX5_share_41 : Dk kX5_share 41 (.aload_n 0) 1 42 := ⟨by decide +kernel, rfl⟩
theorem dX5_share_42 : Dk kX5_share 42 (.getfield 42) 3 45 := ⟨by decide +kernel, rfl⟩
theorem dX5_share_45 : Dk kX5_share 45 (.getfield 140) 3 48 := ⟨by decide +kernel, rfl⟩
theorem dX5_share_48 : Dk kX5_share 48 (.iload_n 1) 1 49 := ⟨by decide +kernel, rfl⟩
theorem dX5_share_49 : Dk kX5_share 49 (.iaload) 1 50 := ⟨by decide +kernel, rfl⟩
theorem dX5_share_50 : Dk kX5_share 50 (.iload_n 3) 1 51 := ⟨by decide +kernel, rfl⟩
theorem dX5_share_51 : Dk kX5_share 51 (.iload_n 2) 1 52 := ⟨by decide +kernel, rfl⟩
theorem dX5_share_52 : Dk kX5_share 52 (.invokestatic 204) 3 55 := ⟨by decide +kernel, rfl⟩
theorem dX5_share_55 : Dk kX5_share 55 (.lreturn) 1 56 := ⟨by decide +kernel, rfl⟩
theorem dX5_judge_0 : Dk kX5_judge 0 (.aload_n 0) 1 1 := ⟨by decide +kernel, rfl⟩
theorem dX5_judge_1 : Dk kX5_judge 1 (.iload_n 1) 1 2 := ⟨by decide +kernel, rfl⟩
theorem dX5_judge_2 : Dk kX5_judge 2 (.iload_n 2) 1 3 := ⟨by decide +kernel, rfl⟩
theorem dX5_judge_3 : Dk kX5_judge 3 (.invokevirtual 208) 3 6 := ⟨by decide +kernel, rfl⟩
theorem dX5_judge_6 : Dk kX5_judge 6 (.istore_n 3) 1 7 := ⟨by decide +kernel, rfl⟩
theorem dX5_judge_7 : Dk kX5_judge 7 (.iload_n 3) 1 8 := ⟨by decide +kernel, rfl⟩
theorem dX5_judge_8 : Dj kX5_judge 8 (fun o => .ifCond .eq o) 3 11 13 := ⟨5, by decide +kernel, rfl, by decide⟩
theorem dX5_judge_11 : Dk kX5_judge 11 (.iload_n 3) 1 12 := ⟨by decide +kernel, rfl⟩
theorem dX5_judge_12 : Dk kX5_judge 12 (.ireturn) 1 13 := ⟨by decide +kernel, rfl⟩
theorem dX5_judge_13 : Dk kX5_judge 13 (.aload_n 0) 1 14 := ⟨by decide +kernel, rfl⟩
theorem dX5_judge_14 : Dk kX5_judge 14 (.getfield 46) 3 17 := ⟨by decide +kernel, rfl⟩
theorem dX5_judge_17 : Dk kX5_judge 17 (.aload_n 0) 1 18 := ⟨by decide +kernel, rfl⟩
theorem dX5_judge_18 : Dk kX5_judge 18 (.getfield 42) 3 21 := ⟨by decide +kernel, rfl⟩
theorem dX5_judge_21 : Dk kX5_judge 21 (.invokevirtual 175) 3 24 := ⟨by decide +kernel, rfl⟩
theorem dX5_judge_24 : Dk kX5_judge 24 (.aload_n 0) 1 25 := ⟨by decide +kernel, rfl⟩
theorem dX5_judge_25 : Dk kX5_judge 25 (.aload_n 0) 1 26 := ⟨by decide +kernel, rfl⟩
theorem dX5_judge_26 : Dk kX5_judge 26 (.getfield 17) 3 29 := ⟨by decide +kernel, rfl⟩
theorem dX5_judge_29 : Dk kX5_judge 29 (.iload_n 1) 1 30 := ⟨by decide +kernel, rfl⟩
theorem dX5_judge_30 : Dk kX5_judge 30 (.aaload) 1 31 := ⟨by decide +kernel, rfl⟩
theorem dX5_judge_31 : Dk kX5_judge 31 (.iload_n 2) 1 32 := ⟨by decide +kernel, rfl⟩
theorem dX5_judge_32 : Dk kX5_judge 32 (.invokevirtual 211) 3 35 := ⟨by decide +kernel, rfl⟩
theorem dX5_judge_35 : Dk kX5_judge 35 (.ireturn) 1 36 := ⟨by decide +kernel, rfl⟩
theorem dX5_kinds_0 : Dk kX5_kinds 0 (.aload_n 0) 1 1 := ⟨by decide +kernel, rfl⟩
theorem dX5_kinds_1 : Dk kX5_kinds 1 (.iload_n 1) 1 2 := ⟨by decide +kernel, rfl⟩
theorem dX5_kinds_2 : Dk kX5_kinds 2 (.iload_n 2) 1 3 := ⟨by decide +kernel, rfl⟩
theorem dX5_kinds_3 : Dk kX5_kinds 3 (.invokevirtual 208) 3 6 := ⟨by decide +kernel, rfl⟩
theorem dX5_kinds_6 : Dk kX5_kinds 6 (.istore 4) 2 8 := ⟨by decide +kernel, rfl⟩
theorem dX5_kinds_8 : Dk kX5_kinds 8 (.iload 4) 2 10 := ⟨by decide +kernel, rfl⟩
theorem dX5_kinds_10 : Dj kX5_kinds 10 (fun o => .ifCond .eq o) 3 13 16 := ⟨6, by decide +kernel, rfl, by decide⟩
theorem dX5_kinds_13 : Dk kX5_kinds 13 (.iload 4) 2 15 := ⟨by decide +kernel, rfl⟩
theorem dX5_kinds_15 : Dk kX5_kinds 15 (.ireturn) 1 16 := ⟨by decide +kernel, rfl⟩
theorem dX5_kinds_16 : Dk kX5_kinds 16 (.iload_n 3) 1 17 := ⟨by decide +kernel, rfl⟩
theorem dX5_kinds_17 : Dk kX5_kinds 17 (.iconst 0) 1 18 := ⟨by decide +kernel, rfl⟩
theorem dX5_kinds_18 : Dk kX5_kinds 18 (.iconst 1) 1 19 := ⟨by decide +kernel, rfl⟩
theorem dX5_kinds_19 : Dk kX5_kinds 19 (.invokestatic 88) 3 22 := ⟨by decide +kernel, rfl⟩
theorem dX5_kinds_22 : Dj kX5_kinds 22 (fun o => .ifCond .ne o) 3 25 28 := ⟨6, by decide +kernel, rfl, by decide⟩
theorem dX5_kinds_25 : Dk kX5_kinds 25 (.bipush (-7)) 2 27 := ⟨by decide +kernel, rfl⟩
theorem dX5_kinds_27 : Dk kX5_kinds 27 (.ireturn) 1 28 := ⟨by decide +kernel, rfl⟩
theorem dX5_kinds_28 : Dk kX5_kinds 28 (.iconst 0) 1 29 := ⟨by decide +kernel, rfl⟩
theorem dX5_kinds_29 : Dk kX5_kinds 29 (.istore 5) 2 31 := ⟨by decide +kernel, rfl⟩
theorem dX5_kinds_31 : Dk kX5_kinds 31 (.iconst 0) 1 32 := ⟨by decide +kernel, rfl⟩
theorem dX5_kinds_32 : Dk kX5_kinds 32 (.istore 6) 2 34 := ⟨by decide +kernel, rfl⟩
theorem dX5_kinds_34 : Dk kX5_kinds 34 (.iload 6) 2 36 := ⟨by decide +kernel, rfl⟩
theorem dX5_kinds_36 : Dk kX5_kinds 36 (.iload_n 3) 1 37 := ⟨by decide +kernel, rfl⟩
theorem dX5_kinds_37 : Dj kX5_kinds 37 (fun o => .ifCond .ne o) 3 40 45 := ⟨8, by decide +kernel, rfl, by decide⟩
theorem dX5_kinds_40 : Dk kX5_kinds 40 (.bipush 6) 2 42 := ⟨by decide +kernel, rfl⟩
theorem dX5_kinds_42 : Dj kX5_kinds 42 (fun o => .goto o) 3 45 47 := ⟨5, by decide +kernel, rfl, by decide⟩
theorem dX5_kinds_45 : Dk kX5_kinds 45 (.bipush 10) 2 47 := ⟨by decide +kernel, rfl⟩
theorem dX5_kinds_47 : Dj kX5_kinds 47 (fun o => .if_icmp .ge o) 3 50 124 := ⟨77, by decide +kernel, rfl, by decide⟩
theorem dX5_kinds_50 : Dk kX5_kinds 50 (.aload_n 0) 1 51 := ⟨by decide +kernel, rfl⟩
theorem dX5_kinds_51 : Dk kX5_kinds 51 (.getfield 46) 3 54 := ⟨by decide +kernel, rfl⟩
theorem dX5_kinds_54 : Dk kX5_kinds 54 (.aload_n 0) 1 55 := ⟨by decide +kernel, rfl⟩
theorem dX5_kinds_55 : Dk kX5_kinds 55 (.getfield 42) 3 58 := ⟨by decide +kernel, rfl⟩
theorem dX5_kinds_58 : Dk kX5_kinds 58 (.invokevirtual 175) 3 61 := ⟨by decide +kernel, rfl⟩
theorem dX5_kinds_61 : Dk kX5_kinds 61 (.iload_n 3) 1 62 := ⟨by decide +kernel, rfl⟩
theorem dX5_kinds_62 : Dj kX5_kinds 62 (fun o => .ifCond .ne o) 3 65 79 := ⟨17, by decide +kernel, rfl, by decide⟩
theorem dX5_kinds_65 : Dk kX5_kinds 65 (.aload_n 0) 1 66 := ⟨by decide +kernel, rfl⟩
theorem dX5_kinds_66 : Dk kX5_kinds 66 (.getfield 46) 3 69 := ⟨by decide +kernel, rfl⟩
theorem dX5_kinds_69 : Dk kX5_kinds 69 (.getfield 146) 3 72 := ⟨by decide +kernel, rfl⟩
theorem dX5_kinds_72 : Dk kX5_kinds 72 (.iload_n 2) 1 73 := ⟨by decide +kernel, rfl⟩
theorem dX5_kinds_73 : Dk kX5_kinds 73 (.iload 6) 2 75 := ⟨by decide +kernel, rfl⟩
theorem dX5_kinds_75 : Dk kX5_kinds 75 (.iastore) 1 76 := ⟨by decide +kernel, rfl⟩
theorem dX5_kinds_76 : Dj kX5_kinds 76 (fun o => .goto o) 3 79 90 := ⟨14, by decide +kernel, rfl, by decide⟩
theorem dX5_kinds_79 : Dk kX5_kinds 79 (.aload_n 0) 1 80 := ⟨by decide +kernel, rfl⟩
theorem dX5_kinds_80 : Dk kX5_kinds 80 (.getfield 46) 3 83 := ⟨by decide +kernel, rfl⟩
theorem dX5_kinds_83 : Dk kX5_kinds 83 (.getfield 149) 3 86 := ⟨by decide +kernel, rfl⟩
theorem dX5_kinds_86 : Dk kX5_kinds 86 (.iload_n 2) 1 87 := ⟨by decide +kernel, rfl⟩
theorem dX5_kinds_87 : Dk kX5_kinds 87 (.iload 6) 2 89 := ⟨by decide +kernel, rfl⟩
theorem dX5_kinds_89 : Dk kX5_kinds 89 (.iastore) 1 90 := ⟨by decide +kernel, rfl⟩
theorem dX5_kinds_90 : Dk kX5_kinds 90 (.iload 5) 2 92 := ⟨by decide +kernel, rfl⟩
theorem dX5_kinds_92 : Dk kX5_kinds 92 (.aload_n 0) 1 93 := ⟨by decide +kernel, rfl⟩
theorem dX5_kinds_93 : Dk kX5_kinds 93 (.aload_n 0) 1 94 := ⟨by decide +kernel, rfl⟩
theorem dX5_kinds_94 : Dk kX5_kinds 94 (.getfield 17) 3 97 := ⟨by decide +kernel, rfl⟩
theorem dX5_kinds_97 : Dk kX5_kinds 97 (.iload_n 1) 1 98 := ⟨by decide +kernel, rfl⟩
theorem dX5_kinds_98 : Dk kX5_kinds 98 (.aaload) 1 99 := ⟨by decide +kernel, rfl⟩
theorem dX5_kinds_99 : Dk kX5_kinds 99 (.iload_n 2) 1 100 := ⟨by decide +kernel, rfl⟩
theorem dX5_kinds_100 : Dk kX5_kinds 100 (.invokevirtual 211) 3 103 := ⟨by decide +kernel, rfl⟩
theorem dX5_kinds_103 : Dk kX5_kinds 103 (.iconst (-1)) 1 104 := ⟨by decide +kernel, rfl⟩
theorem dX5_kinds_104 : Dj kX5_kinds 104 (fun o => .if_icmp .ne o) 3 107 114 := ⟨10, by decide +kernel, rfl, by decide⟩
theorem dX5_kinds_107 : Dk kX5_kinds 107 (.iconst 1) 1 108 := ⟨by decide +kernel, rfl⟩
theorem dX5_kinds_108 : Dk kX5_kinds 108 (.iload 6) 2 110 := ⟨by decide +kernel, rfl⟩
theorem dX5_kinds_110 : Dk kX5_kinds 110 (.ishl) 1 111 := ⟨by decide +kernel, rfl⟩
theorem dX5_kinds_111 : Dj kX5_kinds 111 (fun o => .goto o) 3 114 115 := ⟨4, by decide +kernel, rfl, by decide⟩
theorem dX5_kinds_114 : Dk kX5_kinds 114 (.iconst 0) 1 115 := ⟨by decide +kernel, rfl⟩
theorem dX5_kinds_115 : Dk kX5_kinds 115 (.ior) 1 116 := ⟨by decide +kernel, rfl⟩
theorem dX5_kinds_116 : Dk kX5_kinds 116 (.istore 5) 2 118 := ⟨by decide +kernel, rfl⟩
theorem dX5_kinds_118 : Dk kX5_kinds 118 (.iinc 6 1) 3 121 := ⟨by decide +kernel, rfl⟩
theorem dX5_kinds_121 : Dj kX5_kinds 121 (fun o => .goto o) 3 124 34 := ⟨-87, by decide +kernel, rfl, by decide⟩
theorem dX5_kinds_124 : Dk kX5_kinds 124 (.iload 5) 2 126 := ⟨by decide +kernel, rfl⟩
theorem dX5_kinds_126 : Dk kX5_kinds 126 (.ireturn) 1 127 := ⟨by decide +kernel, rfl⟩
theorem dX5_doors_0 : Dk kX5_doors 0 (.aload_n 0) 1 1 := ⟨by decide +kernel, rfl⟩
theorem dX5_doors_1 : Dk kX5_doors 1 (.iload_n 1) 1 2 := ⟨by decide +kernel, rfl⟩
theorem dX5_doors_2 : Dk kX5_doors 2 (.iload_n 2) 1 3 := ⟨by decide +kernel, rfl⟩
theorem dX5_doors_3 : Dk kX5_doors 3 (.invokevirtual 208) 3 6 := ⟨by decide +kernel, rfl⟩
theorem dX5_doors_6 : Dk kX5_doors 6 (.istore_n 3) 1 7 := ⟨by decide +kernel, rfl⟩
theorem dX5_doors_7 : Dk kX5_doors 7 (.iload_n 3) 1 8 := ⟨by decide +kernel, rfl⟩
theorem dX5_doors_8 : Dj kX5_doors 8 (fun o => .ifCond .eq o) 3 11 13 := ⟨5, by decide +kernel, rfl, by decide⟩
theorem dX5_doors_11 : Dk kX5_doors 11 (.iload_n 3) 1 12 := ⟨by decide +kernel, rfl⟩
theorem dX5_doors_12 : Dk kX5_doors 12 (.ireturn) 1 13 := ⟨by decide +kernel, rfl⟩
theorem dX5_doors_13 : Dk kX5_doors 13 (.iconst 0) 1 14 := ⟨by decide +kernel, rfl⟩
theorem dX5_doors_14 : Dk kX5_doors 14 (.istore 4) 2 16 := ⟨by decide +kernel, rfl⟩
theorem dX5_doors_16 : Dk kX5_doors 16 (.iconst 0) 1 17 := ⟨by decide +kernel, rfl⟩
theorem dX5_doors_17 : Dk kX5_doors 17 (.istore 5) 2 19 := ⟨by decide +kernel, rfl⟩
theorem dX5_doors_19 : Dk kX5_doors 19 (.iload 5) 2 21 := ⟨by decide +kernel, rfl⟩
theorem dX5_doors_21 : Dk kX5_doors 21 (.bipush 8) 2 23 := ⟨by decide +kernel, rfl⟩
theorem dX5_doors_23 : Dj kX5_doors 23 (fun o => .if_icmp .ge o) 3 26 82 := ⟨59, by decide +kernel, rfl, by decide⟩
theorem dX5_doors_26 : Dk kX5_doors 26 (.aload_n 0) 1 27 := ⟨by decide +kernel, rfl⟩
theorem dX5_doors_27 : Dk kX5_doors 27 (.getfield 46) 3 30 := ⟨by decide +kernel, rfl⟩
theorem dX5_doors_30 : Dk kX5_doors 30 (.aload_n 0) 1 31 := ⟨by decide +kernel, rfl⟩
theorem dX5_doors_31 : Dk kX5_doors 31 (.getfield 42) 3 34 := ⟨by decide +kernel, rfl⟩
theorem dX5_doors_34 : Dk kX5_doors 34 (.invokevirtual 175) 3 37 := ⟨by decide +kernel, rfl⟩
theorem dX5_doors_37 : Dk kX5_doors 37 (.aload_n 0) 1 38 := ⟨by decide +kernel, rfl⟩
theorem dX5_doors_38 : Dk kX5_doors 38 (.getfield 46) 3 41 := ⟨by decide +kernel, rfl⟩
theorem dX5_doors_41 : Dk kX5_doors 41 (.getfield 137) 3 44 := ⟨by decide +kernel, rfl⟩
theorem dX5_doors_44 : Dk kX5_doors 44 (.iload_n 2) 1 45 := ⟨by decide +kernel, rfl⟩
theorem dX5_doors_45 : Dk kX5_doors 45 (.iload 5) 2 47 := ⟨by decide +kernel, rfl⟩
theorem dX5_doors_47 : Dk kX5_doors 47 (.iastore) 1 48 := ⟨by decide +kernel, rfl⟩
theorem dX5_doors_48 : Dk kX5_doors 48 (.iload 4) 2 50 := ⟨by decide +kernel, rfl⟩
theorem dX5_doors_50 : Dk kX5_doors 50 (.aload_n 0) 1 51 := ⟨by decide +kernel, rfl⟩
theorem dX5_doors_51 : Dk kX5_doors 51 (.aload_n 0) 1 52 := ⟨by decide +kernel, rfl⟩
theorem dX5_doors_52 : Dk kX5_doors 52 (.getfield 17) 3 55 := ⟨by decide +kernel, rfl⟩
theorem dX5_doors_55 : Dk kX5_doors 55 (.iload_n 1) 1 56 := ⟨by decide +kernel, rfl⟩
theorem dX5_doors_56 : Dk kX5_doors 56 (.aaload) 1 57 := ⟨by decide +kernel, rfl⟩
theorem dX5_doors_57 : Dk kX5_doors 57 (.iload_n 2) 1 58 := ⟨by decide +kernel, rfl⟩
theorem dX5_doors_58 : Dk kX5_doors 58 (.invokevirtual 211) 3 61 := ⟨by decide +kernel, rfl⟩
theorem dX5_doors_61 : Dk kX5_doors 61 (.iconst (-1)) 1 62 := ⟨by decide +kernel, rfl⟩
theorem dX5_doors_62 : Dj kX5_doors 62 (fun o => .if_icmp .ne o) 3 65 72 := ⟨10, by decide +kernel, rfl, by decide⟩
theorem dX5_doors_65 : Dk kX5_doors 65 (.iconst 1) 1 66 := ⟨by decide +kernel, rfl⟩
theorem dX5_doors_66 : Dk kX5_doors 66 (.iload 5) 2 68 := ⟨by decide +kernel, rfl⟩
theorem dX5_doors_68 : Dk kX5_doors 68 (.ishl) 1 69 := ⟨by decide +kernel, rfl⟩
theorem dX5_doors_69 : Dj kX5_doors 69 (fun o => .goto o) 3 72 73 := ⟨4, by decide +kernel, rfl, by decide⟩
theorem dX5_doors_72 : Dk kX5_doors 72 (.iconst 0) 1 73 := ⟨by decide +kernel, rfl⟩
theorem dX5_doors_73 : Dk kX5_doors 73 (.ior) 1 74 := ⟨by decide +kernel, rfl⟩
theorem dX5_doors_74 : Dk kX5_doors 74 (.istore 4) 2 76 := ⟨by decide +kernel, rfl⟩
theorem dX5_doors_76 : Dk kX5_doors 76 (.iinc 5 1) 3 79 := ⟨by decide +kernel, rfl⟩
theorem dX5_doors_79 : Dj kX5_doors 79 (fun o => .goto o) 3 82 19 := ⟨-60, by decide +kernel, rfl, by decide⟩
theorem dX5_doors_82 : Dk kX5_doors 82 (.iload 4) 2 84 := ⟨by decide +kernel, rfl⟩
theorem dX5_doors_84 : Dk kX5_doors 84 (.ireturn) 1 85 := ⟨by decide +kernel, rfl⟩
theorem dX5_baskets_0 : Dk kX5_baskets 0 (.aload_n 0) 1 1 := ⟨by decide +kernel, rfl⟩
theorem dX5_baskets_1 : Dk kX5_baskets 1 (.iload_n 1) 1 2 := ⟨by decide +kernel, rfl⟩
theorem dX5_baskets_2 : Dk kX5_baskets 2 (.iload_n 2) 1 3 := ⟨by decide +kernel, rfl⟩
theorem dX5_baskets_3 : Dk kX5_baskets 3 (.invokevirtual 208) 3 6 := ⟨by decide +kernel, rfl⟩
theorem dX5_baskets_6 : Dk kX5_baskets 6 (.istore 4) 2 8 := ⟨by decide +kernel, rfl⟩
theorem dX5_baskets_8 : Dk kX5_baskets 8 (.iload 4) 2 10 := ⟨by decide +kernel, rfl⟩
theorem dX5_baskets_10 : Dj kX5_baskets 10 (fun o => .ifCond .eq o) 3 13 16 := ⟨6, by decide +kernel, rfl, by decide⟩
theorem dX5_baskets_13 : Dk kX5_baskets 13 (.iload 4) 2 15 := ⟨by decide +kernel, rfl⟩
theorem dX5_baskets_15 : Dk kX5_baskets 15 (.ireturn) 1 16 := ⟨by decide +kernel, rfl⟩
theorem dX5_baskets_16 : Dk kX5_baskets 16 (.iload_n 3) 1 17 := ⟨by decide +kernel, rfl⟩
theorem dX5_baskets_17 : Dk kX5_baskets 17 (.iconst 0) 1 18 := ⟨by decide +kernel, rfl⟩
theorem dX5_baskets_18 : Dk kX5_baskets 18 (.iconst 1) 1 19 := ⟨by decide +kernel, rfl⟩
theorem dX5_baskets_19 : Dk kX5_baskets 19 (.invokestatic 88) 3 22 := ⟨by decide +kernel, rfl⟩
theorem dX5_baskets_22 : Dj kX5_baskets 22 (fun o => .ifCond .ne o) 3 25 28 := ⟨6, by decide +kernel, rfl, by decide⟩
theorem dX5_baskets_25 : Dk kX5_baskets 25 (.bipush (-7)) 2 27 := ⟨by decide +kernel, rfl⟩
theorem dX5_baskets_27 : Dk kX5_baskets 27 (.ireturn) 1 28 := ⟨by decide +kernel, rfl⟩
theorem dX5_baskets_28 : Dk kX5_baskets 28 (.iconst 0) 1 29 := ⟨by decide +kernel, rfl⟩
theorem dX5_baskets_29 : Dk kX5_baskets 29 (.istore 5) 2 31 := ⟨by decide +kernel, rfl⟩
theorem dX5_baskets_31 : Dk kX5_baskets 31 (.iconst (-1)) 1 32 := ⟨by decide +kernel, rfl⟩
theorem dX5_baskets_32 : Dk kX5_baskets 32 (.istore 6) 2 34 := ⟨by decide +kernel, rfl⟩
theorem dX5_baskets_34 : Dk kX5_baskets 34 (.bipush 99) 2 36 := ⟨by decide +kernel, rfl⟩
theorem dX5_baskets_36 : Dk kX5_baskets 36 (.istore 7) 2 38 := ⟨by decide +kernel, rfl⟩
theorem dX5_baskets_38 : Dk kX5_baskets 38 (.iload 7) 2 40 := ⟨by decide +kernel, rfl⟩
theorem dX5_baskets_40 : Dj kX5_baskets 40 (fun o => .ifCond .lt o) 3 43 93 := ⟨53, by decide +kernel, rfl, by decide⟩
theorem dX5_baskets_43 : Dk kX5_baskets 43 (.aload_n 0) 1 44 := ⟨by decide +kernel, rfl⟩
theorem dX5_baskets_44 : Dk kX5_baskets 44 (.getfield 46) 3 47 := ⟨by decide +kernel, rfl⟩
theorem dX5_baskets_47 : Dk kX5_baskets 47 (.aload_n 0) 1 48 := ⟨by decide +kernel, rfl⟩
theorem dX5_baskets_48 : Dk kX5_baskets 48 (.getfield 42) 3 51 := ⟨by decide +kernel, rfl⟩
theorem dX5_baskets_51 : Dk kX5_baskets 51 (.invokevirtual 175) 3 54 := ⟨by decide +kernel, rfl⟩
theorem dX5_baskets_54 : Dk kX5_baskets 54 (.aload_n 0) 1 55 := ⟨by decide +kernel, rfl⟩
theorem dX5_baskets_55 : Dk kX5_baskets 55 (.getfield 46) 3 58 := ⟨by decide +kernel, rfl⟩
theorem dX5_baskets_58 : Dk kX5_baskets 58 (.getfield 140) 3 61 := ⟨by decide +kernel, rfl⟩
theorem dX5_baskets_61 : Dk kX5_baskets 61 (.iload_n 2) 1 62 := ⟨by decide +kernel, rfl⟩
theorem dX5_baskets_62 : Dk kX5_baskets 62 (.iload 7) 2 64 := ⟨by decide +kernel, rfl⟩
theorem dX5_baskets_64 : Dk kX5_baskets 64 (.iastore) 1 65 := ⟨by decide +kernel, rfl⟩
theorem dX5_baskets_65 : Dk kX5_baskets 65 (.aload_n 0) 1 66 := ⟨by decide +kernel, rfl⟩
theorem dX5_baskets_66 : Dk kX5_baskets 66 (.aload_n 0) 1 67 := ⟨by decide +kernel, rfl⟩
theorem dX5_baskets_67 : Dk kX5_baskets 67 (.getfield 17) 3 70 := ⟨by decide +kernel, rfl⟩
theorem dX5_baskets_70 : Dk kX5_baskets 70 (.iload_n 1) 1 71 := ⟨by decide +kernel, rfl⟩
theorem dX5_baskets_71 : Dk kX5_baskets 71 (.aaload) 1 72 := ⟨by decide +kernel, rfl⟩
theorem dX5_baskets_72 : Dk kX5_baskets 72 (.iload_n 2) 1 73 := ⟨by decide +kernel, rfl⟩
theorem dX5_baskets_73 : Dk kX5_baskets 73 (.invokevirtual 211) 3 76 := ⟨by decide +kernel, rfl⟩
theorem dX5_baskets_76 : Dk kX5_baskets 76 (.iconst (-1)) 1 77 := ⟨by decide +kernel, rfl⟩
theorem dX5_baskets_77 : Dj kX5_baskets 77 (fun o => .if_icmp .ne o) 3 80 87 := ⟨10, by decide +kernel, rfl, by decide⟩
theorem dX5_baskets_80 : Dk kX5_baskets 80 (.iinc 5 1) 3 83 := ⟨by decide +kernel, rfl⟩
theorem dX5_baskets_83 : Dk kX5_baskets 83 (.iload 7) 2 85 := ⟨by decide +kernel, rfl⟩
theorem dX5_baskets_85 : Dk kX5_baskets 85 (.istore 6) 2 87 := ⟨by decide +kernel, rfl⟩
theorem dX5_baskets_87 : Dk kX5_baskets 87 (.iinc 7 (-1)) 3 90 := ⟨by decide +kernel, rfl⟩
theorem dX5_baskets_90 : Dj kX5_baskets 90 (fun o => .goto o) 3 93 38 := ⟨-52, by decide +kernel, rfl, by decide⟩
theorem dX5_baskets_93 : Dk kX5_baskets 93 (.iload_n 3) 1 94 := ⟨by decide +kernel, rfl⟩
theorem dX5_baskets_94 : Dj kX5_baskets 94 (fun o => .ifCond .ne o) 3 97 102 := ⟨8, by decide +kernel, rfl, by decide⟩
theorem dX5_baskets_97 : Dk kX5_baskets 97 (.iload 5) 2 99 := ⟨by decide +kernel, rfl⟩
theorem dX5_baskets_99 : Dj kX5_baskets 99 (fun o => .goto o) 3 102 104 := ⟨5, by decide +kernel, rfl, by decide⟩
theorem dX5_baskets_102 : Dk kX5_baskets 102 (.iload 6) 2 104 := ⟨by decide +kernel, rfl⟩
theorem dX5_baskets_104 : Dk kX5_baskets 104 (.ireturn) 1 105 := ⟨by decide +kernel, rfl⟩
theorem dX5_firsts_0 : Dk kX5_firsts 0 (.aload_n 0) 1 1 := ⟨by decide +kernel, rfl⟩
theorem dX5_firsts_1 : Dk kX5_firsts 1 (.iload_n 1) 1 2 := ⟨by decide +kernel, rfl⟩
theorem dX5_firsts_2 : Dk kX5_firsts 2 (.iload_n 2) 1 3 := ⟨by decide +kernel, rfl⟩
theorem dX5_firsts_3 : Dk kX5_firsts 3 (.invokevirtual 208) 3 6 := ⟨by decide +kernel, rfl⟩
theorem dX5_firsts_6 : Dk kX5_firsts 6 (.istore 4) 2 8 := ⟨by decide +kernel, rfl⟩
theorem dX5_firsts_8 : Dk kX5_firsts 8 (.iload 4) 2 10 := ⟨by decide +kernel, rfl⟩
theorem dX5_firsts_10 : Dj kX5_firsts 10 (fun o => .ifCond .eq o) 3 13 16 := ⟨6, by decide +kernel, rfl, by decide⟩
theorem dX5_firsts_13 : Dk kX5_firsts 13 (.iload 4) 2 15 := ⟨by decide +kernel, rfl⟩
theorem dX5_firsts_15 : Dk kX5_firsts 15 (.ireturn) 1 16 := ⟨by decide +kernel, rfl⟩
theorem dX5_firsts_16 : Dk kX5_firsts 16 (.iload_n 3) 1 17 := ⟨by decide +kernel, rfl⟩
theorem dX5_firsts_17 : Dk kX5_firsts 17 (.invokestatic 92) 3 20 := ⟨by decide +kernel, rfl⟩
theorem dX5_firsts_20 : Dj kX5_firsts 20 (fun o => .ifCond .ne o) 3 23 26 := ⟨6, by decide +kernel, rfl, by decide⟩
theorem dX5_firsts_23 : Dk kX5_firsts 23 (.bipush (-7)) 2 25 := ⟨by decide +kernel, rfl⟩
theorem dX5_firsts_25 : Dk kX5_firsts 25 (.ireturn) 1 26 := ⟨by decide +kernel, rfl⟩
theorem dX5_firsts_26 : Dk kX5_firsts 26 (.iconst 0) 1 27 := ⟨by decide +kernel, rfl⟩
theorem dX5_firsts_27 : Dk kX5_firsts 27 (.istore 5) 2 29 := ⟨by decide +kernel, rfl⟩
theorem dX5_firsts_29 : Dk kX5_firsts 29 (.iconst 0) 1 30 := ⟨by decide +kernel, rfl⟩
theorem dX5_firsts_30 : Dk kX5_firsts 30 (.istore 6) 2 32 := ⟨by decide +kernel, rfl⟩
theorem dX5_firsts_32 : Dk kX5_firsts 32 (.iload 6) 2 34 := ⟨by decide +kernel, rfl⟩
theorem dX5_firsts_34 : Dk kX5_firsts 34 (.bipush 6) 2 36 := ⟨by decide +kernel, rfl⟩
theorem dX5_firsts_36 : Dj kX5_firsts 36 (fun o => .if_icmp .gt o) 3 39 122 := ⟨86, by decide +kernel, rfl, by decide⟩
theorem dX5_firsts_39 : Dk kX5_firsts 39 (.iload 6) 2 41 := ⟨by decide +kernel, rfl⟩
theorem dX5_firsts_41 : Dk kX5_firsts 41 (.bipush 6) 2 43 := ⟨by decide +kernel, rfl⟩
theorem dX5_firsts_43 : Dj kX5_firsts 43 (fun o => .if_icmp .eq o) 3 46 55 := ⟨12, by decide +kernel, rfl, by decide⟩
theorem dX5_firsts_46 : Dk kX5_firsts 46 (.aload_n 0) 1 47 := ⟨by decide +kernel, rfl⟩
theorem dX5_firsts_47 : Dk kX5_firsts 47 (.iload 6) 2 49 := ⟨by decide +kernel, rfl⟩
theorem dX5_firsts_49 : Dk kX5_firsts 49 (.invokevirtual 107) 3 52 := ⟨by decide +kernel, rfl⟩
theorem dX5_firsts_52 : Dj kX5_firsts 52 (fun o => .ifCond .eq o) 3 55 116 := ⟨64, by decide +kernel, rfl, by decide⟩
theorem dX5_firsts_55 : Dk kX5_firsts 55 (.aload_n 0) 1 56 := ⟨by decide +kernel, rfl⟩
theorem dX5_firsts_56 : Dk kX5_firsts 56 (.getfield 46) 3 59 := ⟨by decide +kernel, rfl⟩
theorem dX5_firsts_59 : Dk kX5_firsts 59 (.aload_n 0) 1 60 := ⟨by decide +kernel, rfl⟩
theorem dX5_firsts_60 : Dk kX5_firsts 60 (.getfield 42) 3 63 := ⟨by decide +kernel, rfl⟩
theorem dX5_firsts_63 : Dk kX5_firsts 63 (.invokevirtual 175) 3 66 := ⟨by decide +kernel, rfl⟩
theorem dX5_firsts_66 : Dk kX5_firsts 66 (.aload_n 0) 1 67 := ⟨by decide +kernel, rfl⟩
theorem dX5_firsts_67 : Dk kX5_firsts 67 (.getfield 46) 3 70 := ⟨by decide +kernel, rfl⟩
theorem dX5_firsts_70 : Dk kX5_firsts 70 (.getfield 110) 3 73 := ⟨by decide +kernel, rfl⟩
theorem dX5_firsts_73 : Dk kX5_firsts 73 (.iload_n 3) 1 74 := ⟨by decide +kernel, rfl⟩
theorem dX5_firsts_74 : Dk kX5_firsts 74 (.iload 6) 2 76 := ⟨by decide +kernel, rfl⟩
theorem dX5_firsts_76 : Dk kX5_firsts 76 (.bipush 6) 2 78 := ⟨by decide +kernel, rfl⟩
theorem dX5_firsts_78 : Dj kX5_firsts 78 (fun o => .if_icmp .ne o) 3 81 85 := ⟨7, by decide +kernel, rfl, by decide⟩
theorem dX5_firsts_81 : Dk kX5_firsts 81 (.iconst (-1)) 1 82 := ⟨by decide +kernel, rfl⟩
theorem dX5_firsts_82 : Dj kX5_firsts 82 (fun o => .goto o) 3 85 87 := ⟨5, by decide +kernel, rfl, by decide⟩
theorem dX5_firsts_85 : Dk kX5_firsts 85 (.iload 6) 2 87 := ⟨by decide +kernel, rfl⟩
theorem dX5_firsts_87 : Dk kX5_firsts 87 (.iastore) 1 88 := ⟨by decide +kernel, rfl⟩
theorem dX5_firsts_88 : Dk kX5_firsts 88 (.iload 5) 2 90 := ⟨by decide +kernel, rfl⟩
theorem dX5_firsts_90 : Dk kX5_firsts 90 (.aload_n 0) 1 91 := ⟨by decide +kernel, rfl⟩
theorem dX5_firsts_91 : Dk kX5_firsts 91 (.aload_n 0) 1 92 := ⟨by decide +kernel, rfl⟩
theorem dX5_firsts_92 : Dk kX5_firsts 92 (.getfield 17) 3 95 := ⟨by decide +kernel, rfl⟩
theorem dX5_firsts_95 : Dk kX5_firsts 95 (.iload_n 1) 1 96 := ⟨by decide +kernel, rfl⟩
theorem dX5_firsts_96 : Dk kX5_firsts 96 (.aaload) 1 97 := ⟨by decide +kernel, rfl⟩
theorem dX5_firsts_97 : Dk kX5_firsts 97 (.iload_n 2) 1 98 := ⟨by decide +kernel, rfl⟩
theorem dX5_firsts_98 : Dk kX5_firsts 98 (.invokevirtual 211) 3 101 := ⟨by decide +kernel, rfl⟩
theorem dX5_firsts_101 : Dk kX5_firsts 101 (.iconst (-1)) 1 102 := ⟨by decide +kernel, rfl⟩
theorem dX5_firsts_102 : Dj kX5_firsts 102 (fun o => .if_icmp .ne o) 3 105 112 := ⟨10, by decide +kernel, rfl, by decide⟩
theorem dX5_firsts_105 : Dk kX5_firsts 105 (.iconst 1) 1 106 := ⟨by decide +kernel, rfl⟩
theorem dX5_firsts_106 : Dk kX5_firsts 106 (.iload 6) 2 108 := ⟨by decide +kernel, rfl⟩
theorem dX5_firsts_108 : Dk kX5_firsts 108 (.ishl) 1 109 := ⟨by decide +kernel, rfl⟩
theorem dX5_firsts_109 : Dj kX5_firsts 109 (fun o => .goto o) 3 112 113 := ⟨4, by decide +kernel, rfl, by decide⟩
theorem dX5_firsts_112 : Dk kX5_firsts 112 (.iconst 0) 1 113 := ⟨by decide +kernel, rfl⟩
theorem dX5_firsts_113 : Dk kX5_firsts 113 (.ior) 1 114 := ⟨by decide +kernel, rfl⟩
theorem dX5_firsts_114 : Dk kX5_firsts 114 (.istore 5) 2 116 := ⟨by decide +kernel, rfl⟩
theorem dX5_firsts_116 : Dk kX5_firsts 116 (.iinc 6 1) 3 119 := ⟨by decide +kernel, rfl⟩
theorem dX5_firsts_119 : Dj kX5_firsts 119 (fun o => .goto o) 3 122 32 := ⟨-87, by decide +kernel, rfl, by decide⟩
theorem dX5_firsts_122 : Dk kX5_firsts 122 (.iload 5) 2 124 := ⟨by decide +kernel, rfl⟩
theorem dX5_firsts_124 : Dk kX5_firsts 124 (.ireturn) 1 125 := ⟨by decide +kernel, rfl⟩
theorem dX5_whose_0 : Dk kX5_whose 0 (.aload_n 0) 1 1 := ⟨by decide +kernel, rfl⟩
theorem dX5_whose_1 : Dk kX5_whose 1 (.iload_n 1) 1 2 := ⟨by decide +kernel, rfl⟩
theorem dX5_whose_2 : Dk kX5_whose 2 (.invokevirtual 215) 3 5 := ⟨by decide +kernel, rfl⟩
theorem dX5_whose_5 : Dk kX5_whose 5 (.istore_n 2) 1 6 := ⟨by decide +kernel, rfl⟩
theorem dX5_whose_6 : Dk kX5_whose 6 (.iload_n 2) 1 7 := ⟨by decide +kernel, rfl⟩
theorem dX5_whose_7 : Dj kX5_whose 7 (fun o => .ifCond .eq o) 3 10 12 := ⟨5, by decide +kernel, rfl, by decide⟩
theorem dX5_whose_10 : Dk kX5_whose 10 (.iload_n 2) 1 11 := ⟨by decide +kernel, rfl⟩
theorem dX5_whose_11 : Dk kX5_whose 11 (.ireturn) 1 12 := ⟨by decide +kernel, rfl⟩
theorem dX5_whose_12 : Dk kX5_whose 12 (.iconst 0) 1 13 := ⟨by decide +kernel, rfl⟩
theorem dX5_whose_13 : Dk kX5_whose 13 (.istore_n 3) 1 14 := ⟨by decide +kernel, rfl⟩
theorem dX5_whose_14 : Dk kX5_whose 14 (.iconst 0) 1 15 := ⟨by decide +kernel, rfl⟩
theorem dX5_whose_15 : Dk kX5_whose 15 (.istore 4) 2 17 := ⟨by decide +kernel, rfl⟩
theorem dX5_whose_17 : Dk kX5_whose 17 (.iload 4) 2 19 := ⟨by decide +kernel, rfl⟩
theorem dX5_whose_19 : Dk kX5_whose 19 (.aload_n 0) 1 20 := ⟨by decide +kernel, rfl⟩
theorem dX5_whose_20 : Dk kX5_whose 20 (.getfield 42) 3 23 := ⟨by decide +kernel, rfl⟩
theorem dX5_whose_23 : Dk kX5_whose 23 (.getfield 66) 3 26 := ⟨by decide +kernel, rfl⟩
theorem dX5_whose_26 : Dj kX5_whose 26 (fun o => .if_icmp .ge o) 3 29 73 := ⟨47, by decide +kernel, rfl, by decide⟩
theorem dX5_whose_29 : Dk kX5_whose 29 (.aload_n 0) 1 30 := ⟨by decide +kernel, rfl⟩
theorem dX5_whose_30 : Dk kX5_whose 30 (.getfield 46) 3 33 := ⟨by decide +kernel, rfl⟩
theorem dX5_whose_33 : Dk kX5_whose 33 (.aload_n 0) 1 34 := ⟨by decide +kernel, rfl⟩
theorem dX5_whose_34 : Dk kX5_whose 34 (.getfield 42) 3 37 := ⟨by decide +kernel, rfl⟩
theorem dX5_whose_37 : Dk kX5_whose 37 (.invokevirtual 175) 3 40 := ⟨by decide +kernel, rfl⟩
theorem dX5_whose_40 : Dk kX5_whose 40 (.iload_n 3) 1 41 := ⟨by decide +kernel, rfl⟩
theorem dX5_whose_41 : Dk kX5_whose 41 (.aload_n 0) 1 42 := ⟨by decide +kernel, rfl⟩
theorem dX5_whose_42 : Dk kX5_whose 42 (.aload_n 0) 1 43 := ⟨by decide +kernel, rfl⟩
theorem dX5_whose_43 : Dk kX5_whose 43 (.getfield 17) 3 46 := ⟨by decide +kernel, rfl⟩
theorem dX5_whose_46 : Dk kX5_whose 46 (.iload_n 1) 1 47 := ⟨by decide +kernel, rfl⟩
theorem dX5_whose_47 : Dk kX5_whose 47 (.aaload) 1 48 := ⟨by decide +kernel, rfl⟩
theorem dX5_whose_48 : Dk kX5_whose 48 (.iload 4) 2 50 := ⟨by decide +kernel, rfl⟩
theorem dX5_whose_50 : Dk kX5_whose 50 (.invokevirtual 211) 3 53 := ⟨by decide +kernel, rfl⟩
theorem dX5_whose_53 : Dk kX5_whose 53 (.iconst (-1)) 1 54 := ⟨by decide +kernel, rfl⟩
theorem dX5_whose_54 : Dj kX5_whose 54 (fun o => .if_icmp .ne o) 3 57 64 := ⟨10, by decide +kernel, rfl, by decide⟩
theorem dX5_whose_57 : Dk kX5_whose 57 (.iconst 1) 1 58 := ⟨by decide +kernel, rfl⟩
theorem dX5_whose_58 : Dk kX5_whose 58 (.iload 4) 2 60 := ⟨by decide +kernel, rfl⟩
theorem dX5_whose_60 : Dk kX5_whose 60 (.ishl) 1 61 := ⟨by decide +kernel, rfl⟩
theorem dX5_whose_61 : Dj kX5_whose 61 (fun o => .goto o) 3 64 65 := ⟨4, by decide +kernel, rfl, by decide⟩
theorem dX5_whose_64 : Dk kX5_whose 64 (.iconst 0) 1 65 := ⟨by decide +kernel, rfl⟩
theorem dX5_whose_65 : Dk kX5_whose 65 (.ior) 1 66 := ⟨by decide +kernel, rfl⟩
theorem dX5_whose_66 : Dk kX5_whose 66 (.istore_n 3) 1 67 := ⟨by decide +kernel, rfl⟩
theorem dX5_whose_67 : Dk kX5_whose 67 (.iinc 4 1) 3 70 := ⟨by decide +kernel, rfl⟩
theorem dX5_whose_70 : Dj kX5_whose 70 (fun o => .goto o) 3 73 17 := ⟨-53, by decide +kernel, rfl, by decide⟩
theorem dX5_whose_73 : Dk kX5_whose 73 (.iload_n 3) 1 74 := ⟨by decide +kernel, rfl⟩
theorem dX5_whose_74 : Dk kX5_whose 74 (.ireturn) 1 75 := ⟨by decide +kernel, rfl⟩
theorem dX5_laws_0 : Dk kX5_laws 0 (.aload_n 0) 1 1 := ⟨by decide +kernel, rfl⟩
theorem dX5_laws_1 : Dk kX5_laws 1 (.iload_n 1) 1 2 := ⟨by decide +kernel, rfl⟩
theorem dX5_laws_2 : Dk kX5_laws 2 (.iload_n 2) 1 3 := ⟨by decide +kernel, rfl⟩
theorem dX5_laws_3 : Dk kX5_laws 3 (.invokevirtual 208) 3 6 := ⟨by decide +kernel, rfl⟩
theorem dX5_laws_6 : Dk kX5_laws 6 (.istore_n 3) 1 7 := ⟨by decide +kernel, rfl⟩
theorem dX5_laws_7 : Dk kX5_laws 7 (.iload_n 3) 1 8 := ⟨by decide +kernel, rfl⟩
theorem dX5_laws_8 : Dj kX5_laws 8 (fun o => .ifCond .eq o) 3 11 13 := ⟨5, by decide +kernel, rfl, by decide⟩
theorem dX5_laws_11 : Dk kX5_laws 11 (.iload_n 3) 1 12 := ⟨by decide +kernel, rfl⟩
theorem dX5_laws_12 : Dk kX5_laws 12 (.ireturn) 1 13 := ⟨by decide +kernel, rfl⟩
theorem dX5_laws_13 : Dk kX5_laws 13 (.iconst 0) 1 14 := ⟨by decide +kernel, rfl⟩
theorem dX5_laws_14 : Dk kX5_laws 14 (.istore 4) 2 16 := ⟨by decide +kernel, rfl⟩
theorem dX5_laws_16 : Dk kX5_laws 16 (.iconst 0) 1 17 := ⟨by decide +kernel, rfl⟩
theorem dX5_laws_17 : Dk kX5_laws 17 (.istore 5) 2 19 := ⟨by decide +kernel, rfl⟩
theorem dX5_laws_19 : Dk kX5_laws 19 (.iload 5) 2 21 := ⟨by decide +kernel, rfl⟩
theorem dX5_laws_21 : Dk kX5_laws 21 (.aload_n 0) 1 22 := ⟨by decide +kernel, rfl⟩
theorem dX5_laws_22 : Dk kX5_laws 22 (.getfield 52) 3 25 := ⟨by decide +kernel, rfl⟩
theorem dX5_laws_25 : Dj kX5_laws 25 (fun o => .if_icmp .ge o) 3 28 82 := ⟨57, by decide +kernel, rfl, by decide⟩
theorem dX5_laws_28 : Dk kX5_laws 28 (.aload_n 0) 1 29 := ⟨by decide +kernel, rfl⟩
theorem dX5_laws_29 : Dk kX5_laws 29 (.getfield 46) 3 32 := ⟨by decide +kernel, rfl⟩
theorem dX5_laws_32 : Dk kX5_laws 32 (.aload_n 0) 1 33 := ⟨by decide +kernel, rfl⟩
theorem dX5_laws_33 : Dk kX5_laws 33 (.getfield 42) 3 36 := ⟨by decide +kernel, rfl⟩
theorem dX5_laws_36 : Dk kX5_laws 36 (.invokevirtual 175) 3 39 := ⟨by decide +kernel, rfl⟩
theorem dX5_laws_39 : Dk kX5_laws 39 (.aload_n 0) 1 40 := ⟨by decide +kernel, rfl⟩
theorem dX5_laws_40 : Dk kX5_laws 40 (.getfield 46) 3 43 := ⟨by decide +kernel, rfl⟩
theorem dX5_laws_43 : Dk kX5_laws 43 (.iload 5) 2 45 := ⟨by decide +kernel, rfl⟩
theorem dX5_laws_45 : Dk kX5_laws 45 (.putfield 82) 3 48 := ⟨by decide +kernel, rfl⟩
theorem dX5_laws_48 : Dk kX5_laws 48 (.iload 4) 2 50 := ⟨by decide +kernel, rfl⟩
theorem dX5_laws_50 : Dk kX5_laws 50 (.aload_n 0) 1 51 := ⟨by decide +kernel, rfl⟩
theorem dX5_laws_51 : Dk kX5_laws 51 (.aload_n 0) 1 52 := ⟨by decide +kernel, rfl⟩
theorem dX5_laws_52 : Dk kX5_laws 52 (.getfield 17) 3 55 := ⟨by decide +kernel, rfl⟩
theorem dX5_laws_55 : Dk kX5_laws 55 (.iload_n 1) 1 56 := ⟨by decide +kernel, rfl⟩
theorem dX5_laws_56 : Dk kX5_laws 56 (.aaload) 1 57 := ⟨by decide +kernel, rfl⟩
theorem dX5_laws_57 : Dk kX5_laws 57 (.iload_n 2) 1 58 := ⟨by decide +kernel, rfl⟩
theorem dX5_laws_58 : Dk kX5_laws 58 (.invokevirtual 211) 3 61 := ⟨by decide +kernel, rfl⟩
theorem dX5_laws_61 : Dk kX5_laws 61 (.iconst (-1)) 1 62 := ⟨by decide +kernel, rfl⟩
theorem dX5_laws_62 : Dj kX5_laws 62 (fun o => .if_icmp .ne o) 3 65 72 := ⟨10, by decide +kernel, rfl, by decide⟩
theorem dX5_laws_65 : Dk kX5_laws 65 (.iconst 1) 1 66 := ⟨by decide +kernel, rfl⟩
theorem dX5_laws_66 : Dk kX5_laws 66 (.iload 5) 2 68 := ⟨by decide +kernel, rfl⟩
theorem dX5_laws_68 : Dk kX5_laws 68 (.ishl) 1 69 := ⟨by decide +kernel, rfl⟩
theorem dX5_laws_69 : Dj kX5_laws 69 (fun o => .goto o) 3 72 73 := ⟨4, by decide +kernel, rfl, by decide⟩
theorem dX5_laws_72 : Dk kX5_laws 72 (.iconst 0) 1 73 := ⟨by decide +kernel, rfl⟩
theorem dX5_laws_73 : Dk kX5_laws 73 (.ior) 1 74 := ⟨by decide +kernel, rfl⟩
theorem dX5_laws_74 : Dk kX5_laws 74 (.istore 4) 2 76 := ⟨by decide +kernel, rfl⟩
theorem dX5_laws_76 : Dk kX5_laws 76 (.iinc 5 1) 3 79 := ⟨by decide +kernel, rfl⟩
theorem dX5_laws_79 : Dj kX5_laws 79 (fun o => .goto o) 3 82 19 := ⟨-60, by decide +kernel, rfl, by decide⟩
theorem dX5_laws_82 : Dk kX5_laws 82 (.iload 4) 2 84 := ⟨by decide +kernel, rfl⟩
theorem dX5_laws_84 : Dk kX5_laws 84 (.ireturn) 1 85 := ⟨by decide +kernel, rfl⟩
theorem dX5_film_0 : Dk kX5_film 0 (.iload_n 1) 1 1 := ⟨by decide +kernel, rfl⟩
theorem dX5_film_1 : Dk kX5_film 1 (.invokestatic 218) 3 4 := ⟨by decide +kernel, rfl⟩
theorem dX5_film_4 : Dj kX5_film 4 (fun o => .ifCond .ne o) 3 7 10 := ⟨6, by decide +kernel, rfl, by decide⟩
theorem dX5_film_7 : Dk kX5_film 7 (.bipush (-2)) 2 9 := ⟨by decide +kernel, rfl⟩
theorem dX5_film_9 : Dk kX5_film 9 (.ireturn) 1 10 := ⟨by decide +kernel, rfl⟩
theorem dX5_film_10 : Dk kX5_film 10 (.aload_n 0) 1 11 := ⟨by decide +kernel, rfl⟩
theorem dX5_film_11 : Dk kX5_film 11 (.iload_n 2) 1 12 := ⟨by decide +kernel, rfl⟩
theorem dX5_film_12 : Dk kX5_film 12 (.invokevirtual 107) 3 15 := ⟨by decide +kernel, rfl⟩
theorem dX5_film_15 : Dj kX5_film 15 (fun o => .ifCond .ne o) 3 18 21 := ⟨6, by decide +kernel, rfl, by decide⟩
theorem dX5_film_18 : Dk kX5_film 18 (.bipush (-5)) 2 20 := ⟨by decide +kernel, rfl⟩
theorem dX5_film_20 : Dk kX5_film 20 (.ireturn) 1 21 := ⟨by decide +kernel, rfl⟩
theorem dX5_film_21 : Dk kX5_film 21 (.iload_n 3) 1 22 := ⟨by decide +kernel, rfl⟩
theorem dX5_film_22 : Dk kX5_film 22 (.iconst 0) 1 23 := ⟨by decide +kernel, rfl⟩
theorem dX5_film_23 : Dk kX5_film 23 (.bipush 20) 2 25 := ⟨by decide +kernel, rfl⟩
theorem dX5_film_25 : Dk kX5_film 25 (.invokestatic 88) 3 28 := ⟨by decide +kernel, rfl⟩
theorem dX5_film_28 : Dj kX5_film 28 (fun o => .ifCond .ne o) 3 31 34 := ⟨6, by decide +kernel, rfl, by decide⟩
theorem dX5_film_31 : Dk kX5_film 31 (.bipush (-7)) 2 33 := ⟨by decide +kernel, rfl⟩
theorem dX5_film_33 : Dk kX5_film 33 (.ireturn) 1 34 := ⟨by decide +kernel, rfl⟩
theorem dX5_film_34 : Dk kX5_film 34 (.aload_n 0) 1 35 := ⟨by decide +kernel, rfl⟩
theorem dX5_film_35 : Dk kX5_film 35 (.getfield 17) 3 38 := ⟨by decide +kernel, rfl⟩
theorem dX5_film_38 : Dk kX5_film 38 (.iload_n 1) 1 39 := ⟨by decide +kernel, rfl⟩
theorem dX5_film_39 : Dk kX5_film 39 (.aaload) 1 40 := ⟨by decide +kernel, rfl⟩
theorem dX5_film_40 : Dk kX5_film 40 (.iconst 0) 1 41 := ⟨by decide +kernel, rfl⟩
theorem dX5_film_41 : Dk kX5_film 41 (.iload_n 3) 1 42 := ⟨by decide +kernel, rfl⟩
theorem dX5_film_42 : Dk kX5_film 42 (.invokevirtual 221) 3 45 := ⟨by decide +kernel, rfl⟩
theorem dX5_film_45 : Dk kX5_film 45 (.aload_n 0) 1 46 := ⟨by decide +kernel, rfl⟩
theorem dX5_film_46 : Dk kX5_film 46 (.getfield 46) 3 49 := ⟨by decide +kernel, rfl⟩
theorem dX5_film_49 : Dk kX5_film 49 (.aload_n 0) 1 50 := ⟨by decide +kernel, rfl⟩
theorem dX5_film_50 : Dk kX5_film 50 (.getfield 42) 3 53 := ⟨by decide +kernel, rfl⟩
theorem dX5_film_53 : Dk kX5_film 53 (.invokevirtual 175) 3 56 := ⟨by decide +kernel, rfl⟩
theorem dX5_film_56 : Dk kX5_film 56 (.iconst 0) 1 57 := ⟨by decide +kernel, rfl⟩
theorem dX5_film_57 : Dk kX5_film 57 (.istore 4) 2 59 := ⟨by decide +kernel, rfl⟩
theorem dX5_film_59 : Dk kX5_film 59 (.iload 4) 2 61 := ⟨by decide +kernel, rfl⟩
theorem dX5_film_61 : Dk kX5_film 61 (.iload_n 3) 1 62 := ⟨by decide +kernel, rfl⟩
theorem dX5_film_62 : Dj kX5_film 62 (fun o => .if_icmp .ge o) 3 65 99 := ⟨37, by decide +kernel, rfl, by decide⟩
theorem dX5_film_65 : Dk kX5_film 65 (.aload_n 0) 1 66 := ⟨by decide +kernel, rfl⟩
theorem dX5_film_66 : Dk kX5_film 66 (.getfield 46) 3 69 := ⟨by decide +kernel, rfl⟩
theorem dX5_film_69 : Dk kX5_film 69 (.invokevirtual 167) 3 72 := ⟨by decide +kernel, rfl⟩
theorem dX5_film_72 : Dk kX5_film 72 (.pop) 1 73 := ⟨by decide +kernel, rfl⟩
theorem dX5_film_73 : Dk kX5_film 73 (.aload_n 0) 1 74 := ⟨by decide +kernel, rfl⟩
theorem dX5_film_74 : Dk kX5_film 74 (.getfield 17) 3 77 := ⟨by decide +kernel, rfl⟩
theorem dX5_film_77 : Dk kX5_film 77 (.iload_n 1) 1 78 := ⟨by decide +kernel, rfl⟩
theorem dX5_film_78 : Dk kX5_film 78 (.aaload) 1 79 := ⟨by decide +kernel, rfl⟩
theorem dX5_film_79 : Dk kX5_film 79 (.iload 4) 2 81 := ⟨by decide +kernel, rfl⟩
theorem dX5_film_81 : Dk kX5_film 81 (.aload_n 0) 1 82 := ⟨by decide +kernel, rfl⟩
theorem dX5_film_82 : Dk kX5_film 82 (.getfield 46) 3 85 := ⟨by decide +kernel, rfl⟩
theorem dX5_film_85 : Dk kX5_film 85 (.getfield 140) 3 88 := ⟨by decide +kernel, rfl⟩
theorem dX5_film_88 : Dk kX5_film 88 (.iload_n 2) 1 89 := ⟨by decide +kernel, rfl⟩
theorem dX5_film_89 : Dk kX5_film 89 (.iaload) 1 90 := ⟨by decide +kernel, rfl⟩
theorem dX5_film_90 : Dk kX5_film 90 (.invokevirtual 224) 3 93 := ⟨by decide +kernel, rfl⟩
theorem dX5_film_93 : Dk kX5_film 93 (.iinc 4 1) 3 96 := ⟨by decide +kernel, rfl⟩
theorem dX5_film_96 : Dj kX5_film 96 (fun o => .goto o) 3 99 59 := ⟨-37, by decide +kernel, rfl, by decide⟩
theorem dX5_film_99 : Dk kX5_film 99 (.iload_n 3) 1 100 := ⟨by decide +kernel, rfl⟩
theorem dX5_film_100 : Dk kX5_film 100 (.ireturn) 1 101 := ⟨by decide +kernel, rfl⟩
theorem dX5_refusalOfSheet_0 : Dk kX5_refusalOfSheet 0 (.iload_n 1) 1 1 := ⟨by decide +kernel, rfl⟩
theorem dX5_refusalOfSheet_1 : Dk kX5_refusalOfSheet 1 (.invokestatic 218) 3 4 := ⟨by decide +kernel, rfl⟩
theorem dX5_refusalOfSheet_4 : Dj kX5_refusalOfSheet 4 (fun o => .ifCond .ne o) 3 7 10 := ⟨6, by decide +kernel, rfl, by decide⟩
theorem dX5_refusalOfSheet_7 : Dk kX5_refusalOfSheet 7 (.bipush (-2)) 2 9 := ⟨by decide +kernel, rfl⟩
theorem dX5_refusalOfSheet_9 : Dk kX5_refusalOfSheet 9 (.ireturn) 1 10 := ⟨by decide +kernel, rfl⟩
theorem dX5_refusalOfSheet_10 : Dk kX5_refusalOfSheet 10 (.aload_n 0) 1 11 := ⟨by decide +kernel, rfl⟩
theorem dX5_refusalOfSheet_11 : Dk kX5_refusalOfSheet 11 (.getfield 17) 3 14 := ⟨by decide +kernel, rfl⟩
theorem dX5_refusalOfSheet_14 : Dk kX5_refusalOfSheet 14 (.iload_n 1) 1 15 := ⟨by decide +kernel, rfl⟩
theorem dX5_refusalOfSheet_15 : Dk kX5_refusalOfSheet 15 (.aaload) 1 16 := ⟨by decide +kernel, rfl⟩
theorem dX5_refusalOfSheet_16 : Dk kX5_refusalOfSheet 16 (.getfield 227) 3 19 := ⟨by decide +kernel, rfl⟩
theorem dX5_refusalOfSheet_19 : Dk kX5_refusalOfSheet 19 (.iconst (-1)) 1 20 := ⟨by decide +kernel, rfl⟩
theorem dX5_refusalOfSheet_20 : Dj kX5_refusalOfSheet 20 (fun o => .if_icmp .ne o) 3 23 26 := ⟨6, by decide +kernel, rfl, by decide⟩
theorem dX5_refusalOfSheet_23 : Dk kX5_refusalOfSheet 23 (.bipush (-11)) 2 25 := ⟨by decide +kernel, rfl⟩
theorem dX5_refusalOfSheet_25 : Dk kX5_refusalOfSheet 25 (.ireturn) 1 26 := ⟨by decide +kernel, rfl⟩
theorem dX5_refusalOfSheet_26 : Dk kX5_refusalOfSheet 26 (.aload_n 0) 1 27 := ⟨by decide +kernel, rfl⟩
theorem dX5_refusalOfSheet_27 : Dk kX5_refusalOfSheet 27 (.getfield 17) 3 30 := ⟨by decide +kernel, rfl⟩
theorem dX5_refusalOfSheet_30 : Dk kX5_refusalOfSheet 30 (.iload_n 1) 1 31 := ⟨by decide +kernel, rfl⟩
theorem dX5_refusalOfSheet_31 : Dk kX5_refusalOfSheet 31 (.aaload) 1 32 := ⟨by decide +kernel, rfl⟩
theorem dX5_refusalOfSheet_32 : Dk kX5_refusalOfSheet 32 (.getfield 230) 3 35 := ⟨by decide +kernel, rfl⟩
theorem dX5_refusalOfSheet_35 : Dk kX5_refusalOfSheet 35 (.bipush 20) 2 37 := ⟨by decide +kernel, rfl⟩
theorem dX5_refusalOfSheet_37 : Dj kX5_refusalOfSheet 37 (fun o => .if_icmp .le o) 3 40 45 := ⟨8, by decide +kernel, rfl, by decide⟩
theorem dX5_refusalOfSheet_40 : Dk kX5_refusalOfSheet 40 (.bipush (-2)) 2 42 := ⟨by decide +kernel, rfl⟩
theorem dX5_refusalOfSheet_42 : Dj kX5_refusalOfSheet 42 (fun o => .goto o) 3 45 46 := ⟨4, by decide +kernel, rfl, by decide⟩
theorem dX5_refusalOfSheet_45 : Dk kX5_refusalOfSheet 45 (.iconst 0) 1 46 := ⟨by decide +kernel, rfl⟩
theorem dX5_refusalOfSheet_46 : Dk kX5_refusalOfSheet 46 (.ireturn) 1 47 := ⟨by decide +kernel, rfl⟩
theorem dX5_refusalOfTold_0 : Dk kX5_refusalOfTold 0 (.aload_n 0) 1 1 := ⟨by decide +kernel, rfl⟩
theorem dX5_refusalOfTold_1 : Dk kX5_refusalOfTold 1 (.iload_n 1) 1 2 := ⟨by decide +kernel, rfl⟩
theorem dX5_refusalOfTold_2 : Dk kX5_refusalOfTold 2 (.invokevirtual 215) 3 5 := ⟨by decide +kernel, rfl⟩
theorem dX5_refusalOfTold_5 : Dk kX5_refusalOfTold 5 (.istore_n 3) 1 6 := ⟨by decide +kernel, rfl⟩
theorem dX5_refusalOfTold_6 : Dk kX5_refusalOfTold 6 (.iload_n 3) 1 7 := ⟨by decide +kernel, rfl⟩
theorem dX5_refusalOfTold_7 : Dj kX5_refusalOfTold 7 (fun o => .ifCond .ne o) 3 10 18 := ⟨11, by decide +kernel, rfl, by decide⟩
theorem dX5_refusalOfTold_10 : Dk kX5_refusalOfTold 10 (.aload_n 0) 1 11 := ⟨by decide +kernel, rfl⟩
theorem dX5_refusalOfTold_11 : Dk kX5_refusalOfTold 11 (.iload_n 2) 1 12 := ⟨by decide +kernel, rfl⟩
theorem dX5_refusalOfTold_12 : Dk kX5_refusalOfTold 12 (.invokevirtual 107) 3 15 := ⟨by decide +kernel, rfl⟩
theorem dX5_refusalOfTold_15 : Dj kX5_refusalOfTold 15 (fun o => .ifCond .eq o) 3 18 22 := ⟨7, by decide +kernel, rfl, by decide⟩
theorem dX5_refusalOfTold_18 : Dk kX5_refusalOfTold 18 (.iload_n 3) 1 19 := ⟨by decide +kernel, rfl⟩
theorem dX5_refusalOfTold_19 : Dj kX5_refusalOfTold 19 (fun o => .goto o) 3 22 24 := ⟨5, by decide +kernel, rfl, by decide⟩
theorem dX5_refusalOfTold_22 : Dk kX5_refusalOfTold 22 (.bipush (-5)) 2 24 := ⟨by decide +kernel, rfl⟩
theorem dX5_refusalOfTold_24 : Dk kX5_refusalOfTold 24 (.ireturn) 1 25 := ⟨by decide +kernel, rfl⟩
theorem dX5_otherwise_0 : Dk kX5_otherwise 0 (.iconst 0) 1 1 := ⟨by decide +kernel, rfl⟩
theorem dX5_otherwise_1 : Dk kX5_otherwise 1 (.istore_n 3) 1 2 := ⟨by decide +kernel, rfl⟩
theorem dX5_otherwise_2 : Dk kX5_otherwise 2 (.iload_n 3) 1 3 := ⟨by decide +kernel, rfl⟩
theorem dX5_otherwise_3 : Dk kX5_otherwise 3 (.aload_n 1) 1 4 := ⟨by decide +kernel, rfl⟩
theorem dX5_otherwise_4 : Dk kX5_otherwise 4 (.getfield 230) 3 7 := ⟨by decide +kernel, rfl⟩
theorem dX5_otherwise_7 : Dj kX5_otherwise 7 (fun o => .if_icmp .ge o) 3 10 44 := ⟨37, by decide +kernel, rfl, by decide⟩
theorem dX5_otherwise_10 : Dk kX5_otherwise 10 (.aload_n 0) 1 11 := ⟨by decide +kernel, rfl⟩
theorem dX5_otherwise_11 : Dk kX5_otherwise 11 (.getfield 46) 3 14 := ⟨by decide +kernel, rfl⟩
theorem dX5_otherwise_14 : Dk kX5_otherwise 14 (.invokevirtual 167) 3 17 := ⟨by decide +kernel, rfl⟩
theorem dX5_otherwise_17 : Dk kX5_otherwise 17 (.pop) 1 18 := ⟨by decide +kernel, rfl⟩
theorem dX5_otherwise_18 : Dk kX5_otherwise 18 (.aload_n 0) 1 19 := ⟨by decide +kernel, rfl⟩
theorem dX5_otherwise_19 : Dk kX5_otherwise 19 (.getfield 46) 3 22 := ⟨by decide +kernel, rfl⟩
theorem dX5_otherwise_22 : Dk kX5_otherwise 22 (.getfield 140) 3 25 := ⟨by decide +kernel, rfl⟩
theorem dX5_otherwise_25 : Dk kX5_otherwise 25 (.iload_n 2) 1 26 := ⟨by decide +kernel, rfl⟩
theorem dX5_otherwise_26 : Dk kX5_otherwise 26 (.iaload) 1 27 := ⟨by decide +kernel, rfl⟩
theorem dX5_otherwise_27 : Dk kX5_otherwise 27 (.aload_n 1) 1 28 := ⟨by decide +kernel, rfl⟩
theorem dX5_otherwise_28 : Dk kX5_otherwise 28 (.getfield 231) 3 31 := ⟨by decide +kernel, rfl⟩
theorem dX5_otherwise_31 : Dk kX5_otherwise 31 (.iload_n 3) 1 32 := ⟨by decide +kernel, rfl⟩
theorem dX5_otherwise_32 : Dk kX5_otherwise 32 (.iaload) 1 33 := ⟨by decide +kernel, rfl⟩
theorem dX5_otherwise_33 : Dj kX5_otherwise 33 (fun o => .if_icmp .eq o) 3 36 38 := ⟨5, by decide +kernel, rfl, by decide⟩
theorem dX5_otherwise_36 : Dk kX5_otherwise 36 (.iload_n 3) 1 37 := ⟨by decide +kernel, rfl⟩
theorem dX5_otherwise_37 : Dk kX5_otherwise 37 (.ireturn) 1 38 := ⟨by decide +kernel, rfl⟩
theorem dX5_otherwise_38 : Dk kX5_otherwise 38 (.iinc 3 1) 3 41 := ⟨by decide +kernel, rfl⟩
theorem dX5_otherwise_41 : Dj kX5_otherwise 41 (fun o => .goto o) 3 44 2 := ⟨-39, by decide +kernel, rfl, by decide⟩
theorem dX5_otherwise_44 : Dk kX5_otherwise 44 (.iconst (-1)) 1 45 := ⟨by decide +kernel, rfl⟩
theorem dX5_otherwise_45 : Dk kX5_otherwise 45 (.ireturn) 1 46 := ⟨by decide +kernel, rfl⟩
theorem dX5_drawn_0 : Dk kX5_drawn 0 (.iload_n 1) 1 1 := ⟨by decide +kernel, rfl⟩
theorem dX5_drawn_1 : Dk kX5_drawn 1 (.iconst 0) 1 2 := ⟨by decide +kernel, rfl⟩
theorem dX5_drawn_2 : Dk kX5_drawn 2 (.ldc 234) 2 4 := ⟨by decide +kernel, rfl⟩
theorem dX5_drawn_4 : Dk kX5_drawn 4 (.invokestatic 88) 3 7 := ⟨by decide +kernel, rfl⟩
theorem dX5_drawn_7 : Dj kX5_drawn 7 (fun o => .ifCond .eq o) 3 10 29 := ⟨22, by decide +kernel, rfl, by decide⟩
theorem dX5_drawn_10 : Dk kX5_drawn 10 (.iload_n 2) 1 11 := ⟨by decide +kernel, rfl⟩
theorem dX5_drawn_11 : Dk kX5_drawn 11 (.iconst 0) 1 12 := ⟨by decide +kernel, rfl⟩
theorem dX5_drawn_12 : Dk kX5_drawn 12 (.bipush 60) 2 14 := ⟨by decide +kernel, rfl⟩
theorem dX5_drawn_14 : Dk kX5_drawn 14 (.invokestatic 88) 3 17 := ⟨by decide +kernel, rfl⟩
theorem dX5_drawn_17 : Dj kX5_drawn 17 (fun o => .ifCond .eq o) 3 20 29 := ⟨12, by decide +kernel, rfl, by decide⟩
theorem dX5_drawn_20 : Dk kX5_drawn 20 (.iload_n 3) 1 21 := ⟨by decide +kernel, rfl⟩
theorem dX5_drawn_21 : Dk kX5_drawn 21 (.iconst 0) 1 22 := ⟨by decide +kernel, rfl⟩
theorem dX5_drawn_22 : Dk kX5_drawn 22 (.iconst 1) 1 23 := ⟨by decide +kernel, rfl⟩
theorem dX5_drawn_23 : Dk kX5_drawn 23 (.invokestatic 88) 3 26 := ⟨by decide +kernel, rfl⟩
theorem dX5_drawn_26 : Dj kX5_drawn 26 (fun o => .ifCond .ne o) 3 29 32 := ⟨6, by decide +kernel, rfl, by decide⟩
theorem dX5_drawn_29 : Dk kX5_drawn 29 (.bipush (-2)) 2 31 := ⟨by decide +kernel, rfl⟩
theorem dX5_drawn_31 : Dk kX5_drawn 31 (.ireturn) 1 32 := ⟨by decide +kernel, rfl⟩
theorem dX5_drawn_32 : Dk kX5_drawn 32 (.aload_n 0) 1 33 := ⟨by decide +kernel, rfl⟩
theorem dX5_drawn_33 : Dk kX5_drawn 33 (.iload_n 1) 1 34 := ⟨by decide +kernel, rfl⟩
theorem dX5_drawn_34 : Dk kX5_drawn 34 (.iload_n 2) 1 35 := ⟨by decide +kernel, rfl⟩
theorem dX5_drawn_35 : Dk kX5_drawn 35 (.invokevirtual 235) 3 38 := ⟨by decide +kernel, rfl⟩
theorem dX5_drawn_38 : Dk kX5_drawn 38 (.istore 4) 2 40 := ⟨by decide +kernel, rfl⟩
theorem dX5_drawn_40 : Dk kX5_drawn 40 (.iload_n 3) 1 41 := ⟨by decide +kernel, rfl⟩
theorem dX5_drawn_41 : Dj kX5_drawn 41 (fun o => .ifCond .ne o) 3 44 54 := ⟨13, by decide +kernel, rfl, by decide⟩
theorem dX5_drawn_44 : Dk kX5_drawn 44 (.aload_n 0) 1 45 := ⟨by decide +kernel, rfl⟩
theorem dX5_drawn_45 : Dk kX5_drawn 45 (.getfield 46) 3 48 := ⟨by decide +kernel, rfl⟩
theorem dX5_drawn_48 : Dk kX5_drawn 48 (.invokevirtual 72) 3 51 := ⟨by decide +kernel, rfl⟩
theorem dX5_drawn_51 : Dj kX5_drawn 51 (fun o => .goto o) 3 54 56 := ⟨5, by decide +kernel, rfl, by decide⟩
theorem dX5_drawn_54 : Dk kX5_drawn 54 (.iload 4) 2 56 := ⟨by decide +kernel, rfl⟩
theorem dX5_drawn_56 : Dk kX5_drawn 56 (.ireturn) 1 57 := ⟨by decide +kernel, rfl⟩
theorem dX5_odds_0 : Dk kX5_odds 0 (.iload_n 1) 1 1 := ⟨by decide +kernel, rfl⟩
theorem dX5_odds_1 : Dk kX5_odds 1 (.iconst 0) 1 2 := ⟨by decide +kernel, rfl⟩
theorem dX5_odds_2 : Dk kX5_odds 2 (.ldc 234) 2 4 := ⟨by decide +kernel, rfl⟩
theorem dX5_odds_4 : Dk kX5_odds 4 (.invokestatic 88) 3 7 := ⟨by decide +kernel, rfl⟩
theorem dX5_odds_7 : Dj kX5_odds 7 (fun o => .ifCond .eq o) 3 10 24 := ⟨17, by decide +kernel, rfl, by decide⟩
theorem dX5_odds_10 : Dk kX5_odds 10 (.iload_n 2) 1 11 := ⟨by decide +kernel, rfl⟩
theorem dX5_odds_11 : Dk kX5_odds 11 (.iconst 1) 1 12 := ⟨by decide +kernel, rfl⟩
theorem dX5_odds_12 : Dk kX5_odds 12 (.bipush 40) 2 14 := ⟨by decide +kernel, rfl⟩
theorem dX5_odds_14 : Dk kX5_odds 14 (.invokestatic 88) 3 17 := ⟨by decide +kernel, rfl⟩
theorem dX5_odds_17 : Dj kX5_odds 17 (fun o => .ifCond .eq o) 3 20 24 := ⟨7, by decide +kernel, rfl, by decide⟩
theorem dX5_odds_20 : Dk kX5_odds 20 (.iconst 1) 1 21 := ⟨by decide +kernel, rfl⟩
theorem dX5_odds_21 : Dj kX5_odds 21 (fun o => .goto o) 3 24 25 := ⟨4, by decide +kernel, rfl, by decide⟩
theorem dX5_odds_24 : Dk kX5_odds 24 (.iconst 0) 1 25 := ⟨by decide +kernel, rfl⟩
theorem dX5_odds_25 : Dk kX5_odds 25 (.istore 5) 2 27 := ⟨by decide +kernel, rfl⟩
theorem dX5_odds_27 : Dk kX5_odds 27 (.iload 5) 2 29 := ⟨by decide +kernel, rfl⟩
theorem dX5_odds_29 : Dj kX5_odds 29 (fun o => .ifCond .eq o) 3 32 52 := ⟨23, by decide +kernel, rfl, by decide⟩
theorem dX5_odds_32 : Dk kX5_odds 32 (.iload_n 3) 1 33 := ⟨by decide +kernel, rfl⟩
theorem dX5_odds_33 : Dk kX5_odds 33 (.iconst 0) 1 34 := ⟨by decide +kernel, rfl⟩
theorem dX5_odds_34 : Dk kX5_odds 34 (.bipush 8) 2 36 := ⟨by decide +kernel, rfl⟩
theorem dX5_odds_36 : Dk kX5_odds 36 (.invokestatic 88) 3 39 := ⟨by decide +kernel, rfl⟩
theorem dX5_odds_39 : Dj kX5_odds 39 (fun o => .ifCond .eq o) 3 42 52 := ⟨13, by decide +kernel, rfl, by decide⟩
theorem dX5_odds_42 : Dk kX5_odds 42 (.iload 4) 2 44 := ⟨by decide +kernel, rfl⟩
theorem dX5_odds_44 : Dk kX5_odds 44 (.iconst 0) 1 45 := ⟨by decide +kernel, rfl⟩
theorem dX5_odds_45 : Dk kX5_odds 45 (.iconst 1) 1 46 := ⟨by decide +kernel, rfl⟩
theorem dX5_odds_46 : Dk kX5_odds 46 (.invokestatic 88) 3 49 := ⟨by decide +kernel, rfl⟩
theorem dX5_odds_49 : Dj kX5_odds 49 (fun o => .ifCond .ne o) 3 52 56 := ⟨7, by decide +kernel, rfl, by decide⟩
theorem dX5_odds_52 : Dk kX5_odds 52 (.ldc2_w 202) 3 55 := ⟨by decide +kernel, rfl⟩
theorem dX5_odds_55 : Dk kX5_odds 55 (.lreturn) 1 56 := ⟨by decide +kernel, rfl⟩
theorem dX5_odds_56 : Dk kX5_odds 56 (.iconst 0) 1 57 := ⟨by decide +kernel, rfl⟩
theorem dX5_odds_57 : Dk kX5_odds 57 (.istore 6) 2 59 := ⟨by decide +kernel, rfl⟩
theorem dX5_odds_59 : Dk kX5_odds 59 (.iconst 0) 1 60 := ⟨by decide +kernel, rfl⟩
theorem dX5_odds_60 : Dk kX5_odds 60 (.istore 7) 2 62 := ⟨by decide +kernel, rfl⟩
theorem dX5_odds_62 : Dk kX5_odds 62 (.iload 7) 2 64 := ⟨by decide +kernel, rfl⟩
theorem dX5_odds_64 : Dk kX5_odds 64 (.iload_n 2) 1 65 := ⟨by decide +kernel, rfl⟩
theorem dX5_odds_65 : Dj kX5_odds 65 (fun o => .if_icmp .ge o) 3 68 102 := ⟨37, by decide +kernel, rfl, by decide⟩
theorem dX5_odds_68 : Dk kX5_odds 68 (.aload_n 0) 1 69 := ⟨by decide +kernel, rfl⟩
theorem dX5_odds_69 : Dk kX5_odds 69 (.iload_n 1) 1 70 := ⟨by decide +kernel, rfl⟩
theorem dX5_odds_70 : Dk kX5_odds 70 (.iload 7) 2 72 := ⟨by decide +kernel, rfl⟩
theorem dX5_odds_72 : Dk kX5_odds 72 (.iadd) 1 73 := ⟨by decide +kernel, rfl⟩
theorem dX5_odds_73 : Dk kX5_odds 73 (.bipush 16) 2 75 := ⟨by decide +kernel, rfl⟩
theorem dX5_odds_75 : Dk kX5_odds 75 (.invokevirtual 235) 3 78 := ⟨by decide +kernel, rfl⟩
theorem dX5_odds_78 : Dk kX5_odds 78 (.pop) 1 79 := ⟨by decide +kernel, rfl⟩
theorem dX5_odds_79 : Dk kX5_odds 79 (.aload_n 0) 1 80 := ⟨by decide +kernel, rfl⟩
theorem dX5_odds_80 : Dk kX5_odds 80 (.getfield 46) 3 83 := ⟨by decide +kernel, rfl⟩
theorem dX5_odds_83 : Dk kX5_odds 83 (.invokevirtual 72) 3 86 := ⟨by decide +kernel, rfl⟩
theorem dX5_odds_86 : Dk kX5_odds 86 (.invokestatic 76) 3 89 := ⟨by decide +kernel, rfl⟩
theorem dX5_odds_89 : Dk kX5_odds 89 (.iload_n 3) 1 90 := ⟨by decide +kernel, rfl⟩
theorem dX5_odds_90 : Dj kX5_odds 90 (fun o => .if_icmp .lt o) 3 93 96 := ⟨6, by decide +kernel, rfl, by decide⟩
theorem dX5_odds_93 : Dk kX5_odds 93 (.iinc 6 1) 3 96 := ⟨by decide +kernel, rfl⟩
theorem dX5_odds_96 : Dk kX5_odds 96 (.iinc 7 1) 3 99 := ⟨by decide +kernel, rfl⟩
theorem dX5_odds_99 : Dj kX5_odds 99 (fun o => .goto o) 3 102 62 := ⟨-37, by decide +kernel, rfl, by decide⟩
theorem dX5_odds_102 : Dk kX5_odds 102 (.iload 6) 2 104 := ⟨by decide +kernel, rfl⟩
theorem dX5_odds_104 : Dk kX5_odds 104 (.iload_n 2) 1 105 := ⟨by decide +kernel, rfl⟩
theorem dX5_odds_105 : Dk kX5_odds 105 (.iload 4) 2 107 := ⟨by decide +kernel, rfl⟩
theorem dX5_odds_107 : Dk kX5_odds 107 (.invokestatic 204) 3 110 := ⟨by decide +kernel, rfl⟩
theorem dX5_odds_110 : Dk kX5_odds 110 (.lreturn) 1 111 := ⟨by decide +kernel, rfl⟩
theorem dX5_image_0 : Dk kX5_image 0 (.aload_n 0) 1 1 := ⟨by decide +kernel, rfl⟩
theorem dX5_image_1 : Dk kX5_image 1 (.getfield 49) 3 4 := ⟨by decide +kernel, rfl⟩
theorem dX5_image_4 : Dk kX5_image 4 (.aload_n 0) 1 5 := ⟨by decide +kernel, rfl⟩
theorem dX5_image_5 : Dk kX5_image 5 (.getfield 42) 3 8 := ⟨by decide +kernel, rfl⟩
theorem dX5_image_8 : Dk kX5_image 8 (.invokevirtual 175) 3 11 := ⟨by decide +kernel, rfl⟩
theorem dX5_image_11 : Dk kX5_image 11 (.aload_n 0) 1 12 := ⟨by decide +kernel, rfl⟩
theorem dX5_image_12 : Dk kX5_image 12 (.iconst 1) 1 13 := ⟨by decide +kernel, rfl⟩
theorem dX5_image_13 : Dk kX5_image 13 (.putfield 56) 3 16 := ⟨by decide +kernel, rfl⟩
theorem dX5_image_16 : Dk kX5_image 16 (.aload_n 0) 1 17 := ⟨by decide +kernel, rfl⟩
theorem dX5_image_17 : Dk kX5_image 17 (.getfield 42) 3 20 := ⟨by decide +kernel, rfl⟩
theorem dX5_image_20 : Dk kX5_image 20 (.getfield 66) 3 23 := ⟨by decide +kernel, rfl⟩
theorem dX5_image_23 : Dk kX5_image 23 (.ireturn) 1 24 := ⟨by decide +kernel, rfl⟩
theorem dX5_back_0 : Dk kX5_back 0 (.aload_n 0) 1 1 := ⟨by decide +kernel, rfl⟩
theorem dX5_back_1 : Dk kX5_back 1 (.getfield 56) 3 4 := ⟨by decide +kernel, rfl⟩
theorem dX5_back_4 : Dj kX5_back 4 (fun o => .ifCond .ne o) 3 7 10 := ⟨6, by decide +kernel, rfl, by decide⟩
theorem dX5_back_7 : Dk kX5_back 7 (.bipush (-3)) 2 9 := ⟨by decide +kernel, rfl⟩
theorem dX5_back_9 : Dk kX5_back 9 (.ireturn) 1 10 := ⟨by decide +kernel, rfl⟩
theorem dX5_back_10 : Dk kX5_back 10 (.aload_n 0) 1 11 := ⟨by decide +kernel, rfl⟩
theorem dX5_back_11 : Dk kX5_back 11 (.getfield 42) 3 14 := ⟨by decide +kernel, rfl⟩
theorem dX5_back_14 : Dk kX5_back 14 (.aload_n 0) 1 15 := ⟨by decide +kernel, rfl⟩
theorem dX5_back_15 : Dk kX5_back 15 (.getfield 49) 3 18 := ⟨by decide +kernel, rfl⟩
theorem dX5_back_18 : Dk kX5_back 18 (.invokevirtual 175) 3 21 := ⟨by decide +kernel, rfl⟩
theorem dX5_back_21 : Dk kX5_back 21 (.aload_n 0) 1 22 := ⟨by decide +kernel, rfl⟩
theorem dX5_back_22 : Dk kX5_back 22 (.getfield 42) 3 25 := ⟨by decide +kernel, rfl⟩
theorem dX5_back_25 : Dk kX5_back 25 (.getfield 66) 3 28 := ⟨by decide +kernel, rfl⟩
theorem dX5_back_28 : Dk kX5_back 28 (.ireturn) 1 29 := ⟨by decide +kernel, rfl⟩
theorem dX5_thinkByLots_0 : Dk kX5_thinkByLots 0 (.aload_n 0) 1 1 := ⟨by decide +kernel, rfl⟩
theorem dX5_thinkByLots_1 : Dk kX5_thinkByLots 1 (.getfield 46) 3 4 := ⟨by decide +kernel, rfl⟩
theorem dX5_thinkByLots_4 : Dk kX5_thinkByLots 4 (.aload_n 0) 1 5 := ⟨by decide +kernel, rfl⟩
theorem dX5_thinkByLots_5 : Dk kX5_thinkByLots 5 (.getfield 42) 3 8 := ⟨by decide +kernel, rfl⟩
theorem dX5_thinkByLots_8 : Dk kX5_thinkByLots 8 (.invokevirtual 175) 3 11 := ⟨by decide +kernel, rfl⟩
theorem dX5_thinkByLots_11 : Dk kX5_thinkByLots 11 (.iconst 0) 1 12 := ⟨by decide +kernel, rfl⟩
theorem dX5_thinkByLots_12 : Dk kX5_thinkByLots 12 (.istore_n 3) 1 13 := ⟨by decide +kernel, rfl⟩
theorem dX5_thinkByLots_13 : Dk kX5_thinkByLots 13 (.iload_n 1) 1 14 := ⟨by decide +kernel, rfl⟩
theorem dX5_thinkByLots_14 : Dk kX5_thinkByLots 14 (.iconst 1) 1 15 := ⟨by decide +kernel, rfl⟩
theorem dX5_thinkByLots_15 : Dk kX5_thinkByLots 15 (.iadd) 1 16 := ⟨by decide +kernel, rfl⟩
theorem dX5_thinkByLots_16 : Dk kX5_thinkByLots 16 (.i2l) 1 17 := ⟨by decide +kernel, rfl⟩
theorem dX5_thinkByLots_17 : Dk kX5_thinkByLots 17 (.lstore 4) 2 19 := ⟨by decide +kernel, rfl⟩
theorem dX5_thinkByLots_19 : Dk kX5_thinkByLots 19 (.iconst 0) 1 20 := ⟨by decide +kernel, rfl⟩
theorem dX5_thinkByLots_20 : Dk kX5_thinkByLots 20 (.istore 6) 2 22 := ⟨by decide +kernel, rfl⟩
theorem dX5_thinkByLots_22 : Dk kX5_thinkByLots 22 (.iload 6) 2 24 := ⟨by decide +kernel, rfl⟩
theorem dX5_thinkByLots_24 : Dk kX5_thinkByLots 24 (.iload_n 2) 1 25 := ⟨by decide +kernel, rfl⟩
theorem dX5_thinkByLots_25 : Dj kX5_thinkByLots 25 (fun o => .if_icmp .ge o) 3 28 93 := ⟨68, by decide +kernel, rfl, by decide⟩
theorem dX5_thinkByLots_28 : Dk kX5_thinkByLots 28 (.lload 4) 2 30 := ⟨by decide +kernel, rfl⟩
theorem dX5_thinkByLots_30 : Dk kX5_thinkByLots 30 (.invokestatic 238) 3 33 := ⟨by decide +kernel, rfl⟩
theorem dX5_thinkByLots_33 : Dk kX5_thinkByLots 33 (.lstore 4) 2 35 := ⟨by decide +kernel, rfl⟩
theorem dX5_thinkByLots_35 : Dk kX5_thinkByLots 35 (.lload 4) 2 37 := ⟨by decide +kernel, rfl⟩
theorem dX5_thinkByLots_37 : Dk kX5_thinkByLots 37 (.ldc2_w 242) 3 40 := ⟨by decide +kernel, rfl⟩
theorem dX5_thinkByLots_40 : Dk kX5_thinkByLots 40 (.lrem) 1 41 := ⟨by decide +kernel, rfl⟩
theorem dX5_thinkByLots_41 : Dk kX5_thinkByLots 41 (.l2i) 1 42 := ⟨by decide +kernel, rfl⟩
theorem dX5_thinkByLots_42 : Dk kX5_thinkByLots 42 (.istore 7) 2 44 := ⟨by decide +kernel, rfl⟩
theorem dX5_thinkByLots_44 : Dk kX5_thinkByLots 44 (.lload 4) 2 46 := ⟨by decide +kernel, rfl⟩
theorem dX5_thinkByLots_46 : Dk kX5_thinkByLots 46 (.invokestatic 238) 3 49 := ⟨by decide +kernel, rfl⟩
theorem dX5_thinkByLots_49 : Dk kX5_thinkByLots 49 (.lstore 4) 2 51 := ⟨by decide +kernel, rfl⟩
theorem dX5_thinkByLots_51 : Dk kX5_thinkByLots 51 (.lload 4) 2 53 := ⟨by decide +kernel, rfl⟩
theorem dX5_thinkByLots_53 : Dk kX5_thinkByLots 53 (.ldc2_w 244) 3 56 := ⟨by decide +kernel, rfl⟩
theorem dX5_thinkByLots_56 : Dk kX5_thinkByLots 56 (.lrem) 1 57 := ⟨by decide +kernel, rfl⟩
theorem dX5_thinkByLots_57 : Dk kX5_thinkByLots 57 (.l2i) 1 58 := ⟨by decide +kernel, rfl⟩
theorem dX5_thinkByLots_58 : Dk kX5_thinkByLots 58 (.istore 8) 2 60 := ⟨by decide +kernel, rfl⟩
theorem dX5_thinkByLots_60 : Dk kX5_thinkByLots 60 (.aload_n 0) 1 61 := ⟨by decide +kernel, rfl⟩
theorem dX5_thinkByLots_61 : Dk kX5_thinkByLots 61 (.iload 7) 2 63 := ⟨by decide +kernel, rfl⟩
theorem dX5_thinkByLots_63 : Dk kX5_thinkByLots 63 (.invokevirtual 107) 3 66 := ⟨by decide +kernel, rfl⟩
theorem dX5_thinkByLots_66 : Dj kX5_thinkByLots 66 (fun o => .ifCond .eq o) 3 69 87 := ⟨21, by decide +kernel, rfl, by decide⟩
theorem dX5_thinkByLots_69 : Dk kX5_thinkByLots 69 (.aload_n 0) 1 70 := ⟨by decide +kernel, rfl⟩
theorem dX5_thinkByLots_70 : Dk kX5_thinkByLots 70 (.getfield 46) 3 73 := ⟨by decide +kernel, rfl⟩
theorem dX5_thinkByLots_73 : Dk kX5_thinkByLots 73 (.iload 7) 2 75 := ⟨by decide +kernel, rfl⟩
theorem dX5_thinkByLots_75 : Dk kX5_thinkByLots 75 (.iload 8) 2 77 := ⟨by decide +kernel, rfl⟩
theorem dX5_thinkByLots_77 : Dk kX5_thinkByLots 77 (.invokevirtual 164) 3 80 := ⟨by decide +kernel, rfl⟩
theorem dX5_thinkByLots_80 : Dk kX5_thinkByLots 80 (.iconst 2) 1 81 := ⟨by decide +kernel, rfl⟩
theorem dX5_thinkByLots_81 : Dj kX5_thinkByLots 81 (fun o => .if_icmp .ne o) 3 84 87 := ⟨6, by decide +kernel, rfl, by decide⟩
theorem dX5_thinkByLots_84 : Dk kX5_thinkByLots 84 (.iinc 3 1) 3 87 := ⟨by decide +kernel, rfl⟩
theorem dX5_thinkByLots_87 : Dk kX5_thinkByLots 87 (.iinc 6 1) 3 90 := ⟨by decide +kernel, rfl⟩
theorem dX5_thinkByLots_90 : Dj kX5_thinkByLots 90 (fun o => .goto o) 3 93 22 := ⟨-68, by decide +kernel, rfl, by decide⟩
theorem dX5_thinkByLots_93 : Dk kX5_thinkByLots 93 (.iload_n 3) 1 94 := ⟨by decide +kernel, rfl⟩
theorem dX5_thinkByLots_94 : Dk kX5_thinkByLots 94 (.ireturn) 1 95 := ⟨by decide +kernel, rfl⟩
theorem dX5_nextLot_0 : Dk kX5_nextLot 0 (.lload_n 0) 1 1 := ⟨by decide +kernel, rfl⟩
theorem dX5_nextLot_1 : Dk kX5_nextLot 1 (.ldc2_w 246) 3 4 := ⟨by decide +kernel, rfl⟩
theorem dX5_nextLot_4 : Dk kX5_nextLot 4 (.lmul) 1 5 := ⟨by decide +kernel, rfl⟩
theorem dX5_nextLot_5 : Dk kX5_nextLot 5 (.ldc2_w 248) 3 8 := ⟨by decide +kernel, rfl⟩
theorem dX5_nextLot_8 : Dk kX5_nextLot 8 (.lrem) 1 9 := ⟨by decide +kernel, rfl⟩
theorem dX5_nextLot_9 : Dk kX5_nextLot 9 (.lreturn) 1 10 := ⟨by decide +kernel, rfl⟩
theorem dX5_sheet_0 : Dk kX5_sheet 0 (.iload_n 1) 1 1 := ⟨by decide +kernel, rfl⟩
theorem dX5_sheet_1 : Dk kX5_sheet 1 (.invokestatic 218) 3 4 := ⟨by decide +kernel, rfl⟩
theorem dX5_sheet_4 : Dj kX5_sheet 4 (fun o => .ifCond .eq o) 3 7 16 := ⟨12, by decide +kernel, rfl, by decide⟩
theorem dX5_sheet_7 : Dk kX5_sheet 7 (.iload_n 2) 1 8 := ⟨by decide +kernel, rfl⟩
theorem dX5_sheet_8 : Dk kX5_sheet 8 (.iconst (-1)) 1 9 := ⟨by decide +kernel, rfl⟩
theorem dX5_sheet_9 : Dk kX5_sheet 9 (.iconst 2) 1 10 := ⟨by decide +kernel, rfl⟩
theorem dX5_sheet_10 : Dk kX5_sheet 10 (.invokestatic 88) 3 13 := ⟨by decide +kernel, rfl⟩
theorem dX5_sheet_13 : Dj kX5_sheet 13 (fun o => .ifCond .ne o) 3 16 19 := ⟨6, by decide +kernel, rfl, by decide⟩
theorem dX5_sheet_16 : Dk kX5_sheet 16 (.bipush (-2)) 2 18 := ⟨by decide +kernel, rfl⟩
theorem dX5_sheet_18 : Dk kX5_sheet 18 (.ireturn) 1 19 := ⟨by decide +kernel, rfl⟩
theorem dX5_sheet_19 : Dk kX5_sheet 19 (.iload_n 2) 1 20 := ⟨by decide +kernel, rfl⟩
theorem dX5_sheet_20 : Dk kX5_sheet 20 (.iconst (-1)) 1 21 := ⟨by decide +kernel, rfl⟩
theorem dX5_sheet_21 : Dj kX5_sheet 21 (fun o => .if_icmp .ne o) 3 24 37 := ⟨16, by decide +kernel, rfl, by decide⟩
theorem dX5_sheet_24 : Dk kX5_sheet 24 (.aload_n 0) 1 25 := ⟨by decide +kernel, rfl⟩
theorem dX5_sheet_25 : Dk kX5_sheet 25 (.getfield 17) 3 28 := ⟨by decide +kernel, rfl⟩
theorem dX5_sheet_28 : Dk kX5_sheet 28 (.iload_n 1) 1 29 := ⟨by decide +kernel, rfl⟩
theorem dX5_sheet_29 : Dk kX5_sheet 29 (.aaload) 1 30 := ⟨by decide +kernel, rfl⟩
theorem dX5_sheet_30 : Dk kX5_sheet 30 (.iconst (-1)) 1 31 := ⟨by decide +kernel, rfl⟩
theorem dX5_sheet_31 : Dk kX5_sheet 31 (.iconst 0) 1 32 := ⟨by decide +kernel, rfl⟩
theorem dX5_sheet_32 : Dk kX5_sheet 32 (.invokevirtual 221) 3 35 := ⟨by decide +kernel, rfl⟩
theorem dX5_sheet_35 : Dk kX5_sheet 35 (.iconst 1) 1 36 := ⟨by decide +kernel, rfl⟩
theorem dX5_sheet_36 : Dk kX5_sheet 36 (.ireturn) 1 37 := ⟨by decide +kernel, rfl⟩
theorem dX5_sheet_37 : Dk kX5_sheet 37 (.iload_n 3) 1 38 := ⟨by decide +kernel, rfl⟩
theorem dX5_sheet_38 : Dk kX5_sheet 38 (.bipush 40) 2 40 := ⟨by decide +kernel, rfl⟩
theorem dX5_sheet_40 : Dj kX5_sheet 40 (fun o => .if_icmp .le o) 3 43 46 := ⟨6, by decide +kernel, rfl, by decide⟩
theorem dX5_sheet_43 : Dk kX5_sheet 43 (.bipush (-2)) 2 45 := ⟨by decide +kernel, rfl⟩
theorem dX5_sheet_45 : Dk kX5_sheet 45 (.ireturn) 1 46 := ⟨by decide +kernel, rfl⟩
theorem dX5_sheet_46 : Dk kX5_sheet 46 (.iload_n 3) 1 47 := ⟨by decide +kernel, rfl⟩
theorem dX5_sheet_47 : Dj kX5_sheet 47 (fun o => .ifCond .ge o) 3 50 53 := ⟨6, by decide +kernel, rfl, by decide⟩
theorem dX5_sheet_50 : Dk kX5_sheet 50 (.bipush (-14)) 2 52 := ⟨by decide +kernel, rfl⟩
theorem dX5_sheet_52 : Dk kX5_sheet 52 (.ireturn) 1 53 := ⟨by decide +kernel, rfl⟩
theorem dX5_sheet_53 : Dk kX5_sheet 53 (.aload_n 0) 1 54 := ⟨by decide +kernel, rfl⟩
theorem dX5_sheet_54 : Dk kX5_sheet 54 (.getfield 17) 3 57 := ⟨by decide +kernel, rfl⟩
theorem dX5_sheet_57 : Dk kX5_sheet 57 (.iload_n 1) 1 58 := ⟨by decide +kernel, rfl⟩
theorem dX5_sheet_58 : Dk kX5_sheet 58 (.aaload) 1 59 := ⟨by decide +kernel, rfl⟩
theorem dX5_sheet_59 : Dk kX5_sheet 59 (.iload_n 2) 1 60 := ⟨by decide +kernel, rfl⟩
theorem dX5_sheet_60 : Dk kX5_sheet 60 (.iload_n 3) 1 61 := ⟨by decide +kernel, rfl⟩
theorem dX5_sheet_61 : Dk kX5_sheet 61 (.invokevirtual 221) 3 64 := ⟨by decide +kernel, rfl⟩
theorem dX5_sheet_64 : Dk kX5_sheet 64 (.iconst 1) 1 65 := ⟨by decide +kernel, rfl⟩
theorem dX5_sheet_65 : Dk kX5_sheet 65 (.ireturn) 1 66 := ⟨by decide +kernel, rfl⟩
theorem dX5_cell_0 : Dk kX5_cell 0 (.iload_n 1) 1 1 := ⟨by decide +kernel, rfl⟩
theorem dX5_cell_1 : Dk kX5_cell 1 (.invokestatic 218) 3 4 := ⟨by decide +kernel, rfl⟩
theorem dX5_cell_4 : Dj kX5_cell 4 (fun o => .ifCond .ne o) 3 7 10 := ⟨6, by decide +kernel, rfl, by decide⟩
theorem dX5_cell_7 : Dk kX5_cell 7 (.bipush (-2)) 2 9 := ⟨by decide +kernel, rfl⟩
theorem dX5_cell_9 : Dk kX5_cell 9 (.ireturn) 1 10 := ⟨by decide +kernel, rfl⟩
theorem dX5_cell_10 : Dk kX5_cell 10 (.aload_n 0) 1 11 := ⟨by decide +kernel, rfl⟩
theorem dX5_cell_11 : Dk kX5_cell 11 (.getfield 17) 3 14 := ⟨by decide +kernel, rfl⟩
theorem dX5_cell_14 : Dk kX5_cell 14 (.iload_n 1) 1 15 := ⟨by decide +kernel, rfl⟩
theorem dX5_cell_15 : Dk kX5_cell 15 (.aaload) 1 16 := ⟨by decide +kernel, rfl⟩
theorem dX5_cell_16 : Dk kX5_cell 16 (.getfield 227) 3 19 := ⟨by decide +kernel, rfl⟩
theorem dX5_cell_19 : Dk kX5_cell 19 (.iconst (-1)) 1 20 := ⟨by decide +kernel, rfl⟩
theorem dX5_cell_20 : Dj kX5_cell 20 (fun o => .if_icmp .ne o) 3 23 26 := ⟨6, by decide +kernel, rfl, by decide⟩
theorem dX5_cell_23 : Dk kX5_cell 23 (.bipush (-11)) 2 25 := ⟨by decide +kernel, rfl⟩
theorem dX5_cell_25 : Dk kX5_cell 25 (.ireturn) 1 26 := ⟨by decide +kernel, rfl⟩
theorem dX5_cell_26 : Dk kX5_cell 26 (.aload_n 0) 1 27 := ⟨by decide +kernel, rfl⟩
theorem dX5_cell_27 : Dk kX5_cell 27 (.getfield 17) 3 30 := ⟨by decide +kernel, rfl⟩
theorem dX5_cell_30 : Dk kX5_cell 30 (.iload_n 1) 1 31 := ⟨by decide +kernel, rfl⟩
theorem dX5_cell_31 : Dk kX5_cell 31 (.aaload) 1 32 := ⟨by decide +kernel, rfl⟩
theorem dX5_cell_32 : Dk kX5_cell 32 (.iload_n 2) 1 33 := ⟨by decide +kernel, rfl⟩
theorem dX5_cell_33 : Dk kX5_cell 33 (.invokevirtual 250) 3 36 := ⟨by decide +kernel, rfl⟩
theorem dX5_cell_36 : Dj kX5_cell 36 (fun o => .ifCond .ne o) 3 39 42 := ⟨6, by decide +kernel, rfl, by decide⟩
theorem dX5_cell_39 : Dk kX5_cell 39 (.bipush (-12)) 2 41 := ⟨by decide +kernel, rfl⟩
theorem dX5_cell_41 : Dk kX5_cell 41 (.ireturn) 1 42 := ⟨by decide +kernel, rfl⟩
theorem dX5_cell_42 : Dk kX5_cell 42 (.aload_n 0) 1 43 := ⟨by decide +kernel, rfl⟩
theorem dX5_cell_43 : Dk kX5_cell 43 (.getfield 17) 3 46 := ⟨by decide +kernel, rfl⟩
theorem dX5_cell_46 : Dk kX5_cell 46 (.iload_n 1) 1 47 := ⟨by decide +kernel, rfl⟩
theorem dX5_cell_47 : Dk kX5_cell 47 (.aaload) 1 48 := ⟨by decide +kernel, rfl⟩
theorem dX5_cell_48 : Dk kX5_cell 48 (.iload_n 2) 1 49 := ⟨by decide +kernel, rfl⟩
theorem dX5_cell_49 : Dk kX5_cell 49 (.iload_n 3) 1 50 := ⟨by decide +kernel, rfl⟩
theorem dX5_cell_50 : Dk kX5_cell 50 (.invokevirtual 224) 3 53 := ⟨by decide +kernel, rfl⟩
theorem dX5_cell_53 : Dk kX5_cell 53 (.iconst 1) 1 54 := ⟨by decide +kernel, rfl⟩
theorem dX5_cell_54 : Dk kX5_cell 54 (.ireturn) 1 55 := ⟨by decide +kernel, rfl⟩
theorem dX5_copy_0 : Dk kX5_copy 0 (.iload_n 1) 1 1 := ⟨by decide +kernel, rfl⟩
theorem dX5_copy_1 : Dk kX5_copy 1 (.invokestatic 218) 3 4 := ⟨by decide +kernel, rfl⟩
theorem dX5_copy_4 : Dj kX5_copy 4 (fun o => .ifCond .eq o) 3 7 14 := ⟨10, by decide +kernel, rfl, by decide⟩
theorem dX5_copy_7 : Dk kX5_copy 7 (.iload_n 3) 1 8 := ⟨by decide +kernel, rfl⟩
theorem dX5_copy_8 : Dk kX5_copy 8 (.invokestatic 218) 3 11 := ⟨by decide +kernel, rfl⟩
theorem dX5_copy_11 : Dj kX5_copy 11 (fun o => .ifCond .ne o) 3 14 17 := ⟨6, by decide +kernel, rfl, by decide⟩
theorem dX5_copy_14 : Dk kX5_copy 14 (.bipush (-2)) 2 16 := ⟨by decide +kernel, rfl⟩
theorem dX5_copy_16 : Dk kX5_copy 16 (.ireturn) 1 17 := ⟨by decide +kernel, rfl⟩
theorem dX5_copy_17 : Dk kX5_copy 17 (.aload_n 0) 1 18 := ⟨by decide +kernel, rfl⟩
theorem dX5_copy_18 : Dk kX5_copy 18 (.getfield 17) 3 21 := ⟨by decide +kernel, rfl⟩
theorem dX5_copy_21 : Dk kX5_copy 21 (.iload_n 1) 1 22 := ⟨by decide +kernel, rfl⟩
theorem dX5_copy_22 : Dk kX5_copy 22 (.aaload) 1 23 := ⟨by decide +kernel, rfl⟩
theorem dX5_copy_23 : Dk kX5_copy 23 (.astore 6) 2 25 := ⟨by decide +kernel, rfl⟩
theorem dX5_copy_25 : Dk kX5_copy 25 (.aload_n 0) 1 26 := ⟨by decide +kernel, rfl⟩
theorem dX5_copy_26 : Dk kX5_copy 26 (.getfield 17) 3 29 := ⟨by decide +kernel, rfl⟩
theorem dX5_copy_29 : Dk kX5_copy 29 (.iload_n 3) 1 30 := ⟨by decide +kernel, rfl⟩
theorem dX5_copy_30 : Dk kX5_copy 30 (.aaload) 1 31 := ⟨by decide +kernel, rfl⟩
theorem dX5_copy_31 : Dk kX5_copy 31 (.astore 7) 2 33 := ⟨by decide +kernel, rfl⟩
theorem dX5_copy_33 : Dk kX5_copy 33 (.aload 6) 2 35 := ⟨by decide +kernel, rfl⟩
theorem dX5_copy_35 : Dk kX5_copy 35 (.getfield 227) 3 38 := ⟨by decide +kernel, rfl⟩
theorem dX5_copy_38 : Dk kX5_copy 38 (.iconst (-1)) 1 39 := ⟨by decide +kernel, rfl⟩
theorem dX5_copy_39 : Dj kX5_copy 39 (fun o => .if_icmp .eq o) 3 42 51 := ⟨12, by decide +kernel, rfl, by decide⟩
theorem dX5_copy_42 : Dk kX5_copy 42 (.aload 7) 2 44 := ⟨by decide +kernel, rfl⟩
theorem dX5_copy_44 : Dk kX5_copy 44 (.getfield 227) 3 47 := ⟨by decide +kernel, rfl⟩
theorem dX5_copy_47 : Dk kX5_copy 47 (.iconst (-1)) 1 48 := ⟨by decide +kernel, rfl⟩
theorem dX5_copy_48 : Dj kX5_copy 48 (fun o => .if_icmp .ne o) 3 51 54 := ⟨6, by decide +kernel, rfl, by decide⟩
theorem dX5_copy_51 : Dk kX5_copy 51 (.bipush (-11)) 2 53 := ⟨by decide +kernel, rfl⟩
theorem dX5_copy_53 : Dk kX5_copy 53 (.ireturn) 1 54 := ⟨by decide +kernel, rfl⟩
theorem dX5_copy_54 : Dk kX5_copy 54 (.aload 6) 2 56 := ⟨by decide +kernel, rfl⟩
theorem dX5_copy_56 : Dk kX5_copy 56 (.getfield 227) 3 59 := ⟨by decide +kernel, rfl⟩
theorem dX5_copy_59 : Dk kX5_copy 59 (.aload 7) 2 61 := ⟨by decide +kernel, rfl⟩
theorem dX5_copy_61 : Dk kX5_copy 61 (.getfield 227) 3 64 := ⟨by decide +kernel, rfl⟩
theorem dX5_copy_64 : Dj kX5_copy 64 (fun o => .if_icmp .eq o) 3 67 70 := ⟨6, by decide +kernel, rfl, by decide⟩
theorem dX5_copy_67 : Dk kX5_copy 67 (.bipush (-13)) 2 69 := ⟨by decide +kernel, rfl⟩
theorem dX5_copy_69 : Dk kX5_copy 69 (.ireturn) 1 70 := ⟨by decide +kernel, rfl⟩
theorem dX5_copy_70 : Dk kX5_copy 70 (.aload 6) 2 72 := ⟨by decide +kernel, rfl⟩
theorem dX5_copy_72 : Dk kX5_copy 72 (.iload_n 2) 1 73 := ⟨by decide +kernel, rfl⟩
theorem dX5_copy_73 : Dk kX5_copy 73 (.iload 5) 2 75 := ⟨by decide +kernel, rfl⟩
theorem dX5_copy_75 : Dk kX5_copy 75 (.invokevirtual 253) 3 78 := ⟨by decide +kernel, rfl⟩
theorem dX5_copy_78 : Dj kX5_copy 78 (fun o => .ifCond .eq o) 3 81 93 := ⟨15, by decide +kernel, rfl, by decide⟩
theorem dX5_copy_81 : Dk kX5_copy 81 (.aload 7) 2 83 := ⟨by decide +kernel, rfl⟩
theorem dX5_copy_83 : Dk kX5_copy 83 (.iload 4) 2 85 := ⟨by decide +kernel, rfl⟩
theorem dX5_copy_85 : Dk kX5_copy 85 (.iload 5) 2 87 := ⟨by decide +kernel, rfl⟩
theorem dX5_copy_87 : Dk kX5_copy 87 (.invokevirtual 253) 3 90 := ⟨by decide +kernel, rfl⟩
theorem dX5_copy_90 : Dj kX5_copy 90 (fun o => .ifCond .ne o) 3 93 96 := ⟨6, by decide +kernel, rfl, by decide⟩
theorem dX5_copy_93 : Dk kX5_copy 93 (.bipush (-12)) 2 95 := ⟨by decide +kernel, rfl⟩
theorem dX5_copy_95 : Dk kX5_copy 95 (.ireturn) 1 96 := ⟨by decide +kernel, rfl⟩
theorem dX5_copy_96 : Dk kX5_copy 96 (.aload 6) 2 98 := ⟨by decide +kernel, rfl⟩
theorem dX5_copy_98 : Dk kX5_copy 98 (.getfield 231) 3 101 := ⟨by decide +kernel, rfl⟩
theorem dX5_copy_101 : Dk kX5_copy 101 (.iload_n 2) 1 102 := ⟨by decide +kernel, rfl⟩
theorem dX5_copy_102 : Dk kX5_copy 102 (.aload 7) 2 104 := ⟨by decide +kernel, rfl⟩
theorem dX5_copy_104 : Dk kX5_copy 104 (.getfield 231) 3 107 := ⟨by decide +kernel, rfl⟩
theorem dX5_copy_107 : Dk kX5_copy 107 (.iload 4) 2 109 := ⟨by decide +kernel, rfl⟩
theorem dX5_copy_109 : Dk kX5_copy 109 (.iload 5) 2 111 := ⟨by decide +kernel, rfl⟩
theorem dX5_copy_111 : Dk kX5_copy 111 (.invokestatic 256) 3 114 := ⟨by decide +kernel, rfl⟩
theorem dX5_copy_114 : Dk kX5_copy 114 (.iload 5) 2 116 := ⟨by decide +kernel, rfl⟩
theorem dX5_copy_116 : Dk kX5_copy 116 (.ireturn) 1 117 := ⟨by decide +kernel, rfl⟩
theorem dX5_peopleBy_0 : Dk kX5_peopleBy 0 (.iload_n 1) 1 1 := ⟨by decide +kernel, rfl⟩
theorem dX5_peopleBy_1 : Dk kX5_peopleBy 1 (.invokestatic 218) 3 4 := ⟨by decide +kernel, rfl⟩
theorem dX5_peopleBy_4 : Dj kX5_peopleBy 4 (fun o => .ifCond .eq o) 3 7 27 := ⟨23, by decide +kernel, rfl, by decide⟩
theorem dX5_peopleBy_7 : Dk kX5_peopleBy 7 (.iload_n 2) 1 8 := ⟨by decide +kernel, rfl⟩
theorem dX5_peopleBy_8 : Dk kX5_peopleBy 8 (.iconst 0) 1 9 := ⟨by decide +kernel, rfl⟩
theorem dX5_peopleBy_9 : Dk kX5_peopleBy 9 (.iconst 2) 1 10 := ⟨by decide +kernel, rfl⟩
theorem dX5_peopleBy_10 : Dk kX5_peopleBy 10 (.invokestatic 88) 3 13 := ⟨by decide +kernel, rfl⟩
theorem dX5_peopleBy_13 : Dj kX5_peopleBy 13 (fun o => .ifCond .eq o) 3 16 27 := ⟨14, by decide +kernel, rfl, by decide⟩
theorem dX5_peopleBy_16 : Dk kX5_peopleBy 16 (.iload 4) 2 18 := ⟨by decide +kernel, rfl⟩
theorem dX5_peopleBy_18 : Dk kX5_peopleBy 18 (.iconst 0) 1 19 := ⟨by decide +kernel, rfl⟩
theorem dX5_peopleBy_19 : Dk kX5_peopleBy 19 (.bipush 6) 2 21 := ⟨by decide +kernel, rfl⟩
theorem dX5_peopleBy_21 : Dk kX5_peopleBy 21 (.invokestatic 88) 3 24 := ⟨by decide +kernel, rfl⟩
theorem dX5_peopleBy_24 : Dj kX5_peopleBy 24 (fun o => .ifCond .ne o) 3 27 30 := ⟨6, by decide +kernel, rfl, by decide⟩
theorem dX5_peopleBy_27 : Dk kX5_peopleBy 27 (.bipush (-2)) 2 29 := ⟨by decide +kernel, rfl⟩
theorem dX5_peopleBy_29 : Dk kX5_peopleBy 29 (.ireturn) 1 30 := ⟨by decide +kernel, rfl⟩
theorem dX5_peopleBy_30 : Dk kX5_peopleBy 30 (.aload_n 0) 1 31 := ⟨by decide +kernel, rfl⟩
theorem dX5_peopleBy_31 : Dk kX5_peopleBy 31 (.getfield 17) 3 34 := ⟨by decide +kernel, rfl⟩
theorem dX5_peopleBy_34 : Dk kX5_peopleBy 34 (.iload_n 1) 1 35 := ⟨by decide +kernel, rfl⟩
theorem dX5_peopleBy_35 : Dk kX5_peopleBy 35 (.aaload) 1 36 := ⟨by decide +kernel, rfl⟩
theorem dX5_peopleBy_36 : Dk kX5_peopleBy 36 (.astore 5) 2 38 := ⟨by decide +kernel, rfl⟩
theorem dX5_peopleBy_38 : Dk kX5_peopleBy 38 (.aload 5) 2 40 := ⟨by decide +kernel, rfl⟩
theorem dX5_peopleBy_40 : Dk kX5_peopleBy 40 (.getfield 227) 3 43 := ⟨by decide +kernel, rfl⟩
theorem dX5_peopleBy_43 : Dk kX5_peopleBy 43 (.iconst (-1)) 1 44 := ⟨by decide +kernel, rfl⟩
theorem dX5_peopleBy_44 : Dj kX5_peopleBy 44 (fun o => .if_icmp .ne o) 3 47 50 := ⟨6, by decide +kernel, rfl, by decide⟩
theorem dX5_peopleBy_47 : Dk kX5_peopleBy 47 (.bipush (-11)) 2 49 := ⟨by decide +kernel, rfl⟩
theorem dX5_peopleBy_49 : Dk kX5_peopleBy 49 (.ireturn) 1 50 := ⟨by decide +kernel, rfl⟩
theorem dX5_peopleBy_50 : Dk kX5_peopleBy 50 (.aload 5) 2 52 := ⟨by decide +kernel, rfl⟩
theorem dX5_peopleBy_52 : Dk kX5_peopleBy 52 (.getfield 227) 3 55 := ⟨by decide +kernel, rfl⟩
theorem dX5_peopleBy_55 : Dk kX5_peopleBy 55 (.iload_n 2) 1 56 := ⟨by decide +kernel, rfl⟩
theorem dX5_peopleBy_56 : Dj kX5_peopleBy 56 (fun o => .if_icmp .eq o) 3 59 62 := ⟨6, by decide +kernel, rfl, by decide⟩
theorem dX5_peopleBy_59 : Dk kX5_peopleBy 59 (.bipush (-13)) 2 61 := ⟨by decide +kernel, rfl⟩
theorem dX5_peopleBy_61 : Dk kX5_peopleBy 61 (.ireturn) 1 62 := ⟨by decide +kernel, rfl⟩
theorem dX5_peopleBy_62 : Dk kX5_peopleBy 62 (.iconst 0) 1 63 := ⟨by decide +kernel, rfl⟩
theorem dX5_peopleBy_63 : Dk kX5_peopleBy 63 (.istore 6) 2 65 := ⟨by decide +kernel, rfl⟩
theorem dX5_peopleBy_65 : Dk kX5_peopleBy 65 (.iconst 0) 1 66 := ⟨by decide +kernel, rfl⟩
theorem dX5_peopleBy_66 : Dk kX5_peopleBy 66 (.istore 7) 2 68 := ⟨by decide +kernel, rfl⟩
theorem dX5_peopleBy_68 : Dk kX5_peopleBy 68 (.iload 7) 2 70 := ⟨by decide +kernel, rfl⟩
theorem dX5_peopleBy_70 : Dk kX5_peopleBy 70 (.iload 4) 2 72 := ⟨by decide +kernel, rfl⟩
theorem dX5_peopleBy_72 : Dj kX5_peopleBy 72 (fun o => .if_icmp .ge o) 3 75 134 := ⟨62, by decide +kernel, rfl, by decide⟩
theorem dX5_peopleBy_75 : Dk kX5_peopleBy 75 (.iload_n 3) 1 76 := ⟨by decide +kernel, rfl⟩
theorem dX5_peopleBy_76 : Dk kX5_peopleBy 76 (.iconst 2) 1 77 := ⟨by decide +kernel, rfl⟩
theorem dX5_peopleBy_77 : Dk kX5_peopleBy 77 (.iload 7) 2 79 := ⟨by decide +kernel, rfl⟩
theorem dX5_peopleBy_79 : Dk kX5_peopleBy 79 (.imul) 1 80 := ⟨by decide +kernel, rfl⟩
theorem dX5_peopleBy_80 : Dk kX5_peopleBy 80 (.iadd) 1 81 := ⟨by decide +kernel, rfl⟩
theorem dX5_peopleBy_81 : Dk kX5_peopleBy 81 (.istore 8) 2 83 := ⟨by decide +kernel, rfl⟩
theorem dX5_peopleBy_83 : Dk kX5_peopleBy 83 (.aload 5) 2 85 := ⟨by decide +kernel, rfl⟩
theorem dX5_peopleBy_85 : Dk kX5_peopleBy 85 (.iload 8) 2 87 := ⟨by decide +kernel, rfl⟩
theorem dX5_peopleBy_87 : Dk kX5_peopleBy 87 (.iconst 2) 1 88 := ⟨by decide +kernel, rfl⟩
theorem dX5_peopleBy_88 : Dk kX5_peopleBy 88 (.invokevirtual 253) 3 91 := ⟨by decide +kernel, rfl⟩
theorem dX5_peopleBy_91 : Dj kX5_peopleBy 91 (fun o => .ifCond .ne o) 3 94 97 := ⟨6, by decide +kernel, rfl, by decide⟩
theorem dX5_peopleBy_94 : Dk kX5_peopleBy 94 (.bipush (-12)) 2 96 := ⟨by decide +kernel, rfl⟩
theorem dX5_peopleBy_96 : Dk kX5_peopleBy 96 (.ireturn) 1 97 := ⟨by decide +kernel, rfl⟩
theorem dX5_peopleBy_97 : Dk kX5_peopleBy 97 (.aload_n 0) 1 98 := ⟨by decide +kernel, rfl⟩
theorem dX5_peopleBy_98 : Dk kX5_peopleBy 98 (.getfield 42) 3 101 := ⟨by decide +kernel, rfl⟩
theorem dX5_peopleBy_101 : Dk kX5_peopleBy 101 (.aload 5) 2 103 := ⟨by decide +kernel, rfl⟩
theorem dX5_peopleBy_103 : Dk kX5_peopleBy 103 (.getfield 231) 3 106 := ⟨by decide +kernel, rfl⟩
theorem dX5_peopleBy_106 : Dk kX5_peopleBy 106 (.iload 8) 2 108 := ⟨by decide +kernel, rfl⟩
theorem dX5_peopleBy_108 : Dk kX5_peopleBy 108 (.iaload) 1 109 := ⟨by decide +kernel, rfl⟩
theorem dX5_peopleBy_109 : Dk kX5_peopleBy 109 (.aload 5) 2 111 := ⟨by decide +kernel, rfl⟩
theorem dX5_peopleBy_111 : Dk kX5_peopleBy 111 (.getfield 231) 3 114 := ⟨by decide +kernel, rfl⟩
theorem dX5_peopleBy_114 : Dk kX5_peopleBy 114 (.iload 8) 2 116 := ⟨by decide +kernel, rfl⟩
theorem dX5_peopleBy_116 : Dk kX5_peopleBy 116 (.iconst 1) 1 117 := ⟨by decide +kernel, rfl⟩
theorem dX5_peopleBy_117 : Dk kX5_peopleBy 117 (.iadd) 1 118 := ⟨by decide +kernel, rfl⟩
theorem dX5_peopleBy_118 : Dk kX5_peopleBy 118 (.iaload) 1 119 := ⟨by decide +kernel, rfl⟩
theorem dX5_peopleBy_119 : Dk kX5_peopleBy 119 (.invokevirtual 134) 3 122 := ⟨by decide +kernel, rfl⟩
theorem dX5_peopleBy_122 : Dj kX5_peopleBy 122 (fun o => .ifCond .lt o) 3 125 128 := ⟨6, by decide +kernel, rfl, by decide⟩
theorem dX5_peopleBy_125 : Dk kX5_peopleBy 125 (.iinc 6 1) 3 128 := ⟨by decide +kernel, rfl⟩
theorem dX5_peopleBy_128 : Dk kX5_peopleBy 128 (.iinc 7 1) 3 131 := ⟨by decide +kernel, rfl⟩
theorem dX5_peopleBy_131 : Dj kX5_peopleBy 131 (fun o => .goto o) 3 134 68 := ⟨-63, by decide +kernel, rfl, by decide⟩
theorem dX5_peopleBy_134 : Dk kX5_peopleBy 134 (.iload 6) 2 136 := ⟨by decide +kernel, rfl⟩
theorem dX5_peopleBy_136 : Dk kX5_peopleBy 136 (.ireturn) 1 137 := ⟨by decide +kernel, rfl⟩
theorem dX5_taken_0 : Dk kX5_taken 0 (.iload_n 2) 1 1 := ⟨by decide +kernel, rfl⟩
theorem dX5_taken_1 : Dk kX5_taken 1 (.iconst 0) 1 2 := ⟨by decide +kernel, rfl⟩
theorem dX5_taken_2 : Dk kX5_taken 2 (.bipush 6) 2 4 := ⟨by decide +kernel, rfl⟩
theorem dX5_taken_4 : Dk kX5_taken 4 (.invokestatic 88) 3 7 := ⟨by decide +kernel, rfl⟩
theorem dX5_taken_7 : Dj kX5_taken 7 (fun o => .ifCond .ne o) 3 10 13 := ⟨6, by decide +kernel, rfl, by decide⟩
theorem dX5_taken_10 : Dk kX5_taken 10 (.bipush (-2)) 2 12 := ⟨by decide +kernel, rfl⟩
theorem dX5_taken_12 : Dk kX5_taken 12 (.ireturn) 1 13 := ⟨by decide +kernel, rfl⟩
theorem dX5_taken_13 : Dk kX5_taken 13 (.iload_n 1) 1 14 := ⟨by decide +kernel, rfl⟩
theorem dX5_taken_14 : Dk kX5_taken 14 (.iconst 0) 1 15 := ⟨by decide +kernel, rfl⟩
theorem dX5_taken_15 : Dk kX5_taken 15 (.bipush 13) 2 17 := ⟨by decide +kernel, rfl⟩
theorem dX5_taken_17 : Dk kX5_taken 17 (.invokestatic 88) 3 20 := ⟨by decide +kernel, rfl⟩
theorem dX5_taken_20 : Dj kX5_taken 20 (fun o => .ifCond .ne o) 3 23 26 := ⟨6, by decide +kernel, rfl, by decide⟩
theorem dX5_taken_23 : Dk kX5_taken 23 (.bipush (-12)) 2 25 := ⟨by decide +kernel, rfl⟩
theorem dX5_taken_25 : Dk kX5_taken 25 (.ireturn) 1 26 := ⟨by decide +kernel, rfl⟩
theorem dX5_taken_26 : Dk kX5_taken 26 (.iload_n 1) 1 27 := ⟨by decide +kernel, rfl⟩
theorem dX5_taken_27 : Dk kX5_taken 27 (.bipush 6) 2 29 := ⟨by decide +kernel, rfl⟩
theorem dX5_taken_29 : Dj kX5_taken 29 (fun o => .if_icmp .lt o) 3 32 56 := ⟨27, by decide +kernel, rfl, by decide⟩
theorem dX5_taken_32 : Dk kX5_taken 32 (.iload_n 2) 1 33 := ⟨by decide +kernel, rfl⟩
theorem dX5_taken_33 : Dk kX5_taken 33 (.bipush 6) 2 35 := ⟨by decide +kernel, rfl⟩
theorem dX5_taken_35 : Dj kX5_taken 35 (fun o => .if_icmp .ne o) 3 38 53 := ⟨18, by decide +kernel, rfl, by decide⟩
theorem dX5_taken_38 : Dk kX5_taken 38 (.aload_n 0) 1 39 := ⟨by decide +kernel, rfl⟩
theorem dX5_taken_39 : Dk kX5_taken 39 (.getfield 42) 3 42 := ⟨by decide +kernel, rfl⟩
theorem dX5_taken_42 : Dk kX5_taken 42 (.getfield 99) 3 45 := ⟨by decide +kernel, rfl⟩
theorem dX5_taken_45 : Dk kX5_taken 45 (.iload_n 1) 1 46 := ⟨by decide +kernel, rfl⟩
theorem dX5_taken_46 : Dk kX5_taken 46 (.bipush 6) 2 48 := ⟨by decide +kernel, rfl⟩
theorem dX5_taken_48 : Dk kX5_taken 48 (.isub) 1 49 := ⟨by decide +kernel, rfl⟩
theorem dX5_taken_49 : Dk kX5_taken 49 (.iaload) 1 50 := ⟨by decide +kernel, rfl⟩
theorem dX5_taken_50 : Dj kX5_taken 50 (fun o => .goto o) 3 53 55 := ⟨5, by decide +kernel, rfl, by decide⟩
theorem dX5_taken_53 : Dk kX5_taken 53 (.bipush (-13)) 2 55 := ⟨by decide +kernel, rfl⟩
theorem dX5_taken_55 : Dk kX5_taken 55 (.ireturn) 1 56 := ⟨by decide +kernel, rfl⟩
theorem dX5_taken_56 : Dk kX5_taken 56 (.aload_n 0) 1 57 := ⟨by decide +kernel, rfl⟩
theorem dX5_taken_57 : Dk kX5_taken 57 (.iload_n 1) 1 58 := ⟨by decide +kernel, rfl⟩
theorem dX5_taken_58 : Dk kX5_taken 58 (.invokevirtual 107) 3 61 := ⟨by decide +kernel, rfl⟩
theorem dX5_taken_61 : Dj kX5_taken 61 (fun o => .ifCond .ne o) 3 64 67 := ⟨6, by decide +kernel, rfl, by decide⟩
theorem dX5_taken_64 : Dk kX5_taken 64 (.bipush (-11)) 2 66 := ⟨by decide +kernel, rfl⟩
theorem dX5_taken_66 : Dk kX5_taken 66 (.ireturn) 1 67 := ⟨by decide +kernel, rfl⟩
theorem dX5_taken_67 : Dk kX5_taken 67 (.aload_n 0) 1 68 := ⟨by decide +kernel, rfl⟩
theorem dX5_taken_68 : Dk kX5_taken 68 (.getfield 42) 3 71 := ⟨by decide +kernel, rfl⟩
theorem dX5_taken_71 : Dk kX5_taken 71 (.getfield 146) 3 74 := ⟨by decide +kernel, rfl⟩
theorem dX5_taken_74 : Dk kX5_taken 74 (.iload_n 1) 1 75 := ⟨by decide +kernel, rfl⟩
theorem dX5_taken_75 : Dk kX5_taken 75 (.iaload) 1 76 := ⟨by decide +kernel, rfl⟩
theorem dX5_taken_76 : Dk kX5_taken 76 (.iload_n 2) 1 77 := ⟨by decide +kernel, rfl⟩
theorem dX5_taken_77 : Dk kX5_taken 77 (.invokestatic 262) 3 80 := ⟨by decide +kernel, rfl⟩
theorem dX5_taken_80 : Dj kX5_taken 80 (fun o => .ifCond .eq o) 3 83 87 := ⟨7, by decide +kernel, rfl, by decide⟩
theorem dX5_taken_83 : Dk kX5_taken 83 (.iload_n 1) 1 84 := ⟨by decide +kernel, rfl⟩
theorem dX5_taken_84 : Dj kX5_taken 84 (fun o => .goto o) 3 87 89 := ⟨5, by decide +kernel, rfl, by decide⟩
theorem dX5_taken_87 : Dk kX5_taken 87 (.bipush (-13)) 2 89 := ⟨by decide +kernel, rfl⟩
theorem dX5_taken_89 : Dk kX5_taken 89 (.ireturn) 1 90 := ⟨by decide +kernel, rfl⟩
theorem dX5_isOneOf_0 : Dk kX5_isOneOf 0 (.iload_n 1) 1 1 := ⟨by decide +kernel, rfl⟩
theorem dX5_isOneOf_1 : Dk kX5_isOneOf 1 (.tableswitch 61 0 2 #[27, 29, 45]) 27 28 := ⟨by decide +kernel, rfl⟩
theorem dX5_isOneOf_28 : Dk kX5_isOneOf 28 (.iconst 1) 1 29 := ⟨by decide +kernel, rfl⟩
theorem dX5_isOneOf_29 : Dk kX5_isOneOf 29 (.ireturn) 1 30 := ⟨by decide +kernel, rfl⟩
theorem dX5_isOneOf_30 : Dk kX5_isOneOf 30 (.iload_n 0) 1 31 := ⟨by decide +kernel, rfl⟩
theorem dX5_isOneOf_31 : Dk kX5_isOneOf 31 (.iconst 1) 1 32 := ⟨by decide +kernel, rfl⟩
theorem dX5_isOneOf_32 : Dj kX5_isOneOf 32 (fun o => .if_icmp .eq o) 3 35 40 := ⟨8, by decide +kernel, rfl, by decide⟩
theorem dX5_isOneOf_35 : Dk kX5_isOneOf 35 (.iload_n 0) 1 36 := ⟨by decide +kernel, rfl⟩
theorem dX5_isOneOf_36 : Dk kX5_isOneOf 36 (.iconst 3) 1 37 := ⟨by decide +kernel, rfl⟩
theorem dX5_isOneOf_37 : Dj kX5_isOneOf 37 (fun o => .if_icmp .ne o) 3 40 44 := ⟨7, by decide +kernel, rfl, by decide⟩
theorem dX5_isOneOf_40 : Dk kX5_isOneOf 40 (.iconst 1) 1 41 := ⟨by decide +kernel, rfl⟩
theorem dX5_isOneOf_41 : Dj kX5_isOneOf 41 (fun o => .goto o) 3 44 45 := ⟨4, by decide +kernel, rfl, by decide⟩
theorem dX5_isOneOf_44 : Dk kX5_isOneOf 44 (.iconst 0) 1 45 := ⟨by decide +kernel, rfl⟩
theorem dX5_isOneOf_45 : Dk kX5_isOneOf 45 (.ireturn) 1 46 := ⟨by decide +kernel, rfl⟩
theorem dX5_isOneOf_46 : Dk kX5_isOneOf 46 (.iload_n 0) 1 47 := ⟨by decide +kernel, rfl⟩
theorem dX5_isOneOf_47 : Dk kX5_isOneOf 47 (.iconst 2) 1 48 := ⟨by decide +kernel, rfl⟩
theorem dX5_isOneOf_48 : Dj kX5_isOneOf 48 (fun o => .if_icmp .eq o) 3 51 56 := ⟨8, by decide +kernel, rfl, by decide⟩
theorem dX5_isOneOf_51 : Dk kX5_isOneOf 51 (.iload_n 0) 1 52 := ⟨by decide +kernel, rfl⟩
theorem dX5_isOneOf_52 : Dk kX5_isOneOf 52 (.iconst 4) 1 53 := ⟨by decide +kernel, rfl⟩
theorem dX5_isOneOf_53 : Dj kX5_isOneOf 53 (fun o => .if_icmp .ne o) 3 56 60 := ⟨7, by decide +kernel, rfl, by decide⟩
theorem dX5_isOneOf_56 : Dk kX5_isOneOf 56 (.iconst 1) 1 57 := ⟨by decide +kernel, rfl⟩
theorem dX5_isOneOf_57 : Dj kX5_isOneOf 57 (fun o => .goto o) 3 60 61 := ⟨4, by decide +kernel, rfl, by decide⟩
theorem dX5_isOneOf_60 : Dk kX5_isOneOf 60 (.iconst 0) 1 61 := ⟨by decide +kernel, rfl⟩
theorem dX5_isOneOf_61 : Dk kX5_isOneOf 61 (.ireturn) 1 62 := ⟨by decide +kernel, rfl⟩
theorem dX5_isOneOf_62 : Dk kX5_isOneOf 62 (.iload_n 0) 1 63 := ⟨by decide +kernel, rfl⟩
theorem dX5_isOneOf_63 : Dk kX5_isOneOf 63 (.iload_n 1) 1 64 := ⟨by decide +kernel, rfl⟩
theorem dX5_isOneOf_64 : Dj kX5_isOneOf 64 (fun o => .if_icmp .ne o) 3 67 71 := ⟨7, by decide +kernel, rfl, by decide⟩
theorem dX5_isOneOf_67 : Dk kX5_isOneOf 67 (.iconst 1) 1 68 := ⟨by decide +kernel, rfl⟩
theorem dX5_isOneOf_68 : Dj kX5_isOneOf 68 (fun o => .goto o) 3 71 72 := ⟨4, by decide +kernel, rfl, by decide⟩
theorem dX5_isOneOf_71 : Dk kX5_isOneOf 71 (.iconst 0) 1 72 := ⟨by decide +kernel, rfl⟩
theorem dX5_isOneOf_72 : Dk kX5_isOneOf 72 (.ireturn) 1 73 := ⟨by decide +kernel, rfl⟩
theorem dX5_passThought_0 : Dk kX5_passThought 0 (.iconst 0) 1 1 := ⟨by decide +kernel, rfl⟩
theorem dX5_passThought_1 : Dk kX5_passThought 1 (.istore_n 2) 1 2 := ⟨by decide +kernel, rfl⟩
theorem dX5_passThought_2 : Dk kX5_passThought 2 (.iload_n 2) 1 3 := ⟨by decide +kernel, rfl⟩
theorem dX5_passThought_3 : Dk kX5_passThought 3 (.iload_n 1) 1 4 := ⟨by decide +kernel, rfl⟩
theorem dX5_passThought_4 : Dj kX5_passThought 4 (fun o => .if_icmp .ge o) 3 7 21 := ⟨17, by decide +kernel, rfl, by decide⟩
theorem dX5_passThought_7 : Dk kX5_passThought 7 (.aload_n 0) 1 8 := ⟨by decide +kernel, rfl⟩
theorem dX5_passThought_8 : Dk kX5_passThought 8 (.getfield 46) 3 11 := ⟨by decide +kernel, rfl⟩
theorem dX5_passThought_11 : Dk kX5_passThought 11 (.invokevirtual 167) 3 14 := ⟨by decide +kernel, rfl⟩
theorem dX5_passThought_14 : Dk kX5_passThought 14 (.pop) 1 15 := ⟨by decide +kernel, rfl⟩
theorem dX5_passThought_15 : Dk kX5_passThought 15 (.iinc 2 1) 3 18 := ⟨by decide +kernel, rfl⟩
theorem dX5_passThought_18 : Dj kX5_passThought 18 (fun o => .goto o) 3 21 2 := ⟨-16, by decide +kernel, rfl, by decide⟩
theorem dX5_passThought_21 : Dk kX5_passThought 21 (.return_) 1 22 := ⟨by decide +kernel, rfl⟩
theorem dX5_isPerson_0 : Dk kX5_isPerson 0 (.iload_n 1) 1 1 := ⟨by decide +kernel, rfl⟩
theorem dX5_isPerson_1 : Dj kX5_isPerson 1 (fun o => .ifCond .lt o) 3 4 19 := ⟨18, by decide +kernel, rfl, by decide⟩
theorem dX5_isPerson_4 : Dk kX5_isPerson 4 (.iload_n 1) 1 5 := ⟨by decide +kernel, rfl⟩
theorem dX5_isPerson_5 : Dk kX5_isPerson 5 (.aload_n 0) 1 6 := ⟨by decide +kernel, rfl⟩
theorem dX5_isPerson_6 : Dk kX5_isPerson 6 (.getfield 42) 3 9 := ⟨by decide +kernel, rfl⟩
theorem dX5_isPerson_9 : Dk kX5_isPerson 9 (.getfield 66) 3 12 := ⟨by decide +kernel, rfl⟩
theorem dX5_isPerson_12 : Dj kX5_isPerson 12 (fun o => .if_icmp .ge o) 3 15 19 := ⟨7, by decide +kernel, rfl, by decide⟩
theorem dX5_isPerson_15 : Dk kX5_isPerson 15 (.iconst 1) 1 16 := ⟨by decide +kernel, rfl⟩
theorem dX5_isPerson_16 : Dj kX5_isPerson 16 (fun o => .goto o) 3 19 20 := ⟨4, by decide +kernel, rfl, by decide⟩
theorem dX5_isPerson_19 : Dk kX5_isPerson 19 (.iconst 0) 1 20 := ⟨by decide +kernel, rfl⟩
theorem dX5_isPerson_20 : Dk kX5_isPerson 20 (.ireturn) 1 21 := ⟨by decide +kernel, rfl⟩
theorem dX5_isDoor_0 : Dk kX5_isDoor 0 (.iload_n 0) 1 1 := ⟨by decide +kernel, rfl⟩
theorem dX5_isDoor_1 : Dj kX5_isDoor 1 (fun o => .ifCond .lt o) 3 4 14 := ⟨13, by decide +kernel, rfl, by decide⟩
theorem dX5_isDoor_4 : Dk kX5_isDoor 4 (.iload_n 0) 1 5 := ⟨by decide +kernel, rfl⟩
theorem dX5_isDoor_5 : Dk kX5_isDoor 5 (.bipush 8) 2 7 := ⟨by decide +kernel, rfl⟩
theorem dX5_isDoor_7 : Dj kX5_isDoor 7 (fun o => .if_icmp .ge o) 3 10 14 := ⟨7, by decide +kernel, rfl, by decide⟩
theorem dX5_isDoor_10 : Dk kX5_isDoor 10 (.iconst 1) 1 11 := ⟨by decide +kernel, rfl⟩
theorem dX5_isDoor_11 : Dj kX5_isDoor 11 (fun o => .goto o) 3 14 15 := ⟨4, by decide +kernel, rfl, by decide⟩
theorem dX5_isDoor_14 : Dk kX5_isDoor 14 (.iconst 0) 1 15 := ⟨by decide +kernel, rfl⟩
theorem dX5_isDoor_15 : Dk kX5_isDoor 15 (.ireturn) 1 16 := ⟨by decide +kernel, rfl⟩
theorem dX5_isSheet_0 : Dk kX5_isSheet 0 (.iload_n 0) 1 1 := ⟨by decide +kernel, rfl⟩
theorem dX5_isSheet_1 : Dj kX5_isSheet 1 (fun o => .ifCond .lt o) 3 4 13 := ⟨12, by decide +kernel, rfl, by decide⟩
theorem dX5_isSheet_4 : Dk kX5_isSheet 4 (.iload_n 0) 1 5 := ⟨by decide +kernel, rfl⟩
theorem dX5_isSheet_5 : Dk kX5_isSheet 5 (.iconst 4) 1 6 := ⟨by decide +kernel, rfl⟩
theorem dX5_isSheet_6 : Dj kX5_isSheet 6 (fun o => .if_icmp .ge o) 3 9 13 := ⟨7, by decide +kernel, rfl, by decide⟩
theorem dX5_isSheet_9 : Dk kX5_isSheet 9 (.iconst 1) 1 10 := ⟨by decide +kernel, rfl⟩
theorem dX5_isSheet_10 : Dj kX5_isSheet 10 (fun o => .goto o) 3 13 14 := ⟨4, by decide +kernel, rfl, by decide⟩
theorem dX5_isSheet_13 : Dk kX5_isSheet 13 (.iconst 0) 1 14 := ⟨by decide +kernel, rfl⟩
theorem dX5_isSheet_14 : Dk kX5_isSheet 14 (.ireturn) 1 15 := ⟨by decide +kernel, rfl⟩
theorem dX5_isByte_0 : Dk kX5_isByte 0 (.iload_n 0) 1 1 := ⟨by decide +kernel, rfl⟩
theorem dX5_isByte_1 : Dj kX5_isByte 1 (fun o => .ifCond .lt o) 3 4 15 := ⟨14, by decide +kernel, rfl, by decide⟩
theorem dX5_isByte_4 : Dk kX5_isByte 4 (.iload_n 0) 1 5 := ⟨by decide +kernel, rfl⟩
theorem dX5_isByte_5 : Dk kX5_isByte 5 (.sipush 255) 3 8 := ⟨by decide +kernel, rfl⟩
theorem dX5_isByte_8 : Dj kX5_isByte 8 (fun o => .if_icmp .gt o) 3 11 15 := ⟨7, by decide +kernel, rfl, by decide⟩
theorem dX5_isByte_11 : Dk kX5_isByte 11 (.iconst 1) 1 12 := ⟨by decide +kernel, rfl⟩
theorem dX5_isByte_12 : Dj kX5_isByte 12 (fun o => .goto o) 3 15 16 := ⟨4, by decide +kernel, rfl, by decide⟩
theorem dX5_isByte_15 : Dk kX5_isByte 15 (.iconst 0) 1 16 := ⟨by decide +kernel, rfl⟩
theorem dX5_isByte_16 : Dk kX5_isByte 16 (.ireturn) 1 17 := ⟨by decide +kernel, rfl⟩
theorem dX5_within_0 : Dk kX5_within 0 (.iload_n 0) 1 1 := ⟨by decide +kernel, rfl⟩
theorem dX5_within_1 : Dk kX5_within 1 (.iload_n 1) 1 2 := ⟨by decide +kernel, rfl⟩
theorem dX5_within_2 : Dj kX5_within 2 (fun o => .if_icmp .lt o) 3 5 14 := ⟨12, by decide +kernel, rfl, by decide⟩
theorem dX5_within_5 : Dk kX5_within 5 (.iload_n 0) 1 6 := ⟨by decide +kernel, rfl⟩
theorem dX5_within_6 : Dk kX5_within 6 (.iload_n 2) 1 7 := ⟨by decide +kernel, rfl⟩
theorem dX5_within_7 : Dj kX5_within 7 (fun o => .if_icmp .gt o) 3 10 14 := ⟨7, by decide +kernel, rfl, by decide⟩
theorem dX5_within_10 : Dk kX5_within 10 (.iconst 1) 1 11 := ⟨by decide +kernel, rfl⟩
theorem dX5_within_11 : Dj kX5_within 11 (fun o => .goto o) 3 14 15 := ⟨4, by decide +kernel, rfl, by decide⟩
theorem dX5_within_14 : Dk kX5_within 14 (.iconst 0) 1 15 := ⟨by decide +kernel, rfl⟩
theorem dX5_within_15 : Dk kX5_within 15 (.ireturn) 1 16 := ⟨by decide +kernel, rfl⟩
theorem dX5_hasBit_0 : Dk kX5_hasBit 0 (.iload_n 0) 1 1 := ⟨by decide +kernel, rfl⟩
theorem dX5_hasBit_1 : Dk kX5_hasBit 1 (.iload_n 1) 1 2 := ⟨by decide +kernel, rfl⟩
theorem dX5_hasBit_2 : Dk kX5_hasBit 2 (.ishr) 1 3 := ⟨by decide +kernel, rfl⟩
theorem dX5_hasBit_3 : Dk kX5_hasBit 3 (.iconst 1) 1 4 := ⟨by decide +kernel, rfl⟩
theorem dX5_hasBit_4 : Dk kX5_hasBit 4 (.iand) 1 5 := ⟨by decide +kernel, rfl⟩
theorem dX5_hasBit_5 : Dj kX5_hasBit 5 (fun o => .ifCond .eq o) 3 8 12 := ⟨7, by decide +kernel, rfl, by decide⟩
theorem dX5_hasBit_8 : Dk kX5_hasBit 8 (.iconst 1) 1 9 := ⟨by decide +kernel, rfl⟩
theorem dX5_hasBit_9 : Dj kX5_hasBit 9 (fun o => .goto o) 3 12 13 := ⟨4, by decide +kernel, rfl, by decide⟩
theorem dX5_hasBit_12 : Dk kX5_hasBit 12 (.iconst 0) 1 13 := ⟨by decide +kernel, rfl⟩
theorem dX5_hasBit_13 : Dk kX5_hasBit 13 (.ireturn) 1 14 := ⟨by decide +kernel, rfl⟩
theorem dX5_swapped_0 : Dk kX5_swapped 0 (.iload_n 1) 1 1 := ⟨by decide +kernel, rfl⟩
theorem dX5_swapped_1 : Dj kX5_swapped 1 (fun o => .ifCond .lt o) 3 4 10 := ⟨9, by decide +kernel, rfl, by decide⟩
theorem dX5_swapped_4 : Dk kX5_swapped 4 (.iload_n 1) 1 5 := ⟨by decide +kernel, rfl⟩
theorem dX5_swapped_5 : Dk kX5_swapped 5 (.aload_n 0) 1 6 := ⟨by decide +kernel, rfl⟩
theorem dX5_swapped_6 : Dk kX5_swapped 6 (.arraylength) 1 7 := ⟨by decide +kernel, rfl⟩
theorem dX5_swapped_7 : Dj kX5_swapped 7 (fun o => .if_icmp .lt o) 3 10 12 := ⟨5, by decide +kernel, rfl, by decide⟩
theorem dX5_swapped_10 : Dk kX5_swapped 10 (.iconst (-1)) 1 11 := ⟨by decide +kernel, rfl⟩
theorem dX5_swapped_11 : Dk kX5_swapped 11 (.ireturn) 1 12 := ⟨by decide +kernel, rfl⟩
theorem dX5_swapped_12 : Dk kX5_swapped 12 (.aload_n 0) 1 13 := ⟨by decide +kernel, rfl⟩
theorem dX5_swapped_13 : Dk kX5_swapped 13 (.iload_n 1) 1 14 := ⟨by decide +kernel, rfl⟩
theorem dX5_swapped_14 : Dk kX5_swapped 14 (.iaload) 1 15 := ⟨by decide +kernel, rfl⟩
theorem dX5_swapped_15 : Dk kX5_swapped 15 (.istore_n 3) 1 16 := ⟨by decide +kernel, rfl⟩
theorem dX5_swapped_16 : Dk kX5_swapped 16 (.aload_n 0) 1 17 := ⟨by decide +kernel, rfl⟩
theorem dX5_swapped_17 : Dk kX5_swapped 17 (.iload_n 1) 1 18 := ⟨by decide +kernel, rfl⟩
theorem dX5_swapped_18 : Dk kX5_swapped 18 (.iload_n 2) 1 19 := ⟨by decide +kernel, rfl⟩
theorem dX5_swapped_19 : Dk kX5_swapped 19 (.iastore) 1 20 := ⟨by decide +kernel, rfl⟩
theorem dX5_swapped_20 : Dk kX5_swapped 20 (.iload_n 3) 1 21 := ⟨by decide +kernel, rfl⟩
theorem dX5_swapped_21 : Dk kX5_swapped 21 (.ireturn) 1 22 := ⟨by decide +kernel, rfl⟩
theorem dX5_lowest_0 : Dk kX5_lowest 0 (.iload_n 1) 1 1 := ⟨by decide +kernel, rfl⟩
theorem dX5_lowest_1 : Dk kX5_lowest 1 (.istore_n 3) 1 2 := ⟨by decide +kernel, rfl⟩
theorem dX5_lowest_2 : Dk kX5_lowest 2 (.iload_n 0) 1 3 := ⟨by decide +kernel, rfl⟩
theorem dX5_lowest_3 : Dk kX5_lowest 3 (.istore 4) 2 5 := ⟨by decide +kernel, rfl⟩
theorem dX5_lowest_5 : Dk kX5_lowest 5 (.iconst 0) 1 6 := ⟨by decide +kernel, rfl⟩
theorem dX5_lowest_6 : Dk kX5_lowest 6 (.istore 5) 2 8 := ⟨by decide +kernel, rfl⟩
theorem dX5_lowest_8 : Dk kX5_lowest 8 (.iload 5) 2 10 := ⟨by decide +kernel, rfl⟩
theorem dX5_lowest_10 : Dk kX5_lowest 10 (.bipush 100) 2 12 := ⟨by decide +kernel, rfl⟩
theorem dX5_lowest_12 : Dj kX5_lowest 12 (fun o => .if_icmp .ge o) 3 15 39 := ⟨27, by decide +kernel, rfl, by decide⟩
theorem dX5_lowest_15 : Dk kX5_lowest 15 (.iload 4) 2 17 := ⟨by decide +kernel, rfl⟩
theorem dX5_lowest_17 : Dj kX5_lowest 17 (fun o => .ifCond .eq o) 3 20 39 := ⟨22, by decide +kernel, rfl, by decide⟩
theorem dX5_lowest_20 : Dk kX5_lowest 20 (.iload_n 3) 1 21 := ⟨by decide +kernel, rfl⟩
theorem dX5_lowest_21 : Dk kX5_lowest 21 (.iload 4) 2 23 := ⟨by decide +kernel, rfl⟩
theorem dX5_lowest_23 : Dk kX5_lowest 23 (.irem) 1 24 := ⟨by decide +kernel, rfl⟩
theorem dX5_lowest_24 : Dk kX5_lowest 24 (.istore 6) 2 26 := ⟨by decide +kernel, rfl⟩
theorem dX5_lowest_26 : Dk kX5_lowest 26 (.iload 4) 2 28 := ⟨by decide +kernel, rfl⟩
theorem dX5_lowest_28 : Dk kX5_lowest 28 (.istore_n 3) 1 29 := ⟨by decide +kernel, rfl⟩
theorem dX5_lowest_29 : Dk kX5_lowest 29 (.iload 6) 2 31 := ⟨by decide +kernel, rfl⟩
theorem dX5_lowest_31 : Dk kX5_lowest 31 (.istore 4) 2 33 := ⟨by decide +kernel, rfl⟩
theorem dX5_lowest_33 : Dk kX5_lowest 33 (.iinc 5 1) 3 36 := ⟨by decide +kernel, rfl⟩
theorem dX5_lowest_36 : Dj kX5_lowest 36 (fun o => .goto o) 3 39 8 := ⟨-28, by decide +kernel, rfl, by decide⟩
theorem dX5_lowest_39 : Dk kX5_lowest 39 (.iload_n 3) 1 40 := ⟨by decide +kernel, rfl⟩
theorem dX5_lowest_40 : Dj kX5_lowest 40 (fun o => .ifCond .ne o) 3 43 47 := ⟨7, by decide +kernel, rfl, by decide⟩
theorem dX5_lowest_43 : Dk kX5_lowest 43 (.ldc2_w 202) 3 46 := ⟨by decide +kernel, rfl⟩
theorem dX5_lowest_46 : Dk kX5_lowest 46 (.lreturn) 1 47 := ⟨by decide +kernel, rfl⟩
theorem dX5_lowest_47 : Dk kX5_lowest 47 (.iload_n 2) 1 48 := ⟨by decide +kernel, rfl⟩
theorem dX5_lowest_48 : Dj kX5_lowest 48 (fun o => .ifCond .ne o) 3 51 58 := ⟨10, by decide +kernel, rfl, by decide⟩
theorem dX5_lowest_51 : Dk kX5_lowest 51 (.iload_n 0) 1 52 := ⟨by decide +kernel, rfl⟩
theorem dX5_lowest_52 : Dk kX5_lowest 52 (.iload_n 3) 1 53 := ⟨by decide +kernel, rfl⟩
theorem dX5_lowest_53 : Dk kX5_lowest 53 (.idiv) 1 54 := ⟨by decide +kernel, rfl⟩
theorem dX5_lowest_54 : Dk kX5_lowest 54 (.i2l) 1 55 := ⟨by decide +kernel, rfl⟩
theorem dX5_lowest_55 : Dj kX5_lowest 55 (fun o => .goto o) 3 58 62 := ⟨7, by decide +kernel, rfl, by decide⟩
theorem dX5_lowest_58 : Dk kX5_lowest 58 (.iload_n 1) 1 59 := ⟨by decide +kernel, rfl⟩
theorem dX5_lowest_59 : Dk kX5_lowest 59 (.iload_n 3) 1 60 := ⟨by decide +kernel, rfl⟩
theorem dX5_lowest_60 : Dk kX5_lowest 60 (.idiv) 1 61 := ⟨by decide +kernel, rfl⟩
theorem dX5_lowest_61 : Dk kX5_lowest 61 (.i2l) 1 62 := ⟨by decide +kernel, rfl⟩
theorem dX5_lowest_62 : Dk kX5_lowest 62 (.lreturn) 1 63 := ⟨by decide +kernel, rfl⟩
theorem dJ6_bitCount_0f7a4_0 : Dk kJ6_bitCount_0f7a4 0 (.iload_n 0) 1 1 := ⟨by decide +kernel, rfl⟩
theorem dJ6_bitCount_0f7a4_1 : Dk kJ6_bitCount_0f7a4 1 (.iload_n 0) 1 2 := ⟨by decide +kernel, rfl⟩
theorem dJ6_bitCount_0f7a4_2 : Dk kJ6_bitCount_0f7a4 2 (.iconst 1) 1 3 := ⟨by decide +kernel, rfl⟩
theorem dJ6_bitCount_0f7a4_3 : Dk kJ6_bitCount_0f7a4 3 (.iushr) 1 4 := ⟨by decide +kernel, rfl⟩
theorem dJ6_bitCount_0f7a4_4 : Dk kJ6_bitCount_0f7a4 4 (.ldc_w 265) 3 7 := ⟨by decide +kernel, rfl⟩
theorem dJ6_bitCount_0f7a4_7 : Dk kJ6_bitCount_0f7a4 7 (.iand) 1 8 := ⟨by decide +kernel, rfl⟩
theorem dJ6_bitCount_0f7a4_8 : Dk kJ6_bitCount_0f7a4 8 (.isub) 1 9 := ⟨by decide +kernel, rfl⟩
theorem dJ6_bitCount_0f7a4_9 : Dk kJ6_bitCount_0f7a4 9 (.istore_n 0) 1 10 := ⟨by decide +kernel, rfl⟩
theorem dJ6_bitCount_0f7a4_10 : Dk kJ6_bitCount_0f7a4 10 (.iload_n 0) 1 11 := ⟨by decide +kernel, rfl⟩
theorem dJ6_bitCount_0f7a4_11 : Dk kJ6_bitCount_0f7a4 11 (.ldc_w 266) 3 14 := ⟨by decide +kernel, rfl⟩
theorem dJ6_bitCount_0f7a4_14 : Dk kJ6_bitCount_0f7a4 14 (.iand) 1 15 := ⟨by decide +kernel, rfl⟩
theorem dJ6_bitCount_0f7a4_15 : Dk kJ6_bitCount_0f7a4 15 (.iload_n 0) 1 16 := ⟨by decide +kernel, rfl⟩
theorem dJ6_bitCount_0f7a4_16 : Dk kJ6_bitCount_0f7a4 16 (.iconst 2) 1 17 := ⟨by decide +kernel, rfl⟩
theorem dJ6_bitCount_0f7a4_17 : Dk kJ6_bitCount_0f7a4 17 (.iushr) 1 18 := ⟨by decide +kernel, rfl⟩
theorem dJ6_bitCount_0f7a4_18 : Dk kJ6_bitCount_0f7a4 18 (.ldc_w 266) 3 21 := ⟨by decide +kernel, rfl⟩
theorem dJ6_bitCount_0f7a4_21 : Dk kJ6_bitCount_0f7a4 21 (.iand) 1 22 := ⟨by decide +kernel, rfl⟩
theorem dJ6_bitCount_0f7a4_22 : Dk kJ6_bitCount_0f7a4 22 (.iadd) 1 23 := ⟨by decide +kernel, rfl⟩
theorem dJ6_bitCount_0f7a4_23 : Dk kJ6_bitCount_0f7a4 23 (.istore_n 0) 1 24 := ⟨by decide +kernel, rfl⟩
theorem dJ6_bitCount_0f7a4_24 : Dk kJ6_bitCount_0f7a4 24 (.iload_n 0) 1 25 := ⟨by decide +kernel, rfl⟩
theorem dJ6_bitCount_0f7a4_25 : Dk kJ6_bitCount_0f7a4 25 (.iload_n 0) 1 26 := ⟨by decide +kernel, rfl⟩
theorem dJ6_bitCount_0f7a4_26 : Dk kJ6_bitCount_0f7a4 26 (.iconst 4) 1 27 := ⟨by decide +kernel, rfl⟩
theorem dJ6_bitCount_0f7a4_27 : Dk kJ6_bitCount_0f7a4 27 (.iushr) 1 28 := ⟨by decide +kernel, rfl⟩
theorem dJ6_bitCount_0f7a4_28 : Dk kJ6_bitCount_0f7a4 28 (.iadd) 1 29 := ⟨by decide +kernel, rfl⟩
theorem dJ6_bitCount_0f7a4_29 : Dk kJ6_bitCount_0f7a4 29 (.ldc_w 267) 3 32 := ⟨by decide +kernel, rfl⟩
theorem dJ6_bitCount_0f7a4_32 : Dk kJ6_bitCount_0f7a4 32 (.iand) 1 33 := ⟨by decide +kernel, rfl⟩
theorem dJ6_bitCount_0f7a4_33 : Dk kJ6_bitCount_0f7a4 33 (.istore_n 0) 1 34 := ⟨by decide +kernel, rfl⟩
theorem dJ6_bitCount_0f7a4_34 : Dk kJ6_bitCount_0f7a4 34 (.iload_n 0) 1 35 := ⟨by decide +kernel, rfl⟩
theorem dJ6_bitCount_0f7a4_35 : Dk kJ6_bitCount_0f7a4 35 (.iload_n 0) 1 36 := ⟨by decide +kernel, rfl⟩
theorem dJ6_bitCount_0f7a4_36 : Dk kJ6_bitCount_0f7a4 36 (.bipush 8) 2 38 := ⟨by decide +kernel, rfl⟩
theorem dJ6_bitCount_0f7a4_38 : Dk kJ6_bitCount_0f7a4 38 (.iushr) 1 39 := ⟨by decide +kernel, rfl⟩
theorem dJ6_bitCount_0f7a4_39 : Dk kJ6_bitCount_0f7a4 39 (.iadd) 1 40 := ⟨by decide +kernel, rfl⟩
theorem dJ6_bitCount_0f7a4_40 : Dk kJ6_bitCount_0f7a4 40 (.istore_n 0) 1 41 := ⟨by decide +kernel, rfl⟩
theorem dJ6_bitCount_0f7a4_41 : Dk kJ6_bitCount_0f7a4 41 (.iload_n 0) 1 42 := ⟨by decide +kernel, rfl⟩
theorem dJ6_bitCount_0f7a4_42 : Dk kJ6_bitCount_0f7a4 42 (.iload_n 0) 1 43 := ⟨by decide +kernel, rfl⟩
theorem dJ6_bitCount_0f7a4_43 : Dk kJ6_bitCount_0f7a4 43 (.bipush 16) 2 45 := ⟨by decide +kernel, rfl⟩
theorem dJ6_bitCount_0f7a4_45 : Dk kJ6_bitCount_0f7a4 45 (.iushr) 1 46 := ⟨by decide +kernel, rfl⟩
theorem dJ6_bitCount_0f7a4_46 : Dk kJ6_bitCount_0f7a4 46 (.iadd) 1 47 := ⟨by decide +kernel, rfl⟩
theorem dJ6_bitCount_0f7a4_47 : Dk kJ6_bitCount_0f7a4 47 (.istore_n 0) 1 48 := ⟨by decide +kernel, rfl⟩
theorem dJ6_bitCount_0f7a4_48 : Dk kJ6_bitCount_0f7a4 48 (.iload_n 0) 1 49 := ⟨by decide +kernel, rfl⟩
theorem dJ6_bitCount_0f7a4_49 : Dk kJ6_bitCount_0f7a4 49 (.bipush 63) 2 51 := ⟨by decide +kernel, rfl⟩
theorem dJ6_bitCount_0f7a4_51 : Dk kJ6_bitCount_0f7a4 51 (.iand) 1 52 := ⟨by decide +kernel, rfl⟩
theorem dJ6_bitCount_0f7a4_52 : Dk kJ6_bitCount_0f7a4 52 (.ireturn) 1 53 := ⟨by decide +kernel, rfl⟩
theorem dJ9_floorMod_7cf53_0 : Dk kJ9_floorMod_7cf53 0 (.iload_n 0) 1 1 := ⟨by decide +kernel, rfl⟩
theorem dJ9_floorMod_7cf53_1 : Dk kJ9_floorMod_7cf53 1 (.iload_n 1) 1 2 := ⟨by decide +kernel, rfl⟩
theorem dJ9_floorMod_7cf53_2 : Dk kJ9_floorMod_7cf53 2 (.irem) 1 3 := ⟨by decide +kernel, rfl⟩
theorem dJ9_floorMod_7cf53_3 : Dk kJ9_floorMod_7cf53 3 (.istore_n 2) 1 4 := ⟨by decide +kernel, rfl⟩
theorem dJ9_floorMod_7cf53_4 : Dk kJ9_floorMod_7cf53 4 (.iload_n 0) 1 5 := ⟨by decide +kernel, rfl⟩
theorem dJ9_floorMod_7cf53_5 : Dk kJ9_floorMod_7cf53 5 (.iload_n 1) 1 6 := ⟨by decide +kernel, rfl⟩
theorem dJ9_floorMod_7cf53_6 : Dk kJ9_floorMod_7cf53 6 (.ixor) 1 7 := ⟨by decide +kernel, rfl⟩
theorem dJ9_floorMod_7cf53_7 : Dj kJ9_floorMod_7cf53 7 (fun o => .ifCond .ge o) 3 10 18 := ⟨11, by decide +kernel, rfl, by decide⟩
theorem dJ9_floorMod_7cf53_10 : Dk kJ9_floorMod_7cf53 10 (.iload_n 2) 1 11 := ⟨by decide +kernel, rfl⟩
theorem dJ9_floorMod_7cf53_11 : Dj kJ9_floorMod_7cf53 11 (fun o => .ifCond .eq o) 3 14 18 := ⟨7, by decide +kernel, rfl, by decide⟩
theorem dJ9_floorMod_7cf53_14 : Dk kJ9_floorMod_7cf53 14 (.iload_n 2) 1 15 := ⟨by decide +kernel, rfl⟩
theorem dJ9_floorMod_7cf53_15 : Dk kJ9_floorMod_7cf53 15 (.iload_n 1) 1 16 := ⟨by decide +kernel, rfl⟩
theorem dJ9_floorMod_7cf53_16 : Dk kJ9_floorMod_7cf53 16 (.iadd) 1 17 := ⟨by decide +kernel, rfl⟩
theorem dJ9_floorMod_7cf53_17 : Dk kJ9_floorMod_7cf53 17 (.ireturn) 1 18 := ⟨by decide +kernel, rfl⟩
theorem dJ9_floorMod_7cf53_18 : Dk kJ9_floorMod_7cf53 18 (.iload_n 2) 1 19 := ⟨by decide +kernel, rfl⟩
theorem dJ9_floorMod_7cf53_19 : Dk kJ9_floorMod_7cf53 19 (.ireturn) 1 20 := ⟨by decide +kernel, rfl⟩
theorem dJ9_max_7cf53_0 : Dk kJ9_max_7cf53 0 (.iload_n 0) 1 1 := ⟨by decide +kernel, rfl⟩
theorem dJ9_max_7cf53_1 : Dk kJ9_max_7cf53 1 (.iload_n 1) 1 2 := ⟨by decide +kernel, rfl⟩
theorem dJ9_max_7cf53_2 : Dj kJ9_max_7cf53 2 (fun o => .if_icmp .lt o) 3 5 9 := ⟨7, by decide +kernel, rfl, by decide⟩
theorem dJ9_max_7cf53_5 : Dk kJ9_max_7cf53 5 (.iload_n 0) 1 6 := ⟨by decide +kernel, rfl⟩
theorem dJ9_max_7cf53_6 : Dj kJ9_max_7cf53 6 (fun o => .goto o) 3 9 10 := ⟨4, by decide +kernel, rfl, by decide⟩
theorem dJ9_max_7cf53_9 : Dk kJ9_max_7cf53 9 (.iload_n 1) 1 10 := ⟨by decide +kernel, rfl⟩
theorem dJ9_max_7cf53_10 : Dk kJ9_max_7cf53 10 (.ireturn) 1 11 := ⟨by decide +kernel, rfl⟩
theorem dJ9_min_7cf53_0 : Dk kJ9_min_7cf53 0 (.iload_n 0) 1 1 := ⟨by decide +kernel, rfl⟩
theorem dJ9_min_7cf53_1 : Dk kJ9_min_7cf53 1 (.iload_n 1) 1 2 := ⟨by decide +kernel, rfl⟩
theorem dJ9_min_7cf53_2 : Dj kJ9_min_7cf53 2 (fun o => .if_icmp .gt o) 3 5 9 := ⟨7, by decide +kernel, rfl, by decide⟩
theorem dJ9_min_7cf53_5 : Dk kJ9_min_7cf53 5 (.iload_n 0) 1 6 := ⟨by decide +kernel, rfl⟩
theorem dJ9_min_7cf53_6 : Dj kJ9_min_7cf53 6 (fun o => .goto o) 3 9 10 := ⟨4, by decide +kernel, rfl, by decide⟩
theorem dJ9_min_7cf53_9 : Dk kJ9_min_7cf53 9 (.iload_n 1) 1 10 := ⟨by decide +kernel, rfl⟩
theorem dJ9_min_7cf53_10 : Dk kJ9_min_7cf53 10 (.ireturn) 1 11 := ⟨by decide +kernel, rfl⟩
theorem dJ0_length_8abf5_0 : Dk kJ0_length_8abf5 0 (.aload_n 0) 1 1 := ⟨by decide +kernel, rfl⟩
theorem dJ0_length_8abf5_1 : Dk kJ0_length_8abf5 1 (.getfield 9) 3 4 := ⟨by decide +kernel, rfl⟩
theorem dJ0_length_8abf5_4 : Dk kJ0_length_8abf5 4 (.arraylength) 1 5 := ⟨by decide +kernel, rfl⟩
theorem dJ0_length_8abf5_5 : Dk kJ0_length_8abf5 5 (.aload_n 0) 1 6 := ⟨by decide +kernel, rfl⟩
theorem dJ0_length_8abf5_6 : Dk kJ0_length_8abf5 6 (.invokevirtual 335) 3 9 := ⟨by decide +kernel, rfl⟩
theorem dJ0_length_8abf5_9 : Dk kJ0_length_8abf5 9 (.ishr) 1 10 := ⟨by decide +kernel, rfl⟩
theorem dJ0_length_8abf5_10 : Dk kJ0_length_8abf5 10 (.ireturn) 1 11 := ⟨by decide +kernel, rfl⟩
theorem dJ0_charAt_5068e_0 : Dk kJ0_charAt_5068e 0 (.aload_n 0) 1 1 := ⟨by decide +kernel, rfl⟩
theorem dJ0_charAt_5068e_1 : Dk kJ0_charAt_5068e 1 (.invokevirtual 492) 3 4 := ⟨by decide +kernel, rfl⟩
theorem dJ0_charAt_5068e_4 : Dj kJ0_charAt_5068e 4 (fun o => .ifCond .eq o) 3 7 16 := ⟨12, by decide +kernel, rfl, by decide⟩
theorem dJ0_charAt_5068e_7 : Dk kJ0_charAt_5068e 7 (.aload_n 0) 1 8 := ⟨by decide +kernel, rfl⟩
theorem dJ0_charAt_5068e_8 : Dk kJ0_charAt_5068e 8 (.getfield 9) 3 11 := ⟨by decide +kernel, rfl⟩
theorem dJ0_charAt_5068e_11 : Dk kJ0_charAt_5068e 11 (.iload_n 1) 1 12 := ⟨by decide +kernel, rfl⟩
theorem dJ0_charAt_5068e_12 : Dk kJ0_charAt_5068e 12 (.invokestatic 495) 3 15 := ⟨by decide +kernel, rfl⟩
theorem dJ0_charAt_5068e_15 : Dk kJ0_charAt_5068e 15 (.ireturn) 1 16 := ⟨by decide +kernel, rfl⟩
theorem dJ0_charAt_5068e_16 : Dk kJ0_charAt_5068e 16 (.aload_n 0) 1 17 := ⟨by decide +kernel, rfl⟩
theorem dJ0_charAt_5068e_17 : Dk kJ0_charAt_5068e 17 (.getfield 9) 3 20 := ⟨by decide +kernel, rfl⟩
theorem dJ0_charAt_5068e_20 : Dk kJ0_charAt_5068e 20 (.iload_n 1) 1 21 := ⟨by decide +kernel, rfl⟩
theorem dJ0_charAt_5068e_21 : Dk kJ0_charAt_5068e 21 (.invokestatic 498) 3 24 := ⟨by decide +kernel, rfl⟩
theorem dJ0_charAt_5068e_24 : Dk kJ0_charAt_5068e 24 (.ireturn) 1 25 := ⟨by decide +kernel, rfl⟩
theorem dJ0_coder_7d493_0 : Dk kJ0_coder_7d493 0 (.getstatic 38) 3 3 := ⟨by decide +kernel, rfl⟩
theorem dJ0_coder_7d493_3 : Dj kJ0_coder_7d493 3 (fun o => .ifCond .eq o) 3 6 13 := ⟨10, by decide +kernel, rfl, by decide⟩
theorem dJ0_coder_7d493_6 : Dk kJ0_coder_7d493 6 (.aload_n 0) 1 7 := ⟨by decide +kernel, rfl⟩
theorem dJ0_coder_7d493_7 : Dk kJ0_coder_7d493 7 (.getfield 15) 3 10 := ⟨by decide +kernel, rfl⟩
theorem dJ0_coder_7d493_10 : Dj kJ0_coder_7d493 10 (fun o => .goto o) 3 13 14 := ⟨4, by decide +kernel, rfl, by decide⟩
theorem dJ0_coder_7d493_13 : Dk kJ0_coder_7d493 13 (.iconst 1) 1 14 := ⟨by decide +kernel, rfl⟩
theorem dJ0_coder_7d493_14 : Dk kJ0_coder_7d493 14 (.ireturn) 1 15 := ⟨by decide +kernel, rfl⟩
theorem dJ0_isLatin1_aae02_0 : Dk kJ0_isLatin1_aae02 0 (.getstatic 38) 3 3 := ⟨by decide +kernel, rfl⟩
theorem dJ0_isLatin1_aae02_3 : Dj kJ0_isLatin1_aae02 3 (fun o => .ifCond .eq o) 3 6 17 := ⟨14, by decide +kernel, rfl, by decide⟩
theorem dJ0_isLatin1_aae02_6 : Dk kJ0_isLatin1_aae02 6 (.aload_n 0) 1 7 := ⟨by decide +kernel, rfl⟩
theorem dJ0_isLatin1_aae02_7 : Dk kJ0_isLatin1_aae02 7 (.getfield 15) 3 10 := ⟨by decide +kernel, rfl⟩
theorem dJ0_isLatin1_aae02_10 : Dj kJ0_isLatin1_aae02 10 (fun o => .ifCond .ne o) 3 13 17 := ⟨7, by decide +kernel, rfl, by decide⟩
theorem dJ0_isLatin1_aae02_13 : Dk kJ0_isLatin1_aae02 13 (.iconst 1) 1 14 := ⟨by decide +kernel, rfl⟩
theorem dJ0_isLatin1_aae02_14 : Dj kJ0_isLatin1_aae02 14 (fun o => .goto o) 3 17 18 := ⟨4, by decide +kernel, rfl, by decide⟩
theorem dJ0_isLatin1_aae02_17 : Dk kJ0_isLatin1_aae02 17 (.iconst 0) 1 18 := ⟨by decide +kernel, rfl⟩
theorem dJ0_isLatin1_aae02_18 : Dk kJ0_isLatin1_aae02 18 (.ireturn) 1 19 := ⟨by decide +kernel, rfl⟩
theorem dJ0_checkIndex_df160_0 : Dk kJ0_checkIndex_df160 0 (.iload_n 0) 1 1 := ⟨by decide +kernel, rfl⟩
theorem dJ0_checkIndex_df160_1 : Dk kJ0_checkIndex_df160 1 (.iload_n 1) 1 2 := ⟨by decide +kernel, rfl⟩
theorem dJ0_checkIndex_df160_2 : Dk kJ0_checkIndex_df160 2 (.getstatic 1053) 3 5 := ⟨by decide +kernel, rfl⟩
theorem dJ0_checkIndex_df160_5 : Dk kJ0_checkIndex_df160 5 (.invokestatic 1059) 3 8 := ⟨by decide +kernel, rfl⟩
theorem dJ0_checkIndex_df160_8 : Dk kJ0_checkIndex_df160 8 (.pop) 1 9 := ⟨by decide +kernel, rfl⟩
theorem dJ0_checkIndex_df160_9 : Dk kJ0_checkIndex_df160 9 (.return_) 1 10 := ⟨by decide +kernel, rfl⟩
theorem dJ1_charAt_3b067_0 : Dk kJ1_charAt_3b067 0 (.iload_n 1) 1 1 := ⟨by decide +kernel, rfl⟩
theorem dJ1_charAt_3b067_1 : Dk kJ1_charAt_3b067 1 (.aload_n 0) 1 2 := ⟨by decide +kernel, rfl⟩
theorem dJ1_charAt_3b067_2 : Dk kJ1_charAt_3b067 2 (.arraylength) 1 3 := ⟨by decide +kernel, rfl⟩
theorem dJ1_charAt_3b067_3 : Dk kJ1_charAt_3b067 3 (.invokestatic 9) 3 6 := ⟨by decide +kernel, rfl⟩
theorem dJ1_charAt_3b067_6 : Dk kJ1_charAt_3b067 6 (.aload_n 0) 1 7 := ⟨by decide +kernel, rfl⟩
theorem dJ1_charAt_3b067_7 : Dk kJ1_charAt_3b067 7 (.iload_n 1) 1 8 := ⟨by decide +kernel, rfl⟩
theorem dJ1_charAt_3b067_8 : Dk kJ1_charAt_3b067 8 (.baload) 1 9 := ⟨by decide +kernel, rfl⟩
theorem dJ1_charAt_3b067_9 : Dk kJ1_charAt_3b067 9 (.sipush 255) 3 12 := ⟨by decide +kernel, rfl⟩
theorem dJ1_charAt_3b067_12 : Dk kJ1_charAt_3b067 12 (.iand) 1 13 := ⟨by decide +kernel, rfl⟩
theorem dJ1_charAt_3b067_13 : Dk kJ1_charAt_3b067 13 (.i2c) 1 14 := ⟨by decide +kernel, rfl⟩
theorem dJ1_charAt_3b067_14 : Dk kJ1_charAt_3b067 14 (.ireturn) 1 15 := ⟨by decide +kernel, rfl⟩
theorem dJ2_getChar_3b067_0 : Dk kJ2_getChar_3b067 0 (.getstatic 44) 3 3 := ⟨by decide +kernel, rfl⟩
theorem dJ2_getChar_3b067_3 : Dj kJ2_getChar_3b067 3 (fun o => .ifCond .ne o) 3 6 28 := ⟨25, by decide +kernel, rfl, by decide⟩
theorem dJ2_getChar_3b067_6 : Dk kJ2_getChar_3b067 6 (.iload_n 1) 1 7 := ⟨by decide +kernel, rfl⟩
theorem dJ2_getChar_3b067_7 : Dj kJ2_getChar_3b067 7 (fun o => .ifCond .lt o) 3 10 18 := ⟨11, by decide +kernel, rfl, by decide⟩
theorem dJ2_getChar_3b067_10 : Dk kJ2_getChar_3b067 10 (.iload_n 1) 1 11 := ⟨by decide +kernel, rfl⟩
theorem dJ2_getChar_3b067_11 : Dk kJ2_getChar_3b067 11 (.aload_n 0) 1 12 := ⟨by decide +kernel, rfl⟩
theorem dJ2_getChar_3b067_12 : Dk kJ2_getChar_3b067 12 (.invokestatic 48) 3 15 := ⟨by decide +kernel, rfl⟩
theorem dJ2_getChar_3b067_15 : Dj kJ2_getChar_3b067 15 (fun o => .if_icmp .lt o) 3 18 28 := ⟨13, by decide +kernel, rfl, by decide⟩
theorem dJ2_getChar_3b067_18 : Dk kJ2_getChar_3b067 18 (.new 52) 3 21 := ⟨by decide +kernel, rfl⟩
theorem dJ2_getChar_3b067_21 : Dk kJ2_getChar_3b067 21 (.dup) 1 22 := ⟨by decide +kernel, rfl⟩
theorem dJ2_getChar_3b067_22 : Dk kJ2_getChar_3b067 22 (.ldc 54) 2 24 := ⟨by decide +kernel, rfl⟩
theorem dJ2_getChar_3b067_24 : Dk kJ2_getChar_3b067 24 (.invokespecial 56) 3 27 := ⟨by decide +kernel, rfl⟩
theorem dJ2_getChar_3b067_27 : Dk kJ2_getChar_3b067 27 (.athrow) 1 28 := ⟨by decide +kernel, rfl⟩
theorem dJ2_getChar_3b067_28 : Dk kJ2_getChar_3b067 28 (.iload_n 1) 1 29 := ⟨by decide +kernel, rfl⟩
theorem dJ2_getChar_3b067_29 : Dk kJ2_getChar_3b067 29 (.iconst 1) 1 30 := ⟨by decide +kernel, rfl⟩
theorem dJ2_getChar_3b067_30 : Dk kJ2_getChar_3b067 30 (.ishl) 1 31 := ⟨by decide +kernel, rfl⟩
theorem dJ2_getChar_3b067_31 : Dk kJ2_getChar_3b067 31 (.istore_n 1) 1 32 := ⟨by decide +kernel, rfl⟩
theorem dJ2_getChar_3b067_32 : Dk kJ2_getChar_3b067 32 (.aload_n 0) 1 33 := ⟨by decide +kernel, rfl⟩
theorem dJ2_getChar_3b067_33 : Dk kJ2_getChar_3b067 33 (.iload_n 1) 1 34 := ⟨by decide +kernel, rfl⟩
theorem dJ2_getChar_3b067_34 : Dk kJ2_getChar_3b067 34 (.iinc 1 1) 3 37 := ⟨by decide +kernel, rfl⟩
theorem dJ2_getChar_3b067_37 : Dk kJ2_getChar_3b067 37 (.baload) 1 38 := ⟨by decide +kernel, rfl⟩
theorem dJ2_getChar_3b067_38 : Dk kJ2_getChar_3b067 38 (.sipush 255) 3 41 := ⟨by decide +kernel, rfl⟩
theorem dJ2_getChar_3b067_41 : Dk kJ2_getChar_3b067 41 (.iand) 1 42 := ⟨by decide +kernel, rfl⟩
theorem dJ2_getChar_3b067_42 : Dk kJ2_getChar_3b067 42 (.getstatic 59) 3 45 := ⟨by decide +kernel, rfl⟩
theorem dJ2_getChar_3b067_45 : Dk kJ2_getChar_3b067 45 (.ishl) 1 46 := ⟨by decide +kernel, rfl⟩
theorem dJ2_getChar_3b067_46 : Dk kJ2_getChar_3b067 46 (.aload_n 0) 1 47 := ⟨by decide +kernel, rfl⟩
theorem dJ2_getChar_3b067_47 : Dk kJ2_getChar_3b067 47 (.iload_n 1) 1 48 := ⟨by decide +kernel, rfl⟩
theorem dJ2_getChar_3b067_48 : Dk kJ2_getChar_3b067 48 (.baload) 1 49 := ⟨by decide +kernel, rfl⟩
theorem dJ2_getChar_3b067_49 : Dk kJ2_getChar_3b067 49 (.sipush 255) 3 52 := ⟨by decide +kernel, rfl⟩
theorem dJ2_getChar_3b067_52 : Dk kJ2_getChar_3b067 52 (.iand) 1 53 := ⟨by decide +kernel, rfl⟩
theorem dJ2_getChar_3b067_53 : Dk kJ2_getChar_3b067 53 (.getstatic 63) 3 56 := ⟨by decide +kernel, rfl⟩
theorem dJ2_getChar_3b067_56 : Dk kJ2_getChar_3b067 56 (.ishl) 1 57 := ⟨by decide +kernel, rfl⟩
theorem dJ2_getChar_3b067_57 : Dk kJ2_getChar_3b067 57 (.ior) 1 58 := ⟨by decide +kernel, rfl⟩
theorem dJ2_getChar_3b067_58 : Dk kJ2_getChar_3b067 58 (.i2c) 1 59 := ⟨by decide +kernel, rfl⟩
theorem dJ2_getChar_3b067_59 : Dk kJ2_getChar_3b067 59 (.ireturn) 1 60 := ⟨by decide +kernel, rfl⟩
theorem dJ2_length_9d52b_0 : Dk kJ2_length_9d52b 0 (.aload_n 0) 1 1 := ⟨by decide +kernel, rfl⟩
theorem dJ2_length_9d52b_1 : Dk kJ2_length_9d52b 1 (.arraylength) 1 2 := ⟨by decide +kernel, rfl⟩
theorem dJ2_length_9d52b_2 : Dk kJ2_length_9d52b 2 (.iconst 1) 1 3 := ⟨by decide +kernel, rfl⟩
theorem dJ2_length_9d52b_3 : Dk kJ2_length_9d52b 3 (.ishr) 1 4 := ⟨by decide +kernel, rfl⟩
theorem dJ2_length_9d52b_4 : Dk kJ2_length_9d52b 4 (.ireturn) 1 5 := ⟨by decide +kernel, rfl⟩
theorem dJ2_charAt_3b067_0 : Dk kJ2_charAt_3b067 0 (.iload_n 1) 1 1 := ⟨by decide +kernel, rfl⟩
theorem dJ2_charAt_3b067_1 : Dk kJ2_charAt_3b067 1 (.aload_n 0) 1 2 := ⟨by decide +kernel, rfl⟩
theorem dJ2_charAt_3b067_2 : Dk kJ2_charAt_3b067 2 (.invokestatic 67) 3 5 := ⟨by decide +kernel, rfl⟩
theorem dJ2_charAt_3b067_5 : Dk kJ2_charAt_3b067 5 (.aload_n 0) 1 6 := ⟨by decide +kernel, rfl⟩
theorem dJ2_charAt_3b067_6 : Dk kJ2_charAt_3b067 6 (.iload_n 1) 1 7 := ⟨by decide +kernel, rfl⟩
theorem dJ2_charAt_3b067_7 : Dk kJ2_charAt_3b067 7 (.invokestatic 71) 3 10 := ⟨by decide +kernel, rfl⟩
theorem dJ2_charAt_3b067_10 : Dk kJ2_charAt_3b067 10 (.ireturn) 1 11 := ⟨by decide +kernel, rfl⟩
theorem dJ2_checkIndex_2214a_0 : Dk kJ2_checkIndex_2214a 0 (.iload_n 0) 1 1 := ⟨by decide +kernel, rfl⟩
theorem dJ2_checkIndex_2214a_1 : Dk kJ2_checkIndex_2214a 1 (.aload_n 1) 1 2 := ⟨by decide +kernel, rfl⟩
theorem dJ2_checkIndex_2214a_2 : Dk kJ2_checkIndex_2214a 2 (.invokestatic 48) 3 5 := ⟨by decide +kernel, rfl⟩
theorem dJ2_checkIndex_2214a_5 : Dk kJ2_checkIndex_2214a 5 (.invokestatic 414) 3 8 := ⟨by decide +kernel, rfl⟩
theorem dJ2_checkIndex_2214a_8 : Dk kJ2_checkIndex_2214a 8 (.return_) 1 9 := ⟨by decide +kernel, rfl⟩
theorem dJ7_fill_53178_0 : Dk kJ7_fill_53178 0 (.iconst 0) 1 1 := ⟨by decide +kernel, rfl⟩
theorem dJ7_fill_53178_1 : Dk kJ7_fill_53178 1 (.istore_n 2) 1 2 := ⟨by decide +kernel, rfl⟩
theorem dJ7_fill_53178_2 : Dk kJ7_fill_53178 2 (.aload_n 0) 1 3 := ⟨by decide +kernel, rfl⟩
theorem dJ7_fill_53178_3 : Dk kJ7_fill_53178 3 (.arraylength) 1 4 := ⟨by decide +kernel, rfl⟩
theorem dJ7_fill_53178_4 : Dk kJ7_fill_53178 4 (.istore_n 3) 1 5 := ⟨by decide +kernel, rfl⟩
theorem dJ7_fill_53178_5 : Dk kJ7_fill_53178 5 (.iload_n 2) 1 6 := ⟨by decide +kernel, rfl⟩
theorem dJ7_fill_53178_6 : Dk kJ7_fill_53178 6 (.iload_n 3) 1 7 := ⟨by decide +kernel, rfl⟩
theorem dJ7_fill_53178_7 : Dj kJ7_fill_53178 7 (fun o => .if_icmp .ge o) 3 10 20 := ⟨13, by decide +kernel, rfl, by decide⟩
theorem dJ7_fill_53178_10 : Dk kJ7_fill_53178 10 (.aload_n 0) 1 11 := ⟨by decide +kernel, rfl⟩
theorem dJ7_fill_53178_11 : Dk kJ7_fill_53178 11 (.iload_n 2) 1 12 := ⟨by decide +kernel, rfl⟩
theorem dJ7_fill_53178_12 : Dk kJ7_fill_53178 12 (.iload_n 1) 1 13 := ⟨by decide +kernel, rfl⟩
theorem dJ7_fill_53178_13 : Dk kJ7_fill_53178 13 (.iastore) 1 14 := ⟨by decide +kernel, rfl⟩
theorem dJ7_fill_53178_14 : Dk kJ7_fill_53178 14 (.iinc 2 1) 3 17 := ⟨by decide +kernel, rfl⟩
theorem dJ7_fill_53178_17 : Dj kJ7_fill_53178 17 (fun o => .goto o) 3 20 5 := ⟨-12, by decide +kernel, rfl, by decide⟩
theorem dJ7_fill_53178_20 : Dk kJ7_fill_53178 20 (.return_) 1 21 := ⟨by decide +kernel, rfl⟩
theorem dJ3_checkIndex_8e157_0 : Dk kJ3_checkIndex_8e157 0 (.iload_n 0) 1 1 := ⟨by decide +kernel, rfl⟩
theorem dJ3_checkIndex_8e157_1 : Dj kJ3_checkIndex_8e157 1 (fun o => .ifCond .lt o) 3 4 9 := ⟨8, by decide +kernel, rfl, by decide⟩
theorem dJ3_checkIndex_8e157_4 : Dk kJ3_checkIndex_8e157 4 (.iload_n 0) 1 5 := ⟨by decide +kernel, rfl⟩
theorem dJ3_checkIndex_8e157_5 : Dk kJ3_checkIndex_8e157 5 (.iload_n 1) 1 6 := ⟨by decide +kernel, rfl⟩
theorem dJ3_checkIndex_8e157_6 : Dj kJ3_checkIndex_8e157 6 (fun o => .if_icmp .lt o) 3 9 16 := ⟨10, by decide +kernel, rfl, by decide⟩
theorem dJ3_checkIndex_8e157_9 : Dk kJ3_checkIndex_8e157 9 (.aload_n 2) 1 10 := ⟨by decide +kernel, rfl⟩
theorem dJ3_checkIndex_8e157_10 : Dk kJ3_checkIndex_8e157 10 (.iload_n 0) 1 11 := ⟨by decide +kernel, rfl⟩
theorem dJ3_checkIndex_8e157_11 : Dk kJ3_checkIndex_8e157 11 (.iload_n 1) 1 12 := ⟨by decide +kernel, rfl⟩
theorem dJ3_checkIndex_8e157_12 : Dk kJ3_checkIndex_8e157 12 (.invokestatic 95) 3 15 := ⟨by decide +kernel, rfl⟩
theorem dJ3_checkIndex_8e157_15 : Dk kJ3_checkIndex_8e157 15 (.athrow) 1 16 := ⟨by decide +kernel, rfl⟩
theorem dJ3_checkIndex_8e157_16 : Dk kJ3_checkIndex_8e157 16 (.iload_n 0) 1 17 := ⟨by decide +kernel, rfl⟩
theorem dJ3_checkIndex_8e157_17 : Dk kJ3_checkIndex_8e157 17 (.ireturn) 1 18 := ⟨by decide +kernel, rfl⟩

/-! the constructors: code, worlds, words -/
abbrev bI0 : ByteArray := prog_2_method_1_code
abbrev bI1 : ByteArray := prog_3_method_1_code
abbrev bI2 : ByteArray := prog_4_method_1_code
abbrev bI3 : ByteArray := prog_5_method_1_code
abbrev bI4 : ByteArray := prog_6_method_1_code
abbrev bI5 : ByteArray := prog_1_method_1_code
abbrev bI6 : ByteArray := prog_8_method_1_code
theorem dI0_0 : decode bI0 0 = .ok (.aload_n 0, 1) := by decide +kernel
theorem dI0_1 : decode bI0 1 = .ok (.invokespecial 3, 3) := by decide +kernel
theorem dI0_4 : decode bI0 4 = .ok (.aload_n 0, 1) := by decide +kernel
theorem dI0_5 : decode bI0 5 = .ok (.sipush 256, 3) := by decide +kernel
theorem dI0_8 : decode bI0 8 = .ok (.newarray .int, 2) := by decide +kernel
theorem dI0_10 : decode bI0 10 = .ok (.putfield 9, 3) := by decide +kernel
theorem dI0_13 : decode bI0 13 = .ok (.aload_n 0, 1) := by decide +kernel
theorem dI0_14 : decode bI0 14 = .ok (.bipush 8, 2) := by decide +kernel
theorem dI0_16 : decode bI0 16 = .ok (.newarray .int, 2) := by decide +kernel
theorem dI0_18 : decode bI0 18 = .ok (.putfield 15, 3) := by decide +kernel
theorem dI0_21 : decode bI0 21 = .ok (.return_, 1) := by decide +kernel
theorem dI1_0 : decode bI1 0 = .ok (.aload_n 0, 1) := by decide +kernel
theorem dI1_1 : decode bI1 1 = .ok (.invokespecial 3, 3) := by decide +kernel
theorem dI1_4 : decode bI1 4 = .ok (.aload_n 0, 1) := by decide +kernel
theorem dI1_5 : decode bI1 5 = .ok (.iconst 0, 1) := by decide +kernel
theorem dI1_6 : decode bI1 6 = .ok (.putfield 9, 3) := by decide +kernel
theorem dI1_9 : decode bI1 9 = .ok (.aload_n 0, 1) := by decide +kernel
theorem dI1_10 : decode bI1 10 = .ok (.iconst 0, 1) := by decide +kernel
theorem dI1_11 : decode bI1 11 = .ok (.putfield 15, 3) := by decide +kernel
theorem dI1_14 : decode bI1 14 = .ok (.aload_n 0, 1) := by decide +kernel
theorem dI1_15 : decode bI1 15 = .ok (.iconst 0, 1) := by decide +kernel
theorem dI1_16 : decode bI1 16 = .ok (.putfield 18, 3) := by decide +kernel
theorem dI1_19 : decode bI1 19 = .ok (.aload_n 0, 1) := by decide +kernel
theorem dI1_20 : decode bI1 20 = .ok (.bipush 8, 2) := by decide +kernel
theorem dI1_22 : decode bI1 22 = .ok (.anewarray 21, 3) := by decide +kernel
theorem dI1_25 : decode bI1 25 = .ok (.putfield 23, 3) := by decide +kernel
theorem dI1_28 : decode bI1 28 = .ok (.aload_n 0, 1) := by decide +kernel
theorem dI1_29 : decode bI1 29 = .ok (.bipush 8, 2) := by decide +kernel
theorem dI1_31 : decode bI1 31 = .ok (.newarray .int, 2) := by decide +kernel
theorem dI1_33 : decode bI1 33 = .ok (.putfield 27, 3) := by decide +kernel
theorem dI1_36 : decode bI1 36 = .ok (.iconst 0, 1) := by decide +kernel
theorem dI1_37 : decode bI1 37 = .ok (.istore_n 1, 1) := by decide +kernel
theorem dI1_38 : decode bI1 38 = .ok (.iload_n 1, 1) := by decide +kernel
theorem dI1_39 : decode bI1 39 = .ok (.bipush 8, 2) := by decide +kernel
theorem dI1_41 : decode bI1 41 = .ok (.if_icmp .ge 22, 3) := by decide +kernel
theorem dI1_44 : decode bI1 44 = .ok (.aload_n 0, 1) := by decide +kernel
theorem dI1_45 : decode bI1 45 = .ok (.getfield 23, 3) := by decide +kernel
theorem dI1_48 : decode bI1 48 = .ok (.iload_n 1, 1) := by decide +kernel
theorem dI1_49 : decode bI1 49 = .ok (.new 21, 3) := by decide +kernel
theorem dI1_52 : decode bI1 52 = .ok (.dup, 1) := by decide +kernel
theorem dI1_53 : decode bI1 53 = .ok (.invokespecial 31, 3) := by decide +kernel
theorem dI1_56 : decode bI1 56 = .ok (.aastore, 1) := by decide +kernel
theorem dI1_57 : decode bI1 57 = .ok (.iinc 1 1, 3) := by decide +kernel
theorem dI1_60 : decode bI1 60 = .ok (.goto (-22), 3) := by decide +kernel
theorem dI1_63 : decode bI1 63 = .ok (.return_, 1) := by decide +kernel
theorem dI2_0 : decode bI2 0 = .ok (.aload_n 0, 1) := by decide +kernel
theorem dI2_1 : decode bI2 1 = .ok (.invokespecial 3, 3) := by decide +kernel
theorem dI2_4 : decode bI2 4 = .ok (.aload_n 0, 1) := by decide +kernel
theorem dI2_5 : decode bI2 5 = .ok (.iconst 0, 1) := by decide +kernel
theorem dI2_6 : decode bI2 6 = .ok (.putfield 9, 3) := by decide +kernel
theorem dI2_9 : decode bI2 9 = .ok (.aload_n 0, 1) := by decide +kernel
theorem dI2_10 : decode bI2 10 = .ok (.iconst 0, 1) := by decide +kernel
theorem dI2_11 : decode bI2 11 = .ok (.putfield 15, 3) := by decide +kernel
theorem dI2_14 : decode bI2 14 = .ok (.aload_n 0, 1) := by decide +kernel
theorem dI2_15 : decode bI2 15 = .ok (.bipush 40, 2) := by decide +kernel
theorem dI2_17 : decode bI2 17 = .ok (.newarray .long, 2) := by decide +kernel
theorem dI2_19 : decode bI2 19 = .ok (.putfield 18, 3) := by decide +kernel
theorem dI2_22 : decode bI2 22 = .ok (.return_, 1) := by decide +kernel
theorem dI3_0 : decode bI3 0 = .ok (.aload_n 0, 1) := by decide +kernel
theorem dI3_1 : decode bI3 1 = .ok (.invokespecial 3, 3) := by decide +kernel
theorem dI3_4 : decode bI3 4 = .ok (.return_, 1) := by decide +kernel
theorem dI4_0 : decode bI4 0 = .ok (.aload_n 0, 1) := by decide +kernel
theorem dI4_1 : decode bI4 1 = .ok (.invokespecial 3, 3) := by decide +kernel
theorem dI4_4 : decode bI4 4 = .ok (.aload_n 0, 1) := by decide +kernel
theorem dI4_5 : decode bI4 5 = .ok (.iconst 0, 1) := by decide +kernel
theorem dI4_6 : decode bI4 6 = .ok (.putfield 9, 3) := by decide +kernel
theorem dI4_9 : decode bI4 9 = .ok (.aload_n 0, 1) := by decide +kernel
theorem dI4_10 : decode bI4 10 = .ok (.bipush 120, 2) := by decide +kernel
theorem dI4_12 : decode bI4 12 = .ok (.newarray .byte, 2) := by decide +kernel
theorem dI4_14 : decode bI4 14 = .ok (.putfield 15, 3) := by decide +kernel
theorem dI4_17 : decode bI4 17 = .ok (.aload_n 0, 1) := by decide +kernel
theorem dI4_18 : decode bI4 18 = .ok (.iconst 0, 1) := by decide +kernel
theorem dI4_19 : decode bI4 19 = .ok (.putfield 19, 3) := by decide +kernel
theorem dI4_22 : decode bI4 22 = .ok (.aload_n 0, 1) := by decide +kernel
theorem dI4_23 : decode bI4 23 = .ok (.iconst 0, 1) := by decide +kernel
theorem dI4_24 : decode bI4 24 = .ok (.putfield 22, 3) := by decide +kernel
theorem dI4_27 : decode bI4 27 = .ok (.aload_n 0, 1) := by decide +kernel
theorem dI4_28 : decode bI4 28 = .ok (.iconst 0, 1) := by decide +kernel
theorem dI4_29 : decode bI4 29 = .ok (.putfield 25, 3) := by decide +kernel
theorem dI4_32 : decode bI4 32 = .ok (.aload_n 0, 1) := by decide +kernel
theorem dI4_33 : decode bI4 33 = .ok (.iconst 0, 1) := by decide +kernel
theorem dI4_34 : decode bI4 34 = .ok (.putfield 28, 3) := by decide +kernel
theorem dI4_37 : decode bI4 37 = .ok (.return_, 1) := by decide +kernel
theorem dI5_0 : decode bI5 0 = .ok (.aload_n 0, 1) := by decide +kernel
theorem dI5_1 : decode bI5 1 = .ok (.invokespecial 1, 3) := by decide +kernel
theorem dI5_4 : decode bI5 4 = .ok (.aload_n 0, 1) := by decide +kernel
theorem dI5_5 : decode bI5 5 = .ok (.new 7, 3) := by decide +kernel
theorem dI5_8 : decode bI5 8 = .ok (.dup, 1) := by decide +kernel
theorem dI5_9 : decode bI5 9 = .ok (.invokespecial 9, 3) := by decide +kernel
theorem dI5_12 : decode bI5 12 = .ok (.putfield 10, 3) := by decide +kernel
theorem dI5_15 : decode bI5 15 = .ok (.aload_n 0, 1) := by decide +kernel
theorem dI5_16 : decode bI5 16 = .ok (.new 7, 3) := by decide +kernel
theorem dI5_19 : decode bI5 19 = .ok (.dup, 1) := by decide +kernel
theorem dI5_20 : decode bI5 20 = .ok (.invokespecial 9, 3) := by decide +kernel
theorem dI5_23 : decode bI5 23 = .ok (.putfield 16, 3) := by decide +kernel
theorem dI5_26 : decode bI5 26 = .ok (.aload_n 0, 1) := by decide +kernel
theorem dI5_27 : decode bI5 27 = .ok (.new 7, 3) := by decide +kernel
theorem dI5_30 : decode bI5 30 = .ok (.dup, 1) := by decide +kernel
theorem dI5_31 : decode bI5 31 = .ok (.invokespecial 9, 3) := by decide +kernel
theorem dI5_34 : decode bI5 34 = .ok (.putfield 19, 3) := by decide +kernel
theorem dI5_37 : decode bI5 37 = .ok (.aload_n 0, 1) := by decide +kernel
theorem dI5_38 : decode bI5 38 = .ok (.new 22, 3) := by decide +kernel
theorem dI5_41 : decode bI5 41 = .ok (.dup, 1) := by decide +kernel
theorem dI5_42 : decode bI5 42 = .ok (.invokespecial 24, 3) := by decide +kernel
theorem dI5_45 : decode bI5 45 = .ok (.putfield 25, 3) := by decide +kernel
theorem dI5_48 : decode bI5 48 = .ok (.aload_n 0, 1) := by decide +kernel
theorem dI5_49 : decode bI5 49 = .ok (.new 29, 3) := by decide +kernel
theorem dI5_52 : decode bI5 52 = .ok (.dup, 1) := by decide +kernel
theorem dI5_53 : decode bI5 53 = .ok (.invokespecial 31, 3) := by decide +kernel
theorem dI5_56 : decode bI5 56 = .ok (.putfield 32, 3) := by decide +kernel
theorem dI5_59 : decode bI5 59 = .ok (.aload_n 0, 1) := by decide +kernel
theorem dI5_60 : decode bI5 60 = .ok (.iconst 4, 1) := by decide +kernel
theorem dI5_61 : decode bI5 61 = .ok (.anewarray 36, 3) := by decide +kernel
theorem dI5_64 : decode bI5 64 = .ok (.putfield 38, 3) := by decide +kernel
theorem dI5_67 : decode bI5 67 = .ok (.aload_n 0, 1) := by decide +kernel
theorem dI5_68 : decode bI5 68 = .ok (.bipush 7, 2) := by decide +kernel
theorem dI5_70 : decode bI5 70 = .ok (.newarray .int, 2) := by decide +kernel
theorem dI5_72 : decode bI5 72 = .ok (.putfield 42, 3) := by decide +kernel
theorem dI5_75 : decode bI5 75 = .ok (.aload_n 0, 1) := by decide +kernel
theorem dI5_76 : decode bI5 76 = .ok (.iconst 0, 1) := by decide +kernel
theorem dI5_77 : decode bI5 77 = .ok (.putfield 46, 3) := by decide +kernel
theorem dI5_80 : decode bI5 80 = .ok (.iconst 0, 1) := by decide +kernel
theorem dI5_81 : decode bI5 81 = .ok (.istore_n 1, 1) := by decide +kernel
theorem dI5_82 : decode bI5 82 = .ok (.iload_n 1, 1) := by decide +kernel
theorem dI5_83 : decode bI5 83 = .ok (.iconst 4, 1) := by decide +kernel
theorem dI5_84 : decode bI5 84 = .ok (.if_icmp .ge 22, 3) := by decide +kernel
theorem dI5_87 : decode bI5 87 = .ok (.aload_n 0, 1) := by decide +kernel
theorem dI5_88 : decode bI5 88 = .ok (.getfield 38, 3) := by decide +kernel
theorem dI5_91 : decode bI5 91 = .ok (.iload_n 1, 1) := by decide +kernel
theorem dI5_92 : decode bI5 92 = .ok (.new 36, 3) := by decide +kernel
theorem dI5_95 : decode bI5 95 = .ok (.dup, 1) := by decide +kernel
theorem dI5_96 : decode bI5 96 = .ok (.invokespecial 50, 3) := by decide +kernel
theorem dI5_99 : decode bI5 99 = .ok (.aastore, 1) := by decide +kernel
theorem dI5_100 : decode bI5 100 = .ok (.iinc 1 1, 3) := by decide +kernel
theorem dI5_103 : decode bI5 103 = .ok (.goto (-21), 3) := by decide +kernel
theorem dI5_106 : decode bI5 106 = .ok (.return_, 1) := by decide +kernel
theorem dI6_0 : decode bI6 0 = .ok (.aload_n 0, 1) := by decide +kernel
theorem dI6_1 : decode bI6 1 = .ok (.invokespecial 1, 3) := by decide +kernel
theorem dI6_4 : decode bI6 4 = .ok (.aload_n 0, 1) := by decide +kernel
theorem dI6_5 : decode bI6 5 = .ok (.bipush 59, 2) := by decide +kernel
theorem dI6_7 : decode bI6 7 = .ok (.newarray .int, 2) := by decide +kernel
theorem dI6_9 : decode bI6 9 = .ok (.putfield 7, 3) := by decide +kernel
theorem dI6_12 : decode bI6 12 = .ok (.aload_n 0, 1) := by decide +kernel
theorem dI6_13 : decode bI6 13 = .ok (.bipush 59, 2) := by decide +kernel
theorem dI6_15 : decode bI6 15 = .ok (.newarray .int, 2) := by decide +kernel
theorem dI6_17 : decode bI6 17 = .ok (.putfield 13, 3) := by decide +kernel
theorem dI6_20 : decode bI6 20 = .ok (.aload_n 0, 1) := by decide +kernel
theorem dI6_21 : decode bI6 21 = .ok (.bipush 59, 2) := by decide +kernel
theorem dI6_23 : decode bI6 23 = .ok (.newarray .int, 2) := by decide +kernel
theorem dI6_25 : decode bI6 25 = .ok (.putfield 16, 3) := by decide +kernel
theorem dI6_28 : decode bI6 28 = .ok (.aload_n 0, 1) := by decide +kernel
theorem dI6_29 : decode bI6 29 = .ok (.bipush 59, 2) := by decide +kernel
theorem dI6_31 : decode bI6 31 = .ok (.newarray .int, 2) := by decide +kernel
theorem dI6_33 : decode bI6 33 = .ok (.putfield 19, 3) := by decide +kernel
theorem dI6_36 : decode bI6 36 = .ok (.aload_n 0, 1) := by decide +kernel
theorem dI6_37 : decode bI6 37 = .ok (.bipush 7, 2) := by decide +kernel
theorem dI6_39 : decode bI6 39 = .ok (.newarray .int, 2) := by decide +kernel
theorem dI6_41 : decode bI6 41 = .ok (.putfield 22, 3) := by decide +kernel
theorem dI6_44 : decode bI6 44 = .ok (.aload_n 0, 1) := by decide +kernel
theorem dI6_45 : decode bI6 45 = .ok (.sipush 256, 3) := by decide +kernel
theorem dI6_48 : decode bI6 48 = .ok (.newarray .int, 2) := by decide +kernel
theorem dI6_50 : decode bI6 50 = .ok (.putfield 25, 3) := by decide +kernel
theorem dI6_53 : decode bI6 53 = .ok (.aload_n 0, 1) := by decide +kernel
theorem dI6_54 : decode bI6 54 = .ok (.bipush 8, 2) := by decide +kernel
theorem dI6_56 : decode bI6 56 = .ok (.newarray .int, 2) := by decide +kernel
theorem dI6_58 : decode bI6 58 = .ok (.putfield 28, 3) := by decide +kernel
theorem dI6_61 : decode bI6 61 = .ok (.aload_n 0, 1) := by decide +kernel
theorem dI6_62 : decode bI6 62 = .ok (.bipush 120, 2) := by decide +kernel
theorem dI6_64 : decode bI6 64 = .ok (.newarray .int, 2) := by decide +kernel
theorem dI6_66 : decode bI6 66 = .ok (.putfield 31, 3) := by decide +kernel
theorem dI6_69 : decode bI6 69 = .ok (.aload_n 0, 1) := by decide +kernel
theorem dI6_70 : decode bI6 70 = .ok (.iconst 4, 1) := by decide +kernel
theorem dI6_71 : decode bI6 71 = .ok (.newarray .int, 2) := by decide +kernel
theorem dI6_73 : decode bI6 73 = .ok (.putfield 34, 3) := by decide +kernel
theorem dI6_76 : decode bI6 76 = .ok (.aload_n 0, 1) := by decide +kernel
theorem dI6_77 : decode bI6 77 = .ok (.iconst 4, 1) := by decide +kernel
theorem dI6_78 : decode bI6 78 = .ok (.newarray .int, 2) := by decide +kernel
theorem dI6_80 : decode bI6 80 = .ok (.putfield 37, 3) := by decide +kernel
theorem dI6_83 : decode bI6 83 = .ok (.aload_n 0, 1) := by decide +kernel
theorem dI6_84 : decode bI6 84 = .ok (.sipush 160, 3) := by decide +kernel
theorem dI6_87 : decode bI6 87 = .ok (.newarray .long, 2) := by decide +kernel
theorem dI6_89 : decode bI6 89 = .ok (.putfield 40, 3) := by decide +kernel
theorem dI6_92 : decode bI6 92 = .ok (.aload_n 0, 1) := by decide +kernel
theorem dI6_93 : decode bI6 93 = .ok (.bipush 40, 2) := by decide +kernel
theorem dI6_95 : decode bI6 95 = .ok (.newarray .long, 2) := by decide +kernel
theorem dI6_97 : decode bI6 97 = .ok (.putfield 44, 3) := by decide +kernel
theorem dI6_100 : decode bI6 100 = .ok (.return_, 1) := by decide +kernel
theorem dIL_0 : decode code 0 = .ok (.new 7, 3) := by decide +kernel
theorem dIL_3 : decode code 3 = .ok (.dup, 1) := by decide +kernel
theorem dIL_4 : decode code 4 = .ok (.invokespecial 9, 3) := by decide +kernel
theorem dIL_7 : decode code 7 = .ok (.astore_n 1, 1) := by decide +kernel
theorem dIL_8 : decode code 8 = .ok (.new 10, 3) := by decide +kernel
theorem dIL_11 : decode code 11 = .ok (.dup, 1) := by decide +kernel
theorem dIL_12 : decode code 12 = .ok (.invokespecial 12, 3) := by decide +kernel
theorem dIL_15 : decode code 15 = .ok (.astore_n 2, 1) := by decide +kernel
theorem dIL_16 : decode code 16 = .ok (.iconst 0, 1) := by decide +kernel
theorem dIL_17 : decode code 17 = .ok (.istore_n 3, 1) := by decide +kernel
theorem wI_oi : (.instanceMethod objectInit : Cond) ∈ WS := wAt_in (i := 96) (by decide +kernel)
theorem wI_oc : (.code objectInit ⟨#[0xb1]⟩ 1 none : Cond) ∈ WS := wAt_in (i := 97) (by decide +kernel)
theorem wI_aint : (.arrayClass .int : Cond) ∈ WS := wAt_in (i := 146) (by decide +kernel)
theorem wI_abyte : (.arrayClass .byte : Cond) ∈ WS := wAt_in (i := 209) (by decide +kernel)
theorem wI_along : (.arrayClass .long : Cond) ∈ WS := wAt_in (i := 230) (by decide +kernel)
theorem wI_ini0 : (.initialized RX0 : Cond) ∈ WS := wAt_in (i := 79) (by decide +kernel)
theorem wI_ins0 : (.instantiable RX0 2 : Cond) ∈ WS := wAt_in (i := 171) (by decide +kernel)
theorem wI_inm0 : (.instanceMethod yI0 : Cond) ∈ WS := wAt_in (i := 173) (by decide +kernel)
theorem wI_cod0 : (.code yI0 bI0 1 none : Cond) ∈ WS := wAt_in (i := 174) (by decide +kernel)
theorem wI_obj0 : (.methodLink RX0 3 objectInit : Cond) ∈ WS := wAt_in (i := 175) (by decide +kernel)
theorem wI_ini1 : (.initialized RX1 : Cond) ∈ WS := wAt_in (i := 77) (by decide +kernel)
theorem wI_ins1 : (.instantiable RX1 5 : Cond) ∈ WS := wAt_in (i := 99) (by decide +kernel)
theorem wI_inm1 : (.instanceMethod yI1 : Cond) ∈ WS := wAt_in (i := 101) (by decide +kernel)
theorem wI_cod1 : (.code yI1 bI1 2 none : Cond) ∈ WS := wAt_in (i := 102) (by decide +kernel)
theorem wI_obj1 : (.methodLink RX1 3 objectInit : Cond) ∈ WS := wAt_in (i := 103) (by decide +kernel)
theorem wI_ini2 : (.initialized RX2 : Cond) ∈ WS := wAt_in (i := 81) (by decide +kernel)
theorem wI_ins2 : (.instantiable RX2 3 : Cond) ∈ WS := wAt_in (i := 212) (by decide +kernel)
theorem wI_inm2 : (.instanceMethod yI2 : Cond) ∈ WS := wAt_in (i := 214) (by decide +kernel)
theorem wI_cod2 : (.code yI2 bI2 1 none : Cond) ∈ WS := wAt_in (i := 215) (by decide +kernel)
theorem wI_obj2 : (.methodLink RX2 3 objectInit : Cond) ∈ WS := wAt_in (i := 216) (by decide +kernel)
theorem wI_ini3 : (.initialized RX3 : Cond) ∈ WS := wAt_in (i := 78) (by decide +kernel)
theorem wI_ins3 : (.instantiable RX3 7 : Cond) ∈ WS := wAt_in (i := 106) (by decide +kernel)
theorem wI_inm3 : (.instanceMethod yI3 : Cond) ∈ WS := wAt_in (i := 108) (by decide +kernel)
theorem wI_cod3 : (.code yI3 bI3 1 none : Cond) ∈ WS := wAt_in (i := 109) (by decide +kernel)
theorem wI_obj3 : (.methodLink RX3 3 objectInit : Cond) ∈ WS := wAt_in (i := 110) (by decide +kernel)
theorem wI_ini4 : (.initialized RX4 : Cond) ∈ WS := wAt_in (i := 80) (by decide +kernel)
theorem wI_ins4 : (.instantiable RX4 6 : Cond) ∈ WS := wAt_in (i := 184) (by decide +kernel)
theorem wI_inm4 : (.instanceMethod yI4 : Cond) ∈ WS := wAt_in (i := 186) (by decide +kernel)
theorem wI_cod4 : (.code yI4 bI4 1 none : Cond) ∈ WS := wAt_in (i := 187) (by decide +kernel)
theorem wI_obj4 : (.methodLink RX4 3 objectInit : Cond) ∈ WS := wAt_in (i := 188) (by decide +kernel)
theorem wI_ini5 : (.initialized RX5 : Cond) ∈ WS := wAt_in (i := 76) (by decide +kernel)
theorem wI_ins5 : (.instantiable RX5 8 : Cond) ∈ WS := wAt_in (i := 91) (by decide +kernel)
theorem wI_inm5 : (.instanceMethod yI5 : Cond) ∈ WS := wAt_in (i := 93) (by decide +kernel)
theorem wI_cod5 : (.code yI5 bI5 2 none : Cond) ∈ WS := wAt_in (i := 94) (by decide +kernel)
theorem wI_obj5 : (.methodLink RX5 1 objectInit : Cond) ∈ WS := wAt_in (i := 95) (by decide +kernel)
theorem wI_ini6 : (.initialized RX6 : Cond) ∈ WS := wAt_in (i := 82) (by decide +kernel)
theorem wI_ins6 : (.instantiable RX6 21 : Cond) ∈ WS := wAt_in (i := 790) (by decide +kernel)
theorem wI_inm6 : (.instanceMethod yI6 : Cond) ∈ WS := wAt_in (i := 792) (by decide +kernel)
theorem wI_cod6 : (.code yI6 bI6 1 none : Cond) ∈ WS := wAt_in (i := 793) (by decide +kernel)
theorem wI_obj6 : (.methodLink RX6 1 objectInit : Cond) ∈ WS := wAt_in (i := 794) (by decide +kernel)
theorem wI_cl_RX1_21 : (.classLink RX1 21 RX3 : Cond) ∈ WS := wAt_in (i := 104) (by decide +kernel)
theorem wI_cl_RX5_7 : (.classLink RX5 7 RX1 : Cond) ∈ WS := wAt_in (i := 98) (by decide +kernel)
theorem wI_cl_RX5_22 : (.classLink RX5 22 RX0 : Cond) ∈ WS := wAt_in (i := 170) (by decide +kernel)
theorem wI_cl_RX5_29 : (.classLink RX5 29 RX4 : Cond) ∈ WS := wAt_in (i := 183) (by decide +kernel)
theorem wI_cl_RX5_36 : (.classLink RX5 36 RX2 : Cond) ∈ WS := wAt_in (i := 210) (by decide +kernel)
theorem wI_cl_L_7 : (.classLink "RopeEndsLaw" 7 RX5 : Cond) ∈ WS := wAt_in (i := 90) (by decide +kernel)
theorem wI_cl_L_10 : (.classLink "RopeEndsLaw" 10 RX6 : Cond) ∈ WS := wAt_in (i := 789) (by decide +kernel)
theorem wI_ml_5_9 : (.methodLink RX5 9 yI1 : Cond) ∈ WS := wAt_in (i := 100) (by decide +kernel)
theorem wI_ml_L_9 : (.methodLink "RopeEndsLaw" 9 yI5 : Cond) ∈ WS := wAt_in (i := 92) (by decide +kernel)
theorem wI_ml_L_12 : (.methodLink "RopeEndsLaw" 12 yI6 : Cond) ∈ WS := wAt_in (i := 791) (by decide +kernel)
theorem wI_f0_9 : (.fieldLink RX0 9 "RopeEnds$Bending" "endsOf" "[I" : Cond) ∈ WS := wAt_in (i := 176) (by decide +kernel)
theorem wI_f0_15 : (.fieldLink RX0 15 "RopeEnds$Bending" "bendsTo" "[I" : Cond) ∈ WS := wAt_in (i := 177) (by decide +kernel)
theorem wI_f1_9 : (.fieldLink RX1 9 "RopeEnds$Hold" "hour" "I" : Cond) ∈ WS := wAt_in (i := 147) (by decide +kernel)
theorem wI_f1_15 : (.fieldLink RX1 15 "RopeEnds$Hold" "gale" "I" : Cond) ∈ WS := wAt_in (i := 149) (by decide +kernel)
theorem wI_f1_18 : (.fieldLink RX1 18 "RopeEnds$Hold" "size" "I" : Cond) ∈ WS := wAt_in (i := 152) (by decide +kernel)
theorem wI_f1_23 : (.fieldLink RX1 23 "RopeEnds$Hold" "strands" "[LRopeEnds$Strand;" : Cond) ∈ WS := wAt_in (i := 155) (by decide +kernel)
theorem wI_f1_27 : (.fieldLink RX1 27 "RopeEnds$Hold" "friendsBefore" "[I" : Cond) ∈ WS := wAt_in (i := 158) (by decide +kernel)
theorem wI_f2_9 : (.fieldLink RX2 9 "RopeEnds$Page" "bits" "I" : Cond) ∈ WS := wAt_in (i := 217) (by decide +kernel)
theorem wI_f2_15 : (.fieldLink RX2 15 "RopeEnds$Page" "size" "I" : Cond) ∈ WS := wAt_in (i := 219) (by decide +kernel)
theorem wI_f2_18 : (.fieldLink RX2 18 "RopeEnds$Page" "numbers" "[J" : Cond) ∈ WS := wAt_in (i := 221) (by decide +kernel)
theorem wI_f4_9 : (.fieldLink RX4 9 "RopeEnds$Tape" "size" "I" : Cond) ∈ WS := wAt_in (i := 189) (by decide +kernel)
theorem wI_f4_15 : (.fieldLink RX4 15 "RopeEnds$Tape" "bytes" "[B" : Cond) ∈ WS := wAt_in (i := 191) (by decide +kernel)
theorem wI_f4_19 : (.fieldLink RX4 19 "RopeEnds$Tape" "sort" "I" : Cond) ∈ WS := wAt_in (i := 192) (by decide +kernel)
theorem wI_f4_22 : (.fieldLink RX4 22 "RopeEnds$Tape" "start" "I" : Cond) ∈ WS := wAt_in (i := 193) (by decide +kernel)
theorem wI_f4_25 : (.fieldLink RX4 25 "RopeEnds$Tape" "after" "I" : Cond) ∈ WS := wAt_in (i := 194) (by decide +kernel)
theorem wI_f4_28 : (.fieldLink RX4 28 "RopeEnds$Tape" "number" "I" : Cond) ∈ WS := wAt_in (i := 195) (by decide +kernel)
theorem wI_f5_10 : (.fieldLink RX5 10 "RopeEnds" "live" "LRopeEnds$Hold;" : Cond) ∈ WS := wAt_in (i := 231) (by decide +kernel)
theorem wI_f5_16 : (.fieldLink RX5 16 "RopeEnds" "kept" "LRopeEnds$Hold;" : Cond) ∈ WS := wAt_in (i := 232) (by decide +kernel)
theorem wI_f5_19 : (.fieldLink RX5 19 "RopeEnds" "trial" "LRopeEnds$Hold;" : Cond) ∈ WS := wAt_in (i := 233) (by decide +kernel)
theorem wI_f5_25 : (.fieldLink RX5 25 "RopeEnds" "bending" "LRopeEnds$Bending;" : Cond) ∈ WS := wAt_in (i := 234) (by decide +kernel)
theorem wI_f5_32 : (.fieldLink RX5 32 "RopeEnds" "tape" "LRopeEnds$Tape;" : Cond) ∈ WS := wAt_in (i := 235) (by decide +kernel)
theorem wI_f5_38 : (.fieldLink RX5 38 "RopeEnds" "pages" "[LRopeEnds$Page;" : Cond) ∈ WS := wAt_in (i := 236) (by decide +kernel)
theorem wI_f5_42 : (.fieldLink RX5 42 "RopeEnds" "told" "[I" : Cond) ∈ WS := wAt_in (i := 237) (by decide +kernel)
theorem wI_f5_46 : (.fieldLink RX5 46 "RopeEnds" "keeps" "Z" : Cond) ∈ WS := wAt_in (i := 238) (by decide +kernel)
theorem wI_f6_7 : (.fieldLink RX6 7 "RopeEndsModel" "s" "[I" : Cond) ∈ WS := wAt_in (i := 795) (by decide +kernel)
theorem wI_f6_13 : (.fieldLink RX6 13 "RopeEndsModel" "keptS" "[I" : Cond) ∈ WS := wAt_in (i := 796) (by decide +kernel)
theorem wI_f6_16 : (.fieldLink RX6 16 "RopeEndsModel" "other" "[I" : Cond) ∈ WS := wAt_in (i := 797) (by decide +kernel)
theorem wI_f6_19 : (.fieldLink RX6 19 "RopeEndsModel" "aside" "[I" : Cond) ∈ WS := wAt_in (i := 798) (by decide +kernel)
theorem wI_f6_22 : (.fieldLink RX6 22 "RopeEndsModel" "statuses" "[I" : Cond) ∈ WS := wAt_in (i := 799) (by decide +kernel)
theorem wI_f6_25 : (.fieldLink RX6 25 "RopeEndsModel" "lasts" "[I" : Cond) ∈ WS := wAt_in (i := 801) (by decide +kernel)
theorem wI_f6_28 : (.fieldLink RX6 28 "RopeEndsModel" "knew" "[I" : Cond) ∈ WS := wAt_in (i := 805) (by decide +kernel)
theorem wI_f6_31 : (.fieldLink RX6 31 "RopeEndsModel" "tape" "[I" : Cond) ∈ WS := wAt_in (i := 806) (by decide +kernel)
theorem wI_f6_34 : (.fieldLink RX6 34 "RopeEndsModel" "bitsOf" "[I" : Cond) ∈ WS := wAt_in (i := 812) (by decide +kernel)
theorem wI_f6_37 : (.fieldLink RX6 37 "RopeEndsModel" "sizeOf" "[I" : Cond) ∈ WS := wAt_in (i := 813) (by decide +kernel)
theorem wI_f6_40 : (.fieldLink RX6 40 "RopeEndsModel" "numbers" "[J" : Cond) ∈ WS := wAt_in (i := 814) (by decide +kernel)
theorem wI_f6_44 : (.fieldLink RX6 44 "RopeEndsModel" "moved" "[J" : Cond) ∈ WS := wAt_in (i := 815) (by decide +kernel)
abbrev eI0 : va_E := .inr (0, [.null, .null])
abbrev eI1 : va_E := .inr (1, [.int 0, .int 0, .int 0, .null, .null])
abbrev eI2 : va_E := .inr (2, [.int 0, .int 0, .null])
abbrev eI3 : va_E := .inr (3, [.int 0, .int 0, .int 0, .int 0, .int 0, .int 0, .int 0])
abbrev eI4 : va_E := .inr (4, [.int 0, .null, .int 0, .int 0, .int 0, .int 0])
abbrev eI5 : va_E := .inr (5, [.null, .null, .null, .null, .null, .null, .null, .int 0])
abbrev eI6 : va_E := .inr (6, [.null, .null, .null, .null, .null, .int 0, .null, .int 0, .int 0, .int 0, .null, .null, .int 0, .int 0, .int 0, .int 0, .int 0, .null, .null, .null, .null])
abbrev wI3 (K : Nat → ClassId) (a : Nat → Nat) : va_W := [(a 0, .inr (3, [.int 0, .int 0, .int 0, .int 0, .int 0, .int 0, .int 0]))]
abbrev wI0 (K : Nat → ClassId) (a : Nat → Nat) : va_W := [(a 0, .inr (0, [.ref (a 1), .ref (a 2)])), (a 1, .inl (K 0, 256, .inl (fun _ => 0))), (a 2, .inl (K 0, 8, .inl (fun _ => 0)))]
abbrev wI2 (K : Nat → ClassId) (a : Nat → Nat) : va_W := [(a 0, .inr (2, [.int 0, .int 0, .ref (a 1)])), (a 1, .inl (K 2, 40, .inr (.inl (fun _ => 0))))]
abbrev wI4 (K : Nat → ClassId) (a : Nat → Nat) : va_W := [(a 0, .inr (4, [.int 0, .ref (a 1), .int 0, .int 0, .int 0, .int 0])), (a 1, .inl (K 1, 120, .inl (fun _ => 0)))]
abbrev wI1 (K : Nat → ClassId) (a : Nat → Nat) : va_W := [(a 0, .inr (1, [.int 0, .int 0, .int 0, .ref (a 1), .ref (a 2)])), (a 1, .inl (K 3, 8, .inr (.inr (.inr (.inr (fun j => ([some (a 3), some (a 4), some (a 5), some (a 6), some (a 7), some (a 8), some (a 9), some (a 10)] : List (Option Nat)).getD j none)))))), (a 2, .inl (K 0, 8, .inl (fun _ => 0))), (a 3, .inr (3, [.int 0, .int 0, .int 0, .int 0, .int 0, .int 0, .int 0])), (a 4, .inr (3, [.int 0, .int 0, .int 0, .int 0, .int 0, .int 0, .int 0])), (a 5, .inr (3, [.int 0, .int 0, .int 0, .int 0, .int 0, .int 0, .int 0])), (a 6, .inr (3, [.int 0, .int 0, .int 0, .int 0, .int 0, .int 0, .int 0])), (a 7, .inr (3, [.int 0, .int 0, .int 0, .int 0, .int 0, .int 0, .int 0])), (a 8, .inr (3, [.int 0, .int 0, .int 0, .int 0, .int 0, .int 0, .int 0])), (a 9, .inr (3, [.int 0, .int 0, .int 0, .int 0, .int 0, .int 0, .int 0])), (a 10, .inr (3, [.int 0, .int 0, .int 0, .int 0, .int 0, .int 0, .int 0]))]
abbrev wI6 (K : Nat → ClassId) (a : Nat → Nat) : va_W := [(a 0, .inr (6, [.ref (a 1), .ref (a 2), .ref (a 3), .ref (a 4), .ref (a 5), .int 0, .ref (a 6), .int 0, .int 0, .int 0, .ref (a 7), .ref (a 8), .int 0, .int 0, .int 0, .int 0, .int 0, .ref (a 9), .ref (a 10), .ref (a 11), .ref (a 12)])), (a 1, .inl (K 0, 59, .inl (fun _ => 0))), (a 2, .inl (K 0, 59, .inl (fun _ => 0))), (a 3, .inl (K 0, 59, .inl (fun _ => 0))), (a 4, .inl (K 0, 59, .inl (fun _ => 0))), (a 5, .inl (K 0, 7, .inl (fun _ => 0))), (a 6, .inl (K 0, 256, .inl (fun _ => 0))), (a 7, .inl (K 0, 8, .inl (fun _ => 0))), (a 8, .inl (K 0, 120, .inl (fun _ => 0))), (a 9, .inl (K 0, 4, .inl (fun _ => 0))), (a 10, .inl (K 0, 4, .inl (fun _ => 0))), (a 11, .inl (K 2, 160, .inr (.inl (fun _ => 0)))), (a 12, .inl (K 2, 40, .inr (.inl (fun _ => 0))))]
abbrev wI5 (K : Nat → ClassId) (a : Nat → Nat) : va_W := (a 0, .inr (5, [.ref (a 1), .ref (a 12), .ref (a 23), .ref (a 34), .ref (a 37), .ref (a 39), .ref (a 48), .int 0])) :: (a 39, .inl (K 4, 4, .inr (.inr (.inr (.inr (fun j => ([some (a 40), some (a 41), some (a 42), some (a 43)] : List (Option Nat)).getD j none)))))) :: (a 48, .inl (K 0, 7, .inl (fun _ => 0))) :: (wI1 K (fun i => a (1 + i)) ++ wI1 K (fun i => a (12 + i)) ++ wI1 K (fun i => a (23 + i)) ++ wI0 K (fun i => a (34 + i)) ++ wI4 K (fun i => a (37 + i)) ++ wI2 K (fun i => a (40 + 4 * i)) ++ wI2 K (fun i => a (41 + 4 * i)) ++ wI2 K (fun i => a (42 + 4 * i)) ++ wI2 K (fun i => a (43 + 4 * i)))
abbrev rI3 : Room := { frames := 1, cells := 0, slots := 0, locals := 12 }
abbrev rI0 : Room := { frames := 1, cells := 2, slots := 264, locals := 12 }
abbrev rI2 : Room := { frames := 1, cells := 1, slots := 40, locals := 12 }
abbrev rI4 : Room := { frames := 1, cells := 1, slots := 120, locals := 12 }
abbrev rI1 : Room := { frames := 2, cells := 10, slots := 72, locals := 32 }
abbrev rI6 : Room := { frames := 1, cells := 12, slots := 835, locals := 12 }
abbrev rI5 : Room := { frames := 3, cells := 48, slots := 806, locals := 53 }

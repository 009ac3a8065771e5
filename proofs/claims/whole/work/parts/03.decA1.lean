theorem dX0_init_0 : decode cX0_init 0 = .ok (.aload_n 0, 1) := by decide +kernel
theorem dX0_init_1 : decode cX0_init 1 = .ok (.invokespecial 3, 3) := by decide +kernel
theorem dX0_init_4 : decode cX0_init 4 = .ok (.aload_n 0, 1) := by decide +kernel
theorem dX0_init_5 : decode cX0_init 5 = .ok (.bipush 16, 2) := by decide +kernel
theorem dX0_init_7 : decode cX0_init 7 = .ok (.newarray .int, 2) := by decide +kernel
theorem dX0_init_9 : decode cX0_init 9 = .ok (.putfield 11, 3) := by decide +kernel
theorem dX0_init_12 : decode cX0_init 12 = .ok (.aload_n 0, 1) := by decide +kernel
theorem dX0_init_13 : decode cX0_init 13 = .ok (.iconst 0, 1) := by decide +kernel
theorem dX0_init_14 : decode cX0_init 14 = .ok (.putfield 15, 3) := by decide +kernel
theorem dX0_init_17 : decode cX0_init 17 = .ok (.aload_n 0, 1) := by decide +kernel
theorem dX0_init_18 : decode cX0_init 18 = .ok (.iconst 0, 1) := by decide +kernel
theorem dX0_init_19 : decode cX0_init 19 = .ok (.putfield 19, 3) := by decide +kernel
theorem dX0_init_22 : decode cX0_init 22 = .ok (.return_, 1) := by decide +kernel
theorem dX0_empty_0 : decode cX0_empty 0 = .ok (.aload_n 0, 1) := by decide +kernel
theorem dX0_empty_1 : decode cX0_empty 1 = .ok (.iconst 0, 1) := by decide +kernel
theorem dX0_empty_2 : decode cX0_empty 2 = .ok (.putfield 15, 3) := by decide +kernel
theorem dX0_empty_5 : decode cX0_empty 5 = .ok (.aload_n 0, 1) := by decide +kernel
theorem dX0_empty_6 : decode cX0_empty 6 = .ok (.iconst 0, 1) := by decide +kernel
theorem dX0_empty_7 : decode cX0_empty 7 = .ok (.putfield 19, 3) := by decide +kernel
theorem dX0_empty_10 : decode cX0_empty 10 = .ok (.return_, 1) := by decide +kernel
theorem dX0_become_0 : decode cX0_become 0 = .ok (.iload_n 2, 1) := by decide +kernel
theorem dX0_become_1 : decode cX0_become 1 = .ok (.aload_n 0, 1) := by decide +kernel
theorem dX0_become_2 : decode cX0_become 2 = .ok (.getfield 11, 3) := by decide +kernel
theorem dX0_become_5 : decode cX0_become 5 = .ok (.arraylength, 1) := by decide +kernel
theorem dX0_become_6 : decode cX0_become 6 = .ok (.if_icmp .le 26, 3) := by decide +kernel
theorem dX0_become_9 : decode cX0_become 9 = .ok (.aload_n 0, 1) := by decide +kernel
theorem dX0_become_10 : decode cX0_become 10 = .ok (.sipush 1500, 3) := by decide +kernel
theorem dX0_become_13 : decode cX0_become 13 = .ok (.iload_n 2, 1) := by decide +kernel
theorem dX0_become_14 : decode cX0_become 14 = .ok (.iconst 2, 1) := by decide +kernel
theorem dX0_become_15 : decode cX0_become 15 = .ok (.aload_n 0, 1) := by decide +kernel
theorem dX0_become_16 : decode cX0_become 16 = .ok (.getfield 11, 3) := by decide +kernel
theorem dX0_become_19 : decode cX0_become 19 = .ok (.arraylength, 1) := by decide +kernel
theorem dX0_become_20 : decode cX0_become 20 = .ok (.imul, 1) := by decide +kernel
theorem dX0_become_21 : decode cX0_become 21 = .ok (.invokestatic 22, 3) := by decide +kernel
theorem dX0_become_24 : decode cX0_become 24 = .ok (.invokestatic 28, 3) := by decide +kernel
theorem dX0_become_27 : decode cX0_become 27 = .ok (.newarray .int, 2) := by decide +kernel
theorem dX0_become_29 : decode cX0_become 29 = .ok (.putfield 11, 3) := by decide +kernel
theorem dX0_become_32 : decode cX0_become 32 = .ok (.aload_n 1, 1) := by decide +kernel
theorem dX0_become_33 : decode cX0_become 33 = .ok (.iconst 0, 1) := by decide +kernel
theorem dX0_become_34 : decode cX0_become 34 = .ok (.aload_n 0, 1) := by decide +kernel
theorem dX0_become_35 : decode cX0_become 35 = .ok (.getfield 11, 3) := by decide +kernel
theorem dX0_become_38 : decode cX0_become 38 = .ok (.iconst 0, 1) := by decide +kernel
theorem dX0_become_39 : decode cX0_become 39 = .ok (.iload_n 2, 1) := by decide +kernel
theorem dX0_become_40 : decode cX0_become 40 = .ok (.invokestatic 31, 3) := by decide +kernel
theorem dX0_become_43 : decode cX0_become 43 = .ok (.aload_n 0, 1) := by decide +kernel
theorem dX0_become_44 : decode cX0_become 44 = .ok (.iload_n 2, 1) := by decide +kernel
theorem dX0_become_45 : decode cX0_become 45 = .ok (.putfield 15, 3) := by decide +kernel
theorem dX0_become_48 : decode cX0_become 48 = .ok (.aload_n 0, 1) := by decide +kernel
theorem dX0_become_49 : decode cX0_become 49 = .ok (.iload_n 3, 1) := by decide +kernel
theorem dX0_become_50 : decode cX0_become 50 = .ok (.putfield 19, 3) := by decide +kernel
theorem dX0_become_53 : decode cX0_become 53 = .ok (.return_, 1) := by decide +kernel
theorem dX0_hasNumber_0 : decode cX0_hasNumber 0 = .ok (.iconst 0, 1) := by decide +kernel
theorem dX0_hasNumber_1 : decode cX0_hasNumber 1 = .ok (.istore_n 2, 1) := by decide +kernel
theorem dX0_hasNumber_2 : decode cX0_hasNumber 2 = .ok (.iload_n 2, 1) := by decide +kernel
theorem dX0_hasNumber_3 : decode cX0_hasNumber 3 = .ok (.aload_n 0, 1) := by decide +kernel
theorem dX0_hasNumber_4 : decode cX0_hasNumber 4 = .ok (.getfield 15, 3) := by decide +kernel
theorem dX0_hasNumber_7 : decode cX0_hasNumber 7 = .ok (.if_icmp .ge 21, 3) := by decide +kernel
theorem dX0_hasNumber_10 : decode cX0_hasNumber 10 = .ok (.aload_n 0, 1) := by decide +kernel
theorem dX0_hasNumber_11 : decode cX0_hasNumber 11 = .ok (.getfield 11, 3) := by decide +kernel
theorem dX0_hasNumber_14 : decode cX0_hasNumber 14 = .ok (.iload_n 2, 1) := by decide +kernel
theorem dX0_hasNumber_15 : decode cX0_hasNumber 15 = .ok (.iaload, 1) := by decide +kernel
theorem dX0_hasNumber_16 : decode cX0_hasNumber 16 = .ok (.iload_n 1, 1) := by decide +kernel
theorem dX0_hasNumber_17 : decode cX0_hasNumber 17 = .ok (.if_icmp .ne 5, 3) := by decide +kernel
theorem dX0_hasNumber_20 : decode cX0_hasNumber 20 = .ok (.iconst 1, 1) := by decide +kernel
theorem dX0_hasNumber_21 : decode cX0_hasNumber 21 = .ok (.ireturn, 1) := by decide +kernel
theorem dX0_hasNumber_22 : decode cX0_hasNumber 22 = .ok (.iinc 2 1, 3) := by decide +kernel
theorem dX0_hasNumber_25 : decode cX0_hasNumber 25 = .ok (.goto (-23), 3) := by decide +kernel
theorem dX0_hasNumber_28 : decode cX0_hasNumber 28 = .ok (.iconst 0, 1) := by decide +kernel
theorem dX0_hasNumber_29 : decode cX0_hasNumber 29 = .ok (.ireturn, 1) := by decide +kernel
theorem dX1_init_0 : decode cX1_init 0 = .ok (.aload_n 0, 1) := by decide +kernel
theorem dX1_init_1 : decode cX1_init 1 = .ok (.invokespecial 1, 3) := by decide +kernel
theorem dX1_init_4 : decode cX1_init 4 = .ok (.aload_n 0, 1) := by decide +kernel
theorem dX1_init_5 : decode cX1_init 5 = .ok (.bipush 15, 2) := by decide +kernel
theorem dX1_init_7 : decode cX1_init 7 = .ok (.putfield 7, 3) := by decide +kernel
theorem dX1_init_10 : decode cX1_init 10 = .ok (.aload_n 0, 1) := by decide +kernel
theorem dX1_init_11 : decode cX1_init 11 = .ok (.iconst 4, 1) := by decide +kernel
theorem dX1_init_12 : decode cX1_init 12 = .ok (.putfield 13, 3) := by decide +kernel
theorem dX1_init_15 : decode cX1_init 15 = .ok (.aload_n 0, 1) := by decide +kernel
theorem dX1_init_16 : decode cX1_init 16 = .ok (.bipush 32, 2) := by decide +kernel
theorem dX1_init_18 : decode cX1_init 18 = .ok (.putfield 16, 3) := by decide +kernel
theorem dX1_init_21 : decode cX1_init 21 = .ok (.return_, 1) := by decide +kernel
theorem dX1_setRule_0 : decode cX1_setRule 0 = .ok (.aload_n 0, 1) := by decide +kernel
theorem dX1_setRule_1 : decode cX1_setRule 1 = .ok (.iconst 1, 1) := by decide +kernel
theorem dX1_setRule_2 : decode cX1_setRule 2 = .ok (.iload_n 1, 1) := by decide +kernel
theorem dX1_setRule_3 : decode cX1_setRule 3 = .ok (.ishl, 1) := by decide +kernel
theorem dX1_setRule_4 : decode cX1_setRule 4 = .ok (.iconst 1, 1) := by decide +kernel
theorem dX1_setRule_5 : decode cX1_setRule 5 = .ok (.isub, 1) := by decide +kernel
theorem dX1_setRule_6 : decode cX1_setRule 6 = .ok (.putfield 7, 3) := by decide +kernel
theorem dX1_setRule_9 : decode cX1_setRule 9 = .ok (.aload_n 0, 1) := by decide +kernel
theorem dX1_setRule_10 : decode cX1_setRule 10 = .ok (.iload_n 2, 1) := by decide +kernel
theorem dX1_setRule_11 : decode cX1_setRule 11 = .ok (.putfield 13, 3) := by decide +kernel
theorem dX1_setRule_14 : decode cX1_setRule 14 = .ok (.aload_n 0, 1) := by decide +kernel
theorem dX1_setRule_15 : decode cX1_setRule 15 = .ok (.iload_n 3, 1) := by decide +kernel
theorem dX1_setRule_16 : decode cX1_setRule 16 = .ok (.putfield 16, 3) := by decide +kernel
theorem dX1_setRule_19 : decode cX1_setRule 19 = .ok (.return_, 1) := by decide +kernel
theorem dX1_endOfPart_0 : decode cX1_endOfPart 0 = .ok (.iload_n 3, 1) := by decide +kernel
theorem dX1_endOfPart_1 : decode cX1_endOfPart 1 = .ok (.iload_n 2, 1) := by decide +kernel
theorem dX1_endOfPart_2 : decode cX1_endOfPart 2 = .ok (.aload_n 0, 1) := by decide +kernel
theorem dX1_endOfPart_3 : decode cX1_endOfPart 3 = .ok (.getfield 16, 3) := by decide +kernel
theorem dX1_endOfPart_6 : decode cX1_endOfPart 6 = .ok (.iadd, 1) := by decide +kernel
theorem dX1_endOfPart_7 : decode cX1_endOfPart 7 = .ok (.invokestatic 19, 3) := by decide +kernel
theorem dX1_endOfPart_10 : decode cX1_endOfPart 10 = .ok (.istore 4, 2) := by decide +kernel
theorem dX1_endOfPart_12 : decode cX1_endOfPart 12 = .ok (.iconst 0, 1) := by decide +kernel
theorem dX1_endOfPart_13 : decode cX1_endOfPart 13 = .ok (.istore 5, 2) := by decide +kernel
theorem dX1_endOfPart_15 : decode cX1_endOfPart 15 = .ok (.iload_n 2, 1) := by decide +kernel
theorem dX1_endOfPart_16 : decode cX1_endOfPart 16 = .ok (.istore 6, 2) := by decide +kernel
theorem dX1_endOfPart_18 : decode cX1_endOfPart 18 = .ok (.iload 6, 2) := by decide +kernel
theorem dX1_endOfPart_20 : decode cX1_endOfPart 20 = .ok (.iload 4, 2) := by decide +kernel
theorem dX1_endOfPart_22 : decode cX1_endOfPart 22 = .ok (.if_icmp .ge 82, 3) := by decide +kernel
theorem dX1_endOfPart_25 : decode cX1_endOfPart 25 = .ok (.iload 5, 2) := by decide +kernel
theorem dX1_endOfPart_27 : decode cX1_endOfPart 27 = .ok (.iconst 1, 1) := by decide +kernel
theorem dX1_endOfPart_28 : decode cX1_endOfPart 28 = .ok (.invokestatic 25, 3) := by decide +kernel
theorem dX1_endOfPart_31 : decode cX1_endOfPart 31 = .ok (.aload_n 1, 1) := by decide +kernel
theorem dX1_endOfPart_32 : decode cX1_endOfPart 32 = .ok (.iload 6, 2) := by decide +kernel
theorem dX1_endOfPart_34 : decode cX1_endOfPart 34 = .ok (.baload, 1) := by decide +kernel
theorem dX1_endOfPart_35 : decode cX1_endOfPart 35 = .ok (.invokestatic 28, 3) := by decide +kernel
theorem dX1_endOfPart_38 : decode cX1_endOfPart 38 = .ok (.ixor, 1) := by decide +kernel
theorem dX1_endOfPart_39 : decode cX1_endOfPart 39 = .ok (.istore 5, 2) := by decide +kernel
theorem dX1_endOfPart_41 : decode cX1_endOfPart 41 = .ok (.iload 6, 2) := by decide +kernel
theorem dX1_endOfPart_43 : decode cX1_endOfPart 43 = .ok (.iload_n 2, 1) := by decide +kernel
theorem dX1_endOfPart_44 : decode cX1_endOfPart 44 = .ok (.isub, 1) := by decide +kernel
theorem dX1_endOfPart_45 : decode cX1_endOfPart 45 = .ok (.bipush 8, 2) := by decide +kernel
theorem dX1_endOfPart_47 : decode cX1_endOfPart 47 = .ok (.if_icmp .lt 23, 3) := by decide +kernel
theorem dX1_endOfPart_50 : decode cX1_endOfPart 50 = .ok (.iload 5, 2) := by decide +kernel
theorem dX1_endOfPart_52 : decode cX1_endOfPart 52 = .ok (.aload_n 1, 1) := by decide +kernel
theorem dX1_endOfPart_53 : decode cX1_endOfPart 53 = .ok (.iload 6, 2) := by decide +kernel
theorem dX1_endOfPart_55 : decode cX1_endOfPart 55 = .ok (.bipush 8, 2) := by decide +kernel
theorem dX1_endOfPart_57 : decode cX1_endOfPart 57 = .ok (.isub, 1) := by decide +kernel
theorem dX1_endOfPart_58 : decode cX1_endOfPart 58 = .ok (.baload, 1) := by decide +kernel
theorem dX1_endOfPart_59 : decode cX1_endOfPart 59 = .ok (.invokestatic 28, 3) := by decide +kernel
theorem dX1_endOfPart_62 : decode cX1_endOfPart 62 = .ok (.bipush 8, 2) := by decide +kernel
theorem dX1_endOfPart_64 : decode cX1_endOfPart 64 = .ok (.invokestatic 25, 3) := by decide +kernel
theorem dX1_endOfPart_67 : decode cX1_endOfPart 67 = .ok (.ixor, 1) := by decide +kernel
theorem dX1_endOfPart_68 : decode cX1_endOfPart 68 = .ok (.istore 5, 2) := by decide +kernel
theorem dX1_endOfPart_70 : decode cX1_endOfPart 70 = .ok (.iload 6, 2) := by decide +kernel
theorem dX1_endOfPart_72 : decode cX1_endOfPart 72 = .ok (.iload_n 2, 1) := by decide +kernel
theorem dX1_endOfPart_73 : decode cX1_endOfPart 73 = .ok (.isub, 1) := by decide +kernel
theorem dX1_endOfPart_74 : decode cX1_endOfPart 74 = .ok (.iconst 1, 1) := by decide +kernel
theorem dX1_endOfPart_75 : decode cX1_endOfPart 75 = .ok (.iadd, 1) := by decide +kernel
theorem dX1_endOfPart_76 : decode cX1_endOfPart 76 = .ok (.aload_n 0, 1) := by decide +kernel
theorem dX1_endOfPart_77 : decode cX1_endOfPart 77 = .ok (.getfield 13, 3) := by decide +kernel
theorem dX1_endOfPart_80 : decode cX1_endOfPart 80 = .ok (.if_icmp .lt 18, 3) := by decide +kernel
theorem dX1_endOfPart_83 : decode cX1_endOfPart 83 = .ok (.iload 5, 2) := by decide +kernel
theorem dX1_endOfPart_85 : decode cX1_endOfPart 85 = .ok (.aload_n 0, 1) := by decide +kernel
theorem dX1_endOfPart_86 : decode cX1_endOfPart 86 = .ok (.getfield 7, 3) := by decide +kernel
theorem dX1_endOfPart_89 : decode cX1_endOfPart 89 = .ok (.iand, 1) := by decide +kernel
theorem dX1_endOfPart_90 : decode cX1_endOfPart 90 = .ok (.ifCond .ne 8, 3) := by decide +kernel
theorem dX1_endOfPart_93 : decode cX1_endOfPart 93 = .ok (.iload 6, 2) := by decide +kernel
theorem dX1_endOfPart_95 : decode cX1_endOfPart 95 = .ok (.iconst 1, 1) := by decide +kernel
theorem dX1_endOfPart_96 : decode cX1_endOfPart 96 = .ok (.iadd, 1) := by decide +kernel
theorem dX1_endOfPart_97 : decode cX1_endOfPart 97 = .ok (.ireturn, 1) := by decide +kernel
theorem dX1_endOfPart_98 : decode cX1_endOfPart 98 = .ok (.iinc 6 1, 3) := by decide +kernel
theorem dX1_endOfPart_101 : decode cX1_endOfPart 101 = .ok (.goto (-83), 3) := by decide +kernel
theorem dX1_endOfPart_104 : decode cX1_endOfPart 104 = .ok (.iload 4, 2) := by decide +kernel
theorem dX1_endOfPart_106 : decode cX1_endOfPart 106 = .ok (.ireturn, 1) := by decide +kernel
theorem dX1_mark_0 : decode cX1_mark 0 = .ok (.iload_n 0, 1) := by decide +kernel
theorem dX1_mark_1 : decode cX1_mark 1 = .ok (.sipush 255, 3) := by decide +kernel
theorem dX1_mark_4 : decode cX1_mark 4 = .ok (.iand, 1) := by decide +kernel
theorem dX1_mark_5 : decode cX1_mark 5 = .ok (.iconst 1, 1) := by decide +kernel
theorem dX1_mark_6 : decode cX1_mark 6 = .ok (.iadd, 1) := by decide +kernel
theorem dX1_mark_7 : decode cX1_mark 7 = .ok (.ldc 32, 2) := by decide +kernel
theorem dX1_mark_9 : decode cX1_mark 9 = .ok (.imul, 1) := by decide +kernel
theorem dX1_mark_10 : decode cX1_mark 10 = .ok (.istore_n 1, 1) := by decide +kernel
theorem dX1_mark_11 : decode cX1_mark 11 = .ok (.iload_n 1, 1) := by decide +kernel
theorem dX1_mark_12 : decode cX1_mark 12 = .ok (.iload_n 1, 1) := by decide +kernel
theorem dX1_mark_13 : decode cX1_mark 13 = .ok (.bipush 15, 2) := by decide +kernel
theorem dX1_mark_15 : decode cX1_mark 15 = .ok (.iushr, 1) := by decide +kernel
theorem dX1_mark_16 : decode cX1_mark 16 = .ok (.ixor, 1) := by decide +kernel
theorem dX1_mark_17 : decode cX1_mark 17 = .ok (.ireturn, 1) := by decide +kernel
theorem dX1_turned_0 : decode cX1_turned 0 = .ok (.iload_n 0, 1) := by decide +kernel
theorem dX1_turned_1 : decode cX1_turned 1 = .ok (.iload_n 1, 1) := by decide +kernel
theorem dX1_turned_2 : decode cX1_turned 2 = .ok (.ishl, 1) := by decide +kernel
theorem dX1_turned_3 : decode cX1_turned 3 = .ok (.iload_n 0, 1) := by decide +kernel
theorem dX1_turned_4 : decode cX1_turned 4 = .ok (.bipush 32, 2) := by decide +kernel
theorem dX1_turned_6 : decode cX1_turned 6 = .ok (.iload_n 1, 1) := by decide +kernel
theorem dX1_turned_7 : decode cX1_turned 7 = .ok (.isub, 1) := by decide +kernel
theorem dX1_turned_8 : decode cX1_turned 8 = .ok (.iushr, 1) := by decide +kernel
theorem dX1_turned_9 : decode cX1_turned 9 = .ok (.ior, 1) := by decide +kernel
theorem dX1_turned_10 : decode cX1_turned 10 = .ok (.ireturn, 1) := by decide +kernel
theorem dX2_init_0 : decode cX2_init 0 = .ok (.aload_n 0, 1) := by decide +kernel
theorem dX2_init_1 : decode cX2_init 1 = .ok (.invokespecial 3, 3) := by decide +kernel
theorem dX2_init_4 : decode cX2_init 4 = .ok (.aload_n 0, 1) := by decide +kernel
theorem dX2_init_5 : decode cX2_init 5 = .ok (.sipush 400, 3) := by decide +kernel
theorem dX2_init_8 : decode cX2_init 8 = .ok (.newarray .int, 2) := by decide +kernel
theorem dX2_init_10 : decode cX2_init 10 = .ok (.putfield 9, 3) := by decide +kernel
theorem dX2_init_13 : decode cX2_init 13 = .ok (.aload_n 0, 1) := by decide +kernel
theorem dX2_init_14 : decode cX2_init 14 = .ok (.sipush 400, 3) := by decide +kernel
theorem dX2_init_17 : decode cX2_init 17 = .ok (.newarray .int, 2) := by decide +kernel
theorem dX2_init_19 : decode cX2_init 19 = .ok (.putfield 15, 3) := by decide +kernel
theorem dX2_init_22 : decode cX2_init 22 = .ok (.aload_n 0, 1) := by decide +kernel
theorem dX2_init_23 : decode cX2_init 23 = .ok (.sipush 400, 3) := by decide +kernel
theorem dX2_init_26 : decode cX2_init 26 = .ok (.newarray .int, 2) := by decide +kernel
theorem dX2_init_28 : decode cX2_init 28 = .ok (.putfield 18, 3) := by decide +kernel
theorem dX2_init_31 : decode cX2_init 31 = .ok (.aload_n 0, 1) := by decide +kernel
theorem dX2_init_32 : decode cX2_init 32 = .ok (.sipush 400, 3) := by decide +kernel
theorem dX2_init_35 : decode cX2_init 35 = .ok (.newarray .int, 2) := by decide +kernel
theorem dX2_init_37 : decode cX2_init 37 = .ok (.putfield 21, 3) := by decide +kernel
theorem dX2_init_40 : decode cX2_init 40 = .ok (.aload_n 0, 1) := by decide +kernel
theorem dX2_init_41 : decode cX2_init 41 = .ok (.sipush 512, 3) := by decide +kernel
theorem dX2_init_44 : decode cX2_init 44 = .ok (.newarray .int, 2) := by decide +kernel
theorem dX2_init_46 : decode cX2_init 46 = .ok (.putfield 24, 3) := by decide +kernel
theorem dX2_init_49 : decode cX2_init 49 = .ok (.aload_n 0, 1) := by decide +kernel
theorem dX2_init_50 : decode cX2_init 50 = .ok (.sipush 1024, 3) := by decide +kernel
theorem dX2_init_53 : decode cX2_init 53 = .ok (.newarray .byte, 2) := by decide +kernel
theorem dX2_init_55 : decode cX2_init 55 = .ok (.putfield 27, 3) := by decide +kernel
theorem dX2_init_58 : decode cX2_init 58 = .ok (.aload_n 0, 1) := by decide +kernel
theorem dX2_init_59 : decode cX2_init 59 = .ok (.iconst 0, 1) := by decide +kernel
theorem dX2_init_60 : decode cX2_init 60 = .ok (.putfield 31, 3) := by decide +kernel
theorem dX2_init_63 : decode cX2_init 63 = .ok (.aload_n 0, 1) := by decide +kernel
theorem dX2_init_64 : decode cX2_init 64 = .ok (.iconst 0, 1) := by decide +kernel
theorem dX2_init_65 : decode cX2_init 65 = .ok (.putfield 35, 3) := by decide +kernel
theorem dX2_init_68 : decode cX2_init 68 = .ok (.aload_n 0, 1) := by decide +kernel
theorem dX2_init_69 : decode cX2_init 69 = .ok (.iconst 0, 1) := by decide +kernel
theorem dX2_init_70 : decode cX2_init 70 = .ok (.putfield 38, 3) := by decide +kernel
theorem dX2_init_73 : decode cX2_init 73 = .ok (.aload_n 0, 1) := by decide +kernel
theorem dX2_init_74 : decode cX2_init 74 = .ok (.getfield 24, 3) := by decide +kernel
theorem dX2_init_77 : decode cX2_init 77 = .ok (.iconst (-1), 1) := by decide +kernel
theorem dX2_init_78 : decode cX2_init 78 = .ok (.invokestatic 41, 3) := by decide +kernel
theorem dX2_init_81 : decode cX2_init 81 = .ok (.return_, 1) := by decide +kernel
theorem dX2_empty_0 : decode cX2_empty 0 = .ok (.aload_n 0, 1) := by decide +kernel
theorem dX2_empty_1 : decode cX2_empty 1 = .ok (.getfield 9, 3) := by decide +kernel
theorem dX2_empty_4 : decode cX2_empty 4 = .ok (.iconst 0, 1) := by decide +kernel
theorem dX2_empty_5 : decode cX2_empty 5 = .ok (.invokestatic 41, 3) := by decide +kernel
theorem dX2_empty_8 : decode cX2_empty 8 = .ok (.aload_n 0, 1) := by decide +kernel
theorem dX2_empty_9 : decode cX2_empty 9 = .ok (.getfield 24, 3) := by decide +kernel
theorem dX2_empty_12 : decode cX2_empty 12 = .ok (.iconst (-1), 1) := by decide +kernel
theorem dX2_empty_13 : decode cX2_empty 13 = .ok (.invokestatic 41, 3) := by decide +kernel
theorem dX2_empty_16 : decode cX2_empty 16 = .ok (.aload_n 0, 1) := by decide +kernel
theorem dX2_empty_17 : decode cX2_empty 17 = .ok (.iconst 0, 1) := by decide +kernel
theorem dX2_empty_18 : decode cX2_empty 18 = .ok (.putfield 31, 3) := by decide +kernel
theorem dX2_empty_21 : decode cX2_empty 21 = .ok (.aload_n 0, 1) := by decide +kernel
theorem dX2_empty_22 : decode cX2_empty 22 = .ok (.iconst 0, 1) := by decide +kernel
theorem dX2_empty_23 : decode cX2_empty 23 = .ok (.putfield 35, 3) := by decide +kernel
theorem dX2_empty_26 : decode cX2_empty 26 = .ok (.aload_n 0, 1) := by decide +kernel
theorem dX2_empty_27 : decode cX2_empty 27 = .ok (.iconst 0, 1) := by decide +kernel
theorem dX2_empty_28 : decode cX2_empty 28 = .ok (.putfield 38, 3) := by decide +kernel
theorem dX2_empty_31 : decode cX2_empty 31 = .ok (.return_, 1) := by decide +kernel
theorem dX2_has_0 : decode cX2_has 0 = .ok (.iload_n 1, 1) := by decide +kernel
theorem dX2_has_1 : decode cX2_has 1 = .ok (.ifCond .lt 23, 3) := by decide +kernel
theorem dX2_has_4 : decode cX2_has 4 = .ok (.iload_n 1, 1) := by decide +kernel
theorem dX2_has_5 : decode cX2_has 5 = .ok (.sipush 400, 3) := by decide +kernel
theorem dX2_has_8 : decode cX2_has 8 = .ok (.if_icmp .ge 16, 3) := by decide +kernel
theorem dX2_has_11 : decode cX2_has 11 = .ok (.aload_n 0, 1) := by decide +kernel
theorem dX2_has_12 : decode cX2_has 12 = .ok (.getfield 9, 3) := by decide +kernel
theorem dX2_has_15 : decode cX2_has 15 = .ok (.iload_n 1, 1) := by decide +kernel
theorem dX2_has_16 : decode cX2_has 16 = .ok (.iaload, 1) := by decide +kernel
theorem dX2_has_17 : decode cX2_has 17 = .ok (.ifCond .le 7, 3) := by decide +kernel
theorem dX2_has_20 : decode cX2_has 20 = .ok (.iconst 1, 1) := by decide +kernel
theorem dX2_has_21 : decode cX2_has 21 = .ok (.goto 4, 3) := by decide +kernel
theorem dX2_has_24 : decode cX2_has 24 = .ok (.iconst 0, 1) := by decide +kernel
theorem dX2_has_25 : decode cX2_has 25 = .ok (.ireturn, 1) := by decide +kernel
theorem dX2_usesOf_0 : decode cX2_usesOf 0 = .ok (.aload_n 0, 1) := by decide +kernel
theorem dX2_usesOf_1 : decode cX2_usesOf 1 = .ok (.iload_n 1, 1) := by decide +kernel
theorem dX2_usesOf_2 : decode cX2_usesOf 2 = .ok (.invokevirtual 47, 3) := by decide +kernel
theorem dX2_usesOf_5 : decode cX2_usesOf 5 = .ok (.ifCond .eq 12, 3) := by decide +kernel
theorem dX2_usesOf_8 : decode cX2_usesOf 8 = .ok (.aload_n 0, 1) := by decide +kernel
theorem dX2_usesOf_9 : decode cX2_usesOf 9 = .ok (.getfield 9, 3) := by decide +kernel
theorem dX2_usesOf_12 : decode cX2_usesOf 12 = .ok (.iload_n 1, 1) := by decide +kernel
theorem dX2_usesOf_13 : decode cX2_usesOf 13 = .ok (.iaload, 1) := by decide +kernel
theorem dX2_usesOf_14 : decode cX2_usesOf 14 = .ok (.goto 4, 3) := by decide +kernel
theorem dX2_usesOf_17 : decode cX2_usesOf 17 = .ok (.iconst 0, 1) := by decide +kernel
theorem dX2_usesOf_18 : decode cX2_usesOf 18 = .ok (.ireturn, 1) := by decide +kernel
theorem dX2_lengthOf_0 : decode cX2_lengthOf 0 = .ok (.aload_n 0, 1) := by decide +kernel
theorem dX2_lengthOf_1 : decode cX2_lengthOf 1 = .ok (.iload_n 1, 1) := by decide +kernel
theorem dX2_lengthOf_2 : decode cX2_lengthOf 2 = .ok (.invokevirtual 47, 3) := by decide +kernel
theorem dX2_lengthOf_5 : decode cX2_lengthOf 5 = .ok (.ifCond .eq 12, 3) := by decide +kernel
theorem dX2_lengthOf_8 : decode cX2_lengthOf 8 = .ok (.aload_n 0, 1) := by decide +kernel
theorem dX2_lengthOf_9 : decode cX2_lengthOf 9 = .ok (.getfield 15, 3) := by decide +kernel
theorem dX2_lengthOf_12 : decode cX2_lengthOf 12 = .ok (.iload_n 1, 1) := by decide +kernel
theorem dX2_lengthOf_13 : decode cX2_lengthOf 13 = .ok (.iaload, 1) := by decide +kernel
theorem dX2_lengthOf_14 : decode cX2_lengthOf 14 = .ok (.goto 4, 3) := by decide +kernel
theorem dX2_lengthOf_17 : decode cX2_lengthOf 17 = .ok (.iconst 0, 1) := by decide +kernel
theorem dX2_lengthOf_18 : decode cX2_lengthOf 18 = .ok (.ireturn, 1) := by decide +kernel
theorem dX2_byteOf_0 : decode cX2_byteOf 0 = .ok (.iload_n 2, 1) := by decide +kernel
theorem dX2_byteOf_1 : decode cX2_byteOf 1 = .ok (.ifCond .lt 12, 3) := by decide +kernel
theorem dX2_byteOf_4 : decode cX2_byteOf 4 = .ok (.iload_n 2, 1) := by decide +kernel
theorem dX2_byteOf_5 : decode cX2_byteOf 5 = .ok (.aload_n 0, 1) := by decide +kernel
theorem dX2_byteOf_6 : decode cX2_byteOf 6 = .ok (.iload_n 1, 1) := by decide +kernel
theorem dX2_byteOf_7 : decode cX2_byteOf 7 = .ok (.invokevirtual 51, 3) := by decide +kernel
theorem dX2_byteOf_10 : decode cX2_byteOf 10 = .ok (.if_icmp .lt 5, 3) := by decide +kernel
theorem dX2_byteOf_13 : decode cX2_byteOf 13 = .ok (.iconst (-1), 1) := by decide +kernel
theorem dX2_byteOf_14 : decode cX2_byteOf 14 = .ok (.ireturn, 1) := by decide +kernel
theorem dX2_byteOf_15 : decode cX2_byteOf 15 = .ok (.aload_n 0, 1) := by decide +kernel
theorem dX2_byteOf_16 : decode cX2_byteOf 16 = .ok (.getfield 27, 3) := by decide +kernel
theorem dX2_byteOf_19 : decode cX2_byteOf 19 = .ok (.iload_n 1, 1) := by decide +kernel
theorem dX2_byteOf_20 : decode cX2_byteOf 20 = .ok (.bipush 64, 2) := by decide +kernel
theorem dX2_byteOf_22 : decode cX2_byteOf 22 = .ok (.imul, 1) := by decide +kernel
theorem dX2_byteOf_23 : decode cX2_byteOf 23 = .ok (.iload_n 2, 1) := by decide +kernel
theorem dX2_byteOf_24 : decode cX2_byteOf 24 = .ok (.iadd, 1) := by decide +kernel
theorem dX2_byteOf_25 : decode cX2_byteOf 25 = .ok (.baload, 1) := by decide +kernel
theorem dX2_byteOf_26 : decode cX2_byteOf 26 = .ok (.sipush 255, 3) := by decide +kernel
theorem dX2_byteOf_29 : decode cX2_byteOf 29 = .ok (.iand, 1) := by decide +kernel
theorem dX2_byteOf_30 : decode cX2_byteOf 30 = .ok (.ireturn, 1) := by decide +kernel
theorem dX2_writeOut_0 : decode cX2_writeOut 0 = .ok (.aload_n 0, 1) := by decide +kernel
theorem dX2_writeOut_1 : decode cX2_writeOut 1 = .ok (.iload_n 1, 1) := by decide +kernel
theorem dX2_writeOut_2 : decode cX2_writeOut 2 = .ok (.invokevirtual 51, 3) := by decide +kernel
theorem dX2_writeOut_5 : decode cX2_writeOut 5 = .ok (.istore 4, 2) := by decide +kernel
theorem dX2_writeOut_7 : decode cX2_writeOut 7 = .ok (.iload 4, 2) := by decide +kernel
theorem dX2_writeOut_9 : decode cX2_writeOut 9 = .ok (.ifCond .eq 16, 3) := by decide +kernel
theorem dX2_writeOut_12 : decode cX2_writeOut 12 = .ok (.iload_n 3, 1) := by decide +kernel
theorem dX2_writeOut_13 : decode cX2_writeOut 13 = .ok (.ifCond .lt 12, 3) := by decide +kernel
theorem dX2_writeOut_16 : decode cX2_writeOut 16 = .ok (.iload 4, 2) := by decide +kernel
theorem dX2_writeOut_18 : decode cX2_writeOut 18 = .ok (.aload_n 2, 1) := by decide +kernel
theorem dX2_writeOut_19 : decode cX2_writeOut 19 = .ok (.arraylength, 1) := by decide +kernel
theorem dX2_writeOut_20 : decode cX2_writeOut 20 = .ok (.iload_n 3, 1) := by decide +kernel
theorem dX2_writeOut_21 : decode cX2_writeOut 21 = .ok (.isub, 1) := by decide +kernel
theorem dX2_writeOut_22 : decode cX2_writeOut 22 = .ok (.if_icmp .le 5, 3) := by decide +kernel
theorem dX2_writeOut_25 : decode cX2_writeOut 25 = .ok (.iconst 0, 1) := by decide +kernel
theorem dX2_writeOut_26 : decode cX2_writeOut 26 = .ok (.ireturn, 1) := by decide +kernel
theorem dX2_writeOut_27 : decode cX2_writeOut 27 = .ok (.aload_n 0, 1) := by decide +kernel
theorem dX2_writeOut_28 : decode cX2_writeOut 28 = .ok (.getfield 27, 3) := by decide +kernel
theorem dX2_writeOut_31 : decode cX2_writeOut 31 = .ok (.iload_n 1, 1) := by decide +kernel
theorem dX2_writeOut_32 : decode cX2_writeOut 32 = .ok (.bipush 64, 2) := by decide +kernel
theorem dX2_writeOut_34 : decode cX2_writeOut 34 = .ok (.imul, 1) := by decide +kernel
theorem dX2_writeOut_35 : decode cX2_writeOut 35 = .ok (.aload_n 2, 1) := by decide +kernel
theorem dX2_writeOut_36 : decode cX2_writeOut 36 = .ok (.iload_n 3, 1) := by decide +kernel
theorem dX2_writeOut_37 : decode cX2_writeOut 37 = .ok (.iload 4, 2) := by decide +kernel
theorem dX2_writeOut_39 : decode cX2_writeOut 39 = .ok (.invokestatic 55, 3) := by decide +kernel
theorem dX2_writeOut_42 : decode cX2_writeOut 42 = .ok (.iload 4, 2) := by decide +kernel
theorem dX2_writeOut_44 : decode cX2_writeOut 44 = .ok (.ireturn, 1) := by decide +kernel
theorem dX2_useAgain_0 : decode cX2_useAgain 0 = .ok (.aload_n 0, 1) := by decide +kernel
theorem dX2_useAgain_1 : decode cX2_useAgain 1 = .ok (.iload_n 1, 1) := by decide +kernel
theorem dX2_useAgain_2 : decode cX2_useAgain 2 = .ok (.invokevirtual 47, 3) := by decide +kernel
theorem dX2_useAgain_5 : decode cX2_useAgain 5 = .ok (.ifCond .eq 13, 3) := by decide +kernel
theorem dX2_useAgain_8 : decode cX2_useAgain 8 = .ok (.aload_n 0, 1) := by decide +kernel
theorem dX2_useAgain_9 : decode cX2_useAgain 9 = .ok (.getfield 9, 3) := by decide +kernel
theorem dX2_useAgain_12 : decode cX2_useAgain 12 = .ok (.iload_n 1, 1) := by decide +kernel
theorem dX2_useAgain_13 : decode cX2_useAgain 13 = .ok (.dup2, 1) := by decide +kernel
theorem dX2_useAgain_14 : decode cX2_useAgain 14 = .ok (.iaload, 1) := by decide +kernel
theorem dX2_useAgain_15 : decode cX2_useAgain 15 = .ok (.iconst 1, 1) := by decide +kernel
theorem dX2_useAgain_16 : decode cX2_useAgain 16 = .ok (.iadd, 1) := by decide +kernel
theorem dX2_useAgain_17 : decode cX2_useAgain 17 = .ok (.iastore, 1) := by decide +kernel
theorem dX2_useAgain_18 : decode cX2_useAgain 18 = .ok (.return_, 1) := by decide +kernel
theorem dX2_take_0 : decode cX2_take 0 = .ok (.aload_n 1, 1) := by decide +kernel
theorem dX2_take_1 : decode cX2_take 1 = .ok (.iload_n 2, 1) := by decide +kernel
theorem dX2_take_2 : decode cX2_take 2 = .ok (.iload_n 3, 1) := by decide +kernel
theorem dX2_take_3 : decode cX2_take 3 = .ok (.invokestatic 61, 3) := by decide +kernel
theorem dX2_take_6 : decode cX2_take 6 = .ok (.istore 4, 2) := by decide +kernel
theorem dX2_take_8 : decode cX2_take 8 = .ok (.aload_n 0, 1) := by decide +kernel
theorem dX2_take_9 : decode cX2_take 9 = .ok (.iload 4, 2) := by decide +kernel
theorem dX2_take_11 : decode cX2_take 11 = .ok (.aload_n 1, 1) := by decide +kernel
theorem dX2_take_12 : decode cX2_take 12 = .ok (.iload_n 2, 1) := by decide +kernel
theorem dX2_take_13 : decode cX2_take 13 = .ok (.iload_n 3, 1) := by decide +kernel
theorem dX2_take_14 : decode cX2_take 14 = .ok (.iload_n 2, 1) := by decide +kernel
theorem dX2_take_15 : decode cX2_take 15 = .ok (.isub, 1) := by decide +kernel
theorem dX2_take_16 : decode cX2_take 16 = .ok (.invokevirtual 65, 3) := by decide +kernel
theorem dX2_take_19 : decode cX2_take 19 = .ok (.istore 5, 2) := by decide +kernel
theorem dX2_take_21 : decode cX2_take 21 = .ok (.iload 5, 2) := by decide +kernel
theorem dX2_take_23 : decode cX2_take 23 = .ok (.iconst (-1), 1) := by decide +kernel
theorem dX2_take_24 : decode cX2_take 24 = .ok (.if_icmp .ne 15, 3) := by decide +kernel
theorem dX2_take_27 : decode cX2_take 27 = .ok (.aload_n 0, 1) := by decide +kernel
theorem dX2_take_28 : decode cX2_take 28 = .ok (.iload 4, 2) := by decide +kernel
theorem dX2_take_30 : decode cX2_take 30 = .ok (.aload_n 1, 1) := by decide +kernel
theorem dX2_take_31 : decode cX2_take 31 = .ok (.iload_n 2, 1) := by decide +kernel
theorem dX2_take_32 : decode cX2_take 32 = .ok (.iload_n 3, 1) := by decide +kernel
theorem dX2_take_33 : decode cX2_take 33 = .ok (.iload_n 2, 1) := by decide +kernel
theorem dX2_take_34 : decode cX2_take 34 = .ok (.isub, 1) := by decide +kernel
theorem dX2_take_35 : decode cX2_take 35 = .ok (.invokevirtual 69, 3) := by decide +kernel
theorem dX2_take_38 : decode cX2_take 38 = .ok (.ireturn, 1) := by decide +kernel
theorem dX2_take_39 : decode cX2_take 39 = .ok (.aload_n 0, 1) := by decide +kernel
theorem dX2_take_40 : decode cX2_take 40 = .ok (.iload 5, 2) := by decide +kernel
theorem dX2_take_42 : decode cX2_take 42 = .ok (.invokevirtual 72, 3) := by decide +kernel
theorem dX2_take_45 : decode cX2_take 45 = .ok (.iload 5, 2) := by decide +kernel
theorem dX2_take_47 : decode cX2_take 47 = .ok (.ireturn, 1) := by decide +kernel
theorem dX2_giveBack_0 : decode cX2_giveBack 0 = .ok (.aload_n 0, 1) := by decide +kernel
theorem dX2_giveBack_1 : decode cX2_giveBack 1 = .ok (.iload_n 1, 1) := by decide +kernel
theorem dX2_giveBack_2 : decode cX2_giveBack 2 = .ok (.invokevirtual 47, 3) := by decide +kernel
theorem dX2_giveBack_5 : decode cX2_giveBack 5 = .ok (.ifCond .ne 4, 3) := by decide +kernel
theorem dX2_giveBack_8 : decode cX2_giveBack 8 = .ok (.return_, 1) := by decide +kernel
theorem dX2_giveBack_9 : decode cX2_giveBack 9 = .ok (.aload_n 0, 1) := by decide +kernel
theorem dX2_giveBack_10 : decode cX2_giveBack 10 = .ok (.getfield 9, 3) := by decide +kernel
theorem dX2_giveBack_13 : decode cX2_giveBack 13 = .ok (.iload_n 1, 1) := by decide +kernel
theorem dX2_giveBack_14 : decode cX2_giveBack 14 = .ok (.dup2, 1) := by decide +kernel
theorem dX2_giveBack_15 : decode cX2_giveBack 15 = .ok (.iaload, 1) := by decide +kernel
theorem dX2_giveBack_16 : decode cX2_giveBack 16 = .ok (.iconst 1, 1) := by decide +kernel
theorem dX2_giveBack_17 : decode cX2_giveBack 17 = .ok (.isub, 1) := by decide +kernel
theorem dX2_giveBack_18 : decode cX2_giveBack 18 = .ok (.iastore, 1) := by decide +kernel
theorem dX2_giveBack_19 : decode cX2_giveBack 19 = .ok (.aload_n 0, 1) := by decide +kernel
theorem dX2_giveBack_20 : decode cX2_giveBack 20 = .ok (.getfield 9, 3) := by decide +kernel
theorem dX2_giveBack_23 : decode cX2_giveBack 23 = .ok (.iload_n 1, 1) := by decide +kernel
theorem dX2_giveBack_24 : decode cX2_giveBack 24 = .ok (.iaload, 1) := by decide +kernel
theorem dX2_giveBack_25 : decode cX2_giveBack 25 = .ok (.ifCond .ne 45, 3) := by decide +kernel
theorem dX2_giveBack_28 : decode cX2_giveBack 28 = .ok (.aload_n 0, 1) := by decide +kernel
theorem dX2_giveBack_29 : decode cX2_giveBack 29 = .ok (.iload_n 1, 1) := by decide +kernel
theorem dX2_giveBack_30 : decode cX2_giveBack 30 = .ok (.invokevirtual 76, 3) := by decide +kernel
theorem dX2_giveBack_33 : decode cX2_giveBack 33 = .ok (.aload_n 0, 1) := by decide +kernel
theorem dX2_giveBack_34 : decode cX2_giveBack 34 = .ok (.aload_n 0, 1) := by decide +kernel
theorem dX2_giveBack_35 : decode cX2_giveBack 35 = .ok (.getfield 31, 3) := by decide +kernel
theorem dX2_giveBack_38 : decode cX2_giveBack 38 = .ok (.iload_n 1, 1) := by decide +kernel
theorem dX2_giveBack_39 : decode cX2_giveBack 39 = .ok (.invokestatic 79, 3) := by decide +kernel
theorem dX2_giveBack_42 : decode cX2_giveBack 42 = .ok (.putfield 31, 3) := by decide +kernel
theorem dX2_giveBack_45 : decode cX2_giveBack 45 = .ok (.aload_n 0, 1) := by decide +kernel
theorem dX2_giveBack_46 : decode cX2_giveBack 46 = .ok (.dup, 1) := by decide +kernel
theorem dX2_giveBack_47 : decode cX2_giveBack 47 = .ok (.getfield 35, 3) := by decide +kernel
theorem dX2_giveBack_50 : decode cX2_giveBack 50 = .ok (.iconst 1, 1) := by decide +kernel
theorem dX2_giveBack_51 : decode cX2_giveBack 51 = .ok (.isub, 1) := by decide +kernel
theorem dX2_giveBack_52 : decode cX2_giveBack 52 = .ok (.putfield 35, 3) := by decide +kernel
theorem dX2_giveBack_55 : decode cX2_giveBack 55 = .ok (.aload_n 0, 1) := by decide +kernel
theorem dX2_giveBack_56 : decode cX2_giveBack 56 = .ok (.dup, 1) := by decide +kernel
theorem dX2_giveBack_57 : decode cX2_giveBack 57 = .ok (.getfield 38, 3) := by decide +kernel
theorem dX2_giveBack_60 : decode cX2_giveBack 60 = .ok (.aload_n 0, 1) := by decide +kernel
theorem dX2_giveBack_61 : decode cX2_giveBack 61 = .ok (.getfield 15, 3) := by decide +kernel
theorem dX2_giveBack_64 : decode cX2_giveBack 64 = .ok (.iload_n 1, 1) := by decide +kernel
theorem dX2_giveBack_65 : decode cX2_giveBack 65 = .ok (.iaload, 1) := by decide +kernel
theorem dX2_giveBack_66 : decode cX2_giveBack 66 = .ok (.isub, 1) := by decide +kernel
theorem dX2_giveBack_67 : decode cX2_giveBack 67 = .ok (.putfield 38, 3) := by decide +kernel
theorem dX2_giveBack_70 : decode cX2_giveBack 70 = .ok (.return_, 1) := by decide +kernel
theorem dX2_hashOf_0 : decode cX2_hashOf 0 = .ok (.iconst 0, 1) := by decide +kernel
theorem dX2_hashOf_1 : decode cX2_hashOf 1 = .ok (.istore_n 3, 1) := by decide +kernel
theorem dX2_hashOf_2 : decode cX2_hashOf 2 = .ok (.iload_n 1, 1) := by decide +kernel
theorem dX2_hashOf_3 : decode cX2_hashOf 3 = .ok (.istore 4, 2) := by decide +kernel
theorem dX2_hashOf_5 : decode cX2_hashOf 5 = .ok (.iload 4, 2) := by decide +kernel
theorem dX2_hashOf_7 : decode cX2_hashOf 7 = .ok (.iload_n 2, 1) := by decide +kernel
theorem dX2_hashOf_8 : decode cX2_hashOf 8 = .ok (.if_icmp .ge 19, 3) := by decide +kernel
theorem dX2_hashOf_11 : decode cX2_hashOf 11 = .ok (.iload_n 3, 1) := by decide +kernel
theorem dX2_hashOf_12 : decode cX2_hashOf 12 = .ok (.bipush 31, 2) := by decide +kernel
theorem dX2_hashOf_14 : decode cX2_hashOf 14 = .ok (.imul, 1) := by decide +kernel
theorem dX2_hashOf_15 : decode cX2_hashOf 15 = .ok (.aload_n 0, 1) := by decide +kernel
theorem dX2_hashOf_16 : decode cX2_hashOf 16 = .ok (.iload 4, 2) := by decide +kernel
theorem dX2_hashOf_18 : decode cX2_hashOf 18 = .ok (.baload, 1) := by decide +kernel
theorem dX2_hashOf_19 : decode cX2_hashOf 19 = .ok (.iadd, 1) := by decide +kernel
theorem dX2_hashOf_20 : decode cX2_hashOf 20 = .ok (.istore_n 3, 1) := by decide +kernel
theorem dX2_hashOf_21 : decode cX2_hashOf 21 = .ok (.iinc 4 1, 3) := by decide +kernel
theorem dX2_hashOf_24 : decode cX2_hashOf 24 = .ok (.goto (-19), 3) := by decide +kernel
theorem dX2_hashOf_27 : decode cX2_hashOf 27 = .ok (.iload_n 3, 1) := by decide +kernel
theorem dX2_hashOf_28 : decode cX2_hashOf 28 = .ok (.iload_n 3, 1) := by decide +kernel
theorem dX2_hashOf_29 : decode cX2_hashOf 29 = .ok (.bipush 9, 2) := by decide +kernel
theorem dX2_hashOf_31 : decode cX2_hashOf 31 = .ok (.iushr, 1) := by decide +kernel
theorem dX2_hashOf_32 : decode cX2_hashOf 32 = .ok (.ixor, 1) := by decide +kernel
theorem dX2_hashOf_33 : decode cX2_hashOf 33 = .ok (.ireturn, 1) := by decide +kernel
theorem dX2_find_0 : decode cX2_find 0 = .ok (.aload_n 0, 1) := by decide +kernel
theorem dX2_find_1 : decode cX2_find 1 = .ok (.getfield 24, 3) := by decide +kernel
theorem dX2_find_4 : decode cX2_find 4 = .ok (.iload_n 1, 1) := by decide +kernel
theorem dX2_find_5 : decode cX2_find 5 = .ok (.sipush 511, 3) := by decide +kernel
theorem dX2_find_8 : decode cX2_find 8 = .ok (.iand, 1) := by decide +kernel
theorem dX2_find_9 : decode cX2_find 9 = .ok (.iaload, 1) := by decide +kernel
theorem dX2_find_10 : decode cX2_find 10 = .ok (.istore 5, 2) := by decide +kernel
theorem dX2_find_12 : decode cX2_find 12 = .ok (.iconst 0, 1) := by decide +kernel
theorem dX2_find_13 : decode cX2_find 13 = .ok (.istore 6, 2) := by decide +kernel
theorem dX2_find_15 : decode cX2_find 15 = .ok (.iload 6, 2) := by decide +kernel
theorem dX2_find_17 : decode cX2_find 17 = .ok (.sipush 400, 3) := by decide +kernel
theorem dX2_find_20 : decode cX2_find 20 = .ok (.if_icmp .ge 64, 3) := by decide +kernel
theorem dX2_find_23 : decode cX2_find 23 = .ok (.aload_n 0, 1) := by decide +kernel
theorem dX2_find_24 : decode cX2_find 24 = .ok (.iload 5, 2) := by decide +kernel
theorem dX2_find_26 : decode cX2_find 26 = .ok (.invokevirtual 47, 3) := by decide +kernel
theorem dX2_find_29 : decode cX2_find 29 = .ok (.ifCond .eq 55, 3) := by decide +kernel
theorem dX2_find_32 : decode cX2_find 32 = .ok (.aload_n 0, 1) := by decide +kernel
theorem dX2_find_33 : decode cX2_find 33 = .ok (.getfield 18, 3) := by decide +kernel
theorem dX2_find_36 : decode cX2_find 36 = .ok (.iload 5, 2) := by decide +kernel
theorem dX2_find_38 : decode cX2_find 38 = .ok (.iaload, 1) := by decide +kernel
theorem dX2_find_39 : decode cX2_find 39 = .ok (.iload_n 1, 1) := by decide +kernel
theorem dX2_find_40 : decode cX2_find 40 = .ok (.if_icmp .ne 29, 3) := by decide +kernel
theorem dX2_find_43 : decode cX2_find 43 = .ok (.aload_n 0, 1) := by decide +kernel
theorem dX2_find_44 : decode cX2_find 44 = .ok (.getfield 15, 3) := by decide +kernel
theorem dX2_find_47 : decode cX2_find 47 = .ok (.iload 5, 2) := by decide +kernel
theorem dX2_find_49 : decode cX2_find 49 = .ok (.iaload, 1) := by decide +kernel
theorem dX2_find_50 : decode cX2_find 50 = .ok (.iload 4, 2) := by decide +kernel
theorem dX2_find_52 : decode cX2_find 52 = .ok (.if_icmp .ne 17, 3) := by decide +kernel
theorem dX2_find_55 : decode cX2_find 55 = .ok (.aload_n 0, 1) := by decide +kernel
theorem dX2_find_56 : decode cX2_find 56 = .ok (.iload 5, 2) := by decide +kernel
theorem dX2_find_58 : decode cX2_find 58 = .ok (.aload_n 2, 1) := by decide +kernel
theorem dX2_find_59 : decode cX2_find 59 = .ok (.iload_n 3, 1) := by decide +kernel
theorem dX2_find_60 : decode cX2_find 60 = .ok (.invokevirtual 85, 3) := by decide +kernel
theorem dX2_find_63 : decode cX2_find 63 = .ok (.ifCond .eq 6, 3) := by decide +kernel
theorem dX2_find_66 : decode cX2_find 66 = .ok (.iload 5, 2) := by decide +kernel
theorem dX2_find_68 : decode cX2_find 68 = .ok (.ireturn, 1) := by decide +kernel
theorem dX2_find_69 : decode cX2_find 69 = .ok (.aload_n 0, 1) := by decide +kernel
theorem dX2_find_70 : decode cX2_find 70 = .ok (.getfield 21, 3) := by decide +kernel
theorem dX2_find_73 : decode cX2_find 73 = .ok (.iload 5, 2) := by decide +kernel
theorem dX2_find_75 : decode cX2_find 75 = .ok (.iaload, 1) := by decide +kernel
theorem dX2_find_76 : decode cX2_find 76 = .ok (.istore 5, 2) := by decide +kernel
theorem dX2_find_78 : decode cX2_find 78 = .ok (.iinc 6 1, 3) := by decide +kernel
theorem dX2_find_81 : decode cX2_find 81 = .ok (.goto (-66), 3) := by decide +kernel
theorem dX2_find_84 : decode cX2_find 84 = .ok (.iconst (-1), 1) := by decide +kernel
theorem dX2_find_85 : decode cX2_find 85 = .ok (.ireturn, 1) := by decide +kernel
theorem dX2_sameBytes_0 : decode cX2_sameBytes 0 = .ok (.iload_n 1, 1) := by decide +kernel
theorem dX2_sameBytes_1 : decode cX2_sameBytes 1 = .ok (.bipush 64, 2) := by decide +kernel
theorem dX2_sameBytes_3 : decode cX2_sameBytes 3 = .ok (.imul, 1) := by decide +kernel
theorem dX2_sameBytes_4 : decode cX2_sameBytes 4 = .ok (.istore 4, 2) := by decide +kernel
theorem dX2_sameBytes_6 : decode cX2_sameBytes 6 = .ok (.iconst 0, 1) := by decide +kernel
theorem dX2_sameBytes_7 : decode cX2_sameBytes 7 = .ok (.istore 5, 2) := by decide +kernel
theorem dX2_sameBytes_9 : decode cX2_sameBytes 9 = .ok (.iload 5, 2) := by decide +kernel
theorem dX2_sameBytes_11 : decode cX2_sameBytes 11 = .ok (.aload_n 0, 1) := by decide +kernel
theorem dX2_sameBytes_12 : decode cX2_sameBytes 12 = .ok (.getfield 15, 3) := by decide +kernel
theorem dX2_sameBytes_15 : decode cX2_sameBytes 15 = .ok (.iload_n 1, 1) := by decide +kernel
theorem dX2_sameBytes_16 : decode cX2_sameBytes 16 = .ok (.iaload, 1) := by decide +kernel
theorem dX2_sameBytes_17 : decode cX2_sameBytes 17 = .ok (.if_icmp .ge 30, 3) := by decide +kernel
theorem dX2_sameBytes_20 : decode cX2_sameBytes 20 = .ok (.aload_n 0, 1) := by decide +kernel
theorem dX2_sameBytes_21 : decode cX2_sameBytes 21 = .ok (.getfield 27, 3) := by decide +kernel
theorem dX2_sameBytes_24 : decode cX2_sameBytes 24 = .ok (.iload 4, 2) := by decide +kernel
theorem dX2_sameBytes_26 : decode cX2_sameBytes 26 = .ok (.iload 5, 2) := by decide +kernel
theorem dX2_sameBytes_28 : decode cX2_sameBytes 28 = .ok (.iadd, 1) := by decide +kernel
theorem dX2_sameBytes_29 : decode cX2_sameBytes 29 = .ok (.baload, 1) := by decide +kernel
theorem dX2_sameBytes_30 : decode cX2_sameBytes 30 = .ok (.aload_n 2, 1) := by decide +kernel
theorem dX2_sameBytes_31 : decode cX2_sameBytes 31 = .ok (.iload_n 3, 1) := by decide +kernel
theorem dX2_sameBytes_32 : decode cX2_sameBytes 32 = .ok (.iload 5, 2) := by decide +kernel
theorem dX2_sameBytes_34 : decode cX2_sameBytes 34 = .ok (.iadd, 1) := by decide +kernel
theorem dX2_sameBytes_35 : decode cX2_sameBytes 35 = .ok (.baload, 1) := by decide +kernel
theorem dX2_sameBytes_36 : decode cX2_sameBytes 36 = .ok (.if_icmp .eq 5, 3) := by decide +kernel
theorem dX2_sameBytes_39 : decode cX2_sameBytes 39 = .ok (.iconst 0, 1) := by decide +kernel
theorem dX2_sameBytes_40 : decode cX2_sameBytes 40 = .ok (.ireturn, 1) := by decide +kernel
theorem dX2_sameBytes_41 : decode cX2_sameBytes 41 = .ok (.iinc 5 1, 3) := by decide +kernel
theorem dX2_sameBytes_44 : decode cX2_sameBytes 44 = .ok (.goto (-35), 3) := by decide +kernel
theorem dX2_sameBytes_47 : decode cX2_sameBytes 47 = .ok (.iconst 1, 1) := by decide +kernel
theorem dX2_sameBytes_48 : decode cX2_sameBytes 48 = .ok (.ireturn, 1) := by decide +kernel
theorem dX2_add_0 : decode cX2_add 0 = .ok (.aload_n 0, 1) := by decide +kernel
theorem dX2_add_1 : decode cX2_add 1 = .ok (.invokevirtual 89, 3) := by decide +kernel
theorem dX2_add_4 : decode cX2_add 4 = .ok (.istore 5, 2) := by decide +kernel
theorem dX2_add_6 : decode cX2_add 6 = .ok (.iload 5, 2) := by decide +kernel
theorem dX2_add_8 : decode cX2_add 8 = .ok (.iconst (-1), 1) := by decide +kernel
theorem dX2_add_9 : decode cX2_add 9 = .ok (.if_icmp .ne 5, 3) := by decide +kernel
theorem dX2_add_12 : decode cX2_add 12 = .ok (.iconst (-1), 1) := by decide +kernel
theorem dX2_add_13 : decode cX2_add 13 = .ok (.ireturn, 1) := by decide +kernel
theorem dX2_add_14 : decode cX2_add 14 = .ok (.aload_n 0, 1) := by decide +kernel
theorem dX2_add_15 : decode cX2_add 15 = .ok (.iload 5, 2) := by decide +kernel
theorem dX2_add_17 : decode cX2_add 17 = .ok (.invokevirtual 93, 3) := by decide +kernel
theorem dX2_add_20 : decode cX2_add 20 = .ok (.aload_n 2, 1) := by decide +kernel
theorem dX2_add_21 : decode cX2_add 21 = .ok (.iload_n 3, 1) := by decide +kernel
theorem dX2_add_22 : decode cX2_add 22 = .ok (.aload_n 0, 1) := by decide +kernel
theorem dX2_add_23 : decode cX2_add 23 = .ok (.getfield 27, 3) := by decide +kernel
theorem dX2_add_26 : decode cX2_add 26 = .ok (.iload 5, 2) := by decide +kernel
theorem dX2_add_28 : decode cX2_add 28 = .ok (.bipush 64, 2) := by decide +kernel
theorem dX2_add_30 : decode cX2_add 30 = .ok (.imul, 1) := by decide +kernel
theorem dX2_add_31 : decode cX2_add 31 = .ok (.iload 4, 2) := by decide +kernel
theorem dX2_add_33 : decode cX2_add 33 = .ok (.invokestatic 55, 3) := by decide +kernel
theorem dX2_add_36 : decode cX2_add 36 = .ok (.aload_n 0, 1) := by decide +kernel
theorem dX2_add_37 : decode cX2_add 37 = .ok (.getfield 9, 3) := by decide +kernel
theorem dX2_add_40 : decode cX2_add 40 = .ok (.iload 5, 2) := by decide +kernel
theorem dX2_add_42 : decode cX2_add 42 = .ok (.iconst 1, 1) := by decide +kernel
theorem dX2_add_43 : decode cX2_add 43 = .ok (.iastore, 1) := by decide +kernel
theorem dX2_add_44 : decode cX2_add 44 = .ok (.aload_n 0, 1) := by decide +kernel
theorem dX2_add_45 : decode cX2_add 45 = .ok (.getfield 15, 3) := by decide +kernel
theorem dX2_add_48 : decode cX2_add 48 = .ok (.iload 5, 2) := by decide +kernel
theorem dX2_add_50 : decode cX2_add 50 = .ok (.iload 4, 2) := by decide +kernel
theorem dX2_add_52 : decode cX2_add 52 = .ok (.iastore, 1) := by decide +kernel
theorem dX2_add_53 : decode cX2_add 53 = .ok (.aload_n 0, 1) := by decide +kernel
theorem dX2_add_54 : decode cX2_add 54 = .ok (.getfield 18, 3) := by decide +kernel
theorem dX2_add_57 : decode cX2_add 57 = .ok (.iload 5, 2) := by decide +kernel
theorem dX2_add_59 : decode cX2_add 59 = .ok (.iload_n 1, 1) := by decide +kernel
theorem dX2_add_60 : decode cX2_add 60 = .ok (.iastore, 1) := by decide +kernel
theorem dX2_add_61 : decode cX2_add 61 = .ok (.aload_n 0, 1) := by decide +kernel
theorem dX2_add_62 : decode cX2_add 62 = .ok (.getfield 21, 3) := by decide +kernel
theorem dX2_add_65 : decode cX2_add 65 = .ok (.iload 5, 2) := by decide +kernel
theorem dX2_add_67 : decode cX2_add 67 = .ok (.aload_n 0, 1) := by decide +kernel
theorem dX2_add_68 : decode cX2_add 68 = .ok (.getfield 24, 3) := by decide +kernel
theorem dX2_add_71 : decode cX2_add 71 = .ok (.iload_n 1, 1) := by decide +kernel
theorem dX2_add_72 : decode cX2_add 72 = .ok (.sipush 511, 3) := by decide +kernel
theorem dX2_add_75 : decode cX2_add 75 = .ok (.iand, 1) := by decide +kernel
theorem dX2_add_76 : decode cX2_add 76 = .ok (.iaload, 1) := by decide +kernel
theorem dX2_add_77 : decode cX2_add 77 = .ok (.iastore, 1) := by decide +kernel
theorem dX2_add_78 : decode cX2_add 78 = .ok (.aload_n 0, 1) := by decide +kernel
theorem dX2_add_79 : decode cX2_add 79 = .ok (.getfield 24, 3) := by decide +kernel
theorem dX2_add_82 : decode cX2_add 82 = .ok (.iload_n 1, 1) := by decide +kernel
theorem dX2_add_83 : decode cX2_add 83 = .ok (.sipush 511, 3) := by decide +kernel
theorem dX2_add_86 : decode cX2_add 86 = .ok (.iand, 1) := by decide +kernel
theorem dX2_add_87 : decode cX2_add 87 = .ok (.iload 5, 2) := by decide +kernel
theorem dX2_add_89 : decode cX2_add 89 = .ok (.iastore, 1) := by decide +kernel
theorem dX2_add_90 : decode cX2_add 90 = .ok (.aload_n 0, 1) := by decide +kernel
theorem dX2_add_91 : decode cX2_add 91 = .ok (.dup, 1) := by decide +kernel
theorem dX2_add_92 : decode cX2_add 92 = .ok (.getfield 35, 3) := by decide +kernel
theorem dX2_add_95 : decode cX2_add 95 = .ok (.iconst 1, 1) := by decide +kernel
theorem dX2_add_96 : decode cX2_add 96 = .ok (.iadd, 1) := by decide +kernel
theorem dX2_add_97 : decode cX2_add 97 = .ok (.putfield 35, 3) := by decide +kernel
theorem dX2_add_100 : decode cX2_add 100 = .ok (.aload_n 0, 1) := by decide +kernel
theorem dX2_add_101 : decode cX2_add 101 = .ok (.dup, 1) := by decide +kernel
theorem dX2_add_102 : decode cX2_add 102 = .ok (.getfield 38, 3) := by decide +kernel
theorem dX2_add_105 : decode cX2_add 105 = .ok (.iload 4, 2) := by decide +kernel
theorem dX2_add_107 : decode cX2_add 107 = .ok (.iadd, 1) := by decide +kernel
theorem dX2_add_108 : decode cX2_add 108 = .ok (.putfield 38, 3) := by decide +kernel
theorem dX2_add_111 : decode cX2_add 111 = .ok (.iload 5, 2) := by decide +kernel
theorem dX2_add_113 : decode cX2_add 113 = .ok (.ireturn, 1) := by decide +kernel
theorem dX2_leastFree_0 : decode cX2_leastFree 0 = .ok (.aload_n 0, 1) := by decide +kernel
theorem dX2_leastFree_1 : decode cX2_leastFree 1 = .ok (.getfield 31, 3) := by decide +kernel
theorem dX2_leastFree_4 : decode cX2_leastFree 4 = .ok (.sipush 400, 3) := by decide +kernel
theorem dX2_leastFree_7 : decode cX2_leastFree 7 = .ok (.if_icmp .ge 28, 3) := by decide +kernel
theorem dX2_leastFree_10 : decode cX2_leastFree 10 = .ok (.aload_n 0, 1) := by decide +kernel
theorem dX2_leastFree_11 : decode cX2_leastFree 11 = .ok (.getfield 9, 3) := by decide +kernel
theorem dX2_leastFree_14 : decode cX2_leastFree 14 = .ok (.aload_n 0, 1) := by decide +kernel
theorem dX2_leastFree_15 : decode cX2_leastFree 15 = .ok (.getfield 31, 3) := by decide +kernel
theorem dX2_leastFree_18 : decode cX2_leastFree 18 = .ok (.iaload, 1) := by decide +kernel
theorem dX2_leastFree_19 : decode cX2_leastFree 19 = .ok (.ifCond .le 16, 3) := by decide +kernel
theorem dX2_leastFree_22 : decode cX2_leastFree 22 = .ok (.aload_n 0, 1) := by decide +kernel
theorem dX2_leastFree_23 : decode cX2_leastFree 23 = .ok (.dup, 1) := by decide +kernel
theorem dX2_leastFree_24 : decode cX2_leastFree 24 = .ok (.getfield 31, 3) := by decide +kernel
theorem dX2_leastFree_27 : decode cX2_leastFree 27 = .ok (.iconst 1, 1) := by decide +kernel
theorem dX2_leastFree_28 : decode cX2_leastFree 28 = .ok (.iadd, 1) := by decide +kernel
theorem dX2_leastFree_29 : decode cX2_leastFree 29 = .ok (.putfield 31, 3) := by decide +kernel
theorem dX2_leastFree_32 : decode cX2_leastFree 32 = .ok (.goto (-32), 3) := by decide +kernel
theorem dX2_leastFree_35 : decode cX2_leastFree 35 = .ok (.aload_n 0, 1) := by decide +kernel
theorem dX2_leastFree_36 : decode cX2_leastFree 36 = .ok (.getfield 31, 3) := by decide +kernel
theorem dX2_leastFree_39 : decode cX2_leastFree 39 = .ok (.sipush 400, 3) := by decide +kernel
theorem dX2_leastFree_42 : decode cX2_leastFree 42 = .ok (.if_icmp .ge 10, 3) := by decide +kernel
theorem dX2_leastFree_45 : decode cX2_leastFree 45 = .ok (.aload_n 0, 1) := by decide +kernel
theorem dX2_leastFree_46 : decode cX2_leastFree 46 = .ok (.getfield 31, 3) := by decide +kernel
theorem dX2_leastFree_49 : decode cX2_leastFree 49 = .ok (.goto 4, 3) := by decide +kernel
theorem dX2_leastFree_52 : decode cX2_leastFree 52 = .ok (.iconst (-1), 1) := by decide +kernel
theorem dX2_leastFree_53 : decode cX2_leastFree 53 = .ok (.ireturn, 1) := by decide +kernel
theorem dX2_makeRoomFor_0 : decode cX2_makeRoomFor 0 = .ok (.iload_n 1, 1) := by decide +kernel
theorem dX2_makeRoomFor_1 : decode cX2_makeRoomFor 1 = .ok (.iconst 1, 1) := by decide +kernel
theorem dX2_makeRoomFor_2 : decode cX2_makeRoomFor 2 = .ok (.iadd, 1) := by decide +kernel
theorem dX2_makeRoomFor_3 : decode cX2_makeRoomFor 3 = .ok (.bipush 64, 2) := by decide +kernel
theorem dX2_makeRoomFor_5 : decode cX2_makeRoomFor 5 = .ok (.imul, 1) := by decide +kernel
theorem dX2_makeRoomFor_6 : decode cX2_makeRoomFor 6 = .ok (.istore_n 2, 1) := by decide +kernel
theorem dX2_makeRoomFor_7 : decode cX2_makeRoomFor 7 = .ok (.iload_n 2, 1) := by decide +kernel
theorem dX2_makeRoomFor_8 : decode cX2_makeRoomFor 8 = .ok (.aload_n 0, 1) := by decide +kernel
theorem dX2_makeRoomFor_9 : decode cX2_makeRoomFor 9 = .ok (.getfield 27, 3) := by decide +kernel
theorem dX2_makeRoomFor_12 : decode cX2_makeRoomFor 12 = .ok (.arraylength, 1) := by decide +kernel
theorem dX2_makeRoomFor_13 : decode cX2_makeRoomFor 13 = .ok (.if_icmp .le 31, 3) := by decide +kernel
theorem dX2_makeRoomFor_16 : decode cX2_makeRoomFor 16 = .ok (.aload_n 0, 1) := by decide +kernel
theorem dX2_makeRoomFor_17 : decode cX2_makeRoomFor 17 = .ok (.aload_n 0, 1) := by decide +kernel
theorem dX2_makeRoomFor_18 : decode cX2_makeRoomFor 18 = .ok (.getfield 27, 3) := by decide +kernel
theorem dX2_makeRoomFor_21 : decode cX2_makeRoomFor 21 = .ok (.sipush 25600, 3) := by decide +kernel
theorem dX2_makeRoomFor_24 : decode cX2_makeRoomFor 24 = .ok (.iload_n 2, 1) := by decide +kernel
theorem dX2_makeRoomFor_25 : decode cX2_makeRoomFor 25 = .ok (.iconst 2, 1) := by decide +kernel
theorem dX2_makeRoomFor_26 : decode cX2_makeRoomFor 26 = .ok (.aload_n 0, 1) := by decide +kernel
theorem dX2_makeRoomFor_27 : decode cX2_makeRoomFor 27 = .ok (.getfield 27, 3) := by decide +kernel
theorem dX2_makeRoomFor_30 : decode cX2_makeRoomFor 30 = .ok (.arraylength, 1) := by decide +kernel
theorem dX2_makeRoomFor_31 : decode cX2_makeRoomFor 31 = .ok (.imul, 1) := by decide +kernel
theorem dX2_makeRoomFor_32 : decode cX2_makeRoomFor 32 = .ok (.invokestatic 96, 3) := by decide +kernel
theorem dX2_makeRoomFor_35 : decode cX2_makeRoomFor 35 = .ok (.invokestatic 79, 3) := by decide +kernel
theorem dX2_makeRoomFor_38 : decode cX2_makeRoomFor 38 = .ok (.invokestatic 99, 3) := by decide +kernel
theorem dX2_makeRoomFor_41 : decode cX2_makeRoomFor 41 = .ok (.putfield 27, 3) := by decide +kernel
theorem dX2_makeRoomFor_44 : decode cX2_makeRoomFor 44 = .ok (.return_, 1) := by decide +kernel
theorem dX2_unchain_0 : decode cX2_unchain 0 = .ok (.aload_n 0, 1) := by decide +kernel
theorem dX2_unchain_1 : decode cX2_unchain 1 = .ok (.getfield 18, 3) := by decide +kernel
theorem dX2_unchain_4 : decode cX2_unchain 4 = .ok (.iload_n 1, 1) := by decide +kernel
theorem dX2_unchain_5 : decode cX2_unchain 5 = .ok (.iaload, 1) := by decide +kernel
theorem dX2_unchain_6 : decode cX2_unchain 6 = .ok (.sipush 511, 3) := by decide +kernel
theorem dX2_unchain_9 : decode cX2_unchain 9 = .ok (.iand, 1) := by decide +kernel
theorem dX2_unchain_10 : decode cX2_unchain 10 = .ok (.istore_n 2, 1) := by decide +kernel
theorem dX2_unchain_11 : decode cX2_unchain 11 = .ok (.aload_n 0, 1) := by decide +kernel
theorem dX2_unchain_12 : decode cX2_unchain 12 = .ok (.getfield 24, 3) := by decide +kernel
theorem dX2_unchain_15 : decode cX2_unchain 15 = .ok (.iload_n 2, 1) := by decide +kernel
theorem dX2_unchain_16 : decode cX2_unchain 16 = .ok (.iaload, 1) := by decide +kernel
theorem dX2_unchain_17 : decode cX2_unchain 17 = .ok (.iload_n 1, 1) := by decide +kernel
theorem dX2_unchain_18 : decode cX2_unchain 18 = .ok (.if_icmp .ne 16, 3) := by decide +kernel
theorem dX2_unchain_21 : decode cX2_unchain 21 = .ok (.aload_n 0, 1) := by decide +kernel
theorem dX2_unchain_22 : decode cX2_unchain 22 = .ok (.getfield 24, 3) := by decide +kernel
theorem dX2_unchain_25 : decode cX2_unchain 25 = .ok (.iload_n 2, 1) := by decide +kernel
theorem dX2_unchain_26 : decode cX2_unchain 26 = .ok (.aload_n 0, 1) := by decide +kernel
theorem dX2_unchain_27 : decode cX2_unchain 27 = .ok (.getfield 21, 3) := by decide +kernel
theorem dX2_unchain_30 : decode cX2_unchain 30 = .ok (.iload_n 1, 1) := by decide +kernel
theorem dX2_unchain_31 : decode cX2_unchain 31 = .ok (.iaload, 1) := by decide +kernel
theorem dX2_unchain_32 : decode cX2_unchain 32 = .ok (.iastore, 1) := by decide +kernel
theorem dX2_unchain_33 : decode cX2_unchain 33 = .ok (.return_, 1) := by decide +kernel
theorem dX2_unchain_34 : decode cX2_unchain 34 = .ok (.aload_n 0, 1) := by decide +kernel
theorem dX2_unchain_35 : decode cX2_unchain 35 = .ok (.getfield 24, 3) := by decide +kernel
theorem dX2_unchain_38 : decode cX2_unchain 38 = .ok (.iload_n 2, 1) := by decide +kernel
theorem dX2_unchain_39 : decode cX2_unchain 39 = .ok (.iaload, 1) := by decide +kernel
theorem dX2_unchain_40 : decode cX2_unchain 40 = .ok (.istore_n 3, 1) := by decide +kernel
theorem dX2_unchain_41 : decode cX2_unchain 41 = .ok (.iconst 0, 1) := by decide +kernel
theorem dX2_unchain_42 : decode cX2_unchain 42 = .ok (.istore 4, 2) := by decide +kernel
theorem dX2_unchain_44 : decode cX2_unchain 44 = .ok (.iload 4, 2) := by decide +kernel
theorem dX2_unchain_46 : decode cX2_unchain 46 = .ok (.sipush 400, 3) := by decide +kernel
theorem dX2_unchain_49 : decode cX2_unchain 49 = .ok (.if_icmp .ge 47, 3) := by decide +kernel
theorem dX2_unchain_52 : decode cX2_unchain 52 = .ok (.aload_n 0, 1) := by decide +kernel
theorem dX2_unchain_53 : decode cX2_unchain 53 = .ok (.iload_n 3, 1) := by decide +kernel
theorem dX2_unchain_54 : decode cX2_unchain 54 = .ok (.invokevirtual 47, 3) := by decide +kernel
theorem dX2_unchain_57 : decode cX2_unchain 57 = .ok (.ifCond .eq 39, 3) := by decide +kernel
theorem dX2_unchain_60 : decode cX2_unchain 60 = .ok (.aload_n 0, 1) := by decide +kernel
theorem dX2_unchain_61 : decode cX2_unchain 61 = .ok (.getfield 21, 3) := by decide +kernel
theorem dX2_unchain_64 : decode cX2_unchain 64 = .ok (.iload_n 3, 1) := by decide +kernel
theorem dX2_unchain_65 : decode cX2_unchain 65 = .ok (.iaload, 1) := by decide +kernel
theorem dX2_unchain_66 : decode cX2_unchain 66 = .ok (.iload_n 1, 1) := by decide +kernel
theorem dX2_unchain_67 : decode cX2_unchain 67 = .ok (.if_icmp .ne 16, 3) := by decide +kernel
theorem dX2_unchain_70 : decode cX2_unchain 70 = .ok (.aload_n 0, 1) := by decide +kernel
theorem dX2_unchain_71 : decode cX2_unchain 71 = .ok (.getfield 21, 3) := by decide +kernel
theorem dX2_unchain_74 : decode cX2_unchain 74 = .ok (.iload_n 3, 1) := by decide +kernel
theorem dX2_unchain_75 : decode cX2_unchain 75 = .ok (.aload_n 0, 1) := by decide +kernel
theorem dX2_unchain_76 : decode cX2_unchain 76 = .ok (.getfield 21, 3) := by decide +kernel
theorem dX2_unchain_79 : decode cX2_unchain 79 = .ok (.iload_n 1, 1) := by decide +kernel
theorem dX2_unchain_80 : decode cX2_unchain 80 = .ok (.iaload, 1) := by decide +kernel
theorem dX2_unchain_81 : decode cX2_unchain 81 = .ok (.iastore, 1) := by decide +kernel
theorem dX2_unchain_82 : decode cX2_unchain 82 = .ok (.return_, 1) := by decide +kernel
theorem dX2_unchain_83 : decode cX2_unchain 83 = .ok (.aload_n 0, 1) := by decide +kernel
theorem dX2_unchain_84 : decode cX2_unchain 84 = .ok (.getfield 21, 3) := by decide +kernel
theorem dX2_unchain_87 : decode cX2_unchain 87 = .ok (.iload_n 3, 1) := by decide +kernel
theorem dX2_unchain_88 : decode cX2_unchain 88 = .ok (.iaload, 1) := by decide +kernel
theorem dX2_unchain_89 : decode cX2_unchain 89 = .ok (.istore_n 3, 1) := by decide +kernel
theorem dX2_unchain_90 : decode cX2_unchain 90 = .ok (.iinc 4 1, 3) := by decide +kernel
theorem dX2_unchain_93 : decode cX2_unchain 93 = .ok (.goto (-49), 3) := by decide +kernel
theorem dX2_unchain_96 : decode cX2_unchain 96 = .ok (.return_, 1) := by decide +kernel
theorem dX4_init_0 : decode cX4_init 0 = .ok (.aload_n 0, 1) := by decide +kernel
theorem dX4_init_1 : decode cX4_init 1 = .ok (.invokespecial 1, 3) := by decide +kernel
theorem dX4_init_4 : decode cX4_init 4 = .ok (.aload_n 0, 1) := by decide +kernel
theorem dX4_init_5 : decode cX4_init 5 = .ok (.iconst 4, 1) := by decide +kernel
theorem dX4_init_6 : decode cX4_init 6 = .ok (.putfield 7, 3) := by decide +kernel
theorem dX4_init_9 : decode cX4_init 9 = .ok (.aload_n 0, 1) := by decide +kernel
theorem dX4_init_10 : decode cX4_init 10 = .ok (.iconst 4, 1) := by decide +kernel
theorem dX4_init_11 : decode cX4_init 11 = .ok (.putfield 13, 3) := by decide +kernel
theorem dX4_init_14 : decode cX4_init 14 = .ok (.aload_n 0, 1) := by decide +kernel
theorem dX4_init_15 : decode cX4_init 15 = .ok (.bipush 32, 2) := by decide +kernel
theorem dX4_init_17 : decode cX4_init 17 = .ok (.putfield 16, 3) := by decide +kernel
theorem dX4_init_20 : decode cX4_init 20 = .ok (.aload_n 0, 1) := by decide +kernel
theorem dX4_init_21 : decode cX4_init 21 = .ok (.sipush 1500, 3) := by decide +kernel
theorem dX4_init_24 : decode cX4_init 24 = .ok (.newarray .int, 2) := by decide +kernel
theorem dX4_init_26 : decode cX4_init 26 = .ok (.putfield 19, 3) := by decide +kernel
theorem dX4_init_29 : decode cX4_init 29 = .ok (.aload_n 0, 1) := by decide +kernel
theorem dX4_init_30 : decode cX4_init 30 = .ok (.sipush 1500, 3) := by decide +kernel
theorem dX4_init_33 : decode cX4_init 33 = .ok (.newarray .int, 2) := by decide +kernel
theorem dX4_init_35 : decode cX4_init 35 = .ok (.putfield 23, 3) := by decide +kernel
theorem dX4_init_38 : decode cX4_init 38 = .ok (.aload_n 0, 1) := by decide +kernel
theorem dX4_init_39 : decode cX4_init 39 = .ok (.sipush 1500, 3) := by decide +kernel
theorem dX4_init_42 : decode cX4_init 42 = .ok (.newarray .int, 2) := by decide +kernel
theorem dX4_init_44 : decode cX4_init 44 = .ok (.putfield 26, 3) := by decide +kernel
theorem dX4_init_47 : decode cX4_init 47 = .ok (.aload_n 0, 1) := by decide +kernel
theorem dX4_init_48 : decode cX4_init 48 = .ok (.sipush 1500, 3) := by decide +kernel
theorem dX4_init_51 : decode cX4_init 51 = .ok (.newarray .int, 2) := by decide +kernel
theorem dX4_init_53 : decode cX4_init 53 = .ok (.putfield 29, 3) := by decide +kernel
theorem dX4_init_56 : decode cX4_init 56 = .ok (.aload_n 0, 1) := by decide +kernel
theorem dX4_init_57 : decode cX4_init 57 = .ok (.sipush 400, 3) := by decide +kernel
theorem dX4_init_60 : decode cX4_init 60 = .ok (.newarray .boolean, 2) := by decide +kernel
theorem dX4_init_62 : decode cX4_init 62 = .ok (.putfield 32, 3) := by decide +kernel
theorem dX4_init_65 : decode cX4_init 65 = .ok (.aload_n 0, 1) := by decide +kernel
theorem dX4_init_66 : decode cX4_init 66 = .ok (.bipush 16, 2) := by decide +kernel
theorem dX4_init_68 : decode cX4_init 68 = .ok (.newarray .int, 2) := by decide +kernel
theorem dX4_init_70 : decode cX4_init 70 = .ok (.putfield 36, 3) := by decide +kernel
theorem dX4_init_73 : decode cX4_init 73 = .ok (.aload_n 0, 1) := by decide +kernel
theorem dX4_init_74 : decode cX4_init 74 = .ok (.sipush 24000, 3) := by decide +kernel
theorem dX4_init_77 : decode cX4_init 77 = .ok (.newarray .int, 2) := by decide +kernel
theorem dX4_init_79 : decode cX4_init 79 = .ok (.putfield 39, 3) := by decide +kernel
theorem dX4_init_82 : decode cX4_init 82 = .ok (.aload_n 0, 1) := by decide +kernel
theorem dX4_init_83 : decode cX4_init 83 = .ok (.bipush 16, 2) := by decide +kernel
theorem dX4_init_85 : decode cX4_init 85 = .ok (.newarray .int, 2) := by decide +kernel
theorem dX4_init_87 : decode cX4_init 87 = .ok (.putfield 42, 3) := by decide +kernel
theorem dX4_init_90 : decode cX4_init 90 = .ok (.aload_n 0, 1) := by decide +kernel
theorem dX4_init_91 : decode cX4_init 91 = .ok (.sipush 24000, 3) := by decide +kernel
theorem dX4_init_94 : decode cX4_init 94 = .ok (.newarray .int, 2) := by decide +kernel
theorem dX4_init_96 : decode cX4_init 96 = .ok (.putfield 45, 3) := by decide +kernel
theorem dX4_init_99 : decode cX4_init 99 = .ok (.aload_n 0, 1) := by decide +kernel
theorem dX4_init_100 : decode cX4_init 100 = .ok (.sipush 400, 3) := by decide +kernel
theorem dX4_init_103 : decode cX4_init 103 = .ok (.newarray .int, 2) := by decide +kernel
theorem dX4_init_105 : decode cX4_init 105 = .ok (.putfield 48, 3) := by decide +kernel
theorem dX4_init_108 : decode cX4_init 108 = .ok (.aload_n 0, 1) := by decide +kernel
theorem dX4_init_109 : decode cX4_init 109 = .ok (.sipush 400, 3) := by decide +kernel
theorem dX4_init_112 : decode cX4_init 112 = .ok (.newarray .int, 2) := by decide +kernel
theorem dX4_init_114 : decode cX4_init 114 = .ok (.putfield 51, 3) := by decide +kernel
theorem dX4_init_117 : decode cX4_init 117 = .ok (.aload_n 0, 1) := by decide +kernel
theorem dX4_init_118 : decode cX4_init 118 = .ok (.sipush 25600, 3) := by decide +kernel
theorem dX4_init_121 : decode cX4_init 121 = .ok (.newarray .int, 2) := by decide +kernel
theorem dX4_init_123 : decode cX4_init 123 = .ok (.putfield 54, 3) := by decide +kernel
theorem dX4_init_126 : decode cX4_init 126 = .ok (.return_, 1) := by decide +kernel
theorem dX4_thrown_0 : decode cX4_thrown 0 = .ok (.aload_n 0, 1) := by decide +kernel
theorem dX4_thrown_1 : decode cX4_thrown 1 = .ok (.getfield 57, 3) := by decide +kernel
theorem dX4_thrown_4 : decode cX4_thrown 4 = .ok (.ireturn, 1) := by decide +kernel
theorem dX4_refuse_0 : decode cX4_refuse 0 = .ok (.aload_n 0, 1) := by decide +kernel
theorem dX4_refuse_1 : decode cX4_refuse 1 = .ok (.iload_n 1, 1) := by decide +kernel
theorem dX4_refuse_2 : decode cX4_refuse 2 = .ok (.ifCond .eq 7, 3) := by decide +kernel
theorem dX4_refuse_5 : decode cX4_refuse 5 = .ok (.iconst 1, 1) := by decide +kernel
theorem dX4_refuse_6 : decode cX4_refuse 6 = .ok (.goto 20, 3) := by decide +kernel
theorem dX4_refuse_9 : decode cX4_refuse 9 = .ok (.iload_n 2, 1) := by decide +kernel
theorem dX4_refuse_10 : decode cX4_refuse 10 = .ok (.ifCond .eq 7, 3) := by decide +kernel
theorem dX4_refuse_13 : decode cX4_refuse 13 = .ok (.iconst 2, 1) := by decide +kernel
theorem dX4_refuse_14 : decode cX4_refuse 14 = .ok (.goto 12, 3) := by decide +kernel
theorem dX4_refuse_17 : decode cX4_refuse 17 = .ok (.iload_n 3, 1) := by decide +kernel
theorem dX4_refuse_18 : decode cX4_refuse 18 = .ok (.ifCond .eq 7, 3) := by decide +kernel
theorem dX4_refuse_21 : decode cX4_refuse 21 = .ok (.iconst 3, 1) := by decide +kernel
theorem dX4_refuse_22 : decode cX4_refuse 22 = .ok (.goto 4, 3) := by decide +kernel
theorem dX4_refuse_25 : decode cX4_refuse 25 = .ok (.iconst 0, 1) := by decide +kernel
theorem dX4_refuse_26 : decode cX4_refuse 26 = .ok (.putfield 57, 3) := by decide +kernel
theorem dX4_refuse_29 : decode cX4_refuse 29 = .ok (.aload_n 0, 1) := by decide +kernel
theorem dX4_refuse_30 : decode cX4_refuse 30 = .ok (.getfield 57, 3) := by decide +kernel
theorem dX4_refuse_33 : decode cX4_refuse 33 = .ok (.ifCond .le 7, 3) := by decide +kernel
theorem dX4_refuse_36 : decode cX4_refuse 36 = .ok (.iconst 1, 1) := by decide +kernel
theorem dX4_refuse_37 : decode cX4_refuse 37 = .ok (.goto 4, 3) := by decide +kernel
theorem dX4_refuse_40 : decode cX4_refuse 40 = .ok (.iconst 0, 1) := by decide +kernel
theorem dX4_refuse_41 : decode cX4_refuse 41 = .ok (.ireturn, 1) := by decide +kernel
theorem dX4_in_0 : decode cX4_in 0 = .ok (.iload_n 0, 1) := by decide +kernel
theorem dX4_in_1 : decode cX4_in 1 = .ok (.iload_n 1, 1) := by decide +kernel
theorem dX4_in_2 : decode cX4_in 2 = .ok (.if_icmp .lt 12, 3) := by decide +kernel
theorem dX4_in_5 : decode cX4_in 5 = .ok (.iload_n 0, 1) := by decide +kernel
theorem dX4_in_6 : decode cX4_in 6 = .ok (.iload_n 2, 1) := by decide +kernel
theorem dX4_in_7 : decode cX4_in 7 = .ok (.if_icmp .gt 7, 3) := by decide +kernel
theorem dX4_in_10 : decode cX4_in 10 = .ok (.iconst 1, 1) := by decide +kernel
theorem dX4_in_11 : decode cX4_in 11 = .ok (.goto 4, 3) := by decide +kernel
theorem dX4_in_14 : decode cX4_in 14 = .ok (.iconst 0, 1) := by decide +kernel
theorem dX4_in_15 : decode cX4_in 15 = .ok (.ireturn, 1) := by decide +kernel
theorem dX4_isFile_0 : decode cX4_isFile 0 = .ok (.iload_n 0, 1) := by decide +kernel
theorem dX4_isFile_1 : decode cX4_isFile 1 = .ok (.iconst 0, 1) := by decide +kernel
theorem dX4_isFile_2 : decode cX4_isFile 2 = .ok (.bipush 15, 2) := by decide +kernel
theorem dX4_isFile_4 : decode cX4_isFile 4 = .ok (.invokestatic 60, 3) := by decide +kernel
theorem dX4_isFile_7 : decode cX4_isFile 7 = .ok (.ireturn, 1) := by decide +kernel
theorem dX4_begin_0 : decode cX4_begin 0 = .ok (.iload_n 1, 1) := by decide +kernel
theorem dX4_begin_1 : decode cX4_begin 1 = .ok (.iconst 1, 1) := by decide +kernel
theorem dX4_begin_2 : decode cX4_begin 2 = .ok (.bipush 8, 2) := by decide +kernel
theorem dX4_begin_4 : decode cX4_begin 4 = .ok (.invokestatic 60, 3) := by decide +kernel
theorem dX4_begin_7 : decode cX4_begin 7 = .ok (.ifCond .eq 27, 3) := by decide +kernel
theorem dX4_begin_10 : decode cX4_begin 10 = .ok (.iload_n 2, 1) := by decide +kernel
theorem dX4_begin_11 : decode cX4_begin 11 = .ok (.iconst 1, 1) := by decide +kernel
theorem dX4_begin_12 : decode cX4_begin 12 = .ok (.bipush 32, 2) := by decide +kernel
theorem dX4_begin_14 : decode cX4_begin 14 = .ok (.invokestatic 60, 3) := by decide +kernel
theorem dX4_begin_17 : decode cX4_begin 17 = .ok (.ifCond .eq 17, 3) := by decide +kernel
theorem dX4_begin_20 : decode cX4_begin 20 = .ok (.iload_n 3, 1) := by decide +kernel
theorem dX4_begin_21 : decode cX4_begin 21 = .ok (.iload_n 2, 1) := by decide +kernel
theorem dX4_begin_22 : decode cX4_begin 22 = .ok (.bipush 64, 2) := by decide +kernel
theorem dX4_begin_24 : decode cX4_begin 24 = .ok (.invokestatic 60, 3) := by decide +kernel
theorem dX4_begin_27 : decode cX4_begin 27 = .ok (.ifCond .eq 7, 3) := by decide +kernel
theorem dX4_begin_30 : decode cX4_begin 30 = .ok (.iconst 1, 1) := by decide +kernel
theorem dX4_begin_31 : decode cX4_begin 31 = .ok (.goto 4, 3) := by decide +kernel
theorem dX4_begin_34 : decode cX4_begin 34 = .ok (.iconst 0, 1) := by decide +kernel
theorem dX4_begin_35 : decode cX4_begin 35 = .ok (.istore 4, 2) := by decide +kernel
theorem dX4_begin_37 : decode cX4_begin 37 = .ok (.aload_n 0, 1) := by decide +kernel
theorem dX4_begin_38 : decode cX4_begin 38 = .ok (.iload 4, 2) := by decide +kernel
theorem dX4_begin_40 : decode cX4_begin 40 = .ok (.ifCond .ne 7, 3) := by decide +kernel
theorem dX4_begin_43 : decode cX4_begin 43 = .ok (.iconst 1, 1) := by decide +kernel
theorem dX4_begin_44 : decode cX4_begin 44 = .ok (.goto 4, 3) := by decide +kernel
theorem dX4_begin_47 : decode cX4_begin 47 = .ok (.iconst 0, 1) := by decide +kernel
theorem dX4_begin_48 : decode cX4_begin 48 = .ok (.iconst 0, 1) := by decide +kernel
theorem dX4_begin_49 : decode cX4_begin 49 = .ok (.iconst 0, 1) := by decide +kernel
theorem dX4_begin_50 : decode cX4_begin 50 = .ok (.invokevirtual 64, 3) := by decide +kernel
theorem dX4_begin_53 : decode cX4_begin 53 = .ok (.ifCond .ne 75, 3) := by decide +kernel
theorem dX4_begin_56 : decode cX4_begin 56 = .ok (.aload_n 0, 1) := by decide +kernel
theorem dX4_begin_57 : decode cX4_begin 57 = .ok (.iload_n 1, 1) := by decide +kernel
theorem dX4_begin_58 : decode cX4_begin 58 = .ok (.putfield 7, 3) := by decide +kernel
theorem dX4_begin_61 : decode cX4_begin 61 = .ok (.aload_n 0, 1) := by decide +kernel
theorem dX4_begin_62 : decode cX4_begin 62 = .ok (.iload_n 2, 1) := by decide +kernel
theorem dX4_begin_63 : decode cX4_begin 63 = .ok (.putfield 13, 3) := by decide +kernel
theorem dX4_begin_66 : decode cX4_begin 66 = .ok (.aload_n 0, 1) := by decide +kernel
theorem dX4_begin_67 : decode cX4_begin 67 = .ok (.iload_n 3, 1) := by decide +kernel
theorem dX4_begin_68 : decode cX4_begin 68 = .ok (.putfield 16, 3) := by decide +kernel
theorem dX4_begin_71 : decode cX4_begin 71 = .ok (.iconst 0, 1) := by decide +kernel
theorem dX4_begin_72 : decode cX4_begin 72 = .ok (.istore 5, 2) := by decide +kernel
theorem dX4_begin_74 : decode cX4_begin 74 = .ok (.iload 5, 2) := by decide +kernel
theorem dX4_begin_76 : decode cX4_begin 76 = .ok (.bipush 16, 2) := by decide +kernel
theorem dX4_begin_78 : decode cX4_begin 78 = .ok (.if_icmp .ge 25, 3) := by decide +kernel
theorem dX4_begin_81 : decode cX4_begin 81 = .ok (.aload_n 0, 1) := by decide +kernel
theorem dX4_begin_82 : decode cX4_begin 82 = .ok (.getfield 36, 3) := by decide +kernel
theorem dX4_begin_85 : decode cX4_begin 85 = .ok (.iload 5, 2) := by decide +kernel
theorem dX4_begin_87 : decode cX4_begin 87 = .ok (.iconst 0, 1) := by decide +kernel
theorem dX4_begin_88 : decode cX4_begin 88 = .ok (.iastore, 1) := by decide +kernel
theorem dX4_begin_89 : decode cX4_begin 89 = .ok (.aload_n 0, 1) := by decide +kernel
theorem dX4_begin_90 : decode cX4_begin 90 = .ok (.getfield 42, 3) := by decide +kernel
theorem dX4_begin_93 : decode cX4_begin 93 = .ok (.iload 5, 2) := by decide +kernel
theorem dX4_begin_95 : decode cX4_begin 95 = .ok (.iconst 0, 1) := by decide +kernel
theorem dX4_begin_96 : decode cX4_begin 96 = .ok (.iastore, 1) := by decide +kernel
theorem dX4_begin_97 : decode cX4_begin 97 = .ok (.iinc 5 1, 3) := by decide +kernel
theorem dX4_begin_100 : decode cX4_begin 100 = .ok (.goto (-26), 3) := by decide +kernel
theorem dX4_begin_103 : decode cX4_begin 103 = .ok (.iconst 0, 1) := by decide +kernel
theorem dX4_begin_104 : decode cX4_begin 104 = .ok (.istore 5, 2) := by decide +kernel
theorem dX4_begin_106 : decode cX4_begin 106 = .ok (.iload 5, 2) := by decide +kernel
theorem dX4_begin_108 : decode cX4_begin 108 = .ok (.sipush 400, 3) := by decide +kernel
theorem dX4_begin_111 : decode cX4_begin 111 = .ok (.if_icmp .ge 17, 3) := by decide +kernel
theorem dX4_begin_114 : decode cX4_begin 114 = .ok (.aload_n 0, 1) := by decide +kernel
theorem dX4_begin_115 : decode cX4_begin 115 = .ok (.getfield 48, 3) := by decide +kernel
theorem dX4_begin_118 : decode cX4_begin 118 = .ok (.iload 5, 2) := by decide +kernel
theorem dX4_begin_120 : decode cX4_begin 120 = .ok (.iconst 0, 1) := by decide +kernel
theorem dX4_begin_121 : decode cX4_begin 121 = .ok (.iastore, 1) := by decide +kernel
theorem dX4_begin_122 : decode cX4_begin 122 = .ok (.iinc 5 1, 3) := by decide +kernel
theorem dX4_begin_125 : decode cX4_begin 125 = .ok (.goto (-19), 3) := by decide +kernel
theorem dX4_begin_128 : decode cX4_begin 128 = .ok (.return_, 1) := by decide +kernel
theorem dX4_put_0 : decode cX4_put 0 = .ok (.iload_n 1, 1) := by decide +kernel
theorem dX4_put_1 : decode cX4_put 1 = .ok (.iconst 1, 1) := by decide +kernel
theorem dX4_put_2 : decode cX4_put 2 = .ok (.iconst 4, 1) := by decide +kernel
theorem dX4_put_3 : decode cX4_put 3 = .ok (.invokestatic 60, 3) := by decide +kernel
theorem dX4_put_6 : decode cX4_put 6 = .ok (.istore_n 3, 1) := by decide +kernel
theorem dX4_put_7 : decode cX4_put 7 = .ok (.aload_n 0, 1) := by decide +kernel
theorem dX4_put_8 : decode cX4_put 8 = .ok (.iload_n 3, 1) := by decide +kernel
theorem dX4_put_9 : decode cX4_put 9 = .ok (.ifCond .ne 7, 3) := by decide +kernel
theorem dX4_put_12 : decode cX4_put 12 = .ok (.iconst 1, 1) := by decide +kernel
theorem dX4_put_13 : decode cX4_put 13 = .ok (.goto 4, 3) := by decide +kernel
theorem dX4_put_16 : decode cX4_put 16 = .ok (.iconst 0, 1) := by decide +kernel
theorem dX4_put_17 : decode cX4_put 17 = .ok (.iload_n 3, 1) := by decide +kernel
theorem dX4_put_18 : decode cX4_put 18 = .ok (.ifCond .eq 19, 3) := by decide +kernel
theorem dX4_put_21 : decode cX4_put 21 = .ok (.aload_n 0, 1) := by decide +kernel
theorem dX4_put_22 : decode cX4_put 22 = .ok (.getfield 68, 3) := by decide +kernel
theorem dX4_put_25 : decode cX4_put 25 = .ok (.iload_n 1, 1) := by decide +kernel
theorem dX4_put_26 : decode cX4_put 26 = .ok (.iadd, 1) := by decide +kernel
theorem dX4_put_27 : decode cX4_put 27 = .ok (.sipush 1500, 3) := by decide +kernel
theorem dX4_put_30 : decode cX4_put 30 = .ok (.if_icmp .le 7, 3) := by decide +kernel
theorem dX4_put_33 : decode cX4_put 33 = .ok (.iconst 1, 1) := by decide +kernel
theorem dX4_put_34 : decode cX4_put 34 = .ok (.goto 4, 3) := by decide +kernel
theorem dX4_put_37 : decode cX4_put 37 = .ok (.iconst 0, 1) := by decide +kernel
theorem dX4_put_38 : decode cX4_put 38 = .ok (.iconst 0, 1) := by decide +kernel
theorem dX4_put_39 : decode cX4_put 39 = .ok (.invokevirtual 64, 3) := by decide +kernel
theorem dX4_put_42 : decode cX4_put 42 = .ok (.ifCond .eq 5, 3) := by decide +kernel
theorem dX4_put_45 : decode cX4_put 45 = .ok (.iconst 0, 1) := by decide +kernel
theorem dX4_put_46 : decode cX4_put 46 = .ok (.ireturn, 1) := by decide +kernel
theorem dX4_put_47 : decode cX4_put 47 = .ok (.iconst 0, 1) := by decide +kernel
theorem dX4_put_48 : decode cX4_put 48 = .ok (.istore 4, 2) := by decide +kernel
theorem dX4_put_50 : decode cX4_put 50 = .ok (.iload 4, 2) := by decide +kernel
theorem dX4_put_52 : decode cX4_put 52 = .ok (.iload_n 1, 1) := by decide +kernel
theorem dX4_put_53 : decode cX4_put 53 = .ok (.if_icmp .ge 39, 3) := by decide +kernel
theorem dX4_put_56 : decode cX4_put 56 = .ok (.aload_n 0, 1) := by decide +kernel
theorem dX4_put_57 : decode cX4_put 57 = .ok (.getfield 19, 3) := by decide +kernel
theorem dX4_put_60 : decode cX4_put 60 = .ok (.aload_n 0, 1) := by decide +kernel
theorem dX4_put_61 : decode cX4_put 61 = .ok (.getfield 68, 3) := by decide +kernel
theorem dX4_put_64 : decode cX4_put 64 = .ok (.iload_n 2, 1) := by decide +kernel
theorem dX4_put_65 : decode cX4_put 65 = .ok (.bipush 8, 2) := by decide +kernel
theorem dX4_put_67 : decode cX4_put 67 = .ok (.iload 4, 2) := by decide +kernel
theorem dX4_put_69 : decode cX4_put 69 = .ok (.imul, 1) := by decide +kernel
theorem dX4_put_70 : decode cX4_put 70 = .ok (.ishr, 1) := by decide +kernel
theorem dX4_put_71 : decode cX4_put 71 = .ok (.sipush 255, 3) := by decide +kernel
theorem dX4_put_74 : decode cX4_put 74 = .ok (.iand, 1) := by decide +kernel
theorem dX4_put_75 : decode cX4_put 75 = .ok (.iastore, 1) := by decide +kernel
theorem dX4_put_76 : decode cX4_put 76 = .ok (.aload_n 0, 1) := by decide +kernel
theorem dX4_put_77 : decode cX4_put 77 = .ok (.dup, 1) := by decide +kernel
theorem dX4_put_78 : decode cX4_put 78 = .ok (.getfield 68, 3) := by decide +kernel
theorem dX4_put_81 : decode cX4_put 81 = .ok (.iconst 1, 1) := by decide +kernel
theorem dX4_put_82 : decode cX4_put 82 = .ok (.iadd, 1) := by decide +kernel
theorem dX4_put_83 : decode cX4_put 83 = .ok (.putfield 68, 3) := by decide +kernel
theorem dX4_put_86 : decode cX4_put 86 = .ok (.iinc 4 1, 3) := by decide +kernel
theorem dX4_put_89 : decode cX4_put 89 = .ok (.goto (-39), 3) := by decide +kernel
theorem dX4_put_92 : decode cX4_put 92 = .ok (.aload_n 0, 1) := by decide +kernel
theorem dX4_put_93 : decode cX4_put 93 = .ok (.getfield 68, 3) := by decide +kernel
theorem dX4_put_96 : decode cX4_put 96 = .ok (.ireturn, 1) := by decide +kernel
theorem dX4_mark_0 : decode cX4_mark 0 = .ok (.iload_n 0, 1) := by decide +kernel
theorem dX4_mark_1 : decode cX4_mark 1 = .ok (.iconst 1, 1) := by decide +kernel
theorem dX4_mark_2 : decode cX4_mark 2 = .ok (.iadd, 1) := by decide +kernel
theorem dX4_mark_3 : decode cX4_mark 3 = .ok (.ldc 71, 2) := by decide +kernel
theorem dX4_mark_5 : decode cX4_mark 5 = .ok (.imul, 1) := by decide +kernel
theorem dX4_mark_6 : decode cX4_mark 6 = .ok (.istore_n 1, 1) := by decide +kernel
theorem dX4_mark_7 : decode cX4_mark 7 = .ok (.iload_n 1, 1) := by decide +kernel
theorem dX4_mark_8 : decode cX4_mark 8 = .ok (.iload_n 1, 1) := by decide +kernel
theorem dX4_mark_9 : decode cX4_mark 9 = .ok (.bipush 15, 2) := by decide +kernel
theorem dX4_mark_11 : decode cX4_mark 11 = .ok (.iushr, 1) := by decide +kernel
theorem dX4_mark_12 : decode cX4_mark 12 = .ok (.ixor, 1) := by decide +kernel
theorem dX4_mark_13 : decode cX4_mark 13 = .ok (.ireturn, 1) := by decide +kernel
theorem dX4_sum_0 : decode cX4_sum 0 = .ok (.iconst 0, 1) := by decide +kernel
theorem dX4_sum_1 : decode cX4_sum 1 = .ok (.istore_n 3, 1) := by decide +kernel
theorem dX4_sum_2 : decode cX4_sum 2 = .ok (.iconst 0, 1) := by decide +kernel
theorem dX4_sum_3 : decode cX4_sum 3 = .ok (.istore 4, 2) := by decide +kernel
theorem dX4_sum_5 : decode cX4_sum 5 = .ok (.iload 4, 2) := by decide +kernel
theorem dX4_sum_7 : decode cX4_sum 7 = .ok (.bipush 8, 2) := by decide +kernel
theorem dX4_sum_9 : decode cX4_sum 9 = .ok (.if_icmp .ge 61, 3) := by decide +kernel
theorem dX4_sum_12 : decode cX4_sum 12 = .ok (.iload_n 2, 1) := by decide +kernel
theorem dX4_sum_13 : decode cX4_sum 13 = .ok (.iconst 1, 1) := by decide +kernel
theorem dX4_sum_14 : decode cX4_sum 14 = .ok (.isub, 1) := by decide +kernel
theorem dX4_sum_15 : decode cX4_sum 15 = .ok (.iload 4, 2) := by decide +kernel
theorem dX4_sum_17 : decode cX4_sum 17 = .ok (.isub, 1) := by decide +kernel
theorem dX4_sum_18 : decode cX4_sum 18 = .ok (.iload_n 1, 1) := by decide +kernel
theorem dX4_sum_19 : decode cX4_sum 19 = .ok (.if_icmp .lt 51, 3) := by decide +kernel
theorem dX4_sum_22 : decode cX4_sum 22 = .ok (.aload_n 0, 1) := by decide +kernel
theorem dX4_sum_23 : decode cX4_sum 23 = .ok (.getfield 23, 3) := by decide +kernel
theorem dX4_sum_26 : decode cX4_sum 26 = .ok (.iload_n 2, 1) := by decide +kernel
theorem dX4_sum_27 : decode cX4_sum 27 = .ok (.iconst 1, 1) := by decide +kernel
theorem dX4_sum_28 : decode cX4_sum 28 = .ok (.isub, 1) := by decide +kernel
theorem dX4_sum_29 : decode cX4_sum 29 = .ok (.iload 4, 2) := by decide +kernel
theorem dX4_sum_31 : decode cX4_sum 31 = .ok (.isub, 1) := by decide +kernel
theorem dX4_sum_32 : decode cX4_sum 32 = .ok (.iaload, 1) := by decide +kernel
theorem dX4_sum_33 : decode cX4_sum 33 = .ok (.invokestatic 72, 3) := by decide +kernel
theorem dX4_sum_36 : decode cX4_sum 36 = .ok (.istore 5, 2) := by decide +kernel
theorem dX4_sum_38 : decode cX4_sum 38 = .ok (.iload_n 3, 1) := by decide +kernel
theorem dX4_sum_39 : decode cX4_sum 39 = .ok (.iload 5, 2) := by decide +kernel
theorem dX4_sum_41 : decode cX4_sum 41 = .ok (.iload 4, 2) := by decide +kernel
theorem dX4_sum_43 : decode cX4_sum 43 = .ok (.ishl, 1) := by decide +kernel
theorem dX4_sum_44 : decode cX4_sum 44 = .ok (.iload 4, 2) := by decide +kernel
theorem dX4_sum_46 : decode cX4_sum 46 = .ok (.ifCond .ne 7, 3) := by decide +kernel
theorem dX4_sum_49 : decode cX4_sum 49 = .ok (.iconst 0, 1) := by decide +kernel
theorem dX4_sum_50 : decode cX4_sum 50 = .ok (.goto 11, 3) := by decide +kernel
theorem dX4_sum_53 : decode cX4_sum 53 = .ok (.iload 5, 2) := by decide +kernel
theorem dX4_sum_55 : decode cX4_sum 55 = .ok (.bipush 32, 2) := by decide +kernel
theorem dX4_sum_57 : decode cX4_sum 57 = .ok (.iload 4, 2) := by decide +kernel
theorem dX4_sum_59 : decode cX4_sum 59 = .ok (.isub, 1) := by decide +kernel
theorem dX4_sum_60 : decode cX4_sum 60 = .ok (.iushr, 1) := by decide +kernel
theorem dX4_sum_61 : decode cX4_sum 61 = .ok (.ior, 1) := by decide +kernel
theorem dX4_sum_62 : decode cX4_sum 62 = .ok (.ixor, 1) := by decide +kernel
theorem dX4_sum_63 : decode cX4_sum 63 = .ok (.istore_n 3, 1) := by decide +kernel
theorem dX4_sum_64 : decode cX4_sum 64 = .ok (.iinc 4 1, 3) := by decide +kernel
theorem dX4_sum_67 : decode cX4_sum 67 = .ok (.goto (-62), 3) := by decide +kernel
theorem dX4_sum_70 : decode cX4_sum 70 = .ok (.iload_n 3, 1) := by decide +kernel
theorem dX4_sum_71 : decode cX4_sum 71 = .ok (.ireturn, 1) := by decide +kernel
theorem dX4_cut_0 : decode cX4_cut 0 = .ok (.aload_n 0, 1) := by decide +kernel
theorem dX4_cut_1 : decode cX4_cut 1 = .ok (.iconst 0, 1) := by decide +kernel
theorem dX4_cut_2 : decode cX4_cut 2 = .ok (.putfield 76, 3) := by decide +kernel
theorem dX4_cut_5 : decode cX4_cut 5 = .ok (.iconst 0, 1) := by decide +kernel
theorem dX4_cut_6 : decode cX4_cut 6 = .ok (.istore_n 1, 1) := by decide +kernel
theorem dX4_cut_7 : decode cX4_cut 7 = .ok (.iconst 1, 1) := by decide +kernel
theorem dX4_cut_8 : decode cX4_cut 8 = .ok (.istore_n 2, 1) := by decide +kernel
theorem dX4_cut_9 : decode cX4_cut 9 = .ok (.iload_n 2, 1) := by decide +kernel
theorem dX4_cut_10 : decode cX4_cut 10 = .ok (.aload_n 0, 1) := by decide +kernel
theorem dX4_cut_11 : decode cX4_cut 11 = .ok (.getfield 79, 3) := by decide +kernel
theorem dX4_cut_14 : decode cX4_cut 14 = .ok (.if_icmp .gt 89, 3) := by decide +kernel
theorem dX4_cut_17 : decode cX4_cut 17 = .ok (.iload_n 2, 1) := by decide +kernel
theorem dX4_cut_18 : decode cX4_cut 18 = .ok (.iload_n 1, 1) := by decide +kernel
theorem dX4_cut_19 : decode cX4_cut 19 = .ok (.isub, 1) := by decide +kernel
theorem dX4_cut_20 : decode cX4_cut 20 = .ok (.istore_n 3, 1) := by decide +kernel
theorem dX4_cut_21 : decode cX4_cut 21 = .ok (.iload_n 2, 1) := by decide +kernel
theorem dX4_cut_22 : decode cX4_cut 22 = .ok (.aload_n 0, 1) := by decide +kernel
theorem dX4_cut_23 : decode cX4_cut 23 = .ok (.getfield 79, 3) := by decide +kernel
theorem dX4_cut_26 : decode cX4_cut 26 = .ok (.if_icmp .eq 37, 3) := by decide +kernel
theorem dX4_cut_29 : decode cX4_cut 29 = .ok (.iload_n 3, 1) := by decide +kernel
theorem dX4_cut_30 : decode cX4_cut 30 = .ok (.aload_n 0, 1) := by decide +kernel
theorem dX4_cut_31 : decode cX4_cut 31 = .ok (.getfield 16, 3) := by decide +kernel
theorem dX4_cut_34 : decode cX4_cut 34 = .ok (.if_icmp .eq 29, 3) := by decide +kernel
theorem dX4_cut_37 : decode cX4_cut 37 = .ok (.iload_n 3, 1) := by decide +kernel
theorem dX4_cut_38 : decode cX4_cut 38 = .ok (.aload_n 0, 1) := by decide +kernel
theorem dX4_cut_39 : decode cX4_cut 39 = .ok (.getfield 13, 3) := by decide +kernel
theorem dX4_cut_42 : decode cX4_cut 42 = .ok (.if_icmp .lt 25, 3) := by decide +kernel
theorem dX4_cut_45 : decode cX4_cut 45 = .ok (.aload_n 0, 1) := by decide +kernel
theorem dX4_cut_46 : decode cX4_cut 46 = .ok (.iload_n 1, 1) := by decide +kernel
theorem dX4_cut_47 : decode cX4_cut 47 = .ok (.iload_n 2, 1) := by decide +kernel
theorem dX4_cut_48 : decode cX4_cut 48 = .ok (.invokevirtual 82, 3) := by decide +kernel
theorem dX4_cut_51 : decode cX4_cut 51 = .ok (.iconst 1, 1) := by decide +kernel
theorem dX4_cut_52 : decode cX4_cut 52 = .ok (.aload_n 0, 1) := by decide +kernel
theorem dX4_cut_53 : decode cX4_cut 53 = .ok (.getfield 7, 3) := by decide +kernel
theorem dX4_cut_56 : decode cX4_cut 56 = .ok (.ishl, 1) := by decide +kernel
theorem dX4_cut_57 : decode cX4_cut 57 = .ok (.iconst 1, 1) := by decide +kernel
theorem dX4_cut_58 : decode cX4_cut 58 = .ok (.isub, 1) := by decide +kernel
theorem dX4_cut_59 : decode cX4_cut 59 = .ok (.iand, 1) := by decide +kernel
theorem dX4_cut_60 : decode cX4_cut 60 = .ok (.ifCond .ne 7, 3) := by decide +kernel
theorem dX4_cut_63 : decode cX4_cut 63 = .ok (.iconst 1, 1) := by decide +kernel
theorem dX4_cut_64 : decode cX4_cut 64 = .ok (.goto 4, 3) := by decide +kernel
theorem dX4_cut_67 : decode cX4_cut 67 = .ok (.iconst 0, 1) := by decide +kernel
theorem dX4_cut_68 : decode cX4_cut 68 = .ok (.istore 4, 2) := by decide +kernel
theorem dX4_cut_70 : decode cX4_cut 70 = .ok (.iload 4, 2) := by decide +kernel
theorem dX4_cut_72 : decode cX4_cut 72 = .ok (.ifCond .eq 25, 3) := by decide +kernel
theorem dX4_cut_75 : decode cX4_cut 75 = .ok (.aload_n 0, 1) := by decide +kernel
theorem dX4_cut_76 : decode cX4_cut 76 = .ok (.getfield 26, 3) := by decide +kernel
theorem dX4_cut_79 : decode cX4_cut 79 = .ok (.aload_n 0, 1) := by decide +kernel
theorem dX4_cut_80 : decode cX4_cut 80 = .ok (.getfield 76, 3) := by decide +kernel
theorem dX4_cut_83 : decode cX4_cut 83 = .ok (.iload_n 2, 1) := by decide +kernel

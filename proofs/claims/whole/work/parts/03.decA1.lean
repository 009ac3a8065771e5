theorem dX0_init_0 : decode cX0_init 0 = .ok (.aload_n 0, 1) := by decide +kernel
theorem dX0_init_1 : decode cX0_init 1 = .ok (.invokespecial 3, 3) := by decide +kernel
theorem dX0_init_4 : decode cX0_init 4 = .ok (.aload_n 0, 1) := by decide +kernel
theorem dX0_init_5 : decode cX0_init 5 = .ok (.bipush 16, 2) := by decide +kernel
theorem dX0_init_7 : decode cX0_init 7 = .ok (.newarray .int, 2) := by decide +kernel
theorem dX0_init_9 : decode cX0_init 9 = .ok (.putfield 11, 3) := by decide +kernel
theorem dX0_init_12 : decode cX0_init 12 = .ok (.aload_n 0, 1) := by decide +kernel
theorem dX0_init_13 : decode cX0_init 13 = .ok (.iconst 0, 1) := by decide +kernel
theorem dX0_init_14 : decode cX0_init 14 = .ok (.putfield 15, 3) := by decide +kernel
theorem dX0_init_17 : decode cX0_init 17 = .ok (.aload_n 0, 1) := by decide +kernel
theorem dX0_init_18 : decode cX0_init 18 = .ok (.iconst 0, 1) := by decide +kernel
theorem dX0_init_19 : decode cX0_init 19 = .ok (.putfield 19, 3) := by decide +kernel
theorem dX0_init_22 : decode cX0_init 22 = .ok (.return_, 1) := by decide +kernel
theorem dX0_empty_0 : decode cX0_empty 0 = .ok (.aload_n 0, 1) := by decide +kernel
theorem dX0_empty_1 : decode cX0_empty 1 = .ok (.iconst 0, 1) := by decide +kernel
theorem dX0_empty_2 : decode cX0_empty 2 = .ok (.putfield 15, 3) := by decide +kernel
theorem dX0_empty_5 : decode cX0_empty 5 = .ok (.aload_n 0, 1) := by decide +kernel
theorem dX0_empty_6 : decode cX0_empty 6 = .ok (.iconst 0, 1) := by decide +kernel
theorem dX0_empty_7 : decode cX0_empty 7 = .ok (.putfield 19, 3) := by decide +kernel
theorem dX0_empty_10 : decode cX0_empty 10 = .ok (.return_, 1) := by decide +kernel
theorem dX0_become_0 : decode cX0_become 0 = .ok (.iload_n 2, 1) := by decide +kernel
theorem dX0_become_1 : decode cX0_become 1 = .ok (.aload_n 0, 1) := by decide +kernel
theorem dX0_become_2 : decode cX0_become 2 = .ok (.getfield 11, 3) := by decide +kernel
theorem dX0_become_5 : decode cX0_become 5 = .ok (.arraylength, 1) := by decide +kernel
theorem dX0_become_6 : decode cX0_become 6 = .ok (.if_icmp .le 26, 3) := by decide +kernel
theorem dX0_become_9 : decode cX0_become 9 = .ok (.aload_n 0, 1) := by decide +kernel
theorem dX0_become_10 : decode cX0_become 10 = .ok (.sipush 1500, 3) := by decide +kernel
theorem dX0_become_13 : decode cX0_become 13 = .ok (.iload_n 2, 1) := by decide +kernel
theorem dX0_become_14 : decode cX0_become 14 = .ok (.iconst 2, 1) := by decide +kernel
theorem dX0_become_15 : decode cX0_become 15 = .ok (.aload_n 0, 1) := by decide +kernel
theorem dX0_become_16 : decode cX0_become 16 = .ok (.getfield 11, 3) := by decide +kernel
theorem dX0_become_19 : decode cX0_become 19 = .ok (.arraylength, 1) := by decide +kernel
theorem dX0_become_20 : decode cX0_become 20 = .ok (.imul, 1) := by decide +kernel
theorem dX0_become_21 : decode cX0_become 21 = .ok (.invokestatic 22, 3) := by decide +kernel
theorem dX0_become_24 : decode cX0_become 24 = .ok (.invokestatic 28, 3) := by decide +kernel
theorem dX0_become_27 : decode cX0_become 27 = .ok (.newarray .int, 2) := by decide +kernel
theorem dX0_become_29 : decode cX0_become 29 = .ok (.putfield 11, 3) := by decide +kernel
theorem dX0_become_32 : decode cX0_become 32 = .ok (.aload_n 1, 1) := by decide +kernel
theorem dX0_become_33 : decode cX0_become 33 = .ok (.iconst 0, 1) := by decide +kernel
theorem dX0_become_34 : decode cX0_become 34 = .ok (.aload_n 0, 1) := by decide +kernel
theorem dX0_become_35 : decode cX0_become 35 = .ok (.getfield 11, 3) := by decide +kernel
theorem dX0_become_38 : decode cX0_become 38 = .ok (.iconst 0, 1) := by decide +kernel
theorem dX0_become_39 : decode cX0_become 39 = .ok (.iload_n 2, 1) := by decide +kernel
theorem dX0_become_40 : decode cX0_become 40 = .ok (.invokestatic 31, 3) := by decide +kernel
theorem dX0_become_43 : decode cX0_become 43 = .ok (.aload_n 0, 1) := by decide +kernel
theorem dX0_become_44 : decode cX0_become 44 = .ok (.iload_n 2, 1) := by decide +kernel
theorem dX0_become_45 : decode cX0_become 45 = .ok (.putfield 15, 3) := by decide +kernel
theorem dX0_become_48 : decode cX0_become 48 = .ok (.aload_n 0, 1) := by decide +kernel
theorem dX0_become_49 : decode cX0_become 49 = .ok (.iload_n 3, 1) := by decide +kernel
theorem dX0_become_50 : decode cX0_become 50 = .ok (.putfield 19, 3) := by decide +kernel
theorem dX0_become_53 : decode cX0_become 53 = .ok (.return_, 1) := by decide +kernel
theorem dX0_hasNumber_0 : decode cX0_hasNumber 0 = .ok (.iconst 0, 1) := by decide +kernel
theorem dX0_hasNumber_1 : decode cX0_hasNumber 1 = .ok (.istore_n 2, 1) := by decide +kernel
theorem dX0_hasNumber_2 : decode cX0_hasNumber 2 = .ok (.iload_n 2, 1) := by decide +kernel
theorem dX0_hasNumber_3 : decode cX0_hasNumber 3 = .ok (.aload_n 0, 1) := by decide +kernel
theorem dX0_hasNumber_4 : decode cX0_hasNumber 4 = .ok (.getfield 15, 3) := by decide +kernel
theorem dX0_hasNumber_7 : decode cX0_hasNumber 7 = .ok (.if_icmp .ge 21, 3) := by decide +kernel
theorem dX0_hasNumber_10 : decode cX0_hasNumber 10 = .ok (.aload_n 0, 1) := by decide +kernel
theorem dX0_hasNumber_11 : decode cX0_hasNumber 11 = .ok (.getfield 11, 3) := by decide +kernel
theorem dX0_hasNumber_14 : decode cX0_hasNumber 14 = .ok (.iload_n 2, 1) := by decide +kernel
theorem dX0_hasNumber_15 : decode cX0_hasNumber 15 = .ok (.iaload, 1) := by decide +kernel
theorem dX0_hasNumber_16 : decode cX0_hasNumber 16 = .ok (.iload_n 1, 1) := by decide +kernel
theorem dX0_hasNumber_17 : decode cX0_hasNumber 17 = .ok (.if_icmp .ne 5, 3) := by decide +kernel
theorem dX0_hasNumber_20 : decode cX0_hasNumber 20 = .ok (.iconst 1, 1) := by decide +kernel
theorem dX0_hasNumber_21 : decode cX0_hasNumber 21 = .ok (.ireturn, 1) := by decide +kernel
theorem dX0_hasNumber_22 : decode cX0_hasNumber 22 = .ok (.iinc 2 1, 3) := by decide +kernel
theorem dX0_hasNumber_25 : decode cX0_hasNumber 25 = .ok (.goto (-23), 3) := by decide +kernel
theorem dX0_hasNumber_28 : decode cX0_hasNumber 28 = .ok (.iconst 0, 1) := by decide +kernel
theorem dX0_hasNumber_29 : decode cX0_hasNumber 29 = .ok (.ireturn, 1) := by decide +kernel
theorem dX1_init_0 : decode cX1_init 0 = .ok (.aload_n 0, 1) := by decide +kernel
theorem dX1_init_1 : decode cX1_init 1 = .ok (.invokespecial 1, 3) := by decide +kernel
theorem dX1_init_4 : decode cX1_init 4 = .ok (.aload_n 0, 1) := by decide +kernel
theorem dX1_init_5 : decode cX1_init 5 = .ok (.bipush 15, 2) := by decide +kernel
theorem dX1_init_7 : decode cX1_init 7 = .ok (.putfield 7, 3) := by decide +kernel
theorem dX1_init_10 : decode cX1_init 10 = .ok (.aload_n 0, 1) := by decide +kernel
theorem dX1_init_11 : decode cX1_init 11 = .ok (.iconst 4, 1) := by decide +kernel
theorem dX1_init_12 : decode cX1_init 12 = .ok (.putfield 13, 3) := by decide +kernel
theorem dX1_init_15 : decode cX1_init 15 = .ok (.aload_n 0, 1) := by decide +kernel
theorem dX1_init_16 : decode cX1_init 16 = .ok (.bipush 32, 2) := by decide +kernel
theorem dX1_init_18 : decode cX1_init 18 = .ok (.putfield 16, 3) := by decide +kernel
theorem dX1_init_21 : decode cX1_init 21 = .ok (.return_, 1) := by decide +kernel
theorem dX1_setRule_0 : decode cX1_setRule 0 = .ok (.aload_n 0, 1) := by decide +kernel
theorem dX1_setRule_1 : decode cX1_setRule 1 = .ok (.iconst 1, 1) := by decide +kernel
theorem dX1_setRule_2 : decode cX1_setRule 2 = .ok (.iload_n 1, 1) := by decide +kernel
theorem dX1_setRule_3 : decode cX1_setRule 3 = .ok (.ishl, 1) := by decide +kernel
theorem dX1_setRule_4 : decode cX1_setRule 4 = .ok (.iconst 1, 1) := by decide +kernel
theorem dX1_setRule_5 : decode cX1_setRule 5 = .ok (.isub, 1) := by decide +kernel
theorem dX1_setRule_6 : decode cX1_setRule 6 = .ok (.putfield 7, 3) := by decide +kernel
theorem dX1_setRule_9 : decode cX1_setRule 9 = .ok (.aload_n 0, 1) := by decide +kernel
theorem dX1_setRule_10 : decode cX1_setRule 10 = .ok (.iload_n 2, 1) := by decide +kernel
theorem dX1_setRule_11 : decode cX1_setRule 11 = .ok (.putfield 13, 3) := by decide +kernel
theorem dX1_setRule_14 : decode cX1_setRule 14 = .ok (.aload_n 0, 1) := by decide +kernel
theorem dX1_setRule_15 : decode cX1_setRule 15 = .ok (.iload_n 3, 1) := by decide +kernel
theorem dX1_setRule_16 : decode cX1_setRule 16 = .ok (.putfield 16, 3) := by decide +kernel
theorem dX1_setRule_19 : decode cX1_setRule 19 = .ok (.return_, 1) := by decide +kernel
theorem dX1_endOfPart_0 : decode cX1_endOfPart 0 = .ok (.iload_n 3, 1) := by decide +kernel
theorem dX1_endOfPart_1 : decode cX1_endOfPart 1 = .ok (.iload_n 2, 1) := by decide +kernel
theorem dX1_endOfPart_2 : decode cX1_endOfPart 2 = .ok (.aload_n 0, 1) := by decide +kernel
theorem dX1_endOfPart_3 : decode cX1_endOfPart 3 = .ok (.getfield 16, 3) := by decide +kernel
theorem dX1_endOfPart_6 : decode cX1_endOfPart 6 = .ok (.iadd, 1) := by decide +kernel
theorem dX1_endOfPart_7 : decode cX1_endOfPart 7 = .ok (.invokestatic 19, 3) := by decide +kernel
theorem dX1_endOfPart_10 : decode cX1_endOfPart 10 = .ok (.istore 4, 2) := by decide +kernel
theorem dX1_endOfPart_12 : decode cX1_endOfPart 12 = .ok (.iconst 0, 1) := by decide +kernel
theorem dX1_endOfPart_13 : decode cX1_endOfPart 13 = .ok (.istore 5, 2) := by decide +kernel
theorem dX1_endOfPart_15 : decode cX1_endOfPart 15 = .ok (.iload_n 2, 1) := by decide +kernel
theorem dX1_endOfPart_16 : decode cX1_endOfPart 16 = .ok (.istore 6, 2) := by decide +kernel
theorem dX1_endOfPart_18 : decode cX1_endOfPart 18 = .ok (.iload 6, 2) := by decide +kernel
theorem dX1_endOfPart_20 : decode cX1_endOfPart 20 = .ok (.iload 4, 2) := by decide +kernel
theorem dX1_endOfPart_22 : decode cX1_endOfPart 22 = .ok (.if_icmp .ge 82, 3) := by decide +kernel
theorem dX1_endOfPart_25 : decode cX1_endOfPart 25 = .ok (.iload 5, 2) := by decide +kernel
theorem dX1_endOfPart_27 : decode cX1_endOfPart 27 = .ok (.iconst 1, 1) := by decide +kernel
theorem dX1_endOfPart_28 : decode cX1_endOfPart 28 = .ok (.invokestatic 25, 3) := by decide +kernel
theorem dX1_endOfPart_31 : decode cX1_endOfPart 31 = .ok (.aload_n 1, 1) := by decide +kernel
theorem dX1_endOfPart_32 : decode cX1_endOfPart 32 = .ok (.iload 6, 2) := by decide +kernel
theorem dX1_endOfPart_34 : decode cX1_endOfPart 34 = .ok (.baload, 1) := by decide +kernel
theorem dX1_endOfPart_35 : decode cX1_endOfPart 35 = .ok (.invokestatic 28, 3) := by decide +kernel
theorem dX1_endOfPart_38 : decode cX1_endOfPart 38 = .ok (.ixor, 1) := by decide +kernel
theorem dX1_endOfPart_39 : decode cX1_endOfPart 39 = .ok (.istore 5, 2) := by decide +kernel
theorem dX1_endOfPart_41 : decode cX1_endOfPart 41 = .ok (.iload 6, 2) := by decide +kernel
theorem dX1_endOfPart_43 : decode cX1_endOfPart 43 = .ok (.iload_n 2, 1) := by decide +kernel
theorem dX1_endOfPart_44 : decode cX1_endOfPart 44 = .ok (.isub, 1) := by decide +kernel
theorem dX1_endOfPart_45 : decode cX1_endOfPart 45 = .ok (.bipush 8, 2) := by decide +kernel
theorem dX1_endOfPart_47 : decode cX1_endOfPart 47 = .ok (.if_icmp .lt 23, 3) := by decide +kernel
theorem dX1_endOfPart_50 : decode cX1_endOfPart 50 = .ok (.iload 5, 2) := by decide +kernel
theorem dX1_endOfPart_52 : decode cX1_endOfPart 52 = .ok (.aload_n 1, 1) := by decide +kernel
theorem dX1_endOfPart_53 : decode cX1_endOfPart 53 = .ok (.iload 6, 2) := by decide +kernel
theorem dX1_endOfPart_55 : decode cX1_endOfPart 55 = .ok (.bipush 8, 2) := by decide +kernel
theorem dX1_endOfPart_57 : decode cX1_endOfPart 57 = .ok (.isub, 1) := by decide +kernel
theorem dX1_endOfPart_58 : decode cX1_endOfPart 58 = .ok (.baload, 1) := by decide +kernel
theorem dX1_endOfPart_59 : decode cX1_endOfPart 59 = .ok (.invokestatic 28, 3) := by decide +kernel
theorem dX1_endOfPart_62 : decode cX1_endOfPart 62 = .ok (.bipush 8, 2) := by decide +kernel
theorem dX1_endOfPart_64 : decode cX1_endOfPart 64 = .ok (.invokestatic 25, 3) := by decide +kernel
theorem dX1_endOfPart_67 : decode cX1_endOfPart 67 = .ok (.ixor, 1) := by decide +kernel
theorem dX1_endOfPart_68 : decode cX1_endOfPart 68 = .ok (.istore 5, 2) := by decide +kernel
theorem dX1_endOfPart_70 : decode cX1_endOfPart 70 = .ok (.iload 6, 2) := by decide +kernel
theorem dX1_endOfPart_72 : decode cX1_endOfPart 72 = .ok (.iload_n 2, 1) := by decide +kernel
theorem dX1_endOfPart_73 : decode cX1_endOfPart 73 = .ok (.isub, 1) := by decide +kernel
theorem dX1_endOfPart_74 : decode cX1_endOfPart 74 = .ok (.iconst 1, 1) := by decide +kernel
theorem dX1_endOfPart_75 : decode cX1_endOfPart 75 = .ok (.iadd, 1) := by decide +kernel
theorem dX1_endOfPart_76 : decode cX1_endOfPart 76 = .ok (.aload_n 0, 1) := by decide +kernel
theorem dX1_endOfPart_77 : decode cX1_endOfPart 77 = .ok (.getfield 13, 3) := by decide +kernel
theorem dX1_endOfPart_80 : decode cX1_endOfPart 80 = .ok (.if_icmp .lt 18, 3) := by decide +kernel
theorem dX1_endOfPart_83 : decode cX1_endOfPart 83 = .ok (.iload 5, 2) := by decide +kernel
theorem dX1_endOfPart_85 : decode cX1_endOfPart 85 = .ok (.aload_n 0, 1) := by decide +kernel
theorem dX1_endOfPart_86 : decode cX1_endOfPart 86 = .ok (.getfield 7, 3) := by decide +kernel
theorem dX1_endOfPart_89 : decode cX1_endOfPart 89 = .ok (.iand, 1) := by decide +kernel
theorem dX1_endOfPart_90 : decode cX1_endOfPart 90 = .ok (.ifCond .ne 8, 3) := by decide +kernel
theorem dX1_endOfPart_93 : decode cX1_endOfPart 93 = .ok (.iload 6, 2) := by decide +kernel
theorem dX1_endOfPart_95 : decode cX1_endOfPart 95 = .ok (.iconst 1, 1) := by decide +kernel
theorem dX1_endOfPart_96 : decode cX1_endOfPart 96 = .ok (.iadd, 1) := by decide +kernel
theorem dX1_endOfPart_97 : decode cX1_endOfPart 97 = .ok (.ireturn, 1) := by decide +kernel
theorem dX1_endOfPart_98 : decode cX1_endOfPart 98 = .ok (.iinc 6 1, 3) := by decide +kernel
theorem dX1_endOfPart_101 : decode cX1_endOfPart 101 = .ok (.goto (-83), 3) := by decide +kernel
theorem dX1_endOfPart_104 : decode cX1_endOfPart 104 = .ok (.iload 4, 2) := by decide +kernel
theorem dX1_endOfPart_106 : decode cX1_endOfPart 106 = .ok (.ireturn, 1) := by decide +kernel
theorem dX1_mark_0 : decode cX1_mark 0 = .ok (.iload_n 0, 1) := by decide +kernel
theorem dX1_mark_1 : decode cX1_mark 1 = .ok (.sipush 255, 3) := by decide +kernel
theorem dX1_mark_4 : decode cX1_mark 4 = .ok (.iand, 1) := by decide +kernel
theorem dX1_mark_5 : decode cX1_mark 5 = .ok (.iconst 1, 1) := by decide +kernel
theorem dX1_mark_6 : decode cX1_mark 6 = .ok (.iadd, 1) := by decide +kernel
theorem dX1_mark_7 : decode cX1_mark 7 = .ok (.ldc 32, 2) := by decide +kernel
theorem dX1_mark_9 : decode cX1_mark 9 = .ok (.imul, 1) := by decide +kernel
theorem dX1_mark_10 : decode cX1_mark 10 = .ok (.istore_n 1, 1) := by decide +kernel
theorem dX1_mark_11 : decode cX1_mark 11 = .ok (.iload_n 1, 1) := by decide +kernel
theorem dX1_mark_12 : decode cX1_mark 12 = .ok (.iload_n 1, 1) := by decide +kernel
theorem dX1_mark_13 : decode cX1_mark 13 = .ok (.bipush 15, 2) := by decide +kernel
theorem dX1_mark_15 : decode cX1_mark 15 = .ok (.iushr, 1) := by decide +kernel
theorem dX1_mark_16 : decode cX1_mark 16 = .ok (.ixor, 1) := by decide +kernel
theorem dX1_mark_17 : decode cX1_mark 17 = .ok (.ireturn, 1) := by decide +kernel
theorem dX1_turned_0 : decode cX1_turned 0 = .ok (.iload_n 0, 1) := by decide +kernel
theorem dX1_turned_1 : decode cX1_turned 1 = .ok (.iload_n 1, 1) := by decide +kernel
theorem dX1_turned_2 : decode cX1_turned 2 = .ok (.ishl, 1) := by decide +kernel
theorem dX1_turned_3 : decode cX1_turned 3 = .ok (.iload_n 0, 1) := by decide +kernel
theorem dX1_turned_4 : decode cX1_turned 4 = .ok (.bipush 32, 2) := by decide +kernel
theorem dX1_turned_6 : decode cX1_turned 6 = .ok (.iload_n 1, 1) := by decide +kernel
theorem dX1_turned_7 : decode cX1_turned 7 = .ok (.isub, 1) := by decide +kernel
theorem dX1_turned_8 : decode cX1_turned 8 = .ok (.iushr, 1) := by decide +kernel
theorem dX1_turned_9 : decode cX1_turned 9 = .ok (.ior, 1) := by decide +kernel
theorem dX1_turned_10 : decode cX1_turned 10 = .ok (.ireturn, 1) := by decide +kernel
theorem dX2_init_0 : decode cX2_init 0 = .ok (.aload_n 0, 1) := by decide +kernel
theorem dX2_init_1 : decode cX2_init 1 = .ok (.invokespecial 3, 3) := by decide +kernel
theorem dX2_init_4 : decode cX2_init 4 = .ok (.aload_n 0, 1) := by decide +kernel
theorem dX2_init_5 : decode cX2_init 5 = .ok (.sipush 400, 3) := by decide +kernel
theorem dX2_init_8 : decode cX2_init 8 = .ok (.newarray .int, 2) := by decide +kernel
theorem dX2_init_10 : decode cX2_init 10 = .ok (.putfield 9, 3) := by decide +kernel
theorem dX2_init_13 : decode cX2_init 13 = .ok (.aload_n 0, 1) := by decide +kernel
theorem dX2_init_14 : decode cX2_init 14 = .ok (.sipush 400, 3) := by decide +kernel
theorem dX2_init_17 : decode cX2_init 17 = .ok (.newarray .int, 2) := by decide +kernel
theorem dX2_init_19 : decode cX2_init 19 = .ok (.putfield 15, 3) := by decide +kernel
theorem dX2_init_22 : decode cX2_init 22 = .ok (.aload_n 0, 1) := by decide +kernel
theorem dX2_init_23 : decode cX2_init 23 = .ok (.sipush 400, 3) := by decide +kernel
theorem dX2_init_26 : decode cX2_init 26 = .ok (.newarray .int, 2) := by decide +kernel
theorem dX2_init_28 : decode cX2_init 28 = .ok (.putfield 18, 3) := by decide +kernel
theorem dX2_init_31 : decode cX2_init 31 = .ok (.aload_n 0, 1) := by decide +kernel
theorem dX2_init_32 : decode cX2_init 32 = .ok (.sipush 400, 3) := by decide +kernel
theorem dX2_init_35 : decode cX2_init 35 = .ok (.newarray .int, 2) := by decide +kernel
theorem dX2_init_37 : decode cX2_init 37 = .ok (.putfield 21, 3) := by decide +kernel
theorem dX2_init_40 : decode cX2_init 40 = .ok (.aload_n 0, 1) := by decide +kernel
theorem dX2_init_41 : decode cX2_init 41 = .ok (.sipush 512, 3) := by decide +kernel
theorem dX2_init_44 : decode cX2_init 44 = .ok (.newarray .int, 2) := by decide +kernel
theorem dX2_init_46 : decode cX2_init 46 = .ok (.putfield 24, 3) := by decide +kernel
theorem dX2_init_49 : decode cX2_init 49 = .ok (.aload_n 0, 1) := by decide +kernel
theorem dX2_init_50 : decode cX2_init 50 = .ok (.sipush 1024, 3) := by decide +kernel
theorem dX2_init_53 : decode cX2_init 53 = .ok (.newarray .byte, 2) := by decide +kernel
theorem dX2_init_55 : decode cX2_init 55 = .ok (.putfield 27, 3) := by decide +kernel
theorem dX2_init_58 : decode cX2_init 58 = .ok (.aload_n 0, 1) := by decide +kernel
theorem dX2_init_59 : decode cX2_init 59 = .ok (.iconst 0, 1) := by decide +kernel
theorem dX2_init_60 : decode cX2_init 60 = .ok (.putfield 31, 3) := by decide +kernel
theorem dX2_init_63 : decode cX2_init 63 = .ok (.aload_n 0, 1) := by decide +kernel
theorem dX2_init_64 : decode cX2_init 64 = .ok (.iconst 0, 1) := by decide +kernel
theorem dX2_init_65 : decode cX2_init 65 = .ok (.putfield 35, 3) := by decide +kernel
theorem dX2_init_68 : decode cX2_init 68 = .ok (.aload_n 0, 1) := by decide +kernel
theorem dX2_init_69 : decode cX2_init 69 = .ok (.iconst 0, 1) := by decide +kernel
theorem dX2_init_70 : decode cX2_init 70 = .ok (.putfield 38, 3) := by decide +kernel
theorem dX2_init_73 : decode cX2_init 73 = .ok (.aload_n 0, 1) := by decide +kernel
theorem dX2_init_74 : decode cX2_init 74 = .ok (.getfield 24, 3) := by decide +kernel
theorem dX2_init_77 : decode cX2_init 77 = .ok (.iconst (-1), 1) := by decide +kernel
theorem dX2_init_78 : decode cX2_init 78 = .ok (.invokestatic 41, 3) := by decide +kernel
theorem dX2_init_81 : decode cX2_init 81 = .ok (.return_, 1) := by decide +kernel
theorem dX2_empty_0 : decode cX2_empty 0 = .ok (.aload_n 0, 1) := by decide +kernel
theorem dX2_empty_1 : decode cX2_empty 1 = .ok (.getfield 9, 3) := by decide +kernel
theorem dX2_empty_4 : decode cX2_empty 4 = .ok (.iconst 0, 1) := by decide +kernel
theorem dX2_empty_5 : decode cX2_empty 5 = .ok (.invokestatic 41, 3) := by decide +kernel
theorem dX2_empty_8 : decode cX2_empty 8 = .ok (.aload_n 0, 1) := by decide +kernel
theorem dX2_empty_9 : decode cX2_empty 9 = .ok (.getfield 24, 3) := by decide +kernel
theorem dX2_empty_12 : decode cX2_empty 12 = .ok (.iconst (-1), 1) := by decide +kernel
theorem dX2_empty_13 : decode cX2_empty 13 = .ok (.invokestatic 41, 3) := by decide +kernel
theorem dX2_empty_16 : decode cX2_empty 16 = .ok (.aload_n 0, 1) := by decide +kernel
theorem dX2_empty_17 : decode cX2_empty 17 = .ok (.iconst 0, 1) := by decide +kernel
theorem dX2_empty_18 : decode cX2_empty 18 = .ok (.putfield 31, 3) := by decide +kernel
theorem dX2_empty_21 : decode cX2_empty 21 = .ok (.aload_n 0, 1) := by decide +kernel
theorem dX2_empty_22 : decode cX2_empty 22 = .ok (.iconst 0, 1) := by decide +kernel
theorem dX2_empty_23 : decode cX2_empty 23 = .ok (.putfield 35, 3) := by decide +kernel
theorem dX2_empty_26 : decode cX2_empty 26 = .ok (.aload_n 0, 1) := by decide +kernel
theorem dX2_empty_27 : decode cX2_empty 27 = .ok (.iconst 0, 1) := by decide +kernel
theorem dX2_empty_28 : decode cX2_empty 28 = .ok (.putfield 38, 3) := by decide +kernel
theorem dX2_empty_31 : decode cX2_empty 31 = .ok (.return_, 1) := by decide +kernel
theorem dX2_has_0 : decode cX2_has 0 = .ok (.iload_n 1, 1) := by decide +kernel
theorem dX2_has_1 : decode cX2_has 1 = .ok (.ifCond .lt 23, 3) := by decide +kernel
theorem dX2_has_4 : decode cX2_has 4 = .ok (.iload_n 1, 1) := by decide +kernel
theorem dX2_has_5 : decode cX2_has 5 = .ok (.sipush 400, 3) := by decide +kernel
theorem dX2_has_8 : decode cX2_has 8 = .ok (.if_icmp .ge 16, 3) := by decide +kernel
theorem dX2_has_11 : decode cX2_has 11 = .ok (.aload_n 0, 1) := by decide +kernel
theorem dX2_has_12 : decode cX2_has 12 = .ok (.getfield 9, 3) := by decide +kernel
theorem dX2_has_15 : decode cX2_has 15 = .ok (.iload_n 1, 1) := by decide +kernel
theorem dX2_has_16 : decode cX2_has 16 = .ok (.iaload, 1) := by decide +kernel
theorem dX2_has_17 : decode cX2_has 17 = .ok (.ifCond .le 7, 3) := by decide +kernel
theorem dX2_has_20 : decode cX2_has 20 = .ok (.iconst 1, 1) := by decide +kernel
theorem dX2_has_21 : decode cX2_has 21 = .ok (.goto 4, 3) := by decide +kernel
theorem dX2_has_24 : decode cX2_has 24 = .ok (.iconst 0, 1) := by decide +kernel
theorem dX2_has_25 : decode cX2_has 25 = .ok (.ireturn, 1) := by decide +kernel
theorem dX2_usesOf_0 : decode cX2_usesOf 0 = .ok (.aload_n 0, 1) := by decide +kernel
theorem dX2_usesOf_1 : decode cX2_usesOf 1 = .ok (.iload_n 1, 1) := by decide +kernel
theorem dX2_usesOf_2 : decode cX2_usesOf 2 = .ok (.invokevirtual 47, 3) := by decide +kernel
theorem dX2_usesOf_5 : decode cX2_usesOf 5 = .ok (.ifCond .eq 12, 3) := by decide +kernel
theorem dX2_usesOf_8 : decode cX2_usesOf 8 = .ok (.aload_n 0, 1) := by decide +kernel
theorem dX2_usesOf_9 : decode cX2_usesOf 9 = .ok (.getfield 9, 3) := by decide +kernel
theorem dX2_usesOf_12 : decode cX2_usesOf 12 = .ok (.iload_n 1, 1) := by decide +kernel
theorem dX2_usesOf_13 : decode cX2_usesOf 13 = .ok (.iaload, 1) := by decide +kernel
theorem dX2_usesOf_14 : decode cX2_usesOf 14 = .ok (.goto 4, 3) := by decide +kernel
theorem dX2_usesOf_17 : decode cX2_usesOf 17 = .ok (.iconst 0, 1) := by decide +kernel
theorem dX2_usesOf_18 : decode cX2_usesOf 18 = .ok (.ireturn, 1) := by decide +kernel
theorem dX2_lengthOf_0 : decode cX2_lengthOf 0 = .ok (.aload_n 0, 1) := by decide +kernel
theorem dX2_lengthOf_1 : decode cX2_lengthOf 1 = .ok (.iload_n 1, 1) := by decide +kernel
theorem dX2_lengthOf_2 : decode cX2_lengthOf 2 = .ok (.invokevirtual 47, 3) := by decide +kernel
theorem dX2_lengthOf_5 : decode cX2_lengthOf 5 = .ok (.ifCond .eq 12, 3) := by decide +kernel
theorem dX2_lengthOf_8 : decode cX2_lengthOf 8 = .ok (.aload_n 0, 1) := by decide +kernel
theorem dX2_lengthOf_9 : decode cX2_lengthOf 9 = .ok (.getfield 15, 3) := by decide +kernel
theorem dX2_lengthOf_12 : decode cX2_lengthOf 12 = .ok (.iload_n 1, 1) := by decide +kernel
theorem dX2_lengthOf_13 : decode cX2_lengthOf 13 = .ok (.iaload, 1) := by decide +kernel
theorem dX2_lengthOf_14 : decode cX2_lengthOf 14 = .ok (.goto 4, 3) := by decide +kernel
theorem dX2_lengthOf_17 : decode cX2_lengthOf 17 = .ok (.iconst 0, 1) := by decide +kernel
theorem dX2_lengthOf_18 : decode cX2_lengthOf 18 = .ok (.ireturn, 1) := by decide +kernel
theorem dX2_byteOf_0 : decode cX2_byteOf 0 = .ok (.iload_n 2, 1) := by decide +kernel
theorem dX2_byteOf_1 : decode cX2_byteOf 1 = .ok (.ifCond .lt 12, 3) := by decide +kernel
theorem dX2_byteOf_4 : decode cX2_byteOf 4 = .ok (.iload_n 2, 1) := by decide +kernel
theorem dX2_byteOf_5 : decode cX2_byteOf 5 = .ok (.aload_n 0, 1) := by decide +kernel
theorem dX2_byteOf_6 : decode cX2_byteOf 6 = .ok (.iload_n 1, 1) := by decide +kernel
theorem dX2_byteOf_7 : decode cX2_byteOf 7 = .ok (.invokevirtual 51, 3) := by decide +kernel
theorem dX2_byteOf_10 : decode cX2_byteOf 10 = .ok (.if_icmp .lt 5, 3) := by decide +kernel
theorem dX2_byteOf_13 : decode cX2_byteOf 13 = .ok (.iconst (-1), 1) := by decide +kernel
theorem dX2_byteOf_14 : decode cX2_byteOf 14 = .ok (.ireturn, 1) := by decide +kernel
theorem dX2_byteOf_15 : decode cX2_byteOf 15 = .ok (.aload_n 0, 1) := by decide +kernel
theorem dX2_byteOf_16 : decode cX2_byteOf 16 = .ok (.getfield 27, 3) := by decide +kernel
theorem dX2_byteOf_19 : decode cX2_byteOf 19 = .ok (.iload_n 1, 1) := by decide +kernel
theorem dX2_byteOf_20 : decode cX2_byteOf 20 = .ok (.bipush 64, 2) := by decide +kernel
theorem dX2_byteOf_22 : decode cX2_byteOf 22 = .ok (.imul, 1) := by decide +kernel
theorem dX2_byteOf_23 : decode cX2_byteOf 23 = .ok (.iload_n 2, 1) := by decide +kernel
theorem dX2_byteOf_24 : decode cX2_byteOf 24 = .ok (.iadd, 1) := by decide +kernel
theorem dX2_byteOf_25 : decode cX2_byteOf 25 = .ok (.baload, 1) := by decide +kernel
theorem dX2_byteOf_26 : decode cX2_byteOf 26 = .ok (.sipush 255, 3) := by decide +kernel
theorem dX2_byteOf_29 : decode cX2_byteOf 29 = .ok (.iand, 1) := by decide +kernel
theorem dX2_byteOf_30 : decode cX2_byteOf 30 = .ok (.ireturn, 1) := by decide +kernel
theorem dX2_writeOut_0 : decode cX2_writeOut 0 = .ok (.aload_n 0, 1) := by decide +kernel
theorem dX2_writeOut_1 : decode cX2_writeOut 1 = .ok (.iload_n 1, 1) := by decide +kernel
theorem dX2_writeOut_2 : decode cX2_writeOut 2 = .ok (.invokevirtual 51, 3) := by decide +kernel
theorem dX2_writeOut_5 : decode cX2_writeOut 5 = .ok (.istore 4, 2) := by decide +kernel
theorem dX2_writeOut_7 : decode cX2_writeOut 7 = .ok (.iload 4, 2) := by decide +kernel
theorem dX2_writeOut_9 : decode cX2_writeOut 9 = .ok (.ifCond .eq 16, 3) := by decide +kernel
theorem dX2_writeOut_12 : decode cX2_writeOut 12 = .ok (.iload_n 3, 1) := by decide +kernel
theorem dX2_writeOut_13 : decode cX2_writeOut 13 = .ok (.ifCond .lt 12, 3) := by decide +kernel
theorem dX2_writeOut_16 : decode cX2_writeOut 16 = .ok (.iload 4, 2) := by decide +kernel
theorem dX2_writeOut_18 : decode cX2_writeOut 18 = .ok (.aload_n 2, 1) := by decide +kernel
theorem dX2_writeOut_19 : decode cX2_writeOut 19 = .ok (.arraylength, 1) := by decide +kernel
theorem dX2_writeOut_20 : decode cX2_writeOut 20 = .ok (.iload_n 3, 1) := by decide +kernel
theorem dX2_writeOut_21 : decode cX2_writeOut 21 = .ok (.isub, 1) := by decide +kernel
theorem dX2_writeOut_22 : decode cX2_writeOut 22 = .ok (.if_icmp .le 5, 3) := by decide +kernel
theorem dX2_writeOut_25 : decode cX2_writeOut 25 = .ok (.iconst 0, 1) := by decide +kernel
theorem dX2_writeOut_26 : decode cX2_writeOut 26 = .ok (.ireturn, 1) := by decide +kernel
theorem dX2_writeOut_27 : decode cX2_writeOut 27 = .ok (.aload_n 0, 1) := by decide +kernel
theorem dX2_writeOut_28 : decode cX2_writeOut 28 = .ok (.getfield 27, 3) := by decide +kernel
theorem dX2_writeOut_31 : decode cX2_writeOut 31 = .ok (.iload_n 1, 1) := by decide +kernel
theorem dX2_writeOut_32 : decode cX2_writeOut 32 = .ok (.bipush 64, 2) := by decide +kernel
theorem dX2_writeOut_34 : decode cX2_writeOut 34 = .ok (.imul, 1) := by decide +kernel
theorem dX2_writeOut_35 : decode cX2_writeOut 35 = .ok (.aload_n 2, 1) := by decide +kernel
theorem dX2_writeOut_36 : decode cX2_writeOut 36 = .ok (.iload_n 3, 1) := by decide +kernel
theorem dX2_writeOut_37 : decode cX2_writeOut 37 = .ok (.iload 4, 2) := by decide +kernel
theorem dX2_writeOut_39 : decode cX2_writeOut 39 = .ok (.invokestatic 55, 3) := by decide +kernel
theorem dX2_writeOut_42 : decode cX2_writeOut 42 = .ok (.iload 4, 2) := by decide +kernel
theorem dX2_writeOut_44 : decode cX2_writeOut 44 = .ok (.ireturn, 1) := by decide +kernel
theorem dX2_useAgain_0 : decode cX2_useAgain 0 = .ok (.aload_n 0, 1) := by decide +kernel
theorem dX2_useAgain_1 : decode cX2_useAgain 1 = .ok (.iload_n 1, 1) := by decide +kernel
theorem dX2_useAgain_2 : decode cX2_useAgain 2 = .ok (.invokevirtual 47, 3) := by decide +kernel
theorem dX2_useAgain_5 : decode cX2_useAgain 5 = .ok (.ifCond .eq 13, 3) := by decide +kernel
theorem dX2_useAgain_8 : decode cX2_useAgain 8 = .ok (.aload_n 0, 1) := by decide +kernel
theorem dX2_useAgain_9 : decode cX2_useAgain 9 = .ok (.getfield 9, 3) := by decide +kernel
theorem dX2_useAgain_12 : decode cX2_useAgain 12 = .ok (.iload_n 1, 1) := by decide +kernel
theorem dX2_useAgain_13 : decode cX2_useAgain 13 = .ok (.dup2, 1) := by decide +kernel
theorem dX2_useAgain_14 : decode cX2_useAgain 14 = .ok (.iaload, 1) := by decide +kernel
theorem dX2_useAgain_15 : decode cX2_useAgain 15 = .ok (.iconst 1, 1) := by decide +kernel
theorem dX2_useAgain_16 : decode cX2_useAgain 16 = .ok (.iadd, 1) := by decide +kernel
theorem dX2_useAgain_17 : decode cX2_useAgain 17 = .ok (.iastore, 1) := by decide +kernel
theorem dX2_useAgain_18 : decode cX2_useAgain 18 = .ok (.return_, 1) := by decide +kernel
theorem dX2_take_0 : decode cX2_take 0 = .ok (.aload_n 1, 1) := by decide +kernel
theorem dX2_take_1 : decode cX2_take 1 = .ok (.iload_n 2, 1) := by decide +kernel
theorem dX2_take_2 : decode cX2_take 2 = .ok (.iload_n 3, 1) := by decide +kernel
theorem dX2_take_3 : decode cX2_take 3 = .ok (.invokestatic 61, 3) := by decide +kernel
theorem dX2_take_6 : decode cX2_take 6 = .ok (.istore 4, 2) := by decide +kernel
theorem dX2_take_8 : decode cX2_take 8 = .ok (.aload_n 0, 1) := by decide +kernel
theorem dX2_take_9 : decode cX2_take 9 = .ok (.iload 4, 2) := by decide +kernel
theorem dX2_take_11 : decode cX2_take 11 = .ok (.aload_n 1, 1) := by decide +kernel
theorem dX2_take_12 : decode cX2_take 12 = .ok (.iload_n 2, 1) := by decide +kernel
theorem dX2_take_13 : decode cX2_take 13 = .ok (.iload_n 3, 1) := by decide +kernel
theorem dX2_take_14 : decode cX2_take 14 = .ok (.iload_n 2, 1) := by decide +kernel
theorem dX2_take_15 : decode cX2_take 15 = .ok (.isub, 1) := by decide +kernel
theorem dX2_take_16 : decode cX2_take 16 = .ok (.invokevirtual 65, 3) := by decide +kernel
theorem dX2_take_19 : decode cX2_take 19 = .ok (.istore 5, 2) := by decide +kernel
theorem dX2_take_21 : decode cX2_take 21 = .ok (.iload 5, 2) := by decide +kernel
theorem dX2_take_23 : decode cX2_take 23 = .ok (.iconst (-1), 1) := by decide +kernel
theorem dX2_take_24 : decode cX2_take 24 = .ok (.if_icmp .ne 15, 3) := by decide +kernel
theorem dX2_take_27 : decode cX2_take 27 = .ok (.aload_n 0, 1) := by decide +kernel
theorem dX2_take_28 : decode cX2_take 28 = .ok (.iload 4, 2) := by decide +kernel
theorem dX2_take_30 : decode cX2_take 30 = .ok (.aload_n 1, 1) := by decide +kernel
theorem dX2_take_31 : decode cX2_take 31 = .ok (.iload_n 2, 1) := by decide +kernel
theorem dX2_take_32 : decode cX2_take 32 = .ok (.iload_n 3, 1) := by decide +kernel
theorem dX2_take_33 : decode cX2_take 33 = .ok (.iload_n 2, 1) := by decide +kernel
theorem dX2_take_34 : decode cX2_take 34 = .ok (.isub, 1) := by decide +kernel
theorem dX2_take_35 : decode cX2_take 35 = .ok (.invokevirtual 69, 3) := by decide +kernel
theorem dX2_take_38 : decode cX2_take 38 = .ok (.ireturn, 1) := by decide +kernel
theorem dX2_take_39 : decode cX2_take 39 = .ok (.aload_n 0, 1) := by decide +kernel
theorem dX2_take_40 : decode cX2_take 40 = .ok (.iload 5, 2) := by decide +kernel
theorem dX2_take_42 : decode cX2_take 42 = .ok (.invokevirtual 72, 3) := by decide +kernel
theorem dX2_take_45 : decode cX2_take 45 = .ok (.iload 5, 2) := by decide +kernel
theorem dX2_take_47 : decode cX2_take 47 = .ok (.ireturn, 1) := by decide +kernel
theorem dX2_giveBack_0 : decode cX2_giveBack 0 = .ok (.aload_n 0, 1) := by decide +kernel
theorem dX2_giveBack_1 : decode cX2_giveBack 1 = .ok (.iload_n 1, 1) := by decide +kernel
theorem dX2_giveBack_2 : decode cX2_giveBack 2 = .ok (.invokevirtual 47, 3) := by decide +kernel
theorem dX2_giveBack_5 : decode cX2_giveBack 5 = .ok (.ifCond .ne 4, 3) := by decide +kernel
theorem dX2_giveBack_8 : decode cX2_giveBack 8 = .ok (.return_, 1) := by decide +kernel
theorem dX2_giveBack_9 : decode cX2_giveBack 9 = .ok (.aload_n 0, 1) := by decide +kernel
theorem dX2_giveBack_10 : decode cX2_giveBack 10 = .ok (.getfield 9, 3) := by decide +kernel
theorem dX2_giveBack_13 : decode cX2_giveBack 13 = .ok (.iload_n 1, 1) := by decide +kernel
theorem dX2_giveBack_14 : decode cX2_giveBack 14 = .ok (.dup2, 1) := by decide +kernel
theorem dX2_giveBack_15 : decode cX2_giveBack 15 = .ok (.iaload, 1) := by decide +kernel
theorem dX2_giveBack_16 : decode cX2_giveBack 16 = .ok (.iconst 1, 1) := by decide +kernel
theorem dX2_giveBack_17 : decode cX2_giveBack 17 = .ok (.isub, 1) := by decide +kernel
theorem dX2_giveBack_18 : decode cX2_giveBack 18 = .ok (.iastore, 1) := by decide +kernel
theorem dX2_giveBack_19 : decode cX2_giveBack 19 = .ok (.aload_n 0, 1) := by decide +kernel
theorem dX2_giveBack_20 : decode cX2_giveBack 20 = .ok (.getfield 9, 3) := by decide +kernel
theorem dX2_giveBack_23 : decode cX2_giveBack 23 = .ok (.iload_n 1, 1) := by decide +kernel
theorem dX2_giveBack_24 : decode cX2_giveBack 24 = .ok (.iaload, 1) := by decide +kernel
theorem dX2_giveBack_25 : decode cX2_giveBack 25 = .ok (.ifCond .ne 45, 3) := by decide +kernel
theorem dX2_giveBack_28 : decode cX2_giveBack 28 = .ok (.aload_n 0, 1) := by decide +kernel
theorem dX2_giveBack_29 : decode cX2_giveBack 29 = .ok (.iload_n 1, 1) := by decide +kernel
theorem dX2_giveBack_30 : decode cX2_giveBack 30 = .ok (.invokevirtual 76, 3) := by decide +kernel
theorem dX2_giveBack_33 : decode cX2_giveBack 33 = .ok (.aload_n 0, 1) := by decide +kernel
theorem dX2_giveBack_34 : decode cX2_giveBack 34 = .ok (.aload_n 0, 1) := by decide +kernel
theorem dX2_giveBack_35 : decode cX2_giveBack 35 = .ok (.getfield 31, 3) := by decide +kernel
theorem dX2_giveBack_38 : decode cX2_giveBack 38 = .ok (.iload_n 1, 1) := by decide +kernel
theorem dX2_giveBack_39 : decode cX2_giveBack 39 = .ok (.invokestatic 79, 3) := by decide +kernel
theorem dX2_giveBack_42 : decode cX2_giveBack 42 = .ok (.putfield 31, 3) := by decide +kernel
theorem dX2_giveBack_45 : decode cX2_giveBack 45 = .ok (.aload_n 0, 1) := by decide +kernel
theorem dX2_giveBack_46 : decode cX2_giveBack 46 = .ok (.dup, 1) := by decide +kernel
theorem dX2_giveBack_47 : decode cX2_giveBack 47 = .ok (.getfield 35, 3) := by decide +kernel
theorem dX2_giveBack_50 : decode cX2_giveBack 50 = .ok (.iconst 1, 1) := by decide +kernel
theorem dX2_giveBack_51 : decode cX2_giveBack 51 = .ok (.isub, 1) := by decide +kernel
theorem dX2_giveBack_52 : decode cX2_giveBack 52 = .ok (.putfield 35, 3) := by decide +kernel
theorem dX2_giveBack_55 : decode cX2_giveBack 55 = .ok (.aload_n 0, 1) := by decide +kernel
theorem dX2_giveBack_56 : decode cX2_giveBack 56 = .ok (.dup, 1) := by decide +kernel
theorem dX2_giveBack_57 : decode cX2_giveBack 57 = .ok (.getfield 38, 3) := by decide +kernel
theorem dX2_giveBack_60 : decode cX2_giveBack 60 = .ok (.aload_n 0, 1) := by decide +kernel
theorem dX2_giveBack_61 : decode cX2_giveBack 61 = .ok (.getfield 15, 3) := by decide +kernel
theorem dX2_giveBack_64 : decode cX2_giveBack 64 = .ok (.iload_n 1, 1) := by decide +kernel
theorem dX2_giveBack_65 : decode cX2_giveBack 65 = .ok (.iaload, 1) := by decide +kernel
theorem dX2_giveBack_66 : decode cX2_giveBack 66 = .ok (.isub, 1) := by decide +kernel
theorem dX2_giveBack_67 : decode cX2_giveBack 67 = .ok (.putfield 38, 3) := by decide +kernel
theorem dX2_giveBack_70 : decode cX2_giveBack 70 = .ok (.return_, 1) := by decide +kernel
theorem dX2_hashOf_0 : decode cX2_hashOf 0 = .ok (.iconst 0, 1) := by decide +kernel
theorem dX2_hashOf_1 : decode cX2_hashOf 1 = .ok (.istore_n 3, 1) := by decide +kernel
theorem dX2_hashOf_2 : decode cX2_hashOf 2 = .ok (.iload_n 1, 1) := by decide +kernel
theorem dX2_hashOf_3 : decode cX2_hashOf 3 = .ok (.istore 4, 2) := by decide +kernel
theorem dX2_hashOf_5 : decode cX2_hashOf 5 = .ok (.iload 4, 2) := by decide +kernel
theorem dX2_hashOf_7 : decode cX2_hashOf 7 = .ok (.iload_n 2, 1) := by decide +kernel
theorem dX2_hashOf_8 : decode cX2_hashOf 8 = .ok (.if_icmp .ge 19, 3) := by decide +kernel
theorem dX2_hashOf_11 : decode cX2_hashOf 11 = .ok (.iload_n 3, 1) := by decide +kernel
theorem dX2_hashOf_12 : decode cX2_hashOf 12 = .ok (.bipush 31, 2) := by decide +kernel
theorem dX2_hashOf_14 : decode cX2_hashOf 14 = .ok (.imul, 1) := by decide +kernel
theorem dX2_hashOf_15 : decode cX2_hashOf 15 = .ok (.aload_n 0, 1) := by decide +kernel
theorem dX2_hashOf_16 : decode cX2_hashOf 16 = .ok (.iload 4, 2) := by decide +kernel
theorem dX2_hashOf_18 : decode cX2_hashOf 18 = .ok (.baload, 1) := by decide +kernel
theorem dX2_hashOf_19 : decode cX2_hashOf 19 = .ok (.iadd, 1) := by decide +kernel
theorem dX2_hashOf_20 : decode cX2_hashOf 20 = .ok (.istore_n 3, 1) := by decide +kernel
theorem dX2_hashOf_21 : decode cX2_hashOf 21 = .ok (.iinc 4 1, 3) := by decide +kernel
theorem dX2_hashOf_24 : decode cX2_hashOf 24 = .ok (.goto (-19), 3) := by decide +kernel
theorem dX2_hashOf_27 : decode cX2_hashOf 27 = .ok (.iload_n 3, 1) := by decide +kernel
theorem dX2_hashOf_28 : decode cX2_hashOf 28 = .ok (.iload_n 3, 1) := by decide +kernel
theorem dX2_hashOf_29 : decode cX2_hashOf 29 = .ok (.bipush 9, 2) := by decide +kernel
theorem dX2_hashOf_31 : decode cX2_hashOf 31 = .ok (.iushr, 1) := by decide +kernel
theorem dX2_hashOf_32 : decode cX2_hashOf 32 = .ok (.ixor, 1) := by decide +kernel
theorem dX2_hashOf_33 : decode cX2_hashOf 33 = .ok (.ireturn, 1) := by decide +kernel
theorem dX2_find_0 : decode cX2_find 0 = .ok (.aload_n 0, 1) := by decide +kernel
theorem dX2_find_1 : decode cX2_find 1 = .ok (.getfield 24, 3) := by decide +kernel
theorem dX2_find_4 : decode cX2_find 4 = .ok (.iload_n 1, 1) := by decide +kernel
theorem dX2_find_5 : decode cX2_find 5 = .ok (.sipush 511, 3) := by decide +kernel
theorem dX2_find_8 : decode cX2_find 8 = .ok (.iand, 1) := by decide +kernel
theorem dX2_find_9 : decode cX2_find 9 = .ok (.iaload, 1) := by decide +kernel
theorem dX2_find_10 : decode cX2_find 10 = .ok (.istore 5, 2) := by decide +kernel
theorem dX2_find_12 : decode cX2_find 12 = .ok (.iconst 0, 1) := by decide +kernel
theorem dX2_find_13 : decode cX2_find 13 = .ok (.istore 6, 2) := by decide +kernel
theorem dX2_find_15 : decode cX2_find 15 = .ok (.iload 6, 2) := by decide +kernel
theorem dX2_find_17 : decode cX2_find 17 = .ok (.sipush 400, 3) := by decide +kernel
theorem dX2_find_20 : decode cX2_find 20 = .ok (.if_icmp .ge 64, 3) := by decide +kernel
theorem dX2_find_23 : decode cX2_find 23 = .ok (.aload_n 0, 1) := by decide +kernel
theorem dX2_find_24 : decode cX2_find 24 = .ok (.iload 5, 2) := by decide +kernel
theorem dX2_find_26 : decode cX2_find 26 = .ok (.invokevirtual 47, 3) := by decide +kernel
theorem dX2_find_29 : decode cX2_find 29 = .ok (.ifCond .eq 55, 3) := by decide +kernel
theorem dX2_find_32 : decode cX2_find 32 = .ok (.aload_n 0, 1) := by decide +kernel
theorem dX2_find_33 : decode cX2_find 33 = .ok (.getfield 18, 3) := by decide +kernel
theorem dX2_find_36 : decode cX2_find 36 = .ok (.iload 5, 2) := by decide +kernel
theorem dX2_find_38 : decode cX2_find 38 = .ok (.iaload, 1) := by decide +kernel
theorem dX2_find_39 : decode cX2_find 39 = .ok (.iload_n 1, 1) := by decide +kernel
theorem dX2_find_40 : decode cX2_find 40 = .ok (.if_icmp .ne 29, 3) := by decide +kernel
theorem dX2_find_43 : decode cX2_find 43 = .ok (.aload_n 0, 1) := by decide +kernel
theorem dX2_find_44 : decode cX2_find 44 = .ok (.getfield 15, 3) := by decide +kernel
theorem dX2_find_47 : decode cX2_find 47 = .ok (.iload 5, 2) := by decide +kernel
theorem dX2_find_49 : decode cX2_find 49 = .ok (.iaload, 1) := by decide +kernel
theorem dX2_find_50 : decode cX2_find 50 = .ok (.iload 4, 2) := by decide +kernel
theorem dX2_find_52 : decode cX2_find 52 = .ok (.if_icmp .ne 17, 3) := by decide +kernel
theorem dX2_find_55 : decode cX2_find 55 = .ok (.aload_n 0, 1) := by decide +kernel
theorem dX2_find_56 : decode cX2_find 56 = .ok (.iload 5, 2) := by decide +kernel
theorem dX2_find_58 : decode cX2_find 58 = .ok (.aload_n 2, 1) := by decide +kernel
theorem dX2_find_59 : decode cX2_find 59 = .ok (.iload_n 3, 1) := by decide +kernel
theorem dX2_find_60 : decode cX2_find 60 = .ok (.invokevirtual 85, 3) := by decide +kernel
theorem dX2_find_63 : decode cX2_find 63 = .ok (.ifCond .eq 6, 3) := by decide +kernel
theorem dX2_find_66 : decode cX2_find 66 = .ok (.iload 5, 2) := by decide +kernel
theorem dX2_find_68 : decode cX2_find 68 = .ok (.ireturn, 1) := by decide +kernel
theorem dX2_find_69 : decode cX2_find 69 = .ok (.aload_n 0, 1) := by decide +kernel
theorem dX2_find_70 : decode cX2_find 70 = .ok (.getfield 21, 3) := by decide +kernel
theorem dX2_find_73 : decode cX2_find 73 = .ok (.iload 5, 2) := by decide +kernel
theorem dX2_find_75 : decode cX2_find 75 = .ok (.iaload, 1) := by decide +kernel
theorem dX2_find_76 : decode cX2_find 76 = .ok (.istore 5, 2) := by decide +kernel
theorem dX2_find_78 : decode cX2_find 78 = .ok (.iinc 6 1, 3) := by decide +kernel
theorem dX2_find_81 : decode cX2_find 81 = .ok (.goto (-66), 3) := by decide +kernel
theorem dX2_find_84 : decode cX2_find 84 = .ok (.iconst (-1), 1) := by decide +kernel
theorem dX2_find_85 : decode cX2_find 85 = .ok (.ireturn, 1) := by decide +kernel
theorem dX2_sameBytes_0 : decode cX2_sameBytes 0 = .ok (.iload_n 1, 1) := by decide +kernel
theorem dX2_sameBytes_1 : decode cX2_sameBytes 1 = .ok (.bipush 64, 2) := by decide +kernel
theorem dX2_sameBytes_3 : decode cX2_sameBytes 3 = .ok (.imul, 1) := by decide +kernel
theorem dX2_sameBytes_4 : decode cX2_sameBytes 4 = .ok (.istore 4, 2) := by decide +kernel
theorem dX2_sameBytes_6 : decode cX2_sameBytes 6 = .ok (.iconst 0, 1) := by decide +kernel
theorem dX2_sameBytes_7 : decode cX2_sameBytes 7 = .ok (.istore 5, 2) := by decide +kernel
theorem dX2_sameBytes_9 : decode cX2_sameBytes 9 = .ok (.iload 5, 2) := by decide +kernel
theorem dX2_sameBytes_11 : decode cX2_sameBytes 11 = .ok (.aload_n 0, 1) := by decide +kernel
theorem dX2_sameBytes_12 : decode cX2_sameBytes 12 = .ok (.getfield 15, 3) := by decide +kernel
theorem dX2_sameBytes_15 : decode cX2_sameBytes 15 = .ok (.iload_n 1, 1) := by decide +kernel
theorem dX2_sameBytes_16 : decode cX2_sameBytes 16 = .ok (.iaload, 1) := by decide +kernel
theorem dX2_sameBytes_17 : decode cX2_sameBytes 17 = .ok (.if_icmp .ge 30, 3) := by decide +kernel
theorem dX2_sameBytes_20 : decode cX2_sameBytes 20 = .ok (.aload_n 0, 1) := by decide +kernel
theorem dX2_sameBytes_21 : decode cX2_sameBytes 21 = .ok (.getfield 27, 3) := by decide +kernel
theorem dX2_sameBytes_24 : decode cX2_sameBytes 24 = .ok (.iload 4, 2) := by decide +kernel
theorem dX2_sameBytes_26 : decode cX2_sameBytes 26 = .ok (.iload 5, 2) := by decide +kernel
theorem dX2_sameBytes_28 : decode cX2_sameBytes 28 = .ok (.iadd, 1) := by decide +kernel
theorem dX2_sameBytes_29 : decode cX2_sameBytes 29 = .ok (.baload, 1) := by decide +kernel
theorem dX2_sameBytes_30 : decode cX2_sameBytes 30 = .ok (.aload_n 2, 1) := by decide +kernel
theorem dX2_sameBytes_31 : decode cX2_sameBytes 31 = .ok (.iload_n 3, 1) := by decide +kernel
theorem dX2_sameBytes_32 : decode cX2_sameBytes 32 = .ok (.iload 5, 2) := by decide +kernel
theorem dX2_sameBytes_34 : decode cX2_sameBytes 34 = .ok (.iadd, 1) := by decide +kernel
theorem dX2_sameBytes_35 : decode cX2_sameBytes 35 = .ok (.baload, 1) := by decide +kernel
theorem dX2_sameBytes_36 : decode cX2_sameBytes 36 = .ok (.if_icmp .eq 5, 3) := by decide +kernel
theorem dX2_sameBytes_39 : decode cX2_sameBytes 39 = .ok (.iconst 0, 1) := by decide +kernel
theorem dX2_sameBytes_40 : decode cX2_sameBytes 40 = .ok (.ireturn, 1) := by decide +kernel
theorem dX2_sameBytes_41 : decode cX2_sameBytes 41 = .ok (.iinc 5 1, 3) := by decide +kernel
theorem dX2_sameBytes_44 : decode cX2_sameBytes 44 = .ok (.goto (-35), 3) := by decide +kernel
theorem dX2_sameBytes_47 : decode cX2_sameBytes 47 = .ok (.iconst 1, 1) := by decide +kernel
theorem dX2_sameBytes_48 : decode cX2_sameBytes 48 = .ok (.ireturn, 1) := by decide +kernel
theorem dX2_add_0 : decode cX2_add 0 = .ok (.aload_n 0, 1) := by decide +kernel
theorem dX2_add_1 : decode cX2_add 1 = .ok (.invokevirtual 89, 3) := by decide +kernel
theorem dX2_add_4 : decode cX2_add 4 = .ok (.istore 5, 2) := by decide +kernel
theorem dX2_add_6 : decode cX2_add 6 = .ok (.iload 5, 2) := by decide +kernel
theorem dX2_add_8 : decode cX2_add 8 = .ok (.iconst (-1), 1) := by decide +kernel
theorem dX2_add_9 : decode cX2_add 9 = .ok (.if_icmp .ne 5, 3) := by decide +kernel
theorem dX2_add_12 : decode cX2_add 12 = .ok (.iconst (-1), 1) := by decide +kernel
theorem dX2_add_13 : decode cX2_add 13 = .ok (.ireturn, 1) := by decide +kernel
theorem dX2_add_14 : decode cX2_add 14 = .ok (.aload_n 0, 1) := by decide +kernel
theorem dX2_add_15 : decode cX2_add 15 = .ok (.iload 5, 2) := by decide +kernel
theorem dX2_add_17 : decode cX2_add 17 = .ok (.invokevirtual 93, 3) := by decide +kernel
theorem dX2_add_20 : decode cX2_add 20 = .ok (.aload_n 2, 1) := by decide +kernel
theorem dX2_add_21 : decode cX2_add 21 = .ok (.iload_n 3, 1) := by decide +kernel
theorem dX2_add_22 : decode cX2_add 22 = .ok (.aload_n 0, 1) := by decide +kernel
theorem dX2_add_23 : decode cX2_add 23 = .ok (.getfield 27, 3) := by decide +kernel
theorem dX2_add_26 : decode cX2_add 26 = .ok (.iload 5, 2) := by decide +kernel
theorem dX2_add_28 : decode cX2_add 28 = .ok (.bipush 64, 2) := by decide +kernel
theorem dX2_add_30 : decode cX2_add 30 = .ok (.imul, 1) := by decide +kernel
theorem dX2_add_31 : decode cX2_add 31 = .ok (.iload 4, 2) := by decide +kernel
theorem dX2_add_33 : decode cX2_add 33 = .ok (.invokestatic 55, 3) := by decide +kernel
theorem dX2_add_36 : decode cX2_add 36 = .ok (.aload_n 0, 1) := by decide +kernel
theorem dX2_add_37 : decode cX2_add 37 = .ok (.getfield 9, 3) := by decide +kernel
theorem dX2_add_40 : decode cX2_add 40 = .ok (.iload 5, 2) := by decide +kernel
theorem dX2_add_42 : decode cX2_add 42 = .ok (.iconst 1, 1) := by decide +kernel
theorem dX2_add_43 : decode cX2_add 43 = .ok (.iastore, 1) := by decide +kernel
theorem dX2_add_44 : decode cX2_add 44 = .ok (.aload_n 0, 1) := by decide +kernel
theorem dX2_add_45 : decode cX2_add 45 = .ok (.getfield 15, 3) := by decide +kernel
theorem dX2_add_48 : decode cX2_add 48 = .ok (.iload 5, 2) := by decide +kernel
theorem dX2_add_50 : decode cX2_add 50 = .ok (.iload 4, 2) := by decide +kernel
theorem dX2_add_52 : decode cX2_add 52 = .ok (.iastore, 1) := by decide +kernel
theorem dX2_add_53 : decode cX2_add 53 = .ok (.aload_n 0, 1) := by decide +kernel
theorem dX2_add_54 : decode cX2_add 54 = .ok (.getfield 18, 3) := by decide +kernel
theorem dX2_add_57 : decode cX2_add 57 = .ok (.iload 5, 2) := by decide +kernel
theorem dX2_add_59 : decode cX2_add 59 = .ok (.iload_n 1, 1) := by decide +kernel
theorem dX2_add_60 : decode cX2_add 60 = .ok (.iastore, 1) := by decide +kernel
theorem dX2_add_61 : decode cX2_add 61 = .ok (.aload_n 0, 1) := by decide +kernel
theorem dX2_add_62 : decode cX2_add 62 = .ok (.getfield 21, 3) := by decide +kernel
theorem dX2_add_65 : decode cX2_add 65 = .ok (.iload 5, 2) := by decide +kernel
theorem dX2_add_67 : decode cX2_add 67 = .ok (.aload_n 0, 1) := by decide +kernel
theorem dX2_add_68 : decode cX2_add 68 = .ok (.getfield 24, 3) := by decide +kernel
theorem dX2_add_71 : decode cX2_add 71 = .ok (.iload_n 1, 1) := by decide +kernel
theorem dX2_add_72 : decode cX2_add 72 = .ok (.sipush 511, 3) := by decide +kernel
theorem dX2_add_75 : decode cX2_add 75 = .ok (.iand, 1) := by decide +kernel
theorem dX2_add_76 : decode cX2_add 76 = .ok (.iaload, 1) := by decide +kernel
theorem dX2_add_77 : decode cX2_add 77 = .ok (.iastore, 1) := by decide +kernel
theorem dX2_add_78 : decode cX2_add 78 = .ok (.aload_n 0, 1) := by decide +kernel
theorem dX2_add_79 : decode cX2_add 79 = .ok (.getfield 24, 3) := by decide +kernel
theorem dX2_add_82 : decode cX2_add 82 = .ok (.iload_n 1, 1) := by decide +kernel
theorem dX2_add_83 : decode cX2_add 83 = .ok (.sipush 511, 3) := by decide +kernel
theorem dX2_add_86 : decode cX2_add 86 = .ok (.iand, 1) := by decide +kernel
theorem dX2_add_87 : decode cX2_add 87 = .ok (.iload 5, 2) := by decide +kernel
theorem dX2_add_89 : decode cX2_add 89 = .ok (.iastore, 1) := by decide +kernel
theorem dX2_add_90 : decode cX2_add 90 = .ok (.aload_n 0, 1) := by decide +kernel
theorem dX2_add_91 : decode cX2_add 91 = .ok (.dup, 1) := by decide +kernel
theorem dX2_add_92 : decode cX2_add 92 = .ok (.getfield 35, 3) := by decide +kernel
theorem dX2_add_95 : decode cX2_add 95 = .ok (.iconst 1, 1) := by decide +kernel
theorem dX2_add_96 : decode cX2_add 96 = .ok (.iadd, 1) := by decide +kernel
theorem dX2_add_97 : decode cX2_add 97 = .ok (.putfield 35, 3) := by decide +kernel
theorem dX2_add_100 : decode cX2_add 100 = .ok (.aload_n 0, 1) := by decide +kernel
theorem dX2_add_101 : decode cX2_add 101 = .ok (.dup, 1) := by decide +kernel
theorem dX2_add_102 : decode cX2_add 102 = .ok (.getfield 38, 3) := by decide +kernel
theorem dX2_add_105 : decode cX2_add 105 = .ok (.iload 4, 2) := by decide +kernel
theorem dX2_add_107 : decode cX2_add 107 = .ok (.iadd, 1) := by decide +kernel
theorem dX2_add_108 : decode cX2_add 108 = .ok (.putfield 38, 3) := by decide +kernel
theorem dX2_add_111 : decode cX2_add 111 = .ok (.iload 5, 2) := by decide +kernel
theorem dX2_add_113 : decode cX2_add 113 = .ok (.ireturn, 1) := by decide +kernel
theorem dX2_leastFree_0 : decode cX2_leastFree 0 = .ok (.aload_n 0, 1) := by decide +kernel
theorem dX2_leastFree_1 : decode cX2_leastFree 1 = .ok (.getfield 31, 3) := by decide +kernel
theorem dX2_leastFree_4 : decode cX2_leastFree 4 = .ok (.sipush 400, 3) := by decide +kernel
theorem dX2_leastFree_7 : decode cX2_leastFree 7 = .ok (.if_icmp .ge 28, 3) := by decide +kernel
theorem dX2_leastFree_10 : decode cX2_leastFree 10 = .ok (.aload_n 0, 1) := by decide +kernel
theorem dX2_leastFree_11 : decode cX2_leastFree 11 = .ok (.getfield 9, 3) := by decide +kernel
theorem dX2_leastFree_14 : decode cX2_leastFree 14 = .ok (.aload_n 0, 1) := by decide +kernel
theorem dX2_leastFree_15 : decode cX2_leastFree 15 = .ok (.getfield 31, 3) := by decide +kernel
theorem dX2_leastFree_18 : decode cX2_leastFree 18 = .ok (.iaload, 1) := by decide +kernel
theorem dX2_leastFree_19 : decode cX2_leastFree 19 = .ok (.ifCond .le 16, 3) := by decide +kernel
theorem dX2_leastFree_22 : decode cX2_leastFree 22 = .ok (.aload_n 0, 1) := by decide +kernel
theorem dX2_leastFree_23 : decode cX2_leastFree 23 = .ok (.dup, 1) := by decide +kernel
theorem dX2_leastFree_24 : decode cX2_leastFree 24 = .ok (.getfield 31, 3) := by decide +kernel
theorem dX2_leastFree_27 : decode cX2_leastFree 27 = .ok (.iconst 1, 1) := by decide +kernel
theorem dX2_leastFree_28 : decode cX2_leastFree 28 = .ok (.iadd, 1) := by decide +kernel
theorem dX2_leastFree_29 : decode cX2_leastFree 29 = .ok (.putfield 31, 3) := by decide +kernel
theorem dX2_leastFree_32 : decode cX2_leastFree 32 = .ok (.goto (-32), 3) := by decide +kernel
theorem dX2_leastFree_35 : decode cX2_leastFree 35 = .ok (.aload_n 0, 1) := by decide +kernel
theorem dX2_leastFree_36 : decode cX2_leastFree 36 = .ok (.getfield 31, 3) := by decide +kernel
theorem dX2_leastFree_39 : decode cX2_leastFree 39 = .ok (.sipush 400, 3) := by decide +kernel
theorem dX2_leastFree_42 : decode cX2_leastFree 42 = .ok (.if_icmp .ge 10, 3) := by decide +kernel
theorem dX2_leastFree_45 : decode cX2_leastFree 45 = .ok (.aload_n 0, 1) := by decide +kernel
theorem dX2_leastFree_46 : decode cX2_leastFree 46 = .ok (.getfield 31, 3) := by decide +kernel
theorem dX2_leastFree_49 : decode cX2_leastFree 49 = .ok (.goto 4, 3) := by decide +kernel
theorem dX2_leastFree_52 : decode cX2_leastFree 52 = .ok (.iconst (-1), 1) := by decide +kernel
theorem dX2_leastFree_53 : decode cX2_leastFree 53 = .ok (.ireturn, 1) := by decide +kernel
theorem dX2_makeRoomFor_0 : decode cX2_makeRoomFor 0 = .ok (.iload_n 1, 1) := by decide +kernel
theorem dX2_makeRoomFor_1 : decode cX2_makeRoomFor 1 = .ok (.iconst 1, 1) := by decide +kernel
theorem dX2_makeRoomFor_2 : decode cX2_makeRoomFor 2 = .ok (.iadd, 1) := by decide +kernel
theorem dX2_makeRoomFor_3 : decode cX2_makeRoomFor 3 = .ok (.bipush 64, 2) := by decide +kernel
theorem dX2_makeRoomFor_5 : decode cX2_makeRoomFor 5 = .ok (.imul, 1) := by decide +kernel
theorem dX2_makeRoomFor_6 : decode cX2_makeRoomFor 6 = .ok (.istore_n 2, 1) := by decide +kernel
theorem dX2_makeRoomFor_7 : decode cX2_makeRoomFor 7 = .ok (.iload_n 2, 1) := by decide +kernel
theorem dX2_makeRoomFor_8 : decode cX2_makeRoomFor 8 = .ok (.aload_n 0, 1) := by decide +kernel
theorem dX2_makeRoomFor_9 : decode cX2_makeRoomFor 9 = .ok (.getfield 27, 3) := by decide +kernel
theorem dX2_makeRoomFor_12 : decode cX2_makeRoomFor 12 = .ok (.arraylength, 1) := by decide +kernel
theorem dX2_makeRoomFor_13 : decode cX2_makeRoomFor 13 = .ok (.if_icmp .le 31, 3) := by decide +kernel
theorem dX2_makeRoomFor_16 : decode cX2_makeRoomFor 16 = .ok (.aload_n 0, 1) := by decide +kernel
theorem dX2_makeRoomFor_17 : decode cX2_makeRoomFor 17 = .ok (.aload_n 0, 1) := by decide +kernel
theorem dX2_makeRoomFor_18 : decode cX2_makeRoomFor 18 = .ok (.getfield 27, 3) := by decide +kernel
theorem dX2_makeRoomFor_21 : decode cX2_makeRoomFor 21 = .ok (.sipush 25600, 3) := by decide +kernel
theorem dX2_makeRoomFor_24 : decode cX2_makeRoomFor 24 = .ok (.iload_n 2, 1) := by decide +kernel
theorem dX2_makeRoomFor_25 : decode cX2_makeRoomFor 25 = .ok (.iconst 2, 1) := by decide +kernel
theorem dX2_makeRoomFor_26 : decode cX2_makeRoomFor 26 = .ok (.aload_n 0, 1) := by decide +kernel
theorem dX2_makeRoomFor_27 : decode cX2_makeRoomFor 27 = .ok (.getfield 27, 3) := by decide +kernel
theorem dX2_makeRoomFor_30 : decode cX2_makeRoomFor 30 = .ok (.arraylength, 1) := by decide +kernel
theorem dX2_makeRoomFor_31 : decode cX2_makeRoomFor 31 = .ok (.imul, 1) := by decide +kernel
theorem dX2_makeRoomFor_32 : decode cX2_makeRoomFor 32 = .ok (.invokestatic 96, 3) := by decide +kernel
theorem dX2_makeRoomFor_35 : decode cX2_makeRoomFor 35 = .ok (.invokestatic 79, 3) := by decide +kernel
theorem dX2_makeRoomFor_38 : decode cX2_makeRoomFor 38 = .ok (.invokestatic 99, 3) := by decide +kernel
theorem dX2_makeRoomFor_41 : decode cX2_makeRoomFor 41 = .ok (.putfield 27, 3) := by decide +kernel
theorem dX2_makeRoomFor_44 : decode cX2_makeRoomFor 44 = .ok (.return_, 1) := by decide +kernel
theorem dX2_unchain_0 : decode cX2_unchain 0 = .ok (.aload_n 0, 1) := by decide +kernel
theorem dX2_unchain_1 : decode cX2_unchain 1 = .ok (.getfield 18, 3) := by decide +kernel
theorem dX2_unchain_4 : decode cX2_unchain 4 = .ok (.iload_n 1, 1) := by decide +kernel
theorem dX2_unchain_5 : decode cX2_unchain 5 = .ok (.iaload, 1) := by decide +kernel
theorem dX2_unchain_6 : decode cX2_unchain 6 = .ok (.sipush 511, 3) := by decide +kernel
theorem dX2_unchain_9 : decode cX2_unchain 9 = .ok (.iand, 1) := by decide +kernel
theorem dX2_unchain_10 : decode cX2_unchain 10 = .ok (.istore_n 2, 1) := by decide +kernel
theorem dX2_unchain_11 : decode cX2_unchain 11 = .ok (.aload_n 0, 1) := by decide +kernel
theorem dX2_unchain_12 : decode cX2_unchain 12 = .ok (.getfield 24, 3) := by decide +kernel
theorem dX2_unchain_15 : decode cX2_unchain 15 = .ok (.iload_n 2, 1) := by decide +kernel
theorem dX2_unchain_16 : decode cX2_unchain 16 = .ok (.iaload, 1) := by decide +kernel
theorem dX2_unchain_17 : decode cX2_unchain 17 = .ok (.iload_n 1, 1) := by decide +kernel
theorem dX2_unchain_18 : decode cX2_unchain 18 = .ok (.if_icmp .ne 16, 3) := by decide +kernel
theorem dX2_unchain_21 : decode cX2_unchain 21 = .ok (.aload_n 0, 1) := by decide +kernel
theorem dX2_unchain_22 : decode cX2_unchain 22 = .ok (.getfield 24, 3) := by decide +kernel
theorem dX2_unchain_25 : decode cX2_unchain 25 = .ok (.iload_n 2, 1) := by decide +kernel
theorem dX2_unchain_26 : decode cX2_unchain 26 = .ok (.aload_n 0, 1) := by decide +kernel
theorem dX2_unchain_27 : decode cX2_unchain 27 = .ok (.getfield 21, 3) := by decide +kernel
theorem dX2_unchain_30 : decode cX2_unchain 30 = .ok (.iload_n 1, 1) := by decide +kernel
theorem dX2_unchain_31 : decode cX2_unchain 31 = .ok (.iaload, 1) := by decide +kernel
theorem dX2_unchain_32 : decode cX2_unchain 32 = .ok (.iastore, 1) := by decide +kernel
theorem dX2_unchain_33 : decode cX2_unchain 33 = .ok (.return_, 1) := by decide +kernel
theorem dX2_unchain_34 : decode cX2_unchain 34 = .ok (.aload_n 0, 1) := by decide +kernel
theorem dX2_unchain_35 : decode cX2_unchain 35 = .ok (.getfield 24, 3) := by decide +kernel
theorem dX2_unchain_38 : decode cX2_unchain 38 = .ok (.iload_n 2, 1) := by decide +kernel
theorem dX2_unchain_39 : decode cX2_unchain 39 = .ok (.iaload, 1) := by decide +kernel
theorem dX2_unchain_40 : decode cX2_unchain 40 = .ok (.istore_n 3, 1) := by decide +kernel
theorem dX2_unchain_41 : decode cX2_unchain 41 = .ok (.iconst 0, 1) := by decide +kernel
theorem dX2_unchain_42 : decode cX2_unchain 42 = .ok (.istore 4, 2) := by decide +kernel
theorem dX2_unchain_44 : decode cX2_unchain 44 = .ok (.iload 4, 2) := by decide +kernel
theorem dX2_unchain_46 : decode cX2_unchain 46 = .ok (.sipush 400, 3) := by decide +kernel
theorem dX2_unchain_49 : decode cX2_unchain 49 = .ok (.if_icmp .ge 47, 3) := by decide +kernel
theorem dX2_unchain_52 : decode cX2_unchain 52 = .ok (.aload_n 0, 1) := by decide +kernel
theorem dX2_unchain_53 : decode cX2_unchain 53 = .ok (.iload_n 3, 1) := by decide +kernel
theorem dX2_unchain_54 : decode cX2_unchain 54 = .ok (.invokevirtual 47, 3) := by decide +kernel
theorem dX2_unchain_57 : decode cX2_unchain 57 = .ok (.ifCond .eq 39, 3) := by decide +kernel
theorem dX2_unchain_60 : decode cX2_unchain 60 = .ok (.aload_n 0, 1) := by decide +kernel
theorem dX2_unchain_61 : decode cX2_unchain 61 = .ok (.getfield 21, 3) := by decide +kernel
theorem dX2_unchain_64 : decode cX2_unchain 64 = .ok (.iload_n 3, 1) := by decide +kernel
theorem dX2_unchain_65 : decode cX2_unchain 65 = .ok (.iaload, 1) := by decide +kernel
theorem dX2_unchain_66 : decode cX2_unchain 66 = .ok (.iload_n 1, 1) := by decide +kernel
theorem dX2_unchain_67 : decode cX2_unchain 67 = .ok (.if_icmp .ne 16, 3) := by decide +kernel
theorem dX2_unchain_70 : decode cX2_unchain 70 = .ok (.aload_n 0, 1) := by decide +kernel
theorem dX2_unchain_71 : decode cX2_unchain 71 = .ok (.getfield 21, 3) := by decide +kernel
theorem dX2_unchain_74 : decode cX2_unchain 74 = .ok (.iload_n 3, 1) := by decide +kernel
theorem dX2_unchain_75 : decode cX2_unchain 75 = .ok (.aload_n 0, 1) := by decide +kernel
theorem dX2_unchain_76 : decode cX2_unchain 76 = .ok (.getfield 21, 3) := by decide +kernel
theorem dX2_unchain_79 : decode cX2_unchain 79 = .ok (.iload_n 1, 1) := by decide +kernel
theorem dX2_unchain_80 : decode cX2_unchain 80 = .ok (.iaload, 1) := by decide +kernel
theorem dX2_unchain_81 : decode cX2_unchain 81 = .ok (.iastore, 1) := by decide +kernel
theorem dX2_unchain_82 : decode cX2_unchain 82 = .ok (.return_, 1) := by decide +kernel
theorem dX2_unchain_83 : decode cX2_unchain 83 = .ok (.aload_n 0, 1) := by decide +kernel
theorem dX2_unchain_84 : decode cX2_unchain 84 = .ok (.getfield 21, 3) := by decide +kernel
theorem dX2_unchain_87 : decode cX2_unchain 87 = .ok (.iload_n 3, 1) := by decide +kernel
theorem dX2_unchain_88 : decode cX2_unchain 88 = .ok (.iaload, 1) := by decide +kernel
theorem dX2_unchain_89 : decode cX2_unchain 89 = .ok (.istore_n 3, 1) := by decide +kernel
theorem dX2_unchain_90 : decode cX2_unchain 90 = .ok (.iinc 4 1, 3) := by decide +kernel
theorem dX2_unchain_93 : decode cX2_unchain 93 = .ok (.goto (-49), 3) := by decide +kernel
theorem dX2_unchain_96 : decode cX2_unchain 96 = .ok (.return_, 1) := by decide +kernel
theorem dX3_init_0 : decode cX3_init 0 = .ok (.aload_n 0, 1) := by decide +kernel
theorem dX3_init_1 : decode cX3_init 1 = .ok (.invokespecial 1, 3) := by decide +kernel
theorem dX3_init_4 : decode cX3_init 4 = .ok (.aload_n 0, 1) := by decide +kernel
theorem dX3_init_5 : decode cX3_init 5 = .ok (.new 7, 3) := by decide +kernel
theorem dX3_init_8 : decode cX3_init 8 = .ok (.dup, 1) := by decide +kernel
theorem dX3_init_9 : decode cX3_init 9 = .ok (.invokespecial 9, 3) := by decide +kernel
theorem dX3_init_12 : decode cX3_init 12 = .ok (.putfield 10, 3) := by decide +kernel
theorem dX3_init_15 : decode cX3_init 15 = .ok (.aload_n 0, 1) := by decide +kernel
theorem dX3_init_16 : decode cX3_init 16 = .ok (.new 16, 3) := by decide +kernel
theorem dX3_init_19 : decode cX3_init 19 = .ok (.dup, 1) := by decide +kernel
theorem dX3_init_20 : decode cX3_init 20 = .ok (.invokespecial 18, 3) := by decide +kernel
theorem dX3_init_23 : decode cX3_init 23 = .ok (.putfield 19, 3) := by decide +kernel
theorem dX3_init_26 : decode cX3_init 26 = .ok (.aload_n 0, 1) := by decide +kernel
theorem dX3_init_27 : decode cX3_init 27 = .ok (.bipush 16, 2) := by decide +kernel
theorem dX3_init_29 : decode cX3_init 29 = .ok (.anewarray 23, 3) := by decide +kernel
theorem dX3_init_32 : decode cX3_init 32 = .ok (.putfield 25, 3) := by decide +kernel
theorem dX3_init_35 : decode cX3_init 35 = .ok (.aload_n 0, 1) := by decide +kernel
theorem dX3_init_36 : decode cX3_init 36 = .ok (.sipush 1500, 3) := by decide +kernel
theorem dX3_init_39 : decode cX3_init 39 = .ok (.newarray .byte, 2) := by decide +kernel
theorem dX3_init_41 : decode cX3_init 41 = .ok (.putfield 29, 3) := by decide +kernel
theorem dX3_init_44 : decode cX3_init 44 = .ok (.aload_n 0, 1) := by decide +kernel
theorem dX3_init_45 : decode cX3_init 45 = .ok (.iconst 0, 1) := by decide +kernel
theorem dX3_init_46 : decode cX3_init 46 = .ok (.putfield 33, 3) := by decide +kernel
theorem dX3_init_49 : decode cX3_init 49 = .ok (.aload_n 0, 1) := by decide +kernel
theorem dX3_init_50 : decode cX3_init 50 = .ok (.sipush 1500, 3) := by decide +kernel
theorem dX3_init_53 : decode cX3_init 53 = .ok (.newarray .byte, 2) := by decide +kernel
theorem dX3_init_55 : decode cX3_init 55 = .ok (.putfield 37, 3) := by decide +kernel
theorem dX3_init_58 : decode cX3_init 58 = .ok (.aload_n 0, 1) := by decide +kernel
theorem dX3_init_59 : decode cX3_init 59 = .ok (.sipush 1500, 3) := by decide +kernel
theorem dX3_init_62 : decode cX3_init 62 = .ok (.newarray .int, 2) := by decide +kernel
theorem dX3_init_64 : decode cX3_init 64 = .ok (.putfield 40, 3) := by decide +kernel
theorem dX3_init_67 : decode cX3_init 67 = .ok (.aload_n 0, 1) := by decide +kernel
theorem dX3_init_68 : decode cX3_init 68 = .ok (.sipush 400, 3) := by decide +kernel
theorem dX3_init_71 : decode cX3_init 71 = .ok (.newarray .int, 2) := by decide +kernel
theorem dX3_init_73 : decode cX3_init 73 = .ok (.putfield 44, 3) := by decide +kernel
theorem dX3_init_76 : decode cX3_init 76 = .ok (.iconst 0, 1) := by decide +kernel
theorem dX3_init_77 : decode cX3_init 77 = .ok (.istore_n 1, 1) := by decide +kernel
theorem dX3_init_78 : decode cX3_init 78 = .ok (.iload_n 1, 1) := by decide +kernel
theorem dX3_init_79 : decode cX3_init 79 = .ok (.bipush 16, 2) := by decide +kernel
theorem dX3_init_81 : decode cX3_init 81 = .ok (.if_icmp .ge 22, 3) := by decide +kernel
theorem dX3_init_84 : decode cX3_init 84 = .ok (.aload_n 0, 1) := by decide +kernel
theorem dX3_init_85 : decode cX3_init 85 = .ok (.getfield 25, 3) := by decide +kernel
theorem dX3_init_88 : decode cX3_init 88 = .ok (.iload_n 1, 1) := by decide +kernel
theorem dX3_init_89 : decode cX3_init 89 = .ok (.new 23, 3) := by decide +kernel
theorem dX3_init_92 : decode cX3_init 92 = .ok (.dup, 1) := by decide +kernel
theorem dX3_init_93 : decode cX3_init 93 = .ok (.invokespecial 47, 3) := by decide +kernel
theorem dX3_init_96 : decode cX3_init 96 = .ok (.aastore, 1) := by decide +kernel
theorem dX3_init_97 : decode cX3_init 97 = .ok (.iinc 1 1, 3) := by decide +kernel
theorem dX3_init_100 : decode cX3_init 100 = .ok (.goto (-22), 3) := by decide +kernel
theorem dX3_init_103 : decode cX3_init 103 = .ok (.return_, 1) := by decide +kernel
theorem dX3_begin_0 : decode cX3_begin 0 = .ok (.iload_n 1, 1) := by decide +kernel
theorem dX3_begin_1 : decode cX3_begin 1 = .ok (.iconst 1, 1) := by decide +kernel
theorem dX3_begin_2 : decode cX3_begin 2 = .ok (.if_icmp .lt 9, 3) := by decide +kernel
theorem dX3_begin_5 : decode cX3_begin 5 = .ok (.iload_n 1, 1) := by decide +kernel
theorem dX3_begin_6 : decode cX3_begin 6 = .ok (.bipush 8, 2) := by decide +kernel
theorem dX3_begin_8 : decode cX3_begin 8 = .ok (.if_icmp .le 13, 3) := by decide +kernel
theorem dX3_begin_11 : decode cX3_begin 11 = .ok (.new 48, 3) := by decide +kernel
theorem dX3_begin_14 : decode cX3_begin 14 = .ok (.dup, 1) := by decide +kernel
theorem dX3_begin_15 : decode cX3_begin 15 = .ok (.ldc 50, 2) := by decide +kernel
theorem dX3_begin_17 : decode cX3_begin 17 = .ok (.invokespecial 52, 3) := by decide +kernel
theorem dX3_begin_20 : decode cX3_begin 20 = .ok (.athrow, 1) := by decide +kernel
theorem dX3_begin_21 : decode cX3_begin 21 = .ok (.iload_n 2, 1) := by decide +kernel
theorem dX3_begin_22 : decode cX3_begin 22 = .ok (.iconst 1, 1) := by decide +kernel
theorem dX3_begin_23 : decode cX3_begin 23 = .ok (.if_icmp .lt 9, 3) := by decide +kernel
theorem dX3_begin_26 : decode cX3_begin 26 = .ok (.iload_n 2, 1) := by decide +kernel
theorem dX3_begin_27 : decode cX3_begin 27 = .ok (.bipush 32, 2) := by decide +kernel
theorem dX3_begin_29 : decode cX3_begin 29 = .ok (.if_icmp .le 13, 3) := by decide +kernel
theorem dX3_begin_32 : decode cX3_begin 32 = .ok (.new 48, 3) := by decide +kernel
theorem dX3_begin_35 : decode cX3_begin 35 = .ok (.dup, 1) := by decide +kernel
theorem dX3_begin_36 : decode cX3_begin 36 = .ok (.ldc 55, 2) := by decide +kernel
theorem dX3_begin_38 : decode cX3_begin 38 = .ok (.invokespecial 52, 3) := by decide +kernel
theorem dX3_begin_41 : decode cX3_begin 41 = .ok (.athrow, 1) := by decide +kernel
theorem dX3_begin_42 : decode cX3_begin 42 = .ok (.iload_n 3, 1) := by decide +kernel
theorem dX3_begin_43 : decode cX3_begin 43 = .ok (.iload_n 2, 1) := by decide +kernel
theorem dX3_begin_44 : decode cX3_begin 44 = .ok (.if_icmp .lt 9, 3) := by decide +kernel
theorem dX3_begin_47 : decode cX3_begin 47 = .ok (.iload_n 3, 1) := by decide +kernel
theorem dX3_begin_48 : decode cX3_begin 48 = .ok (.bipush 64, 2) := by decide +kernel
theorem dX3_begin_50 : decode cX3_begin 50 = .ok (.if_icmp .le 13, 3) := by decide +kernel
theorem dX3_begin_53 : decode cX3_begin 53 = .ok (.new 48, 3) := by decide +kernel
theorem dX3_begin_56 : decode cX3_begin 56 = .ok (.dup, 1) := by decide +kernel
theorem dX3_begin_57 : decode cX3_begin 57 = .ok (.ldc 57, 2) := by decide +kernel
theorem dX3_begin_59 : decode cX3_begin 59 = .ok (.invokespecial 52, 3) := by decide +kernel
theorem dX3_begin_62 : decode cX3_begin 62 = .ok (.athrow, 1) := by decide +kernel
theorem dX3_begin_63 : decode cX3_begin 63 = .ok (.aload_n 0, 1) := by decide +kernel
theorem dX3_begin_64 : decode cX3_begin 64 = .ok (.getfield 10, 3) := by decide +kernel
theorem dX3_begin_67 : decode cX3_begin 67 = .ok (.iload_n 1, 1) := by decide +kernel
theorem dX3_begin_68 : decode cX3_begin 68 = .ok (.iload_n 2, 1) := by decide +kernel
theorem dX3_begin_69 : decode cX3_begin 69 = .ok (.iload_n 3, 1) := by decide +kernel
theorem dX3_begin_70 : decode cX3_begin 70 = .ok (.invokevirtual 59, 3) := by decide +kernel
theorem dX3_begin_73 : decode cX3_begin 73 = .ok (.aload_n 0, 1) := by decide +kernel
theorem dX3_begin_74 : decode cX3_begin 74 = .ok (.getfield 19, 3) := by decide +kernel
theorem dX3_begin_77 : decode cX3_begin 77 = .ok (.invokevirtual 63, 3) := by decide +kernel
theorem dX3_begin_80 : decode cX3_begin 80 = .ok (.iconst 0, 1) := by decide +kernel
theorem dX3_begin_81 : decode cX3_begin 81 = .ok (.istore 4, 2) := by decide +kernel
theorem dX3_begin_83 : decode cX3_begin 83 = .ok (.iload 4, 2) := by decide +kernel
theorem dX3_begin_85 : decode cX3_begin 85 = .ok (.bipush 16, 2) := by decide +kernel
theorem dX3_begin_87 : decode cX3_begin 87 = .ok (.if_icmp .ge 19, 3) := by decide +kernel
theorem dX3_begin_90 : decode cX3_begin 90 = .ok (.aload_n 0, 1) := by decide +kernel
theorem dX3_begin_91 : decode cX3_begin 91 = .ok (.getfield 25, 3) := by decide +kernel
theorem dX3_begin_94 : decode cX3_begin 94 = .ok (.iload 4, 2) := by decide +kernel
theorem dX3_begin_96 : decode cX3_begin 96 = .ok (.aaload, 1) := by decide +kernel
theorem dX3_begin_97 : decode cX3_begin 97 = .ok (.invokevirtual 66, 3) := by decide +kernel
theorem dX3_begin_100 : decode cX3_begin 100 = .ok (.iinc 4 1, 3) := by decide +kernel
theorem dX3_begin_103 : decode cX3_begin 103 = .ok (.goto (-20), 3) := by decide +kernel
theorem dX3_begin_106 : decode cX3_begin 106 = .ok (.return_, 1) := by decide +kernel
theorem dX3_put_0 : decode cX3_put 0 = .ok (.iload_n 1, 1) := by decide +kernel
theorem dX3_put_1 : decode cX3_put 1 = .ok (.iconst 1, 1) := by decide +kernel
theorem dX3_put_2 : decode cX3_put 2 = .ok (.if_icmp .lt 8, 3) := by decide +kernel
theorem dX3_put_5 : decode cX3_put 5 = .ok (.iload_n 1, 1) := by decide +kernel
theorem dX3_put_6 : decode cX3_put 6 = .ok (.iconst 4, 1) := by decide +kernel
theorem dX3_put_7 : decode cX3_put 7 = .ok (.if_icmp .le 13, 3) := by decide +kernel
theorem dX3_put_10 : decode cX3_put 10 = .ok (.new 48, 3) := by decide +kernel
theorem dX3_put_13 : decode cX3_put 13 = .ok (.dup, 1) := by decide +kernel
theorem dX3_put_14 : decode cX3_put 14 = .ok (.ldc 67, 2) := by decide +kernel
theorem dX3_put_16 : decode cX3_put 16 = .ok (.invokespecial 52, 3) := by decide +kernel
theorem dX3_put_19 : decode cX3_put 19 = .ok (.athrow, 1) := by decide +kernel
theorem dX3_put_20 : decode cX3_put 20 = .ok (.aload_n 0, 1) := by decide +kernel
theorem dX3_put_21 : decode cX3_put 21 = .ok (.getfield 33, 3) := by decide +kernel
theorem dX3_put_24 : decode cX3_put 24 = .ok (.iload_n 1, 1) := by decide +kernel
theorem dX3_put_25 : decode cX3_put 25 = .ok (.iadd, 1) := by decide +kernel
theorem dX3_put_26 : decode cX3_put 26 = .ok (.sipush 1500, 3) := by decide +kernel
theorem dX3_put_29 : decode cX3_put 29 = .ok (.if_icmp .le 13, 3) := by decide +kernel
theorem dX3_put_32 : decode cX3_put 32 = .ok (.new 69, 3) := by decide +kernel
theorem dX3_put_35 : decode cX3_put 35 = .ok (.dup, 1) := by decide +kernel
theorem dX3_put_36 : decode cX3_put 36 = .ok (.ldc 71, 2) := by decide +kernel
theorem dX3_put_38 : decode cX3_put 38 = .ok (.invokespecial 73, 3) := by decide +kernel
theorem dX3_put_41 : decode cX3_put 41 = .ok (.athrow, 1) := by decide +kernel
theorem dX3_put_42 : decode cX3_put 42 = .ok (.iconst 0, 1) := by decide +kernel
theorem dX3_put_43 : decode cX3_put 43 = .ok (.istore_n 3, 1) := by decide +kernel
theorem dX3_put_44 : decode cX3_put 44 = .ok (.iload_n 3, 1) := by decide +kernel
theorem dX3_put_45 : decode cX3_put 45 = .ok (.iload_n 1, 1) := by decide +kernel
theorem dX3_put_46 : decode cX3_put 46 = .ok (.if_icmp .ge 27, 3) := by decide +kernel
theorem dX3_put_49 : decode cX3_put 49 = .ok (.aload_n 0, 1) := by decide +kernel
theorem dX3_put_50 : decode cX3_put 50 = .ok (.getfield 29, 3) := by decide +kernel
theorem dX3_put_53 : decode cX3_put 53 = .ok (.aload_n 0, 1) := by decide +kernel
theorem dX3_put_54 : decode cX3_put 54 = .ok (.getfield 33, 3) := by decide +kernel
theorem dX3_put_57 : decode cX3_put 57 = .ok (.iload_n 3, 1) := by decide +kernel
theorem dX3_put_58 : decode cX3_put 58 = .ok (.iadd, 1) := by decide +kernel
theorem dX3_put_59 : decode cX3_put 59 = .ok (.iload_n 2, 1) := by decide +kernel
theorem dX3_put_60 : decode cX3_put 60 = .ok (.bipush 8, 2) := by decide +kernel
theorem dX3_put_62 : decode cX3_put 62 = .ok (.iload_n 3, 1) := by decide +kernel
theorem dX3_put_63 : decode cX3_put 63 = .ok (.imul, 1) := by decide +kernel
theorem dX3_put_64 : decode cX3_put 64 = .ok (.iushr, 1) := by decide +kernel
theorem dX3_put_65 : decode cX3_put 65 = .ok (.i2b, 1) := by decide +kernel
theorem dX3_put_66 : decode cX3_put 66 = .ok (.bastore, 1) := by decide +kernel
theorem dX3_put_67 : decode cX3_put 67 = .ok (.iinc 3 1, 3) := by decide +kernel
theorem dX3_put_70 : decode cX3_put 70 = .ok (.goto (-26), 3) := by decide +kernel
theorem dX3_put_73 : decode cX3_put 73 = .ok (.aload_n 0, 1) := by decide +kernel
theorem dX3_put_74 : decode cX3_put 74 = .ok (.dup, 1) := by decide +kernel
theorem dX3_put_75 : decode cX3_put 75 = .ok (.getfield 33, 3) := by decide +kernel
theorem dX3_put_78 : decode cX3_put 78 = .ok (.iload_n 1, 1) := by decide +kernel
theorem dX3_put_79 : decode cX3_put 79 = .ok (.iadd, 1) := by decide +kernel
theorem dX3_put_80 : decode cX3_put 80 = .ok (.putfield 33, 3) := by decide +kernel
theorem dX3_put_83 : decode cX3_put 83 = .ok (.aload_n 0, 1) := by decide +kernel
theorem dX3_put_84 : decode cX3_put 84 = .ok (.getfield 33, 3) := by decide +kernel
theorem dX3_put_87 : decode cX3_put 87 = .ok (.ireturn, 1) := by decide +kernel
theorem dX3_store_0 : decode cX3_store 0 = .ok (.aload_n 0, 1) := by decide +kernel
theorem dX3_store_1 : decode cX3_store 1 = .ok (.aload_n 0, 1) := by decide +kernel
theorem dX3_store_2 : decode cX3_store 2 = .ok (.iload_n 1, 1) := by decide +kernel
theorem dX3_store_3 : decode cX3_store 3 = .ok (.invokevirtual 74, 3) := by decide +kernel
theorem dX3_store_6 : decode cX3_store 6 = .ok (.aload_n 0, 1) := by decide +kernel
theorem dX3_store_7 : decode cX3_store 7 = .ok (.getfield 29, 3) := by decide +kernel
theorem dX3_store_10 : decode cX3_store 10 = .ok (.aload_n 0, 1) := by decide +kernel
theorem dX3_store_11 : decode cX3_store 11 = .ok (.getfield 33, 3) := by decide +kernel
theorem dX3_store_14 : decode cX3_store 14 = .ok (.invokevirtual 78, 3) := by decide +kernel
theorem dX3_store_17 : decode cX3_store 17 = .ok (.ireturn, 1) := by decide +kernel
theorem dX3_edit_0 : decode cX3_edit 0 = .ok (.aload_n 0, 1) := by decide +kernel
theorem dX3_edit_1 : decode cX3_edit 1 = .ok (.iload_n 1, 1) := by decide +kernel
theorem dX3_edit_2 : decode cX3_edit 2 = .ok (.invokevirtual 74, 3) := by decide +kernel
theorem dX3_edit_5 : decode cX3_edit 5 = .ok (.astore 4, 2) := by decide +kernel
theorem dX3_edit_7 : decode cX3_edit 7 = .ok (.iload_n 2, 1) := by decide +kernel
theorem dX3_edit_8 : decode cX3_edit 8 = .ok (.ifCond .lt 27, 3) := by decide +kernel
theorem dX3_edit_11 : decode cX3_edit 11 = .ok (.iload_n 2, 1) := by decide +kernel
theorem dX3_edit_12 : decode cX3_edit 12 = .ok (.aload 4, 2) := by decide +kernel
theorem dX3_edit_14 : decode cX3_edit 14 = .ok (.getfield 82, 3) := by decide +kernel
theorem dX3_edit_17 : decode cX3_edit 17 = .ok (.if_icmp .gt 18, 3) := by decide +kernel
theorem dX3_edit_20 : decode cX3_edit 20 = .ok (.iload_n 3, 1) := by decide +kernel
theorem dX3_edit_21 : decode cX3_edit 21 = .ok (.ifCond .lt 14, 3) := by decide +kernel
theorem dX3_edit_24 : decode cX3_edit 24 = .ok (.iload_n 3, 1) := by decide +kernel
theorem dX3_edit_25 : decode cX3_edit 25 = .ok (.aload 4, 2) := by decide +kernel
theorem dX3_edit_27 : decode cX3_edit 27 = .ok (.getfield 82, 3) := by decide +kernel
theorem dX3_edit_30 : decode cX3_edit 30 = .ok (.iload_n 2, 1) := by decide +kernel
theorem dX3_edit_31 : decode cX3_edit 31 = .ok (.isub, 1) := by decide +kernel
theorem dX3_edit_32 : decode cX3_edit 32 = .ok (.if_icmp .le 13, 3) := by decide +kernel
theorem dX3_edit_35 : decode cX3_edit 35 = .ok (.new 48, 3) := by decide +kernel
theorem dX3_edit_38 : decode cX3_edit 38 = .ok (.dup, 1) := by decide +kernel
theorem dX3_edit_39 : decode cX3_edit 39 = .ok (.ldc 85, 2) := by decide +kernel
theorem dX3_edit_41 : decode cX3_edit 41 = .ok (.invokespecial 52, 3) := by decide +kernel
theorem dX3_edit_44 : decode cX3_edit 44 = .ok (.athrow, 1) := by decide +kernel
theorem dX3_edit_45 : decode cX3_edit 45 = .ok (.aload 4, 2) := by decide +kernel
theorem dX3_edit_47 : decode cX3_edit 47 = .ok (.getfield 82, 3) := by decide +kernel
theorem dX3_edit_50 : decode cX3_edit 50 = .ok (.iload_n 3, 1) := by decide +kernel
theorem dX3_edit_51 : decode cX3_edit 51 = .ok (.isub, 1) := by decide +kernel
theorem dX3_edit_52 : decode cX3_edit 52 = .ok (.aload_n 0, 1) := by decide +kernel
theorem dX3_edit_53 : decode cX3_edit 53 = .ok (.getfield 33, 3) := by decide +kernel
theorem dX3_edit_56 : decode cX3_edit 56 = .ok (.iadd, 1) := by decide +kernel
theorem dX3_edit_57 : decode cX3_edit 57 = .ok (.istore 5, 2) := by decide +kernel
theorem dX3_edit_59 : decode cX3_edit 59 = .ok (.iload 5, 2) := by decide +kernel
theorem dX3_edit_61 : decode cX3_edit 61 = .ok (.sipush 1500, 3) := by decide +kernel
theorem dX3_edit_64 : decode cX3_edit 64 = .ok (.if_icmp .le 13, 3) := by decide +kernel
theorem dX3_edit_67 : decode cX3_edit 67 = .ok (.new 69, 3) := by decide +kernel
theorem dX3_edit_70 : decode cX3_edit 70 = .ok (.dup, 1) := by decide +kernel
theorem dX3_edit_71 : decode cX3_edit 71 = .ok (.ldc 87, 2) := by decide +kernel
theorem dX3_edit_73 : decode cX3_edit 73 = .ok (.invokespecial 73, 3) := by decide +kernel
theorem dX3_edit_76 : decode cX3_edit 76 = .ok (.athrow, 1) := by decide +kernel
theorem dX3_edit_77 : decode cX3_edit 77 = .ok (.aload_n 0, 1) := by decide +kernel
theorem dX3_edit_78 : decode cX3_edit 78 = .ok (.aload 4, 2) := by decide +kernel
theorem dX3_edit_80 : decode cX3_edit 80 = .ok (.invokevirtual 89, 3) := by decide +kernel
theorem dX3_edit_83 : decode cX3_edit 83 = .ok (.aload_n 0, 1) := by decide +kernel
theorem dX3_edit_84 : decode cX3_edit 84 = .ok (.getfield 37, 3) := by decide +kernel
theorem dX3_edit_87 : decode cX3_edit 87 = .ok (.iload_n 2, 1) := by decide +kernel
theorem dX3_edit_88 : decode cX3_edit 88 = .ok (.iload_n 3, 1) := by decide +kernel
theorem dX3_edit_89 : decode cX3_edit 89 = .ok (.iadd, 1) := by decide +kernel
theorem dX3_edit_90 : decode cX3_edit 90 = .ok (.aload_n 0, 1) := by decide +kernel
theorem dX3_edit_91 : decode cX3_edit 91 = .ok (.getfield 37, 3) := by decide +kernel
theorem dX3_edit_94 : decode cX3_edit 94 = .ok (.iload_n 2, 1) := by decide +kernel
theorem dX3_edit_95 : decode cX3_edit 95 = .ok (.aload_n 0, 1) := by decide +kernel
theorem dX3_edit_96 : decode cX3_edit 96 = .ok (.getfield 33, 3) := by decide +kernel
theorem dX3_edit_99 : decode cX3_edit 99 = .ok (.iadd, 1) := by decide +kernel
theorem dX3_edit_100 : decode cX3_edit 100 = .ok (.aload 4, 2) := by decide +kernel
theorem dX3_edit_102 : decode cX3_edit 102 = .ok (.getfield 82, 3) := by decide +kernel
theorem dX3_edit_105 : decode cX3_edit 105 = .ok (.iload_n 2, 1) := by decide +kernel
theorem dX3_edit_106 : decode cX3_edit 106 = .ok (.isub, 1) := by decide +kernel
theorem dX3_edit_107 : decode cX3_edit 107 = .ok (.iload_n 3, 1) := by decide +kernel
theorem dX3_edit_108 : decode cX3_edit 108 = .ok (.isub, 1) := by decide +kernel
theorem dX3_edit_109 : decode cX3_edit 109 = .ok (.invokestatic 93, 3) := by decide +kernel
theorem dX3_edit_112 : decode cX3_edit 112 = .ok (.aload_n 0, 1) := by decide +kernel
theorem dX3_edit_113 : decode cX3_edit 113 = .ok (.getfield 29, 3) := by decide +kernel
theorem dX3_edit_116 : decode cX3_edit 116 = .ok (.iconst 0, 1) := by decide +kernel
theorem dX3_edit_117 : decode cX3_edit 117 = .ok (.aload_n 0, 1) := by decide +kernel
theorem dX3_edit_118 : decode cX3_edit 118 = .ok (.getfield 37, 3) := by decide +kernel
theorem dX3_edit_121 : decode cX3_edit 121 = .ok (.iload_n 2, 1) := by decide +kernel
theorem dX3_edit_122 : decode cX3_edit 122 = .ok (.aload_n 0, 1) := by decide +kernel
theorem dX3_edit_123 : decode cX3_edit 123 = .ok (.getfield 33, 3) := by decide +kernel
theorem dX3_edit_126 : decode cX3_edit 126 = .ok (.invokestatic 93, 3) := by decide +kernel
theorem dX3_edit_129 : decode cX3_edit 129 = .ok (.aload_n 0, 1) := by decide +kernel
theorem dX3_edit_130 : decode cX3_edit 130 = .ok (.aload 4, 2) := by decide +kernel
theorem dX3_edit_132 : decode cX3_edit 132 = .ok (.aload_n 0, 1) := by decide +kernel
theorem dX3_edit_133 : decode cX3_edit 133 = .ok (.getfield 37, 3) := by decide +kernel
theorem dX3_edit_136 : decode cX3_edit 136 = .ok (.iload 5, 2) := by decide +kernel
theorem dX3_edit_138 : decode cX3_edit 138 = .ok (.invokevirtual 78, 3) := by decide +kernel
theorem dX3_edit_141 : decode cX3_edit 141 = .ok (.ireturn, 1) := by decide +kernel
theorem dX3_copy_0 : decode cX3_copy 0 = .ok (.aload_n 0, 1) := by decide +kernel
theorem dX3_copy_1 : decode cX3_copy 1 = .ok (.iload_n 1, 1) := by decide +kernel
theorem dX3_copy_2 : decode cX3_copy 2 = .ok (.invokevirtual 74, 3) := by decide +kernel
theorem dX3_copy_5 : decode cX3_copy 5 = .ok (.astore_n 3, 1) := by decide +kernel
theorem dX3_copy_6 : decode cX3_copy 6 = .ok (.aload_n 0, 1) := by decide +kernel
theorem dX3_copy_7 : decode cX3_copy 7 = .ok (.iload_n 2, 1) := by decide +kernel
theorem dX3_copy_8 : decode cX3_copy 8 = .ok (.invokevirtual 74, 3) := by decide +kernel
theorem dX3_copy_11 : decode cX3_copy 11 = .ok (.astore 4, 2) := by decide +kernel
theorem dX3_copy_13 : decode cX3_copy 13 = .ok (.iconst 0, 1) := by decide +kernel
theorem dX3_copy_14 : decode cX3_copy 14 = .ok (.istore 5, 2) := by decide +kernel
theorem dX3_copy_16 : decode cX3_copy 16 = .ok (.iload 5, 2) := by decide +kernel
theorem dX3_copy_18 : decode cX3_copy 18 = .ok (.aload_n 3, 1) := by decide +kernel
theorem dX3_copy_19 : decode cX3_copy 19 = .ok (.getfield 99, 3) := by decide +kernel
theorem dX3_copy_22 : decode cX3_copy 22 = .ok (.if_icmp .ge 23, 3) := by decide +kernel
theorem dX3_copy_25 : decode cX3_copy 25 = .ok (.aload_n 0, 1) := by decide +kernel
theorem dX3_copy_26 : decode cX3_copy 26 = .ok (.getfield 19, 3) := by decide +kernel
theorem dX3_copy_29 : decode cX3_copy 29 = .ok (.aload_n 3, 1) := by decide +kernel
theorem dX3_copy_30 : decode cX3_copy 30 = .ok (.getfield 102, 3) := by decide +kernel
theorem dX3_copy_33 : decode cX3_copy 33 = .ok (.iload 5, 2) := by decide +kernel
theorem dX3_copy_35 : decode cX3_copy 35 = .ok (.iaload, 1) := by decide +kernel
theorem dX3_copy_36 : decode cX3_copy 36 = .ok (.invokevirtual 105, 3) := by decide +kernel
theorem dX3_copy_39 : decode cX3_copy 39 = .ok (.iinc 5 1, 3) := by decide +kernel
theorem dX3_copy_42 : decode cX3_copy 42 = .ok (.goto (-26), 3) := by decide +kernel
theorem dX3_copy_45 : decode cX3_copy 45 = .ok (.aload_n 0, 1) := by decide +kernel
theorem dX3_copy_46 : decode cX3_copy 46 = .ok (.aload 4, 2) := by decide +kernel
theorem dX3_copy_48 : decode cX3_copy 48 = .ok (.getfield 102, 3) := by decide +kernel
theorem dX3_copy_51 : decode cX3_copy 51 = .ok (.aload 4, 2) := by decide +kernel
theorem dX3_copy_53 : decode cX3_copy 53 = .ok (.getfield 99, 3) := by decide +kernel
theorem dX3_copy_56 : decode cX3_copy 56 = .ok (.invokevirtual 109, 3) := by decide +kernel
theorem dX3_copy_59 : decode cX3_copy 59 = .ok (.aload 4, 2) := by decide +kernel
theorem dX3_copy_61 : decode cX3_copy 61 = .ok (.aload_n 3, 1) := by decide +kernel
theorem dX3_copy_62 : decode cX3_copy 62 = .ok (.getfield 102, 3) := by decide +kernel
theorem dX3_copy_65 : decode cX3_copy 65 = .ok (.aload_n 3, 1) := by decide +kernel
theorem dX3_copy_66 : decode cX3_copy 66 = .ok (.getfield 99, 3) := by decide +kernel
theorem dX3_copy_69 : decode cX3_copy 69 = .ok (.aload_n 3, 1) := by decide +kernel
theorem dX3_copy_70 : decode cX3_copy 70 = .ok (.getfield 82, 3) := by decide +kernel
theorem dX3_copy_73 : decode cX3_copy 73 = .ok (.invokevirtual 113, 3) := by decide +kernel
theorem dX3_copy_76 : decode cX3_copy 76 = .ok (.return_, 1) := by decide +kernel
theorem dX3_size_0 : decode cX3_size 0 = .ok (.aload_n 0, 1) := by decide +kernel
theorem dX3_size_1 : decode cX3_size 1 = .ok (.iload_n 1, 1) := by decide +kernel
theorem dX3_size_2 : decode cX3_size 2 = .ok (.invokevirtual 74, 3) := by decide +kernel
theorem dX3_size_5 : decode cX3_size 5 = .ok (.getfield 82, 3) := by decide +kernel
theorem dX3_size_8 : decode cX3_size 8 = .ok (.ireturn, 1) := by decide +kernel
theorem dX3_get_0 : decode cX3_get 0 = .ok (.aload_n 0, 1) := by decide +kernel
theorem dX3_get_1 : decode cX3_get 1 = .ok (.iload_n 1, 1) := by decide +kernel
theorem dX3_get_2 : decode cX3_get 2 = .ok (.invokevirtual 74, 3) := by decide +kernel
theorem dX3_get_5 : decode cX3_get 5 = .ok (.astore_n 3, 1) := by decide +kernel
theorem dX3_get_6 : decode cX3_get 6 = .ok (.iload_n 2, 1) := by decide +kernel
theorem dX3_get_7 : decode cX3_get 7 = .ok (.ifCond .lt 11, 3) := by decide +kernel
theorem dX3_get_10 : decode cX3_get 10 = .ok (.iload_n 2, 1) := by decide +kernel
theorem dX3_get_11 : decode cX3_get 11 = .ok (.aload_n 3, 1) := by decide +kernel
theorem dX3_get_12 : decode cX3_get 12 = .ok (.getfield 82, 3) := by decide +kernel
theorem dX3_get_15 : decode cX3_get 15 = .ok (.if_icmp .lt 13, 3) := by decide +kernel
theorem dX3_get_18 : decode cX3_get 18 = .ok (.new 117, 3) := by decide +kernel
theorem dX3_get_21 : decode cX3_get 21 = .ok (.dup, 1) := by decide +kernel
theorem dX3_get_22 : decode cX3_get 22 = .ok (.ldc 119, 2) := by decide +kernel
theorem dX3_get_24 : decode cX3_get 24 = .ok (.invokespecial 121, 3) := by decide +kernel
theorem dX3_get_27 : decode cX3_get 27 = .ok (.athrow, 1) := by decide +kernel
theorem dX3_get_28 : decode cX3_get 28 = .ok (.iload_n 2, 1) := by decide +kernel
theorem dX3_get_29 : decode cX3_get 29 = .ok (.istore 4, 2) := by decide +kernel
theorem dX3_get_31 : decode cX3_get 31 = .ok (.iconst 0, 1) := by decide +kernel
theorem dX3_get_32 : decode cX3_get 32 = .ok (.istore 5, 2) := by decide +kernel
theorem dX3_get_34 : decode cX3_get 34 = .ok (.iload 5, 2) := by decide +kernel
theorem dX3_get_36 : decode cX3_get 36 = .ok (.aload_n 3, 1) := by decide +kernel
theorem dX3_get_37 : decode cX3_get 37 = .ok (.getfield 99, 3) := by decide +kernel
theorem dX3_get_40 : decode cX3_get 40 = .ok (.iconst 1, 1) := by decide +kernel
theorem dX3_get_41 : decode cX3_get 41 = .ok (.isub, 1) := by decide +kernel
theorem dX3_get_42 : decode cX3_get 42 = .ok (.if_icmp .ge 47, 3) := by decide +kernel
theorem dX3_get_45 : decode cX3_get 45 = .ok (.iload 4, 2) := by decide +kernel
theorem dX3_get_47 : decode cX3_get 47 = .ok (.aload_n 0, 1) := by decide +kernel
theorem dX3_get_48 : decode cX3_get 48 = .ok (.getfield 19, 3) := by decide +kernel
theorem dX3_get_51 : decode cX3_get 51 = .ok (.aload_n 3, 1) := by decide +kernel
theorem dX3_get_52 : decode cX3_get 52 = .ok (.getfield 102, 3) := by decide +kernel
theorem dX3_get_55 : decode cX3_get 55 = .ok (.iload 5, 2) := by decide +kernel
theorem dX3_get_57 : decode cX3_get 57 = .ok (.iaload, 1) := by decide +kernel
theorem dX3_get_58 : decode cX3_get 58 = .ok (.invokevirtual 122, 3) := by decide +kernel
theorem dX3_get_61 : decode cX3_get 61 = .ok (.if_icmp .lt 28, 3) := by decide +kernel
theorem dX3_get_64 : decode cX3_get 64 = .ok (.iload 4, 2) := by decide +kernel
theorem dX3_get_66 : decode cX3_get 66 = .ok (.aload_n 0, 1) := by decide +kernel
theorem dX3_get_67 : decode cX3_get 67 = .ok (.getfield 19, 3) := by decide +kernel
theorem dX3_get_70 : decode cX3_get 70 = .ok (.aload_n 3, 1) := by decide +kernel
theorem dX3_get_71 : decode cX3_get 71 = .ok (.getfield 102, 3) := by decide +kernel
theorem dX3_get_74 : decode cX3_get 74 = .ok (.iload 5, 2) := by decide +kernel
theorem dX3_get_76 : decode cX3_get 76 = .ok (.iaload, 1) := by decide +kernel
theorem dX3_get_77 : decode cX3_get 77 = .ok (.invokevirtual 122, 3) := by decide +kernel
theorem dX3_get_80 : decode cX3_get 80 = .ok (.isub, 1) := by decide +kernel
theorem dX3_get_81 : decode cX3_get 81 = .ok (.istore 4, 2) := by decide +kernel
theorem dX3_get_83 : decode cX3_get 83 = .ok (.iinc 5 1, 3) := by decide +kernel
theorem dX3_get_86 : decode cX3_get 86 = .ok (.goto (-52), 3) := by decide +kernel
theorem dX3_get_89 : decode cX3_get 89 = .ok (.aload_n 0, 1) := by decide +kernel
theorem dX3_get_90 : decode cX3_get 90 = .ok (.getfield 19, 3) := by decide +kernel
theorem dX3_get_93 : decode cX3_get 93 = .ok (.aload_n 3, 1) := by decide +kernel
theorem dX3_get_94 : decode cX3_get 94 = .ok (.getfield 102, 3) := by decide +kernel
theorem dX3_get_97 : decode cX3_get 97 = .ok (.iload 5, 2) := by decide +kernel
theorem dX3_get_99 : decode cX3_get 99 = .ok (.iaload, 1) := by decide +kernel
theorem dX3_get_100 : decode cX3_get 100 = .ok (.iload 4, 2) := by decide +kernel
theorem dX3_get_102 : decode cX3_get 102 = .ok (.invokevirtual 126, 3) := by decide +kernel
theorem dX3_get_105 : decode cX3_get 105 = .ok (.ireturn, 1) := by decide +kernel
theorem dX3_parts_0 : decode cX3_parts 0 = .ok (.aload_n 0, 1) := by decide +kernel
theorem dX3_parts_1 : decode cX3_parts 1 = .ok (.iload_n 1, 1) := by decide +kernel
theorem dX3_parts_2 : decode cX3_parts 2 = .ok (.invokevirtual 74, 3) := by decide +kernel
theorem dX3_parts_5 : decode cX3_parts 5 = .ok (.getfield 99, 3) := by decide +kernel
theorem dX3_parts_8 : decode cX3_parts 8 = .ok (.ireturn, 1) := by decide +kernel
theorem dX3_part_0 : decode cX3_part 0 = .ok (.aload_n 0, 1) := by decide +kernel
theorem dX3_part_1 : decode cX3_part 1 = .ok (.iload_n 1, 1) := by decide +kernel
theorem dX3_part_2 : decode cX3_part 2 = .ok (.invokevirtual 74, 3) := by decide +kernel
theorem dX3_part_5 : decode cX3_part 5 = .ok (.astore_n 3, 1) := by decide +kernel
theorem dX3_part_6 : decode cX3_part 6 = .ok (.iload_n 2, 1) := by decide +kernel
theorem dX3_part_7 : decode cX3_part 7 = .ok (.ifCond .lt 11, 3) := by decide +kernel
theorem dX3_part_10 : decode cX3_part 10 = .ok (.iload_n 2, 1) := by decide +kernel
theorem dX3_part_11 : decode cX3_part 11 = .ok (.aload_n 3, 1) := by decide +kernel
theorem dX3_part_12 : decode cX3_part 12 = .ok (.getfield 99, 3) := by decide +kernel
theorem dX3_part_15 : decode cX3_part 15 = .ok (.if_icmp .lt 13, 3) := by decide +kernel
theorem dX3_part_18 : decode cX3_part 18 = .ok (.new 117, 3) := by decide +kernel
theorem dX3_part_21 : decode cX3_part 21 = .ok (.dup, 1) := by decide +kernel
theorem dX3_part_22 : decode cX3_part 22 = .ok (.ldc 130, 2) := by decide +kernel
theorem dX3_part_24 : decode cX3_part 24 = .ok (.invokespecial 121, 3) := by decide +kernel
theorem dX3_part_27 : decode cX3_part 27 = .ok (.athrow, 1) := by decide +kernel
theorem dX3_part_28 : decode cX3_part 28 = .ok (.aload_n 3, 1) := by decide +kernel
theorem dX3_part_29 : decode cX3_part 29 = .ok (.getfield 102, 3) := by decide +kernel
theorem dX3_part_32 : decode cX3_part 32 = .ok (.iload_n 2, 1) := by decide +kernel
theorem dX3_part_33 : decode cX3_part 33 = .ok (.iaload, 1) := by decide +kernel
theorem dX3_part_34 : decode cX3_part 34 = .ok (.ireturn, 1) := by decide +kernel
theorem dX3_about_0 : decode cX3_about 0 = .ok (.aload_n 0, 1) := by decide +kernel
theorem dX3_about_1 : decode cX3_about 1 = .ok (.getfield 19, 3) := by decide +kernel
theorem dX3_about_4 : decode cX3_about 4 = .ok (.iload_n 1, 1) := by decide +kernel
theorem dX3_about_5 : decode cX3_about 5 = .ok (.invokevirtual 132, 3) := by decide +kernel
theorem dX3_about_8 : decode cX3_about 8 = .ok (.ifCond .ne 13, 3) := by decide +kernel
theorem dX3_about_11 : decode cX3_about 11 = .ok (.new 136, 3) := by decide +kernel
theorem dX3_about_14 : decode cX3_about 14 = .ok (.dup, 1) := by decide +kernel
theorem dX3_about_15 : decode cX3_about 15 = .ok (.ldc 130, 2) := by decide +kernel
theorem dX3_about_17 : decode cX3_about 17 = .ok (.invokespecial 138, 3) := by decide +kernel
theorem dX3_about_20 : decode cX3_about 20 = .ok (.athrow, 1) := by decide +kernel
theorem dX3_about_21 : decode cX3_about 21 = .ok (.iload_n 2, 1) := by decide +kernel
theorem dX3_about_22 : decode cX3_about 22 = .ok (.tableswitch 50 0 2 #[26, 35, 44], 26) := by decide +kernel
theorem dX3_about_48 : decode cX3_about 48 = .ok (.aload_n 0, 1) := by decide +kernel
theorem dX3_about_49 : decode cX3_about 49 = .ok (.getfield 19, 3) := by decide +kernel
theorem dX3_about_52 : decode cX3_about 52 = .ok (.iload_n 1, 1) := by decide +kernel
theorem dX3_about_53 : decode cX3_about 53 = .ok (.invokevirtual 122, 3) := by decide +kernel
theorem dX3_about_56 : decode cX3_about 56 = .ok (.ireturn, 1) := by decide +kernel
theorem dX3_about_57 : decode cX3_about 57 = .ok (.aload_n 0, 1) := by decide +kernel
theorem dX3_about_58 : decode cX3_about 58 = .ok (.getfield 19, 3) := by decide +kernel
theorem dX3_about_61 : decode cX3_about 61 = .ok (.iload_n 1, 1) := by decide +kernel
theorem dX3_about_62 : decode cX3_about 62 = .ok (.invokevirtual 139, 3) := by decide +kernel
theorem dX3_about_65 : decode cX3_about 65 = .ok (.ireturn, 1) := by decide +kernel
theorem dX3_about_66 : decode cX3_about 66 = .ok (.aload_n 0, 1) := by decide +kernel
theorem dX3_about_67 : decode cX3_about 67 = .ok (.iload_n 1, 1) := by decide +kernel
theorem dX3_about_68 : decode cX3_about 68 = .ok (.invokevirtual 142, 3) := by decide +kernel
theorem dX3_about_71 : decode cX3_about 71 = .ok (.ireturn, 1) := by decide +kernel
theorem dX3_about_72 : decode cX3_about 72 = .ok (.new 48, 3) := by decide +kernel
theorem dX3_about_75 : decode cX3_about 75 = .ok (.dup, 1) := by decide +kernel
theorem dX3_about_76 : decode cX3_about 76 = .ok (.ldc 145, 2) := by decide +kernel
theorem dX3_about_78 : decode cX3_about 78 = .ok (.invokespecial 52, 3) := by decide +kernel
theorem dX3_about_81 : decode cX3_about 81 = .ok (.athrow, 1) := by decide +kernel
theorem dX3_common_0 : decode cX3_common 0 = .ok (.aload_n 0, 1) := by decide +kernel
theorem dX3_common_1 : decode cX3_common 1 = .ok (.iload_n 1, 1) := by decide +kernel
theorem dX3_common_2 : decode cX3_common 2 = .ok (.invokevirtual 74, 3) := by decide +kernel
theorem dX3_common_5 : decode cX3_common 5 = .ok (.astore_n 3, 1) := by decide +kernel
theorem dX3_common_6 : decode cX3_common 6 = .ok (.aload_n 0, 1) := by decide +kernel
theorem dX3_common_7 : decode cX3_common 7 = .ok (.iload_n 2, 1) := by decide +kernel
theorem dX3_common_8 : decode cX3_common 8 = .ok (.invokevirtual 74, 3) := by decide +kernel
theorem dX3_common_11 : decode cX3_common 11 = .ok (.astore 4, 2) := by decide +kernel
theorem dX3_common_13 : decode cX3_common 13 = .ok (.aload_n 0, 1) := by decide +kernel
theorem dX3_common_14 : decode cX3_common 14 = .ok (.getfield 44, 3) := by decide +kernel
theorem dX3_common_17 : decode cX3_common 17 = .ok (.iconst 0, 1) := by decide +kernel
theorem dX3_common_18 : decode cX3_common 18 = .ok (.invokestatic 147, 3) := by decide +kernel
theorem dX3_common_21 : decode cX3_common 21 = .ok (.iconst 0, 1) := by decide +kernel
theorem dX3_common_22 : decode cX3_common 22 = .ok (.istore 5, 2) := by decide +kernel
theorem dX3_common_24 : decode cX3_common 24 = .ok (.iload 5, 2) := by decide +kernel
theorem dX3_common_26 : decode cX3_common 26 = .ok (.aload 4, 2) := by decide +kernel
theorem dX3_common_28 : decode cX3_common 28 = .ok (.getfield 99, 3) := by decide +kernel
theorem dX3_common_31 : decode cX3_common 31 = .ok (.if_icmp .ge 39, 3) := by decide +kernel
theorem dX3_common_34 : decode cX3_common 34 = .ok (.aload 4, 2) := by decide +kernel
theorem dX3_common_36 : decode cX3_common 36 = .ok (.getfield 102, 3) := by decide +kernel
theorem dX3_common_39 : decode cX3_common 39 = .ok (.iload 5, 2) := by decide +kernel
theorem dX3_common_41 : decode cX3_common 41 = .ok (.iaload, 1) := by decide +kernel
theorem dX3_common_42 : decode cX3_common 42 = .ok (.istore 6, 2) := by decide +kernel
theorem dX3_common_44 : decode cX3_common 44 = .ok (.aload_n 0, 1) := by decide +kernel
theorem dX3_common_45 : decode cX3_common 45 = .ok (.getfield 19, 3) := by decide +kernel
theorem dX3_common_48 : decode cX3_common 48 = .ok (.iload 6, 2) := by decide +kernel
theorem dX3_common_50 : decode cX3_common 50 = .ok (.invokevirtual 132, 3) := by decide +kernel
theorem dX3_common_53 : decode cX3_common 53 = .ok (.ifCond .eq 11, 3) := by decide +kernel
theorem dX3_common_56 : decode cX3_common 56 = .ok (.aload_n 0, 1) := by decide +kernel
theorem dX3_common_57 : decode cX3_common 57 = .ok (.getfield 44, 3) := by decide +kernel
theorem dX3_common_60 : decode cX3_common 60 = .ok (.iload 6, 2) := by decide +kernel
theorem dX3_common_62 : decode cX3_common 62 = .ok (.iconst 1, 1) := by decide +kernel
theorem dX3_common_63 : decode cX3_common 63 = .ok (.iastore, 1) := by decide +kernel
theorem dX3_common_64 : decode cX3_common 64 = .ok (.iinc 5 1, 3) := by decide +kernel
theorem dX3_common_67 : decode cX3_common 67 = .ok (.goto (-43), 3) := by decide +kernel
theorem dX3_common_70 : decode cX3_common 70 = .ok (.iconst 0, 1) := by decide +kernel
theorem dX3_common_71 : decode cX3_common 71 = .ok (.istore 5, 2) := by decide +kernel
theorem dX3_common_73 : decode cX3_common 73 = .ok (.iconst 0, 1) := by decide +kernel
theorem dX3_common_74 : decode cX3_common 74 = .ok (.istore 6, 2) := by decide +kernel
theorem dX3_common_76 : decode cX3_common 76 = .ok (.iload 6, 2) := by decide +kernel
theorem dX3_common_78 : decode cX3_common 78 = .ok (.aload_n 3, 1) := by decide +kernel
theorem dX3_common_79 : decode cX3_common 79 = .ok (.getfield 99, 3) := by decide +kernel
theorem dX3_common_82 : decode cX3_common 82 = .ok (.if_icmp .ge 55, 3) := by decide +kernel
theorem dX3_common_85 : decode cX3_common 85 = .ok (.aload_n 3, 1) := by decide +kernel
theorem dX3_common_86 : decode cX3_common 86 = .ok (.getfield 102, 3) := by decide +kernel
theorem dX3_common_89 : decode cX3_common 89 = .ok (.iload 6, 2) := by decide +kernel
theorem dX3_common_91 : decode cX3_common 91 = .ok (.iaload, 1) := by decide +kernel
theorem dX3_common_92 : decode cX3_common 92 = .ok (.istore 7, 2) := by decide +kernel
theorem dX3_common_94 : decode cX3_common 94 = .ok (.aload_n 0, 1) := by decide +kernel
theorem dX3_common_95 : decode cX3_common 95 = .ok (.getfield 19, 3) := by decide +kernel
theorem dX3_common_98 : decode cX3_common 98 = .ok (.iload 7, 2) := by decide +kernel
theorem dX3_common_100 : decode cX3_common 100 = .ok (.invokevirtual 132, 3) := by decide +kernel
theorem dX3_common_103 : decode cX3_common 103 = .ok (.ifCond .eq 28, 3) := by decide +kernel
theorem dX3_common_106 : decode cX3_common 106 = .ok (.aload_n 0, 1) := by decide +kernel
theorem dX3_common_107 : decode cX3_common 107 = .ok (.getfield 44, 3) := by decide +kernel
theorem dX3_common_110 : decode cX3_common 110 = .ok (.iload 7, 2) := by decide +kernel
theorem dX3_common_112 : decode cX3_common 112 = .ok (.iaload, 1) := by decide +kernel
theorem dX3_common_113 : decode cX3_common 113 = .ok (.iconst 1, 1) := by decide +kernel
theorem dX3_common_114 : decode cX3_common 114 = .ok (.if_icmp .ne 17, 3) := by decide +kernel
theorem dX3_common_117 : decode cX3_common 117 = .ok (.iload 5, 2) := by decide +kernel
theorem dX3_common_119 : decode cX3_common 119 = .ok (.aload_n 0, 1) := by decide +kernel
theorem dX3_common_120 : decode cX3_common 120 = .ok (.getfield 19, 3) := by decide +kernel
theorem dX3_common_123 : decode cX3_common 123 = .ok (.iload 7, 2) := by decide +kernel
theorem dX3_common_125 : decode cX3_common 125 = .ok (.invokevirtual 122, 3) := by decide +kernel
theorem dX3_common_128 : decode cX3_common 128 = .ok (.iadd, 1) := by decide +kernel
theorem dX3_common_129 : decode cX3_common 129 = .ok (.istore 5, 2) := by decide +kernel
theorem dX3_common_131 : decode cX3_common 131 = .ok (.iinc 6 1, 3) := by decide +kernel
theorem dX3_common_134 : decode cX3_common 134 = .ok (.goto (-58), 3) := by decide +kernel
theorem dX3_common_137 : decode cX3_common 137 = .ok (.iload 5, 2) := by decide +kernel
theorem dX3_common_139 : decode cX3_common 139 = .ok (.ireturn, 1) := by decide +kernel
theorem dX3_all_0 : decode cX3_all 0 = .ok (.iload_n 1, 1) := by decide +kernel
theorem dX3_all_1 : decode cX3_all 1 = .ok (.tableswitch 48 0 2 #[27, 35, 43], 27) := by decide +kernel
theorem dX3_all_28 : decode cX3_all 28 = .ok (.aload_n 0, 1) := by decide +kernel
theorem dX3_all_29 : decode cX3_all 29 = .ok (.getfield 19, 3) := by decide +kernel
theorem dX3_all_32 : decode cX3_all 32 = .ok (.getfield 152, 3) := by decide +kernel
theorem dX3_all_35 : decode cX3_all 35 = .ok (.ireturn, 1) := by decide +kernel
theorem dX3_all_36 : decode cX3_all 36 = .ok (.aload_n 0, 1) := by decide +kernel
theorem dX3_all_37 : decode cX3_all 37 = .ok (.getfield 19, 3) := by decide +kernel
theorem dX3_all_40 : decode cX3_all 40 = .ok (.getfield 153, 3) := by decide +kernel
theorem dX3_all_43 : decode cX3_all 43 = .ok (.ireturn, 1) := by decide +kernel
theorem dX3_all_44 : decode cX3_all 44 = .ok (.aload_n 0, 1) := by decide +kernel
theorem dX3_all_45 : decode cX3_all 45 = .ok (.getfield 33, 3) := by decide +kernel
theorem dX3_all_48 : decode cX3_all 48 = .ok (.ireturn, 1) := by decide +kernel
theorem dX3_all_49 : decode cX3_all 49 = .ok (.new 48, 3) := by decide +kernel
theorem dX3_all_52 : decode cX3_all 52 = .ok (.dup, 1) := by decide +kernel
theorem dX3_all_53 : decode cX3_all 53 = .ok (.ldc 145, 2) := by decide +kernel
theorem dX3_all_55 : decode cX3_all 55 = .ok (.invokespecial 52, 3) := by decide +kernel
theorem dX3_all_58 : decode cX3_all 58 = .ok (.athrow, 1) := by decide +kernel
theorem dX3_fileAt_0 : decode cX3_fileAt 0 = .ok (.iload_n 1, 1) := by decide +kernel
theorem dX3_fileAt_1 : decode cX3_fileAt 1 = .ok (.ifCond .lt 9, 3) := by decide +kernel
theorem dX3_fileAt_4 : decode cX3_fileAt 4 = .ok (.iload_n 1, 1) := by decide +kernel
theorem dX3_fileAt_5 : decode cX3_fileAt 5 = .ok (.bipush 16, 2) := by decide +kernel
theorem dX3_fileAt_7 : decode cX3_fileAt 7 = .ok (.if_icmp .lt 13, 3) := by decide +kernel
theorem dX3_fileAt_10 : decode cX3_fileAt 10 = .ok (.new 117, 3) := by decide +kernel
theorem dX3_fileAt_13 : decode cX3_fileAt 13 = .ok (.dup, 1) := by decide +kernel
theorem dX3_fileAt_14 : decode cX3_fileAt 14 = .ok (.ldc 154, 2) := by decide +kernel
theorem dX3_fileAt_16 : decode cX3_fileAt 16 = .ok (.invokespecial 121, 3) := by decide +kernel
theorem dX3_fileAt_19 : decode cX3_fileAt 19 = .ok (.athrow, 1) := by decide +kernel
theorem dX3_fileAt_20 : decode cX3_fileAt 20 = .ok (.aload_n 0, 1) := by decide +kernel
theorem dX3_fileAt_21 : decode cX3_fileAt 21 = .ok (.getfield 25, 3) := by decide +kernel
theorem dX3_fileAt_24 : decode cX3_fileAt 24 = .ok (.iload_n 1, 1) := by decide +kernel
theorem dX3_fileAt_25 : decode cX3_fileAt 25 = .ok (.aaload, 1) := by decide +kernel
theorem dX3_fileAt_26 : decode cX3_fileAt 26 = .ok (.areturn, 1) := by decide +kernel
theorem dX3_fillFile_0 : decode cX3_fillFile 0 = .ok (.aload_n 0, 1) := by decide +kernel
theorem dX3_fillFile_1 : decode cX3_fillFile 1 = .ok (.getfield 19, 3) := by decide +kernel
theorem dX3_fillFile_4 : decode cX3_fillFile 4 = .ok (.getfield 152, 3) := by decide +kernel
theorem dX3_fillFile_7 : decode cX3_fillFile 7 = .ok (.istore 4, 2) := by decide +kernel
theorem dX3_fillFile_9 : decode cX3_fillFile 9 = .ok (.aload_n 0, 1) := by decide +kernel
theorem dX3_fillFile_10 : decode cX3_fillFile 10 = .ok (.aload_n 2, 1) := by decide +kernel
theorem dX3_fillFile_11 : decode cX3_fillFile 11 = .ok (.iload_n 3, 1) := by decide +kernel
theorem dX3_fillFile_12 : decode cX3_fillFile 12 = .ok (.invokevirtual 156, 3) := by decide +kernel
theorem dX3_fillFile_15 : decode cX3_fillFile 15 = .ok (.istore 5, 2) := by decide +kernel
theorem dX3_fillFile_17 : decode cX3_fillFile 17 = .ok (.iload 5, 2) := by decide +kernel
theorem dX3_fillFile_19 : decode cX3_fillFile 19 = .ok (.iconst (-1), 1) := by decide +kernel
theorem dX3_fillFile_20 : decode cX3_fillFile 20 = .ok (.if_icmp .ne 13, 3) := by decide +kernel
theorem dX3_fillFile_23 : decode cX3_fillFile 23 = .ok (.new 69, 3) := by decide +kernel
theorem dX3_fillFile_26 : decode cX3_fillFile 26 = .ok (.dup, 1) := by decide +kernel
theorem dX3_fillFile_27 : decode cX3_fillFile 27 = .ok (.ldc 160, 2) := by decide +kernel
theorem dX3_fillFile_29 : decode cX3_fillFile 29 = .ok (.invokespecial 73, 3) := by decide +kernel
theorem dX3_fillFile_32 : decode cX3_fillFile 32 = .ok (.athrow, 1) := by decide +kernel
theorem dX3_fillFile_33 : decode cX3_fillFile 33 = .ok (.aload_n 0, 1) := by decide +kernel
theorem dX3_fillFile_34 : decode cX3_fillFile 34 = .ok (.getfield 19, 3) := by decide +kernel
theorem dX3_fillFile_37 : decode cX3_fillFile 37 = .ok (.getfield 152, 3) := by decide +kernel
theorem dX3_fillFile_40 : decode cX3_fillFile 40 = .ok (.iload 4, 2) := by decide +kernel
theorem dX3_fillFile_42 : decode cX3_fillFile 42 = .ok (.isub, 1) := by decide +kernel
theorem dX3_fillFile_43 : decode cX3_fillFile 43 = .ok (.istore 6, 2) := by decide +kernel
theorem dX3_fillFile_45 : decode cX3_fillFile 45 = .ok (.aload_n 0, 1) := by decide +kernel
theorem dX3_fillFile_46 : decode cX3_fillFile 46 = .ok (.aload_n 1, 1) := by decide +kernel
theorem dX3_fillFile_47 : decode cX3_fillFile 47 = .ok (.getfield 102, 3) := by decide +kernel
theorem dX3_fillFile_50 : decode cX3_fillFile 50 = .ok (.aload_n 1, 1) := by decide +kernel
theorem dX3_fillFile_51 : decode cX3_fillFile 51 = .ok (.getfield 99, 3) := by decide +kernel
theorem dX3_fillFile_54 : decode cX3_fillFile 54 = .ok (.invokevirtual 109, 3) := by decide +kernel
theorem dX3_fillFile_57 : decode cX3_fillFile 57 = .ok (.aload_n 1, 1) := by decide +kernel
theorem dX3_fillFile_58 : decode cX3_fillFile 58 = .ok (.aload_n 0, 1) := by decide +kernel
theorem dX3_fillFile_59 : decode cX3_fillFile 59 = .ok (.getfield 40, 3) := by decide +kernel
theorem dX3_fillFile_62 : decode cX3_fillFile 62 = .ok (.iload 5, 2) := by decide +kernel
theorem dX3_fillFile_64 : decode cX3_fillFile 64 = .ok (.iload_n 3, 1) := by decide +kernel
theorem dX3_fillFile_65 : decode cX3_fillFile 65 = .ok (.invokevirtual 113, 3) := by decide +kernel
theorem dX3_fillFile_68 : decode cX3_fillFile 68 = .ok (.aload_n 0, 1) := by decide +kernel
theorem dX3_fillFile_69 : decode cX3_fillFile 69 = .ok (.iconst 0, 1) := by decide +kernel
theorem dX3_fillFile_70 : decode cX3_fillFile 70 = .ok (.putfield 33, 3) := by decide +kernel
theorem dX3_fillFile_73 : decode cX3_fillFile 73 = .ok (.iload 6, 2) := by decide +kernel
theorem dX3_fillFile_75 : decode cX3_fillFile 75 = .ok (.ireturn, 1) := by decide +kernel
theorem dX3_takeParts_0 : decode cX3_takeParts 0 = .ok (.iconst 0, 1) := by decide +kernel
theorem dX3_takeParts_1 : decode cX3_takeParts 1 = .ok (.istore_n 3, 1) := by decide +kernel
theorem dX3_takeParts_2 : decode cX3_takeParts 2 = .ok (.iconst 0, 1) := by decide +kernel
theorem dX3_takeParts_3 : decode cX3_takeParts 3 = .ok (.istore 4, 2) := by decide +kernel
theorem dX3_takeParts_5 : decode cX3_takeParts 5 = .ok (.iload 4, 2) := by decide +kernel
theorem dX3_takeParts_7 : decode cX3_takeParts 7 = .ok (.iload_n 2, 1) := by decide +kernel
theorem dX3_takeParts_8 : decode cX3_takeParts 8 = .ok (.if_icmp .ge 72, 3) := by decide +kernel
theorem dX3_takeParts_11 : decode cX3_takeParts 11 = .ok (.iload_n 3, 1) := by decide +kernel
theorem dX3_takeParts_12 : decode cX3_takeParts 12 = .ok (.sipush 1500, 3) := by decide +kernel
theorem dX3_takeParts_15 : decode cX3_takeParts 15 = .ok (.if_icmp .ge 65, 3) := by decide +kernel
theorem dX3_takeParts_18 : decode cX3_takeParts 18 = .ok (.aload_n 0, 1) := by decide +kernel
theorem dX3_takeParts_19 : decode cX3_takeParts 19 = .ok (.getfield 10, 3) := by decide +kernel
theorem dX3_takeParts_22 : decode cX3_takeParts 22 = .ok (.aload_n 1, 1) := by decide +kernel
theorem dX3_takeParts_23 : decode cX3_takeParts 23 = .ok (.iload 4, 2) := by decide +kernel
theorem dX3_takeParts_25 : decode cX3_takeParts 25 = .ok (.iload_n 2, 1) := by decide +kernel
theorem dX3_takeParts_26 : decode cX3_takeParts 26 = .ok (.invokevirtual 162, 3) := by decide +kernel
theorem dX3_takeParts_29 : decode cX3_takeParts 29 = .ok (.istore 5, 2) := by decide +kernel
theorem dX3_takeParts_31 : decode cX3_takeParts 31 = .ok (.aload_n 0, 1) := by decide +kernel
theorem dX3_takeParts_32 : decode cX3_takeParts 32 = .ok (.getfield 19, 3) := by decide +kernel
theorem dX3_takeParts_35 : decode cX3_takeParts 35 = .ok (.aload_n 1, 1) := by decide +kernel
theorem dX3_takeParts_36 : decode cX3_takeParts 36 = .ok (.iload 4, 2) := by decide +kernel
theorem dX3_takeParts_38 : decode cX3_takeParts 38 = .ok (.iload 5, 2) := by decide +kernel
theorem dX3_takeParts_40 : decode cX3_takeParts 40 = .ok (.invokevirtual 166, 3) := by decide +kernel
theorem dX3_takeParts_43 : decode cX3_takeParts 43 = .ok (.istore 6, 2) := by decide +kernel
theorem dX3_takeParts_45 : decode cX3_takeParts 45 = .ok (.iload 6, 2) := by decide +kernel
theorem dX3_takeParts_47 : decode cX3_takeParts 47 = .ok (.iconst (-1), 1) := by decide +kernel
theorem dX3_takeParts_48 : decode cX3_takeParts 48 = .ok (.if_icmp .ne 14, 3) := by decide +kernel
theorem dX3_takeParts_51 : decode cX3_takeParts 51 = .ok (.aload_n 0, 1) := by decide +kernel
theorem dX3_takeParts_52 : decode cX3_takeParts 52 = .ok (.aload_n 0, 1) := by decide +kernel
theorem dX3_takeParts_53 : decode cX3_takeParts 53 = .ok (.getfield 40, 3) := by decide +kernel
theorem dX3_takeParts_56 : decode cX3_takeParts 56 = .ok (.iload_n 3, 1) := by decide +kernel
theorem dX3_takeParts_57 : decode cX3_takeParts 57 = .ok (.invokevirtual 109, 3) := by decide +kernel
theorem dX3_takeParts_60 : decode cX3_takeParts 60 = .ok (.iconst (-1), 1) := by decide +kernel
theorem dX3_takeParts_61 : decode cX3_takeParts 61 = .ok (.ireturn, 1) := by decide +kernel
theorem dX3_takeParts_62 : decode cX3_takeParts 62 = .ok (.aload_n 0, 1) := by decide +kernel
theorem dX3_takeParts_63 : decode cX3_takeParts 63 = .ok (.getfield 40, 3) := by decide +kernel
theorem dX3_takeParts_66 : decode cX3_takeParts 66 = .ok (.iload_n 3, 1) := by decide +kernel
theorem dX3_takeParts_67 : decode cX3_takeParts 67 = .ok (.iload 6, 2) := by decide +kernel
theorem dX3_takeParts_69 : decode cX3_takeParts 69 = .ok (.iastore, 1) := by decide +kernel
theorem dX3_takeParts_70 : decode cX3_takeParts 70 = .ok (.iinc 3 1, 3) := by decide +kernel
theorem dX3_takeParts_73 : decode cX3_takeParts 73 = .ok (.iload 5, 2) := by decide +kernel
theorem dX3_takeParts_75 : decode cX3_takeParts 75 = .ok (.istore 4, 2) := by decide +kernel
theorem dX3_takeParts_77 : decode cX3_takeParts 77 = .ok (.goto (-72), 3) := by decide +kernel
theorem dX3_takeParts_80 : decode cX3_takeParts 80 = .ok (.iload_n 3, 1) := by decide +kernel
theorem dX3_takeParts_81 : decode cX3_takeParts 81 = .ok (.ireturn, 1) := by decide +kernel
theorem dX3_giveBack_0 : decode cX3_giveBack 0 = .ok (.iconst 0, 1) := by decide +kernel
theorem dX3_giveBack_1 : decode cX3_giveBack 1 = .ok (.istore_n 3, 1) := by decide +kernel
theorem dX3_giveBack_2 : decode cX3_giveBack 2 = .ok (.iload_n 3, 1) := by decide +kernel
theorem dX3_giveBack_3 : decode cX3_giveBack 3 = .ok (.iload_n 2, 1) := by decide +kernel
theorem dX3_giveBack_4 : decode cX3_giveBack 4 = .ok (.if_icmp .ge 19, 3) := by decide +kernel
theorem dX3_giveBack_7 : decode cX3_giveBack 7 = .ok (.aload_n 0, 1) := by decide +kernel
theorem dX3_giveBack_8 : decode cX3_giveBack 8 = .ok (.getfield 19, 3) := by decide +kernel
theorem dX3_giveBack_11 : decode cX3_giveBack 11 = .ok (.aload_n 1, 1) := by decide +kernel
theorem dX3_giveBack_12 : decode cX3_giveBack 12 = .ok (.iload_n 3, 1) := by decide +kernel
theorem dX3_giveBack_13 : decode cX3_giveBack 13 = .ok (.iaload, 1) := by decide +kernel
theorem dX3_giveBack_14 : decode cX3_giveBack 14 = .ok (.invokevirtual 169, 3) := by decide +kernel
theorem dX3_giveBack_17 : decode cX3_giveBack 17 = .ok (.iinc 3 1, 3) := by decide +kernel
theorem dX3_giveBack_20 : decode cX3_giveBack 20 = .ok (.goto (-18), 3) := by decide +kernel
theorem dX3_giveBack_23 : decode cX3_giveBack 23 = .ok (.return_, 1) := by decide +kernel
theorem dX3_layOut_0 : decode cX3_layOut 0 = .ok (.iconst 0, 1) := by decide +kernel
theorem dX3_layOut_1 : decode cX3_layOut 1 = .ok (.istore_n 2, 1) := by decide +kernel
theorem dX3_layOut_2 : decode cX3_layOut 2 = .ok (.iconst 0, 1) := by decide +kernel
theorem dX3_layOut_3 : decode cX3_layOut 3 = .ok (.istore_n 3, 1) := by decide +kernel
theorem dX3_layOut_4 : decode cX3_layOut 4 = .ok (.iload_n 3, 1) := by decide +kernel
theorem dX3_layOut_5 : decode cX3_layOut 5 = .ok (.aload_n 1, 1) := by decide +kernel
theorem dX3_layOut_6 : decode cX3_layOut 6 = .ok (.getfield 99, 3) := by decide +kernel
theorem dX3_layOut_9 : decode cX3_layOut 9 = .ok (.if_icmp .ge 30, 3) := by decide +kernel
theorem dX3_layOut_12 : decode cX3_layOut 12 = .ok (.iload_n 2, 1) := by decide +kernel
theorem dX3_layOut_13 : decode cX3_layOut 13 = .ok (.aload_n 0, 1) := by decide +kernel
theorem dX3_layOut_14 : decode cX3_layOut 14 = .ok (.getfield 19, 3) := by decide +kernel
theorem dX3_layOut_17 : decode cX3_layOut 17 = .ok (.aload_n 1, 1) := by decide +kernel
theorem dX3_layOut_18 : decode cX3_layOut 18 = .ok (.getfield 102, 3) := by decide +kernel
theorem dX3_layOut_21 : decode cX3_layOut 21 = .ok (.iload_n 3, 1) := by decide +kernel
theorem dX3_layOut_22 : decode cX3_layOut 22 = .ok (.iaload, 1) := by decide +kernel
theorem dX3_layOut_23 : decode cX3_layOut 23 = .ok (.aload_n 0, 1) := by decide +kernel
theorem dX3_layOut_24 : decode cX3_layOut 24 = .ok (.getfield 37, 3) := by decide +kernel
theorem dX3_layOut_27 : decode cX3_layOut 27 = .ok (.iload_n 2, 1) := by decide +kernel
theorem dX3_layOut_28 : decode cX3_layOut 28 = .ok (.invokevirtual 171, 3) := by decide +kernel
theorem dX3_layOut_31 : decode cX3_layOut 31 = .ok (.iadd, 1) := by decide +kernel
theorem dX3_layOut_32 : decode cX3_layOut 32 = .ok (.istore_n 2, 1) := by decide +kernel
theorem dX3_layOut_33 : decode cX3_layOut 33 = .ok (.iinc 3 1, 3) := by decide +kernel
theorem dX3_layOut_36 : decode cX3_layOut 36 = .ok (.goto (-32), 3) := by decide +kernel
theorem dX3_layOut_39 : decode cX3_layOut 39 = .ok (.return_, 1) := by decide +kernel
theorem dX3_filesWith_0 : decode cX3_filesWith 0 = .ok (.iconst 0, 1) := by decide +kernel
theorem dX3_filesWith_1 : decode cX3_filesWith 1 = .ok (.istore_n 2, 1) := by decide +kernel
theorem dX3_filesWith_2 : decode cX3_filesWith 2 = .ok (.iconst 0, 1) := by decide +kernel
theorem dX3_filesWith_3 : decode cX3_filesWith 3 = .ok (.istore_n 3, 1) := by decide +kernel
theorem dX3_filesWith_4 : decode cX3_filesWith 4 = .ok (.iload_n 3, 1) := by decide +kernel
theorem dX3_filesWith_5 : decode cX3_filesWith 5 = .ok (.bipush 16, 2) := by decide +kernel
theorem dX3_filesWith_7 : decode cX3_filesWith 7 = .ok (.if_icmp .ge 25, 3) := by decide +kernel
theorem dX3_filesWith_10 : decode cX3_filesWith 10 = .ok (.aload_n 0, 1) := by decide +kernel
theorem dX3_filesWith_11 : decode cX3_filesWith 11 = .ok (.getfield 25, 3) := by decide +kernel
theorem dX3_filesWith_14 : decode cX3_filesWith 14 = .ok (.iload_n 3, 1) := by decide +kernel
theorem dX3_filesWith_15 : decode cX3_filesWith 15 = .ok (.aaload, 1) := by decide +kernel
theorem dX3_filesWith_16 : decode cX3_filesWith 16 = .ok (.iload_n 1, 1) := by decide +kernel
theorem dX3_filesWith_17 : decode cX3_filesWith 17 = .ok (.invokevirtual 175, 3) := by decide +kernel
theorem dX3_filesWith_20 : decode cX3_filesWith 20 = .ok (.ifCond .eq 6, 3) := by decide +kernel
theorem dX3_filesWith_23 : decode cX3_filesWith 23 = .ok (.iinc 2 1, 3) := by decide +kernel
theorem dX3_filesWith_26 : decode cX3_filesWith 26 = .ok (.iinc 3 1, 3) := by decide +kernel
theorem dX3_filesWith_29 : decode cX3_filesWith 29 = .ok (.goto (-25), 3) := by decide +kernel
theorem dX3_filesWith_32 : decode cX3_filesWith 32 = .ok (.iload_n 2, 1) := by decide +kernel
theorem dX3_filesWith_33 : decode cX3_filesWith 33 = .ok (.ireturn, 1) := by decide +kernel
theorem dX4_init_0 : decode cX4_init 0 = .ok (.aload_n 0, 1) := by decide +kernel
theorem dX4_init_1 : decode cX4_init 1 = .ok (.invokespecial 1, 3) := by decide +kernel
theorem dX4_init_4 : decode cX4_init 4 = .ok (.aload_n 0, 1) := by decide +kernel
theorem dX4_init_5 : decode cX4_init 5 = .ok (.iconst 4, 1) := by decide +kernel
theorem dX4_init_6 : decode cX4_init 6 = .ok (.putfield 7, 3) := by decide +kernel
theorem dX4_init_9 : decode cX4_init 9 = .ok (.aload_n 0, 1) := by decide +kernel
theorem dX4_init_10 : decode cX4_init 10 = .ok (.iconst 4, 1) := by decide +kernel
theorem dX4_init_11 : decode cX4_init 11 = .ok (.putfield 13, 3) := by decide +kernel

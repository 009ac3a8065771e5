theorem dX4_init_14 : decode cX4_init 14 = .ok (.aload_n 0, 1) := by decide +kernel
theorem dX4_init_15 : decode cX4_init 15 = .ok (.bipush 32, 2) := by decide +kernel
theorem dX4_init_17 : decode cX4_init 17 = .ok (.putfield 16, 3) := by decide +kernel
theorem dX4_init_20 : decode cX4_init 20 = .ok (.aload_n 0, 1) := by decide +kernel
theorem dX4_init_21 : decode cX4_init 21 = .ok (.sipush 1500, 3) := by decide +kernel
theorem dX4_init_24 : decode cX4_init 24 = .ok (.newarray .int, 2) := by decide +kernel
theorem dX4_init_26 : decode cX4_init 26 = .ok (.putfield 19, 3) := by decide +kernel
theorem dX4_init_29 : decode cX4_init 29 = .ok (.aload_n 0, 1) := by decide +kernel
theorem dX4_init_30 : decode cX4_init 30 = .ok (.sipush 1500, 3) := by decide +kernel
theorem dX4_init_33 : decode cX4_init 33 = .ok (.newarray .int, 2) := by decide +kernel
theorem dX4_init_35 : decode cX4_init 35 = .ok (.putfield 23, 3) := by decide +kernel
theorem dX4_init_38 : decode cX4_init 38 = .ok (.aload_n 0, 1) := by decide +kernel
theorem dX4_init_39 : decode cX4_init 39 = .ok (.sipush 1500, 3) := by decide +kernel
theorem dX4_init_42 : decode cX4_init 42 = .ok (.newarray .int, 2) := by decide +kernel
theorem dX4_init_44 : decode cX4_init 44 = .ok (.putfield 26, 3) := by decide +kernel
theorem dX4_init_47 : decode cX4_init 47 = .ok (.aload_n 0, 1) := by decide +kernel
theorem dX4_init_48 : decode cX4_init 48 = .ok (.sipush 1500, 3) := by decide +kernel
theorem dX4_init_51 : decode cX4_init 51 = .ok (.newarray .int, 2) := by decide +kernel
theorem dX4_init_53 : decode cX4_init 53 = .ok (.putfield 29, 3) := by decide +kernel
theorem dX4_init_56 : decode cX4_init 56 = .ok (.aload_n 0, 1) := by decide +kernel
theorem dX4_init_57 : decode cX4_init 57 = .ok (.sipush 400, 3) := by decide +kernel
theorem dX4_init_60 : decode cX4_init 60 = .ok (.newarray .boolean, 2) := by decide +kernel
theorem dX4_init_62 : decode cX4_init 62 = .ok (.putfield 32, 3) := by decide +kernel
theorem dX4_init_65 : decode cX4_init 65 = .ok (.aload_n 0, 1) := by decide +kernel
theorem dX4_init_66 : decode cX4_init 66 = .ok (.bipush 16, 2) := by decide +kernel
theorem dX4_init_68 : decode cX4_init 68 = .ok (.newarray .int, 2) := by decide +kernel
theorem dX4_init_70 : decode cX4_init 70 = .ok (.putfield 36, 3) := by decide +kernel
theorem dX4_init_73 : decode cX4_init 73 = .ok (.aload_n 0, 1) := by decide +kernel
theorem dX4_init_74 : decode cX4_init 74 = .ok (.sipush 24000, 3) := by decide +kernel
theorem dX4_init_77 : decode cX4_init 77 = .ok (.newarray .int, 2) := by decide +kernel
theorem dX4_init_79 : decode cX4_init 79 = .ok (.putfield 39, 3) := by decide +kernel
theorem dX4_init_82 : decode cX4_init 82 = .ok (.aload_n 0, 1) := by decide +kernel
theorem dX4_init_83 : decode cX4_init 83 = .ok (.bipush 16, 2) := by decide +kernel
theorem dX4_init_85 : decode cX4_init 85 = .ok (.newarray .int, 2) := by decide +kernel
theorem dX4_init_87 : decode cX4_init 87 = .ok (.putfield 42, 3) := by decide +kernel
theorem dX4_init_90 : decode cX4_init 90 = .ok (.aload_n 0, 1) := by decide +kernel
theorem dX4_init_91 : decode cX4_init 91 = .ok (.sipush 24000, 3) := by decide +kernel
theorem dX4_init_94 : decode cX4_init 94 = .ok (.newarray .int, 2) := by decide +kernel
theorem dX4_init_96 : decode cX4_init 96 = .ok (.putfield 45, 3) := by decide +kernel
theorem dX4_init_99 : decode cX4_init 99 = .ok (.aload_n 0, 1) := by decide +kernel
theorem dX4_init_100 : decode cX4_init 100 = .ok (.sipush 400, 3) := by decide +kernel
theorem dX4_init_103 : decode cX4_init 103 = .ok (.newarray .int, 2) := by decide +kernel
theorem dX4_init_105 : decode cX4_init 105 = .ok (.putfield 48, 3) := by decide +kernel
theorem dX4_init_108 : decode cX4_init 108 = .ok (.aload_n 0, 1) := by decide +kernel
theorem dX4_init_109 : decode cX4_init 109 = .ok (.sipush 400, 3) := by decide +kernel
theorem dX4_init_112 : decode cX4_init 112 = .ok (.newarray .int, 2) := by decide +kernel
theorem dX4_init_114 : decode cX4_init 114 = .ok (.putfield 51, 3) := by decide +kernel
theorem dX4_init_117 : decode cX4_init 117 = .ok (.aload_n 0, 1) := by decide +kernel
theorem dX4_init_118 : decode cX4_init 118 = .ok (.sipush 25600, 3) := by decide +kernel
theorem dX4_init_121 : decode cX4_init 121 = .ok (.newarray .int, 2) := by decide +kernel
theorem dX4_init_123 : decode cX4_init 123 = .ok (.putfield 54, 3) := by decide +kernel
theorem dX4_init_126 : decode cX4_init 126 = .ok (.return_, 1) := by decide +kernel
theorem dX4_thrown_0 : decode cX4_thrown 0 = .ok (.aload_n 0, 1) := by decide +kernel
theorem dX4_thrown_1 : decode cX4_thrown 1 = .ok (.getfield 57, 3) := by decide +kernel
theorem dX4_thrown_4 : decode cX4_thrown 4 = .ok (.ireturn, 1) := by decide +kernel
theorem dX4_refuse_0 : decode cX4_refuse 0 = .ok (.aload_n 0, 1) := by decide +kernel
theorem dX4_refuse_1 : decode cX4_refuse 1 = .ok (.iload_n 1, 1) := by decide +kernel
theorem dX4_refuse_2 : decode cX4_refuse 2 = .ok (.ifCond .eq 7, 3) := by decide +kernel
theorem dX4_refuse_5 : decode cX4_refuse 5 = .ok (.iconst 1, 1) := by decide +kernel
theorem dX4_refuse_6 : decode cX4_refuse 6 = .ok (.goto 20, 3) := by decide +kernel
theorem dX4_refuse_9 : decode cX4_refuse 9 = .ok (.iload_n 2, 1) := by decide +kernel
theorem dX4_refuse_10 : decode cX4_refuse 10 = .ok (.ifCond .eq 7, 3) := by decide +kernel
theorem dX4_refuse_13 : decode cX4_refuse 13 = .ok (.iconst 2, 1) := by decide +kernel
theorem dX4_refuse_14 : decode cX4_refuse 14 = .ok (.goto 12, 3) := by decide +kernel
theorem dX4_refuse_17 : decode cX4_refuse 17 = .ok (.iload_n 3, 1) := by decide +kernel
theorem dX4_refuse_18 : decode cX4_refuse 18 = .ok (.ifCond .eq 7, 3) := by decide +kernel
theorem dX4_refuse_21 : decode cX4_refuse 21 = .ok (.iconst 3, 1) := by decide +kernel
theorem dX4_refuse_22 : decode cX4_refuse 22 = .ok (.goto 4, 3) := by decide +kernel
theorem dX4_refuse_25 : decode cX4_refuse 25 = .ok (.iconst 0, 1) := by decide +kernel
theorem dX4_refuse_26 : decode cX4_refuse 26 = .ok (.putfield 57, 3) := by decide +kernel
theorem dX4_refuse_29 : decode cX4_refuse 29 = .ok (.aload_n 0, 1) := by decide +kernel
theorem dX4_refuse_30 : decode cX4_refuse 30 = .ok (.getfield 57, 3) := by decide +kernel
theorem dX4_refuse_33 : decode cX4_refuse 33 = .ok (.ifCond .le 7, 3) := by decide +kernel
theorem dX4_refuse_36 : decode cX4_refuse 36 = .ok (.iconst 1, 1) := by decide +kernel
theorem dX4_refuse_37 : decode cX4_refuse 37 = .ok (.goto 4, 3) := by decide +kernel
theorem dX4_refuse_40 : decode cX4_refuse 40 = .ok (.iconst 0, 1) := by decide +kernel
theorem dX4_refuse_41 : decode cX4_refuse 41 = .ok (.ireturn, 1) := by decide +kernel
theorem dX4_in_0 : decode cX4_in 0 = .ok (.iload_n 0, 1) := by decide +kernel
theorem dX4_in_1 : decode cX4_in 1 = .ok (.iload_n 1, 1) := by decide +kernel
theorem dX4_in_2 : decode cX4_in 2 = .ok (.if_icmp .lt 12, 3) := by decide +kernel
theorem dX4_in_5 : decode cX4_in 5 = .ok (.iload_n 0, 1) := by decide +kernel
theorem dX4_in_6 : decode cX4_in 6 = .ok (.iload_n 2, 1) := by decide +kernel
theorem dX4_in_7 : decode cX4_in 7 = .ok (.if_icmp .gt 7, 3) := by decide +kernel
theorem dX4_in_10 : decode cX4_in 10 = .ok (.iconst 1, 1) := by decide +kernel
theorem dX4_in_11 : decode cX4_in 11 = .ok (.goto 4, 3) := by decide +kernel
theorem dX4_in_14 : decode cX4_in 14 = .ok (.iconst 0, 1) := by decide +kernel
theorem dX4_in_15 : decode cX4_in 15 = .ok (.ireturn, 1) := by decide +kernel
theorem dX4_isFile_0 : decode cX4_isFile 0 = .ok (.iload_n 0, 1) := by decide +kernel
theorem dX4_isFile_1 : decode cX4_isFile 1 = .ok (.iconst 0, 1) := by decide +kernel
theorem dX4_isFile_2 : decode cX4_isFile 2 = .ok (.bipush 15, 2) := by decide +kernel
theorem dX4_isFile_4 : decode cX4_isFile 4 = .ok (.invokestatic 60, 3) := by decide +kernel
theorem dX4_isFile_7 : decode cX4_isFile 7 = .ok (.ireturn, 1) := by decide +kernel
theorem dX4_begin_0 : decode cX4_begin 0 = .ok (.iload_n 1, 1) := by decide +kernel
theorem dX4_begin_1 : decode cX4_begin 1 = .ok (.iconst 1, 1) := by decide +kernel
theorem dX4_begin_2 : decode cX4_begin 2 = .ok (.bipush 8, 2) := by decide +kernel
theorem dX4_begin_4 : decode cX4_begin 4 = .ok (.invokestatic 60, 3) := by decide +kernel
theorem dX4_begin_7 : decode cX4_begin 7 = .ok (.ifCond .eq 27, 3) := by decide +kernel
theorem dX4_begin_10 : decode cX4_begin 10 = .ok (.iload_n 2, 1) := by decide +kernel
theorem dX4_begin_11 : decode cX4_begin 11 = .ok (.iconst 1, 1) := by decide +kernel
theorem dX4_begin_12 : decode cX4_begin 12 = .ok (.bipush 32, 2) := by decide +kernel
theorem dX4_begin_14 : decode cX4_begin 14 = .ok (.invokestatic 60, 3) := by decide +kernel
theorem dX4_begin_17 : decode cX4_begin 17 = .ok (.ifCond .eq 17, 3) := by decide +kernel
theorem dX4_begin_20 : decode cX4_begin 20 = .ok (.iload_n 3, 1) := by decide +kernel
theorem dX4_begin_21 : decode cX4_begin 21 = .ok (.iload_n 2, 1) := by decide +kernel
theorem dX4_begin_22 : decode cX4_begin 22 = .ok (.bipush 64, 2) := by decide +kernel
theorem dX4_begin_24 : decode cX4_begin 24 = .ok (.invokestatic 60, 3) := by decide +kernel
theorem dX4_begin_27 : decode cX4_begin 27 = .ok (.ifCond .eq 7, 3) := by decide +kernel
theorem dX4_begin_30 : decode cX4_begin 30 = .ok (.iconst 1, 1) := by decide +kernel
theorem dX4_begin_31 : decode cX4_begin 31 = .ok (.goto 4, 3) := by decide +kernel
theorem dX4_begin_34 : decode cX4_begin 34 = .ok (.iconst 0, 1) := by decide +kernel
theorem dX4_begin_35 : decode cX4_begin 35 = .ok (.istore 4, 2) := by decide +kernel
theorem dX4_begin_37 : decode cX4_begin 37 = .ok (.aload_n 0, 1) := by decide +kernel
theorem dX4_begin_38 : decode cX4_begin 38 = .ok (.iload 4, 2) := by decide +kernel
theorem dX4_begin_40 : decode cX4_begin 40 = .ok (.ifCond .ne 7, 3) := by decide +kernel
theorem dX4_begin_43 : decode cX4_begin 43 = .ok (.iconst 1, 1) := by decide +kernel
theorem dX4_begin_44 : decode cX4_begin 44 = .ok (.goto 4, 3) := by decide +kernel
theorem dX4_begin_47 : decode cX4_begin 47 = .ok (.iconst 0, 1) := by decide +kernel
theorem dX4_begin_48 : decode cX4_begin 48 = .ok (.iconst 0, 1) := by decide +kernel
theorem dX4_begin_49 : decode cX4_begin 49 = .ok (.iconst 0, 1) := by decide +kernel
theorem dX4_begin_50 : decode cX4_begin 50 = .ok (.invokevirtual 64, 3) := by decide +kernel
theorem dX4_begin_53 : decode cX4_begin 53 = .ok (.ifCond .ne 75, 3) := by decide +kernel
theorem dX4_begin_56 : decode cX4_begin 56 = .ok (.aload_n 0, 1) := by decide +kernel
theorem dX4_begin_57 : decode cX4_begin 57 = .ok (.iload_n 1, 1) := by decide +kernel
theorem dX4_begin_58 : decode cX4_begin 58 = .ok (.putfield 7, 3) := by decide +kernel
theorem dX4_begin_61 : decode cX4_begin 61 = .ok (.aload_n 0, 1) := by decide +kernel
theorem dX4_begin_62 : decode cX4_begin 62 = .ok (.iload_n 2, 1) := by decide +kernel
theorem dX4_begin_63 : decode cX4_begin 63 = .ok (.putfield 13, 3) := by decide +kernel
theorem dX4_begin_66 : decode cX4_begin 66 = .ok (.aload_n 0, 1) := by decide +kernel
theorem dX4_begin_67 : decode cX4_begin 67 = .ok (.iload_n 3, 1) := by decide +kernel
theorem dX4_begin_68 : decode cX4_begin 68 = .ok (.putfield 16, 3) := by decide +kernel
theorem dX4_begin_71 : decode cX4_begin 71 = .ok (.iconst 0, 1) := by decide +kernel
theorem dX4_begin_72 : decode cX4_begin 72 = .ok (.istore 5, 2) := by decide +kernel
theorem dX4_begin_74 : decode cX4_begin 74 = .ok (.iload 5, 2) := by decide +kernel
theorem dX4_begin_76 : decode cX4_begin 76 = .ok (.bipush 16, 2) := by decide +kernel
theorem dX4_begin_78 : decode cX4_begin 78 = .ok (.if_icmp .ge 25, 3) := by decide +kernel
theorem dX4_begin_81 : decode cX4_begin 81 = .ok (.aload_n 0, 1) := by decide +kernel
theorem dX4_begin_82 : decode cX4_begin 82 = .ok (.getfield 36, 3) := by decide +kernel
theorem dX4_begin_85 : decode cX4_begin 85 = .ok (.iload 5, 2) := by decide +kernel
theorem dX4_begin_87 : decode cX4_begin 87 = .ok (.iconst 0, 1) := by decide +kernel
theorem dX4_begin_88 : decode cX4_begin 88 = .ok (.iastore, 1) := by decide +kernel
theorem dX4_begin_89 : decode cX4_begin 89 = .ok (.aload_n 0, 1) := by decide +kernel
theorem dX4_begin_90 : decode cX4_begin 90 = .ok (.getfield 42, 3) := by decide +kernel
theorem dX4_begin_93 : decode cX4_begin 93 = .ok (.iload 5, 2) := by decide +kernel
theorem dX4_begin_95 : decode cX4_begin 95 = .ok (.iconst 0, 1) := by decide +kernel
theorem dX4_begin_96 : decode cX4_begin 96 = .ok (.iastore, 1) := by decide +kernel
theorem dX4_begin_97 : decode cX4_begin 97 = .ok (.iinc 5 1, 3) := by decide +kernel
theorem dX4_begin_100 : decode cX4_begin 100 = .ok (.goto (-26), 3) := by decide +kernel
theorem dX4_begin_103 : decode cX4_begin 103 = .ok (.iconst 0, 1) := by decide +kernel
theorem dX4_begin_104 : decode cX4_begin 104 = .ok (.istore 5, 2) := by decide +kernel
theorem dX4_begin_106 : decode cX4_begin 106 = .ok (.iload 5, 2) := by decide +kernel
theorem dX4_begin_108 : decode cX4_begin 108 = .ok (.sipush 400, 3) := by decide +kernel
theorem dX4_begin_111 : decode cX4_begin 111 = .ok (.if_icmp .ge 17, 3) := by decide +kernel
theorem dX4_begin_114 : decode cX4_begin 114 = .ok (.aload_n 0, 1) := by decide +kernel
theorem dX4_begin_115 : decode cX4_begin 115 = .ok (.getfield 48, 3) := by decide +kernel
theorem dX4_begin_118 : decode cX4_begin 118 = .ok (.iload 5, 2) := by decide +kernel
theorem dX4_begin_120 : decode cX4_begin 120 = .ok (.iconst 0, 1) := by decide +kernel
theorem dX4_begin_121 : decode cX4_begin 121 = .ok (.iastore, 1) := by decide +kernel
theorem dX4_begin_122 : decode cX4_begin 122 = .ok (.iinc 5 1, 3) := by decide +kernel
theorem dX4_begin_125 : decode cX4_begin 125 = .ok (.goto (-19), 3) := by decide +kernel
theorem dX4_begin_128 : decode cX4_begin 128 = .ok (.return_, 1) := by decide +kernel
theorem dX4_put_0 : decode cX4_put 0 = .ok (.iload_n 1, 1) := by decide +kernel
theorem dX4_put_1 : decode cX4_put 1 = .ok (.iconst 1, 1) := by decide +kernel
theorem dX4_put_2 : decode cX4_put 2 = .ok (.iconst 4, 1) := by decide +kernel
theorem dX4_put_3 : decode cX4_put 3 = .ok (.invokestatic 60, 3) := by decide +kernel
theorem dX4_put_6 : decode cX4_put 6 = .ok (.istore_n 3, 1) := by decide +kernel
theorem dX4_put_7 : decode cX4_put 7 = .ok (.aload_n 0, 1) := by decide +kernel
theorem dX4_put_8 : decode cX4_put 8 = .ok (.iload_n 3, 1) := by decide +kernel
theorem dX4_put_9 : decode cX4_put 9 = .ok (.ifCond .ne 7, 3) := by decide +kernel
theorem dX4_put_12 : decode cX4_put 12 = .ok (.iconst 1, 1) := by decide +kernel
theorem dX4_put_13 : decode cX4_put 13 = .ok (.goto 4, 3) := by decide +kernel
theorem dX4_put_16 : decode cX4_put 16 = .ok (.iconst 0, 1) := by decide +kernel
theorem dX4_put_17 : decode cX4_put 17 = .ok (.iload_n 3, 1) := by decide +kernel
theorem dX4_put_18 : decode cX4_put 18 = .ok (.ifCond .eq 19, 3) := by decide +kernel
theorem dX4_put_21 : decode cX4_put 21 = .ok (.aload_n 0, 1) := by decide +kernel
theorem dX4_put_22 : decode cX4_put 22 = .ok (.getfield 68, 3) := by decide +kernel
theorem dX4_put_25 : decode cX4_put 25 = .ok (.iload_n 1, 1) := by decide +kernel
theorem dX4_put_26 : decode cX4_put 26 = .ok (.iadd, 1) := by decide +kernel
theorem dX4_put_27 : decode cX4_put 27 = .ok (.sipush 1500, 3) := by decide +kernel
theorem dX4_put_30 : decode cX4_put 30 = .ok (.if_icmp .le 7, 3) := by decide +kernel
theorem dX4_put_33 : decode cX4_put 33 = .ok (.iconst 1, 1) := by decide +kernel
theorem dX4_put_34 : decode cX4_put 34 = .ok (.goto 4, 3) := by decide +kernel
theorem dX4_put_37 : decode cX4_put 37 = .ok (.iconst 0, 1) := by decide +kernel
theorem dX4_put_38 : decode cX4_put 38 = .ok (.iconst 0, 1) := by decide +kernel
theorem dX4_put_39 : decode cX4_put 39 = .ok (.invokevirtual 64, 3) := by decide +kernel
theorem dX4_put_42 : decode cX4_put 42 = .ok (.ifCond .eq 5, 3) := by decide +kernel
theorem dX4_put_45 : decode cX4_put 45 = .ok (.iconst 0, 1) := by decide +kernel
theorem dX4_put_46 : decode cX4_put 46 = .ok (.ireturn, 1) := by decide +kernel
theorem dX4_put_47 : decode cX4_put 47 = .ok (.iconst 0, 1) := by decide +kernel
theorem dX4_put_48 : decode cX4_put 48 = .ok (.istore 4, 2) := by decide +kernel
theorem dX4_put_50 : decode cX4_put 50 = .ok (.iload 4, 2) := by decide +kernel
theorem dX4_put_52 : decode cX4_put 52 = .ok (.iload_n 1, 1) := by decide +kernel
theorem dX4_put_53 : decode cX4_put 53 = .ok (.if_icmp .ge 39, 3) := by decide +kernel
theorem dX4_put_56 : decode cX4_put 56 = .ok (.aload_n 0, 1) := by decide +kernel
theorem dX4_put_57 : decode cX4_put 57 = .ok (.getfield 19, 3) := by decide +kernel
theorem dX4_put_60 : decode cX4_put 60 = .ok (.aload_n 0, 1) := by decide +kernel
theorem dX4_put_61 : decode cX4_put 61 = .ok (.getfield 68, 3) := by decide +kernel
theorem dX4_put_64 : decode cX4_put 64 = .ok (.iload_n 2, 1) := by decide +kernel
theorem dX4_put_65 : decode cX4_put 65 = .ok (.bipush 8, 2) := by decide +kernel
theorem dX4_put_67 : decode cX4_put 67 = .ok (.iload 4, 2) := by decide +kernel
theorem dX4_put_69 : decode cX4_put 69 = .ok (.imul, 1) := by decide +kernel
theorem dX4_put_70 : decode cX4_put 70 = .ok (.ishr, 1) := by decide +kernel
theorem dX4_put_71 : decode cX4_put 71 = .ok (.sipush 255, 3) := by decide +kernel
theorem dX4_put_74 : decode cX4_put 74 = .ok (.iand, 1) := by decide +kernel
theorem dX4_put_75 : decode cX4_put 75 = .ok (.iastore, 1) := by decide +kernel
theorem dX4_put_76 : decode cX4_put 76 = .ok (.aload_n 0, 1) := by decide +kernel
theorem dX4_put_77 : decode cX4_put 77 = .ok (.dup, 1) := by decide +kernel
theorem dX4_put_78 : decode cX4_put 78 = .ok (.getfield 68, 3) := by decide +kernel
theorem dX4_put_81 : decode cX4_put 81 = .ok (.iconst 1, 1) := by decide +kernel
theorem dX4_put_82 : decode cX4_put 82 = .ok (.iadd, 1) := by decide +kernel
theorem dX4_put_83 : decode cX4_put 83 = .ok (.putfield 68, 3) := by decide +kernel
theorem dX4_put_86 : decode cX4_put 86 = .ok (.iinc 4 1, 3) := by decide +kernel
theorem dX4_put_89 : decode cX4_put 89 = .ok (.goto (-39), 3) := by decide +kernel
theorem dX4_put_92 : decode cX4_put 92 = .ok (.aload_n 0, 1) := by decide +kernel
theorem dX4_put_93 : decode cX4_put 93 = .ok (.getfield 68, 3) := by decide +kernel
theorem dX4_put_96 : decode cX4_put 96 = .ok (.ireturn, 1) := by decide +kernel
theorem dX4_mark_0 : decode cX4_mark 0 = .ok (.iload_n 0, 1) := by decide +kernel
theorem dX4_mark_1 : decode cX4_mark 1 = .ok (.iconst 1, 1) := by decide +kernel
theorem dX4_mark_2 : decode cX4_mark 2 = .ok (.iadd, 1) := by decide +kernel
theorem dX4_mark_3 : decode cX4_mark 3 = .ok (.ldc 71, 2) := by decide +kernel
theorem dX4_mark_5 : decode cX4_mark 5 = .ok (.imul, 1) := by decide +kernel
theorem dX4_mark_6 : decode cX4_mark 6 = .ok (.istore_n 1, 1) := by decide +kernel
theorem dX4_mark_7 : decode cX4_mark 7 = .ok (.iload_n 1, 1) := by decide +kernel
theorem dX4_mark_8 : decode cX4_mark 8 = .ok (.iload_n 1, 1) := by decide +kernel
theorem dX4_mark_9 : decode cX4_mark 9 = .ok (.bipush 15, 2) := by decide +kernel
theorem dX4_mark_11 : decode cX4_mark 11 = .ok (.iushr, 1) := by decide +kernel
theorem dX4_mark_12 : decode cX4_mark 12 = .ok (.ixor, 1) := by decide +kernel
theorem dX4_mark_13 : decode cX4_mark 13 = .ok (.ireturn, 1) := by decide +kernel
theorem dX4_sum_0 : decode cX4_sum 0 = .ok (.iconst 0, 1) := by decide +kernel
theorem dX4_sum_1 : decode cX4_sum 1 = .ok (.istore_n 3, 1) := by decide +kernel
theorem dX4_sum_2 : decode cX4_sum 2 = .ok (.iconst 0, 1) := by decide +kernel
theorem dX4_sum_3 : decode cX4_sum 3 = .ok (.istore 4, 2) := by decide +kernel
theorem dX4_sum_5 : decode cX4_sum 5 = .ok (.iload 4, 2) := by decide +kernel
theorem dX4_sum_7 : decode cX4_sum 7 = .ok (.bipush 8, 2) := by decide +kernel
theorem dX4_sum_9 : decode cX4_sum 9 = .ok (.if_icmp .ge 61, 3) := by decide +kernel
theorem dX4_sum_12 : decode cX4_sum 12 = .ok (.iload_n 2, 1) := by decide +kernel
theorem dX4_sum_13 : decode cX4_sum 13 = .ok (.iconst 1, 1) := by decide +kernel
theorem dX4_sum_14 : decode cX4_sum 14 = .ok (.isub, 1) := by decide +kernel
theorem dX4_sum_15 : decode cX4_sum 15 = .ok (.iload 4, 2) := by decide +kernel
theorem dX4_sum_17 : decode cX4_sum 17 = .ok (.isub, 1) := by decide +kernel
theorem dX4_sum_18 : decode cX4_sum 18 = .ok (.iload_n 1, 1) := by decide +kernel
theorem dX4_sum_19 : decode cX4_sum 19 = .ok (.if_icmp .lt 51, 3) := by decide +kernel
theorem dX4_sum_22 : decode cX4_sum 22 = .ok (.aload_n 0, 1) := by decide +kernel
theorem dX4_sum_23 : decode cX4_sum 23 = .ok (.getfield 23, 3) := by decide +kernel
theorem dX4_sum_26 : decode cX4_sum 26 = .ok (.iload_n 2, 1) := by decide +kernel
theorem dX4_sum_27 : decode cX4_sum 27 = .ok (.iconst 1, 1) := by decide +kernel
theorem dX4_sum_28 : decode cX4_sum 28 = .ok (.isub, 1) := by decide +kernel
theorem dX4_sum_29 : decode cX4_sum 29 = .ok (.iload 4, 2) := by decide +kernel
theorem dX4_sum_31 : decode cX4_sum 31 = .ok (.isub, 1) := by decide +kernel
theorem dX4_sum_32 : decode cX4_sum 32 = .ok (.iaload, 1) := by decide +kernel
theorem dX4_sum_33 : decode cX4_sum 33 = .ok (.invokestatic 72, 3) := by decide +kernel
theorem dX4_sum_36 : decode cX4_sum 36 = .ok (.istore 5, 2) := by decide +kernel
theorem dX4_sum_38 : decode cX4_sum 38 = .ok (.iload_n 3, 1) := by decide +kernel
theorem dX4_sum_39 : decode cX4_sum 39 = .ok (.iload 5, 2) := by decide +kernel
theorem dX4_sum_41 : decode cX4_sum 41 = .ok (.iload 4, 2) := by decide +kernel
theorem dX4_sum_43 : decode cX4_sum 43 = .ok (.ishl, 1) := by decide +kernel
theorem dX4_sum_44 : decode cX4_sum 44 = .ok (.iload 4, 2) := by decide +kernel
theorem dX4_sum_46 : decode cX4_sum 46 = .ok (.ifCond .ne 7, 3) := by decide +kernel
theorem dX4_sum_49 : decode cX4_sum 49 = .ok (.iconst 0, 1) := by decide +kernel
theorem dX4_sum_50 : decode cX4_sum 50 = .ok (.goto 11, 3) := by decide +kernel
theorem dX4_sum_53 : decode cX4_sum 53 = .ok (.iload 5, 2) := by decide +kernel
theorem dX4_sum_55 : decode cX4_sum 55 = .ok (.bipush 32, 2) := by decide +kernel
theorem dX4_sum_57 : decode cX4_sum 57 = .ok (.iload 4, 2) := by decide +kernel
theorem dX4_sum_59 : decode cX4_sum 59 = .ok (.isub, 1) := by decide +kernel
theorem dX4_sum_60 : decode cX4_sum 60 = .ok (.iushr, 1) := by decide +kernel
theorem dX4_sum_61 : decode cX4_sum 61 = .ok (.ior, 1) := by decide +kernel
theorem dX4_sum_62 : decode cX4_sum 62 = .ok (.ixor, 1) := by decide +kernel
theorem dX4_sum_63 : decode cX4_sum 63 = .ok (.istore_n 3, 1) := by decide +kernel
theorem dX4_sum_64 : decode cX4_sum 64 = .ok (.iinc 4 1, 3) := by decide +kernel
theorem dX4_sum_67 : decode cX4_sum 67 = .ok (.goto (-62), 3) := by decide +kernel
theorem dX4_sum_70 : decode cX4_sum 70 = .ok (.iload_n 3, 1) := by decide +kernel
theorem dX4_sum_71 : decode cX4_sum 71 = .ok (.ireturn, 1) := by decide +kernel
theorem dX4_cut_0 : decode cX4_cut 0 = .ok (.aload_n 0, 1) := by decide +kernel
theorem dX4_cut_1 : decode cX4_cut 1 = .ok (.iconst 0, 1) := by decide +kernel
theorem dX4_cut_2 : decode cX4_cut 2 = .ok (.putfield 76, 3) := by decide +kernel
theorem dX4_cut_5 : decode cX4_cut 5 = .ok (.iconst 0, 1) := by decide +kernel
theorem dX4_cut_6 : decode cX4_cut 6 = .ok (.istore_n 1, 1) := by decide +kernel
theorem dX4_cut_7 : decode cX4_cut 7 = .ok (.iconst 1, 1) := by decide +kernel
theorem dX4_cut_8 : decode cX4_cut 8 = .ok (.istore_n 2, 1) := by decide +kernel
theorem dX4_cut_9 : decode cX4_cut 9 = .ok (.iload_n 2, 1) := by decide +kernel
theorem dX4_cut_10 : decode cX4_cut 10 = .ok (.aload_n 0, 1) := by decide +kernel
theorem dX4_cut_11 : decode cX4_cut 11 = .ok (.getfield 79, 3) := by decide +kernel
theorem dX4_cut_14 : decode cX4_cut 14 = .ok (.if_icmp .gt 89, 3) := by decide +kernel
theorem dX4_cut_17 : decode cX4_cut 17 = .ok (.iload_n 2, 1) := by decide +kernel
theorem dX4_cut_18 : decode cX4_cut 18 = .ok (.iload_n 1, 1) := by decide +kernel
theorem dX4_cut_19 : decode cX4_cut 19 = .ok (.isub, 1) := by decide +kernel
theorem dX4_cut_20 : decode cX4_cut 20 = .ok (.istore_n 3, 1) := by decide +kernel
theorem dX4_cut_21 : decode cX4_cut 21 = .ok (.iload_n 2, 1) := by decide +kernel
theorem dX4_cut_22 : decode cX4_cut 22 = .ok (.aload_n 0, 1) := by decide +kernel
theorem dX4_cut_23 : decode cX4_cut 23 = .ok (.getfield 79, 3) := by decide +kernel
theorem dX4_cut_26 : decode cX4_cut 26 = .ok (.if_icmp .eq 37, 3) := by decide +kernel
theorem dX4_cut_29 : decode cX4_cut 29 = .ok (.iload_n 3, 1) := by decide +kernel
theorem dX4_cut_30 : decode cX4_cut 30 = .ok (.aload_n 0, 1) := by decide +kernel
theorem dX4_cut_31 : decode cX4_cut 31 = .ok (.getfield 16, 3) := by decide +kernel
theorem dX4_cut_34 : decode cX4_cut 34 = .ok (.if_icmp .eq 29, 3) := by decide +kernel
theorem dX4_cut_37 : decode cX4_cut 37 = .ok (.iload_n 3, 1) := by decide +kernel
theorem dX4_cut_38 : decode cX4_cut 38 = .ok (.aload_n 0, 1) := by decide +kernel
theorem dX4_cut_39 : decode cX4_cut 39 = .ok (.getfield 13, 3) := by decide +kernel
theorem dX4_cut_42 : decode cX4_cut 42 = .ok (.if_icmp .lt 25, 3) := by decide +kernel
theorem dX4_cut_45 : decode cX4_cut 45 = .ok (.aload_n 0, 1) := by decide +kernel
theorem dX4_cut_46 : decode cX4_cut 46 = .ok (.iload_n 1, 1) := by decide +kernel
theorem dX4_cut_47 : decode cX4_cut 47 = .ok (.iload_n 2, 1) := by decide +kernel
theorem dX4_cut_48 : decode cX4_cut 48 = .ok (.invokevirtual 82, 3) := by decide +kernel
theorem dX4_cut_51 : decode cX4_cut 51 = .ok (.iconst 1, 1) := by decide +kernel
theorem dX4_cut_52 : decode cX4_cut 52 = .ok (.aload_n 0, 1) := by decide +kernel
theorem dX4_cut_53 : decode cX4_cut 53 = .ok (.getfield 7, 3) := by decide +kernel
theorem dX4_cut_56 : decode cX4_cut 56 = .ok (.ishl, 1) := by decide +kernel
theorem dX4_cut_57 : decode cX4_cut 57 = .ok (.iconst 1, 1) := by decide +kernel
theorem dX4_cut_58 : decode cX4_cut 58 = .ok (.isub, 1) := by decide +kernel
theorem dX4_cut_59 : decode cX4_cut 59 = .ok (.iand, 1) := by decide +kernel
theorem dX4_cut_60 : decode cX4_cut 60 = .ok (.ifCond .ne 7, 3) := by decide +kernel
theorem dX4_cut_63 : decode cX4_cut 63 = .ok (.iconst 1, 1) := by decide +kernel
theorem dX4_cut_64 : decode cX4_cut 64 = .ok (.goto 4, 3) := by decide +kernel
theorem dX4_cut_67 : decode cX4_cut 67 = .ok (.iconst 0, 1) := by decide +kernel
theorem dX4_cut_68 : decode cX4_cut 68 = .ok (.istore 4, 2) := by decide +kernel
theorem dX4_cut_70 : decode cX4_cut 70 = .ok (.iload 4, 2) := by decide +kernel
theorem dX4_cut_72 : decode cX4_cut 72 = .ok (.ifCond .eq 25, 3) := by decide +kernel
theorem dX4_cut_75 : decode cX4_cut 75 = .ok (.aload_n 0, 1) := by decide +kernel
theorem dX4_cut_76 : decode cX4_cut 76 = .ok (.getfield 26, 3) := by decide +kernel
theorem dX4_cut_79 : decode cX4_cut 79 = .ok (.aload_n 0, 1) := by decide +kernel
theorem dX4_cut_80 : decode cX4_cut 80 = .ok (.getfield 76, 3) := by decide +kernel
theorem dX4_cut_83 : decode cX4_cut 83 = .ok (.iload_n 2, 1) := by decide +kernel
theorem dX4_cut_84 : decode cX4_cut 84 = .ok (.iastore, 1) := by decide +kernel
theorem dX4_cut_85 : decode cX4_cut 85 = .ok (.aload_n 0, 1) := by decide +kernel
theorem dX4_cut_86 : decode cX4_cut 86 = .ok (.dup, 1) := by decide +kernel
theorem dX4_cut_87 : decode cX4_cut 87 = .ok (.getfield 76, 3) := by decide +kernel
theorem dX4_cut_90 : decode cX4_cut 90 = .ok (.iconst 1, 1) := by decide +kernel
theorem dX4_cut_91 : decode cX4_cut 91 = .ok (.iadd, 1) := by decide +kernel
theorem dX4_cut_92 : decode cX4_cut 92 = .ok (.putfield 76, 3) := by decide +kernel
theorem dX4_cut_95 : decode cX4_cut 95 = .ok (.iload_n 2, 1) := by decide +kernel
theorem dX4_cut_96 : decode cX4_cut 96 = .ok (.istore_n 1, 1) := by decide +kernel
theorem dX4_cut_97 : decode cX4_cut 97 = .ok (.iinc 2 1, 3) := by decide +kernel
theorem dX4_cut_100 : decode cX4_cut 100 = .ok (.goto (-91), 3) := by decide +kernel
theorem dX4_cut_103 : decode cX4_cut 103 = .ok (.return_, 1) := by decide +kernel
theorem dX4_beginOf_0 : decode cX4_beginOf 0 = .ok (.iload_n 1, 1) := by decide +kernel
theorem dX4_beginOf_1 : decode cX4_beginOf 1 = .ok (.ifCond .ne 7, 3) := by decide +kernel
theorem dX4_beginOf_4 : decode cX4_beginOf 4 = .ok (.iconst 0, 1) := by decide +kernel
theorem dX4_beginOf_5 : decode cX4_beginOf 5 = .ok (.goto 11, 3) := by decide +kernel
theorem dX4_beginOf_8 : decode cX4_beginOf 8 = .ok (.aload_n 0, 1) := by decide +kernel
theorem dX4_beginOf_9 : decode cX4_beginOf 9 = .ok (.getfield 26, 3) := by decide +kernel
theorem dX4_beginOf_12 : decode cX4_beginOf 12 = .ok (.iload_n 1, 1) := by decide +kernel
theorem dX4_beginOf_13 : decode cX4_beginOf 13 = .ok (.iconst 1, 1) := by decide +kernel
theorem dX4_beginOf_14 : decode cX4_beginOf 14 = .ok (.isub, 1) := by decide +kernel
theorem dX4_beginOf_15 : decode cX4_beginOf 15 = .ok (.iaload, 1) := by decide +kernel
theorem dX4_beginOf_16 : decode cX4_beginOf 16 = .ok (.ireturn, 1) := by decide +kernel
theorem dX4_isPart_0 : decode cX4_isPart 0 = .ok (.aload_n 0, 1) := by decide +kernel
theorem dX4_isPart_1 : decode cX4_isPart 1 = .ok (.getfield 48, 3) := by decide +kernel
theorem dX4_isPart_4 : decode cX4_isPart 4 = .ok (.iload_n 1, 1) := by decide +kernel
theorem dX4_isPart_5 : decode cX4_isPart 5 = .ok (.iaload, 1) := by decide +kernel
theorem dX4_isPart_6 : decode cX4_isPart 6 = .ok (.ifCond .gt 12, 3) := by decide +kernel
theorem dX4_isPart_9 : decode cX4_isPart 9 = .ok (.aload_n 0, 1) := by decide +kernel
theorem dX4_isPart_10 : decode cX4_isPart 10 = .ok (.getfield 32, 3) := by decide +kernel
theorem dX4_isPart_13 : decode cX4_isPart 13 = .ok (.iload_n 1, 1) := by decide +kernel
theorem dX4_isPart_14 : decode cX4_isPart 14 = .ok (.baload, 1) := by decide +kernel
theorem dX4_isPart_15 : decode cX4_isPart 15 = .ok (.ifCond .eq 19, 3) := by decide +kernel
theorem dX4_isPart_18 : decode cX4_isPart 18 = .ok (.aload_n 0, 1) := by decide +kernel
theorem dX4_isPart_19 : decode cX4_isPart 19 = .ok (.getfield 51, 3) := by decide +kernel
theorem dX4_isPart_22 : decode cX4_isPart 22 = .ok (.iload_n 1, 1) := by decide +kernel
theorem dX4_isPart_23 : decode cX4_isPart 23 = .ok (.iaload, 1) := by decide +kernel
theorem dX4_isPart_24 : decode cX4_isPart 24 = .ok (.iload_n 3, 1) := by decide +kernel
theorem dX4_isPart_25 : decode cX4_isPart 25 = .ok (.iload_n 2, 1) := by decide +kernel
theorem dX4_isPart_26 : decode cX4_isPart 26 = .ok (.isub, 1) := by decide +kernel
theorem dX4_isPart_27 : decode cX4_isPart 27 = .ok (.if_icmp .ne 7, 3) := by decide +kernel
theorem dX4_isPart_30 : decode cX4_isPart 30 = .ok (.iconst 1, 1) := by decide +kernel
theorem dX4_isPart_31 : decode cX4_isPart 31 = .ok (.goto 4, 3) := by decide +kernel
theorem dX4_isPart_34 : decode cX4_isPart 34 = .ok (.iconst 0, 1) := by decide +kernel
theorem dX4_isPart_35 : decode cX4_isPart 35 = .ok (.istore 4, 2) := by decide +kernel
theorem dX4_isPart_37 : decode cX4_isPart 37 = .ok (.iconst 0, 1) := by decide +kernel
theorem dX4_isPart_38 : decode cX4_isPart 38 = .ok (.istore 5, 2) := by decide +kernel
theorem dX4_isPart_40 : decode cX4_isPart 40 = .ok (.iload 5, 2) := by decide +kernel
theorem dX4_isPart_42 : decode cX4_isPart 42 = .ok (.iload_n 3, 1) := by decide +kernel
theorem dX4_isPart_43 : decode cX4_isPart 43 = .ok (.iload_n 2, 1) := by decide +kernel
theorem dX4_isPart_44 : decode cX4_isPart 44 = .ok (.isub, 1) := by decide +kernel
theorem dX4_isPart_45 : decode cX4_isPart 45 = .ok (.if_icmp .ge 45, 3) := by decide +kernel
theorem dX4_isPart_48 : decode cX4_isPart 48 = .ok (.iload 4, 2) := by decide +kernel
theorem dX4_isPart_50 : decode cX4_isPart 50 = .ok (.ifCond .eq 40, 3) := by decide +kernel
theorem dX4_isPart_53 : decode cX4_isPart 53 = .ok (.aload_n 0, 1) := by decide +kernel
theorem dX4_isPart_54 : decode cX4_isPart 54 = .ok (.getfield 54, 3) := by decide +kernel
theorem dX4_isPart_57 : decode cX4_isPart 57 = .ok (.bipush 64, 2) := by decide +kernel
theorem dX4_isPart_59 : decode cX4_isPart 59 = .ok (.iload_n 1, 1) := by decide +kernel
theorem dX4_isPart_60 : decode cX4_isPart 60 = .ok (.imul, 1) := by decide +kernel
theorem dX4_isPart_61 : decode cX4_isPart 61 = .ok (.iload 5, 2) := by decide +kernel
theorem dX4_isPart_63 : decode cX4_isPart 63 = .ok (.iadd, 1) := by decide +kernel
theorem dX4_isPart_64 : decode cX4_isPart 64 = .ok (.iaload, 1) := by decide +kernel
theorem dX4_isPart_65 : decode cX4_isPart 65 = .ok (.aload_n 0, 1) := by decide +kernel
theorem dX4_isPart_66 : decode cX4_isPart 66 = .ok (.getfield 23, 3) := by decide +kernel
theorem dX4_isPart_69 : decode cX4_isPart 69 = .ok (.iload_n 2, 1) := by decide +kernel
theorem dX4_isPart_70 : decode cX4_isPart 70 = .ok (.iload 5, 2) := by decide +kernel
theorem dX4_isPart_72 : decode cX4_isPart 72 = .ok (.iadd, 1) := by decide +kernel
theorem dX4_isPart_73 : decode cX4_isPart 73 = .ok (.iaload, 1) := by decide +kernel
theorem dX4_isPart_74 : decode cX4_isPart 74 = .ok (.if_icmp .ne 7, 3) := by decide +kernel
theorem dX4_isPart_77 : decode cX4_isPart 77 = .ok (.iconst 1, 1) := by decide +kernel
theorem dX4_isPart_78 : decode cX4_isPart 78 = .ok (.goto 4, 3) := by decide +kernel
theorem dX4_isPart_81 : decode cX4_isPart 81 = .ok (.iconst 0, 1) := by decide +kernel
theorem dX4_isPart_82 : decode cX4_isPart 82 = .ok (.istore 4, 2) := by decide +kernel
theorem dX4_isPart_84 : decode cX4_isPart 84 = .ok (.iinc 5 1, 3) := by decide +kernel
theorem dX4_isPart_87 : decode cX4_isPart 87 = .ok (.goto (-47), 3) := by decide +kernel
theorem dX4_isPart_90 : decode cX4_isPart 90 = .ok (.iload 4, 2) := by decide +kernel
theorem dX4_isPart_92 : decode cX4_isPart 92 = .ok (.ireturn, 1) := by decide +kernel
theorem dX4_numberOf_0 : decode cX4_numberOf 0 = .ok (.iconst (-1), 1) := by decide +kernel
theorem dX4_numberOf_1 : decode cX4_numberOf 1 = .ok (.istore_n 3, 1) := by decide +kernel
theorem dX4_numberOf_2 : decode cX4_numberOf 2 = .ok (.iconst 0, 1) := by decide +kernel
theorem dX4_numberOf_3 : decode cX4_numberOf 3 = .ok (.istore 4, 2) := by decide +kernel
theorem dX4_numberOf_5 : decode cX4_numberOf 5 = .ok (.iload 4, 2) := by decide +kernel
theorem dX4_numberOf_7 : decode cX4_numberOf 7 = .ok (.sipush 400, 3) := by decide +kernel
theorem dX4_numberOf_10 : decode cX4_numberOf 10 = .ok (.if_icmp .ge 54, 3) := by decide +kernel
theorem dX4_numberOf_13 : decode cX4_numberOf 13 = .ok (.aload_n 0, 1) := by decide +kernel
theorem dX4_numberOf_14 : decode cX4_numberOf 14 = .ok (.iload 4, 2) := by decide +kernel
theorem dX4_numberOf_16 : decode cX4_numberOf 16 = .ok (.iload_n 1, 1) := by decide +kernel
theorem dX4_numberOf_17 : decode cX4_numberOf 17 = .ok (.iload_n 2, 1) := by decide +kernel
theorem dX4_numberOf_18 : decode cX4_numberOf 18 = .ok (.invokevirtual 86, 3) := by decide +kernel
theorem dX4_numberOf_21 : decode cX4_numberOf 21 = .ok (.ifCond .eq 6, 3) := by decide +kernel
theorem dX4_numberOf_24 : decode cX4_numberOf 24 = .ok (.iload 4, 2) := by decide +kernel
theorem dX4_numberOf_26 : decode cX4_numberOf 26 = .ok (.ireturn, 1) := by decide +kernel
theorem dX4_numberOf_27 : decode cX4_numberOf 27 = .ok (.iload_n 3, 1) := by decide +kernel
theorem dX4_numberOf_28 : decode cX4_numberOf 28 = .ok (.ifCond .ge 28, 3) := by decide +kernel
theorem dX4_numberOf_31 : decode cX4_numberOf 31 = .ok (.aload_n 0, 1) := by decide +kernel
theorem dX4_numberOf_32 : decode cX4_numberOf 32 = .ok (.getfield 48, 3) := by decide +kernel
theorem dX4_numberOf_35 : decode cX4_numberOf 35 = .ok (.iload 4, 2) := by decide +kernel
theorem dX4_numberOf_37 : decode cX4_numberOf 37 = .ok (.iaload, 1) := by decide +kernel
theorem dX4_numberOf_38 : decode cX4_numberOf 38 = .ok (.ifCond .ne 18, 3) := by decide +kernel
theorem dX4_numberOf_41 : decode cX4_numberOf 41 = .ok (.aload_n 0, 1) := by decide +kernel
theorem dX4_numberOf_42 : decode cX4_numberOf 42 = .ok (.getfield 32, 3) := by decide +kernel
theorem dX4_numberOf_45 : decode cX4_numberOf 45 = .ok (.iload 4, 2) := by decide +kernel
theorem dX4_numberOf_47 : decode cX4_numberOf 47 = .ok (.baload, 1) := by decide +kernel
theorem dX4_numberOf_48 : decode cX4_numberOf 48 = .ok (.ifCond .ne 8, 3) := by decide +kernel
theorem dX4_numberOf_51 : decode cX4_numberOf 51 = .ok (.iload 4, 2) := by decide +kernel
theorem dX4_numberOf_53 : decode cX4_numberOf 53 = .ok (.goto 4, 3) := by decide +kernel
theorem dX4_numberOf_56 : decode cX4_numberOf 56 = .ok (.iload_n 3, 1) := by decide +kernel
theorem dX4_numberOf_57 : decode cX4_numberOf 57 = .ok (.istore_n 3, 1) := by decide +kernel
theorem dX4_numberOf_58 : decode cX4_numberOf 58 = .ok (.iinc 4 1, 3) := by decide +kernel
theorem dX4_numberOf_61 : decode cX4_numberOf 61 = .ok (.goto (-56), 3) := by decide +kernel
theorem dX4_numberOf_64 : decode cX4_numberOf 64 = .ok (.iload_n 3, 1) := by decide +kernel
theorem dX4_numberOf_65 : decode cX4_numberOf 65 = .ok (.ifCond .lt 57, 3) := by decide +kernel
theorem dX4_numberOf_68 : decode cX4_numberOf 68 = .ok (.aload_n 0, 1) := by decide +kernel
theorem dX4_numberOf_69 : decode cX4_numberOf 69 = .ok (.getfield 32, 3) := by decide +kernel
theorem dX4_numberOf_72 : decode cX4_numberOf 72 = .ok (.iload_n 3, 1) := by decide +kernel
theorem dX4_numberOf_73 : decode cX4_numberOf 73 = .ok (.iconst 1, 1) := by decide +kernel
theorem dX4_numberOf_74 : decode cX4_numberOf 74 = .ok (.bastore, 1) := by decide +kernel
theorem dX4_numberOf_75 : decode cX4_numberOf 75 = .ok (.aload_n 0, 1) := by decide +kernel
theorem dX4_numberOf_76 : decode cX4_numberOf 76 = .ok (.getfield 51, 3) := by decide +kernel
theorem dX4_numberOf_79 : decode cX4_numberOf 79 = .ok (.iload_n 3, 1) := by decide +kernel
theorem dX4_numberOf_80 : decode cX4_numberOf 80 = .ok (.iload_n 2, 1) := by decide +kernel
theorem dX4_numberOf_81 : decode cX4_numberOf 81 = .ok (.iload_n 1, 1) := by decide +kernel
theorem dX4_numberOf_82 : decode cX4_numberOf 82 = .ok (.isub, 1) := by decide +kernel
theorem dX4_numberOf_83 : decode cX4_numberOf 83 = .ok (.iastore, 1) := by decide +kernel
theorem dX4_numberOf_84 : decode cX4_numberOf 84 = .ok (.iconst 0, 1) := by decide +kernel
theorem dX4_numberOf_85 : decode cX4_numberOf 85 = .ok (.istore 4, 2) := by decide +kernel
theorem dX4_numberOf_87 : decode cX4_numberOf 87 = .ok (.iload 4, 2) := by decide +kernel
theorem dX4_numberOf_89 : decode cX4_numberOf 89 = .ok (.iload_n 2, 1) := by decide +kernel
theorem dX4_numberOf_90 : decode cX4_numberOf 90 = .ok (.iload_n 1, 1) := by decide +kernel
theorem dX4_numberOf_91 : decode cX4_numberOf 91 = .ok (.isub, 1) := by decide +kernel
theorem dX4_numberOf_92 : decode cX4_numberOf 92 = .ok (.if_icmp .ge 30, 3) := by decide +kernel
theorem dX4_numberOf_95 : decode cX4_numberOf 95 = .ok (.aload_n 0, 1) := by decide +kernel
theorem dX4_numberOf_96 : decode cX4_numberOf 96 = .ok (.getfield 54, 3) := by decide +kernel
theorem dX4_numberOf_99 : decode cX4_numberOf 99 = .ok (.bipush 64, 2) := by decide +kernel
theorem dX4_numberOf_101 : decode cX4_numberOf 101 = .ok (.iload_n 3, 1) := by decide +kernel
theorem dX4_numberOf_102 : decode cX4_numberOf 102 = .ok (.imul, 1) := by decide +kernel
theorem dX4_numberOf_103 : decode cX4_numberOf 103 = .ok (.iload 4, 2) := by decide +kernel
theorem dX4_numberOf_105 : decode cX4_numberOf 105 = .ok (.iadd, 1) := by decide +kernel
theorem dX4_numberOf_106 : decode cX4_numberOf 106 = .ok (.aload_n 0, 1) := by decide +kernel
theorem dX4_numberOf_107 : decode cX4_numberOf 107 = .ok (.getfield 23, 3) := by decide +kernel
theorem dX4_numberOf_110 : decode cX4_numberOf 110 = .ok (.iload_n 1, 1) := by decide +kernel
theorem dX4_numberOf_111 : decode cX4_numberOf 111 = .ok (.iload 4, 2) := by decide +kernel
theorem dX4_numberOf_113 : decode cX4_numberOf 113 = .ok (.iadd, 1) := by decide +kernel
theorem dX4_numberOf_114 : decode cX4_numberOf 114 = .ok (.iaload, 1) := by decide +kernel
theorem dX4_numberOf_115 : decode cX4_numberOf 115 = .ok (.iastore, 1) := by decide +kernel
theorem dX4_numberOf_116 : decode cX4_numberOf 116 = .ok (.iinc 4 1, 3) := by decide +kernel
theorem dX4_numberOf_119 : decode cX4_numberOf 119 = .ok (.goto (-32), 3) := by decide +kernel
theorem dX4_numberOf_122 : decode cX4_numberOf 122 = .ok (.iload_n 3, 1) := by decide +kernel
theorem dX4_numberOf_123 : decode cX4_numberOf 123 = .ok (.ireturn, 1) := by decide +kernel
theorem dX4_give_0 : decode cX4_give 0 = .ok (.iconst 0, 1) := by decide +kernel
theorem dX4_give_1 : decode cX4_give 1 = .ok (.istore_n 1, 1) := by decide +kernel
theorem dX4_give_2 : decode cX4_give 2 = .ok (.iload_n 1, 1) := by decide +kernel
theorem dX4_give_3 : decode cX4_give 3 = .ok (.sipush 400, 3) := by decide +kernel
theorem dX4_give_6 : decode cX4_give 6 = .ok (.if_icmp .ge 16, 3) := by decide +kernel
theorem dX4_give_9 : decode cX4_give 9 = .ok (.aload_n 0, 1) := by decide +kernel
theorem dX4_give_10 : decode cX4_give 10 = .ok (.getfield 32, 3) := by decide +kernel
theorem dX4_give_13 : decode cX4_give 13 = .ok (.iload_n 1, 1) := by decide +kernel
theorem dX4_give_14 : decode cX4_give 14 = .ok (.iconst 0, 1) := by decide +kernel
theorem dX4_give_15 : decode cX4_give 15 = .ok (.bastore, 1) := by decide +kernel
theorem dX4_give_16 : decode cX4_give 16 = .ok (.iinc 1 1, 3) := by decide +kernel
theorem dX4_give_19 : decode cX4_give 19 = .ok (.goto (-17), 3) := by decide +kernel
theorem dX4_give_22 : decode cX4_give 22 = .ok (.aload_n 0, 1) := by decide +kernel
theorem dX4_give_23 : decode cX4_give 23 = .ok (.invokevirtual 89, 3) := by decide +kernel
theorem dX4_give_26 : decode cX4_give 26 = .ok (.iconst 1, 1) := by decide +kernel
theorem dX4_give_27 : decode cX4_give 27 = .ok (.istore_n 1, 1) := by decide +kernel
theorem dX4_give_28 : decode cX4_give 28 = .ok (.iconst 0, 1) := by decide +kernel
theorem dX4_give_29 : decode cX4_give 29 = .ok (.istore_n 2, 1) := by decide +kernel
theorem dX4_give_30 : decode cX4_give 30 = .ok (.iload_n 2, 1) := by decide +kernel
theorem dX4_give_31 : decode cX4_give 31 = .ok (.aload_n 0, 1) := by decide +kernel
theorem dX4_give_32 : decode cX4_give 32 = .ok (.getfield 76, 3) := by decide +kernel
theorem dX4_give_35 : decode cX4_give 35 = .ok (.if_icmp .ge 49, 3) := by decide +kernel
theorem dX4_give_38 : decode cX4_give 38 = .ok (.iload_n 1, 1) := by decide +kernel
theorem dX4_give_39 : decode cX4_give 39 = .ok (.ifCond .eq 45, 3) := by decide +kernel
theorem dX4_give_42 : decode cX4_give 42 = .ok (.aload_n 0, 1) := by decide +kernel
theorem dX4_give_43 : decode cX4_give 43 = .ok (.getfield 29, 3) := by decide +kernel
theorem dX4_give_46 : decode cX4_give 46 = .ok (.iload_n 2, 1) := by decide +kernel
theorem dX4_give_47 : decode cX4_give 47 = .ok (.aload_n 0, 1) := by decide +kernel
theorem dX4_give_48 : decode cX4_give 48 = .ok (.aload_n 0, 1) := by decide +kernel
theorem dX4_give_49 : decode cX4_give 49 = .ok (.iload_n 2, 1) := by decide +kernel
theorem dX4_give_50 : decode cX4_give 50 = .ok (.invokevirtual 92, 3) := by decide +kernel
theorem dX4_give_53 : decode cX4_give 53 = .ok (.aload_n 0, 1) := by decide +kernel
theorem dX4_give_54 : decode cX4_give 54 = .ok (.getfield 26, 3) := by decide +kernel
theorem dX4_give_57 : decode cX4_give 57 = .ok (.iload_n 2, 1) := by decide +kernel
theorem dX4_give_58 : decode cX4_give 58 = .ok (.iaload, 1) := by decide +kernel
theorem dX4_give_59 : decode cX4_give 59 = .ok (.invokevirtual 95, 3) := by decide +kernel
theorem dX4_give_62 : decode cX4_give 62 = .ok (.iastore, 1) := by decide +kernel
theorem dX4_give_63 : decode cX4_give 63 = .ok (.aload_n 0, 1) := by decide +kernel
theorem dX4_give_64 : decode cX4_give 64 = .ok (.getfield 29, 3) := by decide +kernel
theorem dX4_give_67 : decode cX4_give 67 = .ok (.iload_n 2, 1) := by decide +kernel
theorem dX4_give_68 : decode cX4_give 68 = .ok (.iaload, 1) := by decide +kernel
theorem dX4_give_69 : decode cX4_give 69 = .ok (.ifCond .lt 7, 3) := by decide +kernel
theorem dX4_give_72 : decode cX4_give 72 = .ok (.iconst 1, 1) := by decide +kernel
theorem dX4_give_73 : decode cX4_give 73 = .ok (.goto 4, 3) := by decide +kernel
theorem dX4_give_76 : decode cX4_give 76 = .ok (.iconst 0, 1) := by decide +kernel
theorem dX4_give_77 : decode cX4_give 77 = .ok (.istore_n 1, 1) := by decide +kernel
theorem dX4_give_78 : decode cX4_give 78 = .ok (.iinc 2 1, 3) := by decide +kernel
theorem dX4_give_81 : decode cX4_give 81 = .ok (.goto (-51), 3) := by decide +kernel
theorem dX4_give_84 : decode cX4_give 84 = .ok (.iconst 0, 1) := by decide +kernel
theorem dX4_give_85 : decode cX4_give 85 = .ok (.istore_n 2, 1) := by decide +kernel
theorem dX4_give_86 : decode cX4_give 86 = .ok (.iconst 0, 1) := by decide +kernel
theorem dX4_give_87 : decode cX4_give 87 = .ok (.istore_n 3, 1) := by decide +kernel
theorem dX4_give_88 : decode cX4_give 88 = .ok (.iload_n 3, 1) := by decide +kernel
theorem dX4_give_89 : decode cX4_give 89 = .ok (.sipush 400, 3) := by decide +kernel
theorem dX4_give_92 : decode cX4_give 92 = .ok (.if_icmp .ge 26, 3) := by decide +kernel
theorem dX4_give_95 : decode cX4_give 95 = .ok (.aload_n 0, 1) := by decide +kernel
theorem dX4_give_96 : decode cX4_give 96 = .ok (.getfield 32, 3) := by decide +kernel
theorem dX4_give_99 : decode cX4_give 99 = .ok (.iload_n 3, 1) := by decide +kernel
theorem dX4_give_100 : decode cX4_give 100 = .ok (.baload, 1) := by decide +kernel
theorem dX4_give_101 : decode cX4_give 101 = .ok (.ifCond .eq 9, 3) := by decide +kernel
theorem dX4_give_104 : decode cX4_give 104 = .ok (.iload_n 2, 1) := by decide +kernel
theorem dX4_give_105 : decode cX4_give 105 = .ok (.iconst 1, 1) := by decide +kernel
theorem dX4_give_106 : decode cX4_give 106 = .ok (.iadd, 1) := by decide +kernel
theorem dX4_give_107 : decode cX4_give 107 = .ok (.goto 4, 3) := by decide +kernel
theorem dX4_give_110 : decode cX4_give 110 = .ok (.iload_n 2, 1) := by decide +kernel
theorem dX4_give_111 : decode cX4_give 111 = .ok (.istore_n 2, 1) := by decide +kernel
theorem dX4_give_112 : decode cX4_give 112 = .ok (.iinc 3 1, 3) := by decide +kernel
theorem dX4_give_115 : decode cX4_give 115 = .ok (.goto (-27), 3) := by decide +kernel
theorem dX4_give_118 : decode cX4_give 118 = .ok (.iload_n 1, 1) := by decide +kernel
theorem dX4_give_119 : decode cX4_give 119 = .ok (.ifCond .eq 7, 3) := by decide +kernel
theorem dX4_give_122 : decode cX4_give 122 = .ok (.iload_n 2, 1) := by decide +kernel
theorem dX4_give_123 : decode cX4_give 123 = .ok (.goto 4, 3) := by decide +kernel
theorem dX4_give_126 : decode cX4_give 126 = .ok (.iconst (-1), 1) := by decide +kernel
theorem dX4_give_127 : decode cX4_give 127 = .ok (.ireturn, 1) := by decide +kernel
theorem dX4_take_0 : decode cX4_take 0 = .ok (.iconst 0, 1) := by decide +kernel
theorem dX4_take_1 : decode cX4_take 1 = .ok (.istore_n 2, 1) := by decide +kernel
theorem dX4_take_2 : decode cX4_take 2 = .ok (.iload_n 2, 1) := by decide +kernel
theorem dX4_take_3 : decode cX4_take 3 = .ok (.aload_n 0, 1) := by decide +kernel
theorem dX4_take_4 : decode cX4_take 4 = .ok (.getfield 76, 3) := by decide +kernel
theorem dX4_take_7 : decode cX4_take 7 = .ok (.if_icmp .ge 24, 3) := by decide +kernel
theorem dX4_take_10 : decode cX4_take 10 = .ok (.aload_n 0, 1) := by decide +kernel
theorem dX4_take_11 : decode cX4_take 11 = .ok (.getfield 48, 3) := by decide +kernel
theorem dX4_take_14 : decode cX4_take 14 = .ok (.aload_n 0, 1) := by decide +kernel
theorem dX4_take_15 : decode cX4_take 15 = .ok (.getfield 29, 3) := by decide +kernel
theorem dX4_take_18 : decode cX4_take 18 = .ok (.iload_n 2, 1) := by decide +kernel
theorem dX4_take_19 : decode cX4_take 19 = .ok (.iaload, 1) := by decide +kernel
theorem dX4_take_20 : decode cX4_take 20 = .ok (.dup2, 1) := by decide +kernel
theorem dX4_take_21 : decode cX4_take 21 = .ok (.iaload, 1) := by decide +kernel
theorem dX4_take_22 : decode cX4_take 22 = .ok (.iconst 1, 1) := by decide +kernel
theorem dX4_take_23 : decode cX4_take 23 = .ok (.iadd, 1) := by decide +kernel
theorem dX4_take_24 : decode cX4_take 24 = .ok (.iastore, 1) := by decide +kernel
theorem dX4_take_25 : decode cX4_take 25 = .ok (.iinc 2 1, 3) := by decide +kernel
theorem dX4_take_28 : decode cX4_take 28 = .ok (.goto (-26), 3) := by decide +kernel
theorem dX4_take_31 : decode cX4_take 31 = .ok (.iconst 0, 1) := by decide +kernel
theorem dX4_take_32 : decode cX4_take 32 = .ok (.istore_n 2, 1) := by decide +kernel
theorem dX4_take_33 : decode cX4_take 33 = .ok (.iload_n 2, 1) := by decide +kernel
theorem dX4_take_34 : decode cX4_take 34 = .ok (.aload_n 0, 1) := by decide +kernel
theorem dX4_take_35 : decode cX4_take 35 = .ok (.getfield 42, 3) := by decide +kernel
theorem dX4_take_38 : decode cX4_take 38 = .ok (.iload_n 1, 1) := by decide +kernel
theorem dX4_take_39 : decode cX4_take 39 = .ok (.iaload, 1) := by decide +kernel
theorem dX4_take_40 : decode cX4_take 40 = .ok (.if_icmp .ge 30, 3) := by decide +kernel
theorem dX4_take_43 : decode cX4_take 43 = .ok (.aload_n 0, 1) := by decide +kernel
theorem dX4_take_44 : decode cX4_take 44 = .ok (.getfield 48, 3) := by decide +kernel
theorem dX4_take_47 : decode cX4_take 47 = .ok (.aload_n 0, 1) := by decide +kernel
theorem dX4_take_48 : decode cX4_take 48 = .ok (.getfield 45, 3) := by decide +kernel
theorem dX4_take_51 : decode cX4_take 51 = .ok (.sipush 1500, 3) := by decide +kernel
theorem dX4_take_54 : decode cX4_take 54 = .ok (.iload_n 1, 1) := by decide +kernel
theorem dX4_take_55 : decode cX4_take 55 = .ok (.imul, 1) := by decide +kernel
theorem dX4_take_56 : decode cX4_take 56 = .ok (.iload_n 2, 1) := by decide +kernel
theorem dX4_take_57 : decode cX4_take 57 = .ok (.iadd, 1) := by decide +kernel
theorem dX4_take_58 : decode cX4_take 58 = .ok (.iaload, 1) := by decide +kernel
theorem dX4_take_59 : decode cX4_take 59 = .ok (.dup2, 1) := by decide +kernel
theorem dX4_take_60 : decode cX4_take 60 = .ok (.iaload, 1) := by decide +kernel
theorem dX4_take_61 : decode cX4_take 61 = .ok (.iconst 1, 1) := by decide +kernel
theorem dX4_take_62 : decode cX4_take 62 = .ok (.isub, 1) := by decide +kernel
theorem dX4_take_63 : decode cX4_take 63 = .ok (.iastore, 1) := by decide +kernel
theorem dX4_take_64 : decode cX4_take 64 = .ok (.iinc 2 1, 3) := by decide +kernel
theorem dX4_take_67 : decode cX4_take 67 = .ok (.goto (-34), 3) := by decide +kernel
theorem dX4_take_70 : decode cX4_take 70 = .ok (.aload_n 0, 1) := by decide +kernel
theorem dX4_take_71 : decode cX4_take 71 = .ok (.getfield 36, 3) := by decide +kernel
theorem dX4_take_74 : decode cX4_take 74 = .ok (.iload_n 1, 1) := by decide +kernel
theorem dX4_take_75 : decode cX4_take 75 = .ok (.aload_n 0, 1) := by decide +kernel
theorem dX4_take_76 : decode cX4_take 76 = .ok (.getfield 79, 3) := by decide +kernel
theorem dX4_take_79 : decode cX4_take 79 = .ok (.iastore, 1) := by decide +kernel
theorem dX4_take_80 : decode cX4_take 80 = .ok (.aload_n 0, 1) := by decide +kernel
theorem dX4_take_81 : decode cX4_take 81 = .ok (.getfield 42, 3) := by decide +kernel
theorem dX4_take_84 : decode cX4_take 84 = .ok (.iload_n 1, 1) := by decide +kernel
theorem dX4_take_85 : decode cX4_take 85 = .ok (.aload_n 0, 1) := by decide +kernel
theorem dX4_take_86 : decode cX4_take 86 = .ok (.getfield 76, 3) := by decide +kernel
theorem dX4_take_89 : decode cX4_take 89 = .ok (.iastore, 1) := by decide +kernel
theorem dX4_take_90 : decode cX4_take 90 = .ok (.iconst 0, 1) := by decide +kernel
theorem dX4_take_91 : decode cX4_take 91 = .ok (.istore_n 2, 1) := by decide +kernel
theorem dX4_take_92 : decode cX4_take 92 = .ok (.iload_n 2, 1) := by decide +kernel
theorem dX4_take_93 : decode cX4_take 93 = .ok (.aload_n 0, 1) := by decide +kernel
theorem dX4_take_94 : decode cX4_take 94 = .ok (.getfield 79, 3) := by decide +kernel
theorem dX4_take_97 : decode cX4_take 97 = .ok (.if_icmp .ge 27, 3) := by decide +kernel
theorem dX4_take_100 : decode cX4_take 100 = .ok (.aload_n 0, 1) := by decide +kernel
theorem dX4_take_101 : decode cX4_take 101 = .ok (.getfield 39, 3) := by decide +kernel
theorem dX4_take_104 : decode cX4_take 104 = .ok (.sipush 1500, 3) := by decide +kernel
theorem dX4_take_107 : decode cX4_take 107 = .ok (.iload_n 1, 1) := by decide +kernel
theorem dX4_take_108 : decode cX4_take 108 = .ok (.imul, 1) := by decide +kernel
theorem dX4_take_109 : decode cX4_take 109 = .ok (.iload_n 2, 1) := by decide +kernel
theorem dX4_take_110 : decode cX4_take 110 = .ok (.iadd, 1) := by decide +kernel
theorem dX4_take_111 : decode cX4_take 111 = .ok (.aload_n 0, 1) := by decide +kernel
theorem dX4_take_112 : decode cX4_take 112 = .ok (.getfield 23, 3) := by decide +kernel
theorem dX4_take_115 : decode cX4_take 115 = .ok (.iload_n 2, 1) := by decide +kernel
theorem dX4_take_116 : decode cX4_take 116 = .ok (.iaload, 1) := by decide +kernel
theorem dX4_take_117 : decode cX4_take 117 = .ok (.iastore, 1) := by decide +kernel
theorem dX4_take_118 : decode cX4_take 118 = .ok (.iinc 2 1, 3) := by decide +kernel
theorem dX4_take_121 : decode cX4_take 121 = .ok (.goto (-29), 3) := by decide +kernel
theorem dX4_take_124 : decode cX4_take 124 = .ok (.iconst 0, 1) := by decide +kernel
theorem dX4_take_125 : decode cX4_take 125 = .ok (.istore_n 2, 1) := by decide +kernel
theorem dX4_take_126 : decode cX4_take 126 = .ok (.iload_n 2, 1) := by decide +kernel
theorem dX4_take_127 : decode cX4_take 127 = .ok (.aload_n 0, 1) := by decide +kernel
theorem dX4_take_128 : decode cX4_take 128 = .ok (.getfield 76, 3) := by decide +kernel
theorem dX4_take_131 : decode cX4_take 131 = .ok (.if_icmp .ge 27, 3) := by decide +kernel
theorem dX4_take_134 : decode cX4_take 134 = .ok (.aload_n 0, 1) := by decide +kernel
theorem dX4_take_135 : decode cX4_take 135 = .ok (.getfield 45, 3) := by decide +kernel
theorem dX4_take_138 : decode cX4_take 138 = .ok (.sipush 1500, 3) := by decide +kernel
theorem dX4_take_141 : decode cX4_take 141 = .ok (.iload_n 1, 1) := by decide +kernel
theorem dX4_take_142 : decode cX4_take 142 = .ok (.imul, 1) := by decide +kernel
theorem dX4_take_143 : decode cX4_take 143 = .ok (.iload_n 2, 1) := by decide +kernel
theorem dX4_take_144 : decode cX4_take 144 = .ok (.iadd, 1) := by decide +kernel
theorem dX4_take_145 : decode cX4_take 145 = .ok (.aload_n 0, 1) := by decide +kernel
theorem dX4_take_146 : decode cX4_take 146 = .ok (.getfield 29, 3) := by decide +kernel
theorem dX4_take_149 : decode cX4_take 149 = .ok (.iload_n 2, 1) := by decide +kernel
theorem dX4_take_150 : decode cX4_take 150 = .ok (.iaload, 1) := by decide +kernel
theorem dX4_take_151 : decode cX4_take 151 = .ok (.iastore, 1) := by decide +kernel
theorem dX4_take_152 : decode cX4_take 152 = .ok (.iinc 2 1, 3) := by decide +kernel
theorem dX4_take_155 : decode cX4_take 155 = .ok (.goto (-29), 3) := by decide +kernel
theorem dX4_take_158 : decode cX4_take 158 = .ok (.return_, 1) := by decide +kernel
theorem dX4_store_0 : decode cX4_store 0 = .ok (.aload_n 0, 1) := by decide +kernel
theorem dX4_store_1 : decode cX4_store 1 = .ok (.iload_n 1, 1) := by decide +kernel
theorem dX4_store_2 : decode cX4_store 2 = .ok (.invokestatic 98, 3) := by decide +kernel
theorem dX4_store_5 : decode cX4_store 5 = .ok (.ifCond .ne 7, 3) := by decide +kernel
theorem dX4_store_8 : decode cX4_store 8 = .ok (.iconst 1, 1) := by decide +kernel
theorem dX4_store_9 : decode cX4_store 9 = .ok (.goto 4, 3) := by decide +kernel
theorem dX4_store_12 : decode cX4_store 12 = .ok (.iconst 0, 1) := by decide +kernel
theorem dX4_store_13 : decode cX4_store 13 = .ok (.iconst 0, 1) := by decide +kernel
theorem dX4_store_14 : decode cX4_store 14 = .ok (.iconst 0, 1) := by decide +kernel
theorem dX4_store_15 : decode cX4_store 15 = .ok (.invokevirtual 64, 3) := by decide +kernel
theorem dX4_store_18 : decode cX4_store 18 = .ok (.ifCond .eq 5, 3) := by decide +kernel
theorem dX4_store_21 : decode cX4_store 21 = .ok (.iconst 0, 1) := by decide +kernel
theorem dX4_store_22 : decode cX4_store 22 = .ok (.ireturn, 1) := by decide +kernel
theorem dX4_store_23 : decode cX4_store 23 = .ok (.aload_n 0, 1) := by decide +kernel
theorem dX4_store_24 : decode cX4_store 24 = .ok (.aload_n 0, 1) := by decide +kernel
theorem dX4_store_25 : decode cX4_store 25 = .ok (.getfield 68, 3) := by decide +kernel
theorem dX4_store_28 : decode cX4_store 28 = .ok (.putfield 79, 3) := by decide +kernel
theorem dX4_store_31 : decode cX4_store 31 = .ok (.iconst 0, 1) := by decide +kernel
theorem dX4_store_32 : decode cX4_store 32 = .ok (.istore_n 2, 1) := by decide +kernel
theorem dX4_store_33 : decode cX4_store 33 = .ok (.iload_n 2, 1) := by decide +kernel
theorem dX4_store_34 : decode cX4_store 34 = .ok (.aload_n 0, 1) := by decide +kernel
theorem dX4_store_35 : decode cX4_store 35 = .ok (.getfield 79, 3) := by decide +kernel
theorem dX4_store_38 : decode cX4_store 38 = .ok (.if_icmp .ge 21, 3) := by decide +kernel
theorem dX4_store_41 : decode cX4_store 41 = .ok (.aload_n 0, 1) := by decide +kernel
theorem dX4_store_42 : decode cX4_store 42 = .ok (.getfield 23, 3) := by decide +kernel
theorem dX4_store_45 : decode cX4_store 45 = .ok (.iload_n 2, 1) := by decide +kernel
theorem dX4_store_46 : decode cX4_store 46 = .ok (.aload_n 0, 1) := by decide +kernel
theorem dX4_store_47 : decode cX4_store 47 = .ok (.getfield 19, 3) := by decide +kernel
theorem dX4_store_50 : decode cX4_store 50 = .ok (.iload_n 2, 1) := by decide +kernel
theorem dX4_store_51 : decode cX4_store 51 = .ok (.iaload, 1) := by decide +kernel
theorem dX4_store_52 : decode cX4_store 52 = .ok (.iastore, 1) := by decide +kernel
theorem dX4_store_53 : decode cX4_store 53 = .ok (.iinc 2 1, 3) := by decide +kernel
theorem dX4_store_56 : decode cX4_store 56 = .ok (.goto (-23), 3) := by decide +kernel
theorem dX4_store_59 : decode cX4_store 59 = .ok (.aload_n 0, 1) := by decide +kernel
theorem dX4_store_60 : decode cX4_store 60 = .ok (.invokevirtual 102, 3) := by decide +kernel
theorem dX4_store_63 : decode cX4_store 63 = .ok (.istore_n 2, 1) := by decide +kernel
theorem dX4_store_64 : decode cX4_store 64 = .ok (.aload_n 0, 1) := by decide +kernel
theorem dX4_store_65 : decode cX4_store 65 = .ok (.iconst 0, 1) := by decide +kernel
theorem dX4_store_66 : decode cX4_store 66 = .ok (.iload_n 2, 1) := by decide +kernel
theorem dX4_store_67 : decode cX4_store 67 = .ok (.ifCond .ge 7, 3) := by decide +kernel
theorem dX4_store_70 : decode cX4_store 70 = .ok (.iconst 1, 1) := by decide +kernel
theorem dX4_store_71 : decode cX4_store 71 = .ok (.goto 4, 3) := by decide +kernel
theorem dX4_store_74 : decode cX4_store 74 = .ok (.iconst 0, 1) := by decide +kernel
theorem dX4_store_75 : decode cX4_store 75 = .ok (.iconst 0, 1) := by decide +kernel
theorem dX4_store_76 : decode cX4_store 76 = .ok (.invokevirtual 64, 3) := by decide +kernel
theorem dX4_store_79 : decode cX4_store 79 = .ok (.ifCond .eq 5, 3) := by decide +kernel
theorem dX4_store_82 : decode cX4_store 82 = .ok (.iconst 0, 1) := by decide +kernel
theorem dX4_store_83 : decode cX4_store 83 = .ok (.ireturn, 1) := by decide +kernel
theorem dX4_store_84 : decode cX4_store 84 = .ok (.aload_n 0, 1) := by decide +kernel
theorem dX4_store_85 : decode cX4_store 85 = .ok (.iload_n 1, 1) := by decide +kernel
theorem dX4_store_86 : decode cX4_store 86 = .ok (.invokevirtual 106, 3) := by decide +kernel
theorem dX4_store_89 : decode cX4_store 89 = .ok (.aload_n 0, 1) := by decide +kernel
theorem dX4_store_90 : decode cX4_store 90 = .ok (.iconst 0, 1) := by decide +kernel
theorem dX4_store_91 : decode cX4_store 91 = .ok (.putfield 68, 3) := by decide +kernel
theorem dX4_store_94 : decode cX4_store 94 = .ok (.iload_n 2, 1) := by decide +kernel
theorem dX4_store_95 : decode cX4_store 95 = .ok (.ireturn, 1) := by decide +kernel
theorem dX4_edit_0 : decode cX4_edit 0 = .ok (.iload_n 1, 1) := by decide +kernel
theorem dX4_edit_1 : decode cX4_edit 1 = .ok (.invokestatic 98, 3) := by decide +kernel
theorem dX4_edit_4 : decode cX4_edit 4 = .ok (.istore 4, 2) := by decide +kernel
theorem dX4_edit_6 : decode cX4_edit 6 = .ok (.iload 4, 2) := by decide +kernel
theorem dX4_edit_8 : decode cX4_edit 8 = .ok (.ifCond .eq 12, 3) := by decide +kernel
theorem dX4_edit_11 : decode cX4_edit 11 = .ok (.aload_n 0, 1) := by decide +kernel
theorem dX4_edit_12 : decode cX4_edit 12 = .ok (.getfield 36, 3) := by decide +kernel
theorem dX4_edit_15 : decode cX4_edit 15 = .ok (.iload_n 1, 1) := by decide +kernel
theorem dX4_edit_16 : decode cX4_edit 16 = .ok (.iaload, 1) := by decide +kernel
theorem dX4_edit_17 : decode cX4_edit 17 = .ok (.goto 4, 3) := by decide +kernel
theorem dX4_edit_20 : decode cX4_edit 20 = .ok (.iconst 0, 1) := by decide +kernel
theorem dX4_edit_21 : decode cX4_edit 21 = .ok (.istore 5, 2) := by decide +kernel
theorem dX4_edit_23 : decode cX4_edit 23 = .ok (.iload 4, 2) := by decide +kernel
theorem dX4_edit_25 : decode cX4_edit 25 = .ok (.ifCond .eq 29, 3) := by decide +kernel
theorem dX4_edit_28 : decode cX4_edit 28 = .ok (.iload_n 2, 1) := by decide +kernel
theorem dX4_edit_29 : decode cX4_edit 29 = .ok (.iconst 0, 1) := by decide +kernel
theorem dX4_edit_30 : decode cX4_edit 30 = .ok (.iload 5, 2) := by decide +kernel
theorem dX4_edit_32 : decode cX4_edit 32 = .ok (.invokestatic 60, 3) := by decide +kernel
theorem dX4_edit_35 : decode cX4_edit 35 = .ok (.ifCond .eq 19, 3) := by decide +kernel
theorem dX4_edit_38 : decode cX4_edit 38 = .ok (.iload_n 3, 1) := by decide +kernel
theorem dX4_edit_39 : decode cX4_edit 39 = .ok (.iconst 0, 1) := by decide +kernel
theorem dX4_edit_40 : decode cX4_edit 40 = .ok (.iload 5, 2) := by decide +kernel
theorem dX4_edit_42 : decode cX4_edit 42 = .ok (.iload_n 2, 1) := by decide +kernel
theorem dX4_edit_43 : decode cX4_edit 43 = .ok (.isub, 1) := by decide +kernel
theorem dX4_edit_44 : decode cX4_edit 44 = .ok (.invokestatic 60, 3) := by decide +kernel
theorem dX4_edit_47 : decode cX4_edit 47 = .ok (.ifCond .eq 7, 3) := by decide +kernel
theorem dX4_edit_50 : decode cX4_edit 50 = .ok (.iconst 1, 1) := by decide +kernel
theorem dX4_edit_51 : decode cX4_edit 51 = .ok (.goto 4, 3) := by decide +kernel
theorem dX4_edit_54 : decode cX4_edit 54 = .ok (.iconst 0, 1) := by decide +kernel
theorem dX4_edit_55 : decode cX4_edit 55 = .ok (.istore 6, 2) := by decide +kernel
theorem dX4_edit_57 : decode cX4_edit 57 = .ok (.aload_n 0, 1) := by decide +kernel
theorem dX4_edit_58 : decode cX4_edit 58 = .ok (.iload 4, 2) := by decide +kernel
theorem dX4_edit_60 : decode cX4_edit 60 = .ok (.ifCond .ne 7, 3) := by decide +kernel
theorem dX4_edit_63 : decode cX4_edit 63 = .ok (.iconst 1, 1) := by decide +kernel
theorem dX4_edit_64 : decode cX4_edit 64 = .ok (.goto 4, 3) := by decide +kernel
theorem dX4_edit_67 : decode cX4_edit 67 = .ok (.iconst 0, 1) := by decide +kernel
theorem dX4_edit_68 : decode cX4_edit 68 = .ok (.iload 4, 2) := by decide +kernel
theorem dX4_edit_70 : decode cX4_edit 70 = .ok (.ifCond .eq 12, 3) := by decide +kernel
theorem dX4_edit_73 : decode cX4_edit 73 = .ok (.iload 6, 2) := by decide +kernel
theorem dX4_edit_75 : decode cX4_edit 75 = .ok (.ifCond .ne 7, 3) := by decide +kernel
theorem dX4_edit_78 : decode cX4_edit 78 = .ok (.iconst 1, 1) := by decide +kernel
theorem dX4_edit_79 : decode cX4_edit 79 = .ok (.goto 4, 3) := by decide +kernel
theorem dX4_edit_82 : decode cX4_edit 82 = .ok (.iconst 0, 1) := by decide +kernel
theorem dX4_edit_83 : decode cX4_edit 83 = .ok (.iload 6, 2) := by decide +kernel
theorem dX4_edit_85 : decode cX4_edit 85 = .ok (.ifCond .eq 22, 3) := by decide +kernel
theorem dX4_edit_88 : decode cX4_edit 88 = .ok (.iload 5, 2) := by decide +kernel
theorem dX4_edit_90 : decode cX4_edit 90 = .ok (.iload_n 3, 1) := by decide +kernel
theorem dX4_edit_91 : decode cX4_edit 91 = .ok (.isub, 1) := by decide +kernel
theorem dX4_edit_92 : decode cX4_edit 92 = .ok (.aload_n 0, 1) := by decide +kernel
theorem dX4_edit_93 : decode cX4_edit 93 = .ok (.getfield 68, 3) := by decide +kernel
theorem dX4_edit_96 : decode cX4_edit 96 = .ok (.iadd, 1) := by decide +kernel
theorem dX4_edit_97 : decode cX4_edit 97 = .ok (.sipush 1500, 3) := by decide +kernel
theorem dX4_edit_100 : decode cX4_edit 100 = .ok (.if_icmp .le 7, 3) := by decide +kernel
theorem dX4_edit_103 : decode cX4_edit 103 = .ok (.iconst 1, 1) := by decide +kernel
theorem dX4_edit_104 : decode cX4_edit 104 = .ok (.goto 4, 3) := by decide +kernel
theorem dX4_edit_107 : decode cX4_edit 107 = .ok (.iconst 0, 1) := by decide +kernel
theorem dX4_edit_108 : decode cX4_edit 108 = .ok (.invokevirtual 64, 3) := by decide +kernel
theorem dX4_edit_111 : decode cX4_edit 111 = .ok (.ifCond .eq 5, 3) := by decide +kernel
theorem dX4_edit_114 : decode cX4_edit 114 = .ok (.iconst 0, 1) := by decide +kernel
theorem dX4_edit_115 : decode cX4_edit 115 = .ok (.ireturn, 1) := by decide +kernel
theorem dX4_edit_116 : decode cX4_edit 116 = .ok (.aload_n 0, 1) := by decide +kernel
theorem dX4_edit_117 : decode cX4_edit 117 = .ok (.iconst 0, 1) := by decide +kernel
theorem dX4_edit_118 : decode cX4_edit 118 = .ok (.putfield 79, 3) := by decide +kernel
theorem dX4_edit_121 : decode cX4_edit 121 = .ok (.iconst 0, 1) := by decide +kernel
theorem dX4_edit_122 : decode cX4_edit 122 = .ok (.istore 7, 2) := by decide +kernel
theorem dX4_edit_124 : decode cX4_edit 124 = .ok (.iload 7, 2) := by decide +kernel
theorem dX4_edit_126 : decode cX4_edit 126 = .ok (.iload_n 2, 1) := by decide +kernel
theorem dX4_edit_127 : decode cX4_edit 127 = .ok (.if_icmp .ge 41, 3) := by decide +kernel
theorem dX4_edit_130 : decode cX4_edit 130 = .ok (.aload_n 0, 1) := by decide +kernel
theorem dX4_edit_131 : decode cX4_edit 131 = .ok (.getfield 23, 3) := by decide +kernel
theorem dX4_edit_134 : decode cX4_edit 134 = .ok (.aload_n 0, 1) := by decide +kernel
theorem dX4_edit_135 : decode cX4_edit 135 = .ok (.getfield 79, 3) := by decide +kernel
theorem dX4_edit_138 : decode cX4_edit 138 = .ok (.aload_n 0, 1) := by decide +kernel
theorem dX4_edit_139 : decode cX4_edit 139 = .ok (.getfield 39, 3) := by decide +kernel
theorem dX4_edit_142 : decode cX4_edit 142 = .ok (.sipush 1500, 3) := by decide +kernel
theorem dX4_edit_145 : decode cX4_edit 145 = .ok (.iload_n 1, 1) := by decide +kernel
theorem dX4_edit_146 : decode cX4_edit 146 = .ok (.imul, 1) := by decide +kernel
theorem dX4_edit_147 : decode cX4_edit 147 = .ok (.iload 7, 2) := by decide +kernel
theorem dX4_edit_149 : decode cX4_edit 149 = .ok (.iadd, 1) := by decide +kernel
theorem dX4_edit_150 : decode cX4_edit 150 = .ok (.iaload, 1) := by decide +kernel
theorem dX4_edit_151 : decode cX4_edit 151 = .ok (.iastore, 1) := by decide +kernel
theorem dX4_edit_152 : decode cX4_edit 152 = .ok (.aload_n 0, 1) := by decide +kernel
theorem dX4_edit_153 : decode cX4_edit 153 = .ok (.dup, 1) := by decide +kernel
theorem dX4_edit_154 : decode cX4_edit 154 = .ok (.getfield 79, 3) := by decide +kernel
theorem dX4_edit_157 : decode cX4_edit 157 = .ok (.iconst 1, 1) := by decide +kernel
theorem dX4_edit_158 : decode cX4_edit 158 = .ok (.iadd, 1) := by decide +kernel
theorem dX4_edit_159 : decode cX4_edit 159 = .ok (.putfield 79, 3) := by decide +kernel
theorem dX4_edit_162 : decode cX4_edit 162 = .ok (.iinc 7 1, 3) := by decide +kernel
theorem dX4_edit_165 : decode cX4_edit 165 = .ok (.goto (-41), 3) := by decide +kernel
theorem dX4_edit_168 : decode cX4_edit 168 = .ok (.iconst 0, 1) := by decide +kernel
theorem dX4_edit_169 : decode cX4_edit 169 = .ok (.istore 7, 2) := by decide +kernel
theorem dX4_edit_171 : decode cX4_edit 171 = .ok (.iload 7, 2) := by decide +kernel
theorem dX4_edit_173 : decode cX4_edit 173 = .ok (.aload_n 0, 1) := by decide +kernel
theorem dX4_edit_174 : decode cX4_edit 174 = .ok (.getfield 68, 3) := by decide +kernel
theorem dX4_edit_177 : decode cX4_edit 177 = .ok (.if_icmp .ge 35, 3) := by decide +kernel
theorem dX4_edit_180 : decode cX4_edit 180 = .ok (.aload_n 0, 1) := by decide +kernel
theorem dX4_edit_181 : decode cX4_edit 181 = .ok (.getfield 23, 3) := by decide +kernel
theorem dX4_edit_184 : decode cX4_edit 184 = .ok (.aload_n 0, 1) := by decide +kernel
theorem dX4_edit_185 : decode cX4_edit 185 = .ok (.getfield 79, 3) := by decide +kernel
theorem dX4_edit_188 : decode cX4_edit 188 = .ok (.aload_n 0, 1) := by decide +kernel
theorem dX4_edit_189 : decode cX4_edit 189 = .ok (.getfield 19, 3) := by decide +kernel
theorem dX4_edit_192 : decode cX4_edit 192 = .ok (.iload 7, 2) := by decide +kernel
theorem dX4_edit_194 : decode cX4_edit 194 = .ok (.iaload, 1) := by decide +kernel
theorem dX4_edit_195 : decode cX4_edit 195 = .ok (.iastore, 1) := by decide +kernel
theorem dX4_edit_196 : decode cX4_edit 196 = .ok (.aload_n 0, 1) := by decide +kernel
theorem dX4_edit_197 : decode cX4_edit 197 = .ok (.dup, 1) := by decide +kernel
theorem dX4_edit_198 : decode cX4_edit 198 = .ok (.getfield 79, 3) := by decide +kernel
theorem dX4_edit_201 : decode cX4_edit 201 = .ok (.iconst 1, 1) := by decide +kernel
theorem dX4_edit_202 : decode cX4_edit 202 = .ok (.iadd, 1) := by decide +kernel
theorem dX4_edit_203 : decode cX4_edit 203 = .ok (.putfield 79, 3) := by decide +kernel
theorem dX4_edit_206 : decode cX4_edit 206 = .ok (.iinc 7 1, 3) := by decide +kernel
theorem dX4_edit_209 : decode cX4_edit 209 = .ok (.goto (-38), 3) := by decide +kernel
theorem dX4_edit_212 : decode cX4_edit 212 = .ok (.iload_n 2, 1) := by decide +kernel
theorem dX4_edit_213 : decode cX4_edit 213 = .ok (.iload_n 3, 1) := by decide +kernel
theorem dX4_edit_214 : decode cX4_edit 214 = .ok (.iadd, 1) := by decide +kernel
theorem dX4_edit_215 : decode cX4_edit 215 = .ok (.istore 7, 2) := by decide +kernel
theorem dX4_edit_217 : decode cX4_edit 217 = .ok (.iload 7, 2) := by decide +kernel
theorem dX4_edit_219 : decode cX4_edit 219 = .ok (.iload 5, 2) := by decide +kernel
theorem dX4_edit_221 : decode cX4_edit 221 = .ok (.if_icmp .ge 41, 3) := by decide +kernel
theorem dX4_edit_224 : decode cX4_edit 224 = .ok (.aload_n 0, 1) := by decide +kernel
theorem dX4_edit_225 : decode cX4_edit 225 = .ok (.getfield 23, 3) := by decide +kernel
theorem dX4_edit_228 : decode cX4_edit 228 = .ok (.aload_n 0, 1) := by decide +kernel
theorem dX4_edit_229 : decode cX4_edit 229 = .ok (.getfield 79, 3) := by decide +kernel
theorem dX4_edit_232 : decode cX4_edit 232 = .ok (.aload_n 0, 1) := by decide +kernel
theorem dX4_edit_233 : decode cX4_edit 233 = .ok (.getfield 39, 3) := by decide +kernel
theorem dX4_edit_236 : decode cX4_edit 236 = .ok (.sipush 1500, 3) := by decide +kernel
theorem dX4_edit_239 : decode cX4_edit 239 = .ok (.iload_n 1, 1) := by decide +kernel
theorem dX4_edit_240 : decode cX4_edit 240 = .ok (.imul, 1) := by decide +kernel
theorem dX4_edit_241 : decode cX4_edit 241 = .ok (.iload 7, 2) := by decide +kernel
theorem dX4_edit_243 : decode cX4_edit 243 = .ok (.iadd, 1) := by decide +kernel
theorem dX4_edit_244 : decode cX4_edit 244 = .ok (.iaload, 1) := by decide +kernel
theorem dX4_edit_245 : decode cX4_edit 245 = .ok (.iastore, 1) := by decide +kernel
theorem dX4_edit_246 : decode cX4_edit 246 = .ok (.aload_n 0, 1) := by decide +kernel
theorem dX4_edit_247 : decode cX4_edit 247 = .ok (.dup, 1) := by decide +kernel
theorem dX4_edit_248 : decode cX4_edit 248 = .ok (.getfield 79, 3) := by decide +kernel
theorem dX4_edit_251 : decode cX4_edit 251 = .ok (.iconst 1, 1) := by decide +kernel
theorem dX4_edit_252 : decode cX4_edit 252 = .ok (.iadd, 1) := by decide +kernel
theorem dX4_edit_253 : decode cX4_edit 253 = .ok (.putfield 79, 3) := by decide +kernel
theorem dX4_edit_256 : decode cX4_edit 256 = .ok (.iinc 7 1, 3) := by decide +kernel
theorem dX4_edit_259 : decode cX4_edit 259 = .ok (.goto (-42), 3) := by decide +kernel
theorem dX4_edit_262 : decode cX4_edit 262 = .ok (.aload_n 0, 1) := by decide +kernel
theorem dX4_edit_263 : decode cX4_edit 263 = .ok (.invokevirtual 102, 3) := by decide +kernel
theorem dX4_edit_266 : decode cX4_edit 266 = .ok (.istore 7, 2) := by decide +kernel
theorem dX4_edit_268 : decode cX4_edit 268 = .ok (.aload_n 0, 1) := by decide +kernel
theorem dX4_edit_269 : decode cX4_edit 269 = .ok (.iconst 0, 1) := by decide +kernel
theorem dX4_edit_270 : decode cX4_edit 270 = .ok (.iconst 0, 1) := by decide +kernel
theorem dX4_edit_271 : decode cX4_edit 271 = .ok (.iload 7, 2) := by decide +kernel
theorem dX4_edit_273 : decode cX4_edit 273 = .ok (.ifCond .ge 7, 3) := by decide +kernel
theorem dX4_edit_276 : decode cX4_edit 276 = .ok (.iconst 1, 1) := by decide +kernel
theorem dX4_edit_277 : decode cX4_edit 277 = .ok (.goto 4, 3) := by decide +kernel
theorem dX4_edit_280 : decode cX4_edit 280 = .ok (.iconst 0, 1) := by decide +kernel
theorem dX4_edit_281 : decode cX4_edit 281 = .ok (.invokevirtual 64, 3) := by decide +kernel
theorem dX4_edit_284 : decode cX4_edit 284 = .ok (.ifCond .eq 5, 3) := by decide +kernel
theorem dX4_edit_287 : decode cX4_edit 287 = .ok (.iconst 0, 1) := by decide +kernel
theorem dX4_edit_288 : decode cX4_edit 288 = .ok (.ireturn, 1) := by decide +kernel
theorem dX4_edit_289 : decode cX4_edit 289 = .ok (.aload_n 0, 1) := by decide +kernel
theorem dX4_edit_290 : decode cX4_edit 290 = .ok (.iload_n 1, 1) := by decide +kernel
theorem dX4_edit_291 : decode cX4_edit 291 = .ok (.invokevirtual 106, 3) := by decide +kernel
theorem dX4_edit_294 : decode cX4_edit 294 = .ok (.aload_n 0, 1) := by decide +kernel
theorem dX4_edit_295 : decode cX4_edit 295 = .ok (.iconst 0, 1) := by decide +kernel
theorem dX4_edit_296 : decode cX4_edit 296 = .ok (.putfield 68, 3) := by decide +kernel
theorem dX4_edit_299 : decode cX4_edit 299 = .ok (.iload 7, 2) := by decide +kernel
theorem dX4_edit_301 : decode cX4_edit 301 = .ok (.ireturn, 1) := by decide +kernel
theorem dX4_copy_0 : decode cX4_copy 0 = .ok (.aload_n 0, 1) := by decide +kernel
theorem dX4_copy_1 : decode cX4_copy 1 = .ok (.iload_n 1, 1) := by decide +kernel
theorem dX4_copy_2 : decode cX4_copy 2 = .ok (.invokestatic 98, 3) := by decide +kernel
theorem dX4_copy_5 : decode cX4_copy 5 = .ok (.ifCond .eq 10, 3) := by decide +kernel
theorem dX4_copy_8 : decode cX4_copy 8 = .ok (.iload_n 2, 1) := by decide +kernel
theorem dX4_copy_9 : decode cX4_copy 9 = .ok (.invokestatic 98, 3) := by decide +kernel
theorem dX4_copy_12 : decode cX4_copy 12 = .ok (.ifCond .ne 7, 3) := by decide +kernel
theorem dX4_copy_15 : decode cX4_copy 15 = .ok (.iconst 1, 1) := by decide +kernel
theorem dX4_copy_16 : decode cX4_copy 16 = .ok (.goto 4, 3) := by decide +kernel
theorem dX4_copy_19 : decode cX4_copy 19 = .ok (.iconst 0, 1) := by decide +kernel
theorem dX4_copy_20 : decode cX4_copy 20 = .ok (.iconst 0, 1) := by decide +kernel
theorem dX4_copy_21 : decode cX4_copy 21 = .ok (.iconst 0, 1) := by decide +kernel
theorem dX4_copy_22 : decode cX4_copy 22 = .ok (.invokevirtual 64, 3) := by decide +kernel
theorem dX4_copy_25 : decode cX4_copy 25 = .ok (.ifCond .ne 8, 3) := by decide +kernel
theorem dX4_copy_28 : decode cX4_copy 28 = .ok (.iload_n 1, 1) := by decide +kernel
theorem dX4_copy_29 : decode cX4_copy 29 = .ok (.iload_n 2, 1) := by decide +kernel
theorem dX4_copy_30 : decode cX4_copy 30 = .ok (.if_icmp .ne 4, 3) := by decide +kernel
theorem dX4_copy_33 : decode cX4_copy 33 = .ok (.return_, 1) := by decide +kernel
theorem dX4_copy_34 : decode cX4_copy 34 = .ok (.aload_n 0, 1) := by decide +kernel
theorem dX4_copy_35 : decode cX4_copy 35 = .ok (.aload_n 0, 1) := by decide +kernel
theorem dX4_copy_36 : decode cX4_copy 36 = .ok (.getfield 36, 3) := by decide +kernel
theorem dX4_copy_39 : decode cX4_copy 39 = .ok (.iload_n 1, 1) := by decide +kernel
theorem dX4_copy_40 : decode cX4_copy 40 = .ok (.iaload, 1) := by decide +kernel
theorem dX4_copy_41 : decode cX4_copy 41 = .ok (.putfield 79, 3) := by decide +kernel
theorem dX4_copy_44 : decode cX4_copy 44 = .ok (.aload_n 0, 1) := by decide +kernel
theorem dX4_copy_45 : decode cX4_copy 45 = .ok (.aload_n 0, 1) := by decide +kernel
theorem dX4_copy_46 : decode cX4_copy 46 = .ok (.getfield 42, 3) := by decide +kernel
theorem dX4_copy_49 : decode cX4_copy 49 = .ok (.iload_n 1, 1) := by decide +kernel
theorem dX4_copy_50 : decode cX4_copy 50 = .ok (.iaload, 1) := by decide +kernel
theorem dX4_copy_51 : decode cX4_copy 51 = .ok (.putfield 76, 3) := by decide +kernel
theorem dX4_copy_54 : decode cX4_copy 54 = .ok (.iconst 0, 1) := by decide +kernel
theorem dX4_copy_55 : decode cX4_copy 55 = .ok (.istore_n 3, 1) := by decide +kernel
theorem dX4_copy_56 : decode cX4_copy 56 = .ok (.iload_n 3, 1) := by decide +kernel
theorem dX4_copy_57 : decode cX4_copy 57 = .ok (.aload_n 0, 1) := by decide +kernel
theorem dX4_copy_58 : decode cX4_copy 58 = .ok (.getfield 79, 3) := by decide +kernel
theorem dX4_copy_61 : decode cX4_copy 61 = .ok (.if_icmp .ge 27, 3) := by decide +kernel
theorem dX4_copy_64 : decode cX4_copy 64 = .ok (.aload_n 0, 1) := by decide +kernel
theorem dX4_copy_65 : decode cX4_copy 65 = .ok (.getfield 23, 3) := by decide +kernel
theorem dX4_copy_68 : decode cX4_copy 68 = .ok (.iload_n 3, 1) := by decide +kernel
theorem dX4_copy_69 : decode cX4_copy 69 = .ok (.aload_n 0, 1) := by decide +kernel
theorem dX4_copy_70 : decode cX4_copy 70 = .ok (.getfield 39, 3) := by decide +kernel
theorem dX4_copy_73 : decode cX4_copy 73 = .ok (.sipush 1500, 3) := by decide +kernel
theorem dX4_copy_76 : decode cX4_copy 76 = .ok (.iload_n 1, 1) := by decide +kernel
theorem dX4_copy_77 : decode cX4_copy 77 = .ok (.imul, 1) := by decide +kernel
theorem dX4_copy_78 : decode cX4_copy 78 = .ok (.iload_n 3, 1) := by decide +kernel
theorem dX4_copy_79 : decode cX4_copy 79 = .ok (.iadd, 1) := by decide +kernel
theorem dX4_copy_80 : decode cX4_copy 80 = .ok (.iaload, 1) := by decide +kernel
theorem dX4_copy_81 : decode cX4_copy 81 = .ok (.iastore, 1) := by decide +kernel
theorem dX4_copy_82 : decode cX4_copy 82 = .ok (.iinc 3 1, 3) := by decide +kernel
theorem dX4_copy_85 : decode cX4_copy 85 = .ok (.goto (-29), 3) := by decide +kernel
theorem dX4_copy_88 : decode cX4_copy 88 = .ok (.iconst 0, 1) := by decide +kernel
theorem dX4_copy_89 : decode cX4_copy 89 = .ok (.istore_n 3, 1) := by decide +kernel
theorem dX4_copy_90 : decode cX4_copy 90 = .ok (.iload_n 3, 1) := by decide +kernel
theorem dX4_copy_91 : decode cX4_copy 91 = .ok (.aload_n 0, 1) := by decide +kernel
theorem dX4_copy_92 : decode cX4_copy 92 = .ok (.getfield 76, 3) := by decide +kernel
theorem dX4_copy_95 : decode cX4_copy 95 = .ok (.if_icmp .ge 27, 3) := by decide +kernel
theorem dX4_copy_98 : decode cX4_copy 98 = .ok (.aload_n 0, 1) := by decide +kernel
theorem dX4_copy_99 : decode cX4_copy 99 = .ok (.getfield 29, 3) := by decide +kernel
theorem dX4_copy_102 : decode cX4_copy 102 = .ok (.iload_n 3, 1) := by decide +kernel
theorem dX4_copy_103 : decode cX4_copy 103 = .ok (.aload_n 0, 1) := by decide +kernel
theorem dX4_copy_104 : decode cX4_copy 104 = .ok (.getfield 45, 3) := by decide +kernel
theorem dX4_copy_107 : decode cX4_copy 107 = .ok (.sipush 1500, 3) := by decide +kernel
theorem dX4_copy_110 : decode cX4_copy 110 = .ok (.iload_n 1, 1) := by decide +kernel
theorem dX4_copy_111 : decode cX4_copy 111 = .ok (.imul, 1) := by decide +kernel
theorem dX4_copy_112 : decode cX4_copy 112 = .ok (.iload_n 3, 1) := by decide +kernel
theorem dX4_copy_113 : decode cX4_copy 113 = .ok (.iadd, 1) := by decide +kernel
theorem dX4_copy_114 : decode cX4_copy 114 = .ok (.iaload, 1) := by decide +kernel
theorem dX4_copy_115 : decode cX4_copy 115 = .ok (.iastore, 1) := by decide +kernel
theorem dX4_copy_116 : decode cX4_copy 116 = .ok (.iinc 3 1, 3) := by decide +kernel
theorem dX4_copy_119 : decode cX4_copy 119 = .ok (.goto (-29), 3) := by decide +kernel
theorem dX4_copy_122 : decode cX4_copy 122 = .ok (.aload_n 0, 1) := by decide +kernel
theorem dX4_copy_123 : decode cX4_copy 123 = .ok (.iload_n 2, 1) := by decide +kernel
theorem dX4_copy_124 : decode cX4_copy 124 = .ok (.invokevirtual 106, 3) := by decide +kernel
theorem dX4_copy_127 : decode cX4_copy 127 = .ok (.return_, 1) := by decide +kernel
theorem dX4_size_0 : decode cX4_size 0 = .ok (.aload_n 0, 1) := by decide +kernel
theorem dX4_size_1 : decode cX4_size 1 = .ok (.iload_n 1, 1) := by decide +kernel
theorem dX4_size_2 : decode cX4_size 2 = .ok (.invokestatic 98, 3) := by decide +kernel
theorem dX4_size_5 : decode cX4_size 5 = .ok (.ifCond .ne 7, 3) := by decide +kernel
theorem dX4_size_8 : decode cX4_size 8 = .ok (.iconst 1, 1) := by decide +kernel
theorem dX4_size_9 : decode cX4_size 9 = .ok (.goto 4, 3) := by decide +kernel
theorem dX4_size_12 : decode cX4_size 12 = .ok (.iconst 0, 1) := by decide +kernel
theorem dX4_size_13 : decode cX4_size 13 = .ok (.iconst 0, 1) := by decide +kernel
theorem dX4_size_14 : decode cX4_size 14 = .ok (.iconst 0, 1) := by decide +kernel
theorem dX4_size_15 : decode cX4_size 15 = .ok (.invokevirtual 64, 3) := by decide +kernel
theorem dX4_size_18 : decode cX4_size 18 = .ok (.ifCond .eq 7, 3) := by decide +kernel
theorem dX4_size_21 : decode cX4_size 21 = .ok (.iconst 0, 1) := by decide +kernel
theorem dX4_size_22 : decode cX4_size 22 = .ok (.goto 9, 3) := by decide +kernel
theorem dX4_size_25 : decode cX4_size 25 = .ok (.aload_n 0, 1) := by decide +kernel
theorem dX4_size_26 : decode cX4_size 26 = .ok (.getfield 36, 3) := by decide +kernel
theorem dX4_size_29 : decode cX4_size 29 = .ok (.iload_n 1, 1) := by decide +kernel
theorem dX4_size_30 : decode cX4_size 30 = .ok (.iaload, 1) := by decide +kernel
theorem dX4_size_31 : decode cX4_size 31 = .ok (.ireturn, 1) := by decide +kernel
theorem dX4_get_0 : decode cX4_get 0 = .ok (.iload_n 1, 1) := by decide +kernel
theorem dX4_get_1 : decode cX4_get 1 = .ok (.invokestatic 98, 3) := by decide +kernel
theorem dX4_get_4 : decode cX4_get 4 = .ok (.ifCond .eq 34, 3) := by decide +kernel
theorem dX4_get_7 : decode cX4_get 7 = .ok (.iload_n 2, 1) := by decide +kernel
theorem dX4_get_8 : decode cX4_get 8 = .ok (.iconst 0, 1) := by decide +kernel
theorem dX4_get_9 : decode cX4_get 9 = .ok (.aload_n 0, 1) := by decide +kernel
theorem dX4_get_10 : decode cX4_get 10 = .ok (.getfield 36, 3) := by decide +kernel
theorem dX4_get_13 : decode cX4_get 13 = .ok (.iload_n 1, 1) := by decide +kernel
theorem dX4_get_14 : decode cX4_get 14 = .ok (.invokestatic 98, 3) := by decide +kernel
theorem dX4_get_17 : decode cX4_get 17 = .ok (.ifCond .eq 7, 3) := by decide +kernel
theorem dX4_get_20 : decode cX4_get 20 = .ok (.iload_n 1, 1) := by decide +kernel
theorem dX4_get_21 : decode cX4_get 21 = .ok (.goto 4, 3) := by decide +kernel
theorem dX4_get_24 : decode cX4_get 24 = .ok (.iconst 0, 1) := by decide +kernel
theorem dX4_get_25 : decode cX4_get 25 = .ok (.iaload, 1) := by decide +kernel
theorem dX4_get_26 : decode cX4_get 26 = .ok (.iconst 1, 1) := by decide +kernel
theorem dX4_get_27 : decode cX4_get 27 = .ok (.isub, 1) := by decide +kernel
theorem dX4_get_28 : decode cX4_get 28 = .ok (.invokestatic 60, 3) := by decide +kernel
theorem dX4_get_31 : decode cX4_get 31 = .ok (.ifCond .eq 7, 3) := by decide +kernel
theorem dX4_get_34 : decode cX4_get 34 = .ok (.iconst 1, 1) := by decide +kernel
theorem dX4_get_35 : decode cX4_get 35 = .ok (.goto 4, 3) := by decide +kernel
theorem dX4_get_38 : decode cX4_get 38 = .ok (.iconst 0, 1) := by decide +kernel
theorem dX4_get_39 : decode cX4_get 39 = .ok (.istore_n 3, 1) := by decide +kernel
theorem dX4_get_40 : decode cX4_get 40 = .ok (.aload_n 0, 1) := by decide +kernel
theorem dX4_get_41 : decode cX4_get 41 = .ok (.iload_n 3, 1) := by decide +kernel
theorem dX4_get_42 : decode cX4_get 42 = .ok (.ifCond .ne 7, 3) := by decide +kernel
theorem dX4_get_45 : decode cX4_get 45 = .ok (.iconst 1, 1) := by decide +kernel
theorem dX4_get_46 : decode cX4_get 46 = .ok (.goto 4, 3) := by decide +kernel
theorem dX4_get_49 : decode cX4_get 49 = .ok (.iconst 0, 1) := by decide +kernel
theorem dX4_get_50 : decode cX4_get 50 = .ok (.iconst 0, 1) := by decide +kernel
theorem dX4_get_51 : decode cX4_get 51 = .ok (.iconst 0, 1) := by decide +kernel
theorem dX4_get_52 : decode cX4_get 52 = .ok (.invokevirtual 64, 3) := by decide +kernel
theorem dX4_get_55 : decode cX4_get 55 = .ok (.ifCond .eq 7, 3) := by decide +kernel
theorem dX4_get_58 : decode cX4_get 58 = .ok (.iconst 0, 1) := by decide +kernel
theorem dX4_get_59 : decode cX4_get 59 = .ok (.goto 15, 3) := by decide +kernel
theorem dX4_get_62 : decode cX4_get 62 = .ok (.aload_n 0, 1) := by decide +kernel
theorem dX4_get_63 : decode cX4_get 63 = .ok (.getfield 39, 3) := by decide +kernel
theorem dX4_get_66 : decode cX4_get 66 = .ok (.sipush 1500, 3) := by decide +kernel
theorem dX4_get_69 : decode cX4_get 69 = .ok (.iload_n 1, 1) := by decide +kernel
theorem dX4_get_70 : decode cX4_get 70 = .ok (.imul, 1) := by decide +kernel
theorem dX4_get_71 : decode cX4_get 71 = .ok (.iload_n 2, 1) := by decide +kernel
theorem dX4_get_72 : decode cX4_get 72 = .ok (.iadd, 1) := by decide +kernel
theorem dX4_get_73 : decode cX4_get 73 = .ok (.iaload, 1) := by decide +kernel
theorem dX4_get_74 : decode cX4_get 74 = .ok (.ireturn, 1) := by decide +kernel
theorem dX4_parts_0 : decode cX4_parts 0 = .ok (.aload_n 0, 1) := by decide +kernel
theorem dX4_parts_1 : decode cX4_parts 1 = .ok (.iload_n 1, 1) := by decide +kernel
theorem dX4_parts_2 : decode cX4_parts 2 = .ok (.invokestatic 98, 3) := by decide +kernel
theorem dX4_parts_5 : decode cX4_parts 5 = .ok (.ifCond .ne 7, 3) := by decide +kernel
theorem dX4_parts_8 : decode cX4_parts 8 = .ok (.iconst 1, 1) := by decide +kernel
theorem dX4_parts_9 : decode cX4_parts 9 = .ok (.goto 4, 3) := by decide +kernel
theorem dX4_parts_12 : decode cX4_parts 12 = .ok (.iconst 0, 1) := by decide +kernel
theorem dX4_parts_13 : decode cX4_parts 13 = .ok (.iconst 0, 1) := by decide +kernel
theorem dX4_parts_14 : decode cX4_parts 14 = .ok (.iconst 0, 1) := by decide +kernel
theorem dX4_parts_15 : decode cX4_parts 15 = .ok (.invokevirtual 64, 3) := by decide +kernel
theorem dX4_parts_18 : decode cX4_parts 18 = .ok (.ifCond .eq 7, 3) := by decide +kernel
theorem dX4_parts_21 : decode cX4_parts 21 = .ok (.iconst 0, 1) := by decide +kernel
theorem dX4_parts_22 : decode cX4_parts 22 = .ok (.goto 9, 3) := by decide +kernel
theorem dX4_parts_25 : decode cX4_parts 25 = .ok (.aload_n 0, 1) := by decide +kernel
theorem dX4_parts_26 : decode cX4_parts 26 = .ok (.getfield 42, 3) := by decide +kernel
theorem dX4_parts_29 : decode cX4_parts 29 = .ok (.iload_n 1, 1) := by decide +kernel
theorem dX4_parts_30 : decode cX4_parts 30 = .ok (.iaload, 1) := by decide +kernel
theorem dX4_parts_31 : decode cX4_parts 31 = .ok (.ireturn, 1) := by decide +kernel
theorem dX4_part_0 : decode cX4_part 0 = .ok (.iload_n 1, 1) := by decide +kernel
theorem dX4_part_1 : decode cX4_part 1 = .ok (.invokestatic 98, 3) := by decide +kernel
theorem dX4_part_4 : decode cX4_part 4 = .ok (.ifCond .eq 34, 3) := by decide +kernel
theorem dX4_part_7 : decode cX4_part 7 = .ok (.iload_n 2, 1) := by decide +kernel
theorem dX4_part_8 : decode cX4_part 8 = .ok (.iconst 0, 1) := by decide +kernel
theorem dX4_part_9 : decode cX4_part 9 = .ok (.aload_n 0, 1) := by decide +kernel
theorem dX4_part_10 : decode cX4_part 10 = .ok (.getfield 42, 3) := by decide +kernel
theorem dX4_part_13 : decode cX4_part 13 = .ok (.iload_n 1, 1) := by decide +kernel
theorem dX4_part_14 : decode cX4_part 14 = .ok (.invokestatic 98, 3) := by decide +kernel
theorem dX4_part_17 : decode cX4_part 17 = .ok (.ifCond .eq 7, 3) := by decide +kernel
theorem dX4_part_20 : decode cX4_part 20 = .ok (.iload_n 1, 1) := by decide +kernel
theorem dX4_part_21 : decode cX4_part 21 = .ok (.goto 4, 3) := by decide +kernel
theorem dX4_part_24 : decode cX4_part 24 = .ok (.iconst 0, 1) := by decide +kernel
theorem dX4_part_25 : decode cX4_part 25 = .ok (.iaload, 1) := by decide +kernel
theorem dX4_part_26 : decode cX4_part 26 = .ok (.iconst 1, 1) := by decide +kernel
theorem dX4_part_27 : decode cX4_part 27 = .ok (.isub, 1) := by decide +kernel
theorem dX4_part_28 : decode cX4_part 28 = .ok (.invokestatic 60, 3) := by decide +kernel
theorem dX4_part_31 : decode cX4_part 31 = .ok (.ifCond .eq 7, 3) := by decide +kernel
theorem dX4_part_34 : decode cX4_part 34 = .ok (.iconst 1, 1) := by decide +kernel
theorem dX4_part_35 : decode cX4_part 35 = .ok (.goto 4, 3) := by decide +kernel
theorem dX4_part_38 : decode cX4_part 38 = .ok (.iconst 0, 1) := by decide +kernel
theorem dX4_part_39 : decode cX4_part 39 = .ok (.istore_n 3, 1) := by decide +kernel
theorem dX4_part_40 : decode cX4_part 40 = .ok (.aload_n 0, 1) := by decide +kernel
theorem dX4_part_41 : decode cX4_part 41 = .ok (.iload_n 3, 1) := by decide +kernel
theorem dX4_part_42 : decode cX4_part 42 = .ok (.ifCond .ne 7, 3) := by decide +kernel
theorem dX4_part_45 : decode cX4_part 45 = .ok (.iconst 1, 1) := by decide +kernel
theorem dX4_part_46 : decode cX4_part 46 = .ok (.goto 4, 3) := by decide +kernel
theorem dX4_part_49 : decode cX4_part 49 = .ok (.iconst 0, 1) := by decide +kernel
theorem dX4_part_50 : decode cX4_part 50 = .ok (.iconst 0, 1) := by decide +kernel
theorem dX4_part_51 : decode cX4_part 51 = .ok (.iconst 0, 1) := by decide +kernel
theorem dX4_part_52 : decode cX4_part 52 = .ok (.invokevirtual 64, 3) := by decide +kernel
theorem dX4_part_55 : decode cX4_part 55 = .ok (.ifCond .eq 7, 3) := by decide +kernel
theorem dX4_part_58 : decode cX4_part 58 = .ok (.iconst 0, 1) := by decide +kernel
theorem dX4_part_59 : decode cX4_part 59 = .ok (.goto 15, 3) := by decide +kernel
theorem dX4_part_62 : decode cX4_part 62 = .ok (.aload_n 0, 1) := by decide +kernel
theorem dX4_part_63 : decode cX4_part 63 = .ok (.getfield 45, 3) := by decide +kernel
theorem dX4_part_66 : decode cX4_part 66 = .ok (.sipush 1500, 3) := by decide +kernel
theorem dX4_part_69 : decode cX4_part 69 = .ok (.iload_n 1, 1) := by decide +kernel
theorem dX4_part_70 : decode cX4_part 70 = .ok (.imul, 1) := by decide +kernel
theorem dX4_part_71 : decode cX4_part 71 = .ok (.iload_n 2, 1) := by decide +kernel
theorem dX4_part_72 : decode cX4_part 72 = .ok (.iadd, 1) := by decide +kernel
theorem dX4_part_73 : decode cX4_part 73 = .ok (.iaload, 1) := by decide +kernel
theorem dX4_part_74 : decode cX4_part 74 = .ok (.ireturn, 1) := by decide +kernel
theorem dX4_has_0 : decode cX4_has 0 = .ok (.iconst 0, 1) := by decide +kernel
theorem dX4_has_1 : decode cX4_has 1 = .ok (.istore_n 3, 1) := by decide +kernel
theorem dX4_has_2 : decode cX4_has 2 = .ok (.iconst 0, 1) := by decide +kernel
theorem dX4_has_3 : decode cX4_has 3 = .ok (.istore 4, 2) := by decide +kernel
theorem dX4_has_5 : decode cX4_has 5 = .ok (.iload 4, 2) := by decide +kernel
theorem dX4_has_7 : decode cX4_has 7 = .ok (.aload_n 0, 1) := by decide +kernel
theorem dX4_has_8 : decode cX4_has 8 = .ok (.getfield 42, 3) := by decide +kernel
theorem dX4_has_11 : decode cX4_has 11 = .ok (.iload_n 1, 1) := by decide +kernel
theorem dX4_has_12 : decode cX4_has 12 = .ok (.iaload, 1) := by decide +kernel
theorem dX4_has_13 : decode cX4_has 13 = .ok (.if_icmp .ge 36, 3) := by decide +kernel
theorem dX4_has_16 : decode cX4_has 16 = .ok (.iload_n 3, 1) := by decide +kernel
theorem dX4_has_17 : decode cX4_has 17 = .ok (.ifCond .ne 20, 3) := by decide +kernel
theorem dX4_has_20 : decode cX4_has 20 = .ok (.aload_n 0, 1) := by decide +kernel
theorem dX4_has_21 : decode cX4_has 21 = .ok (.getfield 45, 3) := by decide +kernel
theorem dX4_has_24 : decode cX4_has 24 = .ok (.sipush 1500, 3) := by decide +kernel
theorem dX4_has_27 : decode cX4_has 27 = .ok (.iload_n 1, 1) := by decide +kernel
theorem dX4_has_28 : decode cX4_has 28 = .ok (.imul, 1) := by decide +kernel
theorem dX4_has_29 : decode cX4_has 29 = .ok (.iload 4, 2) := by decide +kernel
theorem dX4_has_31 : decode cX4_has 31 = .ok (.iadd, 1) := by decide +kernel
theorem dX4_has_32 : decode cX4_has 32 = .ok (.iaload, 1) := by decide +kernel
theorem dX4_has_33 : decode cX4_has 33 = .ok (.iload_n 2, 1) := by decide +kernel
theorem dX4_has_34 : decode cX4_has 34 = .ok (.if_icmp .ne 7, 3) := by decide +kernel
theorem dX4_has_37 : decode cX4_has 37 = .ok (.iconst 1, 1) := by decide +kernel
theorem dX4_has_38 : decode cX4_has 38 = .ok (.goto 4, 3) := by decide +kernel
theorem dX4_has_41 : decode cX4_has 41 = .ok (.iconst 0, 1) := by decide +kernel
theorem dX4_has_42 : decode cX4_has 42 = .ok (.istore_n 3, 1) := by decide +kernel
theorem dX4_has_43 : decode cX4_has 43 = .ok (.iinc 4 1, 3) := by decide +kernel
theorem dX4_has_46 : decode cX4_has 46 = .ok (.goto (-41), 3) := by decide +kernel
theorem dX4_has_49 : decode cX4_has 49 = .ok (.iload_n 3, 1) := by decide +kernel
theorem dX4_has_50 : decode cX4_has 50 = .ok (.ireturn, 1) := by decide +kernel
theorem dX4_about_0 : decode cX4_about 0 = .ok (.iload_n 1, 1) := by decide +kernel
theorem dX4_about_1 : decode cX4_about 1 = .ok (.iconst 0, 1) := by decide +kernel
theorem dX4_about_2 : decode cX4_about 2 = .ok (.sipush 399, 3) := by decide +kernel
theorem dX4_about_5 : decode cX4_about 5 = .ok (.invokestatic 60, 3) := by decide +kernel
theorem dX4_about_8 : decode cX4_about 8 = .ok (.ifCond .eq 31, 3) := by decide +kernel
theorem dX4_about_11 : decode cX4_about 11 = .ok (.aload_n 0, 1) := by decide +kernel
theorem dX4_about_12 : decode cX4_about 12 = .ok (.getfield 48, 3) := by decide +kernel
theorem dX4_about_15 : decode cX4_about 15 = .ok (.iload_n 1, 1) := by decide +kernel
theorem dX4_about_16 : decode cX4_about 16 = .ok (.iconst 0, 1) := by decide +kernel
theorem dX4_about_17 : decode cX4_about 17 = .ok (.sipush 399, 3) := by decide +kernel
theorem dX4_about_20 : decode cX4_about 20 = .ok (.invokestatic 60, 3) := by decide +kernel
theorem dX4_about_23 : decode cX4_about 23 = .ok (.ifCond .eq 7, 3) := by decide +kernel
theorem dX4_about_26 : decode cX4_about 26 = .ok (.iload_n 1, 1) := by decide +kernel
theorem dX4_about_27 : decode cX4_about 27 = .ok (.goto 4, 3) := by decide +kernel
theorem dX4_about_30 : decode cX4_about 30 = .ok (.iconst 0, 1) := by decide +kernel
theorem dX4_about_31 : decode cX4_about 31 = .ok (.iaload, 1) := by decide +kernel
theorem dX4_about_32 : decode cX4_about 32 = .ok (.ifCond .le 7, 3) := by decide +kernel
theorem dX4_about_35 : decode cX4_about 35 = .ok (.iconst 1, 1) := by decide +kernel
theorem dX4_about_36 : decode cX4_about 36 = .ok (.goto 4, 3) := by decide +kernel
theorem dX4_about_39 : decode cX4_about 39 = .ok (.iconst 0, 1) := by decide +kernel
theorem dX4_about_40 : decode cX4_about 40 = .ok (.istore_n 3, 1) := by decide +kernel
theorem dX4_about_41 : decode cX4_about 41 = .ok (.aload_n 0, 1) := by decide +kernel
theorem dX4_about_42 : decode cX4_about 42 = .ok (.iload_n 3, 1) := by decide +kernel
theorem dX4_about_43 : decode cX4_about 43 = .ok (.ifCond .ne 7, 3) := by decide +kernel
theorem dX4_about_46 : decode cX4_about 46 = .ok (.iconst 1, 1) := by decide +kernel
theorem dX4_about_47 : decode cX4_about 47 = .ok (.goto 4, 3) := by decide +kernel
theorem dX4_about_50 : decode cX4_about 50 = .ok (.iconst 0, 1) := by decide +kernel
theorem dX4_about_51 : decode cX4_about 51 = .ok (.iload_n 3, 1) := by decide +kernel
theorem dX4_about_52 : decode cX4_about 52 = .ok (.ifCond .eq 16, 3) := by decide +kernel
theorem dX4_about_55 : decode cX4_about 55 = .ok (.iload_n 2, 1) := by decide +kernel
theorem dX4_about_56 : decode cX4_about 56 = .ok (.iconst 0, 1) := by decide +kernel
theorem dX4_about_57 : decode cX4_about 57 = .ok (.iconst 2, 1) := by decide +kernel
theorem dX4_about_58 : decode cX4_about 58 = .ok (.invokestatic 60, 3) := by decide +kernel
theorem dX4_about_61 : decode cX4_about 61 = .ok (.ifCond .ne 7, 3) := by decide +kernel
theorem dX4_about_64 : decode cX4_about 64 = .ok (.iconst 1, 1) := by decide +kernel
theorem dX4_about_65 : decode cX4_about 65 = .ok (.goto 4, 3) := by decide +kernel
theorem dX4_about_68 : decode cX4_about 68 = .ok (.iconst 0, 1) := by decide +kernel
theorem dX4_about_69 : decode cX4_about 69 = .ok (.iconst 0, 1) := by decide +kernel
theorem dX4_about_70 : decode cX4_about 70 = .ok (.invokevirtual 64, 3) := by decide +kernel
theorem dX4_about_73 : decode cX4_about 73 = .ok (.ifCond .eq 5, 3) := by decide +kernel
theorem dX4_about_76 : decode cX4_about 76 = .ok (.iconst 0, 1) := by decide +kernel
theorem dX4_about_77 : decode cX4_about 77 = .ok (.ireturn, 1) := by decide +kernel
theorem dX4_about_78 : decode cX4_about 78 = .ok (.iconst 0, 1) := by decide +kernel
theorem dX4_about_79 : decode cX4_about 79 = .ok (.istore 4, 2) := by decide +kernel
theorem dX4_about_81 : decode cX4_about 81 = .ok (.iconst 0, 1) := by decide +kernel
theorem dX4_about_82 : decode cX4_about 82 = .ok (.istore 5, 2) := by decide +kernel
theorem dX4_about_84 : decode cX4_about 84 = .ok (.iload 5, 2) := by decide +kernel
theorem dX4_about_86 : decode cX4_about 86 = .ok (.bipush 16, 2) := by decide +kernel
theorem dX4_about_88 : decode cX4_about 88 = .ok (.if_icmp .ge 30, 3) := by decide +kernel
theorem dX4_about_91 : decode cX4_about 91 = .ok (.aload_n 0, 1) := by decide +kernel
theorem dX4_about_92 : decode cX4_about 92 = .ok (.iload 5, 2) := by decide +kernel
theorem dX4_about_94 : decode cX4_about 94 = .ok (.iload_n 1, 1) := by decide +kernel
theorem dX4_about_95 : decode cX4_about 95 = .ok (.invokevirtual 110, 3) := by decide +kernel
theorem dX4_about_98 : decode cX4_about 98 = .ok (.ifCond .eq 10, 3) := by decide +kernel
theorem dX4_about_101 : decode cX4_about 101 = .ok (.iload 4, 2) := by decide +kernel
theorem dX4_about_103 : decode cX4_about 103 = .ok (.iconst 1, 1) := by decide +kernel
theorem dX4_about_104 : decode cX4_about 104 = .ok (.iadd, 1) := by decide +kernel
theorem dX4_about_105 : decode cX4_about 105 = .ok (.goto 5, 3) := by decide +kernel
theorem dX4_about_108 : decode cX4_about 108 = .ok (.iload 4, 2) := by decide +kernel
theorem dX4_about_110 : decode cX4_about 110 = .ok (.istore 4, 2) := by decide +kernel
theorem dX4_about_112 : decode cX4_about 112 = .ok (.iinc 5 1, 3) := by decide +kernel
theorem dX4_about_115 : decode cX4_about 115 = .ok (.goto (-31), 3) := by decide +kernel
theorem dX4_about_118 : decode cX4_about 118 = .ok (.iload_n 2, 1) := by decide +kernel
theorem dX4_about_119 : decode cX4_about 119 = .ok (.ifCond .ne 12, 3) := by decide +kernel
theorem dX4_about_122 : decode cX4_about 122 = .ok (.aload_n 0, 1) := by decide +kernel
theorem dX4_about_123 : decode cX4_about 123 = .ok (.getfield 51, 3) := by decide +kernel
theorem dX4_about_126 : decode cX4_about 126 = .ok (.iload_n 1, 1) := by decide +kernel
theorem dX4_about_127 : decode cX4_about 127 = .ok (.iaload, 1) := by decide +kernel
theorem dX4_about_128 : decode cX4_about 128 = .ok (.goto 19, 3) := by decide +kernel
theorem dX4_about_131 : decode cX4_about 131 = .ok (.iload_n 2, 1) := by decide +kernel
theorem dX4_about_132 : decode cX4_about 132 = .ok (.iconst 1, 1) := by decide +kernel
theorem dX4_about_133 : decode cX4_about 133 = .ok (.if_icmp .ne 12, 3) := by decide +kernel
theorem dX4_about_136 : decode cX4_about 136 = .ok (.aload_n 0, 1) := by decide +kernel
theorem dX4_about_137 : decode cX4_about 137 = .ok (.getfield 48, 3) := by decide +kernel
theorem dX4_about_140 : decode cX4_about 140 = .ok (.iload_n 1, 1) := by decide +kernel
theorem dX4_about_141 : decode cX4_about 141 = .ok (.iaload, 1) := by decide +kernel
theorem dX4_about_142 : decode cX4_about 142 = .ok (.goto 5, 3) := by decide +kernel
theorem dX4_about_145 : decode cX4_about 145 = .ok (.iload 4, 2) := by decide +kernel
theorem dX4_about_147 : decode cX4_about 147 = .ok (.ireturn, 1) := by decide +kernel
theorem dX4_common_0 : decode cX4_common 0 = .ok (.aload_n 0, 1) := by decide +kernel
theorem dX4_common_1 : decode cX4_common 1 = .ok (.iload_n 1, 1) := by decide +kernel
theorem dX4_common_2 : decode cX4_common 2 = .ok (.invokestatic 98, 3) := by decide +kernel
theorem dX4_common_5 : decode cX4_common 5 = .ok (.ifCond .eq 10, 3) := by decide +kernel
theorem dX4_common_8 : decode cX4_common 8 = .ok (.iload_n 2, 1) := by decide +kernel
theorem dX4_common_9 : decode cX4_common 9 = .ok (.invokestatic 98, 3) := by decide +kernel
theorem dX4_common_12 : decode cX4_common 12 = .ok (.ifCond .ne 7, 3) := by decide +kernel
theorem dX4_common_15 : decode cX4_common 15 = .ok (.iconst 1, 1) := by decide +kernel
theorem dX4_common_16 : decode cX4_common 16 = .ok (.goto 4, 3) := by decide +kernel
theorem dX4_common_19 : decode cX4_common 19 = .ok (.iconst 0, 1) := by decide +kernel
theorem dX4_common_20 : decode cX4_common 20 = .ok (.iconst 0, 1) := by decide +kernel
theorem dX4_common_21 : decode cX4_common 21 = .ok (.iconst 0, 1) := by decide +kernel
theorem dX4_common_22 : decode cX4_common 22 = .ok (.invokevirtual 64, 3) := by decide +kernel
theorem dX4_common_25 : decode cX4_common 25 = .ok (.ifCond .eq 5, 3) := by decide +kernel
theorem dX4_common_28 : decode cX4_common 28 = .ok (.iconst 0, 1) := by decide +kernel
theorem dX4_common_29 : decode cX4_common 29 = .ok (.ireturn, 1) := by decide +kernel
theorem dX4_common_30 : decode cX4_common 30 = .ok (.iconst 0, 1) := by decide +kernel
theorem dX4_common_31 : decode cX4_common 31 = .ok (.istore_n 3, 1) := by decide +kernel
theorem dX4_common_32 : decode cX4_common 32 = .ok (.iconst 0, 1) := by decide +kernel
theorem dX4_common_33 : decode cX4_common 33 = .ok (.istore 4, 2) := by decide +kernel
theorem dX4_common_35 : decode cX4_common 35 = .ok (.iload 4, 2) := by decide +kernel
theorem dX4_common_37 : decode cX4_common 37 = .ok (.aload_n 0, 1) := by decide +kernel
theorem dX4_common_38 : decode cX4_common 38 = .ok (.getfield 42, 3) := by decide +kernel
theorem dX4_common_41 : decode cX4_common 41 = .ok (.iload_n 1, 1) := by decide +kernel
theorem dX4_common_42 : decode cX4_common 42 = .ok (.iaload, 1) := by decide +kernel
theorem dX4_common_43 : decode cX4_common 43 = .ok (.if_icmp .ge 48, 3) := by decide +kernel
theorem dX4_common_46 : decode cX4_common 46 = .ok (.aload_n 0, 1) := by decide +kernel
theorem dX4_common_47 : decode cX4_common 47 = .ok (.getfield 45, 3) := by decide +kernel
theorem dX4_common_50 : decode cX4_common 50 = .ok (.sipush 1500, 3) := by decide +kernel
theorem dX4_common_53 : decode cX4_common 53 = .ok (.iload_n 1, 1) := by decide +kernel
theorem dX4_common_54 : decode cX4_common 54 = .ok (.imul, 1) := by decide +kernel
theorem dX4_common_55 : decode cX4_common 55 = .ok (.iload 4, 2) := by decide +kernel
theorem dX4_common_57 : decode cX4_common 57 = .ok (.iadd, 1) := by decide +kernel
theorem dX4_common_58 : decode cX4_common 58 = .ok (.iaload, 1) := by decide +kernel
theorem dX4_common_59 : decode cX4_common 59 = .ok (.istore 5, 2) := by decide +kernel
theorem dX4_common_61 : decode cX4_common 61 = .ok (.aload_n 0, 1) := by decide +kernel
theorem dX4_common_62 : decode cX4_common 62 = .ok (.iload_n 2, 1) := by decide +kernel
theorem dX4_common_63 : decode cX4_common 63 = .ok (.iload 5, 2) := by decide +kernel
theorem dX4_common_65 : decode cX4_common 65 = .ok (.invokevirtual 110, 3) := by decide +kernel
theorem dX4_common_68 : decode cX4_common 68 = .ok (.ifCond .eq 15, 3) := by decide +kernel
theorem dX4_common_71 : decode cX4_common 71 = .ok (.iload_n 3, 1) := by decide +kernel
theorem dX4_common_72 : decode cX4_common 72 = .ok (.aload_n 0, 1) := by decide +kernel
theorem dX4_common_73 : decode cX4_common 73 = .ok (.getfield 51, 3) := by decide +kernel
theorem dX4_common_76 : decode cX4_common 76 = .ok (.iload 5, 2) := by decide +kernel
theorem dX4_common_78 : decode cX4_common 78 = .ok (.iaload, 1) := by decide +kernel
theorem dX4_common_79 : decode cX4_common 79 = .ok (.iadd, 1) := by decide +kernel
theorem dX4_common_80 : decode cX4_common 80 = .ok (.goto 4, 3) := by decide +kernel
theorem dX4_common_83 : decode cX4_common 83 = .ok (.iload_n 3, 1) := by decide +kernel
theorem dX4_common_84 : decode cX4_common 84 = .ok (.istore_n 3, 1) := by decide +kernel
theorem dX4_common_85 : decode cX4_common 85 = .ok (.iinc 4 1, 3) := by decide +kernel
theorem dX4_common_88 : decode cX4_common 88 = .ok (.goto (-53), 3) := by decide +kernel
theorem dX4_common_91 : decode cX4_common 91 = .ok (.iload_n 3, 1) := by decide +kernel
theorem dX4_common_92 : decode cX4_common 92 = .ok (.ireturn, 1) := by decide +kernel
theorem dX4_all_0 : decode cX4_all 0 = .ok (.aload_n 0, 1) := by decide +kernel
theorem dX4_all_1 : decode cX4_all 1 = .ok (.iload_n 1, 1) := by decide +kernel
theorem dX4_all_2 : decode cX4_all 2 = .ok (.iconst 0, 1) := by decide +kernel
theorem dX4_all_3 : decode cX4_all 3 = .ok (.iconst 2, 1) := by decide +kernel
theorem dX4_all_4 : decode cX4_all 4 = .ok (.invokestatic 60, 3) := by decide +kernel
theorem dX4_all_7 : decode cX4_all 7 = .ok (.ifCond .ne 7, 3) := by decide +kernel
theorem dX4_all_10 : decode cX4_all 10 = .ok (.iconst 1, 1) := by decide +kernel
theorem dX4_all_11 : decode cX4_all 11 = .ok (.goto 4, 3) := by decide +kernel
theorem dX4_all_14 : decode cX4_all 14 = .ok (.iconst 0, 1) := by decide +kernel
theorem dX4_all_15 : decode cX4_all 15 = .ok (.iconst 0, 1) := by decide +kernel
theorem dX4_all_16 : decode cX4_all 16 = .ok (.iconst 0, 1) := by decide +kernel
theorem dX4_all_17 : decode cX4_all 17 = .ok (.invokevirtual 64, 3) := by decide +kernel
theorem dX4_all_20 : decode cX4_all 20 = .ok (.ifCond .eq 5, 3) := by decide +kernel
theorem dX4_all_23 : decode cX4_all 23 = .ok (.iconst 0, 1) := by decide +kernel
theorem dX4_all_24 : decode cX4_all 24 = .ok (.ireturn, 1) := by decide +kernel
theorem dX4_all_25 : decode cX4_all 25 = .ok (.iconst 0, 1) := by decide +kernel
theorem dX4_all_26 : decode cX4_all 26 = .ok (.istore_n 2, 1) := by decide +kernel
theorem dX4_all_27 : decode cX4_all 27 = .ok (.iconst 0, 1) := by decide +kernel
theorem dX4_all_28 : decode cX4_all 28 = .ok (.istore_n 3, 1) := by decide +kernel
theorem dX4_all_29 : decode cX4_all 29 = .ok (.iconst 0, 1) := by decide +kernel
theorem dX4_all_30 : decode cX4_all 30 = .ok (.istore 4, 2) := by decide +kernel
theorem dX4_all_32 : decode cX4_all 32 = .ok (.iload 4, 2) := by decide +kernel
theorem dX4_all_34 : decode cX4_all 34 = .ok (.sipush 400, 3) := by decide +kernel
theorem dX4_all_37 : decode cX4_all 37 = .ok (.if_icmp .ge 51, 3) := by decide +kernel
theorem dX4_all_40 : decode cX4_all 40 = .ok (.aload_n 0, 1) := by decide +kernel
theorem dX4_all_41 : decode cX4_all 41 = .ok (.getfield 48, 3) := by decide +kernel
theorem dX4_all_44 : decode cX4_all 44 = .ok (.iload 4, 2) := by decide +kernel
theorem dX4_all_46 : decode cX4_all 46 = .ok (.iaload, 1) := by decide +kernel
theorem dX4_all_47 : decode cX4_all 47 = .ok (.ifCond .le 9, 3) := by decide +kernel
theorem dX4_all_50 : decode cX4_all 50 = .ok (.iload_n 2, 1) := by decide +kernel
theorem dX4_all_51 : decode cX4_all 51 = .ok (.iconst 1, 1) := by decide +kernel
theorem dX4_all_52 : decode cX4_all 52 = .ok (.iadd, 1) := by decide +kernel
theorem dX4_all_53 : decode cX4_all 53 = .ok (.goto 4, 3) := by decide +kernel
theorem dX4_all_56 : decode cX4_all 56 = .ok (.iload_n 2, 1) := by decide +kernel
theorem dX4_all_57 : decode cX4_all 57 = .ok (.istore_n 2, 1) := by decide +kernel
theorem dX4_all_58 : decode cX4_all 58 = .ok (.aload_n 0, 1) := by decide +kernel
theorem dX4_all_59 : decode cX4_all 59 = .ok (.getfield 48, 3) := by decide +kernel
theorem dX4_all_62 : decode cX4_all 62 = .ok (.iload 4, 2) := by decide +kernel
theorem dX4_all_64 : decode cX4_all 64 = .ok (.iaload, 1) := by decide +kernel
theorem dX4_all_65 : decode cX4_all 65 = .ok (.ifCond .le 15, 3) := by decide +kernel
theorem dX4_all_68 : decode cX4_all 68 = .ok (.iload_n 3, 1) := by decide +kernel
theorem dX4_all_69 : decode cX4_all 69 = .ok (.aload_n 0, 1) := by decide +kernel
theorem dX4_all_70 : decode cX4_all 70 = .ok (.getfield 51, 3) := by decide +kernel
theorem dX4_all_73 : decode cX4_all 73 = .ok (.iload 4, 2) := by decide +kernel
theorem dX4_all_75 : decode cX4_all 75 = .ok (.iaload, 1) := by decide +kernel
theorem dX4_all_76 : decode cX4_all 76 = .ok (.iadd, 1) := by decide +kernel
theorem dX4_all_77 : decode cX4_all 77 = .ok (.goto 4, 3) := by decide +kernel
theorem dX4_all_80 : decode cX4_all 80 = .ok (.iload_n 3, 1) := by decide +kernel
theorem dX4_all_81 : decode cX4_all 81 = .ok (.istore_n 3, 1) := by decide +kernel
theorem dX4_all_82 : decode cX4_all 82 = .ok (.iinc 4 1, 3) := by decide +kernel
theorem dX4_all_85 : decode cX4_all 85 = .ok (.goto (-53), 3) := by decide +kernel
theorem dX4_all_88 : decode cX4_all 88 = .ok (.iload_n 1, 1) := by decide +kernel
theorem dX4_all_89 : decode cX4_all 89 = .ok (.ifCond .ne 7, 3) := by decide +kernel
theorem dX4_all_92 : decode cX4_all 92 = .ok (.iload_n 2, 1) := by decide +kernel
theorem dX4_all_93 : decode cX4_all 93 = .ok (.goto 16, 3) := by decide +kernel
theorem dX4_all_96 : decode cX4_all 96 = .ok (.iload_n 1, 1) := by decide +kernel
theorem dX4_all_97 : decode cX4_all 97 = .ok (.iconst 1, 1) := by decide +kernel
theorem dX4_all_98 : decode cX4_all 98 = .ok (.if_icmp .ne 7, 3) := by decide +kernel
theorem dX4_all_101 : decode cX4_all 101 = .ok (.iload_n 3, 1) := by decide +kernel
theorem dX4_all_102 : decode cX4_all 102 = .ok (.goto 7, 3) := by decide +kernel
theorem dX4_all_105 : decode cX4_all 105 = .ok (.aload_n 0, 1) := by decide +kernel
theorem dX4_all_106 : decode cX4_all 106 = .ok (.getfield 68, 3) := by decide +kernel
theorem dX4_all_109 : decode cX4_all 109 = .ok (.ireturn, 1) := by decide +kernel
theorem dJ9_max_7cf53_0 : decode cJ9_max_7cf53 0 = .ok (.iload_n 0, 1) := by decide +kernel
theorem dJ9_max_7cf53_1 : decode cJ9_max_7cf53 1 = .ok (.iload_n 1, 1) := by decide +kernel
theorem dJ9_max_7cf53_2 : decode cJ9_max_7cf53 2 = .ok (.if_icmp .lt 7, 3) := by decide +kernel
theorem dJ9_max_7cf53_5 : decode cJ9_max_7cf53 5 = .ok (.iload_n 0, 1) := by decide +kernel
theorem dJ9_max_7cf53_6 : decode cJ9_max_7cf53 6 = .ok (.goto 4, 3) := by decide +kernel
theorem dJ9_max_7cf53_9 : decode cJ9_max_7cf53 9 = .ok (.iload_n 1, 1) := by decide +kernel
theorem dJ9_max_7cf53_10 : decode cJ9_max_7cf53 10 = .ok (.ireturn, 1) := by decide +kernel
theorem dJ9_min_7cf53_0 : decode cJ9_min_7cf53 0 = .ok (.iload_n 0, 1) := by decide +kernel
theorem dJ9_min_7cf53_1 : decode cJ9_min_7cf53 1 = .ok (.iload_n 1, 1) := by decide +kernel
theorem dJ9_min_7cf53_2 : decode cJ9_min_7cf53 2 = .ok (.if_icmp .gt 7, 3) := by decide +kernel
theorem dJ9_min_7cf53_5 : decode cJ9_min_7cf53 5 = .ok (.iload_n 0, 1) := by decide +kernel
theorem dJ9_min_7cf53_6 : decode cJ9_min_7cf53 6 = .ok (.goto 4, 3) := by decide +kernel
theorem dJ9_min_7cf53_9 : decode cJ9_min_7cf53 9 = .ok (.iload_n 1, 1) := by decide +kernel
theorem dJ9_min_7cf53_10 : decode cJ9_min_7cf53 10 = .ok (.ireturn, 1) := by decide +kernel
theorem dJ7_fill_53178_0 : decode cJ7_fill_53178 0 = .ok (.iconst 0, 1) := by decide +kernel
theorem dJ7_fill_53178_1 : decode cJ7_fill_53178 1 = .ok (.istore_n 2, 1) := by decide +kernel
theorem dJ7_fill_53178_2 : decode cJ7_fill_53178 2 = .ok (.aload_n 0, 1) := by decide +kernel
theorem dJ7_fill_53178_3 : decode cJ7_fill_53178 3 = .ok (.arraylength, 1) := by decide +kernel
theorem dJ7_fill_53178_4 : decode cJ7_fill_53178 4 = .ok (.istore_n 3, 1) := by decide +kernel
theorem dJ7_fill_53178_5 : decode cJ7_fill_53178 5 = .ok (.iload_n 2, 1) := by decide +kernel
theorem dJ7_fill_53178_6 : decode cJ7_fill_53178 6 = .ok (.iload_n 3, 1) := by decide +kernel
theorem dJ7_fill_53178_7 : decode cJ7_fill_53178 7 = .ok (.if_icmp .ge 13, 3) := by decide +kernel
theorem dJ7_fill_53178_10 : decode cJ7_fill_53178 10 = .ok (.aload_n 0, 1) := by decide +kernel
theorem dJ7_fill_53178_11 : decode cJ7_fill_53178 11 = .ok (.iload_n 2, 1) := by decide +kernel
theorem dJ7_fill_53178_12 : decode cJ7_fill_53178 12 = .ok (.iload_n 1, 1) := by decide +kernel
theorem dJ7_fill_53178_13 : decode cJ7_fill_53178 13 = .ok (.iastore, 1) := by decide +kernel
theorem dJ7_fill_53178_14 : decode cJ7_fill_53178 14 = .ok (.iinc 2 1, 3) := by decide +kernel
theorem dJ7_fill_53178_17 : decode cJ7_fill_53178 17 = .ok (.goto (-12), 3) := by decide +kernel
theorem dJ7_fill_53178_20 : decode cJ7_fill_53178 20 = .ok (.return_, 1) := by decide +kernel
theorem dJ7_copyOf_9075b_0 : decode cJ7_copyOf_9075b 0 = .ok (.iload_n 1, 1) := by decide +kernel
theorem dJ7_copyOf_9075b_1 : decode cJ7_copyOf_9075b 1 = .ok (.aload_n 0, 1) := by decide +kernel
theorem dJ7_copyOf_9075b_2 : decode cJ7_copyOf_9075b 2 = .ok (.arraylength, 1) := by decide +kernel
theorem dJ7_copyOf_9075b_3 : decode cJ7_copyOf_9075b 3 = .ok (.if_icmp .ne 11, 3) := by decide +kernel
theorem dJ7_copyOf_9075b_6 : decode cJ7_copyOf_9075b 6 = .ok (.aload_n 0, 1) := by decide +kernel
theorem dJ7_copyOf_9075b_7 : decode cJ7_copyOf_9075b 7 = .ok (.invokevirtual 310, 3) := by decide +kernel
theorem dJ7_copyOf_9075b_10 : decode cJ7_copyOf_9075b 10 = .ok (.checkcast 311, 3) := by decide +kernel
theorem dJ7_copyOf_9075b_13 : decode cJ7_copyOf_9075b 13 = .ok (.areturn, 1) := by decide +kernel
theorem dJ7_copyOf_9075b_14 : decode cJ7_copyOf_9075b 14 = .ok (.iload_n 1, 1) := by decide +kernel
theorem dJ7_copyOf_9075b_15 : decode cJ7_copyOf_9075b 15 = .ok (.newarray .byte, 2) := by decide +kernel
theorem dJ7_copyOf_9075b_17 : decode cJ7_copyOf_9075b 17 = .ok (.astore_n 2, 1) := by decide +kernel
theorem dJ7_copyOf_9075b_18 : decode cJ7_copyOf_9075b 18 = .ok (.aload_n 0, 1) := by decide +kernel
theorem dJ7_copyOf_9075b_19 : decode cJ7_copyOf_9075b 19 = .ok (.iconst 0, 1) := by decide +kernel
theorem dJ7_copyOf_9075b_20 : decode cJ7_copyOf_9075b 20 = .ok (.aload_n 2, 1) := by decide +kernel
theorem dJ7_copyOf_9075b_21 : decode cJ7_copyOf_9075b 21 = .ok (.iconst 0, 1) := by decide +kernel
theorem dJ7_copyOf_9075b_22 : decode cJ7_copyOf_9075b 22 = .ok (.aload_n 0, 1) := by decide +kernel
theorem dJ7_copyOf_9075b_23 : decode cJ7_copyOf_9075b 23 = .ok (.arraylength, 1) := by decide +kernel
theorem dJ7_copyOf_9075b_24 : decode cJ7_copyOf_9075b 24 = .ok (.iload_n 1, 1) := by decide +kernel
theorem dJ7_copyOf_9075b_25 : decode cJ7_copyOf_9075b 25 = .ok (.invokestatic 304, 3) := by decide +kernel
theorem dJ7_copyOf_9075b_28 : decode cJ7_copyOf_9075b 28 = .ok (.invokestatic 150, 3) := by decide +kernel
theorem dJ7_copyOf_9075b_31 : decode cJ7_copyOf_9075b 31 = .ok (.aload_n 2, 1) := by decide +kernel
theorem dJ7_copyOf_9075b_32 : decode cJ7_copyOf_9075b 32 = .ok (.areturn, 1) := by decide +kernel
